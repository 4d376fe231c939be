/-! BITS OF DOUBLES -/
section BTS
variable {x y : UInt64} {c d : Nat} {q r : Int} {op : CmpOp}
theorem zv_ud (c : Nat) (q : Int) : FP.Core.zval FP.Core.b64 (.fin false c q) = ((ud c q : Nat) : Int) := by
  show FP.Core.signed false (FP.Core.inUnits c q FP.Core.b64.qmin) = _
  rw [ud_in]
  rfl
theorem fin_nan (hx : FP.Core.val64 x = .fin false c q) : FP.Core.val64 x ≠ .nan := by
  rw [hx]
  exact fun z => by cases z
theorem dx_lt (hx : FP.Core.val64 x = .fin false c q) (hy : FP.Core.val64 y = .fin false d r) (h : ud c q < ud d r) : dx x y op = -1 := by
  have : FP.dcmp x y = some .lt := FP.Core.dcmp_lt.mpr ⟨fin_nan hx, fin_nan hy, by rw [hx, hy, zv_ud, zv_ud]; omega⟩
  unfold dx
  rw [this]
  rfl
theorem dx_gt (hx : FP.Core.val64 x = .fin false c q) (hy : FP.Core.val64 y = .fin false d r) (h : ud d r < ud c q) : dx x y op = 1 := by
  have : FP.dcmp x y = some .gt := FP.Core.dcmp_gt.mpr ⟨fin_nan hx, fin_nan hy, by rw [hx, hy, zv_ud, zv_ud]; omega⟩
  unfold dx
  rw [this]
  rfl
theorem dx_eq (hx : FP.Core.val64 x = .fin false c q) (hy : FP.Core.val64 y = .fin false d r) (h : ud c q = ud d r) : dx x y op = 0 := by
  have : FP.dcmp x y = some .eq := FP.Core.dcmp_eq.mpr ⟨fin_nan hx, fin_nan hy, by rw [hx, hy, zv_ud, zv_ud]; omega⟩
  unfold dx
  rw [this]
  rfl
theorem dx_self (hx : FP.Core.val64 x ≠ .nan) : dx x x op = 0 := by
  unfold dx
  rw [show FP.dcmp x x = some .eq from FP.Core.dcmp_self hx]
  rfl
theorem v_two : FP.Core.val64 (4611686018427387904 : UInt64) = .fin false (2 ^ 52) (-51) := by decide +kernel
theorem v_one : FP.Core.val64 FP.dconst1 = .fin false (2 ^ 52) (-52) := FP.Core.val64_dconst1
theorem v_zero : FP.Core.val64 FP.dconst0 = .fin false 0 FP.Core.b64.qmin := FP.Core.val64_zero
theorem ud_two : ud (2 ^ 52) (-51) = 2 ^ 1075 := by
  unfold ud
  rw [← Nat.pow_add]
  congr 1
theorem ud_one : ud (2 ^ 52) (-52) = 2 ^ 1074 := by
  unfold ud
  rw [← Nat.pow_add]
  congr 1
theorem ud_zero (q : Int) : ud 0 q = 0 := by
  unfold ud
  rw [Nat.zero_mul]
theorem hv (h : FP.Core.val64 x = .fin false c q) (h1 : 2 ^ 52 ≤ c) (h2 : -1073 ≤ q) : FP.Core.val64 (FP.ddiv x 4611686018427387904) = .fin false c (q - 1) := by
  have f := fit_q h
  rw [FP.Core.val64_ddiv, h, v_two]
  unfold FP.Core.quotient
  simp only [show ¬ (2 ^ 52 = 0) by omega, if_false]
  rw [show (false != false) = false from rfl]
  refine FP.Core.roundRatio_exact FP.Core.good_b64 (by omega) (show (c < 2 ^ 53 ∧ (-1074 : Int) ≤ q - 1 ∧ q - 1 ≤ 971 ∧ (q - 1 = -1074 ∨ 2 ^ 52 ≤ c)) from ⟨f.1, by omega, by omega, Or.inr h1⟩) ?_
  rw [show (q - -51 - (q - 1)).toNat = 52 by omega, show (q - 1 - (q - -51)).toNat = 0 by omega, Nat.pow_zero, Nat.mul_one]
theorem db (h : FP.Core.val64 x = .fin false c q) (h1 : 2 ^ 52 ≤ c) (h2 : q ≤ 970) : FP.Core.val64 (FP.dmul x 4611686018427387904) = .fin false c (q + 1) := by
  have f := fit_q h
  rw [FP.Core.val64_dmul, h, v_two]
  show FP.Core.roundRatio FP.Core.b64 false (c * 2 ^ 52) 1 (q + -51) = _
  refine FP.Core.roundRatio_exact FP.Core.good_b64 (by omega) (show (c < 2 ^ 53 ∧ (-1074 : Int) ≤ q + 1 ∧ q + 1 ≤ 971 ∧ (q + 1 = -1074 ∨ 2 ^ 52 ≤ c)) from ⟨f.1, by omega, by omega, Or.inr h1⟩) ?_
  rw [show (q + -51 - (q + 1)).toNat = 0 by omega, show (q + 1 - (q + -51)).toNat = 52 by omega, Nat.pow_zero, Nat.mul_one, Nat.mul_one]
theorem lt_two (hx : FP.Core.val64 x = .fin false c q) (h2 : q ≤ -52) : dx x 4611686018427387904 op = -1 := by
  have f := fit_q hx
  refine dx_lt hx v_two ?_
  rw [ud_two]
  unfold ud
  calc c * 2 ^ (q + 1074).toNat ≤ c * 2 ^ 1022 := Nat.mul_le_mul_left _ (two_le (by omega))
    _ < 2 ^ 53 * 2 ^ 1022 := Nat.mul_lt_mul_of_pos_right f.1 (Nat.two_pow_pos _)
    _ = 2 ^ 1075 := by rw [← Nat.pow_add]
theorem ge_two (hx : FP.Core.val64 x = .fin false c q) (h1 : 2 ^ 52 ≤ c) (h2 : -51 ≤ q) : ¬ dx x 4611686018427387904 op < 0 := by
  have g : 2 ^ 1075 ≤ ud c q := by
    unfold ud
    calc 2 ^ 1075 = 2 ^ 52 * 2 ^ 1023 := by rw [← Nat.pow_add]
      _ ≤ 2 ^ 52 * 2 ^ (q + 1074).toNat := Nat.mul_le_mul_left _ (two_le (by omega))
      _ ≤ c * 2 ^ (q + 1074).toNat := Nat.mul_le_mul_right _ h1
  by_cases e : ud c q = 2 ^ 1075
  · rw [dx_eq hx v_two (by rw [ud_two]; exact e)]
    decide
  · rw [dx_gt hx v_two (by rw [ud_two]; omega)]
    decide
theorem lt_one (hx : FP.Core.val64 x = .fin false c q) (h2 : q ≤ -53) : dx x FP.dconst1 op = -1 := by
  have f := fit_q hx
  refine dx_lt hx v_one ?_
  rw [ud_one]
  unfold ud
  calc c * 2 ^ (q + 1074).toNat ≤ c * 2 ^ 1021 := Nat.mul_le_mul_left _ (two_le (by omega))
    _ < 2 ^ 53 * 2 ^ 1021 := Nat.mul_lt_mul_of_pos_right f.1 (Nat.two_pow_pos _)
    _ = 2 ^ 1074 := by rw [← Nat.pow_add]
theorem ge_one (hx : FP.Core.val64 x = .fin false c q) (h1 : 2 ^ 52 ≤ c) (h2 : -52 ≤ q) : 0 ≤ dx x FP.dconst1 op := by
  have g : 2 ^ 1074 ≤ ud c q := by
    unfold ud
    calc 2 ^ 1074 = 2 ^ 52 * 2 ^ 1022 := by rw [← Nat.pow_add]
      _ ≤ 2 ^ 52 * 2 ^ (q + 1074).toNat := Nat.mul_le_mul_left _ (two_le (by omega))
      _ ≤ c * 2 ^ (q + 1074).toNat := Nat.mul_le_mul_right _ h1
  by_cases e : ud c q = 2 ^ 1074
  · rw [dx_eq hx v_one (by rw [ud_one]; exact e)]
    decide
  · rw [dx_gt hx v_one (by rw [ud_one]; omega)]
    decide
theorem gt_zero (hx : FP.Core.val64 x = .fin false c q) (h1 : 0 < c) : dx x FP.dconst0 op = 1 := by
  refine dx_gt hx v_zero ?_
  rw [ud_zero]
  exact Nat.mul_pos h1 (Nat.two_pow_pos _)
theorem d2l_m {m : Nat} (h : m ≤ 2 ^ 52) : FP.d2l (FP.l2d (lN m)) = lN m := by
  refine FP.Core.d2l_l2d ?_
  rw [pk_lT (by omega), Int.natAbs_natCast]
  omega
theorem of_81 {m : Nat} (hx : FP.Core.val64 x = .fin false (2 ^ 52 + m) (-52)) {E : Nat} (hE : E < 2048) (S : St) : J_X0_ofDouble_81 x (nI E) S = some (lN (E * 2 ^ 52 + m), S) := by
  have f := fit_q hx
  have hm : m < 2 ^ 52 := by omega
  have es : FP.Core.exactSum (.fin false (2 ^ 52 + m) (-52)) (FP.Core.negate (.fin false (2 ^ 52) (-52))) = .fin false m (-52) := by
    show FP.Core.Datum.fin (FP.Core.sumSign false true (FP.Core.sumUnits false (2 ^ 52 + m) (-52) true (2 ^ 52) (-52) (-52))) (FP.Core.sumUnits false (2 ^ 52 + m) (-52) true (2 ^ 52) (-52) (-52)).natAbs (-52) = _
    have ev : FP.Core.sumUnits false (2 ^ 52 + m) (-52) true (2 ^ 52) (-52) (-52) = (m : Int) := by
      show (((2 ^ 52 + m) * 2 ^ 0 : Nat) : Int) + -((2 ^ 52 * 2 ^ 0 : Nat) : Int) = _
      omega
    have hs : FP.Core.sumSign false true (m : Int) = false := by
      unfold FP.Core.sumSign
      split
      · rfl
      · exact decide_eq_false (by omega)
    rw [ev, Int.natAbs_natCast, hs]
  have s1 : FP.Core.val64 (FP.dsub x FP.dconst1) = FP.Core.round FP.Core.b64 (.fin false m (-52)) := by
    rw [FP.Core.val64_dsub, hx, v_one, es]
  obtain ⟨c', q', g1, g2⟩ := FP.Core.round_exact FP.Core.good_b64 false (c := m) (q := -52) (show m < 2 ^ 53 by omega) (show (-1074 : Int) ≤ -52 by omega) (show (-52 : Int) ≤ 971 by omega)
  rw [g1] at s1
  have f1 := fit_q s1
  have v52 : FP.Core.val64 (4841369599423283200 : UInt64) = .fin false (2 ^ 52) 0 := by decide +kernel
  have s2 : FP.Core.val64 (FP.dmul (FP.dsub x FP.dconst1) 4841369599423283200) = FP.Core.val64 (FP.l2d (lN m)) := by
    rw [FP.Core.val64_dmul, s1, v52, FP.Core.val64_l2d, pk_lT (by omega)]
    unfold FP.Core.ofInt
    rw [show decide ((m : Int) < 0) = false from decide_eq_false (by omega), Int.natAbs_natCast]
    show FP.Core.roundRatio FP.Core.b64 false (c' * 2 ^ 52) 1 (q' + 0) = FP.Core.roundRatio FP.Core.b64 false m 1 0
    refine FP.Core.roundRatio_congr (by omega) (by omega) ?_
    rw [ud_in, ud_in] at g2
    unfold ud at g2
    refine Nat.eq_of_mul_eq_mul_right (Nat.two_pow_pos (q' + 1074).toNat) ?_
    have k1 : (-52 + 1074 : Int).toNat + 52 + (q' + 0 - 0).toNat = (0 - (q' + 0)).toNat + (q' + 1074).toNat := by omega
    calc c' * 2 ^ 52 * 1 * 2 ^ (q' + 0 - 0).toNat * 2 ^ (q' + 1074).toNat = c' * 2 ^ (q' + 1074).toNat * 2 ^ 52 * 2 ^ (q' + 0 - 0).toNat := by rw [Nat.mul_one]; ac_rfl
      _ = m * 2 ^ (-52 + 1074 : Int).toNat * 2 ^ 52 * 2 ^ (q' + 0 - 0).toNat := by rw [g2]
      _ = m * 2 ^ ((-52 + 1074 : Int).toNat + 52 + (q' + 0 - 0).toNat) := by rw [Nat.pow_add, Nat.pow_add, Nat.mul_assoc, Nat.mul_assoc, Nat.mul_assoc]
      _ = m * 2 ^ ((0 - (q' + 0)).toNat + (q' + 1074).toNat) := by rw [k1]
      _ = m * 1 * 2 ^ (0 - (q' + 0)).toNat * 2 ^ (q' + 1074).toNat := by rw [Nat.mul_one, Nat.pow_add, Nat.mul_assoc]
  have s3 : FP.dmul (FP.dsub x FP.dconst1) 4841369599423283200 = FP.l2d (lN m) := by
    refine (FP.Core.val64_inj ?_ s2.symm).symm
    exact (FP.Core.l2d_fin _).ne_nan
  unfold J_X0_ofDouble_81
  rw [dq_ok (by rw [s1]; exact fun z => by cases z), dq_ok (by rw [s3]; exact (FP.Core.l2d_fin _).ne_nan), s3, d2l_m (by omega), wide_nI (by omega), fa_lit 52, wb_shl E (by omega), lN_add]
theorem of_52 {S : St} {m : Nat} : ∀ (k n i : Nat) (x : UInt64), k < n → i + k ≤ 1023 → FP.Core.val64 x = .fin false (2 ^ 52 + m) (-52 - (k : Int)) → L_X0_ofDouble_52 n x (nI (1023 - i)) (nI i) S = some (lN ((1023 - (i + k)) * 2 ^ 52 + m), S)
  | _, 0, _, _, h, _, _ => absurd h (Nat.not_lt_zero _)
  | 0, n + 1, i, x, _, hi, hx => by
    show B_X0_ofDouble_52 _ _ _ _ _ = _
    unfold B_X0_ofDouble_52
    rw [fa_lit 1100, if_neg (by rw [nI_leI (by omega) (by omega)]; omega), if_pos (ge_one hx (by omega) (by omega)), of_81 hx (by omega), Nat.add_zero]
  | k + 1, n + 1, i, x, hn, hi, hx => by
    have hB : L_X0_ofDouble_52 (n + 1) x (nI (1023 - i)) (nI i) S = B_X0_ofDouble_52 (L_X0_ofDouble_52 n) x (nI (1023 - i)) (nI i) S := rfl
    have hd := db hx (by omega) (by omega)
    have ih := of_52 (S := S) (m := m) k n (i + 1) (FP.dmul x 4611686018427387904) (by omega) (by omega) (by rw [hd, show -52 - ((k + 1 : Nat) : Int) + 1 = -52 - (k : Int) by omega])
    rw [hB]
    unfold B_X0_ofDouble_52
    rw [fa_lit 1100, if_neg (by rw [nI_leI (by omega) (by omega)]; omega), if_neg (by rw [lt_one hx (by omega)]; decide), dq_ok (fin_nan hd), nI_sub1 (by omega), nI_1, show 1023 - i - 1 = 1023 - (i + 1) by omega, ih, show i + 1 + k = i + (k + 1) by omega]
theorem of_18 {S : St} {m : Nat} : ∀ (k n i : Nat) (x : UInt64), k < n → i + k ≤ 1023 → FP.Core.val64 x = .fin false (2 ^ 52 + m) (-52 + (k : Int)) → L_X0_ofDouble_18 n x (nI (1023 + i)) (nI i) S = some (lN ((1023 + (i + k)) * 2 ^ 52 + m), S)
  | _, 0, _, _, h, _, _ => absurd h (Nat.not_lt_zero _)
  | 0, n + 1, i, x, _, hi, hx => by
    show B_X0_ofDouble_18 _ _ _ _ _ = _
    unfold B_X0_ofDouble_18 J_X0_ofDouble_49
    rw [fa_lit 1100, if_neg (by rw [nI_leI (by omega) (by omega)]; omega), if_pos (by rw [lt_two hx (by omega)]; decide)]
    show B_X0_ofDouble_52 _ _ _ _ _ = _
    unfold B_X0_ofDouble_52
    rw [if_neg (by decide), if_pos (ge_one hx (by omega) (by omega)), of_81 hx (by omega), Nat.add_zero]
  | k + 1, n + 1, i, x, hn, hi, hx => by
    have hB : L_X0_ofDouble_18 (n + 1) x (nI (1023 + i)) (nI i) S = B_X0_ofDouble_18 (L_X0_ofDouble_18 n) x (nI (1023 + i)) (nI i) S := rfl
    have hd := hv hx (by omega) (by omega)
    have ih := of_18 (S := S) (m := m) k n (i + 1) (FP.ddiv x 4611686018427387904) (by omega) (by omega) (by rw [hd, show -52 + ((k + 1 : Nat) : Int) - 1 = -52 + (k : Int) by omega])
    rw [hB]
    unfold B_X0_ofDouble_18
    rw [fa_lit 1100, if_neg (by rw [nI_leI (by omega) (by omega)]; omega), if_neg (ge_two hx (by omega) (by omega)), dq_ok (fin_nan hd), nI_1, nI_1, show 1023 + i + 1 = 1023 + (i + 1) by omega, ih, show i + 1 + k = i + (k + 1) by omega]
theorem ofDouble_e {m : Nat} (hx : FP.Core.val64 x = .fin false (2 ^ 52 + m) q) (S : St) : F_X0_ofDouble x S = some (lN ((q + 1075).toNat * 2 ^ 52 + m), S) := by
  have f := fit_q hx
  unfold F_X0_ofDouble
  rw [gt_zero hx (by omega), if_pos (by decide), fa_lit 1023]
  by_cases z : -52 ≤ q
  · obtain ⟨k, hk⟩ : ∃ k : Nat, q = -52 + (k : Int) := ⟨(q + 52).toNat, by omega⟩
    have := of_18 (S := S) k 6000 0 x (by omega) (by omega) (by rw [hx, hk])
    rw [show (0 : Int32) = nI 0 from rfl, this, show (q + 1075).toNat = 1023 + (0 + k) by omega]
  · obtain ⟨k, hk⟩ : ∃ k : Nat, q = -52 - (k : Int) := ⟨(-52 - q).toNat, by omega⟩
    have := of_52 (S := S) k 6000 0 x (by omega) (by omega) (by rw [hx, hk])
    show B_X0_ofDouble_18 _ _ _ _ _ = _
    unfold B_X0_ofDouble_18 J_X0_ofDouble_49
    rw [if_neg (by decide), if_pos (by rw [lt_two hx (by omega)]; decide), show (0 : Int32) = nI 0 from rfl]
    rw [show 1023 - 0 = 1023 from rfl] at this
    rw [this, show (q + 1075).toNat = 1023 - (0 + k) by omega]
theorem bits_e {m : Nat} (hx : FP.Core.val64 x = .fin false (2 ^ 52 + m) q) : x.toNat = (q + 1075).toNat * 2 ^ 52 + m := by
  have f := fit_q hx
  have e : FP.Core.of64 (FP.Core.val64 x) = x := FP.Core.of64_val64 (fin_nan hx)
  have e2 := FP.Core.toNat_of64 (FP.Core.val64_fits x)
  rw [e, hx] at e2
  have e3 : FP.Core.encode FP.Core.b64 (.fin false (2 ^ 52 + m) q) = FP.Core.assemble FP.Core.b64 false ((q - FP.Core.b64.qmin).toNat + 1) (2 ^ 52 + m - FP.Core.b64.tails) := by
    show (if _ then _ else _) = _
    rw [if_neg (by rw [FP.Core.tails_b64]; omega)]
  have e4 : ∀ k, FP.Core.assemble FP.Core.b64 false k (2 ^ 52 + m - FP.Core.b64.tails) = k * 2 ^ 52 + m := by
    intro k
    unfold FP.Core.assemble
    rw [FP.Core.tails_b64, show Bool.toNat false = 0 from rfl, Nat.zero_mul, Nat.zero_add, Nat.add_sub_cancel_left]
  rw [e2, e3, e4, FP.Core.qmin_b64, show (q - -1074).toNat + 1 = (q + 1075).toNat by omega]
theorem toInt64_n (x : UInt64) : UInt64.toInt64 x = lN x.toNat := by
  apply Int64.toBitVec_inj.mp
  rw [wb_tb]
  show x.toBitVec = BitVec.ofNat 64 x.toBitVec.toNat
  rw [BitVec.ofNat_toNat, BitVec.setWidth_eq]
theorem Pw.norm {l h : Nat} (H : Pw x l h) (hl : 52 ≤ l) : ∃ (m : Nat) (q : Int), FP.Core.val64 x = .fin false (2 ^ 52 + m) q ∧ 2 ^ l ≤ ud (2 ^ 52 + m) q ∧ ud (2 ^ 52 + m) q ≤ 2 ^ h := by
  obtain ⟨c, q, e, a, b⟩ := H
  have f := fit_q e
  have hc : 2 ^ 52 ≤ c := by
    rcases f.2.2.2 with z | z
    · subst z
      have e2 : ud c (-1074) = c * 2 ^ 0 := rfl
      rw [e2, Nat.pow_zero, Nat.mul_one] at a
      exact Nat.le_trans (two_le hl) a
    · exact z
  obtain ⟨m, rfl⟩ : ∃ m, c = 2 ^ 52 + m := ⟨c - 2 ^ 52, by omega⟩
  exact ⟨m, q, e, a, b⟩
theorem ofDouble_Z {l h : Nat} (H : Zw x l h) (hl : 52 ≤ l) (S : St) : F_X0_ofDouble x S = some (UInt64.toInt64 x, S) := by
  rcases H with rfl | H
  · unfold F_X0_ofDouble
    rw [if_neg]
    · rfl
    · rw [show dx 0 FP.dconst0 .l = 0 by decide +kernel]
      decide
  · obtain ⟨m, q, e, _⟩ := H.norm hl
    rw [ofDouble_e e, toInt64_n, bits_e e]
theorem longBits_e (h : FP.Core.val64 x ≠ .nan) (S : St) : F_Jxe99ae_doubleToLongBits_ccdee x S = some (UInt64.toInt64 x, S) := by
  unfold F_Jxe99ae_doubleToLongBits_ccdee F_Jxe99ae_isNaN_b9ae7 J_Jxe99ae_isNaN_b9ae7_11
  rw [dx_self h, if_pos rfl, zr0, cl_some, if_neg (fun z => z rfl)]
end BTS
