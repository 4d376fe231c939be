/-! A RATE'S BITS; FLOATS -/
section BT2
variable {x : UInt64} {c : Nat} {q : Int}
theorem nneg_lt {k : Nat} (h0 : 0 < k) (h : k < 2 ^ 31) : ¬ (0 : Int32) ≤ -nI k := fun z => absurd (nI_neg_lt h0 h) (Int32.not_lt.mpr z)
theorem neg_suc (k : Nat) : -nI (k + 1) + 1 = -nI k := by
  rw [← nI_1, Int32.neg_add, Int32.sub_eq_add_neg, Int32.add_assoc, Int32.add_left_neg, Int32.add_zero]
/-- halvings that are exact -/
theorem td_loop {S : St} {m : Nat} (hm0 : 0 < m) (hm : m < 2 ^ 53) : ∀ (k n i : Nat) (x : UInt64), k < n → i + k ≤ 1074 → FP.Core.val64 x = FP.Core.roundRatio FP.Core.b64 false m 1 (-(i : Int)) → ∃ x', L_X0_toDouble_47 n x (-nI k) (nI i) S = some (x', S) ∧ FP.Core.val64 x' = FP.Core.roundRatio FP.Core.b64 false m 1 (-((i + k : Nat) : Int))
  | _, 0, _, _, h, _, _ => absurd h (Nat.not_lt_zero _)
  | 0, n + 1, i, x, _, hi, hx => by
    refine ⟨x, ?_, by rw [hx, Nat.add_zero]⟩
    show B_X0_toDouble_47 _ _ _ _ _ = _
    unfold B_X0_toDouble_47
    rw [fa_lit 1100, if_neg (by rw [nI_leI (by omega) (by omega)]; omega), if_pos (show (0 : Int32) ≤ -nI 0 by decide)]
    rfl
  | k + 1, n + 1, i, x, hn, hi, hx => by
    have hB : L_X0_toDouble_47 (n + 1) x (-nI (k + 1)) (nI i) S = B_X0_toDouble_47 (L_X0_toDouble_47 n) x (-nI (k + 1)) (nI i) S := rfl
    obtain ⟨c', q', g1, g2⟩ := FP.Core.round_exact FP.Core.good_b64 false (c := m) (q := -(i : Int)) (show m < 2 ^ 53 from hm) (show (-1074 : Int) ≤ -(i : Int) by omega) (show (-(i : Int)) ≤ 971 by omega)
    have hx2 : FP.Core.val64 x = .fin false c' q' := by
      rw [hx]
      exact g1
    have f := fit_q hx2
    rw [ud_in, ud_in] at g2
    unfold ud at g2
    have hc0 : 0 < c' := by
      rcases Nat.eq_zero_or_pos c' with z | z
      · subst z
        rw [Nat.zero_mul] at g2
        have := Nat.mul_pos hm0 (Nat.two_pow_pos (-(i : Int) + 1074).toNat)
        omega
      · exact z
    have hd : FP.Core.val64 (FP.ddiv x 4611686018427387904) = FP.Core.roundRatio FP.Core.b64 false m 1 (-((i + 1 : Nat) : Int)) := by
      rw [FP.Core.val64_ddiv, hx2, v_two]
      unfold FP.Core.quotient
      simp only [show ¬ (2 ^ 52 = 0) by omega, if_false]
      rw [show (false != false) = false from rfl]
      refine FP.Core.roundRatio_congr (by omega) (by omega) ?_
      refine Nat.eq_of_mul_eq_mul_right (Nat.two_pow_pos (q' + 1074).toNat) ?_
      generalize ha : (q' - -51 - -((i + 1 : Nat) : Int)).toNat = a
      generalize hb : (-((i + 1 : Nat) : Int) - (q' - -51)).toNat = b
      generalize hs : (q' + 1074).toNat = s at g2
      generalize hu : (-(i : Int) + 1074).toNat = u at g2
      have k1 : u + a = 52 + b + s := by omega
      calc c' * 1 * 2 ^ a * 2 ^ s = c' * 2 ^ s * 2 ^ a := by rw [Nat.mul_one, Nat.mul_assoc, Nat.mul_assoc, Nat.mul_comm (2 ^ a)]
        _ = m * 2 ^ u * 2 ^ a := by rw [g2]
        _ = m * 2 ^ (u + a) := by rw [Nat.pow_add, Nat.mul_assoc]
        _ = m * 2 ^ (52 + b + s) := by rw [k1]
        _ = m * 2 ^ 52 * 2 ^ b * 2 ^ s := by rw [Nat.pow_add, Nat.pow_add, Nat.mul_assoc, Nat.mul_assoc, Nat.mul_assoc]
    obtain ⟨x', w1, w2⟩ := td_loop (S := S) hm0 hm k n (i + 1) (FP.ddiv x 4611686018427387904) (by omega) (by omega) hd
    refine ⟨x', ?_, by rw [w2, show i + 1 + k = i + (k + 1) by omega]⟩
    rw [hB]
    unfold B_X0_toDouble_47
    rw [fa_lit 1100, if_neg (by rw [nI_leI (by omega) (by omega)]; omega), if_neg (nneg_lt (by omega) (by omega)), if_neg (by rw [gt_zero hx2 hc0]; decide), dq_ok (by rw [hd]; exact FP.Core.roundRatio_ne_nan _ _ _ _ _), neg_suc, nI_1, w1]
/-- the datum of bits below those of infinity -/
theorem val_n {x : UInt64} {e f : Nat} (hx : x.toNat = e * 2 ^ 52 + f) (he : e < 2047) (hf : f < 2 ^ 52) : FP.Core.val64 x = if e = 0 then .fin false f (-1074) else .fin false (2 ^ 52 + f) ((e : Int) - 1075) := by
  have hT : FP.Core.fieldT FP.Core.b64 (e * 2 ^ 52 + f) = f := by
    unfold FP.Core.fieldT
    rw [FP.Core.tails_b64]
    omega
  have hd : (e * 2 ^ 52 + f) / 2 ^ 52 = e := by omega
  have hE : FP.Core.fieldE FP.Core.b64 (e * 2 ^ 52 + f) = e := by
    unfold FP.Core.fieldE
    rw [FP.Core.tails_b64, hd, show FP.Core.b64.exps = 2048 by decide]
    omega
  have hS : FP.Core.fieldS FP.Core.b64 (e * 2 ^ 52 + f) = false := by
    unfold FP.Core.fieldS
    rw [FP.Core.tails_b64, hd, show FP.Core.b64.exps = 2048 by decide, show e / 2048 % 2 = 0 by omega]
    rfl
  unfold FP.Core.val64
  rw [hx]
  unfold FP.Core.decode
  rw [hT, hE, hS, FP.Core.exps_b64, if_neg (by omega), FP.Core.qmin_b64, FP.Core.tails_b64]
  by_cases e0 : e = 0
  · rw [if_pos e0, if_pos e0]
  · rw [if_neg e0, if_neg e0, show (-1074 + ((e : Int) - 1)) = (e : Int) - 1075 by omega]
theorem lN_sgn {n : Nat} (hn : n < 2 ^ 64) : lN n < (0 : Int64) ↔ 2 ^ 63 ≤ n := by
  rw [Int64.lt_iff_toInt_lt]
  have c := BitVec.toInt_eq_toNat_cond (lN n).toBitVec
  rw [wb_tn hn] at c
  show (lN n).toBitVec.toInt < (0 : Int) ↔ _
  rw [c]
  split <;> omega
theorem u_n {n : Nat} (h : n < 2 ^ 64) : (Int64.toUInt64 (lN n)).toNat = n := wb_tn h
theorem toD_parts (n : Nat) (hn : n < 2 ^ 64) (S : St) : F_X0_toDouble (lN n) S = if ¬ n / 2 ^ 52 % 2048 = 0 then J_X0_toDouble_31 (nI (n / 2 ^ 52 % 2048)) (FP.l2d (lN (n % 2 ^ 52 + 2 ^ 52))) S else J_X0_toDouble_31 (nI (n / 2 ^ 52 % 2048)) (FP.l2d (lN (n % 2 ^ 52))) S := by
  have e1 : Int64.toInt32 (lN (n / 2 ^ 52)) &&& (2047 : Int32) = nI (n / 2 ^ 52 % 2048) := by
    rw [lN_i]
    exact pk_andN (by omega) 11 (by decide)
  have e2 : lN n &&& (4503599627370495 : Int64) = lN (n % 2 ^ 52) := by
    rw [fa_litL 4503599627370495]
    exact wb_mask (k := 52) hn (by omega)
  have e3 : lN (n % 2 ^ 52) + (4503599627370496 : Int64) = lN (n % 2 ^ 52 + 2 ^ 52) := by
    rw [fa_litL 4503599627370496, lN_add]
  unfold F_X0_toDouble
  rw [fa_lit 52, wb_shr hn (by omega), e1, bd_e, e2, bd_e, e3]
  by_cases c : n / 2 ^ 52 % 2048 = 0
  · rw [if_neg (show ¬ ¬ n / 2 ^ 52 % 2048 = 0 from fun z => z c), if_neg (show ¬ ¬ nI (n / 2 ^ 52 % 2048) = 0 from fun z => z (by rw [c]; rfl))]
  · rw [if_pos c, if_pos (show ¬ nI (n / 2 ^ 52 % 2048) = 0 from fun z => by rw [show (0 : Int32) = nI 0 from rfl, nI_eq (by omega) (by omega)] at z; exact c z)]
theorem td_31 {m e : Nat} (hm0 : 0 < m) (hm : m < 2 ^ 53) (he : e ≤ 1074) (S : St) : ∃ x', J_X0_toDouble_31 (nI e) (FP.l2d (lN m)) S = some (x', S) ∧ FP.Core.val64 x' = FP.Core.roundRatio FP.Core.b64 false m 1 ((max e 1 : Nat) - 1075 : Int) := by
  have h0 : FP.Core.val64 (FP.l2d (lN m)) = FP.Core.roundRatio FP.Core.b64 false m 1 (-((0 : Nat) : Int)) := by
    rw [FP.Core.val64_l2d, pk_lT (by omega)]
    unfold FP.Core.ofInt
    rw [show decide ((m : Int) < 0) = false from decide_eq_false (by omega), Int.natAbs_natCast]
    rfl
  obtain ⟨x', w1, w2⟩ := td_loop (S := S) hm0 hm (1075 - max e 1) 6000 0 (FP.l2d (lN m)) (by omega) (by omega) h0
  refine ⟨x', ?_, ?_⟩
  · unfold J_X0_toDouble_31
    have e1 : nI (max e 1) - (1075 : Int32) = -nI (1075 - max e 1) := by
      rw [fa_lit 1075, ← pk_sub (show max e 1 ≤ 1075 by omega), Int32.neg_sub]
    rw [show (1 : Int32) = nI 1 from rfl, maxI_e (by omega) (by omega), cl_some, bd_e, e1, show (0 : Int32) = nI 0 from rfl, w1]
  · rw [w2, show (-((0 + (1075 - max e 1) : Nat) : Int)) = ((max e 1 : Nat) - 1075 : Int) by omega]
theorem td_zero (e : Nat) (he : e ≤ 1074) (S : St) : J_X0_toDouble_31 (nI e) (FP.l2d (lN 0)) S = some (0, S) := by
  have e1 : nI (max e 1) - (1075 : Int32) = -nI (1075 - max e 1) := by
    rw [fa_lit 1075, ← pk_sub (show max e 1 ≤ 1075 by omega), Int32.neg_sub]
  unfold J_X0_toDouble_31
  rw [show (1 : Int32) = nI 1 from rfl, maxI_e (by omega) (by omega), cl_some, bd_e, e1]
  show B_X0_toDouble_47 _ _ _ _ _ = _
  unfold B_X0_toDouble_47
  rw [if_neg (by decide), if_neg (nneg_lt (by omega) (by omega)), if_pos (by rw [show dx (FP.l2d (lN 0)) FP.dconst0 .l = 0 by decide +kernel]; decide)]
  unfold J_X0_toDouble_84
  rw [show FP.l2d (lN 0) = 0 by decide +kernel]
theorem toD_e {n : Nat} (hn : n ≤ 4621819117588971520) (S : St) : F_X0_toDouble (lN n) S = some (Int64.toUInt64 (lN n), S) ∧ ∃ c q, FP.Core.val64 (Int64.toUInt64 (lN n)) = .fin false c q ∧ ud c q ≤ 10 * 2 ^ 1074 := by
  have hu := u_n (show n < 2 ^ 64 by omega)
  generalize he : n / 2 ^ 52 = e
  generalize hf : n % 2 ^ 52 = f
  have hnf : n = e * 2 ^ 52 + f := by omega
  have hf2 : f < 2 ^ 52 := by omega
  have he2 : e ≤ 1026 := by omega
  have hv := val_n (hu.trans hnf) (by omega) hf2
  have e2048 : e % 2048 = e := by omega
  constructor
  · rw [toD_parts n (by omega), he, hf, e2048]
    by_cases c : e = 0
    · subst c
      rw [if_neg (fun z => z rfl)]
      by_cases f0 : f = 0
      · subst f0
        rw [td_zero 0 (by omega)]
        have : n = 0 := by omega
        subst this
        rfl
      · obtain ⟨x', w1, w2⟩ := td_31 (m := f) (e := 0) (by omega) (by omega) (by omega) S
        rw [if_pos rfl] at hv
        have hx : FP.Core.val64 x' = .fin false f (-1074) := by
          rw [w2]
          exact FP.Core.roundRatio_exact FP.Core.good_b64 (by omega) (show (f < 2 ^ 53 ∧ (-1074 : Int) ≤ -1074 ∧ (-1074 : Int) ≤ 971 ∧ ((-1074 : Int) = -1074 ∨ 2 ^ 52 ≤ f)) from ⟨by omega, by omega, by omega, Or.inl rfl⟩) (by rw [show (((max 0 1 : Nat) : Int) - 1075 - -1074).toNat = 0 by omega, show (-1074 - (((max 0 1 : Nat) : Int) - 1075)).toNat = 0 by omega, Nat.pow_zero, Nat.mul_one, Nat.mul_one])
        rw [w1, FP.Core.val64_inj (fin_nan hx) (hx.trans hv.symm)]
    · rw [if_pos c]
      obtain ⟨x', w1, w2⟩ := td_31 (m := f + 2 ^ 52) (e := e) (by omega) (by omega) (by omega) S
      rw [if_neg c, Nat.add_comm (2 ^ 52) f] at hv
      have hx : FP.Core.val64 x' = .fin false (f + 2 ^ 52) ((e : Int) - 1075) := by
        rw [w2]
        refine FP.Core.roundRatio_exact FP.Core.good_b64 (by omega) (show (f + 2 ^ 52 < 2 ^ 53 ∧ (-1074 : Int) ≤ (e : Int) - 1075 ∧ (e : Int) - 1075 ≤ 971 ∧ ((e : Int) - 1075 = -1074 ∨ 2 ^ 52 ≤ f + 2 ^ 52)) from ⟨by omega, by omega, by omega, Or.inr (by omega)⟩) ?_
        rw [show (((max e 1 : Nat) : Int) - 1075 - ((e : Int) - 1075)).toNat = 0 by omega, show ((e : Int) - 1075 - (((max e 1 : Nat) : Int) - 1075)).toNat = 0 by omega, Nat.pow_zero, Nat.mul_one, Nat.mul_one]
      rw [w1, FP.Core.val64_inj (fin_nan hx) (hx.trans hv.symm)]
  · have p1 : 2 ^ 1077 = 8 * 2 ^ 1074 := by rw [show 1077 = 3 + 1074 from rfl, Nat.pow_add]
    by_cases c : e = 0
    · rw [if_pos c] at hv
      refine ⟨f, -1074, hv, ?_⟩
      have e1 : ud f (-1074) = f * 2 ^ 0 := rfl
      rw [e1, Nat.pow_zero, Nat.mul_one]
      have := two_le (show 52 ≤ 1074 by omega)
      omega
    · rw [if_neg c] at hv
      refine ⟨2 ^ 52 + f, (e : Int) - 1075, hv, ?_⟩
      unfold ud
      rw [show ((e : Int) - 1075 + 1074).toNat = e - 1 by omega]
      by_cases g : e ≤ 1025
      · calc (2 ^ 52 + f) * 2 ^ (e - 1) ≤ 2 ^ 53 * 2 ^ (e - 1) := Nat.mul_le_mul_right _ (by omega)
          _ ≤ 2 ^ 53 * 2 ^ 1024 := Nat.mul_le_mul_left _ (two_le (by omega))
          _ = 2 ^ 1077 := by rw [← Nat.pow_add]
          _ ≤ 10 * 2 ^ 1074 := by omega
      · have ee : e - 1 = 1025 := by omega
        rw [ee]
        calc (2 ^ 52 + f) * 2 ^ 1025 ≤ (5 * 2 ^ 50) * 2 ^ 1025 := Nat.mul_le_mul_right _ (by omega)
          _ = 5 * 2 ^ 1075 := by rw [Nat.mul_assoc, ← Nat.pow_add]
          _ = 10 * 2 ^ 1074 := by rw [show 1075 = 1074 + 1 from rfl, Nat.pow_succ]; omega
theorem toD_m (S : St) : F_X0_toDouble (-9223372036854775808) S = some (0, S) := by
  have e : (-9223372036854775808 : Int64) = lN 9223372036854775808 := by decide +kernel
  rw [e, toD_parts _ (by omega), show 9223372036854775808 / 2 ^ 52 % 2048 = 0 from rfl, if_neg (fun z => z rfl), td_zero 0 (by omega)]
/-! what is a rate -/
theorem rate_or (a : Int64) : (a = -9223372036854775808 ∨ ∃ n, n ≤ 4621819117588971520 ∧ a = lN n) ∧ (∀ S, F_X0_isRateOfPeriod a S = some (1, S)) ∧ (∀ S, F_X8_isRate (Int64.toUInt64 a) S = some (1, S)) ∨ (∀ S, F_X0_isRateOfPeriod a S = some (0, S)) ∧ ∀ S, F_X8_isRate (Int64.toUInt64 a) S = some (0, S) := by
  obtain ⟨n, hn, rfl⟩ := wb_of a
  have hu := u_n hn
  have em : (-9223372036854775808 : Int64) = lN 9223372036854775808 := by decide +kernel
  have hkey : FP.Core.dkey (Int64.toUInt64 (lN n)) = if 2 ^ 63 ≤ n then ((2 ^ 63 : Nat) : Int) - (n : Int) else (n : Int) := by
    unfold FP.Core.dkey
    rw [hu]
  have k0 : FP.Core.dkey FP.dconst0 = 0 := by decide +kernel
  have k10 : FP.Core.dkey (4621819117588971520 : UInt64) = 4621819117588971520 := by decide +kernel
  have n0 : FP.Core.val64 FP.dconst0 ≠ .nan := by decide +kernel
  have n10 : FP.Core.val64 (4621819117588971520 : UInt64) ≠ .nan := by decide +kernel
  have nan1 := FP.Core.ne_nan (Int64.toUInt64 (lN n))
  rw [hu] at nan1
  have neg1 : lN n < (0 : Int64) ↔ 2 ^ 63 ≤ n := lN_sgn hn
  by_cases c1 : 2 ^ 63 ≤ n
  · by_cases c2 : n = 9223372036854775808
    · left
      subst c2
      refine ⟨Or.inl em.symm, fun S => ?_, fun S => ?_⟩
      · unfold F_X0_isRateOfPeriod J_X0_isRateOfPeriod_14 J_X0_isRateOfPeriod_22 J_X0_isRateOfPeriod_27
        rw [if_pos (neg1.mpr c1), if_neg (fun z => z em.symm), zr1]
      · unfold F_X8_isRate J_X8_isRate_18 J_X8_isRate_19
        rw [if_neg (by decide +kernel), if_neg (by decide +kernel), zr1]
    · right
      refine ⟨fun S => ?_, fun S => ?_⟩
      · unfold F_X0_isRateOfPeriod J_X0_isRateOfPeriod_14 J_X0_isRateOfPeriod_22 J_X0_isRateOfPeriod_27
        rw [if_pos (neg1.mpr c1), if_pos (fun z => c2 (by
          have this : (lN n).toBitVec.toNat = (lN 9223372036854775808).toBitVec.toNat := congrArg (fun y => y.toBitVec.toNat) (z.trans em)
          rw [wb_tn hn, wb_tn (by omega)] at this
          exact this)), zr0]
      · unfold F_X8_isRate J_X8_isRate_18 J_X8_isRate_19
        rw [if_pos, zr0]
        unfold dx
        by_cases cn : FP.Core.val64 (Int64.toUInt64 (lN n)) = .nan
        · rw [show FP.dcmp (Int64.toUInt64 (lN n)) FP.dconst0 = none from (FP.Core.dcmp_none _ _).mpr (Or.inl cn)]
          decide
        · rw [show FP.dcmp (Int64.toUInt64 (lN n)) FP.dconst0 = some .lt from by
            rw [show FP.dcmp (Int64.toUInt64 (lN n)) FP.dconst0 = _ from FP.Core.dcmp_key cn n0, hkey, k0, if_pos c1]
            congr 1
            rw [FP.Core.compare_lt_iff]
            omega]
          decide
  · have hneg : ¬ lN n < (0 : Int64) := fun z => c1 (neg1.mp z)
    by_cases c3 : n ≤ 4621819117588971520
    · left
      refine ⟨Or.inr ⟨n, c3, rfl⟩, fun S => ?_, fun S => ?_⟩
      · unfold F_X0_isRateOfPeriod J_X0_isRateOfPeriod_22 J_X0_isRateOfPeriod_27
        rw [if_neg hneg, fa_litL 4621819117588971520, if_pos ((pk_lLE (by omega) (by omega)).mpr c3), zr1]
      · have cn : FP.Core.val64 (Int64.toUInt64 (lN n)) ≠ .nan := nan1.mpr (by omega)
        unfold F_X8_isRate J_X8_isRate_18 J_X8_isRate_19
        rw [if_neg, if_neg, zr1]
        · unfold dx
          rw [show FP.dcmp (Int64.toUInt64 (lN n)) 4621819117588971520 = _ from FP.Core.dcmp_key cn n10, hkey, k10, if_neg c1]
          by_cases ce : n = 4621819117588971520
          · rw [(FP.Core.compare_eq_iff _ _).mpr (by omega)]
            decide
          · rw [(FP.Core.compare_lt_iff _ _).mpr (by omega)]
            decide
        · unfold dx
          rw [show FP.dcmp (Int64.toUInt64 (lN n)) FP.dconst0 = _ from FP.Core.dcmp_key cn n0, hkey, k0, if_neg c1]
          by_cases ce : n = 0
          · rw [(FP.Core.compare_eq_iff _ _).mpr (by omega)]
            decide
          · rw [(FP.Core.compare_gt_iff _ _).mpr (by omega)]
            decide
    · right
      refine ⟨fun S => ?_, fun S => ?_⟩
      · unfold F_X0_isRateOfPeriod J_X0_isRateOfPeriod_14 J_X0_isRateOfPeriod_22 J_X0_isRateOfPeriod_27
        rw [if_neg hneg, fa_litL 4621819117588971520, if_neg (fun z => c3 ((pk_lLE (by omega) (by omega)).mp z)), if_pos (fun z => by
          have this : (lN n).toBitVec.toNat = (lN 9223372036854775808).toBitVec.toNat := congrArg (fun y => y.toBitVec.toNat) (z.trans em)
          rw [wb_tn hn, wb_tn (by omega)] at this
          omega), zr0]
      · unfold F_X8_isRate J_X8_isRate_18 J_X8_isRate_19
        by_cases cn : FP.Core.val64 (Int64.toUInt64 (lN n)) = .nan
        · rw [if_pos, zr0]
          unfold dx
          rw [show FP.dcmp (Int64.toUInt64 (lN n)) FP.dconst0 = none from (FP.Core.dcmp_none _ _).mpr (Or.inl cn)]
          decide
        · rw [if_neg, if_pos, zr0]
          · unfold dx
            rw [show FP.dcmp (Int64.toUInt64 (lN n)) 4621819117588971520 = _ from FP.Core.dcmp_key cn n10, hkey, k10, if_neg c1, (FP.Core.compare_gt_iff _ _).mpr (by omega)]
            decide
          · unfold dx
            rw [show FP.dcmp (Int64.toUInt64 (lN n)) FP.dconst0 = _ from FP.Core.dcmp_key cn n0, hkey, k0, if_neg c1, (FP.Core.compare_gt_iff _ _).mpr (by omega)]
            decide
end BT2
