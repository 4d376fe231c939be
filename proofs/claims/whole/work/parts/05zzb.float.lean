/-! FLOATS -/
section FLT
variable {x : UInt64} {f : UInt32} {m : Nat} {q : Int}
theorem fq_ok {β : Type} {x : UInt32} (h : FP.Core.val32 x ≠ .nan) (K : UInt32 → Option β) : fq x K = K x := by
  unfold fq
  rw [if_pos]
  rw [UInt32.le_iff_toNat_le, FP.Core.mask_toNat32]
  exact (FP.Core.ne_nan32 x).mp h
theorem fx_self (h : FP.Core.val32 f ≠ .nan) (op : CmpOp) : fx f f op = 0 := by
  unfold fx
  rw [show FP.fcmp f f = some .eq from FP.Core.fcmp_self h]
  rfl
theorem d2f_P (H : Pw x 1024 1074) : ∃ (m : Nat) (q : Int), FP.Core.val32 (FP.d2f x) = .fin false (2 ^ 23 + m) q ∧ m < 2 ^ 23 ∧ -149 ≤ q ∧ q ≤ -23 := by
  have hn := H.nan
  obtain ⟨c, q, e, a, b⟩ := H
  have fq := fit_q e
  have e1 : FP.Core.val32 (FP.d2f x) = FP.Core.roundRatio FP.Core.b32 false c 1 q := by
    rw [FP.d2f_core ((FP.Core.notNaN_iff x).mpr hn), FP.Core.val32_d2f, e]
    rfl
  have iu : FP.Core.inUnits c q (-1074) = ud c q := rfl
  have v1 : FP.Core.fits FP.Core.b32 (.fin false (2 ^ 23) (-73)) := show (2 ^ 23 < 2 ^ 24 ∧ (-149 : Int) ≤ -73 ∧ (-73 : Int) ≤ 104 ∧ ((-73 : Int) = -149 ∨ 2 ^ 23 ≤ 2 ^ 23)) from ⟨by omega, by omega, by omega, Or.inr (by omega)⟩
  have v2 : FP.Core.fits FP.Core.b32 (.fin false (2 ^ 23) (-23)) := show (2 ^ 23 < 2 ^ 24 ∧ (-149 : Int) ≤ -23 ∧ (-23 : Int) ≤ 104 ∧ ((-23 : Int) = -149 ∨ 2 ^ 23 ≤ 2 ^ 23)) from ⟨by omega, by omega, by omega, Or.inr (by omega)⟩
  have z1 : FP.Core.zmag FP.Core.b32 (.fin false (2 ^ 23) (-73)) = 2 ^ 99 := by
    show 2 ^ 23 * 2 ^ 76 = 2 ^ 99
    rw [← Nat.pow_add]
  have z2 : FP.Core.zmag FP.Core.b32 (.fin false (2 ^ 23) (-23)) = 2 ^ 149 := by
    show 2 ^ 23 * 2 ^ 126 = 2 ^ 149
    rw [← Nat.pow_add]
  have q5 : (FP.Core.b32.qmin - (-1074)).toNat = 925 := by rw [FP.Core.qmin_b32]; rfl
  have g1 := FP.Core.zmag_roundRatio_ge FP.Core.good_b32 (s := false) (A := c) (B := 1) (e := q) (e0 := -1074) (by omega) v1 (by rw [FP.Core.qmin_b32]; omega) fq.2.1 (by rw [z1, q5, iu, Nat.mul_one, ← Nat.pow_add]; exact a)
  have g2 := FP.Core.zmag_roundRatio_le FP.Core.good_b32 (s := false) (A := c) (B := 1) (e := q) (e0 := -1074) (by omega) v2 (fun z => by cases z) (by rw [FP.Core.qmin_b32]; omega) fq.2.1 (by rw [z2, q5, iu, Nat.mul_one, ← Nat.pow_add]; exact b)
  rw [z1] at g1
  rw [z2] at g2
  have ft := FP.Core.val32_fits (FP.d2f x)
  rw [e1] at ft
  rcases FP.Core.roundRatio_cases FP.Core.b32 false c 1 q with ⟨c', q', h⟩ | hinf
  · rw [h] at g1 g2 ft
    have ft2 : c' < 2 ^ 24 ∧ (-149 : Int) ≤ q' ∧ q' ≤ 104 ∧ (q' = -149 ∨ 2 ^ 23 ≤ c') := ft
    have g3 : 2 ^ 99 ≤ c' * 2 ^ (q' - FP.Core.b32.qmin).toNat := g1
    have g4 : c' * 2 ^ (q' - FP.Core.b32.qmin).toNat ≤ 2 ^ 149 := g2
    rw [FP.Core.qmin_b32] at g3 g4
    have hc : 2 ^ 23 ≤ c' := by
      rcases ft2.2.2.2 with z | z
      · subst z
        rw [show (-149 - (-149 : Int)).toNat = 0 by rfl, Nat.pow_zero, Nat.mul_one] at g3
        have := two_le (show 24 ≤ 99 by omega)
        omega
      · exact z
    have hq : q' ≤ -23 := by
      have g5 : 2 ^ (23 + (q' - -149).toNat) ≤ 2 ^ 149 := by
        rw [Nat.pow_add]
        exact Nat.le_trans (Nat.mul_le_mul_right _ hc) g4
      have := two_le_iff g5
      omega
    refine ⟨c' - 2 ^ 23, q', ?_, by omega, by omega, hq⟩
    rw [e1, h, show 2 ^ 23 + (c' - 2 ^ 23) = c' by omega]
  · rw [hinf] at g2
    have g4 : FP.Core.b32.tails * 2 ^ (FP.Core.b32.exps - 2) ≤ 2 ^ 149 := g2
    rw [FP.Core.tails_b32, show FP.Core.b32.exps - 2 = 254 by decide, ← Nat.pow_add] at g4
    have := two_le_iff g4
    omega
theorem ofFloat_e (h : FP.Core.val32 f = .fin false (2 ^ 23 + m) q) (hm : m < 2 ^ 23) (h1 : -149 ≤ q) (h2 : q ≤ -23) (S : St) : F_X0_ofFloat f S = some (nI ((q + 150).toNat * 2 ^ 23 + m), S) := by
  have hn : FP.Core.val32 f ≠ .nan := by
    rw [h]
    exact fun z => by cases z
  have e1 : FP.Core.val64 (FP.f2d f) = .fin false (2 ^ 52 + m * 2 ^ 29) (q - 29) := by
    rw [FP.f2d_core ((FP.Core.notNaN_iff32 f).mpr hn), FP.Core.val64_f2d, h]
    refine FP.Core.roundRatio_exact FP.Core.good_b64 (by omega) (show (2 ^ 52 + m * 2 ^ 29 < 2 ^ 53 ∧ (-1074 : Int) ≤ q - 29 ∧ q - 29 ≤ 971 ∧ (q - 29 = -1074 ∨ 2 ^ 52 ≤ 2 ^ 52 + m * 2 ^ 29)) from ⟨by omega, by omega, by omega, Or.inr (by omega)⟩) ?_
    rw [show (q - (q - 29)).toNat = 29 by omega, show (q - 29 - q).toNat = 0 by omega, Nat.pow_zero, Nat.mul_one, Nat.mul_one, Nat.add_mul]
  generalize hE : (q + 150).toNat = E
  have hE2 : (q - 29 + 1075).toNat = E + 896 := by omega
  have hE3 : E ≤ 127 := by omega
  have d1 : ((E + 896) * 2 ^ 52 + m * 2 ^ 29) / 2 ^ 52 = E + 896 := by omega
  have d2 : ((E + 896) * 2 ^ 52 + m * 2 ^ 29) % 2 ^ 52 = m * 2 ^ 29 := by omega
  have d3 : m * 2 ^ 29 / 2 ^ 29 = m := Nat.mul_div_cancel m (Nat.two_pow_pos 29)
  have a1 : nI (E + 896) - nI 1023 + nI 127 = nI E := by
    rw [show nI (E + 896) - nI 1023 = -nI (127 - E) by rw [show 127 - E = 1023 - (E + 896) by omega, ← pk_sub (show E + 896 ≤ 1023 by omega), Int32.neg_sub], Int32.add_comm, ← Int32.sub_eq_add_neg, pk_sub (by omega), show 127 - (127 - E) = E by omega]
  have a2 : lN ((E + 896) * 2 ^ 52 + m * 2 ^ 29) &&& (4503599627370495 : Int64) = lN (m * 2 ^ 29) := by
    rw [fa_litL 4503599627370495]
    refine (wb_mask (k := 52) (by omega) (by omega)).trans ?_
    rw [d2]
  have a3 : nI E <<< ((23 : Int32) &&& 31) = nI (E * 2 ^ 23) := pk_shlN _ 23 (by decide) (by omega)
  unfold F_X0_ofFloat
  rw [dq_ok (fin_nan e1), ofDouble_e e1, cl_some, hE2, if_pos (show ¬ lN ((E + 896) * 2 ^ 52 + m * 2 ^ 29) = 0 from fun z => by rw [show (0 : Int64) = lN 0 from rfl, pk_lEQ (by omega) (by omega)] at z; omega), fa_lit 52, wb_shr (by omega) (by omega), d1, lN_i, fa_lit 1023, fa_lit 127, a1, bd_e, a2, fa_lit 29, wb_shr (by omega) (by omega), d3, lN_i, a3, nI_add]
theorem toInt32_n (x : UInt32) : UInt32.toInt32 x = nI x.toNat := by
  apply Int32.toBitVec_inj.mp
  show x.toBitVec = BitVec.ofNat 32 x.toBitVec.toNat
  rw [BitVec.ofNat_toNat, BitVec.setWidth_eq]
theorem fbits_e (h : FP.Core.val32 f = .fin false (2 ^ 23 + m) q) (hm : m < 2 ^ 23) (h1 : -149 ≤ q) (S : St) : F_Jxf58ca_floatToIntBits_5c35a f S = some (nI ((q + 150).toNat * 2 ^ 23 + m), S) := by
  have hn : FP.Core.val32 f ≠ .nan := by
    rw [h]
    exact fun z => by cases z
  have e : FP.Core.of32 (FP.Core.val32 f) = f := FP.Core.of32_val32 hn
  have e2 := FP.Core.toNat_of32 (FP.Core.val32_fits f)
  rw [e, h] at e2
  have e3 : FP.Core.encode FP.Core.b32 (.fin false (2 ^ 23 + m) q) = FP.Core.assemble FP.Core.b32 false ((q - FP.Core.b32.qmin).toNat + 1) (2 ^ 23 + m - FP.Core.b32.tails) := by
    show (if _ then _ else _) = _
    rw [if_neg (by rw [FP.Core.tails_b32]; omega)]
  have e4 : ∀ k, FP.Core.assemble FP.Core.b32 false k (2 ^ 23 + m - FP.Core.b32.tails) = k * 2 ^ 23 + m := by
    intro k
    unfold FP.Core.assemble
    rw [FP.Core.tails_b32, show Bool.toNat false = 0 from rfl, Nat.zero_mul, Nat.zero_add, Nat.add_sub_cancel_left]
  rw [e3, e4, FP.Core.qmin_b32, show (q - -149).toNat + 1 = (q + 150).toNat by omega] at e2
  unfold F_Jxf58ca_floatToIntBits_5c35a F_Jxf58ca_isNaN_12338 J_Jxf58ca_isNaN_12338_11
  rw [fx_self hn, if_pos rfl, zr0, cl_some, if_neg (fun z => z rfl), toInt32_n, e2]
/-- both sides make one float of a yield -/
theorem near_e (H : Zw x 1024 1074) : ∃ v : Int32, (∀ S : St, (fq (FP.d2f x) fun y => F_X0_ofFloat y S) = some (v, S)) ∧ ∀ S : St, (fq (FP.d2f x) fun y => F_Jxf58ca_floatToIntBits_5c35a y S) = some (v, S) := by
  rcases H with rfl | H
  · have d0 : FP.d2f 0 = 0 := by decide +kernel
    have n0 : FP.Core.val32 0 ≠ .nan := by decide +kernel
    refine ⟨0, fun S => ?_, fun S => ?_⟩
    · rw [d0, fq_ok n0]
      unfold F_X0_ofFloat
      rw [show FP.f2d 0 = 0 by decide +kernel, dq_ok (show FP.Core.val64 0 ≠ .nan by decide +kernel), ofDouble_Z (l := 52) (h := 52) (Or.inl rfl) (by omega), cl_some, if_neg (fun z => z rfl)]
    · rw [d0, fq_ok n0]
      unfold F_Jxf58ca_floatToIntBits_5c35a F_Jxf58ca_isNaN_12338 J_Jxf58ca_isNaN_12338_11
      rw [fx_self n0, if_pos rfl, zr0, cl_some, if_neg (fun z => z rfl)]
      rfl
  · obtain ⟨m, q, e, h1, h2, h3⟩ := d2f_P H
    have hn : FP.Core.val32 (FP.d2f x) ≠ .nan := by
      rw [e]
      exact fun z => by cases z
    exact ⟨_, fun S => by rw [fq_ok hn, ofFloat_e e h1 h2 h3], fun S => by rw [fq_ok hn, fbits_e e h1 h2]⟩
end FLT
