/-! DOUBLES, IN UNITS OF THE LEAST -/
def ud (c : Nat) (q : Int) : Nat := c * 2 ^ (q + 1074).toNat
theorem ud_in (c : Nat) (q : Int) : FP.Core.inUnits c q FP.Core.b64.qmin = ud c q := by
  unfold FP.Core.inUnits ud
  rw [FP.Core.qmin_b64]
  rfl
theorem ud_in' (c : Nat) (q : Int) : FP.Core.inUnits c q (-1074) = ud c q := rfl
/-- positive, from 2^l to 2^h units -/
def Pw (x : UInt64) (l h : Nat) : Prop := ∃ (c : Nat) (q : Int), FP.Core.val64 x = .fin false c q ∧ 2 ^ l ≤ ud c q ∧ ud c q ≤ 2 ^ h
def Zw (x : UInt64) (l h : Nat) : Prop := x = 0 ∨ Pw x l h
theorem Pw.nan {x : UInt64} {l h : Nat} (H : Pw x l h) : FP.Core.val64 x ≠ .nan := by
  obtain ⟨c, q, h1, _⟩ := H
  rw [h1]
  exact fun z => by cases z
theorem Zw.nan {x : UInt64} {l h : Nat} (H : Zw x l h) : FP.Core.val64 x ≠ .nan := by
  rcases H with rfl | H
  · rw [FP.Core.val64_zero]
    exact fun z => by cases z
  · exact H.nan
theorem two_le {a b : Nat} (h : a ≤ b) : 2 ^ a ≤ 2 ^ b := Nat.pow_le_pow_right (by omega) h
theorem two_le_iff {a b : Nat} (h : 2 ^ a ≤ 2 ^ b) : a ≤ b := (Nat.pow_le_pow_iff_right (by omega)).mp h
theorem Pw.mo {x : UInt64} {l h l' h' : Nat} (H : Pw x l h) (h1 : l' ≤ l) (h2 : h ≤ h') : Pw x l' h' := by
  obtain ⟨c, q, e, a, b⟩ := H
  exact ⟨c, q, e, Nat.le_trans (two_le h1) a, Nat.le_trans b (two_le h2)⟩
theorem Zw.mo {x : UInt64} {l h l' h' : Nat} (H : Zw x l h) (h1 : l' ≤ l) (h2 : h ≤ h') : Zw x l' h' := H.imp id (fun z => z.mo h1 h2)
theorem dq_ok {β : Type} {x : UInt64} (h : FP.Core.val64 x ≠ .nan) (K : UInt64 → Option β) : dq x K = K x := by
  unfold dq
  rw [if_pos]
  rw [UInt64.le_iff_toNat_le, FP.Core.mask_toNat]
  exact (FP.Core.ne_nan x).mp h
theorem fit_q {x : UInt64} {s : Bool} {c : Nat} {q : Int} (h : FP.Core.val64 x = .fin s c q) : c < 2 ^ 53 ∧ -1074 ≤ q ∧ q ≤ 971 ∧ (q = -1074 ∨ 2 ^ 52 ≤ c) := by
  have := FP.Core.val64_fits x
  rw [h] at this
  exact this
theorem vp_fits {l : Nat} (h1 : 52 ≤ l) (h2 : l ≤ 2097) : FP.Core.fits FP.Core.b64 (.fin false (2 ^ 52) ((l : Int) - 1126)) :=
  show (2 ^ 52 < 2 ^ 53 ∧ (-1074 : Int) ≤ (l : Int) - 1126 ∧ (l : Int) - 1126 ≤ 971 ∧ ((l : Int) - 1126 = -1074 ∨ 2 ^ 52 ≤ 2 ^ 52)) from ⟨by omega, by omega, by omega, Or.inr (Nat.le_refl _)⟩
theorem vp_mag {l : Nat} (h1 : 52 ≤ l) : FP.Core.zmag FP.Core.b64 (.fin false (2 ^ 52) ((l : Int) - 1126)) = 2 ^ l := by
  show FP.Core.inUnits (2 ^ 52) ((l : Int) - 1126) FP.Core.b64.qmin = 2 ^ l
  rw [ud_in]
  unfold ud
  rw [← Nat.pow_add]
  congr 1
  omega
theorem rr_P {A B : Nat} {e e0 : Int} {l h : Nat} (hB : 0 < B) (h0 : e0 ≤ -1074) (h0e : e0 ≤ e) (hl : 52 ≤ l) (hl2 : l ≤ 2097) (hh1 : 52 ≤ h) (hh : h ≤ 2097) (lo : 2 ^ l * 2 ^ (-1074 - e0).toNat * B ≤ FP.Core.inUnits A e e0) (hi : FP.Core.inUnits A e e0 ≤ 2 ^ h * 2 ^ (-1074 - e0).toNat * B) : ∃ c q, FP.Core.roundRatio FP.Core.b64 false A B e = .fin false c q ∧ 2 ^ l ≤ ud c q ∧ ud c q ≤ 2 ^ h := by
  have g1 := FP.Core.zmag_roundRatio_ge FP.Core.good_b64 (s := false) (A := A) (e := e) hB (vp_fits hl hl2) (show e0 ≤ FP.Core.b64.qmin by rw [FP.Core.qmin_b64]; exact h0) h0e (by rw [vp_mag hl, FP.Core.qmin_b64]; exact lo)
  have g2 := FP.Core.zmag_roundRatio_le FP.Core.good_b64 (s := false) (A := A) (e := e) hB (vp_fits hh1 hh) (fun z => by cases z) (show e0 ≤ FP.Core.b64.qmin by rw [FP.Core.qmin_b64]; exact h0) h0e (by rw [vp_mag hh1, FP.Core.qmin_b64]; exact hi)
  rw [vp_mag hl] at g1
  rw [vp_mag hh1] at g2
  rcases FP.Core.roundRatio_cases FP.Core.b64 false A B e with ⟨c, q, h⟩ | hinf
  · rw [h] at g1 g2
    refine ⟨c, q, h, ?_, ?_⟩
    · rw [← ud_in]
      exact g1
    · rw [← ud_in]
      exact g2
  · rw [hinf] at g2
    have g4 : FP.Core.b64.tails * 2 ^ (FP.Core.b64.exps - 2) ≤ 2 ^ h := g2
    rw [FP.Core.tails_b64, show FP.Core.b64.exps - 2 = 2046 by decide, ← Nat.pow_add] at g4
    have g3 : 2 ^ (52 + 2046) ≤ 2 ^ h := g4
    have := two_le_iff g3
    omega
theorem add_P {x y : UInt64} {c d : Nat} {q r : Int} {l h : Nat} (hx : FP.Core.val64 x = .fin false c q) (hy : FP.Core.val64 y = .fin false d r) (hl : 52 ≤ l) (hh : h ≤ 2097) (lo : 2 ^ l ≤ ud c q + ud d r) (hi : ud c q + ud d r ≤ 2 ^ h) : Pw (FP.dadd x y) l h := by
  have hlh := two_le_iff (Nat.le_trans lo hi)
  have fx := fit_q hx
  have fy := fit_q hy
  have hm : (-1074 : Int) ≤ min q r := by omega
  have ev : FP.Core.sumUnits false c q false d r (min q r) = ((FP.Core.inUnits c q (min q r) + FP.Core.inUnits d r (min q r) : Nat) : Int) := by
    unfold FP.Core.sumUnits FP.Core.signed
    simp
  have eN : FP.Core.inUnits (FP.Core.inUnits c q (min q r) + FP.Core.inUnits d r (min q r)) (min q r) (-1074) = ud c q + ud d r := by
    have m1 := FP.Core.inUnits_move c (e := -1074) (r := min q r) (q := q) hm (by omega)
    have m2 := FP.Core.inUnits_move d (e := -1074) (r := min q r) (q := r) hm (by omega)
    rw [← ud_in', ← ud_in', m1, m2, ← Nat.add_mul]
    rfl
  have es : FP.Core.exactSum (.fin false c q) (.fin false d r) = .fin false (FP.Core.inUnits c q (min q r) + FP.Core.inUnits d r (min q r)) (min q r) := by
    show FP.Core.Datum.fin (FP.Core.sumSign false false (FP.Core.sumUnits false c q false d r (min q r))) (FP.Core.sumUnits false c q false d r (min q r)).natAbs (min q r) = _
    rw [ev, Int.natAbs_natCast]
    congr 1
    unfold FP.Core.sumSign
    split
    · rfl
    · exact decide_eq_false (by omega)
  obtain ⟨c', q', g1, g2, g3⟩ := rr_P (A := FP.Core.inUnits c q (min q r) + FP.Core.inUnits d r (min q r)) (B := 1) (e := min q r) (e0 := -1074) (l := l) (h := h) (by omega) (by omega) hm hl (by omega) (by omega) hh (by rw [eN]; simpa using lo) (by rw [eN]; simpa using hi)
  refine ⟨c', q', ?_, g2, g3⟩
  rw [FP.Core.val64_dadd, hx, hy, es]
  exact g1
theorem div_P {x y : UInt64} {c d : Nat} {q r : Int} {lx mx ly my l h : Nat} (hx : FP.Core.val64 x = .fin false c q) (hy : FP.Core.val64 y = .fin false d r) (x1 : 2 ^ lx ≤ ud c q) (x2 : ud c q ≤ 2 ^ mx) (y1 : 2 ^ ly ≤ ud d r) (y2 : ud d r ≤ 2 ^ my) (e1 : l + my ≤ lx + 1074) (e2 : mx + 1074 ≤ h + ly) (hl : 52 ≤ l) (hh : h ≤ 2097) : Pw (FP.ddiv x y) l h := by
  have fx := fit_q hx
  have fy := fit_q hy
  have a1 := two_le_iff (Nat.le_trans x1 x2)
  have a2 := two_le_iff (Nat.le_trans y1 y2)
  have hd : 0 < ud d r := Nat.lt_of_lt_of_le (Nat.two_pow_pos _) y1
  have d0 : d ≠ 0 := by
    rintro rfl
    unfold ud at hd
    rw [Nat.zero_mul] at hd
    omega
  have hc : FP.Core.roundRatio FP.Core.b64 false c d (q - r) = FP.Core.roundRatio FP.Core.b64 false (ud c q) (ud d r) 0 := by
    refine FP.Core.roundRatio_congr (by omega) hd ?_
    unfold ud
    have k1 : (r + 1074).toNat + (q - r - 0).toNat = (q + 1074).toNat + (0 - (q - r)).toNat := by omega
    calc c * (d * 2 ^ (r + 1074).toNat) * 2 ^ (q - r - 0).toNat = c * d * 2 ^ ((r + 1074).toNat + (q - r - 0).toNat) := by rw [Nat.pow_add]; ac_rfl
      _ = c * d * 2 ^ ((q + 1074).toNat + (0 - (q - r)).toNat) := by rw [k1]
      _ = c * 2 ^ (q + 1074).toNat * d * 2 ^ (0 - (q - r)).toNat := by rw [Nat.pow_add]; ac_rfl
  have iu : FP.Core.inUnits (ud c q) 0 (-1074) = ud c q * 2 ^ 1074 := rfl
  obtain ⟨c', q', g1, g2, g3⟩ := rr_P (A := ud c q) (B := ud d r) (e := 0) (e0 := -1074) (l := l) (h := h) hd (by omega) (by omega) hl (by omega) (by omega) hh (by
    rw [iu]
    show 2 ^ l * 2 ^ 0 * ud d r ≤ _
    calc 2 ^ l * 2 ^ 0 * ud d r = 2 ^ l * ud d r := by rw [Nat.pow_zero, Nat.mul_one]
      _ ≤ 2 ^ l * 2 ^ my := Nat.mul_le_mul_left _ y2
      _ = 2 ^ (l + my) := (Nat.pow_add ..).symm
      _ ≤ 2 ^ (lx + 1074) := two_le e1
      _ = 2 ^ lx * 2 ^ 1074 := Nat.pow_add ..
      _ ≤ ud c q * 2 ^ 1074 := Nat.mul_le_mul_right _ x1) (by
    rw [iu]
    show _ ≤ 2 ^ h * 2 ^ 0 * ud d r
    calc ud c q * 2 ^ 1074 ≤ 2 ^ mx * 2 ^ 1074 := Nat.mul_le_mul_right _ x2
      _ = 2 ^ (mx + 1074) := (Nat.pow_add ..).symm
      _ ≤ 2 ^ (h + ly) := two_le e2
      _ = 2 ^ h * 2 ^ ly := Nat.pow_add ..
      _ ≤ 2 ^ h * ud d r := Nat.mul_le_mul_left _ y1
      _ = 2 ^ h * 2 ^ 0 * ud d r := by rw [Nat.pow_zero, Nat.mul_one])
  refine ⟨c', q', ?_, g2, g3⟩
  rw [FP.Core.val64_ddiv, hx, hy]
  unfold FP.Core.quotient
  simp only [d0, if_false]
  rw [show (false != false) = false from rfl, hc]
  exact g1
theorem div_0 {y : UInt64} {d : Nat} {r : Int} (hy : FP.Core.val64 y = .fin false d r) (hd : d ≠ 0) : FP.ddiv 0 y = 0 := by
  refine (FP.Core.val64_inj (a := 0) (b := FP.ddiv 0 y) (by rw [FP.Core.val64_zero]; exact fun z => by cases z) ?_).symm
  rw [FP.Core.val64_ddiv, hy, FP.Core.val64_zero]
  unfold FP.Core.quotient
  simp only [hd, if_false]
  rfl
theorem add_Z {x y : UInt64} {l h : Nat} (hx : Zw x l h) (hy : Zw y l h) (hl : 52 ≤ l) (hh : h + 1 ≤ 2097) : Zw (FP.dadd x y) l (h + 1) := by
  have z0 : ud 0 FP.Core.b64.qmin = 0 := by
    unfold ud
    rw [Nat.zero_mul]
  have hp : 2 ^ (h + 1) = 2 ^ h + 2 ^ h := by rw [Nat.pow_succ]; omega
  rcases hx with rfl | ⟨c, q, x1, x2, x3⟩
  · rcases hy with rfl | ⟨d, r, y1, y2, y3⟩
    · left
      decide +kernel
    · right
      exact add_P FP.Core.val64_zero y1 hl hh (by rw [z0]; omega) (by rw [z0]; omega)
  · rcases hy with rfl | ⟨d, r, y1, y2, y3⟩
    · right
      exact add_P x1 FP.Core.val64_zero hl hh (by rw [z0]; omega) (by rw [z0]; omega)
    · right
      exact add_P x1 y1 hl hh (by omega) (by omega)
theorem div_Z {x y : UInt64} {lx mx ly my l h : Nat} (hx : Zw x lx mx) (hy : Pw y ly my) (e1 : l + my ≤ lx + 1074) (e2 : mx + 1074 ≤ h + ly) (hl : 52 ≤ l) (hh : h ≤ 2097) : Zw (FP.ddiv x y) l h := by
  obtain ⟨d, r, y1, y2, y3⟩ := hy
  rcases hx with rfl | ⟨c, q, x1, x2, x3⟩
  · left
    refine div_0 y1 ?_
    rintro rfl
    unfold ud at y2
    rw [Nat.zero_mul] at y2
    have := Nat.two_pow_pos ly
    omega
  · right
    exact div_P x1 y1 x2 x3 y2 y3 e1 e2 hl hh
