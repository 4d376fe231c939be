/-! THE CALENDAR. Months from January 2000; fo m: the first day of month m; mo d: the month of day d. -/
def dA (i : Nat) : Nat := [0, 31, 59, 90, 120, 151, 181, 212, 243, 273, 304, 334].getD i 0
theorem daT_e (i : Nat) (h : i < 12) : daT i = nI (dA i) := by
  have : ∀ i, i < 12 → daT i = nI (dA i) := by decide +kernel
  exact this i h
theorem dA_lt (i : Nat) : dA i < 335 := by
  by_cases h : i < 12
  · have : ∀ i, i < 12 → dA i < 335 := by decide +kernel
    exact this i h
  · unfold dA
    rw [List.getD_eq_getElem?_getD, List.getElem?_eq_none (by simp; omega)]
    decide
/-- days ahead of a month in a year with lp leap days -/
def dl (lp i : Nat) : Nat := dA i + (if 2 ≤ i then lp else 0)
def mlA : Nat → Nat → Nat → Nat
  | 0, _, _ => 0
  | i + 1, r, lp => if r < dl lp (i + 1) then mlA i r lp else i + 1
theorem mlA_le : ∀ (i r lp : Nat), mlA i r lp ≤ i
  | 0, _, _ => Nat.le_refl 0
  | i + 1, r, lp => by
    unfold mlA
    split
    · exact Nat.le_succ_of_le (mlA_le i r lp)
    · exact Nat.le_refl _
def fo (m : Nat) : Nat := m / 12 * 365 + (m / 12 + 3) / 4 + dl (if m / 12 % 4 = 0 then 1 else 0) (m % 12)
def mo (d : Nat) : Nat := if d % 1461 < 366 then 12 * (d / 1461 * 4) + mlA 11 (d % 1461) 1 else 12 * (d / 1461 * 4 + (1 + (d % 1461 - 366) / 365)) + mlA 11 ((d % 1461 - 366) % 365) 0
theorem mod_e (a d : Nat) : a - a / d * d = a % d := by
  have := Nat.div_add_mod a d
  rw [Nat.mul_comm] at this
  omega
theorem div_mul_le (a d : Nat) : a / d * d ≤ a := Nat.div_mul_le_self a d
theorem monthOf_loop : ∀ (i n y r lp : Nat) (S : St), i < n → i ≤ 11 → lp ≤ 1 → r < 1000 → y < 1000000 → L_X2_monthOf_53 n (nI y) (nI r) (nI lp) (nI i) S = some (nI (12 * y + mlA i r lp), S)
  | 0, 0, _, _, _, _, h, _, _, _, _ => absurd h (Nat.not_lt_zero 0)
  | 0, n + 1, y, r, lp, S, _, _, _, _, _ => by
    show B_X2_monthOf_53 _ _ _ _ _ _ = _
    unfold B_X2_monthOf_53
    rw [if_pos (by rw [nI_0]; exact Int32.le_refl _), fa_lit, pk_mul, Nat.mul_comm]
    rfl
  | i + 1, 0, _, _, _, _, h, _, _, _, _ => absurd h (Nat.not_lt_zero _)
  | i + 1, n + 1, y, r, lp, S, h, hi, hl, hr, hy => by
    have ih := monthOf_loop i n y r lp S (by omega) (by omega) hl hr hy
    have hd := dA_lt (i + 1)
    show B_X2_monthOf_53 _ _ _ _ _ _ = _
    unfold B_X2_monthOf_53 J_X2_monthOf_76 aT
    rw [if_neg (nI_nle (by omega) (by omega)), if_pos (inb_nI (by omega) (by omega)), clamp_nI (by omega), daT_e _ (by omega), nI_sub1 (by omega)]
    simp (disch := omega) only [fa_lit, nI_add, nI_ltI, pk_mul, Nat.add_sub_cancel, ih]
    show _ = some (nI (12 * y + (if r < dl lp (i + 1) then mlA i r lp else i + 1)), S)
    unfold dl
    by_cases h2 : i + 1 < 2
    · rw [if_pos h2, if_neg (by omega : ¬ 2 ≤ i + 1)]
      split <;> simp [Nat.mul_comm]
    · rw [if_neg h2, if_pos (by omega : 2 ≤ i + 1)]
      split <;> simp [Nat.mul_comm]
theorem monthOf_e (d : Nat) (h : d ≤ 36524) (S : St) : F_X2_monthOf (nI d) S = some (nI (mo d), S) := by
  unfold F_X2_monthOf J_X2_monthOf_49 bd mo
  simp (disch := omega) only [fa_lit, pk_div, pk_mul, pk_sub, mod_e, nI_ltI]
  split
  · rw [monthOf_loop 11 6000 _ _ 1 S (by omega) (by omega) (by omega) (by omega) (by omega)]
  · simp (disch := omega) only [pk_sub, pk_div, pk_mul, mod_e, nI_add]
    rw [monthOf_loop 11 6000 _ _ 0 S (by omega) (by omega) (by omega) (by omega) (by omega)]
theorem xor_ge {a b : Nat} (ha : a < 2 ^ 31) (hb : b < 2 ^ 31) : (0 : Int32) ≤ nI a ^^^ nI b := by
  have e : nI a ^^^ nI b = nI (a ^^^ b) := by
    unfold nI
    apply Int32.toBitVec_inj.mp
    simp [Int32.toBitVec_xor, BitVec.ofNat_xor]
  rw [e]
  exact nI_pos' (Nat.xor_lt_two_pow ha hb)
theorem floorMod_e {a b : Nat} (ha : a < 2 ^ 31) (hb : b < 2 ^ 31) (h0 : 0 < b) (S : St) : F_J9_floorMod_7cf53 (nI a) (nI b) S = some (nI (a % b), S) := by
  unfold F_J9_floorMod_7cf53 nz bd J_J9_floorMod_7cf53_18
  rw [if_neg (nI_ne0 h0 hb)]
  dsimp only
  rw [if_pos (xor_ge ha hb), pk_rem ha h0 hb]
theorem firstOf_e (m : Nat) (h : m < 3000) (S : St) : F_X2_firstOf (nI m) S = some (nI (fo m), S) := by
  have hd := dA_lt (m % 12)
  unfold F_X2_firstOf J_X2_firstOf_28 bd
  simp (disch := omega) only [fa_lit, pk_div, pk_mul, pk_sub, mod_e, nI_add, nI_ltI, nI_eq, floorMod_e, cl_some, aT, inb_nI, clamp_nI, if_true, daT_e]
  unfold fo dl
  by_cases h1 : m / 12 % 4 = 0
  · by_cases h2 : m % 12 < 2
    · simp [h1, h2, show ¬ 2 ≤ m % 12 by omega]
    · simp [h1, h2, show 2 ≤ m % 12 by omega]
      congr 1
      omega
  · simp [h1]
/-! four years: 1461 days, 48 months -/
theorem fo_48 (q m : Nat) : fo (48 * q + m) = 1461 * q + fo m := by
  unfold fo
  have h1 : (48 * q + m) / 12 = 4 * q + m / 12 := by omega
  have h2 : (48 * q + m) % 12 = m % 12 := by omega
  have h3 : (4 * q + m / 12) % 4 = m / 12 % 4 := by omega
  rw [h1, h2, h3]
  omega
theorem mo_1461 (q r : Nat) (h : r < 1461) : mo (1461 * q + r) = 48 * q + mo r := by
  unfold mo
  have h1 : (1461 * q + r) / 1461 = q := by omega
  have h2 : (1461 * q + r) % 1461 = r := by omega
  have h3 : r / 1461 = 0 := by omega
  have h4 : r % 1461 = r := by omega
  rw [h1, h2, h3, h4]
  split <;> omega
def all_lt (n : Nat) (p : Nat → Bool) : Bool := (List.range n).all p
theorem all_lt_e {n : Nat} {p : Nat → Bool} (h : all_lt n p = true) {i : Nat} (hi : i < n) : p i = true := List.all_eq_true.mp h i (List.mem_range.mpr hi)
theorem mo_chk : all_lt 1461 (fun r => decide (mo r < 48) && (decide (fo (mo r) ≤ r) && decide (r < fo (mo r + 1)))) = true := by decide +kernel
theorem mo_r {r : Nat} (h : r < 1461) : mo r < 48 ∧ fo (mo r) ≤ r ∧ r < fo (mo r + 1) := by
  have := all_lt_e mo_chk h
  simpa using this
theorem mo_in (d : Nat) : fo (mo d) ≤ d ∧ d < fo (mo d + 1) ∧ mo d / 48 = d / 1461 := by
  have hr : d % 1461 < 1461 := Nat.mod_lt _ (by omega)
  obtain ⟨h1, h2, h3⟩ := mo_r hr
  have e : d = 1461 * (d / 1461) + d % 1461 := by omega
  have e2 : mo d = 48 * (d / 1461) + mo (d % 1461) := by
    conv => lhs; rw [e]
    exact mo_1461 _ _ hr
  rw [e2, fo_48, Nat.add_assoc, fo_48]
  omega
theorem mo_lt {d : Nat} (h : d ≤ 36524) : mo d < 1200 := by
  have := (mo_in d).2.2
  omega
def ln (m : Nat) : Nat := fo (m + 1) - fo m
theorem ln_chk : all_lt 48 (fun r => decide (28 ≤ fo (r + 1) - fo r) && (decide (fo (r + 1) - fo r ≤ 31) && decide (fo r < fo (r + 1)))) = true := by decide +kernel
theorem fo_lt (m : Nat) : fo m < fo (m + 1) ∧ 28 ≤ ln m ∧ ln m ≤ 31 := by
  have hr : m % 48 < 48 := Nat.mod_lt _ (by omega)
  have h := all_lt_e ln_chk hr
  simp only [Bool.and_eq_true, decide_eq_true_eq] at h
  have e : m = 48 * (m / 48) + m % 48 := by omega
  unfold ln
  have e1 : fo m = 1461 * (m / 48) + fo (m % 48) := by conv => lhs; rw [e]; rw [fo_48]
  have e2 : fo (m + 1) = 1461 * (m / 48) + fo (m % 48 + 1) := by
    have : m + 1 = 48 * (m / 48) + (m % 48 + 1) := by omega
    rw [this, fo_48]
  rw [e1, e2]
  omega
theorem fo_mono {a b : Nat} (h : a ≤ b) : fo a ≤ fo b := by
  induction b with
  | zero => rw [Nat.le_zero.mp h]; exact Nat.le_refl _
  | succ b ih =>
    rcases Nat.lt_or_ge a (b + 1) with h1 | h1
    · exact Nat.le_trans (ih (by omega)) (Nat.le_of_lt (fo_lt b).1)
    · rw [Nat.le_antisymm h h1]; exact Nat.le_refl _
theorem fo_bound {m : Nat} (h : m < 3000) : fo m < 100000 := by
  unfold fo
  have h1 := dA_lt (m % 12)
  unfold dl
  split
  · split <;> omega
  · omega
theorem mo_eq {d m : Nat} (h1 : fo m ≤ d) (h2 : d < fo (m + 1)) : mo d = m := by
  obtain ⟨a1, a2, -⟩ := mo_in d
  rcases Nat.lt_trichotomy (mo d) m with h | h | h
  · have := fo_mono (show mo d + 1 ≤ m from h)
    omega
  · exact h
  · have := fo_mono (show m + 1 ≤ mo d from h)
    omega
theorem lengthOf_e (m : Nat) (h : m < 2900) (S : St) : F_X2_lengthOf (nI m) S = some (nI (ln m), S) := by
  have hb := fo_bound (show m + 1 < 3000 by omega)
  have hl := (fo_lt m).1
  unfold F_X2_lengthOf
  simp (disch := omega) only [fa_lit, nI_add, firstOf_e, cl_some, pk_sub]
  rfl
def th (d : Nat) : Nat := 30 * mo d + min 30 (1 + d - fo (mo d))
def ly (d : Nat) : Nat := d / 1461 * 366 + min 366 (d % 1461)
theorem minI_e {a b : Nat} (ha : a < 2 ^ 31) (hb : b < 2 ^ 31) (S : St) : F_J9_min_7cf53 (nI a) (nI b) S = some (nI (min a b), S) := by
  unfold F_J9_min_7cf53 J_J9_min_7cf53_10
  simp only [nI_ltI hb ha]
  split
  · rw [Nat.min_eq_right (by omega)]
  · rw [Nat.min_eq_left (by omega)]
theorem maxI_e {a b : Nat} (ha : a < 2 ^ 31) (hb : b < 2 ^ 31) (S : St) : F_J9_max_7cf53 (nI a) (nI b) S = some (nI (max a b), S) := by
  unfold F_J9_max_7cf53 J_J9_max_7cf53_10
  simp only [nI_ltI ha hb]
  split
  · rw [Nat.max_eq_right (by omega)]
  · rw [Nat.max_eq_left (by omega)]
theorem leapYearDays_e (d : Nat) (h : d ≤ 36524) (S : St) : F_X2_leapYearDays (nI d) S = some (nI (ly d), S) := by
  unfold F_X2_leapYearDays ly
  simp (disch := omega) only [fa_lit, pk_div, pk_mul, pk_sub, mod_e, minI_e, cl_some, nI_add]
theorem thirties_e (d : Nat) (h : d ≤ 36524) (S : St) : F_X2_thirties (nI d) S = some (nI (th d), S) := by
  have h1 := mo_lt h
  have h2 := mo_in d
  unfold F_X2_thirties th
  simp (disch := omega) only [fa_lit, monthOf_e, firstOf_e, cl_some, nI_add, pk_sub, minI_e, pk_mul]
  rw [Nat.mul_comm]
theorem th_bound {d : Nat} (h : d ≤ 36524) : th d < 40000 := by
  have := mo_lt h
  unfold th
  omega
theorem th_chk : all_lt 1461 (fun r => decide (30 * mo r + min 30 (1 + r - fo (mo r)) ≤ 30 * mo (r + 1) + min 30 (1 + (r + 1) - fo (mo (r + 1))))) = true := by decide +kernel
theorem th_1461 (q r : Nat) (h : r < 1461) : th (1461 * q + r) = 1440 * q + th r := by
  unfold th
  rw [mo_1461 q r h, fo_48]
  omega
theorem th_succ (d : Nat) : th d ≤ th (d + 1) := by
  have hr : d % 1461 < 1461 := Nat.mod_lt _ (by omega)
  have hc := of_decide_eq_true (all_lt_e th_chk hr)
  have e : d = 1461 * (d / 1461) + d % 1461 := by omega
  have e1 : th d = 1440 * (d / 1461) + th (d % 1461) := by conv => lhs; rw [e]; rw [th_1461 _ _ hr]
  have e2 : th (d + 1) = 1440 * (d / 1461) + th (d % 1461 + 1) := by
    by_cases h9 : d % 1461 + 1 < 1461
    · have : d + 1 = 1461 * (d / 1461) + (d % 1461 + 1) := by omega
      rw [this, th_1461 _ _ h9]
    · have h8 : d % 1461 + 1 = 1461 := by omega
      have : d + 1 = 1461 * (d / 1461 + 1) + 0 := by omega
      rw [this, th_1461 _ _ (by omega), h8]
      have : th 1461 = 1440 + th 0 := by
        have := th_1461 1 0 (by omega)
        simpa using this
      omega
  rw [e1, e2]
  exact Nat.add_le_add_left hc _
theorem th_mono {a b : Nat} (h : a ≤ b) : th a ≤ th b := by
  induction b with
  | zero => rw [Nat.le_zero.mp h]; exact Nat.le_refl _
  | succ b ih =>
    rcases Nat.lt_or_ge a (b + 1) with h1 | h1
    · exact Nat.le_trans (ih (by omega)) (th_succ b)
    · rw [Nat.le_antisymm h h1]; exact Nat.le_refl _
theorem ly_mono {a b : Nat} (h : a ≤ b) : ly a ≤ ly b ∧ ly b - ly a ≤ b - a := by
  unfold ly
  omega
/-- FRACTION from d to e, in parts -/
def pt (cn d e : Nat) : Nat := if cn = 0 then th e - th d else if cn < 3 then e - d else (ly e - ly d) * 365 + (e - d - (ly e - ly d)) * 366
theorem ly_bound {d : Nat} (h : d ≤ 36524) : ly d < 40000 := by
  unfold ly
  omega
theorem partsBetween_e (cn d e : Nat) (hc : cn ≤ 3) (hde : d ≤ e) (h : e ≤ 36524) (S : St) : F_X2_partsBetween (nI cn) (nI d) (nI e) S = some (lN (pt cn d e), S) := by
  have h1 := th_mono hde
  have h2 := ly_mono hde
  have h3 := th_bound h
  have h4 := ly_bound h
  unfold F_X2_partsBetween pt bd
  by_cases hc0 : cn = 0
  · subst hc0
    simp (disch := omega) only [fa_lit, thirties_e, cl_some, pk_sub, wide_nI, not_true, if_false, if_true]
  · by_cases hc3 : cn < 3
    · simp (disch := omega) only [fa_lit, nI_eq, nI_leI, pk_sub, wide_nI, hc0, not_false_eq_true, if_true, if_false, hc3, show ¬ 3 ≤ cn by omega]
    · simp (disch := omega) only [fa_lit, nI_eq, nI_leI, hc0, not_false_eq_true, if_true, if_false, hc3, show 3 ≤ cn by omega, fa_litL, leapYearDays_e, cl_some, pk_sub, wide_nI, lN_mul, lN_sub, lN_add]
