/-- days of leap years ahead of x, of the first j of them -/
def lyj (x : Nat) : Nat → Nat
  | 0 => 0
  | j + 1 => lyj x j + min 366 (x - 1461 * j)
theorem lyj_mono {a b : Nat} (h : a ≤ b) : ∀ j, lyj a j ≤ lyj b j
  | 0 => Nat.le_refl _
  | j + 1 => by
    have := lyj_mono h j
    unfold lyj
    omega
theorem lyj_e (x : Nat) : ∀ j, lyj x j = (if j ≤ x / 1461 then 366 * j else ly x)
  | 0 => by simp [lyj]
  | j + 1 => by
    have ih := lyj_e x j
    show lyj x j + min 366 (x - 1461 * j) = _
    rw [ih]
    unfold ly
    by_cases h1 : j + 1 ≤ x / 1461
    · simp only [h1, if_true, show j ≤ x / 1461 by omega]
      omega
    · by_cases h2 : j ≤ x / 1461
      · simp only [h1, if_false, h2, if_true]
        have : j = x / 1461 := by omega
        omega
      · simp only [h1, if_false, h2]
        omega
theorem lyj_bound (x : Nat) : ∀ j, lyj x j ≤ 366 * j
  | 0 => Nat.le_refl _
  | j + 1 => by
    have := lyj_bound x j
    unfold lyj
    omega
theorem leapDays_loop (d e : Nat) (hde : d ≤ e) (h : e ≤ 36524) : ∀ (i n j : Nat) (S : St), i < n → j + i = 25 → L_X8_leapDays_6 n (nI d) (nI e) (nI (lyj e j - lyj d j)) (nI (2000 + 4 * j)) S = some (nI (lyj e 25 - lyj d 25), S)
  | _, 0, _, _, h, _ => absurd h (Nat.not_lt_zero _)
  | 0, n + 1, j, S, _, hj => by
    have e1 : j = 25 := by omega
    subst e1
    show B_X8_leapDays_6 _ _ _ _ _ _ = _
    unfold B_X8_leapDays_6
    rw [if_pos (by decide)]
  | i + 1, n + 1, j, S, hn, hj => by
    have ih := leapDays_loop d e hde h i n (j + 1) S (by omega) (by omega)
    have m1 := lyj_mono hde j
    have b1 := lyj_bound e j
    have ys : fo (12 * (4 * j)) = 1461 * j := by rw [fo_12]; omega
    show B_X8_leapDays_6 _ _ _ _ _ _ = _
    unfold B_X8_leapDays_6 J_X8_leapDays_39 J_X8_leapDays_53 J_X8_leapDays_72 bd
    rw [if_neg (by rw [show (2096 : Int32) = nI 2096 from rfl, nI_ltI (by omega) (by omega)]; omega), yearStart_e _ (by omega), cl_some, ys]
    have e4 : nI (2000 + 4 * j) + 4 = nI (2000 + 4 * (j + 1)) := by
      rw [show (4 : Int32) = nI 4 from rfl, nI_add]
      rfl
    rw [e4]
    have eS : lyj e (j + 1) - lyj d (j + 1) = lyj e j - lyj d j + (min 366 (e - 1461 * j) - min 366 (d - 1461 * j)) := by
      show (lyj e j + _) - (lyj d j + _) = _
      omega
    rw [eS] at ih
    simp (disch := omega) only [fa_lit, nI_add, nI_leI]
    by_cases q1 : 1461 * j ≤ d
    · by_cases q2 : e ≤ 1461 * j + 366
      · by_cases q3 : e ≤ d
        · simp (disch := omega) only [q1, q2, q3, if_true]
          rw [← ih]
          congr 2
          omega
        · simp (disch := omega) only [q1, q2, q3, if_true, if_false, pk_sub, nI_add]
          rw [← ih]
          congr 2
          omega
      · by_cases q3 : 1461 * j + 366 ≤ d
        · simp (disch := omega) only [q1, q2, q3, if_true, if_false]
          rw [← ih]
          congr 2
          omega
        · simp (disch := omega) only [q1, q2, q3, if_true, if_false, pk_sub, nI_add]
          rw [← ih]
          congr 2
          omega
    · by_cases q2 : e ≤ 1461 * j + 366
      · by_cases q3 : e ≤ 1461 * j
        · simp (disch := omega) only [q1, q2, q3, if_true, if_false]
          rw [← ih]
          congr 2
          omega
        · simp (disch := omega) only [q1, q2, q3, if_true, if_false, pk_sub, nI_add]
          rw [← ih]
          congr 2
          omega
      · by_cases q3 : 1461 * j + 366 ≤ 1461 * j
        · omega
        · simp (disch := omega) only [q1, q2, q3, if_true, if_false, pk_sub, nI_add]
          rw [← ih]
          congr 2
          omega
theorem lyj_25 {x : Nat} (h : x ≤ 36524) : lyj x 25 = ly x := by
  rw [lyj_e, if_neg (by omega)]
theorem leapDays_e (d e : Nat) (hde : d ≤ e) (h : e ≤ 36524) (S : St) : F_X8_leapDays (nI d) (nI e) S = some (nI (ly e - ly d), S) := by
  unfold F_X8_leapDays
  have := leapDays_loop d e hde h 25 6000 0 S (by omega) (by omega)
  rw [lyj_25 h, lyj_25 (by omega)] at this
  exact this
theorem ofInt_nI (n : Nat) : nI n = Int32.ofInt n := by
  apply Int32.toBitVec_inj.mp
  unfold nI
  simp [Int32.ofInt, Int32.ofNat]
theorem refthirties_e (d e : Nat) (hde : d ≤ e) (h : e ≤ 36524) (S : St) : F_X8_thirties (nI d) (nI e) S = some (nI (th e - th d), S) := by
  have h1 := mo_lt h
  have h2 := mo_in d
  have h3 := mo_in e
  have h4 := mo_lt (show d ≤ 36524 by omega)
  have l1 := fo_lt (mo d)
  have l2 := fo_lt (mo e)
  have l3 : d - fo (mo d) < ln (mo d) := by unfold ln; omega
  have l4 : e - fo (mo e) < ln (mo e) := by unfold ln; omega
  have hm := th_mono hde
  have key : ∀ f s : Nat, f = min 30 (1 + d - fo (mo d)) → s = min 30 (1 + e - fo (mo e)) → (((nI 360 * (nI (2000 + mo e / 12) - nI (2000 + mo d / 12)) + nI 30 * (nI (mo e % 12 + 1) - nI (mo d % 12 + 1))) + nI s) - nI f) = nI (th e - th d) := by
    intro f s hf hs
    rw [← pk_sub hm]
    simp only [ofInt_nI, ← Int32.ofInt_sub, ← Int32.ofInt_mul, ← Int32.ofInt_add]
    congr 1
    unfold th
    rw [hf, hs]
    omega
  unfold F_X8_thirties J_X8_thirties_28 J_X8_thirties_48
  rw [monthAndDay_e d (by omega), cl_some, monthAndDay_e e h, cl_some]
  have e1 : (100 * (mo d % 12 + 1) + (d - fo (mo d)) + 1) / 100 = mo d % 12 + 1 := by omega
  have e2 : (100 * (mo e % 12 + 1) + (e - fo (mo e)) + 1) / 100 = mo e % 12 + 1 := by omega
  have e3 : (100 * (mo d % 12 + 1) + (d - fo (mo d)) + 1) % 100 = d - fo (mo d) + 1 := by omega
  have e4 : (100 * (mo e % 12 + 1) + (e - fo (mo e)) + 1) % 100 = e - fo (mo e) + 1 := by omega
  simp (disch := omega) only [fa_lit, pk_div, pk_mul, pk_sub, mod_e, nI_leI, yearOf_e, cl_some, e1, e2, e3, e4]
  split
  · split
    · rw [key _ _ (by omega) (by omega)]
    · rw [key _ _ (by omega) (by omega)]
  · split
    · rw [key _ _ (by omega) (by omega)]
    · rw [key _ _ (by omega) (by omega)]
/-- parts of a year by COUNT -/
def py (cn : Nat) : Nat := if cn < 2 then 360 else if cn = 2 then 365 else 133590
/-- INTEREST in cents -/
def ic (b rate cn p : Nat) : Nat := (b * rate * p + py cn * 10000 / 2) / (py cn * 10000)
theorem py_e (cn : Nat) : py cn = 360 ∨ py cn = 365 ∨ py cn = 133590 := by
  unfold py
  split
  · exact Or.inl rfl
  · split
    · exact Or.inr (Or.inl rfl)
    · exact Or.inr (Or.inr rfl)
theorem cents_e (x cn p : Nat) (hc : cn ≤ 3) (hx : x * p + 1000000000 < 2 ^ 63) (S : St) : F_X2_cents (lN x) (nI cn) (lN p) S = some (lN ((x * p + py cn * 10000 / 2) / (py cn * 10000)), S) := by
  have key : ∀ y : Nat, (y = 360 ∨ y = 365 ∨ y = 133590) → J_X2_cents_25 (lN x) (lN p) (lN y) S = some (lN ((x * p + y * 10000 / 2) / (y * 10000)), S) := by
    intro y hy
    unfold J_X2_cents_25 nz bd
    simp (disch := omega) only [fa_litL, lN_mul, lN_eq63, show ¬ y * 10000 = 0 by omega, if_false, pk_lDiv, lN_add]
  unfold F_X2_cents py
  simp (disch := omega) only [fa_lit, nI_leI, nI_eq, fa_litL]
  by_cases h2 : cn < 2
  · simp only [h2, if_true, show ¬ 2 ≤ cn by omega, if_false]
    exact key 360 (by omega)
  · by_cases h3 : cn = 2
    · simp only [h3, show (2 : Nat) ≤ 2 by omega, not_true, if_true, if_false, show ¬ (2 : Nat) < 2 by omega]
      exact key 365 (by omega)
    · simp only [h2, h3, show 2 ≤ cn by omega, not_false_eq_true, if_true, if_false]
      exact key 133590 (by omega)
theorem round_e (x h : Nat) (h0 : 0 < h) : (x + h) / (2 * h) = x / (2 * h) + (if x % (2 * h) * 2 < 2 * h then 0 else 1) := by
  have hd := Nat.div_add_mod x (2 * h)
  have hm := Nat.mod_lt x (show 0 < 2 * h by omega)
  generalize x / (2 * h) = q at hd ⊢
  generalize x % (2 * h) = r at hd hm ⊢
  have hx : x + h = (r + h) + (2 * h) * q := by omega
  rw [hx, Nat.add_mul_div_left _ _ (by omega)]
  by_cases hr : r < h
  · rw [if_pos (by omega), Nat.div_eq_of_lt (by omega)]
    omega
  · rw [if_neg (by omega)]
    have : (r + h) / (2 * h) = 1 := by
      rw [Nat.div_eq_iff (by omega)]
      omega
    omega
theorem pt_bound {cn d e : Nat} (hde : d ≤ e) (h : e ≤ 36524) : pt cn d e < 20000000 := by
  have h2 := ly_mono hde
  have h3 := th_bound h
  unfold pt
  split
  · omega
  · split
    · omega
    · omega
theorem mul_le3 {a b c A B C : Nat} (ha : a ≤ A) (hb : b ≤ B) (hc : c ≤ C) : a * b * c ≤ A * B * C := Nat.mul_le_mul (Nat.mul_le_mul ha hb) hc
theorem prod_bound {b rate cn d e : Nat} (hb : b ≤ 100000000) (hr : rate ≤ 5000) (hde : d ≤ e) (h : e ≤ 36524) : b * rate * pt cn d e < 2 ^ 63 ∧ (cn ≤ 3 → b * rate * pt cn d e + 1000000000 < 2 ^ 63) := by
  have h2 := ly_mono hde
  have h3 := th_bound h
  have hp : pt cn d e ≤ 13400000 := by
    unfold pt
    split
    · omega
    · split
      · omega
      · omega
  have := mul_le3 hb hr hp
  omega
theorem ri_key (x D h : Nat) (hD : D = 2 * h) (h0 : 0 < h) (hD2 : D < 2 ^ 40) (hx : x < 2 ^ 63) (S : St) : (nz 0 (lN D) <| nz 0 (lN D) <| if ((lN x - lN x / lN D * lN D) * (2 : Int64)) < lN D then (J_X8_interestOf_125 (0 : Int32) (lN x / lN D) S) else (J_X8_interestOf_125 (1 : Int32) (lN x / lN D) S)) = some (lN ((x + h) / D), S) := by
  have hm := Nat.mod_lt x (show 0 < D by omega)
  have e1 : lN x / lN D = lN (x / D) := pk_lDiv hx (by omega) (by omega)
  have e2 : lN x - lN (x / D) * lN D = lN (x % D) := by rw [lN_mul, lN_sub (Nat.div_mul_le_self x D), mod_e]
  have e3 : ¬ lN D = 0 := by
    rw [show (0 : Int64) = lN 0 from rfl, lN_eq63 (by omega) (by omega)]
    omega
  have e4 : lN (x % D) * (2 : Int64) = lN (x % D * 2) := by rw [show (2 : Int64) = lN 2 from rfl, lN_mul]
  unfold nz J_X8_interestOf_125
  rw [if_neg e3, if_neg e3, e1, e2, e4, hD, round_e x h h0, ← hD]
  by_cases q : x % D * 2 < D
  · rw [if_pos q, if_pos ((lN_lt63 (by omega) (by omega)).mpr q)]
    rw [show Int32.toInt64 0 = lN 0 from rfl, lN_add]
  · rw [if_neg q, if_neg (fun z => q ((lN_lt63 (by omega) (by omega)).mp z))]
    rw [show Int32.toInt64 1 = lN 1 from rfl, lN_add]
theorem ri_84 (b rate p y h : Nat) (hy : y * 10000 = 2 * h) (h0 : 0 < h) (hD2 : y * 10000 < 2 ^ 40) (hx : b * rate * p < 2 ^ 63) (S : St) : J_X8_interestOf_84 (lN b) (lN rate) (lN p) (lN y) S = some (lN ((b * rate * p + h) / (y * 10000)), S) := by
  unfold J_X8_interestOf_84 bd
  rw [lN_mul, lN_mul, show (10000 : Int64) = lN 10000 from rfl, lN_mul]
  exact ri_key _ _ h hy h0 hD2 hx S
theorem ri_0 (b r p : Nat) (d e : Int32) (hp : p < 2 ^ 31) (S : St) : J_X8_interestOf_22 (lN b) (lN r) (nI 0) d e (lN p) S = J_X8_interestOf_84 (lN b) (lN r) (lN p) (lN 360) S := by
  unfold J_X8_interestOf_22 J_X8_interestOf_39
  rw [if_pos (by decide), if_pos (by decide)]
  rfl
theorem ri_1 (b r p cn : Nat) (d e : Int32) (h2 : cn ≠ 2) (h3 : cn ≠ 3) (hc : cn ≤ 3) (S : St) : J_X8_interestOf_22 (lN b) (lN r) (nI cn) d e (lN p) S = J_X8_interestOf_84 (lN b) (lN r) (lN p) (lN 360) S := by
  unfold J_X8_interestOf_22 J_X8_interestOf_39
  simp (disch := omega) only [fa_lit, fa_litL, nI_eq, h2, h3, not_false_eq_true, if_true]
theorem ri_2 (b r p : Nat) (d e : Int32) (S : St) : J_X8_interestOf_22 (lN b) (lN r) (nI 2) d e (lN p) S = J_X8_interestOf_84 (lN b) (lN r) (lN p) (lN 365) S := by
  unfold J_X8_interestOf_22 J_X8_interestOf_39
  rw [if_neg (fun z => z rfl), if_pos (by decide)]
  rfl
theorem bd_e {α β : Type} (x : α) (K : α → β) : bd x K = K x := rfl
theorem ri_3a (b r p : Nat) (d e : Int32) (S : St) : J_X8_interestOf_22 (lN b) (lN r) (nI 3) d e (lN p) S = (cl (F_X8_leapDays d e S) fun r51 S51 => bd ((Int32.toInt64 r51)) fun v55 => bd (((v55 * (365 : Int64)) + (((Int32.toInt64 (e - d)) - v55) * (366 : Int64)))) fun v77 => J_X8_interestOf_84 (lN b) (lN r) v77 (133590 : Int64) S51) := by
  unfold J_X8_interestOf_22 J_X8_interestOf_39
  rw [if_pos (by decide), if_neg (fun z => z rfl)]
theorem ri_3b (d e q : Nat) (hde : d ≤ e) (h : e ≤ 36524) (h2 : q ≤ e - d) : (lN q * (365 : Int64)) + (((Int32.toInt64 (nI e - nI d)) - lN q) * (366 : Int64)) = lN (q * 365 + (e - d - q) * 366) := by
  simp (disch := omega) only [fa_litL, wide_nI, pk_sub, lN_sub, lN_mul, lN_add]
theorem ri_3 (b r p d e : Nat) (hde : d ≤ e) (h : e ≤ 36524) (S : St) : J_X8_interestOf_22 (lN b) (lN r) (nI 3) (nI d) (nI e) (lN p) S = J_X8_interestOf_84 (lN b) (lN r) (lN ((ly e - ly d) * 365 + (e - d - (ly e - ly d)) * 366)) (lN 133590) S := by
  have h2 := ly_mono hde
  have h4 := ly_bound h
  rw [ri_3a, leapDays_e d e hde h, cl_some, bd_e, bd_e, wide_nI (by omega), ri_3b d e _ hde h h2.2]
  simp only [fa_litL]
theorem refInterestOf_e (b rate cn d e : Nat) (hb : b ≤ 100000000) (hr : rate ≤ 5000) (hc : cn ≤ 3) (hde : d ≤ e) (h : e ≤ 36524) (S : St) : F_X8_interestOf (lN b) (lN rate) (nI cn) (nI d) (nI e) S = some (lN (ic b rate cn (pt cn d e)), S) := by
  obtain ⟨hp, -⟩ := prod_bound (cn := cn) hb hr hde h
  have h1 := th_mono hde
  have h3 := th_bound h
  have key : ∀ y : Nat, (y = 360 ∨ y = 365 ∨ y = 133590) → py cn = y → J_X8_interestOf_84 (lN b) (lN rate) (lN (pt cn d e)) (lN y) S = some (lN (ic b rate cn (pt cn d e)), S) := by
    intro y hy hpy
    unfold ic
    rw [hpy]
    exact ri_84 b rate _ y (y * 10000 / 2) (by omega) (by omega) (by omega) hp S
  unfold F_X8_interestOf
  by_cases c0 : cn = 0
  · subst c0
    rw [if_neg (fun z => z rfl), refthirties_e d e hde h, cl_some, wide_nI (by omega), ri_0 _ _ _ _ _ (by omega)]
    exact key 360 (Or.inl rfl) rfl
  · rw [if_pos (nI_ne0 (by omega) (by omega)), pk_sub hde, wide_nI (by omega)]
    by_cases c3 : cn = 3
    · subst c3
      rw [ri_3 _ _ _ _ _ hde h]
      exact key 133590 (Or.inr (Or.inr rfl)) rfl
    · have hpt : pt cn d e = e - d := by unfold pt; rw [if_neg c0, if_pos (by omega)]
      by_cases c2 : cn = 2
      · subst c2
        rw [ri_2, ← hpt]
        exact key 365 (Or.inr (Or.inl rfl)) rfl
      · rw [ri_1 _ _ _ _ _ _ c2 c3 hc, ← hpt]
        exact key 360 (Or.inl rfl) (by unfold py; rw [if_pos (by omega)])
