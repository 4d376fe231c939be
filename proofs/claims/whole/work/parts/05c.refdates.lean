/-! THE REFERENCE'S CALENDAR, and INTEREST of both -/
theorem isLeap_e (y : Nat) (h : y < 100000) (S : St) : F_X8_isLeap (nI y) S = some (if y % 4 = 0 then 1 else 0, S) := by
  unfold F_X8_isLeap J_X8_isLeap_11
  simp (disch := omega) only [fa_lit, pk_div, pk_mul, pk_sub, mod_e, nI_eq]
  by_cases h4 : y % 4 = 0
  · simp only [h4, not_true, if_false, if_true]; rfl
  · simp only [h4, not_false_eq_true, if_false, if_true]; rfl
theorem ln_chk2 : all_lt 48 (fun r => decide (fo (r + 1) - fo r = (if r % 12 = 1 then (if r / 12 % 4 = 0 then 29 else 28) else if r % 12 = 3 ∨ r % 12 = 5 ∨ r % 12 = 8 ∨ r % 12 = 10 then 30 else 31))) = true := by decide +kernel
theorem ln_48 (q m : Nat) : ln (48 * q + m) = ln m := by
  unfold ln
  rw [Nat.add_assoc, fo_48, fo_48]
  omega
theorem ln_e (Y mm : Nat) (h : mm < 12) : ln (12 * Y + mm) = (if mm = 1 then (if Y % 4 = 0 then 29 else 28) else if mm = 3 ∨ mm = 5 ∨ mm = 8 ∨ mm = 10 then 30 else 31) := by
  have hr : 12 * (Y % 4) + mm < 48 := by omega
  have hc := of_decide_eq_true (all_lt_e ln_chk2 hr)
  have e : 12 * Y + mm = 48 * (Y / 4) + (12 * (Y % 4) + mm) := by omega
  rw [e, ln_48]
  have e1 : (12 * (Y % 4) + mm) % 12 = mm := by omega
  have e2 : (12 * (Y % 4) + mm) / 12 % 4 = Y % 4 := by omega
  rw [e1, e2] at hc
  exact hc
theorem lastOf_e (Y mm : Nat) (h : mm < 12) (hY : Y < 1000) (S : St) : F_X8_lastOf (nI (2000 + Y)) (nI (1 + mm)) S = some (nI (ln (12 * Y + mm)), S) := by
  rw [ln_e Y mm h]
  unfold F_X8_lastOf J_X8_lastOf_45 J_X8_lastOf_52
  simp (disch := omega) only [fa_lit, nI_eq, isLeap_e, cl_some]
  have hl : (2000 + Y) % 4 = Y % 4 := by omega
  rw [hl]
  by_cases h1 : mm = 1
  · subst h1
    by_cases h4 : Y % 4 = 0
    · simp (disch := omega) [h4, nI_eq]
    · simp (disch := omega) [h4, nI_eq]
  · simp only [h1, if_false, show ¬ (1 + mm = 2) by omega, not_false_eq_true, if_true]
    by_cases h3 : mm = 3
    · subst h3; simp
    · by_cases h5 : mm = 5
      · subst h5; simp
      · by_cases h8 : mm = 8
        · subst h8; simp
        · by_cases h10 : mm = 10
          · subst h10; simp
          · simp [h3, h5, h8, h10, show ¬ (1 + mm = 4) by omega, show ¬ (1 + mm = 6) by omega, show ¬ (1 + mm = 9) by omega, show ¬ (1 + mm = 11) by omega]
theorem mo_div (d : Nat) : mo d / 12 = (if d % 1461 < 366 then d / 1461 * 4 else d / 1461 * 4 + (1 + (d % 1461 - 366) / 365)) := by
  unfold mo
  split
  · have := mlA_le 11 (d % 1461) 1
    omega
  · have := mlA_le 11 ((d % 1461 - 366) % 365) 0
    omega
theorem yearOf_e (d : Nat) (h : d ≤ 36524) (S : St) : F_X8_yearOf (nI d) S = some (nI (2000 + mo d / 12), S) := by
  rw [mo_div]
  unfold F_X8_yearOf J_X8_yearOf_42 bd
  simp (disch := omega) only [fa_lit, pk_div, pk_mul, pk_sub, mod_e, nI_add, nI_leI]
  by_cases h1 : d % 1461 < 366
  · simp only [h1, if_true, show ¬ 366 ≤ d % 1461 by omega, if_false]
  · simp (disch := omega) only [h1, if_false, show 366 ≤ d % 1461 by omega, if_true, pk_sub, pk_div, nI_add]
    congr 3
    omega
theorem fo_12 (Y : Nat) : fo (12 * Y) = 365 * Y + (Y + 3) / 4 := by
  unfold fo dl
  have h1 : 12 * Y / 12 = Y := by omega
  have h2 : 12 * Y % 12 = 0 := by omega
  rw [h1, h2]
  simp [dA]
  omega
theorem yearStart_e (Y : Nat) (hY : Y < 1000) (S : St) : F_X8_yearStart (nI (2000 + Y)) S = some (nI (fo (12 * Y)), S) := by
  rw [fo_12]
  unfold F_X8_yearStart bd
  simp (disch := omega) only [fa_lit, pk_sub, pk_mul, nI_add, pk_div, Nat.add_sub_cancel_left]
theorem mad_loop (d : Nat) (h : d ≤ 36524) : ∀ (j n mm : Nat) (S : St), j < n → mm + j = mo d % 12 → L_X8_monthAndDay_14 n (nI (2000 + mo d / 12)) (nI (d - fo (12 * (mo d / 12) + mm))) (nI (1 + mm)) S = some (nI (100 * (mo d % 12 + 1) + (d - fo (mo d)) + 1), S)
  | _, 0, _, _, h, _ => absurd h (Nat.not_lt_zero _)
  | 0, n + 1, mm, S, _, hm => by
    have hmo := mo_lt h
    have hin := mo_in d
    have hln := fo_lt (mo d)
    have e : 12 * (mo d / 12) + mm = mo d := by omega
    show B_X8_monthAndDay_14 _ _ _ _ _ = _
    unfold B_X8_monthAndDay_14
    rw [lastOf_e _ _ (by omega) (by omega), cl_some, e]
    have hlt : d - fo (mo d) < ln (mo d) := by unfold ln; omega
    simp (disch := omega) only [nI_ltI, hlt, if_true, fa_lit, pk_mul, nI_add]
    congr 3
    omega
  | j + 1, n + 1, mm, S, hn, hm => by
    have hmo := mo_lt h
    have hin := mo_in d
    have ih := mad_loop d h j n (mm + 1) S (by omega) (by omega)
    have hf := fo_lt (12 * (mo d / 12) + mm)
    have hm1 := fo_mono (show 12 * (mo d / 12) + mm + 1 ≤ mo d by omega)
    show B_X8_monthAndDay_14 _ _ _ _ _ = _
    unfold B_X8_monthAndDay_14 bd
    rw [lastOf_e _ _ (by omega) (by omega), cl_some, lastOf_e _ _ (by omega) (by omega), cl_some]
    have hge : ¬ d - fo (12 * (mo d / 12) + mm) < ln (12 * (mo d / 12) + mm) := by unfold ln; omega
    simp (disch := omega) only [nI_ltI, hge, if_false]
    rw [pk_sub (by omega)]
    have e2 : d - fo (12 * (mo d / 12) + mm) - ln (12 * (mo d / 12) + mm) = d - fo (12 * (mo d / 12) + (mm + 1)) := by
      unfold ln
      rw [← Nat.add_assoc]
      omega
    rw [e2, show nI (1 + mm) + 1 = nI (1 + (mm + 1)) from nI_1 _]
    exact ih
theorem monthAndDay_e (d : Nat) (h : d ≤ 36524) (S : St) : F_X8_monthAndDay (nI d) S = some (nI (100 * (mo d % 12 + 1) + (d - fo (mo d)) + 1), S) := by
  have hmo := mo_lt h
  have hin := mo_in d
  have h12 := fo_mono (show 12 * (mo d / 12) ≤ mo d by omega)
  unfold F_X8_monthAndDay bd
  rw [yearOf_e d h, cl_some, yearStart_e _ (by omega), cl_some, pk_sub (by omega)]
  exact mad_loop d h (mo d % 12) 6000 0 S (by omega) (by omega)
theorem toDay_loop (Y q mm : Nat) (hY : Y < 1000) (hq : q ≤ 1000) (hm : mm < 12) : ∀ (j n i : Nat) (S : St), j < n → i + j = mm → L_X8_toDay_12 n (nI (2000 + Y)) (nI (1 + mm)) (nI (fo (12 * Y + i) + q)) (nI (1 + i)) S = some (nI (fo (12 * Y + mm) + q), S)
  | _, 0, _, _, h, _ => absurd h (Nat.not_lt_zero _)
  | 0, n + 1, i, S, _, hi => by
    have e : i = mm := by omega
    subst e
    show B_X8_toDay_12 _ _ _ _ _ _ = _
    unfold B_X8_toDay_12
    rw [if_pos (Int32.le_refl _)]
  | j + 1, n + 1, i, S, hn, hi => by
    have ih := toDay_loop Y q mm hY hq hm j n (i + 1) S (by omega) (by omega)
    show B_X8_toDay_12 _ _ _ _ _ _ = _
    unfold B_X8_toDay_12 bd
    have hle : ¬ 1 + mm ≤ 1 + i := by omega
    simp (disch := omega) only [nI_leI, hle, if_false]
    rw [lastOf_e _ _ (by omega) (by omega), cl_some, nI_add]
    have e2 : fo (12 * Y + i) + q + ln (12 * Y + i) = fo (12 * Y + (i + 1)) + q := by
      have := fo_lt (12 * Y + i)
      unfold ln
      rw [← Nat.add_assoc (12 * Y)]
      omega
    rw [e2, show nI (1 + i) + 1 = nI (1 + (i + 1)) from nI_1 _]
    exact ih
theorem toDay_e (Y mm q : Nat) (hY : Y < 1000) (hm : mm < 12) (hq : q < 1000) (S : St) : F_X8_toDay (nI (2000 + Y)) (nI (1 + mm)) (nI (q + 1)) S = some (nI (fo (12 * Y + mm) + q), S) := by
  unfold F_X8_toDay bd
  rw [yearStart_e _ hY, cl_some, nI_add, show (1 : Int32) = nI 1 from rfl, pk_sub (by omega)]
  have e : fo (12 * Y) + (q + 1) - 1 = fo (12 * Y + 0) + q := by show fo (12 * Y) + (q + 1) - 1 = fo (12 * Y) + q; omega
  rw [e]
  exact toDay_loop Y q mm hY (by omega) hm mm 6000 0 S (by omega) (by omega)
/-- the END of PERIOD k of a LOAN from day s on -/
def pe (s k : Nat) : Nat := fo (mo s + k) + min (s - fo (mo s)) (ln (mo s + k) - 1)
theorem monthsBehind_e (s k : Nat) (h : s ≤ 36524) (hk : k < 1000) (S : St) : F_X8_monthsBehind (nI s) (nI k) S = some (nI (if mo s + k < 1200 then pe s k else 36525), S) := by
  have hmo := mo_lt h
  have hin := mo_in s
  have hln := fo_lt (mo s)
  have hln2 := fo_lt (mo s + k)
  have hb := fo_bound (show mo s + k < 3000 by omega)
  have hlt : s - fo (mo s) < ln (mo s) := by unfold ln; omega
  unfold F_X8_monthsBehind J_X8_monthsBehind_80 bd
  rw [monthAndDay_e s h, cl_some, yearOf_e s h, cl_some]
  simp (disch := omega) only [fa_lit, pk_mul, pk_div, pk_sub, nI_add, mod_e, nI_leI]
  have e1 : (12 * (2000 + mo s / 12) + (100 * (mo s % 12 + 1) + (s - fo (mo s)) + 1) / 100 - 1 + k) = 24000 + (mo s + k) := by omega
  rw [e1]
  have e2 : (24000 + (mo s + k)) / 12 = 2000 + (mo s + k) / 12 := by omega
  have e3 : (24000 + (mo s + k)) % 12 + 1 = 1 + (mo s + k) % 12 := by omega
  have e4 : (100 * (mo s % 12 + 1) + (s - fo (mo s)) + 1) % 100 = s - fo (mo s) + 1 := by omega
  rw [e2, e3, e4]
  by_cases h12 : mo s + k < 1200
  · simp only [h12, if_true, show 2000 + (mo s + k) / 12 ≤ 2099 by omega]
    rw [lastOf_e _ _ (by omega) (by omega), cl_some, show 12 * ((mo s + k) / 12) + (mo s + k) % 12 = mo s + k by omega]
    simp (disch := omega) only [nI_leI]
    unfold pe
    by_cases hl : ln (mo s + k) ≤ s - fo (mo s) + 1
    · simp only [hl, if_true]
      obtain ⟨q, hq⟩ : ∃ q, ln (mo s + k) = q + 1 := ⟨ln (mo s + k) - 1, by omega⟩
      rw [hq, toDay_e _ _ q (by omega) (by omega) (by omega), cl_some, show 12 * ((mo s + k) / 12) + (mo s + k) % 12 = mo s + k by omega, Nat.min_eq_right (by omega), Nat.add_sub_cancel]
    · simp only [hl, if_false]
      rw [toDay_e _ _ _ (by omega) (by omega) (by omega), cl_some, show 12 * ((mo s + k) / 12) + (mo s + k) % 12 = mo s + k by omega, Nat.min_eq_left (by omega)]
  · simp only [h12, if_false, show ¬ 2000 + (mo s + k) / 12 ≤ 2099 by omega]
