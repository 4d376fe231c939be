/-! date, dayOf, interest -/
theorem inw_e (a : Int32) (m n : Nat) (hm : m < 2 ^ 31) (hn : n < 2 ^ 31) (S : St) : F_X8_in (Int32.toInt64 a) (lN m) (lN n) S = some (if a < nI m ∨ nI n < a then 0 else 1, S) := by
  rw [in_e, ← wide_nI hm, ← wide_nI hn]
  simp only [lt_wide]
theorem refIsDay_e (a : Int32) (S : St) : F_X8_isDay a S = some (if a < nI 0 ∨ nI 36524 < a then 0 else 1, S) := by
  unfold F_X8_isDay
  simp only [fa_litL, inw_e _ _ _ (show 0 < 2 ^ 31 by omega) (show 36524 < 2 ^ 31 by omega), cl_some]
  split <;> rfl
theorem isDay_e (a : Int32) (S : St) : F_X7_isDay a S = some (if a < nI 0 ∨ nI 36524 < a then 0 else 1, S) := by
  unfold F_X7_isDay
  simp only [fa_lit, within_e, cl_some]
  split <;> rfl
theorem isRate_e (a : Int32) (S : St) : F_X7_isRate a S = some (if a < nI 0 ∨ nI 5000 < a then 0 else 1, S) := by
  unfold F_X7_isRate
  simp only [fa_lit, within_e, cl_some]
  split <;> rfl
theorem isHolder_e (a : Int32) (S : St) : F_X7_isHolder a S = some (if a < nI 0 ∨ nI 5 < a then 0 else 1, S) := by
  unfold F_X7_isHolder
  simp only [fa_lit, within_e, cl_some]
  split <;> rfl
theorem refIsHolder_e (c : Nat) (a : Int32) (S : St) : F_X8_isHolder c a S = some (if a < nI 0 ∨ nI 5 < a then 0 else 1, S) := by
  unfold F_X8_isHolder
  simp only [fa_litL, inw_e _ _ _ (show 0 < 2 ^ 31 by omega) (show 5 < 2 ^ 31 by omega), cl_some]
  split <;> rfl
/-- a number between two natural ones, or not -/
theorem between (a : Int32) (m n : Nat) (hm : m < 2 ^ 31) (hn : n < 2 ^ 31) : (a < nI m ∨ nI n < a) ∨ (¬ (a < nI m ∨ nI n < a) ∧ ∃ k, a = nI k ∧ m ≤ k ∧ k ≤ n) := by
  by_cases h : a < nI m ∨ nI n < a
  · exact Or.inl h
  · refine Or.inr ⟨h, ?_⟩
    have h1 : ¬ a < nI m := fun z => h (Or.inl z)
    have h2 : ¬ nI n < a := fun z => h (Or.inr z)
    rcases nI_or_neg a with h0 | ⟨k, hk, rfl⟩
    · exact absurd (neg_nle h0 hm) h1
    · rw [nI_ltI hk hm] at h1
      rw [nI_ltI hn hk] at h2
      exact ⟨k, rfl, by omega, by omega⟩
theorem betweenL (a : Int64) (m n : Nat) (hm : m < 2 ^ 63) (hn : n < 2 ^ 63) : (a < lN m ∨ lN n < a) ∨ (¬ (a < lN m ∨ lN n < a) ∧ ∃ k, a = lN k ∧ m ≤ k ∧ k ≤ n) := by
  by_cases h : a < lN m ∨ lN n < a
  · exact Or.inl h
  · refine Or.inr ⟨h, ?_⟩
    have h1 : ¬ a < lN m := fun z => h (Or.inl z)
    have h2 : ¬ lN n < a := fun z => h (Or.inr z)
    rcases lN_or_neg a with h0 | ⟨k, hk, rfl⟩
    · exact absurd (neg_nleL h0 hm) h1
    · rw [lN_lt63 hk hm] at h1
      rw [lN_lt63 hn hk] at h2
      exact ⟨k, rfl, by omega, by omega⟩
theorem ne10 : ¬ (1 : Int32) = 0 := by decide
theorem sw_e {β : Type} (x : Int32) (d : β) (k : Int32) (a : β) (l : List (Int32 × β)) : sw x d ((k, a) :: l) = if x = k then a else sw x d l := rfl
theorem sw_n {β : Type} (x : Int32) (d : β) : sw x d [] = d := rfl
theorem c_date (a1 a2 : Int32) (S : St) : ∃ r, F_X7_date 0 a1 a2 S = some (r, S) ∧ F_X8_date 202 a1 a2 S = some (r, S) := by
  unfold F_X7_date F_X8_date
  rw [isDay_e, refIsDay_e, cl_some, cl_some]
  rcases between a1 0 36524 (by omega) (by omega) with h | ⟨h, d, rfl, -, hd⟩
  · simp only [h, if_true, not_true, if_false, J_X8_date_19]
    exact ⟨_, rfl, rfl⟩
  · have hmo := mo_lt hd
    have hin := mo_in d
    have hln := fo_lt (mo d)
    have hlt : d - fo (mo d) < ln (mo d) := by unfold ln; omega
    simp only [h, if_false, ne10, not_false_eq_true, if_true]
    rw [monthOf_e d hd, cl_some]
    simp only [fa_litL, inw_e _ _ _ (show 0 < 2 ^ 31 by omega) (show 3 < 2 ^ 31 by omega), cl_some]
    rcases between a2 0 3 (by omega) (by omega) with h2 | ⟨h2, w, rfl, -, hw⟩
    · simp only [h2, if_true, not_true, if_false, J_X8_date_19]
      refine ⟨_, ?_, rfl⟩
      simp only [sw_e, sw_n, fa_lit]
      have n0 : ¬ a2 = nI 0 := fun z => by subst z; revert h2; decide
      have n1 : ¬ a2 = nI 1 := fun z => by subst z; revert h2; decide
      have n2 : ¬ a2 = nI 2 := fun z => by subst z; revert h2; decide
      have n3 : ¬ a2 = nI 3 := fun z => by subst z; revert h2; decide
      simp only [n0, n1, n2, n3, if_false]
    · simp only [h2, if_false, ne10, not_false_eq_true, if_true]
      rw [yearOf_e d hd, cl_some, monthAndDay_e d hd, cl_some]
      simp (disch := omega) only [sw_e, sw_n, fa_lit, nI_eq, pk_div, pk_mul, pk_sub, mod_e, nI_add, firstOf_e, cl_some, isLeap_e, J_X8_date_78, J_X7_date_83]
      have hw4 : w = 0 ∨ w = 1 ∨ w = 2 ∨ w = 3 := by omega
      rcases hw4 with rfl | rfl | rfl | rfl
      · exact ⟨_, rfl, rfl⟩
      · refine ⟨_, rfl, ?_⟩
        simp only [show ¬ (1 : Nat) = 0 by omega, not_false_eq_true, if_true, not_true, if_false]
        congr 3
        omega
      · refine ⟨_, rfl, ?_⟩
        simp only [show ¬ (2 : Nat) = 0 by omega, show ¬ (2 : Nat) = 1 by omega, not_false_eq_true, if_true, not_true, if_false]
        congr 3
        omega
      · have e4 : (2000 + mo d / 12) % 4 = mo d / 12 % 4 := by omega
        simp only [show ¬ (3 : Nat) = 0 by omega, show ¬ (3 : Nat) = 1 by omega, show ¬ (3 : Nat) = 2 by omega, not_false_eq_true, if_true, if_false, e4]
        by_cases h4 : mo d / 12 % 4 = 0
        · simp only [h4, not_true, if_false, if_true]
          refine ⟨_, rfl, ?_⟩
          rw [if_neg (by decide)]
        · simp only [h4, not_false_eq_true, if_false, if_true]
          exact ⟨_, rfl, rfl⟩
theorem c_dayOf (a1 a2 a3 : Int32) (S : St) : ∃ r, F_X7_dayOf 0 a1 a2 a3 S = some (r, S) ∧ F_X8_dayOf 202 a1 a2 a3 S = some (r, S) := by
  unfold F_X7_dayOf F_X8_dayOf
  simp only [fa_lit, fa_litL, within_e, cl_some, inw_e _ _ _ (show 2000 < 2 ^ 31 by omega) (show 2099 < 2 ^ 31 by omega), inw_e _ _ _ (show 1 < 2 ^ 31 by omega) (show 12 < 2 ^ 31 by omega), J_X7_dayOf_23, J_X8_dayOf_44, J_X8_dayOf_45, J_X8_dayOf_62, J_X7_dayOf_65, bd_e]
  rcases between a1 2000 2099 (by omega) (by omega) with h | ⟨h, y, rfl, hy1, hy2⟩
  · simp only [h, if_true, fa_lit]
    exact ⟨_, rfl, rfl⟩
  · simp only [h, if_false, fa_lit, show ¬ nI 1 = nI 0 by decide]
    rcases between a2 1 12 (by omega) (by omega) with h2 | ⟨h2, m, rfl, hm1, hm2⟩
    · simp only [h2, if_true, not_true, if_false]
      exact ⟨_, rfl, rfl⟩
    · simp only [h2, if_false, show ¬ nI 1 = nI 0 by decide, not_false_eq_true, if_true]
      have em : ((nI y - nI 2000) * nI 12 + nI m - nI 1) = nI (12 * (y - 2000) + (m - 1)) := by
        rw [pk_sub (by omega), pk_mul, nI_add, pk_sub (by omega)]
        congr 1
        omega
      rw [em, lengthOf_e _ (by omega), cl_some, firstOf_e _ (by omega), cl_some]
      have ey : nI y = nI (2000 + (y - 2000)) := congrArg nI (by omega)
      have emm : nI m = nI (1 + (m - 1)) := congrArg nI (by omega)
      have hln := fo_lt (12 * (y - 2000) + (m - 1))
      rw [ey, emm, lastOf_e _ _ (by omega) (by omega), cl_some]
      rcases between a3 1 (ln (12 * (y - 2000) + (m - 1))) (by omega) (by omega) with h3 | ⟨h3, d, rfl, hd1, hd2⟩
      · have h3a : (if a3 < nI 1 ∨ nI (ln (12 * (y - 2000) + (m - 1))) < a3 then nI 0 else nI 1) = nI 0 := if_pos h3
        simp only [h3, if_true]
        refine ⟨_, rfl, ?_⟩
        rcases h3 with h3 | h3
        · simp only [h3, if_true]
        · simp only [h3, if_true]
          split <;> rfl
      · have q1 : ¬ nI d < nI 1 := fun z => h3 (Or.inl z)
        have q2 : ¬ nI (ln (12 * (y - 2000) + (m - 1))) < nI d := fun z => h3 (Or.inr z)
        simp only [h3, if_false, q1, q2, show ¬ nI 1 = nI 0 by decide]
        refine ⟨_, rfl, ?_⟩
        have ed : nI d = nI ((d - 1) + 1) := congrArg nI (by omega)
        rw [ed, toDay_e _ _ _ (by omega) (by omega) (by omega), cl_some, nI_add, pk_sub (by omega)]
        congr 3
theorem c_interest (a1 : Int64) (a2 a3 a4 a5 : Int32) (S : St) : ∃ r, F_X7_interest 0 a1 a2 a3 a4 a5 S = some (r, S) ∧ F_X8_interest 202 a1 a2 a3 a4 a5 S = some (r, S) := by
  have n10 : ¬ nI 1 = nI 0 := by decide
  have n10' : ¬ (1 : Int32) = nI 0 := by decide
  unfold F_X7_interest F_X8_interest
  simp only [J_X7_interest_31, J_X7_interest_58, J_X8_interest_63, J_X8_interest_64, J_X8_interest_89]
  simp only [fa_lit, fa_litL, inw_e _ _ _ (show 0 < 2 ^ 31 by omega) (show 5000 < 2 ^ 31 by omega), inw_e _ _ _ (show 0 < 2 ^ 31 by omega) (show 3 < 2 ^ 31 by omega), cl_some]
  simp only [fa_lit, fa_litL, within_e, cl_some, in_e, isRate_e, isDay_e, refIsDay_e]
  rcases betweenL a1 0 100000000 (by omega) (by omega) with h1 | ⟨h1, b, rfl, -, hb⟩
  · have e1 : (if a1 < lN 0 ∨ lN 100000000 < a1 then nI 0 else nI 1) = nI 0 := if_pos h1
    refine ⟨-lN 1, ?_, by simp only [h1, if_true]⟩
    rcases h1 with h1 | h1
    · simp only [h1, if_true]
    · by_cases h9 : a1 < lN 0
      · simp only [h9, if_true]
      · simp only [h9, if_false, h1, if_true]
  · have p1 : ¬ lN b < lN 0 := fun z => h1 (Or.inl z)
    have p2 : ¬ lN 100000000 < lN b := fun z => h1 (Or.inr z)
    simp only [h1, if_false, n10]
    simp only [p1, p2, if_false]
    rcases between a2 0 5000 (by omega) (by omega) with h2 | ⟨h2, r, rfl, -, hr⟩
    · simp only [h2, if_true]
      exact ⟨_, rfl, rfl⟩
    · simp only [h2, if_false, n10]
      rcases between a3 0 3 (by omega) (by omega) with h3 | ⟨h3, cn, rfl, -, hc⟩
      · simp only [h3, if_true, not_true, if_false]
        exact ⟨_, rfl, rfl⟩
      · simp only [h3, if_false, n10, not_false_eq_true, if_true]
        rcases between a4 0 36524 (by omega) (by omega) with h4 | ⟨h4, d, rfl, -, hd⟩
        · simp only [h4, if_true]
          exact ⟨_, rfl, rfl⟩
        · simp only [h4, if_false, n10]
          rcases between a5 0 36524 (by omega) (by omega) with h5 | ⟨h5, e, rfl, -, he⟩
          · simp only [h5, if_true]
            exact ⟨_, rfl, rfl⟩
          · simp only [h5, if_false, n10]
            by_cases hde : d ≤ e
            · have q1 : nI d ≤ nI e := (nI_leI (by omega) (by omega)).mpr hde
              have q2 : ¬ nI e < nI d := fun z => by rw [nI_ltI (by omega) (by omega)] at z; omega
              simp only [q1, q2, if_true, if_false]
              obtain ⟨-, hp⟩ := prod_bound (cn := cn) hb hr hde he
              rw [partsBetween_e cn d e hc hde he, cl_some, wide_nI (by omega), lN_mul, cents_e _ cn _ hc (hp hc), cl_some, refInterestOf_e b r cn d e hb hr hc hde he, cl_some]
              exact ⟨_, rfl, rfl⟩
            · have q1 : ¬ nI d ≤ nI e := fun z => by rw [nI_leI (by omega) (by omega)] at z; omega
              have q2 : nI e < nI d := (nI_ltI (by omega) (by omega)).mpr (by omega)
              simp only [q1, q2, if_true, if_false]
              exact ⟨_, rfl, rfl⟩
