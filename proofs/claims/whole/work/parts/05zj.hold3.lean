theorem fill_loop {x m : Nat} (hx : kd0 x = (11, m)) (hm : m < 2 ^ 31) : ∀ (j n k : Nat) (S : St), j < n → k + j = m → ∃ S', L_J7_fill_d0a16_6 n x 0 (nI k) (nI m) S = some ((), S') ∧ S'.1 = S.1 ∧ (∀ a, a ≠ x → S'.2 a = S.2 a) ∧ (∀ q, k ≤ q → q < m → S'.2 x q = 0)
  ∧ (∀ q, q < k → S'.2 x q = S.2 x q)
  | _, 0, _, _, h, _ => absurd h (Nat.not_lt_zero _)
  | 0, n + 1, k, S, _, hk => by
    refine ⟨S, ?_, rfl, fun _ _ => rfl, fun q h1 h2 => by omega, fun _ _ => rfl⟩
    show B_J7_fill_d0a16_6 _ _ _ _ _ _ = _
    unfold B_J7_fill_d0a16_6
    rw [if_pos (by rw [nI_leI (by omega) (by omega)]; omega)]
  | j + 1, n + 1, k, S, hn, hk => by
    obtain ⟨S', r1, r2, r3, r4, r5⟩ := fill_loop hx hm j n (k + 1) (setL S x k 0) (by omega) (by omega)
    refine ⟨S', ?_, r2, fun a ha => ?_, fun q h1 h2 => ?_, fun q hq => ?_⟩
    · show B_J7_fill_d0a16_6 _ _ _ _ _ _ = _
      unfold B_J7_fill_d0a16_6
      rw [if_neg (by rw [nI_leI (by omega) (by omega)]; omega), jS hx (by omega) (by omega), nI_1]
      exact r1
    · rw [r3 a ha, setL_n ha]
    · by_cases e : q = k
      · subst e
        rw [r5 q (by omega), setL_s]
      · exact r4 q (by omega) h2
    · rw [r5 q (by omega), setL_k (by omega)]
theorem rowR_loop {h : Nat} (hh : h < 6) : ∀ (j n k : Nat) (S : St), j < n → k + j = 60 → ∃ S', L_X8_row_56 n 202 (nI h) (nI k) S = some (1, S') ∧ S'.1 = S.1 ∧ (∀ a, a ≠ 219 + h → S'.2 a = S.2 a) ∧ (∀ q, k ≤ q → q < 60 → S'.2 (219 + h) q = 0) ∧ (∀ q, q < k → S'.2 (219 + h) q = S.2 (219 + h) q)
  | _, 0, _, _, h, _ => absurd h (Nat.not_lt_zero _)
  | 0, n + 1, k, S, _, hk => by
    refine ⟨S, ?_, rfl, fun _ _ => rfl, fun q h1 h2 => by omega, fun _ _ => rfl⟩
    show B_X8_row_56 _ _ _ _ _ = _
    unfold B_X8_row_56
    rw [if_pos (by rw [fa_lit 60, nI_leI (by omega) (by omega)]; omega)]
  | j + 1, n + 1, k, S, hn, hk => by
    obtain ⟨S', r1, r2, r3, r4, r5⟩ := rowR_loop hh j n (k + 1) (setL S (219 + h) k 0) (by omega) (by omega)
    refine ⟨S', ?_, r2, fun a ha => ?_, fun q h1 h2 => ?_, fun q hq => ?_⟩
    · show B_X8_row_56 _ _ _ _ _ = _
      unfold B_X8_row_56
      rw [if_neg (by rw [fa_lit 60, nI_leI (by omega) (by omega)]; omega), mR18, wR hh, jS (HC hh).2.2 (by omega) (by omega), nI_1]
      exact r1
    · rw [r3 a ha, setL_n ha]
    · by_cases e : q = k
      · subst e
        rw [r5 q (by omega), setL_s]
      · exact r4 q (by omega) h2
    · rw [r5 q (by omega), setL_k (by omega)]
/-- row -/
theorem y_row (a o : Int32) : Step (F_X7_row 0 a o) (F_X8_row 202 a o) := by
  rintro S ⟨B, hG, hC, hRb, hRS⟩
  have hV : Inv S := ⟨B, hG, hC, hRb, hRS⟩
  rcases between a 0 5 (by omega) (by omega) with c | ⟨c, h, rfl, _, h5⟩
  · refine ⟨-1, S, S, ?_, ?_, hV⟩
    · unfold F_X7_row J_X7_row_13
      rw [isHolder_e, if_pos c, cl_some, if_pos rfl]
    · unfold F_X8_row J_X8_row_14
      rw [mgk, refIsHolder_e, if_pos c, cl_some, if_pos rfl]
  · have hh : h < 6 := by omega
    by_cases d1 : o ≤ (60 : Int32)
    · by_cases d : (-1 : Int32) ≤ o
      · by_cases e : o = -1
        · subst e
          have eC : F_X7_row 0 (nI h) (-1) S = some (1, setI S (190 + 2 * h) 0 0) := by
            unfold F_X7_row J_X7_row_51
            rw [isHolder_e, if_neg c, cl_some, if_neg (by decide), if_pos d1, if_pos d, if_neg (fun z => z rfl), z7, hR hh, hpI hh]
          obtain ⟨S2, r1, r2, r3, r4, _⟩ := rowR_loop hh 60 6000 0 (setI (setI (setI S (190 + 2 * h) 0 0) 213 h 0) 217 h 0) (by omega) (by omega)
          have eR : F_X8_row 202 (nI h) (-1) (setI S (190 + 2 * h) 0 0) = some (1, S2) := by
            unfold F_X8_row J_X8_row_38 J_X8_row_53
            rw [mgk, refIsHolder_e, if_neg c, cl_some, if_neg (by decide), if_pos d1, if_pos d, mR13, if_neg (by decide), jSI kd213 hh (by omega), mR17, if_neg (by decide), jSI kd217 hh (by omega)]
            exact r1
          have f0 := ((((frH.rf S h).I (c := 190 + 2 * h) (k := 0) (by omega) hh 0).I (c := 213) (k := h) (by omega) hh 0).I (c := 217) (k := h) (by omega) hh 0)
          have f2 : frH S S2 h := ⟨fun x h1 h2 h3 h4 => ⟨by rw [r2]; exact (f0.1 x h1 h2 h3 h4).1, by rw [r3 x h4]; exact (f0.1 x h1 h2 h3 h4).2⟩, fun x y h1 h2 h3 => ⟨by rw [r2]; exact (f0.2 x y h1 h2 h3).1, by rw [r3 x (by omega)]; exact (f0.2 x y h1 h2 h3).2⟩⟩
          refine ⟨1, _, S2, eC, eR, hold_inv hh hG hC hRb hRS f2 ⟨0, by omega, ?_, ?_, fun z => by omega, fun z => by omega, fun z => by omega⟩⟩
          · rw [r2, setI_n (by omega), setI_n (by omega), setI_s]
            rfl
          · rw [r2, setI_n (by omega), setI_s]
            rfl
        · obtain ⟨k, hk, rfl⟩ : ∃ k, k < 2 ^ 31 ∧ o = nI k := by
            rcases nI_or_neg o with z | z
            · exfalso
              rw [Int32.le_iff_toInt_le, show (-1 : Int32).toInt = -1 from rfl] at d
              rw [Int32.lt_iff_toInt_lt, Int32.toInt_zero] at z
              exact e (Int32.toInt_inj.mp (by rw [show (-1 : Int32).toInt = -1 from rfl]; omega))
            · exact z
          have hge : (0 : Int32) ≤ nI k := by
            rw [show (0 : Int32) = nI 0 from rfl, nI_leI (by omega) (by omega)]
            omega
          have hk60 : k ≤ 60 := by
            rw [fa_lit 60, nI_leI (by omega) (by omega)] at d1
            exact d1
          obtain ⟨S1, q1, q2, q3, q4, _⟩ := fill_loop (HC hh).2.1 (by omega) 60 6000 0 (setI (setI S (190 + 2 * h) 0 3) (190 + 2 * h) 2 (nI k)) (by omega) (by omega)
          have eC : F_X7_row 0 (nI h) (nI k) S = some (1, S1) := by
            unfold F_X7_row J_X7_row_51
            rw [isHolder_e, if_neg c, cl_some, if_neg (by decide), if_pos d1, if_pos d, if_pos e, z7, hR hh, hgk hh]
            unfold F_X3_takeRow
            rw [hpI hh, hpI hh, hr4 hh]
            unfold F_J7_fill_d0a16 aL
            rw [(HC hh).2.1]
            have q1' : L_J7_fill_d0a16_6 6000 (191 + 2 * h) 0 0 (nI 60) (setI (setI S (190 + 2 * h) 0 3) (190 + 2 * h) 2 (nI k)) = some ((), S1) := q1
            show (cl (cl (L_J7_fill_d0a16_6 6000 (191 + 2 * h) 0 0 (nI 60) (setI (setI S (190 + 2 * h) 0 3) (190 + 2 * h) 2 (nI k))) fun _ S15 => some ((), S15)) fun _ S48 => some (1, S48)) = some (1, S1)
            rw [q1', cl_some, cl_some]
          obtain ⟨S2, r1, r2, r3, r4, _⟩ := rowR_loop hh 60 6000 0 (setI (setI S1 213 h 3) 217 h (nI k)) (by omega) (by omega)
          have eR : F_X8_row 202 (nI h) (nI k) S1 = some (1, S2) := by
            unfold F_X8_row J_X8_row_38 J_X8_row_53
            rw [mgk, refIsHolder_e, if_neg c, cl_some, if_neg (by decide), if_pos d1, if_pos d, mR13, if_pos hge, jSI kd213 hh (by omega), mR17, if_pos hge, jSI kd217 hh (by omega)]
            exact r1
          have f0 := ((frH.rf S h).I (c := 190 + 2 * h) (k := 0) (by omega) hh 3).I (c := 190 + 2 * h) (k := 2) (by omega) hh (nI k)
          have f1 : frH S S1 h := ⟨fun x h1 h2 h3 h4 => ⟨by rw [q2]; exact (f0.1 x h1 h2 h3 h4).1, by rw [q3 x h2]; exact (f0.1 x h1 h2 h3 h4).2⟩, fun x y h1 h2 h3 => ⟨by rw [q2]; exact (f0.2 x y h1 h2 h3).1, by rw [q3 x (by omega)]; exact (f0.2 x y h1 h2 h3).2⟩⟩
          have f1' := (f1.I (c := 213) (k := h) (by omega) hh 3).I (c := 217) (k := h) (by omega) hh (nI k)
          have f2 : frH S S2 h := ⟨fun x h1 h2 h3 h4 => ⟨by rw [r2]; exact (f1'.1 x h1 h2 h3 h4).1, by rw [r3 x h4]; exact (f1'.1 x h1 h2 h3 h4).2⟩, fun x y h1 h2 h3 => ⟨by rw [r2]; exact (f1'.2 x y h1 h2 h3).1, by rw [r3 x (by omega)]; exact (f1'.2 x y h1 h2 h3).2⟩⟩
          refine ⟨1, S1, S2, eC, eR, hold_inv hh hG hC hRb hRS f2 ⟨3, by omega, ?_, ?_, fun z => by omega, fun z => by omega, fun _ => ⟨k, hk60, ?_, ?_, fun j hj => ?_⟩⟩⟩
          · rw [r2, setI_n (by omega), setI_n (by omega), q2, setI_k (by omega), setI_s]
            rfl
          · rw [r2, setI_n (by omega), setI_s]
            rfl
          · rw [r2, setI_n (by omega), setI_n (by omega), q2, setI_s]
          · rw [r2, setI_s]
          · rw [r4 j (by omega) (by omega), r3 _ (by omega)]
            show S1.2 (191 + 2 * h) j = 0
            exact q4 j (by omega) (by omega)
      · refine ⟨-14, S, S, ?_, ?_, hV⟩
        · unfold F_X7_row
          rw [isHolder_e, if_neg c, cl_some, if_neg (by decide), if_pos d1, if_neg d]
        · unfold F_X8_row
          rw [mgk, refIsHolder_e, if_neg c, cl_some, if_neg (by decide), if_pos d1, if_neg d]
    · refine ⟨-1, S, S, ?_, ?_, hV⟩
      · unfold F_X7_row J_X7_row_13
        rw [isHolder_e, if_neg c, cl_some, if_neg (by decide), if_neg d1]
      · unfold F_X8_row J_X8_row_14
        rw [mgk, refIsHolder_e, if_neg c, cl_some, if_neg (by decide), if_neg d1]
