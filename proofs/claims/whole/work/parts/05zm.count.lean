section CNT
variable {S : St} {B : Bk}
theorem billsR_loop (hG : GX B) (hS : RB S 203 B) : ∀ (j n i x : Nat), j < n → i + j = B.2.2.2.1 → x ≤ 60 * i → L_X8_bills_4 n 202 (nI x) (nI i) S = some (nI (x + (sumN (fun q => (lvs (B.2.2.2.2 q)).length) (i + j) - sumN (fun q => (lvs (B.2.2.2.2 q)).length) i)), S)
  | _, 0, _, _, h, _, _ => absurd h (Nat.not_lt_zero _)
  | 0, n + 1, i, x, _, hi, hx => by
    have g8 := hG.1.2.2.2.1
    show B_X8_bills_4 _ _ _ _ _ = _
    unfold B_X8_bills_4
    rw [mR0, fa_lit 2520, g_at _ (by omega), hS.1, wide_nI (by omega), if_pos (by rw [lN_le63 (by omega) (by omega)]; omega), Nat.add_zero, Nat.sub_self, Nat.add_zero]
  | j + 1, n + 1, i, x, hn, hi, hx => by
    have g8 := hG.1.2.2.2.1
    have hi' : i < B.2.2.2.1 := by omega
    have gd := hG.1.2.2.2.2 i hi'
    have hl := bls_len gd.1
    rw [bls_lvs] at hl
    have hsm := sumN_mono (fun q => (lvs (B.2.2.2.2 q)).length) (i + 1) j
    have hsx : sumN (fun q => (lvs (B.2.2.2.2 q)).length) (i + 1) = sumN (fun q => (lvs (B.2.2.2.2 q)).length) i + (lvs (B.2.2.2.2 i)).length := rfl
    show B_X8_bills_4 _ _ _ _ _ = _
    unfold B_X8_bills_4
    rw [mR0, fa_lit 2520, g_at _ (by omega), hS.1, wide_nI (by omega), if_neg (by rw [lN_le63 (by omega) (by omega)]; omega), mgk, fa_lit 14, at_e (by omega) (by omega), cl_some, (hS.2.2.2.2 i hi').2.2.1, bls_lvs, wide_nI (by omega), lN_add, lN_i32, bd_e, nI_1, billsR_loop hG hS j n (i + 1) _ (by omega) (by omega) (by omega), show i + (j + 1) = i + 1 + j by omega]
    congr 3
    omega
theorem setR_loop (hG : GX B) (hS : RB S 203 B) : ∀ (j n i x : Nat), j < n → i + j = B.2.2.2.1 → L_X8_count_95 n 202 (nI x) (nI i) S = some (nI (x + (sumN (fun q => if (B.2.2.2.2 q).1 8 = 0 ∧ lvs (B.2.2.2.2 q) = [] then 1 else 0) (i + j) - sumN (fun q => if (B.2.2.2.2 q).1 8 = 0 ∧ lvs (B.2.2.2.2 q) = [] then 1 else 0) i)), S)
  | _, 0, _, _, h, _ => absurd h (Nat.not_lt_zero _)
  | 0, n + 1, i, x, _, hi => by
    have g8 := hG.1.2.2.2.1
    show B_X8_count_95 _ _ _ _ _ = _
    unfold B_X8_count_95
    rw [mR0, fa_lit 2520, g_at _ (by omega), hS.1, wide_nI (by omega), if_pos (by rw [lN_le63 (by omega) (by omega)]; omega), Nat.add_zero, Nat.sub_self, Nat.add_zero]
  | j + 1, n + 1, i, x, hn, hi => by
    have g8 := hG.1.2.2.2.1
    have hi' : i < B.2.2.2.1 := by omega
    have gd := hG.1.2.2.2.2 i hi'
    have hl := bls_len gd.1
    have hbal := gd.1.2.2.2.2.2.2.2.2.1
    rw [bls_lvs] at hl
    have hsm := sumN_mono (fun q => if (B.2.2.2.2 q).1 8 = 0 ∧ lvs (B.2.2.2.2 q) = [] then 1 else 0) (i + 1) j
    have hsx : sumN (fun q => if (B.2.2.2.2 q).1 8 = 0 ∧ lvs (B.2.2.2.2 q) = [] then 1 else 0) (i + 1) = sumN (fun q => if (B.2.2.2.2 q).1 8 = 0 ∧ lvs (B.2.2.2.2 q) = [] then 1 else 0) i + (if (B.2.2.2.2 i).1 8 = 0 ∧ lvs (B.2.2.2.2 i) = [] then 1 else 0) := rfl
    have ih := fun x => setR_loop hG hS j n (i + 1) x (by omega) (by omega)
    show B_X8_count_95 _ _ _ _ _ = _
    unfold B_X8_count_95 J_X8_count_138 J_X8_count_139
    rw [mR0, fa_lit 2520, g_at _ (by omega), hS.1, wide_nI (by omega), if_neg (by rw [lN_le63 (by omega) (by omega)]; omega), mgk, fa_lit 8, at_e (by omega) (by omega), cl_some, (hS.2.2.2.2 i hi').1 8 (by omega), nI_1 i, show i + (j + 1) = i + 1 + j by omega]
    by_cases z : (B.2.2.2.2 i).1 8 = 0
    · rw [z, if_neg (show ¬ ¬ lN 0 = 0 from fun y => y rfl), mgk, fa_lit 14, at_e (by omega) (by omega), cl_some, (hS.2.2.2.2 i hi').2.2.1, bls_lvs]
      by_cases y : lvs (B.2.2.2.2 i) = []
      · rw [if_pos ⟨z, y⟩] at hsx
        rw [if_neg (show ¬ ¬ lN (lvs (B.2.2.2.2 i)).length = 0 from fun w => w (by rw [y]; rfl)), bd_e, show (1 : Int32) = nI 1 from rfl, nI_add, ih]
        congr 3
        omega
      · rw [if_neg (fun w => y w.2)] at hsx
        have hpos : 0 < (lvs (B.2.2.2.2 i)).length := List.length_pos_iff.mpr y
        rw [if_pos (show ¬ lN (lvs (B.2.2.2.2 i)).length = 0 from fun w => by rw [show (0 : Int64) = lN 0 from rfl, lN_eq63 (by omega) (by omega)] at w; omega), bd_e, show (0 : Int32) = nI 0 from rfl, nI_add, ih]
        congr 3
        omega
    · rw [if_neg (fun w => z w.1)] at hsx
      rw [if_pos (show ¬ lN ((B.2.2.2.2 i).1 8) = 0 from fun w => by rw [show (0 : Int64) = lN 0 from rfl, lN_eq63 (by omega) (by omega)] at w; exact z w), bd_e, show (0 : Int32) = nI 0 from rfl, nI_add, ih]
      congr 3
      omega
theorem full_loop {m : Nat} (hH : ∀ h, h < 6 → HLp S m h) : ∀ (j n i : Nat) (x : Int32), j < n → i + j = 6 → ∃ r, L_X7_fullHolders_4 n 0 x (nI i) S = some (r, S) ∧ L_X8_count_156 n 202 x (nI i) S = some (r, S)
  | _, 0, _, _, h, _ => absurd h (Nat.not_lt_zero _)
  | 0, n + 1, i, x, _, hi => by
    refine ⟨x, ?_, ?_⟩
    · show B_X7_fullHolders_4 _ _ _ _ _ = _
      unfold B_X7_fullHolders_4
      rw [if_pos (by rw [fa_lit 6, nI_leI (by omega) (by omega)]; omega)]
    · show B_X8_count_156 _ _ _ _ _ = _
      unfold B_X8_count_156
      rw [if_pos (by rw [fa_lit 6, nI_leI (by omega) (by omega)]; omega)]
  | j + 1, n + 1, i, x, hn, hi => by
    have hi6 : i < 6 := by omega
    obtain ⟨s, s1, s2, s3, _⟩ := hH i hi6
    have c1 : L_X7_fullHolders_4 (n + 1) 0 x (nI i) S = if nI s = 0 then L_X7_fullHolders_4 n 0 x (nI (i + 1)) S else L_X7_fullHolders_4 n 0 (x + 1) (nI (i + 1)) S := by
      show B_X7_fullHolders_4 _ _ _ _ _ = _
      unfold B_X7_fullHolders_4 J_X7_fullHolders_25
      rw [if_neg (by rw [fa_lit 6, nI_leI (by omega) (by omega)]; omega), z7, hR hi6, hI hi6, s2, nI_1]
    have c2 : L_X8_count_156 (n + 1) 202 x (nI i) S = if nI s = 0 then L_X8_count_156 n 202 x (nI (i + 1)) S else L_X8_count_156 n 202 (x + 1) (nI (i + 1)) S := by
      show B_X8_count_156 _ _ _ _ _ = _
      unfold B_X8_count_156 J_X8_count_177
      rw [if_neg (by rw [fa_lit 6, nI_leI (by omega) (by omega)]; omega), mR13, jI kd213 hi6 (by omega), s3, bd_e, bd_e, nI_1, Int32.add_zero]
    rw [c1, c2]
    by_cases z : nI s = 0
    · rw [if_pos z, if_pos z]
      exact full_loop hH j n (i + 1) x (by omega) (by omega)
    · rw [if_neg z, if_neg z]
      exact full_loop hH j n (i + 1) (x + 1) (by omega) (by omega)
end CNT
/-- count -/
theorem y_count (o : Int32) : Step (F_X7_count 0 o) (F_X8_count 202 o) := by
  rintro S ⟨B, hG, hC, hRb, hRS⟩
  have hV : Inv S := ⟨B, hG, hC, hRb, hRS⟩
  have g8 := hG.1.2.2.2.1
  rcases between o 0 7 (by omega) (by omega) with d | ⟨d, v, rfl, _, v7⟩
  · have hne : ∀ k : Nat, k ≤ 7 → o ≠ nI k := by
      rintro k hk rfl
      rw [nI_ltI (by omega) (by omega), nI_ltI (by omega) (by omega)] at d
      omega
    refine ⟨-1, S, S, ?_, ?_, hV⟩
    · unfold F_X7_count
      rw [sw_x (show ¬ o = 0 from hne 0 (by omega)), sw_x (show ¬ o = 1 from hne 1 (by omega)), sw_x (show ¬ o = 2 from hne 2 (by omega)), sw_x (show ¬ o = 3 from hne 3 (by omega)), sw_x (show ¬ o = 4 from hne 4 (by omega)), sw_x (show ¬ o = 5 from hne 5 (by omega)), sw_x (show ¬ o = 6 from hne 6 (by omega)), sw_x (show ¬ o = 7 from hne 7 (by omega)), sw_n]
    · unfold F_X8_count
      rw [sw_x (show ¬ o = 0 from hne 0 (by omega)), sw_x (show ¬ o = 1 from hne 1 (by omega)), sw_x (show ¬ o = 2 from hne 2 (by omega)), sw_x (show ¬ o = 3 from hne 3 (by omega)), sw_x (show ¬ o = 4 from hne 4 (by omega)), sw_x (show ¬ o = 5 from hne 5 (by omega)), sw_x (show ¬ o = 6 from hne 6 (by omega)), sw_x (show ¬ o = 7 from hne 7 (by omega)), sw_n]
  · have hv : v = 0 ∨ v = 1 ∨ v = 2 ∨ v = 3 ∨ v = 4 ∨ v = 5 ∨ v = 6 ∨ v = 7 := by omega
    unfold F_X7_count F_X8_count
    rcases hv with rfl | rfl | rfl | rfl | rfl | rfl | rfl | rfl
    · refine ⟨nI B.2.2.2.1, S, S, ?_, ?_, hV⟩
      · rw [sw_y (by rfl), z0, bI b1, hC.2.2.2.1]
      · rw [sw_y (by rfl), mR0, fa_lit 2520, g_at _ (by omega), hRb.1, lN_i32]
    · refine ⟨nI (sumN (fun q => (lvs (B.2.2.2.2 q)).length) B.2.2.2.1), S, S, ?_, ?_, hV⟩
      · rw [sw_x (by decide), sw_y (by rfl), z0, bgk b1, biaB_e b1 hG.1 hC, cl_some]
      · have h := billsR_loop hG hRb B.2.2.2.1 6000 0 0 (by omega) (by omega) (by omega)
        rw [Nat.zero_add, Nat.zero_add] at h
        have h' : F_X8_bills 202 S = some (nI (sumN (fun q => (lvs (B.2.2.2.2 q)).length) B.2.2.2.1), S) := h
        rw [sw_x (by decide), sw_y (by rfl), mgk, h', cl_some]
    · refine ⟨nI B.1, S, S, ?_, ?_, hV⟩
      · rw [sw_x (by decide), sw_x (by decide), sw_y (by rfl), z0, bI b1, hC.1]
      · rw [sw_x (by decide), sw_x (by decide), sw_y (by rfl), mR0, fa_lit 2521, g_at _ (by omega), hRb.2.1, lN_i32]
    · refine ⟨nI B.2.1, S, S, ?_, ?_, hV⟩
      · rw [sw_x (by decide), sw_x (by decide), sw_x (by decide), sw_y (by rfl), z0, bI b1, hC.2.1]
      · rw [sw_x (by decide), sw_x (by decide), sw_x (by decide), sw_y (by rfl), mR0, fa_lit 2522, g_at _ (by omega), hRb.2.2.1, lN_i32]
    · refine ⟨nI B.2.2.1, S, S, ?_, ?_, hV⟩
      · rw [sw_x (by decide), sw_x (by decide), sw_x (by decide), sw_x (by decide), sw_y (by rfl), z0, bI b1, hC.2.2.1]
      · rw [sw_x (by decide), sw_x (by decide), sw_x (by decide), sw_x (by decide), sw_y (by rfl), mR0, fa_lit 2523, g_at _ (by omega), hRb.2.2.2.1, lN_i32]
    · refine ⟨nI (sumN (fun q => if (B.2.2.2.2 q).1 8 = 0 ∧ lvs (B.2.2.2.2 q) = [] then 1 else 0) B.2.2.2.1), S, S, ?_, ?_, hV⟩
      · rw [sw_x (by decide), sw_x (by decide), sw_x (by decide), sw_x (by decide), sw_x (by decide), sw_y (by rfl), z0, bgk b1, setB_e b1 hG.1 hC, cl_some]
      · have h := setR_loop hG hRb B.2.2.2.1 6000 0 0 (by omega) (by omega)
        rw [Nat.zero_add, Nat.zero_add] at h
        rw [sw_x (by decide), sw_x (by decide), sw_x (by decide), sw_x (by decide), sw_x (by decide), sw_y (by rfl)]
        exact h
    · obtain ⟨n, n1, n2, n3, n4⟩ := hRS.2.1
      refine ⟨nI n, S, S, ?_, ?_, hV⟩
      · rw [sw_x (by decide), sw_x (by decide), sw_x (by decide), sw_x (by decide), sw_x (by decide), sw_x (by decide), sw_y (by rfl), z6, tI0, n2]
      · rw [sw_x (by decide), sw_x (by decide), sw_x (by decide), sw_x (by decide), sw_x (by decide), sw_x (by decide), sw_y (by rfl), mI, n3]
    · obtain ⟨r, h1, h2⟩ := full_loop hRS.2.2 6 6000 0 0 (by omega) (by omega)
      refine ⟨r, S, S, ?_, ?_, hV⟩
      · have h1' : F_X7_fullHolders 0 S = some (r, S) := h1
        rw [sw_x (by decide), sw_x (by decide), sw_x (by decide), sw_x (by decide), sw_x (by decide), sw_x (by decide), sw_x (by decide), sw_y (by rfl), zgk, h1', cl_some]
      · rw [sw_x (by decide), sw_x (by decide), sw_x (by decide), sw_x (by decide), sw_x (by decide), sw_x (by decide), sw_x (by decide), sw_y (by rfl)]
        exact h2
