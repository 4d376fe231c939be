/-- tells -/
theorem y_tells (a o : Int32) : Step (F_X7_tells 0 a o) (F_X8_tells 202 a o) := by
  rintro S ⟨B, hG, hC, hRb, hRS⟩
  have hV : Inv S := ⟨B, hG, hC, hRb, hRS⟩
  have g8 := hG.1.2.2.2.1
  rcases between a 0 5 (by omega) (by omega) with c | ⟨c, h, rfl, _, h5⟩
  · refine ⟨-1, S, S, ?_, ?_, hV⟩
    · unfold F_X7_tells J_X7_tells_16
      rw [isHolder_e, if_pos c, cl_some, if_pos rfl]
    · unfold F_X8_tells J_X8_tells_20
      rw [mgk, refIsHolder_e, if_pos c, cl_some, if_pos rfl]
  · have hh : h < 6 := by omega
    obtain ⟨s, s1, s2, s3, s4, s5, s6⟩ := hRS.2.2 h hh
    rcases between o 0 3 (by omega) (by omega) with d | ⟨d, v, rfl, _, v3⟩
    · refine ⟨-1, S, S, ?_, ?_, hV⟩
      · unfold F_X7_tells J_X7_tells_16
        rw [isHolder_e, if_neg c, cl_some, if_neg (by decide), fa_lit 3, within_e, if_pos (show o < 0 ∨ nI 3 < o from d), cl_some, if_neg (fun z => z rfl)]
      · unfold F_X8_tells J_X8_tells_20
        rw [mgk, refIsHolder_e, if_neg c, cl_some, if_neg (by decide), fa_litL 3, show (0 : Int64) = lN 0 from rfl, inw_e _ _ _ (by omega) (by omega), if_pos d, cl_some, if_neg (fun z => z rfl)]
    · have f7 : F_X7_tells 0 (nI h) (nI v) S = sw (nI s) (some ((-11 : Int64), S)) [(1, gI 1 1 (190 + 2 * h) S fun v58 => gk 0 5 <| cl (F_X7_loanTells 0 v58 (nI v) S) fun r62 S62 => some (r62, S62)), (2, cl (F_X7_billTells (190 + 2 * h) (nI v) S) fun r68 S68 => some (r68, S68)), (3, some ((-12 : Int64), S))] := by
        unfold F_X7_tells
        rw [isHolder_e, if_neg c, cl_some, if_neg (by decide), fa_lit 3, within_e, if_neg (show ¬ (nI v < 0 ∨ nI 3 < nI v) from d), cl_some, if_pos (by decide), z7, hR hh, hI hh, s2]
      have f8 : F_X8_tells 202 (nI h) (nI v) S = if ¬ nI s = 0 then (sw (nI v) (if ¬ nI s = (1 : Int32) then (J_X8_tells_188 S) else (gk 202 6 <| cl (F_X8_at 202 (S.1 214 h) (3 : Int32) S) fun r170 S170 => if ¬ r170 = (0 : Int64) then (J_X8_tells_188 S170) else (gk 202 6 <| cl (F_X8_at 202 (S.1 214 h) (9 : Int32) S170) fun r182 S182 => J_X8_tells_191 r182 S182))) [(0, if ¬ nI s = (3 : Int32) then (if ¬ nI s = (1 : Int32) then (J_X8_tells_109 (S.2 215 h) S) else (J_X8_tells_109 (Int32.toInt64 (S.1 214 h)) S)) else (J_X8_tells_109 (-12 : Int64) S)), (1, if ¬ nI s = (1 : Int32) then (J_X8_tells_133 (-12 : Int64) S) else (gk 202 6 <| cl (F_X8_at 202 (S.1 214 h) (8 : Int32) S) fun r124 S124 => J_X8_tells_133 r124 S124)), (2, if ¬ nI s = (2 : Int32) then (J_X8_tells_156 (-12 : Int64) S) else (J_X8_tells_156 (S.2 216 h) S))]) else (some ((-11 : Int64), S)) := by
        unfold F_X8_tells
        rw [mgk, refIsHolder_e, if_neg c, cl_some, if_neg (by decide), fa_litL 3, show (F_X8_in (Int32.toInt64 (nI v)) 0 (lN 3) S) = some (if nI v < nI 0 ∨ nI 3 < nI v then 0 else 1, S) from inw_e _ 0 3 (by omega) (by omega) S, if_neg d, cl_some, if_pos (by decide)]
        simp only [mR13, mR14, mR15, mR16, jI kd213 hh (show 6 < 2 ^ 31 by omega), jI kd214 hh (show 6 < 2 ^ 31 by omega), jL kd215 hh (show 6 < 2 ^ 31 by omega), jL kd216 hh (show 6 < 2 ^ 31 by omega), s3]
      have hs : s = 0 ∨ s = 1 ∨ s = 2 ∨ s = 3 := by omega
      have hv : v = 0 ∨ v = 1 ∨ v = 2 ∨ v = 3 := by omega
      rcases hs with rfl | rfl | rfl | rfl
      · refine ⟨-11, S, S, ?_, ?_, hV⟩
        · rw [f7, sw_x (by decide), sw_x (by decide), sw_x (by decide), sw_n]
        · rw [f8, if_neg (show ¬ ¬ nI 0 = 0 from fun z => z rfl)]
      · obtain ⟨i, hi, i1, i2⟩ := s4 rfl
        have hi8 : i < 8 := by omega
        have gd := hG.1.2.2.2.2 i hi
        have hc := LC_book b1 hi8
        have hr := hRb.2.2.2.2 i hi
        have hk := gd.1.2.2.2.1
        rw [i2, if_pos (by decide)] at f8
        have f7' : F_X7_tells 0 (nI h) (nI v) S = sw (nI v) (some ((-12 : Int64), S)) [(0, some ((Int32.toInt64 (nI i)), S)), (1, gL 2 1 (1 + 2 + 7 * i) S fun v60 => some (v60, S)), (2, some ((-12 : Int64), S)), (3, gI 2 9 (1 + 2 + 7 * i) S fun v65 => if ¬ v65 = 0 then (some ((-12 : Int64), S)) else (gL 2 2 (1 + 2 + 7 * i) S fun v72 => some (v72, S)))] := by
          rw [f7, sw_y (by rfl), hI hh, i1, zgk]
          unfold F_X7_loanTells J_X7_loanTells_81 J_X7_loanTells_82
          rw [z0, bgk b1, has_yes b1 hC g8 hi, cl_some, if_pos (by decide), z0, br4 b1, baR b1 hi8]
          rcases hv with rfl | rfl | rfl | rfl
          · rw [sw_y (by rfl), cl_some]
          · rw [sw_x (by decide), sw_y (by rfl), lL hc, cl_some]
          · rw [sw_x (by decide), sw_x (by decide), sw_y (by rfl), cl_some]
          · rw [sw_x (by decide), sw_x (by decide), sw_x (by decide), sw_y (by rfl), lI hc]
            by_cases z : S.1 (1 + 2 + 7 * i) 9 = 0
            · rw [if_neg (fun y => y z), lL hc, cl_some]
            · rw [if_pos z, cl_some]
        rcases hv with rfl | rfl | rfl | rfl
        · refine ⟨lN i, S, S, ?_, ?_, hV⟩
          · rw [f7', sw_y (by rfl), wide_nI (by omega)]
          · rw [f8, sw_y (by rfl), if_pos (by decide), if_neg (show ¬ ¬ nI 1 = 1 from fun z => z rfl), wide_nI (by omega)]
            rfl
        · refine ⟨lN ((B.2.2.2.2 i).1 8), S, S, ?_, ?_, hV⟩
          · rw [f7', sw_x (by decide), sw_y (by rfl), lL hc, (hC.2.2.2.2 i hi).1.2.1]
          · rw [f8, sw_x (by decide), sw_y (by rfl), if_neg (show ¬ ¬ nI 1 = 1 from fun z => z rfl), mgk, fa_lit 8, at_e hi8 (by omega), cl_some, hr.1 8 (by omega)]
            rfl
        · refine ⟨-12, S, S, ?_, ?_, hV⟩
          · rw [f7', sw_x (by decide), sw_x (by decide), sw_y (by rfl)]
          · rw [f8, sw_x (by decide), sw_x (by decide), sw_y (by rfl), if_pos (by decide)]
            rfl
        · by_cases z : (B.2.2.2.2 i).1 3 = 0
          · refine ⟨lN ((B.2.2.2.2 i).1 9), S, S, ?_, ?_, hV⟩
            · rw [f7', sw_x (by decide), sw_x (by decide), sw_x (by decide), sw_y (by rfl), lI hc, (hC.2.2.2.2 i hi).2.1.2.2.1, z, if_neg (show ¬ ¬ nI 0 = 0 from fun y => y rfl), lL hc, (hC.2.2.2.2 i hi).1.2.2.1]
            · rw [f8, sw_x (by decide), sw_x (by decide), sw_x (by decide), sw_n, if_neg (show ¬ ¬ nI 1 = 1 from fun z => z rfl), mgk, fa_lit 3, at_e hi8 (by omega), cl_some, hr.1 3 (by omega), z, if_neg (show ¬ ¬ lN 0 = 0 from fun y => y rfl), mgk, fa_lit 9, at_e hi8 (by omega), cl_some, hr.1 9 (by omega)]
              rfl
          · refine ⟨-12, S, S, ?_, ?_, hV⟩
            · rw [f7', sw_x (by decide), sw_x (by decide), sw_x (by decide), sw_y (by rfl), lI hc, (hC.2.2.2.2 i hi).2.1.2.2.1, if_pos (show ¬ nI ((B.2.2.2.2 i).1 3) = 0 from fun y => by rw [show (0 : Int32) = nI 0 from rfl, nI_eq (by omega) (by omega)] at y; exact z y)]
            · rw [f8, sw_x (by decide), sw_x (by decide), sw_x (by decide), sw_n, if_neg (show ¬ ¬ nI 1 = 1 from fun z => z rfl), mgk, fa_lit 3, at_e hi8 (by omega), cl_some, hr.1 3 (by omega), if_pos (show ¬ lN ((B.2.2.2.2 i).1 3) = 0 from fun y => by rw [show (0 : Int64) = lN 0 from rfl, lN_eq63 (by omega) (by omega)] at y; exact z y)]
              rfl
      · obtain ⟨q1, q2⟩ := s5 rfl
        rw [if_pos (by decide)] at f8
        have f7' : F_X7_tells 0 (nI h) (nI v) S = sw (nI v) (some ((-12 : Int64), S)) [(0, some (S.2 215 h, S)), (2, some (S.2 216 h, S))] := by
          rw [f7, sw_x (by decide), sw_y (by rfl)]
          unfold F_X7_billTells
          rcases hv with rfl | rfl | rfl | rfl
          · rw [sw_y (by rfl), sw_y (by rfl), hI hh, cl_some, q1]
          · rw [sw_x (by decide), sw_x (by decide), sw_n, sw_x (by decide), sw_x (by decide), sw_n, cl_some]
          · rw [sw_x (by decide), sw_y (by rfl), sw_x (by decide), sw_y (by rfl), hL hh, cl_some, q2]
          · rw [sw_x (by decide), sw_x (by decide), sw_n, sw_x (by decide), sw_x (by decide), sw_n, cl_some]
        rcases hv with rfl | rfl | rfl | rfl
        · refine ⟨S.2 215 h, S, S, ?_, ?_, hV⟩
          · rw [f7', sw_y (by rfl)]
          · rw [f8, sw_y (by rfl), if_pos (by decide), if_pos (by decide)]
            rfl
        · refine ⟨-12, S, S, ?_, ?_, hV⟩
          · rw [f7', sw_x (by decide), sw_x (by decide), sw_n]
          · rw [f8, sw_x (by decide), sw_y (by rfl), if_pos (by decide)]
            rfl
        · refine ⟨S.2 216 h, S, S, ?_, ?_, hV⟩
          · rw [f7', sw_x (by decide), sw_y (by rfl)]
          · rw [f8, sw_x (by decide), sw_x (by decide), sw_y (by rfl), if_neg (show ¬ ¬ nI 2 = 2 from fun z => z rfl)]
            rfl
        · refine ⟨-12, S, S, ?_, ?_, hV⟩
          · rw [f7', sw_x (by decide), sw_x (by decide), sw_n]
          · rw [f8, sw_x (by decide), sw_x (by decide), sw_x (by decide), sw_n, if_pos (by decide)]
            rfl
      · rw [if_pos (by decide)] at f8
        refine ⟨-12, S, S, ?_, ?_, hV⟩
        · rw [f7, sw_x (by decide), sw_x (by decide), sw_y (by rfl)]
        · rcases hv with rfl | rfl | rfl | rfl
          · rw [f8, sw_y (by rfl), if_neg (show ¬ ¬ nI 3 = 3 from fun z => z rfl)]
            rfl
          · rw [f8, sw_x (by decide), sw_y (by rfl), if_pos (by decide)]
            rfl
          · rw [f8, sw_x (by decide), sw_x (by decide), sw_y (by rfl), if_pos (by decide)]
            rfl
          · rw [f8, sw_x (by decide), sw_x (by decide), sw_x (by decide), sw_n, if_pos (by decide)]
            rfl
