/-- hold -/
theorem y_hold (a b o : Int32) : Step (F_X7_hold 0 a b o) (F_X8_hold 202 a b o) := by
  rintro S ⟨B, hG, hC, hRb, hRS⟩
  have hV : Inv S := ⟨B, hG, hC, hRb, hRS⟩
  have g8 := hG.1.2.2.2.1
  rcases between a 0 5 (by omega) (by omega) with c | ⟨c, h, rfl, _, h5⟩
  · refine ⟨-1, S, S, ?_, ?_, hV⟩
    · unfold F_X7_hold J_X7_hold_23
      rw [isHolder_e, if_pos c, cl_some, if_pos rfl]
    · unfold F_X8_hold J_X8_hold_21
      rw [mgk, refIsHolder_e, if_pos c, cl_some, if_pos rfl]
  · have hh : h < 6 := by omega
    rcases loan_or b B.2.2.2.1 with hb | ⟨i, hi, rfl⟩
    · refine ⟨-1, S, S, ?_, ?_, hV⟩
      · unfold F_X7_hold J_X7_hold_23
        rw [isHolder_e, if_neg c, cl_some, if_neg (by decide), z0, bgk b1, has_no b1 hC g8 hb, cl_some, if_pos rfl]
      · unfold F_X8_hold J_X8_hold_21
        rw [mgk, refIsHolder_e, if_neg c, cl_some, if_neg (by decide), mgk, isLoan_no hRb g8 hb, cl_some, if_pos rfl]
    · have hi8 : i < 8 := by omega
      have gd := hG.1.2.2.2.2 i hi
      have hc := LC_book b1 hi8
      have hm := gd.1.2.2.2.2.1
      have hdn := gd.1.2.2.2.2.2.2.2.1
      have hl := bls_len gd.1
      by_cases d : (-1 : Int32) ≤ o
      · by_cases e : o = -1
        · subst e
          have eC : F_X7_hold 0 (nI h) (nI i) (-1) S = some (1, setI (setI S (190 + 2 * h) 0 1) (190 + 2 * h) 1 (nI i)) := by
            unfold F_X7_hold
            rw [isHolder_e, if_neg c, cl_some, if_neg (by decide), z0, bgk b1, has_yes b1 hC g8 hi, cl_some, if_neg (by decide), if_pos d, if_neg (fun z => z rfl), z7, hR hh, hgk hh]
            unfold F_X3_takeLoan
            rw [hpI hh, hpI hh, cl_some]
          have hRb1 : RB (setI (setI S (190 + 2 * h) 0 1) (190 + 2 * h) 1 (nI i)) 203 B := hRb
          have eR : F_X8_hold 202 (nI h) (nI i) (-1) (setI (setI S (190 + 2 * h) 0 1) (190 + 2 * h) 1 (nI i)) = some (1, setI (setI (setI (setI S (190 + 2 * h) 0 1) (190 + 2 * h) 1 (nI i)) 213 h 1) 214 h (nI i)) := by
            unfold F_X8_hold J_X8_hold_53 J_X8_hold_94
            rw [mgk, refIsHolder_e, if_neg c, cl_some, if_neg (by decide), mgk, isLoan_yes hRb1 g8 hi, cl_some, if_neg (by decide), if_pos d, mgk, fa_lit 14, at_e hi8 (by omega), cl_some, (hRb1.2.2.2.2 i hi).2.2.1, if_pos (by
              rw [Int64.lt_iff_toInt_lt, pk_lT (by omega)]
              show (-1 : Int) < _
              omega), mR13, if_neg (by decide), jSI kd213 hh (by omega), mR14, jSI kd214 hh (by omega), if_pos (by decide)]
          refine ⟨1, _, _, eC, eR, hold_inv hh hG hC hRb hRS ((((frH.rf S h).I (by omega) hh 1).I (by omega) hh (nI i)).I (by omega) hh 1 |>.I (by omega) hh (nI i)) ?_⟩
          refine ⟨1, by omega, ?_, ?_, fun _ => ⟨i, hi, ?_, setI_s⟩, fun z => by omega, fun z => by omega⟩
          · rw [setI_n (by omega), setI_n (by omega), setI_k (by omega), setI_s]
            rfl
          · rw [setI_n (by omega), setI_s]
            rfl
          · rw [setI_n (by omega), setI_n (by omega), setI_s]
        · obtain ⟨k, hk, rfl⟩ : ∃ k, k < 2 ^ 31 ∧ o = nI k := by
            rcases nI_or_neg o with z | z
            · exfalso
              rw [Int32.le_iff_toInt_le, show (-1 : Int32).toInt = -1 from rfl] at d
              rw [Int32.lt_iff_toInt_lt, Int32.toInt_zero] at z
              exact e (Int32.toInt_inj.mp (by rw [show (-1 : Int32).toInt = -1 from rfl]; omega))
            · exact z
          have hge : (0 : Int32) ≤ nI k := by
            rw [show (0 : Int32) = nI 0 from rfl, nI_leI (by omega) (by omega)]
            omega
          have hnn : ¬ nI k < 0 := by
            rw [show (0 : Int32) = nI 0 from rfl, nI_ltI (by omega) (by omega)]
            omega
          rw [bls_lvs] at hl
          by_cases z : k < (lvs (B.2.2.2.2 i)).length
          · have hmem := lvs_in gd.1 (getD_mem z)
            have hpe : pe ((B.2.2.2.2 i).1 6) ((lvs (B.2.2.2.2 i)).getD k 0) ≤ 36524 := pe_le (by have := gd.1.2.2.2.2.2.2.1; omega)
            have hat := bls_at z
            generalize hp : (lvs (B.2.2.2.2 i)).getD k 0 = p at hmem hpe hat
            have hne : ¬ nI p = 0 := fun y => by
              rw [show (0 : Int32) = nI 0 from rfl, nI_eq (by omega) (by omega)] at y
              omega
            have eC : F_X7_hold 0 (nI h) (nI i) (nI k) S = some (1, setL (setI (setI S (190 + 2 * h) 0 2) (190 + 2 * h) 1 (nI (pe ((B.2.2.2.2 i).1 6) p))) (190 + 2 * h) 3 (lN (ask (B.2.2.2.2 i) p))) := by
              unfold F_X7_hold
              rw [isHolder_e, if_neg c, cl_some, if_neg (by decide), z0, bgk b1, has_yes b1 hC g8 hi, cl_some, if_neg (by decide), if_pos d, if_pos e, z0, br4 b1, baR b1 hi8, lgk hc, pob_e hc (hC.2.2.2.2 i hi) gd.1 hk, cl_some, hp, if_pos hne, z7, hR hh, lr13 hc, laI1 hc (by omega), (hC.2.2.2.2 i hi).2.2.1 _ (by omega), lgk hc, asks_e hc (hC.2.2.2.2 i hi) (by omega), cl_some, hgk hh]
              unfold F_X3_takeBill
              rw [hpI hh, hpI hh, hpL hh, cl_some]
            have hRb1 : RB (setL (setI (setI S (190 + 2 * h) 0 2) (190 + 2 * h) 1 (nI (pe ((B.2.2.2.2 i).1 6) p))) (190 + 2 * h) 3 (lN (ask (B.2.2.2.2 i) p))) 203 B := hRb.same (by rw [setL_n (by omega)]; rfl)
            have fr1 := ((((frH.rf S h).I (c := 190 + 2 * h) (k := 0) (by omega) hh 2).I (c := 190 + 2 * h) (k := 1) (by omega) hh (nI (pe ((B.2.2.2.2 i).1 6) p))).L (c := 190 + 2 * h) (k := 3) (by omega) hh (lN (ask (B.2.2.2.2 i) p)))
            have x0 : (setL (setI (setI S (190 + 2 * h) 0 2) (190 + 2 * h) 1 (nI (pe ((B.2.2.2.2 i).1 6) p))) (190 + 2 * h) 3 (lN (ask (B.2.2.2.2 i) p))).1 (190 + 2 * h) 0 = nI 2 := by
              show (setI (setI S (190 + 2 * h) 0 2) (190 + 2 * h) 1 (nI (pe ((B.2.2.2.2 i).1 6) p))).1 (190 + 2 * h) 0 = nI 2
              rw [setI_k (by omega), setI_s]
              rfl
            have x1 : (setL (setI (setI S (190 + 2 * h) 0 2) (190 + 2 * h) 1 (nI (pe ((B.2.2.2.2 i).1 6) p))) (190 + 2 * h) 3 (lN (ask (B.2.2.2.2 i) p))).1 (190 + 2 * h) 1 = nI (pe ((B.2.2.2.2 i).1 6) p) := setI_s
            have x3 : (setL (setI (setI S (190 + 2 * h) 0 2) (190 + 2 * h) 1 (nI (pe ((B.2.2.2.2 i).1 6) p))) (190 + 2 * h) 3 (lN (ask (B.2.2.2.2 i) p))).2 (190 + 2 * h) 3 = lN (ask (B.2.2.2.2 i) p) := setL_s
            generalize setL (setI (setI S (190 + 2 * h) 0 2) (190 + 2 * h) 1 (nI (pe ((B.2.2.2.2 i).1 6) p))) (190 + 2 * h) 3 (lN (ask (B.2.2.2.2 i) p)) = S1 at eC hRb1 fr1 x0 x1 x3
            have hr2 : RLn (setI (setI S1 213 h 2) 214 h (nI i)) 203 i (B.2.2.2.2 i).1 (B.2.2.2.2 i).2.1 (bls (B.2.2.2.2 i)) := hRb1.2.2.2.2 i hi
            have hr3 : RLn (setL (setI (setI S1 213 h 2) 214 h (nI i)) 215 h (lN (pe ((B.2.2.2.2 i).1 6) p))) 203 i (B.2.2.2.2 i).1 (B.2.2.2.2 i).2.1 (bls (B.2.2.2.2 i)) := by
              unfold RLn at *
              rw [setL_n (by omega)]
              exact hr2
            have hbq : bq (bv (B.2.2.2.2 i) p) = ask (B.2.2.2.2 i) p := by
              show ((B.2.2.2.2 i).2.2 p).1 + ((B.2.2.2.2 i).2.2 p).2.1 + ((B.2.2.2.2 i).2.2 p).2.2.1 = ask (B.2.2.2.2 i) p
              unfold ask
              omega
            have g15 : (setI (setI S1 213 h 2) 214 h (nI i)).2 203 (315 * i + (15 + 5 * k)) = lN (pe ((B.2.2.2.2 i).1 6) p) := (congrArg ((setI (setI S1 213 h 2) 214 h (nI i)).2 203) (by omega)).trans (hr2.2.2.2 k _ hat).1
            have eR : F_X8_hold 202 (nI h) (nI i) (nI k) S1 = some (1, setL (setL (setI (setI S1 213 h 2) 214 h (nI i)) 215 h (lN (pe ((B.2.2.2.2 i).1 6) p))) 216 h (lN (ask (B.2.2.2.2 i) p))) := by
              unfold F_X8_hold J_X8_hold_53 J_X8_hold_94
              rw [mgk, refIsHolder_e, if_neg c, cl_some, if_neg (by decide), mgk, isLoan_yes hRb1 g8 hi, cl_some, if_neg (by decide), if_pos d, mgk, fa_lit 14, at_e hi8 (by omega), cl_some, (hRb1.2.2.2.2 i hi).2.2.1, bls_lvs, wide_nI hk, if_pos (by rw [lN_lt63 (by omega) (by omega)]; exact z), mR13, if_pos hge, jSI kd213 hh (by omega), mR14, jSI kd214 hh (by omega), if_neg hnn, mR15, mgk, show (15 : Int32) + (5 : Int32) * nI k = nI (15 + 5 * k) by rw [show (15 : Int32) = nI 15 from rfl, show (5 : Int32) = nI 5 from rfl, pk_mul, nI_add], at_e hi8 (by omega), cl_some, g15, jS kd215 hh (by omega), mR16, mgk, refAsks_e hi8 hr3 hat (by rw [bls_lvs]; omega), cl_some, jS kd216 hh (by omega), hbq]
            refine ⟨1, S1, _, eC, eR, hold_inv hh hG hC hRb hRS ((((fr1.I (c := 213) (k := h) (by omega) hh 2).I (c := 214) (k := h) (by omega) hh (nI i)).L (c := 215) (k := h) (by omega) hh _).L (c := 216) (k := h) (by omega) hh _) ?_⟩
            refine ⟨2, by omega, ?_, ?_, fun y => by omega, fun _ => ⟨?_, ?_⟩, fun y => by omega⟩
            · show (setI (setI S1 213 h 2) 214 h (nI i)).1 (190 + 2 * h) 0 = _
              rw [setI_n (by omega), setI_n (by omega)]
              exact x0
            · show (setI (setI S1 213 h 2) 214 h (nI i)).1 213 h = _
              rw [setI_n (by omega), setI_s]
              rfl
            · show Int32.toInt64 ((setI (setI S1 213 h 2) 214 h (nI i)).1 (190 + 2 * h) 1) = _
              rw [setI_n (by omega), setI_n (by omega), x1, wide_nI (by omega), setL_n (by omega), setL_s]
            · rw [setL_n (by omega), setL_n (by omega), setL_s]
              exact x3
          · refine ⟨-2, S, S, ?_, ?_, hV⟩
            · unfold F_X7_hold
              rw [isHolder_e, if_neg c, cl_some, if_neg (by decide), z0, bgk b1, has_yes b1 hC g8 hi, cl_some, if_neg (by decide), if_pos d, if_pos e, z0, br4 b1, baR b1 hi8, lgk hc, pob_e hc (hC.2.2.2.2 i hi) gd.1 hk, cl_some, getD_out z, if_neg (show ¬ ¬ nI 0 = 0 from fun y => y rfl)]
            · unfold F_X8_hold
              rw [mgk, refIsHolder_e, if_neg c, cl_some, if_neg (by decide), mgk, isLoan_yes hRb g8 hi, cl_some, if_neg (by decide), if_pos d, mgk, fa_lit 14, at_e hi8 (by omega), cl_some, (hRb.2.2.2.2 i hi).2.2.1, bls_lvs, wide_nI hk, if_neg (by rw [lN_lt63 (by omega) (by omega)]; exact z)]
      · refine ⟨-1, S, S, ?_, ?_, hV⟩
        · unfold F_X7_hold J_X7_hold_23
          rw [isHolder_e, if_neg c, cl_some, if_neg (by decide), z0, bgk b1, has_yes b1 hC g8 hi, cl_some, if_neg (by decide), if_neg d]
        · unfold F_X8_hold J_X8_hold_21
          rw [mgk, refIsHolder_e, if_neg c, cl_some, if_neg (by decide), mgk, isLoan_yes hRb g8 hi, cl_some, if_neg (by decide), if_neg d]
