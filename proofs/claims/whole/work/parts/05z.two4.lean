theorem sw_x {β : Type} {x k : Int32} (h : ¬ x = k) (d a : β) (l : List (Int32 × β)) : sw x d ((k, a) :: l) = sw x d l := if_neg h
theorem sw_y {β : Type} {x k : Int32} (h : x = k) (d a : β) (l : List (Int32 × β)) : sw x d ((k, a) :: l) = a := if_pos h
theorem bls_at {l : Ln} {k : Nat} (h : k < (lvs l).length) : (bls l)[k]? = some (bv l ((lvs l).getD k 0)) := by
  unfold bls
  rw [List.getElem?_map, List.getElem?_eq_getElem h, List.getD_eq_getElem?_getD, List.getElem?_eq_getElem h]
  rfl
theorem bls_lvs (l : Ln) : (bls l).length = (lvs l).length := by
  unfold bls
  rw [List.length_map]
section TW4
variable {S : St} {B : Bk} {i : Nat}
theorem refloan_e (a1 : Int64) (a2 a3 a4 : Int32) (S : St) : F_X8_loan 202 a1 a2 a3 a4 S = if (a1 < lN 1 ∨ lN 100000000 < a1) ∨ (a2 < nI 0 ∨ nI 5000 < a2) ∨ (a3 < nI 0 ∨ nI 3 < a3) ∨ (a4 < nI 0 ∨ nI 2999 < a4) ∨ ((a4 / 100 - a4 / 100 / 10 * 10) < nI 0 ∨ nI 1 < (a4 / 100 - a4 / 100 / 10 * 10)) ∨ ((a4 - a4 / 100 * 100) < nI 1 ∨ nI 60 < (a4 - a4 / 100 * 100)) then some (-1, S) else J_X8_loan_87 202 a1 a2 a3 a4 1 S := by
  have j0 : ∀ S, J_X8_loan_86 202 a1 a2 a3 a4 S = some (-1, S) := fun S => rfl
  unfold F_X8_loan
  rw [fa_litL 100000000, fa_litL 5000, fa_litL 3, fa_litL 2999, fa_litL 60, show (1 : Int64) = lN 1 from rfl, show (0 : Int64) = lN 0 from rfl, in_e, cl_some]
  by_cases c1 : a1 < lN 1 ∨ lN 100000000 < a1
  · rw [if_pos c1, if_pos rfl, if_pos (Or.inl c1), j0]
  · rw [if_neg c1, if_neg (by decide), inw_e _ _ _ (by omega) (by omega), cl_some]
    by_cases c2 : a2 < nI 0 ∨ nI 5000 < a2
    · rw [if_pos c2, if_pos rfl, if_pos (Or.inr (Or.inl c2)), j0]
    · rw [if_neg c2, if_neg (by decide), inw_e _ _ _ (by omega) (by omega), cl_some]
      by_cases c3 : a3 < nI 0 ∨ nI 3 < a3
      · rw [if_pos c3, if_pos rfl, if_pos (Or.inr (Or.inr (Or.inl c3))), j0]
      · rw [if_neg c3, if_neg (by decide), inw_e _ _ _ (by omega) (by omega), cl_some]
        by_cases c4 : a4 < nI 0 ∨ nI 2999 < a4
        · rw [if_pos c4, if_pos rfl, if_pos (Or.inr (Or.inr (Or.inr (Or.inl c4)))), j0]
        · rw [if_neg c4, if_neg (by decide), inw_e _ _ _ (by omega) (by omega), cl_some]
          by_cases c5 : (a4 / 100 - a4 / 100 / 10 * 10) < nI 0 ∨ nI 1 < (a4 / 100 - a4 / 100 / 10 * 10)
          · rw [if_pos c5, if_pos rfl, if_pos (Or.inr (Or.inr (Or.inr (Or.inr (Or.inl c5))))), j0]
          · rw [if_neg c5, if_neg (by decide), inw_e _ _ _ (by omega) (by omega), cl_some]
            by_cases c6 : (a4 - a4 / 100 * 100) < nI 1 ∨ nI 60 < (a4 - a4 / 100 * 100)
            · rw [if_pos c6, if_pos rfl, if_pos (Or.inr (Or.inr (Or.inr (Or.inr (Or.inr c6))))), j0]
            · rw [if_neg c6, if_neg (by decide), if_neg]
              rintro (z | z | z | z | z | z)
              · exact c1 z
              · exact c2 z
              · exact c3 z
              · exact c4 z
              · exact c5 z
              · exact c6 z
/-- loan -/
theorem t_loan (hG : GX B) (a1 : Int64) (a2 a3 a4 : Int32) : TwoB (F_X7_loan 0 a1 a2 a3 a4) (F_X8_loan 202 a1 a2 a3 a4) B := by
  have cls : ∀ S, F_X7_loan 0 a1 a2 a3 a4 S = F_X1_lend 1 a1 a2 a3 (a4 / 1000) (a4 / 100 - a4 / 100 / 10 * 10) (a4 - a4 / 100 * 100) S := by
    intro S
    unfold F_X7_loan
    rw [z0, bgk b1]
    cases h : F_X1_lend 1 a1 a2 a3 (a4 / 1000) (a4 / 100 - a4 / 100 / 10 * 10) (a4 - a4 / 100 * 100) S with
    | none => rfl
    | some x => rfl
  rcases nI_or_neg a4 with hneg | ⟨v, hv, rfl⟩
  · refine TwoB.no hG (-1) (fun S hS => ?_) (fun S hS => ?_)
    · rw [cls]
      rcases lend_arg a1 a2 a3 (a4 / 1000) (a4 / 100 - a4 / 100 / 10 * 10) (a4 - a4 / 100 * 100) with z | ⟨lent, rate, cn, kd, md, n, _, _, _, _, _, e6, _, _, _, _, _, _, l7, l8⟩
      · exact z 1 S
      · have h9 := neg_rem hneg
        rw [e6, nI_ltI (by omega) (by omega)] at h9
        omega
    · rw [refloan_e, if_pos (Or.inr (Or.inr (Or.inr (Or.inl (Or.inl (show a4 < nI 0 from hneg))))))]
  · have e1 : nI v / (1000 : Int32) = nI (v / 1000) := by rw [fa_lit 1000, pk_div (by omega) (by omega) (by omega)]
    have e2 : nI v / (100 : Int32) - nI v / (100 : Int32) / (10 : Int32) * (10 : Int32) = nI (v / 100 % 10) := by
      rw [fa_lit 100, fa_lit 10, pk_div (by omega) (by omega) (by omega), pk_div (by omega) (by omega) (by omega), pk_mul, pk_sub (by omega), mod_e]
    have e3 : nI v - nI v / (100 : Int32) * (100 : Int32) = nI (v % 100) := by
      rw [fa_lit 100, pk_div (by omega) (by omega) (by omega), pk_mul, pk_sub (by omega), mod_e]
    by_cases ok : (¬ (a1 < lN 1 ∨ lN 100000000 < a1)) ∧ (¬ (a2 < nI 0 ∨ nI 5000 < a2)) ∧ (¬ (a3 < nI 0 ∨ nI 3 < a3)) ∧ v ≤ 2999 ∧ v / 100 % 10 ≤ 1 ∧ 1 ≤ v % 100 ∧ v % 100 ≤ 60
    · obtain ⟨o1, o2, o3, o4, o5, o6, o7⟩ := ok
      rcases betweenL a1 1 100000000 (by omega) (by omega) with c | ⟨_, lent, rfl, l1, l2⟩
      · exact absurd c o1
      · rcases between a2 0 5000 (by omega) (by omega) with c | ⟨_, rate, rfl, _, l3⟩
        · exact absurd c o2
        · rcases between a3 0 3 (by omega) (by omega) with c | ⟨_, cn, rfl, _, l4⟩
          · exact absurd c o3
          · have hv2 : 1000 * (v / 1000) + 100 * (v / 100 % 10) + v % 100 = v := by omega
            obtain ⟨r, B', t1, t2, t3, t4⟩ := lend_two hG l1 l2 l3 l4 (show v / 1000 ≤ 2 by omega) o5 o6 o7
            rw [hv2] at t4
            refine ⟨r, B', t1, t2, fun S hS => ?_, fun S hS => ?_⟩
            · rw [cls, e1, e2, e3]
              exact t3 S hS
            · rw [refloan_e, e2, e3, if_neg]
              · exact t4 S hS
              · rintro (z | z | z | z | z | z)
                · exact o1 z
                · exact o2 z
                · exact o3 z
                · rw [nI_ltI (by omega) (by omega), nI_ltI (by omega) (by omega)] at z
                  omega
                · rw [nI_ltI (by omega) (by omega), nI_ltI (by omega) (by omega)] at z
                  omega
                · rw [nI_ltI (by omega) (by omega), nI_ltI (by omega) (by omega)] at z
                  omega
    · refine TwoB.no hG (-1) (fun S hS => ?_) (fun S hS => ?_)
      · rw [cls, e1, e2, e3]
        rcases lend_arg a1 a2 a3 (nI (v / 1000)) (nI (v / 100 % 10)) (nI (v % 100)) with z | ⟨lent, rate, cn, kd, md, n, x1, x2, x3, x4, x5, x6, l1, l2, l3, l4, l5, l6, l7, l8⟩
        · exact z 1 S
        · refine absurd ⟨?_, ?_, ?_, ?_, ?_, ?_, ?_⟩ ok
          · rw [x1, lN_lt63 (by omega) (by omega), lN_lt63 (by omega) (by omega)]
            omega
          · rw [x2, nI_ltI (by omega) (by omega), nI_ltI (by omega) (by omega)]
            omega
          · rw [x3, nI_ltI (by omega) (by omega), nI_ltI (by omega) (by omega)]
            omega
          · rw [nI_eq (by omega) (by omega)] at x4
            omega
          · rw [nI_eq (by omega) (by omega)] at x5
            omega
          · rw [nI_eq (by omega) (by omega)] at x6
            omega
          · rw [nI_eq (by omega) (by omega)] at x6
            omega
      · rw [refloan_e, e2, e3, if_pos]
        by_cases c1 : a1 < lN 1 ∨ lN 100000000 < a1
        · exact Or.inl c1
        · by_cases c2 : a2 < nI 0 ∨ nI 5000 < a2
          · exact Or.inr (Or.inl c2)
          · by_cases c3 : a3 < nI 0 ∨ nI 3 < a3
            · exact Or.inr (Or.inr (Or.inl c3))
            · by_cases c4 : v ≤ 2999
              · by_cases c5 : v / 100 % 10 ≤ 1
                · right; right; right; right; right
                  rw [nI_ltI (by omega) (by omega), nI_ltI (by omega) (by omega)]
                  by_cases c6 : 1 ≤ v % 100 ∧ v % 100 ≤ 60
                  · exact absurd ⟨c1, c2, c3, c4, c5, c6.1, c6.2⟩ ok
                  · omega
                · right; right; right; right; left
                  rw [nI_ltI (by omega) (by omega), nI_ltI (by omega) (by omega)]
                  omega
              · right; right; right; left
                rw [nI_ltI (by omega) (by omega), nI_ltI (by omega) (by omega)]
                omega
/-- of -/
theorem t_of (hG : GX B) (a m : Int32) : TwoB (F_X7_of 0 a m) (F_X8_of 202 a m) B := by
  have g8 := hG.1.2.2.2.1
  rcases loan_or a B.2.2.2.1 with h | ⟨i, hi, rfl⟩
  · refine TwoB.no hG (-1) (fun S hS => ?_) (fun S hS => ?_)
    · unfold F_X7_of
      rw [z0, bgk b1, has_no b1 hS g8 h, cl_some, if_neg (fun z => z rfl)]
    · unfold F_X8_of J_X8_of_20
      rw [mgk, isLoan_no hS g8 h, cl_some, if_pos rfl]
  · have hi8 : i < 8 := by omega
    have gd := hG.1.2.2.2.2 i hi
    have hc := LC_book b1 hi8
    have hm := gd.1.2.2.2.2.1
    have hdn := gd.1.2.2.2.2.2.2.2.1
    have hl := bls_len gd.1
    have hB1 := hG.1.1
    have f7 : ∀ S, CB S 1 B → F_X7_of 0 (nI i) m S = sw m (some ((-1 : Int32), S)) [(0, gI 2 7 (1 + 2 + 7 * i) S fun v81 => some (v81, S)), (1, gI 2 8 (1 + 2 + 7 * i) S fun v86 => some (v86, S)), (2, gI 2 9 (1 + 2 + 7 * i) S fun v91 => some (v91, S)), (3, gI 2 11 (1 + 2 + 7 * i) S fun v96 => some (v96, S)), (4, gI 2 10 (1 + 2 + 7 * i) S fun v101 => some (v101, S)), (5, gR 2 13 (1 + 2 + 7 * i) fun v106 => aI v106 (0 : Int32) S fun v110 => some (v110, S)), (6, gI 2 12 (1 + 2 + 7 * i) S fun v113 => some (v113, S)), (7, gk (1 + 2 + 7 * i) 2 <| cl (F_X4_billsInArrears (1 + 2 + 7 * i) S) fun r118 S118 => some (r118, S118)), (8, gR 5 0 0 fun v124 => gI 0 0 v124 S fun v127 => gk (1 + 2 + 7 * i) 2 <| cl (F_X4_daysLate (1 + 2 + 7 * i) v127 S) fun r130 S130 => some (r130, S130)), (9, gI 2 12 (1 + 2 + 7 * i) S fun v135 => gI 2 11 (1 + 2 + 7 * i) S fun v139 => if v139 ≤ v135 then (J_X7_of_161 (-2 : Int32) S) else (gR 2 13 (1 + 2 + 7 * i) fun v146 => gI 2 12 (1 + 2 + 7 * i) S fun v150 => aI v146 (v150 + (1 : Int32)) S fun v155 => J_X7_of_161 v155 S))] := by
      intro S hS
      unfold F_X7_of
      rw [z0, bgk b1, has_yes b1 hS g8 hi, cl_some, if_pos (by decide), z0, br4 b1, baR b1 hi8]
    rcases between m 0 9 (by omega) (by omega) with c | ⟨c, v, rfl, _, v9⟩
    · refine TwoB.no hG (-1) (fun S hS => ?_) (fun S hS => ?_)
      · rw [f7 S hS]
        have hne : ∀ k : Nat, k ≤ 9 → m ≠ nI k := by
          rintro k hk rfl
          rw [nI_ltI (by omega) (by omega), nI_ltI (by omega) (by omega)] at c
          omega
        rw [sw_x (show ¬ m = 0 from hne 0 (by omega)), sw_x (show ¬ m = 1 from hne 1 (by omega)), sw_x (show ¬ m = 2 from hne 2 (by omega)), sw_x (show ¬ m = 3 from hne 3 (by omega)), sw_x (show ¬ m = 4 from hne 4 (by omega)), sw_x (show ¬ m = 5 from hne 5 (by omega)), sw_x (show ¬ m = 6 from hne 6 (by omega)), sw_x (show ¬ m = 7 from hne 7 (by omega)), sw_x (show ¬ m = 8 from hne 8 (by omega)), sw_x (show ¬ m = 9 from hne 9 (by omega)), sw_n]
      · unfold F_X8_of J_X8_of_20
        rw [mgk, isLoan_yes hS g8 hi, cl_some, if_neg (by decide), fa_litL 9, show (0 : Int64) = lN 0 from rfl, inw_e _ _ _ (by omega) (by omega), if_pos c, cl_some, if_neg (fun z => z rfl)]
    · have f8 : ∀ S, RB S 203 B → F_X8_of 202 (nI i) (nI v) S = sw (nI v) (gk 202 6 <| cl (F_X8_at 202 (nI i) (4 : Int32) S) fun r178 S178 => if ¬ (Int32.toInt64 (nI ((B.2.2.2.2 i).1 7))) = r178 then (gk 202 6 <| cl (F_X8_endOf 202 (nI i) ((nI ((B.2.2.2.2 i).1 7)) + (1 : Int32)) S178) fun r196 S196 => J_X8_of_199 r196 S196) else (J_X8_of_199 (-2 : Int32) S178)) [(0, gk 202 6 <| cl (F_X8_at 202 (nI i) (1 : Int32) S) fun r95 S95 => some ((Int64.toInt32 r95), S95)), (1, gk 202 6 <| cl (F_X8_at 202 (nI i) (2 : Int32) S) fun r103 S103 => some ((Int64.toInt32 r103), S103)), (2, gk 202 6 <| cl (F_X8_at 202 (nI i) (3 : Int32) S) fun r111 S111 => some ((Int64.toInt32 r111), S111)), (3, gk 202 6 <| cl (F_X8_at 202 (nI i) (4 : Int32) S) fun r119 S119 => some ((Int64.toInt32 r119), S119)), (4, gk 202 6 <| cl (F_X8_at 202 (nI i) (5 : Int32) S) fun r127 S127 => some ((Int64.toInt32 r127), S127)), (5, gk 202 6 <| cl (F_X8_at 202 (nI i) (6 : Int32) S) fun r136 S136 => some ((Int64.toInt32 r136), S136)), (6, some (nI ((B.2.2.2.2 i).1 7), S)), (7, some (nI (bls (B.2.2.2.2 i)).length, S)), (8, if ¬ nI (bls (B.2.2.2.2 i)).length = 0 then (gR 6 0 202 fun v155 => aJ v155 (2521 : Int32) S fun v161 => gk 202 6 <| cl (F_X8_at 202 (nI i) (15 : Int32) S) fun r166 S166 => J_X8_of_171 (Int64.toInt32 (v161 - r166)) S166) else (J_X8_of_171 (0 : Int32) S))] := by
        intro S hS
        have hr := hS.2.2.2.2 i hi
        unfold F_X8_of
        rw [mgk, isLoan_yes hS g8 hi, cl_some, if_neg (by decide), fa_litL 9, show (0 : Int64) = lN 0 from rfl, inw_e _ _ _ (by omega) (by omega), if_neg c, cl_some, if_pos (by decide), mgk, show (14 : Int32) = nI 14 from rfl, at_e hi8 (by omega), cl_some, hr.2.2.1, lN_i32, bd_e, mgk, show (7 : Int32) = nI 7 from rfl, at_e hi8 (by omega), cl_some, hr.1 7 (by omega), lN_i32, bd_e]
      have hv : v = 0 ∨ v = 1 ∨ v = 2 ∨ v = 3 ∨ v = 4 ∨ v = 5 ∨ v = 6 ∨ v = 7 ∨ v = 8 ∨ v = 9 := by omega
      rcases hv with rfl | rfl | rfl | rfl | rfl | rfl | rfl | rfl | rfl | rfl
      · refine TwoB.no hG (nI ((B.2.2.2.2 i).1 1)) (fun S hS => ?_) (fun S hS => ?_)
        · rw [f7 S hS, sw_y (by rfl), lI hc, (hS.2.2.2.2 i hi).2.1.1]
        · rw [f8 S hS, sw_y (by rfl), mgk, fa_lit 1, at_e hi8 (by omega), cl_some, (hS.2.2.2.2 i hi).1 1 (by omega), lN_i32]
      · refine TwoB.no hG (nI ((B.2.2.2.2 i).1 2)) (fun S hS => ?_) (fun S hS => ?_)
        · rw [f7 S hS, sw_x (by decide), sw_y (by rfl), lI hc, (hS.2.2.2.2 i hi).2.1.2.1]
        · rw [f8 S hS, sw_x (by decide), sw_y (by rfl), mgk, fa_lit 2, at_e hi8 (by omega), cl_some, (hS.2.2.2.2 i hi).1 2 (by omega), lN_i32]
      · refine TwoB.no hG (nI ((B.2.2.2.2 i).1 3)) (fun S hS => ?_) (fun S hS => ?_)
        · rw [f7 S hS, sw_x (by decide), sw_x (by decide), sw_y (by rfl), lI hc, (hS.2.2.2.2 i hi).2.1.2.2.1]
        · rw [f8 S hS, sw_x (by decide), sw_x (by decide), sw_y (by rfl), mgk, fa_lit 3, at_e hi8 (by omega), cl_some, (hS.2.2.2.2 i hi).1 3 (by omega), lN_i32]
      · refine TwoB.no hG (nI ((B.2.2.2.2 i).1 4)) (fun S hS => ?_) (fun S hS => ?_)
        · rw [f7 S hS, sw_x (by decide), sw_x (by decide), sw_x (by decide), sw_y (by rfl), lI hc, (hS.2.2.2.2 i hi).2.1.2.2.2.2.1]
        · rw [f8 S hS, sw_x (by decide), sw_x (by decide), sw_x (by decide), sw_y (by rfl), mgk, fa_lit 4, at_e hi8 (by omega), cl_some, (hS.2.2.2.2 i hi).1 4 (by omega), lN_i32]
      · refine TwoB.no hG (nI ((B.2.2.2.2 i).1 5)) (fun S hS => ?_) (fun S hS => ?_)
        · rw [f7 S hS, sw_x (by decide), sw_x (by decide), sw_x (by decide), sw_x (by decide), sw_y (by rfl), lI hc, (hS.2.2.2.2 i hi).2.1.2.2.2.1]
        · rw [f8 S hS, sw_x (by decide), sw_x (by decide), sw_x (by decide), sw_x (by decide), sw_y (by rfl), mgk, fa_lit 5, at_e hi8 (by omega), cl_some, (hS.2.2.2.2 i hi).1 5 (by omega), lN_i32]
      · refine TwoB.no hG (nI ((B.2.2.2.2 i).1 6)) (fun S hS => ?_) (fun S hS => ?_)
        · rw [f7 S hS, sw_x (by decide), sw_x (by decide), sw_x (by decide), sw_x (by decide), sw_x (by decide), sw_y (by rfl), lr13 hc, show (0 : Int32) = nI 0 from rfl, laI1 hc (by omega), (hS.2.2.2.2 i hi).2.2.1 0 (by omega), pe_0]
        · rw [f8 S hS, sw_x (by decide), sw_x (by decide), sw_x (by decide), sw_x (by decide), sw_x (by decide), sw_y (by rfl), mgk, fa_lit 6, at_e hi8 (by omega), cl_some, (hS.2.2.2.2 i hi).1 6 (by omega), lN_i32]
      · refine TwoB.no hG (nI ((B.2.2.2.2 i).1 7)) (fun S hS => ?_) (fun S hS => ?_)
        · rw [f7 S hS, sw_x (by decide), sw_x (by decide), sw_x (by decide), sw_x (by decide), sw_x (by decide), sw_x (by decide), sw_y (by rfl), lI hc, (hS.2.2.2.2 i hi).2.1.2.2.2.2.2]
        · rw [f8 S hS, sw_x (by decide), sw_x (by decide), sw_x (by decide), sw_x (by decide), sw_x (by decide), sw_x (by decide), sw_y (by rfl)]
      · refine TwoB.no hG (nI (bls (B.2.2.2.2 i)).length) (fun S hS => ?_) (fun S hS => ?_)
        · rw [f7 S hS, sw_x (by decide), sw_x (by decide), sw_x (by decide), sw_x (by decide), sw_x (by decide), sw_x (by decide), sw_x (by decide), sw_y (by rfl), lgk hc, bia_e hc (hS.2.2.2.2 i hi) gd.1, cl_some, bls_lvs]
        · rw [f8 S hS, sw_x (by decide), sw_x (by decide), sw_x (by decide), sw_x (by decide), sw_x (by decide), sw_x (by decide), sw_x (by decide), sw_y (by rfl)]
      · by_cases y : lvs (B.2.2.2.2 i) = []
        · refine TwoB.no hG 0 (fun S hS => ?_) (fun S hS => ?_)
          · rw [f7 S hS, sw_x (by decide), sw_x (by decide), sw_x (by decide), sw_x (by decide), sw_x (by decide), sw_x (by decide), sw_x (by decide), sw_x (by decide), sw_y (by rfl), z0, bI b1, lgk hc, daysLate_e hc (hS.2.2.2.2 i hi) gd.1, cl_some, if_pos y]
          · rw [f8 S hS, sw_x (by decide), sw_x (by decide), sw_x (by decide), sw_x (by decide), sw_x (by decide), sw_x (by decide), sw_x (by decide), sw_x (by decide), sw_y (by rfl), if_neg (show ¬ ¬ nI (bls (B.2.2.2.2 i)).length = 0 from fun z => z (by rw [bls_lvs, y]; rfl))]
            rfl
        · have hpos : 0 < (lvs (B.2.2.2.2 i)).length := List.length_pos_iff.mpr y
          have hmem := lvs_in gd.1 (getD_mem hpos)
          have hle : pe ((B.2.2.2.2 i).1 6) ((lvs (B.2.2.2.2 i)).getD 0 0) ≤ B.1 := by
            have h1 := gd.2.2.1
            by_cases e : (lvs (B.2.2.2.2 i)).getD 0 0 = (B.2.2.2.2 i).1 7
            · rw [e]; exact h1
            · have h2 := pe_mono (s := (B.2.2.2.2 i).1 6) (show (lvs (B.2.2.2.2 i)).getD 0 0 < (B.2.2.2.2 i).1 7 by omega)
              omega
          refine TwoB.no hG (nI (B.1 - pe ((B.2.2.2.2 i).1 6) ((lvs (B.2.2.2.2 i)).getD 0 0))) (fun S hS => ?_) (fun S hS => ?_)
          · rw [f7 S hS, sw_x (by decide), sw_x (by decide), sw_x (by decide), sw_x (by decide), sw_x (by decide), sw_x (by decide), sw_x (by decide), sw_x (by decide), sw_y (by rfl), z0, bI b1, lgk hc, daysLate_e hc (hS.2.2.2.2 i hi) gd.1, cl_some, if_neg y, hS.1, pk_sub hle]
          · have hr := hS.2.2.2.2 i hi
            have h15 : S.2 203 (315 * i + 15) = lN (pe ((B.2.2.2.2 i).1 6) ((lvs (B.2.2.2.2 i)).getD 0 0)) := (hr.2.2.2 0 _ (bls_at hpos)).1
            rw [f8 S hS, sw_x (by decide), sw_x (by decide), sw_x (by decide), sw_x (by decide), sw_x (by decide), sw_x (by decide), sw_x (by decide), sw_x (by decide), sw_y (by rfl), if_pos (show ¬ nI (bls (B.2.2.2.2 i)).length = 0 from fun z => by rw [show (0 : Int32) = nI 0 from rfl, nI_eq (by omega) (by omega), bls_lvs] at z; omega), mR0, fa_lit 2521, g_at _ (by omega), hS.2.1, mgk, fa_lit 15, at_e hi8 (by omega), cl_some, h15, lN_sub hle, lN_i32]
            rfl
      · by_cases y : (B.2.2.2.2 i).1 4 ≤ (B.2.2.2.2 i).1 7
        · refine TwoB.no hG (-2) (fun S hS => ?_) (fun S hS => ?_)
          · rw [f7 S hS, sw_x (by decide), sw_x (by decide), sw_x (by decide), sw_x (by decide), sw_x (by decide), sw_x (by decide), sw_x (by decide), sw_x (by decide), sw_x (by decide), sw_y (by rfl), lI hc, lI hc, (hS.2.2.2.2 i hi).2.1.2.2.2.2.2, (hS.2.2.2.2 i hi).2.1.2.2.2.2.1, if_pos (by rw [nI_leI (by omega) (by omega)]; exact y)]
            rfl
          · rw [f8 S hS, sw_x (by decide), sw_x (by decide), sw_x (by decide), sw_x (by decide), sw_x (by decide), sw_x (by decide), sw_x (by decide), sw_x (by decide), sw_x (by decide), sw_n, mgk, fa_lit 4, at_e hi8 (by omega), cl_some, (hS.2.2.2.2 i hi).1 4 (by omega), wide_nI (by omega), if_neg (fun z => z (by congr 1; omega))]
            rfl
        · refine TwoB.no hG (nI (pe ((B.2.2.2.2 i).1 6) ((B.2.2.2.2 i).1 7 + 1))) (fun S hS => ?_) (fun S hS => ?_)
          · rw [f7 S hS, sw_x (by decide), sw_x (by decide), sw_x (by decide), sw_x (by decide), sw_x (by decide), sw_x (by decide), sw_x (by decide), sw_x (by decide), sw_x (by decide), sw_y (by rfl), lI hc, lI hc, (hS.2.2.2.2 i hi).2.1.2.2.2.2.2, (hS.2.2.2.2 i hi).2.1.2.2.2.2.1, if_neg (by rw [nI_leI (by omega) (by omega)]; exact y), lr13 hc, lI hc, (hS.2.2.2.2 i hi).2.1.2.2.2.2.2, show nI ((B.2.2.2.2 i).1 7) + 1 = nI ((B.2.2.2.2 i).1 7 + 1) from nI_1 _, laI1 hc (by omega), (hS.2.2.2.2 i hi).2.2.1 _ (by omega)]
            rfl
          · rw [f8 S hS, sw_x (by decide), sw_x (by decide), sw_x (by decide), sw_x (by decide), sw_x (by decide), sw_x (by decide), sw_x (by decide), sw_x (by decide), sw_x (by decide), sw_n, mgk, fa_lit 4, at_e hi8 (by omega), cl_some, (hS.2.2.2.2 i hi).1 4 (by omega), wide_nI (by omega), if_pos (fun z => by rw [lN_eq63 (by omega) (by omega)] at z; omega), mgk, show nI ((B.2.2.2.2 i).1 7) + 1 = nI ((B.2.2.2.2 i).1 7 + 1) from nI_1 _, endOf_e hi8 (hS.2.2.2.2 i hi).rn gd.1.gs (by omega), cl_some]
            rfl
end TW4
