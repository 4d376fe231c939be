def lx (l : Ln) : Nat → Nat → Int64 → Int64
  | _, 0, x => x
  | q, j + 1, x => lx l (q + 1) j (if 0 < ff l q then lN (pe (l.1 6) (l.1 7 + q + 1)) else x)
theorem lx_e (l : Ln) : ∀ (j q : Nat) (x : Int64), lx l q j x = match (tcf l q j).getLast? with | none => x | some y => lN (pe (l.1 6) (l.1 7 + y + 1))
  | 0, _, _ => rfl
  | j + 1, q, x => by
    have e1 : lx l q (j + 1) x = lx l (q + 1) j (if 0 < ff l q then lN (pe (l.1 6) (l.1 7 + q + 1)) else x) := rfl
    have e2 : tcf l q (j + 1) = if 0 < ff l q then q :: tcf l (q + 1) j else tcf l (q + 1) j := rfl
    rw [e1, e2, lx_e l j (q + 1)]
    by_cases c : 0 < ff l q
    · rw [if_pos c, if_pos c, List.getLast?_cons]
      cases (tcf l (q + 1) j).getLast? with
      | none => rfl
      | some y => rfl
    · rw [if_neg c, if_neg c]
section PL3
variable {S : St} {l : Ln}
theorem gfC_loop (hG : GD l) (hS : PC S l) : ∀ (j n q x : Nat), j < n → q + j = fm l → x ≤ 150000000 → L_X5_greatestFlow_9 n 182 (lN x) (nI (l.1 7 + q + 1)) S = some (lN (gf l q j x), S)
  | _, 0, _, _, h, _, _ => absurd h (Nat.not_lt_zero _)
  | 0, n + 1, q, x, _, hq, _ => by
    have hm := hG.2.2.2.2.1
    have hdn := hG.2.2.2.2.2.2.2.1
    have hfm : fm l = l.1 4 - l.1 7 := rfl
    show B_X5_greatestFlow_9 _ _ _ _ _ = _
    unfold B_X5_greatestFlow_9
    rw [pI0, hS.2.1, if_pos (by rw [nI_ltI (by omega) (by omega)]; omega)]
    rfl
  | j + 1, n + 1, q, x, hn, hq, hx => by
    have hm := hG.2.2.2.2.1
    have hdn := hG.2.2.2.2.2.2.2.1
    have hfm : fm l = l.1 4 - l.1 7 := rfl
    have hf := ff_le hG (show q < fm l by omega)
    have ex : nI (l.1 7 + q + 1) + 1 = nI (l.1 7 + (q + 1) + 1) := by rw [nI_1]; congr 1
    show B_X5_greatestFlow_9 _ _ _ _ _ = _
    unfold B_X5_greatestFlow_9
    rw [pI0, hS.2.1, if_neg (by rw [nI_ltI (by omega) (by omega)]; omega), pgk, flowC hG hS (by omega), cl_some, maxL_e (by omega) (by omega), cl_some, ex, gfC_loop hG hS j n (q + 1) _ (by omega) (by omega) (by omega)]
    rfl
theorem gfC (hG : GD l) (hS : PC S l) : F_X5_greatestFlow 182 S = some (lN (gf l 0 (fm l) 0), S) := by
  have hm := hG.2.2.2.2.1
  have hfm : fm l = l.1 4 - l.1 7 := rfl
  unfold F_X5_greatestFlow
  rw [pI0, hS.1, bd_e, nI_1]
  exact gfC_loop hG hS (fm l) 6000 0 0 (by omega) (by omega) (by omega)
def cres (a c : Nat) (x4 : Int64) (x6 : Nat) : Int64 := if a = 0 then lN c else if a = 1 then x4 else lN x6
theorem comR_loop (hG : GD l) (hS : RC S l) {a : Nat} (ha : a ≤ 2) : ∀ (j n q c x6 : Nat) (x4 : Int64), j < n → q + j = fm l → x6 ≤ 150000000 → c ≤ q → L_X8_coming_42 n 202 (nI a) (nI c) x4 (lN x6) (nI q) S = some (cres a (c + (tcf l q j).length) (lx l q j x4) (gf l q j x6), S)
  | _, 0, _, _, _, _, h, _, _, _ => absurd h (Nat.not_lt_zero _)
  | 0, n + 1, q, c, x6, x4, _, hq, _, hcq => by
    have hm := hG.2.2.2.2.1
    have hfm : fm l = l.1 4 - l.1 7 := rfl
    show B_X8_coming_42 _ _ _ _ _ _ _ _ = _
    unfold B_X8_coming_42 J_X8_coming_127
    rw [mI, hS.1, if_pos (by rw [nI_leI (by omega) (by omega)]; omega), wide_nI (by omega)]
    have hv : a = 0 ∨ a = 1 ∨ a = 2 := by omega
    rcases hv with rfl | rfl | rfl
    · rw [if_neg (show ¬ ¬ nI 0 = 0 from fun z => z rfl)]; rfl
    · rw [if_pos (by decide), if_neg (show ¬ ¬ nI 1 = 1 from fun z => z rfl)]; rfl
    · rw [if_pos (by decide), if_pos (by decide)]; rfl
  | j + 1, n + 1, q, c, x6, x4, hn, hq, hx, hcq => by
    have hm := hG.2.2.2.2.1
    have hfm : fm l = l.1 4 - l.1 7 := rfl
    have hf := ff_le hG (show q < fm l by omega)
    have hpe : pe (l.1 6) (l.1 7 + q + 1) ≤ 36524 := pe_le (by have := hG.2.2.2.2.2.2.1; omega)
    have eS : tcf l q (j + 1) = if 0 < ff l q then q :: tcf l (q + 1) j else tcf l (q + 1) j := rfl
    have eL : lx l q (j + 1) x4 = lx l (q + 1) j (if 0 < ff l q then lN (pe (l.1 6) (l.1 7 + q + 1)) else x4) := rfl
    have eG : gf l q (j + 1) x6 = gf l (q + 1) j (max x6 (ff l q)) := rfl
    show B_X8_coming_42 _ _ _ _ _ _ _ _ = _
    unfold B_X8_coming_42 J_X8_coming_98 J_X8_coming_100
    rw [mI, hS.1, if_neg (by rw [nI_leI (by omega) (by omega)]; omega), mgk, flowR hG hS (by omega), cl_some, nI_1 q, eS, eL, eG]
    by_cases d : 0 < ff l q
    · rw [if_neg (by rw [show (0 : Int64) = lN 0 from rfl, lN_le63 (by omega) (by omega)]; omega), if_pos d, if_pos d, mR5, jI kd207 (by omega) (by omega), (hS.2 q (by omega)).1, wide_nI (by omega), bd_e, mgk, flowR hG hS (by omega), cl_some, mgk, flowR hG hS (by omega), cl_some, nI_1, List.length_cons, show c + ((tcf l (q + 1) j).length + 1) = c + 1 + (tcf l (q + 1) j).length by omega]
      by_cases g : ff l q ≤ x6
      · rw [if_pos (by rw [lN_le63 (by omega) (by omega)]; exact g), comR_loop hG hS ha j n (q + 1) (c + 1) x6 _ (by omega) (by omega) hx (by omega), Nat.max_eq_left g]
      · rw [if_neg (by rw [lN_le63 (by omega) (by omega)]; exact g), comR_loop hG hS ha j n (q + 1) (c + 1) (ff l q) _ (by omega) (by omega) hf (by omega), Nat.max_eq_right (by omega)]
    · rw [if_pos (by rw [show (0 : Int64) = lN 0 from rfl, lN_le63 (by omega) (by omega)]; omega), if_neg d, if_neg d, comR_loop hG hS ha j n (q + 1) c x6 _ (by omega) (by omega) hx (by omega), Nat.max_eq_left (by omega)]
end PL3
section TW7
variable {B : Bk} {i : Nat}
theorem CB.F {S S' : St} (h : CB S 1 B) (g8 : B.2.2.2.1 ≤ 8) (ho : offF S S') : CB S' 1 B := by
  obtain ⟨q0, q1, q2, q3, q4⟩ := h
  have e1 := (ho 1 (by omega)).1
  exact ⟨by rw [e1]; exact q0, by rw [e1]; exact q1, by rw [e1]; exact q2, by rw [e1]; exact q3, fun j hj => (q4 j hj).same (fun x hx => ho _ (by omega))⟩
theorem RB.C {S S' : St} (h : RB S 203 B) (ho : offC S S') : RB S' 203 B := h.same (ho.2.2 203 (by omega))
theorem tc_in (l : Ln) {a y : Nat} (h : (tc l)[a]? = some y) : y < fm l := by
  have := tcf_mem l _ _ _ (List.mem_of_getElem? h)
  omega
/-- toCome -/
theorem t_toCome (hG : GX B) (a m o : Int32) : TwoB (F_X7_toCome 0 a m o) (F_X8_toCome 202 a m o) B := by
  have g8 := hG.1.2.2.2.1
  rcases loan_or a B.2.2.2.1 with h | ⟨i, hi, rfl⟩
  · refine TwoB.no hG (-1) (fun S hS => ?_) (fun S hS => ?_)
    · unfold F_X7_toCome J_X7_toCome_24
      rw [z0, bgk b1, has_no b1 hS g8 h, cl_some, if_pos rfl]
    · unfold F_X8_toCome J_X8_toCome_24
      rw [mgk, isLoan_no hS g8 h, cl_some, if_pos rfl]
  · have hi8 : i < 8 := by omega
    have gd := hG.1.2.2.2.2 i hi
    have hc := LC_book b1 hi8
    have hm := gd.1.2.2.2.2.1
    have hdn := gd.1.2.2.2.2.2.2.2.1
    have hfm : fm (B.2.2.2.2 i) = (B.2.2.2.2 i).1 4 - (B.2.2.2.2 i).1 7 := rfl
    rcases nI_or_neg m with hneg | ⟨k, hk, rfl⟩
    · refine TwoB.no hG (-1) (fun S hS => ?_) (fun S hS => ?_)
      · unfold F_X7_toCome J_X7_toCome_24
        rw [z0, bgk b1, has_yes b1 hS g8 hi, cl_some, if_neg (by decide), if_pos hneg]
      · unfold F_X8_toCome J_X8_toCome_24
        rw [mgk, isLoan_yes hS g8 hi, cl_some, if_neg (by decide), if_pos hneg]
    · have hnn : ¬ nI k < 0 := by
        rw [show (0 : Int32) = nI 0 from rfl, nI_ltI (by omega) (by omega)]
        omega
      rcases between o 0 3 (by omega) (by omega) with c | ⟨c, v, rfl, _, v9⟩
      · refine TwoB.no hG (-1) (fun S hS => ?_) (fun S hS => ?_)
        · unfold F_X7_toCome J_X7_toCome_24
          rw [z0, bgk b1, has_yes b1 hS g8 hi, cl_some, if_neg (by decide), if_neg hnn, fa_lit 3, within_e, if_pos (show o < 0 ∨ nI 3 < o from c), cl_some, if_neg (fun z => z rfl)]
        · unfold F_X8_toCome J_X8_toCome_24
          rw [mgk, isLoan_yes hS g8 hi, cl_some, if_neg (by decide), if_neg hnn, fa_litL 3, show (0 : Int64) = lN 0 from rfl, inw_e _ _ _ (by omega) (by omega), if_pos c, cl_some, if_neg (fun z => z rfl)]
      · have f7 : ∀ S, CB S 1 B → ∃ S1, CB S1 1 B ∧ offK S S1 ∧ PC S1 (B.2.2.2.2 i) ∧ F_X7_toCome 0 (nI i) (nI k) (nI v) S = if ¬ nI (po (B.2.2.2.2 i) (tc (B.2.2.2.2 i))[k]?) = 0 then (sw (nI v) (gR 5 5 0 fun v132 => gR 3 4 v132 fun v135 => aJ v135 (nI (po (B.2.2.2.2 i) (tc (B.2.2.2.2 i))[k]?)) S1 fun v140 => some (v140, S1)) [(0, gR 5 0 0 fun v93 => gR 0 4 v93 fun v96 => aR 14 v96 (nI i) fun v100 => gR 2 13 v100 fun v101 => aI v101 (nI (po (B.2.2.2.2 i) (tc (B.2.2.2.2 i))[k]?)) S1 fun v106 => some ((Int32.toInt64 v106), S1)), (1, gR 5 5 0 fun v110 => gR 3 2 v110 fun v113 => aJ v113 (nI (po (B.2.2.2.2 i) (tc (B.2.2.2.2 i))[k]?)) S1 fun v118 => some (v118, S1)), (2, gR 5 5 0 fun v121 => gR 3 3 v121 fun v124 => aJ v124 (nI (po (B.2.2.2.2 i) (tc (B.2.2.2.2 i))[k]?)) S1 fun v129 => some (v129, S1))]) else (some ((-2 : Int64), S1)) := by
          intro S hS
          obtain ⟨S1, r1, r2, r3⟩ := follow_e hc (by omega) gd.1 (hS.2.2.2.2 i hi)
          refine ⟨S1, hS.F g8 r3, r3.K, r2, ?_⟩
          unfold F_X7_toCome
          rw [z0, bgk b1, has_yes b1 hS g8 hi, cl_some, if_neg (by decide), if_neg hnn, fa_lit 3, within_e, if_neg (show ¬ (nI v < 0 ∨ nI 3 < nI v) from c), cl_some, if_pos (by decide), z5, z0, br4 b1, baR b1 hi8, pgk, r1, cl_some, z5, pgk, pobC gd.1 r2 hk, cl_some]
        have f8 : ∀ S, RB S 203 B → ∃ S1, RB S1 203 B ∧ offQ S S1 ∧ RC S1 (B.2.2.2.2 i) ∧ F_X8_toCome 202 (nI i) (nI k) (nI v) S = if 0 ≤ no (tc (B.2.2.2.2 i))[k]? then (if ¬ nI v = 0 then (if ¬ nI v = (1 : Int32) then (if ¬ nI v = (2 : Int32) then (gR 6 8 202 fun v95 => aJ v95 (no (tc (B.2.2.2.2 i))[k]?) S1 fun v100 => J_X8_toCome_101 v100 S1) else (gR 6 7 202 fun v85 => aJ v85 (no (tc (B.2.2.2.2 i))[k]?) S1 fun v90 => J_X8_toCome_101 v90 S1)) else (gR 6 6 202 fun v70 => aJ v70 (no (tc (B.2.2.2.2 i))[k]?) S1 fun v75 => J_X8_toCome_101 v75 S1)) else (gR 6 5 202 fun v54 => aI v54 (no (tc (B.2.2.2.2 i))[k]?) S1 fun v59 => J_X8_toCome_101 (Int32.toInt64 v59) S1)) else (some ((-2 : Int64), S1)) := by
          intro S hS
          obtain ⟨S1, r1, r2, r3⟩ := comes_e hi8 gd.1 (hS.2.2.2.2 i hi)
          refine ⟨S1, hS.C r3, r3.Q, r2, ?_⟩
          unfold F_X8_toCome
          rw [mgk, isLoan_yes hS g8 hi, cl_some, if_neg (by decide), if_neg hnn, fa_litL 3, show (0 : Int64) = lN 0 from rfl, inw_e _ _ _ (by omega) (by omega), if_neg c, cl_some, if_pos (by decide), mgk, r1, cl_some, mgk, nthR gd.1 r2 hk, cl_some]
        cases ht : (tc (B.2.2.2.2 i))[k]? with
        | none =>
          rw [ht] at f7 f8
          refine ⟨-2, B, hG, Nat.le_refl _, fun S hS => ?_, fun S hS => ?_⟩
          · obtain ⟨S1, r1, r2, r3, r4⟩ := f7 S hS
            refine ⟨S1, ?_, r1, r2⟩
            rw [r4, if_neg (show ¬ ¬ nI (po (B.2.2.2.2 i) none) = 0 from fun z => z rfl)]
          · obtain ⟨S1, r1, r2, r3, r4⟩ := f8 S hS
            refine ⟨S1, ?_, r1, r2⟩
            rw [r4, if_neg (show ¬ 0 ≤ no none by decide)]
        | some y =>
          rw [ht] at f7 f8
          have hy := tc_in _ ht
          have hpe : pe ((B.2.2.2.2 i).1 6) ((B.2.2.2.2 i).1 7 + y + 1) ≤ 36524 := pe_le (by have := gd.1.2.2.2.2.2.2.1; omega)
          have ep : nI (po (B.2.2.2.2 i) (some y)) = nI ((B.2.2.2.2 i).1 7 + y + 1) := rfl
          have en : no (some y) = nI y := rfl
          have hne : ¬ nI ((B.2.2.2.2 i).1 7 + y + 1) = 0 := fun z => by
            rw [show (0 : Int32) = nI 0 from rfl, nI_eq (by omega) (by omega)] at z
            omega
          have hge : (0 : Int32) ≤ nI y := by
            rw [show (0 : Int32) = nI 0 from rfl, nI_leI (by omega) (by omega)]
            omega
          rw [ep] at f7
          rw [en] at f8
          have go : ∀ r : Int64, (∀ S1, CB S1 1 B → PC S1 (B.2.2.2.2 i) → (sw (nI v) (gR 5 5 0 fun v132 => gR 3 4 v132 fun v135 => aJ v135 (nI ((B.2.2.2.2 i).1 7 + y + 1)) S1 fun v140 => some (v140, S1)) [(0, gR 5 0 0 fun v93 => gR 0 4 v93 fun v96 => aR 14 v96 (nI i) fun v100 => gR 2 13 v100 fun v101 => aI v101 (nI ((B.2.2.2.2 i).1 7 + y + 1)) S1 fun v106 => some ((Int32.toInt64 v106), S1)), (1, gR 5 5 0 fun v110 => gR 3 2 v110 fun v113 => aJ v113 (nI ((B.2.2.2.2 i).1 7 + y + 1)) S1 fun v118 => some (v118, S1)), (2, gR 5 5 0 fun v121 => gR 3 3 v121 fun v124 => aJ v124 (nI ((B.2.2.2.2 i).1 7 + y + 1)) S1 fun v129 => some (v129, S1))]) = some (r, S1)) → (∀ S1, RC S1 (B.2.2.2.2 i) → (if ¬ nI v = 0 then (if ¬ nI v = (1 : Int32) then (if ¬ nI v = (2 : Int32) then (gR 6 8 202 fun v95 => aJ v95 (nI y) S1 fun v100 => J_X8_toCome_101 v100 S1) else (gR 6 7 202 fun v85 => aJ v85 (nI y) S1 fun v90 => J_X8_toCome_101 v90 S1)) else (gR 6 6 202 fun v70 => aJ v70 (nI y) S1 fun v75 => J_X8_toCome_101 v75 S1)) else (gR 6 5 202 fun v54 => aI v54 (nI y) S1 fun v59 => J_X8_toCome_101 (Int32.toInt64 v59) S1)) = some (r, S1)) → TwoB (F_X7_toCome 0 (nI i) (nI k) (nI v)) (F_X8_toCome 202 (nI i) (nI k) (nI v)) B := by
            intro r h1 h2
            refine ⟨r, B, hG, Nat.le_refl _, fun S hS => ?_, fun S hS => ?_⟩
            · obtain ⟨S1, r1, r2, r3, r4⟩ := f7 S hS
              exact ⟨S1, by rw [r4, if_pos hne]; exact h1 S1 r1 r3, r1, r2⟩
            · obtain ⟨S1, r1, r2, r3, r4⟩ := f8 S hS
              exact ⟨S1, by rw [r4, if_pos hge]; exact h2 S1 r3, r1, r2⟩
          have hv : v = 0 ∨ v = 1 ∨ v = 2 ∨ v = 3 := by omega
          rcases hv with rfl | rfl | rfl | rfl
          · refine go (lN (pe ((B.2.2.2.2 i).1 6) ((B.2.2.2.2 i).1 7 + y + 1))) (fun S1 q1 q2 => ?_) (fun S1 q2 => ?_)
            · rw [sw_y (by rfl), z0, br4 b1, baR b1 hi8, lr13 hc, laI1 hc (by omega), (q1.2.2.2.2 i hi).2.2.1 _ (by omega), wide_nI (by omega)]
            · rw [if_neg (show ¬ ¬ nI 0 = 0 from fun z => z rfl), mR5, jI kd207 (by omega) (by omega), (q2.2 y hy).1, wide_nI (by omega)]
              rfl
          · refine go (lN (fi (B.2.2.2.2 i) y)) (fun S1 q1 q2 => ?_) (fun S1 q2 => ?_)
            · rw [sw_x (by decide), sw_y (by rfl), z5, pr2, jL kd183 (by omega) (by omega), (q2.2.2 y hy).1]
            · rw [if_pos (by decide), if_neg (show ¬ ¬ nI 1 = 1 from fun z => z rfl), mR6, jL kd208 (by omega) (by omega), (q2.2 y hy).2.1]
              rfl
          · refine go (lN (fp (B.2.2.2.2 i) y)) (fun S1 q1 q2 => ?_) (fun S1 q2 => ?_)
            · rw [sw_x (by decide), sw_x (by decide), sw_y (by rfl), z5, pr3, jL kd184 (by omega) (by omega), (q2.2.2 y hy).2.1]
            · rw [if_pos (by decide), if_pos (by decide), if_neg (show ¬ ¬ nI 2 = 2 from fun z => z rfl), mR7, jL kd209 (by omega) (by omega), (q2.2 y hy).2.2.1]
              rfl
          · refine go (lN (fb (B.2.2.2.2 i) (y + 1))) (fun S1 q1 q2 => ?_) (fun S1 q2 => ?_)
            · rw [sw_x (by decide), sw_x (by decide), sw_x (by decide), sw_n, z5, pr4, jL kd185 (by omega) (by omega), (q2.2.2 y hy).2.2]
            · rw [if_pos (by decide), if_pos (by decide), if_pos (by decide), mR8, jL kd210 (by omega) (by omega), (q2.2 y hy).2.2.2]
              rfl
end TW7
