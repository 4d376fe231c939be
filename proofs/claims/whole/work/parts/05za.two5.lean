section TW5
variable {S : St} {B : Bk} {i : Nat}
theorem pe_day {d k : Nat} {l : Ln} (h : DY d l) (hk : k ≤ l.1 7) : pe (l.1 6) k ≤ d := by
  by_cases e : k = l.1 7
  · rw [e]; exact h.2.1
  · have := pe_mono (s := l.1 6) (show k < l.1 7 by omega)
    have := h.2.1
    omega
/-- bill -/
theorem t_bill (hG : GX B) (a m o : Int32) : TwoB (F_X7_bill 0 a m o) (F_X8_bill 202 a m o) B := by
  have g8 := hG.1.2.2.2.1
  rcases loan_or a B.2.2.2.1 with h | ⟨i, hi, rfl⟩
  · refine TwoB.no hG (-1) (fun S hS => ?_) (fun S hS => ?_)
    · unfold F_X7_bill J_X7_bill_24
      rw [z0, bgk b1, has_no b1 hS g8 h, cl_some, if_pos rfl]
    · unfold F_X8_bill J_X8_bill_24
      rw [mgk, isLoan_no hS g8 h, cl_some, if_pos rfl]
  · have hi8 : i < 8 := by omega
    have gd := hG.1.2.2.2.2 i hi
    have hc := LC_book b1 hi8
    have hm := gd.1.2.2.2.2.1
    have hdn := gd.1.2.2.2.2.2.2.2.1
    have hl := bls_len gd.1
    rcases nI_or_neg m with hneg | ⟨k, hk, rfl⟩
    · refine TwoB.no hG (-1) (fun S hS => ?_) (fun S hS => ?_)
      · unfold F_X7_bill J_X7_bill_24
        rw [z0, bgk b1, has_yes b1 hS g8 hi, cl_some, if_neg (by decide), if_pos hneg]
      · unfold F_X8_bill J_X8_bill_24
        rw [mgk, isLoan_yes hS g8 hi, cl_some, if_neg (by decide), if_pos hneg]
    · have hnn : ¬ nI k < 0 := by
        rw [show (0 : Int32) = nI 0 from rfl, nI_ltI (by omega) (by omega)]
        omega
      rcases between o 0 3 (by omega) (by omega) with c | ⟨c, v, rfl, _, v9⟩
      · refine TwoB.no hG (-1) (fun S hS => ?_) (fun S hS => ?_)
        · unfold F_X7_bill J_X7_bill_24
          rw [z0, bgk b1, has_yes b1 hS g8 hi, cl_some, if_neg (by decide), if_neg hnn, fa_lit 3, within_e, if_pos (show o < 0 ∨ nI 3 < o from c), cl_some, if_neg (fun z => z rfl)]
        · unfold F_X8_bill J_X8_bill_24
          rw [mgk, isLoan_yes hS g8 hi, cl_some, if_neg (by decide), if_neg hnn, fa_litL 3, show (0 : Int64) = lN 0 from rfl, inw_e _ _ _ (by omega) (by omega), if_pos c, cl_some, if_neg (fun z => z rfl)]
      · have f7 : ∀ S, CB S 1 B → F_X7_bill 0 (nI i) (nI k) (nI v) S = if ¬ nI ((lvs (B.2.2.2.2 i)).getD k 0) = 0 then (sw (nI v) (gR 2 15 (1 + 2 + 7 * i) fun v114 => aJ v114 (nI ((lvs (B.2.2.2.2 i)).getD k 0)) S fun v119 => some (v119, S)) [(0, gR 2 13 (1 + 2 + 7 * i) fun v86 => aI v86 (nI ((lvs (B.2.2.2.2 i)).getD k 0)) S fun v91 => some ((Int32.toInt64 v91), S)), (1, gR 2 16 (1 + 2 + 7 * i) fun v96 => aJ v96 (nI ((lvs (B.2.2.2.2 i)).getD k 0)) S fun v101 => some (v101, S)), (2, gR 2 17 (1 + 2 + 7 * i) fun v105 => aJ v105 (nI ((lvs (B.2.2.2.2 i)).getD k 0)) S fun v110 => some (v110, S))]) else (some ((-2 : Int64), S)) := by
          intro S hS
          unfold F_X7_bill
          rw [z0, bgk b1, has_yes b1 hS g8 hi, cl_some, if_neg (by decide), if_neg hnn, fa_lit 3, within_e, if_neg (show ¬ (nI v < 0 ∨ nI 3 < nI v) from c), cl_some, if_pos (by decide), z0, br4 b1, baR b1 hi8, lgk hc, pob_e hc (hS.2.2.2.2 i hi) gd.1 hk, cl_some]
        have f8 : ∀ S, RB S 203 B → F_X8_bill 202 (nI i) (nI k) (nI v) S = if (bls (B.2.2.2.2 i)).length ≤ k then some (-2, S) else some (S.2 203 (315 * i + (15 + 5 * k + v)), S) := by
          intro S hS
          have hr := hS.2.2.2.2 i hi
          unfold F_X8_bill J_X8_bill_60
          rw [mgk, isLoan_yes hS g8 hi, cl_some, if_neg (by decide), if_neg hnn, fa_litL 3, show (0 : Int64) = lN 0 from rfl, inw_e _ _ _ (by omega) (by omega), if_neg c, cl_some, if_pos (by decide), mgk, fa_lit 14, at_e hi8 (by omega), cl_some, hr.2.2.1, wide_nI hk]
          by_cases z : (bls (B.2.2.2.2 i)).length ≤ k
          · rw [if_pos z, if_pos (by rw [lN_le63 (by omega) (by omega)]; exact z)]
          · rw [if_neg z, if_neg (by rw [lN_le63 (by omega) (by omega)]; exact z), mgk, show (15 : Int32) + (5 : Int32) * nI k = nI (15 + 5 * k) by rw [show (15 : Int32) = nI 15 from rfl, show (5 : Int32) = nI 5 from rfl, pk_mul, nI_add], nI_add, at_e hi8 (by omega), cl_some]
        rw [bls_lvs] at f8 hl
        by_cases z : (lvs (B.2.2.2.2 i)).length ≤ k
        · refine TwoB.no hG (-2) (fun S hS => ?_) (fun S hS => ?_)
          · rw [f7 S hS, getD_out (by omega), if_neg (fun y => y rfl)]
          · rw [f8 S hS, if_pos z]
        · have hz : k < (lvs (B.2.2.2.2 i)).length := by omega
          have hmem := lvs_in gd.1 (getD_mem hz)
          have hpe : pe ((B.2.2.2.2 i).1 6) ((lvs (B.2.2.2.2 i)).getD k 0) ≤ 36524 := pe_le (by have := gd.1.2.2.2.2.2.2.1; omega)
          have hat := bls_at hz
          have hne : ¬ nI ((lvs (B.2.2.2.2 i)).getD k 0) = 0 := fun y => by
            rw [show (0 : Int32) = nI 0 from rfl, nI_eq (by omega) (by omega)] at y
            omega
          have hv : v = 0 ∨ v = 1 ∨ v = 2 ∨ v = 3 := by omega
          rcases hv with rfl | rfl | rfl | rfl
          · refine TwoB.no hG (lN (pe ((B.2.2.2.2 i).1 6) ((lvs (B.2.2.2.2 i)).getD k 0))) (fun S hS => ?_) (fun S hS => ?_)
            · rw [f7 S hS, if_pos hne, sw_y (by rfl), lr13 hc, laI1 hc (by omega), (hS.2.2.2.2 i hi).2.2.1 _ (by omega), wide_nI (by omega)]
            · have g := (hS.2.2.2.2 i hi).2.2.2 k _ hat
              rw [f8 S hS, if_neg z]
              exact congrArg (fun x => some (x, S)) ((congrArg (S.2 203) (by omega)).trans g.1)
          · refine TwoB.no hG (lN ((B.2.2.2.2 i).2.2 ((lvs (B.2.2.2.2 i)).getD k 0)).1) (fun S hS => ?_) (fun S hS => ?_)
            · rw [f7 S hS, if_pos hne, sw_x (by decide), sw_y (by rfl), lr16 hc, laJ4 hc (by omega), ((hS.2.2.2.2 i hi).2.2.2.2 _ (by omega)).2.1]
            · have g := (hS.2.2.2.2 i hi).2.2.2 k _ hat
              rw [f8 S hS, if_neg z]
              exact congrArg (fun x => some (x, S)) ((congrArg (S.2 203) (by omega)).trans g.2.1)
          · refine TwoB.no hG (lN ((B.2.2.2.2 i).2.2 ((lvs (B.2.2.2.2 i)).getD k 0)).2.1) (fun S hS => ?_) (fun S hS => ?_)
            · rw [f7 S hS, if_pos hne, sw_x (by decide), sw_x (by decide), sw_y (by rfl), lr17 hc, laJ5 hc (by omega), ((hS.2.2.2.2 i hi).2.2.2.2 _ (by omega)).2.2.1]
            · have g := (hS.2.2.2.2 i hi).2.2.2 k _ hat
              rw [f8 S hS, if_neg z]
              exact congrArg (fun x => some (x, S)) ((congrArg (S.2 203) (by omega)).trans g.2.2.1)
          · refine TwoB.no hG (lN ((B.2.2.2.2 i).2.2 ((lvs (B.2.2.2.2 i)).getD k 0)).2.2.1) (fun S hS => ?_) (fun S hS => ?_)
            · rw [f7 S hS, if_pos hne, sw_x (by decide), sw_x (by decide), sw_x (by decide), sw_n, lr15 hc, laJ3 hc (by omega), ((hS.2.2.2.2 i hi).2.2.2.2 _ (by omega)).1]
            · have g := (hS.2.2.2.2 i hi).2.2.2 k _ hat
              rw [f8 S hS, if_neg z]
              exact congrArg (fun x => some (x, S)) ((congrArg (S.2 203) (by omega)).trans g.2.2.2.1)
/-- settles -/
theorem t_settles (hG : GX B) (a : Int32) : TwoB (F_X7_settles 0 a) (F_X8_settles 202 a) B := by
  have g8 := hG.1.2.2.2.1
  rcases loan_or a B.2.2.2.1 with h | ⟨i, hi, rfl⟩
  · refine TwoB.no hG (-1) (fun S hS => ?_) (fun S hS => ?_)
    · unfold F_X7_settles
      rw [z0, bgk b1, has_no b1 hS g8 h, cl_some, if_neg (fun z => z rfl)]
    · unfold F_X8_settles
      rw [mgk, isLoan_no hS g8 h, cl_some, if_neg (fun z => z rfl)]
  · have hi8 : i < 8 := by omega
    have gd := hG.1.2.2.2.2 i hi
    have hc := LC_book b1 hi8
    have hm := gd.1.2.2.2.2.1
    have hdn := gd.1.2.2.2.2.2.2.2.1
    by_cases y : (B.2.2.2.2 i).1 4 ≤ (B.2.2.2.2 i).1 7
    · refine TwoB.no hG 0 (fun S hS => ?_) (fun S hS => ?_)
      · unfold F_X7_settles J_X7_settles_55
        rw [z0, bgk b1, has_yes b1 hS g8 hi, cl_some, if_pos (by decide), z0, br4 b1, baR b1 hi8, lI hc, lI hc, (hS.2.2.2.2 i hi).2.1.2.2.2.2.2, (hS.2.2.2.2 i hi).2.1.2.2.2.2.1, if_pos (by rw [nI_leI (by omega) (by omega)]; exact y)]
      · unfold F_X8_settles J_X8_settles_51
        rw [mgk, isLoan_yes hS g8 hi, cl_some, if_pos (by decide), mgk, fa_lit 4, at_e hi8 (by omega), cl_some, (hS.2.2.2.2 i hi).1 4 (by omega), lN_i32, bd_e, mgk, fa_lit 7, at_e hi8 (by omega), cl_some, (hS.2.2.2.2 i hi).1 7 (by omega), wide_nI (by omega), if_neg (fun z => z (by congr 1; omega))]
    · refine TwoB.no hG (nI (pe ((B.2.2.2.2 i).1 6) ((B.2.2.2.2 i).1 4)) - nI B.1) (fun S hS => ?_) (fun S hS => ?_)
      · unfold F_X7_settles J_X7_settles_55
        rw [z0, bgk b1, has_yes b1 hS g8 hi, cl_some, if_pos (by decide), z0, br4 b1, baR b1 hi8, lI hc, lI hc, (hS.2.2.2.2 i hi).2.1.2.2.2.2.2, (hS.2.2.2.2 i hi).2.1.2.2.2.2.1, if_neg (by rw [nI_leI (by omega) (by omega)]; exact y), lr13 hc, lI hc, (hS.2.2.2.2 i hi).2.1.2.2.2.2.1, laI1 hc (by omega), (hS.2.2.2.2 i hi).2.2.1 _ (by omega), z0, bI b1, hS.1]
      · unfold F_X8_settles J_X8_settles_51
        rw [mgk, isLoan_yes hS g8 hi, cl_some, if_pos (by decide), mgk, fa_lit 4, at_e hi8 (by omega), cl_some, (hS.2.2.2.2 i hi).1 4 (by omega), lN_i32, bd_e, mgk, fa_lit 7, at_e hi8 (by omega), cl_some, (hS.2.2.2.2 i hi).1 7 (by omega), wide_nI (by omega), if_pos (fun z => by rw [lN_eq63 (by omega) (by omega)] at z; omega), mgk, endOf_e hi8 (hS.2.2.2.2 i hi).rn gd.1.gs (by omega), cl_some, mR0, fa_lit 2521, g_at _ (by omega), hS.2.1, lN_i32]
/-- behind: the loans late by more than x days, as bits -/
def late (B : Bk) (x i : Nat) : Bool := decide (lvs (B.2.2.2.2 i) ≠ [] ∧ x < B.1 - pe ((B.2.2.2.2 i).1 6) ((lvs (B.2.2.2.2 i)).getD 0 0))
def lateS (B : Bk) (x : Nat) : Nat → Int32 → Nat → Int32
  | 0, acc, _ => acc
  | j + 1, acc, i => lateS B x j (if late B x i then acc ||| ((1 : Int32) <<< (nI i &&& 31)) else acc) (i + 1)
theorem behindC (hG : GX B) {x : Nat} (hx : x < 2 ^ 31) (hS : CB S 1 B) : ∀ (j n i : Nat) (acc : Int32), j < n → i + j = B.2.2.2.1 → L_X7_behind_10 n 0 (nI x) acc (nI i) S = some (lateS B x j acc i, S)
  | _, 0, _, _, h, _ => absurd h (Nat.not_lt_zero _)
  | 0, n + 1, i, acc, _, hi => by
    show B_X7_behind_10 _ _ _ _ _ _ = _
    unfold B_X7_behind_10
    rw [z0, bI b1, hS.2.2.2.1, show B.2.2.2.1 = i by omega, if_pos (Int32.le_refl _)]
    rfl
  | j + 1, n + 1, i, acc, hn, hi => by
    have g8 := hG.1.2.2.2.1
    have hB1 := hG.1.1
    have hi' : i < B.2.2.2.1 := by omega
    have hi8 : i < 8 := by omega
    have gd := hG.1.2.2.2.2 i hi'
    have hc := LC_book b1 hi8
    show B_X7_behind_10 _ _ _ _ _ _ = _
    unfold B_X7_behind_10 J_X7_behind_50
    rw [z0, bI b1, hS.2.2.2.1, if_neg (by rw [nI_leI (by omega) (by omega)]; omega), z0, br4 b1, baR b1 hi8, z0, bI b1, hS.1, lgk hc, daysLate_e hc (hS.2.2.2.2 i hi') gd.1, cl_some, bd_e, show nI i + 1 = nI (i + 1) from nI_1 i, behindC hG hx hS j n (i + 1) _ (by omega) (by omega), behindC hG hx hS j n (i + 1) _ (by omega) (by omega)]
    have eS : lateS B x (j + 1) acc i = lateS B x j (if late B x i then acc ||| ((1 : Int32) <<< (nI i &&& 31)) else acc) (i + 1) := rfl
    rw [eS]
    by_cases y : lvs (B.2.2.2.2 i) = []
    · rw [if_pos y, if_pos (by rw [show (0 : Int32) = nI 0 from rfl, nI_leI (by omega) (by omega)]; omega)]
      have : late B x i = false := decide_eq_false (fun z => z.1 y)
      rw [this]
      rfl
    · have hpos : 0 < (lvs (B.2.2.2.2 i)).length := List.length_pos_iff.mpr y
      have hmem := lvs_in gd.1 (getD_mem hpos)
      have hle := pe_day gd.2 hmem.2.1
      rw [if_neg y, pk_sub hle]
      by_cases z : B.1 - pe ((B.2.2.2.2 i).1 6) ((lvs (B.2.2.2.2 i)).getD 0 0) ≤ x
      · rw [if_pos (by rw [nI_leI (by omega) (by omega)]; exact z)]
        have : late B x i = false := decide_eq_false (fun w => by omega)
        rw [this]
        rfl
      · rw [if_neg (by rw [nI_leI (by omega) (by omega)]; exact z)]
        have : late B x i = true := decide_eq_true ⟨y, by omega⟩
        rw [this]
        rfl
theorem behindR (hG : GX B) {x : Nat} (hx : x < 2 ^ 31) (hS : RB S 203 B) : ∀ (j n i : Nat) (acc : Int32), j < n → i + j = B.2.2.2.1 → L_X8_behind_10 n 202 (nI x) acc (nI i) S = some (lateS B x j acc i, S)
  | _, 0, _, _, h, _ => absurd h (Nat.not_lt_zero _)
  | 0, n + 1, i, acc, _, hi => by
    have g8 := hG.1.2.2.2.1
    show B_X8_behind_10 _ _ _ _ _ _ = _
    unfold B_X8_behind_10
    rw [mR0, fa_lit 2520, g_at _ (by omega), hS.1, wide_nI (by omega), show B.2.2.2.1 = i by omega, if_pos (Int64.le_refl _)]
    rfl
  | j + 1, n + 1, i, acc, hn, hi => by
    have g8 := hG.1.2.2.2.1
    have hB1 := hG.1.1
    have hi' : i < B.2.2.2.1 := by omega
    have hi8 : i < 8 := by omega
    have gd := hG.1.2.2.2.2 i hi'
    have hr := hS.2.2.2.2 i hi'
    have hl := bls_len gd.1
    have hor : acc ||| 0 = acc := Int32.or_zero
    show B_X8_behind_10 _ _ _ _ _ _ = _
    unfold B_X8_behind_10 J_X8_behind_65 J_X8_behind_66
    rw [mR0, fa_lit 2520, g_at _ (by omega), hS.1, wide_nI (by omega), if_neg (by rw [lN_le63 (by omega) (by omega)]; omega), mgk, fa_lit 14, at_e hi8 (by omega), cl_some, hr.2.2.1, bls_lvs, hor, bd_e, show nI i + 1 = nI (i + 1) from nI_1 i, behindR hG hx hS j n (i + 1) _ (by omega) (by omega)]
    have eS : lateS B x (j + 1) acc i = lateS B x j (if late B x i then acc ||| ((1 : Int32) <<< (nI i &&& 31)) else acc) (i + 1) := rfl
    rw [eS]
    by_cases y : lvs (B.2.2.2.2 i) = []
    · rw [y, List.length_nil, if_pos (show lN 0 ≤ 0 from Int64.le_refl _)]
      have : late B x i = false := decide_eq_false (fun z => z.1 y)
      rw [this]
      rfl
    · have hpos : 0 < (lvs (B.2.2.2.2 i)).length := List.length_pos_iff.mpr y
      have hmem := lvs_in gd.1 (getD_mem hpos)
      have hle := pe_day gd.2 hmem.2.1
      have h15 : S.2 203 (315 * i + 15) = lN (pe ((B.2.2.2.2 i).1 6) ((lvs (B.2.2.2.2 i)).getD 0 0)) := (hr.2.2.2 0 _ (bls_at hpos)).1
      rw [bls_lvs] at hl
      rw [if_neg (by rw [show (0 : Int64) = lN 0 from rfl, lN_le63 (by omega) (by omega)]; omega), mR0, fa_lit 2521, g_at _ (by omega), hS.2.1, mgk, fa_lit 15, at_e hi8 (by omega), cl_some, h15, lN_sub hle, wide_nI hx]
      by_cases z : B.1 - pe ((B.2.2.2.2 i).1 6) ((lvs (B.2.2.2.2 i)).getD 0 0) ≤ x
      · rw [if_pos (by rw [lN_le63 (by omega) (by omega)]; exact z)]
        have : late B x i = false := decide_eq_false (fun w => by omega)
        rw [this, bd_e, behindR hG hx hS j n (i + 1) _ (by omega) (by omega)]
        rfl
      · rw [if_neg (by rw [lN_le63 (by omega) (by omega)]; exact z)]
        have : late B x i = true := decide_eq_true ⟨y, by omega⟩
        rw [this, bd_e, behindR hG hx hS j n (i + 1) _ (by omega) (by omega)]
        rfl
/-- behind -/
theorem t_behind (hG : GX B) (a : Int32) : TwoB (F_X7_behind 0 a) (F_X8_behind 202 a) B := by
  have g8 := hG.1.2.2.2.1
  rcases nI_or_neg a with hneg | ⟨x, hx, rfl⟩
  · have hn : ¬ 0 ≤ a := fun z => by
      rw [Int32.le_iff_toInt_le] at z
      rw [Int32.lt_iff_toInt_lt] at hneg
      omega
    refine TwoB.no hG (-1) (fun S hS => ?_) (fun S hS => ?_)
    · unfold F_X7_behind
      rw [if_neg hn]
    · unfold F_X8_behind
      rw [if_neg hn]
  · have hp : (0 : Int32) ≤ nI x := by
      rw [show (0 : Int32) = nI 0 from rfl, nI_leI (by omega) (by omega)]
      omega
    refine TwoB.no hG (lateS B x B.2.2.2.1 0 0) (fun S hS => ?_) (fun S hS => ?_)
    · unfold F_X7_behind
      rw [if_pos hp]
      exact behindC hG hx hS B.2.2.2.1 6000 0 0 (by omega) (by omega)
    · unfold F_X8_behind
      rw [if_pos hp]
      exact behindR hG hx hS B.2.2.2.1 6000 0 0 (by omega) (by omega)
end TW5
