def jg (l : Ln) (it : Nat → Int64) (k : Nat) : Nat → Nat → Int32
  | 0, _ => if (tc l).length ≤ k then -2 else nI k
  | j + 1, x => if (tc l).length ≤ x then nI x else if it x = lN (fp l ((tc l).getD x 0)) then jg l it k j (x + 1) else nI x
section JDG
variable {S : St} {l : Ln} {h k : Nat}
theorem tc_at {x : Nat} (hx : x < (tc l).length) : (tc l)[x]? = some ((tc l).getD x 0) := by
  rw [List.getD_eq_getElem?_getD, List.getElem?_eq_getElem hx]
  rfl
theorem judgeC_loop (hG : GD l) (hS : PC S l) (hh : h < 6) (hk : k ≤ 60) (h2 : S.1 (190 + 2 * h) 2 = nI k) : ∀ (j n x : Nat), j < n → x + j = k → L_X7_judge_78 n 0 (190 + 2 * h) (nI (tc l).length) (nI x) S = some (jg l (S.2 (191 + 2 * h)) k j x, S)
  | _, 0, _, hj, _ => absurd hj (Nat.not_lt_zero _)
  | 0, n + 1, x, _, hx => by
    have hm := hG.2.2.2.2.1
    have hfm : fm l = l.1 4 - l.1 7 := rfl
    have hlen : (tc l).length ≤ fm l := tcf_len _ _ _
    have e : x = k := by omega
    subst e
    have eJ : jg l (S.2 (191 + 2 * h)) x 0 x = if (tc l).length ≤ x then -2 else nI x := rfl
    show B_X7_judge_78 _ _ _ _ _ _ = _
    unfold B_X7_judge_78 J_X7_judge_149
    rw [hI hh, h2, if_pos (Int32.le_refl _), hI hh, h2, hI hh, h2, eJ]
    by_cases z : (tc l).length ≤ x
    · rw [if_pos (by rw [nI_leI (by omega) (by omega)]; exact z), if_pos z]
    · rw [if_neg (by rw [nI_leI (by omega) (by omega)]; exact z), if_neg z]
  | j + 1, n + 1, x, hn, hx => by
    have hm := hG.2.2.2.2.1
    have hfm : fm l = l.1 4 - l.1 7 := rfl
    have hlen : (tc l).length ≤ fm l := tcf_len _ _ _
    have eJ : jg l (S.2 (191 + 2 * h)) k (j + 1) x = if (tc l).length ≤ x then nI x else if S.2 (191 + 2 * h) x = lN (fp l ((tc l).getD x 0)) then jg l (S.2 (191 + 2 * h)) k j (x + 1) else nI x := rfl
    show B_X7_judge_78 _ _ _ _ _ _ = _
    unfold B_X7_judge_78 J_X7_judge_122
    rw [hI hh, h2, if_neg (by rw [nI_leI (by omega) (by omega)]; omega), eJ]
    by_cases z : (tc l).length ≤ x
    · rw [if_pos (by rw [nI_leI (by omega) (by omega)]; exact z), if_pos z]
    · have hat := tc_at (l := l) (x := x) (by omega)
      have hy := tc_in _ hat
      rw [if_neg (by rw [nI_leI (by omega) (by omega)]; exact z), if_neg z, hr4 hh, jL (HC hh).2.1 (by omega) (by omega), z5, pr3, z5, pgk, pobC hG hS (by omega), cl_some, hat]
      show aJ 184 (nI (l.1 7 + (tc l).getD x 0 + 1)) S _ = _
      rw [jL kd184 (by omega) (by omega), (hS.2.2 _ hy).2.1, nI_1]
      by_cases w : S.2 (191 + 2 * h) x = lN (fp l ((tc l).getD x 0))
      · rw [if_pos w, if_pos w, judgeC_loop hG hS hh hk h2 j n (x + 1) (by omega) (by omega)]
      · rw [if_neg w, if_neg w]
theorem judgeR_loop (hG : GD l) (hS : RC S l) (hh : h < 6) (hk : k ≤ 60) (h2 : S.1 217 h = nI k) {it : Nat → Int64} (hit : ∀ j, j < k → it j = S.2 (219 + h) j) : ∀ (j n x : Nat), j < n → x + j = k → L_X8_judge_52 n 202 (nI h) (nI x) S = some (jg l it k j x, S)
  | _, 0, _, hj, _ => absurd hj (Nat.not_lt_zero _)
  | 0, n + 1, x, _, hx => by
    have hm := hG.2.2.2.2.1
    have hfm : fm l = l.1 4 - l.1 7 := rfl
    have hlen : (tc l).length ≤ fm l := tcf_len _ _ _
    have e : x = k := by omega
    subst e
    have eJ : jg l it x 0 x = if (tc l).length ≤ x then -2 else nI x := rfl
    show B_X8_judge_52 _ _ _ _ _ = _
    unfold B_X8_judge_52 J_X8_judge_125
    rw [mR17, jI kd217 hh (by omega), h2, if_pos (Int32.le_refl _), mR17, jI kd217 hh (by omega), h2, mgk, nthR hG hS (by omega), cl_some, mR17, jI kd217 hh (by omega), h2, eJ]
    by_cases z : (tc l).length ≤ x
    · rw [if_pos z, List.getElem?_eq_none z, if_pos (show no none < 0 by decide)]
    · have hat := tc_at (l := l) (x := x) (by omega)
      have hy := tc_in _ hat
      have en : no (some ((tc l).getD x 0)) = nI ((tc l).getD x 0) := rfl
      rw [if_neg z, hat, en, if_neg (show ¬ nI ((tc l).getD x 0) < 0 by rw [show (0 : Int32) = nI 0 from rfl, nI_ltI (by omega) (by omega)]; omega)]
  | j + 1, n + 1, x, hn, hx => by
    have hm := hG.2.2.2.2.1
    have hfm : fm l = l.1 4 - l.1 7 := rfl
    have hlen : (tc l).length ≤ fm l := tcf_len _ _ _
    have eJ : jg l it k (j + 1) x = if (tc l).length ≤ x then nI x else if it x = lN (fp l ((tc l).getD x 0)) then jg l it k j (x + 1) else nI x := rfl
    show B_X8_judge_52 _ _ _ _ _ = _
    unfold B_X8_judge_52 J_X8_judge_93
    rw [mR17, jI kd217 hh (by omega), h2, if_neg (by rw [nI_leI (by omega) (by omega)]; omega), mgk, nthR hG hS (by omega), cl_some, eJ]
    by_cases z : (tc l).length ≤ x
    · rw [if_pos z, List.getElem?_eq_none z, if_pos (show no none < 0 by decide)]
    · have hat := tc_at (l := l) (x := x) (by omega)
      have hy := tc_in _ hat
      have en : no (some ((tc l).getD x 0)) = nI ((tc l).getD x 0) := rfl
      rw [if_neg z, hat, en, if_neg (show ¬ nI ((tc l).getD x 0) < 0 by rw [show (0 : Int32) = nI 0 from rfl, nI_ltI (by omega) (by omega)]; omega), mR7, jL kd209 (by omega) (by omega), (hS.2 _ hy).2.2.1, mR18, wR hh, jL (HC hh).2.2 (by omega) (by omega), ← hit x (by omega), nI_1]
      by_cases w : it x = lN (fp l ((tc l).getD x 0))
      · rw [if_pos w.symm, if_pos w, judgeR_loop hG hS hh hk h2 hit j n (x + 1) (by omega) (by omega)]
      · rw [if_neg (fun y => w y.symm), if_neg w]
end JDG
/-- judge -/
theorem y_judge (a b : Int32) : Step (F_X7_judge 0 a b) (F_X8_judge 202 a b) := by
  rintro S ⟨B, hG, hC, hRb, hRS⟩
  have hV : Inv S := ⟨B, hG, hC, hRb, hRS⟩
  have g8 := hG.1.2.2.2.1
  rcases between a 0 5 (by omega) (by omega) with c | ⟨c, h, rfl, _, h5⟩
  · refine ⟨-1, S, S, ?_, ?_, hV⟩
    · unfold F_X7_judge J_X7_judge_18
      rw [isHolder_e, if_pos c, cl_some, if_pos rfl]
    · unfold F_X8_judge J_X8_judge_16
      rw [mgk, refIsHolder_e, if_pos c, cl_some, if_pos rfl]
  · have hh : h < 6 := by omega
    rcases loan_or b B.2.2.2.1 with hb | ⟨i, hi, rfl⟩
    · refine ⟨-1, S, S, ?_, ?_, hV⟩
      · unfold F_X7_judge J_X7_judge_18
        rw [isHolder_e, if_neg c, cl_some, if_neg (by decide), z0, bgk b1, has_no b1 hC g8 hb, cl_some, if_neg (fun z => z rfl)]
      · unfold F_X8_judge J_X8_judge_16
        rw [mgk, refIsHolder_e, if_neg c, cl_some, if_neg (by decide), mgk, isLoan_no hRb g8 hb, cl_some, if_neg (fun z => z rfl)]
    · have hi8 : i < 8 := by omega
      have gd := hG.1.2.2.2.2 i hi
      have hc := LC_book b1 hi8
      obtain ⟨s, s1, s2, s3, s4, s5, s6⟩ := hRS.2.2 h hh
      by_cases e3 : s = 3
      · subst e3
        obtain ⟨k, k1, k2, k3, k4⟩ := s6 rfl
        obtain ⟨S1, r1, r2, r3⟩ := follow_e hc (by omega) gd.1 (hC.2.2.2.2 i hi)
        have hC1 := hC.F g8 r3
        have hR1 : RB S1 203 B := hRb.same (r3 203 (by omega)).2
        have e190 := r3 (190 + 2 * h) (by omega)
        have e191 := r3 (191 + 2 * h) (by omega)
        have e219 := r3 (219 + h) (by omega)
        have jc := judgeC_loop gd.1 r2 hh k1 (by rw [e190.1]; exact k2) k 6000 0 (by omega) (by omega)
        obtain ⟨S2, u1, u2, u3⟩ := comes_e hi8 gd.1 (hR1.2.2.2.2 i hi)
        have jr := judgeR_loop gd.1 u2 hh k1 (by rw [u3.1 217 (by omega) (by omega), (r3 217 (by omega)).1]; exact k3) (it := S1.2 (191 + 2 * h)) (fun j hj => by rw [u3.2.2 (219 + h) (by omega), e219.2, e191.2]; exact k4 j hj) k 6000 0 (by omega) (by omega)
        refine ⟨jg (B.2.2.2.2 i) (S1.2 (191 + 2 * h)) k k 0, S1, S2, ?_, ?_, B, hG, hC1.Q g8 u3.Q, hR1.C u3, hRS.fr (Nat.le_refl _) (r3.K.fr.tr u3.Q.fr)⟩
        · unfold F_X7_judge
          rw [isHolder_e, if_neg c, cl_some, if_neg (by decide), z0, bgk b1, has_yes b1 hC g8 hi, cl_some, if_pos (by decide), z7, hR hh, hI hh, s2, if_pos (show nI 3 = 3 from rfl), z5, z0, br4 b1, baR b1 hi8, pgk, r1, cl_some, z5, pgk, billsC gd.1 r2, cl_some]
          exact jc
        · unfold F_X8_judge
          rw [mgk, refIsHolder_e, if_neg c, cl_some, if_neg (by decide), mgk, isLoan_yes hR1 g8 hi, cl_some, if_pos (by decide), mR13, jI kd213 hh (by omega), (r3 213 (by omega)).1, s3, if_pos (show nI 3 = 3 from rfl), mgk, u1, cl_some]
          exact jr
      · have h3 : ¬ nI s = 3 := fun z => by
          rw [fa_lit 3, nI_eq (by omega) (by omega)] at z
          exact e3 z
        by_cases e0 : s = 0
        · subst e0
          refine ⟨-11, S, S, ?_, ?_, hV⟩
          · unfold F_X7_judge J_X7_judge_49
            rw [isHolder_e, if_neg c, cl_some, if_neg (by decide), z0, bgk b1, has_yes b1 hC g8 hi, cl_some, if_pos (by decide), z7, hR hh, hI hh, s2, if_neg h3, hI hh, s2, if_neg (show ¬ ¬ nI 0 = 0 from fun z => z rfl)]
          · unfold F_X8_judge J_X8_judge_44
            rw [mgk, refIsHolder_e, if_neg c, cl_some, if_neg (by decide), mgk, isLoan_yes hRb g8 hi, cl_some, if_pos (by decide), mR13, jI kd213 hh (by omega), s3, if_neg h3, mR13, jI kd213 hh (by omega), s3, if_neg (show ¬ ¬ nI 0 = 0 from fun z => z rfl)]
        · have h0 : ¬ nI s = 0 := fun z => by
            rw [show (0 : Int32) = nI 0 from rfl, nI_eq (by omega) (by omega)] at z
            exact e0 z
          refine ⟨-12, S, S, ?_, ?_, hV⟩
          · unfold F_X7_judge J_X7_judge_49
            rw [isHolder_e, if_neg c, cl_some, if_neg (by decide), z0, bgk b1, has_yes b1 hC g8 hi, cl_some, if_pos (by decide), z7, hR hh, hI hh, s2, if_neg h3, hI hh, s2, if_pos h0]
          · unfold F_X8_judge J_X8_judge_44
            rw [mgk, refIsHolder_e, if_neg c, cl_some, if_neg (by decide), mgk, isLoan_yes hRb g8 hi, cl_some, if_pos (by decide), mR13, jI kd213 hh (by omega), s3, if_neg h3, mR13, jI kd213 hh (by omega), s3, if_pos h0]
