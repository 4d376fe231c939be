theorem bls_cg {l l' : Ln} (h1 : l'.1 7 = l.1 7) (h2 : l'.1 6 = l.1 6) (h3 : l'.2.2 = l.2.2) : bls l' = bls l := by
  unfold bls lvs
  rw [h1, h2, h3, lvf_cg l' l _ _ (fun i _ _ => by unfold ask; rw [h3])]
theorem relv_n (l : Ln) {w : Nat} (hw : w ≠ 9) : (relv l).1 w = l.1 w := by
  unfold relv
  split
  · exact up_n _ _ hw
  · rfl
theorem bls_relv (l : Ln) : bls (relv l) = bls l := bls_cg (relv_n l (by omega)) (relv_n l (by omega)) (by rw [relv_2])
theorem psum_lvf (l : Ln) : ∀ (j k : Nat), psum l k j = ((lvf l k j).map (fun i => (l.2.2 i).2.1)).sum
  | 0, _ => rfl
  | j + 1, k => by
    have ih := psum_lvf l j (k + 1)
    have e : psum l k (j + 1) = (l.2.2 k).2.1 + psum l (k + 1) j := rfl
    have e2 : lvf l k (j + 1) = if 0 < ask l k then k :: lvf l (k + 1) j else lvf l (k + 1) j := rfl
    rw [e, e2, ih]
    by_cases h : 0 < ask l k
    · rw [if_pos h]
      rfl
    · rw [if_neg h]
      unfold ask at h
      have : (l.2.2 k).2.1 = 0 := by omega
      rw [this, Nat.zero_add]
section TW2
variable {S : St} {B : Bk} {i : Nat}
theorem level_rl (hi : i < 8) {l : Ln} {bs : List Bl} (hS : RLn S 203 i l.1 l.2.1 bs) (hG : GS l.1) (hl : bs.length ≤ 60) : ∃ S', F_X8_level 202 (nI i) S = some ((), S') ∧ RLn S' 203 i (relv l).1 (relv l).2.1 bs ∧ offG S S' i := by
  obtain ⟨S', v1, v2, v3⟩ := level_e hi hS.rn hG
  refine ⟨S', v1, ?_⟩
  by_cases x : l.1 3 = 0 ∧ l.1 8 ≠ 0
  · have e := v2 x
    subst e
    unfold relv
    rw [if_pos x]
    exact ⟨rl_num hS hl (by omega) _, (offG.rf S i).L (by omega) _⟩
  · have e := v3 x
    subst e
    unfold relv
    rw [if_neg x]
    exact ⟨hS, offG.rf _ i⟩
theorem rate_gd {l : Ln} (h : GD l) {v : Nat} (hv : v ≤ 5000) : GD (up l.1 1 v, l.2) := by
  obtain ⟨g1, g2, g3, g4, g5, g6, g7, g8, g9, g10, g11, g12⟩ := h
  exact ⟨g1, hv, g3, g4, g5, g6, g7, g8, g9, g10, g11, g12⟩
/-- reset -/
theorem t_reset (hG : GX B) (a m : Int32) : TwoB (F_X7_reset 0 a m) (F_X8_reset 202 a m) B := by
  have g8 := hG.1.2.2.2.1
  rcases loan_or a B.2.2.2.1 with h | ⟨i, hi, rfl⟩
  · refine TwoB.no hG (-1) (fun S hS => ?_) (fun S hS => ?_)
    · unfold F_X7_reset J_X7_reset_18
      rw [z0, bgk b1, has_no b1 hS g8 h, cl_some, if_pos rfl]
    · unfold F_X8_reset J_X8_reset_20
      rw [mgk, isLoan_no hS g8 h, cl_some, if_pos rfl]
  · rcases between m 0 5000 (by omega) (by omega) with c | ⟨c, v, rfl, _, v2⟩
    · refine TwoB.no hG (-1) (fun S hS => ?_) (fun S hS => ?_)
      · unfold F_X7_reset J_X7_reset_18
        rw [z0, bgk b1, has_yes b1 hS g8 hi, cl_some, if_neg (by decide), isRate_e, if_pos c, cl_some, if_neg (fun z => z rfl)]
      · unfold F_X8_reset J_X8_reset_20
        rw [mgk, isLoan_yes hS g8 hi, cl_some, if_neg (by decide), fa_litL 5000, show (0 : Int64) = lN 0 from rfl, inw_e _ _ _ (by omega) (by omega), if_pos c, cl_some, if_neg (fun z => z rfl)]
    · have gd := hG.1.2.2.2.2 i hi
      have hc := LC_book b1 (show i < 8 by omega)
      have gr := rate_gd gd.1 v2
      refine ⟨lN ((relv (up (B.2.2.2.2 i).1 1 v, (B.2.2.2.2 i).2)).1 9), upB B i (relv (up (B.2.2.2.2 i).1 1 v, (B.2.2.2.2 i).2)), upB_gx hG (relv_gd gr) ?_ ?_, Nat.le_refl _, fun S hS => ?_, fun S hS => ?_⟩
      · unfold DY
        rw [relv_n _ (by omega), relv_n _ (by omega), relv_n _ (by omega)]
        exact gd.2
      · unfold NF
        rw [relv_2]
        exact hG.2 i hi
      · have h1 := cl_rate (hS.2.2.2.2 i hi) v
        obtain ⟨S1, r1, r2, r3⟩ := findLevel_e hc h1 gr
        have ho : offL S S1 (1 + 2 + 7 * i) := ((offL.rf S _).I (j := 0) (by omega) 7 (nI v)).tr r3
        refine ⟨S1, ?_, CB.loan hS hi g8 ho r2, (ho.B (by omega)).K⟩
        unfold F_X7_reset
        rw [z0, bgk b1, has_yes b1 hS g8 hi, cl_some, if_neg (by decide), isRate_e, if_neg c, cl_some, if_pos (by decide), z0, br4 b1, baR b1 (by omega), lpI hc, lgk hc, r1, cl_some, lL hc, r2.1.2.2.1]
      · have hl := bls_len gd.1
        have h1 := rl_num (hS.2.2.2.2 i hi) hl.2 (w := 1) (by omega) v
        obtain ⟨S2, r1, r2, r3⟩ := level_rl (l := (up (B.2.2.2.2 i).1 1 v, (B.2.2.2.2 i).2)) (show i < 8 by omega) h1 gr.gs hl.2
        have ho := ((offG.rf S i).L (w := 1) (by omega) (lN v)).tr r3
        refine ⟨S2, ?_, RB.set hS hi g8 (fun q hq => (hG.1.2.2.2.2 q hq).1) ho (by rw [bls_relv, bls_cg (l := B.2.2.2.2 i) (l' := (up (B.2.2.2.2 i).1 1 v, (B.2.2.2.2 i).2)) rfl rfl rfl]; exact r2), ho.H.Q⟩
        unfold F_X8_reset
        rw [mgk, isLoan_yes hS g8 hi, cl_some, if_neg (by decide), fa_litL 5000, show (0 : Int64) = lN 0 from rfl, inw_e _ _ _ (by omega) (by omega), if_neg c, cl_some, if_pos (by decide), mgk, show (1 : Int32) = nI 1 from rfl, wide_nI (by omega), sets_e (by omega) (by omega), cl_some, mgk, r1, cl_some, mgk, show (9 : Int32) = nI 9 from rfl, at_e (by omega) (by omega), cl_some, r2.1 9 (by omega)]
theorem wo_loop (hi : i < 8) {f : Nat → Nat} {q : Nat → Int64} {bs : List Bl} (hl : bs.length ≤ 60) (hS : RLn S 203 i f q bs) : ∀ (j n k x : Nat), j < n → k + j = bs.length → ∃ S', L_X8_writeOff_51 n 202 (nI i) (lN x) (nI k) S = some (lN (x + ((bs.drop k).map (fun b => b.2.2.1)).sum), S') ∧ RLn S' 203 i (up f 8 0) (up q 3 (q 3 + lN (x + ((bs.drop k).map (fun b => b.2.2.1)).sum))) [] ∧ offG S S' i
  | _, 0, _, _, h, _ => absurd h (Nat.not_lt_zero _)
  | 0, n + 1, k, x, _, hk => by
    show ∃ S', B_X8_writeOff_51 _ _ _ _ _ _ = _ ∧ _
    unfold B_X8_writeOff_51
    rw [mgk, show (14 : Int32) = nI 14 from rfl, at_e hi (by omega), cl_some, hS.2.2.1, wide_nI (by omega), if_pos (by rw [lN_le63 (by omega) (by omega)]; omega), mgk, show (8 : Int32) = nI 8 from rfl, sets_e hi (by omega), cl_some, mgk, sets_e hi (by omega), cl_some, mgk, show (13 : Int32) = nI 13 from rfl, at_e hi (by omega), cl_some, mgk, sets_e hi (by omega), cl_some, setL_k (by omega), setL_k (by omega), hS.2.1 3 (by omega), List.drop_of_length_le (by omega)]
    refine ⟨_, rfl, ?_, (((offG.rf S i).L (w := 8) (by omega) _).L (w := 14) (by omega) _).L (w := 13) (by omega) _⟩
    have h1 := rl_num hS hl (w := 8) (by omega) 0
    have h2 : RLn (setL (setL S 203 (315 * i + 8) 0) 203 (315 * i + 14) 0) 203 i (up f 8 0) q [] := by
      obtain ⟨p1, p2, _, _⟩ := h1
      refine ⟨fun w hw => ?_, fun w hw => ?_, setL_s, fun j b hj => ?_⟩
      · rw [setL_k (by omega)]; exact p1 w hw
      · rw [setL_k (by omega)]; exact p2 w hw
      · exact absurd hj (by simp)
    exact rl_got h2 (by simp) (w := 3) (by omega) _
  | j + 1, n + 1, k, x, hn, hk => by
    have hkl : k < bs.length := by omega
    have hb : bs[k]? = some bs[k] := List.getElem?_eq_getElem hkl
    have g := hS.2.2.2 k _ hb
    show ∃ S', B_X8_writeOff_51 _ _ _ _ _ _ = _ ∧ _
    unfold B_X8_writeOff_51
    rw [mgk, show (14 : Int32) = nI 14 from rfl, at_e hi (by omega), cl_some, hS.2.2.1, wide_nI (by omega), if_neg (by rw [lN_le63 (by omega) (by omega)]; omega), mgk, show (15 : Int32) + (5 : Int32) * nI k = nI (15 + 5 * k) by rw [show (15 : Int32) = nI 15 from rfl, show (5 : Int32) = nI 5 from rfl, pk_mul, nI_add], show nI (15 + 5 * k) + 2 = nI (15 + 5 * k + 2) from nI_add _ 2, at_e hi (by omega), cl_some, bd_e, show 315 * i + (15 + 5 * k + 2) = 315 * i + 15 + 5 * k + 2 by omega, g.2.2.1, lN_add, show nI k + 1 = nI (k + 1) from nI_1 k]
    have h9 := wo_loop hi hl hS j n (k + 1) (x + bs[k].2.2.1) (by omega) (by omega)
    rw [List.drop_eq_getElem_cons hkl, List.map_cons, List.sum_cons, ← Nat.add_assoc]
    exact h9
/-- writeOff -/
theorem t_writeOff (hG : GX B) (a : Int32) : TwoB (F_X7_writeOff 0 a) (F_X8_writeOff 202 a) B := by
  have g8 := hG.1.2.2.2.1
  rcases loan_or a B.2.2.2.1 with h | ⟨i, hi, rfl⟩
  · refine TwoB.no hG (-1) (fun S hS => ?_) (fun S hS => ?_)
    · unfold F_X7_writeOff
      rw [z0, bgk b1, has_no b1 hS g8 h, cl_some, if_neg (fun z => z rfl)]
    · unfold F_X8_writeOff
      rw [mgk, isLoan_no hS g8 h, cl_some, if_neg (fun z => z rfl)]
  · have gd := hG.1.2.2.2.2 i hi
    have hc := LC_book b1 (show i < 8 by omega)
    have hl := bls_len gd.1
    have hbal := gd.1.2.2.2.2.2.2.2.2.1
    have hlen : (bls (B.2.2.2.2 i)).length = (lvs (B.2.2.2.2 i)).length := by
      unfold bls
      rw [List.length_map]
    have f8 : ∀ S, RB S 203 B → F_X8_writeOff 202 (nI i) S = if (B.2.2.2.2 i).1 8 = 0 ∧ lvs (B.2.2.2.2 i) = [] then some (-5, S) else L_X8_writeOff_51 6000 202 (nI i) (lN ((B.2.2.2.2 i).1 8)) 0 S := by
      intro S hS
      have hr := hS.2.2.2.2 i hi
      unfold F_X8_writeOff J_X8_writeOff_40
      rw [mgk, isLoan_yes hS g8 hi, cl_some, if_pos (by decide), mgk, show (8 : Int32) = nI 8 from rfl, at_e (by omega) (by omega), cl_some, hr.1 8 (by omega)]
      by_cases z : (B.2.2.2.2 i).1 8 = 0
      · rw [z, if_neg (show ¬ ¬ lN 0 = 0 from fun y => y rfl), mgk, show (14 : Int32) = nI 14 from rfl, at_e (by omega) (by omega), cl_some, hr.2.2.1]
        by_cases y : lvs (B.2.2.2.2 i) = []
        · rw [if_neg (show ¬ ¬ lN (bls (B.2.2.2.2 i)).length = 0 from fun w => w (by rw [hlen, y]; rfl)), if_pos ⟨rfl, y⟩]
        · have hpos : 0 < (lvs (B.2.2.2.2 i)).length := List.length_pos_iff.mpr y
          rw [if_pos (show ¬ lN (bls (B.2.2.2.2 i)).length = 0 from fun w => by rw [show (0 : Int64) = lN 0 from rfl, lN_eq63 (by omega) (by omega)] at w; omega), mgk, at_e (by omega) (by omega), cl_some, hr.1 8 (by omega), z, if_neg (fun w => y w.2)]
      · rw [if_pos (show ¬ lN _ = 0 from fun w => by rw [show (0 : Int64) = lN 0 from rfl, lN_eq63 (by omega) (by omega)] at w; exact z w), mgk, at_e (by omega) (by omega), cl_some, hr.1 8 (by omega), if_neg (fun w => z w.1)]
    by_cases hs : (B.2.2.2.2 i).1 8 = 0 ∧ lvs (B.2.2.2.2 i) = []
    · refine TwoB.no hG (-5) (fun S hS => ?_) (fun S hS => ?_)
      · unfold F_X7_writeOff J_X7_writeOff_42
        rw [z0, bgk b1, has_yes b1 hS g8 hi, cl_some, if_pos (by decide), z0, br4 b1, baR b1 (by omega), lgk hc, isSettled_e hc (hS.2.2.2.2 i hi) gd.1, if_pos hs, cl_some, if_neg (by decide)]
      · rw [f8 S hS, if_pos hs]
    · have ep : psum (B.2.2.2.2 i) 1 ((B.2.2.2.2 i).1 7) = ((bls (B.2.2.2.2 i)).map (fun b => b.2.2.1)).sum := by
        rw [psum_lvf]
        unfold bls lvs
        rw [List.map_map]
        rfl
      refine ⟨lN ((B.2.2.2.2 i).1 8 + psum (B.2.2.2.2 i) 1 ((B.2.2.2.2 i).1 7)), upB B i (up (B.2.2.2.2 i).1 8 0, up (B.2.2.2.2 i).2.1 3 ((B.2.2.2.2 i).2.1 3 + lN ((B.2.2.2.2 i).1 8 + psum (B.2.2.2.2 i) 1 ((B.2.2.2.2 i).1 7))), fun _ => (0, 0, 0, 0)), upB_gx hG (wo_gd gd.1 _) gd.2 (fun _ _ => rfl), Nat.le_refl _, fun S hS => ?_, fun S hS => ?_⟩
      · obtain ⟨S1, r1, r2, r3⟩ := giveUp_e hc (hS.2.2.2.2 i hi) gd.1
        refine ⟨S1, ?_, CB.loan hS hi g8 r3 r2, (r3.B (by omega)).K⟩
        unfold F_X7_writeOff J_X7_writeOff_42
        rw [z0, bgk b1, has_yes b1 hS g8 hi, cl_some, if_pos (by decide), z0, br4 b1, baR b1 (by omega), lgk hc, isSettled_e hc (hS.2.2.2.2 i hi) gd.1, if_neg hs, cl_some, if_pos rfl, lgk hc, r1, cl_some]
      · obtain ⟨S2, r1, r2, r3⟩ := wo_loop (show i < 8 by omega) hl.2 (hS.2.2.2.2 i hi) (bls (B.2.2.2.2 i)).length 6000 0 ((B.2.2.2.2 i).1 8) (by omega) (by omega)
        rw [List.drop_zero, ← ep] at r1 r2
        refine ⟨S2, ?_, RB.set hS hi g8 (fun q hq => (hG.1.2.2.2.2 q hq).1) r3 ?_, r3.H.Q⟩
        · rw [f8 S hS, if_neg hs]
          exact r1
        · have eb : bls ((up (B.2.2.2.2 i).1 8 0, up (B.2.2.2.2 i).2.1 3 ((B.2.2.2.2 i).2.1 3 + lN ((B.2.2.2.2 i).1 8 + psum (B.2.2.2.2 i) 1 ((B.2.2.2.2 i).1 7))), fun _ => (0, 0, 0, 0)) : Ln) = [] := by
            have : ∀ (l : Ln) (j k : Nat), (∀ i, l.2.2 i = (0, 0, 0, 0)) → lvf l k j = [] := by
              intro l j
              induction j with
              | zero => intro k _; rfl
              | succ j ih =>
                intro k h
                unfold lvf
                rw [if_neg (by unfold ask; rw [h]; decide), ih (k + 1) h]
            unfold bls lvs
            rw [this _ _ _ (fun _ => rfl)]
            rfl
          rw [eb]
          exact r2
/-- rule -/
theorem t_rule (hG : GX B) (a m : Int32) : TwoB (F_X7_rule 0 a m) (F_X8_rule 202 a m) B := by
  obtain ⟨⟨g1, g2, g3, g4, g5⟩, hN⟩ := hG
  have hG : GX B := ⟨⟨g1, g2, g3, g4, g5⟩, hN⟩
  have hd : ∀ q, q < B.2.2.2.1 → (bls (B.2.2.2.2 q)).length ≤ 60 := fun q hq => (bls_len (g5 q hq).1).2
  by_cases a0 : a = 0
  · subst a0
    rcases between m 0 90 (by omega) (by omega) with c | ⟨c, v, rfl, _, v2⟩
    · refine TwoB.no hG (-1) (fun S hS => ?_) (fun S hS => ?_)
      · unfold F_X7_rule J_X7_rule_33 J_X7_rule_68 J_X7_rule_70
        rw [if_neg (fun z => z rfl), fa_lit 90, show (0 : Int32) = nI 0 from rfl, within_e, if_pos c, cl_some, if_pos (show (0 : Int32) = nI 0 from rfl), if_pos (by decide)]
      · unfold F_X8_rule J_X8_rule_26 J_X8_rule_32
        rw [in_e, if_neg (by decide), cl_some, if_neg (by decide), if_neg (fun z => z rfl), fa_litL 90, show (0 : Int64) = lN 0 from rfl, inw_e _ _ _ (by omega) (by omega), if_pos c, cl_some, if_neg (fun z => z rfl)]
    · refine ⟨nI B.2.1, (B.1, v, B.2.2.1, B.2.2.2.1, B.2.2.2.2), ⟨⟨g1, v2, g3, g4, g5⟩, hN⟩, Nat.le_refl _, fun S hS => ?_, fun S hS => ?_⟩
      · obtain ⟨q0, q1, q2, q3, q4⟩ := hS
        refine ⟨setI S 1 1 (nI v), ?_, ⟨by rw [setI_k (by omega)]; exact q0, setI_s, by rw [setI_k (by omega)]; exact q2, by rw [setI_k (by omega)]; exact q3, fun j hj => (q4 j hj).same (fun x hx => ⟨setI_n (by omega), rfl⟩)⟩, ((offB.rf S 1).I 1 _).K⟩
        unfold F_X7_rule J_X7_rule_70
        rw [if_neg (fun z => z rfl), fa_lit 90, show (0 : Int32) = nI 0 from rfl, within_e, if_neg c, cl_some, if_neg (by decide), z0, bI b1, q1, z0, bpI b1]
      · obtain ⟨q0, q1, q2, q3, q4⟩ := hS
        refine ⟨setL S 203 2522 (lN v), ?_, ⟨by rw [setL_k (by omega)]; exact q0, by rw [setL_k (by omega)]; exact q1, setL_s, by rw [setL_k (by omega)]; exact q3, fun j hj => (q4 j hj).off (hd j hj) (fun x h1 h2 => setL_k (by have : j < B.2.2.2.1 := hj; omega))⟩, ((offH.rf S).L 2522 _).Q⟩
        unfold F_X8_rule J_X8_rule_26
        rw [in_e, if_neg (by decide), cl_some, if_neg (by decide), if_neg (fun z => z rfl), fa_litL 90, show (0 : Int64) = lN 0 from rfl, inw_e _ _ _ (by omega) (by omega), if_neg c, cl_some, if_pos (by decide), mR0, show (2522 : Int32) + 0 = nI 2522 from rfl, g_at _ (by omega), q2, lN_i32, bd_e, mR0, g_set _ (by omega), wide_nI (by omega)]
  · by_cases a1 : a = 1
    · subst a1
      rcases between m 0 10000 (by omega) (by omega) with c | ⟨c, v, rfl, _, v2⟩
      · refine TwoB.no hG (-1) (fun S hS => ?_) (fun S hS => ?_)
        · unfold F_X7_rule J_X7_rule_33 J_X7_rule_68 J_X7_rule_70
          rw [if_pos (by decide), if_neg (fun z => z rfl), fa_lit 10000, show (0 : Int32) = nI 0 from rfl, within_e, if_pos c, cl_some, if_pos (show (0 : Int32) = nI 0 from rfl)]
        · unfold F_X8_rule J_X8_rule_26 J_X8_rule_32
          rw [in_e, if_neg (by decide), cl_some, if_neg (by decide), if_pos (by decide), fa_litL 10000, show (0 : Int64) = lN 0 from rfl, inw_e _ _ _ (by omega) (by omega), if_pos c, cl_some, if_neg (fun z => z rfl)]
      · refine ⟨nI B.2.2.1, (B.1, B.2.1, v, B.2.2.2.1, B.2.2.2.2), ⟨⟨g1, g2, v2, g4, g5⟩, hN⟩, Nat.le_refl _, fun S hS => ?_, fun S hS => ?_⟩
        · obtain ⟨q0, q1, q2, q3, q4⟩ := hS
          refine ⟨setI S 1 2 (nI v), ?_, ⟨by rw [setI_k (by omega)]; exact q0, by rw [setI_k (by omega)]; exact q1, setI_s, by rw [setI_k (by omega)]; exact q3, fun j hj => (q4 j hj).same (fun x hx => ⟨setI_n (by omega), rfl⟩)⟩, ((offB.rf S 1).I 2 _).K⟩
          unfold F_X7_rule J_X7_rule_33 J_X7_rule_70
          rw [if_pos (by decide), if_neg (fun z => z rfl), fa_lit 10000, show (0 : Int32) = nI 0 from rfl, within_e, if_neg c, cl_some, if_neg (by decide), z0, bI b1, q2, z0, bpI b1]
        · obtain ⟨q0, q1, q2, q3, q4⟩ := hS
          refine ⟨setL S 203 2523 (lN v), ?_, ⟨by rw [setL_k (by omega)]; exact q0, by rw [setL_k (by omega)]; exact q1, by rw [setL_k (by omega)]; exact q2, setL_s, fun j hj => (q4 j hj).off (hd j hj) (fun x h1 h2 => setL_k (by have : j < B.2.2.2.1 := hj; omega))⟩, ((offH.rf S).L 2523 _).Q⟩
          unfold F_X8_rule J_X8_rule_26
          rw [in_e, if_neg (by decide), cl_some, if_neg (by decide), if_pos (by decide), fa_litL 10000, show (0 : Int64) = lN 0 from rfl, inw_e _ _ _ (by omega) (by omega), if_neg c, cl_some, if_pos (by decide), mR0, show (2522 : Int32) + 1 = nI 2523 from rfl, g_at _ (by omega), q3, lN_i32, bd_e, mR0, g_set _ (by omega), wide_nI (by omega)]
    · have hc : a < nI 0 ∨ nI 1 < a := by
        rcases between a 0 1 (by omega) (by omega) with c | ⟨_, v, rfl, _, v2⟩
        · exact c
        · have : v = 0 ∨ v = 1 := by omega
          rcases this with rfl | rfl
          · exact absurd rfl a0
          · exact absurd rfl a1
      refine TwoB.no hG (-1) (fun S hS => ?_) (fun S hS => ?_)
      · unfold F_X7_rule J_X7_rule_33 J_X7_rule_68 J_X7_rule_70
        rw [if_pos a0, if_pos a1]
      · unfold F_X8_rule J_X8_rule_32
        rw [show (0 : Int64) = lN 0 from rfl, show (1 : Int64) = lN 1 from rfl, inw_e _ _ _ (by omega) (by omega), if_pos hc, cl_some, if_pos rfl]
end TW2
