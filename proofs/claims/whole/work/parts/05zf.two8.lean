section TW8
variable {B : Bk} {i : Nat}
/-- coming -/
theorem t_coming (hG : GX B) (a o : Int32) : TwoB (F_X7_coming 0 a o) (F_X8_coming 202 a o) B := by
  have g8 := hG.1.2.2.2.1
  rcases loan_or a B.2.2.2.1 with h | ⟨i, hi, rfl⟩
  · refine TwoB.no hG (-1) (fun S hS => ?_) (fun S hS => ?_)
    · unfold F_X7_coming
      rw [z0, bgk b1, has_no b1 hS g8 h, cl_some, if_neg (fun z => z rfl)]
    · unfold F_X8_coming J_X8_coming_20
      rw [mgk, isLoan_no hS g8 h, cl_some, if_pos rfl]
  · have hi8 : i < 8 := by omega
    have gd := hG.1.2.2.2.2 i hi
    have hc := LC_book b1 hi8
    have hm := gd.1.2.2.2.2.1
    have hdn := gd.1.2.2.2.2.2.2.2.1
    have hfm : fm (B.2.2.2.2 i) = (B.2.2.2.2 i).1 4 - (B.2.2.2.2 i).1 7 := rfl
    have hlen : (tc (B.2.2.2.2 i)).length ≤ fm (B.2.2.2.2 i) := tcf_len _ _ _
    have f7 : ∀ S, CB S 1 B → ∃ S1, CB S1 1 B ∧ offK S S1 ∧ PC S1 (B.2.2.2.2 i) ∧ F_X7_coming 0 (nI i) o S = sw o (some ((-1 : Int64), S1)) [(0, some ((Int32.toInt64 (nI (tc (B.2.2.2.2 i)).length)), S1)), (1, if ¬ nI (tc (B.2.2.2.2 i)).length = 0 then (gR 2 13 (1 + 2 + 7 * i) fun v84 => gR 5 5 0 fun v88 => gk v88 3 <| cl (F_X5_periodOfBill v88 (nI (tc (B.2.2.2.2 i)).length - (1 : Int32)) S1) fun r95 S95 => aI v84 r95 S95 fun v98 => J_X7_coming_100 (Int32.toInt64 v98) S95) else (J_X7_coming_100 (-2 : Int64) S1)), (2, gR 5 5 0 fun v102 => gk v102 3 <| cl (F_X5_greatestFlow v102 S1) fun r105 S105 => some (r105, S105))] := by
      intro S hS
      obtain ⟨S1, r1, r2, r3⟩ := follow_e hc (by omega) gd.1 (hS.2.2.2.2 i hi)
      refine ⟨S1, hS.F g8 r3, r3.K, r2, ?_⟩
      unfold F_X7_coming
      rw [z0, bgk b1, has_yes b1 hS g8 hi, cl_some, if_pos (by decide), z0, br4 b1, baR b1 hi8, z5, pgk, r1, cl_some, z5, pgk, billsC gd.1 r2, cl_some]
    rcases between o 0 2 (by omega) (by omega) with d | ⟨d, v, rfl, _, v9⟩
    · have hne : ∀ k : Nat, k ≤ 2 → o ≠ nI k := by
        rintro k hk rfl
        rw [nI_ltI (by omega) (by omega), nI_ltI (by omega) (by omega)] at d
        omega
      refine ⟨-1, B, hG, Nat.le_refl _, fun S hS => ?_, fun S hS => ⟨S, ?_, hS, offQ.rf S⟩⟩
      · obtain ⟨S1, r1, r2, r3, r4⟩ := f7 S hS
        refine ⟨S1, ?_, r1, r2⟩
        rw [r4, sw_x (show ¬ o = 0 from hne 0 (by omega)), sw_x (show ¬ o = 1 from hne 1 (by omega)), sw_x (show ¬ o = 2 from hne 2 (by omega)), sw_n]
      · unfold F_X8_coming J_X8_coming_20
        rw [mgk, isLoan_yes hS g8 hi, cl_some, if_neg (by decide), fa_litL 2, show (0 : Int64) = lN 0 from rfl, inw_e _ _ _ (by omega) (by omega), if_pos d, cl_some, if_neg (fun z => z rfl)]
    · have f8 : ∀ S, RB S 203 B → ∃ S1, RB S1 203 B ∧ offQ S S1 ∧ F_X8_coming 202 (nI i) (nI v) S = some (cres v (tc (B.2.2.2.2 i)).length (lx (B.2.2.2.2 i) 0 (fm (B.2.2.2.2 i)) (-2)) (gf (B.2.2.2.2 i) 0 (fm (B.2.2.2.2 i)) 0), S1) := by
        intro S hS
        obtain ⟨S1, r1, r2, r3⟩ := comes_e hi8 gd.1 (hS.2.2.2.2 i hi)
        refine ⟨S1, hS.C r3, r3.Q, ?_⟩
        unfold F_X8_coming
        rw [mgk, isLoan_yes hS g8 hi, cl_some, if_neg (by decide), fa_litL 2, show (0 : Int64) = lN 0 from rfl, inw_e _ _ _ (by omega) (by omega), if_neg d, cl_some, if_pos (by decide), mgk, r1, cl_some]
        have h := comR_loop gd.1 r2 v9 (fm (B.2.2.2.2 i)) 6000 0 0 0 (-2) (by omega) (by omega) (by omega) (by omega)
        rw [Nat.zero_add] at h
        exact h
      have go : (∀ S1, CB S1 1 B → PC S1 (B.2.2.2.2 i) → (sw (nI v) (some ((-1 : Int64), S1)) [(0, some ((Int32.toInt64 (nI (tc (B.2.2.2.2 i)).length)), S1)), (1, if ¬ nI (tc (B.2.2.2.2 i)).length = 0 then (gR 2 13 (1 + 2 + 7 * i) fun v84 => gR 5 5 0 fun v88 => gk v88 3 <| cl (F_X5_periodOfBill v88 (nI (tc (B.2.2.2.2 i)).length - (1 : Int32)) S1) fun r95 S95 => aI v84 r95 S95 fun v98 => J_X7_coming_100 (Int32.toInt64 v98) S95) else (J_X7_coming_100 (-2 : Int64) S1)), (2, gR 5 5 0 fun v102 => gk v102 3 <| cl (F_X5_greatestFlow v102 S1) fun r105 S105 => some (r105, S105))]) = some (cres v (tc (B.2.2.2.2 i)).length (lx (B.2.2.2.2 i) 0 (fm (B.2.2.2.2 i)) (-2)) (gf (B.2.2.2.2 i) 0 (fm (B.2.2.2.2 i)) 0), S1)) → TwoB (F_X7_coming 0 (nI i) (nI v)) (F_X8_coming 202 (nI i) (nI v)) B := by
        intro h1
        refine ⟨cres v (tc (B.2.2.2.2 i)).length (lx (B.2.2.2.2 i) 0 (fm (B.2.2.2.2 i)) (-2)) (gf (B.2.2.2.2 i) 0 (fm (B.2.2.2.2 i)) 0), B, hG, Nat.le_refl _, fun S hS => ?_, fun S hS => ?_⟩
        · obtain ⟨S1, r1, r2, r3, r4⟩ := f7 S hS
          exact ⟨S1, by rw [r4]; exact h1 S1 r1 r3, r1, r2⟩
        · obtain ⟨S1, r1, r2, r3⟩ := f8 S hS
          exact ⟨S1, r3, r1, r2⟩
      have hv : v = 0 ∨ v = 1 ∨ v = 2 := by omega
      rcases hv with rfl | rfl | rfl
      · refine go (fun S1 q1 q2 => ?_)
        rw [sw_y (by rfl), wide_nI (by omega)]
        rfl
      · refine go (fun S1 q1 q2 => ?_)
        rw [sw_x (by decide), sw_y (by rfl)]
        show _ = some (lx (B.2.2.2.2 i) 0 (fm (B.2.2.2.2 i)) (-2), S1)
        rw [lx_e]
        have et : tcf (B.2.2.2.2 i) 0 (fm (B.2.2.2.2 i)) = tc (B.2.2.2.2 i) := rfl
        rw [et, List.getLast?_eq_getElem?]
        by_cases z : (tc (B.2.2.2.2 i)).length = 0
        · rw [if_neg (show ¬ ¬ nI (tc (B.2.2.2.2 i)).length = 0 from fun y => y (by rw [z]; rfl)), List.getElem?_eq_none (by omega)]
          rfl
        · have hlt : (tc (B.2.2.2.2 i)).length - 1 < (tc (B.2.2.2.2 i)).length := by omega
          rw [if_pos (show ¬ nI (tc (B.2.2.2.2 i)).length = 0 from fun y => by rw [show (0 : Int32) = nI 0 from rfl, nI_eq (by omega) (by omega)] at y; exact z y), lr13 hc, z5, pgk, show (1 : Int32) = nI 1 from rfl, pk_sub (by omega), pobC gd.1 q2 (by omega), cl_some]
          obtain ⟨y, hy⟩ : ∃ y, (tc (B.2.2.2.2 i))[(tc (B.2.2.2.2 i)).length - 1]? = some y := ⟨_, List.getElem?_eq_getElem hlt⟩
          have hy2 := tc_in _ hy
          have hpe : pe ((B.2.2.2.2 i).1 6) ((B.2.2.2.2 i).1 7 + y + 1) ≤ 36524 := pe_le (by have := gd.1.2.2.2.2.2.2.1; omega)
          rw [hy]
          show aI (1 + 2 + 7 * i + 1) (nI ((B.2.2.2.2 i).1 7 + y + 1)) S1 _ = _
          rw [laI1 hc (by omega), (q1.2.2.2.2 i hi).2.2.1 _ (by omega), wide_nI (by omega)]
          rfl
      · refine go (fun S1 q1 q2 => ?_)
        rw [sw_x (by decide), sw_x (by decide), sw_y (by rfl), z5, pgk, gfC gd.1 q2, cl_some]
        rfl
theorem owedR_loop {S : St} {f : Nat → Nat} {q : Nat → Int64} {bs : List Bl} (hi : i < 8) (hS : RLn S 203 i f q bs) (hl : bs.length ≤ 60) : ∀ (j n k x : Nat), j < n → k + j = bs.length → L_X8_owed_5 n 202 (nI i) (lN x) (nI k) S = some (lN (x + ((bs.drop k).map bq).sum), S)
  | _, 0, _, _, h, _ => absurd h (Nat.not_lt_zero _)
  | 0, n + 1, k, x, _, hk => by
    show B_X8_owed_5 _ _ _ _ _ _ = _
    unfold B_X8_owed_5
    rw [mgk, fa_lit 14, at_e hi (by omega), cl_some, hS.2.2.1, wide_nI (by omega), if_pos (by rw [lN_le63 (by omega) (by omega)]; omega), List.drop_of_length_le (by omega)]
    rfl
  | j + 1, n + 1, k, x, hn, hk => by
    have hkl : k < bs.length := by omega
    have hb : bs[k]? = some bs[k] := List.getElem?_eq_getElem hkl
    show B_X8_owed_5 _ _ _ _ _ _ = _
    unfold B_X8_owed_5
    rw [mgk, fa_lit 14, at_e hi (by omega), cl_some, hS.2.2.1, wide_nI (by omega), if_neg (by rw [lN_le63 (by omega) (by omega)]; omega), mgk, refAsks_e hi hS hb hl, cl_some, lN_add, bd_e, nI_1, owedR_loop hi hS hl j n (k + 1) _ (by omega) (by omega), List.drop_eq_getElem_cons hkl, List.map_cons, List.sum_cons, Nat.add_assoc]
theorem bq_bls (l : Ln) : ((bls l).map bq).sum = ((lvs l).map (ask l)).sum := by
  unfold bls
  rw [List.map_map]
  congr 1
  refine List.map_congr_left (fun k _ => ?_)
  show (l.2.2 k).1 + (l.2.2 k).2.1 + (l.2.2 k).2.2.1 = ask l k
  unfold ask
  omega
/-- sum -/
theorem t_sum (hG : GX B) (a o : Int32) : TwoB (F_X7_sum 0 a o) (F_X8_sum 202 a o) B := by
  have g8 := hG.1.2.2.2.1
  rcases loan_or a B.2.2.2.1 with h | ⟨i, hi, rfl⟩
  · refine TwoB.no hG (-1) (fun S hS => ?_) (fun S hS => ?_)
    · unfold F_X7_sum
      rw [z0, bgk b1, has_no b1 hS g8 h, cl_some, if_neg (fun z => z rfl)]
    · unfold F_X8_sum J_X8_sum_20
      rw [mgk, isLoan_no hS g8 h, cl_some, if_pos rfl]
  · have hi8 : i < 8 := by omega
    have gd := hG.1.2.2.2.2 i hi
    have hc := LC_book b1 hi8
    have hm := gd.1.2.2.2.2.1
    have hl := bls_len gd.1
    have hfm : fm (B.2.2.2.2 i) = (B.2.2.2.2 i).1 4 - (B.2.2.2.2 i).1 7 := rfl
    have f7 : ∀ S, CB S 1 B → F_X7_sum 0 (nI i) o S = sw o (some ((-1 : Int64), S)) [(0, gL 2 0 (1 + 2 + 7 * i) S fun v77 => some (v77, S)), (1, gL 2 1 (1 + 2 + 7 * i) S fun v82 => some (v82, S)), (2, gL 2 2 (1 + 2 + 7 * i) S fun v87 => some (v87, S)), (3, gk (1 + 2 + 7 * i) 2 <| cl (F_X4_owed (1 + 2 + 7 * i) S) fun r92 S92 => some (r92, S92)), (4, gL 2 3 (1 + 2 + 7 * i) S fun v97 => some (v97, S)), (5, gL 2 4 (1 + 2 + 7 * i) S fun v102 => some (v102, S)), (6, gL 2 5 (1 + 2 + 7 * i) S fun v107 => some (v107, S)), (7, gL 2 6 (1 + 2 + 7 * i) S fun v112 => some (v112, S)), (8, gR 5 5 0 fun v117 => gk v117 3 <| cl (F_X5_follow v117 (1 + 2 + 7 * i) S) fun _ S121 => gR 5 5 0 fun v125 => gk v125 3 <| cl (F_X5_totalInterest v125 S121) fun r128 S128 => some (r128, S128))] := by
      intro S hS
      unfold F_X7_sum
      rw [z0, bgk b1, has_yes b1 hS g8 hi, cl_some, if_pos (by decide), z0, br4 b1, baR b1 hi8]
    rcases between o 0 8 (by omega) (by omega) with c | ⟨c, v, rfl, _, v9⟩
    · refine TwoB.no hG (-1) (fun S hS => ?_) (fun S hS => ?_)
      · rw [f7 S hS]
        have hne : ∀ k : Nat, k ≤ 8 → o ≠ nI k := by
          rintro k hk rfl
          rw [nI_ltI (by omega) (by omega), nI_ltI (by omega) (by omega)] at c
          omega
        rw [sw_x (show ¬ o = 0 from hne 0 (by omega)), sw_x (show ¬ o = 1 from hne 1 (by omega)), sw_x (show ¬ o = 2 from hne 2 (by omega)), sw_x (show ¬ o = 3 from hne 3 (by omega)), sw_x (show ¬ o = 4 from hne 4 (by omega)), sw_x (show ¬ o = 5 from hne 5 (by omega)), sw_x (show ¬ o = 6 from hne 6 (by omega)), sw_x (show ¬ o = 7 from hne 7 (by omega)), sw_x (show ¬ o = 8 from hne 8 (by omega)), sw_n]
      · unfold F_X8_sum J_X8_sum_20
        rw [mgk, isLoan_yes hS g8 hi, cl_some, if_neg (by decide), fa_litL 8, show (0 : Int64) = lN 0 from rfl, inw_e _ _ _ (by omega) (by omega), if_pos c, cl_some, if_neg (fun z => z rfl)]
    · have f8 : ∀ S, RB S 203 B → F_X8_sum 202 (nI i) (nI v) S = sw (nI v) (gk 202 6 <| cl (F_X8_comes 202 (nI i) S) fun _ S123 => L_X8_sum_131 6000 202 (0 : Int64) (0 : Int32) S123) [(0, gk 202 6 <| cl (F_X8_at 202 (nI i) (0 : Int32) S) fun r75 S75 => some (r75, S75)), (1, gk 202 6 <| cl (F_X8_at 202 (nI i) (8 : Int32) S) fun r83 S83 => some (r83, S83)), (2, gk 202 6 <| cl (F_X8_at 202 (nI i) (9 : Int32) S) fun r91 S91 => some (r91, S91)), (3, gk 202 6 <| cl (F_X8_owed 202 (nI i) S) fun r97 S97 => some (r97, S97)), (4, J_X8_sum_101 202 (nI i) (nI v) S), (5, J_X8_sum_101 202 (nI i) (nI v) S), (6, J_X8_sum_101 202 (nI i) (nI v) S), (7, gk 202 6 <| cl (F_X8_at 202 (nI i) (13 : Int32) S) fun r117 S117 => some (r117, S117))] := by
        intro S hS
        unfold F_X8_sum
        rw [mgk, isLoan_yes hS g8 hi, cl_some, if_neg (by decide), show (F_X8_in (Int32.toInt64 (nI v)) 0 8 S) = some (if nI v < nI 0 ∨ nI 8 < nI v then 0 else 1, S) from inw_e _ 0 8 (by omega) (by omega) S, if_neg c, cl_some, if_pos (by decide)]
      have hv : v = 0 ∨ v = 1 ∨ v = 2 ∨ v = 3 ∨ v = 4 ∨ v = 5 ∨ v = 6 ∨ v = 7 ∨ v = 8 := by omega
      rcases hv with rfl | rfl | rfl | rfl | rfl | rfl | rfl | rfl | rfl
      · refine TwoB.no hG (lN ((B.2.2.2.2 i).1 0)) (fun S hS => ?_) (fun S hS => ?_)
        · rw [f7 S hS, sw_y (by rfl), lL hc, (hS.2.2.2.2 i hi).1.1]
        · rw [f8 S hS, sw_y (by rfl), mgk, show (0 : Int32) = nI 0 from rfl, at_e hi8 (by omega), cl_some, (hS.2.2.2.2 i hi).1 0 (by omega)]
      · refine TwoB.no hG (lN ((B.2.2.2.2 i).1 8)) (fun S hS => ?_) (fun S hS => ?_)
        · rw [f7 S hS, sw_x (by decide), sw_y (by rfl), lL hc, (hS.2.2.2.2 i hi).1.2.1]
        · rw [f8 S hS, sw_x (by decide), sw_y (by rfl), mgk, fa_lit 8, at_e hi8 (by omega), cl_some, (hS.2.2.2.2 i hi).1 8 (by omega)]
      · refine TwoB.no hG (lN ((B.2.2.2.2 i).1 9)) (fun S hS => ?_) (fun S hS => ?_)
        · rw [f7 S hS, sw_x (by decide), sw_x (by decide), sw_y (by rfl), lL hc, (hS.2.2.2.2 i hi).1.2.2.1]
        · rw [f8 S hS, sw_x (by decide), sw_x (by decide), sw_y (by rfl), mgk, fa_lit 9, at_e hi8 (by omega), cl_some, (hS.2.2.2.2 i hi).1 9 (by omega)]
      · refine TwoB.no hG (lN ((lvs (B.2.2.2.2 i)).map (ask (B.2.2.2.2 i))).sum) (fun S hS => ?_) (fun S hS => ?_)
        · rw [f7 S hS, sw_x (by decide), sw_x (by decide), sw_x (by decide), sw_y (by rfl), lgk hc, owed_e hc (hS.2.2.2.2 i hi) gd.1, cl_some]
        · have h := owedR_loop hi8 (hS.2.2.2.2 i hi) hl.2 (bls (B.2.2.2.2 i)).length 6000 0 0 (by omega) (by omega)
          rw [List.drop_zero, bq_bls, Nat.zero_add] at h
          have h' : F_X8_owed 202 (nI i) S = _ := h
          rw [f8 S hS, sw_x (by decide), sw_x (by decide), sw_x (by decide), sw_y (by rfl), mgk, h', cl_some]
      · refine TwoB.no hG ((B.2.2.2.2 i).2.1 0) (fun S hS => ?_) (fun S hS => ?_)
        · rw [f7 S hS, sw_x (by decide), sw_x (by decide), sw_x (by decide), sw_x (by decide), sw_y (by rfl), lL hc, (hS.2.2.2.2 i hi).1.2.2.2.1]
        · rw [f8 S hS, sw_x (by decide), sw_x (by decide), sw_x (by decide), sw_x (by decide), sw_y (by rfl)]
          unfold J_X8_sum_101
          rw [mgk, show (10 : Int32) + nI 4 - 4 = nI 10 from rfl, at_e hi8 (by omega), cl_some]
          exact congrArg (fun x => some (x, S)) ((hS.2.2.2.2 i hi).2.1 0 (by omega))
      · refine TwoB.no hG ((B.2.2.2.2 i).2.1 1) (fun S hS => ?_) (fun S hS => ?_)
        · rw [f7 S hS, sw_x (by decide), sw_x (by decide), sw_x (by decide), sw_x (by decide), sw_x (by decide), sw_y (by rfl), lL hc, (hS.2.2.2.2 i hi).1.2.2.2.2.1]
        · rw [f8 S hS, sw_x (by decide), sw_x (by decide), sw_x (by decide), sw_x (by decide), sw_x (by decide), sw_y (by rfl)]
          unfold J_X8_sum_101
          rw [mgk, show (10 : Int32) + nI 5 - 4 = nI 11 from rfl, at_e hi8 (by omega), cl_some]
          exact congrArg (fun x => some (x, S)) ((hS.2.2.2.2 i hi).2.1 1 (by omega))
      · refine TwoB.no hG ((B.2.2.2.2 i).2.1 2) (fun S hS => ?_) (fun S hS => ?_)
        · rw [f7 S hS, sw_x (by decide), sw_x (by decide), sw_x (by decide), sw_x (by decide), sw_x (by decide), sw_x (by decide), sw_y (by rfl), lL hc, (hS.2.2.2.2 i hi).1.2.2.2.2.2.1]
        · rw [f8 S hS, sw_x (by decide), sw_x (by decide), sw_x (by decide), sw_x (by decide), sw_x (by decide), sw_x (by decide), sw_y (by rfl)]
          unfold J_X8_sum_101
          rw [mgk, show (10 : Int32) + nI 6 - 4 = nI 12 from rfl, at_e hi8 (by omega), cl_some]
          exact congrArg (fun x => some (x, S)) ((hS.2.2.2.2 i hi).2.1 2 (by omega))
      · refine TwoB.no hG ((B.2.2.2.2 i).2.1 3) (fun S hS => ?_) (fun S hS => ?_)
        · rw [f7 S hS, sw_x (by decide), sw_x (by decide), sw_x (by decide), sw_x (by decide), sw_x (by decide), sw_x (by decide), sw_x (by decide), sw_y (by rfl), lL hc, (hS.2.2.2.2 i hi).1.2.2.2.2.2.2]
        · rw [f8 S hS, sw_x (by decide), sw_x (by decide), sw_x (by decide), sw_x (by decide), sw_x (by decide), sw_x (by decide), sw_x (by decide), sw_y (by rfl), mgk, fa_lit 13, at_e hi8 (by omega), cl_some]
          exact congrArg (fun x => some (x, S)) ((hS.2.2.2.2 i hi).2.1 3 (by omega))
      · refine ⟨lN (fsm (B.2.2.2.2 i) 0 (fm (B.2.2.2.2 i))), B, hG, Nat.le_refl _, fun S hS => ?_, fun S hS => ?_⟩
        · obtain ⟨S1, r1, r2, r3⟩ := follow_e hc (by omega) gd.1 (hS.2.2.2.2 i hi)
          refine ⟨S1, ?_, hS.F g8 r3, r3.K⟩
          rw [f7 S hS, sw_x (by decide), sw_x (by decide), sw_x (by decide), sw_x (by decide), sw_x (by decide), sw_x (by decide), sw_x (by decide), sw_x (by decide), sw_y (by rfl), z5, pgk, r1, cl_some, z5, pgk, totC gd.1 r2, cl_some]
        · obtain ⟨S1, r1, r2, r3⟩ := comes_e hi8 gd.1 (hS.2.2.2.2 i hi)
          refine ⟨S1, ?_, hS.C r3, r3.Q⟩
          rw [f8 S hS, sw_x (by decide), sw_x (by decide), sw_x (by decide), sw_x (by decide), sw_x (by decide), sw_x (by decide), sw_x (by decide), sw_x (by decide), sw_n, mgk, r1, cl_some]
          have h := totR_loop gd.1 r2 (fm (B.2.2.2.2 i)) 6000 0 0 (by omega) (by omega)
          rw [Nat.zero_add] at h
          exact h
/-- sooner -/
theorem t_sooner (hG : GX B) (a : Int32) (m : Int64) : TwoB (F_X7_sooner 0 a m) (F_X8_sooner 202 a m) B := by
  have g8 := hG.1.2.2.2.1
  rcases loan_or a B.2.2.2.1 with h | ⟨i, hi, rfl⟩
  · refine TwoB.no hG (-1) (fun S hS => ?_) (fun S hS => ?_)
    · unfold F_X7_sooner J_X7_sooner_18
      rw [z0, bgk b1, has_no b1 hS g8 h, cl_some, if_pos rfl]
    · unfold F_X8_sooner
      rw [mgk, isPaid_no hS g8 h, cl_some, if_neg (fun z => z rfl)]
  · by_cases c : m < 1 ∨ 1000000000 < m
    · refine TwoB.no hG (-1) (fun S hS => ?_) (fun S hS => ?_)
      · unfold F_X7_sooner J_X7_sooner_18
        rw [z0, bgk b1, has_yes b1 hS g8 hi, cl_some, if_neg (by decide), isAmount_e, if_pos c, cl_some, if_neg (fun z => z rfl)]
      · unfold F_X8_sooner
        rw [mgk, isPaid_yes hS g8 hi, if_pos c, cl_some, if_neg (fun z => z rfl)]
    · have c' : ¬ (m < lN 1 ∨ lN 1000000000 < m) := by
        rw [show lN 1 = 1 from rfl, ← fa_litL 1000000000]
        exact c
      obtain ⟨n, rfl, n1, n2⟩ : ∃ n, m = lN n ∧ 1 ≤ n ∧ n ≤ 1000000000 := by
        rcases betweenL m 1 1000000000 (by omega) (by omega) with z | ⟨_, z⟩
        · exact absurd z c'
        · exact z
      have hi8 : i < 8 := by omega
      have gd := hG.1.2.2.2.2 i hi
      have hc := LC_book b1 hi8
      have gp := paid_gd gd.1 n
      have hm := gd.1.2.2.2.2.1
      have hm2 := gp.2.2.2.2.1
      have hfm : fm (B.2.2.2.2 i) = (B.2.2.2.2 i).1 4 - (B.2.2.2.2 i).1 7 := rfl
      have hfm2 : fm (paid n (B.2.2.2.2 i)) = (paid n (B.2.2.2.2 i)).1 4 - (paid n (B.2.2.2.2 i)).1 7 := rfl
      have lp_le : ∀ (l : Ln) (j q x : Nat), x ≤ q → lp l q j x ≤ q + j := by
        intro l j
        induction j with
        | zero => intro q x hx; exact hx
        | succ j ih =>
          intro q x hx
          have := ih (q + 1) (if 0 < fp l q then q + 1 else x) (by split <;> omega)
          show lp l (q + 1) j _ ≤ _
          omega
      have hA := lp_le (B.2.2.2.2 i) (fm (B.2.2.2.2 i)) 0 0 (Nat.le_refl 0)
      have hB := lp_le (paid n (B.2.2.2.2 i)) (fm (paid n (B.2.2.2.2 i))) 0 0 (Nat.le_refl 0)
      refine ⟨nI (lp (B.2.2.2.2 i) 0 (fm (B.2.2.2.2 i)) 0 - lp (paid n (B.2.2.2.2 i)) 0 (fm (paid n (B.2.2.2.2 i))) 0), B, hG, Nat.le_refl _, fun S hS => ?_, fun S hS => ?_⟩
      · obtain ⟨S1, r1, r2, r3⟩ := follow_e hc (by omega) gd.1 (hS.2.2.2.2 i hi)
        have hS1 := hS.F g8 r3
        obtain ⟨S2, u1, u2, u3⟩ := copyLoan_e hc LC_175 (by omega) (hS1.2.2.2.2 i hi) gd.1
        obtain ⟨S3, v1, v2, v3⟩ := receive_e LC_175 u2 gd.1 n2
        have ho := u3.tr v3
        have hS3 : CB S3 1 B := by
          obtain ⟨q0, q1, q2, q3, q4⟩ := hS1
          have e1 := (ho 1 (by omega)).1
          exact ⟨by rw [e1]; exact q0, by rw [e1]; exact q1, by rw [e1]; exact q2, by rw [e1]; exact q3, fun j hj => (q4 j hj).off ho (by omega)⟩
        obtain ⟨S4, w1, w2, w3⟩ := follow_e LC_175 (by omega) gp v2
        refine ⟨S4, ?_, hS3.F g8 w3, (r3.K.tr ho.K).tr w3.K⟩
        unfold F_X7_sooner
        rw [z0, bgk b1, has_yes b1 hS g8 hi, cl_some, if_neg (by decide), isAmount_e, if_neg c, cl_some, if_pos (by decide), z5, z0, br4 b1, baR b1 hi8, pgk, r1, cl_some, z5, pgk, lpC gd.1 r2, cl_some, z4, z0, br4 b1, baR b1 hi8, lgk LC_175, u1, cl_some, z4, lgk LC_175, v1, cl_some, z5, z4, pgk, w1, cl_some, z5, pgk, lpC gp w2, cl_some]
        generalize lp (B.2.2.2.2 i) 0 (fm (B.2.2.2.2 i)) 0 = x at hA ⊢
        generalize lp (paid n (B.2.2.2.2 i)) 0 (fm (paid n (B.2.2.2.2 i))) 0 = y at hB ⊢
        by_cases z : y ≤ x
        · rw [pk_sub z, show (0 : Int32) = nI 0 from rfl, maxI_e (by omega) (by omega), cl_some, Nat.max_eq_right (by omega)]
        · unfold F_J9_max_7cf53 J_J9_max_7cf53_10
          rw [if_neg (fun hlt => by
            rw [Int32.lt_iff_toInt_lt, Int32.toInt_zero, Int32.toInt_sub, nI_toInt (by omega), nI_toInt (by omega), Int.bmod_eq_of_le (by omega) (by omega)] at hlt
            omega), cl_some, show x - y = 0 by omega]
          rfl
      · obtain ⟨S1, r1, r2, r3⟩ := comes_e hi8 gd.1 (hS.2.2.2.2 i hi)
        have hS1 := hS.C r3
        obtain ⟨S2, t1, t2, t3, t4⟩ := take_e kd203 kd204 (by omega) S1
        have hS2 : RB S2 203 B := hS1.same (t3 203 (by omega))
        obtain ⟨S3, u1, u2, _, _, _, _, _, _, u9⟩ := pays_e hi8 gd.1 n2 (hS2.2.2.2.2 i hi)
        obtain ⟨S4, v1, v2, v3⟩ := comes_e hi8 gp u2
        obtain ⟨S5, x1, x2, x3, x4⟩ := take_e kd204 kd203 (by omega) S4
        have e204 : S4.2 204 = S2.2 204 := by rw [v3.2.2 204 (by omega), u9.2.1 204 (by omega) (by omega)]
        have hS5 : RB S5 203 B := hS1.copy hG.1 (fun q hq => by rw [x4 q hq, e204, t4 q hq])
        have l1 : F_X8_lastPrincipal 202 (nI i) S = some (nI (lp (B.2.2.2.2 i) 0 (fm (B.2.2.2.2 i)) 0), S1) := by
          unfold F_X8_lastPrincipal
          rw [mgk, r1, cl_some]
          exact lpR_loop gd.1 r2 (fm (B.2.2.2.2 i)) 6000 0 0 (by omega) (by omega)
        have l2 : F_X8_lastPrincipal 202 (nI i) S3 = some (nI (lp (paid n (B.2.2.2.2 i)) 0 (fm (paid n (B.2.2.2.2 i))) 0), S4) := by
          unfold F_X8_lastPrincipal
          rw [mgk, v1, cl_some]
          exact lpR_loop gp v2 (fm (paid n (B.2.2.2.2 i))) 6000 0 0 (by omega) (by omega)
        refine ⟨S5, ?_, hS5, ⟨fun x h1 h2 => by rw [x2, v3.1 x h1 h2, u9.1, t2, r3.1 x h1 h2], fun k hk => by rw [x2, v3.2.1 k hk, u9.1, t2, r3.2.1 k hk], fun x hx => by rw [x3 x (by omega), v3.2.2 x (by omega), u9.2.1 x (by omega) (by omega), t3 x (by omega), r3.2.2 x (by omega)]⟩⟩
        unfold F_X8_sooner J_X8_sooner_69
        rw [mgk, isPaid_yes hS g8 hi, if_neg c, cl_some, if_pos (by decide), mgk, l1, cl_some, mR0, mR1, t1, cl_some, mgk, u1, cl_some, mgk, l2, cl_some, mR1, mR0, x1, cl_some]
        generalize lp (B.2.2.2.2 i) 0 (fm (B.2.2.2.2 i)) 0 = x at hA ⊢
        generalize lp (paid n (B.2.2.2.2 i)) 0 (fm (paid n (B.2.2.2.2 i))) 0 = y at hB ⊢
        by_cases z : x ≤ y
        · rw [if_pos (by rw [nI_leI (by omega) (by omega)]; exact z), show x - y = 0 by omega]
          rfl
        · rw [if_neg (by rw [nI_leI (by omega) (by omega)]; exact z), pk_sub (by omega)]
end TW8
