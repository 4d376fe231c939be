/-! what changes a LOAN of the class: ENDS, FEES, payments, writing off, a new one, a copy -/
/-- the next period ends -/
def ep1 (l : Ln) : Ln := (up (up l.1 8 (l.1 8 - pk l (l.1 7 + 1) (l.1 8) (ik l (l.1 7 + 1) (l.1 8)))) 7 (l.1 7 + 1), l.2.1, up l.2.2 (l.1 7 + 1) (ik l (l.1 7 + 1) (l.1 8), pk l (l.1 7 + 1) (l.1 8) (ik l (l.1 7 + 1) (l.1 8)), (l.2.2 (l.1 7 + 1)).2.2))
/-- all that end up to a day, of j at most; how many bills come -/
def epw (d : Nat) : Nat → Ln → Ln
  | 0, l => l
  | j + 1, l => if pe (l.1 6) (l.1 7 + 1) ≤ d then epw d j (ep1 l) else l
def epc (d : Nat) : Nat → Ln → Nat
  | 0, _ => 0
  | j + 1, l => if pe (l.1 6) (l.1 7 + 1) ≤ d then (if 0 < ask (ep1 l) (l.1 7 + 1) then 1 else 0) + epc d j (ep1 l) else 0
theorem epc_le (d : Nat) : ∀ j l, epc d j l ≤ j
  | 0, _ => Nat.le_refl _
  | j + 1, l => by
    have := epc_le d j (ep1 l)
    unfold epc
    split
    · split <;> omega
    · omega
section CLM
variable {S : St} {c : Nat} {l : Ln}
theorem ep1_gd (hG : GD l) (h : l.1 7 < l.1 4) : GD (ep1 l) := by
  obtain ⟨g1, g2, g3, g4, g5, g6, g7, g8, g9, g10, g11, g12⟩ := hG
  have hi := (ik_le (l := l) ⟨g1, g2, g3, g4, g5, g6, g7, g8, g9, g10, trivial⟩ (k := l.1 7 + 1) (by omega) (by omega) g9).1
  have hp := pkl_le l (l.1 7 + 1) (l.1 8) (ik l (l.1 7 + 1) (l.1 8))
  refine ⟨g1, g2, g3, g4, g5, g6, g7, ?_, ?_, g10, ?_, ?_⟩
  · show l.1 7 + 1 ≤ l.1 4
    omega
  · show l.1 8 - _ ≤ _
    omega
  · intro k
    unfold ep1
    dsimp only
    by_cases hk : k = l.1 7 + 1
    · subst hk
      rw [up_s]
      have := g11 (l.1 7 + 1)
      exact ⟨by dsimp only; omega, by dsimp only; omega, this.2.2⟩
    · rw [up_n _ _ hk]
      exact g11 k
  · intro k hk
    have hk' : k = 0 ∨ l.1 7 + 1 < k := hk
    show up l.2.2 _ _ k = _
    rw [up_n _ _ (by omega)]
    exact g12 k (by omega)
theorem endPeriods_loop (hc : LC c) (d : Nat) (hd : d ≤ 40000) : ∀ (j n cnt : Nat) (S : St) (l : Ln), j < n → l.1 7 + j = l.1 4 → cnt ≤ 1000 - j → j ≤ 60 → CL S c l → GD l → ∃ S', L_X4_endPeriods_9 n c (nI d) (nI cnt) (nI (l.1 7 + 1)) S = some (nI (cnt + epc d j l), S') ∧ CL S' c (epw d j l) ∧ offL S S' c
  | _, 0, _, _, _, h, _, _, _, _, _ => absurd h (Nat.not_lt_zero _)
  | 0, n + 1, cnt, S, l, _, hk, _, _, hS, hG => by
    have hm := hG.2.2.2.2.1
    refine ⟨S, ?_, hS, offL.rf S c⟩
    show B_X4_endPeriods_9 _ _ _ _ _ _ = _
    unfold B_X4_endPeriods_9 J_X4_endPeriods_102
    rw [lI hc, hS.2.1.2.2.2.2.1]
    simp (disch := omega) only [nI_ltI, show l.1 4 < l.1 7 + 1 by omega, if_true]
    rfl
  | j + 1, n + 1, cnt, S, l, hn, hk, hcnt, hj, hS, hG => by
    have hm := hG.2.2.2.2.1
    have h36 := (ik_le hG.gs (k := l.1 7 + 1) (by omega) (by omega) hG.2.2.2.2.2.2.2.2.1)
    have hb := hG.2.2.2.2.2.2.2.2.1
    have hp := pkl_le l (l.1 7 + 1) (l.1 8) (ik l (l.1 7 + 1) (l.1 8))
    have hG1 := ep1_gd hG (by omega)
    have ha := ask_le hG1 (l.1 7 + 1)
    show ∃ S', B_X4_endPeriods_9 _ _ _ _ _ _ = _ ∧ _
    unfold B_X4_endPeriods_9 J_X4_endPeriods_102 J_X4_endPeriods_96
    rw [lI hc, hS.2.1.2.2.2.2.1]
    simp (disch := omega) only [nI_ltI, show ¬ l.1 4 < l.1 7 + 1 by omega, if_false]
    rw [lr13 hc, laI1 hc (by omega), hS.2.2.1 _ (by omega)]
    simp (disch := omega) only [nI_ltI]
    show ∃ S', _ = some (nI (cnt + (if pe (l.1 6) (l.1 7 + 1) ≤ d then (if 0 < ask (ep1 l) (l.1 7 + 1) then 1 else 0) + epc d j (ep1 l) else 0)), S') ∧ CL S' c (if pe (l.1 6) (l.1 7 + 1) ≤ d then epw d j (ep1 l) else l) ∧ offL S S' c
    by_cases hdue : pe (l.1 6) (l.1 7 + 1) ≤ d
    · rw [if_neg (by omega), if_pos hdue, if_pos hdue, lr16 hc, lL hc, hS.1.2.1, lgk hc, interestOf_e hc hS hG.gs (by omega) (by omega) hb, cl_some, lsJ4 hc (by omega)]
      have e1 : ep1 l = (up (up l.1 8 (l.1 8 - pk l (l.1 7 + 1) (l.1 8) (ik l (l.1 7 + 1) (l.1 8)))) 7 (l.1 7 + 1), l.2.1, up l.2.2 (l.1 7 + 1) (ik l (l.1 7 + 1) (l.1 8), pk l (l.1 7 + 1) (l.1 8) (ik l (l.1 7 + 1) (l.1 8)), (l.2.2 (l.1 7 + 1)).2.2)) := rfl
      have hii := h36.1
      generalize hiq : ik l (l.1 7 + 1) (l.1 8) = i at e1 hii hp ⊢
      generalize hpq : pk l (l.1 7 + 1) (l.1 8) i = q at e1 hp ⊢
      have hS1 := cl_int hS (l.1 7 + 1) i
      have o1 := (offL.rf S c).L (j := 4) (by omega) (l.1 7 + 1) (lN i)
      generalize setL S (c + 4) (l.1 7 + 1) (lN i) = S1 at hS1 o1 ⊢
      have hpr : F_X4_principalOf c (nI (l.1 7 + 1)) (lN (l.1 8)) (lN i) S1 = some (lN q, S1) := by
        rw [← hpq]
        exact principalOf_e hc hS1 hG.gs (by omega) (show l.1 7 + 1 ≤ l.1 4 by omega) hb (by omega)
      have b1 : S1.2 c 1 = lN (l.1 8) := hS1.1.2.1
      have i1 : S1.2 (c + 4) (l.1 7 + 1) = lN i := by
        have := (hS1.2.2.2.2 (l.1 7 + 1) (by omega)).2.1
        simp only [up_s] at this
        exact this
      rw [lr17 hc, lL hc, b1, lr16 hc, laJ4 hc (by omega), i1, lgk hc, hpr, cl_some, lsJ5 hc (by omega)]
      have hS2 := cl_prin hS1 (l.1 7 + 1) q
      have o2 := o1.L (j := 5) (by omega) (l.1 7 + 1) (lN q)
      generalize setL S1 (c + 5) (l.1 7 + 1) (lN q) = S2 at hS2 o2 ⊢
      have b2 : S2.2 c 1 = lN (l.1 8) := hS2.1.2.1
      have p2 : S2.2 (c + 5) (l.1 7 + 1) = lN q := by
        have := (hS2.2.2.2.2 (l.1 7 + 1) (by omega)).2.2.1
        simp only [up_s] at this
        exact this
      rw [lL hc, b2, lr17 hc, laJ5 hc (by omega), p2, lN_sub hp, lpL hc, lpI hc]
      have hS3 := cl_done (cl_bal hS2 (l.1 8 - q)) (l.1 7 + 1)
      have o3 := (o2.L (j := 0) (by omega) 1 (lN (l.1 8 - q))).I (j := 0) (by omega) 12 (nI (l.1 7 + 1))
      have e3 : ((up (up l.1 8 (l.1 8 - q)) 7 (l.1 7 + 1), l.2.1, up (up l.2.2 (l.1 7 + 1) (i, (l.2.2 (l.1 7 + 1)).2)) (l.1 7 + 1) ((up l.2.2 (l.1 7 + 1) (i, (l.2.2 (l.1 7 + 1)).2) (l.1 7 + 1)).1, q, (up l.2.2 (l.1 7 + 1) (i, (l.2.2 (l.1 7 + 1)).2) (l.1 7 + 1)).2.2)) : Ln) = ep1 l := by
        rw [e1, up_s]
        congr 2
        funext x
        unfold up
        split <;> rfl
      rw [show ((up (up l.1 8 (l.1 8 - q)) 7 (l.1 7 + 1), l.2.1, up (up l.2.2 (l.1 7 + 1) (i, (l.2.2 (l.1 7 + 1)).2)) (l.1 7 + 1) ((up l.2.2 (l.1 7 + 1) (i, (l.2.2 (l.1 7 + 1)).2) (l.1 7 + 1)).1, q, (up l.2.2 (l.1 7 + 1) (i, (l.2.2 (l.1 7 + 1)).2) (l.1 7 + 1)).2.2)) : Ln) = ep1 l from e3] at hS3
      change CL (setI (setL S2 c 1 (lN (l.1 8 - q))) c 12 (nI (l.1 7 + 1))) c (ep1 l) at hS3
      change offL S (setI (setL S2 c 1 (lN (l.1 8 - q))) c 12 (nI (l.1 7 + 1))) c at o3
      generalize setI (setL S2 c 1 (lN (l.1 8 - q))) c 12 (nI (l.1 7 + 1)) = S3 at hS3 o3 ⊢
      rw [lgk hc, asks_e hc hS3 (by omega), cl_some, show nI (l.1 7 + 1) + 1 = nI ((ep1 l).1 7 + 1) from nI_1 _, show nI cnt + 1 = nI (cnt + 1) from nI_1 cnt]
      simp (disch := omega) only [fa_litL, lN_le63]
      have hd1 : (ep1 l).1 7 = l.1 7 + 1 := rfl
      have hd4 : (ep1 l).1 4 = l.1 4 := rfl
      by_cases h0 : 0 < ask (ep1 l) (l.1 7 + 1)
      · rw [if_neg (by omega), if_pos h0]
        obtain ⟨S', r1, r2, r3⟩ := endPeriods_loop hc d hd j n (cnt + 1) S3 (ep1 l) (by omega) (by omega) (by omega) (by omega) hS3 hG1
        exact ⟨S', by rw [r1, Nat.add_assoc], r2, o3.tr r3⟩
      · rw [if_pos (by omega), if_neg h0]
        obtain ⟨S', r1, r2, r3⟩ := endPeriods_loop hc d hd j n cnt S3 (ep1 l) (by omega) (by omega) (by omega) (by omega) hS3 hG1
        exact ⟨S', by rw [r1, Nat.zero_add], r2, o3.tr r3⟩
    · rw [if_pos (by omega), if_neg hdue, if_neg hdue]
      exact ⟨S, rfl, hS, offL.rf S c⟩
theorem endPeriods_e (hc : LC c) (hS : CL S c l) (hG : GD l) (d : Nat) (hd : d ≤ 40000) : ∃ S', F_X4_endPeriods c (nI d) S = some (nI (epc d (l.1 4 - l.1 7) l), S') ∧ CL S' c (epw d (l.1 4 - l.1 7) l) ∧ offL S S' c := by
  have hm := hG.2.2.2.2.1
  have hdn := hG.2.2.2.2.2.2.2.1
  unfold F_X4_endPeriods
  rw [lI hc, hS.2.1.2.2.2.2.2, bd_e, show nI (l.1 7) + 1 = nI (l.1 7 + 1) from nI_1 _]
  obtain ⟨S', r1, r2, r3⟩ := endPeriods_loop hc d hd (l.1 4 - l.1 7) 6000 0 S l (by omega) (by omega) (by omega) (by omega) hS hG
  exact ⟨S', by rw [show (0 : Int32) = nI 0 from rfl, r1, Nat.zero_add], r2, r3⟩
end CLM
