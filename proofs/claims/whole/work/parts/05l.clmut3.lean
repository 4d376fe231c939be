section CLO
variable {S : St} {c : Nat} {l : Ln}
theorem pr_le (a k : Nat) (l : Ln) : pr a k l ≤ a := by
  unfold pr
  omega
theorem rcv_le : ∀ (j k a : Nat) (l : Ln), (rcv j k a l).1 ≤ a
  | 0, _, a, _ => Nat.le_refl a
  | j + 1, k, a, l => by
    unfold rcv
    split
    · exact Nat.le_refl a
    · exact Nat.le_trans (rcv_le j (k + 1) _ _) (pr_le a k l)
theorem rcv_1 : ∀ (j k a : Nat) (l : Ln), (rcv j k a l).2.1 = l.1
  | 0, _, _, _ => rfl
  | j + 1, k, a, l => by
    unfold rcv
    split
    · rfl
    · exact (rcv_1 j (k + 1) _ _).trans rfl
theorem rcv_gd : ∀ (j k a : Nat) (l : Ln), GD l → 1 ≤ k → k + j ≤ l.1 7 + 1 → GD (rcv j k a l).2
  | 0, _, _, _, h, _, _ => h
  | j + 1, k, a, l, h, hk, hj => by
    unfold rcv
    split
    · exact h
    · exact rcv_gd j (k + 1) _ _ (pb_gd h hk (by omega)) (by omega) (by show k + 1 + j ≤ l.1 7 + 1; omega)
theorem pre0_gd (hG : GD l) (a : Nat) : GD (pre0 a l) := by
  obtain ⟨g1, g2, g3, g4, g5, g6, g7, g8, g9, g10, g11, g12⟩ := hG
  refine ⟨g1, g2, g3, g4, g5, g6, g7, g8, ?_, g10, g11, g12⟩
  show l.1 8 - _ ≤ _
  omega
theorem pre_gd (hG : GD l) (a : Nat) : GD (pre a l) := by
  unfold pre
  split
  · exact relv_gd (pre0_gd hG a)
  · exact pre0_gd hG a
theorem paid_gd (hG : GD l) (a : Nat) : GD (paid a l) := pre_gd (rcv_gd _ _ _ _ hG (Nat.le_refl 1) (by omega)) _
theorem receive_34 (hc : LC c) (hS : CL S c l) (hG : GD l) {a : Nat} (ha : a ≤ 1000000000) : ∃ S', J_X4_receive_34 c (lN a) S = some (lN (a - min a (l.1 8)), S') ∧ CL S' c (pre a l) ∧ offL S S' c := by
  have hb := hG.2.2.2.2.2.2.2.2.1
  have hmd := hG.2.2.2.2.2.1
  unfold J_X4_receive_34 J_X4_receive_85 pre
  rw [lL hc, hS.1.2.1, minL_e (by omega) (by omega), cl_some, lL hc, hS.1.2.1, lN_sub (Nat.min_le_right _ _), lpL hc]
  have hS1 := cl_bal hS (l.1 8 - min a (l.1 8))
  have o1 := (offL.rf S c).L (j := 0) (by omega) 1 (lN (l.1 8 - min a (l.1 8)))
  change offL S (setL S c 1 (lN (l.1 8 - min a (l.1 8)))) c at o1
  generalize setL S c 1 (lN (l.1 8 - min a (l.1 8))) = S1 at hS1 o1 ⊢
  have g1 : S1.2 c 5 = l.2.1 2 := hS1.1.2.2.2.2.2.1
  rw [lL hc, g1, lpL hc]
  have hS2 := cl_got hS1 2 (by omega) (l.2.1 2 + lN (min a (l.1 8)))
  have o2 := o1.L (j := 0) (by omega) 5 (l.2.1 2 + lN (min a (l.1 8)))
  change CL (setL S1 c 5 (l.2.1 2 + lN (min a (l.1 8)))) c (pre0 a l) at hS2
  change offL S (setL S1 c 5 (l.2.1 2 + lN (min a (l.1 8)))) c at o2
  generalize setL S1 c 5 (l.2.1 2 + lN (min a (l.1 8))) = S2 at hS2 o2 ⊢
  have md : S2.1 c 10 = nI (l.1 5) := hS2.2.1.2.2.2.1
  simp (disch := omega) only [fa_litL, lN_le63]
  rw [lI hc, md, lN_sub (Nat.min_le_left _ _)]
  by_cases q1 : min a (l.1 8) ≤ 0
  · rw [if_pos q1, if_neg (by omega)]
    exact ⟨S2, rfl, hS2, o2⟩
  · rw [if_neg q1]
    by_cases q2 : l.1 5 = 1
    · rw [q2, if_neg (fun z => z rfl), if_pos ⟨by omega, rfl⟩, lgk hc]
      obtain ⟨S3, r1, r2, r3⟩ := findLevel_e hc hS2 (pre0_gd hG a)
      rw [r1, cl_some]
      exact ⟨S3, rfl, r2, o2.tr r3⟩
    · have q3 : l.1 5 = 0 := by omega
      rw [q3, if_pos (by decide), if_neg (by omega)]
      exact ⟨S2, rfl, hS2, o2⟩
theorem receive_loop (hc : LC c) : ∀ (j n k a : Nat) (S : St) (l : Ln), j < n → k + j = l.1 7 + 1 → 1 ≤ k → a ≤ 1000000000 → CL S c l → GD l → ∃ S', L_X4_receive_5 n c (lN a) (nI k) S = some (lN ((rcv j k a l).1 - min (rcv j k a l).1 ((rcv j k a l).2.1 8)), S') ∧ CL S' c (pre (rcv j k a l).1 (rcv j k a l).2) ∧ offL S S' c
  | _, 0, _, _, _, _, h, _, _, _, _, _ => absurd h (Nat.not_lt_zero _)
  | 0, n + 1, k, a, S, l, _, hk, _, ha, hS, hG => by
    have hm := hG.2.2.2.2.1
    have hdn := hG.2.2.2.2.2.2.2.1
    show ∃ S', B_X4_receive_5 _ _ _ _ _ = _ ∧ _
    unfold B_X4_receive_5
    rw [lI hc, hS.2.1.2.2.2.2.2]
    simp (disch := omega) only [nI_ltI, show l.1 7 < k by omega, if_true]
    exact receive_34 hc hS hG ha
  | j + 1, n + 1, k, a, S, l, hn, hk, hk1, ha, hS, hG => by
    have hm := hG.2.2.2.2.1
    have hdn := hG.2.2.2.2.2.2.2.1
    show ∃ S', B_X4_receive_5 _ _ _ _ _ = _ ∧ _
    unfold B_X4_receive_5
    rw [lI hc, hS.2.1.2.2.2.2.2]
    simp (disch := omega) only [nI_ltI, show ¬ l.1 7 < k by omega, if_false, fa_litL, lN_le63]
    unfold rcv
    by_cases h0 : a = 0
    · rw [if_pos (by omega), if_pos h0]
      exact receive_34 hc hS hG ha
    · obtain ⟨S1, r1, r2, r3⟩ := payBill_e hc hS hG ha (show k < 61 by omega)
      rw [if_neg (by omega), if_neg h0, lgk hc, r1, cl_some, show nI k + 1 = nI (k + 1) from nI_1 k]
      have := pr_le a k l
      obtain ⟨S2, s1, s2, s3⟩ := receive_loop hc j n (k + 1) (pr a k l) S1 (pb a k l) (by omega) (by show k + 1 + j = l.1 7 + 1; omega) (by omega) (by omega) r2 (pb_gd hG hk1 (by omega))
      exact ⟨S2, s1, s2, r3.tr s3⟩
theorem receive_e (hc : LC c) (hS : CL S c l) (hG : GD l) {a : Nat} (ha : a ≤ 1000000000) : ∃ S', F_X4_receive c (lN a) S = some (lN (givenBack a l), S') ∧ CL S' c (paid a l) ∧ offL S S' c := by
  have hm := hG.2.2.2.2.1
  have hdn := hG.2.2.2.2.2.2.2.1
  unfold F_X4_receive
  exact receive_loop hc (l.1 7) 6000 1 a S l (by omega) (by omega) (by omega) ha hS hG
/-! the bills go -/
def off4 (S S' : St) (c : Nat) : Prop := (∀ a, a ≠ c + 6 → S'.1 a = S.1 a) ∧ ∀ a, a ≠ c + 3 → a ≠ c + 4 → a ≠ c + 5 → S'.2 a = S.2 a
theorem clearA_loop (hc : LC c) : ∀ (j n k : Nat) (S : St), j < n → k + j = 61 → (∀ i, i < k → S.2 (c + 3) i = 0 ∧ S.2 (c + 4) i = 0 ∧ S.2 (c + 5) i = 0 ∧ S.1 (c + 6) i = 0) → ∃ S', L_X4_clearArrears_2 n c (nI k) S = some ((), S') ∧ (∀ i, i < 61 → S'.2 (c + 3) i = 0 ∧ S'.2 (c + 4) i = 0 ∧ S'.2 (c + 5) i = 0 ∧ S'.1 (c + 6) i = 0) ∧ off4 S S' c
  | _, 0, _, _, h, _, _ => absurd h (Nat.not_lt_zero _)
  | 0, n + 1, k, S, _, hk, h => by
    have e : k = 61 := by omega
    subst e
    refine ⟨S, ?_, h, fun _ _ => rfl, fun _ _ _ _ => rfl⟩
    show B_X4_clearArrears_2 _ _ _ _ = _
    unfold B_X4_clearArrears_2
    rw [if_pos (by decide)]
  | j + 1, n + 1, k, S, hn, hk, h => by
    show ∃ S', B_X4_clearArrears_2 _ _ _ _ = _ ∧ _
    unfold B_X4_clearArrears_2
    rw [if_neg (show ¬ (60 : Int32) < nI k from fun z => by rw [show (60 : Int32) = nI 60 from rfl, nI_ltI (by omega) (by omega)] at z; omega), lr15 hc, lsJ3 hc (by omega), lr16 hc, lsJ4 hc (by omega), lr17 hc, lsJ5 hc (by omega), lr18 hc, lsZ6 hc (by omega), show vp_nar .boolean 0 = 0 from rfl, show nI k + 1 = nI (k + 1) from nI_1 k]
    obtain ⟨S', r1, r2, r3, r4⟩ := clearA_loop hc j n (k + 1) (setI (setL (setL (setL S (c + 3) k 0) (c + 4) k 0) (c + 5) k 0) (c + 6) k 0) (by omega) (by omega) (by
      intro i hi
      rw [sI2, sI1]
      simp only [sL2, sL1]
      by_cases e : i = k
      · subst e
        simp
      · have := h i (by omega)
        simp [e, this])
    refine ⟨S', r1, r2, fun a h1 => ?_, fun a h1 h2 h3 => ?_⟩
    · rw [r3 a h1]
      funext i
      rw [sI1, if_neg (by omega)]
      rfl
    · rw [r4 a h1 h2 h3, sI2]
      funext i
      rw [sL2, if_neg (by omega), sL2, if_neg (by omega), sL2, if_neg (by omega)]
theorem clearA_e (hc : LC c) (S : St) : ∃ S', F_X4_clearArrears c S = some ((), S') ∧ (∀ i, i < 61 → S'.2 (c + 3) i = 0 ∧ S'.2 (c + 4) i = 0 ∧ S'.2 (c + 5) i = 0 ∧ S'.1 (c + 6) i = 0) ∧ off4 S S' c := by
  unfold F_X4_clearArrears
  exact clearA_loop hc 61 6000 0 S (by omega) (by omega) (fun _ h => absurd h (Nat.not_lt_zero _))
theorem off4.L {S S' : St} {c : Nat} (h : off4 S S' c) : offL S S' c := fun a ha => ⟨h.1 a (by omega), h.2 a (by omega) (by omega) (by omega)⟩
/-- all that is lost -/
def gone (l : Ln) : Nat := l.1 8 + ((List.range (l.1 7)).map (fun j => (l.2.2 (j + 1)).2.1)).sum
def wo (l : Ln) : Ln := (up l.1 8 0, up l.2.1 3 (l.2.1 3 + lN (gone l)), fun _ => (0, 0, 0, 0))
def psum (l : Ln) : Nat → Nat → Nat
  | _, 0 => 0
  | k, j + 1 => (l.2.2 k).2.1 + psum l (k + 1) j
theorem psum_le (hG : GD l) : ∀ j k, psum l k j ≤ 100000000 * j
  | 0, _ => Nat.le_refl _
  | j + 1, k => by
    have := psum_le hG j (k + 1)
    have := (hG.2.2.2.2.2.2.2.2.2.2.1 k).2.1
    unfold psum
    omega
theorem wo_gd (hG : GD l) (x : Int64) : GD (up l.1 8 0, up l.2.1 3 x, fun _ => (0, 0, 0, 0)) := by
  obtain ⟨g1, g2, g3, g4, g5, g6, g7, g8, g9, g10, g11, g12⟩ := hG
  exact ⟨g1, g2, g3, g4, g5, g6, g7, g8, Nat.zero_le _, g10, fun _ => ⟨Nat.zero_le _, Nat.zero_le _, Nat.zero_le _, Nat.zero_le _⟩, fun _ _ => rfl⟩
theorem giveUp_loop (hc : LC c) (hS : CL S c l) (hG : GD l) : ∀ (j n k x : Nat), j < n → k + j = l.1 7 + 1 → 1 ≤ k → ∃ S', L_X4_giveUp_7 n c (lN x) (nI k) S = some (lN (x + psum l k j), S') ∧ CL S' c (up l.1 8 0, up l.2.1 3 (l.2.1 3 + lN (x + psum l k j)), fun _ => (0, 0, 0, 0)) ∧ offL S S' c
  | _, 0, _, _, h, _, _ => absurd h (Nat.not_lt_zero _)
  | 0, n + 1, k, x, _, hk, _ => by
    have hm := hG.2.2.2.2.1
    have hdn := hG.2.2.2.2.2.2.2.1
    show ∃ S', B_X4_giveUp_7 _ _ _ _ _ = _ ∧ _
    unfold B_X4_giveUp_7
    rw [lI hc, hS.2.1.2.2.2.2.2]
    simp (disch := omega) only [nI_ltI, show l.1 7 < k by omega, if_true]
    rw [lpL hc, lgk hc]
    have hS1 := cl_bal hS 0
    have o1 := (offL.rf S c).L (j := 0) (by omega) 1 (lN 0)
    change CL (setL S c 1 0) c _ at hS1
    change offL S (setL S c 1 0) c at o1
    generalize setL S c 1 0 = S1 at hS1 o1 ⊢
    obtain ⟨S2, r1, r2, r3⟩ := clearA_e hc S1
    rw [r1, cl_some, lL hc]
    have hS2 : CL S2 c (up l.1 8 0, l.2.1, fun _ => (0, 0, 0, 0)) := by
      obtain ⟨⟨a0, a1, a2, a3, a4, a5, a6⟩, ⟨b0, b1, b2, b3, b4, b5⟩, e1, e2, e3⟩ := hS1
      have f0 := r3.1 c (by omega)
      have f0' := r3.2 c (by omega) (by omega) (by omega)
      have f1 := r3.1 (c + 1) (by omega)
      have f2 := r3.2 (c + 2) (by omega) (by omega) (by omega)
      unfold CL
      rw [f0, f0', f1, f2]
      exact ⟨⟨a0, a1, a2, a3, a4, a5, a6⟩, ⟨b0, b1, b2, b3, b4, b5⟩, e1, e2, fun k hk => r2 k hk⟩
    have g2 : S2.2 c 6 = l.2.1 3 := hS2.1.2.2.2.2.2.2
    rw [g2, lpL hc]
    have hS3 := cl_got hS2 3 (by omega) (l.2.1 3 + lN x)
    have o3 := (o1.tr r3.L).L (j := 0) (by omega) 6 (l.2.1 3 + lN x)
    exact ⟨_, rfl, hS3, o3⟩
  | j + 1, n + 1, k, x, hn, hk, hk1 => by
    have hm := hG.2.2.2.2.1
    have hdn := hG.2.2.2.2.2.2.2.1
    show ∃ S', B_X4_giveUp_7 _ _ _ _ _ = _ ∧ _
    unfold B_X4_giveUp_7
    rw [lI hc, hS.2.1.2.2.2.2.2]
    simp (disch := omega) only [nI_ltI, show ¬ l.1 7 < k by omega, if_false]
    rw [lr17 hc, laJ5 hc (by omega), (hS.2.2.2.2 k (by omega)).2.2.1, bd_e, lN_add, show nI k + 1 = nI (k + 1) from nI_1 k]
    obtain ⟨S', r1, r2, r3⟩ := giveUp_loop hc hS hG j n (k + 1) (x + (l.2.2 k).2.1) (by omega) (by omega) (by omega)
    rw [Nat.add_assoc] at r1 r2
    exact ⟨S', r1, r2, r3⟩
theorem giveUp_e (hc : LC c) (hS : CL S c l) (hG : GD l) : ∃ S', F_X4_giveUp c S = some (lN (l.1 8 + psum l 1 (l.1 7)), S') ∧ CL S' c (up l.1 8 0, up l.2.1 3 (l.2.1 3 + lN (l.1 8 + psum l 1 (l.1 7))), fun _ => (0, 0, 0, 0)) ∧ offL S S' c := by
  have hm := hG.2.2.2.2.1
  have hdn := hG.2.2.2.2.2.2.2.1
  unfold F_X4_giveUp
  rw [lL hc, hS.1.2.1]
  exact giveUp_loop hc hS hG (l.1 7) 6000 1 (l.1 8) (by omega) (by omega) (by omega)
end CLO
