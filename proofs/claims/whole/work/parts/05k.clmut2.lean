/-- late fees on the days from f1 to f2, of the periods below K -/
def chE (l : Ln) (f1 f2 g fee K : Nat) : Nat → Nat × Nat × Nat × Nat := fun k => if 1 ≤ k ∧ k < K ∧ 0 < ask l k ∧ (l.2.2 k).2.2.2 = 0 ∧ f1 ≤ pe (l.1 6) k + g ∧ pe (l.1 6) k + g ≤ f2 then ((l.2.2 k).1, (l.2.2 k).2.1, fee, 1) else l.2.2 k
def chg (f1 f2 g fee : Nat) (l : Ln) : Ln := (l.1, l.2.1, chE l f1 f2 g fee (l.1 7 + 1))
def tF (a : Nat) (b : Nat × Nat × Nat × Nat) : Nat := min a b.2.2.1
def tI (a : Nat) (b : Nat × Nat × Nat × Nat) : Nat := min (a - tF a b) b.1
def tP (a : Nat) (b : Nat × Nat × Nat × Nat) : Nat := min (a - tF a b - tI a b) b.2.1
/-- a payment a to the bill of period k -/
def pb (a k : Nat) (l : Ln) : Ln := (l.1, up (up (up l.2.1 0 (l.2.1 0 + lN (tF a (l.2.2 k)))) 1 (l.2.1 1 + lN (tI a (l.2.2 k)))) 2 (l.2.1 2 + lN (tP a (l.2.2 k))), up l.2.2 k ((l.2.2 k).1 - tI a (l.2.2 k), (l.2.2 k).2.1 - tP a (l.2.2 k), (l.2.2 k).2.2.1 - tF a (l.2.2 k), (l.2.2 k).2.2.2))
def pr (a k : Nat) (l : Ln) : Nat := a - tF a (l.2.2 k) - tI a (l.2.2 k) - tP a (l.2.2 k)
/-- to j bills from k on: what is left, and the loan -/
def rcv : Nat → Nat → Nat → Ln → Nat × Ln
  | 0, _, a, l => (a, l)
  | j + 1, k, a, l => if a = 0 then (a, l) else rcv j (k + 1) (pr a k l) (pb a k l)
/-- the rest goes to the balance -/
def pre0 (a : Nat) (l : Ln) : Ln := (up l.1 8 (l.1 8 - min a (l.1 8)), up l.2.1 2 (l.2.1 2 + lN (min a (l.1 8))), l.2.2)
def pre (a : Nat) (l : Ln) : Ln := if 0 < min a (l.1 8) ∧ l.1 5 = 1 then relv (pre0 a l) else pre0 a l
def paid (a : Nat) (l : Ln) : Ln := pre (rcv (l.1 7) 1 a l).1 (rcv (l.1 7) 1 a l).2
def givenBack (a : Nat) (l : Ln) : Nat := (rcv (l.1 7) 1 a l).1 - min (rcv (l.1 7) 1 a l).1 ((rcv (l.1 7) 1 a l).2.1 8)
section CLN
variable {S : St} {c : Nat} {l : Ln}
theorem chE_gd (hG : GD l) (f1 f2 g fee K : Nat) (hf : fee ≤ 10000) (hK : K ≤ l.1 7 + 1) : GD (l.1, l.2.1, chE l f1 f2 g fee K) := by
  obtain ⟨g1, g2, g3, g4, g5, g6, g7, g8, g9, g10, g11, g12⟩ := hG
  refine ⟨g1, g2, g3, g4, g5, g6, g7, g8, g9, g10, ?_, ?_⟩
  · intro k
    have := g11 k
    show (chE l f1 f2 g fee K k).1 ≤ _ ∧ (chE l f1 f2 g fee K k).2.1 ≤ _ ∧ (chE l f1 f2 g fee K k).2.2.1 ≤ _ ∧ (chE l f1 f2 g fee K k).2.2.2 ≤ _
    unfold chE
    split
    · exact ⟨this.1, this.2.1, hf, Nat.le_refl 1⟩
    · exact this
  · intro k hk
    show chE l f1 f2 g fee K k = _
    unfold chE
    have hk' : k = 0 ∨ l.1 7 < k := hk
    rw [if_neg (by omega)]
    exact g12 k hk
theorem chE_at (l : Ln) (f1 f2 g fee k : Nat) : chE l f1 f2 g fee k k = l.2.2 k := by
  unfold chE
  rw [if_neg (by omega)]
theorem chE_succ (l : Ln) (f1 f2 g fee k : Nat) (hk : 1 ≤ k) : chE l f1 f2 g fee (k + 1) = up (chE l f1 f2 g fee k) k (if 0 < ask l k ∧ (l.2.2 k).2.2.2 = 0 ∧ f1 ≤ pe (l.1 6) k + g ∧ pe (l.1 6) k + g ≤ f2 then ((l.2.2 k).1, (l.2.2 k).2.1, fee, 1) else l.2.2 k) := by
  funext j
  by_cases hj : j = k
  · subst hj
    rw [up_s]
    unfold chE
    by_cases h : 0 < ask l j ∧ (l.2.2 j).2.2.2 = 0 ∧ f1 ≤ pe (l.1 6) j + g ∧ pe (l.1 6) j + g ≤ f2
    · rw [if_pos h, if_pos ⟨hk, by omega, h⟩]
    · rw [if_neg h, if_neg (fun z => h z.2.2)]
  · rw [up_n _ _ hj]
    unfold chE
    by_cases h : 1 ≤ j ∧ j < k ∧ 0 < ask l j ∧ (l.2.2 j).2.2.2 = 0 ∧ f1 ≤ pe (l.1 6) j + g ∧ pe (l.1 6) j + g ≤ f2
    · rw [if_pos h, if_pos ⟨h.1, by omega, h.2.2⟩]
    · rw [if_neg h, if_neg (fun z => h ⟨z.1, by omega, z.2.2⟩)]
theorem up_up {α : Type} (f : Nat → α) (k : Nat) (v w : α) : up (up f k v) k w = up f k w := by
  funext j
  unfold up
  split <;> rfl
theorem chargeLate_loop (hc : LC c) (hG : GD l) {f1 f2 g fee : Nat} (hf1 : f1 ≤ 50000) (hf2 : f2 ≤ 50000) (hg : g ≤ 90) (hfee : fee ≤ 10000) : ∀ (j n k : Nat) (S : St), j < n → k + j = l.1 7 + 1 → 1 ≤ k → CL S c (l.1, l.2.1, chE l f1 f2 g fee k) → ∃ S', L_X4_chargeLate_3 n c (nI f1) (nI f2) (nI g) (nI fee) (nI k) S = some ((), S') ∧ CL S' c (chg f1 f2 g fee l) ∧ offL S S' c
  | _, 0, _, _, h, _, _, _ => absurd h (Nat.not_lt_zero _)
  | 0, n + 1, k, S, _, hk, _, hS => by
    have hm := hG.2.2.2.2.1
    have hdn := hG.2.2.2.2.2.2.2.1
    have e : k = l.1 7 + 1 := by omega
    subst e
    refine ⟨S, ?_, hS, offL.rf S c⟩
    show B_X4_chargeLate_3 _ _ _ _ _ _ _ _ = _
    unfold B_X4_chargeLate_3
    rw [lI hc, show S.1 c 12 = nI (l.1 7) from hS.2.1.2.2.2.2.2]
    simp (disch := omega) only [nI_ltI, show l.1 7 < l.1 7 + 1 by omega, if_true]
  | j + 1, n + 1, k, S, hn, hk, hk1, hS => by
    have hm := hG.2.2.2.2.1
    have hdn := hG.2.2.2.2.2.2.2.1
    have ha := ask_le hG k
    have h36 : pe (l.1 6) k ≤ 36524 := pe_le (by have := hG.2.2.2.2.2.2.1; omega)
    have hmk := (hG.2.2.2.2.2.2.2.2.2.2.1 k).2.2.2
    have ih := chargeLate_loop hc hG hf1 hf2 hg hfee j n (k + 1)
    have hask : ask (l.1, l.2.1, chE l f1 f2 g fee k) k = ask l k := by unfold ask; dsimp only; rw [chE_at]
    have hen : S.1 (c + 1) k = nI (pe (l.1 6) k) := hS.2.2.1 k (show k ≤ l.1 4 by omega)
    have hfl : S.1 (c + 6) k = nI (l.2.2 k).2.2.2 := by
      have := (hS.2.2.2.2 k (by omega)).2.2.2
      dsimp only at this
      rw [chE_at] at this
      exact this
    have hsame : (¬ (0 < ask l k ∧ (l.2.2 k).2.2.2 = 0 ∧ f1 ≤ pe (l.1 6) k + g ∧ pe (l.1 6) k + g ≤ f2)) → CL S c (l.1, l.2.1, chE l f1 f2 g fee (k + 1)) := by
      intro hno
      rw [chE_succ l f1 f2 g fee k hk1, if_neg hno]
      have e : up (chE l f1 f2 g fee k) k (l.2.2 k) = chE l f1 f2 g fee k := by
        have := up_id (chE l f1 f2 g fee k) k
        rw [chE_at] at this
        exact this
      rw [e]
      exact hS
    show ∃ S', B_X4_chargeLate_3 _ _ _ _ _ _ _ _ = _ ∧ _
    unfold B_X4_chargeLate_3 J_X4_chargeLate_74
    rw [lI hc, show S.1 c 12 = nI (l.1 7) from hS.2.1.2.2.2.2.2]
    simp (disch := omega) only [nI_ltI, show ¬ l.1 7 < k by omega, if_false]
    rw [lr13 hc, laI1 hc (by omega), hen, bd_e, lgk hc, asks_e hc hS (by omega), hask, cl_some, show nI k + 1 = nI (k + 1) from nI_1 k, lr18 hc, laZ6 hc (by omega), hfl]
    simp (disch := omega) only [fa_litL, lN_le63, nI_add, nI_ltI]
    by_cases q1 : ask l k ≤ 0
    · rw [if_pos q1]
      obtain ⟨S', r1, r2, r3⟩ := ih S (by omega) (by omega) (by omega) (hsame (by omega))
      exact ⟨S', r1, r2, r3⟩
    · rw [if_neg q1]
      by_cases q2 : (l.2.2 k).2.2.2 = 0
      · rw [q2, if_neg (fun z => z rfl)]
        by_cases q3 : pe (l.1 6) k + g < f1
        · rw [if_pos q3]
          obtain ⟨S', r1, r2, r3⟩ := ih S (by omega) (by omega) (by omega) (hsame (by omega))
          exact ⟨S', r1, r2, r3⟩
        · rw [if_neg q3]
          by_cases q4 : f2 < pe (l.1 6) k + g
          · rw [if_pos q4]
            obtain ⟨S', r1, r2, r3⟩ := ih S (by omega) (by omega) (by omega) (hsame (by omega))
            exact ⟨S', r1, r2, r3⟩
          · rw [if_neg q4, lr15 hc, wide_nI (by omega), lsJ3 hc (by omega), lr18 hc, lsZ6 hc (by omega), show vp_nar .boolean 1 = nI 1 from rfl]
            have hS2 := cl_mark (cl_fee hS k fee) k 1
            have e2 : ((l.1, l.2.1, up (up (chE l f1 f2 g fee k) k ((chE l f1 f2 g fee k k).1, (chE l f1 f2 g fee k k).2.1, fee, (chE l f1 f2 g fee k k).2.2.2)) k ((up (chE l f1 f2 g fee k) k ((chE l f1 f2 g fee k k).1, (chE l f1 f2 g fee k k).2.1, fee, (chE l f1 f2 g fee k k).2.2.2) k).1, (up (chE l f1 f2 g fee k) k ((chE l f1 f2 g fee k k).1, (chE l f1 f2 g fee k k).2.1, fee, (chE l f1 f2 g fee k k).2.2.2) k).2.1, (up (chE l f1 f2 g fee k) k ((chE l f1 f2 g fee k k).1, (chE l f1 f2 g fee k k).2.1, fee, (chE l f1 f2 g fee k k).2.2.2) k).2.2.1, 1)) : Ln) = (l.1, l.2.1, chE l f1 f2 g fee (k + 1)) := by
              rw [chE_succ l f1 f2 g fee k hk1, if_pos ⟨by omega, q2, by omega, by omega⟩, up_up, up_s, chE_at]
            have hS3 : CL (setI (setL S (c + 3) k (lN fee)) (c + 6) k (nI 1)) c (l.1, l.2.1, chE l f1 f2 g fee (k + 1)) := by
              rw [← e2]
              exact hS2
            have o := ((offL.rf S c).L (j := 3) (by omega) k (lN fee)).I (j := 6) (by omega) k (nI 1)
            obtain ⟨S', r1, r2, r3⟩ := ih _ (by omega) (by omega) (by omega) hS3
            exact ⟨S', r1, r2, o.tr r3⟩
      · rw [if_pos (nI_ne0 (by omega) (by omega))]
        obtain ⟨S', r1, r2, r3⟩ := ih S (by omega) (by omega) (by omega) (hsame (by omega))
        exact ⟨S', r1, r2, r3⟩
theorem chE_1 (l : Ln) (f1 f2 g fee : Nat) : chE l f1 f2 g fee 1 = l.2.2 := by
  funext k
  unfold chE
  rw [if_neg (by omega)]
theorem chargeLate_e (hc : LC c) (hS : CL S c l) (hG : GD l) {f1 f2 g fee : Nat} (hf1 : f1 ≤ 50000) (hf2 : f2 ≤ 50000) (hg : g ≤ 90) (hfee : fee ≤ 10000) : ∃ S', F_X4_chargeLate c (nI f1) (nI f2) (nI g) (nI fee) S = some ((), S') ∧ CL S' c (chg f1 f2 g fee l) ∧ offL S S' c := by
  have hm := hG.2.2.2.2.1
  have hdn := hG.2.2.2.2.2.2.2.1
  unfold F_X4_chargeLate
  exact chargeLate_loop hc hG hf1 hf2 hg hfee (l.1 7) 6000 1 S (by omega) (by omega) (by omega) (by rw [chE_1]; exact hS)
theorem chg_gd (hG : GD l) {f1 f2 g fee : Nat} (hfee : fee ≤ 10000) : GD (chg f1 f2 g fee l) := chE_gd hG f1 f2 g fee _ hfee (Nat.le_refl _)
theorem t_le (a : Nat) (b : Nat × Nat × Nat × Nat) : tF a b ≤ a ∧ tF a b ≤ b.2.2.1 ∧ tI a b ≤ a - tF a b ∧ tI a b ≤ b.1 ∧ tP a b ≤ a - tF a b - tI a b ∧ tP a b ≤ b.2.1 := by
  unfold tP tI tF
  omega
theorem payBill_e (hc : LC c) (hS : CL S c l) (hG : GD l) {a k : Nat} (ha : a ≤ 1000000000) (hk : k < 61) : ∃ S', F_X4_payBill c (nI k) (lN a) S = some (lN (pr a k l), S') ∧ CL S' c (pb a k l) ∧ offL S S' c := by
  have hb := hG.2.2.2.2.2.2.2.2.2.2.1 k
  have ht := t_le a (l.2.2 k)
  obtain ⟨q1, q2, q3, q4⟩ := hS.2.2.2.2 k hk
  have m1 : F_J9_min_f86c9 (lN a) (lN (l.2.2 k).2.2.1) S = some (lN (tF a (l.2.2 k)), S) := minL_e (by omega) (by omega) S
  have m2 : F_J9_min_f86c9 (lN (a - tF a (l.2.2 k))) (lN (l.2.2 k).1) S = some (lN (tI a (l.2.2 k)), S) := minL_e (by omega) (by omega) S
  have m3 : F_J9_min_f86c9 (lN (a - tF a (l.2.2 k) - tI a (l.2.2 k))) (lN (l.2.2 k).2.1) S = some (lN (tP a (l.2.2 k)), S) := minL_e (by omega) (by omega) S
  unfold F_X4_payBill
  rw [lr15 hc, laJ3 hc hk, q1, m1, cl_some, lr16 hc, laJ4 hc hk, q2, lN_sub ht.1, m2, cl_some, lr17 hc, laJ5 hc hk, q3, lN_sub ht.2.2.1, m3, cl_some, lr15 hc, laJ3 hc hk, q1, lN_sub ht.2.1, lsJ3 hc hk]
  have hS1 := cl_fee hS k ((l.2.2 k).2.2.1 - tF a (l.2.2 k))
  have o1 := (offL.rf S c).L (j := 3) (by omega) k (lN ((l.2.2 k).2.2.1 - tF a (l.2.2 k)))
  generalize setL S (c + 3) k (lN ((l.2.2 k).2.2.1 - tF a (l.2.2 k))) = S1 at hS1 o1 ⊢
  have i1 : S1.2 (c + 4) k = lN (l.2.2 k).1 := by
    have := (hS1.2.2.2.2 k hk).2.1
    dsimp only at this
    rw [up_s] at this
    exact this
  rw [lr16 hc, laJ4 hc hk, i1, lN_sub ht.2.2.2.1, lsJ4 hc hk]
  have hS2 := cl_int hS1 k ((l.2.2 k).1 - tI a (l.2.2 k))
  have o2 := o1.L (j := 4) (by omega) k (lN ((l.2.2 k).1 - tI a (l.2.2 k)))
  generalize setL S1 (c + 4) k (lN ((l.2.2 k).1 - tI a (l.2.2 k))) = S2 at hS2 o2 ⊢
  have p2 : S2.2 (c + 5) k = lN (l.2.2 k).2.1 := by
    have := (hS2.2.2.2.2 k hk).2.2.1
    dsimp only at this
    rw [up_s, up_s] at this
    exact this
  rw [lr17 hc, laJ5 hc hk, p2, lN_sub ht.2.2.2.2.2, lsJ5 hc hk]
  have hS3 := cl_prin hS2 k ((l.2.2 k).2.1 - tP a (l.2.2 k))
  have o3 := o2.L (j := 5) (by omega) k (lN ((l.2.2 k).2.1 - tP a (l.2.2 k)))
  generalize setL S2 (c + 5) k (lN ((l.2.2 k).2.1 - tP a (l.2.2 k))) = S3 at hS3 o3 ⊢
  have g3 : S3.2 c 3 = l.2.1 0 := hS3.1.2.2.2.1
  rw [lL hc, g3, lpL hc]
  have hS4 := cl_got hS3 0 (by omega) (l.2.1 0 + lN (tF a (l.2.2 k)))
  have o4 := o3.L (j := 0) (by omega) 3 (l.2.1 0 + lN (tF a (l.2.2 k)))
  change CL (setL S3 c 3 (l.2.1 0 + lN (tF a (l.2.2 k)))) c _ at hS4
  change offL S (setL S3 c 3 (l.2.1 0 + lN (tF a (l.2.2 k)))) c at o4
  generalize setL S3 c 3 (l.2.1 0 + lN (tF a (l.2.2 k))) = S4 at hS4 o4 ⊢
  have g4 : S4.2 c 4 = l.2.1 1 := hS4.1.2.2.2.2.1
  rw [lL hc, g4, lpL hc]
  have hS5 := cl_got hS4 1 (by omega) (l.2.1 1 + lN (tI a (l.2.2 k)))
  have o5 := o4.L (j := 0) (by omega) 4 (l.2.1 1 + lN (tI a (l.2.2 k)))
  change CL (setL S4 c 4 (l.2.1 1 + lN (tI a (l.2.2 k)))) c _ at hS5
  change offL S (setL S4 c 4 (l.2.1 1 + lN (tI a (l.2.2 k)))) c at o5
  generalize setL S4 c 4 (l.2.1 1 + lN (tI a (l.2.2 k))) = S5 at hS5 o5 ⊢
  have g5 : S5.2 c 5 = l.2.1 2 := hS5.1.2.2.2.2.2.1
  rw [lL hc, g5, lpL hc]
  have hS6 := cl_got hS5 2 (by omega) (l.2.1 2 + lN (tP a (l.2.2 k)))
  have o6 := o5.L (j := 0) (by omega) 5 (l.2.1 2 + lN (tP a (l.2.2 k)))
  change CL (setL S5 c 5 (l.2.1 2 + lN (tP a (l.2.2 k)))) c _ at hS6
  change offL S (setL S5 c 5 (l.2.1 2 + lN (tP a (l.2.2 k)))) c at o6
  refine ⟨_, by rw [lN_sub ht.2.2.2.2.1]; rfl, ?_, o6⟩
  have e : (up (up (up l.2.2 k ((l.2.2 k).1, (l.2.2 k).2.1, (l.2.2 k).2.2.1 - tF a (l.2.2 k), (l.2.2 k).2.2.2)) k ((l.2.2 k).1 - tI a (l.2.2 k), ((l.2.2 k).2.1, (l.2.2 k).2.2.1 - tF a (l.2.2 k), (l.2.2 k).2.2.2))) k ((l.2.2 k).1 - tI a (l.2.2 k), (l.2.2 k).2.1 - tP a (l.2.2 k), ((l.2.2 k).2.2.1 - tF a (l.2.2 k), (l.2.2 k).2.2.2))) = up l.2.2 k ((l.2.2 k).1 - tI a (l.2.2 k), (l.2.2 k).2.1 - tP a (l.2.2 k), (l.2.2 k).2.2.1 - tF a (l.2.2 k), (l.2.2 k).2.2.2) := by
    rw [up_up, up_up]
  unfold pb
  rw [← e]
  simp only [up_s] at hS6
  exact hS6
theorem pb_gd (hG : GD l) {a k : Nat} (hk : 1 ≤ k) (hk2 : k ≤ l.1 7) : GD (pb a k l) := by
  obtain ⟨g1, g2, g3, g4, g5, g6, g7, g8, g9, g10, g11, g12⟩ := hG
  refine ⟨g1, g2, g3, g4, g5, g6, g7, g8, g9, g10, ?_, ?_⟩
  · intro j
    unfold pb
    dsimp only
    by_cases hj : j = k
    · subst hj
      rw [up_s]
      have := g11 j
      exact ⟨by dsimp only; omega, by dsimp only; omega, by dsimp only; omega, this.2.2.2⟩
    · rw [up_n _ _ hj]
      exact g11 j
  · intro j hj
    have hj' : j = 0 ∨ l.1 7 < j := hj
    show up l.2.2 k _ j = _
    rw [up_n _ _ (by omega)]
    exact g12 j hj
end CLN
