/-! the reference: days -/
/-- a change of g alone -/
def offH (S S' : St) : Prop := S'.1 = S.1 ∧ ∀ a, a ≠ 203 → S'.2 a = S.2 a
theorem offH.rf (S : St) : offH S S := ⟨rfl, fun _ _ => rfl⟩
theorem offH.tr {S S' S'' : St} (h : offH S S') (h2 : offH S' S'') : offH S S'' := ⟨h2.1.trans h.1, fun a ha => (h2.2 a ha).trans (h.2 a ha)⟩
theorem offG.H {S S' : St} {i : Nat} (h : offG S S' i) : offH S S' := ⟨h.1, h.2.1⟩
theorem offH.L {S S' : St} (h : offH S S') (j : Nat) (v : Int64) : offH S (setL S' 203 j v) := ⟨h.1, fun a ha => by rw [setL_n ha]; exact h.2 a ha⟩
theorem CB.H {S S' : St} {b : Nat} {B : Bk} (h : CB S b B) (hb : LB b) (h8 : B.2.2.2.1 ≤ 8) (ho : offH S S') : CB S' b B := by
  have hb2 : b + 57 < 203 := by rcases hb with h | h | h <;> omega
  obtain ⟨q0, q1, q2, q3, q4⟩ := h
  exact ⟨by rw [ho.1]; exact q0, by rw [ho.1]; exact q1, by rw [ho.1]; exact q2, by rw [ho.1]; exact q3, fun i hi => (q4 i hi).same (fun j hj => ⟨by rw [ho.1], ho.2 _ (by omega)⟩)⟩
theorem RB.same {S S' : St} {G : Nat} {B : Bk} (h : RB S G B) (hG : S'.2 G = S.2 G) : RB S' G B := by
  unfold RB RLn at *
  rw [hG]
  exact h
theorem RB.cg {S : St} {G : Nat} {B B' : Bk} (h : RB S G B) (h1 : B'.1 = B.1) (h2 : B'.2.1 = B.2.1) (h3 : B'.2.2.1 = B.2.2.1) (h4 : B'.2.2.2.1 = B.2.2.2.1) (h5 : ∀ q, q < B.2.2.2.1 → B'.2.2.2.2 q = B.2.2.2.2 q) : RB S G B' := by
  obtain ⟨q0, q1, q2, q3, q4⟩ := h
  refine ⟨by rw [h4]; exact q0, by rw [h1]; exact q1, by rw [h2]; exact q2, by rw [h3]; exact q3, fun i hi => ?_⟩
  rw [h4] at hi
  rw [h5 i hi]
  exact q4 i hi
theorem RB.set {S S' : St} {B : Bk} {i : Nat} {l' : Ln} (h : RB S 203 B) (hi : i < B.2.2.2.1) (h8 : B.2.2.2.1 ≤ 8) (hG : ∀ q, q < B.2.2.2.1 → GD (B.2.2.2.2 q)) (ho : offG S S' i) (hl : RLn S' 203 i l'.1 l'.2.1 (bls l')) : RB S' 203 (B.1, B.2.1, B.2.2.1, B.2.2.2.1, up B.2.2.2.2 i l') := by
  obtain ⟨q0, q1, q2, q3, q4⟩ := h
  refine ⟨by rw [ho.2.2 _ (by omega)]; exact q0, by rw [ho.2.2 _ (by omega)]; exact q1, by rw [ho.2.2 _ (by omega)]; exact q2, by rw [ho.2.2 _ (by omega)]; exact q3, fun j hj => ?_⟩
  have hj' : j < B.2.2.2.1 := hj
  show RLn S' 203 j (up B.2.2.2.2 i l' j).1 (up B.2.2.2.2 i l' j).2.1 (bls (up B.2.2.2.2 i l' j))
  by_cases e : j = i
  · subst e
    rw [up_s]
    exact hl
  · rw [up_n _ _ e]
    exact (q4 j hj').off (bls_len (hG j hj')).2 (fun x h1 h2 => ho.2.2 x (by omega))
theorem sumN_mono (f : Nat → Nat) (a : Nat) : ∀ j, sumN f a ≤ sumN f (a + j)
  | 0 => Nat.le_refl _
  | j + 1 => Nat.le_trans (sumN_mono f a j) (by show sumN f (a + j) ≤ sumN f (a + j) + f (a + j); omega)
section RFD
variable {B : Bk} {D : Nat}
theorem fees_e {S : St} {i g fee : Nat} {l : Ln} (hi : i < 8) (hG : GD l) (hN : NF l) (hD : D ≤ 40000) (hg : g ≤ 90) (hS : RLn S 203 i l.1 l.2.1 (bls l)) (h1 : S.2 203 2521 = lN D) (h2 : S.2 203 2522 = lN g) (h3 : S.2 203 2523 = lN fee) : ∃ S', F_X8_fees 202 (nI i) S = some ((), S') ∧ RLn S' 203 i (chg D D g fee l).1 (chg D D g fee l).2.1 (bls (chg D D g fee l)) ∧ offG S S' i := by
  have hl := bls_len hG
  obtain ⟨S', r1, r2, r3⟩ := fees_loop hi hD hg l.1 l.2.1 (bls l).length 6000 0 S (bls l) (by omega) (by omega) hl.2 (bls_bd hG) hS h1 h2 h3
  refine ⟨S', r1, ?_, r3⟩
  rw [bls_chg hN]
  exact r2
theorem fees_all (h8 : B.2.2.2.1 ≤ 8) (hD : D ≤ 40000) (hg : B.2.1 ≤ 90) (hfe : B.2.2.1 ≤ 10000) (hG : ∀ q, q < B.2.2.2.1 → GD (B.2.2.2.2 q) ∧ NF (B.2.2.2.2 q)) (rec39 : Nat → Int32 → Int32 → Int32 → St → Option (Int32 × St)) (a1 x2 x3 : Int32) : ∀ (j f x : Nat) (S : St), j < f → x + j = B.2.2.2.1 → RB S 203 (D, B.2.1, B.2.2.1, B.2.2.2.1, fun q => if q < x then chg D D B.2.1 B.2.2.1 (B.2.2.2.2 q) else B.2.2.2.2 q) → ∃ S', L_X8_days_148 rec39 f 202 a1 x2 x3 (nI x) S = rec39 202 a1 x2 (x3 + 1) S' ∧ RB S' 203 (D, B.2.1, B.2.2.1, B.2.2.2.1, fun q => if q < B.2.2.2.1 then chg D D B.2.1 B.2.2.1 (B.2.2.2.2 q) else B.2.2.2.2 q) ∧ offH S S'
  | _, 0, _, _, h, _, _ => absurd h (Nat.not_lt_zero _)
  | 0, f + 1, x, S, _, hx, hS => by
    have e : x = B.2.2.2.1 := by omega
    subst e
    refine ⟨S, ?_, hS, offH.rf S⟩
    show B_X8_days_148 _ _ _ _ _ _ _ _ = _
    unfold B_X8_days_148
    rw [mR0, fa_lit 2520, g_at _ (by omega), hS.1, wide_nI (by omega), if_pos (Int64.le_refl _)]
  | j + 1, f + 1, x, S, hf, hx, hS => by
    have hx8 : x < 8 := by omega
    have gd := hG x (by omega)
    show ∃ S', B_X8_days_148 _ _ _ _ _ _ _ _ = _ ∧ _
    unfold B_X8_days_148
    have hl : RLn S 203 x (B.2.2.2.2 x).1 (B.2.2.2.2 x).2.1 (bls (B.2.2.2.2 x)) := by
      have := hS.2.2.2.2 x (show x < B.2.2.2.1 by omega)
      dsimp only at this
      rw [if_neg (Nat.lt_irrefl x)] at this
      exact this
    obtain ⟨S1, r1, r2, r3⟩ := fees_e hx8 gd.1 gd.2 hD hg hl hS.2.1 hS.2.2.1 hS.2.2.2.1
    rw [mR0, fa_lit 2520, g_at _ (by omega), hS.1, wide_nI (by omega), if_neg (by rw [lN_le63 (by show B.2.2.2.1 < _; omega) (by omega)]; show ¬ B.2.2.2.1 ≤ x; omega), mgk, r1, cl_some, show nI x + 1 = nI (x + 1) from nI_1 x]
    have hS1 := RB.set hS (show x < B.2.2.2.1 by omega) h8 (fun q hq => by
      dsimp only
      split
      · exact chg_gd (hG q hq).1 hfe
      · exact (hG q hq).1) r3 r2
    obtain ⟨S', u1, u2, u3⟩ := fees_all h8 hD hg hfe hG rec39 a1 x2 x3 j f (x + 1) S1 (by omega) (by omega) (hS1.cg rfl rfl rfl rfl (fun q hq => by
      show (if q < x + 1 then _ else _) = up _ _ _ _
      by_cases e : q = x
      · subst e
        rw [up_s, if_pos (by omega)]
      · rw [up_n _ _ e]
        by_cases e2 : q < x
        · rw [if_pos (by omega)]
          exact (if_pos e2).symm
        · rw [if_neg (by omega)]
          exact (if_neg e2).symm))
    exact ⟨S', u1, u2, r3.H.tr u3⟩
theorem ends_all (h8 : B.2.2.2.1 ≤ 8) (hD : D ≤ 36524) (hG : ∀ q, q < B.2.2.2.1 → GD (B.2.2.2.2 q)) (rec39 : Nat → Int32 → Int32 → Int32 → St → Option (Int32 × St)) (a1 x3 : Int32) : ∀ (j f x cnt : Nat) (S : St), j < f → x + j = B.2.2.2.1 → RB S 203 (D, B.2.1, B.2.2.1, B.2.2.2.1, fun q => if q < x then dst D (B.2.2.2.2 q) else B.2.2.2.2 q) → ∃ S', L_X8_days_59 rec39 f 202 a1 (nI cnt) x3 (nI x) S = L_X8_days_148 rec39 6000 202 a1 (nI (cnt + (sumN (fun q => dsc D (B.2.2.2.2 q)) (x + j) - sumN (fun q => dsc D (B.2.2.2.2 q)) x))) x3 0 S' ∧ RB S' 203 (D, B.2.1, B.2.2.1, B.2.2.2.1, fun q => if q < B.2.2.2.1 then dst D (B.2.2.2.2 q) else B.2.2.2.2 q) ∧ offH S S'
  | _, 0, _, _, _, h, _, _ => absurd h (Nat.not_lt_zero _)
  | 0, f + 1, x, cnt, S, _, hx, hS => by
    have e : x = B.2.2.2.1 := by omega
    subst e
    refine ⟨S, ?_, hS, offH.rf S⟩
    show B_X8_days_59 _ _ _ _ _ _ _ _ = _
    unfold B_X8_days_59
    rw [mR0, fa_lit 2520, g_at _ (by omega), hS.1, wide_nI (by omega), if_pos (Int64.le_refl _), Nat.add_zero, Nat.sub_self, Nat.add_zero]
  | j + 1, f + 1, x, cnt, S, hf, hx, hS => by
    have hx8 : x < 8 := by omega
    have gd := hG x (by omega)
    have hm := gd.2.2.2.2.1
    have hdn := gd.2.2.2.2.2.2.2.1
    have hsm := sumN_mono (fun q => dsc D (B.2.2.2.2 q)) (x + 1) j
    have hsx : sumN (fun q => dsc D (B.2.2.2.2 q)) (x + 1) = sumN (fun q => dsc D (B.2.2.2.2 q)) x + dsc D (B.2.2.2.2 x) := rfl
    have hcnt : cnt + (sumN (fun q => dsc D (B.2.2.2.2 q)) (x + (j + 1)) - sumN (fun q => dsc D (B.2.2.2.2 q)) x) = cnt + dsc D (B.2.2.2.2 x) + (sumN (fun q => dsc D (B.2.2.2.2 q)) (x + 1 + j) - sumN (fun q => dsc D (B.2.2.2.2 q)) (x + 1)) := by
      rw [show x + (j + 1) = x + 1 + j by omega]
      omega
    rw [hcnt]
    have hl : RLn S 203 x (B.2.2.2.2 x).1 (B.2.2.2.2 x).2.1 (bls (B.2.2.2.2 x)) := by
      have := hS.2.2.2.2 x (show x < B.2.2.2.1 by omega)
      dsimp only at this
      rw [if_neg (Nat.lt_irrefl x)] at this
      exact this
    have go : ∀ S1, RLn S1 203 x (dst D (B.2.2.2.2 x)).1 (dst D (B.2.2.2.2 x)).2.1 (bls (dst D (B.2.2.2.2 x))) → offG S S1 x → ∃ S', L_X8_days_59 rec39 f 202 a1 (nI (cnt + dsc D (B.2.2.2.2 x))) x3 (nI (x + 1)) S1 = L_X8_days_148 rec39 6000 202 a1 (nI (cnt + dsc D (B.2.2.2.2 x) + (sumN (fun q => dsc D (B.2.2.2.2 q)) (x + 1 + j) - sumN (fun q => dsc D (B.2.2.2.2 q)) (x + 1)))) x3 0 S' ∧ RB S' 203 (D, B.2.1, B.2.2.1, B.2.2.2.1, fun q => if q < B.2.2.2.1 then dst D (B.2.2.2.2 q) else B.2.2.2.2 q) ∧ offH S S' := by
      intro S1 r2 r3
      have hS1 := RB.set hS (show x < B.2.2.2.1 by omega) h8 (fun q hq => by
        dsimp only
        split
        · exact dst_gd (hG q hq)
        · exact hG q hq) r3 r2
      obtain ⟨S', u1, u2, u3⟩ := ends_all h8 hD hG rec39 a1 x3 j f (x + 1) (cnt + dsc D (B.2.2.2.2 x)) S1 (by omega) (by omega) (hS1.cg rfl rfl rfl rfl (fun q hq => by
        show (if q < x + 1 then _ else _) = up _ _ _ _
        by_cases e : q = x
        · subst e
          rw [up_s, if_pos (by omega)]
        · rw [up_n _ _ e]
          by_cases e2 : q < x
          · rw [if_pos (by omega)]
            exact (if_pos e2).symm
          · rw [if_neg (by omega)]
            exact (if_neg e2).symm))
      exact ⟨S', u1, u2, r3.H.tr u3⟩
    show ∃ S', B_X8_days_59 _ _ _ _ _ _ _ _ = _ ∧ _
    unfold B_X8_days_59 J_X8_days_137 J_X8_days_139
    rw [mR0, fa_lit 2520, g_at _ (by omega), hS.1, wide_nI (by omega), if_neg (by rw [lN_le63 (by show B.2.2.2.1 < _; omega) (by omega)]; show ¬ B.2.2.2.1 ≤ x; omega), mgk, show (7 : Int32) = nI 7 from rfl, at_e hx8 (by omega), cl_some, hl.1 7 (by omega), lN_i32, bd_e, mgk, show (4 : Int32) = nI 4 from rfl, at_e hx8 (by omega), cl_some, hl.1 4 (by omega), wide_nI (by omega), show nI x + 1 = nI (x + 1) from nI_1 x]
    by_cases h1 : (B.2.2.2.2 x).1 4 ≤ (B.2.2.2.2 x).1 7
    · have ed : dst D (B.2.2.2.2 x) = B.2.2.2.2 x := by
        unfold dst
        rw [if_neg (fun z => by omega)]
      have ec : dsc D (B.2.2.2.2 x) = 0 := by
        rw [dsc_e gd, if_neg (fun z => by omega)]
      rw [if_pos (by rw [lN_le63 (by omega) (by omega)]; exact h1)]
      have g1 := go S (by rw [ed]; exact hl) (offG.rf S x)
      rw [ec] at g1 ⊢
      exact g1
    · have hpe : pe ((B.2.2.2.2 x).1 6) ((B.2.2.2.2 x).1 7 + 1) ≤ 36524 := pe_le (by have := gd.2.2.2.2.2.2.1; omega)
      rw [if_neg (by rw [lN_le63 (by omega) (by omega)]; exact h1), mgk, show nI ((B.2.2.2.2 x).1 7) + 1 = nI ((B.2.2.2.2 x).1 7 + 1) from nI_1 _, endOf_e hx8 hl.rn gd.gs (by omega), cl_some, mR0, fa_lit 2521, g_at _ (by omega), hS.2.1, wide_nI (by omega)]
      by_cases h2 : pe ((B.2.2.2.2 x).1 6) ((B.2.2.2.2 x).1 7 + 1) = D
      · have ed : dst D (B.2.2.2.2 x) = ep1 (B.2.2.2.2 x) := by
          unfold dst
          rw [if_pos ⟨by omega, h2⟩]
        have ec : dsc D (B.2.2.2.2 x) = if ik (B.2.2.2.2 x) ((B.2.2.2.2 x).1 7 + 1) ((B.2.2.2.2 x).1 8) + pk (B.2.2.2.2 x) ((B.2.2.2.2 x).1 7 + 1) ((B.2.2.2.2 x).1 8) (ik (B.2.2.2.2 x) ((B.2.2.2.2 x).1 7 + 1) ((B.2.2.2.2 x).1 8)) = 0 then 0 else 1 := by
          rw [dsc_e gd, if_pos ⟨by omega, h2⟩]
        rw [if_neg (show ¬ ¬ lN (pe ((B.2.2.2.2 x).1 6) ((B.2.2.2.2 x).1 7 + 1)) = lN D from fun z => z (by rw [h2]))]
        obtain ⟨S1, r1, r2, r3⟩ := ends_e hx8 hl gd (by omega) (bls_len gd).1 hS.2.1
        rw [mgk, r1, cl_some, bd_e, bd_e]
        have eb := bls_ep1 gd
        rw [h2] at eb
        have r2' : RLn S1 203 x (dst D (B.2.2.2.2 x)).1 (dst D (B.2.2.2.2 x)).2.1 (bls (dst D (B.2.2.2.2 x))) := by
          rw [ed, eb]
          exact r2
        have g1 := go S1 r2' r3
        by_cases h3 : ik (B.2.2.2.2 x) ((B.2.2.2.2 x).1 7 + 1) ((B.2.2.2.2 x).1 8) + pk (B.2.2.2.2 x) ((B.2.2.2.2 x).1 7 + 1) ((B.2.2.2.2 x).1 8) (ik (B.2.2.2.2 x) ((B.2.2.2.2 x).1 7 + 1) ((B.2.2.2.2 x).1 8)) = 0
        · rw [if_pos h3] at ec
          rw [if_pos h3, if_pos rfl]
          rw [ec] at g1 ⊢
          rw [show nI cnt + 0 = nI (cnt + 0) from nI_add cnt 0]
          exact g1
        · rw [if_neg h3] at ec
          rw [if_neg h3, if_neg (by decide)]
          rw [ec] at g1 ⊢
          rw [show nI cnt + 1 = nI (cnt + 1) from nI_1 cnt]
          exact g1
      · have ed : dst D (B.2.2.2.2 x) = B.2.2.2.2 x := by
          unfold dst
          rw [if_neg (fun z => h2 z.2)]
        have ec : dsc D (B.2.2.2.2 x) = 0 := by
          rw [dsc_e gd, if_neg (fun z => h2 z.2)]
        rw [if_pos (show ¬ lN (pe ((B.2.2.2.2 x).1 6) ((B.2.2.2.2 x).1 7 + 1)) = lN D from fun z => h2 (by rw [lN_eq63 (by omega) (by omega)] at z; exact z))]
        have g1 := go S (by rw [ed]; exact hl) (offG.rf S x)
        rw [ec] at g1 ⊢
        exact g1
/-- the book n days on -/
def Bd (B : Bk) (n : Nat) : Bk := (B.1 + n, B.2.1, B.2.2.1, B.2.2.2.1, fun q => if q < B.2.2.2.1 then adv B.1 n B.2.1 B.2.2.1 (B.2.2.2.2 q) else B.2.2.2.2 q)
def cntD (B : Bk) (n : Nat) : Nat := sumN (fun q => epc (B.1 + n) ((B.2.2.2.2 q).1 4 - (B.2.2.2.2 q).1 7) (B.2.2.2.2 q)) B.2.2.2.1
theorem sumN_add (f g : Nat → Nat) : ∀ n, sumN (fun q => f q + g q) n = sumN f n + sumN g n
  | 0 => rfl
  | n + 1 => by
    unfold sumN
    rw [sumN_add f g n]
    omega
theorem cntD_0 (hG : GB B) : cntD B 0 = 0 := by
  unfold cntD
  rw [sumN_cong (g := fun _ => 0) (fun i hi => by
    have gd := hG.2.2.2.2 i hi
    have := gd.1.2.2.2.2.2.2.2.1
    exact epc_id (by omega) gd.2.2.2)]
  have h : ∀ n, sumN (fun _ => 0) n = 0 := by
    intro n
    induction n with
    | zero => rfl
    | succ n ih => unfold sumN; rw [ih]
  exact h _
theorem cntD_succ (hG : GB B) (n : Nat) : cntD B (n + 1) = cntD B n + sumN (fun q => dsc (B.1 + n + 1) ((Bd B n).2.2.2.2 q)) B.2.2.2.1 := by
  unfold cntD
  rw [← sumN_add]
  refine sumN_cong (fun i hi => ?_)
  have gd := hG.2.2.2.2 i hi
  rw [← Nat.add_assoc, epc_succ (g := B.2.1) (f := B.2.2.1) gd.1]
  congr 1
  unfold Bd
  dsimp only
  rw [if_pos hi]
theorem days_loop (hG : GB B) (hN : ∀ q, q < B.2.2.2.1 → NF (B.2.2.2.2 q)) {n : Nat} (hn : n ≤ 4000) (hdn : B.1 + n ≤ 36524) : ∀ (j f t : Nat) (S : St), j < f → t + j = n → RB S 203 (Bd B t) → ∃ S', L_X8_days_39 f 202 (nI n) (nI (cntD B t)) (nI t) S = some (nI (cntD B n), S') ∧ RB S' 203 (Bd B n) ∧ offH S S'
  | _, 0, _, _, h, _, _ => absurd h (Nat.not_lt_zero _)
  | 0, f + 1, t, S, _, ht, hS => by
    have e : t = n := by omega
    subst e
    refine ⟨S, ?_, hS, offH.rf S⟩
    show B_X8_days_39 _ _ _ _ _ _ = _
    unfold B_X8_days_39
    rw [if_pos (Int32.le_refl _)]
  | j + 1, f + 1, t, S, hf, ht, hS => by
    obtain ⟨g1, g2, g3, g4, g5⟩ := hG
    show ∃ S', B_X8_days_39 _ _ _ _ _ _ = _ ∧ _
    unfold B_X8_days_39
    rw [if_neg (by rw [nI_leI (by omega) (by omega)]; omega), mR0, fa_lit 2521, g_at _ (by omega), g_set _ (by omega), hS.2.1, show (1 : Int64) = lN 1 from rfl, lN_add]
    have gM : ∀ q, q < B.2.2.2.1 → GD ((Bd B t).2.2.2.2 q) ∧ NF ((Bd B t).2.2.2.2 q) := by
      intro q hq
      have : (Bd B t).2.2.2.2 q = adv B.1 t B.2.1 B.2.2.1 (B.2.2.2.2 q) := if_pos hq
      rw [this]
      exact ⟨adv_gd (g5 q hq).1 g3, adv_nf (hN q hq)⟩
    have hS1 : RB (setL S 203 2521 (lN ((Bd B t).1 + 1))) 203 ((Bd B t).1 + 1, (Bd B t).2.1, (Bd B t).2.2.1, (Bd B t).2.2.2.1, (Bd B t).2.2.2.2) := by
      obtain ⟨q0, q1, q2, q3, q4⟩ := hS
      refine ⟨by rw [setL_k (by omega)]; exact q0, setL_s, by rw [setL_k (by omega)]; exact q2, by rw [setL_k (by omega)]; exact q3, fun i hi => ?_⟩
      have hi' : i < B.2.2.2.1 := hi
      exact (q4 i hi).off (bls_len (gM i hi').1).2 (fun x h1 h2 => setL_k (by omega))
    have o1 := (offH.rf S).L 2521 (lN ((Bd B t).1 + 1))
    have eD : (Bd B t).1 + 1 = B.1 + t + 1 := rfl
    generalize setL S 203 2521 (lN ((Bd B t).1 + 1)) = S1 at hS1 o1 ⊢
    obtain ⟨S2, u1, u2, u3⟩ := ends_all (B := Bd B t) (D := (Bd B t).1 + 1) g4 (by rw [eD]; omega) (fun q hq => (gM q hq).1) (L_X8_days_39 f) (nI n) (nI t) B.2.2.2.1 6000 0 (cntD B t) S1 (by omega) (by show 0 + B.2.2.2.1 = B.2.2.2.1; omega) (hS1.cg rfl rfl rfl rfl (fun q hq => rfl))
    obtain ⟨S3, v1, v2, v3⟩ := fees_all (B := ((Bd B t).1 + 1, (Bd B t).2.1, (Bd B t).2.2.1, (Bd B t).2.2.2.1, fun q => if q < (Bd B t).2.2.2.1 then dst ((Bd B t).1 + 1) ((Bd B t).2.2.2.2 q) else (Bd B t).2.2.2.2 q)) (D := (Bd B t).1 + 1) g4 (by rw [eD]; omega) g2 g3 (fun q hq => by
      have hq' : q < B.2.2.2.1 := hq
      show GD (if q < (Bd B t).2.2.2.1 then _ else _) ∧ NF (if q < (Bd B t).2.2.2.1 then _ else _)
      rw [if_pos hq]
      exact ⟨dst_gd (gM q hq').1, dst_nf (gM q hq').2⟩) (L_X8_days_39 f) (nI n) (nI (cntD B t + (sumN (fun q => dsc ((Bd B t).1 + 1) ((Bd B t).2.2.2.2 q)) (0 + B.2.2.2.1) - sumN (fun q => dsc ((Bd B t).1 + 1) ((Bd B t).2.2.2.2 q)) 0))) (nI t) B.2.2.2.1 6000 0 S2 (by omega) (by show 0 + B.2.2.2.1 = B.2.2.2.1; omega) (u2.cg rfl rfl rfl rfl (fun q hq => rfl))
    have hS3 : RB S3 203 (Bd B (t + 1)) := v2.cg rfl rfl rfl rfl (fun q hq => by
      have hq' : q < B.2.2.2.1 := hq
      show (if q < B.2.2.2.1 then _ else _) = (if q < (Bd B t).2.2.2.1 then chg _ _ _ _ (if q < (Bd B t).2.2.2.1 then dst _ ((Bd B t).2.2.2.2 q) else _) else _)
      have : (Bd B t).2.2.2.2 q = adv B.1 t B.2.1 B.2.2.1 (B.2.2.2.2 q) := if_pos hq'
      rw [if_pos hq', if_pos hq, if_pos hq, this, adv_succ (g5 q hq').1 (hN q hq') (g5 q hq').2]
      rfl)
    have ec : cntD B t + (sumN (fun q => dsc ((Bd B t).1 + 1) ((Bd B t).2.2.2.2 q)) (0 + B.2.2.2.1) - sumN (fun q => dsc ((Bd B t).1 + 1) ((Bd B t).2.2.2.2 q)) 0) = cntD B (t + 1) := by
      rw [cntD_succ ⟨g1, g2, g3, g4, g5⟩, Nat.zero_add]
      rfl
    rw [ec] at u1 v1
    rw [show nI t + 1 = nI (t + 1) from nI_1 t] at v1
    obtain ⟨S', w1, w2, w3⟩ := days_loop ⟨g1, g2, g3, g4, g5⟩ hN hn hdn j f (t + 1) S3 (by omega) (by omega) hS3
    refine ⟨S', ?_, w2, ((o1.tr u3).tr v3).tr w3⟩
    exact (u1.trans v1).trans w1
theorem days_e {S : St} (hG : GB B) (hN : ∀ q, q < B.2.2.2.1 → NF (B.2.2.2.2 q)) {n : Nat} (h1 : 1 ≤ n) (hn : n ≤ 4000) (hdn : B.1 + n ≤ 36524) (hS : RB S 203 B) : ∃ S', L_X8_days_39 6000 202 (nI n) 0 0 S = some (nI (cntD B n), S') ∧ RB S' 203 (Bd B n) ∧ offH S S' := by
  have h0 := days_loop hG hN hn hdn n 6000 0 S (by omega) (by omega) (hS.cg rfl rfl rfl rfl (fun q hq => by
    show (if q < B.2.2.2.1 then _ else _) = _
    rw [if_pos hq]
    exact adv_0 (hG.2.2.2.2 q hq).1 (hG.2.2.2.2 q hq).2))
  rw [cntD_0 hG] at h0
  exact h0
end RFD
