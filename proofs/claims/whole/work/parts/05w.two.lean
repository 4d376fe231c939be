/-! both sides of a call -/
def GX (B : Bk) : Prop := GB B ∧ ∀ q, q < B.2.2.2.1 → NF (B.2.2.2.2 q)
/-- the class changes its book, its thought, its plan alone -/
def offK (S S' : St) : Prop := ∀ a, (a < 1 ∨ (58 < a ∧ a < 175) ∨ 185 < a) → S'.1 a = S.1 a ∧ S'.2 a = S.2 a
/-- the reference changes g, saved, split, comes alone -/
def offQ (S S' : St) : Prop := (∀ a, a ≠ 202 → a ≠ 207 → S'.1 a = S.1 a) ∧ (∀ k, k ≠ 9 → S'.1 202 k = S.1 202 k) ∧ ∀ a, (a < 203 ∨ 211 < a ∨ a = 205 ∨ a = 206) → S'.2 a = S.2 a
theorem offK.rf (S : St) : offK S S := fun _ _ => ⟨rfl, rfl⟩
theorem offK.tr {S S' S'' : St} (h : offK S S') (h2 : offK S' S'') : offK S S'' := fun a ha => ⟨(h2 a ha).1.trans (h a ha).1, (h2 a ha).2.trans (h a ha).2⟩
theorem offQ.rf (S : St) : offQ S S := ⟨fun _ _ _ => rfl, fun _ _ => rfl, fun _ _ => rfl⟩
theorem offQ.tr {S S' S'' : St} (h : offQ S S') (h2 : offQ S' S'') : offQ S S'' := ⟨fun a h1 h3 => (h2.1 a h1 h3).trans (h.1 a h1 h3), fun k hk => (h2.2.1 k hk).trans (h.2.1 k hk), fun a ha => (h2.2.2 a ha).trans (h.2.2 a ha)⟩
theorem offB.K {S S' : St} (h : offB S S' 1) : offK S S' := fun a ha => h a (by omega)
theorem offH.Q {S S' : St} (h : offH S S') : offQ S S' := ⟨fun a _ _ => by rw [h.1], fun k _ => by rw [h.1], fun a ha => h.2 a (by omega)⟩
theorem offP.Qq {S S' : St} {i : Nat} (h : offP S S' i) : offQ S S' := ⟨fun a _ _ => by rw [h.1], fun k _ => by rw [h.1], fun a ha => h.2.1 a (by omega) (by omega)⟩
def TwoB {α : Type} (F G : St → Option (α × St)) (B : Bk) : Prop := ∃ (r : α) (B' : Bk), GX B' ∧ B.2.2.2.1 ≤ B'.2.2.2.1 ∧ (∀ S, CB S 1 B → ∃ S1, F S = some (r, S1) ∧ CB S1 1 B' ∧ offK S S1) ∧ (∀ S, RB S 203 B → ∃ S2, G S = some (r, S2) ∧ RB S2 203 B' ∧ offQ S S2)
theorem TwoB.no {α : Type} {F G : St → Option (α × St)} {B : Bk} (hG : GX B) (r : α) (h1 : ∀ S, CB S 1 B → F S = some (r, S)) (h2 : ∀ S, RB S 203 B → G S = some (r, S)) : TwoB F G B := ⟨r, B, hG, Nat.le_refl _, fun S hS => ⟨S, h1 S hS, hS, offK.rf S⟩, fun S hS => ⟨S, h2 S hS, hS, offQ.rf S⟩⟩
section LBK
variable {β : Type}
theorem kd00 : kd0 0 = (5, 0) := by decide +kernel
theorem zgR {k a : Nat} (h : rf_book.getD k none = some a) (K : Nat → Option β) : gR 5 k 0 K = K a := by
  unfold gR R0
  rw [kd00]
  show rK (rf_book.getD k none) K = K a
  rw [h]
  rfl
theorem z0 (K : Nat → Option β) : gR 5 0 0 K = K 1 := zgR rfl K
theorem z1 (K : Nat → Option β) : gR 5 1 0 K = K 59 := zgR rfl K
theorem z2 (K : Nat → Option β) : gR 5 2 0 K = K 117 := zgR rfl K
theorem z4 (K : Nat → Option β) : gR 5 4 0 K = K 175 := zgR rfl K
theorem z5 (K : Nat → Option β) : gR 5 5 0 K = K 182 := zgR rfl K
theorem z6 (K : Nat → Option β) : gR 5 6 0 K = K 186 := zgR rfl K
theorem z7 (K : Nat → Option β) : gR 5 7 0 K = K 189 := zgR rfl K
theorem zgk (x : Option β) : gk 0 5 x = x := by
  unfold gk
  rw [kd00]
  rfl
end LBK
theorem b1 : LB 1 := Or.inl rfl
theorem loan_or (a : Int32) (n : Nat) : (∀ i, i < n → a ≠ nI i) ∨ ∃ i, i < n ∧ a = nI i := by
  by_cases h : ∃ i, i < n ∧ a = nI i
  · exact Or.inr h
  · exact Or.inl (fun i hi z => h ⟨i, hi, z⟩)
section TWO
variable {S : St} {B : Bk} {a : Int32}
theorem has_no {b : Nat} (hb : LB b) (hS : CB S b B) (h8 : B.2.2.2.1 ≤ 8) (h : ∀ i, i < B.2.2.2.1 → a ≠ nI i) : F_X1_has b a S = some (0, S) := by
  rcases has_e hb hS h8 a with h1 | ⟨i, h1, h2, _⟩
  · exact h1.2
  · exact absurd h2 (h i h1)
theorem has_yes {b i : Nat} (hb : LB b) (hS : CB S b B) (h8 : B.2.2.2.1 ≤ 8) (h : i < B.2.2.2.1) : F_X1_has b (nI i) S = some (1, S) := by
  rcases has_e hb hS h8 (nI i) with h1 | ⟨j, _, _, h1⟩
  · exact absurd rfl (h1.1 i h)
  · exact h1
theorem isLoan_e (hS : RB S 203 B) (h8 : B.2.2.2.1 ≤ 8) : F_X8_isLoan 202 a S = some (if a < 0 ∨ lN B.2.2.2.1 - 1 < Int32.toInt64 a then 0 else 1, S) := by
  unfold F_X8_isLoan
  rw [mR0, fa_lit 2520, g_at _ (by omega), hS.1, in_e, cl_some]
  have e : (Int32.toInt64 a < 0) = (a < 0) := by
    rw [show (0 : Int64) = Int32.toInt64 0 from rfl]
    exact propext lt_wide
  simp only [e]
  split <;> rfl
theorem isLoan_yes {i : Nat} (hS : RB S 203 B) (h8 : B.2.2.2.1 ≤ 8) (h : i < B.2.2.2.1) : F_X8_isLoan 202 (nI i) S = some (1, S) := by
  rw [isLoan_e hS h8, if_neg]
  rintro (z | z)
  · rw [Int32.lt_iff_toInt_lt, nI_toInt (by omega), Int32.toInt_zero] at z
    omega
  · rw [wide_nI (by omega), show (1 : Int64) = lN 1 from rfl, lN_sub (by omega), lN_lt63 (by omega) (by omega)] at z
    omega
theorem isLoan_no (hS : RB S 203 B) (h8 : B.2.2.2.1 ≤ 8) (h : ∀ i, i < B.2.2.2.1 → a ≠ nI i) : F_X8_isLoan 202 a S = some (0, S) := by
  rw [isLoan_e hS h8, if_pos]
  rcases nI_or_neg a with z | ⟨n, hn, z⟩
  · exact Or.inl z
  · subst z
    have hge : B.2.2.2.1 ≤ n := by
      by_cases c : n < B.2.2.2.1
      · exact absurd rfl (h n c)
      · omega
    right
    rw [wide_nI hn, show (1 : Int64) = lN 1 from rfl, Int64.lt_iff_toInt_lt, lN_sub_toInt (by omega) (by omega), pk_lT (by omega)]
    omega
/-- days -/
theorem t_days (hG : GX B) (a : Int32) : TwoB (F_X7_days 0 a) (F_X8_days 202 a) B := by
  obtain ⟨hG, hN⟩ := hG
  have g1 := hG.1
  have g8 := hG.2.2.2.1
  rcases between a 1 4000 (by omega) (by omega) with h | ⟨h, n, rfl, h1, h2⟩
  · refine TwoB.no ⟨hG, hN⟩ (-1) (fun S hS => ?_) (fun S hS => ?_)
    · unfold F_X7_days
      rw [fa_lit 1, fa_lit 4000, within_e, if_pos h, cl_some, if_neg (fun z => z rfl)]
    · unfold F_X8_days
      rw [fa_litL 1, fa_litL 4000, inw_e _ _ _ (by omega) (by omega), if_pos h, cl_some, if_neg (fun z => z rfl)]
  · by_cases hd : B.1 + n ≤ 36524
    · refine ⟨nI (cntD B n), Bd B n, ⟨⟨hd, hG.2.1, hG.2.2.1, g8, fun i hi => ?_⟩, fun i hi => ?_⟩, Nat.le_refl _, fun S hS => ?_, fun S hS => ?_⟩
      · have e : (Bd B n).2.2.2.2 i = adv B.1 n B.2.1 B.2.2.1 (B.2.2.2.2 i) := if_pos hi
        rw [e]
        have g := hG.2.2.2.2 i hi
        exact ⟨adv_gd g.1 hG.2.2.1, adv_dy g.1 g.2⟩
      · have e : (Bd B n).2.2.2.2 i = adv B.1 n B.2.1 B.2.2.1 (B.2.2.2.2 i) := if_pos hi
        rw [e]
        exact adv_nf (hN i hi)
      · obtain ⟨S1, r1, r2, r3⟩ := passDays_e b1 hG hS h1 hd
        refine ⟨S1, ?_, r2, r3.K⟩
        unfold F_X7_days J_X7_days_40
        rw [fa_lit 1, fa_lit 4000, within_e, if_neg h, cl_some, if_pos (by decide), z0, bI b1, hS.1, nI_add, if_pos (by rw [fa_lit 36524, nI_leI (by omega) (by omega)]; exact hd), z0, bgk b1, r1, cl_some]
        rfl
      · obtain ⟨S2, r1, r2, r3⟩ := days_e hG hN h1 h2 hd hS
        refine ⟨S2, ?_, r2, r3.Q⟩
        unfold F_X8_days
        rw [fa_litL 1, fa_litL 4000, inw_e _ _ _ (by omega) (by omega), if_neg h, cl_some, if_pos (by decide), mR0, fa_lit 2521, g_at _ (by omega), hS.2.1, wide_nI (by omega), lN_add, if_pos (by rw [fa_litL 36524, lN_le63 (by omega) (by omega)]; exact hd)]
        exact r1
    · refine TwoB.no ⟨hG, hN⟩ (-5) (fun S hS => ?_) (fun S hS => ?_)
      · unfold F_X7_days J_X7_days_40
        rw [fa_lit 1, fa_lit 4000, within_e, if_neg h, cl_some, if_pos (by decide), z0, bI b1, hS.1, nI_add, if_neg (by rw [fa_lit 36524, nI_leI (by omega) (by omega)]; exact hd)]
      · unfold F_X8_days
        rw [fa_litL 1, fa_litL 4000, inw_e _ _ _ (by omega) (by omega), if_neg h, cl_some, if_pos (by decide), mR0, fa_lit 2521, g_at _ (by omega), hS.2.1, wide_nI (by omega), lN_add, if_neg (by rw [fa_litL 36524, lN_le63 (by omega) (by omega)]; exact hd)]
theorem isAmount_e (a : Int64) (S : St) : F_X7_isAmount a S = some (if a < 1 ∨ 1000000000 < a then 0 else 1, S) := by
  unfold F_X7_isAmount J_X7_isAmount_18 J_X7_isAmount_19
  by_cases h : a < 1
  · rw [if_pos h, if_pos (Or.inl h)]; rfl
  · by_cases h2 : (1000000000 : Int64) < a
    · rw [if_neg h, if_pos h2, if_pos (Or.inr h2)]; rfl
    · rw [if_neg h, if_neg h2, if_neg (fun z => z.elim h h2)]; rfl
theorem isPaid_no (hS : RB S 203 B) (h8 : B.2.2.2.1 ≤ 8) (h : ∀ i, i < B.2.2.2.1 → a ≠ nI i) (m : Int64) : F_X8_isPaid 202 a m S = some (0, S) := by
  unfold F_X8_isPaid J_X8_isPaid_23 J_X8_isPaid_24
  rw [mgk, isLoan_no hS h8 h, cl_some, if_pos rfl]
  rfl
theorem isPaid_yes {i : Nat} (hS : RB S 203 B) (h8 : B.2.2.2.1 ≤ 8) (h : i < B.2.2.2.1) (m : Int64) : F_X8_isPaid 202 (nI i) m S = some (if m < 1 ∨ 1000000000 < m then 0 else 1, S) := by
  unfold F_X8_isPaid J_X8_isPaid_23 J_X8_isPaid_24
  rw [mgk, isLoan_yes hS h8 h, cl_some, if_neg (by decide), in_e, cl_some]
  by_cases c : m < 1 ∨ 1000000000 < m
  · rw [if_pos c]; rfl
  · rw [if_neg c]; rfl
/-- one loan of a book changes -/
def upB (B : Bk) (i : Nat) (l : Ln) : Bk := (B.1, B.2.1, B.2.2.1, B.2.2.2.1, up B.2.2.2.2 i l)
theorem upB_gx {i : Nat} {l : Ln} (hG : GX B) (h1 : GD l) (h2 : DY B.1 l) (h3 : NF l) : GX (upB B i l) := by
  obtain ⟨⟨g1, g2, g3, g4, g5⟩, hN⟩ := hG
  refine ⟨⟨g1, g2, g3, g4, fun j hj => ?_⟩, fun j hj => ?_⟩
  · show GD (up B.2.2.2.2 i l j) ∧ DY B.1 (up B.2.2.2.2 i l j)
    by_cases e : j = i
    · subst e; rw [up_s]; exact ⟨h1, h2⟩
    · rw [up_n _ _ e]; exact g5 j hj
  · show NF (up B.2.2.2.2 i l j)
    by_cases e : j = i
    · subst e; rw [up_s]; exact h3
    · rw [up_n _ _ e]; exact hN j hj
theorem RB.setP {S S' : St} {i : Nat} {l' : Ln} (h : RB S 203 B) (hi : i < B.2.2.2.1) (h8 : B.2.2.2.1 ≤ 8) (hG : ∀ q, q < B.2.2.2.1 → GD (B.2.2.2.2 q)) (ho : offP S S' i) (hl : RLn S' 203 i l'.1 l'.2.1 (bls l')) : RB S' 203 (upB B i l') := by
  obtain ⟨q0, q1, q2, q3, q4⟩ := h
  refine ⟨by rw [ho.2.2 _ (by omega)]; exact q0, by rw [ho.2.2 _ (by omega)]; exact q1, by rw [ho.2.2 _ (by omega)]; exact q2, by rw [ho.2.2 _ (by omega)]; exact q3, fun j hj => ?_⟩
  have hj' : j < B.2.2.2.1 := hj
  show RLn S' 203 j (up B.2.2.2.2 i l' j).1 (up B.2.2.2.2 i l' j).2.1 (bls (up B.2.2.2.2 i l' j))
  by_cases e : j = i
  · subst e
    rw [up_s]
    exact hl
  · rw [up_n _ _ e]
    exact (q4 j hj').off (bls_len (hG j hj')).2 (fun x h1 h2 => ho.2.2 x (by omega))
/-- pay -/
theorem t_pay (hG : GX B) (a : Int32) (m : Int64) : TwoB (F_X7_pay 0 a m) (F_X8_pay 202 a m) B := by
  have g8 := hG.1.2.2.2.1
  rcases loan_or a B.2.2.2.1 with h | ⟨i, hi, rfl⟩
  · refine TwoB.no hG (-1) (fun S hS => ?_) (fun S hS => ?_)
    · unfold F_X7_pay J_X7_pay_18
      rw [z0, bgk b1, has_no b1 hS g8 h, cl_some, if_pos rfl]
    · unfold F_X8_pay
      rw [mgk, isPaid_no hS g8 h, cl_some, if_neg (fun z => z rfl)]
  · by_cases c : m < 1 ∨ 1000000000 < m
    · refine TwoB.no hG (-1) (fun S hS => ?_) (fun S hS => ?_)
      · unfold F_X7_pay J_X7_pay_18
        rw [z0, bgk b1, has_yes b1 hS g8 hi, cl_some, if_neg (by decide), isAmount_e, if_pos c, cl_some, if_neg (fun z => z rfl)]
      · unfold F_X8_pay
        rw [mgk, isPaid_yes hS g8 hi, if_pos c, cl_some, if_neg (fun z => z rfl)]
    · have c' : ¬ (m < lN 1 ∨ lN 1000000000 < m) := by
        rw [show lN 1 = 1 from rfl, ← fa_litL 1000000000]
        exact c
      obtain ⟨n, rfl, n1, n2⟩ : ∃ n, m = lN n ∧ 1 ≤ n ∧ n ≤ 1000000000 := by
        rcases betweenL m 1 1000000000 (by omega) (by omega) with z | ⟨_, z⟩
        · exact absurd z c'
        · exact z
      have gd := hG.1.2.2.2.2 i hi
      have hc := LC_book b1 (show i < 8 by omega)
      refine ⟨lN (givenBack n (B.2.2.2.2 i)), upB B i (paid n (B.2.2.2.2 i)), upB_gx hG (paid_gd gd.1 n) (paid_dy gd.2) (paid_nf (hG.2 i hi)), Nat.le_refl _, fun S hS => ?_, fun S hS => ?_⟩
      · obtain ⟨S1, r1, r2, r3⟩ := receive_e hc (hS.2.2.2.2 i hi) gd.1 n2
        refine ⟨S1, ?_, CB.loan hS hi g8 r3 r2, (r3.B (by omega)).K⟩
        unfold F_X7_pay
        rw [z0, bgk b1, has_yes b1 hS g8 hi, cl_some, if_neg (by decide), isAmount_e, if_neg c, cl_some, if_pos (by decide), z0, br4 b1, baR b1 (by omega), lgk hc, r1, cl_some]
      · obtain ⟨S2, r1, r2, r3, r4, r5, r6, r7, r8, r9⟩ := pays_e (show i < 8 by omega) gd.1 n2 (hS.2.2.2.2 i hi)
        refine ⟨S2, ?_, RB.setP hS hi g8 (fun q hq => (hG.1.2.2.2.2 q hq).1) r9 r2, r9.Qq⟩
        unfold F_X8_pay
        rw [mgk, isPaid_yes hS g8 hi, if_neg c, cl_some, if_pos (by decide), mgk, r1, cl_some, mR10, show (4 : Int32) = nI 4 from rfl, j_at _ (by omega), r7]
end TWO
