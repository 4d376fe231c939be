/-! a copy of a LOAN; a new one -/
theorem setL_n {S : St} {c k a : Nat} {v : Int64} (h : a ≠ c) : (setL S c k v).2 a = S.2 a := by
  funext j
  rw [sL2, if_neg (fun z => h z.1)]
theorem setL_k {S : St} {c k j : Nat} {v : Int64} (h : j ≠ k) : (setL S c k v).2 c j = S.2 c j := by
  rw [sL2, if_neg (fun z => h z.2)]
theorem setL_s {S : St} {c k : Nat} {v : Int64} : (setL S c k v).2 c k = v := by
  rw [sL2, if_pos ⟨rfl, rfl⟩]
theorem setI_n {S : St} {c k a : Nat} {v : Int32} (h : a ≠ c) : (setI S c k v).1 a = S.1 a := by
  funext j
  rw [sI1, if_neg (fun z => h z.1)]
theorem setI_k {S : St} {c k j : Nat} {v : Int32} (h : j ≠ k) : (setI S c k v).1 c j = S.1 c j := by
  rw [sI1, if_neg (fun z => h z.2)]
theorem setI_s {S : St} {c k : Nat} {v : Int32} : (setI S c k v).1 c k = v := by
  rw [sI1, if_pos ⟨rfl, rfl⟩]
theorem rowL_n {S : St} {c a : Nat} {f : Nat → Int64} (h : a ≠ c) : (rowL S c f).2 a = S.2 a := by
  funext j
  exact if_neg h
theorem rowL_s {S : St} {c : Nat} {f : Nat → Int64} : (rowL S c f).2 c = f := by
  funext j
  exact if_pos rfl
theorem rowI_n {S : St} {c a : Nat} {f : Nat → Int32} (h : a ≠ c) : (rowI S c f).1 a = S.1 a := by
  funext j
  exact if_neg h
theorem rowI_s {S : St} {c : Nat} {f : Nat → Int32} : (rowI S c f).1 c = f := by
  funext j
  exact if_pos rfl
theorem rowL_1 {S : St} {c : Nat} {f : Nat → Int64} : (rowL S c f).1 = S.1 := rfl
theorem rowI_2 {S : St} {c : Nat} {f : Nat → Int32} : (rowI S c f).2 = S.2 := rfl
section CPY
variable {β : Type} {a c : Nat}
theorem ac_61 : (0 : Int) ≤ (61 : Int32).toInt ∧ (61 : Int32).toNatClampNeg = 61 := by decide
theorem lacI (ha : LC a) (hc : LC c) (S : St) (K : St → Option β) : acI 10 (a + 1) (c + 1) 61 S K = K (rowI S (c + 1) (fun j => if j < 61 then S.1 (a + 1) j else S.1 (c + 1) j)) := by
  unfold acI
  rw [ha.2.1, hc.2.1, ac_61.2, if_pos ⟨rfl, rfl, ac_61.1, Nat.le_refl 61, Nat.le_refl 61⟩]
theorem lacJ {i j : Nat} (ha : kd0 (a + i) = (11, 61)) (hc : kd0 (c + j) = (11, 61)) (S : St) (K : St → Option β) : acJ (a + i) (c + j) 61 S K = K (rowL S (c + j) (fun x => if x < 61 then S.2 (a + i) x else S.2 (c + j) x)) := by
  unfold acJ
  rw [ha, hc, ac_61.2, if_pos ⟨rfl, rfl, ac_61.1, Nat.le_refl 61, Nat.le_refl 61⟩]
theorem lacZ (ha : LC a) (hc : LC c) (S : St) (hf : ∀ j, j < 61 → fits .boolean (.int (S.1 (a + 6) j)) = true) (K : St → Option β) : acZ (a + 6) (c + 6) 61 S K = K (rowI S (c + 6) (fun j => if j < 61 then S.1 (a + 6) j else S.1 (c + 6) j)) := by
  unfold acZ
  rw [ha.2.2.2.2.2.2, hc.2.2.2.2.2.2, ac_61.2, if_pos ⟨⟨rfl, rfl, ac_61.1, Nat.le_refl 61, Nat.le_refl 61⟩, hf⟩]
end CPY
section CLP
variable {S : St} {a c : Nat} {l : Ln}
theorem fitsZ {m : Nat} (h : m ≤ 1) : fits .boolean (.int (nI m)) = true := by
  have : m = 0 ∨ m = 1 := by omega
  rcases this with rfl | rfl <;> rfl
/-- the numbers of a loan at c -/
def CN (S : St) (c : Nat) (l : Ln) : Prop := (S.2 c 0 = lN (l.1 0) ∧ S.2 c 1 = lN (l.1 8) ∧ S.2 c 2 = lN (l.1 9) ∧ S.2 c 3 = l.2.1 0 ∧ S.2 c 4 = l.2.1 1 ∧ S.2 c 5 = l.2.1 2 ∧ S.2 c 6 = l.2.1 3) ∧ (S.1 c 7 = nI (l.1 1) ∧ S.1 c 8 = nI (l.1 2) ∧ S.1 c 9 = nI (l.1 3) ∧ S.1 c 10 = nI (l.1 5) ∧ S.1 c 11 = nI (l.1 4) ∧ S.1 c 12 = nI (l.1 7))
def rowsOf (β : Type) : Type := St → Option β
theorem copyRows (ha : LC a) (hc : LC c) (hd : a + 6 < c ∨ c + 6 < a) {S0 : St} (hS : CL S0 a l) (hG : GD l) (T : St) (hT : offL S0 T c) (hN : CN T c l) : ∃ S', (gR 2 13 a fun v105 => gR 2 13 c fun v110 => acI 10 v105 v110 (61 : Int32) T fun S116 => gR 2 14 a fun v120 => gR 2 14 c fun v125 => acJ v120 v125 (61 : Int32) S116 fun S131 => gR 2 15 a fun v135 => gR 2 15 c fun v140 => acJ v135 v140 (61 : Int32) S131 fun S146 => gR 2 16 a fun v150 => gR 2 16 c fun v155 => acJ v150 v155 (61 : Int32) S146 fun S161 => gR 2 17 a fun v165 => gR 2 17 c fun v170 => acJ v165 v170 (61 : Int32) S161 fun S176 => gR 2 18 a fun v180 => gR 2 18 c fun v185 => acZ v180 v185 (61 : Int32) S176 fun S191 => some ((), S191)) = some ((), S') ∧ CL S' c l ∧ offL S0 S' c := by
  obtain ⟨-, -, e1, e2, e3⟩ := hS
  have hm := hG.2.2.2.2.1
  rw [lr13 ha, lr13 hc, lacI ha hc]
  have w1 : ∀ k, k < 61 → (rowI T (c + 1) (fun j => if j < 61 then T.1 (a + 1) j else T.1 (c + 1) j)).1 (c + 1) k = S0.1 (a + 1) k := fun k hk => by rw [rowI_s, if_pos hk, (hT (a + 1) (by omega)).1]
  have n1 : ∀ x, x ≠ c + 1 → (rowI T (c + 1) (fun j => if j < 61 then T.1 (a + 1) j else T.1 (c + 1) j)).1 x = T.1 x := fun x hx => rowI_n hx
  have n1' : (rowI T (c + 1) (fun j => if j < 61 then T.1 (a + 1) j else T.1 (c + 1) j)).2 = T.2 := rfl
  generalize rowI T (c + 1) (fun j => if j < 61 then T.1 (a + 1) j else T.1 (c + 1) j) = T1 at w1 n1 n1' ⊢
  rw [lr14 ha, lr14 hc, lacJ ha.2.2.1 hc.2.2.1]
  have w2 : ∀ k, k < 61 → (rowL T1 (c + 2) (fun x => if x < 61 then T1.2 (a + 2) x else T1.2 (c + 2) x)).2 (c + 2) k = S0.2 (a + 2) k := fun k hk => by rw [rowL_s, if_pos hk, n1', (hT (a + 2) (by omega)).2]
  have n2 : ∀ x, x ≠ c + 2 → (rowL T1 (c + 2) (fun x => if x < 61 then T1.2 (a + 2) x else T1.2 (c + 2) x)).2 x = T1.2 x := fun x hx => rowL_n hx
  have n2' : (rowL T1 (c + 2) (fun x => if x < 61 then T1.2 (a + 2) x else T1.2 (c + 2) x)).1 = T1.1 := rfl
  generalize rowL T1 (c + 2) (fun x => if x < 61 then T1.2 (a + 2) x else T1.2 (c + 2) x) = T2 at w2 n2 n2' ⊢
  rw [lr15 ha, lr15 hc, lacJ ha.2.2.2.1 hc.2.2.2.1]
  have w3 : ∀ k, k < 61 → (rowL T2 (c + 3) (fun x => if x < 61 then T2.2 (a + 3) x else T2.2 (c + 3) x)).2 (c + 3) k = S0.2 (a + 3) k := fun k hk => by rw [rowL_s, if_pos hk, n2 (a + 3) (by omega), n1', (hT (a + 3) (by omega)).2]
  have n3 : ∀ x, x ≠ c + 3 → (rowL T2 (c + 3) (fun x => if x < 61 then T2.2 (a + 3) x else T2.2 (c + 3) x)).2 x = T2.2 x := fun x hx => rowL_n hx
  have n3' : (rowL T2 (c + 3) (fun x => if x < 61 then T2.2 (a + 3) x else T2.2 (c + 3) x)).1 = T2.1 := rfl
  generalize rowL T2 (c + 3) (fun x => if x < 61 then T2.2 (a + 3) x else T2.2 (c + 3) x) = T3 at w3 n3 n3' ⊢
  rw [lr16 ha, lr16 hc, lacJ ha.2.2.2.2.1 hc.2.2.2.2.1]
  have w4 : ∀ k, k < 61 → (rowL T3 (c + 4) (fun x => if x < 61 then T3.2 (a + 4) x else T3.2 (c + 4) x)).2 (c + 4) k = S0.2 (a + 4) k := fun k hk => by rw [rowL_s, if_pos hk, n3 (a + 4) (by omega), n2 (a + 4) (by omega), n1', (hT (a + 4) (by omega)).2]
  have n4 : ∀ x, x ≠ c + 4 → (rowL T3 (c + 4) (fun x => if x < 61 then T3.2 (a + 4) x else T3.2 (c + 4) x)).2 x = T3.2 x := fun x hx => rowL_n hx
  have n4' : (rowL T3 (c + 4) (fun x => if x < 61 then T3.2 (a + 4) x else T3.2 (c + 4) x)).1 = T3.1 := rfl
  generalize rowL T3 (c + 4) (fun x => if x < 61 then T3.2 (a + 4) x else T3.2 (c + 4) x) = T4 at w4 n4 n4' ⊢
  rw [lr17 ha, lr17 hc, lacJ ha.2.2.2.2.2.1 hc.2.2.2.2.2.1]
  have w5 : ∀ k, k < 61 → (rowL T4 (c + 5) (fun x => if x < 61 then T4.2 (a + 5) x else T4.2 (c + 5) x)).2 (c + 5) k = S0.2 (a + 5) k := fun k hk => by rw [rowL_s, if_pos hk, n4 (a + 5) (by omega), n3 (a + 5) (by omega), n2 (a + 5) (by omega), n1', (hT (a + 5) (by omega)).2]
  have n5 : ∀ x, x ≠ c + 5 → (rowL T4 (c + 5) (fun x => if x < 61 then T4.2 (a + 5) x else T4.2 (c + 5) x)).2 x = T4.2 x := fun x hx => rowL_n hx
  have n5' : (rowL T4 (c + 5) (fun x => if x < 61 then T4.2 (a + 5) x else T4.2 (c + 5) x)).1 = T4.1 := rfl
  generalize rowL T4 (c + 5) (fun x => if x < 61 then T4.2 (a + 5) x else T4.2 (c + 5) x) = T5 at w5 n5 n5' ⊢
  have z5 : T5.1 (a + 6) = S0.1 (a + 6) := by rw [n5', n4', n3', n2', n1 (a + 6) (by omega), (hT (a + 6) (by omega)).1]
  rw [lr18 ha, lr18 hc, lacZ ha hc T5 (fun j hj => by rw [z5, (e3 j hj).2.2.2]; exact fitsZ (hG.2.2.2.2.2.2.2.2.2.2.1 j).2.2.2)]
  refine ⟨_, rfl, ?_, ?_⟩
  · obtain ⟨⟨a0, a1, a2, a3, a4, a5, a6⟩, ⟨b0, b1, b2, b3, b4, b5⟩⟩ := hN
    have f1 : T5.1 c = T.1 c := by rw [n5', n4', n3', n2', n1 c (by omega)]
    have f2 : T5.2 c = T.2 c := by rw [n5 c (by omega), n4 c (by omega), n3 c (by omega), n2 c (by omega), n1']
    unfold CL
    rw [rowI_n (show c ≠ c + 6 by omega), rowI_n (show c + 1 ≠ c + 6 by omega), rowI_2, rowI_s, f1, f2]
    refine ⟨⟨a0, a1, a2, a3, a4, a5, a6⟩, ⟨b0, b1, b2, b3, b4, b5⟩, ?_, ?_, ?_⟩
    · intro k hk
      rw [n5', n4', n3', n2', w1 k (by omega)]
      exact e1 k hk
    · intro k hk1 hk
      rw [n5 _ (by omega), n4 _ (by omega), n3 _ (by omega), w2 k (by omega)]
      exact e2 k hk1 hk
    · intro k hk
      rw [n5 (c + 3) (by omega), n4 (c + 3) (by omega), w3 k hk, n5 (c + 4) (by omega), w4 k hk, w5 k hk, if_pos hk, z5]
      exact e3 k hk
  · intro x hx
    rw [rowI_n (by omega), rowI_2, n5', n4', n3', n2', n1 x (by omega), n5 x (by omega), n4 x (by omega), n3 x (by omega), n2 x (by omega), n1']
    exact hT x hx
theorem copyLoan_e (ha : LC a) (hc : LC c) (hd : a + 6 < c ∨ c + 6 < a) (hS : CL S a l) (hG : GD l) : ∃ S', F_X4_copyFrom c a S = some ((), S') ∧ CL S' c l ∧ offL S S' c := by
  have hS9 := hS
  obtain ⟨⟨a0, a1, a2, a3, a4, a5, a6⟩, ⟨b0, b1, b2, b3, b4, b5⟩, e1, e2, e3⟩ := hS
  have hac : a ≠ c := by omega
  unfold F_X4_copyFrom
  rw [lL ha, a0, lpL hc]
  rw [lL ha]
  simp only [setL_n hac]
  rw [a1, lpL hc]
  rw [lL ha]
  simp only [setL_n hac]
  rw [a2, lpL hc]
  rw [lL ha]
  simp only [setL_n hac]
  rw [a3, lpL hc]
  rw [lL ha]
  simp only [setL_n hac]
  rw [a4, lpL hc]
  rw [lL ha]
  simp only [setL_n hac]
  rw [a5, lpL hc]
  rw [lL ha]
  simp only [setL_n hac]
  rw [a6, lpL hc]
  rw [lI ha]
  simp only [setI_n hac, sL1]
  rw [b0, lpI hc]
  rw [lI ha]
  simp only [setI_n hac, sL1]
  rw [b1, lpI hc]
  rw [lI ha]
  simp only [setI_n hac, sL1]
  rw [b2, lpI hc]
  rw [lI ha]
  simp only [setI_n hac, sL1]
  rw [b3, lpI hc]
  rw [lI ha]
  simp only [setI_n hac, sL1]
  rw [b4, lpI hc]
  rw [lI ha]
  simp only [setI_n hac, sL1]
  rw [b5, lpI hc]
  refine copyRows ha hc hd hS9 hG _ ?_ ?_
  · intro x hx
    simp (disch := omega) only [setL_n, setI_n, sI2, sL1]
    exact ⟨trivial, trivial⟩
  · unfold CN
    simp (disch := omega) only [setL_k, setL_s, setI_k, setI_s, sI2, sL1]
    exact ⟨⟨trivial, trivial, trivial, trivial, trivial, trivial, trivial⟩, trivial, trivial, trivial, trivial, trivial, trivial⟩
/-! laying the periods -/
theorem lay_loop (hc : LC c) {s n cn : Nat} (hs : s ≤ 36524) (hn : n ≤ 60) (hcn : cn ≤ 3) (hmo : mo s + n < 1200) : ∀ (j f k : Nat) (S : St), j < f → k + j = n + 1 → 1 ≤ k → S.1 c 11 = nI n → S.1 c 8 = nI cn → (∀ i, i < k → S.1 (c + 1) i = nI (pe s i)) → (∀ i, 1 ≤ i → i < k → S.2 (c + 2) i = lN (pt cn (pe s (i - 1)) (pe s i))) → ∃ S', L_X4_layPeriods_22 f c (nI (mo s)) (nI (s - fo (mo s))) (nI k) S = some ((), S') ∧ (∀ i, i ≤ n → S'.1 (c + 1) i = nI (pe s i)) ∧ (∀ i, 1 ≤ i → i ≤ n → S'.2 (c + 2) i = lN (pt cn (pe s (i - 1)) (pe s i))) ∧ (∀ x, x ≠ c + 1 → S'.1 x = S.1 x) ∧ (∀ x, x ≠ c + 2 → S'.2 x = S.2 x)
  | _, 0, _, _, h, _, _, _, _, _, _ => absurd h (Nat.not_lt_zero _)
  | 0, f + 1, k, S, _, hk, _, h1, h2, h3, h4 => by
    refine ⟨S, ?_, fun i hi => h3 i (by omega), fun i hi hi2 => h4 i hi (by omega), fun _ _ => rfl, fun _ _ => rfl⟩
    show B_X4_layPeriods_22 _ _ _ _ _ _ = _
    unfold B_X4_layPeriods_22
    rw [lI hc, h1]
    simp (disch := omega) only [nI_ltI, show n < k by omega, if_true]
  | j + 1, f + 1, k, S, hf, hk, hk1, h1, h2, h3, h4 => by
    have hln := fo_lt (mo s + k)
    have hb := fo_bound (show mo s + k < 3000 by omega)
    have hin := mo_in s
    have hpe : pe s k ≤ 36524 := pe_le (by omega)
    have hpl : pe s (k - 1) < pe s k := pe_mono (by omega)
    show ∃ S', B_X4_layPeriods_22 _ _ _ _ _ _ = _ ∧ _
    unfold B_X4_layPeriods_22
    rw [lI hc, h1]
    simp (disch := omega) only [nI_ltI, show ¬ n < k by omega, if_false]
    rw [lr13 hc, nI_add, firstOf_e _ (by omega), cl_some, lengthOf_e _ (by omega), cl_some, show (1 : Int32) = nI 1 from rfl, pk_sub (by omega), minI_e (by omega) (by omega), cl_some, nI_add, lsI1 hc (by omega)]
    have epe : fo (mo s + k) + min (s - fo (mo s)) (ln (mo s + k) - 1) = pe s k := rfl
    rw [epe, lr14 hc, lI hc, lr13 hc, pk_sub (by omega), laI1 hc (by omega), lr13 hc, laI1 hc (by omega)]
    simp (disch := omega) only [setI_n, setI_k, setI_s]
    rw [h2, h3 (k - 1) (by omega), partsBetween_e cn _ _ hcn (by omega) hpe, cl_some, lsJ2 hc (by omega), show nI k + nI 1 = nI (k + 1) from nI_add k 1]
    obtain ⟨S', r1, r2, r3, r4, r5⟩ := lay_loop hc hs hn hcn hmo j f (k + 1) (setL (setI S (c + 1) k (nI (pe s k))) (c + 2) k (lN (pt cn (pe s (k - 1)) (pe s k)))) (by omega) (by omega) (by omega)
      (by rw [sL1, setI_n (by omega)]; exact h1) (by rw [sL1, setI_n (by omega)]; exact h2)
      (by
        intro i hi
        rw [sL1]
        by_cases e : i = k
        · subst e
          rw [setI_s]
        · rw [setI_k e]
          exact h3 i (by omega))
      (by
        intro i hi1 hi
        by_cases e : i = k
        · subst e
          rw [setL_s]
        · rw [setL_k e, sI2]
          exact h4 i hi1 (by omega))
    refine ⟨S', r1, r2, r3, fun x hx => ?_, fun x hx => ?_⟩
    · rw [r4 x hx, sL1, setI_n hx]
    · rw [r5 x hx, setL_n hx, sI2]
theorem layPeriods_e (hc : LC c) {s n cn : Nat} (hs : s ≤ 36524) (hn : n ≤ 60) (hn1 : 1 ≤ n) (hcn : cn ≤ 3) (hmo : mo s + n < 1200) (S : St) (h1 : S.1 c 11 = nI n) (h2 : S.1 c 8 = nI cn) : ∃ S', F_X4_layPeriods c (nI s) S = some ((), S') ∧ (∀ i, i ≤ n → S'.1 (c + 1) i = nI (pe s i)) ∧ (∀ i, 1 ≤ i → i ≤ n → S'.2 (c + 2) i = lN (pt cn (pe s (i - 1)) (pe s i))) ∧ (∀ x, x ≠ c + 1 → S'.1 x = S.1 x) ∧ (∀ x, x ≠ c + 2 → S'.2 x = S.2 x) := by
  have hm := mo_lt hs
  have hin := mo_in s
  unfold F_X4_layPeriods
  rw [monthOf_e s hs, cl_some, firstOf_e _ (by omega), cl_some, pk_sub hin.1, bd_e, lr13 hc, show (0 : Int32) = nI 0 from rfl, lsI1 hc (by omega)]
  obtain ⟨S', r1, r2, r3, r4, r5⟩ := lay_loop hc hs hn hcn hmo n 6000 1 (setI S (c + 1) 0 (nI s)) (by omega) (by omega) (by omega) (by rw [setI_n (by omega)]; exact h1) (by rw [setI_n (by omega)]; exact h2)
    (by
      intro i hi
      have : i = 0 := by omega
      subst this
      rw [setI_s, pe_0])
    (by intro i hi1 hi; omega)
  exact ⟨S', r1, r2, r3, fun x hx => by rw [r4 x hx, setI_n hx], fun x hx => by rw [r5 x hx, sI2]⟩
theorem clear_e (hc : LC c) (S : St) : ∃ S', F_X4_clear c S = some ((), S') ∧ (∀ i, i < 61 → S'.2 (c + 3) i = 0 ∧ S'.2 (c + 4) i = 0 ∧ S'.2 (c + 5) i = 0 ∧ S'.1 (c + 6) i = 0) ∧ S'.2 c 2 = 0 ∧ S'.2 c 3 = 0 ∧ S'.2 c 4 = 0 ∧ S'.2 c 5 = 0 ∧ S'.2 c 6 = 0 ∧ S'.1 c 12 = 0 ∧ offL S S' c := by
  unfold F_X4_clear
  simp only [lpL hc, lpI hc, lgk hc]
  obtain ⟨S', r1, r2, r3⟩ := clearA_e hc (setI (setL (setL (setL (setL (setL S c 2 0) c 3 0) c 4 0) c 5 0) c 6 0) c 12 0)
  rw [r1, cl_some]
  have f0 := r3.1 c (by omega)
  have f0' := r3.2 c (by omega) (by omega) (by omega)
  refine ⟨S', rfl, r2, ?_, ?_, ?_, ?_, ?_, ?_, ?_⟩
  · rw [f0']; simp (disch := omega) only [setL_n, setL_k, setL_s, sI2]
  · rw [f0']; simp (disch := omega) only [setL_n, setL_k, setL_s, sI2]
  · rw [f0']; simp (disch := omega) only [setL_n, setL_k, setL_s, sI2]
  · rw [f0']; simp (disch := omega) only [setL_n, setL_k, setL_s, sI2]
  · rw [f0']; simp (disch := omega) only [setL_n, setL_k, setL_s, sI2]
  · rw [f0]; simp (disch := omega) only [setI_s]
  · refine offL.tr ?_ r3.L
    intro x hx
    simp (disch := omega) only [setL_n, setI_n, sI2, sL1]
    exact ⟨trivial, trivial⟩
end CLP
