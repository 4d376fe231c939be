/-! A BOOK of the class: DAY, GRACE, LATE FEE, how many, the LOANS -/
abbrev Bk : Type := Nat × Nat × Nat × Nat × (Nat → Ln)
def CB (S : St) (b : Nat) (B : Bk) : Prop := S.1 b 0 = nI B.1 ∧ S.1 b 1 = nI B.2.1 ∧ S.1 b 2 = nI B.2.2.1 ∧ S.1 b 3 = nI B.2.2.2.1 ∧ ∀ i, i < B.2.2.2.1 → CL S (b + 2 + 7 * i) (B.2.2.2.2 i)
/-- DONE is what has ended up to day d -/
def DY (d : Nat) (l : Ln) : Prop := l.1 6 ≤ d ∧ pe (l.1 6) (l.1 7) ≤ d ∧ (l.1 7 < l.1 4 → d < pe (l.1 6) (l.1 7 + 1))
def GB (B : Bk) : Prop := B.1 ≤ 36524 ∧ B.2.1 ≤ 90 ∧ B.2.2.1 ≤ 10000 ∧ B.2.2.2.1 ≤ 8 ∧ ∀ i, i < B.2.2.2.1 → GD (B.2.2.2.2 i) ∧ DY B.1 (B.2.2.2.2 i)
def LBb (b : Nat) : Bool := decide (kd0 b = (0, 0)) && decide (kd0 (b + 1) = (14, 8))
theorem LB_kd {b : Nat} (h : LB b) : kd0 b = (0, 0) ∧ kd0 (b + 1) = (14, 8) := by
  have h1 : LBb 1 = true := by decide +kernel
  have h2 : LBb 59 = true := by decide +kernel
  have h3 : LBb 117 = true := by decide +kernel
  unfold LBb at h1 h2 h3
  simp only [Bool.and_eq_true, decide_eq_true_eq] at h1 h2 h3
  rcases h with rfl | rfl | rfl
  · exact h1
  · exact h2
  · exact h3
section BKS
variable {β : Type} {b : Nat}
theorem bI (h : LB b) (k : Nat) (S : St) (K : Int32 → Option β) : gI 0 k b S K = K (S.1 b k) := by
  unfold gI
  rw [(LB_kd h).1]
  rfl
theorem bpI (h : LB b) (k : Nat) (v : Int32) (S : St) (K : St → Option β) : pI 0 k b v S K = K (setI S b k v) := by
  unfold pI
  rw [(LB_kd h).1]
  rfl
theorem bgk (h : LB b) (x : Option β) : gk b 0 x = x := by
  unfold gk
  rw [(LB_kd h).1]
  rfl
theorem br4 (h : LB b) (K : Nat → Option β) : gR 0 4 b K = K (b + 1) := by
  unfold gR R0
  rw [(LB_kd h).1]
  rfl
theorem baR (h : LB b) {i : Nat} (hi : i < 8) (K : Nat → Option β) : aR 14 (b + 1) (nI i) K = K (b + 2 + 7 * i) := by
  unfold aR R0
  rw [(LB_kd h).2, if_pos ⟨rfl, inb_nI hi (by omega)⟩, clamp_nI (by omega)]
  simp [rK, hi]
end BKS
def offB (S S' : St) (b : Nat) : Prop := ∀ a, (a < b ∨ b + 57 < a) → S'.1 a = S.1 a ∧ S'.2 a = S.2 a
theorem offB.rf (S : St) (b : Nat) : offB S S b := fun _ _ => ⟨rfl, rfl⟩
theorem offB.tr {S S' S'' : St} {b : Nat} (h : offB S S' b) (h2 : offB S' S'' b) : offB S S'' b := fun a ha => ⟨(h2 a ha).1.trans (h a ha).1, (h2 a ha).2.trans (h a ha).2⟩
theorem offL.B {S S' : St} {b i : Nat} (h : offL S S' (b + 2 + 7 * i)) (hi : i < 8) : offB S S' b := fun a ha => h a (by omega)
theorem offB.I {S S' : St} {b : Nat} (h : offB S S' b) (k : Nat) (v : Int32) : offB S (setI S' b k v) b := fun a ha => by
  refine ⟨?_, (h a ha).2⟩
  rw [← (h a ha).1, setI_n (by omega)]
theorem CL.same {S S' : St} {d : Nat} {l : Ln} (h : CL S d l) (hf : ∀ j, j ≤ 6 → S'.1 (d + j) = S.1 (d + j) ∧ S'.2 (d + j) = S.2 (d + j)) : CL S' d l := by
  obtain ⟨⟨a0, a1, a2, a3, a4, a5, a6⟩, ⟨b0, b1, b2, b3, b4, b5⟩, e1, e2, e3⟩ := h
  have f0 := hf 0 (by omega)
  have f1 := hf 1 (by omega)
  have f2 := hf 2 (by omega)
  have f3 := hf 3 (by omega)
  have f4 := hf 4 (by omega)
  have f5 := hf 5 (by omega)
  have f6 := hf 6 (by omega)
  rw [Nat.add_zero] at f0
  unfold CL
  rw [f0.1, f0.2, f1.1, f2.2, f3.2, f4.2, f5.2, f6.1]
  exact ⟨⟨a0, a1, a2, a3, a4, a5, a6⟩, ⟨b0, b1, b2, b3, b4, b5⟩, e1, e2, e3⟩
section BKM
variable {S : St} {b : Nat} {B : Bk}
theorem CB.off {S' : St} {b' : Nat} (h : CB S b B) (hn : B.2.2.2.1 ≤ 8) (hf : offB S S' b') (hd : b + 57 < b' ∨ b' + 57 < b) : CB S' b B := by
  obtain ⟨h1, h2, h3, h4, h5⟩ := h
  have f := (hf b (by omega)).1
  refine ⟨by rw [f]; exact h1, by rw [f]; exact h2, by rw [f]; exact h3, by rw [f]; exact h4, fun i hi => ?_⟩
  exact (h5 i hi).same (fun j hj => hf _ (by omega))
/-- a change of loan i alone -/
theorem CB.loan {S' : St} {i : Nat} {l' : Ln} (h : CB S b B) (hi : i < B.2.2.2.1) (hn : B.2.2.2.1 ≤ 8) (hf : offL S S' (b + 2 + 7 * i)) (hl : CL S' (b + 2 + 7 * i) l') : CB S' b (B.1, B.2.1, B.2.2.1, B.2.2.2.1, up B.2.2.2.2 i l') := by
  obtain ⟨h1, h2, h3, h4, h5⟩ := h
  have f := (hf b (by omega)).1
  refine ⟨by rw [f]; exact h1, by rw [f]; exact h2, by rw [f]; exact h3, by rw [f]; exact h4, fun j hj => ?_⟩
  have hj' : j < B.2.2.2.1 := hj
  by_cases e : j = i
  · subst e
    show CL S' _ (up B.2.2.2.2 j l' j)
    rw [up_s]
    exact hl
  · show CL S' _ (up B.2.2.2.2 i l' j)
    rw [up_n _ _ e]
    exact (h5 j hj').off hf (by omega)
theorem has_e (hb : LB b) (hS : CB S b B) (hn : B.2.2.2.1 ≤ 8) (a : Int32) : ((∀ i, i < B.2.2.2.1 → a ≠ nI i) ∧ F_X1_has b a S = some (0, S)) ∨ (∃ i, i < B.2.2.2.1 ∧ a = nI i ∧ F_X1_has b a S = some (1, S)) := by
  unfold F_X1_has J_X1_has_16 J_X1_has_17
  rcases nI_or_neg a with h | ⟨k, hk, rfl⟩
  · refine Or.inl ⟨fun i hi e => ?_, by rw [if_pos h]; rfl⟩
    subst e
    exact nI_pos (show i < 2 ^ 31 by omega) h
  · rw [if_neg (nI_pos hk), bI hb, hS.2.2.2.1]
    by_cases h2 : k < B.2.2.2.1
    · refine Or.inr ⟨k, h2, rfl, ?_⟩
      rw [if_neg (by rw [nI_leI (by omega) (by omega)]; omega)]
      rfl
    · refine Or.inl ⟨fun i hi e => ?_, ?_⟩
      · rw [nI_eq (by omega) (by omega)] at e
        omega
      · rw [if_pos (by rw [nI_leI (by omega) (by omega)]; omega)]
        rfl
theorem copyB_loop {b' : Nat} (hb : LB b) (hb' : LB b') (hne : b ≠ b') (hG : GB B) : ∀ (j n i : Nat) (S : St), j < n → i + j = B.2.2.2.1 → CB S b' B → S.1 b 0 = nI B.1 → S.1 b 1 = nI B.2.1 → S.1 b 2 = nI B.2.2.1 → S.1 b 3 = nI B.2.2.2.1 → (∀ q, q < i → CL S (b + 2 + 7 * q) (B.2.2.2.2 q)) → ∃ S', L_X1_copyFrom_34 n b b' (nI i) S = some ((), S') ∧ CB S' b B ∧ offB S S' b
  | _, 0, _, _, h, _, _, _, _, _, _, _ => absurd h (Nat.not_lt_zero _)
  | 0, n + 1, i, S, _, hi, hS, h0, h1, h2, h3, h4 => by
    have hn8 := hG.2.2.2.1
    refine ⟨S, ?_, ⟨h0, h1, h2, h3, fun q hq => h4 q (by omega)⟩, offB.rf S b⟩
    show B_X1_copyFrom_34 _ _ _ _ _ = _
    unfold B_X1_copyFrom_34
    rw [bI hb, h3, if_pos (by rw [nI_leI (by omega) (by omega)]; omega)]
  | j + 1, n + 1, i, S, hn, hi, hS, h0, h1, h2, h3, h4 => by
    have hn8 := hG.2.2.2.1
    have hbd : b + 57 < b' ∨ b' + 57 < b := by
      rcases hb with rfl | rfl | rfl <;> rcases hb' with rfl | rfl | rfl <;> omega
    obtain ⟨S1, r1, r2, r3⟩ := copyLoan_e (LC_book hb' (show i < 8 by omega)) (LC_book hb (show i < 8 by omega)) (by omega) (hS.2.2.2.2 i (by omega)) (hG.2.2.2.2 i (by omega)).1
    show ∃ S', B_X1_copyFrom_34 _ _ _ _ _ = _ ∧ _
    unfold B_X1_copyFrom_34
    rw [bI hb, h3, if_neg (by rw [nI_leI (by omega) (by omega)]; omega), br4 hb, baR hb (by omega), br4 hb', baR hb' (by omega), lgk (LC_book hb (by omega)), r1, cl_some, show nI i + 1 = nI (i + 1) from nI_1 i]
    have f := (r3 b (by omega)).1
    obtain ⟨S2, s1, s2, s3⟩ := copyB_loop hb hb' hne hG j n (i + 1) S1 (by omega) (by omega)
      (by
        obtain ⟨q0, q1, q2, q3, q4⟩ := hS
        have f' := (r3 b' (by omega)).1
        exact ⟨by rw [f']; exact q0, by rw [f']; exact q1, by rw [f']; exact q2, by rw [f']; exact q3, fun q hq => (q4 q hq).off r3 (by omega)⟩)
      (by rw [f]; exact h0) (by rw [f]; exact h1) (by rw [f]; exact h2) (by rw [f]; exact h3)
      (by
        intro q hq
        by_cases e : q = i
        · subst e
          exact r2
        · exact (h4 q (by omega)).off r3 (by omega))
    exact ⟨S2, s1, s2, (r3.B (by omega)).tr s3⟩
theorem copyBook_e {b' : Nat} (hb : LB b) (hb' : LB b') (hne : b ≠ b') (hG : GB B) (hS : CB S b' B) : ∃ S', F_X1_copyFrom b b' S = some ((), S') ∧ CB S' b B ∧ offB S S' b := by
  have hn8 := hG.2.2.2.1
  have hbd : b + 57 < b' ∨ b' + 57 < b := by
    rcases hb with rfl | rfl | rfl <;> rcases hb' with rfl | rfl | rfl <;> omega
  have h9 := hS
  obtain ⟨q0, q1, q2, q3, q4⟩ := hS
  have hbb : b' ≠ b := Ne.symm hne
  unfold F_X1_copyFrom
  rw [bI hb', q0, bpI hb, bI hb', setI_n hbb, q1, bpI hb, bI hb', setI_n hbb, setI_n hbb, q2, bpI hb, bI hb', setI_n hbb, setI_n hbb, setI_n hbb, q3, bpI hb]
  have ho : offB S (setI (setI (setI (setI S b 0 (nI B.1)) b 1 (nI B.2.1)) b 2 (nI B.2.2.1)) b 3 (nI B.2.2.2.1)) b := ((((offB.rf S b).I 0 _).I 1 _).I 2 _).I 3 _
  have hL : ∀ q, q < B.2.2.2.1 → CL (setI (setI (setI (setI S b 0 (nI B.1)) b 1 (nI B.2.1)) b 2 (nI B.2.2.1)) b 3 (nI B.2.2.2.1)) (b' + 2 + 7 * q) (B.2.2.2.2 q) := fun q hq => (q4 q hq).off (c := b) (fun a ha => by
    simp (disch := omega) only [setI_n, sI2]
    exact ⟨trivial, trivial⟩) (by omega)
  obtain ⟨S2, s1, s2, s3⟩ := copyB_loop hb hb' hne hG B.2.2.2.1 6000 0 (setI (setI (setI (setI S b 0 (nI B.1)) b 1 (nI B.2.1)) b 2 (nI B.2.2.1)) b 3 (nI B.2.2.2.1)) (by omega) (by omega)
    ⟨by simp only [setI_n hbb]; exact q0, by simp only [setI_n hbb]; exact q1, by simp only [setI_n hbb]; exact q2, by simp only [setI_n hbb]; exact q3, hL⟩
    (by simp (disch := omega) only [setI_k, setI_s]) (by simp (disch := omega) only [setI_k, setI_s]) (by simp (disch := omega) only [setI_k, setI_s]) (by simp (disch := omega) only [setI_k, setI_s])
    (fun q hq => absurd hq (Nat.not_lt_zero _))
  exact ⟨S2, s1, s2, ho.tr s3⟩
end BKM
