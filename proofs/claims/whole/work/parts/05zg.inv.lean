/-! WHAT HOLDS BETWEEN CALLS -/
def HLp (S : St) (n h : Nat) : Prop := ∃ s, s ≤ 3 ∧ S.1 (190 + 2 * h) 0 = nI s ∧ S.1 213 h = nI s ∧ (s = 1 → ∃ i, i < n ∧ S.1 (190 + 2 * h) 1 = nI i ∧ S.1 214 h = nI i) ∧ (s = 2 → Int32.toInt64 (S.1 (190 + 2 * h) 1) = S.2 215 h ∧ S.2 (190 + 2 * h) 3 = S.2 216 h) ∧ (s = 3 → ∃ k, k ≤ 60 ∧ S.1 (190 + 2 * h) 2 = nI k ∧ S.1 217 h = nI k ∧ ∀ j, j < k → S.2 (191 + 2 * h) j = S.2 (219 + h) j)
def TPp (S : St) : Prop := ∃ n, n ≤ 120 ∧ S.1 186 0 = nI n ∧ S.1 202 12 = nI n ∧ ∀ j, j < n → ∃ v, v ≤ 255 ∧ S.1 187 j = nI v ∧ S.1 212 j = nI v
def KPp (S : St) : Prop := (S.1 0 3 = 0 ∧ S.1 202 4 = 0) ∨ (S.1 0 3 = 1 ∧ S.1 202 4 = 1 ∧ ∃ K, CB S 117 K ∧ RB S 206 K ∧ GX K)
def RS (S : St) (n : Nat) : Prop := KPp S ∧ TPp S ∧ ∀ h, h < 6 → HLp S n h
def Inv (S : St) : Prop := ∃ B, GX B ∧ CB S 1 B ∧ RB S 203 B ∧ RS S B.2.2.2.1
/-- what RS reads is as it was -/
def fr (S S' : St) : Prop := (∀ a, (a = 0 ∨ (117 ≤ a ∧ a ≤ 174) ∨ a = 187 ∨ (190 ≤ a ∧ a ≤ 201) ∨ a = 206 ∨ (212 ≤ a ∧ a ≤ 224)) → S'.1 a = S.1 a ∧ S'.2 a = S.2 a) ∧ S'.1 186 0 = S.1 186 0 ∧ S'.1 202 4 = S.1 202 4 ∧ S'.1 202 12 = S.1 202 12
theorem fr.tr {S S' S'' : St} (h : fr S S') (h2 : fr S' S'') : fr S S'' := ⟨fun a ha => ⟨(h2.1 a ha).1.trans (h.1 a ha).1, (h2.1 a ha).2.trans (h.1 a ha).2⟩, h2.2.1.trans h.2.1, h2.2.2.1.trans h.2.2.1, h2.2.2.2.trans h.2.2.2⟩
theorem offK.fr {S S' : St} (h : offK S S') : fr S S' := ⟨fun a ha => h a (by omega), by rw [(h 186 (by omega)).1], by rw [(h 202 (by omega)).1], by rw [(h 202 (by omega)).1]⟩
theorem offQ.fr {S S' : St} (h : offQ S S') : fr S S' := ⟨fun a ha => ⟨h.1 a (by omega) (by omega), h.2.2 a (by omega)⟩, by rw [h.1 186 (by omega) (by omega)], h.2.1 4 (by omega), h.2.1 12 (by omega)⟩
theorem HLp.mo {S : St} {n n' h : Nat} (H : HLp S n h) (hn : n ≤ n') : HLp S n' h := by
  obtain ⟨s, h1, h2, h3, h4, h5, h6⟩ := H
  exact ⟨s, h1, h2, h3, fun e => by obtain ⟨i, q1, q2⟩ := h4 e; exact ⟨i, by omega, q2⟩, h5, h6⟩
theorem HLp.fr {S S' : St} {n h : Nat} (H : HLp S n h) (hh : h < 6) (e : fr S S') : HLp S' n h := by
  unfold HLp at *
  rw [(e.1 (190 + 2 * h) (by omega)).1, (e.1 213 (by omega)).1, (e.1 214 (by omega)).1, (e.1 215 (by omega)).2, (e.1 216 (by omega)).2, (e.1 217 (by omega)).1, (e.1 (190 + 2 * h) (by omega)).2, (e.1 (191 + 2 * h) (by omega)).2, (e.1 (219 + h) (by omega)).2]
  exact H
theorem TPp.fr {S S' : St} (H : TPp S) (e : fr S S') : TPp S' := by
  unfold TPp at *
  rw [e.2.1, e.2.2.2, (e.1 187 (by omega)).1, (e.1 212 (by omega)).1]
  exact H
theorem CB.fr {S S' : St} {K : Bk} (H : CB S 117 K) (g8 : K.2.2.2.1 ≤ 8) (e : fr S S') : CB S' 117 K := by
  obtain ⟨q0, q1, q2, q3, q4⟩ := H
  have e1 := (e.1 117 (by omega)).1
  exact ⟨by rw [e1]; exact q0, by rw [e1]; exact q1, by rw [e1]; exact q2, by rw [e1]; exact q3, fun j hj => (q4 j hj).same (fun x hx => e.1 _ (by omega))⟩
theorem KPp.fr {S S' : St} (H : KPp S) (e : fr S S') : KPp S' := by
  unfold KPp at *
  rw [(e.1 0 (by omega)).1, e.2.2.1]
  rcases H with H | ⟨h1, h2, K, h3, h4, h5⟩
  · exact Or.inl H
  · exact Or.inr ⟨h1, h2, K, h3.fr h5.1.2.2.2.1 e, h4.same (e.1 206 (by omega)).2, h5⟩
theorem RS.fr {S S' : St} {n n' : Nat} (H : RS S n) (hn : n ≤ n') (e : fr S S') : RS S' n' := ⟨H.1.fr e, H.2.1.fr e, fun h hh => ((H.2.2 h hh).fr hh e).mo hn⟩
theorem CB.Q {S S' : St} {B : Bk} (H : CB S 1 B) (g8 : B.2.2.2.1 ≤ 8) (e : offQ S S') : CB S' 1 B := by
  obtain ⟨q0, q1, q2, q3, q4⟩ := H
  have e1 := e.1 1 (by omega) (by omega)
  exact ⟨by rw [e1]; exact q0, by rw [e1]; exact q1, by rw [e1]; exact q2, by rw [e1]; exact q3, fun j hj => (q4 j hj).same (fun x hx => ⟨e.1 _ (by omega) (by omega), e.2.2 _ (by omega)⟩)⟩
/-- a call, both sides, one after the other -/
def Step {α : Type} (F G : St → Option (α × St)) : Prop := ∀ S, Inv S → ∃ r S1 S2, F S = some (r, S1) ∧ G S1 = some (r, S2) ∧ Inv S2
theorem two_step {α : Type} {F G : St → Option (α × St)} (h : ∀ B, GX B → TwoB F G B) : Step F G := by
  rintro S ⟨B, hG, hC, hR, hRS⟩
  obtain ⟨r, B', t1, t2, t3, t4⟩ := h B hG
  obtain ⟨S1, u1, u2, u3⟩ := t3 S hC
  obtain ⟨S2, v1, v2, v3⟩ := t4 S1 (hR.same (u3 203 (by omega)).2)
  exact ⟨r, S1, S2, u1, v1, B', t1, u2.Q t1.1.2.2.2.1 v3, v2, hRS.fr t2 (u3.fr.tr v3.fr)⟩
theorem same_step {α : Type} {F G : St → Option (α × St)} (h : ∀ S, ∃ r, F S = some (r, S) ∧ G S = some (r, S)) : Step F G := by
  intro S hI
  obtain ⟨r, h1, h2⟩ := h S
  exact ⟨r, S, S, h1, h2, hI⟩
theorem y_date (a b : Int32) : Step (F_X7_date 0 a b) (F_X8_date 202 a b) := same_step (fun S => c_date a b S)
theorem y_dayOf (a b c : Int32) : Step (F_X7_dayOf 0 a b c) (F_X8_dayOf 202 a b c) := same_step (fun S => c_dayOf a b c S)
theorem y_interest (a : Int64) (b c d e : Int32) : Step (F_X7_interest 0 a b c d e) (F_X8_interest 202 a b c d e) := same_step (fun S => c_interest a b c d e S)
theorem y_loan (a : Int64) (b c d : Int32) : Step (F_X7_loan 0 a b c d) (F_X8_loan 202 a b c d) := two_step (fun _ h => t_loan h a b c d)
theorem y_days (a : Int32) : Step (F_X7_days 0 a) (F_X8_days 202 a) := two_step (fun _ h => t_days h a)
theorem y_pay (a : Int32) (b : Int64) : Step (F_X7_pay 0 a b) (F_X8_pay 202 a b) := two_step (fun _ h => t_pay h a b)
theorem y_reset (a b : Int32) : Step (F_X7_reset 0 a b) (F_X8_reset 202 a b) := two_step (fun _ h => t_reset h a b)
theorem y_writeOff (a : Int32) : Step (F_X7_writeOff 0 a) (F_X8_writeOff 202 a) := two_step (fun _ h => t_writeOff h a)
theorem y_rule (a b : Int32) : Step (F_X7_rule 0 a b) (F_X8_rule 202 a b) := two_step (fun _ h => t_rule h a b)
theorem y_of (a b : Int32) : Step (F_X7_of 0 a b) (F_X8_of 202 a b) := two_step (fun _ h => t_of h a b)
theorem y_sum (a b : Int32) : Step (F_X7_sum 0 a b) (F_X8_sum 202 a b) := two_step (fun _ h => t_sum h a b)
theorem y_bill (a b c : Int32) : Step (F_X7_bill 0 a b c) (F_X8_bill 202 a b c) := two_step (fun _ h => t_bill h a b c)
theorem y_toCome (a b c : Int32) : Step (F_X7_toCome 0 a b c) (F_X8_toCome 202 a b c) := two_step (fun _ h => t_toCome h a b c)
theorem y_coming (a b : Int32) : Step (F_X7_coming 0 a b) (F_X8_coming 202 a b) := two_step (fun _ h => t_coming h a b)
theorem y_behind (a : Int32) : Step (F_X7_behind 0 a) (F_X8_behind 202 a) := two_step (fun _ h => t_behind h a)
theorem y_settles (a : Int32) : Step (F_X7_settles 0 a) (F_X8_settles 202 a) := two_step (fun _ h => t_settles h a)
theorem y_would (a : Int32) (b : Int64) (c : Int32) : Step (F_X7_would 0 a b c) (F_X8_would 202 a b c) := two_step (fun _ h => t_would h a b c)
theorem y_sooner (a : Int32) (b : Int64) : Step (F_X7_sooner 0 a b) (F_X8_sooner 202 a b) := two_step (fun _ h => t_sooner h a b)
/-! holders -/
def HCb (h : Nat) : Bool := decide (kd0 (190 + 2 * h) = (1, 0)) && (decide (kd0 (191 + 2 * h) = (11, 60)) && decide (kd0 (219 + h) = (11, 60)))
theorem HC_chk : all_lt 6 HCb = true := by decide +kernel
theorem HC {h : Nat} (hh : h < 6) : kd0 (190 + 2 * h) = (1, 0) ∧ kd0 (191 + 2 * h) = (11, 60) ∧ kd0 (219 + h) = (11, 60) := by
  have := all_lt_e HC_chk hh
  unfold HCb at this
  simp only [Bool.and_eq_true, decide_eq_true_eq] at this
  exact this
theorem kd189 : kd0 189 = (13, 6) := by decide +kernel
theorem kd218 : kd0 218 = (15, 6) := by decide +kernel
theorem kd213 : kd0 213 = (10, 6) := by decide +kernel
theorem kd214 : kd0 214 = (10, 6) := by decide +kernel
theorem kd215 : kd0 215 = (11, 6) := by decide +kernel
theorem kd216 : kd0 216 = (11, 6) := by decide +kernel
theorem kd217 : kd0 217 = (10, 6) := by decide +kernel
section HLD
variable {β : Type} {h : Nat}
theorem hR (hh : h < 6) (K : Nat → Option β) : aR 13 189 (nI h) K = K (190 + 2 * h) := by
  unfold aR R0
  rw [kd189, if_pos ⟨rfl, inb_nI hh (by omega)⟩, clamp_nI (by omega)]
  simp [rK, hh]
theorem wR (hh : h < 6) (K : Nat → Option β) : aR 15 218 (nI h) K = K (219 + h) := by
  unfold aR R0
  rw [kd218, if_pos ⟨rfl, inb_nI hh (by omega)⟩, clamp_nI (by omega)]
  simp [rK, hh]
theorem hI (hh : h < 6) (k : Nat) (S : St) (K : Int32 → Option β) : gI 1 k (190 + 2 * h) S K = K (S.1 (190 + 2 * h) k) := by
  unfold gI
  rw [(HC hh).1]
  rfl
theorem hL (hh : h < 6) (k : Nat) (S : St) (K : Int64 → Option β) : gL 1 k (190 + 2 * h) S K = K (S.2 (190 + 2 * h) k) := by
  unfold gL
  rw [(HC hh).1]
  rfl
theorem hpI (hh : h < 6) (k : Nat) (v : Int32) (S : St) (K : St → Option β) : pI 1 k (190 + 2 * h) v S K = K (setI S (190 + 2 * h) k v) := by
  unfold pI
  rw [(HC hh).1]
  rfl
theorem hpL (hh : h < 6) (k : Nat) (v : Int64) (S : St) (K : St → Option β) : pL 1 k (190 + 2 * h) v S K = K (setL S (190 + 2 * h) k v) := by
  unfold pL
  rw [(HC hh).1]
  rfl
theorem hgk (hh : h < 6) (x : Option β) : gk (190 + 2 * h) 1 x = x := by
  unfold gk
  rw [(HC hh).1]
  rfl
theorem hr4 (hh : h < 6) (K : Nat → Option β) : gR 1 4 (190 + 2 * h) K = K (191 + 2 * h) := by
  unfold gR R0
  rw [(HC hh).1]
  show K (190 + 2 * h + 1) = _
  congr 1
  omega
theorem mR13 (K : Nat → Option β) : gR 6 13 202 K = K 213 := mgR rfl K
theorem mR14 (K : Nat → Option β) : gR 6 14 202 K = K 214 := mgR rfl K
theorem mR15 (K : Nat → Option β) : gR 6 15 202 K = K 215 := mgR rfl K
theorem mR16 (K : Nat → Option β) : gR 6 16 202 K = K 216 := mgR rfl K
theorem mR17 (K : Nat → Option β) : gR 6 17 202 K = K 217 := mgR rfl K
theorem mR18 (K : Nat → Option β) : gR 6 18 202 K = K 218 := mgR rfl K
end HLD
