/-! what a store does to a LOAN of the class -/
section CLU
variable {S : St} {c : Nat} {l : Ln}
theorem add_ne {c j : Nat} (h : 0 < j) : ¬ c + j = c := by omega
theorem cl_lvl (h : CL S c l) (v : Nat) : CL (setL S c 2 (lN v)) c (up l.1 9 v, l.2) := by
  obtain ⟨⟨a0, a1, a2, a3, a4, a5, a6⟩, ⟨b0, b1, b2, b3, b4, b5⟩, e1, e2, e3⟩ := h
  refine ⟨⟨?_, ?_, ?_, ?_, ?_, ?_, ?_⟩, ⟨?_, ?_, ?_, ?_, ?_, ?_⟩, ?_, ?_, ?_⟩ <;> simp [sL1, sL2, up] <;> first | assumption | (intro k hk; exact e3 k hk)
theorem cl_rate (h : CL S c l) (v : Nat) : CL (setI S c 7 (nI v)) c (up l.1 1 v, l.2) := by
  obtain ⟨⟨a0, a1, a2, a3, a4, a5, a6⟩, ⟨b0, b1, b2, b3, b4, b5⟩, e1, e2, e3⟩ := h
  refine ⟨⟨?_, ?_, ?_, ?_, ?_, ?_, ?_⟩, ⟨?_, ?_, ?_, ?_, ?_, ?_⟩, ?_, ?_, ?_⟩ <;> simp [sI1, sI2, up] <;> first | assumption | (intro k hk; exact e3 k hk)
theorem cl_bal (h : CL S c l) (v : Nat) : CL (setL S c 1 (lN v)) c (up l.1 8 v, l.2) := by
  obtain ⟨⟨a0, a1, a2, a3, a4, a5, a6⟩, ⟨b0, b1, b2, b3, b4, b5⟩, e1, e2, e3⟩ := h
  refine ⟨⟨?_, ?_, ?_, ?_, ?_, ?_, ?_⟩, ⟨?_, ?_, ?_, ?_, ?_, ?_⟩, ?_, ?_, ?_⟩ <;> simp [sL1, sL2, up] <;> first | assumption | (intro k hk; exact e3 k hk)
theorem cl_done (h : CL S c l) (v : Nat) : CL (setI S c 12 (nI v)) c (up l.1 7 v, l.2) := by
  obtain ⟨⟨a0, a1, a2, a3, a4, a5, a6⟩, ⟨b0, b1, b2, b3, b4, b5⟩, e1, e2, e3⟩ := h
  refine ⟨⟨?_, ?_, ?_, ?_, ?_, ?_, ?_⟩, ⟨?_, ?_, ?_, ?_, ?_, ?_⟩, ?_, ?_, ?_⟩ <;> simp [sI1, sI2, up] <;> first | assumption | (intro k hk; exact e3 k hk)
theorem cl_got (h : CL S c l) (w : Nat) (hw : w < 4) (v : Int64) : CL (setL S c (3 + w) v) c (l.1, up l.2.1 w v, l.2.2) := by
  obtain ⟨⟨a0, a1, a2, a3, a4, a5, a6⟩, ⟨b0, b1, b2, b3, b4, b5⟩, e1, e2, e3⟩ := h
  have hw4 : w = 0 ∨ w = 1 ∨ w = 2 ∨ w = 3 := by omega
  rcases hw4 with rfl | rfl | rfl | rfl <;> refine ⟨⟨?_, ?_, ?_, ?_, ?_, ?_, ?_⟩, ⟨?_, ?_, ?_, ?_, ?_, ?_⟩, ?_, ?_, ?_⟩ <;> simp [sL1, sL2, up] <;> first | assumption | (intro k hk; exact e3 k hk)
/-- one bill's interest, principal, fee, mark -/
theorem cl_int (h : CL S c l) (k v : Nat) : CL (setL S (c + 4) k (lN v)) c (l.1, l.2.1, up l.2.2 k (v, (l.2.2 k).2)) := by
  obtain ⟨⟨a0, a1, a2, a3, a4, a5, a6⟩, ⟨b0, b1, b2, b3, b4, b5⟩, e1, e2, e3⟩ := h
  refine ⟨⟨?_, ?_, ?_, ?_, ?_, ?_, ?_⟩, ⟨?_, ?_, ?_, ?_, ?_, ?_⟩, ?_, ?_, ?_⟩ <;> simp [sL1, sL2] <;> try assumption
  intro j hj
  have := e3 j hj
  by_cases hjk : j = k
  · subst hjk
    simp [up_s, this]
  · simp [up_n _ _ hjk, hjk, this]
theorem cl_prin (h : CL S c l) (k v : Nat) : CL (setL S (c + 5) k (lN v)) c (l.1, l.2.1, up l.2.2 k ((l.2.2 k).1, v, (l.2.2 k).2.2)) := by
  obtain ⟨⟨a0, a1, a2, a3, a4, a5, a6⟩, ⟨b0, b1, b2, b3, b4, b5⟩, e1, e2, e3⟩ := h
  refine ⟨⟨?_, ?_, ?_, ?_, ?_, ?_, ?_⟩, ⟨?_, ?_, ?_, ?_, ?_, ?_⟩, ?_, ?_, ?_⟩ <;> simp [sL1, sL2] <;> try assumption
  intro j hj
  have := e3 j hj
  by_cases hjk : j = k
  · subst hjk
    simp [up_s, this]
  · simp [up_n _ _ hjk, hjk, this]
theorem cl_fee (h : CL S c l) (k v : Nat) : CL (setL S (c + 3) k (lN v)) c (l.1, l.2.1, up l.2.2 k ((l.2.2 k).1, (l.2.2 k).2.1, v, (l.2.2 k).2.2.2)) := by
  obtain ⟨⟨a0, a1, a2, a3, a4, a5, a6⟩, ⟨b0, b1, b2, b3, b4, b5⟩, e1, e2, e3⟩ := h
  refine ⟨⟨?_, ?_, ?_, ?_, ?_, ?_, ?_⟩, ⟨?_, ?_, ?_, ?_, ?_, ?_⟩, ?_, ?_, ?_⟩ <;> simp [sL1, sL2] <;> try assumption
  intro j hj
  have := e3 j hj
  by_cases hjk : j = k
  · subst hjk
    simp [up_s, this]
  · simp [up_n _ _ hjk, hjk, this]
theorem cl_mark (h : CL S c l) (k v : Nat) : CL (setI S (c + 6) k (nI v)) c (l.1, l.2.1, up l.2.2 k ((l.2.2 k).1, (l.2.2 k).2.1, (l.2.2 k).2.2.1, v)) := by
  obtain ⟨⟨a0, a1, a2, a3, a4, a5, a6⟩, ⟨b0, b1, b2, b3, b4, b5⟩, e1, e2, e3⟩ := h
  refine ⟨⟨?_, ?_, ?_, ?_, ?_, ?_, ?_⟩, ⟨?_, ?_, ?_, ?_, ?_, ?_⟩, ?_, ?_, ?_⟩ <;> simp [sI1, sI2] <;> try assumption
  intro j hj
  have := e3 j hj
  by_cases hjk : j = k
  · subst hjk
    simp [up_s, this]
  · simp [up_n _ _ hjk, hjk, this]
/-- two states that differ at a loan's seven cells alone -/
def offL (S S' : St) (c : Nat) : Prop := ∀ a, (a < c ∨ c + 6 < a) → S'.1 a = S.1 a ∧ S'.2 a = S.2 a
theorem offL.rf (S : St) (c : Nat) : offL S S c := fun _ _ => ⟨rfl, rfl⟩
theorem offL.tr {S S' S'' : St} {c : Nat} (h : offL S S' c) (h2 : offL S' S'' c) : offL S S'' c := fun a ha => ⟨(h2 a ha).1.trans (h a ha).1, (h2 a ha).2.trans (h a ha).2⟩
theorem offL.I {S S' : St} {c : Nat} (h : offL S S' c) {j : Nat} (hj : j ≤ 6) (k : Nat) (v : Int32) : offL S (setI S' (c + j) k v) c := fun a ha => by
  refine ⟨?_, (h a ha).2⟩
  rw [← (h a ha).1]
  funext i
  rw [sI1, if_neg (by omega)]
theorem offL.L {S S' : St} {c : Nat} (h : offL S S' c) {j : Nat} (hj : j ≤ 6) (k : Nat) (v : Int64) : offL S (setL S' (c + j) k v) c := fun a ha => by
  refine ⟨(h a ha).1, ?_⟩
  rw [← (h a ha).2]
  funext i
  rw [sL2, if_neg (by omega)]
theorem CL.off {S S' : St} {c d : Nat} {l : Ln} (h : CL S d l) (hf : offL S S' c) (hd : d + 6 < c ∨ c + 6 < d) : CL S' d l := by
  obtain ⟨⟨a0, a1, a2, a3, a4, a5, a6⟩, ⟨b0, b1, b2, b3, b4, b5⟩, e1, e2, e3⟩ := h
  have f0 := hf d (by omega)
  have f1 := hf (d + 1) (by omega)
  have f2 := hf (d + 2) (by omega)
  have f3 := hf (d + 3) (by omega)
  have f4 := hf (d + 4) (by omega)
  have f5 := hf (d + 5) (by omega)
  have f6 := hf (d + 6) (by omega)
  unfold CL
  rw [f0.1, f0.2, f1.1, f2.2, f3.2, f4.2, f5.2, f6.1]
  exact ⟨⟨a0, a1, a2, a3, a4, a5, a6⟩, ⟨b0, b1, b2, b3, b4, b5⟩, e1, e2, e3⟩
theorem up_id {α : Type} (f : Nat → α) (k : Nat) : up f k (f k) = f := by
  funext j
  unfold up
  split
  · next h => rw [h]
  · rfl
theorem findLevel_e (hc : LC c) (hS : CL S c l) (hG : GD l) : ∃ S', F_X4_findLevel c S = some ((), S') ∧ CL S' c (relv l) ∧ offL S S' c := by
  have hk := hG.2.2.2.1
  have hb := hG.2.2.2.2.2.2.2.2.1
  unfold F_X4_findLevel relv J_X4_findLevel_16
  rw [lI hc, hS.2.1.2.2.1]
  by_cases k0 : l.1 3 = 0
  · rw [k0, if_neg (fun z => z rfl), lL hc, hS.1.2.1]
    by_cases b0 : l.1 8 = 0
    · rw [b0, if_neg (fun z => z rfl), if_neg (fun z => z.2 rfl)]
      exact ⟨S, rfl, hS, offL.rf S c⟩
    · rw [if_pos (fun z => b0 (by rw [show (0 : Int64) = lN 0 from rfl, lN_eq63 (by omega) (by omega)] at z; exact z)), if_pos ⟨rfl, b0⟩]
      refine ⟨_, findLevel_loop hc hS hG 28 6000 0 0 200000000 (by omega) (by omega) (by omega) (by omega), cl_lvl hS _, ?_⟩
      exact (offL.rf S c).L (j := 0) (by omega) 2 _
  · rw [if_pos (nI_ne0 (by omega) (by omega)), if_neg (fun z => k0 z.1)]
    exact ⟨S, rfl, hS, offL.rf S c⟩
theorem relv_gd (hG : GD l) : GD (relv l) := by
  unfold relv
  split
  · have h9 : lvl l ≤ 200000000 := bis_le _ _ _ _ (by omega)
    obtain ⟨g1, g2, g3, g4, g5, g6, g7, g8, g9, g10, g11, g12⟩ := hG
    exact ⟨g1, g2, g3, g4, g5, g6, g7, g8, g9, h9, g11, g12⟩
  · exact hG
end CLU
