/-- only holder h is changed -/
def frH (S S' : St) (h : Nat) : Prop := (∀ a, a ≠ 190 + 2 * h → a ≠ 191 + 2 * h → (a < 213 ∨ 217 < a) → a ≠ 219 + h → S'.1 a = S.1 a ∧ S'.2 a = S.2 a) ∧ ∀ a x, x ≠ h → 213 ≤ a → a ≤ 217 → S'.1 a x = S.1 a x ∧ S'.2 a x = S.2 a x
theorem frH.rf (S : St) (h : Nat) : frH S S h := ⟨fun _ _ _ _ _ => ⟨rfl, rfl⟩, fun _ _ _ _ _ => ⟨rfl, rfl⟩⟩
theorem frH.I {S S' : St} {h : Nat} (H : frH S S' h) {c k : Nat} (hc : c = 190 + 2 * h ∨ c = 191 + 2 * h ∨ c = 219 + h ∨ (213 ≤ c ∧ c ≤ 217 ∧ k = h)) (hh : h < 6) (v : Int32) : frH S (setI S' c k v) h := by
  refine ⟨fun a h1 h2 h3 h4 => ?_, fun a x hx h1 h2 => ?_⟩
  · rw [setI_n (by omega)]
    exact H.1 a h1 h2 h3 h4
  · by_cases e : a = c
    · subst e
      rw [setI_k (by omega)]
      exact H.2 a x hx h1 h2
    · rw [setI_n e]
      exact H.2 a x hx h1 h2
theorem frH.L {S S' : St} {h : Nat} (H : frH S S' h) {c k : Nat} (hc : c = 190 + 2 * h ∨ c = 191 + 2 * h ∨ c = 219 + h ∨ (213 ≤ c ∧ c ≤ 217 ∧ k = h)) (hh : h < 6) (v : Int64) : frH S (setL S' c k v) h := by
  refine ⟨fun a h1 h2 h3 h4 => ?_, fun a x hx h1 h2 => ?_⟩
  · rw [setL_n (by omega)]
    exact H.1 a h1 h2 h3 h4
  · by_cases e : a = c
    · subst e
      rw [setL_k (by omega)]
      exact H.2 a x hx h1 h2
    · rw [setL_n e]
      exact H.2 a x hx h1 h2
theorem hold_inv {S S' : St} {B : Bk} {h : Nat} (hh : h < 6) (hG : GX B) (hC : CB S 1 B) (hR : RB S 203 B) (hRS : RS S B.2.2.2.1) (e : frH S S' h) (hH : HLp S' B.2.2.2.1 h) : Inv S' := by
  have g8 := hG.1.2.2.2.1
  have f : ∀ a, a < 190 ∨ (201 < a ∧ a < 213) → S'.1 a = S.1 a ∧ S'.2 a = S.2 a := fun a ha => e.1 a (by omega) (by omega) (by omega) (by omega)
  refine ⟨B, hG, ?_, hR.same (f 203 (by omega)).2, ?_, ?_, ?_⟩
  · obtain ⟨q0, q1, q2, q3, q4⟩ := hC
    have e1 := (f 1 (by omega)).1
    exact ⟨by rw [e1]; exact q0, by rw [e1]; exact q1, by rw [e1]; exact q2, by rw [e1]; exact q3, fun j hj => (q4 j hj).same (fun x hx => f _ (by omega))⟩
  · obtain ⟨K, _, _⟩ := hRS
    unfold KPp at *
    rw [(f 0 (by omega)).1, (f 202 (by omega)).1]
    rcases K with K | ⟨k1, k2, K, k3, k4, k5⟩
    · exact Or.inl K
    · refine Or.inr ⟨k1, k2, K, ?_, k4.same (f 206 (by omega)).2, k5⟩
      have gk8 := k5.1.2.2.2.1
      obtain ⟨q0, q1, q2, q3, q4⟩ := k3
      have e1 := (f 117 (by omega)).1
      exact ⟨by rw [e1]; exact q0, by rw [e1]; exact q1, by rw [e1]; exact q2, by rw [e1]; exact q3, fun j hj => (q4 j hj).same (fun x hx => f _ (by omega))⟩
  · obtain ⟨_, T, _⟩ := hRS
    unfold TPp at *
    rw [(f 186 (by omega)).1, (f 202 (by omega)).1, (f 187 (by omega)).1, (f 212 (by omega)).1]
    exact T
  · intro x hx
    by_cases ex : x = h
    · subst ex; exact hH
    · have H := hRS.2.2 x hx
      have a1 := e.1 (190 + 2 * x) (by omega) (by omega) (by omega) (by omega)
      have a2 := e.1 (191 + 2 * x) (by omega) (by omega) (by omega) (by omega)
      have a3 := e.1 (219 + x) (by omega) (by omega) (by omega) (by omega)
      have a4 := e.2 213 x ex (by omega) (by omega)
      have a5 := e.2 214 x ex (by omega) (by omega)
      have a6 := e.2 215 x ex (by omega) (by omega)
      have a7 := e.2 216 x ex (by omega) (by omega)
      have a8 := e.2 217 x ex (by omega) (by omega)
      unfold HLp at H ⊢
      rw [a1.1, a1.2, a2.2, a3.2, a4.1, a5.1, a6.2, a7.2, a8.1]
      exact H
theorem sub1_lt {k y : Nat} (hk : k ≤ 60) (hy : y < 2 ^ 31) : nI k - 1 < nI y ↔ k ≤ y := by
  rw [Int32.lt_iff_toInt_lt, Int32.toInt_sub, nI_toInt (by omega), nI_toInt hy, show (1 : Int32).toInt = 1 from rfl, Int.bmod_eq_of_le (by omega) (by omega)]
  omega
/-- put -/
theorem y_put (a b : Int32) (v : Int64) : Step (F_X7_put 0 a b v) (F_X8_put 202 a b v) := by
  rintro S ⟨B, hG, hC, hRb, hRS⟩
  have hV : Inv S := ⟨B, hG, hC, hRb, hRS⟩
  rcases between a 0 5 (by omega) (by omega) with c | ⟨c, h, rfl, _, h5⟩
  · refine ⟨-1, S, S, ?_, ?_, hV⟩
    · unfold F_X7_put
      rw [isHolder_e, if_pos c, cl_some, if_neg (fun z => z rfl)]
    · unfold F_X8_put
      rw [mgk, refIsHolder_e, if_pos c, cl_some, if_neg (fun z => z rfl)]
  · have hh : h < 6 := by omega
    obtain ⟨s, s1, s2, s3, s4, s5, s6⟩ := hRS.2.2 h hh
    have hs : s = 0 ∨ s = 1 ∨ s = 2 ∨ s = 3 := by omega
    rcases hs with rfl | rfl | rfl | rfl
    · refine ⟨-11, S, S, ?_, ?_, hV⟩
      · unfold F_X7_put J_X7_put_41
        rw [isHolder_e, if_neg c, cl_some, if_pos (by decide), z7, hR hh, hI hh, s2, if_neg (by decide), hI hh, s2, if_neg (show ¬ ¬ nI 0 = 0 from fun z => z rfl)]
      · unfold F_X8_put J_X8_put_36
        rw [mgk, refIsHolder_e, if_neg c, cl_some, if_pos (by decide), mR13, jI kd213 hh (by omega), s3, if_neg (by decide), mR13, jI kd213 hh (by omega), s3, if_neg (show ¬ ¬ nI 0 = 0 from fun z => z rfl)]
    · refine ⟨-12, S, S, ?_, ?_, hV⟩
      · unfold F_X7_put J_X7_put_41
        rw [isHolder_e, if_neg c, cl_some, if_pos (by decide), z7, hR hh, hI hh, s2, if_neg (by decide), hI hh, s2, if_pos (by decide)]
      · unfold F_X8_put J_X8_put_36
        rw [mgk, refIsHolder_e, if_neg c, cl_some, if_pos (by decide), mR13, jI kd213 hh (by omega), s3, if_neg (by decide), mR13, jI kd213 hh (by omega), s3, if_pos (by decide)]
    · refine ⟨-12, S, S, ?_, ?_, hV⟩
      · unfold F_X7_put J_X7_put_41
        rw [isHolder_e, if_neg c, cl_some, if_pos (by decide), z7, hR hh, hI hh, s2, if_neg (by decide), hI hh, s2, if_pos (by decide)]
      · unfold F_X8_put J_X8_put_36
        rw [mgk, refIsHolder_e, if_neg c, cl_some, if_pos (by decide), mR13, jI kd213 hh (by omega), s3, if_neg (by decide), mR13, jI kd213 hh (by omega), s3, if_pos (by decide)]
    · obtain ⟨k, k1, k2, k3, k4⟩ := s6 rfl
      have f8 : ∀ S1, S1.1 213 h = nI 3 → S1.1 217 h = nI k → F_X8_put 202 (nI h) b v S1 = if b < 0 ∨ nI k - 1 < b then some (-13, S1) else aR 15 218 (nI h) fun v63 => sJ v63 b v S1 fun S66 => some (1, S66) := by
        intro S1 w1 w2
        have e : (Int32.toInt64 b < 0) = (b < 0) := by
          rw [show (0 : Int64) = Int32.toInt64 0 from rfl]
          exact propext lt_wide
        have e2 : (Int32.toInt64 (nI k - 1) < Int32.toInt64 b) = (nI k - 1 < b) := propext lt_wide
        unfold F_X8_put
        rw [mgk, refIsHolder_e, if_neg c, cl_some, if_pos (by decide), mR13, jI kd213 hh (by omega), w1, if_pos (show nI 3 = 3 from rfl), mR17, jI kd217 hh (by omega), w2, in_e, cl_some, mR18]
        simp only [e, e2]
        by_cases d : b < 0 ∨ nI k - 1 < b
        · rw [if_pos d, if_pos d, if_neg (fun z => z rfl)]
        · rw [if_neg d, if_neg d, if_pos (by decide)]
      rcases nI_or_neg b with hneg | ⟨y, hy, rfl⟩
      · refine ⟨-13, S, S, ?_, ?_, hV⟩
        · unfold F_X7_put J_X7_put_55
          rw [isHolder_e, if_neg c, cl_some, if_pos (by decide), z7, hR hh, hI hh, s2, if_pos (show nI 3 = 3 from rfl), if_pos hneg]
        · rw [f8 S s3 k3, if_pos (Or.inl hneg)]
      · have hnn : ¬ nI y < 0 := by
          rw [show (0 : Int32) = nI 0 from rfl, nI_ltI (by omega) (by omega)]
          omega
        by_cases d : y < k
        · have eC : F_X7_put 0 (nI h) (nI y) v S = some (1, setL S (191 + 2 * h) y v) := by
            unfold F_X7_put
            rw [isHolder_e, if_neg c, cl_some, if_pos (by decide), z7, hR hh, hI hh, s2, if_pos (show nI 3 = 3 from rfl), if_neg hnn, hI hh, k2, if_pos (by rw [nI_ltI (by omega) (by omega)]; exact d), hr4 hh, jS (HC hh).2.1 (by omega) (by omega)]
          have eR : F_X8_put 202 (nI h) (nI y) v (setL S (191 + 2 * h) y v) = some (1, setL (setL S (191 + 2 * h) y v) (219 + h) y v) := by
            rw [f8 (setL S (191 + 2 * h) y v) s3 k3, if_neg, wR hh, jS (HC hh).2.2 (by omega) (by omega)]
            rintro (z | z)
            · exact hnn z
            · rw [sub1_lt k1 hy] at z
              omega
          refine ⟨1, _, _, eC, eR, hold_inv hh hG hC hRb hRS ((frH.rf S h).L (by omega) hh v |>.L (by omega) hh v) ?_⟩
          refine ⟨3, by omega, s2, s3, fun z => by omega, fun z => by omega, fun _ => ⟨k, k1, k2, k3, fun j hj => ?_⟩⟩
          rw [setL_n (show 191 + 2 * h ≠ 219 + h by omega)]
          by_cases ej : j = y
          · subst ej
            rw [setL_s, setL_s]
          · rw [setL_k ej, setL_k ej, setL_n (show 219 + h ≠ 191 + 2 * h by omega)]
            exact k4 j hj
        · refine ⟨-13, S, S, ?_, ?_, hV⟩
          · unfold F_X7_put J_X7_put_55
            rw [isHolder_e, if_neg c, cl_some, if_pos (by decide), z7, hR hh, hI hh, s2, if_pos (show nI 3 = 3 from rfl), if_neg hnn, hI hh, k2, if_neg (by rw [nI_ltI (by omega) (by omega)]; exact d)]
          · rw [f8 S s3 k3, if_pos (Or.inr (by rw [sub1_lt k1 hy]; omega))]
