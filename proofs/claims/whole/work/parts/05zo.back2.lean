/-- back -/
theorem y_back : Step (F_X7_back 0) (F_X8_back 202) := by
  rintro S ⟨B, hG, hC, hRb, hRS⟩
  have hV : Inv S := ⟨B, hG, hC, hRb, hRS⟩
  have g8 := hG.1.2.2.2.1
  rcases hRS.1 with ⟨k1, k2⟩ | ⟨k1, k2, K, kC, kR, kG⟩
  · refine ⟨-5, S, S, ?_, ?_, hV⟩
    · unfold F_X7_back
      rw [zI, k1, if_neg (fun z => z rfl)]
    · unfold F_X8_back
      rw [mI, k2, if_neg (fun z => z rfl)]
  · have gk8 := kG.1.2.2.2.1
    obtain ⟨S1, r1, r2, r3⟩ := copyBook_e b1 LB117 (by omega) kG.1 kC
    obtain ⟨S2, u1, u2, u3, u4, u5, u6⟩ := backC_loop gk8 6 6000 0 S1 (by omega) (by omega) r2
    have eC : F_X7_back 0 S = some (nI K.1, S2) := by
      unfold F_X7_back
      rw [zI, k1, if_pos (by decide), z0, z2, bgk b1, r1, cl_some]
      exact u1
    have a2 : ∀ a, 58 < a → (a < 190 ∨ 201 < a) → S2.1 a = S.1 a := fun a h1 h2 => by rw [u3 a (by omega), (r3 a (by omega)).1]
    have l2 : ∀ a, 58 < a → S2.2 a = S.2 a := fun a h1 => by rw [u2, (r3 a (by omega)).2]
    have kR2 : RB S2 206 K := kR.same (l2 206 (by omega))
    obtain ⟨S3, t1, t2, t3, t4⟩ := take_e kd206 kd203 (by omega) S2
    have hR3 : RB S3 203 K := kR2.copy kG.1 t4
    obtain ⟨S4, v1, v2, v3, v4, v5⟩ := backR_loop gk8 6 6000 0 S3 (by omega) (by omega) hR3
    have eR : F_X8_back 202 S2 = some (nI K.1, S4) := by
      unfold F_X8_back
      rw [mI, a2 202 (by omega) (by omega), k2, if_pos (by decide), mR3, mR0, t1, cl_some]
      exact v1
    have f1 : ∀ a, a ≠ 213 → S4.1 a = S2.1 a := fun a h => by rw [v3 a h, t2]
    have f2 : ∀ a, a ≠ 203 → S4.2 a = S2.2 a := fun a h => by rw [v2, t3 a h]
    have tr : ∀ b, b + 57 < 190 → CB S2 b K → CB S4 b K := by
      intro b hb h
      obtain ⟨q0, q1, q2, q3, q4⟩ := h
      have e1 := f1 b (by omega)
      exact ⟨by rw [e1]; exact q0, by rw [e1]; exact q1, by rw [e1]; exact q2, by rw [e1]; exact q3, fun j hj => (q4 j hj).same (fun x hx => ⟨f1 _ (by omega), f2 _ (by omega)⟩)⟩
    have tr2 : ∀ b, b + 57 < 190 → CB S1 b K → CB S2 b K := by
      intro b hb h
      obtain ⟨q0, q1, q2, q3, q4⟩ := h
      have e1 := u3 b (by omega)
      exact ⟨by rw [e1]; exact q0, by rw [e1]; exact q1, by rw [e1]; exact q2, by rw [e1]; exact q3, fun j hj => (q4 j hj).same (fun x hx => ⟨u3 _ (by omega), by rw [u2]⟩)⟩
    have kC1 : CB S1 117 K := kC.off gk8 r3 (by omega)
    refine ⟨nI K.1, S2, S4, eC, eR, K, kG, tr 1 (by omega) (tr2 1 (by omega) r2), hR3.same (by rw [v2]), Or.inr ⟨?_, ?_, K, tr 117 (by omega) (tr2 117 (by omega) kC1), kR2.same (f2 206 (by omega)), kG⟩, ?_, fun h hh => ?_⟩
    · rw [f1 0 (by omega), u3 0 (by omega), (r3 0 (by omega)).1]
      exact k1
    · rw [f1 202 (by omega), a2 202 (by omega) (by omega)]
      exact k2
    · have T := hRS.2.1
      unfold TPp at *
      rw [f1 186 (by decide), f1 187 (by decide), f1 212 (by decide), f1 202 (by decide), a2 186 (by decide) (by decide), a2 187 (by decide) (by decide), a2 212 (by decide) (by decide), a2 202 (by decide) (by decide)]
      exact T
    · have e0 : S4.1 (190 + 2 * h) 0 = kp K.2.2.2.1 (S.1 (190 + 2 * h) 0) (S.1 (190 + 2 * h) 1) := by
        rw [f1 _ (by omega), u6 h (by omega) hh, (r3 (190 + 2 * h) (by omega)).1]
      have ex : ∀ x, x ≠ 0 → S4.1 (190 + 2 * h) x = S.1 (190 + 2 * h) x := fun x hx => by
        rw [f1 _ (by omega), u4 h x hx, (r3 (190 + 2 * h) (by omega)).1]
      have e2 : S4.2 (190 + 2 * h) = S.2 (190 + 2 * h) := by rw [f2 _ (by omega), l2 _ (by omega)]
      have e3 : S4.2 (191 + 2 * h) = S.2 (191 + 2 * h) := by rw [f2 _ (by omega), l2 _ (by omega)]
      have e4 : S4.2 (219 + h) = S.2 (219 + h) := by rw [f2 _ (by omega), l2 _ (by omega)]
      have e213 : S4.1 213 h = kp K.2.2.2.1 (S.1 213 h) (S.1 214 h) := by
        rw [v5 h (by omega) hh, t2, a2 213 (by omega) (by omega), a2 214 (by omega) (by omega)]
      have e214 : S4.1 214 = S.1 214 := by rw [f1 _ (by omega), a2 _ (by omega) (by omega)]
      have e215 : S4.2 215 = S.2 215 := by rw [f2 _ (by omega), l2 _ (by omega)]
      have e216 : S4.2 216 = S.2 216 := by rw [f2 _ (by omega), l2 _ (by omega)]
      have e217 : S4.1 217 = S.1 217 := by rw [f1 _ (by omega), a2 _ (by omega) (by omega)]
      obtain ⟨s, s1, s2, s3, s4, s5, s6⟩ := hRS.2.2 h hh
      rw [s2] at e0
      rw [s3] at e213
      have hs : s = 0 ∨ s = 1 ∨ s = 2 ∨ s = 3 := by omega
      rcases hs with rfl | rfl | rfl | rfl
      · refine ⟨0, by omega, by rw [e0]; rfl, by rw [e213]; rfl, fun z => by omega, fun z => by omega, fun z => by omega⟩
      · obtain ⟨i, i1, i2, i3⟩ := s4 rfl
        rw [i2] at e0
        rw [i3] at e213
        cases ha : anyL K.2.2.2.1 (nI i) with
        | true =>
          obtain ⟨q, q1, q2⟩ := anyL_t ha
          have hq : i = q := by
            rw [nI_eq (by omega) (by omega)] at q2
            exact q2
          have ek : kp K.2.2.2.1 (nI 1) (nI i) = nI 1 := by
            unfold kp
            rw [if_pos (show nI 1 = 1 from rfl), ha]
            rfl
          refine ⟨1, by omega, by rw [e0, ek], by rw [e213, ek], fun _ => ⟨i, by omega, by rw [ex 1 (by omega)]; exact i2, by rw [e214]; exact i3⟩, fun z => by omega, fun z => by omega⟩
        | false =>
          have ek : kp K.2.2.2.1 (nI 1) (nI i) = nI 0 := by
            unfold kp
            rw [if_pos (show nI 1 = 1 from rfl), ha]
            rfl
          refine ⟨0, by omega, by rw [e0, ek], by rw [e213, ek], fun z => by omega, fun z => by omega, fun z => by omega⟩
      · obtain ⟨q1, q2⟩ := s5 rfl
        refine ⟨2, by omega, by rw [e0]; rfl, by rw [e213]; rfl, fun z => by omega, fun _ => ⟨by rw [ex 1 (by omega), e215]; exact q1, by rw [e2, e216]; exact q2⟩, fun z => by omega⟩
      · obtain ⟨k, q1, q2, q3, q4⟩ := s6 rfl
        refine ⟨3, by omega, by rw [e0]; rfl, by rw [e213]; rfl, fun z => by omega, fun z => by omega, fun _ => ⟨k, q1, by rw [ex 2 (by omega)]; exact q2, by rw [e217]; exact q3, fun j hj => by rw [e3, e4]; exact q4 j hj⟩⟩
