theorem kd186 : kd0 186 = (4, 0) := by decide +kernel
theorem kd187 : kd0 187 = (10, 120) := by decide +kernel
theorem kd212 : kd0 212 = (10, 120) := by decide +kernel
section TPE
variable {β : Type}
theorem zpZ1 (k : Nat) (S : St) (K : St → Option β) : pZ 5 k 0 1 S K = K (setI S 0 k 1) := by
  unfold pZ
  rw [kd00]
  rfl
theorem zI (k : Nat) (S : St) (K : Int32 → Option β) : gI 5 k 0 S K = K (S.1 0 k) := by
  unfold gI
  rw [kd00]
  rfl
theorem tI0 (k : Nat) (S : St) (K : Int32 → Option β) : gI 4 k 186 S K = K (S.1 186 k) := by
  unfold gI
  rw [kd186]
  rfl
theorem tpI (k : Nat) (v : Int32) (S : St) (K : St → Option β) : pI 4 k 186 v S K = K (setI S 186 k v) := by
  unfold pI
  rw [kd186]
  rfl
theorem tgk (x : Option β) : gk 186 4 x = x := by
  unfold gk
  rw [kd186]
  rfl
theorem tr3 (K : Nat → Option β) : gR 4 3 186 K = K 187 := by
  unfold gR R0
  rw [kd186]
  rfl
theorem tr4 (K : Nat → Option β) : gR 4 4 186 K = K 188 := by
  unfold gR R0
  rw [kd186]
  rfl
theorem mR11 (K : Nat → Option β) : gR 6 11 202 K = K 212 := mgR rfl K
end TPE
theorem LB117 : LB 117 := Or.inr (Or.inr rfl)
theorem LB59 : LB 59 := Or.inr (Or.inl rfl)
/-- image -/
theorem y_image : Step (F_X7_image 0) (F_X8_image 202) := by
  rintro S ⟨B, hG, hC, hRb, hRS⟩
  have g8 := hG.1.2.2.2.1
  obtain ⟨S1, r1, r2, r3⟩ := copyBook_e LB117 b1 (by omega) hG.1 hC
  have hC1 : CB S1 1 B := hC.off g8 r3 (by omega)
  have hC2 : CB (setI S1 0 3 1) 1 B := by
    obtain ⟨q0, q1, q2, q3, q4⟩ := hC1
    exact ⟨by rw [setI_n (by omega)]; exact q0, by rw [setI_n (by omega)]; exact q1, by rw [setI_n (by omega)]; exact q2, by rw [setI_n (by omega)]; exact q3, fun j hj => (q4 j hj).same (fun x hx => ⟨setI_n (by omega), rfl⟩)⟩
  have hK2 : CB (setI S1 0 3 1) 117 B := by
    obtain ⟨q0, q1, q2, q3, q4⟩ := r2
    exact ⟨by rw [setI_n (by omega)]; exact q0, by rw [setI_n (by omega)]; exact q1, by rw [setI_n (by omega)]; exact q2, by rw [setI_n (by omega)]; exact q3, fun j hj => (q4 j hj).same (fun x hx => ⟨setI_n (by omega), rfl⟩)⟩
  have eC : F_X7_image 0 S = some (nI B.1, setI S1 0 3 1) := by
    unfold F_X7_image
    rw [z2, z0, bgk LB117, r1, cl_some, zpZ1, z0, bI b1, hC2.1]
  have hR2 : RB (setI S1 0 3 1) 203 B := hRb.same (r3 203 (by omega)).2
  obtain ⟨S3, u1, u2, u3, u4⟩ := take_e kd203 kd206 (by omega) (setI S1 0 3 1)
  have hR3 : RB S3 203 B := hR2.same (u3 203 (by omega))
  have hK3 : RB S3 206 B := hR2.copy hG.1 u4
  have eR : F_X8_image 202 (setI S1 0 3 1) = some (nI B.1, setI S3 202 4 1) := by
    unfold F_X8_image
    rw [mR0, mR3, u1, cl_some, mpZ1, mR0, fa_lit 2521, g_at _ (by omega)]
    show some (Int64.toInt32 (S3.2 203 2521), setI S3 202 4 1) = _
    rw [hR3.2.1, lN_i32]
  have f1 : ∀ a, a ≠ 0 → a ≠ 202 → (setI S3 202 4 1).1 a = S1.1 a := fun a h0 h1 => by rw [setI_n h1, u2, setI_n h0]
  have f2 : ∀ a, a ≠ 206 → (setI S3 202 4 1).2 a = S1.2 a := fun a h0 => u3 a h0
  have tr : ∀ b, (b = 1 ∨ b = 117) → CB (setI S1 0 3 1) b B → CB (setI S3 202 4 1) b B := by
    intro b hb h
    obtain ⟨q0, q1, q2, q3, q4⟩ := h
    have e1 : (setI S3 202 4 1).1 b = (setI S1 0 3 1).1 b := by rw [setI_n (by omega), u2]
    exact ⟨by rw [e1]; exact q0, by rw [e1]; exact q1, by rw [e1]; exact q2, by rw [e1]; exact q3, fun j hj => (q4 j hj).same (fun x hx => ⟨by rw [setI_n (by omega), u2], u3 _ (by omega)⟩)⟩
  refine ⟨nI B.1, _, _, eC, eR, B, hG, tr 1 (Or.inl rfl) hC2, hR3, Or.inr ⟨?_, setI_s, B, tr 117 (Or.inr rfl) hK2, hK3, hG⟩, ?_, fun h hh => ?_⟩
  · rw [setI_n (by omega), u2, setI_s]
  · have T := hRS.2.1
    unfold TPp at *
    rw [f1 186 (by omega) (by omega), f1 187 (by omega) (by omega), f1 212 (by omega) (by omega), setI_k (by omega), u2, setI_n (show (202 : Nat) ≠ 0 by omega), (r3 186 (by omega)).1, (r3 187 (by omega)).1, (r3 212 (by omega)).1, (r3 202 (by omega)).1]
    exact T
  · have H := hRS.2.2 h hh
    have e1 := f1 (190 + 2 * h) (by omega) (by omega)
    have e2 := f2 (190 + 2 * h) (by omega)
    have e3 := f2 (191 + 2 * h) (by omega)
    have e4 := f2 (219 + h) (by omega)
    have r190 := r3 (190 + 2 * h) (by omega)
    have r191 := r3 (191 + 2 * h) (by omega)
    have r219 := r3 (219 + h) (by omega)
    unfold HLp at H ⊢
    rw [e1, e2, e3, e4, f1 213 (by decide) (by decide), f1 214 (by decide) (by decide), f2 215 (by decide), f2 216 (by decide), f1 217 (by decide) (by decide), r190.1, r190.2, r191.2, r219.2, (r3 213 (by decide)).1, (r3 214 (by decide)).1, (r3 215 (by decide)).2, (r3 216 (by decide)).2, (r3 217 (by decide)).1]
    exact H
/-- feed -/
theorem y_feed (a : Int32) : Step (F_X7_feed 0 a) (F_X8_feed 202 a) := by
  rintro S ⟨B, hG, hC, hRb, hRS⟩
  have hV : Inv S := ⟨B, hG, hC, hRb, hRS⟩
  obtain ⟨n, n1, n2, n3, n4⟩ := hRS.2.1
  rcases between a 0 255 (by omega) (by omega) with c | ⟨c, v, rfl, _, v5⟩
  · refine ⟨-1, S, S, ?_, ?_, hV⟩
    · unfold F_X7_feed
      rw [fa_lit 255, within_e, if_pos (show a < 0 ∨ nI 255 < a from c), cl_some, if_neg (fun z => z rfl)]
    · unfold F_X8_feed
      rw [fa_litL 255, show (0 : Int64) = lN 0 from rfl, inw_e _ _ _ (by omega) (by omega), if_pos c, cl_some, if_neg (fun z => z rfl)]
  · by_cases d : n < 120
    · have eC : F_X7_feed 0 (nI v) S = some (nI (n + 1), setI (setI S 187 n (nI v)) 186 0 (nI (n + 1))) := by
        unfold F_X7_feed
        rw [fa_lit 255, within_e, if_neg (show ¬ (nI v < 0 ∨ nI 255 < nI v) from c), cl_some, if_pos (by decide), z6, tI0, n2, if_pos (by rw [fa_lit 120, nI_ltI (by omega) (by omega)]; exact d), z6, tr3, z6, tI0, n2, jSI kd187 d (by omega), z6, tI0, setI_n (by omega), n2, nI_1, tpI, z6, tI0, setI_s]
      have eR : F_X8_feed 202 (nI v) (setI (setI S 187 n (nI v)) 186 0 (nI (n + 1))) = some (nI (n + 1), setI (setI (setI (setI S 187 n (nI v)) 186 0 (nI (n + 1))) 202 12 (nI (n + 1))) 212 n (nI v)) := by
        unfold F_X8_feed
        rw [fa_litL 255, show (0 : Int64) = lN 0 from rfl, inw_e _ _ _ (by omega) (by omega), if_neg c, cl_some, if_pos (by decide), mI, setI_n (by omega), setI_n (by omega), n3, if_pos (show ¬ nI n = 120 from fun z => by rw [fa_lit 120, nI_eq (by omega) (by omega)] at z; omega), mR11, mI, setI_n (by omega), setI_n (by omega), n3, show (1 : Int32) = nI 1 from rfl, nI_add, mpI, jSI kd212 d (by omega), mI, setI_n (by omega), setI_s]
      have f1 : ∀ a, a ≠ 186 → a ≠ 187 → a ≠ 202 → a ≠ 212 → (setI (setI (setI (setI S 187 n (nI v)) 186 0 (nI (n + 1))) 202 12 (nI (n + 1))) 212 n (nI v)).1 a = S.1 a := fun a h1 h2 h3 h4 => by rw [setI_n h4, setI_n h3, setI_n h1, setI_n h2]
      have f4 : (setI (setI (setI (setI S 187 n (nI v)) 186 0 (nI (n + 1))) 202 12 (nI (n + 1))) 212 n (nI v)).1 202 4 = S.1 202 4 := by rw [setI_n (by omega), setI_k (by omega), setI_n (by omega), setI_n (by omega)]
      have f5 : (setI (setI (setI (setI S 187 n (nI v)) 186 0 (nI (n + 1))) 202 12 (nI (n + 1))) 212 n (nI v)).1 202 12 = nI (n + 1) := by rw [setI_n (by omega), setI_s]
      have f6 : (setI (setI (setI (setI S 187 n (nI v)) 186 0 (nI (n + 1))) 202 12 (nI (n + 1))) 212 n (nI v)).1 186 0 = nI (n + 1) := by rw [setI_n (by omega), setI_n (by omega), setI_s]
      have f7 : ∀ j, (setI (setI (setI (setI S 187 n (nI v)) 186 0 (nI (n + 1))) 202 12 (nI (n + 1))) 212 n (nI v)).1 187 j = if j = n then nI v else S.1 187 j := fun j => by
        rw [setI_n (by omega), setI_n (by omega), setI_n (by omega)]
        by_cases e : j = n
        · subst e; rw [setI_s, if_pos rfl]
        · rw [setI_k e, if_neg e]
      have f8 : ∀ j, (setI (setI (setI (setI S 187 n (nI v)) 186 0 (nI (n + 1))) 202 12 (nI (n + 1))) 212 n (nI v)).1 212 j = if j = n then nI v else S.1 212 j := fun j => by
        by_cases e : j = n
        · subst e; rw [setI_s, if_pos rfl]
        · rw [setI_k e, if_neg e, setI_n (by omega), setI_n (by omega), setI_n (by omega)]
      have f2 : (setI (setI (setI (setI S 187 n (nI v)) 186 0 (nI (n + 1))) 202 12 (nI (n + 1))) 212 n (nI v)).2 = S.2 := rfl
      refine ⟨nI (n + 1), _, _, eC, eR, ?_⟩
      generalize setI (setI (setI (setI S 187 n (nI v)) 186 0 (nI (n + 1))) 202 12 (nI (n + 1))) 212 n (nI v) = S' at f1 f2 f4 f5 f6 f7 f8 ⊢
      have g8 := hG.1.2.2.2.1
      refine ⟨B, hG, ?_, hRb.same (by rw [f2]), ?_, ⟨n + 1, by omega, f6, f5, fun j hj => ?_⟩, fun h hh => ?_⟩
      · obtain ⟨q0, q1, q2, q3, q4⟩ := hC
        have e1 := f1 1 (by decide) (by decide) (by decide) (by decide)
        exact ⟨by rw [e1]; exact q0, by rw [e1]; exact q1, by rw [e1]; exact q2, by rw [e1]; exact q3, fun j hj => (q4 j hj).same (fun x hx => ⟨f1 _ (by omega) (by omega) (by omega) (by omega), by rw [f2]⟩)⟩
      · rcases hRS.1 with K | ⟨k1, k2, K, k3, k4, k5⟩
        · left
          rw [f1 0 (by decide) (by decide) (by decide) (by decide), f4]
          exact K
        · right
          have gk8 := k5.1.2.2.2.1
          refine ⟨by rw [f1 0 (by decide) (by decide) (by decide) (by decide)]; exact k1, by rw [f4]; exact k2, K, ?_, k4.same (by rw [f2]), k5⟩
          obtain ⟨q0, q1, q2, q3, q4⟩ := k3
          have e1 := f1 117 (by decide) (by decide) (by decide) (by decide)
          exact ⟨by rw [e1]; exact q0, by rw [e1]; exact q1, by rw [e1]; exact q2, by rw [e1]; exact q3, fun j hj => (q4 j hj).same (fun x hx => ⟨f1 _ (by omega) (by omega) (by omega) (by omega), by rw [f2]⟩)⟩
      · rw [f7, f8]
        by_cases e : j = n
        · rw [if_pos e, if_pos e]
          exact ⟨v, v5, rfl, rfl⟩
        · rw [if_neg e, if_neg e]
          exact n4 j (by omega)
      · have H := hRS.2.2 h hh
        have e1 := f1 (190 + 2 * h) (by omega) (by omega) (by omega) (by omega)
        unfold HLp at H ⊢
        rw [e1, f2, f1 213 (by decide) (by decide) (by decide) (by decide), f1 214 (by decide) (by decide) (by decide) (by decide), f1 217 (by decide) (by decide) (by decide) (by decide)]
        exact H
    · have e : n = 120 := by omega
      subst e
      refine ⟨-3, S, S, ?_, ?_, hV⟩
      · unfold F_X7_feed
        rw [fa_lit 255, within_e, if_neg (show ¬ (nI v < 0 ∨ nI 255 < nI v) from c), cl_some, if_pos (by decide), z6, tI0, n2, if_neg (by rw [fa_lit 120, nI_ltI (by omega) (by omega)]; exact d)]
      · unfold F_X8_feed
        rw [fa_litL 255, show (0 : Int64) = lN 0 from rfl, inw_e _ _ _ (by omega) (by omega), if_neg c, cl_some, if_pos (by decide), mI, n3, if_neg (show ¬ ¬ nI 120 = 120 from fun z => z rfl)]
