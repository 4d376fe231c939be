/-! SCRIPT: THE LINES IN TURN -/
theorem CB.by {S S' : St} {b : Nat} {B : Bk} (h : CB S b B) (g8 : B.2.2.2.1 ≤ 8) (e : ∀ a, b ≤ a → a ≤ b + 57 → S'.1 a = S.1 a ∧ S'.2 a = S.2 a) : CB S' b B := by
  obtain ⟨q0, q1, q2, q3, q4⟩ := h
  have e1 := (e b (by omega) (by omega)).1
  exact ⟨by rw [e1]; exact q0, by rw [e1]; exact q1, by rw [e1]; exact q2, by rw [e1]; exact q3, fun j hj => (q4 j hj).same (fun x hx => e _ (by omega) (by omega))⟩
/-- the class's frame of a script -/
def frA (S S' : St) : Prop := ∀ a, (a < 1 ∨ (58 < a ∧ a < 175) ∨ a = 187 ∨ 188 < a) → S'.1 a = S.1 a ∧ S'.2 a = S.2 a
/-- the reference's frame of a script -/
def frB (S S' : St) : Prop := (∀ a, a ≠ 202 → a ≠ 207 → a ≠ 225 → S'.1 a = S.1 a) ∧ (∀ k, k ≠ 9 → k ≠ 12 → k ≠ 19 → k ≠ 20 → S'.1 202 k = S.1 202 k) ∧ ∀ a, (a < 203 ∨ 211 < a ∨ a = 205 ∨ a = 206) → S'.2 a = S.2 a
theorem frA.tr {S S' S'' : St} (h : frA S S') (h2 : frA S' S'') : frA S S'' := fun a ha => ⟨(h2 a ha).1.trans (h a ha).1, (h2 a ha).2.trans (h a ha).2⟩
theorem frB.tr {S S' S'' : St} (h : frB S S') (h2 : frB S' S'') : frB S S'' := ⟨fun a h1 h3 h4 => (h2.1 a h1 h3 h4).trans (h.1 a h1 h3 h4), fun k k1 k2 k3 k4 => (h2.2.1 k k1 k2 k3 k4).trans (h.2.1 k k1 k2 k3 k4), fun a ha => (h2.2.2 a ha).trans (h.2.2 a ha)⟩
theorem offK.A {S S' : St} (h : offK S S') : frA S S' := fun a ha => h a (by omega)
theorem offT.A {S S' : St} (h : offT S S') : frA S S' := fun a ha => ⟨h.1 a (by omega) (by omega), by rw [h.2]⟩
theorem offQ.B {S S' : St} (h : offQ S S') : frB S S' := ⟨fun a h1 h2 _ => h.1 a h1 h2, fun k h1 _ _ _ => h.2.1 k h1, h.2.2⟩
theorem offU.B {S S' : St} (h : offU S S') : frB S S' := ⟨fun a h1 _ h2 => h.1 a h1 h2, fun k _ _ h1 h2 => h.2.1 k h1 h2, fun a _ => by rw [h.2.2]⟩
theorem CB.T {S S' : St} {b : Nat} {B : Bk} (h : CB S b B) (g8 : B.2.2.2.1 ≤ 8) (hb : b ≤ 117) (e : offT S S') : CB S' b B := h.by g8 (fun a h1 h2 => ⟨e.1 a (by omega) (by omega), by rw [e.2]⟩)
section SC3
variable {w : Nat → Nat} {n : Nat} {B B0 : Bk} {S : St}
theorem sc_end {m x p : Nat} (h8 : B.2.2.2.1 ≤ 8) (hx : x ≤ 100) (hp : n ≤ p) (hp2 : p ≤ 121) (hT : TC S w n p) (hC : CB S 1 B) : ∃ S', L_X7_script_50 (m + 1) 0 (nI x) 0 S = some (nI x, S') ∧ CB S' 1 B ∧ S'.1 186 0 = nI 0 ∧ frA S S' := by
  obtain ⟨S1, u1, u2, u3, u4⟩ := rdL_e hp2 hT
  have o : ¬ lineO w n p = true := fun z => by
    have := (lineP_gt z).1
    omega
  rw [if_neg o] at u1
  have hC1 := hC.T h8 (by omega) u4
  refine ⟨setI S1 186 0 0, ?_, hC1.T h8 (by omega) (offT.p186 _ _ _), setI_s, u4.A.tr (offT.p186 _ _ _).A⟩
  show B_X7_script_50 _ _ _ _ _ = _
  unfold B_X7_script_50 J_X7_script_108
  rw [fa_lit 120, if_neg (by rw [nI_leI (by omega) (by omega)]; omega), if_neg (fun z => z rfl), z6, tgk, u1, cl_some, if_pos rfl, z6, tpI, if_pos rfl]
theorem sc_fail {m x : Nat} (hG : GB B0) (hx : x ≤ 100) (hC : CB S 59 B0) : ∃ S', L_X7_script_50 (m + 1) 0 (nI x) 1 S = some (-2000 - nI x, S') ∧ CB S' 1 B0 ∧ S'.1 186 0 = nI 0 ∧ frA S S' := by
  have hC1 : CB (setI S 186 0 0) 59 B0 := hC.T hG.2.2.2.1 (by omega) (offT.p186 _ _ _)
  obtain ⟨S2, v1, v2, v3⟩ := copyBook_e b1 LB59 (by omega) hG hC1
  refine ⟨S2, ?_, v2, by rw [(v3 186 (by omega)).1, setI_s]; rfl, (offT.p186 S 0 0).A.tr (fun a ha => v3 a (by omega))⟩
  show B_X7_script_50 _ _ _ _ _ = _
  unfold B_X7_script_50 J_X7_script_108
  rw [fa_lit 120, if_neg (by rw [nI_leI (by omega) (by omega)]; omega), if_pos (by decide), z6, tpI, if_neg (by decide), z0, z1, bgk b1, v1, cl_some]
theorem rf_end {m x p : Nat} (hp : n ≤ p) (hp2 : p ≤ 200) (hT : TR S w n p none) (hR : RB S 203 B) : ∃ S', L_X8_script_41 (m + 1) 202 (nI x) 1 S = some (nI x, S') ∧ RB S' 203 B ∧ S'.1 202 12 = nI 0 ∧ frB S S' := by
  have hn := hT.1
  refine ⟨setI S 202 12 0, ?_, hR, setI_s, ⟨fun a h1 _ _ => setI_n h1, fun k _ h1 _ _ => setI_k h1, fun _ _ => rfl⟩⟩
  show B_X8_script_41 _ _ _ _ _ = _
  unfold B_X8_script_41 J_X8_script_99
  rw [if_neg (by decide), mI, hT.2.2.1, mI, hT.2.1, if_pos (by rw [nI_leI (by omega) (by omega)]; omega), mpI, if_pos (by decide)]
theorem rf_fail {m x : Nat} (hG : GB B0) (hR : RB S 205 B0) : ∃ S', L_X8_script_41 (m + 1) 202 (nI (x + 1)) 0 S = some (-2000 - nI x, S') ∧ RB S' 203 B0 ∧ S'.1 202 12 = nI 0 ∧ frB S S' := by
  have hR1 : RB (setI S 202 12 0) 205 B0 := hR
  obtain ⟨S2, v1, v2, v3, v4⟩ := take_e kd205 kd203 (by omega) (setI S 202 12 0)
  refine ⟨S2, ?_, hR1.copy hG v4, by rw [v2, setI_s]; rfl, ⟨fun a h1 _ _ => by rw [v2, setI_n h1], fun k _ h1 _ _ => by rw [v2, setI_k h1], fun a ha => v3 a (by omega)⟩⟩
  show B_X8_script_41 _ _ _ _ _ = _
  unfold B_X8_script_41 J_X8_script_99
  rw [if_pos rfl, mpI, if_neg (fun z => z rfl), mR2, mR0, v1, cl_some, show (1 : Int32) = nI 1 from rfl, pk_sub (by omega)]
  rfl
/-- the lines from place p on, x done -/
theorem sc_loop (h0 : GX B0) : ∀ (d p x : Nat) (B : Bk), GX B → B0.2.2.2.1 ≤ B.2.2.2.1 → n + 1 ≤ p + d → p ≤ n → 2 * x ≤ p → n ≤ 120 → formT w n d p = none → ∃ (r : Int32) (B' : Bk), GX B' ∧ B0.2.2.2.1 ≤ B'.2.2.2.1 ∧ (∀ S m, d + 2 ≤ m → TC S w n p → CB S 1 B → CB S 59 B0 → ∃ S', L_X7_script_50 m 0 (nI x) 0 S = some (r, S') ∧ CB S' 1 B' ∧ S'.1 186 0 = nI 0 ∧ frA S S') ∧ (∀ S m, d + 2 ≤ m → TR S w n (if x = 0 then p else p - 1) none → RB S 203 B → RB S 205 B0 → ∃ S', L_X8_script_41 m 202 (nI x) 1 S = some (r, S') ∧ RB S' 203 B' ∧ S'.1 202 12 = nI 0 ∧ frB S S')
  | 0, p, _, _, _, _, h, h2, _, _, _ => absurd h (by omega)
  | d + 1, p, x, B, hG, hBB, hd, hp, hx, hn, hF => by
    rw [formT_s] at hF
    have o : lineO w n p = true := by
      by_cases o : lineO w n p = true
      · exact o
      · rw [if_neg o] at hF
        cases hF
    rw [if_pos o] at hF
    have hgt := lineP_gt o
    have hle := lineP_le w n p hp
    have hk : nofL (w p) ≠ 0 := by
      have z := o
      unfold lineO at z
      rw [Bool.and_eq_true, decide_eq_true_eq] at z
      exact z.1.2
    have g8 := hG.1.2.2.2.1
    have g80 := h0.1.2.2.2.1
    obtain ⟨r, B1, t1, t2, t3, t4⟩ := tl_all hG hk (fun t => nsV w n t (p + 1))
    have g81 := t1.1.2.2.2.1
    -- the class to behind its line
    have cls : ∀ S m, d + 3 ≤ m → TC S w n p → CB S 1 B → CB S 59 B0 → ∃ S1 k, k + 1 = m ∧ TC S1 w n (lineP w n p) ∧ CB S1 1 B1 ∧ CB S1 59 B0 ∧ frA S S1 ∧ L_X7_script_50 m 0 (nI x) 0 S = if (0 : Int64) ≤ r then J_X7_script_84 (L_X7_script_50 k) 0 (nI x) (0 : Int32) S1 else J_X7_script_84 (L_X7_script_50 k) 0 (nI x) (1 : Int32) S1 := by
      intro S m hm hT hC hC0
      obtain ⟨k, rfl⟩ : ∃ k, m = k + 1 := ⟨m - 1, by omega⟩
      obtain ⟨S1, u1, u2, u3, u4⟩ := rdL_e (by omega) hT
      obtain ⟨S2, v1, v2, v3⟩ := t3 S1 (hC.T g8 (by omega) u4) (u3 o).1 (u3 o).2
      refine ⟨S2, k, rfl, ?_, v2, ?_, u4.A.tr v3.A, ?_⟩
      · obtain ⟨q1, q2, q3, q4⟩ := u2
        exact ⟨q1, by rw [(v3 186 (by omega)).1]; exact q2, by rw [(v3 186 (by omega)).1]; exact q3, fun j hj => by rw [(v3 187 (by omega)).1]; exact q4 j hj⟩
      · exact (hC0.T g80 (by omega) u4).by g80 (fun a h1 h2 => v3 a (by omega))
      · show B_X7_script_50 _ _ _ _ _ = _
        unfold B_X7_script_50
        rw [fa_lit 120, if_neg (by rw [nI_leI (by omega) (by omega)]; omega), if_neg (fun z => z rfl), z6, tgk, u1, cl_some, if_pos o, if_neg (by decide), zgk, v1, cl_some]
    have rfr : ∀ S m, d + 3 ≤ m → TR S w n (if x = 0 then p else p - 1) none → RB S 203 B → RB S 205 B0 → ∃ S1 k, k + 1 = m ∧ TR S1 w n (lineP w n p) none ∧ RB S1 203 B1 ∧ RB S1 205 B0 ∧ frB S S1 ∧ L_X8_script_41 m 202 (nI x) 1 S = if r < (0 : Int64) then L_X8_script_41 k 202 (nI (x + 1)) 0 S1 else L_X8_script_41 k 202 (nI (x + 1)) 1 S1 := by
      intro S m hm hT hR hR0
      obtain ⟨k, rfl⟩ : ∃ k, m = k + 1 := ⟨m - 1, by omega⟩
      have hT1 : TR (setI S 202 19 (nI p)) w n p none := hT.pl p
      obtain ⟨c, S1, u1, u2, u3, u4⟩ := line_e (by omega) hT1
      rw [if_pos o] at u2
      have hR1 : RB S1 203 B := RB.same (S := S) hR (by rw [u4.2.2]; rfl)
      have hR01 : RB S1 205 B0 := RB.same (S := S) hR0 (by rw [u4.2.2]; rfl)
      obtain ⟨S2, v1, v2, v3⟩ := t4 S1 hR1 (u3 o).2
      refine ⟨S2, k, rfl, ?_, v2, hR01.same (v3.2.2 205 (by omega)), ((offU.p19 _ _).tr u4).B.tr v3.B, ?_⟩
      · obtain ⟨q1, q2, q3, q4, q5⟩ := u2
        exact ⟨q1, by rw [v3.2.1 12 (by omega)]; exact q2, by rw [v3.2.1 19 (by omega)]; exact q3, by rw [v3.2.1 20 (by omega)]; exact q4, fun j hj => by rw [v3.1 212 (by omega) (by omega)]; exact q5 j hj⟩
      · have hs : (if x = 0 then p else p - 1) < n := by split <;> omega
        have j70 : ∀ t0 : Int32, nI (if x = 0 then p else p - 1) + t0 = nI p → J_X8_script_70 (L_X8_script_41 k) 202 (nI x) t0 (nI (if x = 0 then p else p - 1)) 202 S = if r < (0 : Int64) then L_X8_script_41 k 202 (nI (x + 1)) 0 S2 else L_X8_script_41 k 202 (nI (x + 1)) 1 S2 := by
          intro t0 ht
          unfold J_X8_script_70 J_X8_script_92
          rw [ht, mpI, mgk, u1, cl_some, (u3 o).1, mgk, v1, cl_some, nI_1]
        show B_X8_script_41 _ _ _ _ _ = _
        unfold B_X8_script_41
        rw [if_neg (by decide), mI, hT.2.2.1, mI, hT.2.1, if_neg (by rw [nI_leI (by omega) (by omega)]; omega), mI, hT.2.2.1]
        by_cases x0 : x = 0
        · subst x0
          rw [if_pos (show nI 0 ≤ 0 from Int32.le_refl _)]
          exact j70 0 (by rw [if_pos rfl, show (0 : Int32) = nI 0 from rfl, nI_add]; rfl)
        · rw [if_neg (show ¬ nI x ≤ 0 by rw [show (0 : Int32) = nI 0 from rfl, nI_leI (by omega) (by omega)]; omega)]
          refine j70 1 ?_
          rw [if_neg x0, nI_1]
          congr 1
          omega
    by_cases c : (0 : Int64) ≤ r
    · have c' : ¬ r < (0 : Int64) := Int64.not_lt.mpr c
      by_cases e : lineP w n p < n
      · -- another line
        have hF2 : formT w n d (lineP w n p + 1) = none := by
          unfold tlT at hF
          rw [if_pos e] at hF
          by_cases f : w (lineP w n p) = 59
          · rw [if_pos f] at hF
            exact hF
          · rw [if_neg f] at hF
            cases hF
        obtain ⟨r2, B2, s1, s2, s3, s4⟩ := sc_loop h0 d (lineP w n p + 1) (x + 1) B1 t1 (by omega) (by omega) (by omega) (by omega) hn hF2
        refine ⟨r2, B2, s1, s2, fun S m hm hT hC hC0 => ?_, fun S m hm hT hR hR0 => ?_⟩
        · obtain ⟨S1, k, hk1, a1, a2, a3, a4, a5⟩ := cls S m (by omega) hT hC hC0
          obtain ⟨S3, b1', b2, b3, b4⟩ := s3 (setI S1 186 1 (nI (lineP w n p + 1))) k (by omega) (a1.pl _) (a2.T g81 (by omega) (offT.p186 _ _ _)) (a3.T g80 (by omega) (offT.p186 _ _ _))
          refine ⟨S3, ?_, b2, b3, (a4.tr (offT.p186 _ _ _).A).tr b4⟩
          rw [a5, if_pos c]
          unfold J_X7_script_84
          rw [if_neg (fun z => z rfl), z6, tI0, a1.2.2.1, nI_1, tpI, nI_1, b1']
        · obtain ⟨S1, k, hk1, a1, a2, a3, a4, a5⟩ := rfr S m (by omega) hT hR hR0
          obtain ⟨S3, b1', b2, b3, b4⟩ := s4 S1 k (by omega) (by rw [if_neg (by omega)]; exact a1) a2 a3
          refine ⟨S3, ?_, b2, b3, a4.tr b4⟩
          rw [a5, if_neg c', b1']
      · -- the end
        refine ⟨nI (x + 1), B1, t1, by omega, fun S m hm hT hC hC0 => ?_, fun S m hm hT hR hR0 => ?_⟩
        · obtain ⟨S1, k, hk1, a1, a2, a3, a4, a5⟩ := cls S m (by omega) hT hC hC0
          obtain ⟨k, rfl⟩ : ∃ j, k = j + 1 := ⟨k - 1, by omega⟩
          obtain ⟨S3, b1', b2, b3, b4⟩ := sc_end (m := k) (x := x + 1) g81 (by omega) (show n ≤ lineP w n p + 1 by omega) (by omega) (a1.pl (lineP w n p + 1)) (a2.T g81 (by omega) (offT.p186 _ _ _))
          refine ⟨S3, ?_, b2, b3, (a4.tr (offT.p186 _ _ _).A).tr b4⟩
          rw [a5, if_pos c]
          unfold J_X7_script_84
          rw [if_neg (fun z => z rfl), z6, tI0, a1.2.2.1, nI_1, tpI, nI_1, b1']
        · obtain ⟨S1, k, hk1, a1, a2, a3, a4, a5⟩ := rfr S m (by omega) hT hR hR0
          obtain ⟨k, rfl⟩ : ∃ j, k = j + 1 := ⟨k - 1, by omega⟩
          obtain ⟨S3, b1', b2, b3, b4⟩ := rf_end (m := k) (x := x + 1) (show n ≤ lineP w n p by omega) (by omega) a1 a2
          refine ⟨S3, ?_, b2, b3, a4.tr b4⟩
          rw [a5, if_neg c', b1']
    · have c' : r < (0 : Int64) := Int64.not_le.mp c
      refine ⟨-2000 - nI x, B0, h0, Nat.le_refl _, fun S m hm hT hC hC0 => ?_, fun S m hm hT hR hR0 => ?_⟩
      · obtain ⟨S1, k, hk1, a1, a2, a3, a4, a5⟩ := cls S m (by omega) hT hC hC0
        obtain ⟨k, rfl⟩ : ∃ j, k = j + 1 := ⟨k - 1, by omega⟩
        obtain ⟨S3, b1', b2, b3, b4⟩ := sc_fail (m := k) (x := x) h0.1 (by omega) a3
        refine ⟨S3, ?_, b2, b3, a4.tr b4⟩
        rw [a5, if_neg c]
        unfold J_X7_script_84
        rw [if_pos (by decide), b1']
      · obtain ⟨S1, k, hk1, a1, a2, a3, a4, a5⟩ := rfr S m (by omega) hT hR hR0
        obtain ⟨k, rfl⟩ : ∃ j, k = j + 1 := ⟨k - 1, by omega⟩
        obtain ⟨S3, b1', b2, b3, b4⟩ := rf_fail (m := k) (x := x) h0.1 a3
        refine ⟨S3, ?_, b2, b3, a4.tr b4⟩
        rw [a5, if_pos c', b1']
end SC3
/-- what RS reads beside the tape is as it was -/
def frT (S S' : St) : Prop := (∀ a, (a = 0 ∨ (117 ≤ a ∧ a ≤ 174) ∨ a = 187 ∨ (190 ≤ a ∧ a ≤ 201) ∨ a = 206 ∨ (212 ≤ a ∧ a ≤ 224)) → S'.1 a = S.1 a ∧ S'.2 a = S.2 a) ∧ S'.1 202 4 = S.1 202 4
theorem RS.frT {S S' : St} {n n' : Nat} (H : RS S n) (hn : n ≤ n') (e : frT S S') (h1 : S'.1 186 0 = nI 0) (h2 : S'.1 202 12 = nI 0) : RS S' n' := by
  refine ⟨?_, ⟨0, by omega, h1, h2, fun j hj => absurd hj (Nat.not_lt_zero _)⟩, fun h hh => ?_⟩
  · have K := H.1
    unfold KPp at *
    rw [(e.1 0 (by omega)).1, e.2]
    rcases K with K | ⟨k1, k2, K, k3, k4, k5⟩
    · exact Or.inl K
    · exact Or.inr ⟨k1, k2, K, k3.by k5.1.2.2.2.1 (fun a h1 h2 => e.1 a (by omega)), k4.same (e.1 206 (by omega)).2, k5⟩
  · have L := (H.2.2 h hh).mo hn
    unfold HLp at *
    rw [(e.1 (190 + 2 * h) (by omega)).1, (e.1 213 (by omega)).1, (e.1 214 (by omega)).1, (e.1 215 (by omega)).2, (e.1 216 (by omega)).2, (e.1 217 (by omega)).1, (e.1 (190 + 2 * h) (by omega)).2, (e.1 (191 + 2 * h) (by omega)).2, (e.1 (219 + h) (by omega)).2]
    exact L
theorem frT_AB {S S1 S2 : St} (a : frA S S1) (b : frB S1 S2) : frT S S2 := ⟨fun c hc => ⟨(b.1 c (by omega) (by omega) (by omega)).trans (a c (by omega)).1, (b.2.2 c (by omega)).trans (a c (by omega)).2⟩, by rw [b.2.1 4 (by omega) (by omega) (by omega) (by omega), (a 202 (by omega)).1]⟩
theorem CB.fB {S S' : St} {B : Bk} (h : CB S 1 B) (g8 : B.2.2.2.1 ≤ 8) (e : frB S S') : CB S' 1 B := h.by g8 (fun a h1 h2 => ⟨e.1 a (by omega) (by omega) (by omega), e.2.2 a (by omega)⟩)
/-- script -/
theorem y_script : Step (F_X7_script 0) (F_X8_script 202) := by
  rintro S ⟨B, hG, hC, hRb, hRS⟩
  have g8 := hG.1.2.2.2.1
  obtain ⟨n, n1, n2, n3, n4⟩ := hRS.2.1
  have hw : ∀ j, j < n → (S.1 187 j).toNatClampNeg ≤ 255 ∧ S.1 187 j = nI ((S.1 187 j).toNatClampNeg) ∧ S.1 212 j = nI ((S.1 187 j).toNatClampNeg) := by
    intro j hj
    obtain ⟨v, v1, v2, v3⟩ := n4 j hj
    rw [v2, clamp_nI (by omega)]
    exact ⟨v1, rfl, v3⟩
  generalize hwe : (fun j => (S.1 187 j).toNatClampNeg) = w at hw
  have hw : ∀ j, j < n → w j ≤ 255 ∧ S.1 187 j = nI (w j) ∧ S.1 212 j = nI (w j) := by
    intro j hj
    have := hw j hj
    rw [← hwe]
    exact this
  obtain ⟨S1, p1, a1, a2, a3, a4⟩ := pof_e (S := S) (w := w) n1 n2 (fun j hj => ⟨(hw j hj).1, (hw j hj).2.1⟩)
  have hC1 : CB S1 1 B := hC.T g8 (by omega) a4
  -- the reference's form
  have rform : ∀ S', frA S S' → ∃ S2 q', F_X8_isForm 202 S' = some (if formT w n 121 0 = none then 1 else 0, S2) ∧ TR S2 w n q' (formT w n 121 0) ∧ offU S' S2 := by
    intro S' hf
    refine isForm_e n1 (by rw [(hf 202 (by omega)).1]; exact n3) (fun j hj => ⟨(hw j hj).1, ?_⟩)
    rw [(hf 212 (by omega)).1]
    exact (hw j hj).2.2
  cases hF : formT w n 121 0 with
  | some q =>
    have hq := formT_le 121 0 q (by omega) hF
    have fA : frA S (setI S1 186 0 0) := a4.A.tr (offT.p186 _ _ _).A
    obtain ⟨S2, q', b1', b2, b3⟩ := rform _ fA
    rw [hF] at a1 b1' b2
    rw [if_neg (show ¬ (some q = none) from fun z => by cases z)] at b1'
    refine ⟨-1000 - nI q, setI S1 186 0 0, setI S2 202 12 0, ?_, ?_, B, hG, ?_, ?_, ?_⟩
    · unfold F_X7_script
      rw [z6, tgk, a1, cl_some, if_neg (show ¬ fcI (some q) = -1 from fun z => by have h1 := nn0 q (by omega); rw [show nI q = fcI (some q) from rfl, z] at h1; exact absurd h1 (by decide)), z6, tpI]
      rfl
    · unfold F_X8_script
      rw [mgk, b1', cl_some, if_neg (fun z => z rfl), mpI, mI, setI_k (by omega), b2.2.2.2.1]
      rfl
    · exact (((hC1.T g8 (by omega) (offT.p186 _ _ _))).fB g8 b3.B).by g8 (fun a h1 h2 => ⟨setI_n (by omega), rfl⟩)
    · refine RB.same (S := S) hRb ?_
      show S2.2 203 = _
      rw [b3.2.2]
      exact (fA 203 (by omega)).2
    · have fB2 : frB S2 (setI S2 202 12 0) := ⟨fun a h1 _ _ => setI_n h1, fun k _ h1 _ _ => setI_k h1, fun _ _ => rfl⟩
      refine hRS.frT (Nat.le_refl _) (frT_AB fA (b3.B.tr fB2)) ?_ setI_s
      rw [setI_n (by omega), b3.1 186 (by omega) (by omega), setI_s]
      rfl
  | none =>
    rw [hF] at a1
    obtain ⟨S2, c1, c2, c3⟩ := copyBook_e LB59 b1 (by omega) hG.1 hC1
    have fA2 : frA S S2 ∨ True := Or.inr trivial
    have hT2 : TC (setI S2 186 1 (nI 0)) w n 0 := by
      obtain ⟨q1, q2, q3, q4⟩ := a2
      exact ⟨q1, by rw [setI_k (by omega), (c3 186 (by omega)).1]; exact q2, setI_s, fun j hj => by rw [setI_n (by omega), (c3 187 (by omega)).1]; exact q4 j hj⟩
    have hC2 : CB S2 1 B := hC1.off g8 c3 (by omega)
    obtain ⟨r, B', s1, s2, s3, s4⟩ := sc_loop (w := w) (n := n) hG 121 0 0 B hG (Nat.le_refl _) (by omega) (by omega) (by omega) n1 hF
    obtain ⟨S3, d1, d2, d3, d4⟩ := s3 (setI S2 186 1 (nI 0)) 6000 (by omega) hT2 (hC2.T g8 (by omega) (offT.p186 _ _ _)) (c2.T g8 (by omega) (offT.p186 _ _ _))
    have e1 : F_X7_script 0 S = some (r, S3) := by
      unfold F_X7_script
      rw [z6, tgk, a1, cl_some, if_pos (show fcI none = -1 from rfl), z1, z0, bgk LB59, c1, cl_some, z6, show (0 : Int32) = nI 0 from rfl, tpI]
      exact d1
    have fO : ∀ a, (a < 1 ∨ (116 < a ∧ a < 175) ∨ a = 187 ∨ 188 < a) → S3.1 a = S.1 a ∧ S3.2 a = S.2 a := by
      intro a ha
      have f4 := d4 a (by omega)
      have f3 := c3 a (by omega)
      have f1 := a4.1 a (by omega) (by omega)
      refine ⟨?_, ?_⟩
      · rw [f4.1, setI_n (by omega), f3.1, f1]
      · rw [f4.2]
        show S2.2 a = _
        rw [f3.2, a4.2]
    obtain ⟨S4, q', b1', b2, b3⟩ := isForm_e (S := S3) (w := w) n1 (by rw [(fO 202 (by omega)).1]; exact n3) (fun j hj => ⟨(hw j hj).1, by rw [(fO 212 (by omega)).1]; exact (hw j hj).2.2⟩)
    rw [hF] at b1' b2
    have hR4 : RB S4 203 B := RB.same (S := S) hRb (by rw [b3.2.2]; exact (fO 203 (by omega)).2)
    obtain ⟨S5, v1, v2, v3, v4⟩ := take_e kd203 kd205 (by omega) S4
    have hR5 : RB S5 203 B := hR4.same (v3 203 (by omega))
    have hR50 : RB S5 205 B := hR4.copy hG.1 v4
    have hT5 : TR (setI S5 202 19 (nI 0)) w n 0 none := by
      obtain ⟨q1, q2, q3, q4, q5⟩ := b2
      exact ⟨q1, by rw [setI_k (by omega), v2]; exact q2, setI_s, by rw [setI_k (by omega), v2]; exact q4, fun j hj => by rw [setI_n (by omega), v2]; exact q5 j hj⟩
    obtain ⟨S6, w1, w2, w3, w4⟩ := s4 (setI S5 202 19 (nI 0)) 6000 (by omega) hT5 hR5 hR50
    have e2 : F_X8_script 202 S3 = some (r, S6) := by
      unfold F_X8_script
      rw [mgk, b1', cl_some, if_pos rfl, if_pos (by decide), mR0, mR2, v1, cl_some, show (0 : Int32) = nI 0 from rfl, mpI]
      exact w1
    have fI : ∀ a, a ≠ 202 → a ≠ 207 → a ≠ 225 → S6.1 a = S3.1 a := by
      intro a h1 h2 h3
      rw [w4.1 a h1 h2 h3, setI_n h1, v2, b3.1 a h1 h3]
    have fL : ∀ a, (a < 203 ∨ 211 < a ∨ a = 206) → S6.2 a = S3.2 a := by
      intro a ha
      rw [w4.2.2 a (by omega)]
      show S5.2 a = _
      rw [v3 a (by omega), b3.2.2]
    have f202 : S6.1 202 4 = S3.1 202 4 := by
      rw [w4.2.1 4 (by omega) (by omega) (by omega) (by omega), setI_k (by omega), v2, b3.2.1 4 (by omega) (by omega)]
    refine ⟨r, S3, S6, e1, e2, B', s1, d2.by s1.1.2.2.2.1 (fun a h1 h2 => ⟨fI a (by omega) (by omega) (by omega), fL a (by omega)⟩), w2, ?_⟩
    refine hRS.frT s2 ⟨fun a ha => ?_, ?_⟩ ?_ w3
    · have := fO a (by omega)
      exact ⟨(fI a (by omega) (by omega) (by omega)).trans this.1, (fL a (by omega)).trans this.2⟩
    · rw [f202, (fO 202 (by omega)).1]
    · rw [fI 186 (by omega) (by omega) (by omega), d3]
