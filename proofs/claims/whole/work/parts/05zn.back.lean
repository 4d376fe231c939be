def anyL (n : Nat) (v : Int32) : Bool := (List.range n).any (fun q => decide (v = nI q))
theorem anyL_t {n : Nat} {v : Int32} (h : anyL n v = true) : ∃ q, q < n ∧ v = nI q := by
  obtain ⟨q, h1, h2⟩ := List.any_eq_true.mp h
  exact ⟨q, List.mem_range.mp h1, of_decide_eq_true h2⟩
theorem anyL_f {n : Nat} {v : Int32} (h : anyL n v = false) : ∀ q, q < n → v ≠ nI q := by
  intro q hq e
  have : anyL n v = true := List.any_eq_true.mpr ⟨q, List.mem_range.mpr hq, decide_eq_true e⟩
  rw [h] at this
  exact absurd this (by decide)
def kp (n : Nat) (s v : Int32) : Int32 := if s = 1 then (if anyL n v then s else 0) else s
section BAK
variable {K : Bk}
theorem backC_loop (g8 : K.2.2.2.1 ≤ 8) : ∀ (j n i : Nat) (S : St), j < n → i + j = 6 → CB S 1 K → ∃ S', L_X7_back_23 n 0 (nI i) S = some (nI K.1, S') ∧ S'.2 = S.2 ∧ (∀ a, (a < 190 + 2 * i ∨ 201 < a) → S'.1 a = S.1 a) ∧ (∀ h x, x ≠ 0 → S'.1 (190 + 2 * h) x = S.1 (190 + 2 * h) x) ∧ (∀ h, S'.1 (191 + 2 * h) = S.1 (191 + 2 * h)) ∧ ∀ h, i ≤ h → h < 6 → S'.1 (190 + 2 * h) 0 = kp K.2.2.2.1 (S.1 (190 + 2 * h) 0) (S.1 (190 + 2 * h) 1)
  | _, 0, _, _, h, _, _ => absurd h (Nat.not_lt_zero _)
  | 0, n + 1, i, S, _, hi, hS => by
    refine ⟨S, ?_, rfl, fun _ _ => rfl, fun _ _ _ => rfl, fun _ => rfl, fun h h1 h2 => by omega⟩
    show B_X7_back_23 _ _ _ _ = _
    unfold B_X7_back_23
    rw [if_pos (by rw [fa_lit 6, nI_leI (by omega) (by omega)]; omega), z0, bI b1, hS.1]
  | j + 1, n + 1, i, S, hn, hi, hS => by
    have hi6 : i < 6 := by omega
    have keep : kp K.2.2.2.1 (S.1 (190 + 2 * i) 0) (S.1 (190 + 2 * i) 1) = S.1 (190 + 2 * i) 0 → ∃ S', L_X7_back_23 n 0 (nI (i + 1)) S = some (nI K.1, S') ∧ S'.2 = S.2 ∧ (∀ a, (a < 190 + 2 * i ∨ 201 < a) → S'.1 a = S.1 a) ∧ (∀ h x, x ≠ 0 → S'.1 (190 + 2 * h) x = S.1 (190 + 2 * h) x) ∧ (∀ h, S'.1 (191 + 2 * h) = S.1 (191 + 2 * h)) ∧ ∀ h, i ≤ h → h < 6 → S'.1 (190 + 2 * h) 0 = kp K.2.2.2.1 (S.1 (190 + 2 * h) 0) (S.1 (190 + 2 * h) 1) := by
      intro hk
      obtain ⟨S', r1, r2, r3, r4, r5, r6⟩ := backC_loop g8 j n (i + 1) S (by omega) (by omega) hS
      refine ⟨S', r1, r2, fun a ha => r3 a (by omega), r4, r5, fun h h1 h2 => ?_⟩
      by_cases e : h = i
      · subst e
        rw [hk, r3 _ (by omega)]
      · exact r6 h (by omega) h2
    show ∃ S', B_X7_back_23 _ _ _ _ = _ ∧ _
    unfold B_X7_back_23 J_X7_back_71
    rw [if_neg (by rw [fa_lit 6, nI_leI (by omega) (by omega)]; omega), z7, hR hi6, hI hi6, nI_1]
    by_cases z : S.1 (190 + 2 * i) 0 = 1
    · rw [if_neg (fun y => y z), z0, z7, hR hi6, hI hi6, bgk b1]
      cases ha : anyL K.2.2.2.1 (S.1 (190 + 2 * i) 1) with
      | true =>
        obtain ⟨q, q1, q2⟩ := anyL_t ha
        have h1 : F_X1_has 1 (S.1 (190 + 2 * i) 1) S = some (1, S) := by
          rw [q2]
          exact has_yes b1 hS g8 q1
        rw [h1, cl_some, if_pos (by decide)]
        exact keep (by unfold kp; rw [if_pos z, if_pos ha])
      | false =>
        rw [has_no b1 hS g8 (anyL_f ha), cl_some, if_neg (fun y => y rfl), z7, hR hi6, hpI hi6]
        have hS1 : CB (setI S (190 + 2 * i) 0 0) 1 K := by
          obtain ⟨q0, q1, q2, q3, q4⟩ := hS
          exact ⟨by rw [setI_n (by omega)]; exact q0, by rw [setI_n (by omega)]; exact q1, by rw [setI_n (by omega)]; exact q2, by rw [setI_n (by omega)]; exact q3, fun j hj => (q4 j hj).same (fun x hx => ⟨setI_n (by omega), rfl⟩)⟩
        obtain ⟨S', r1, r2, r3, r4, r5, r6⟩ := backC_loop g8 j n (i + 1) (setI S (190 + 2 * i) 0 0) (by omega) (by omega) hS1
        refine ⟨S', r1, r2, fun a ha => ?_, fun h x hx => ?_, fun h => ?_, fun h h1 h2 => ?_⟩
        · rw [r3 a (by omega), setI_n (by omega)]
        · rw [r4 h x hx]
          by_cases e : h = i
          · subst e
            rw [setI_k hx]
          · rw [setI_n (by omega)]
        · rw [r5 h, setI_n (by omega)]
        · by_cases e : h = i
          · subst e
            rw [r3 _ (by omega), setI_s]
            unfold kp
            rw [if_pos z, ha]
            rfl
          · rw [r6 h (by omega) h2, setI_n (by omega)]
    · rw [if_pos z]
      exact keep (by unfold kp; rw [if_neg z])
theorem backR_loop (g8 : K.2.2.2.1 ≤ 8) : ∀ (j n i : Nat) (S : St), j < n → i + j = 6 → RB S 203 K → ∃ S', L_X8_back_23 n 202 (nI i) S = some (nI K.1, S') ∧ S'.2 = S.2 ∧ (∀ a, a ≠ 213 → S'.1 a = S.1 a) ∧ (∀ h, h < i → S'.1 213 h = S.1 213 h) ∧ ∀ h, i ≤ h → h < 6 → S'.1 213 h = kp K.2.2.2.1 (S.1 213 h) (S.1 214 h)
  | _, 0, _, _, h, _, _ => absurd h (Nat.not_lt_zero _)
  | 0, n + 1, i, S, _, hi, hS => by
    refine ⟨S, ?_, rfl, fun _ _ => rfl, fun _ _ => rfl, fun h h1 h2 => by omega⟩
    show B_X8_back_23 _ _ _ _ = _
    unfold B_X8_back_23
    rw [if_pos (by rw [fa_lit 6, nI_leI (by omega) (by omega)]; omega), mR0, fa_lit 2521, g_at _ (by omega), hS.2.1, lN_i32]
  | j + 1, n + 1, i, S, hn, hi, hS => by
    have hi6 : i < 6 := by omega
    have go : ∀ w, w = kp K.2.2.2.1 (S.1 213 i) (S.1 214 i) → ∃ S', L_X8_back_23 n 202 (nI (i + 1)) (setI S 213 i w) = some (nI K.1, S') ∧ S'.2 = S.2 ∧ (∀ a, a ≠ 213 → S'.1 a = S.1 a) ∧ (∀ h, h < i → S'.1 213 h = S.1 213 h) ∧ ∀ h, i ≤ h → h < 6 → S'.1 213 h = kp K.2.2.2.1 (S.1 213 h) (S.1 214 h) := by
      intro w hw
      obtain ⟨S', r1, r2, r3, r4, r5⟩ := backR_loop g8 j n (i + 1) (setI S 213 i w) (by omega) (by omega) hS
      refine ⟨S', r1, r2, fun a ha => by rw [r3 a ha, setI_n ha], fun h hh => by rw [r4 h (by omega), setI_k (by omega)], fun h h1 h2 => ?_⟩
      by_cases e : h = i
      · subst e
        rw [r4 h (by omega), setI_s, hw]
      · rw [r5 h (by omega) h2, setI_k e, setI_n (by omega)]
    show ∃ S', B_X8_back_23 _ _ _ _ = _ ∧ _
    unfold B_X8_back_23 J_X8_back_61 J_X8_back_67
    rw [if_neg (by rw [fa_lit 6, nI_leI (by omega) (by omega)]; omega), mR13, mR13, jI kd213 hi6 (by omega), nI_1]
    by_cases z : S.1 213 i = 1
    · rw [if_neg (fun y => y z), mR14, jI kd214 hi6 (by omega), mgk]
      cases ha : anyL K.2.2.2.1 (S.1 214 i) with
      | true =>
        obtain ⟨q, q1, q2⟩ := anyL_t ha
        have h1 : F_X8_isLoan 202 (S.1 214 i) S = some (1, S) := by
          rw [q2]
          exact isLoan_yes hS g8 q1
        rw [h1, cl_some, if_pos (by decide), mR13, jI kd213 hi6 (by omega), jSI kd213 hi6 (by omega)]
        exact go _ (by unfold kp; rw [if_pos z, if_pos ha])
      | false =>
        rw [isLoan_no hS g8 (anyL_f ha), cl_some, if_neg (fun y => y rfl), jSI kd213 hi6 (by omega)]
        exact go _ (by unfold kp; rw [if_pos z, ha]; rfl)
    · rw [if_pos z, mR13, jI kd213 hi6 (by omega), jSI kd213 hi6 (by omega)]
      exact go _ (by unfold kp; rw [if_neg z])
end BAK
