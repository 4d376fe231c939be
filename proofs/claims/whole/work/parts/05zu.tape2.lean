/-! THE TAPE READ: FORM; THE REFERENCE -/
def formT (w : Nat → Nat) (n : Nat) : Nat → Nat → Option Nat
  | 0, p => some p
  | d + 1, p => if lineO w n p = true then (if lineP w n p < n then (if w (lineP w n p) = 59 then formT w n d (lineP w n p + 1) else some (lineP w n p)) else none) else some (lineP w n p)
def tlT (w : Nat → Nat) (n d q : Nat) : Option Nat := if q < n then (if w q = 59 then formT w n d (q + 1) else some q) else none
theorem formT_s (w : Nat → Nat) (n d p : Nat) : formT w n (d + 1) p = if lineO w n p = true then tlT w n d (lineP w n p) else some (lineP w n p) := rfl
def fcI : Option Nat → Int32
  | some q => nI q
  | none => -1
section TPF
variable {w : Nat → Nat} {n p : Nat} {S : St}
theorem pof_loop : ∀ (d m x p : Nat) (S : St), d ≤ m → n + 1 ≤ p + d → p ≤ n → 2 * x ≤ p → TC S w n p → ∃ S' q, L_X6_placeOfFault_7 m 186 (nI x) S = some (fcI (formT w n d p), S') ∧ TC S' w n q ∧ q ≤ n ∧ offT S S'
  | 0, _, _, p, _, _, h, h2, _, _ => absurd h (by omega)
  | d + 1, 0, _, _, _, h, _, _, _, _ => absurd h (by omega)
  | d + 1, m + 1, x, p, S, hm, hd, hp, hx, hT => by
    have hB : L_X6_placeOfFault_7 (m + 1) 186 (nI x) S = B_X6_placeOfFault_7 (L_X6_placeOfFault_7 m) 186 (nI x) S := rfl
    have hn := hT.1
    obtain ⟨S1, u1, u2, u3, u4⟩ := rdL_e (by omega) hT
    have hq := lineP_le w n p hp
    rw [hB]
    unfold B_X6_placeOfFault_7
    rw [fa_lit 120, if_neg (by rw [nI_leI (by omega) (by omega)]; omega), tgk, u1, cl_some, formT_s]
    by_cases o : lineO w n p = true
    · rw [if_pos o, if_pos (by decide), tI0, u2.2.2.1, tI0, u2.2.1, if_pos o]
      unfold tlT
      have hgt := lineP_gt o
      by_cases c : lineP w n p < n
      · rw [if_pos (by rw [nI_ltI (by omega) (by omega)]; exact c), tgk, here_e (by omega) u2, cl_some, if_pos c, if_pos c]
        have w8 := (hT.2.2.2 _ c).1
        by_cases e : w (lineP w n p) = 59
        · obtain ⟨S2, q, v1, v2, v3, v4⟩ := pof_loop d m (x + 1) (lineP w n p + 1) (setI S1 186 1 (nI (lineP w n p + 1))) (by omega) (by omega) (by omega) (by omega) (u2.pl _)
          rw [if_pos (show nI (w (lineP w n p)) = 59 by rw [e]; rfl), tI0, u2.2.2.1, nI_1, tpI, nI_1, v1, if_pos e]
          exact ⟨S2, q, rfl, v2, v3, (u4.tr (offT.p186 _ _ _)).tr v4⟩
        · rw [fa_lit 59, if_neg (fun z => by rw [nI_eq (by omega) (by omega)] at z; exact e z), tI0, u2.2.2.1, if_neg e]
          exact ⟨S1, _, rfl, u2, hq, u4⟩
      · rw [if_neg (by rw [nI_ltI (by omega) (by omega)]; exact c), if_neg c]
        exact ⟨S1, _, rfl, u2, hq, u4⟩
    · rw [if_neg o, if_neg (fun z => z rfl), tI0, u2.2.2.1, if_neg o]
      exact ⟨S1, _, rfl, u2, hq, u4⟩
theorem pof_e (hn : n ≤ 120) (h2 : S.1 186 0 = nI n) (h4 : ∀ j, j < n → w j ≤ 255 ∧ S.1 187 j = nI (w j)) : ∃ S' q, F_X6_placeOfFault 186 S = some (fcI (formT w n 121 0), S') ∧ TC S' w n q ∧ q ≤ n ∧ offT S S' := by
  have hT : TC (setI S 186 1 (nI 0)) w n 0 := ⟨hn, by rw [setI_k (by omega)]; exact h2, setI_s, fun j hj => by rw [setI_n (by omega)]; exact h4 j hj⟩
  obtain ⟨S2, q, v1, v2, v3, v4⟩ := pof_loop 121 6000 0 0 (setI S 186 1 (nI 0)) (by omega) (by omega) (by omega) (by omega) hT
  refine ⟨S2, q, ?_, v2, v3, (offT.p186 _ _ _).tr v4⟩
  unfold F_X6_placeOfFault
  rw [show (0 : Int32) = nI 0 from rfl, tpI, v1]
theorem formT_le : ∀ (d p q : Nat), p ≤ n → formT w n d p = some q → q ≤ n
  | 0, p, q, hp, h => by
    cases h
    exact hp
  | d + 1, p, q, hp, h => by
    have hl := lineP_le w n p hp
    rw [formT_s] at h
    unfold tlT at h
    split at h
    · split at h
      · split at h
        · exact formT_le d _ q (by omega) h
        · cases h
          exact hl
      · cases h
    · cases h
      exact hl
/-- the reference's tape -/
def TR (S : St) (w : Nat → Nat) (n p : Nat) (f : Option Nat) : Prop := n ≤ 120 ∧ S.1 202 12 = nI n ∧ S.1 202 19 = nI p ∧ S.1 202 20 = fcI f ∧ ∀ j, j < n → w j ≤ 255 ∧ S.1 212 j = nI (w j)
def offU (S S' : St) : Prop := (∀ a, a ≠ 202 → a ≠ 225 → S'.1 a = S.1 a) ∧ (∀ k, k ≠ 19 → k ≠ 20 → S'.1 202 k = S.1 202 k) ∧ S'.2 = S.2
theorem offU.rf (S : St) : offU S S := ⟨fun _ _ _ => rfl, fun _ _ _ => rfl, rfl⟩
theorem offU.tr {S S' S'' : St} (h : offU S S') (h2 : offU S' S'') : offU S S'' := ⟨fun a h1 h3 => (h2.1 a h1 h3).trans (h.1 a h1 h3), fun a h1 h3 => (h2.2.1 a h1 h3).trans (h.2.1 a h1 h3), h2.2.2.trans h.2.2⟩
theorem offU.p19 (S : St) (v : Int32) : offU S (setI S 202 19 v) := ⟨fun a h1 _ => setI_n h1, fun k h1 _ => setI_k h1, rfl⟩
theorem offU.p20 (S : St) (v : Int32) : offU S (setI S 202 20 v) := ⟨fun a h1 _ => setI_n h1, fun k _ h2 => setI_k h2, rfl⟩
theorem offU.p225 (S : St) (k : Nat) (v : Int32) : offU S (setI S 225 k v) := ⟨fun a _ h2 => setI_n h2, fun k _ _ => by rw [setI_n (by omega)], rfl⟩
theorem TR.pl {f : Option Nat} (h : TR S w n p f) (q : Nat) : TR (setI S 202 19 (nI q)) w n q f := by
  obtain ⟨h1, h2, h3, h4, h5⟩ := h
  exact ⟨h1, by rw [setI_k (by omega)]; exact h2, setI_s, by rw [setI_k (by omega)]; exact h4, fun j hj => by rw [setI_n (by omega)]; exact h5 j hj⟩
theorem TR.ft {f : Option Nat} (h : TR S w n p f) (q : Nat) : TR (setI S 202 20 (nI q)) w n p (some q) := by
  obtain ⟨h1, h2, h3, h4, h5⟩ := h
  exact ⟨h1, by rw [setI_k (by omega)]; exact h2, by rw [setI_k (by omega)]; exact h3, setI_s, fun j hj => by rw [setI_n (by omega)]; exact h5 j hj⟩
theorem TR.n225 {f : Option Nat} (h : TR S w n p f) (i : Nat) (v : Int32) : TR (setI S 225 i v) w n p f := by
  obtain ⟨h1, h2, h3, h4, h5⟩ := h
  exact ⟨h1, by rw [setI_n (by omega)]; exact h2, by rw [setI_n (by omega)]; exact h3, by rw [setI_n (by omega)]; exact h4, fun j hj => by rw [setI_n (by omega)]; exact h5 j hj⟩
theorem mR21 {β : Type} (K : Nat → Option β) : gR 6 21 202 K = K 225 := mgR rfl K
theorem nn0 (q : Nat) (h : q ≤ 200) : (0 : Int32) ≤ nI q := by
  rw [show (0 : Int32) = nI 0 from rfl, nI_leI (by omega) (by omega)]
  omega
theorem sees_no {q : Nat} (hq : q ≤ 200) (h : TR S w n p (some q)) (a b : Int32) : F_X8_sees 202 a b S = some (0, S) := by
  unfold F_X8_sees
  rw [mI, h.2.2.2.1, if_pos (show (0 : Int32) ≤ fcI (some q) from nn0 q hq)]
  rfl
theorem sees_e {a b : Nat} (ha : a ≤ 255) (hb : b ≤ 255) (hp : p ≤ 200) (h : TR S w n p none) : F_X8_sees 202 (nI a) (nI b) S = some (if p < n ∧ a ≤ w p ∧ w p ≤ b then 1 else 0, S) := by
  obtain ⟨h1, h2, h3, h4, h5⟩ := h
  unfold F_X8_sees J_X8_sees_42 J_X8_sees_43
  rw [mI, h4, if_neg (show ¬ (0 : Int32) ≤ fcI none by decide), mI, h3, mI, h2]
  by_cases c : p < n
  · have w8 := h5 p c
    rw [if_neg (by rw [nI_leI (by omega) (by omega)]; omega), mR11, mI, h3, jI kd212 (show p < 120 by omega) (by omega), w8.2, wide_nI (show a < 2 ^ 31 by omega), wide_nI (show b < 2 ^ 31 by omega), inw_e _ _ _ (by omega) (by omega), cl_some]
    by_cases d : a ≤ w p ∧ w p ≤ b
    · rw [if_neg (show ¬ (nI (w p) < nI a ∨ nI b < nI (w p)) by rw [nI_ltI (by omega) (by omega), nI_ltI (by omega) (by omega)]; omega), if_neg (by decide), if_pos ⟨c, d⟩, zr1]
    · rw [if_pos (show nI (w p) < nI a ∨ nI b < nI (w p) by rw [nI_ltI (by omega) (by omega), nI_ltI (by omega) (by omega)]; omega), if_pos rfl, if_neg (fun z => d z.2), zr0]
  · rw [if_pos (by rw [nI_leI (by omega) (by omega)]; omega), if_neg (fun z => c z.1), zr0]
theorem must_y {a b : Nat} (ha : a ≤ 255) (hb : b ≤ 255) (hp : p ≤ 200) (h : TR S w n p none) (c : p < n ∧ a ≤ w p ∧ w p ≤ b) : F_X8_must 202 (nI a) (nI b) S = some (nI (w p), setI S 202 19 (nI (p + 1))) := by
  unfold F_X8_must
  have hn := h.1
  rw [mgk, sees_e ha hb hp h, cl_some, if_pos c, if_pos (by decide), mR11, mI, h.2.2.1, nI_1, mpI, jI kd212 (show p < 120 by omega) (by omega), setI_n (by omega), (h.2.2.2.2 p c.1).2]
theorem must_n {a b : Nat} (ha : a ≤ 255) (hb : b ≤ 255) (hp : p ≤ 200) (h : TR S w n p none) (c : ¬ (p < n ∧ a ≤ w p ∧ w p ≤ b)) : F_X8_must 202 (nI a) (nI b) S = some (nI a, setI S 202 20 (nI p)) := by
  unfold F_X8_must J_X8_must_28
  rw [mgk, sees_e ha hb hp h, cl_some, if_neg c, if_neg (fun z => z rfl), mI, h.2.2.2.1, if_neg (show ¬ (0 : Int32) ≤ fcI none by decide), mI, h.2.2.1, mpI]
theorem must_f {q : Nat} (a b : Int32) (hq : q ≤ 200) (h : TR S w n p (some q)) : F_X8_must 202 a b S = some (a, setI S 202 20 (nI q)) := by
  unfold F_X8_must J_X8_must_28
  rw [mgk, sees_no hq h, cl_some, if_neg (fun z => z rfl), mI, h.2.2.2.1, if_pos (show (0 : Int32) ≤ fcI (some q) from nn0 q hq), mI, h.2.2.2.1, mpI]
  rfl
theorem num_loop : ∀ (r m k p x : Nat) (S : St), r < m → k + r = 8 → p ≤ 200 → TR S w n p none → ∃ S', L_X8_number_23 m 202 (nI x) (nI k) S = some (nI (dg w n r p x).2, S') ∧ TR S' w n (dg w n r p x).1 none ∧ offU S S' ∧ S'.1 225 = S.1 225
  | _, 0, _, _, _, _, h, _, _, _ => absurd h (Nat.not_lt_zero _)
  | 0, m + 1, k, p, x, S, _, hk, hp, hT => by
    refine ⟨S, ?_, hT, offU.rf _, rfl⟩
    show B_X8_number_23 _ _ _ _ _ = _
    unfold B_X8_number_23 J_X8_number_71
    rw [fa_lit 8, if_pos (by rw [nI_leI (by omega) (by omega)]; omega)]
    rfl
  | r + 1, m + 1, k, p, x, S, hm, hk, hp, hT => by
    have hB : L_X8_number_23 (m + 1) 202 (nI x) (nI k) S = B_X8_number_23 (L_X8_number_23 m) 202 (nI x) (nI k) S := rfl
    have hn := hT.1
    rw [hB]
    unfold B_X8_number_23 J_X8_number_71
    rw [fa_lit 8, if_neg (by rw [nI_leI (by omega) (by omega)]; omega), mgk, fa_lit 48, fa_lit 57, sees_e (by omega) (by omega) hp hT, cl_some]
    by_cases c : p < n ∧ 48 ≤ w p ∧ w p ≤ 57
    · obtain ⟨S', u1, u2, u3, u4⟩ := num_loop r m (k + 1) (p + 1) (x * 10 + w p - 48) (setI S 202 19 (nI (p + 1))) (by omega) (by omega) (by omega) (hT.pl _)
      have hd : dg w n (r + 1) p x = dg w n r (p + 1) (x * 10 + w p - 48) := by
        show (if _ then _ else _) = _
        rw [if_pos c]
      rw [hd, if_pos c, if_neg (by decide), mR11, mI, hT.2.2.1, nI_1, mpI, jI kd212 (show p < 120 by omega) (by omega), setI_n (by omega), (hT.2.2.2.2 p c.1).2, bd_e, fa_lit 10, pk_mul, nI_add, pk_sub (by omega), nI_1, Nat.mul_comm 10 x, u1]
      exact ⟨S', rfl, u2, (offU.p19 _ _).tr u3, by rw [u4, setI_n (by omega)]⟩
    · have hd : dg w n (r + 1) p x = (p, x) := by
        show (if _ then _ else _) = _
        rw [if_neg c]
      rw [hd, if_neg c, if_pos rfl]
      exact ⟨S, rfl, hT, offU.rf _, rfl⟩
theorem number_no {q : Nat} (hq : q ≤ 200) (h : TR S w n p (some q)) : ∃ S', F_X8_number 202 S = some (0, S') ∧ TR S' w n p (some q) ∧ offU S S' ∧ S'.1 225 = S.1 225 := by
  refine ⟨setI (setI S 202 20 (nI q)) 202 20 (nI q), ?_, (h.ft q).ft q, (offU.p20 _ _).tr (offU.p20 _ _), by rw [setI_n (by omega), setI_n (by omega)]⟩
  unfold F_X8_number
  rw [mgk, must_f _ _ hq h, cl_some, mgk, must_f _ _ hq (h.ft q), cl_some, bd_e]
  show B_X8_number_23 _ _ _ _ _ = _
  unfold B_X8_number_23 J_X8_number_71
  rw [if_neg (show ¬ (8 : Int32) ≤ 0 by decide), mgk, sees_no hq ((h.ft q).ft q), cl_some, if_pos rfl]
  rfl
theorem number_e (hp : p ≤ 150) (h : TR S w n p none) : ∃ v S', F_X8_number 202 S = some (v, S') ∧ TR S' w n (numP w n p) (if numO w n p = true then none else some (numP w n p)) ∧ (numO w n p = true → v = nI (numV w n p)) ∧ offU S S' ∧ S'.1 225 = S.1 225 := by
  have lf : ∀ (q : Nat) (S : St), q ≤ 200 → TR S w n p (some q) ∨ TR S w n (p + 1) (some q) → L_X8_number_23 6000 202 ((48 : Int32) - (48 : Int32)) (0 : Int32) S = some (0, S) := by
    intro q S hq hS
    show B_X8_number_23 _ _ _ _ _ = _
    unfold B_X8_number_23 J_X8_number_71
    rw [if_neg (show ¬ (8 : Int32) ≤ 0 by decide), mgk]
    rcases hS with hS | hS
    · rw [sees_no hq hS, cl_some, if_pos rfl]
      rfl
    · rw [sees_no hq hS, cl_some, if_pos rfl]
      rfl
  have hn := h.1
  unfold F_X8_number
  by_cases c : p < n ∧ w p = 32
  · rw [mgk, show (32 : Int32) = nI 32 from rfl, must_y (by omega) (by omega) (by omega) h ⟨c.1, by omega, by omega⟩, cl_some, mgk, fa_lit 48, fa_lit 57]
    have hT := h.pl (p + 1)
    have h9 : dg w n 9 (p + 1) 0 = if p + 1 < n ∧ 48 ≤ w (p + 1) ∧ w (p + 1) ≤ 57 then dg w n 8 (p + 1 + 1) (0 * 10 + w (p + 1) - 48) else (p + 1, 0) := rfl
    have eP : numP w n p = (dg w n 9 (p + 1) 0).1 := by
      unfold numP
      rw [if_pos c]
    by_cases d : p + 1 < n ∧ 48 ≤ w (p + 1) ∧ w (p + 1) ≤ 57
    · have o : numO w n p = true := decide_eq_true ⟨c, d⟩
      obtain ⟨S', u1, u2, u3, u4⟩ := num_loop 8 6000 0 (p + 1 + 1) (0 * 10 + w (p + 1) - 48) (setI (setI S 202 19 (nI (p + 1))) 202 19 (nI (p + 1 + 1))) (by omega) (by omega) (by omega) (hT.pl _)
      rw [must_y (by omega) (by omega) (by omega) hT d, cl_some, bd_e, pk_sub (by omega), show w (p + 1) - 48 = 0 * 10 + w (p + 1) - 48 by omega, show (0 : Int32) = nI 0 from rfl, u1, if_pos o, eP, h9, if_pos d]
      refine ⟨_, S', rfl, u2, fun _ => ?_, ((offU.p19 _ _).tr (offU.p19 _ _)).tr u3, by rw [u4, setI_n (by omega), setI_n (by omega)]⟩
      unfold numV
      rw [h9, if_pos d]
    · have o : ¬ numO w n p = true := fun z => d (of_decide_eq_true z).2
      rw [must_n (by omega) (by omega) (by omega) hT d, cl_some, bd_e]
      refine ⟨0, _, lf (p + 1) _ (by omega) (Or.inr (hT.ft _)), ?_, fun z => absurd z o, (offU.p19 _ _).tr (offU.p20 _ _), by rw [setI_n (by omega), setI_n (by omega)]⟩
      rw [if_neg o, eP, h9, if_neg d]
      exact hT.ft _
  · have o : ¬ numO w n p = true := fun z => c (of_decide_eq_true z).1
    have eP : numP w n p = p := by
      unfold numP
      rw [if_neg c]
    rw [mgk, show (32 : Int32) = nI 32 from rfl, must_n (by omega) (by omega) (by omega) h (fun z => c ⟨z.1, by omega⟩), cl_some, mgk, must_f _ _ (show p ≤ 200 by omega) (h.ft p), cl_some, bd_e]
    refine ⟨0, _, lf p _ (by omega) (Or.inl ((h.ft p).ft p)), ?_, fun z => absurd z o, (offU.p20 _ _).tr (offU.p20 _ _), by rw [setI_n (by omega), setI_n (by omega)]⟩
    rw [if_neg o, eP]
    exact (h.ft p).ft p
theorem l77_no {c : Int32} {K q : Nat} (hK : K ≤ 6) (hq : q ≤ 200) : ∀ (k m i : Nat) (S : St), k < m → i + k = K → TR S w n p (some q) → ∃ S', L_X8_line_77 m 202 c (nI K) (nI i) S = some (c, S') ∧ TR S' w n p (some q) ∧ offU S S'
  | _, 0, _, _, h, _, _ => absurd h (Nat.not_lt_zero _)
  | 0, m + 1, i, S, _, hk, hT => by
    refine ⟨S, ?_, hT, offU.rf _⟩
    show B_X8_line_77 _ _ _ _ _ _ = _
    unfold B_X8_line_77
    rw [if_pos (by rw [nI_leI (by omega) (by omega)]; omega)]
  | k + 1, m + 1, i, S, hm, hk, hT => by
    have hB : L_X8_line_77 (m + 1) 202 c (nI K) (nI i) S = B_X8_line_77 (L_X8_line_77 m) 202 c (nI K) (nI i) S := rfl
    rw [hB]
    obtain ⟨S1, u1, u2, u3, u4⟩ := number_no hq hT
    obtain ⟨S2, v1, v2, v3⟩ := l77_no hK hq k m (i + 1) (setI S1 225 i 0) (by omega) (by omega) (u2.n225 _ _)
    unfold B_X8_line_77
    rw [if_neg (by rw [nI_leI (by omega) (by omega)]; omega), mR21, mgk, u1, cl_some, jSI kd225 (show i < 6 by omega) (by omega), nI_1, v1]
    exact ⟨S2, rfl, v2, (u3.tr (offU.p225 _ _ _)).tr v3⟩
theorem l77_e {c : Int32} {K : Nat} (hK : K ≤ 6) : ∀ (k m i p : Nat) (S : St), k < m → i + k = K → p ≤ 121 → TR S w n p none → ∃ S', L_X8_line_77 m 202 c (nI K) (nI i) S = some (c, S') ∧ TR S' w n (nsP w n k p) (if nsO w n k p = true then none else some (nsP w n k p)) ∧ (nsO w n k p = true → (∀ t, t < k → S'.1 225 (i + t) = nI (nsV w n t p)) ∧ ∀ j, j < i → S'.1 225 j = S.1 225 j) ∧ offU S S'
  | _, 0, _, _, _, h, _, _, _ => absurd h (Nat.not_lt_zero _)
  | 0, m + 1, i, p, S, _, hk, hp, hT => by
    refine ⟨S, ?_, hT, fun _ => ⟨fun t ht => by omega, fun _ _ => rfl⟩, offU.rf _⟩
    show B_X8_line_77 _ _ _ _ _ _ = _
    unfold B_X8_line_77
    rw [if_pos (by rw [nI_leI (by omega) (by omega)]; omega)]
  | k + 1, m + 1, i, p, S, hm, hk, hp, hT => by
    have hB : L_X8_line_77 (m + 1) 202 c (nI K) (nI i) S = B_X8_line_77 (L_X8_line_77 m) 202 c (nI K) (nI i) S := rfl
    have hn := hT.1
    rw [hB]
    obtain ⟨x, S1, u1, u2, u3, u4, u5⟩ := number_e (by omega) hT
    have hq : numP w n p ≤ 121 := by
      unfold numP
      split
      · have := dg_le w n 9 (p + 1) 0 (by omega)
        omega
      · exact hp
    unfold B_X8_line_77
    rw [if_neg (by rw [nI_leI (by omega) (by omega)]; omega), mR21, mgk, u1, cl_some, jSI kd225 (show i < 6 by omega) (by omega), nI_1]
    have eP : nsP w n (k + 1) p = if numO w n p = true then nsP w n k (numP w n p) else numP w n p := rfl
    have eO : nsO w n (k + 1) p = (numO w n p && nsO w n k (numP w n p)) := rfl
    by_cases o : numO w n p = true
    · rw [if_pos o] at u2
      obtain ⟨S2, v1, v2, v3, v4⟩ := l77_e hK k m (i + 1) (numP w n p) (setI S1 225 i x) (by omega) (by omega) hq (u2.n225 _ _)
      rw [v1, eP, eO, if_pos o, o, Bool.true_and]
      refine ⟨S2, rfl, v2, fun z => ⟨fun t ht => ?_, fun j hj => ?_⟩, (u4.tr (offU.p225 _ _ _)).tr v4⟩
      · rcases t with _ | t
        · rw [show i + 0 = i from rfl, (v3 z).2 i (by omega), setI_s, u3 o]
          rfl
        · rw [show i + (t + 1) = i + 1 + t by omega, (v3 z).1 t (by omega)]
          rfl
      · rw [(v3 z).2 j (by omega), setI_k (by omega), u5]
    · rw [if_neg o] at u2
      obtain ⟨S2, v1, v2, v3⟩ := l77_no (c := c) hK (show numP w n p ≤ 200 by omega) k m (i + 1) (setI S1 225 i x) (by omega) (by omega) (u2.n225 _ _)
      rw [v1, eP, eO, if_neg o, if_neg (by rw [Bool.and_eq_true]; exact fun z => o z.1)]
      exact ⟨S2, rfl, v2, fun z => by rw [Bool.and_eq_true] at z; exact absurd z.1 o, (u4.tr (offU.p225 _ _ _)).tr v3⟩
theorem line_no {q : Nat} (hq : q ≤ 200) (h : TR S w n p (some q)) : ∃ S', F_X8_line 202 S = some (0, S') ∧ TR S' w n p (some q) ∧ offU S S' := by
  refine ⟨setI S 202 20 (nI q), ?_, h.ft q, offU.p20 _ _⟩
  unfold F_X8_line J_X8_line_30 J_X8_line_31 J_X8_line_60
  rw [mI, h.2.2.2.1, if_pos (show (0 : Int32) ≤ fcI (some q) from nn0 q hq), partsOf_s, cl_some, show sw 0 (-2) swp = -2 by decide +kernel, if_neg (by decide), mI, h.2.2.2.1, if_pos (show (0 : Int32) ≤ fcI (some q) from nn0 q hq), mI, h.2.2.2.1, mpI]
  rfl
theorem line_e (hp : p ≤ 120) (h : TR S w n p none) : ∃ r S', F_X8_line 202 S = some (r, S') ∧ TR S' w n (lineP w n p) (if lineO w n p = true then none else some (lineP w n p)) ∧ (lineO w n p = true → r = nI (w p) ∧ ∀ t, t < nofL (w p) → S'.1 225 t = nI (nsV w n t (p + 1))) ∧ offU S S' := by
  have hn := h.1
  have h6 := nofL_le (w p)
  have bad : ¬ lineO w n p = true → lineP w n p = p → ∃ r S', some ((0 : Int32), setI S 202 20 (nI p)) = some (r, S') ∧ TR S' w n (lineP w n p) (if lineO w n p = true then none else some (lineP w n p)) ∧ (lineO w n p = true → r = nI (w p) ∧ ∀ t, t < nofL (w p) → S'.1 225 t = nI (nsV w n t (p + 1))) ∧ offU S S' := by
    intro o e
    refine ⟨_, _, rfl, ?_, fun z => absurd z o, offU.p20 _ _⟩
    rw [if_neg o, e]
    exact h.ft p
  unfold F_X8_line J_X8_line_30 J_X8_line_31 J_X8_line_60
  rw [mI, h.2.2.2.1, if_neg (show ¬ (0 : Int32) ≤ fcI none by decide), mI, h.2.2.1, mI, h.2.1]
  by_cases c : p < n
  · have w8 := h.2.2.2.2 p c
    rw [if_neg (by rw [nI_leI (by omega) (by omega)]; omega), mR11, mI, h.2.2.1, jI kd212 (show p < 120 by omega) (by omega), w8.2, partsOf_e w8.1, cl_some]
    by_cases d : nofL (w p) = 0
    · rw [if_pos d, if_neg (by decide), mI, h.2.2.2.1, if_neg (show ¬ (0 : Int32) ≤ fcI none by decide), mI, h.2.2.1, mpI]
      refine bad (fun z => ?_) ?_
      · unfold lineO at z
        rw [Bool.and_eq_true, decide_eq_true_eq] at z
        exact z.1.2 d
      · unfold lineP
        rw [if_neg (fun z => z.2 d)]
    · obtain ⟨S', u1, u2, u3, u4⟩ := l77_e (c := nI (w p)) h6 (nofL (w p)) 6000 0 (p + 1) (setI S 202 19 (nI (p + 1))) (by omega) (by omega) (by omega) (h.pl _)
      have eO : lineO w n p = nsO w n (nofL (w p)) (p + 1) := by
        unfold lineO
        rw [decide_eq_true ⟨c, d⟩, Bool.true_and]
      have eP : lineP w n p = nsP w n (nofL (w p)) (p + 1) := by
        unfold lineP
        rw [if_pos ⟨c, d⟩]
      rw [if_neg d, if_pos (nn0 _ (by omega)), mI, h.2.2.1, nI_1, mpI, show (0 : Int32) = nI 0 from rfl, u1, eO, eP]
      refine ⟨_, S', rfl, u2, fun z => ⟨rfl, fun t ht => ?_⟩, (offU.p19 _ _).tr u4⟩
      have := (u3 z).1 t ht
      rw [show 0 + t = t by omega] at this
      exact this
  · rw [if_pos (by rw [nI_leI (by omega) (by omega)]; omega), partsOf_s, cl_some, show sw 0 (-2) swp = -2 by decide +kernel, if_neg (by decide), mI, h.2.2.2.1, if_neg (show ¬ (0 : Int32) ≤ fcI none by decide), mI, h.2.2.1, mpI]
    refine bad (fun z => c (lineP_gt z).1) ?_
    unfold lineP
    rw [if_neg (fun z => c z.1)]
theorem isf_no {q : Nat} (m : Nat) (hq : q ≤ 200) (h : TR S w n p (some q)) : L_X8_isForm_15 (m + 1) 202 S = some (0, S) := by
  show B_X8_isForm_15 _ _ _ = _
  unfold B_X8_isForm_15 J_X8_isForm_50
  rw [mI, h.2.2.2.1, if_pos (show (0 : Int32) ≤ fcI (some q) from nn0 q hq), mI, h.2.2.2.1, if_pos (show (0 : Int32) ≤ fcI (some q) from nn0 q hq)]
  rfl
theorem isf_loop : ∀ (d m q : Nat) (S : St), d + 2 ≤ m → n ≤ q + d → q ≤ n → TR S w n q none → ∃ S' q', L_X8_isForm_15 m 202 S = some (if tlT w n d q = none then 1 else 0, S') ∧ TR S' w n q' (tlT w n d q) ∧ offU S S'
  | _, 0, _, _, h, _, _, _ => absurd h (by omega)
  | d, m + 1, q, S, hm, hd, hq, hT => by
    have hB : L_X8_isForm_15 (m + 1) 202 S = B_X8_isForm_15 (L_X8_isForm_15 m) 202 S := rfl
    have hn := hT.1
    rw [hB]
    unfold B_X8_isForm_15 J_X8_isForm_50
    rw [mI, hT.2.2.2.1, if_neg (show ¬ (0 : Int32) ≤ fcI none by decide), mI, hT.2.2.1, mI, hT.2.1]
    by_cases c : q < n
    · rw [if_neg (by rw [nI_leI (by omega) (by omega)]; omega), mgk, show (59 : Int32) = nI 59 from rfl]
      obtain ⟨d, rfl⟩ : ∃ e, d = e + 1 := ⟨d - 1, by omega⟩
      obtain ⟨m, rfl⟩ : ∃ e, m = e + 1 := ⟨m - 1, by omega⟩
      by_cases e : w q = 59
      · rw [must_y (by omega) (by omega) (by omega) hT ⟨c, by omega, by omega⟩, cl_some, mgk]
        obtain ⟨r, S1, u1, u2, u3, u4⟩ := line_e (p := q + 1) (by omega) (hT.pl (q + 1))
        have eT : tlT w n (d + 1) q = if lineO w n (q + 1) = true then tlT w n d (lineP w n (q + 1)) else some (lineP w n (q + 1)) := by
          unfold tlT
          rw [if_pos c, if_pos e]
          rfl
        have hl := lineP_le w n (q + 1) (by omega)
        rw [u1, cl_some]
        by_cases o : lineO w n (q + 1) = true
        · rw [if_pos o] at u2 eT
          have hg := lineP_gt o
          obtain ⟨S2, q', v1, v2, v3⟩ := isf_loop d (m + 1) (lineP w n (q + 1)) S1 (by omega) (by omega) hl u2
          rw [v1, eT]
          exact ⟨S2, q', rfl, v2, ((offU.p19 _ _).tr u4).tr v3⟩
        · rw [if_neg o] at u2 eT
          rw [isf_no m (by omega) u2, eT]
          exact ⟨S1, _, rfl, u2, (offU.p19 _ _).tr u4⟩
      · have w8 := hT.2.2.2.2 q c
        rw [must_n (by omega) (by omega) (by omega) hT (fun z => e (by omega)), cl_some, mgk]
        obtain ⟨S1, u1, u2, u3⟩ := line_no (show q ≤ 200 by omega) (hT.ft q)
        have eT : tlT w n (d + 1) q = some q := by
          unfold tlT
          rw [if_pos c, if_neg e]
        rw [u1, cl_some, isf_no m (by omega) u2, eT]
        exact ⟨S1, _, rfl, u2, (offU.p20 _ _).tr u3⟩
    · have eT : tlT w n d q = none := by
        unfold tlT
        rw [if_neg c]
      rw [if_pos (by rw [nI_leI (by omega) (by omega)]; omega), mI, hT.2.2.2.1, if_neg (show ¬ (0 : Int32) ≤ fcI none by decide), eT]
      exact ⟨S, q, rfl, hT, offU.rf _⟩
theorem isForm_e (hn : n ≤ 120) (h2 : S.1 202 12 = nI n) (h5 : ∀ j, j < n → w j ≤ 255 ∧ S.1 212 j = nI (w j)) : ∃ S' q', F_X8_isForm 202 S = some (if formT w n 121 0 = none then 1 else 0, S') ∧ TR S' w n q' (formT w n 121 0) ∧ offU S S' := by
  have hT : TR (setI (setI S 202 19 0) 202 20 (-1)) w n 0 none := ⟨hn, by rw [setI_k (by omega), setI_k (by omega)]; exact h2, by rw [setI_k (by omega), setI_s]; rfl, setI_s, fun j hj => by rw [setI_n (by omega), setI_n (by omega)]; exact h5 j hj⟩
  have ho : offU S (setI (setI S 202 19 0) 202 20 (-1)) := (offU.p19 _ _).tr (offU.p20 _ _)
  unfold F_X8_isForm
  rw [mpI, mpI, mgk]
  generalize setI (setI S 202 19 0) 202 20 (-1) = S0 at hT ho ⊢
  obtain ⟨r, S1, u1, u2, u3, u4⟩ := line_e (by omega) hT
  have hl := lineP_le w n 0 (by omega)
  rw [u1, cl_some, formT_s]
  by_cases o : lineO w n 0 = true
  · rw [if_pos o] at u2 ⊢
    obtain ⟨S2, q', v1, v2, v3⟩ := isf_loop 120 6000 (lineP w n 0) S1 (by omega) (by omega) hl u2
    rw [v1]
    exact ⟨S2, q', rfl, v2, (ho.tr u4).tr v3⟩
  · rw [if_neg o] at u2 ⊢
    rw [isf_no 5999 (by omega) u2]
    exact ⟨S1, _, rfl, u2, ho.tr u4⟩
end TPF
