/-! THE TAPE READ, THE CLASS -/
theorem kd188 : kd0 188 = (10, 6) := by decide +kernel
theorem kd225 : kd0 225 = (10, 6) := by decide +kernel
def dg (w : Nat → Nat) (n : Nat) : Nat → Nat → Nat → Nat × Nat
  | 0, p, x => (p, x)
  | r + 1, p, x => if p < n ∧ 48 ≤ w p ∧ w p ≤ 57 then dg w n r (p + 1) (x * 10 + w p - 48) else (p, x)
def nofL (c : Nat) : Nat := if c = 100 ∨ c = 102 ∨ c = 103 ∨ c = 119 then 1 else if c = 112 ∨ c = 114 then 2 else if c = 108 then 6 else 0
def numP (w : Nat → Nat) (n p : Nat) : Nat := if p < n ∧ w p = 32 then (dg w n 9 (p + 1) 0).1 else p
def numO (w : Nat → Nat) (n p : Nat) : Bool := decide ((p < n ∧ w p = 32) ∧ (p + 1 < n ∧ 48 ≤ w (p + 1) ∧ w (p + 1) ≤ 57))
def numV (w : Nat → Nat) (n p : Nat) : Nat := (dg w n 9 (p + 1) 0).2
def nsP (w : Nat → Nat) (n : Nat) : Nat → Nat → Nat
  | 0, p => p
  | k + 1, p => if numO w n p = true then nsP w n k (numP w n p) else numP w n p
def nsO (w : Nat → Nat) (n : Nat) : Nat → Nat → Bool
  | 0, _ => true
  | k + 1, p => numO w n p && nsO w n k (numP w n p)
def nsV (w : Nat → Nat) (n : Nat) : Nat → Nat → Nat
  | 0, p => numV w n p
  | t + 1, p => nsV w n t (numP w n p)
def lineO (w : Nat → Nat) (n p : Nat) : Bool := decide (p < n ∧ nofL (w p) ≠ 0) && nsO w n (nofL (w p)) (p + 1)
def lineP (w : Nat → Nat) (n p : Nat) : Nat := if p < n ∧ nofL (w p) ≠ 0 then nsP w n (nofL (w p)) (p + 1) else p
theorem dg_ge (w : Nat → Nat) (n : Nat) : ∀ r p x, p ≤ (dg w n r p x).1
  | 0, _, _ => Nat.le_refl _
  | r + 1, p, x => by
    unfold dg
    split
    · exact Nat.le_trans (Nat.le_succ p) (dg_ge w n r (p + 1) _)
    · exact Nat.le_refl _
theorem dg_le (w : Nat → Nat) (n : Nat) : ∀ r p x, p ≤ n → (dg w n r p x).1 ≤ n
  | 0, _, _, h => h
  | r + 1, p, x, h => by
    unfold dg
    split
    · rename_i c
      exact dg_le w n r (p + 1) _ (by omega)
    · exact h
theorem numP_ge (w : Nat → Nat) (n p : Nat) : p ≤ numP w n p := by
  unfold numP
  split
  · exact Nat.le_trans (Nat.le_succ p) (dg_ge w n 9 (p + 1) 0)
  · exact Nat.le_refl _
theorem numP_le (w : Nat → Nat) (n p : Nat) (h : p ≤ n) : numP w n p ≤ n := by
  unfold numP
  split
  · rename_i c
    exact dg_le w n 9 (p + 1) 0 (by omega)
  · exact h
theorem nsP_ge (w : Nat → Nat) (n : Nat) : ∀ k p, p ≤ nsP w n k p
  | 0, _ => Nat.le_refl _
  | k + 1, p => by
    unfold nsP
    split
    · exact Nat.le_trans (numP_ge w n p) (nsP_ge w n k _)
    · exact numP_ge w n p
theorem nsP_le (w : Nat → Nat) (n : Nat) : ∀ k p, p ≤ n → nsP w n k p ≤ n
  | 0, _, h => h
  | k + 1, p, h => by
    unfold nsP
    split
    · exact nsP_le w n k _ (numP_le w n p h)
    · exact numP_le w n p h
theorem lineP_le (w : Nat → Nat) (n p : Nat) (h : p ≤ n) : lineP w n p ≤ n := by
  unfold lineP
  split
  · rename_i c
    exact nsP_le w n _ _ (by omega)
  · exact h
theorem lineP_gt {w : Nat → Nat} {n p : Nat} (h : lineO w n p = true) : p < n ∧ p + 1 ≤ lineP w n p := by
  unfold lineO at h
  rw [Bool.and_eq_true, decide_eq_true_eq] at h
  refine ⟨h.1.1, ?_⟩
  unfold lineP
  rw [if_pos h.1]
  exact nsP_ge w n _ _
/-- the class's tape: n bytes w, read to place p -/
def TC (S : St) (w : Nat → Nat) (n p : Nat) : Prop := n ≤ 120 ∧ S.1 186 0 = nI n ∧ S.1 186 1 = nI p ∧ ∀ j, j < n → w j ≤ 255 ∧ S.1 187 j = nI (w j)
def offT (S S' : St) : Prop := (∀ a, a ≠ 186 → a ≠ 188 → S'.1 a = S.1 a) ∧ S'.2 = S.2
theorem offT.rf (S : St) : offT S S := ⟨fun _ _ _ => rfl, rfl⟩
theorem offT.tr {S S' S'' : St} (h : offT S S') (h2 : offT S' S'') : offT S S'' := ⟨fun a h1 h3 => (h2.1 a h1 h3).trans (h.1 a h1 h3), h2.2.trans h.2⟩
section TPR
variable {w : Nat → Nat} {n p : Nat} {S : St}
theorem here_e (hp : p ≤ 200) (h : TC S w n p) : F_X6_here 186 S = some (if p < n then nI (w p) else -1, S) := by
  obtain ⟨h1, h2, h3, h4⟩ := h
  unfold F_X6_here J_X6_here_30 J_X6_here_31
  rw [tI0, h3, if_neg (show ¬ nI p < 0 by rw [show (0 : Int32) = nI 0 from rfl, nI_ltI (by omega) (by omega)]; omega), tI0, h3, tI0, h2]
  by_cases c : p < n
  · rw [if_neg (by rw [nI_leI (by omega) (by omega)]; omega), if_pos c, tr3, tI0, h3, jI kd187 (show p < 120 by omega) (by omega), (h4 p c).2]
  · rw [if_pos (by rw [nI_leI (by omega) (by omega)]; omega), if_neg c]
theorem TC.pl (h : TC S w n p) (q : Nat) : TC (setI S 186 1 (nI q)) w n q := by
  obtain ⟨h1, h2, h3, h4⟩ := h
  exact ⟨h1, by rw [setI_k (by omega)]; exact h2, setI_s, fun j hj => by rw [setI_n (by omega)]; exact h4 j hj⟩
theorem TC.n188 (h : TC S w n p) (i : Nat) (v : Int32) : TC (setI S 188 i v) w n p := by
  obtain ⟨h1, h2, h3, h4⟩ := h
  exact ⟨h1, by rw [setI_n (by omega)]; exact h2, by rw [setI_n (by omega)]; exact h3, fun j hj => by rw [setI_n (by omega)]; exact h4 j hj⟩
theorem TC.lt (h : TC S w n p) (v : Int32) : TC (setI S 186 2 v) w n p := by
  obtain ⟨h1, h2, h3, h4⟩ := h
  exact ⟨h1, by rw [setI_k (by omega)]; exact h2, by rw [setI_k (by omega)]; exact h3, fun j hj => by rw [setI_n (by omega)]; exact h4 j hj⟩
theorem offT.p186 (S : St) (k : Nat) (v : Int32) : offT S (setI S 186 k v) := ⟨fun a h1 _ => setI_n h1, rfl⟩
theorem offT.p188 (S : St) (k : Nat) (v : Int32) : offT S (setI S 188 k v) := ⟨fun a _ h2 => setI_n h2, rfl⟩
theorem rdN_78 {i : Nat} (hi : i < 6) (x k : Nat) (hk : k ≤ 9) (S : St) : J_X6_readNumber_78 186 (nI i) (nI x) (nI k) S = some (if k = 0 then 0 else 1, setI S 188 i (nI x)) := by
  unfold J_X6_readNumber_78 J_X6_readNumber_94
  rw [tr4, jSI kd188 hi (by omega)]
  by_cases c : k = 0
  · subst c
    rw [if_pos (show nI 0 ≤ 0 from Int32.le_refl _), if_pos rfl, zr0]
  · rw [if_neg (show ¬ nI k ≤ 0 by rw [show (0 : Int32) = nI 0 from rfl, nI_leI (by omega) (by omega)]; omega), if_neg c, zr1]
theorem rdN_loop {i : Nat} (hi : i < 6) : ∀ (r m k p x : Nat) (S : St), r < m → k + r = 9 → p ≤ 200 → TC S w n p → ∃ S', L_X6_readNumber_25 m 186 (nI i) (nI x) (nI k) S = some (if k = 0 ∧ (dg w n r p x).1 = p then 0 else 1, S') ∧ TC S' w n (dg w n r p x).1 ∧ S'.1 188 i = nI (dg w n r p x).2 ∧ (∀ j, j ≠ i → S'.1 188 j = S.1 188 j) ∧ S'.1 186 2 = S.1 186 2 ∧ offT S S'
  | _, 0, _, _, _, _, h, _, _, _ => absurd h (Nat.not_lt_zero _)
  | 0, m + 1, k, p, x, S, _, hk, hp, hT => by
    refine ⟨setI S 188 i (nI x), ?_, hT.n188 _ _, setI_s, fun j hj => setI_k hj, by rw [setI_n (by omega)], offT.p188 _ _ _⟩
    show B_X6_readNumber_25 _ _ _ _ _ _ = _
    unfold B_X6_readNumber_25
    rw [fa_lit 9, if_pos (by rw [nI_leI (by omega) (by omega)]; omega), rdN_78 hi x k (by omega)]
    rw [if_neg (show ¬ k = 0 by omega), if_neg (show ¬ (k = 0 ∧ _) from fun z => by omega)]
  | r + 1, m + 1, k, p, x, S, hm, hk, hp, hT => by
    have hB : L_X6_readNumber_25 (m + 1) 186 (nI i) (nI x) (nI k) S = B_X6_readNumber_25 (L_X6_readNumber_25 m) 186 (nI i) (nI x) (nI k) S := rfl
    rw [hB]
    have hn := hT.1
    by_cases c : p < n ∧ 48 ≤ w p ∧ w p ≤ 57
    · obtain ⟨S', u1, u2, u3, u4, u5, u6⟩ := rdN_loop hi r m (k + 1) (p + 1) (x * 10 + w p - 48) (setI S 186 1 (nI (p + 1))) (by omega) (by omega) (by omega) (hT.pl _)
      have hd : dg w n (r + 1) p x = dg w n r (p + 1) (x * 10 + w p - 48) := by
        show (if _ then _ else _) = _
        rw [if_pos c]
      have hge := dg_ge w n r (p + 1) (x * 10 + w p - 48)
      rw [hd]
      refine ⟨S', ?_, u2, u3, fun j hj => by rw [u4 j hj, setI_n (by omega)], by rw [u5, setI_k (by omega)], (offT.p186 _ _ _).tr u6⟩
      unfold B_X6_readNumber_25
      rw [fa_lit 9, if_neg (by rw [nI_leI (by omega) (by omega)]; omega), tgk, here_e hp hT, cl_some, if_pos c.1, fa_lit 48, if_neg (by rw [nI_ltI (by omega) (by omega)]; omega), tgk, here_e hp hT, cl_some, if_pos c.1, fa_lit 57, if_neg (by rw [nI_ltI (by omega) (by omega)]; omega), tgk, here_e hp hT, cl_some, if_pos c.1, bd_e, tI0, hT.2.2.1, nI_1, tpI, nI_1, fa_lit 10, pk_mul, nI_add, pk_sub (by omega), u1]
      rw [if_neg (fun z => by omega), if_neg (fun z => by omega)]
    · have hd : dg w n (r + 1) p x = (p, x) := by
        show (if _ then _ else _) = _
        rw [if_neg c]
      rw [hd]
      refine ⟨setI S 188 i (nI x), ?_, hT.n188 _ _, setI_s, fun j hj => setI_k hj, by rw [setI_n (by omega)], offT.p188 _ _ _⟩
      have e9 : (if k = 0 ∧ ((p, x) : Nat × Nat).1 = p then (0 : Int32) else 1) = if k = 0 then 0 else 1 := by
        by_cases z : k = 0
        · rw [if_pos ⟨z, rfl⟩, if_pos z]
        · rw [if_neg (fun y => z y.1), if_neg z]
      rw [e9]
      unfold B_X6_readNumber_25
      rw [fa_lit 9, if_neg (by rw [nI_leI (by omega) (by omega)]; omega), tgk, here_e hp hT, cl_some]
      by_cases c1 : p < n
      · have w8 := (hT.2.2.2 p c1).1
        rw [if_pos c1]
        by_cases c2 : w p < 48
        · rw [fa_lit 48, if_pos (by rw [nI_ltI (by omega) (by omega)]; omega), rdN_78 hi x k (by omega)]
        · rw [fa_lit 48, if_neg (by rw [nI_ltI (by omega) (by omega)]; omega), tgk, here_e hp hT, cl_some, if_pos c1, fa_lit 57, if_pos (by rw [nI_ltI (by omega) (by omega)]; omega), rdN_78 hi x k (by omega)]
      · rw [if_neg c1, if_pos (show (-1 : Int32) < 48 by decide), rdN_78 hi x k (by omega)]
theorem numO_dg (c : p < n ∧ w p = 32) : (if 0 = 0 ∧ (dg w n 9 (p + 1) 0).1 = p + 1 then (0 : Int32) else 1) = if numO w n p = true then 1 else 0 := by
  have h9 : dg w n 9 (p + 1) 0 = if p + 1 < n ∧ 48 ≤ w (p + 1) ∧ w (p + 1) ≤ 57 then dg w n 8 (p + 1 + 1) (0 * 10 + w (p + 1) - 48) else (p + 1, 0) := rfl
  by_cases d : p + 1 < n ∧ 48 ≤ w (p + 1) ∧ w (p + 1) ≤ 57
  · have hge := dg_ge w n 8 (p + 1 + 1) (0 * 10 + w (p + 1) - 48)
    rw [h9, if_pos d, if_neg (fun z => by omega), if_pos (show numO w n p = true from decide_eq_true ⟨c, d⟩)]
  · rw [h9, if_neg d, if_pos ⟨rfl, rfl⟩, if_neg (fun z => d (of_decide_eq_true z).2)]
theorem rdN_e {i : Nat} (hi : i < 6) (hp : p ≤ 150) (hT : TC S w n p) : ∃ S', F_X6_readNumber 186 (nI i) S = some (if numO w n p = true then 1 else 0, S') ∧ TC S' w n (numP w n p) ∧ (numO w n p = true → S'.1 188 i = nI (numV w n p)) ∧ (∀ j, j ≠ i → S'.1 188 j = S.1 188 j) ∧ S'.1 186 2 = S.1 186 2 ∧ offT S S' := by
  have hn := hT.1
  unfold F_X6_readNumber
  rw [tgk, here_e (by omega) hT, cl_some]
  by_cases c : p < n ∧ w p = 32
  · obtain ⟨S', u1, u2, u3, u4, u5, u6⟩ := rdN_loop hi 9 6000 0 (p + 1) 0 (setI S 186 1 (nI (p + 1))) (by omega) (by omega) (by omega) (hT.pl _)
    refine ⟨S', ?_, ?_, fun _ => u3, fun j hj => by rw [u4 j hj, setI_n (by omega)], by rw [u5, setI_k (by omega)], (offT.p186 _ _ _).tr u6⟩
    · rw [if_pos c.1, c.2, if_pos (show nI 32 = 32 from rfl), tI0, hT.2.2.1, nI_1, tpI, show (0 : Int32) = nI 0 from rfl, u1, numO_dg c]
      rfl
    · unfold numP
      rw [if_pos c]
      exact u2
  · have o : ¬ numO w n p = true := fun z => c (of_decide_eq_true z).1
    refine ⟨S, ?_, ?_, fun z => absurd z o, fun _ _ => rfl, rfl, offT.rf _⟩
    · rw [if_neg o]
      by_cases c1 : p < n
      · have w8 := (hT.2.2.2 p c1).1
        rw [if_pos c1, fa_lit 32, if_neg (fun z => by rw [nI_eq (by omega) (by omega)] at z; exact c ⟨c1, z⟩), zr0]
      · rw [if_neg c1, if_neg (by decide), zr0]
    · unfold numP
      rw [if_neg c]
      exact hT
theorem rdL_loop {K : Nat} (hK : K ≤ 6) : ∀ (k m i p : Nat) (S : St), k < m → i + k = K → p ≤ 121 → TC S w n p → ∃ S', L_X6_readLine_34 m 186 (nI K) (nI i) S = some (if nsO w n k p = true then 1 else 0, S') ∧ TC S' w n (nsP w n k p) ∧ (nsO w n k p = true → ∀ t, t < k → S'.1 188 (i + t) = nI (nsV w n t p)) ∧ (∀ j, j < i → S'.1 188 j = S.1 188 j) ∧ S'.1 186 2 = S.1 186 2 ∧ offT S S'
  | _, 0, _, _, _, h, _, _, _ => absurd h (Nat.not_lt_zero _)
  | 0, m + 1, i, p, S, _, hk, hp, hT => by
    refine ⟨S, ?_, hT, fun _ t ht => by omega, fun _ _ => rfl, rfl, offT.rf _⟩
    show B_X6_readLine_34 _ _ _ _ _ = _
    unfold B_X6_readLine_34
    rw [if_pos (by rw [nI_leI (by omega) (by omega)]; omega), zr1]
    rfl
  | k + 1, m + 1, i, p, S, hm, hk, hp, hT => by
    have hB : L_X6_readLine_34 (m + 1) 186 (nI K) (nI i) S = B_X6_readLine_34 (L_X6_readLine_34 m) 186 (nI K) (nI i) S := rfl
    have hn := hT.1
    rw [hB]
    obtain ⟨S1, u1, u2, u3, u4, u5, u6⟩ := rdN_e (i := i) (by omega) (by omega) hT
    unfold B_X6_readLine_34
    rw [if_neg (by rw [nI_leI (by omega) (by omega)]; omega), tgk, u1, cl_some]
    have eP : nsP w n (k + 1) p = if numO w n p = true then nsP w n k (numP w n p) else numP w n p := rfl
    have eO : nsO w n (k + 1) p = (numO w n p && nsO w n k (numP w n p)) := rfl
    by_cases o : numO w n p = true
    · have hq : numP w n p ≤ 121 := by
        unfold numP
        split
        · have := dg_le w n 9 (p + 1) 0 (by omega)
          omega
        · exact hp
      obtain ⟨S2, v1, v2, v3, v4, v5, v6⟩ := rdL_loop hK k m (i + 1) (numP w n p) S1 (by omega) (by omega) hq u2
      rw [if_pos o, if_pos (by decide), nI_1, v1, eP, eO, o, if_pos rfl, Bool.true_and]
      refine ⟨S2, rfl, v2, fun z t ht => ?_, fun j hj => by rw [v4 j (by omega), u4 j (by omega)], v5.trans u5, u6.tr v6⟩
      rcases t with _ | t
      · rw [show i + 0 = i from rfl, v4 i (by omega), u3 o]
        rfl
      · rw [show i + (t + 1) = i + 1 + t by omega, v3 z t (by omega)]
        rfl
    · rw [if_neg o, if_neg (fun z => z rfl), zr0, eP, eO, if_neg o, if_neg (by rw [Bool.and_eq_true]; exact fun z => o z.1)]
      exact ⟨S1, rfl, u2, fun z => by rw [Bool.and_eq_true] at z; exact absurd z.1 o, fun j hj => u4 j (by omega), u5, u6⟩
theorem sw_map {α β : Type} (f : α → β) (x : Int32) (d : α) : ∀ l : List (Int32 × α), sw x (f d) (l.map (fun y => (y.1, f y.2))) = f (sw x d l)
  | [] => rfl
  | (k, a) :: l => by
    show (if x = k then f a else sw x (f d) (l.map (fun y => (y.1, f y.2)))) = f (if x = k then a else sw x d l)
    rw [sw_map f x d l]
    split <;> rfl
def swv : List (Int32 × Int32) := [(100, 1), (101, 0), (102, 1), (103, 1), (104, 0), (105, 0), (106, 0), (107, 0), (108, 6), (109, 0), (110, 0), (111, 0), (112, 2), (113, 0), (114, 2), (115, 0), (116, 0), (117, 0), (118, 0), (119, 1)]
def swp : List (Int32 × Int32) := [(100, 1), (101, -2), (102, 1), (103, 1), (104, -2), (105, -2), (106, -2), (107, -2), (108, 6), (109, -2), (110, -2), (111, -2), (112, 2), (113, -2), (114, 2), (115, -2), (116, -2), (117, -2), (118, -2), (119, 1)]
theorem numbersOf_s (a : Int32) (S : St) : F_X6_numbersOf a S = some (sw a 0 swv, S) := sw_map (fun v => some (v, S)) a 0 swv
theorem partsOf_s (a : Int32) (S : St) : F_X8_partsOf a S = some (sw a (-2) swp, S) := sw_map (fun v => some (v, S)) a (-2) swp
def swvB (c : Nat) : Bool := decide (sw (nI c) 0 swv = nI (nofL c)) && decide (sw (nI c) (-2) swp = if nofL c = 0 then -2 else nI (nofL c))
theorem swv_chk : all_lt 256 swvB = true := by decide +kernel
theorem numbersOf_e {c : Nat} (h : c ≤ 255) (S : St) : F_X6_numbersOf (nI c) S = some (nI (nofL c), S) := by
  have := all_lt_e swv_chk (show c < 256 by omega)
  unfold swvB at this
  simp only [Bool.and_eq_true, decide_eq_true_eq] at this
  rw [numbersOf_s, this.1]
theorem partsOf_e {c : Nat} (h : c ≤ 255) (S : St) : F_X8_partsOf (nI c) S = some (if nofL c = 0 then -2 else nI (nofL c), S) := by
  have := all_lt_e swv_chk (show c < 256 by omega)
  unfold swvB at this
  simp only [Bool.and_eq_true, decide_eq_true_eq] at this
  rw [partsOf_s, this.2]
theorem nofL_le (c : Nat) : nofL c ≤ 6 := by
  unfold nofL
  split
  · omega
  · split
    · omega
    · split <;> omega
theorem rdL_e (hp : p ≤ 121) (hT : TC S w n p) : ∃ S', F_X6_readLine 186 S = some (if lineO w n p = true then 1 else 0, S') ∧ TC S' w n (lineP w n p) ∧ (lineO w n p = true → S'.1 186 2 = nI (w p) ∧ ∀ t, t < nofL (w p) → S'.1 188 t = nI (nsV w n t (p + 1))) ∧ offT S S' := by
  have hn := hT.1
  have h6 := nofL_le (w p)
  unfold F_X6_readLine
  rw [tgk, here_e (by omega) hT, cl_some, tpI, tI0, setI_s]
  by_cases c : p < n
  · have w8 := (hT.2.2.2 p c).1
    rw [if_pos c, numbersOf_e w8, cl_some]
    by_cases d : nofL (w p) = 0
    · rw [d, if_neg (show ¬ ¬ nI 0 = 0 from fun z => z rfl), zr0]
      have o : ¬ lineO w n p = true := fun z => by
        unfold lineO at z
        rw [Bool.and_eq_true, decide_eq_true_eq] at z
        exact z.1.2 d
      refine ⟨_, by rw [if_neg o], ?_, fun z => absurd z o, offT.p186 _ _ _⟩
      unfold lineP
      rw [if_neg (fun z => z.2 d)]
      exact hT.lt _
    · obtain ⟨S', u1, u2, u3, u4, u5, u6⟩ := rdL_loop h6 (nofL (w p)) 6000 0 (p + 1) (setI (setI S 186 2 (nI (w p))) 186 1 (nI (p + 1))) (by omega) (by omega) (by omega) ((hT.lt _).pl _)
      have eO : lineO w n p = nsO w n (nofL (w p)) (p + 1) := by
        unfold lineO
        rw [decide_eq_true ⟨c, d⟩, Bool.true_and]
      have eP : lineP w n p = nsP w n (nofL (w p)) (p + 1) := by
        unfold lineP
        rw [if_pos ⟨c, d⟩]
      rw [if_pos (show ¬ nI (nofL (w p)) = 0 from fun z => by rw [show (0 : Int32) = nI 0 from rfl, nI_eq (by omega) (by omega)] at z; exact d z), tI0, setI_k (by omega), hT.2.2.1, nI_1, tpI, show (0 : Int32) = nI 0 from rfl, u1, eO, eP]
      refine ⟨S', rfl, u2, fun z => ⟨by rw [u5, setI_k (by omega), setI_s], fun t ht => ?_⟩, ((offT.p186 _ _ _).tr (offT.p186 _ _ _)).tr u6⟩
      have := u3 z t ht
      rw [show 0 + t = t by omega] at this
      exact this
  · rw [if_neg c, numbersOf_s, cl_some, show sw (-1) 0 swv = 0 by decide +kernel, if_neg (fun z => z rfl), zr0]
    have o : ¬ lineO w n p = true := fun z => c (lineP_gt z).1
    refine ⟨_, by rw [if_neg o], ?_, fun z => absurd z o, offT.p186 _ _ _⟩
    unfold lineP
    rw [if_neg (fun z => c z.1)]
    exact hT.lt _
end TPR
