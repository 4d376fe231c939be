/-! the reference: a payment -/
def offP (S S' : St) (i : Nat) : Prop := S'.1 = S.1 ∧ (∀ a, a ≠ 203 → a ≠ 211 → S'.2 a = S.2 a) ∧ ∀ j, (j < 315 * i ∨ 315 * i + 315 ≤ j) → S'.2 203 j = S.2 203 j
theorem offP.rf (S : St) (i : Nat) : offP S S i := ⟨rfl, fun _ _ _ => rfl, fun _ _ => rfl⟩
theorem offP.tr {S S' S'' : St} {i : Nat} (h : offP S S' i) (h2 : offP S' S'' i) : offP S S'' i := ⟨h2.1.trans h.1, fun a ha hb => (h2.2.1 a ha hb).trans (h.2.1 a ha hb), fun j hj => (h2.2.2 j hj).trans (h.2.2 j hj)⟩
theorem offG.P {S S' : St} {i : Nat} (h : offG S S' i) : offP S S' i := ⟨h.1, fun a ha _ => h.2.1 a ha, h.2.2⟩
theorem offP.L {S S' : St} {i w : Nat} (h : offP S S' i) (hw : w < 315) (v : Int64) : offP S (setL S' 203 (315 * i + w) v) i := ⟨h.1, fun a ha hb => by rw [setL_n ha]; exact h.2.1 a ha hb, fun j hj => by rw [setL_k (by omega)]; exact h.2.2 j hj⟩
theorem offP.Q {S S' : St} {i : Nat} (h : offP S S' i) (w : Nat) (v : Int64) : offP S (setL S' 211 w v) i := ⟨h.1, fun a ha hb => by rw [setL_n hb]; exact h.2.1 a ha hb, fun j hj => by rw [setL_n (by omega)]; exact h.2.2 j hj⟩
theorem j_at (j : Nat) (h : j < 6) (S : St) {β : Type} (K : Int64 → Option β) : aJ 211 (nI j) S K = K (S.2 211 j) := jL kd211 h (by omega) S K
theorem j_set (j : Nat) (h : j < 6) (v : Int64) (S : St) {β : Type} (K : St → Option β) : sJ 211 (nI j) v S K = K (setL S 211 j v) := jS kd211 h (by omega) v S K
theorem RLn.Q {S : St} {i : Nat} {f : Nat → Nat} {q : Nat → Int64} {bs : List Bl} (h : RLn S 203 i f q bs) (w : Nat) (v : Int64) : RLn (setL S 211 w v) 203 i f q bs := by
  unfold RLn at *
  rw [setL_n (by omega)]
  exact h
section RFP
variable {S : St} {i : Nat} {f : Nat → Nat} {q : Nat → Int64} {bs : List Bl}
theorem paidOff_e (hi : i < 8) {w a v : Nat} (hw : w < 315) (ha : a < 2 ^ 62) (hv : v < 2 ^ 62) (h : S.2 203 (315 * i + w) = lN v) : F_X8_paidOff 202 (nI i) (nI w) (lN a) S = some (lN (min a v), setL S 203 (315 * i + w) (lN (v - min a v))) := by
  unfold F_X8_paidOff J_X8_paidOff_21
  rw [mgk, at_e hi hw, cl_some, h]
  by_cases e : a ≤ v
  · rw [if_pos (by rw [lN_le63 (by omega) (by omega)]; exact e), mgk, at_e hi hw, cl_some, h, lN_sub e, mgk, sets_e hi hw, cl_some, Nat.min_eq_left e]
  · rw [if_neg (by rw [lN_le63 (by omega) (by omega)]; exact e), mgk, at_e hi hw, cl_some, h, mgk, at_e hi hw, cl_some, h, lN_sub (Nat.le_refl v), mgk, sets_e hi hw, cl_some, Nat.min_eq_right (by omega)]
theorem fg_loop (hi : i < 8) {m : Nat} (hm : m ≤ 59) : ∀ (j n x : Nat) (S : St), j < n → x + j = 5 * m → ∃ S', L_X8_firstGoes_13 n 202 (nI i) (nI m) (nI x) S = some ((), S') ∧ S'.2 203 (315 * i + 14) = lN m ∧ (∀ w, w < 14 → S'.2 203 (315 * i + w) = S.2 203 (315 * i + w)) ∧ (∀ y, x ≤ y → y < 5 * m → S'.2 203 (315 * i + 15 + y) = S.2 203 (315 * i + 15 + y + 5)) ∧ (∀ y, y < x → S'.2 203 (315 * i + 15 + y) = S.2 203 (315 * i + 15 + y)) ∧ offG S S' i
  | _, 0, _, _, h, _ => absurd h (Nat.not_lt_zero _)
  | 0, n + 1, x, S, _, hx => by
    refine ⟨setL S 203 (315 * i + 14) (lN m), ?_, setL_s, fun w hw => setL_k (by omega), fun y h1 h2 => by omega, fun y hy => setL_k (by omega), (offG.rf S i).L (by omega) _⟩
    show B_X8_firstGoes_13 _ _ _ _ _ _ = _
    unfold B_X8_firstGoes_13
    rw [show (5 : Int32) * nI m = nI (5 * m) from pk_mul 5 m, if_pos (by rw [nI_leI (by omega) (by omega)]; omega), mgk, wide_nI (by omega), show (14 : Int32) = nI 14 from rfl, sets_e hi (by omega), cl_some]
  | j + 1, n + 1, x, S, hn, hx => by
    show ∃ S', B_X8_firstGoes_13 _ _ _ _ _ _ = _ ∧ _
    unfold B_X8_firstGoes_13
    rw [show (5 : Int32) * nI m = nI (5 * m) from pk_mul 5 m, if_neg (by rw [nI_leI (by omega) (by omega)]; omega), mgk, show (15 : Int32) + nI x = nI (15 + x) from nI_add 15 x, show nI (15 + x) + 5 = nI (15 + x + 5) from nI_add _ 5, at_e hi (by omega), cl_some, mgk, sets_e hi (by omega), cl_some, show nI x + 1 = nI (x + 1) from nI_1 x]
    obtain ⟨S', r1, r2, r3, r4, r5, r6⟩ := fg_loop hi hm j n (x + 1) (setL S 203 (315 * i + (15 + x)) (S.2 203 (315 * i + (15 + x + 5)))) (by omega) (by omega)
    refine ⟨S', r1, r2, fun w hw => ?_, fun y h1 h2 => ?_, fun y hy => ?_, ((offG.rf S i).L (by omega) _).tr r6⟩
    · rw [r3 w hw, setL_k (by omega)]
    · by_cases e : y = x
      · subst e
        rw [r5 y (by omega), show 315 * i + 15 + y = 315 * i + (15 + y) by omega, setL_s, show 315 * i + (15 + y) + 5 = 315 * i + (15 + y + 5) by omega]
      · rw [r4 y (by omega) h2, setL_k (by omega)]
    · rw [r5 y (by omega), setL_k (by omega)]
theorem firstGoes_e (hi : i < 8) {b : Bl} (hS : RLn S 203 i f q (b :: bs)) (hl : bs.length < 60) : ∃ S', F_X8_firstGoes 202 (nI i) S = some ((), S') ∧ RLn S' 203 i f q bs ∧ offG S S' i := by
  obtain ⟨h1, h2, h3, h4⟩ := hS
  unfold F_X8_firstGoes
  rw [mgk, show (14 : Int32) = nI 14 from rfl, at_e hi (by omega), cl_some, h3, lN_i32, bd_e, show (1 : Int32) = nI 1 from rfl, List.length_cons, pk_sub (by omega), Nat.add_sub_cancel]
  obtain ⟨S', r1, r2, r3, r4, r5, r6⟩ := fg_loop hi (m := bs.length) (by omega) (5 * bs.length) 6000 0 S (by omega) (by omega)
  refine ⟨S', r1, ⟨fun w hw => ?_, fun w hw => ?_, r2, fun j y hj => ?_⟩, r6⟩
  · rw [r3 w (by omega)]; exact h1 w hw
  · rw [show 315 * i + 10 + w = 315 * i + (10 + w) by omega, r3 (10 + w) (by omega), ← Nat.add_assoc]; exact h2 w hw
  · have hlj := (List.getElem?_eq_some_iff.mp hj).1
    have g := h4 (j + 1) y hj
    refine ⟨?_, ?_, ?_, ?_, ?_⟩
    · rw [r4 (5 * j) (by omega) (by omega)]; exact g.1
    · rw [show 315 * i + 15 + 5 * j + 1 = 315 * i + 15 + (5 * j + 1) by omega, r4 (5 * j + 1) (by omega) (by omega)]; exact g.2.1
    · rw [show 315 * i + 15 + 5 * j + 2 = 315 * i + 15 + (5 * j + 2) by omega, r4 (5 * j + 2) (by omega) (by omega)]; exact g.2.2.1
    · rw [show 315 * i + 15 + 5 * j + 3 = 315 * i + 15 + (5 * j + 3) by omega, r4 (5 * j + 3) (by omega) (by omega)]; exact g.2.2.2.1
    · rw [show 315 * i + 15 + 5 * j + 4 = 315 * i + 15 + (5 * j + 4) by omega, r4 (5 * j + 4) (by omega) (by omega)]; exact g.2.2.2.2
theorem refAsks_e (hi : i < 8) (hS : RLn S 203 i f q bs) {j : Nat} {b : Bl} (hj : bs[j]? = some b) (hl : bs.length ≤ 60) : F_X8_asks 202 (nI i) (nI j) S = some (lN (bq b), S) := by
  have hlj := (List.getElem?_eq_some_iff.mp hj).1
  have g := hS.2.2.2 j b hj
  unfold F_X8_asks
  rw [show (15 : Int32) + (5 : Int32) * nI j = nI (15 + 5 * j) by rw [show (15 : Int32) = nI 15 from rfl, show (5 : Int32) = nI 5 from rfl, pk_mul, nI_add], bd_e, mgk, show nI (15 + 5 * j) + 1 = nI (15 + 5 * j + 1) from nI_1 _, at_e hi (by omega), cl_some, mgk, show nI (15 + 5 * j) + 2 = nI (15 + 5 * j + 2) from nI_add _ 2, at_e hi (by omega), cl_some, mgk, show nI (15 + 5 * j) + 3 = nI (15 + 5 * j + 3) from nI_add _ 3, at_e hi (by omega), cl_some, show 315 * i + (15 + 5 * j + 1) = 315 * i + 15 + 5 * j + 1 by omega, show 315 * i + (15 + 5 * j + 2) = 315 * i + 15 + 5 * j + 2 by omega, show 315 * i + (15 + 5 * j + 3) = 315 * i + 15 + 5 * j + 3 by omega, g.2.1, g.2.2.1, g.2.2.2.1, lN_add, lN_add]
  rfl
/-- one part of a bill is paid -/
theorem part_e (hi : i < 8) (rec27 : Nat → Int32 → Int64 → St → Option (Unit × St)) (rec49 : Nat → Int32 → Int64 → Int32 → St → Option (Unit × St)) {t x a v s : Nat} (ht : t < 300) (hx : x < 3) (ha : a < 2 ^ 62) (hv : v < 2 ^ 62) (h : S.2 203 (315 * i + (15 + t)) = lN v) (hs : S.2 211 x = lN s) : J_X8_pays_70 rec27 rec49 202 (nI i) (lN a) (nI x) (nI t) 15 (nI i) 202 S = rec49 202 (nI i) (lN (a - min a v)) (nI (x + 1)) (setL (setL S 203 (315 * i + (15 + t)) (lN (v - min a v))) 211 x (lN (s + min a v))) := by
  unfold J_X8_pays_70
  rw [mgk, show (15 : Int32) + nI t = nI (15 + t) from nI_add 15 t, paidOff_e hi (by omega) ha hv h, cl_some, mR10, j_at _ (by omega), j_set _ (by omega), bd_e, setL_n (by omega), hs, lN_add, lN_sub (Nat.min_le_left _ _), show nI x + 1 = nI (x + 1) from nI_1 x]
/-- the first bill is paid -/
theorem bill_e (hi : i < 8) (rec27 : Nat → Int32 → Int64 → St → Option (Unit × St)) (n : Nat) {b : Bl} {a : Nat} {s : Nat → Nat} (hS : RLn S 203 i f q (b :: bs)) (hl : bs.length < 60) (hb : b.2.1 ≤ 100000000 ∧ b.2.2.1 ≤ 100000000 ∧ b.2.2.2.1 ≤ 10000) (ha : a ≤ 1000000000) (hs : ∀ x, x < 3 → S.2 211 x = lN (s x)) : ∃ S', L_X8_pays_49 rec27 (n + 4) 202 (nI i) (lN a) 0 S = (if bq (bp a b) = 0 then (cl (F_X8_firstGoes 202 (nI i) S') fun _ S'' => rec27 202 (nI i) (lN (bl a b)) S'') else J_X8_pays_125 202 (nI i) (lN (bl a b)) S') ∧ RLn S' 203 i f q (bp a b :: bs) ∧ (S'.2 211 0 = lN (s 0 + tF a b.2) ∧ S'.2 211 1 = lN (s 1 + tI a b.2) ∧ S'.2 211 2 = lN (s 2 + tP a b.2)) ∧ offP S S' i := by
  have hlen : (b :: bs).length ≤ 60 := by rw [List.length_cons]; omega
  have g := hS.2.2.2 0 b rfl
  have g3 : S.2 203 (315 * i + (15 + 3)) = lN b.2.2.2.1 := g.2.2.2.1
  have t1 : tF a b.2 = min a b.2.2.2.1 := rfl
  have t2 : tI a b.2 = min (a - min a b.2.2.2.1) b.2.1 := rfl
  have t3 : tP a b.2 = min (a - min a b.2.2.2.1 - min (a - min a b.2.2.2.1) b.2.1) b.2.2.1 := rfl
  have e1 : L_X8_pays_49 rec27 (n + 4) 202 (nI i) (lN a) 0 S = J_X8_pays_70 rec27 (L_X8_pays_49 rec27 (n + 3)) 202 (nI i) (lN a) (nI 0) (nI 3) 15 (nI i) 202 S := by
    show B_X8_pays_49 _ _ _ _ _ _ _ = _
    unfold B_X8_pays_49
    rw [if_neg (by decide), if_neg (by decide)]
    rfl
  rw [e1, part_e hi rec27 _ (by omega) (by omega) (by omega) (by omega) g3 (hs 0 (by omega))]
  have hS1 := (rl_bill hS hlen (j := 0) (b := b) (b' := (b.1, b.2.1, b.2.2.1, b.2.2.2.1 - min a b.2.2.2.1, b.2.2.2.2)) rfl (t := 3) (v := b.2.2.2.1 - min a b.2.2.2.1) (by omega) (fun _ => rfl) (fun _ => rfl) (fun _ => rfl) (fun z => absurd rfl z) (fun _ => rfl) (fun z => by omega) (fun z => by omega) (fun z => by omega) (fun _ => rfl) (fun z => by omega)).Q 0 (lN (s 0 + min a b.2.2.2.1))
  have o1 := ((offP.rf S i).L (w := 15 + 3) (by omega) (lN (b.2.2.2.1 - min a b.2.2.2.1))).Q 0 (lN (s 0 + min a b.2.2.2.1))
  have c1 : ∀ x, (setL (setL S 203 (315 * i + (15 + 3)) (lN (b.2.2.2.1 - min a b.2.2.2.1))) 211 0 (lN (s 0 + min a b.2.2.2.1))).2 211 x = if x = 0 then lN (s 0 + min a b.2.2.2.1) else S.2 211 x := by
    intro x
    by_cases e : x = 0
    · subst e
      rw [setL_s, if_pos rfl]
    · rw [setL_k e, if_neg e, setL_n (by omega)]
  change RLn (setL (setL S 203 (315 * i + (15 + 3)) (lN (b.2.2.2.1 - min a b.2.2.2.1))) 211 0 (lN (s 0 + min a b.2.2.2.1))) 203 i f q ((b.1, b.2.1, b.2.2.1, b.2.2.2.1 - min a b.2.2.2.1, b.2.2.2.2) :: bs) at hS1
  generalize setL (setL S 203 (315 * i + (15 + 3)) (lN (b.2.2.2.1 - min a b.2.2.2.1))) 211 0 (lN (s 0 + min a b.2.2.2.1)) = S1 at hS1 o1 c1 ⊢
  have g1 : S1.2 203 (315 * i + (15 + 1)) = lN b.2.1 := (hS1.2.2.2 0 _ rfl).2.1
  have e2 : L_X8_pays_49 rec27 (n + 3) 202 (nI i) (lN (a - min a b.2.2.2.1)) (nI (0 + 1)) S1 = J_X8_pays_70 rec27 (L_X8_pays_49 rec27 (n + 2)) 202 (nI i) (lN (a - min a b.2.2.2.1)) (nI 1) (nI 1) 15 (nI i) 202 S1 := by
    show B_X8_pays_49 _ _ _ _ _ _ _ = _
    unfold B_X8_pays_49
    rw [if_neg (by decide), if_pos (by decide)]
  rw [e2, part_e hi rec27 _ (by omega) (by omega) (by omega) (by omega) g1 (by rw [c1, if_neg (by omega)]; exact hs 1 (by omega))]
  have hlen1 : ((b.1, b.2.1, b.2.2.1, b.2.2.2.1 - min a b.2.2.2.1, b.2.2.2.2) :: bs : List Bl).length ≤ 60 := by rw [List.length_cons]; omega
  have hS2 := (rl_bill hS1 hlen1 (j := 0) (b := (b.1, b.2.1, b.2.2.1, b.2.2.2.1 - min a b.2.2.2.1, b.2.2.2.2)) (b' := (b.1, b.2.1 - tI a b.2, b.2.2.1, b.2.2.2.1 - min a b.2.2.2.1, b.2.2.2.2)) rfl (t := 1) (v := b.2.1 - tI a b.2) (by omega) (fun _ => rfl) (fun z => absurd rfl z) (fun _ => rfl) (fun _ => rfl) (fun _ => rfl) (fun z => by omega) (fun _ => rfl) (fun z => by omega) (fun z => by omega) (fun z => by omega)).Q 1 (lN (s 1 + tI a b.2))
  have o2 := (o1.L (w := 15 + 1) (by omega) (lN (b.2.1 - tI a b.2))).Q 1 (lN (s 1 + tI a b.2))
  have c2 : ∀ x, (setL (setL S1 203 (315 * i + (15 + 1)) (lN (b.2.1 - tI a b.2))) 211 1 (lN (s 1 + tI a b.2))).2 211 x = if x = 1 then lN (s 1 + tI a b.2) else S1.2 211 x := by
    intro x
    by_cases e : x = 1
    · subst e
      rw [setL_s, if_pos rfl]
    · rw [setL_k e, if_neg e, setL_n (by omega)]
  rw [← t2]
  change RLn (setL (setL S1 203 (315 * i + (15 + 1)) (lN (b.2.1 - tI a b.2))) 211 1 (lN (s 1 + tI a b.2))) 203 i f q ((b.1, b.2.1 - tI a b.2, b.2.2.1, b.2.2.2.1 - min a b.2.2.2.1, b.2.2.2.2) :: bs) at hS2
  generalize setL (setL S1 203 (315 * i + (15 + 1)) (lN (b.2.1 - tI a b.2))) 211 1 (lN (s 1 + tI a b.2)) = S2 at hS2 o2 c2 ⊢
  have g2 : S2.2 203 (315 * i + (15 + 2)) = lN b.2.2.1 := (hS2.2.2.2 0 _ rfl).2.2.1
  have e3 : L_X8_pays_49 rec27 (n + 2) 202 (nI i) (lN (a - min a b.2.2.2.1 - tI a b.2)) (nI (1 + 1)) S2 = J_X8_pays_70 rec27 (L_X8_pays_49 rec27 (n + 1)) 202 (nI i) (lN (a - min a b.2.2.2.1 - tI a b.2)) (nI 2) (nI 2) 15 (nI i) 202 S2 := by
    show B_X8_pays_49 _ _ _ _ _ _ _ = _
    unfold B_X8_pays_49
    rw [if_neg (by decide), if_pos (by decide)]
  rw [e3, part_e hi rec27 _ (by omega) (by omega) (by omega) (by omega) g2 (by rw [c2, if_neg (by omega), c1, if_neg (by omega)]; exact hs 2 (by omega))]
  have hlen2 : ((b.1, b.2.1 - tI a b.2, b.2.2.1, b.2.2.2.1 - min a b.2.2.2.1, b.2.2.2.2) :: bs : List Bl).length ≤ 60 := by rw [List.length_cons]; omega
  have hS3 := (rl_bill hS2 hlen2 (j := 0) (b := (b.1, b.2.1 - tI a b.2, b.2.2.1, b.2.2.2.1 - min a b.2.2.2.1, b.2.2.2.2)) (b' := bp a b) rfl (t := 2) (v := b.2.2.1 - tP a b.2) (by omega) (fun _ => rfl) (fun _ => rfl) (fun z => absurd rfl z) (fun _ => rfl) (fun _ => rfl) (fun z => by omega) (fun z => by omega) (fun _ => rfl) (fun z => by omega) (fun z => by omega)).Q 2 (lN (s 2 + tP a b.2))
  have o3 := (o2.L (w := 15 + 2) (by omega) (lN (b.2.2.1 - tP a b.2))).Q 2 (lN (s 2 + tP a b.2))
  have c3 : ∀ x, (setL (setL S2 203 (315 * i + (15 + 2)) (lN (b.2.2.1 - tP a b.2))) 211 2 (lN (s 2 + tP a b.2))).2 211 x = if x = 2 then lN (s 2 + tP a b.2) else S2.2 211 x := by
    intro x
    by_cases e : x = 2
    · subst e
      rw [setL_s, if_pos rfl]
    · rw [setL_k e, if_neg e, setL_n (by omega)]
  have t3' : min (a - min a b.2.2.2.1 - tI a b.2) b.2.2.1 = tP a b.2 := rfl
  rw [t3']
  change RLn (setL (setL S2 203 (315 * i + (15 + 2)) (lN (b.2.2.1 - tP a b.2))) 211 2 (lN (s 2 + tP a b.2))) 203 i f q (bp a b :: bs) at hS3
  generalize setL (setL S2 203 (315 * i + (15 + 2)) (lN (b.2.2.1 - tP a b.2))) 211 2 (lN (s 2 + tP a b.2)) = S3 at hS3 o3 c3 ⊢
  refine ⟨S3, ?_, hS3, ⟨?_, ?_, ?_⟩, o3⟩
  · have hlen3 : (bp a b :: bs).length ≤ 60 := by rw [List.length_cons]; omega
    have eb : a - min a b.2.2.2.1 - tI a b.2 - tP a b.2 = bl a b := rfl
    have hq : bq (bp a b) ≤ 300000000 := by
      unfold bq bp
      dsimp only
      omega
    rw [eb]
    show B_X8_pays_49 _ _ _ _ _ _ _ = _
    unfold B_X8_pays_49
    rw [if_pos (by decide), mgk, show (0 : Int32) = nI 0 from rfl, refAsks_e hi hS3 (j := 0) rfl hlen3, cl_some, mgk]
    by_cases z : bq (bp a b) = 0
    · rw [if_pos z, if_pos (by rw [show (0 : Int64) = lN 0 from rfl, lN_le63 (by omega) (by omega)]; omega)]
    · rw [if_neg z, if_neg (by rw [show (0 : Int64) = lN 0 from rfl, lN_le63 (by omega) (by omega)]; omega)]
  · rw [c3, if_neg (by omega), c2, if_neg (by omega), c1, if_pos rfl]; rfl
  · rw [c3, if_neg (by omega), c2, if_pos rfl]
  · rw [c3, if_pos rfl]
/-- all bills in their order -/
theorem pays27_e (hi : i < 8) : ∀ (bs : List Bl) (n a : Nat) (s : Nat → Nat) (S : St), bs.length < n → bs.length ≤ 60 → (∀ b ∈ bs, b.2.1 ≤ 100000000 ∧ b.2.2.1 ≤ 100000000 ∧ b.2.2.2.1 ≤ 10000) → a ≤ 1000000000 → RLn S 203 i f q bs → (∀ x, x < 3 → S.2 211 x = lN (s x)) → ∃ S', L_X8_pays_27 n 202 (nI i) (lN a) S = J_X8_pays_125 202 (nI i) (lN (rp a bs).2.1) S' ∧ RLn S' 203 i f q (rp a bs).2.2 ∧ (S'.2 211 0 = lN (s 0 + (rp a bs).1.1) ∧ S'.2 211 1 = lN (s 1 + (rp a bs).1.2.1) ∧ S'.2 211 2 = lN (s 2 + (rp a bs).1.2.2)) ∧ offP S S' i
  | _, 0, _, _, _, h, _, _, _, _, _ => absurd h (Nat.not_lt_zero _)
  | [], n + 1, a, s, S, _, _, _, ha, hS, hs => by
    refine ⟨S, ?_, hS, ⟨hs 0 (by omega), hs 1 (by omega), hs 2 (by omega)⟩, offP.rf S i⟩
    show B_X8_pays_27 _ _ _ _ _ = _
    unfold B_X8_pays_27
    by_cases z : a = 0
    · rw [if_pos (by rw [z]; exact Int64.le_refl _)]
      rfl
    · rw [if_neg (by rw [show (0 : Int64) = lN 0 from rfl, lN_le63 (by omega) (by omega)]; omega), mgk, show (14 : Int32) = nI 14 from rfl, at_e hi (by omega), cl_some, hS.2.2.1, if_pos (by rw [List.length_nil]; exact Int64.le_refl _)]
      rfl
  | b :: bs, n + 1, a, s, S, hn, hl, hb, ha, hS, hs => by
    rw [List.length_cons] at hn hl
    show ∃ S', B_X8_pays_27 _ _ _ _ _ = _ ∧ _
    unfold B_X8_pays_27
    by_cases z : a = 0
    · subst z
      rw [if_pos (show lN 0 ≤ 0 from Int64.le_refl _), rp_0]
      exact ⟨S, rfl, hS, ⟨hs 0 (by omega), hs 1 (by omega), hs 2 (by omega)⟩, offP.rf S i⟩
    · rw [if_neg (by rw [show (0 : Int64) = lN 0 from rfl, lN_le63 (by omega) (by omega)]; omega), mgk, show (14 : Int32) = nI 14 from rfl, at_e hi (by omega), cl_some, hS.2.2.1, if_neg (by rw [List.length_cons, show (0 : Int64) = lN 0 from rfl, lN_le63 (by omega) (by omega)]; omega)]
      obtain ⟨S1, r1, r2, r3, r4⟩ := bill_e hi (L_X8_pays_27 n) 5996 hS (by omega) (hb b (List.mem_cons_self ..)) ha hs
      have r1' : L_X8_pays_49 (L_X8_pays_27 n) 6000 202 (nI i) (lN a) 0 S = _ := r1
      rw [r1']
      have hbl := bl_le a b
      unfold rp
      rw [if_neg z]
      by_cases h0 : bq (bp a b) = 0
      · rw [if_pos h0, if_pos h0]
        obtain ⟨S2, u1, u2, u3⟩ := firstGoes_e hi r2 (by omega)
        have k2 : ∀ x, S2.2 211 x = S1.2 211 x := fun x => by rw [u3.2.1 211 (by omega)]
        obtain ⟨S', v1, v2, v3, v4⟩ := pays27_e hi bs n (bl a b) (fun x => if x = 0 then s 0 + tF a b.2 else if x = 1 then s 1 + tI a b.2 else s 2 + tP a b.2) S2 (by omega) (by omega) (fun y hy => hb y (List.mem_cons_of_mem _ hy)) (by omega) u2 (fun x hx => by
          rw [k2]
          by_cases e0 : x = 0
          · subst e0; rw [if_pos rfl]; exact r3.1
          · by_cases e1 : x = 1
            · subst e1; rw [if_neg e0, if_pos rfl]; exact r3.2.1
            · have e2 : x = 2 := by omega
              subst e2
              rw [if_neg e0, if_neg e1]; exact r3.2.2)
        refine ⟨S', ?_, v2, ⟨?_, ?_, ?_⟩, (r4.tr u3.P).tr v4⟩
        · rw [u1, cl_some, v1]
        · rw [v3.1]; dsimp only; rw [if_pos rfl, Nat.add_assoc]
        · rw [v3.2.1]; dsimp only; rw [if_neg (by omega), if_pos rfl, Nat.add_assoc]
        · rw [v3.2.2]; dsimp only; rw [if_neg (by omega), if_neg (by omega), Nat.add_assoc]
      · rw [if_neg h0, if_neg h0]
        exact ⟨S1, rfl, r2, r3, r4⟩
end RFP
