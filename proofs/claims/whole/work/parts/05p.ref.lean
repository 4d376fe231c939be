/-! THE REFERENCE: its cells -/
section MOD
variable {β : Type}
theorem kd202 : kd0 202 = (6, 0) := by decide +kernel
theorem kd203 : kd0 203 = (11, 2524) := by decide +kernel
theorem kd211 : kd0 211 = (11, 6) := by decide +kernel
theorem mgR {k a : Nat} (h : rf_model.getD k none = some a) (K : Nat → Option β) : gR 6 k 202 K = K a := by
  unfold gR R0
  rw [kd202]
  show rK (rf_model.getD k none) K = K a
  rw [h]
  rfl
theorem mR0 (K : Nat → Option β) : gR 6 0 202 K = K 203 := mgR rfl K
theorem mR10 (K : Nat → Option β) : gR 6 10 202 K = K 211 := mgR rfl K
theorem mgk (x : Option β) : gk 202 6 x = x := by
  unfold gk
  rw [kd202]
  rfl
theorem mI (k : Nat) (S : St) (K : Int32 → Option β) : gI 6 k 202 S K = K (S.1 202 k) := by
  unfold gI
  rw [kd202]
  rfl
theorem mpI (k : Nat) (v : Int32) (S : St) (K : St → Option β) : pI 6 k 202 v S K = K (setI S 202 k v) := by
  unfold pI
  rw [kd202]
  rfl
theorem mpZ1 (k : Nat) (S : St) (K : St → Option β) : pZ 6 k 202 1 S K = K (setI S 202 k 1) := by
  unfold pZ
  rw [kd202]
  rfl
theorem jL {a n k : Nat} (h : kd0 a = (11, n)) (hk : k < n) (hn : n < 2 ^ 31) (S : St) (K : Int64 → Option β) : aJ a (nI k) S K = K (S.2 a k) := by
  unfold aJ
  rw [h, if_pos ⟨rfl, inb_nI hk hn⟩, clamp_nI (by omega)]
theorem jS {a n k : Nat} (h : kd0 a = (11, n)) (hk : k < n) (hn : n < 2 ^ 31) (v : Int64) (S : St) (K : St → Option β) : sJ a (nI k) v S K = K (setL S a k v) := by
  unfold sJ
  rw [h, if_pos ⟨rfl, inb_nI hk hn⟩, clamp_nI (by omega)]
theorem jI {a n k : Nat} (h : kd0 a = (10, n)) (hk : k < n) (hn : n < 2 ^ 31) (S : St) (K : Int32 → Option β) : aI a (nI k) S K = K (S.1 a k) := by
  unfold aI
  rw [h, if_pos ⟨rfl, inb_nI hk hn⟩, clamp_nI (by omega)]
theorem jSI {a n k : Nat} (h : kd0 a = (10, n)) (hk : k < n) (hn : n < 2 ^ 31) (v : Int32) (S : St) (K : St → Option β) : sI a (nI k) v S K = K (setI S a k v) := by
  unfold sI
  rw [h, if_pos ⟨rfl, inb_nI hk hn⟩, clamp_nI (by omega)]
theorem g_at (j : Nat) (h : j < 2524) (S : St) (K : Int64 → Option β) : aJ 203 (nI j) S K = K (S.2 203 j) := jL kd203 h (by omega) S K
theorem g_set (j : Nat) (h : j < 2524) (v : Int64) (S : St) (K : St → Option β) : sJ 203 (nI j) v S K = K (setL S 203 j v) := jS kd203 h (by omega) v S K
end MOD
theorem ix_e (i w : Nat) : nI i * (315 : Int32) + nI w = nI (315 * i + w) := by
  rw [show (315 : Int32) = nI 315 from rfl, pk_mul, nI_add, Nat.mul_comm]
theorem at_e {i w : Nat} (hi : i < 8) (hw : w < 315) (S : St) : F_X8_at 202 (nI i) (nI w) S = some (S.2 203 (315 * i + w), S) := by
  unfold F_X8_at
  rw [mR0, ix_e, g_at _ (by omega)]
theorem sets_e {i w : Nat} (hi : i < 8) (hw : w < 315) (v : Int64) (S : St) : F_X8_sets 202 (nI i) (nI w) v S = some ((), setL S 203 (315 * i + w) v) := by
  unfold F_X8_sets
  rw [mR0, ix_e, g_set _ (by omega)]
/-- what stands in block i of the reference's row G: numbers f, got q, bills bs -/
def RLn (S : St) (G i : Nat) (f : Nat → Nat) (q : Nat → Int64) (bs : List (Nat × Nat × Nat × Nat × Nat)) : Prop := (∀ w, w < 10 → S.2 G (315 * i + w) = lN (f w)) ∧ (∀ w, w < 4 → S.2 G (315 * i + 10 + w) = q w) ∧ S.2 G (315 * i + 14) = lN bs.length ∧ (∀ j b, bs[j]? = some b → S.2 G (315 * i + 15 + 5 * j) = lN b.1 ∧ S.2 G (315 * i + 15 + 5 * j + 1) = lN b.2.1 ∧ S.2 G (315 * i + 15 + 5 * j + 2) = lN b.2.2.1 ∧ S.2 G (315 * i + 15 + 5 * j + 3) = lN b.2.2.2.1 ∧ S.2 G (315 * i + 15 + 5 * j + 4) = lN b.2.2.2.2)
/-- the bills of a loan, as the reference has them -/
def bls (l : Ln) : List (Nat × Nat × Nat × Nat × Nat) := (lvs l).map (fun k => (pe (l.1 6) k, l.2.2 k))
def RB (S : St) (G : Nat) (B : Bk) : Prop := S.2 G 2520 = lN B.2.2.2.1 ∧ S.2 G 2521 = lN B.1 ∧ S.2 G 2522 = lN B.2.1 ∧ S.2 G 2523 = lN B.2.2.1 ∧ ∀ i, i < B.2.2.2.1 → RLn S G i (B.2.2.2.2 i).1 (B.2.2.2.2 i).2.1 (bls (B.2.2.2.2 i))
/-- a change within block i of g alone -/
def offG (S S' : St) (i : Nat) : Prop := S'.1 = S.1 ∧ (∀ a, a ≠ 203 → S'.2 a = S.2 a) ∧ ∀ j, (j < 315 * i ∨ 315 * i + 315 ≤ j) → S'.2 203 j = S.2 203 j
theorem offG.rf (S : St) (i : Nat) : offG S S i := ⟨rfl, fun _ _ => rfl, fun _ _ => rfl⟩
theorem offG.tr {S S' S'' : St} {i : Nat} (h : offG S S' i) (h2 : offG S' S'' i) : offG S S'' i := ⟨h2.1.trans h.1, fun a ha => (h2.2.1 a ha).trans (h.2.1 a ha), fun j hj => (h2.2.2 j hj).trans (h.2.2 j hj)⟩
theorem offG.L {S S' : St} {i w : Nat} (h : offG S S' i) (hw : w < 315) (v : Int64) : offG S (setL S' 203 (315 * i + w) v) i := ⟨h.1, fun a ha => by rw [setL_n ha]; exact h.2.1 a ha, fun j hj => by rw [setL_k (by omega)]; exact h.2.2 j hj⟩
section RLS
variable {S : St} {i : Nat} {l : Ln}
/-- the numbers of block i -/
def RN (S : St) (i : Nat) (f : Nat → Nat) : Prop := ∀ w, w < 10 → S.2 203 (315 * i + w) = lN (f w)
theorem endOf_e (hi : i < 8) (hS : RN S i l.1) (hG : GS l.1) {k : Nat} (hk : k ≤ l.1 4) : F_X8_endOf 202 (nI i) (nI k) S = some (nI (pe (l.1 6) k), S) := by
  have hm := hG.2.2.2.2.1
  have hs := hG.2.2.2.2.2.2.1
  unfold F_X8_endOf J_X8_endOf_27
  rw [mgk, mgk, show (6 : Int32) = nI 6 from rfl, at_e hi (by omega), cl_some, hS 6 (by omega), lN_i32]
  by_cases h0 : k = 0
  · subst h0
    rw [if_neg (fun z => z rfl), cl_some, lN_i32, pe_0]
  · rw [if_pos (nI_ne0 (by omega) (by omega)), monthsBehind_e _ _ hs.1 (by omega), cl_some, if_pos (by omega)]
theorem periodInterest_e (hi : i < 8) (hS : RN S i l.1) (hG : GS l.1) {k b : Nat} (hk : k < l.1 4) (hb : b ≤ 100000000) : F_X8_periodInterest 202 (nI i) (lN b) (nI k) S = some (lN (ik l (k + 1) b), S) := by
  have hm := hG.2.2.2.2.1
  obtain ⟨-, -, i3, i4⟩ := ik_le hG (k := k + 1) (by omega) (by omega) hb
  rw [Nat.add_sub_cancel] at i3
  unfold F_X8_periodInterest
  rw [mgk, show (1 : Int32) = nI 1 from rfl, at_e hi (by omega), cl_some, mgk, show (2 : Int32) = nI 2 from rfl, at_e hi (by omega), cl_some, mgk, endOf_e hi hS hG (by omega), cl_some, mgk, nI_add, endOf_e hi hS hG (by omega), cl_some, hS 1 (by omega), hS 2 (by omega), lN_i32, refInterestOf_e b _ _ _ _ hb hG.2.1 hG.2.2.1 i3 i4, cl_some]
  rfl
theorem cut_e {A q b : Nat} (hA : A < 2 ^ 62) (hq : q < 2 ^ 62) (hb : b < 2 ^ 62) (S : St) : F_X8_cut (lN A - lN q) 0 (lN b) S = some (lN (min b (A - q)), S) := by
  unfold F_X8_cut J_X8_cut_23
  by_cases h : q ≤ A
  · rw [lN_sub h, if_pos (show (0 : Int64) ≤ lN (A - q) by rw [show (0 : Int64) = lN 0 from rfl, lN_le63 (by omega) (by omega)]; omega)]
    by_cases h2 : A - q ≤ b
    · rw [if_pos ((lN_le63 (by omega) (by omega)).mpr h2), Nat.min_eq_right h2]
    · rw [if_neg (fun z => h2 ((lN_le63 (by omega) (by omega)).mp z)), Nat.min_eq_left (by omega)]
  · have h1 := lN_sub_neg hq (show A < q by omega)
    rw [if_neg (fun z => Int64.lt_irrefl (Int64.lt_of_lt_of_le h1 z)), show A - q = 0 by omega, Nat.min_eq_right (Nat.zero_le _)]
    rfl
theorem repays_loop (hi : i < 8) (hS : RN S i l.1) (hG : GS l.1) {A : Nat} (hA : A ≤ 200000000) : ∀ (j n k b : Nat), j < n → k + j = l.1 4 → b ≤ 100000000 → L_X8_repays_19 n 202 (nI i) (lN A) (lN b) (nI k) S = some (if rl l A j (k + 1) b = 0 then 1 else 0, S)
  | _, 0, _, _, h, _, _ => absurd h (Nat.not_lt_zero _)
  | 0, n + 1, k, b, _, hk, hb => by
    have hm := hG.2.2.2.2.1
    show B_X8_repays_19 _ _ _ _ _ _ _ = _
    unfold B_X8_repays_19 J_X8_repays_72
    rw [mgk, show (4 : Int32) = nI 4 from rfl, at_e hi (by omega), cl_some, hS 4 (by omega), wide_nI (by omega), if_pos (by rw [lN_le63 (by omega) (by omega)]; omega)]
    show _ = some (if b = 0 then 1 else 0, S)
    by_cases h0 : b = 0
    · subst h0
      rfl
    · rw [if_pos (fun z => h0 (by rw [show (0 : Int64) = lN 0 from rfl, lN_eq63 (by omega) (by omega)] at z; exact z)), if_neg h0]
      rfl
  | j + 1, n + 1, k, b, hn, hk, hb => by
    have hm := hG.2.2.2.2.1
    obtain ⟨i1, -, -, -⟩ := ik_le hG (k := k + 1) (by omega) (by omega) hb
    show B_X8_repays_19 _ _ _ _ _ _ _ = _
    unfold B_X8_repays_19
    rw [mgk, show (4 : Int32) = nI 4 from rfl, at_e hi (by omega), cl_some, hS 4 (by omega), wide_nI (by omega), if_neg (by rw [lN_le63 (by omega) (by omega)]; omega), mgk, periodInterest_e hi hS hG (by omega) hb, cl_some, cut_e (by omega) (by omega) (by omega), cl_some, bd_e, lN_sub (Nat.min_le_left _ _), show nI k + 1 = nI (k + 1) from nI_1 k, repays_loop hi hS hG hA j n (k + 1) _ (by omega) (by omega) (by omega)]
    rfl
theorem repays_e (hi : i < 8) (hS : RN S i l.1) (hG : GS l.1) {A : Nat} (hA : A ≤ 200000000) : F_X8_repays 202 (nI i) (lN A) S = some (if rl l A (l.1 4 - l.1 7) (l.1 7 + 1) (l.1 8) = 0 then 1 else 0, S) := by
  have hm := hG.2.2.2.2.1
  have hd := hG.2.2.2.2.2.2.2.1
  unfold F_X8_repays
  rw [mgk, show (8 : Int32) = nI 8 from rfl, at_e hi (by omega), cl_some, mgk, show (7 : Int32) = nI 7 from rfl, at_e hi (by omega), cl_some, hS 8 (by omega), hS 7 (by omega), lN_i32, bd_e]
  exact repays_loop hi hS hG hA _ 6000 _ _ (by omega) (by omega) hG.2.2.2.2.2.2.2.2.1
theorem level_loop (hi : i < 8) (hS : RN S i l.1) (hG : GS l.1) : ∀ (n a b : Nat), b - a < 2 ^ n → a ≤ b → b ≤ 200000000 → ∀ m, n < m → L_X8_level_31 m 202 (nI i) (lN a) (lN b) S = some ((), setL S 203 (315 * i + 9) (lN (bis (fun A => decide (rl l A (l.1 4 - l.1 7) (l.1 7 + 1) (l.1 8) = 0)) n a b)))
  | n, a, b, hw, hab, hb, 0, hm => absurd hm (Nat.not_lt_zero _)
  | 0, a, b, hw, hab, hb, m + 1, hm => by
    have e : a = b := by omega
    subst e
    show B_X8_level_31 _ _ _ _ _ _ = _
    unfold B_X8_level_31
    rw [if_pos (Int64.le_refl _), mgk, show (9 : Int32) = nI 9 from rfl, sets_e hi (by omega), cl_some]
    rfl
  | n + 1, a, b, hw, hab, hb, m + 1, hm => by
    have hp : 2 ^ (n + 1) = 2 * 2 ^ n := by rw [Nat.pow_succ, Nat.mul_comm]
    show B_X8_level_31 _ _ _ _ _ _ = _
    unfold B_X8_level_31 J_X8_level_70
    simp (disch := omega) only [lN_le63, fa_litL, lN_add, pk_lDiv]
    by_cases h : b ≤ a
    · rw [if_pos h, mgk, show (9 : Int32) = nI 9 from rfl, sets_e hi (by omega), cl_some]
      show _ = some ((), setL S 203 (315 * i + 9) (lN (if a < b then _ else a)))
      rw [if_neg (by omega)]
    · rw [if_neg h, bd_e, mgk, repays_e hi hS hG (by omega), cl_some]
      show _ = some ((), setL S 203 (315 * i + 9) (lN (if a < b then (if decide _ = true then _ else _) else a)))
      rw [if_pos (show a < b by omega)]
      by_cases hr : rl l ((a + b) / 2) (l.1 4 - l.1 7) (l.1 7 + 1) (l.1 8) = 0
      · rw [if_pos hr, if_neg ne10, if_pos (decide_eq_true hr)]
        exact level_loop hi hS hG n a ((a + b) / 2) (by omega) (by omega) (by omega) m (by omega)
      · rw [if_neg hr, if_pos (show (0 : Int32) = 0 from rfl), bd_e, lN_add, if_neg (by simp [hr])]
        exact level_loop hi hS hG n ((a + b) / 2 + 1) b (by omega) (by omega) (by omega) m (by omega)
theorem level_e (hi : i < 8) (hS : RN S i l.1) (hG : GS l.1) : ∃ S', F_X8_level 202 (nI i) S = some ((), S') ∧ ((l.1 3 = 0 ∧ l.1 8 ≠ 0) → S' = setL S 203 (315 * i + 9) (lN (lvl l))) ∧ (¬ (l.1 3 = 0 ∧ l.1 8 ≠ 0) → S' = S) := by
  have hk := hG.2.2.2.1
  have hb := hG.2.2.2.2.2.2.2.2.1
  unfold F_X8_level J_X8_level_23
  rw [mgk, show (3 : Int32) = nI 3 from rfl, at_e hi (by omega), cl_some, hS 3 (by omega), mgk, show (8 : Int32) = nI 8 from rfl, at_e hi (by omega), cl_some, hS 8 (by omega)]
  by_cases k0 : l.1 3 = 0
  · rw [k0, if_neg (fun z => z rfl)]
    by_cases b0 : l.1 8 = 0
    · rw [b0, if_neg (fun z => z rfl)]
      exact ⟨S, rfl, fun z => absurd rfl z.2, fun _ => rfl⟩
    · rw [if_pos (fun z => b0 (by rw [show (0 : Int64) = lN 0 from rfl, lN_eq63 (by omega) (by omega)] at z; exact z))]
      refine ⟨_, level_loop hi hS hG 28 0 200000000 (by omega) (by omega) (by omega) 6000 (by omega), fun _ => rfl, fun z => absurd ⟨rfl, b0⟩ z⟩
  · rw [if_pos (fun z => k0 (by rw [show (0 : Int64) = lN 0 from rfl, lN_eq63 (by omega) (by omega)] at z; exact z))]
    exact ⟨S, rfl, fun z => absurd z.1 k0, fun _ => rfl⟩
theorem refPrincipalOf_e (hi : i < 8) (hS : RN S i l.1) (hG : GS l.1) {k b q : Nat} (hk : k < l.1 4) (hb : b ≤ 100000000) (hq : q ≤ 100000000) : F_X8_principalOf 202 (nI i) (lN b) (lN q) (nI k) S = some (lN (pk l (k + 1) b q), S) := by
  have hm := hG.2.2.2.2.1
  have hkd := hG.2.2.2.1
  have hlv := hG.2.2.2.2.2.2.2.2.2.1
  have a4 := hS 4 (by omega)
  have a3 := hS 3 (by omega)
  have a9 := hS 9 (by omega)
  have e1 : l.1 4 - (k + 1) + 1 = l.1 4 - k := by omega
  unfold F_X8_principalOf J_X8_principalOf_69 pk
  rw [mgk, show (4 : Int32) = nI 4 from rfl, at_e hi (by omega), cl_some, a4, lN_i32, bd_e, pk_sub (by omega), e1]
  by_cases h1 : l.1 4 - k = 1
  · rw [h1, if_neg (fun z => z rfl), if_pos (Nat.le_refl 1)]
  · rw [if_pos (show ¬ nI (l.1 4 - k) = (1 : Int32) from fun z => h1 (by rw [show (1 : Int32) = nI 1 from rfl, nI_eq (by omega) (by omega)] at z; exact z)), if_neg (by omega), mgk, show (3 : Int32) = nI 3 from rfl, at_e hi (by omega), cl_some, a3]
    by_cases k0 : l.1 3 = 0
    · rw [k0, if_neg (fun z => z rfl), if_pos rfl, mgk, show (9 : Int32) = nI 9 from rfl, at_e hi (by omega), cl_some, a9, cut_e (by omega) (by omega) (by omega), cl_some]
    · rw [if_pos (show ¬ lN (l.1 3) = 0 from fun z => k0 (by rw [show (0 : Int64) = lN 0 from rfl, lN_eq63 (by omega) (by omega)] at z; exact z)), if_neg k0, mgk, at_e hi (by omega), cl_some, a3]
      by_cases k1 : l.1 3 = 1
      · rw [k1, if_neg (fun z => z rfl), if_pos rfl, wide_nI (by omega)]
        unfold nz
        rw [if_neg (by rw [show (0 : Int64) = lN 0 from rfl, lN_eq63 (by omega) (by omega)]; omega), pk_lDiv (by omega) (by omega) (by omega)]
      · rw [if_pos (show ¬ lN (l.1 3) = 1 from fun z => k1 (by rw [show (1 : Int64) = lN 1 from rfl, lN_eq63 (by omega) (by omega)] at z; exact z)), if_neg k1]
        rfl
end RLS
