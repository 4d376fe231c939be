/-! a LOAN of the class: what a bill asks, interest, principal, LEVEL -/
theorem lN_ofInt (n : Nat) : lN n = Int64.ofInt n := by
  apply Int64.toBitVec_inj.mp
  unfold lN
  simp [Int64.ofInt, Int64.ofNat]
theorem ofInt64_toInt {z : Int} (h1 : -9223372036854775808 ≤ z) (h2 : z < 9223372036854775808) : (Int64.ofInt z).toInt = z := by
  rw [Int64.toInt_ofInt, show Int64.size = 18446744073709551616 from rfl]
  exact Int.bmod_eq_of_le (by omega) (by omega)
theorem lN_subI (a b : Nat) : lN a - lN b = Int64.ofInt ((a : Int) - b) := by
  rw [lN_ofInt, lN_ofInt, Int64.ofInt_sub]
theorem lN_sub_toInt {a b : Nat} (ha : a < 2 ^ 62) (hb : b < 2 ^ 62) : (lN a - lN b).toInt = (a : Int) - b := by
  rw [lN_subI, ofInt64_toInt (by omega) (by omega)]
theorem lN_sub_neg {a b : Nat} (hb : b < 2 ^ 62) (h : a < b) : lN a - lN b < 0 := by
  rw [Int64.lt_iff_toInt_lt, lN_sub_toInt (by omega) hb, Int64.toInt_zero]
  omega
theorem maxL_sub {a b : Nat} (ha : a < 2 ^ 62) (hb : b < 2 ^ 62) (S : St) : F_J9_max_f86c9 0 (lN a - lN b) S = some (lN (a - b), S) := by
  unfold F_J9_max_f86c9 J_J9_max_f86c9_11
  by_cases h : b ≤ a
  · rw [lN_sub h, show (0 : Int64) = lN 0 from rfl]
    simp only [lN_lt63 (show 0 < 2 ^ 63 by omega) (show a - b < 2 ^ 63 by omega)]
    split
    · rfl
    · rw [show a - b = 0 by omega]
  · have h1 := lN_sub_neg hb (show a < b by omega)
    rw [if_neg (fun z => Int64.lt_irrefl (Int64.lt_trans h1 z)), show a - b = 0 by omega]
    rfl
theorem minL_e {a b : Nat} (ha : a < 2 ^ 63) (hb : b < 2 ^ 63) (S : St) : F_J9_min_f86c9 (lN a) (lN b) S = some (lN (min a b), S) := by
  unfold F_J9_min_f86c9 J_J9_min_f86c9_11
  simp only [lN_lt63 hb ha]
  split
  · rw [Nat.min_eq_right (by omega)]
  · rw [Nat.min_eq_left (by omega)]
theorem maxL_e {a b : Nat} (ha : a < 2 ^ 63) (hb : b < 2 ^ 63) (S : St) : F_J9_max_f86c9 (lN a) (lN b) S = some (lN (max a b), S) := by
  unfold F_J9_max_f86c9 J_J9_max_f86c9_11
  simp only [lN_lt63 ha hb]
  split
  · rw [Nat.max_eq_right (by omega)]
  · rw [Nat.max_eq_left (by omega)]
theorem repaidBy_e {A b i : Nat} (hA : A < 2 ^ 62) (hb : b < 2 ^ 62) (hi : i < 2 ^ 62) (S : St) : F_X4_repaidBy (lN A) (lN b) (lN i) S = some (lN (min b (A - i)), S) := by
  unfold F_X4_repaidBy
  rw [maxL_sub hA hi, cl_some, minL_e (by omega) (by omega), cl_some]
section CLS
variable {S : St} {c : Nat} {l : Ln}
theorem asks_e (hc : LC c) (hS : CL S c l) {k : Nat} (hk : k < 61) : F_X4_asks c (nI k) S = some (lN (ask l k), S) := by
  obtain ⟨-, -, -, -, h5⟩ := hS
  obtain ⟨q1, q2, q3, -⟩ := h5 k hk
  unfold F_X4_asks ask
  rw [lr15 hc, laJ3 hc hk, lr16 hc, laJ4 hc hk, lr17 hc, laJ5 hc hk, q1, q2, q3, lN_add, lN_add]
theorem ask_le (hG : GD l) (k : Nat) : ask l k ≤ 200010000 := by
  have := hG.2.2.2.2.2.2.2.2.2.2.1 k
  unfold ask
  omega
theorem interestOf_e (hc : LC c) (hS : CL S c l) (hG : GS l.1) {k b : Nat} (hk : 1 ≤ k) (hk2 : k ≤ l.1 4) (hb : b ≤ 100000000) : F_X4_interestOf c (nI k) (lN b) S = some (lN (ik l k b), S) := by
  obtain ⟨-, h2, -, h4, -⟩ := hS
  obtain ⟨i1, i2, i3, i4⟩ := ik_le hG hk hk2 hb
  have hk6 : k < 61 := by have := hG.2.2.2.2.1; omega
  have hr := hG.2.1
  unfold F_X4_interestOf
  rw [lI hc, lI hc, lr14 hc, laJ2 hc hk6, h2.1, h2.2.1, h4 k hk hk2, wide_nI (by omega), lN_mul, cents_e _ _ _ hG.2.2.1 (by omega), cl_some]
  rfl
theorem principalOf_e (hc : LC c) (hS : CL S c l) (hG : GS l.1) {k b i : Nat} (hk : 1 ≤ k) (hk2 : k ≤ l.1 4) (hb : b ≤ 100000000) (hi : i ≤ 100000000) : F_X4_principalOf c (nI k) (lN b) (lN i) S = some (lN (pk l k b i), S) := by
  obtain ⟨h1, h2, -, -, -⟩ := hS
  have hm := hG.2.2.2.2.1
  have hkd := hG.2.2.2.1
  have hlv := hG.2.2.2.2.2.2.2.2.2.1
  unfold F_X4_principalOf pk
  rw [lI hc, h2.2.2.2.2.1, bd_e, pk_sub hk2, show (1 : Int32) = nI 1 from rfl, nI_add]
  simp (disch := omega) only [nI_ltI]
  by_cases hlast : l.1 4 - k + 1 ≤ 1
  · rw [if_neg (by omega), if_pos hlast]
  · rw [if_pos (by omega), if_neg hlast, lI hc, h2.2.2.1, sw_e, sw_e, sw_n]
    by_cases k0 : l.1 3 = 0
    · rw [k0, if_pos (show nI 0 = 0 from rfl), if_pos rfl, lL hc, h1.2.2.1, repaidBy_e (by omega) (by omega) (by omega), cl_some]
    · rw [if_neg (nI_ne0 (by omega) (by omega)), if_neg k0]
      by_cases k1 : l.1 3 = 1
      · rw [k1, if_pos rfl, if_pos rfl, wide_nI (by omega)]
        unfold nz
        rw [if_neg (by rw [show (0 : Int64) = lN 0 from rfl, lN_eq63 (by omega) (by omega)]; omega), pk_lDiv (by omega) (by omega) (by omega)]
      · have k2 : l.1 3 = 2 := by omega
        rw [k2, if_neg (by decide), if_neg (by decide)]
        rfl
theorem pkl_le (l : Ln) (k b i : Nat) : pk l k b i ≤ b := by
  unfold pk
  split
  · exact Nat.le_refl _
  · split
    · exact Nat.min_le_left _ _
    · split
      · exact Nat.div_le_self _ _
      · exact Nat.zero_le _
/-- what is left of a balance b if each of n periods from k on repays A less its interest -/
def rl (l : Ln) (A : Nat) : Nat → Nat → Nat → Nat
  | 0, _, b => b
  | n + 1, k, b => rl l A n (k + 1) (b - min b (A - ik l k b))
theorem ik_0 (l : Ln) (k : Nat) : ik l k 0 = 0 := by
  unfold ik ic
  rw [Nat.zero_mul, Nat.zero_mul, Nat.zero_add]
  rcases py_e (l.1 2) with h | h | h <;> rw [h]
theorem rl_0 (l : Ln) (A : Nat) : ∀ n k, rl l A n k 0 = 0
  | 0, _ => rfl
  | n + 1, k => by
    show rl l A n (k + 1) (0 - min 0 (A - ik l k 0)) = 0
    rw [Nat.zero_sub]
    exact rl_0 l A n (k + 1)
theorem isRepaid_loop (hc : LC c) (hS : CL S c l) (hG : GD l) {A : Nat} (hA : A ≤ 200000000) : ∀ (j n k b : Nat), j < n → k + j = l.1 4 + 1 → 1 ≤ k → b ≤ 100000000 → L_X4_isRepaidBy_13 n c (lN A) (lN b) (nI k) S = some (if rl l A j k b = 0 then 1 else 0, S)
  | _, 0, _, _, h, _, _, _ => absurd h (Nat.not_lt_zero _)
  | 0, n + 1, k, b, _, hk, _, hb => by
    have hm := hG.2.2.2.2.1
    show B_X4_isRepaidBy_13 _ _ _ _ _ _ = _
    unfold B_X4_isRepaidBy_13 J_X4_isRepaidBy_49 J_X4_isRepaidBy_60
    rw [lI hc, hS.2.1.2.2.2.2.1]
    simp (disch := omega) only [nI_ltI, show l.1 4 < k by omega, if_true, fa_litL, lN_eq63]
    show _ = some (if b = 0 then 1 else 0, S)
    by_cases h0 : b = 0
    · simp only [h0, not_true, if_false, if_true]; rfl
    · simp only [h0, not_false_eq_true, if_false, if_true]; rfl
  | j + 1, n + 1, k, b, hn, hk, hk1, hb => by
    have hm := hG.2.2.2.2.1
    obtain ⟨i1, -, -, -⟩ := ik_le hG.gs hk1 (show k ≤ l.1 4 by omega) hb
    show B_X4_isRepaidBy_13 _ _ _ _ _ _ = _
    unfold B_X4_isRepaidBy_13
    rw [lI hc, hS.2.1.2.2.2.2.1]
    simp (disch := omega) only [nI_ltI, show ¬ l.1 4 < k by omega, if_false, fa_litL, lN_le63]
    by_cases h0 : b = 0
    · subst h0
      rw [if_pos (Nat.le_refl 0), rl_0]
      rfl
    · rw [if_neg (by omega), lgk hc, interestOf_e hc hS hG.gs hk1 (by omega) hb, cl_some, repaidBy_e (by omega) (by omega) (by omega), cl_some, bd_e, lN_sub (Nat.min_le_left _ _), show nI k + 1 = nI (k + 1) from nI_1 k]
      rw [isRepaid_loop hc hS hG hA j n (k + 1) _ (by omega) (by omega) (by omega) (by omega)]
      rfl
theorem isRepaidBy_e (hc : LC c) (hS : CL S c l) (hG : GD l) {A : Nat} (hA : A ≤ 200000000) : F_X4_isRepaidBy c (lN A) S = some (if rl l A (l.1 4 - l.1 7) (l.1 7 + 1) (l.1 8) = 0 then 1 else 0, S) := by
  have hm := hG.2.2.2.2.1
  have hd := hG.2.2.2.2.2.2.2.1
  unfold F_X4_isRepaidBy
  rw [lL hc, lI hc, hS.1.2.1, hS.2.1.2.2.2.2.2, bd_e, show nI (l.1 7) + 1 = nI (l.1 7 + 1) from nI_1 _]
  exact isRepaid_loop hc hS hG hA _ 6000 _ _ (by omega) (by omega) (by omega) hG.2.2.2.2.2.2.2.2.1
/-- the least in [a, b] by halving -/
def bis (p : Nat → Bool) : Nat → Nat → Nat → Nat
  | 0, a, _ => a
  | n + 1, a, b => if a < b then (if p ((a + b) / 2) then bis p n a ((a + b) / 2) else bis p n ((a + b) / 2 + 1) b) else a
theorem bis_le (p : Nat → Bool) : ∀ n a b, a ≤ b → bis p n a b ≤ b
  | 0, a, b, h => h
  | n + 1, a, b, h => by
    unfold bis
    split
    · split
      · have := bis_le p n a ((a + b) / 2) (by omega)
        omega
      · exact bis_le p n ((a + b) / 2 + 1) b (by omega)
    · exact h
theorem bis_more (p : Nat → Bool) : ∀ n m a b, b - a < 2 ^ n → n ≤ m → bis p m a b = bis p n a b
  | 0, m, a, b, h, _ => by
    have h0 : ¬ a < b := by omega
    cases m with
    | zero => rfl
    | succ m =>
      show (if a < b then _ else a) = a
      rw [if_neg h0]
  | n + 1, 0, _, _, _, hm => by omega
  | n + 1, m + 1, a, b, h, hm => by
    show (if a < b then (if p ((a + b) / 2) then bis p m a ((a + b) / 2) else bis p m ((a + b) / 2 + 1) b) else a) = (if a < b then (if p ((a + b) / 2) then bis p n a ((a + b) / 2) else bis p n ((a + b) / 2 + 1) b) else a)
    have hp : 2 ^ (n + 1) = 2 * 2 ^ n := by rw [Nat.pow_succ, Nat.mul_comm]
    rw [bis_more p n m a ((a + b) / 2) (by omega) (by omega), bis_more p n m ((a + b) / 2 + 1) b (by omega) (by omega)]
/-- the LEVEL of a loan as it stands -/
def lvl (l : Ln) : Nat := bis (fun A => decide (rl l A (l.1 4 - l.1 7) (l.1 7 + 1) (l.1 8) = 0)) 28 0 200000000
def relv (l : Ln) : Ln := if l.1 3 = 0 ∧ l.1 8 ≠ 0 then (up l.1 9 (lvl l), l.2) else l
theorem findLevel_loop (hc : LC c) (hS : CL S c l) (hG : GD l) : ∀ (j n i a b : Nat), j < n → i + j = 28 → a ≤ b → b ≤ 200000000 → L_X4_findLevel_26 n c (lN a) (lN b) (nI i) S = some ((), setL S c 2 (lN (bis (fun A => decide (rl l A (l.1 4 - l.1 7) (l.1 7 + 1) (l.1 8) = 0)) j a b)))
  | _, 0, _, _, _, h, _, _, _ => absurd h (Nat.not_lt_zero _)
  | 0, n + 1, i, a, b, _, hi, hab, hb => by
    show B_X4_findLevel_26 _ _ _ _ _ _ = _
    unfold B_X4_findLevel_26 J_X4_findLevel_74
    have : i = 28 := by omega
    subst this
    rw [if_pos (by decide), lpL hc]
    rfl
  | j + 1, n + 1, i, a, b, hn, hi, hab, hb => by
    show B_X4_findLevel_26 _ _ _ _ _ _ = _
    unfold B_X4_findLevel_26 J_X4_findLevel_74 J_X4_findLevel_68
    rw [if_neg (show ¬ (28 : Int32) ≤ nI i from fun z => by rw [show (28 : Int32) = nI 28 from rfl, nI_leI (by omega) (by omega)] at z; omega)]
    simp (disch := omega) only [lN_le63, fa_litL, lN_add, pk_lDiv]
    by_cases h : b ≤ a
    · rw [if_pos h, lpL hc]
      show _ = some ((), setL S c 2 (lN (if a < b then _ else a)))
      rw [if_neg (by omega)]
    · rw [if_neg h, bd_e, lgk hc, isRepaidBy_e hc hS hG (by omega), cl_some, show nI i + 1 = nI (i + 1) from nI_1 i]
      show _ = some ((), setL S c 2 (lN (if a < b then (if decide _ = true then _ else _) else a)))
      rw [if_pos (show a < b by omega)]
      by_cases hr : rl l ((a + b) / 2) (l.1 4 - l.1 7) (l.1 7 + 1) (l.1 8) = 0
      · rw [if_pos hr, if_neg ne10, if_pos (decide_eq_true hr)]
        exact findLevel_loop hc hS hG j n (i + 1) a ((a + b) / 2) (by omega) (by omega) (by omega) (by omega)
      · rw [if_neg hr, if_pos (show (0 : Int32) = 0 from rfl), bd_e, lN_add, if_neg (by simp [hr])]
        exact findLevel_loop hc hS hG j n (i + 1) ((a + b) / 2 + 1) b (by omega) (by omega) (by omega) (by omega)
end CLS
