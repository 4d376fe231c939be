/-! PURE ROWS. Numbers: nI n, lN n for natural n; the words of the pure functions opened. -/
theorem fa_lit (n : Nat) : (OfNat.ofNat n : Int32) = nI n := rfl
theorem fa_litL (n : Nat) : (OfNat.ofNat n : Int64) = lN n := rfl
theorem nI_m1 : (-1 : Int32) = -nI 1 := rfl
theorem nI_sub1 {n : Nat} (h : 0 < n) : nI n + (-1) = nI (n - 1) := sb_m1 h
theorem inb_nI {k n : Nat} (h : k < n) (hn : n < 2 ^ 31) : inb (nI k) n = true := by
  unfold inb
  rw [nI_toInt (by omega)]
  exact decide_eq_true ⟨by omega, by omega⟩
theorem clamp_nI {n : Nat} (h : n < 2 ^ 31) : (nI n).toNatClampNeg = n := nI_clamp h
theorem wide_nI {n : Nat} (h : n < 2 ^ 31) : Int32.toInt64 (nI n) = lN n := nI_l h
theorem lN_i32 (n : Nat) : Int64.toInt32 (lN n) = nI n := lN_i n
theorem nI_neg_lt {n : Nat} (h0 : 0 < n) (h : n < 2 ^ 31) : -nI n < 0 := by
  rw [Int32.lt_iff_toInt_lt, sb_negT h, Int32.toInt_zero]
  omega
theorem lN_lt63 {a b : Nat} (ha : a < 2 ^ 63) (hb : b < 2 ^ 63) : lN a < lN b ↔ a < b := pk_lLT ha hb
theorem lN_le63 {a b : Nat} (ha : a < 2 ^ 63) (hb : b < 2 ^ 63) : lN a ≤ lN b ↔ a ≤ b := pk_lLE ha hb
theorem lN_eq63 {a b : Nat} (ha : a < 2 ^ 63) (hb : b < 2 ^ 63) : lN a = lN b ↔ a = b := pk_lEQ ha hb
theorem nI_or_neg (x : Int32) : x < 0 ∨ ∃ n, n < 2 ^ 31 ∧ x = nI n := by
  by_cases h : x < 0
  · exact Or.inl h
  · exact Or.inr (nI_of h)
theorem lN_or_neg (x : Int64) : x < 0 ∨ ∃ n, n < 2 ^ 63 ∧ x = lN n := by
  by_cases h : x < 0
  · exact Or.inl h
  · exact Or.inr (pk_lOf h)
theorem lt_wide {x y : Int32} : (Int32.toInt64 x < Int32.toInt64 y) ↔ x < y := by
  rw [Int64.lt_iff_toInt_lt, Int32.toInt_toInt64, Int32.toInt_toInt64, ← Int32.lt_iff_toInt_lt]
theorem neg_wide {x : Int32} (h : x < 0) : Int32.toInt64 x < 0 := by
  rw [Int64.lt_iff_toInt_lt, Int32.toInt_toInt64, Int64.toInt_zero]
  rwa [Int32.lt_iff_toInt_lt, Int32.toInt_zero] at h
theorem neg_nle {x : Int32} {n : Nat} (h : x < 0) (hn : n < 2 ^ 31) : x < nI n := by
  rw [Int32.lt_iff_toInt_lt, nI_toInt hn]
  rw [Int32.lt_iff_toInt_lt, Int32.toInt_zero] at h
  omega
theorem neg_nleL {x : Int64} {n : Nat} (h : x < 0) (hn : n < 2 ^ 63) : x < lN n := by
  rw [Int64.lt_iff_toInt_lt, pk_lT hn]
  rw [Int64.lt_iff_toInt_lt, Int64.toInt_zero] at h
  omega
theorem cl_some {α β : Type} (r : α) (S1 : St) (K : α → St → Option β) : cl (some (r, S1)) K = K r S1 := rfl
theorem zr0 (S : St) : zr 0 S = some (0, S) := rfl
theorem zr1 (S : St) : zr 1 S = some (1, S) := rfl
/-- LoanBookModel.in, LoanBook.isWithin and their like -/
theorem in_e (a b c : Int64) (S : St) : F_X8_in a b c S = some (if a < b ∨ c < a then 0 else 1, S) := by
  unfold F_X8_in J_X8_in_17 J_X8_in_18
  by_cases h : a < b
  · simp [h, zr0]
  · by_cases h2 : c < a
    · simp [h, h2, zr0]
    · simp [h, h2, zr1]
theorem within_e (a b c : Int32) (S : St) : F_X7_isWithin a b c S = some (if a < b ∨ c < a then 0 else 1, S) := by
  unfold F_X7_isWithin
  by_cases h : a < b
  · simp [h, zr0, J_X7_isWithin_14, J_X7_isWithin_15]
  · by_cases h2 : c < a
    · simp [h, h2, zr0, J_X7_isWithin_14, J_X7_isWithin_15]
    · simp [h, h2, zr1, J_X7_isWithin_14, J_X7_isWithin_15]
