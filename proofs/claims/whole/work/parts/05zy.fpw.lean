/-! worth and yield are numbers -/
theorem rate_1 {r : UInt64} {c : Nat} {q : Int} (h : FP.Core.val64 r = .fin false c q) (h2 : ud c q ≤ 10 * 2 ^ 1074) : Pw (FP.dadd FP.dconst1 r) 1074 1078 := by
  have e1 : ud (2 ^ 52) (-52) = 2 ^ 1074 := by
    unfold ud
    rw [← Nat.pow_add]
    congr 1
  have e2 : 2 ^ 1078 = 16 * 2 ^ 1074 := by
    rw [show 1078 = 4 + 1074 from rfl, Nat.pow_add]
  refine add_P (show FP.Core.val64 FP.dconst1 = .fin false (2 ^ 52) (-52) from FP.Core.val64_dconst1) h (by omega) (by omega) ?_ ?_
  · rw [e1]
    exact Nat.le_add_right _ _
  · rw [e1, e2]
    omega
theorem flow_Z {n : Nat} (hn : n ≤ 2 ^ 40) : Zw (FP.l2d (lN n)) 1074 1114 := by
  by_cases h0 : n = 0
  · subst h0
    left
    decide +kernel
  · right
    have hi : (lN n).toInt = (n : Int) := pk_lT (by omega)
    have e2 : 2 ^ 1114 = 2 ^ 40 * 2 ^ 1074 := by
      rw [show 1114 = 40 + 1074 from rfl, Nat.pow_add]
    have iu : FP.Core.inUnits n 0 (-1074) = n * 2 ^ 1074 := rfl
    obtain ⟨c, q, g1, g2, g3⟩ := rr_P (A := n) (B := 1) (e := 0) (e0 := -1074) (l := 1074) (h := 1114) (by omega) (by omega) (by omega) (by omega) (by omega) (by omega) (by omega) (by
      rw [iu, show (-1074 - (-1074 : Int)).toNat = 0 from rfl, Nat.pow_zero, Nat.mul_one, Nat.mul_one]
      exact Nat.le_mul_of_pos_left _ (by omega)) (by
      rw [iu, show (-1074 - (-1074 : Int)).toNat = 0 from rfl, Nat.pow_zero, Nat.mul_one, Nat.mul_one, e2]
      exact Nat.mul_le_mul_right _ hn)
    refine ⟨c, q, ?_, g2, g3⟩
    rw [FP.Core.val64_l2d, hi]
    unfold FP.Core.ofInt
    rw [show decide ((n : Int) < 0) = false from decide_eq_false (by omega), Int.natAbs_natCast]
    exact g1
section WVZ
variable {l : Ln}
theorem wv_Z {r : UInt64} (hr : Pw (FP.dadd FP.dconst1 r) 1074 1078) (c : Nat) (hf : ∀ j, j < fm l → ff l j ≤ 150000000) : ∀ (j lx hx : Nat) (x : UInt64), j ≤ fm l → j ≤ 60 → Zw x lx hx → lx ≤ 1074 → 1114 ≤ hx → 52 + 4 * j ≤ lx → hx + j ≤ 2000 → ∃ y, wv l r c j x = some y ∧ Zw y (lx - 4 * j) (hx + j)
  | 0, lx, hx, x, _, _, h, _, _, _, _ => ⟨x, rfl, h⟩
  | j + 1, lx, hx, x, hj, h60, h, h1, h2, h3, h4 => by
    have hff := hf j (by omega)
    have e : ∃ m, m ≤ 2 ^ 40 ∧ lN (ff l j) * (if c = 0 then 1 else lN (j + 1)) = lN m := by
      by_cases c0 : c = 0
      · rw [if_pos c0, Int64.mul_one]
        exact ⟨_, by omega, rfl⟩
      · rw [if_neg c0, lN_mul]
        refine ⟨_, ?_, rfl⟩
        have := Nat.mul_le_mul hff (show j + 1 ≤ 60 by omega)
        omega
    obtain ⟨m, m1, m2⟩ := e
    have ha := add_Z h ((flow_Z m1).mo h1 h2) (by omega) (by omega)
    have hd := div_Z (l := lx - 4) (h := hx + 1) ha hr (by omega) (by omega) (by omega) (by omega)
    obtain ⟨y, y1, y2⟩ := wv_Z hr c hf j (lx - 4) (hx + 1) _ (by omega) (by omega) hd (by omega) (by omega) (by omega) (by omega)
    refine ⟨y, ?_, y2.mo (by omega) (by omega)⟩
    show (dq (FP.dadd x (FP.l2d (lN (ff l j) * (if c = 0 then 1 else lN (j + 1))))) fun a => dq (FP.dadd FP.dconst1 r) fun b => dq (FP.ddiv a b) fun d => wv l r c j d) = some y
    rw [m2, dq_ok ha.nan, dq_ok hr.nan, dq_ok hd.nan, y1]
theorem wv_ok (hG : GD l) {r : UInt64} (hr : Pw (FP.dadd FP.dconst1 r) 1074 1078) (c : Nat) : ∃ y, wv l r c (fm l) FP.dconst0 = some y ∧ Zw y 834 1174 := by
  have hm := hG.2.2.2.2.1
  have hfm : fm l = l.1 4 - l.1 7 := rfl
  obtain ⟨y, y1, y2⟩ := wv_Z hr c (fun j hj => ff_le hG hj) (fm l) 1074 1114 FP.dconst0 (Nat.le_refl _) (by omega) (Or.inl rfl) (by omega) (by omega) (by omega) (by omega)
  exact ⟨y, y1, y2.mo (by omega) (by omega)⟩
theorem Zw_rate {x : UInt64} {a : Nat} (h : Zw x a 1074) : Pw (FP.dadd FP.dconst1 x) 1074 1078 := by
  rcases h with rfl | ⟨c, q, h1, h2, h3⟩
  · refine rate_1 FP.Core.val64_zero ?_
    unfold ud
    rw [Nat.zero_mul]
    exact Nat.zero_le _
  · exact rate_1 h1 (Nat.le_trans h3 (Nat.le_mul_of_pos_left _ (by omega)))
theorem two_P : Pw (4611686018427387904 : UInt64) 1075 1075 := by
  refine ⟨2 ^ 52, -51, by decide +kernel, ?_⟩
  have : ud (2 ^ 52) (-51) = 2 ^ 1075 := by
    unfold ud
    rw [← Nat.pow_add]
    congr 1
  rw [this]
  exact ⟨Nat.le_refl _, Nat.le_refl _⟩
theorem yv_Z (hG : GD l) (t : UInt64) : ∀ (j k : Nat) (lo hi : UInt64), k + j = 50 → Zw lo 1024 1074 → Pw hi (1074 - k) 1074 → ∃ y, yv l t j lo hi = some y ∧ Zw y 1024 1074
  | 0, _, lo, _, _, h, _ => ⟨lo, rfl, h⟩
  | j + 1, k, lo, hi, hk, h, h2 => by
    have ha : Pw (FP.dadd lo hi) (1074 - k) 1075 := by
      have hp : 2 ^ 1075 = 2 ^ 1074 + 2 ^ 1074 := by
        rw [show 1075 = 1074 + 1 from rfl, Nat.pow_succ]
        omega
      obtain ⟨d, r, y1, y2, y3⟩ := h2
      rcases h with rfl | ⟨c, q, x1, x2, x3⟩
      · have z0 : ud 0 FP.Core.b64.qmin = 0 := by
          unfold ud
          rw [Nat.zero_mul]
        exact add_P FP.Core.val64_zero y1 (by omega) (by omega) (by rw [z0]; omega) (by rw [z0]; omega)
      · exact add_P x1 y1 (by omega) (by omega) (by omega) (by omega)
    have hm : Pw (FP.ddiv (FP.dadd lo hi) 4611686018427387904) (1074 - (k + 1)) 1074 := by
      obtain ⟨c, q, x1, x2, x3⟩ := ha
      obtain ⟨d, r, y1, y2, y3⟩ := two_P
      exact div_P x1 y1 x2 x3 y2 y3 (by omega) (by omega) (by omega) (by omega)
    obtain ⟨v, v1, _⟩ := wv_ok hG (Zw_rate (Or.inr hm)) 0
    show ∃ y, (dq (FP.dadd lo hi) fun a => dq (FP.ddiv a (4611686018427387904 : UInt64)) fun m => (wv l m 0 (fm l) FP.dconst0).bind fun v => if dx v t .l ≤ 0 then yv l t j lo m else yv l t j m hi) = some y ∧ Zw y 1024 1074
    rw [dq_ok ha.nan, dq_ok hm.nan, v1]
    show ∃ y, (if dx v t .l ≤ 0 then yv l t j lo (FP.ddiv (FP.dadd lo hi) 4611686018427387904) else yv l t j (FP.ddiv (FP.dadd lo hi) 4611686018427387904) hi) = some y ∧ Zw y 1024 1074
    split
    · exact yv_Z hG t j (k + 1) lo _ (by omega) h hm
    · exact yv_Z hG t j (k + 1) _ hi (by omega) (Or.inr (hm.mo (by omega) (by omega))) (h2.mo (by omega) (by omega))
theorem yv_ok (hG : GD l) (t : UInt64) : ∃ y, yv l t 50 FP.dconst0 FP.dconst1 = some y ∧ Zw y 1024 1074 := by
  refine yv_Z hG t 50 0 _ _ (by omega) (Or.inl rfl) ⟨2 ^ 52, -52, FP.Core.val64_dconst1, ?_⟩
  have : ud (2 ^ 52) (-52) = 2 ^ 1074 := by
    unfold ud
    rw [← Nat.pow_add]
    congr 1
  rw [this]
  exact ⟨Nat.le_refl _, Nat.le_refl _⟩
end WVZ
