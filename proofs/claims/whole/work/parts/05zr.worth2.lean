section WR2
variable {S : St} {l : Ln}
theorem numC_loop (hG : GD l) (hS : PC S l) (r : UInt64) : ∀ (j n : Nat) (x : UInt64), j < n → j ≤ fm l → L_X5_worthByNumber_8 n 182 r x (nI (l.1 7 + j)) S = (wv l r 1 j x).map (fun y => (y, S))
  | _, 0, _, h, _ => absurd h (Nat.not_lt_zero _)
  | 0, n + 1, x, _, _ => by
    show B_X5_worthByNumber_8 _ _ _ _ _ _ = _
    unfold B_X5_worthByNumber_8
    rw [pI0, hS.1, if_pos (show nI (l.1 7 + 0) ≤ nI (l.1 7) from Int32.le_refl _)]
    rfl
  | j + 1, n + 1, x, hn, hj => by
    have hm := hG.2.2.2.2.1
    have hdn := hG.2.2.2.2.2.2.2.1
    have hfm : fm l = l.1 4 - l.1 7 := rfl
    have ex : nI (l.1 7 + (j + 1)) + (-1) = nI (l.1 7 + j) := by
      rw [show (-1 : Int32) = -nI 1 from rfl, ← Int32.sub_eq_add_neg, pk_sub (by omega)]
      congr 1
    have eN : nI (l.1 7 + j + 1) - nI (l.1 7) = nI (j + 1) := by
      rw [pk_sub (by omega)]
      congr 1
      omega
    have eW : wv l r 1 (j + 1) x = dq (FP.dadd x (FP.l2d (lN (ff l j) * lN (j + 1)))) fun a => dq (FP.dadd FP.dconst1 r) fun b => dq (FP.ddiv a b) fun d => wv l r 1 j d := rfl
    show B_X5_worthByNumber_8 _ _ _ _ _ _ = _
    unfold B_X5_worthByNumber_8
    rw [pI0, hS.1, if_neg (by rw [nI_leI (by omega) (by omega)]; omega), pgk, show l.1 7 + (j + 1) = l.1 7 + j + 1 from rfl, flowC hG hS (by omega), cl_some, pI0, hS.1, eN, wide_nI (by omega), eW]
    rw [show nI (l.1 7 + j + 1) + (-1) = nI (l.1 7 + j) from ex]
    simp only [dq_map]
    congr 1
    funext a
    congr 1
    funext b
    congr 1
    funext d
    exact numC_loop hG hS r j n d (by omega) (by omega)
theorem numR_loop (hG : GD l) (hS : RC S l) (r : UInt64) : ∀ (j n : Nat) (x : UInt64), j < n → j ≤ fm l → L_X8_valueOf_11 n 202 r 1 x (nI j - 1) S = (wv l r 1 j x).map (fun y => (y, S))
  | _, 0, _, h, _ => absurd h (Nat.not_lt_zero _)
  | 0, n + 1, x, _, _ => by
    show B_X8_valueOf_11 _ _ _ _ _ _ _ = _
    unfold B_X8_valueOf_11
    rw [if_pos (by decide)]
    rfl
  | j + 1, n + 1, x, hn, hj => by
    have hm := hG.2.2.2.2.1
    have hfm : fm l = l.1 4 - l.1 7 := rfl
    have ex : nI (j + 1) - 1 = nI j := by
      rw [show (1 : Int32) = nI 1 from rfl, pk_sub (by omega)]
      congr 1
    have ex2 : nI j + (-1) = nI j - 1 := (Int32.sub_eq_add_neg _ _).symm
    have eW : wv l r 1 (j + 1) x = dq (FP.dadd x (FP.l2d (lN (ff l j) * lN (j + 1)))) fun a => dq (FP.dadd FP.dconst1 r) fun b => dq (FP.ddiv a b) fun d => wv l r 1 j d := rfl
    show B_X8_valueOf_11 _ _ _ _ _ _ _ = _
    unfold B_X8_valueOf_11 J_X8_valueOf_43
    rw [ex, if_neg (show ¬ nI j < 0 by rw [show (0 : Int32) = nI 0 from rfl, nI_ltI (by omega) (by omega)]; omega), if_neg (by decide), mgk, flowR hG hS (by omega), cl_some, nI_1, wide_nI (by omega), ex2, eW]
    simp only [dq_map]
    congr 1
    funext a
    congr 1
    funext b
    congr 1
    funext d
    exact numR_loop hG hS r j n d (by omega) (by omega)
theorem worthC (hG : GD l) (hS : PC S l) (r : UInt64) : F_X5_worth 182 r S = (wv l r 0 (fm l) FP.dconst0).map (fun y => (y, S)) := by
  have hm := hG.2.2.2.2.1
  have hdn := hG.2.2.2.2.2.2.2.1
  have hfm : fm l = l.1 4 - l.1 7 := rfl
  unfold F_X5_worth
  rw [pI0, hS.2.1, show l.1 4 = l.1 7 + fm l by omega]
  exact worthC_loop hG hS r (fm l) 6000 _ (by omega) (Nat.le_refl _)
theorem numC (hG : GD l) (hS : PC S l) (r : UInt64) : F_X5_worthByNumber 182 r S = (wv l r 1 (fm l) FP.dconst0).map (fun y => (y, S)) := by
  have hm := hG.2.2.2.2.1
  have hdn := hG.2.2.2.2.2.2.2.1
  have hfm : fm l = l.1 4 - l.1 7 := rfl
  unfold F_X5_worthByNumber
  rw [pI0, hS.2.1, show l.1 4 = l.1 7 + fm l by omega]
  exact numC_loop hG hS r (fm l) 6000 _ (by omega) (Nat.le_refl _)
theorem valueR (hG : GD l) (hS : RC S l) (r : UInt64) : F_X8_valueOf 202 r 0 S = (wv l r 0 (fm l) FP.dconst0).map (fun y => (y, S)) := by
  have hm := hG.2.2.2.2.1
  have hfm : fm l = l.1 4 - l.1 7 := rfl
  unfold F_X8_valueOf
  rw [mI, hS.1, bd_e]
  exact valueR_loop hG hS r (fm l) 6000 _ (by omega) (Nat.le_refl _)
theorem numR (hG : GD l) (hS : RC S l) (r : UInt64) : F_X8_valueOf 202 r 1 S = (wv l r 1 (fm l) FP.dconst0).map (fun y => (y, S)) := by
  have hm := hG.2.2.2.2.1
  have hfm : fm l = l.1 4 - l.1 7 := rfl
  unfold F_X8_valueOf
  rw [mI, hS.1, bd_e]
  exact numR_loop hG hS r (fm l) 6000 _ (by omega) (Nat.le_refl _)
end WR2
