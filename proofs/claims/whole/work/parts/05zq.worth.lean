/-! the worth of what will come: both sides are one function of the flows -/
def wv (l : Ln) (r : UInt64) (c : Nat) : Nat → UInt64 → Option UInt64
  | 0, x => some x
  | j + 1, x => dq (FP.dadd x (FP.l2d (lN (ff l j) * (if c = 0 then 1 else lN (j + 1))))) fun a => dq (FP.dadd FP.dconst1 r) fun b => dq (FP.ddiv a b) fun d => wv l r c j d
theorem dq_map {α β : Type} (a : UInt64) (K : UInt64 → Option α) (f : α → β) : (dq a K).map f = dq a (fun v => (K v).map f) := by
  unfold dq
  split <;> rfl
section WRT
variable {S : St} {l : Ln}
theorem worthC_loop (hG : GD l) (hS : PC S l) (r : UInt64) : ∀ (j n : Nat) (x : UInt64), j < n → j ≤ fm l → L_X5_worth_8 n 182 r x (nI (l.1 7 + j)) S = (wv l r 0 j x).map (fun y => (y, S))
  | _, 0, _, h, _ => absurd h (Nat.not_lt_zero _)
  | 0, n + 1, x, _, _ => by
    have hm := hG.2.2.2.2.1
    have hdn := hG.2.2.2.2.2.2.2.1
    show B_X5_worth_8 _ _ _ _ _ _ = _
    unfold B_X5_worth_8
    rw [pI0, hS.1, if_pos (show nI (l.1 7 + 0) ≤ nI (l.1 7) from Int32.le_refl _)]
    rfl
  | j + 1, n + 1, x, hn, hj => by
    have hm := hG.2.2.2.2.1
    have hdn := hG.2.2.2.2.2.2.2.1
    have hfm : fm l = l.1 4 - l.1 7 := rfl
    have ex : nI (l.1 7 + (j + 1)) + (-1) = nI (l.1 7 + j) := by
      rw [show (-1 : Int32) = -nI 1 from rfl, ← Int32.sub_eq_add_neg, pk_sub (by omega)]
      congr 1
    have eW : wv l r 0 (j + 1) x = dq (FP.dadd x (FP.l2d (lN (ff l j) * 1))) fun a => dq (FP.dadd FP.dconst1 r) fun b => dq (FP.ddiv a b) fun d => wv l r 0 j d := rfl
    show B_X5_worth_8 _ _ _ _ _ _ = _
    unfold B_X5_worth_8
    rw [pI0, hS.1, if_neg (by rw [nI_leI (by omega) (by omega)]; omega), pgk, show l.1 7 + (j + 1) = l.1 7 + j + 1 from rfl, flowC hG hS (by omega), cl_some, eW, Int64.mul_one]
    rw [show nI (l.1 7 + j + 1) + (-1) = nI (l.1 7 + j) from ex]
    simp only [dq_map]
    congr 1
    funext a
    congr 1
    funext b
    congr 1
    funext d
    exact worthC_loop hG hS r j n d (by omega) (by omega)
theorem valueR_loop (hG : GD l) (hS : RC S l) (r : UInt64) : ∀ (j n : Nat) (x : UInt64), j < n → j ≤ fm l → L_X8_valueOf_11 n 202 r 0 x (nI j - 1) S = (wv l r 0 j x).map (fun y => (y, S))
  | _, 0, _, h, _ => absurd h (Nat.not_lt_zero _)
  | 0, n + 1, x, _, _ => by
    show B_X8_valueOf_11 _ _ _ _ _ _ _ = _
    unfold B_X8_valueOf_11
    rw [if_pos (by decide)]
    rfl
  | j + 1, n + 1, x, hn, hj => by
    have hm := hG.2.2.2.2.1
    have hfm : fm l = l.1 4 - l.1 7 := rfl
    have ex : nI (j + 1) - 1 = nI j := by
      rw [show (1 : Int32) = nI 1 from rfl, pk_sub (by omega)]
      congr 1
    have ex2 : nI j + (-1) = nI j - 1 := (Int32.sub_eq_add_neg _ _).symm
    have eW : wv l r 0 (j + 1) x = dq (FP.dadd x (FP.l2d (lN (ff l j) * 1))) fun a => dq (FP.dadd FP.dconst1 r) fun b => dq (FP.ddiv a b) fun d => wv l r 0 j d := rfl
    show B_X8_valueOf_11 _ _ _ _ _ _ _ = _
    unfold B_X8_valueOf_11 J_X8_valueOf_43
    rw [ex, if_neg (show ¬ nI j < 0 by rw [show (0 : Int32) = nI 0 from rfl, nI_ltI (by omega) (by omega)]; omega), if_pos rfl, mgk, flowR hG hS (by omega), cl_some, ex2, eW, Int64.mul_one]
    simp only [dq_map]
    congr 1
    funext a
    congr 1
    funext b
    congr 1
    funext d
    exact valueR_loop hG hS r j n d (by omega) (by omega)
end WRT
