/-- fifty halvings: both sides -/
def yv (l : Ln) (t : UInt64) : Nat → UInt64 → UInt64 → Option UInt64
  | 0, lo, _ => some lo
  | j + 1, lo, hi => dq (FP.dadd lo hi) fun a => dq (FP.ddiv a (4611686018427387904 : UInt64)) fun m => (wv l m 0 (fm l) FP.dconst0).bind fun v => if dx v t .l ≤ 0 then yv l t j lo m else yv l t j m hi
section YLD
variable {S : St} {l : Ln}
theorem cl_map {α β : Type} (o : Option α) (K : α → St → Option β) : cl (o.map (fun y => (y, S))) K = o.bind (fun y => K y S) := by
  cases o <;> rfl
theorem bind_map {α β γ : Type} (o : Option α) (K : α → Option β) (f : β → γ) : (o.bind K).map f = o.bind (fun v => (K v).map f) := by
  cases o <;> rfl
theorem yieldC_loop (hG : GD l) (hS : PC S l) (t : UInt64) : ∀ (j n i : Nat) (lo hi : UInt64), j < n → i + j = 50 → L_X5_yieldBy_8 n 182 t lo hi (nI i) S = (yv l t j lo hi).map (fun y => (y, S))
  | _, 0, _, _, _, h, _ => absurd h (Nat.not_lt_zero _)
  | 0, n + 1, i, lo, hi, _, hx => by
    show B_X5_yieldBy_8 _ _ _ _ _ _ _ = _
    unfold B_X5_yieldBy_8
    rw [if_pos (by rw [fa_lit 50, nI_leI (by omega) (by omega)]; omega)]
    rfl
  | j + 1, n + 1, i, lo, hi, hn, hx => by
    have eY : yv l t (j + 1) lo hi = dq (FP.dadd lo hi) fun a => dq (FP.ddiv a (4611686018427387904 : UInt64)) fun m => (wv l m 0 (fm l) FP.dconst0).bind fun v => if dx v t .l ≤ 0 then yv l t j lo m else yv l t j m hi := rfl
    show B_X5_yieldBy_8 _ _ _ _ _ _ _ = _
    unfold B_X5_yieldBy_8 J_X5_yieldBy_46
    rw [if_neg (by rw [fa_lit 50, nI_leI (by omega) (by omega)]; omega), eY, nI_1]
    simp only [dq_map]
    congr 1
    funext a
    congr 1
    funext m
    rw [pgk, worthC hG hS, cl_map, bind_map]
    congr 1
    funext v
    by_cases z : dx v t .l ≤ 0
    · rw [if_pos z, if_pos z]
      exact yieldC_loop hG hS t j n (i + 1) lo m (by omega) (by omega)
    · rw [if_neg z, if_neg z]
      exact yieldC_loop hG hS t j n (i + 1) m hi (by omega) (by omega)
theorem yieldR_loop (hG : GD l) (hS : RC S l) (t : Int64) : ∀ (j n i : Nat) (lo hi : UInt64), j < n → i + j = 50 → L_X8_yields_8 n 202 t lo hi (nI i) S = (yv l (FP.l2d t) j lo hi).map (fun y => (y, S))
  | _, 0, _, _, _, h, _ => absurd h (Nat.not_lt_zero _)
  | 0, n + 1, i, lo, hi, _, hx => by
    show B_X8_yields_8 _ _ _ _ _ _ _ = _
    unfold B_X8_yields_8
    rw [if_pos (by rw [fa_lit 50, nI_leI (by omega) (by omega)]; omega)]
    rfl
  | j + 1, n + 1, i, lo, hi, hn, hx => by
    have eY : yv l (FP.l2d t) (j + 1) lo hi = dq (FP.dadd lo hi) fun a => dq (FP.ddiv a (4611686018427387904 : UInt64)) fun m => (wv l m 0 (fm l) FP.dconst0).bind fun v => if dx v (FP.l2d t) .l ≤ 0 then yv l (FP.l2d t) j lo m else yv l (FP.l2d t) j m hi := rfl
    show B_X8_yields_8 _ _ _ _ _ _ _ = _
    unfold B_X8_yields_8 J_X8_yields_48
    rw [if_neg (by rw [fa_lit 50, nI_leI (by omega) (by omega)]; omega), eY, nI_1]
    simp only [dq_map]
    congr 1
    funext a
    congr 1
    funext m
    rw [mgk, valueR hG hS, cl_map, bind_map]
    congr 1
    funext v
    by_cases z : dx v (FP.l2d t) .l ≤ 0
    · rw [if_pos z, if_pos z]
      exact yieldR_loop hG hS t j n (i + 1) lo m (by omega) (by omega)
    · rw [if_neg z, if_neg z]
      exact yieldR_loop hG hS t j n (i + 1) m hi (by omega) (by omega)
theorem yieldC (hG : GD l) (hS : PC S l) (t : UInt64) : F_X5_yieldBy 182 t S = (yv l t 50 FP.dconst0 FP.dconst1).map (fun y => (y, S)) := yieldC_loop hG hS t 50 6000 0 _ _ (by omega) (by omega)
theorem yieldR (hG : GD l) (hS : RC S l) (t : Int64) : F_X8_yields 202 t S = (yv l (FP.l2d t) 50 FP.dconst0 FP.dconst1).map (fun y => (y, S)) := yieldR_loop hG hS t 50 6000 0 _ _ (by omega) (by omega)
end YLD
