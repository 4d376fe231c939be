/-! THE TWO CONSTRUCTORS' WORLDS ARE THE WORLD -/
def bka (q : Nat) (u : Nat × (Nat → Nat)) (k : Nat) : Nat := if k = 0 then q else if k = 1 then u.1 else u.2 (k - 2)
def oba (q : Nat) (u : Nat → Nat) (k : Nat) : Nat := if k = 0 then q else u (k - 1)
def adG (h0 h1 st : Nat) (u : UB) (v : Nat → Nat) : Nat → Nat := fun c =>
  if c = 0 then h0 else if c < 59 then bka u.1.1 u.2.1 (c - 1) else if c < 117 then bka u.1.2.1 u.2.2.1 (c - 59) else if c < 175 then bka u.1.2.2.1 u.2.2.2.1 (c - 117) else if c < 182 then oba u.1.2.2.2.1 u.2.2.2.2.1 (c - 175) else if c < 186 then oba u.1.2.2.2.2.1 u.2.2.2.2.2.1 (c - 182) else if c < 189 then oba u.1.2.2.2.2.2.1 u.2.2.2.2.2.2.1 (c - 186) else if c = 189 then u.1.2.2.2.2.2.2 else if c < 202 then u.2.2.2.2.2.2.2.1 (c - 190) else if c = 202 then h1 else if c < 226 then v (c - 203) else st
theorem bw_cg {T : Nat → ClassId} {h h' q q' : Nat} {ad ad' : Nat → Nat} (e1 : h = h') (e2 : q = q') (e3 : ∀ c, c < 56 → ad c = ad' c) : bw T h q ad 8 = bw T h' q' ad' 8 := by
  subst e1
  subst e2
  unfold bw
  rw [lps_cg 8 (fun c hc => e3 c (by omega))]
  have e : (fun j => if j < 8 then some (ad (7 * j)) else none) = fun j => if j < 8 then some (ad' (7 * j)) else none := by
    funext j
    by_cases h : j < 8
    · rw [if_pos h, if_pos h, e3 _ (by omega)]
    · rw [if_neg h, if_neg h]
  rw [e]
theorem pm_rv {α : Type} {x X X' : List α} (h : List.Perm X X') : List.Perm (x ++ X) (X' ++ x) := (List.Perm.append_left x h).trans List.perm_append_comm
theorem pm_big {α : Type} (o a hp w6 w5 w4 b3 b2 b1 w8 : List α) : List.Perm (((o ++ a) ++ (hp ++ (w6 ++ (w5 ++ (w4 ++ (b3 ++ (b2 ++ (b1 ++ [])))))))) ++ w8) (o ++ (b1 ++ (b2 ++ (b3 ++ (w4 ++ (w5 ++ (w6 ++ (a ++ (hp ++ w8))))))))) := by
  have x1 : List.Perm (b1 ++ []) b1 := by rw [List.append_nil]
  have x7 := pm_rv (x := w6) (pm_rv (x := w5) (pm_rv (x := w4) (pm_rv (x := b3) (pm_rv (x := b2) x1))))
  have x8 := List.Perm.append_left hp x7
  have x9 : List.Perm (a ++ (hp ++ (((((b1 ++ b2) ++ b3) ++ w4) ++ w5) ++ w6))) ((((((b1 ++ b2) ++ b3) ++ w4) ++ w5) ++ w6) ++ (a ++ hp)) := by
    rw [← List.append_assoc]
    exact List.perm_append_comm
  have x10 := List.Perm.append_right w8 (List.Perm.append_left o ((List.Perm.append_left a x8).trans x9))
  have e1 : (o ++ a) ++ (hp ++ (w6 ++ (w5 ++ (w4 ++ (b3 ++ (b2 ++ (b1 ++ []))))))) = o ++ (a ++ (hp ++ (w6 ++ (w5 ++ (w4 ++ (b3 ++ (b2 ++ (b1 ++ [])))))))) := List.append_assoc _ _ _
  rw [e1]
  refine x10.trans ?_
  have e2 : (o ++ ((((((b1 ++ b2) ++ b3) ++ w4) ++ w5) ++ w6) ++ (a ++ hp))) ++ w8 = o ++ (b1 ++ (b2 ++ (b3 ++ (w4 ++ (w5 ++ (w6 ++ (a ++ (hp ++ w8)))))))) := by
    simp only [List.append_assoc]
  rw [e2]
section GL2
variable {D : va_G} {T : Nat → ClassId} {h0 h1 st : Nat} {u : UB} {v : Nat → Nat}
theorem adG_b1 {c : Nat} (h : c < 56) : adG h0 h1 st u v (1 + 2 + c) = u.2.1.2 c := by
  unfold adG bka
  rw [if_neg (by omega), if_pos (by omega), if_neg (by omega), if_neg (by omega), show 1 + 2 + c - 1 - 2 = c by omega]
theorem adG_b2 {c : Nat} (h : c < 56) : adG h0 h1 st u v (59 + 2 + c) = u.2.2.1.2 c := by
  unfold adG bka
  rw [if_neg (by omega), if_neg (by omega), if_pos (by omega), if_neg (by omega), if_neg (by omega), show 59 + 2 + c - 59 - 2 = c by omega]
theorem adG_b3 {c : Nat} (h : c < 56) : adG h0 h1 st u v (117 + 2 + c) = u.2.2.2.1.2 c := by
  unfold adG bka
  rw [if_neg (by omega), if_neg (by omega), if_neg (by omega), if_pos (by omega), if_neg (by omega), if_neg (by omega), show 117 + 2 + c - 117 - 2 = c by omega]
theorem adG_h {c : Nat} (h : c < 12) : adG h0 h1 st u v (190 + c) = u.2.2.2.2.2.2.2.1 c := by
  unfold adG
  rw [if_neg (by omega), if_neg (by omega), if_neg (by omega), if_neg (by omega), if_neg (by omega), if_neg (by omega), if_neg (by omega), if_neg (by omega), if_pos (by omega), show 190 + c - 190 = c by omega]
theorem w_X5_cg {h h' : Nat} {q q' : Nat → Nat} (e : h = h') (e2 : ∀ k, k < 3 → q k = q' k) : w_X5 T h q = w_X5 T h' q' := by
  subst e
  unfold w_X5
  rw [e2 0 (by omega), e2 1 (by omega), e2 2 (by omega)]
theorem w_X6_cg {h h' : Nat} {q q' : Nat → Nat} (e : h = h') (e2 : ∀ k, k < 2 → q k = q' k) : w_X6 T h q = w_X6 T h' q' := by
  subst e
  unfold w_X6
  rw [e2 0 (by omega), e2 1 (by omega)]
theorem w_X8_cg {h h' : Nat} {q q' : Nat → Nat} (e : h = h') (e2 : ∀ k, k < 23 → q k = q' k) : w_X8 T h q = w_X8 T h' q' := by
  subst e
  unfold w_X8
  rw [e2 0 (by omega), e2 1 (by omega), e2 2 (by omega), e2 3 (by omega), e2 4 (by omega), e2 5 (by omega), e2 6 (by omega), e2 7 (by omega), e2 8 (by omega), e2 9 (by omega), e2 10 (by omega), e2 11 (by omega), e2 12 (by omega), e2 13 (by omega), e2 14 (by omega), e2 15 (by omega), e2 16 (by omega), e2 17 (by omega), e2 18 (by omega), e2 19 (by omega), e2 20 (by omega), e2 21 (by omega), e2 22 (by omega)]
  have e : (fun i => if i < 6 then some (q (16 + i)) else none) = fun i => if i < 6 then some (q' (16 + i)) else none := by
    funext i
    by_cases h : i < 6
    · rw [if_pos h, if_pos h, e2 _ (by omega)]
    · rw [if_neg h, if_neg h]
  rw [e]
theorem hf_cg {ad ad' : Nat → Nat} (e : ∀ c, c < 12 → ad c = ad' c) : hf ad 6 = hf ad' 6 := by
  funext j
  unfold hf
  by_cases h : j < 6
  · rw [if_pos h, if_pos h, e _ (by omega)]
  · rw [if_neg h, if_neg h]
/-- the two worlds, in order, are the world -/
theorem glue : List.Perm (w_X7 T h0 u ++ w_X8 T h1 v) (wsO (adG h0 h1 st u v, D, T) S0) := by
  have hb1 : blk (adG h0 h1 st u v, D, T) S0 1 58 = bw T u.1.1 u.2.1.1 u.2.1.2 8 := (blk_book (Or.inl rfl)).trans (bw_cg rfl rfl (fun c hc => adG_b1 hc))
  have hb2 : blk (adG h0 h1 st u v, D, T) S0 59 58 = bw T u.1.2.1 u.2.2.1.1 u.2.2.1.2 8 := (blk_book (Or.inr (Or.inl rfl))).trans (bw_cg rfl rfl (fun c hc => adG_b2 hc))
  have hb3 : blk (adG h0 h1 st u v, D, T) S0 117 58 = bw T u.1.2.2.1 u.2.2.2.1.1 u.2.2.2.1.2 8 := (blk_book (Or.inr (Or.inr rfl))).trans (bw_cg rfl rfl (fun c hc => adG_b3 hc))
  have hw4 : blk (adG h0 h1 st u v, D, T) S0 175 7 = w_X4 T u.1.2.2.2.1 u.2.2.2.2.1 := (blk_loan LC_175 (fun k hk => S0_I (by omega) (by omega)) (fun k hk => S0_J (by omega))).trans (w_X4_cg rfl (fun k hk => by
    show adG h0 h1 st u v (175 + 1 + k) = _
    unfold adG oba
    rw [if_neg (by omega), if_neg (by omega), if_neg (by omega), if_neg (by omega), if_pos (by omega), if_neg (by omega), show 175 + 1 + k - 175 - 1 = k by omega]))
  have hw5 : blk (adG h0 h1 st u v, D, T) S0 182 4 = w_X5 T u.1.2.2.2.2.1 u.2.2.2.2.2.1 := blk_plan.trans (w_X5_cg rfl (fun k hk => by
    show adG h0 h1 st u v (183 + k) = _
    unfold adG oba
    rw [if_neg (by omega), if_neg (by omega), if_neg (by omega), if_neg (by omega), if_neg (by omega), if_pos (by omega), if_neg (by omega), show 183 + k - 182 - 1 = k by omega]))
  have hw6 : blk (adG h0 h1 st u v, D, T) S0 186 3 = w_X6 T u.1.2.2.2.2.2.1 u.2.2.2.2.2.2.1 := blk_tape.trans (w_X6_cg rfl (fun k hk => by
    show adG h0 h1 st u v (187 + k) = _
    unfold adG oba
    rw [if_neg (by omega), if_neg (by omega), if_neg (by omega), if_neg (by omega), if_neg (by omega), if_neg (by omega), if_pos (by omega), if_neg (by omega), show 187 + k - 186 - 1 = k by omega]))
  have hhp : blk (adG h0 h1 st u v, D, T) S0 190 12 = hps T u.2.2.2.2.2.2.2.1 6 := (blk_hps 6 (by omega)).trans (hps_cg 6 (fun c hc => adG_h hc))
  have hha : blk (adG h0 h1 st u v, D, T) S0 189 1 = [(u.1.2.2.2.2.2.2, .inl (T 3, 6, .inr (.inr (.inr (.inr (hf u.2.2.2.2.2.2.2.1 6))))))] := by
    rw [blk_harr]
    have e : hf (fun c => adG h0 h1 st u v (190 + c)) 6 = hf u.2.2.2.2.2.2.2.1 6 := hf_cg (fun c hc => adG_h hc)
    show [(adG h0 h1 st u v 189, Sum.inl (T 3, 6, Sum.inr (Sum.inr (Sum.inr (Sum.inr (hf (fun c => adG h0 h1 st u v (190 + c)) 6))))))] = _
    rw [e]
    rfl
  have hw8 : blk (adG h0 h1 st u v, D, T) S0 202 24 = w_X8 T h1 v := blk_model.trans (w_X8_cg rfl (fun k hk => by
    show adG h0 h1 st u v (203 + k) = _
    unfold adG
    rw [if_neg (by omega), if_neg (by omega), if_neg (by omega), if_neg (by omega), if_neg (by omega), if_neg (by omega), if_neg (by omega), if_neg (by omega), if_neg (by omega), if_neg (by omega), if_pos (by omega), show 203 + k - 203 = k by omega]))
  have ho : blk (adG h0 h1 st u v, D, T) S0 0 1 = [(h0, .inr (5, [.ref u.1.1, .ref u.1.2.1, .ref u.1.2.2.1, .int 0, .ref u.1.2.2.2.1, .ref u.1.2.2.2.2.1, .ref u.1.2.2.2.2.2.1, .ref u.1.2.2.2.2.2.2]))] := blk_lb
  have hall : wsO (adG h0 h1 st u v, D, T) S0 = blk (adG h0 h1 st u v, D, T) S0 0 1 ++ (blk (adG h0 h1 st u v, D, T) S0 1 58 ++ (blk (adG h0 h1 st u v, D, T) S0 59 58 ++ (blk (adG h0 h1 st u v, D, T) S0 117 58 ++ (blk (adG h0 h1 st u v, D, T) S0 175 7 ++ (blk (adG h0 h1 st u v, D, T) S0 182 4 ++ (blk (adG h0 h1 st u v, D, T) S0 186 3 ++ (blk (adG h0 h1 st u v, D, T) S0 189 1 ++ (blk (adG h0 h1 st u v, D, T) S0 190 12 ++ blk (adG h0 h1 st u v, D, T) S0 202 24)))))))) := by
    rw [wsO_blk, show (226 : Nat) = 1 + (58 + (58 + (58 + (7 + (4 + (3 + (1 + (12 + 24)))))))) from rfl]
    simp only [blk_app]
  rw [hall, ho, hb1, hb2, hb3, hw4, hw5, hw6, hha, hhp, hw8]
  exact pm_big (α := Nat × va_E) [(h0, .inr (5, [.ref u.1.1, .ref u.1.2.1, .ref u.1.2.2.1, .int 0, .ref u.1.2.2.2.1, .ref u.1.2.2.2.2.1, .ref u.1.2.2.2.2.2.1, .ref u.1.2.2.2.2.2.2]))] [(u.1.2.2.2.2.2.2, .inl (T 3, 6, .inr (.inr (.inr (.inr (hf u.2.2.2.2.2.2.2.1 6))))))] (hps T u.2.2.2.2.2.2.2.1 6) (w_X6 T u.1.2.2.2.2.2.1 u.2.2.2.2.2.2.1) (w_X5 T u.1.2.2.2.2.1 u.2.2.2.2.2.1) (w_X4 T u.1.2.2.2.1 u.2.2.2.2.1) (bw T u.1.2.2.1 u.2.2.2.1.1 u.2.2.2.1.2 8) (bw T u.1.2.1 u.2.2.1.1 u.2.2.1.2 8) (bw T u.1.1 u.2.1.1 u.2.1.2 8) (w_X8 T h1 v)
end GL2
