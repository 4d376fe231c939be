/-! one day of a loan -/
/-- no mark, no fee -/
def NF (l : Ln) : Prop := ∀ k, (l.2.2 k).2.2.2 = 0 → (l.2.2 k).2.2.1 = 0
/-- a period ends on day D, if it does -/
def dst (D : Nat) (l : Ln) : Ln := if l.1 7 < l.1 4 ∧ pe (l.1 6) (l.1 7 + 1) = D then ep1 l else l
def dsc (D : Nat) (l : Ln) : Nat := if l.1 7 < l.1 4 ∧ pe (l.1 6) (l.1 7 + 1) = D ∧ 0 < ask (ep1 l) (l.1 7 + 1) then 1 else 0
theorem epw_id {d j : Nat} {l : Ln} (hj : l.1 7 + j = l.1 4) (h : l.1 7 < l.1 4 → d < pe (l.1 6) (l.1 7 + 1)) : epw d j l = l := by
  cases j with
  | zero => rfl
  | succ j =>
    have := h (by omega)
    unfold epw
    rw [if_neg (by omega)]
theorem epc_id {d j : Nat} {l : Ln} (hj : l.1 7 + j = l.1 4) (h : l.1 7 < l.1 4 → d < pe (l.1 6) (l.1 7 + 1)) : epc d j l = 0 := by
  cases j with
  | zero => rfl
  | succ j =>
    have := h (by omega)
    unfold epc
    rw [if_neg (by omega)]
theorem ep1_done (l : Ln) : (ep1 l).1 7 = l.1 7 + 1 ∧ (ep1 l).1 4 = l.1 4 ∧ (ep1 l).1 6 = l.1 6 := ⟨rfl, rfl, rfl⟩
theorem epw_succ (D : Nat) : ∀ (j : Nat) (l : Ln), l.1 7 + j = l.1 4 → epw (D + 1) j l = dst (D + 1) (epw D j l) ∧ epc (D + 1) j l = epc D j l + dsc (D + 1) (epw D j l)
  | 0, l, h => by
    unfold dst dsc epw epc
    rw [if_neg (fun z => by omega), if_neg (fun z => by omega)]
    exact ⟨rfl, rfl⟩
  | j + 1, l, h => by
    have hlt := pe_lt (l.1 6) (l.1 7 + 1)
    by_cases h1 : pe (l.1 6) (l.1 7 + 1) ≤ D
    · have ih := epw_succ D j (ep1 l) (by show l.1 7 + 1 + j = l.1 4; omega)
      unfold epw epc
      rw [if_pos (by omega), if_pos h1, if_pos (by omega), if_pos h1, ih.1, ih.2]
      exact ⟨rfl, by omega⟩
    · have e0 : epw D (j + 1) l = l := epw_id h (fun _ => by omega)
      have e0' : epc D (j + 1) l = 0 := epc_id h (fun _ => by omega)
      rw [e0, e0']
      by_cases h2 : pe (l.1 6) (l.1 7 + 1) = D + 1
      · unfold dst dsc epw epc
        rw [if_pos (by omega), if_pos (by omega), if_pos (by omega), epw_id (by show l.1 7 + 1 + j = l.1 4; omega) (fun _ => by show D + 1 < pe (l.1 6) (l.1 7 + 1 + 1); omega), epc_id (by show l.1 7 + 1 + j = l.1 4; omega) (fun _ => by show D + 1 < pe (l.1 6) (l.1 7 + 1 + 1); omega)]
        refine ⟨rfl, ?_⟩
        by_cases h3 : 0 < ask (ep1 l) (l.1 7 + 1)
        · rw [if_pos h3, if_pos ⟨by omega, h2, h3⟩]
        · rw [if_neg h3, if_neg (fun z => h3 z.2.2)]
      · unfold dst dsc
        rw [if_neg (fun z => h2 z.2), if_neg (fun z => h2 z.2.1), epw_id h (fun _ => by omega), epc_id h (fun _ => by omega)]
        exact ⟨rfl, rfl⟩
/-- days ended so far, kept by each step -/
theorem dst_dy {D : Nat} {l : Ln} (h : DY D l) : DY (D + 1) (dst (D + 1) l) := by
  have hlt := pe_lt (l.1 6) (l.1 7 + 1)
  obtain ⟨h1, h2, h3⟩ := h
  unfold dst
  by_cases e : l.1 7 < l.1 4 ∧ pe (l.1 6) (l.1 7 + 1) = D + 1
  · rw [if_pos e]
    refine ⟨by show l.1 6 ≤ _; omega, by show pe (l.1 6) (l.1 7 + 1) ≤ _; omega, fun _ => by show _ < pe (l.1 6) (l.1 7 + 1 + 1); omega⟩
  · rw [if_neg e]
    refine ⟨by omega, by omega, fun h => ?_⟩
    have := h3 h
    have : pe (l.1 6) (l.1 7 + 1) ≠ D + 1 := fun z => e ⟨h, z⟩
    omega
theorem chg_1 (a b g f : Nat) (l : Ln) : (chg a b g f l).1 = l.1 := rfl
theorem chg_dy {D a b g f : Nat} {l : Ln} (h : DY D l) : DY D (chg a b g f l) := h
theorem dst_1 {D a b g f : Nat} (l : Ln) : (dst D (chg a b g f l)).1 = (dst D l).1 := by
  unfold dst
  rw [chg_1]
  split
  · rfl
  · rfl
theorem ask_pos_nf {l : Ln} (hN : NF l) {k : Nat} (h : 0 < ask l k) (h0 : (l.2.2 k).2.2.2 = 0) : 0 < (l.2.2 k).1 + (l.2.2 k).2.1 := by
  have := hN k h0
  unfold ask at h
  omega
/-- a fee on a bill, once it is x -/
def fB (f1 f2 x fee : Nat) (b : Nat × Nat × Nat × Nat) : Nat × Nat × Nat × Nat := if 0 < b.2.2.1 + b.1 + b.2.1 ∧ b.2.2.2 = 0 ∧ f1 ≤ x ∧ x ≤ f2 then (b.1, b.2.1, fee, 1) else b
theorem chE_fB (l : Ln) (f1 f2 g fee K k : Nat) : chE l f1 f2 g fee K k = if 1 ≤ k ∧ k < K then fB f1 f2 (pe (l.1 6) k + g) fee (l.2.2 k) else l.2.2 k := by
  unfold chE fB
  by_cases h : 1 ≤ k ∧ k < K
  · rw [if_pos h]
    by_cases h2 : 0 < ask l k ∧ (l.2.2 k).2.2.2 = 0 ∧ f1 ≤ pe (l.1 6) k + g ∧ pe (l.1 6) k + g ≤ f2
    · rw [if_pos ⟨h.1, h.2, h2⟩]
      exact (if_pos h2).symm
    · rw [if_neg (fun z => h2 z.2.2)]
      exact (if_neg h2).symm
  · rw [if_neg h, if_neg (fun z => h ⟨z.1, z.2.1⟩)]
theorem fB_fB (d n x f : Nat) (b : Nat × Nat × Nat × Nat) : fB (d + n + 1) (d + n + 1) x f (fB (d + 1) (d + n) x f b) = fB (d + 1) (d + n + 1) x f b := by
  unfold fB
  by_cases h : 0 < b.2.2.1 + b.1 + b.2.1 ∧ b.2.2.2 = 0 ∧ d + 1 ≤ x ∧ x ≤ d + n
  · simp only [if_pos h]
    rw [if_neg (fun z => absurd z.2.1 (by decide)), if_pos ⟨h.1, h.2.1, h.2.2.1, by omega⟩]
  · simp only [if_neg h]
    by_cases h2 : 0 < b.2.2.1 + b.1 + b.2.1 ∧ b.2.2.2 = 0 ∧ x = d + n + 1
    · rw [if_pos ⟨h2.1, h2.2.1, by omega, by omega⟩, if_pos ⟨h2.1, h2.2.1, by omega, by omega⟩]
    · rw [if_neg (fun z => h2 ⟨z.1, z.2.1, by omega⟩), if_neg (fun z => by
        by_cases z2 : x = d + n + 1
        · exact h2 ⟨z.1, z.2.1, z2⟩
        · exact h ⟨z.1, z.2.1, z.2.2.1, by omega⟩)]
theorem fB_new {d n x : Nat} (h : d + n + 1 ≤ x) (f : Nat) (b : Nat × Nat × Nat × Nat) : fB (d + 1) (d + n + 1) x f b = fB (d + n + 1) (d + n + 1) x f b := by
  unfold fB
  by_cases h2 : 0 < b.2.2.1 + b.1 + b.2.1 ∧ b.2.2.2 = 0 ∧ x ≤ d + n + 1
  · rw [if_pos ⟨h2.1, h2.2.1, by omega, h2.2.2⟩, if_pos ⟨h2.1, h2.2.1, h, h2.2.2⟩]
  · rw [if_neg (fun z => h2 ⟨z.1, z.2.1, z.2.2.2⟩), if_neg (fun z => h2 ⟨z.1, z.2.1, z.2.2.2⟩)]
theorem ep1_chg_at (a b g f : Nat) (l : Ln) : (ep1 (chg a b g f l)).2.2 (l.1 7 + 1) = (ep1 l).2.2 (l.1 7 + 1) := by
  have e1 : (ep1 (chg a b g f l)).2.2 (l.1 7 + 1) = (ik l (l.1 7 + 1) (l.1 8), pk l (l.1 7 + 1) (l.1 8) (ik l (l.1 7 + 1) (l.1 8)), (chE l a b g f (l.1 7 + 1) (l.1 7 + 1)).2.2) := up_s _ _ _
  have e2 : (ep1 l).2.2 (l.1 7 + 1) = (ik l (l.1 7 + 1) (l.1 8), pk l (l.1 7 + 1) (l.1 8) (ik l (l.1 7 + 1) (l.1 8)), (l.2.2 (l.1 7 + 1)).2.2) := up_s _ _ _
  rw [e1, e2, chE_at]
/-- fees up to a day, then one day more -/
theorem chg_dst {d n g f : Nat} {l : Ln} : chg (d + 1) (d + n + 1) g f (dst (d + n + 1) l) = chg (d + n + 1) (d + n + 1) g f (dst (d + n + 1) (chg (d + 1) (d + n) g f l)) := by
  by_cases e : l.1 7 < l.1 4 ∧ pe (l.1 6) (l.1 7 + 1) = d + n + 1
  · unfold dst
    rw [chg_1, if_pos e, if_pos e]
    refine Prod.ext rfl (Prod.ext rfl ?_)
    funext k
    show chE (ep1 l) (d + 1) (d + n + 1) g f (l.1 7 + 1 + 1) k = chE (ep1 (chg (d + 1) (d + n) g f l)) (d + n + 1) (d + n + 1) g f (l.1 7 + 1 + 1) k
    rw [chE_fB, chE_fB]
    have p1 : (ep1 l).1 6 = l.1 6 := rfl
    have p2 : (ep1 (chg (d + 1) (d + n) g f l)).1 6 = l.1 6 := rfl
    rw [p1, p2]
    by_cases e1 : k = l.1 7 + 1
    · subst e1
      rw [ep1_chg_at, if_pos ⟨by omega, by omega⟩, if_pos ⟨by omega, by omega⟩]
      exact fB_new (by omega) _ _
    · have eb : (ep1 (chg (d + 1) (d + n) g f l)).2.2 k = chE l (d + 1) (d + n) g f (l.1 7 + 1) k := up_n _ _ e1
      have eb2 : (ep1 l).2.2 k = l.2.2 k := up_n _ _ e1
      rw [eb, eb2, chE_fB]
      by_cases q : 1 ≤ k ∧ k < l.1 7 + 1
      · rw [if_pos q, if_pos ⟨q.1, by omega⟩, if_pos ⟨q.1, by omega⟩, fB_fB]
      · rw [if_neg q, if_neg (fun z => q ⟨z.1, by omega⟩), if_neg (fun z => q ⟨z.1, by omega⟩)]
  · unfold dst
    rw [chg_1, if_neg e, if_neg e]
    refine Prod.ext rfl (Prod.ext rfl ?_)
    funext k
    show chE l (d + 1) (d + n + 1) g f (l.1 7 + 1) k = chE (chg (d + 1) (d + n) g f l) (d + n + 1) (d + n + 1) g f (l.1 7 + 1) k
    rw [chE_fB, chE_fB]
    have eb : (chg (d + 1) (d + n) g f l).2.2 k = chE l (d + 1) (d + n) g f (l.1 7 + 1) k := rfl
    rw [chg_1, eb, chE_fB]
    by_cases q : 1 ≤ k ∧ k < l.1 7 + 1
    · rw [if_pos q, if_pos q, if_pos q, fB_fB]
    · rw [if_neg q, if_neg q, if_neg q]
/-- marks and fees -/
theorem ep1_nf {l : Ln} (h : NF l) : NF (ep1 l) := by
  intro k
  by_cases e : k = l.1 7 + 1
  · subst e
    have e2 : (ep1 l).2.2 (l.1 7 + 1) = (ik l (l.1 7 + 1) (l.1 8), pk l (l.1 7 + 1) (l.1 8) (ik l (l.1 7 + 1) (l.1 8)), (l.2.2 (l.1 7 + 1)).2.2) := up_s _ _ _
    rw [e2]
    exact h _
  · have e2 : (ep1 l).2.2 k = l.2.2 k := up_n _ _ e
    rw [e2]
    exact h _
theorem epw_nf (d : Nat) : ∀ (j : Nat) (l : Ln), NF l → NF (epw d j l)
  | 0, _, h => h
  | j + 1, l, h => by
    unfold epw
    split
    · exact epw_nf d j _ (ep1_nf h)
    · exact h
theorem chg_nf {a b g f : Nat} {l : Ln} (h : NF l) : NF (chg a b g f l) := by
  intro k
  show (chE _ _ _ _ _ _ k).2.2.2 = 0 → (chE _ _ _ _ _ _ k).2.2.1 = 0
  unfold chE
  split
  · intro z
    exact absurd (show (1 : Nat) = 0 from z) (by decide)
  · exact h k
theorem dst_nf {D : Nat} {l : Ln} (h : NF l) : NF (dst D l) := by
  unfold dst
  split
  · exact ep1_nf h
  · exact h
theorem dst_gd {D : Nat} {l : Ln} (h : GD l) : GD (dst D l) := by
  unfold dst
  split
  · exact ep1_gd h (by rename_i z; exact z.1)
  · exact h
theorem adv_0 {d g f : Nat} {l : Ln} (hG : GD l) (h : DY d l) : adv d 0 g f l = l := by
  have := hG.2.2.2.2.2.2.2.1
  unfold adv
  rw [show d + 0 = d from rfl, epw_id (by omega) h.2.2]
  refine Prod.ext rfl (Prod.ext rfl ?_)
  funext k
  show chE _ _ _ _ _ _ k = _
  unfold chE
  rw [if_neg (fun z => by omega)]
theorem epw_dy : ∀ (n d : Nat) (l : Ln), GD l → DY d l → DY (d + n) (epw (d + n) (l.1 4 - l.1 7) l)
  | 0, d, l, hG, h => by
    have := hG.2.2.2.2.2.2.2.1
    rw [Nat.add_zero, epw_id (by omega) h.2.2]
    exact h
  | n + 1, d, l, hG, h => by
    have := hG.2.2.2.2.2.2.2.1
    have ih := epw_dy n d l hG h
    rw [← Nat.add_assoc, (epw_succ (d + n) _ l (by omega)).1]
    exact dst_dy ih
theorem adv_succ {d n g f : Nat} {l : Ln} (hG : GD l) (hN : NF l) (h : DY d l) : adv d (n + 1) g f l = chg (d + n + 1) (d + n + 1) g f (dst (d + n + 1) (adv d n g f l)) := by
  have hd := hG.2.2.2.2.2.2.2.1
  have h1 := epw_gd (d + n) (l.1 4 - l.1 7) l hG (by omega)
  have h2 := epw_nf (d + n) (l.1 4 - l.1 7) l hN
  have h3 := epw_dy n d l hG h
  unfold adv
  rw [← Nat.add_assoc, (epw_succ (d + n) _ l (by omega)).1]
  exact chg_dst
theorem adv_dy {d n g f : Nat} {l : Ln} (hG : GD l) (h : DY d l) : DY (d + n) (adv d n g f l) := epw_dy n d l hG h
theorem adv_nf {d n g f : Nat} {l : Ln} (h : NF l) : NF (adv d n g f l) := chg_nf (epw_nf _ _ _ h)
theorem ask_ep1_chg {a b g f : Nat} {l : Ln} : ask (ep1 (chg a b g f l)) (l.1 7 + 1) = ask (ep1 l) (l.1 7 + 1) := by
  unfold ask
  rw [ep1_chg_at]
theorem epc_succ {d n g f : Nat} {l : Ln} (hG : GD l) : epc (d + n + 1) (l.1 4 - l.1 7) l = epc (d + n) (l.1 4 - l.1 7) l + dsc (d + n + 1) (adv d n g f l) := by
  have hd := hG.2.2.2.2.2.2.2.1
  rw [(epw_succ (d + n) _ l (by omega)).2]
  congr 1
  unfold adv dsc
  rw [chg_1, ask_ep1_chg]
/-! the bills -/
theorem lvf_snoc (l : Ln) : ∀ (j k : Nat), lvf l k (j + 1) = lvf l k j ++ (if 0 < ask l (k + j) then [k + j] else [])
  | 0, k => by
    unfold lvf
    rfl
  | j + 1, k => by
    have ih := lvf_snoc l j (k + 1)
    have e : lvf l k (j + 1 + 1) = if 0 < ask l k then k :: lvf l (k + 1) (j + 1) else lvf l (k + 1) (j + 1) := rfl
    have e2 : lvf l k (j + 1) = if 0 < ask l k then k :: lvf l (k + 1) j else lvf l (k + 1) j := rfl
    rw [e, e2, ih, show k + 1 + j = k + (j + 1) by omega]
    split
    · rfl
    · rfl
theorem lvf_cg (l l' : Ln) : ∀ (j k : Nat), (∀ i, k ≤ i → i < k + j → (0 < ask l i ↔ 0 < ask l' i)) → lvf l k j = lvf l' k j
  | 0, _, _ => rfl
  | j + 1, k, h => by
    have ih := lvf_cg l l' j (k + 1) (fun i h1 h2 => h i (by omega) (by omega))
    have h0 := h k (Nat.le_refl k) (by omega)
    unfold lvf
    rw [ih]
    by_cases e : 0 < ask l k
    · rw [if_pos e, if_pos (h0.mp e)]
    · rw [if_neg e, if_neg (fun z => e (h0.mpr z))]
theorem bls_ep1 {l : Ln} (hG : GD l) : bls (ep1 l) = if ik l (l.1 7 + 1) (l.1 8) + pk l (l.1 7 + 1) (l.1 8) (ik l (l.1 7 + 1) (l.1 8)) = 0 then bls l else bls l ++ [(pe (l.1 6) (l.1 7 + 1), ik l (l.1 7 + 1) (l.1 8), pk l (l.1 7 + 1) (l.1 8) (ik l (l.1 7 + 1) (l.1 8)), 0, 0)] := by
  have hout := hG.2.2.2.2.2.2.2.2.2.2.2 (l.1 7 + 1) (Or.inr (by omega))
  have eb : (ep1 l).2.2 (l.1 7 + 1) = (ik l (l.1 7 + 1) (l.1 8), pk l (l.1 7 + 1) (l.1 8) (ik l (l.1 7 + 1) (l.1 8)), 0, 0) := by
    have e2 : (ep1 l).2.2 (l.1 7 + 1) = (ik l (l.1 7 + 1) (l.1 8), pk l (l.1 7 + 1) (l.1 8) (ik l (l.1 7 + 1) (l.1 8)), (l.2.2 (l.1 7 + 1)).2.2) := up_s _ _ _
    rw [e2, hout]
  have ea : ask (ep1 l) (l.1 7 + 1) = ik l (l.1 7 + 1) (l.1 8) + pk l (l.1 7 + 1) (l.1 8) (ik l (l.1 7 + 1) (l.1 8)) := by
    unfold ask
    rw [eb]
    show 0 + _ + _ = _ + _
    rw [Nat.zero_add]
  have eo : ∀ k, k ≠ l.1 7 + 1 → (ep1 l).2.2 k = l.2.2 k := fun k hk => up_n _ _ hk
  have el : lvf (ep1 l) 1 (l.1 7) = lvf l 1 (l.1 7) := lvf_cg _ _ _ _ (fun i h1 h2 => by unfold ask; rw [eo i (by omega)])
  have em : (lvf l 1 (l.1 7)).map (fun k => (pe ((ep1 l).1 6) k, (ep1 l).2.2 k)) = (lvf l 1 (l.1 7)).map (fun k => (pe (l.1 6) k, l.2.2 k)) := by
    refine List.map_congr_left (fun k hk => ?_)
    have := lvf_mem l _ _ _ hk
    rw [eo k (by omega)]
    rfl
  unfold bls lvs
  show (lvf (ep1 l) 1 (l.1 7 + 1)).map _ = _
  rw [lvf_snoc, el, List.map_append, em, Nat.add_comm 1, ea]
  by_cases z : ik l (l.1 7 + 1) (l.1 8) + pk l (l.1 7 + 1) (l.1 8) (ik l (l.1 7 + 1) (l.1 8)) = 0
  · rw [if_neg (by omega), if_pos z]
    simp
  · rw [if_pos (by omega), if_neg z]
    congr 1
    show [(pe (l.1 6) (l.1 7 + 1), (ep1 l).2.2 (l.1 7 + 1))] = _
    rw [eb]
theorem dsc_e {D : Nat} {l : Ln} (hG : GD l) : dsc D l = if l.1 7 < l.1 4 ∧ pe (l.1 6) (l.1 7 + 1) = D then (if ik l (l.1 7 + 1) (l.1 8) + pk l (l.1 7 + 1) (l.1 8) (ik l (l.1 7 + 1) (l.1 8)) = 0 then 0 else 1) else 0 := by
  have hout := hG.2.2.2.2.2.2.2.2.2.2.2 (l.1 7 + 1) (Or.inr (by omega))
  have eb : (ep1 l).2.2 (l.1 7 + 1) = (ik l (l.1 7 + 1) (l.1 8), pk l (l.1 7 + 1) (l.1 8) (ik l (l.1 7 + 1) (l.1 8)), (l.2.2 (l.1 7 + 1)).2.2) := up_s _ _ _
  have ea : ask (ep1 l) (l.1 7 + 1) = ik l (l.1 7 + 1) (l.1 8) + pk l (l.1 7 + 1) (l.1 8) (ik l (l.1 7 + 1) (l.1 8)) := by
    unfold ask
    rw [eb, hout]
    show 0 + _ + _ = _ + _
    rw [Nat.zero_add]
  unfold dsc
  rw [ea]
  by_cases e : l.1 7 < l.1 4 ∧ pe (l.1 6) (l.1 7 + 1) = D
  · rw [if_pos e]
    by_cases z : ik l (l.1 7 + 1) (l.1 8) + pk l (l.1 7 + 1) (l.1 8) (ik l (l.1 7 + 1) (l.1 8)) = 0
    · rw [if_pos z, if_neg (by omega)]
    · rw [if_neg z, if_pos ⟨e.1, e.2, by omega⟩]
  · rw [if_neg e, if_neg (fun z => e ⟨z.1, z.2.1⟩)]
theorem bls_chg {D g f : Nat} {l : Ln} (hN : NF l) : bls (chg D D g f l) = (bls l).map (feB D g f) := by
  have el : lvf (chg D D g f l) 1 (l.1 7) = lvf l 1 (l.1 7) := lvf_cg _ _ _ _ (fun i h1 h2 => by
    show 0 < (chE _ _ _ _ _ _ i).2.2.1 + (chE _ _ _ _ _ _ i).1 + (chE _ _ _ _ _ _ i).2.1 ↔ _
    unfold chE
    split
    · rename_i z
      have := ask_pos_nf hN z.2.2.1 z.2.2.2.1
      constructor
      · intro _; exact z.2.2.1
      · intro _
        show 0 < f + (l.2.2 i).1 + (l.2.2 i).2.1
        omega
    · exact Iff.rfl)
  unfold bls lvs
  show (lvf (chg D D g f l) 1 (l.1 7)).map _ = _
  rw [el, List.map_map]
  refine List.map_congr_left (fun k hk => ?_)
  have hm := lvf_mem l _ _ _ hk
  show (pe (l.1 6) k, chE l D D g f (l.1 7 + 1) k) = feB D g f (pe (l.1 6) k, l.2.2 k)
  unfold chE feB
  by_cases q : (l.2.2 k).2.2.2 = 0 ∧ pe (l.1 6) k + g = D
  · rw [if_pos q, if_pos ⟨by omega, by omega, hm.2.2, q.1, by omega, by omega⟩]
  · rw [if_neg q, if_neg (fun z => q ⟨z.2.2.2.1, by omega⟩)]
theorem bls_len {l : Ln} (hG : GD l) : (bls l).length ≤ l.1 7 ∧ (bls l).length ≤ 60 := by
  have h1 := hG.2.2.2.2.2.2.2.1
  have h2 := hG.2.2.2.2.1
  have h3 := lvf_len l (l.1 7) 1
  unfold bls lvs
  rw [List.length_map]
  omega
theorem bls_bd {l : Ln} (hG : GD l) : ∀ b ∈ bls l, b.1 ≤ 40000 ∧ b.2.2.2.2 ≤ 1 := by
  intro b hb
  unfold bls at hb
  obtain ⟨k, hk, e⟩ := List.mem_map.mp hb
  have h1 := lvs_in hG hk
  have h2 := hG.2.2.2.2.2.2.1
  have h3 : pe (l.1 6) k ≤ 36524 := pe_le (by omega)
  subst e
  exact ⟨by show pe (l.1 6) k ≤ 40000; omega, (hG.2.2.2.2.2.2.2.2.2.2.1 k).2.2.2⟩
