/-! a payment, on a list of bills -/
abbrev Bl : Type := Nat × Nat × Nat × Nat × Nat
/-- a bill after a payment a to it -/
def bp (a : Nat) (b : Bl) : Bl := (b.1, b.2.1 - tI a b.2, b.2.2.1 - tP a b.2, b.2.2.2.1 - tF a b.2, b.2.2.2.2)
def bq (b : Bl) : Nat := b.2.1 + b.2.2.1 + b.2.2.2.1
def bl (a : Nat) (b : Bl) : Nat := a - tF a b.2 - tI a b.2 - tP a b.2
/-- to all bills in their order: fee, interest, principal; what is left; the bills -/
def rp : Nat → List Bl → (Nat × Nat × Nat) × Nat × List Bl
  | a, [] => ((0, 0, 0), a, [])
  | a, b :: bs => if a = 0 then ((0, 0, 0), 0, b :: bs) else if bq (bp a b) = 0 then ((tF a b.2 + (rp (bl a b) bs).1.1, tI a b.2 + (rp (bl a b) bs).1.2.1, tP a b.2 + (rp (bl a b) bs).1.2.2), (rp (bl a b) bs).2.1, (rp (bl a b) bs).2.2) else ((tF a b.2, tI a b.2, tP a b.2), bl a b, bp a b :: bs)
theorem rp_0 (bs : List Bl) : rp 0 bs = ((0, 0, 0), 0, bs) := by
  cases bs with
  | nil => rfl
  | cons b bs => unfold rp; rw [if_pos rfl]
theorem bl_0 {a : Nat} {b : Bl} (h : bq (bp a b) ≠ 0) : bl a b = 0 := by
  unfold bq bp at h
  unfold bl
  have h1 : tF a b.2 = min a b.2.2.2.1 := rfl
  have h2 : tI a b.2 = min (a - tF a b.2) b.2.1 := rfl
  have h3 : tP a b.2 = min (a - tF a b.2 - tI a b.2) b.2.2.1 := rfl
  dsimp only at h
  omega
theorem bl_le (a : Nat) (b : Bl) : bl a b ≤ a := by
  unfold bl
  omega
theorem rp_len : ∀ (bs : List Bl) (a : Nat), (rp a bs).2.2.length ≤ bs.length ∧ (rp a bs).2.1 ≤ a
  | [], _ => ⟨Nat.le_refl _, Nat.le_refl _⟩
  | b :: bs, a => by
    have h := rp_len bs (bl a b)
    have h2 := bl_le a b
    unfold rp
    split
    · exact ⟨Nat.le_refl _, Nat.zero_le _⟩
    · split
      · exact ⟨by show (rp (bl a b) bs).2.2.length ≤ bs.length + 1; omega, by show (rp (bl a b) bs).2.1 ≤ a; omega⟩
      · exact ⟨Nat.le_refl _, h2⟩
def bv (l : Ln) (k : Nat) : Bl := (pe (l.1 6) k, l.2.2 k)
theorem rcv_keep : ∀ (j k a : Nat) (l : Ln) (i : Nat), i < k → (rcv j k a l).2.2.2 i = l.2.2 i
  | 0, _, _, _, _, _ => rfl
  | j + 1, k, a, l, i, hi => by
    unfold rcv
    split
    · rfl
    · rw [rcv_keep j (k + 1) _ _ i (by omega)]
      exact up_n _ _ (by omega)
theorem pb_nil {a k : Nat} {l : Ln} (h : ask l k = 0) : pb a k l = l ∧ pr a k l = a := by
  unfold ask at h
  have h1 : tF a (l.2.2 k) = 0 := by show min a (l.2.2 k).2.2.1 = 0; omega
  have h2 : tI a (l.2.2 k) = 0 := by show min (a - tF a (l.2.2 k)) (l.2.2 k).1 = 0; omega
  have h3 : tP a (l.2.2 k) = 0 := by show min (a - tF a (l.2.2 k) - tI a (l.2.2 k)) (l.2.2 k).2.1 = 0; omega
  unfold pb pr
  rw [h1, h2, h3]
  refine ⟨?_, rfl⟩
  refine Prod.ext rfl (Prod.ext ?_ ?_)
  · funext w
    show up _ _ _ _ = _
    have z : ∀ x : Int64, x + lN 0 = x := fun x => Int64.add_zero x
    rw [z, z, z]
    unfold up
    by_cases e2 : w = 2
    · subst e2; simp
    · by_cases e1 : w = 1
      · subst e1; simp
      · by_cases e0 : w = 0
        · subst e0; simp
        · simp [e0, e1, e2]
  · funext w
    show up _ _ _ _ = _
    by_cases e : w = k
    · subst e
      rw [up_s]
      rfl
    · rw [up_n _ _ e]
theorem rcv_rp : ∀ (j k a : Nat) (l : Ln), rp a ((lvf l k j).map (bv l)) = ((rp a ((lvf l k j).map (bv l))).1, (rcv j k a l).1, (lvf (rcv j k a l).2 k j).map (bv (rcv j k a l).2)) ∧ (rcv j k a l).2.2.1 0 = l.2.1 0 + lN (rp a ((lvf l k j).map (bv l))).1.1 ∧ (rcv j k a l).2.2.1 1 = l.2.1 1 + lN (rp a ((lvf l k j).map (bv l))).1.2.1 ∧ (rcv j k a l).2.2.1 2 = l.2.1 2 + lN (rp a ((lvf l k j).map (bv l))).1.2.2 ∧ ∀ w, 2 < w → (rcv j k a l).2.2.1 w = l.2.1 w
  | 0, _, a, l => ⟨rfl, (Int64.add_zero _).symm, (Int64.add_zero _).symm, (Int64.add_zero _).symm, fun _ _ => rfl⟩
  | j + 1, k, a, l => by
    have eR : rcv (j + 1) k a l = if a = 0 then (a, l) else rcv j (k + 1) (pr a k l) (pb a k l) := rfl
    by_cases h0 : a = 0
    · rw [eR, if_pos h0, h0, rp_0]
      exact ⟨rfl, (Int64.add_zero _).symm, (Int64.add_zero _).symm, (Int64.add_zero _).symm, fun _ _ => rfl⟩
    · rw [eR, if_neg h0]
      have eL : ∀ l : Ln, lvf l k (j + 1) = if 0 < ask l k then k :: lvf l (k + 1) j else lvf l (k + 1) j := fun _ => rfl
      have hk := rcv_keep j (k + 1) (pr a k l) (pb a k l) k (by omega)
      have h61 : (rcv j (k + 1) (pr a k l) (pb a k l)).2.1 = l.1 := rcv_1 _ _ _ _
      by_cases h1 : 0 < ask l k
      · have ih := rcv_rp j (k + 1) (pr a k l) (pb a k l)
        have eo : ∀ i, i ≠ k → (pb a k l).2.2 i = l.2.2 i := fun i hi => up_n _ _ hi
        have e1 : lvf (pb a k l) (k + 1) j = lvf l (k + 1) j := lvf_cg _ _ _ _ (fun i q1 q2 => by unfold ask; rw [eo i (by omega)])
        have e2 : (lvf l (k + 1) j).map (bv (pb a k l)) = (lvf l (k + 1) j).map (bv l) := by
          refine List.map_congr_left (fun i hi => ?_)
          have := lvf_mem l _ _ _ hi
          unfold bv
          rw [eo i (by omega)]
          rfl
        rw [e1, e2] at ih
        have ebk : (pb a k l).2.2 k = (bp a (bv l k)).2 := up_s _ _ _
        have ebl : pr a k l = bl a (bv l k) := rfl
        have g0 : (pb a k l).2.1 0 = l.2.1 0 + lN (tF a (l.2.2 k)) := rfl
        have g1 : (pb a k l).2.1 1 = l.2.1 1 + lN (tI a (l.2.2 k)) := rfl
        have g2 : (pb a k l).2.1 2 = l.2.1 2 + lN (tP a (l.2.2 k)) := rfl
        have g3 : ∀ w, 2 < w → (pb a k l).2.1 w = l.2.1 w := fun w hw => by
          show up _ _ _ w = _
          rw [up_n _ _ (by omega), up_n _ _ (by omega), up_n _ _ (by omega)]
        have eask : ask (rcv j (k + 1) (pr a k l) (pb a k l)).2 k = bq (bp a (bv l k)) := by
          unfold ask bq
          rw [hk, ebk]
          omega
        rw [eL, if_pos h1, eL, eask, List.map_cons]
        unfold rp
        rw [if_neg h0]
        by_cases h2 : bq (bp a (bv l k)) = 0
        · rw [if_pos h2, h2, if_neg (Nat.lt_irrefl 0)]
          rw [← ebl]
          obtain ⟨i1, i2, i3, i4, i5⟩ := ih
          refine ⟨?_, ?_, ?_, ?_, fun w hw => ?_⟩
          · rw [i1]
          · rw [i2, g0, Int64.add_assoc, lN_add]; rfl
          · rw [i3, g1, Int64.add_assoc, lN_add]; rfl
          · rw [i4, g2, Int64.add_assoc, lN_add]; rfl
          · rw [i5 w hw, g3 w hw]
        · rw [if_neg h2, if_pos (by omega)]
          have hz : pr a k l = 0 := by rw [ebl]; exact bl_0 h2
          have hr : rcv j (k + 1) (pr a k l) (pb a k l) = (0, pb a k l) := by
            rw [hz]
            cases j with
            | zero => rfl
            | succ j => unfold rcv; rw [if_pos rfl]
          rw [hr]
          refine ⟨?_, g0, g1, g2, g3⟩
          rw [List.map_cons]
          show (_, bl a (bv l k), bp a (bv l k) :: _) = (_, 0, bv (pb a k l) k :: (lvf (pb a k l) (k + 1) j).map (bv (pb a k l)))
          rw [e1, e2, ← ebl, hz]
          have : bv (pb a k l) k = bp a (bv l k) := by
            unfold bv
            rw [ebk]
            rfl
          rw [this]
      · have hz : ask l k = 0 := by omega
        rw [(pb_nil hz).1, (pb_nil hz).2] at hk ⊢
        have ih := rcv_rp j (k + 1) a l
        have e2 : ask (rcv j (k + 1) a l).2 k = ask l k := by
          unfold ask
          rw [hk]
        rw [eL, if_neg h1, eL, e2, if_neg h1]
        exact ih
theorem bls_bv (l : Ln) : bls l = (lvf l 1 (l.1 7)).map (bv l) := rfl
/-- a loan's bills and sums after a payment -/
theorem rcv_bls (a : Nat) (l : Ln) : bls (rcv (l.1 7) 1 a l).2 = (rp a (bls l)).2.2 ∧ (rcv (l.1 7) 1 a l).1 = (rp a (bls l)).2.1 := by
  have h := (rcv_rp (l.1 7) 1 a l).1
  rw [← bls_bv] at h
  rw [bls_bv, rcv_1]
  exact ⟨(congrArg (fun x => x.2.2) h).symm, (congrArg (fun x => x.2.1) h).symm⟩
theorem rcv_nf : ∀ (j k a : Nat) (l : Ln), NF l → NF (rcv j k a l).2
  | 0, _, _, _, h => h
  | j + 1, k, a, l, h => by
    unfold rcv
    split
    · exact h
    · refine rcv_nf j _ _ _ (fun i => ?_)
      by_cases e : i = k
      · subst e
        have e2 : (pb a i l).2.2 i = ((l.2.2 i).1 - tI a (l.2.2 i), (l.2.2 i).2.1 - tP a (l.2.2 i), (l.2.2 i).2.2.1 - tF a (l.2.2 i), (l.2.2 i).2.2.2) := up_s _ _ _
        rw [e2]
        intro z
        have := h i z
        show (l.2.2 i).2.2.1 - _ = 0
        omega
      · have e2 : (pb a k l).2.2 i = l.2.2 i := up_n _ _ e
        rw [e2]
        exact h i
theorem relv_2 (l : Ln) : (relv l).2 = l.2 := by
  unfold relv
  split <;> rfl
theorem pre_22 (a : Nat) (l : Ln) : (pre a l).2.2 = l.2.2 := by
  unfold pre
  split
  · rw [relv_2]; rfl
  · rfl
theorem pre_dn (a : Nat) (l : Ln) : (pre a l).1 7 = l.1 7 ∧ (pre a l).1 6 = l.1 6 ∧ (pre a l).1 4 = l.1 4 := by
  unfold pre relv
  split
  · split
    · exact ⟨rfl, rfl, rfl⟩
    · exact ⟨rfl, rfl, rfl⟩
  · exact ⟨rfl, rfl, rfl⟩
theorem bls_pre (a : Nat) (l : Ln) : bls (pre a l) = bls l := by
  have h := pre_dn a l
  unfold bls lvs
  rw [h.1, h.2.1, pre_22, lvf_cg (pre a l) l _ _ (fun i _ _ => by unfold ask; rw [pre_22])]
theorem paid_dn (a : Nat) (l : Ln) : (paid a l).1 7 = l.1 7 ∧ (paid a l).1 6 = l.1 6 ∧ (paid a l).1 4 = l.1 4 := by
  have h := pre_dn (rcv (l.1 7) 1 a l).1 (rcv (l.1 7) 1 a l).2
  rw [rcv_1] at h
  exact h
theorem paid_dy {d a : Nat} {l : Ln} (h : DY d l) : DY d (paid a l) := by
  have e := paid_dn a l
  unfold DY
  rw [e.1, e.2.1, e.2.2]
  exact h
theorem paid_nf {a : Nat} {l : Ln} (h : NF l) : NF (paid a l) := by
  unfold NF paid
  rw [pre_22]
  exact rcv_nf _ _ _ _ h
theorem paid_bls (a : Nat) (l : Ln) : bls (paid a l) = (rp a (bls l)).2.2 := by
  unfold paid
  rw [bls_pre]
  exact (rcv_bls a l).1
theorem givenBack_e (a : Nat) (l : Ln) : givenBack a l = (rp a (bls l)).2.1 - min (rp a (bls l)).2.1 (l.1 8) := by
  unfold givenBack
  rw [rcv_1, (rcv_bls a l).2]
