/-! loops over a LOAN's bills in the class -/
/-- the periods from k on, j of them, whose bills ask for something -/
def lvf (l : Ln) : Nat → Nat → List Nat
  | _, 0 => []
  | k, j + 1 => if 0 < ask l k then k :: lvf l (k + 1) j else lvf l (k + 1) j
def lvs (l : Ln) : List Nat := lvf l 1 (l.1 7)
theorem lvf_len (l : Ln) : ∀ (j k : Nat), (lvf l k j).length ≤ j
  | 0, _ => Nat.le_refl _
  | j + 1, k => by
    unfold lvf
    have := lvf_len l j (k + 1)
    split
    · simp; omega
    · omega
theorem lvf_mem (l : Ln) : ∀ (j k i : Nat), i ∈ lvf l k j → k ≤ i ∧ i < k + j ∧ 0 < ask l i
  | 0, _, _, h => by cases h
  | j + 1, k, i, h => by
    unfold lvf at h
    split at h
    · next h0 =>
      rcases List.mem_cons.mp h with rfl | h
      · exact ⟨Nat.le_refl _, by omega, h0⟩
      · have := lvf_mem l j (k + 1) i h
        omega
    · have := lvf_mem l j (k + 1) i h
      omega
section CLL
variable {S : St} {c : Nat} {l : Ln}
theorem owed_loop (hc : LC c) (hS : CL S c l) (hG : GD l) : ∀ (j n k x : Nat), j < n → k + j = l.1 7 + 1 → 1 ≤ k → x ≤ 300000000 * k → L_X4_owed_4 n c (lN x) (nI k) S = some (lN (x + ((lvf l k j).map (ask l)).sum), S)
  | _, 0, _, _, h, _, _, _ => absurd h (Nat.not_lt_zero _)
  | 0, n + 1, k, x, _, hk, _, _ => by
    have hm := hG.2.2.2.2.1
    have hd := hG.2.2.2.2.2.2.2.1
    show B_X4_owed_4 _ _ _ _ _ = _
    unfold B_X4_owed_4
    rw [lI hc, hS.2.1.2.2.2.2.2]
    simp (disch := omega) only [nI_ltI, show l.1 7 < k by omega, if_true]
    rfl
  | j + 1, n + 1, k, x, hn, hk, hk1, hx => by
    have hm := hG.2.2.2.2.1
    have hd := hG.2.2.2.2.2.2.2.1
    have ha := ask_le hG k
    show B_X4_owed_4 _ _ _ _ _ = _
    unfold B_X4_owed_4
    rw [lI hc, hS.2.1.2.2.2.2.2]
    simp (disch := omega) only [nI_ltI, show ¬ l.1 7 < k by omega, if_false]
    rw [lgk hc, asks_e hc hS (by omega), cl_some, bd_e, lN_add, show nI k + 1 = nI (k + 1) from nI_1 k, owed_loop hc hS hG j n (k + 1) _ (by omega) (by omega) (by omega) (by omega)]
    show _ = some (lN (x + ((if 0 < ask l k then k :: lvf l (k + 1) j else lvf l (k + 1) j).map (ask l)).sum), S)
    split
    · simp [Nat.add_assoc]
    · simp [show ask l k = 0 by omega]
theorem owed_e (hc : LC c) (hS : CL S c l) (hG : GD l) : F_X4_owed c S = some (lN ((lvs l).map (ask l)).sum, S) := by
  have hm := hG.2.2.2.2.1
  have hd := hG.2.2.2.2.2.2.2.1
  unfold F_X4_owed lvs
  have := owed_loop hc hS hG (l.1 7) 6000 1 0 (by omega) (by omega) (by omega) (by omega)
  rw [Nat.zero_add] at this
  exact this
theorem sum_ask_le (hG : GD l) : ∀ L : List Nat, (L.map (ask l)).sum ≤ 300000000 * L.length
  | [] => Nat.le_refl _
  | k :: L => by
    have := sum_ask_le hG L
    have := ask_le hG k
    simp only [List.map_cons, List.sum_cons, List.length_cons]
    omega
theorem sum_ask_0 : ∀ L : List Nat, (∀ k ∈ L, 0 < ask l k) → ((L.map (ask l)).sum = 0 ↔ L = [])
  | [], _ => by simp
  | k :: L, h => by
    have := h k List.mem_cons_self
    simp only [List.map_cons, List.sum_cons]
    constructor
    · intro; omega
    · intro h; cases h
theorem lvs_pos {k : Nat} (h : k ∈ lvs l) : 0 < ask l k := (lvf_mem l _ _ _ h).2.2
theorem isSettled_e (hc : LC c) (hS : CL S c l) (hG : GD l) : F_X4_isSettled c S = some (if l.1 8 = 0 ∧ lvs l = [] then 1 else 0, S) := by
  have hb := hG.2.2.2.2.2.2.2.2.1
  have hlen := lvf_len l (l.1 7) 1
  have hs := sum_ask_le hG (lvs l)
  have hm := hG.2.2.2.2.1
  have hd := hG.2.2.2.2.2.2.2.1
  have hl2 : (lvs l).length ≤ 60 := by unfold lvs; omega
  have h0 := sum_ask_0 (l := l) (lvs l) (fun k hk => lvs_pos hk)
  unfold F_X4_isSettled J_X4_isSettled_22 J_X4_isSettled_23
  rw [lL hc, hS.1.2.1, lgk hc, owed_e hc hS hG, cl_some]
  simp (disch := omega) only [fa_litL, lN_eq63, h0]
  by_cases b0 : l.1 8 = 0
  · by_cases b1 : lvs l = []
    · simp [b0, b1]; rfl
    · simp [b0, b1]; rfl
  · simp [b0]; rfl
theorem bia_loop (hc : LC c) (hS : CL S c l) (hG : GD l) : ∀ (j n k x : Nat), j < n → k + j = l.1 7 + 1 → 1 ≤ k → x ≤ k → L_X4_billsInArrears_4 n c (nI x) (nI k) S = some (nI (x + (lvf l k j).length), S)
  | _, 0, _, _, h, _, _, _ => absurd h (Nat.not_lt_zero _)
  | 0, n + 1, k, x, _, hk, _, _ => by
    have hm := hG.2.2.2.2.1
    have hd := hG.2.2.2.2.2.2.2.1
    show B_X4_billsInArrears_4 _ _ _ _ _ = _
    unfold B_X4_billsInArrears_4
    rw [lI hc, hS.2.1.2.2.2.2.2]
    simp (disch := omega) only [nI_ltI, show l.1 7 < k by omega, if_true]
    rfl
  | j + 1, n + 1, k, x, hn, hk, hk1, hx => by
    have hm := hG.2.2.2.2.1
    have hd := hG.2.2.2.2.2.2.2.1
    have ha := ask_le hG k
    show B_X4_billsInArrears_4 _ _ _ _ _ = _
    unfold B_X4_billsInArrears_4 J_X4_billsInArrears_25
    rw [lI hc, hS.2.1.2.2.2.2.2]
    simp (disch := omega) only [nI_ltI, show ¬ l.1 7 < k by omega, if_false]
    rw [lgk hc, asks_e hc hS (by omega), cl_some, show nI k + 1 = nI (k + 1) from nI_1 k, show nI x + 1 = nI (x + 1) from nI_1 x]
    simp (disch := omega) only [fa_litL, lN_le63]
    rw [bia_loop hc hS hG j n (k + 1) x (by omega) (by omega) (by omega) (by omega), bia_loop hc hS hG j n (k + 1) (x + 1) (by omega) (by omega) (by omega) (by omega)]
    show _ = some (nI (x + (if 0 < ask l k then k :: lvf l (k + 1) j else lvf l (k + 1) j).length), S)
    by_cases h0 : 0 < ask l k
    · rw [if_neg (by omega), if_pos h0, List.length_cons, show x + 1 + (lvf l (k + 1) j).length = x + ((lvf l (k + 1) j).length + 1) by omega]
    · rw [if_pos (by omega), if_neg h0]
theorem bia_e (hc : LC c) (hS : CL S c l) (hG : GD l) : F_X4_billsInArrears c S = some (nI (lvs l).length, S) := by
  have hm := hG.2.2.2.2.1
  have hd := hG.2.2.2.2.2.2.2.1
  unfold F_X4_billsInArrears lvs
  have := bia_loop hc hS hG (l.1 7) 6000 1 0 (by omega) (by omega) (by omega) (by omega)
  rw [Nat.zero_add] at this
  exact this
theorem pob_loop (hc : LC c) (hS : CL S c l) (hG : GD l) {i : Nat} (hi : i < 2 ^ 31) : ∀ (j n k x : Nat), j < n → k + j = l.1 7 + 1 → 1 ≤ k → x ≤ i → x ≤ k → L_X4_periodOfBill_4 n c (nI i) (nI x) (nI k) S = some (nI ((lvf l k j).getD (i - x) 0), S)
  | _, 0, _, _, h, _, _, _, _ => absurd h (Nat.not_lt_zero _)
  | 0, n + 1, k, x, _, hk, _, _, _ => by
    have hm := hG.2.2.2.2.1
    have hd := hG.2.2.2.2.2.2.2.1
    show B_X4_periodOfBill_4 _ _ _ _ _ _ = _
    unfold B_X4_periodOfBill_4
    rw [lI hc, hS.2.1.2.2.2.2.2]
    simp (disch := omega) only [nI_ltI, show l.1 7 < k by omega, if_true]
    simp [lvf]
    rfl
  | j + 1, n + 1, k, x, hn, hk, hk1, hx, hxk => by
    have hm := hG.2.2.2.2.1
    have hd := hG.2.2.2.2.2.2.2.1
    have ha := ask_le hG k
    show B_X4_periodOfBill_4 _ _ _ _ _ _ = _
    unfold B_X4_periodOfBill_4 J_X4_periodOfBill_32
    rw [lI hc, hS.2.1.2.2.2.2.2]
    simp (disch := omega) only [nI_ltI, show ¬ l.1 7 < k by omega, if_false]
    rw [lgk hc, asks_e hc hS (by omega), cl_some, show nI k + 1 = nI (k + 1) from nI_1 k, show nI x + 1 = nI (x + 1) from nI_1 x]
    simp (disch := omega) only [fa_litL, lN_le63, nI_eq]
    show _ = some (nI ((if 0 < ask l k then k :: lvf l (k + 1) j else lvf l (k + 1) j).getD (i - x) 0), S)
    by_cases h0 : 0 < ask l k
    · rw [if_neg (by omega), if_pos h0]
      by_cases hxi : x = i
      · rw [if_neg (fun z => z hxi), hxi, Nat.sub_self]
        rfl
      · rw [if_pos hxi, pob_loop hc hS hG hi j n (k + 1) (x + 1) (by omega) (by omega) (by omega) (by omega) (by omega), show i - x = (i - (x + 1)) + 1 by omega]
        rfl
    · rw [if_pos (by omega), if_neg h0, pob_loop hc hS hG hi j n (k + 1) x (by omega) (by omega) (by omega) (by omega) (by omega)]
theorem pob_e (hc : LC c) (hS : CL S c l) (hG : GD l) {i : Nat} (hi : i < 2 ^ 31) : F_X4_periodOfBill c (nI i) S = some (nI ((lvs l).getD i 0), S) := by
  have hm := hG.2.2.2.2.1
  have hd := hG.2.2.2.2.2.2.2.1
  unfold F_X4_periodOfBill lvs
  exact pob_loop hc hS hG hi (l.1 7) 6000 1 0 (by omega) (by omega) (by omega) (by omega) (by omega)
theorem lvs_in (hG : GD l) {k : Nat} (h : k ∈ lvs l) : 1 ≤ k ∧ k ≤ l.1 7 ∧ k ≤ l.1 4 ∧ k < 61 := by
  have := lvf_mem l _ _ _ h
  have hm := hG.2.2.2.2.1
  have hd := hG.2.2.2.2.2.2.2.1
  omega
theorem getD_mem {L : List Nat} {i : Nat} (h : i < L.length) : L.getD i 0 ∈ L := by
  rw [List.getD_eq_getElem?_getD, List.getElem?_eq_getElem h]
  exact List.getElem_mem h
theorem getD_out {L : List Nat} {i : Nat} (h : ¬ i < L.length) : L.getD i 0 = 0 := by
  rw [List.getD_eq_getElem?_getD, List.getElem?_eq_none (by omega)]
  rfl
theorem daysLate_e (hc : LC c) (hS : CL S c l) (hG : GD l) (d : Int32) : F_X4_daysLate c d S = some (if lvs l = [] then 0 else d - nI (pe (l.1 6) ((lvs l).getD 0 0)), S) := by
  unfold F_X4_daysLate J_X4_daysLate_22
  rw [lgk hc, show (0 : Int32) = nI 0 from rfl, pob_e hc hS hG (by omega), cl_some]
  cases hL : lvs l with
  | nil => rfl
  | cons k L =>
    have hk := lvs_in hG (k := k) (by rw [hL]; exact List.mem_cons_self)
    have e : (k :: L).getD 0 0 = k := rfl
    rw [e, if_neg (List.cons_ne_nil k L), if_pos (show ¬ nI k = nI 0 from nI_ne0 (by omega) (by omega)), lr13 hc, laI1 hc (by omega), hS.2.2.1 k (by omega)]
end CLL
