def ff (l : Ln) (q : Nat) : Nat := fi l q + fp l q
/-- the periods that will ask -/
def tcf (l : Ln) : Nat → Nat → List Nat
  | _, 0 => []
  | q, j + 1 => if 0 < ff l q then q :: tcf l (q + 1) j else tcf l (q + 1) j
def tc (l : Ln) : List Nat := tcf l 0 (fm l)
def fsm (l : Ln) : Nat → Nat → Nat
  | _, 0 => 0
  | q, j + 1 => fi l q + fsm l (q + 1) j
def gf (l : Ln) : Nat → Nat → Nat → Nat
  | _, 0, x => x
  | q, j + 1, x => gf l (q + 1) j (max x (ff l q))
def lp (l : Ln) : Nat → Nat → Nat → Nat
  | _, 0, x => x
  | q, j + 1, x => lp l (q + 1) j (if 0 < fp l q then q + 1 else x)
theorem tcf_mem (l : Ln) : ∀ (j q i : Nat), i ∈ tcf l q j → q ≤ i ∧ i < q + j
  | 0, _, _, h => absurd h (by unfold tcf; simp)
  | j + 1, q, i, h => by
    unfold tcf at h
    by_cases c : 0 < ff l q
    · rw [if_pos c] at h
      rcases List.mem_cons.mp h with e | e
      · omega
      · have := tcf_mem l j (q + 1) i e
        omega
    · rw [if_neg c] at h
      have := tcf_mem l j (q + 1) i h
      omega
theorem tcf_len (l : Ln) : ∀ (j q : Nat), (tcf l q j).length ≤ j
  | 0, _ => Nat.le_refl _
  | j + 1, q => by
    have := tcf_len l j (q + 1)
    unfold tcf
    split
    · rw [List.length_cons]; omega
    · omega
def po (l : Ln) : Option Nat → Nat
  | some y => l.1 7 + y + 1
  | none => 0
def no : Option Nat → Int32
  | some y => nI y
  | none => -2
section PL2
variable {S : St} {l : Ln}
theorem ff_le (hG : GD l) {q : Nat} (hq : q < fm l) : ff l q ≤ 150000000 := by
  have := fi_le hG hq
  have := fp_le l q
  have := fb_le hG q
  unfold ff
  omega
theorem flowC (hG : GD l) (hS : PC S l) {q : Nat} (hq : q < fm l) : F_X5_flow 182 (nI (l.1 7 + q + 1)) S = some (lN (ff l q), S) := by
  have hm := hG.2.2.2.2.1
  have hfm : fm l = l.1 4 - l.1 7 := rfl
  have g := hS.2.2 q hq
  unfold F_X5_flow
  rw [pr2, jL kd183 (by omega) (by omega), g.1, pr3, jL kd184 (by omega) (by omega), g.2.1, lN_add]
  rfl
theorem flowR (hG : GD l) (hS : RC S l) {q : Nat} (hq : q < fm l) : F_X8_flow 202 (nI q) S = some (lN (ff l q), S) := by
  have hm := hG.2.2.2.2.1
  have hfm : fm l = l.1 4 - l.1 7 := rfl
  have g := hS.2 q hq
  unfold F_X8_flow
  rw [mR6, jL kd208 (by omega) (by omega), g.2.1, mR7, jL kd209 (by omega) (by omega), g.2.2.1, lN_add]
  rfl
theorem billsC_loop (hG : GD l) (hS : PC S l) : ∀ (j n q x : Nat), j < n → q + j = fm l → L_X5_bills_9 n 182 (nI x) (nI (l.1 7 + q + 1)) S = some (nI (x + (tcf l q j).length), S)
  | _, 0, _, _, h, _ => absurd h (Nat.not_lt_zero _)
  | 0, n + 1, q, x, _, hq => by
    have hm := hG.2.2.2.2.1
    have hdn := hG.2.2.2.2.2.2.2.1
    have hfm : fm l = l.1 4 - l.1 7 := rfl
    show B_X5_bills_9 _ _ _ _ _ = _
    unfold B_X5_bills_9
    rw [pI0, hS.2.1, if_pos (by rw [nI_ltI (by omega) (by omega)]; omega)]
    rfl
  | j + 1, n + 1, q, x, hn, hq => by
    have hm := hG.2.2.2.2.1
    have hdn := hG.2.2.2.2.2.2.2.1
    have hfm : fm l = l.1 4 - l.1 7 := rfl
    have hf := ff_le hG (show q < fm l by omega)
    have eS : tcf l q (j + 1) = if 0 < ff l q then q :: tcf l (q + 1) j else tcf l (q + 1) j := rfl
    have ex : nI (l.1 7 + q + 1) + 1 = nI (l.1 7 + (q + 1) + 1) := by rw [nI_1]; congr 1
    show B_X5_bills_9 _ _ _ _ _ = _
    unfold B_X5_bills_9 J_X5_bills_30
    rw [pI0, hS.2.1, if_neg (by rw [nI_ltI (by omega) (by omega)]; omega), pgk, flowC hG hS (by omega), cl_some, ex, eS]
    by_cases c : 0 < ff l q
    · rw [if_neg (by rw [show (0 : Int64) = lN 0 from rfl, lN_le63 (by omega) (by omega)]; omega), if_pos c, nI_1, billsC_loop hG hS j n (q + 1) (x + 1) (by omega) (by omega), List.length_cons]
      congr 3
      omega
    · rw [if_pos (by rw [show (0 : Int64) = lN 0 from rfl, lN_le63 (by omega) (by omega)]; omega), if_neg c, billsC_loop hG hS j n (q + 1) x (by omega) (by omega)]
theorem billsC (hG : GD l) (hS : PC S l) : F_X5_bills 182 S = some (nI (tc l).length, S) := by
  have hm := hG.2.2.2.2.1
  have hfm : fm l = l.1 4 - l.1 7 := rfl
  unfold F_X5_bills
  rw [pI0, hS.1, bd_e, nI_1]
  have h := billsC_loop hG hS (fm l) 6000 0 0 (by omega) (by omega)
  rw [Nat.zero_add] at h
  exact h
theorem pobC_loop (hG : GD l) (hS : PC S l) {a : Nat} (ha : a < 2 ^ 31) : ∀ (j n q x : Nat), j < n → q + j = fm l → x ≤ a → L_X5_periodOfBill_9 n 182 (nI a) (nI x) (nI (l.1 7 + q + 1)) S = some (nI (po l (tcf l q j)[a - x]?), S)
  | _, 0, _, _, h, _, _ => absurd h (Nat.not_lt_zero _)
  | 0, n + 1, q, x, _, hq, hx => by
    have hm := hG.2.2.2.2.1
    have hdn := hG.2.2.2.2.2.2.2.1
    have hfm : fm l = l.1 4 - l.1 7 := rfl
    show B_X5_periodOfBill_9 _ _ _ _ _ _ = _
    unfold B_X5_periodOfBill_9
    rw [pI0, hS.2.1, if_pos (by rw [nI_ltI (by omega) (by omega)]; omega)]
    rfl
  | j + 1, n + 1, q, x, hn, hq, hx => by
    have hm := hG.2.2.2.2.1
    have hdn := hG.2.2.2.2.2.2.2.1
    have hfm : fm l = l.1 4 - l.1 7 := rfl
    have hf := ff_le hG (show q < fm l by omega)
    have eS : tcf l q (j + 1) = if 0 < ff l q then q :: tcf l (q + 1) j else tcf l (q + 1) j := rfl
    have ex : nI (l.1 7 + q + 1) + 1 = nI (l.1 7 + (q + 1) + 1) := by rw [nI_1]; congr 1
    show B_X5_periodOfBill_9 _ _ _ _ _ _ = _
    unfold B_X5_periodOfBill_9 J_X5_periodOfBill_37
    rw [pI0, hS.2.1, if_neg (by rw [nI_ltI (by omega) (by omega)]; omega), pgk, flowC hG hS (by omega), cl_some, ex, eS]
    by_cases c : 0 < ff l q
    · rw [if_neg (by rw [show (0 : Int64) = lN 0 from rfl, lN_le63 (by omega) (by omega)]; omega), if_pos c]
      by_cases e : x = a
      · subst e
        rw [if_neg (fun z => z rfl), Nat.sub_self]
        rfl
      · rw [if_pos (show ¬ nI x = nI a from fun z => e (by rw [nI_eq (by omega) (by omega)] at z; exact z)), nI_1, pobC_loop hG hS ha j n (q + 1) (x + 1) (by omega) (by omega) (by omega), show a - x = (a - (x + 1)) + 1 by omega]
        rfl
    · rw [if_pos (by rw [show (0 : Int64) = lN 0 from rfl, lN_le63 (by omega) (by omega)]; omega), if_neg c, pobC_loop hG hS ha j n (q + 1) x (by omega) (by omega) hx]
theorem pobC (hG : GD l) (hS : PC S l) {a : Nat} (ha : a < 2 ^ 31) : F_X5_periodOfBill 182 (nI a) S = some (nI (po l (tc l)[a]?), S) := by
  have hm := hG.2.2.2.2.1
  have hfm : fm l = l.1 4 - l.1 7 := rfl
  unfold F_X5_periodOfBill
  rw [pI0, hS.1, bd_e, nI_1]
  exact pobC_loop hG hS ha (fm l) 6000 0 0 (by omega) (by omega) (by omega)
theorem nthR_loop (hG : GD l) (hS : RC S l) {a : Nat} (ha : a < 2 ^ 31) : ∀ (j n q x : Nat), j < n → q + j = fm l → x ≤ a → L_X8_nth_4 n 202 (nI a) (nI x) (nI q) S = some (no (tcf l q j)[a - x]?, S)
  | _, 0, _, _, h, _, _ => absurd h (Nat.not_lt_zero _)
  | 0, n + 1, q, x, _, hq, hx => by
    have hm := hG.2.2.2.2.1
    have hfm : fm l = l.1 4 - l.1 7 := rfl
    show B_X8_nth_4 _ _ _ _ _ _ = _
    unfold B_X8_nth_4
    rw [mI, hS.1, if_pos (by rw [nI_leI (by omega) (by omega)]; omega)]
    rfl
  | j + 1, n + 1, q, x, hn, hq, hx => by
    have hm := hG.2.2.2.2.1
    have hfm : fm l = l.1 4 - l.1 7 := rfl
    have hf := ff_le hG (show q < fm l by omega)
    have eS : tcf l q (j + 1) = if 0 < ff l q then q :: tcf l (q + 1) j else tcf l (q + 1) j := rfl
    show B_X8_nth_4 _ _ _ _ _ _ = _
    unfold B_X8_nth_4 J_X8_nth_32
    rw [mI, hS.1, if_neg (by rw [nI_leI (by omega) (by omega)]; omega), mgk, flowR hG hS (by omega), cl_some, nI_1 q, eS]
    by_cases c : 0 < ff l q
    · rw [if_neg (by rw [show (0 : Int64) = lN 0 from rfl, lN_le63 (by omega) (by omega)]; omega), if_pos c]
      by_cases e : x = a
      · subst e
        rw [if_neg (fun z => z rfl), Nat.sub_self]
        rfl
      · rw [if_pos (show ¬ nI x = nI a from fun z => e (by rw [nI_eq (by omega) (by omega)] at z; exact z)), nI_1, nthR_loop hG hS ha j n (q + 1) (x + 1) (by omega) (by omega) (by omega), show a - x = (a - (x + 1)) + 1 by omega]
        rfl
    · rw [if_pos (by rw [show (0 : Int64) = lN 0 from rfl, lN_le63 (by omega) (by omega)]; omega), if_neg c, nthR_loop hG hS ha j n (q + 1) x (by omega) (by omega) hx]
theorem nthR (hG : GD l) (hS : RC S l) {a : Nat} (ha : a < 2 ^ 31) : F_X8_nth 202 (nI a) S = some (no (tc l)[a]?, S) := by
  have hm := hG.2.2.2.2.1
  have hfm : fm l = l.1 4 - l.1 7 := rfl
  unfold F_X8_nth
  exact nthR_loop hG hS ha (fm l) 6000 0 0 (by omega) (by omega) (by omega)
theorem totC_loop (hG : GD l) (hS : PC S l) : ∀ (j n q x : Nat), j < n → q + j = fm l → L_X5_totalInterest_9 n 182 (lN x) (nI (l.1 7 + q + 1)) S = some (lN (x + fsm l q j), S)
  | _, 0, _, _, h, _ => absurd h (Nat.not_lt_zero _)
  | 0, n + 1, q, x, _, hq => by
    have hm := hG.2.2.2.2.1
    have hdn := hG.2.2.2.2.2.2.2.1
    have hfm : fm l = l.1 4 - l.1 7 := rfl
    show B_X5_totalInterest_9 _ _ _ _ _ = _
    unfold B_X5_totalInterest_9
    rw [pI0, hS.2.1, if_pos (by rw [nI_ltI (by omega) (by omega)]; omega)]
    rfl
  | j + 1, n + 1, q, x, hn, hq => by
    have hm := hG.2.2.2.2.1
    have hdn := hG.2.2.2.2.2.2.2.1
    have hfm : fm l = l.1 4 - l.1 7 := rfl
    have ex : nI (l.1 7 + q + 1) + 1 = nI (l.1 7 + (q + 1) + 1) := by rw [nI_1]; congr 1
    show B_X5_totalInterest_9 _ _ _ _ _ = _
    unfold B_X5_totalInterest_9
    rw [pI0, hS.2.1, if_neg (by rw [nI_ltI (by omega) (by omega)]; omega), pr2, jL kd183 (by omega) (by omega), (hS.2.2 q (by omega)).1, lN_add, bd_e, ex, totC_loop hG hS j n (q + 1) _ (by omega) (by omega), Nat.add_assoc]
    rfl
theorem totC (hG : GD l) (hS : PC S l) : F_X5_totalInterest 182 S = some (lN (fsm l 0 (fm l)), S) := by
  have hm := hG.2.2.2.2.1
  have hfm : fm l = l.1 4 - l.1 7 := rfl
  unfold F_X5_totalInterest
  rw [pI0, hS.1, bd_e, nI_1]
  have h := totC_loop hG hS (fm l) 6000 0 0 (by omega) (by omega)
  rw [Nat.zero_add] at h
  exact h
theorem totR_loop (hG : GD l) (hS : RC S l) : ∀ (j n q x : Nat), j < n → q + j = fm l → L_X8_sum_131 n 202 (lN x) (nI q) S = some (lN (x + fsm l q j), S)
  | _, 0, _, _, h, _ => absurd h (Nat.not_lt_zero _)
  | 0, n + 1, q, x, _, hq => by
    have hm := hG.2.2.2.2.1
    have hfm : fm l = l.1 4 - l.1 7 := rfl
    show B_X8_sum_131 _ _ _ _ _ = _
    unfold B_X8_sum_131
    rw [mI, hS.1, if_pos (by rw [nI_leI (by omega) (by omega)]; omega)]
    rfl
  | j + 1, n + 1, q, x, hn, hq => by
    have hm := hG.2.2.2.2.1
    have hfm : fm l = l.1 4 - l.1 7 := rfl
    show B_X8_sum_131 _ _ _ _ _ = _
    unfold B_X8_sum_131
    rw [mI, hS.1, if_neg (by rw [nI_leI (by omega) (by omega)]; omega), mR6, jL kd208 (by omega) (by omega), (hS.2 q (by omega)).2.1, lN_add, bd_e, nI_1, totR_loop hG hS j n (q + 1) _ (by omega) (by omega), Nat.add_assoc]
    rfl
theorem lpC_loop (hG : GD l) (hS : PC S l) : ∀ (j n q x : Nat), j < n → q + j = fm l → L_X5_lastWithPrincipal_9 n 182 (nI x) (nI (l.1 7 + q + 1)) S = some (nI (lp l q j x), S)
  | _, 0, _, _, h, _ => absurd h (Nat.not_lt_zero _)
  | 0, n + 1, q, x, _, hq => by
    have hm := hG.2.2.2.2.1
    have hdn := hG.2.2.2.2.2.2.2.1
    have hfm : fm l = l.1 4 - l.1 7 := rfl
    show B_X5_lastWithPrincipal_9 _ _ _ _ _ = _
    unfold B_X5_lastWithPrincipal_9
    rw [pI0, hS.2.1, if_pos (by rw [nI_ltI (by omega) (by omega)]; omega)]
    rfl
  | j + 1, n + 1, q, x, hn, hq => by
    have hm := hG.2.2.2.2.1
    have hdn := hG.2.2.2.2.2.2.2.1
    have hfm : fm l = l.1 4 - l.1 7 := rfl
    have hf := fp_le l q
    have hf2 := fb_le hG q
    have ex : nI (l.1 7 + q + 1) + 1 = nI (l.1 7 + (q + 1) + 1) := by rw [nI_1]; congr 1
    have eS : lp l q (j + 1) x = lp l (q + 1) j (if 0 < fp l q then q + 1 else x) := rfl
    show B_X5_lastWithPrincipal_9 _ _ _ _ _ = _
    unfold B_X5_lastWithPrincipal_9 J_X5_lastWithPrincipal_35
    rw [pI0, hS.2.1, if_neg (by rw [nI_ltI (by omega) (by omega)]; omega), pr3, jL kd184 (by omega) (by omega), (hS.2.2 q (by omega)).2.1, ex, eS]
    by_cases c : 0 < fp l q
    · rw [if_neg (by rw [show (0 : Int64) = lN 0 from rfl, lN_le63 (by omega) (by omega)]; omega), if_pos c, pI0, hS.1, pk_sub (by omega), bd_e, show l.1 7 + q + 1 - l.1 7 = q + 1 by omega, lpC_loop hG hS j n (q + 1) (q + 1) (by omega) (by omega)]
    · rw [if_pos (by rw [show (0 : Int64) = lN 0 from rfl, lN_le63 (by omega) (by omega)]; omega), if_neg c, lpC_loop hG hS j n (q + 1) x (by omega) (by omega)]
theorem lpC (hG : GD l) (hS : PC S l) : F_X5_lastWithPrincipal 182 S = some (nI (lp l 0 (fm l) 0), S) := by
  have hm := hG.2.2.2.2.1
  have hfm : fm l = l.1 4 - l.1 7 := rfl
  unfold F_X5_lastWithPrincipal
  rw [pI0, hS.1, bd_e, nI_1]
  exact lpC_loop hG hS (fm l) 6000 0 0 (by omega) (by omega)
theorem lpR_loop (hG : GD l) (hS : RC S l) : ∀ (j n q x : Nat), j < n → q + j = fm l → L_X8_lastPrincipal_9 n 202 (nI x) (nI q) S = some (nI (lp l q j x), S)
  | _, 0, _, _, h, _ => absurd h (Nat.not_lt_zero _)
  | 0, n + 1, q, x, _, hq => by
    have hm := hG.2.2.2.2.1
    have hfm : fm l = l.1 4 - l.1 7 := rfl
    show B_X8_lastPrincipal_9 _ _ _ _ _ = _
    unfold B_X8_lastPrincipal_9
    rw [mI, hS.1, if_pos (by rw [nI_leI (by omega) (by omega)]; omega)]
    rfl
  | j + 1, n + 1, q, x, hn, hq => by
    have hm := hG.2.2.2.2.1
    have hfm : fm l = l.1 4 - l.1 7 := rfl
    have hf := fp_le l q
    have hf2 := fb_le hG q
    have eS : lp l q (j + 1) x = lp l (q + 1) j (if 0 < fp l q then q + 1 else x) := rfl
    show B_X8_lastPrincipal_9 _ _ _ _ _ = _
    unfold B_X8_lastPrincipal_9 J_X8_lastPrincipal_35
    rw [mI, hS.1, if_neg (by rw [nI_leI (by omega) (by omega)]; omega), mR7, jL kd209 (by omega) (by omega), (hS.2 q (by omega)).2.2.1, nI_1, eS]
    by_cases c : 0 < fp l q
    · rw [if_neg (by rw [show (0 : Int64) = lN 0 from rfl, lN_le63 (by omega) (by omega)]; omega), if_pos c, lpR_loop hG hS j n (q + 1) (q + 1) (by omega) (by omega)]
    · rw [if_pos (by rw [show (0 : Int64) = lN 0 from rfl, lN_le63 (by omega) (by omega)]; omega), if_neg c, lpR_loop hG hS j n (q + 1) x (by omega) (by omega)]
end PL2
