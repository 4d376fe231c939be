/-! A LOAN'S CELLS: c the object, c + 1 ends, c + 2 parts, c + 3 feeDue, c + 4 interestDue, c + 5 principalDue, c + 6 hadFee -/
def LC (c : Nat) : Prop := kd0 c = (2, 0) ∧ kd0 (c + 1) = (10, 61) ∧ kd0 (c + 2) = (11, 61) ∧ kd0 (c + 3) = (11, 61) ∧ kd0 (c + 4) = (11, 61) ∧ kd0 (c + 5) = (11, 61) ∧ kd0 (c + 6) = (12, 61)
def LB (b : Nat) : Prop := b = 1 ∨ b = 59 ∨ b = 117
def LCb (c : Nat) : Bool := decide (kd0 c = (2, 0)) && (decide (kd0 (c + 1) = (10, 61)) && (decide (kd0 (c + 2) = (11, 61)) && (decide (kd0 (c + 3) = (11, 61)) && (decide (kd0 (c + 4) = (11, 61)) && (decide (kd0 (c + 5) = (11, 61)) && decide (kd0 (c + 6) = (12, 61)))))))
theorem LCb_e {c : Nat} (h : LCb c = true) : LC c := by
  unfold LCb at h
  simp only [Bool.and_eq_true, decide_eq_true_eq] at h
  exact h
theorem LC_chk : all_lt 8 (fun i => LCb (1 + 2 + 7 * i) && (LCb (59 + 2 + 7 * i) && LCb (117 + 2 + 7 * i))) = true := by decide +kernel
theorem LC_book {b i : Nat} (hb : LB b) (hi : i < 8) : LC (b + 2 + 7 * i) := by
  have h := all_lt_e LC_chk hi
  simp only [Bool.and_eq_true] at h
  rcases hb with rfl | rfl | rfl
  · exact LCb_e h.1
  · exact LCb_e h.2.1
  · exact LCb_e h.2.2
theorem LC_175 : LC 175 := LCb_e (by decide +kernel)
section LCS
variable {β : Type} {c : Nat}
theorem lI (h : LC c) (k : Nat) (S : St) (K : Int32 → Option β) : gI 2 k c S K = K (S.1 c k) := by
  unfold gI
  rw [h.1]
  rfl
theorem lL (h : LC c) (k : Nat) (S : St) (K : Int64 → Option β) : gL 2 k c S K = K (S.2 c k) := by
  unfold gL
  rw [h.1]
  rfl
theorem lpI (h : LC c) (k : Nat) (v : Int32) (S : St) (K : St → Option β) : pI 2 k c v S K = K (setI S c k v) := by
  unfold pI
  rw [h.1]
  rfl
theorem lpL (h : LC c) (k : Nat) (v : Int64) (S : St) (K : St → Option β) : pL 2 k c v S K = K (setL S c k v) := by
  unfold pL
  rw [h.1]
  rfl
theorem lgk (h : LC c) (x : Option β) : gk c 2 x = x := by
  unfold gk
  rw [h.1]
  rfl
theorem lr13 (h : LC c) (K : Nat → Option β) : gR 2 13 c K = K (c + 1) := by
  unfold gR R0
  rw [h.1]
  rfl
theorem lr14 (h : LC c) (K : Nat → Option β) : gR 2 14 c K = K (c + 2) := by
  unfold gR R0
  rw [h.1]
  rfl
theorem lr15 (h : LC c) (K : Nat → Option β) : gR 2 15 c K = K (c + 3) := by
  unfold gR R0
  rw [h.1]
  rfl
theorem lr16 (h : LC c) (K : Nat → Option β) : gR 2 16 c K = K (c + 4) := by
  unfold gR R0
  rw [h.1]
  rfl
theorem lr17 (h : LC c) (K : Nat → Option β) : gR 2 17 c K = K (c + 5) := by
  unfold gR R0
  rw [h.1]
  rfl
theorem lr18 (h : LC c) (K : Nat → Option β) : gR 2 18 c K = K (c + 6) := by
  unfold gR R0
  rw [h.1]
  rfl
theorem laJ2 (h : LC c) {k : Nat} (hk : k < 61) (S : St) (K : Int64 → Option β) : aJ (c + 2) (nI k) S K = K (S.2 (c + 2) k) := by
  unfold aJ
  rw [h.2.2.1, if_pos ⟨rfl, inb_nI hk (by omega)⟩, clamp_nI (by omega)]
theorem lsJ2 (h : LC c) {k : Nat} (hk : k < 61) (v : Int64) (S : St) (K : St → Option β) : sJ (c + 2) (nI k) v S K = K (setL S (c + 2) k v) := by
  unfold sJ
  rw [h.2.2.1, if_pos ⟨rfl, inb_nI hk (by omega)⟩, clamp_nI (by omega)]
theorem laJ3 (h : LC c) {k : Nat} (hk : k < 61) (S : St) (K : Int64 → Option β) : aJ (c + 3) (nI k) S K = K (S.2 (c + 3) k) := by
  unfold aJ
  rw [h.2.2.2.1, if_pos ⟨rfl, inb_nI hk (by omega)⟩, clamp_nI (by omega)]
theorem lsJ3 (h : LC c) {k : Nat} (hk : k < 61) (v : Int64) (S : St) (K : St → Option β) : sJ (c + 3) (nI k) v S K = K (setL S (c + 3) k v) := by
  unfold sJ
  rw [h.2.2.2.1, if_pos ⟨rfl, inb_nI hk (by omega)⟩, clamp_nI (by omega)]
theorem laJ4 (h : LC c) {k : Nat} (hk : k < 61) (S : St) (K : Int64 → Option β) : aJ (c + 4) (nI k) S K = K (S.2 (c + 4) k) := by
  unfold aJ
  rw [h.2.2.2.2.1, if_pos ⟨rfl, inb_nI hk (by omega)⟩, clamp_nI (by omega)]
theorem lsJ4 (h : LC c) {k : Nat} (hk : k < 61) (v : Int64) (S : St) (K : St → Option β) : sJ (c + 4) (nI k) v S K = K (setL S (c + 4) k v) := by
  unfold sJ
  rw [h.2.2.2.2.1, if_pos ⟨rfl, inb_nI hk (by omega)⟩, clamp_nI (by omega)]
theorem laJ5 (h : LC c) {k : Nat} (hk : k < 61) (S : St) (K : Int64 → Option β) : aJ (c + 5) (nI k) S K = K (S.2 (c + 5) k) := by
  unfold aJ
  rw [h.2.2.2.2.2.1, if_pos ⟨rfl, inb_nI hk (by omega)⟩, clamp_nI (by omega)]
theorem lsJ5 (h : LC c) {k : Nat} (hk : k < 61) (v : Int64) (S : St) (K : St → Option β) : sJ (c + 5) (nI k) v S K = K (setL S (c + 5) k v) := by
  unfold sJ
  rw [h.2.2.2.2.2.1, if_pos ⟨rfl, inb_nI hk (by omega)⟩, clamp_nI (by omega)]
theorem laI1 (h : LC c) {k : Nat} (hk : k < 61) (S : St) (K : Int32 → Option β) : aI (c + 1) (nI k) S K = K (S.1 (c + 1) k) := by
  unfold aI
  rw [h.2.1, if_pos ⟨rfl, inb_nI hk (by omega)⟩, clamp_nI (by omega)]
theorem lsI1 (h : LC c) {k : Nat} (hk : k < 61) (v : Int32) (S : St) (K : St → Option β) : sI (c + 1) (nI k) v S K = K (setI S (c + 1) k v) := by
  unfold sI
  rw [h.2.1, if_pos ⟨rfl, inb_nI hk (by omega)⟩, clamp_nI (by omega)]
theorem laZ6 (h : LC c) {k : Nat} (hk : k < 61) (S : St) (K : Int32 → Option β) : aZ (c + 6) (nI k) S K = K (S.1 (c + 6) k) := by
  unfold aZ
  rw [h.2.2.2.2.2.2, if_pos ⟨rfl, inb_nI hk (by omega)⟩, clamp_nI (by omega)]
theorem lsZ6 (h : LC c) {k : Nat} (hk : k < 61) (v : Int32) (S : St) (K : St → Option β) : sZ (c + 6) (nI k) v S K = K (setI S (c + 6) k (vp_nar .boolean v)) := by
  unfold sZ
  rw [h.2.2.2.2.2.2, if_pos ⟨rfl, inb_nI hk (by omega)⟩, clamp_nI (by omega)]
end LCS
/-! what a store changes -/
theorem sI1 (S : St) (c k : Nat) (v : Int32) (a j : Nat) : (setI S c k v).1 a j = if a = c ∧ j = k then v else S.1 a j := by
  unfold setI
  by_cases h1 : a = c
  · by_cases h2 : j = k
    · simp [h1, h2]
    · simp [h1, h2]
  · simp [h1]
theorem sI2 (S : St) (c k : Nat) (v : Int32) : (setI S c k v).2 = S.2 := rfl
theorem sL1 (S : St) (c k : Nat) (v : Int64) : (setL S c k v).1 = S.1 := rfl
theorem sL2 (S : St) (c k : Nat) (v : Int64) (a j : Nat) : (setL S c k v).2 a j = if a = c ∧ j = k then v else S.2 a j := by
  unfold setL
  by_cases h1 : a = c
  · by_cases h2 : j = k
    · simp [h1, h2]
    · simp [h1, h2]
  · simp [h1]
/-! THE MATHEMATICAL LOAN: numbers (0 LENT 1 RATE 2 COUNT 3 KIND 4 PERIODS 5 MODE 6 START 7 DONE 8 BALANCE 9 LEVEL), what was got (0 FEES 1 INTEREST 2 PRINCIPAL 3 LOST), a bill for each period (interest, principal, fee, whether it had a fee) -/
abbrev Ln : Type := (Nat → Nat) × (Nat → Int64) × (Nat → Nat × Nat × Nat × Nat)
def up {α : Type} (f : Nat → α) (k : Nat) (v : α) : Nat → α := fun j => if j = k then v else f j
theorem up_s {α : Type} (f : Nat → α) (k : Nat) (v : α) : up f k v k = v := if_pos rfl
theorem up_n {α : Type} (f : Nat → α) {k j : Nat} (v : α) (h : j ≠ k) : up f k v j = f j := if_neg h
/-- interest of a balance b in period k -/
def ik (l : Ln) (k b : Nat) : Nat := ic b (l.1 1) (l.1 2) (pt (l.1 2) (pe (l.1 6) (k - 1)) (pe (l.1 6) k))
/-- principal of period k of a balance b with interest i -/
def pk (l : Ln) (k b i : Nat) : Nat := if l.1 4 - k + 1 ≤ 1 then b else if l.1 3 = 0 then min b (l.1 9 - i) else if l.1 3 = 1 then b / (l.1 4 - k + 1) else 0
def ask (l : Ln) (k : Nat) : Nat := (l.2.2 k).2.2.1 + (l.2.2 k).1 + (l.2.2 k).2.1
def GD (l : Ln) : Prop := (1 ≤ l.1 0 ∧ l.1 0 ≤ 100000000) ∧ l.1 1 ≤ 5000 ∧ l.1 2 ≤ 3 ∧ l.1 3 ≤ 2 ∧ (1 ≤ l.1 4 ∧ l.1 4 ≤ 60) ∧ l.1 5 ≤ 1 ∧ (l.1 6 ≤ 36524 ∧ mo (l.1 6) + l.1 4 < 1200) ∧ l.1 7 ≤ l.1 4 ∧ l.1 8 ≤ 100000000 ∧ l.1 9 ≤ 200000000 ∧ (∀ k, (l.2.2 k).1 ≤ 100000000 ∧ (l.2.2 k).2.1 ≤ 100000000 ∧ (l.2.2 k).2.2.1 ≤ 10000 ∧ (l.2.2 k).2.2.2 ≤ 1) ∧ (∀ k, (k = 0 ∨ l.1 7 < k) → l.2.2 k = (0, 0, 0, 0))
def GS (f : Nat → Nat) : Prop := (1 ≤ f 0 ∧ f 0 ≤ 100000000) ∧ f 1 ≤ 5000 ∧ f 2 ≤ 3 ∧ f 3 ≤ 2 ∧ (1 ≤ f 4 ∧ f 4 ≤ 60) ∧ f 5 ≤ 1 ∧ (f 6 ≤ 36524 ∧ mo (f 6) + f 4 < 1200) ∧ f 7 ≤ f 4 ∧ f 8 ≤ 100000000 ∧ f 9 ≤ 200000000 ∧ True
theorem GD.gs {l : Ln} (h : GD l) : GS l.1 := ⟨h.1, h.2.1, h.2.2.1, h.2.2.2.1, h.2.2.2.2.1, h.2.2.2.2.2.1, h.2.2.2.2.2.2.1, h.2.2.2.2.2.2.2.1, h.2.2.2.2.2.2.2.2.1, h.2.2.2.2.2.2.2.2.2.1, trivial⟩
/-- the class's cells at c hold the loan l -/
def CL (S : St) (c : Nat) (l : Ln) : Prop := (S.2 c 0 = lN (l.1 0) ∧ S.2 c 1 = lN (l.1 8) ∧ S.2 c 2 = lN (l.1 9) ∧ S.2 c 3 = l.2.1 0 ∧ S.2 c 4 = l.2.1 1 ∧ S.2 c 5 = l.2.1 2 ∧ S.2 c 6 = l.2.1 3) ∧ (S.1 c 7 = nI (l.1 1) ∧ S.1 c 8 = nI (l.1 2) ∧ S.1 c 9 = nI (l.1 3) ∧ S.1 c 10 = nI (l.1 5) ∧ S.1 c 11 = nI (l.1 4) ∧ S.1 c 12 = nI (l.1 7)) ∧ (∀ k, k ≤ l.1 4 → S.1 (c + 1) k = nI (pe (l.1 6) k)) ∧ (∀ k, 1 ≤ k → k ≤ l.1 4 → S.2 (c + 2) k = lN (pt (l.1 2) (pe (l.1 6) (k - 1)) (pe (l.1 6) k))) ∧ (∀ k, k < 61 → S.2 (c + 3) k = lN (l.2.2 k).2.2.1 ∧ S.2 (c + 4) k = lN (l.2.2 k).1 ∧ S.2 (c + 5) k = lN (l.2.2 k).2.1 ∧ S.1 (c + 6) k = nI (l.2.2 k).2.2.2)
/-! ends of periods rise -/
theorem pe_in (s k : Nat) : fo (mo s + k) ≤ pe s k ∧ pe s k < fo (mo s + k + 1) := by
  have h := fo_lt (mo s + k)
  unfold pe
  have : ln (mo s + k) = fo (mo s + k + 1) - fo (mo s + k) := rfl
  omega
theorem pe_0 (s : Nat) : pe s 0 = s := by
  have h := mo_in s
  have h2 := fo_lt (mo s)
  unfold pe
  rw [Nat.add_zero]
  have : ln (mo s) = fo (mo s + 1) - fo (mo s) := rfl
  omega
theorem pe_lt (s k : Nat) : pe s k < pe s (k + 1) := Nat.lt_of_lt_of_le (pe_in s k).2 (pe_in s (k + 1)).1
theorem pe_mono {s a b : Nat} (h : a < b) : pe s a < pe s b := by
  induction b with
  | zero => omega
  | succ b ih =>
    rcases Nat.lt_or_ge a b with h1 | h1
    · exact Nat.lt_trans (ih h1) (pe_lt s b)
    · have : a = b := by omega
      subst this
      exact pe_lt s a
theorem fo_1200 : fo 1200 = 36525 := by decide +kernel
theorem pe_le {s k : Nat} (h : mo s + k < 1200) : pe s k ≤ 36524 := by
  have h1 := (pe_in s k).2
  have h2 := fo_mono (show mo s + k + 1 ≤ 1200 by omega)
  rw [fo_1200] at h2
  omega
/-- a period has 59 days at most -/
theorem pe_gap (s k : Nat) (h : 1 ≤ k) : pe s k ≤ pe s (k - 1) + 62 := by
  have h1 := (pe_in s (k - 1)).1
  have h2 := (pe_in s k).2
  have h3 := fo_lt (mo s + (k - 1))
  have h4 := fo_lt (mo s + k)
  have e : mo s + (k - 1) + 1 = mo s + k := by omega
  rw [e] at h3
  have e1 : ln (mo s + (k - 1)) = fo (mo s + k) - fo (mo s + (k - 1)) := by unfold ln; rw [e]
  have e2 : ln (mo s + k) = fo (mo s + k + 1) - fo (mo s + k) := rfl
  omega
theorem th_gap {a b : Nat} (h : a ≤ b) (hb : b ≤ a + 62) : th b ≤ th a + 150 := by
  have h1 := mo_in a
  have h2 := mo_in b
  have f1 := fo_lt (mo a + 1)
  have f2 := fo_lt (mo a + 2)
  have f3 := fo_lt (mo a + 3)
  have l1 : ln (mo a + 1) = fo (mo a + 2) - fo (mo a + 1) := rfl
  have l2 : ln (mo a + 2) = fo (mo a + 3) - fo (mo a + 2) := rfl
  have l3 : ln (mo a + 3) = fo (mo a + 4) - fo (mo a + 3) := rfl
  have hm : mo b ≤ mo a + 3 := by
    apply Classical.byContradiction
    intro q
    have := fo_mono (show mo a + 4 ≤ mo b by omega)
    omega
  unfold th
  omega
theorem pt_gap {cn a b : Nat} (h : a ≤ b) (hb : b ≤ a + 62) : pt cn a b ≤ 25000 ∧ (cn < 3 → pt cn a b ≤ 150) := by
  have h1 := th_gap h hb
  have h2 := ly_mono h
  unfold pt
  split
  · omega
  · split
    · omega
    · omega
theorem ic_le {b r cn p : Nat} (hb : b ≤ 100000000) (hr : r ≤ 5000) (hp : p ≤ 25000) (hp2 : cn < 3 → p ≤ 150) : b * r * p < 2 ^ 55 ∧ ic b r cn p ≤ 50000000 := by
  have h1 := mul_le3 hb hr hp
  refine ⟨by omega, ?_⟩
  unfold ic py
  by_cases h3 : cn < 3
  · have h2 := mul_le3 hb hr (hp2 h3)
    split
    · omega
    · split <;> omega
  · rw [if_neg (by omega), if_neg (by omega)]
    omega
theorem ik_le {l : Ln} (hG : GS l.1) {k b : Nat} (hk : 1 ≤ k) (hk2 : k ≤ l.1 4) (hb : b ≤ 100000000) : ik l k b ≤ 50000000 ∧ b * l.1 1 * pt (l.1 2) (pe (l.1 6) (k - 1)) (pe (l.1 6) k) < 2 ^ 55 ∧ pe (l.1 6) (k - 1) ≤ pe (l.1 6) k ∧ pe (l.1 6) k ≤ 36524 := by
  have h1 := pe_gap (l.1 6) k hk
  have h2 : pe (l.1 6) (k - 1) < pe (l.1 6) k := pe_mono (by omega)
  have h3 := pt_gap (cn := l.1 2) (Nat.le_of_lt h2) h1
  have h4 := ic_le (cn := l.1 2) hb hG.2.1 h3.1 h3.2
  exact ⟨h4.2, h4.1, Nat.le_of_lt h2, pe_le (by have := hG.2.2.2.2.2.2.1; omega)⟩
