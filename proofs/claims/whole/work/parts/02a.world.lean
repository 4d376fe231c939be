/-! THE WORLD BEHIND THE CONSTRUCTORS: 226 cells at addresses ad 0 .. ad 225, of fixed kinds; references never change; what changes is two functions (ints, longs) of cell and place. -/
abbrev cls7 : List vw_C := [(RX1, TX1, 5), (RX3, TX3, 5), (RX4, TX4, 19), (RX5, TX5, 5), (RX6, TX6, 5), (RX7, TX7, 8), (RX8, TX8, 22)]
abbrev St : Type := (Nat → Nat → Int32) × (Nat → Nat → Int64)
/-- kinds of cells: below 7 an object of that class of cls7; 10 int[], 11 long[], 12 boolean[], 13 Holder[], 14 Loan[], 15 long[][]; with lengths -/
def kd_loan : List (Nat × Nat) := [(2, 0), (10, 61), (11, 61), (11, 61), (11, 61), (11, 61), (12, 61)]
def kd_loans : Nat → List (Nat × Nat)
  | 0 => []
  | n + 1 => kd_loan ++ kd_loans n
def kd_holders : Nat → List (Nat × Nat)
  | 0 => []
  | n + 1 => [(1, 0), (11, 60)] ++ kd_holders n
def kd_book : List (Nat × Nat) := [(0, 0), (14, 8)] ++ kd_loans 8
def kd_model : List (Nat × Nat) := [(6, 0), (11, 2524), (11, 2524), (11, 2524), (11, 2524), (10, 60), (11, 60), (11, 60), (11, 60), (11, 6), (10, 120), (10, 6), (10, 6), (11, 6), (11, 6), (10, 6), (15, 6), (11, 60), (11, 60), (11, 60), (11, 60), (11, 60), (11, 60), (10, 6)]
def kdL : List (Nat × Nat) := [(5, 0)] ++ kd_book ++ kd_book ++ kd_book ++ kd_loan ++ [(3, 0), (11, 61), (11, 61), (11, 61)] ++ [(4, 0), (10, 120), (10, 6)] ++ [(13, 6)] ++ kd_holders 6 ++ kd_model
def kd0 (c : Nat) : Nat × Nat := kdL.getD c (99, 0)
theorem kdL_len : kdL.length = 226 := by decide +kernel
def rf_book : List (Option Nat) := [some 1, some 59, some 117, none, some 175, some 182, some 186, some 189]
def rf_model : List (Option Nat) := [some 203, some 204, some 205, some 206, none, some 207, some 208, some 209, some 210, none, some 211, some 212, none, some 213, some 214, some 215, some 216, some 217, some 218, none, none, some 225]
/-- the references that stand in a cell -/
def R0 (c k : Nat) : Option Nat :=
  if (kd0 c).1 = 0 then (if k = 4 then some (c + 1) else none)
  else if (kd0 c).1 = 1 then (if k = 4 then some (c + 1) else none)
  else if (kd0 c).1 = 2 then (if 13 ≤ k ∧ k < 19 then some (c + k - 12) else none)
  else if (kd0 c).1 = 3 then (if 2 ≤ k ∧ k < 5 then some (c + k - 1) else none)
  else if (kd0 c).1 = 4 then (if 3 ≤ k ∧ k < 5 then some (c + k - 2) else none)
  else if (kd0 c).1 = 5 then rf_book.getD k none
  else if (kd0 c).1 = 6 then rf_model.getD k none
  else if (kd0 c).1 = 13 then (if k < 6 then some (c + 1 + 2 * k) else none)
  else if (kd0 c).1 = 14 then (if k < 8 then some (c + 1 + 7 * k) else none)
  else if (kd0 c).1 = 15 then (if k < 6 then some (c + 1 + k) else none)
  else none
/-- the fields of a class: 0 int (boolean), 1 long, 2 a reference -/
def fty (ci : Nat) : List Nat := [[0, 0, 0, 0, 2], [0, 0, 0, 1, 2], [1, 1, 1, 1, 1, 1, 1, 0, 0, 0, 0, 0, 0, 2, 2, 2, 2, 2, 2], [0, 0, 2, 2, 2], [0, 0, 0, 2, 2], [2, 2, 2, 0, 2, 2, 2, 2], [2, 2, 2, 2, 0, 2, 2, 2, 2, 0, 2, 2, 0, 2, 2, 2, 2, 2, 2, 0, 0, 2]].getD ci []
/-- addresses, class numbers and slots of cls7, array classes (0 int[] .. 5 long[][]) -/
abbrev ZT : Type := (Nat → Nat) × va_G × (Nat → ClassId)
def fv (ad : Nat → Nat) (S : St) (c k t : Nat) : Value := if t = 0 then .int (S.1 c k) else if t = 1 then .long (S.2 c k) else va_rf ((R0 c k).map ad)
def flds (ad : Nat → Nat) (S : St) (c : Nat) (ts : List Nat) : List Value := ts.mapIdx (fun k t => fv ad S c k t)
def ent (Z : ZT) (S : St) (c : Nat) : va_E :=
  if (kd0 c).1 < 7 then .inr ((kd0 c).1, flds Z.1 S c (fty (kd0 c).1))
  else if (kd0 c).1 = 10 then .inl (Z.2.2 0, (kd0 c).2, .inl (S.1 c))
  else if (kd0 c).1 = 11 then .inl (Z.2.2 1, (kd0 c).2, .inr (.inl (S.2 c)))
  else if (kd0 c).1 = 12 then .inl (Z.2.2 2, (kd0 c).2, .inl (S.1 c))
  else .inl (Z.2.2 ((kd0 c).1 - 10), (kd0 c).2, .inr (.inr (.inr (.inr (fun i => (R0 c i).map Z.1)))))
def wsO (Z : ZT) (S : St) : va_W := (List.range 226).map (fun c => (Z.1 c, ent Z S c))
def tyz (Z : ZT) : List (ClassId × FieldType) := [(Z.2.2 0, .int), (Z.2.2 1, .long), (Z.2.2 2, .boolean), (Z.2.2 3, .object "LoanBook$Holder"), (Z.2.2 4, .object "LoanBook$Loan"), (Z.2.2 5, .array .long)]
def zA (Z : ZT) : Nat → Prop := fun q => ∃ c, c < 226 ∧ q = Z.1 c
def Rep (Z : ZT) (S : St) (H : Heap) : Prop := va_P Z.2.1 cls7 (wsO Z S) H
def setI (S : St) (c k : Nat) (v : Int32) : St := (fun a j => if a = c then (if j = k then v else S.1 a j) else S.1 a j, S.2)
def setL (S : St) (c k : Nat) (v : Int64) : St := (S.1, fun a j => if a = c then (if j = k then v else S.2 a j) else S.2 a j)
/-- a whole array anew -/
def rowI (S : St) (c : Nat) (f : Nat → Int32) : St := (fun a j => if a = c then f j else S.1 a j, S.2)
def rowL (S : St) (c : Nat) (f : Nat → Int64) : St := (S.1, fun a j => if a = c then f j else S.2 a j)
/-- days ahead of a month in a common year -/
def daL : List Int32 := [0, 31, 59, 90, 120, 151, 181, 212, 243, 273, 304, 334]
def daT (j : Nat) : Int32 := daL.getD j 0
/-- what of the start stays as it is: tables, the static row, addresses apart -/
def KS (Z : ZT) (U : State) : Prop := va_K Z.2.1 cls7 (tyz Z) U ∧ va_Z "LoanBook$Dates" "DAYS_AHEAD" "[I" (.ref (Z.1 226)) (zA Z) U U.heap ∧ va_T .int (Z.1 226) 12 (fun j => .int (daT j)) (zA Z) U U.heap ∧ (∀ i j, i < 226 → j < 226 → Z.1 i = Z.1 j → i = j) ∧ va_Nw (.methodLinkNest "LoanBook$Book" 37 ⟨"LoanBook", "isRate", "(I)Z"⟩ "LoanBook") U ∧ va_Nw (.methodLinkNest "LoanBook$Book" 41 ⟨"LoanBook", "isWithin", "(III)Z"⟩ "LoanBook") U
theorem wsO_at (Z : ZT) (S : St) {c : Nat} (h : c < 226) : (wsO Z S)[c]? = some (Z.1 c, ent Z S c) := by
  simp [wsO, h]
theorem kd_lt {c k n : Nat} (h : kd0 c = (k, n)) (hk : k ≠ 99) : c < 226 := by
  by_cases hc : c < 226
  · exact hc
  · exfalso
    have : kd0 c = (99, 0) := by
      unfold kd0
      rw [List.getD_eq_getElem?_getD, List.getElem?_eq_none (by rw [kdL_len]; omega)]
      rfl
    rw [this] at h
    exact hk (congrArg Prod.fst h).symm
theorem map_range_set {α : Type} (n : Nat) (f g : Nat → α) (c : Nat) (x : α) (hc : g c = x) (ho : ∀ j, j ≠ c → g j = f j) : ((List.range n).map f).set c x = (List.range n).map g := by
  apply List.ext_getElem?
  intro i
  by_cases hi : i < n
  · by_cases he : i = c
    · subst he
      rw [List.getElem?_set_self (by simpa using hi)]
      simp [hi, hc]
    · rw [List.getElem?_set_ne (by omega)]
      simp [hi, ho i he]
  · rw [List.getElem?_eq_none (by simp; omega), List.getElem?_eq_none (by simp; omega)]
theorem zD {Z : ZT} {U : State} (h : KS Z U) (S : St) : va_D (zA Z) (wsO Z S) := by
  refine ⟨fun i j x y hi hj hxy => ?_, fun k q hq => ?_⟩
  · have h1 : i < 226 := by have := (List.getElem?_eq_some_iff.mp hi).1; simpa [wsO] using this
    have h2 : j < 226 := by have := (List.getElem?_eq_some_iff.mp hj).1; simpa [wsO] using this
    rw [wsO_at Z S h1] at hi
    rw [wsO_at Z S h2] at hj
    cases hi
    cases hj
    exact h.2.2.2.1 i j h1 h2 hxy
  · have h1 : k < 226 := by have := (List.getElem?_eq_some_iff.mp hq).1; simpa [wsO] using this
    rw [wsO_at Z S h1] at hq
    cases hq
    exact ⟨k, h1, rfl⟩
theorem flds_at (ad : Nat → Nat) (S : St) (c : Nat) (ts : List Nat) (k t : Nat) (h : ts[k]? = some t) : (flds ad S c ts)[k]? = some (fv ad S c k t) := by
  simp [flds, List.getElem?_mapIdx, h]
theorem flds_setI (ad : Nat → Nat) (S : St) (c k : Nat) (v : Int32) (ts : List Nat) (h : ts[k]? = some 0) : (flds ad S c ts).set k (.int v) = flds ad (setI S c k v) c ts := by
  apply List.ext_getElem?
  intro i
  by_cases he : i = k
  · subst he
    have hl : i < (flds ad S c ts).length := by
      have := (List.getElem?_eq_some_iff.mp h).1
      simpa [flds] using this
    rw [List.getElem?_set_self hl, flds_at _ _ _ _ _ _ h]
    simp [fv, setI]
  · rw [List.getElem?_set_ne (by omega)]
    simp only [flds, List.getElem?_mapIdx]
    congr 1
    funext t
    simp [fv, setI, he]
theorem flds_setL (ad : Nat → Nat) (S : St) (c k : Nat) (v : Int64) (ts : List Nat) (h : ts[k]? = some 1) : (flds ad S c ts).set k (.long v) = flds ad (setL S c k v) c ts := by
  apply List.ext_getElem?
  intro i
  by_cases he : i = k
  · subst he
    have hl : i < (flds ad S c ts).length := by
      have := (List.getElem?_eq_some_iff.mp h).1
      simpa [flds] using this
    rw [List.getElem?_set_self hl, flds_at _ _ _ _ _ _ h]
    simp [fv, setL]
  · rw [List.getElem?_set_ne (by omega)]
    simp only [flds, List.getElem?_mapIdx]
    congr 1
    funext t
    simp [fv, setL, he]
theorem ent_obj {Z : ZT} {S : St} {c ci n : Nat} (h : kd0 c = (ci, n)) (hc : ci < 7) : ent Z S c = .inr (ci, flds Z.1 S c (fty ci)) := by
  simp [ent, h, hc]
theorem ent_I {Z : ZT} {S : St} {c n : Nat} (h : kd0 c = (10, n)) : ent Z S c = .inl (Z.2.2 0, n, .inl (S.1 c)) := by
  simp [ent, h]
theorem ent_J {Z : ZT} {S : St} {c n : Nat} (h : kd0 c = (11, n)) : ent Z S c = .inl (Z.2.2 1, n, .inr (.inl (S.2 c))) := by
  simp [ent, h]
theorem ent_Z {Z : ZT} {S : St} {c n : Nat} (h : kd0 c = (12, n)) : ent Z S c = .inl (Z.2.2 2, n, .inl (S.1 c)) := by
  simp [ent, h]
theorem ent_Q {Z : ZT} {S : St} {c k n : Nat} (h : kd0 c = (k, n)) (hk : k = 13 ∨ k = 14 ∨ k = 15) : ent Z S c = .inl (Z.2.2 (k - 10), n, .inr (.inr (.inr (.inr (fun i => (R0 c i).map Z.1))))) := by
  rcases hk with rfl | rfl | rfl <;> simp [ent, h]
/-- two states that differ at one cell alone -/
def offc (S S' : St) (c : Nat) : Prop := ∀ a, a ≠ c → S'.1 a = S.1 a ∧ S'.2 a = S.2 a
theorem ent_off {Z : ZT} {S S' : St} {c : Nat} (h : offc S S' c) {a : Nat} (ha : a ≠ c) : ent Z S' a = ent Z S a := by
  obtain ⟨h1, h2⟩ := h a ha
  unfold ent flds fv
  rw [h1, h2]
theorem wsO_set {Z : ZT} {S S' : St} {c : Nat} (h : offc S S' c) {e : va_E} (he : ent Z S' c = e) : (wsO Z S).set c (Z.1 c, e) = wsO Z S' := by
  unfold wsO
  exact map_range_set _ _ _ _ _ (by rw [he]) (fun j hj => by rw [ent_off h hj])
theorem offc_setI (S : St) (c k : Nat) (v : Int32) : offc S (setI S c k v) c := fun a ha => ⟨by funext j; simp [setI, ha], rfl⟩
theorem offc_setL (S : St) (c k : Nat) (v : Int64) : offc S (setL S c k v) c := fun a ha => ⟨rfl, by funext j; simp [setL, ha]⟩
theorem offc_rowI (S : St) (c : Nat) (f : Nat → Int32) : offc S (rowI S c f) c := fun a ha => ⟨by funext j; simp [rowI, ha], rfl⟩
theorem offc_rowL (S : St) (c : Nat) (f : Nat → Int64) : offc S (rowL S c f) c := fun a ha => ⟨rfl, by funext j; simp [rowL, ha]⟩
theorem KS.calling {Z : ZT} {U : State} {g : JFrame} {mk : MethodId} {a : Array Value} (h : KS Z U) : KS Z (U.calling g mk a) :=
  ⟨va_K.moved (u := U) (U := U.calling g mk a) (Vm.Alike.refl U.vm) h.1, va_Z.moved (u := U) (U := U.calling g mk a) (Vm.Alike.refl U.vm) h.2.1, va_T.moved (u := U) (U := U.calling g mk a) (Vm.Alike.refl U.vm) h.2.2.1, h.2.2.2.1, va_Nw.same (u := U) (U := U.calling g mk a) rfl rfl h.2.2.2.2.1, va_Nw.same (u := U) (U := U.calling g mk a) rfl rfl h.2.2.2.2.2⟩
theorem KS.goes {Z : ZT} {s U : State} {H : Heap} {locs : List Loc} (h : KS Z s) (hS : va_S (zA Z) s.heap H locs) (hU : U.heap = H) (hW : s.WarmedH U.vm) : KS Z U := by
  subst hU
  exact ⟨va_K.moved hW.alike h.1, va_Z.moved hW.alike (h.2.1.kept (fun a h1 h2 => hS.2.1 a h1 h2)), va_T.moved hW.alike (h.2.2.1.kept (fun a h1 h2 => hS.2.1 a h1 h2)), h.2.2.2.1, va_Nw.warmM hW h.2.2.2.2.1, va_Nw.warmM hW h.2.2.2.2.2⟩
