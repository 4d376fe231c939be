/-! WHAT THE STATEMENT GIVES OF THE START -/
theorem AOA_spec {ty : FieldType} {s : State} (h : va_AOA ty s) : ∃ comp c k, s.vm.classes[c]? = some k ∧ k.kind = .array comp (.array ty) ∧ s.vm.findClass ("[" ++ (FieldType.array ty).toString) = some c := by
  unfold va_AOA Cond.before at h
  simp only [Cond.holds, Cond.value, beq_iff_eq] at h
  cases hc : s.vm.findClass (FieldType.array ty).toString with
  | none => simp [hc] at h
  | some comp =>
    simp only [hc, Option.bind_some, Option.bind_eq_some_iff, Option.map_eq_some_iff] at h
    obtain ⟨c, hi, k, hk, hb⟩ := h
    obtain ⟨hlt, hp, -⟩ := Array.findIdx?_eq_some_iff_getElem.mp hi
    have hkk : s.vm.classes[c] = k := (Array.getElem?_eq_some_iff.mp hk).2
    rw [hkk] at hp
    cases hkind : k.kind with
    | array component ty2 =>
      rw [hkind] at hb hp
      simp at hb hp
      exact ⟨comp, c, k, hk, by rw [hkind, hp, hb.1], hb.2⟩
    | _ => rw [hkind] at hb; simp at hb
theorem arrI {s : State} {args : Array Value} {ty : FieldType} (h : (Cond.arrayClass ty).before args s = true) (hn : ∀ C, ty ≠ .object C) : ∃ c, ArrOfT s c ty ∧ va_RA s c ty := by
  obtain ⟨c, k, comp, h1, h2, h3⟩ := Cond.arrayClass_spec h
  refine ⟨c, fun N z => ⟨(fun k h => by cases h), k, h2, comp, h3⟩, ?_⟩
  cases ty with
  | object C => exact absurd rfl (hn C)
  | _ => exact h1
theorem arrO {s : State} {C : String} (h : va_AO C s) : ∃ c, ArrOfT s c (.object C) ∧ va_RA s c (.object C) := by
  obtain ⟨comp, c, k, h1, -, h3, h4, h5⟩ := Cond.arrayOver_spec h
  exact ⟨c, fun N z => ⟨(fun k h => by cases h), k, h3, comp, h4⟩, k, comp, h3, h4, h1, h5⟩
theorem arrA {s : State} {ty : FieldType} (h : va_AOA ty s) : ∃ c, ArrOfT s c (.array ty) ∧ va_RA s c (.array ty) := by
  obtain ⟨comp, c, k, h3, h4, h5⟩ := AOA_spec h
  exact ⟨c, fun N z => ⟨(fun k h => by cases h), k, h3, comp, h4⟩, h5⟩
abbrev AH (s : State) : Nat → Prop := fun q => s.heap.size ≤ q
set_option maxRecDepth 20000 in
theorem start_facts {s : State} {b : Nat} (hts : ∀ w ∈ lw_tbl, w.before #[Value.ref b] s = true) (hgv : (Jvm.Cond.and given_1 narrow_1).before #[Value.ref b] s = true) : ∃ (D : va_G) (T : Nat → ClassId) (st : Nat), CK D T s ∧ va_Z "LoanBook$Dates" "DAYS_AHEAD" "[I" (.ref st) (AH s) s s.heap ∧ va_T .int st 12 (fun j => .int (daT j)) (AH s) s s.heap ∧ va_Nw (.methodLinkNest "LoanBook$Book" 37 ⟨"LoanBook", "isRate", "(I)Z"⟩ "LoanBook") s ∧ va_Nw (.methodLinkNest "LoanBook$Book" 41 ⟨"LoanBook", "isWithin", "(III)Z"⟩ "LoanBook") s := by
  have hg : ∀ w ∈ lw_good, w.before #[Value.ref b] s = true := fun w hw => hts w (List.mem_filter.mp hw).1
  have tb : ∀ (i : Nat) (w : Cond), lw_tbl[i]? = some w → w.before #[Value.ref b] s = true := fun i w h => hts w (List.mem_of_getElem? h)
  have nw : ∀ (i : Nat) (a : String) (k : Nat) (x : MethodName) (h : String), lw_tbl[i]? = some (Cond.methodLinkNest a k x h) → va_Nw (.methodLinkNest a k x h) s := fun i a k x h e => va_tabs rfl rfl (tb i _ e)
  have hAO4 : va_AO RX4 s := va_AO.of (tb 68 (Cond.arrayOver (.object RX4)) (by decide +kernel))
  have hAO3 : va_AO RX3 s := va_AO.of (tb 238 (Cond.arrayOver (.object RX3)) (by decide +kernel))
  have hAOA : va_AOA .long s := tb 742 (Cond.arrayOver (.array .long)) (by decide +kernel)
  obtain ⟨t0, a0⟩ := arrI (hg _ wk_aI) (fun C h => by cases h)
  obtain ⟨t1, a1⟩ := arrI (hg _ wk_aJ) (fun C h => by cases h)
  obtain ⟨t2, a2⟩ := arrI (hg _ wk_aZ) (fun C h => by cases h)
  obtain ⟨t3, a3⟩ := arrO hAO3
  obtain ⟨t4, a4⟩ := arrO hAO4
  obtain ⟨t5, a5⟩ := arrA hAOA
  obtain ⟨c0, i0, k0⟩ := u_known (C := RX1) (T := TX1) (N := 5) hg c7_0.2.1 (hg _ wk_in_X1)
  obtain ⟨c1, i1, k1⟩ := u_known (C := RX3) (T := TX3) (N := 5) hg c7_1.2.1 (hg _ wk_in_X3)
  obtain ⟨c2, i2, k2⟩ := u_known (C := RX4) (T := TX4) (N := 19) hg c7_2.2.1 (hg _ wk_in_X4)
  obtain ⟨c3, i3, k3⟩ := u_known (C := RX5) (T := TX5) (N := 5) hg c7_3.2.1 (hg _ wk_in_X5)
  obtain ⟨c4, i4, k4⟩ := u_known (C := RX6) (T := TX6) (N := 5) hg c7_4.2.1 (hg _ wk_in_X6)
  obtain ⟨c5, i5, k5⟩ := u_known (C := RX7) (T := TX7) (N := 8) hg c7_5.2.1 (hg _ wk_in_X7)
  obtain ⟨c6, i6, k6⟩ := u_known (C := RX8) (T := TX8) (N := 22) hg c7_6.2.1 (hg _ wk_in_X8)
  have hq := flat_of_before _ hgv
  have harr : (Cond.arrayOf (.static "LoanBook$Dates" "DAYS_AHEAD" "[I") .int).before #[Value.ref b] s = true := hq _ (by decide +kernel)
  have hlen : (Term.length (.static "LoanBook$Dates" "DAYS_AHEAD" "[I")).eval #[Value.ref b] s none [] s = some (.int 12) := va_eqt (hq _ (by decide +kernel))
  have hel : ∀ j : Nat, j < 12 → (Term.elem (.static "LoanBook$Dates" "DAYS_AHEAD" "[I") (.int (Int32.ofNat j))).eval #[Value.ref b] s none [] s = some (.int (daT j)) := fun j hj => match j, hj with
    | 0, _ => va_eqt (z := 0) (hq _ (by decide +kernel))
    | 1, _ => va_eqt (z := 31) (hq _ (by decide +kernel))
    | 2, _ => va_eqt (z := 59) (hq _ (by decide +kernel))
    | 3, _ => va_eqt (z := 90) (hq _ (by decide +kernel))
    | 4, _ => va_eqt (z := 120) (hq _ (by decide +kernel))
    | 5, _ => va_eqt (z := 151) (hq _ (by decide +kernel))
    | 6, _ => va_eqt (z := 181) (hq _ (by decide +kernel))
    | 7, _ => va_eqt (z := 212) (hq _ (by decide +kernel))
    | 8, _ => va_eqt (z := 243) (hq _ (by decide +kernel))
    | 9, _ => va_eqt (z := 273) (hq _ (by decide +kernel))
    | 10, _ => va_eqt (z := 304) (hq _ (by decide +kernel))
    | 11, _ => va_eqt (z := 334) (hq _ (by decide +kernel))
    | k + 12, h => absurd h (by omega)
  have hA : ∀ a : Nat, a < s.heap.size → ¬ AH s a := fun a h => Nat.not_le.mpr h
  obtain ⟨st, hst, hT⟩ := va_Tof (A := AH s) (f := fun j => .int (daT j)) (N := 12) (by omega) harr hlen hel hA
  refine ⟨(fun k => match k with | 0 => c0 | 1 => c1 | 2 => c2 | 3 => c3 | 4 => c4 | 5 => c5 | _ => c6, fun k => match k with | 0 => i0 | 1 => i1 | 2 => i2 | 3 => i3 | 4 => i4 | 5 => i5 | _ => i6), fun k => match k with | 0 => t0 | 1 => t1 | 2 => t2 | 3 => t3 | 4 => t4 | _ => t5, st, ⟨⟨fun k q h => ?_, fun k q h => ?_⟩, ⟨hAO4, hAO3, hAOA⟩, nw 70 _ _ _ _ (by decide +kernel), nw 184 _ _ _ _ (by decide +kernel), nw 187 _ _ _ _ (by decide +kernel), nw 212 _ _ _ _ (by decide +kernel), nw 240 _ _ _ _ (by decide +kernel)⟩, va_Zref (tb 305 (Cond.laysStatic "LoanBook$Dates" "DAYS_AHEAD" "[I") (by decide +kernel)) (tb 45 (Cond.initialized "LoanBook$Dates") (by decide +kernel)) hst hA, hT, nw 360 _ _ _ _ (by decide +kernel), nw 361 _ _ _ _ (by decide +kernel)⟩
  · match k, h with
    | 0, h => cases h; exact k0
    | 1, h => cases h; exact k1
    | 2, h => cases h; exact k2
    | 3, h => cases h; exact k3
    | 4, h => cases h; exact k4
    | 5, h => cases h; exact k5
    | 6, h => cases h; exact k6
    | k + 7, h => simp [cls7] at h
  · match k, h with
    | 0, h => cases h; exact a0
    | 1, h => cases h; exact a1
    | 2, h => cases h; exact a2
    | 3, h => cases h; exact a3
    | 4, h => cases h; exact a4
    | 5, h => cases h; exact a5
    | k + 6, h => simp [tyT] at h
/-- a world in A, the rest as it was: what the methods ask of the state -/
theorem KS.far {Z : ZT} {s U : State} {H : Heap} {locs : List Loc} (hK : va_K Z.2.1 cls7 (tyz Z) s) (h2 : va_Z "LoanBook$Dates" "DAYS_AHEAD" "[I" (.ref (Z.1 226)) (AH s) s s.heap) (h3 : va_T .int (Z.1 226) 12 (fun j => .int (daT j)) (AH s) s s.heap) (h4 : ∀ i j, i < 226 → j < 226 → Z.1 i = Z.1 j → i = j) (h5 : va_Nw (.methodLinkNest "LoanBook$Book" 37 ⟨"LoanBook", "isRate", "(I)Z"⟩ "LoanBook") s) (h6 : va_Nw (.methodLinkNest "LoanBook$Book" 41 ⟨"LoanBook", "isWithin", "(III)Z"⟩ "LoanBook") s) (hz : ∀ q, zA Z q → AH s q) (hS : va_S (AH s) s.heap H locs) (hU : U.heap = H) (hW : s.WarmedH U.vm) : KS Z U := by
  subst hU
  exact ⟨va_K.moved hW.alike hK, (va_Z.moved hW.alike (h2.kept (fun a h1 h2 => hS.2.1 a h1 h2))).narrow hz, (va_T.moved hW.alike (h3.kept (fun a h1 h2 => hS.2.1 a h1 h2))).narrow hz, h4, va_Nw.warmM hW h5, va_Nw.warmM hW h6⟩
