/-! SMALL CONSTRUCTORS -/
def tyT (T : Nat → ClassId) : List (ClassId × FieldType) := [(T 0, .int), (T 1, .long), (T 2, .boolean), (T 3, .object "LoanBook$Holder"), (T 4, .object "LoanBook$Loan"), (T 5, .array .long)]
def va_AOA (ty : FieldType) (U : State) : Prop := (Cond.arrayOver (.array ty)).before #[] U = true
def CK (D : va_G) (T : Nat → ClassId) (U : State) : Prop := va_K D cls7 (tyT T) U ∧ (va_AO RX4 U ∧ va_AO RX3 U ∧ va_AOA .long U) ∧ va_Nw (.methodLinkNest RX1 30 yX4_init "LoanBook") U ∧ va_Nw (.methodLinkNest RX7 28 yX4_init "LoanBook") U ∧ va_Nw (.methodLinkNest RX7 35 yX5_init "LoanBook") U ∧ va_Nw (.methodLinkNest RX7 42 yX6_init "LoanBook") U ∧ va_Nw (.methodLinkNest RX7 53 yX3_init "LoanBook") U
theorem va_D1 (h0 : Nat) (e : va_E) : va_D (fun _ => True) [(h0, e)] := by
  refine ⟨fun i j p q hi hj _ => ?_, fun _ _ _ => trivial⟩
  have h1 : i < 1 := (List.getElem?_eq_some_iff.mp hi).1
  have h2 : j < 1 := (List.getElem?_eq_some_iff.mp hj).1
  omega
def w_X3 (T : Nat → ClassId) (h0 : Nat) (q : Nat → Nat) : va_W := [(h0, .inr (1, [.int 0, .int 0, .int 0, .long 0, .ref (q 0)])), ((q 0), .inl (T 1, 60, .inr (.inl (fun _ => 0))))]
def rm_X3_init : Room := { frames := 1, cells := 1, slots := 60, locals := 12 }
set_option maxHeartbeats 4000000 in
set_option maxRecDepth 100000 in
theorem k_X3 (l : Launch) (D : va_G) (T : Nat → ClassId) (h0 sz : Nat) : Met l yX3_init (wsM yX3_init cX3_init 1 none) rm_X3_init (va_Pc [.ref h0] (fun U => U.heap.size = sz ∧ va_P D cls7 [(h0, .inr (1, [.int 0, .int 0, .int 0, .long 0, .null]))] U.heap ∧ CK D T U)) (va_Qv (fun _ : Nat → Nat => True) (fun q t => va_P D cls7 (w_X3 T h0 q) t.heap ∧ va_D (va_A [(h0, .inr (1, [.int 0, .int 0, .int 0, .long 0, .null]))] sz) (w_X3 T h0 q)) (va_A [(h0, .inr (1, [.int 0, .int 0, .int 0, .long 0, .null]))] sz)) 1 60 (va_A [(h0, .inr (1, [.int 0, .int 0, .int 0, .long 0, .null]))] sz) := by
  refine Met.ofW (cc := cX3_init) (maxL := 1) (ret := none) (by decide) rfl ?_
  intro p e s m args below meth c s₁ B hml hv
  obtain ⟨rfl, hsz, hP, hCK⟩ := hv
  have hK := hCK.1
  have hx := B.exec
  have hb := B.bytes
  have hr := B.returns
  have hts := atoms_spec (ws := wsM yX3_init cX3_init 1 none) B.pre
  have hown : s.vm.findClass RX3 = some m.cls := findClass_of_methodNamed B.named
  have hin : meth.name = "<init>" := (name_of_methodNamed B.named B.method).1
  subst hsz
  have hD0 : va_D (fun _ => True) [(h0, .inr (1, [.int 0, .int 0, .int 0, .long 0, .null]))] := va_D1 h0 _
  have hD := hD0.self (sz := s.heap.size)
  generalize hAe : va_A [(h0, .inr (1, [.int 0, .int 0, .int 0, .long 0, .null]))] s.heap.size = A at hD ⊢
  have hA : ∀ q : Nat, s.heap.size ≤ q → A q := fun q h => by rw [← hAe]; exact Or.inr h
  have hS : va_S A s.heap s.heap [] := va_S.rf
  have hP : va_P D cls7 [(h0, .inr (1, [.int 0, .int 0, .int 0, .long 0, .null]))] s.heap := hP
  have hl := lv_entry ([.ref h0]) (n := 1) (Nat.le_of_ble_eq_true rfl)
  rw [lg_entry_eq]
  generalize (lg_sl ([.ref h0]) ++ List.replicate (1 - (lg_sl ([.ref h0])).length) Slot.unset).toArray = ls at hl ⊢
  have hl : lv_has ls 1 [(0, .ref h0)] := hl
  refine lv_aload_n hx hb dX3_init_0 rfl (lv_at hl 0 rfl) ?_
  refine W.objInit hx hb hown (hts _ (List.mem_cons_of_mem _ wk_ob_X3)) (hts _ (List.mem_cons_of_mem _ wk_oi)) (hts _ (List.mem_cons_of_mem _ wk_oc)) rfl (by rw [hml]; exact hl.1) rfl dX3_init_1 (Nat.le_of_ble_eq_true rfl) (Nat.le_of_ble_eq_true rfl) ?_
  refine W.eq (g2 := F0 m 4 ls []) rfl ?_
  refine lv_aload_n hx hb dX3_init_4 rfl (lv_at hl 0 rfl) ?_
  refine lv_iconst (v := 0) hx hb dX3_init_5 (by decide) ?_
  refine va_put (D := D) (ci := 1) (v := .int 0) (ty := .int) (C := RX3) (T := TX3) (N := 5) hx hb hts (fun w hw => List.mem_cons_of_mem _ (c7_1.2.1 w hw)) tyX3 tyX3_ok nmX3 hown hK hP hD hS 0 rfl rfl 0 (by decide) (hts _ (List.mem_cons_of_mem _ wk_f_RX3_11)) (fun _ h9 => h9) rfl (by decide +kernel) rfl rfl (Nat.le_of_ble_eq_true rfl) dX3_init_6 (fun H locs hP hD hS => ?_)
  have hP : va_P D cls7 [(h0, .inr (1, [.int 0, .int 0, .int 0, .long 0, .null]))] H := hP
  have hD : va_D A [(h0, .inr (1, [.int 0, .int 0, .int 0, .long 0, .null]))] := hD
  refine lv_aload_n hx hb dX3_init_9 rfl (lv_at hl 0 rfl) ?_
  refine lv_iconst (v := 0) hx hb dX3_init_10 (by decide) ?_
  refine va_put (D := D) (ci := 1) (v := .int 0) (ty := .int) (C := RX3) (T := TX3) (N := 5) hx hb hts (fun w hw => List.mem_cons_of_mem _ (c7_1.2.1 w hw)) tyX3 tyX3_ok nmX3 hown hK hP hD hS 0 rfl rfl 1 (by decide) (hts _ (List.mem_cons_of_mem _ wk_f_RX3_15)) (fun _ h9 => h9) rfl (by decide +kernel) rfl rfl (Nat.le_of_ble_eq_true rfl) dX3_init_11 (fun H locs hP hD hS => ?_)
  have hP : va_P D cls7 [(h0, .inr (1, [.int 0, .int 0, .int 0, .long 0, .null]))] H := hP
  have hD : va_D A [(h0, .inr (1, [.int 0, .int 0, .int 0, .long 0, .null]))] := hD
  refine lv_aload_n hx hb dX3_init_14 rfl (lv_at hl 0 rfl) ?_
  refine lv_iconst (v := 0) hx hb dX3_init_15 (by decide) ?_
  refine va_put (D := D) (ci := 1) (v := .int 0) (ty := .int) (C := RX3) (T := TX3) (N := 5) hx hb hts (fun w hw => List.mem_cons_of_mem _ (c7_1.2.1 w hw)) tyX3 tyX3_ok nmX3 hown hK hP hD hS 0 rfl rfl 2 (by decide) (hts _ (List.mem_cons_of_mem _ wk_f_RX3_18)) (fun _ h9 => h9) rfl (by decide +kernel) rfl rfl (Nat.le_of_ble_eq_true rfl) dX3_init_16 (fun H locs hP hD hS => ?_)
  have hP : va_P D cls7 [(h0, .inr (1, [.int 0, .int 0, .int 0, .long 0, .null]))] H := hP
  have hD : va_D A [(h0, .inr (1, [.int 0, .int 0, .int 0, .long 0, .null]))] := hD
  refine lv_aload_n hx hb dX3_init_19 rfl (lv_at hl 0 rfl) ?_
  refine lv_lconst (v := 0) hx hb dX3_init_20 (by decide) ?_
  refine va_put (D := D) (ci := 1) (v := .long 0) (ty := .long) (C := RX3) (T := TX3) (N := 5) hx hb hts (fun w hw => List.mem_cons_of_mem _ (c7_1.2.1 w hw)) tyX3 tyX3_ok nmX3 hown hK hP hD hS 0 rfl rfl 3 (by decide) (hts _ (List.mem_cons_of_mem _ wk_f_RX3_21)) (fun _ h9 => h9) rfl (by decide +kernel) rfl rfl (Nat.le_of_ble_eq_true rfl) dX3_init_21 (fun H locs hP hD hS => ?_)
  have hP : va_P D cls7 [(h0, .inr (1, [.int 0, .int 0, .int 0, .long 0, .null]))] H := hP
  have hD : va_D A [(h0, .inr (1, [.int 0, .int 0, .int 0, .long 0, .null]))] := hD
  refine lv_aload_n hx hb dX3_init_24 rfl (lv_at hl 0 rfl) ?_
  refine lv_bipush (v := 60) hx hb dX3_init_25 (by decide) ?_
  refine va_newa (atype := .long) (ty := .long) (N' := 60) (a0 := (60, .inr (.inl (fun _ => 0)))) hx hb (hts _ (List.mem_cons_of_mem _ wk_aJ)) rfl hK hP hD hS hA (fun _ => rfl) (by decide) (by decide) (by decide) (Nat.le_of_ble_eq_true rfl) (Nat.le_of_ble_eq_true rfl) dX3_init_27 (fun q0 cA H hK9 hP hD hS => ?_)
  have ecA : cA = T 1 := Option.some.inj ((hK9.2 6 _ rfl).2.symm.trans (hK.2 1 _ rfl).2)
  subst ecA
  have hP : va_P D cls7 [(h0, .inr (1, [.int 0, .int 0, .int 0, .long 0, .null])), (q0, .inl (T 1, 60, .inr (.inl (fun _ => 0))))] H := hP
  have hD : va_D A [(h0, .inr (1, [.int 0, .int 0, .int 0, .long 0, .null])), (q0, .inl (T 1, 60, .inr (.inl (fun _ => 0))))] := hD
  refine W.widen (k := 1) (n := 60) (Nat.le_of_ble_eq_true rfl) (Nat.le_of_ble_eq_true rfl) ?_
  refine va_putF (D := D) (ci := 1) (v := .ref q0) (ty := .array .long) (C := RX3) (T := TX3) (N := 5) hx hb hts (fun w hw => List.mem_cons_of_mem _ (c7_1.2.1 w hw)) tyX3 tyX3_ok nmX3 hown hK hP hD hS 0 rfl rfl 4 (by decide) (hts _ (List.mem_cons_of_mem _ wk_f_RX3_25)) (fun _ h9 => h9) rfl hin rfl (by decide +kernel) rfl rfl (Nat.le_of_ble_eq_true rfl) dX3_init_29 (fun H locs hP hD hS => ?_)
  have hP : va_P D cls7 [(h0, .inr (1, [.int 0, .int 0, .int 0, .long 0, .ref q0])), (q0, .inl (T 1, 60, .inr (.inl (fun _ => 0))))] H := hP
  have hD : va_D A [(h0, .inr (1, [.int 0, .int 0, .int 0, .long 0, .ref q0])), (q0, .inl (T 1, 60, .inr (.inl (fun _ => 0))))] := hD
  exact W.vret hx hb hr (fun t ht hW => ⟨⟨(fun k => match k with  | _ => q0), rfl, trivial, by rw [ht]; exact hP, hD⟩, hS.F ht⟩) hS.2.2 dX3_init_32
def w_X4 (T : Nat → ClassId) (h0 : Nat) (q : Nat → Nat) : va_W := [(h0, .inr (2, [.long 0, .long 0, .long 0, .long 0, .long 0, .long 0, .long 0, .int 0, .int 0, .int 0, .int 0, .int 0, .int 0, .ref (q 0), .ref (q 1), .ref (q 2), .ref (q 3), .ref (q 4), .ref (q 5)])), ((q 0), .inl (T 0, 61, .inl (fun _ => 0))), ((q 1), .inl (T 1, 61, .inr (.inl (fun _ => 0)))), ((q 2), .inl (T 1, 61, .inr (.inl (fun _ => 0)))), ((q 3), .inl (T 1, 61, .inr (.inl (fun _ => 0)))), ((q 4), .inl (T 1, 61, .inr (.inl (fun _ => 0)))), ((q 5), .inl (T 2, 61, .inl (fun _ => 0)))]
def rm_X4_init : Room := { frames := 1, cells := 6, slots := 366, locals := 12 }
set_option maxHeartbeats 4000000 in
set_option maxRecDepth 100000 in
theorem k_X4 (l : Launch) (D : va_G) (T : Nat → ClassId) (h0 sz : Nat) : Met l yX4_init (wsM yX4_init cX4_init 1 none) rm_X4_init (va_Pc [.ref h0] (fun U => U.heap.size = sz ∧ va_P D cls7 [(h0, .inr (2, [.long 0, .long 0, .long 0, .long 0, .long 0, .long 0, .long 0, .int 0, .int 0, .int 0, .int 0, .int 0, .int 0, .null, .null, .null, .null, .null, .null]))] U.heap ∧ CK D T U)) (va_Qv (fun _ : Nat → Nat => True) (fun q t => va_P D cls7 (w_X4 T h0 q) t.heap ∧ va_D (va_A [(h0, .inr (2, [.long 0, .long 0, .long 0, .long 0, .long 0, .long 0, .long 0, .int 0, .int 0, .int 0, .int 0, .int 0, .int 0, .null, .null, .null, .null, .null, .null]))] sz) (w_X4 T h0 q)) (va_A [(h0, .inr (2, [.long 0, .long 0, .long 0, .long 0, .long 0, .long 0, .long 0, .int 0, .int 0, .int 0, .int 0, .int 0, .int 0, .null, .null, .null, .null, .null, .null]))] sz)) 6 366 (va_A [(h0, .inr (2, [.long 0, .long 0, .long 0, .long 0, .long 0, .long 0, .long 0, .int 0, .int 0, .int 0, .int 0, .int 0, .int 0, .null, .null, .null, .null, .null, .null]))] sz) := by
  refine Met.ofW (cc := cX4_init) (maxL := 1) (ret := none) (by decide) rfl ?_
  intro p e s m args below meth c s₁ B hml hv
  obtain ⟨rfl, hsz, hP, hCK⟩ := hv
  have hK := hCK.1
  have hx := B.exec
  have hb := B.bytes
  have hr := B.returns
  have hts := atoms_spec (ws := wsM yX4_init cX4_init 1 none) B.pre
  have hown : s.vm.findClass RX4 = some m.cls := findClass_of_methodNamed B.named
  have hin : meth.name = "<init>" := (name_of_methodNamed B.named B.method).1
  subst hsz
  have hD0 : va_D (fun _ => True) [(h0, .inr (2, [.long 0, .long 0, .long 0, .long 0, .long 0, .long 0, .long 0, .int 0, .int 0, .int 0, .int 0, .int 0, .int 0, .null, .null, .null, .null, .null, .null]))] := va_D1 h0 _
  have hD := hD0.self (sz := s.heap.size)
  generalize hAe : va_A [(h0, .inr (2, [.long 0, .long 0, .long 0, .long 0, .long 0, .long 0, .long 0, .int 0, .int 0, .int 0, .int 0, .int 0, .int 0, .null, .null, .null, .null, .null, .null]))] s.heap.size = A at hD ⊢
  have hA : ∀ q : Nat, s.heap.size ≤ q → A q := fun q h => by rw [← hAe]; exact Or.inr h
  have hS : va_S A s.heap s.heap [] := va_S.rf
  have hP : va_P D cls7 [(h0, .inr (2, [.long 0, .long 0, .long 0, .long 0, .long 0, .long 0, .long 0, .int 0, .int 0, .int 0, .int 0, .int 0, .int 0, .null, .null, .null, .null, .null, .null]))] s.heap := hP
  have hl := lv_entry ([.ref h0]) (n := 1) (Nat.le_of_ble_eq_true rfl)
  rw [lg_entry_eq]
  generalize (lg_sl ([.ref h0]) ++ List.replicate (1 - (lg_sl ([.ref h0])).length) Slot.unset).toArray = ls at hl ⊢
  have hl : lv_has ls 1 [(0, .ref h0)] := hl
  refine lv_aload_n hx hb dX4_init_0 rfl (lv_at hl 0 rfl) ?_
  refine W.objInit hx hb hown (hts _ (List.mem_cons_of_mem _ wk_ob_X4)) (hts _ (List.mem_cons_of_mem _ wk_oi)) (hts _ (List.mem_cons_of_mem _ wk_oc)) rfl (by rw [hml]; exact hl.1) rfl dX4_init_1 (Nat.le_of_ble_eq_true rfl) (Nat.le_of_ble_eq_true rfl) ?_
  refine W.eq (g2 := F0 m 4 ls []) rfl ?_
  refine lv_aload_n hx hb dX4_init_4 rfl (lv_at hl 0 rfl) ?_
  refine lv_bipush (v := 61) hx hb dX4_init_5 (by decide) ?_
  refine va_newa (atype := .int) (ty := .int) (N' := 61) (a0 := (61, .inl (fun _ => 0))) hx hb (hts _ (List.mem_cons_of_mem _ wk_aI)) rfl hK hP hD hS hA (fun _ => rfl) (by decide) (by decide) (by decide) (Nat.le_of_ble_eq_true rfl) (Nat.le_of_ble_eq_true rfl) dX4_init_7 (fun q0 cA H hK9 hP hD hS => ?_)
  have ecA : cA = T 0 := Option.some.inj ((hK9.2 6 _ rfl).2.symm.trans (hK.2 0 _ rfl).2)
  subst ecA
  have hP : va_P D cls7 [(h0, .inr (2, [.long 0, .long 0, .long 0, .long 0, .long 0, .long 0, .long 0, .int 0, .int 0, .int 0, .int 0, .int 0, .int 0, .null, .null, .null, .null, .null, .null])), (q0, .inl (T 0, 61, .inl (fun _ => 0)))] H := hP
  have hD : va_D A [(h0, .inr (2, [.long 0, .long 0, .long 0, .long 0, .long 0, .long 0, .long 0, .int 0, .int 0, .int 0, .int 0, .int 0, .int 0, .null, .null, .null, .null, .null, .null])), (q0, .inl (T 0, 61, .inl (fun _ => 0)))] := hD
  refine W.widen (k := 1) (n := 61) (Nat.le_of_ble_eq_true rfl) (Nat.le_of_ble_eq_true rfl) ?_
  refine va_putF (D := D) (ci := 2) (v := .ref q0) (ty := .array .int) (C := RX4) (T := TX4) (N := 19) hx hb hts (fun w hw => List.mem_cons_of_mem _ (c7_2.2.1 w hw)) tyX4 tyX4_ok nmX4 hown hK hP hD hS 0 rfl rfl 13 (by decide) (hts _ (List.mem_cons_of_mem _ wk_f_RX4_9)) (fun _ h9 => h9) rfl hin rfl (by decide +kernel) rfl rfl (Nat.le_of_ble_eq_true rfl) dX4_init_9 (fun H locs hP hD hS => ?_)
  have hP : va_P D cls7 [(h0, .inr (2, [.long 0, .long 0, .long 0, .long 0, .long 0, .long 0, .long 0, .int 0, .int 0, .int 0, .int 0, .int 0, .int 0, .ref q0, .null, .null, .null, .null, .null])), (q0, .inl (T 0, 61, .inl (fun _ => 0)))] H := hP
  have hD : va_D A [(h0, .inr (2, [.long 0, .long 0, .long 0, .long 0, .long 0, .long 0, .long 0, .int 0, .int 0, .int 0, .int 0, .int 0, .int 0, .ref q0, .null, .null, .null, .null, .null])), (q0, .inl (T 0, 61, .inl (fun _ => 0)))] := hD
  refine lv_aload_n hx hb dX4_init_12 rfl (lv_at hl 0 rfl) ?_
  refine lv_bipush (v := 61) hx hb dX4_init_13 (by decide) ?_
  refine va_newa (atype := .long) (ty := .long) (N' := 61) (a0 := (61, .inr (.inl (fun _ => 0)))) hx hb (hts _ (List.mem_cons_of_mem _ wk_aJ)) rfl hK hP hD hS hA (fun _ => rfl) (by decide) (by decide) (by decide) (Nat.le_of_ble_eq_true rfl) (Nat.le_of_ble_eq_true rfl) dX4_init_15 (fun q1 cA H hK9 hP hD hS => ?_)
  have ecA : cA = T 1 := Option.some.inj ((hK9.2 6 _ rfl).2.symm.trans (hK.2 1 _ rfl).2)
  subst ecA
  have hP : va_P D cls7 [(h0, .inr (2, [.long 0, .long 0, .long 0, .long 0, .long 0, .long 0, .long 0, .int 0, .int 0, .int 0, .int 0, .int 0, .int 0, .ref q0, .null, .null, .null, .null, .null])), (q0, .inl (T 0, 61, .inl (fun _ => 0))), (q1, .inl (T 1, 61, .inr (.inl (fun _ => 0))))] H := hP
  have hD : va_D A [(h0, .inr (2, [.long 0, .long 0, .long 0, .long 0, .long 0, .long 0, .long 0, .int 0, .int 0, .int 0, .int 0, .int 0, .int 0, .ref q0, .null, .null, .null, .null, .null])), (q0, .inl (T 0, 61, .inl (fun _ => 0))), (q1, .inl (T 1, 61, .inr (.inl (fun _ => 0))))] := hD
  refine W.widen (k := 2) (n := 122) (Nat.le_of_ble_eq_true rfl) (Nat.le_of_ble_eq_true rfl) ?_
  refine va_putF (D := D) (ci := 2) (v := .ref q1) (ty := .array .long) (C := RX4) (T := TX4) (N := 19) hx hb hts (fun w hw => List.mem_cons_of_mem _ (c7_2.2.1 w hw)) tyX4 tyX4_ok nmX4 hown hK hP hD hS 0 rfl rfl 14 (by decide) (hts _ (List.mem_cons_of_mem _ wk_f_RX4_15)) (fun _ h9 => h9) rfl hin rfl (by decide +kernel) rfl rfl (Nat.le_of_ble_eq_true rfl) dX4_init_17 (fun H locs hP hD hS => ?_)
  have hP : va_P D cls7 [(h0, .inr (2, [.long 0, .long 0, .long 0, .long 0, .long 0, .long 0, .long 0, .int 0, .int 0, .int 0, .int 0, .int 0, .int 0, .ref q0, .ref q1, .null, .null, .null, .null])), (q0, .inl (T 0, 61, .inl (fun _ => 0))), (q1, .inl (T 1, 61, .inr (.inl (fun _ => 0))))] H := hP
  have hD : va_D A [(h0, .inr (2, [.long 0, .long 0, .long 0, .long 0, .long 0, .long 0, .long 0, .int 0, .int 0, .int 0, .int 0, .int 0, .int 0, .ref q0, .ref q1, .null, .null, .null, .null])), (q0, .inl (T 0, 61, .inl (fun _ => 0))), (q1, .inl (T 1, 61, .inr (.inl (fun _ => 0))))] := hD
  refine lv_aload_n hx hb dX4_init_20 rfl (lv_at hl 0 rfl) ?_
  refine lv_bipush (v := 61) hx hb dX4_init_21 (by decide) ?_
  refine va_newa (atype := .long) (ty := .long) (N' := 61) (a0 := (61, .inr (.inl (fun _ => 0)))) hx hb (hts _ (List.mem_cons_of_mem _ wk_aJ)) rfl hK hP hD hS hA (fun _ => rfl) (by decide) (by decide) (by decide) (Nat.le_of_ble_eq_true rfl) (Nat.le_of_ble_eq_true rfl) dX4_init_23 (fun q2 cA H hK9 hP hD hS => ?_)
  have ecA : cA = T 1 := Option.some.inj ((hK9.2 6 _ rfl).2.symm.trans (hK.2 1 _ rfl).2)
  subst ecA
  have hP : va_P D cls7 [(h0, .inr (2, [.long 0, .long 0, .long 0, .long 0, .long 0, .long 0, .long 0, .int 0, .int 0, .int 0, .int 0, .int 0, .int 0, .ref q0, .ref q1, .null, .null, .null, .null])), (q0, .inl (T 0, 61, .inl (fun _ => 0))), (q1, .inl (T 1, 61, .inr (.inl (fun _ => 0)))), (q2, .inl (T 1, 61, .inr (.inl (fun _ => 0))))] H := hP
  have hD : va_D A [(h0, .inr (2, [.long 0, .long 0, .long 0, .long 0, .long 0, .long 0, .long 0, .int 0, .int 0, .int 0, .int 0, .int 0, .int 0, .ref q0, .ref q1, .null, .null, .null, .null])), (q0, .inl (T 0, 61, .inl (fun _ => 0))), (q1, .inl (T 1, 61, .inr (.inl (fun _ => 0)))), (q2, .inl (T 1, 61, .inr (.inl (fun _ => 0))))] := hD
  refine W.widen (k := 3) (n := 183) (Nat.le_of_ble_eq_true rfl) (Nat.le_of_ble_eq_true rfl) ?_
  refine va_putF (D := D) (ci := 2) (v := .ref q2) (ty := .array .long) (C := RX4) (T := TX4) (N := 19) hx hb hts (fun w hw => List.mem_cons_of_mem _ (c7_2.2.1 w hw)) tyX4 tyX4_ok nmX4 hown hK hP hD hS 0 rfl rfl 15 (by decide) (hts _ (List.mem_cons_of_mem _ wk_f_RX4_19)) (fun _ h9 => h9) rfl hin rfl (by decide +kernel) rfl rfl (Nat.le_of_ble_eq_true rfl) dX4_init_25 (fun H locs hP hD hS => ?_)
  have hP : va_P D cls7 [(h0, .inr (2, [.long 0, .long 0, .long 0, .long 0, .long 0, .long 0, .long 0, .int 0, .int 0, .int 0, .int 0, .int 0, .int 0, .ref q0, .ref q1, .ref q2, .null, .null, .null])), (q0, .inl (T 0, 61, .inl (fun _ => 0))), (q1, .inl (T 1, 61, .inr (.inl (fun _ => 0)))), (q2, .inl (T 1, 61, .inr (.inl (fun _ => 0))))] H := hP
  have hD : va_D A [(h0, .inr (2, [.long 0, .long 0, .long 0, .long 0, .long 0, .long 0, .long 0, .int 0, .int 0, .int 0, .int 0, .int 0, .int 0, .ref q0, .ref q1, .ref q2, .null, .null, .null])), (q0, .inl (T 0, 61, .inl (fun _ => 0))), (q1, .inl (T 1, 61, .inr (.inl (fun _ => 0)))), (q2, .inl (T 1, 61, .inr (.inl (fun _ => 0))))] := hD
  refine lv_aload_n hx hb dX4_init_28 rfl (lv_at hl 0 rfl) ?_
  refine lv_bipush (v := 61) hx hb dX4_init_29 (by decide) ?_
  refine va_newa (atype := .long) (ty := .long) (N' := 61) (a0 := (61, .inr (.inl (fun _ => 0)))) hx hb (hts _ (List.mem_cons_of_mem _ wk_aJ)) rfl hK hP hD hS hA (fun _ => rfl) (by decide) (by decide) (by decide) (Nat.le_of_ble_eq_true rfl) (Nat.le_of_ble_eq_true rfl) dX4_init_31 (fun q3 cA H hK9 hP hD hS => ?_)
  have ecA : cA = T 1 := Option.some.inj ((hK9.2 6 _ rfl).2.symm.trans (hK.2 1 _ rfl).2)
  subst ecA
  have hP : va_P D cls7 [(h0, .inr (2, [.long 0, .long 0, .long 0, .long 0, .long 0, .long 0, .long 0, .int 0, .int 0, .int 0, .int 0, .int 0, .int 0, .ref q0, .ref q1, .ref q2, .null, .null, .null])), (q0, .inl (T 0, 61, .inl (fun _ => 0))), (q1, .inl (T 1, 61, .inr (.inl (fun _ => 0)))), (q2, .inl (T 1, 61, .inr (.inl (fun _ => 0)))), (q3, .inl (T 1, 61, .inr (.inl (fun _ => 0))))] H := hP
  have hD : va_D A [(h0, .inr (2, [.long 0, .long 0, .long 0, .long 0, .long 0, .long 0, .long 0, .int 0, .int 0, .int 0, .int 0, .int 0, .int 0, .ref q0, .ref q1, .ref q2, .null, .null, .null])), (q0, .inl (T 0, 61, .inl (fun _ => 0))), (q1, .inl (T 1, 61, .inr (.inl (fun _ => 0)))), (q2, .inl (T 1, 61, .inr (.inl (fun _ => 0)))), (q3, .inl (T 1, 61, .inr (.inl (fun _ => 0))))] := hD
  refine W.widen (k := 4) (n := 244) (Nat.le_of_ble_eq_true rfl) (Nat.le_of_ble_eq_true rfl) ?_
  refine va_putF (D := D) (ci := 2) (v := .ref q3) (ty := .array .long) (C := RX4) (T := TX4) (N := 19) hx hb hts (fun w hw => List.mem_cons_of_mem _ (c7_2.2.1 w hw)) tyX4 tyX4_ok nmX4 hown hK hP hD hS 0 rfl rfl 16 (by decide) (hts _ (List.mem_cons_of_mem _ wk_f_RX4_22)) (fun _ h9 => h9) rfl hin rfl (by decide +kernel) rfl rfl (Nat.le_of_ble_eq_true rfl) dX4_init_33 (fun H locs hP hD hS => ?_)
  have hP : va_P D cls7 [(h0, .inr (2, [.long 0, .long 0, .long 0, .long 0, .long 0, .long 0, .long 0, .int 0, .int 0, .int 0, .int 0, .int 0, .int 0, .ref q0, .ref q1, .ref q2, .ref q3, .null, .null])), (q0, .inl (T 0, 61, .inl (fun _ => 0))), (q1, .inl (T 1, 61, .inr (.inl (fun _ => 0)))), (q2, .inl (T 1, 61, .inr (.inl (fun _ => 0)))), (q3, .inl (T 1, 61, .inr (.inl (fun _ => 0))))] H := hP
  have hD : va_D A [(h0, .inr (2, [.long 0, .long 0, .long 0, .long 0, .long 0, .long 0, .long 0, .int 0, .int 0, .int 0, .int 0, .int 0, .int 0, .ref q0, .ref q1, .ref q2, .ref q3, .null, .null])), (q0, .inl (T 0, 61, .inl (fun _ => 0))), (q1, .inl (T 1, 61, .inr (.inl (fun _ => 0)))), (q2, .inl (T 1, 61, .inr (.inl (fun _ => 0)))), (q3, .inl (T 1, 61, .inr (.inl (fun _ => 0))))] := hD
  refine lv_aload_n hx hb dX4_init_36 rfl (lv_at hl 0 rfl) ?_
  refine lv_bipush (v := 61) hx hb dX4_init_37 (by decide) ?_
  refine va_newa (atype := .long) (ty := .long) (N' := 61) (a0 := (61, .inr (.inl (fun _ => 0)))) hx hb (hts _ (List.mem_cons_of_mem _ wk_aJ)) rfl hK hP hD hS hA (fun _ => rfl) (by decide) (by decide) (by decide) (Nat.le_of_ble_eq_true rfl) (Nat.le_of_ble_eq_true rfl) dX4_init_39 (fun q4 cA H hK9 hP hD hS => ?_)
  have ecA : cA = T 1 := Option.some.inj ((hK9.2 6 _ rfl).2.symm.trans (hK.2 1 _ rfl).2)
  subst ecA
  have hP : va_P D cls7 [(h0, .inr (2, [.long 0, .long 0, .long 0, .long 0, .long 0, .long 0, .long 0, .int 0, .int 0, .int 0, .int 0, .int 0, .int 0, .ref q0, .ref q1, .ref q2, .ref q3, .null, .null])), (q0, .inl (T 0, 61, .inl (fun _ => 0))), (q1, .inl (T 1, 61, .inr (.inl (fun _ => 0)))), (q2, .inl (T 1, 61, .inr (.inl (fun _ => 0)))), (q3, .inl (T 1, 61, .inr (.inl (fun _ => 0)))), (q4, .inl (T 1, 61, .inr (.inl (fun _ => 0))))] H := hP
  have hD : va_D A [(h0, .inr (2, [.long 0, .long 0, .long 0, .long 0, .long 0, .long 0, .long 0, .int 0, .int 0, .int 0, .int 0, .int 0, .int 0, .ref q0, .ref q1, .ref q2, .ref q3, .null, .null])), (q0, .inl (T 0, 61, .inl (fun _ => 0))), (q1, .inl (T 1, 61, .inr (.inl (fun _ => 0)))), (q2, .inl (T 1, 61, .inr (.inl (fun _ => 0)))), (q3, .inl (T 1, 61, .inr (.inl (fun _ => 0)))), (q4, .inl (T 1, 61, .inr (.inl (fun _ => 0))))] := hD
  refine W.widen (k := 5) (n := 305) (Nat.le_of_ble_eq_true rfl) (Nat.le_of_ble_eq_true rfl) ?_
  refine va_putF (D := D) (ci := 2) (v := .ref q4) (ty := .array .long) (C := RX4) (T := TX4) (N := 19) hx hb hts (fun w hw => List.mem_cons_of_mem _ (c7_2.2.1 w hw)) tyX4 tyX4_ok nmX4 hown hK hP hD hS 0 rfl rfl 17 (by decide) (hts _ (List.mem_cons_of_mem _ wk_f_RX4_25)) (fun _ h9 => h9) rfl hin rfl (by decide +kernel) rfl rfl (Nat.le_of_ble_eq_true rfl) dX4_init_41 (fun H locs hP hD hS => ?_)
  have hP : va_P D cls7 [(h0, .inr (2, [.long 0, .long 0, .long 0, .long 0, .long 0, .long 0, .long 0, .int 0, .int 0, .int 0, .int 0, .int 0, .int 0, .ref q0, .ref q1, .ref q2, .ref q3, .ref q4, .null])), (q0, .inl (T 0, 61, .inl (fun _ => 0))), (q1, .inl (T 1, 61, .inr (.inl (fun _ => 0)))), (q2, .inl (T 1, 61, .inr (.inl (fun _ => 0)))), (q3, .inl (T 1, 61, .inr (.inl (fun _ => 0)))), (q4, .inl (T 1, 61, .inr (.inl (fun _ => 0))))] H := hP
  have hD : va_D A [(h0, .inr (2, [.long 0, .long 0, .long 0, .long 0, .long 0, .long 0, .long 0, .int 0, .int 0, .int 0, .int 0, .int 0, .int 0, .ref q0, .ref q1, .ref q2, .ref q3, .ref q4, .null])), (q0, .inl (T 0, 61, .inl (fun _ => 0))), (q1, .inl (T 1, 61, .inr (.inl (fun _ => 0)))), (q2, .inl (T 1, 61, .inr (.inl (fun _ => 0)))), (q3, .inl (T 1, 61, .inr (.inl (fun _ => 0)))), (q4, .inl (T 1, 61, .inr (.inl (fun _ => 0))))] := hD
  refine lv_aload_n hx hb dX4_init_44 rfl (lv_at hl 0 rfl) ?_
  refine lv_bipush (v := 61) hx hb dX4_init_45 (by decide) ?_
  refine va_newa (atype := .boolean) (ty := .boolean) (N' := 61) (a0 := (61, .inl (fun _ => 0))) hx hb (hts _ (List.mem_cons_of_mem _ wk_aZ)) rfl hK hP hD hS hA (fun _ => rfl) (by decide) (by decide) (by decide) (Nat.le_of_ble_eq_true rfl) (Nat.le_of_ble_eq_true rfl) dX4_init_47 (fun q5 cA H hK9 hP hD hS => ?_)
  have ecA : cA = T 2 := Option.some.inj ((hK9.2 6 _ rfl).2.symm.trans (hK.2 2 _ rfl).2)
  subst ecA
  have hP : va_P D cls7 [(h0, .inr (2, [.long 0, .long 0, .long 0, .long 0, .long 0, .long 0, .long 0, .int 0, .int 0, .int 0, .int 0, .int 0, .int 0, .ref q0, .ref q1, .ref q2, .ref q3, .ref q4, .null])), (q0, .inl (T 0, 61, .inl (fun _ => 0))), (q1, .inl (T 1, 61, .inr (.inl (fun _ => 0)))), (q2, .inl (T 1, 61, .inr (.inl (fun _ => 0)))), (q3, .inl (T 1, 61, .inr (.inl (fun _ => 0)))), (q4, .inl (T 1, 61, .inr (.inl (fun _ => 0)))), (q5, .inl (T 2, 61, .inl (fun _ => 0)))] H := hP
  have hD : va_D A [(h0, .inr (2, [.long 0, .long 0, .long 0, .long 0, .long 0, .long 0, .long 0, .int 0, .int 0, .int 0, .int 0, .int 0, .int 0, .ref q0, .ref q1, .ref q2, .ref q3, .ref q4, .null])), (q0, .inl (T 0, 61, .inl (fun _ => 0))), (q1, .inl (T 1, 61, .inr (.inl (fun _ => 0)))), (q2, .inl (T 1, 61, .inr (.inl (fun _ => 0)))), (q3, .inl (T 1, 61, .inr (.inl (fun _ => 0)))), (q4, .inl (T 1, 61, .inr (.inl (fun _ => 0)))), (q5, .inl (T 2, 61, .inl (fun _ => 0)))] := hD
  refine W.widen (k := 6) (n := 366) (Nat.le_of_ble_eq_true rfl) (Nat.le_of_ble_eq_true rfl) ?_
  refine va_putF (D := D) (ci := 2) (v := .ref q5) (ty := .array .boolean) (C := RX4) (T := TX4) (N := 19) hx hb hts (fun w hw => List.mem_cons_of_mem _ (c7_2.2.1 w hw)) tyX4 tyX4_ok nmX4 hown hK hP hD hS 0 rfl rfl 18 (by decide) (hts _ (List.mem_cons_of_mem _ wk_f_RX4_28)) (fun _ h9 => h9) rfl hin rfl (by decide +kernel) rfl rfl (Nat.le_of_ble_eq_true rfl) dX4_init_49 (fun H locs hP hD hS => ?_)
  have hP : va_P D cls7 [(h0, .inr (2, [.long 0, .long 0, .long 0, .long 0, .long 0, .long 0, .long 0, .int 0, .int 0, .int 0, .int 0, .int 0, .int 0, .ref q0, .ref q1, .ref q2, .ref q3, .ref q4, .ref q5])), (q0, .inl (T 0, 61, .inl (fun _ => 0))), (q1, .inl (T 1, 61, .inr (.inl (fun _ => 0)))), (q2, .inl (T 1, 61, .inr (.inl (fun _ => 0)))), (q3, .inl (T 1, 61, .inr (.inl (fun _ => 0)))), (q4, .inl (T 1, 61, .inr (.inl (fun _ => 0)))), (q5, .inl (T 2, 61, .inl (fun _ => 0)))] H := hP
  have hD : va_D A [(h0, .inr (2, [.long 0, .long 0, .long 0, .long 0, .long 0, .long 0, .long 0, .int 0, .int 0, .int 0, .int 0, .int 0, .int 0, .ref q0, .ref q1, .ref q2, .ref q3, .ref q4, .ref q5])), (q0, .inl (T 0, 61, .inl (fun _ => 0))), (q1, .inl (T 1, 61, .inr (.inl (fun _ => 0)))), (q2, .inl (T 1, 61, .inr (.inl (fun _ => 0)))), (q3, .inl (T 1, 61, .inr (.inl (fun _ => 0)))), (q4, .inl (T 1, 61, .inr (.inl (fun _ => 0)))), (q5, .inl (T 2, 61, .inl (fun _ => 0)))] := hD
  exact W.vret hx hb hr (fun t ht hW => ⟨⟨(fun k => match k with | 0 => q0 | 1 => q1 | 2 => q2 | 3 => q3 | 4 => q4 | _ => q5), rfl, trivial, by rw [ht]; exact hP, hD⟩, hS.F ht⟩) hS.2.2 dX4_init_52
def w_X5 (T : Nat → ClassId) (h0 : Nat) (q : Nat → Nat) : va_W := [(h0, .inr (3, [.int 0, .int 0, .ref (q 0), .ref (q 1), .ref (q 2)])), ((q 0), .inl (T 1, 61, .inr (.inl (fun _ => 0)))), ((q 1), .inl (T 1, 61, .inr (.inl (fun _ => 0)))), ((q 2), .inl (T 1, 61, .inr (.inl (fun _ => 0))))]
def rm_X5_init : Room := { frames := 1, cells := 3, slots := 183, locals := 12 }
set_option maxHeartbeats 4000000 in
set_option maxRecDepth 100000 in
theorem k_X5 (l : Launch) (D : va_G) (T : Nat → ClassId) (h0 sz : Nat) : Met l yX5_init (wsM yX5_init cX5_init 1 none) rm_X5_init (va_Pc [.ref h0] (fun U => U.heap.size = sz ∧ va_P D cls7 [(h0, .inr (3, [.int 0, .int 0, .null, .null, .null]))] U.heap ∧ CK D T U)) (va_Qv (fun _ : Nat → Nat => True) (fun q t => va_P D cls7 (w_X5 T h0 q) t.heap ∧ va_D (va_A [(h0, .inr (3, [.int 0, .int 0, .null, .null, .null]))] sz) (w_X5 T h0 q)) (va_A [(h0, .inr (3, [.int 0, .int 0, .null, .null, .null]))] sz)) 3 183 (va_A [(h0, .inr (3, [.int 0, .int 0, .null, .null, .null]))] sz) := by
  refine Met.ofW (cc := cX5_init) (maxL := 1) (ret := none) (by decide) rfl ?_
  intro p e s m args below meth c s₁ B hml hv
  obtain ⟨rfl, hsz, hP, hCK⟩ := hv
  have hK := hCK.1
  have hx := B.exec
  have hb := B.bytes
  have hr := B.returns
  have hts := atoms_spec (ws := wsM yX5_init cX5_init 1 none) B.pre
  have hown : s.vm.findClass RX5 = some m.cls := findClass_of_methodNamed B.named
  have hin : meth.name = "<init>" := (name_of_methodNamed B.named B.method).1
  subst hsz
  have hD0 : va_D (fun _ => True) [(h0, .inr (3, [.int 0, .int 0, .null, .null, .null]))] := va_D1 h0 _
  have hD := hD0.self (sz := s.heap.size)
  generalize hAe : va_A [(h0, .inr (3, [.int 0, .int 0, .null, .null, .null]))] s.heap.size = A at hD ⊢
  have hA : ∀ q : Nat, s.heap.size ≤ q → A q := fun q h => by rw [← hAe]; exact Or.inr h
  have hS : va_S A s.heap s.heap [] := va_S.rf
  have hP : va_P D cls7 [(h0, .inr (3, [.int 0, .int 0, .null, .null, .null]))] s.heap := hP
  have hl := lv_entry ([.ref h0]) (n := 1) (Nat.le_of_ble_eq_true rfl)
  rw [lg_entry_eq]
  generalize (lg_sl ([.ref h0]) ++ List.replicate (1 - (lg_sl ([.ref h0])).length) Slot.unset).toArray = ls at hl ⊢
  have hl : lv_has ls 1 [(0, .ref h0)] := hl
  refine lv_aload_n hx hb dX5_init_0 rfl (lv_at hl 0 rfl) ?_
  refine W.objInit hx hb hown (hts _ (List.mem_cons_of_mem _ wk_ob_X5)) (hts _ (List.mem_cons_of_mem _ wk_oi)) (hts _ (List.mem_cons_of_mem _ wk_oc)) rfl (by rw [hml]; exact hl.1) rfl dX5_init_1 (Nat.le_of_ble_eq_true rfl) (Nat.le_of_ble_eq_true rfl) ?_
  refine W.eq (g2 := F0 m 4 ls []) rfl ?_
  refine lv_aload_n hx hb dX5_init_4 rfl (lv_at hl 0 rfl) ?_
  refine lv_iconst (v := 0) hx hb dX5_init_5 (by decide) ?_
  refine va_put (D := D) (ci := 3) (v := .int 0) (ty := .int) (C := RX5) (T := TX5) (N := 5) hx hb hts (fun w hw => List.mem_cons_of_mem _ (c7_3.2.1 w hw)) tyX5 tyX5_ok nmX5 hown hK hP hD hS 0 rfl rfl 0 (by decide) (hts _ (List.mem_cons_of_mem _ wk_f_RX5_9)) (fun _ h9 => h9) rfl (by decide +kernel) rfl rfl (Nat.le_of_ble_eq_true rfl) dX5_init_6 (fun H locs hP hD hS => ?_)
  have hP : va_P D cls7 [(h0, .inr (3, [.int 0, .int 0, .null, .null, .null]))] H := hP
  have hD : va_D A [(h0, .inr (3, [.int 0, .int 0, .null, .null, .null]))] := hD
  refine lv_aload_n hx hb dX5_init_9 rfl (lv_at hl 0 rfl) ?_
  refine lv_iconst (v := 0) hx hb dX5_init_10 (by decide) ?_
  refine va_put (D := D) (ci := 3) (v := .int 0) (ty := .int) (C := RX5) (T := TX5) (N := 5) hx hb hts (fun w hw => List.mem_cons_of_mem _ (c7_3.2.1 w hw)) tyX5 tyX5_ok nmX5 hown hK hP hD hS 0 rfl rfl 1 (by decide) (hts _ (List.mem_cons_of_mem _ wk_f_RX5_15)) (fun _ h9 => h9) rfl (by decide +kernel) rfl rfl (Nat.le_of_ble_eq_true rfl) dX5_init_11 (fun H locs hP hD hS => ?_)
  have hP : va_P D cls7 [(h0, .inr (3, [.int 0, .int 0, .null, .null, .null]))] H := hP
  have hD : va_D A [(h0, .inr (3, [.int 0, .int 0, .null, .null, .null]))] := hD
  refine lv_aload_n hx hb dX5_init_14 rfl (lv_at hl 0 rfl) ?_
  refine lv_bipush (v := 61) hx hb dX5_init_15 (by decide) ?_
  refine va_newa (atype := .long) (ty := .long) (N' := 61) (a0 := (61, .inr (.inl (fun _ => 0)))) hx hb (hts _ (List.mem_cons_of_mem _ wk_aJ)) rfl hK hP hD hS hA (fun _ => rfl) (by decide) (by decide) (by decide) (Nat.le_of_ble_eq_true rfl) (Nat.le_of_ble_eq_true rfl) dX5_init_17 (fun q0 cA H hK9 hP hD hS => ?_)
  have ecA : cA = T 1 := Option.some.inj ((hK9.2 6 _ rfl).2.symm.trans (hK.2 1 _ rfl).2)
  subst ecA
  have hP : va_P D cls7 [(h0, .inr (3, [.int 0, .int 0, .null, .null, .null])), (q0, .inl (T 1, 61, .inr (.inl (fun _ => 0))))] H := hP
  have hD : va_D A [(h0, .inr (3, [.int 0, .int 0, .null, .null, .null])), (q0, .inl (T 1, 61, .inr (.inl (fun _ => 0))))] := hD
  refine W.widen (k := 1) (n := 61) (Nat.le_of_ble_eq_true rfl) (Nat.le_of_ble_eq_true rfl) ?_
  refine va_putF (D := D) (ci := 3) (v := .ref q0) (ty := .array .long) (C := RX5) (T := TX5) (N := 5) hx hb hts (fun w hw => List.mem_cons_of_mem _ (c7_3.2.1 w hw)) tyX5 tyX5_ok nmX5 hown hK hP hD hS 0 rfl rfl 2 (by decide) (hts _ (List.mem_cons_of_mem _ wk_f_RX5_18)) (fun _ h9 => h9) rfl hin rfl (by decide +kernel) rfl rfl (Nat.le_of_ble_eq_true rfl) dX5_init_19 (fun H locs hP hD hS => ?_)
  have hP : va_P D cls7 [(h0, .inr (3, [.int 0, .int 0, .ref q0, .null, .null])), (q0, .inl (T 1, 61, .inr (.inl (fun _ => 0))))] H := hP
  have hD : va_D A [(h0, .inr (3, [.int 0, .int 0, .ref q0, .null, .null])), (q0, .inl (T 1, 61, .inr (.inl (fun _ => 0))))] := hD
  refine lv_aload_n hx hb dX5_init_22 rfl (lv_at hl 0 rfl) ?_
  refine lv_bipush (v := 61) hx hb dX5_init_23 (by decide) ?_
  refine va_newa (atype := .long) (ty := .long) (N' := 61) (a0 := (61, .inr (.inl (fun _ => 0)))) hx hb (hts _ (List.mem_cons_of_mem _ wk_aJ)) rfl hK hP hD hS hA (fun _ => rfl) (by decide) (by decide) (by decide) (Nat.le_of_ble_eq_true rfl) (Nat.le_of_ble_eq_true rfl) dX5_init_25 (fun q1 cA H hK9 hP hD hS => ?_)
  have ecA : cA = T 1 := Option.some.inj ((hK9.2 6 _ rfl).2.symm.trans (hK.2 1 _ rfl).2)
  subst ecA
  have hP : va_P D cls7 [(h0, .inr (3, [.int 0, .int 0, .ref q0, .null, .null])), (q0, .inl (T 1, 61, .inr (.inl (fun _ => 0)))), (q1, .inl (T 1, 61, .inr (.inl (fun _ => 0))))] H := hP
  have hD : va_D A [(h0, .inr (3, [.int 0, .int 0, .ref q0, .null, .null])), (q0, .inl (T 1, 61, .inr (.inl (fun _ => 0)))), (q1, .inl (T 1, 61, .inr (.inl (fun _ => 0))))] := hD
  refine W.widen (k := 2) (n := 122) (Nat.le_of_ble_eq_true rfl) (Nat.le_of_ble_eq_true rfl) ?_
  refine va_putF (D := D) (ci := 3) (v := .ref q1) (ty := .array .long) (C := RX5) (T := TX5) (N := 5) hx hb hts (fun w hw => List.mem_cons_of_mem _ (c7_3.2.1 w hw)) tyX5 tyX5_ok nmX5 hown hK hP hD hS 0 rfl rfl 3 (by decide) (hts _ (List.mem_cons_of_mem _ wk_f_RX5_22)) (fun _ h9 => h9) rfl hin rfl (by decide +kernel) rfl rfl (Nat.le_of_ble_eq_true rfl) dX5_init_27 (fun H locs hP hD hS => ?_)
  have hP : va_P D cls7 [(h0, .inr (3, [.int 0, .int 0, .ref q0, .ref q1, .null])), (q0, .inl (T 1, 61, .inr (.inl (fun _ => 0)))), (q1, .inl (T 1, 61, .inr (.inl (fun _ => 0))))] H := hP
  have hD : va_D A [(h0, .inr (3, [.int 0, .int 0, .ref q0, .ref q1, .null])), (q0, .inl (T 1, 61, .inr (.inl (fun _ => 0)))), (q1, .inl (T 1, 61, .inr (.inl (fun _ => 0))))] := hD
  refine lv_aload_n hx hb dX5_init_30 rfl (lv_at hl 0 rfl) ?_
  refine lv_bipush (v := 61) hx hb dX5_init_31 (by decide) ?_
  refine va_newa (atype := .long) (ty := .long) (N' := 61) (a0 := (61, .inr (.inl (fun _ => 0)))) hx hb (hts _ (List.mem_cons_of_mem _ wk_aJ)) rfl hK hP hD hS hA (fun _ => rfl) (by decide) (by decide) (by decide) (Nat.le_of_ble_eq_true rfl) (Nat.le_of_ble_eq_true rfl) dX5_init_33 (fun q2 cA H hK9 hP hD hS => ?_)
  have ecA : cA = T 1 := Option.some.inj ((hK9.2 6 _ rfl).2.symm.trans (hK.2 1 _ rfl).2)
  subst ecA
  have hP : va_P D cls7 [(h0, .inr (3, [.int 0, .int 0, .ref q0, .ref q1, .null])), (q0, .inl (T 1, 61, .inr (.inl (fun _ => 0)))), (q1, .inl (T 1, 61, .inr (.inl (fun _ => 0)))), (q2, .inl (T 1, 61, .inr (.inl (fun _ => 0))))] H := hP
  have hD : va_D A [(h0, .inr (3, [.int 0, .int 0, .ref q0, .ref q1, .null])), (q0, .inl (T 1, 61, .inr (.inl (fun _ => 0)))), (q1, .inl (T 1, 61, .inr (.inl (fun _ => 0)))), (q2, .inl (T 1, 61, .inr (.inl (fun _ => 0))))] := hD
  refine W.widen (k := 3) (n := 183) (Nat.le_of_ble_eq_true rfl) (Nat.le_of_ble_eq_true rfl) ?_
  refine va_putF (D := D) (ci := 3) (v := .ref q2) (ty := .array .long) (C := RX5) (T := TX5) (N := 5) hx hb hts (fun w hw => List.mem_cons_of_mem _ (c7_3.2.1 w hw)) tyX5 tyX5_ok nmX5 hown hK hP hD hS 0 rfl rfl 4 (by decide) (hts _ (List.mem_cons_of_mem _ wk_f_RX5_25)) (fun _ h9 => h9) rfl hin rfl (by decide +kernel) rfl rfl (Nat.le_of_ble_eq_true rfl) dX5_init_35 (fun H locs hP hD hS => ?_)
  have hP : va_P D cls7 [(h0, .inr (3, [.int 0, .int 0, .ref q0, .ref q1, .ref q2])), (q0, .inl (T 1, 61, .inr (.inl (fun _ => 0)))), (q1, .inl (T 1, 61, .inr (.inl (fun _ => 0)))), (q2, .inl (T 1, 61, .inr (.inl (fun _ => 0))))] H := hP
  have hD : va_D A [(h0, .inr (3, [.int 0, .int 0, .ref q0, .ref q1, .ref q2])), (q0, .inl (T 1, 61, .inr (.inl (fun _ => 0)))), (q1, .inl (T 1, 61, .inr (.inl (fun _ => 0)))), (q2, .inl (T 1, 61, .inr (.inl (fun _ => 0))))] := hD
  exact W.vret hx hb hr (fun t ht hW => ⟨⟨(fun k => match k with | 0 => q0 | 1 => q1 | _ => q2), rfl, trivial, by rw [ht]; exact hP, hD⟩, hS.F ht⟩) hS.2.2 dX5_init_38
def w_X6 (T : Nat → ClassId) (h0 : Nat) (q : Nat → Nat) : va_W := [(h0, .inr (4, [.int 0, .int 0, .int (-1), .ref (q 0), .ref (q 1)])), ((q 0), .inl (T 0, 120, .inl (fun _ => 0))), ((q 1), .inl (T 0, 6, .inl (fun _ => 0)))]
def rm_X6_init : Room := { frames := 1, cells := 2, slots := 126, locals := 12 }
set_option maxHeartbeats 4000000 in
set_option maxRecDepth 100000 in
theorem k_X6 (l : Launch) (D : va_G) (T : Nat → ClassId) (h0 sz : Nat) : Met l yX6_init (wsM yX6_init cX6_init 1 none) rm_X6_init (va_Pc [.ref h0] (fun U => U.heap.size = sz ∧ va_P D cls7 [(h0, .inr (4, [.int 0, .int 0, .int 0, .null, .null]))] U.heap ∧ CK D T U)) (va_Qv (fun _ : Nat → Nat => True) (fun q t => va_P D cls7 (w_X6 T h0 q) t.heap ∧ va_D (va_A [(h0, .inr (4, [.int 0, .int 0, .int 0, .null, .null]))] sz) (w_X6 T h0 q)) (va_A [(h0, .inr (4, [.int 0, .int 0, .int 0, .null, .null]))] sz)) 2 126 (va_A [(h0, .inr (4, [.int 0, .int 0, .int 0, .null, .null]))] sz) := by
  refine Met.ofW (cc := cX6_init) (maxL := 1) (ret := none) (by decide) rfl ?_
  intro p e s m args below meth c s₁ B hml hv
  obtain ⟨rfl, hsz, hP, hCK⟩ := hv
  have hK := hCK.1
  have hx := B.exec
  have hb := B.bytes
  have hr := B.returns
  have hts := atoms_spec (ws := wsM yX6_init cX6_init 1 none) B.pre
  have hown : s.vm.findClass RX6 = some m.cls := findClass_of_methodNamed B.named
  have hin : meth.name = "<init>" := (name_of_methodNamed B.named B.method).1
  subst hsz
  have hD0 : va_D (fun _ => True) [(h0, .inr (4, [.int 0, .int 0, .int 0, .null, .null]))] := va_D1 h0 _
  have hD := hD0.self (sz := s.heap.size)
  generalize hAe : va_A [(h0, .inr (4, [.int 0, .int 0, .int 0, .null, .null]))] s.heap.size = A at hD ⊢
  have hA : ∀ q : Nat, s.heap.size ≤ q → A q := fun q h => by rw [← hAe]; exact Or.inr h
  have hS : va_S A s.heap s.heap [] := va_S.rf
  have hP : va_P D cls7 [(h0, .inr (4, [.int 0, .int 0, .int 0, .null, .null]))] s.heap := hP
  have hl := lv_entry ([.ref h0]) (n := 1) (Nat.le_of_ble_eq_true rfl)
  rw [lg_entry_eq]
  generalize (lg_sl ([.ref h0]) ++ List.replicate (1 - (lg_sl ([.ref h0])).length) Slot.unset).toArray = ls at hl ⊢
  have hl : lv_has ls 1 [(0, .ref h0)] := hl
  refine lv_aload_n hx hb dX6_init_0 rfl (lv_at hl 0 rfl) ?_
  refine W.objInit hx hb hown (hts _ (List.mem_cons_of_mem _ wk_ob_X6)) (hts _ (List.mem_cons_of_mem _ wk_oi)) (hts _ (List.mem_cons_of_mem _ wk_oc)) rfl (by rw [hml]; exact hl.1) rfl dX6_init_1 (Nat.le_of_ble_eq_true rfl) (Nat.le_of_ble_eq_true rfl) ?_
  refine W.eq (g2 := F0 m 4 ls []) rfl ?_
  refine lv_aload_n hx hb dX6_init_4 rfl (lv_at hl 0 rfl) ?_
  refine lv_iconst (v := 0) hx hb dX6_init_5 (by decide) ?_
  refine va_put (D := D) (ci := 4) (v := .int 0) (ty := .int) (C := RX6) (T := TX6) (N := 5) hx hb hts (fun w hw => List.mem_cons_of_mem _ (c7_4.2.1 w hw)) tyX6 tyX6_ok nmX6 hown hK hP hD hS 0 rfl rfl 0 (by decide) (hts _ (List.mem_cons_of_mem _ wk_f_RX6_9)) (fun _ h9 => h9) rfl (by decide +kernel) rfl rfl (Nat.le_of_ble_eq_true rfl) dX6_init_6 (fun H locs hP hD hS => ?_)
  have hP : va_P D cls7 [(h0, .inr (4, [.int 0, .int 0, .int 0, .null, .null]))] H := hP
  have hD : va_D A [(h0, .inr (4, [.int 0, .int 0, .int 0, .null, .null]))] := hD
  refine lv_aload_n hx hb dX6_init_9 rfl (lv_at hl 0 rfl) ?_
  refine lv_iconst (v := 0) hx hb dX6_init_10 (by decide) ?_
  refine va_put (D := D) (ci := 4) (v := .int 0) (ty := .int) (C := RX6) (T := TX6) (N := 5) hx hb hts (fun w hw => List.mem_cons_of_mem _ (c7_4.2.1 w hw)) tyX6 tyX6_ok nmX6 hown hK hP hD hS 0 rfl rfl 1 (by decide) (hts _ (List.mem_cons_of_mem _ wk_f_RX6_15)) (fun _ h9 => h9) rfl (by decide +kernel) rfl rfl (Nat.le_of_ble_eq_true rfl) dX6_init_11 (fun H locs hP hD hS => ?_)
  have hP : va_P D cls7 [(h0, .inr (4, [.int 0, .int 0, .int 0, .null, .null]))] H := hP
  have hD : va_D A [(h0, .inr (4, [.int 0, .int 0, .int 0, .null, .null]))] := hD
  refine lv_aload_n hx hb dX6_init_14 rfl (lv_at hl 0 rfl) ?_
  refine lv_iconst (v := (-1)) hx hb dX6_init_15 (by decide) ?_
  refine va_put (D := D) (ci := 4) (v := .int (-1)) (ty := .int) (C := RX6) (T := TX6) (N := 5) hx hb hts (fun w hw => List.mem_cons_of_mem _ (c7_4.2.1 w hw)) tyX6 tyX6_ok nmX6 hown hK hP hD hS 0 rfl rfl 2 (by decide) (hts _ (List.mem_cons_of_mem _ wk_f_RX6_18)) (fun _ h9 => h9) rfl (by decide +kernel) rfl rfl (Nat.le_of_ble_eq_true rfl) dX6_init_16 (fun H locs hP hD hS => ?_)
  have hP : va_P D cls7 [(h0, .inr (4, [.int 0, .int 0, .int (-1), .null, .null]))] H := hP
  have hD : va_D A [(h0, .inr (4, [.int 0, .int 0, .int (-1), .null, .null]))] := hD
  refine lv_aload_n hx hb dX6_init_19 rfl (lv_at hl 0 rfl) ?_
  refine lv_bipush (v := 120) hx hb dX6_init_20 (by decide) ?_
  refine va_newa (atype := .int) (ty := .int) (N' := 120) (a0 := (120, .inl (fun _ => 0))) hx hb (hts _ (List.mem_cons_of_mem _ wk_aI)) rfl hK hP hD hS hA (fun _ => rfl) (by decide) (by decide) (by decide) (Nat.le_of_ble_eq_true rfl) (Nat.le_of_ble_eq_true rfl) dX6_init_22 (fun q0 cA H hK9 hP hD hS => ?_)
  have ecA : cA = T 0 := Option.some.inj ((hK9.2 6 _ rfl).2.symm.trans (hK.2 0 _ rfl).2)
  subst ecA
  have hP : va_P D cls7 [(h0, .inr (4, [.int 0, .int 0, .int (-1), .null, .null])), (q0, .inl (T 0, 120, .inl (fun _ => 0)))] H := hP
  have hD : va_D A [(h0, .inr (4, [.int 0, .int 0, .int (-1), .null, .null])), (q0, .inl (T 0, 120, .inl (fun _ => 0)))] := hD
  refine W.widen (k := 1) (n := 120) (Nat.le_of_ble_eq_true rfl) (Nat.le_of_ble_eq_true rfl) ?_
  refine va_putF (D := D) (ci := 4) (v := .ref q0) (ty := .array .int) (C := RX6) (T := TX6) (N := 5) hx hb hts (fun w hw => List.mem_cons_of_mem _ (c7_4.2.1 w hw)) tyX6 tyX6_ok nmX6 hown hK hP hD hS 0 rfl rfl 3 (by decide) (hts _ (List.mem_cons_of_mem _ wk_f_RX6_21)) (fun _ h9 => h9) rfl hin rfl (by decide +kernel) rfl rfl (Nat.le_of_ble_eq_true rfl) dX6_init_24 (fun H locs hP hD hS => ?_)
  have hP : va_P D cls7 [(h0, .inr (4, [.int 0, .int 0, .int (-1), .ref q0, .null])), (q0, .inl (T 0, 120, .inl (fun _ => 0)))] H := hP
  have hD : va_D A [(h0, .inr (4, [.int 0, .int 0, .int (-1), .ref q0, .null])), (q0, .inl (T 0, 120, .inl (fun _ => 0)))] := hD
  refine lv_aload_n hx hb dX6_init_27 rfl (lv_at hl 0 rfl) ?_
  refine lv_bipush (v := 6) hx hb dX6_init_28 (by decide) ?_
  refine va_newa (atype := .int) (ty := .int) (N' := 6) (a0 := (6, .inl (fun _ => 0))) hx hb (hts _ (List.mem_cons_of_mem _ wk_aI)) rfl hK hP hD hS hA (fun _ => rfl) (by decide) (by decide) (by decide) (Nat.le_of_ble_eq_true rfl) (Nat.le_of_ble_eq_true rfl) dX6_init_30 (fun q1 cA H hK9 hP hD hS => ?_)
  have ecA : cA = T 0 := Option.some.inj ((hK9.2 6 _ rfl).2.symm.trans (hK.2 0 _ rfl).2)
  subst ecA
  have hP : va_P D cls7 [(h0, .inr (4, [.int 0, .int 0, .int (-1), .ref q0, .null])), (q0, .inl (T 0, 120, .inl (fun _ => 0))), (q1, .inl (T 0, 6, .inl (fun _ => 0)))] H := hP
  have hD : va_D A [(h0, .inr (4, [.int 0, .int 0, .int (-1), .ref q0, .null])), (q0, .inl (T 0, 120, .inl (fun _ => 0))), (q1, .inl (T 0, 6, .inl (fun _ => 0)))] := hD
  refine W.widen (k := 2) (n := 126) (Nat.le_of_ble_eq_true rfl) (Nat.le_of_ble_eq_true rfl) ?_
  refine va_putF (D := D) (ci := 4) (v := .ref q1) (ty := .array .int) (C := RX6) (T := TX6) (N := 5) hx hb hts (fun w hw => List.mem_cons_of_mem _ (c7_4.2.1 w hw)) tyX6 tyX6_ok nmX6 hown hK hP hD hS 0 rfl rfl 4 (by decide) (hts _ (List.mem_cons_of_mem _ wk_f_RX6_25)) (fun _ h9 => h9) rfl hin rfl (by decide +kernel) rfl rfl (Nat.le_of_ble_eq_true rfl) dX6_init_32 (fun H locs hP hD hS => ?_)
  have hP : va_P D cls7 [(h0, .inr (4, [.int 0, .int 0, .int (-1), .ref q0, .ref q1])), (q0, .inl (T 0, 120, .inl (fun _ => 0))), (q1, .inl (T 0, 6, .inl (fun _ => 0)))] H := hP
  have hD : va_D A [(h0, .inr (4, [.int 0, .int 0, .int (-1), .ref q0, .ref q1])), (q0, .inl (T 0, 120, .inl (fun _ => 0))), (q1, .inl (T 0, 6, .inl (fun _ => 0)))] := hD
  exact W.vret hx hb hr (fun t ht hW => ⟨⟨(fun k => match k with | 0 => q0 | _ => q1), rfl, trivial, by rw [ht]; exact hP, hD⟩, hS.F ht⟩) hS.2.2 dX6_init_35
