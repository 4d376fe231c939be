/-! THE BOOK'S CONSTRUCTOR -/
theorem va_AOA.moved {ty : FieldType} {u U : State} (hal : u.vm.Alike U.vm) (h : va_AOA ty u) : va_AOA ty U := by
  unfold va_AOA at *
  simp only [Cond.before, Cond.holds, Cond.value] at h ⊢
  rw [hal.findClass]
  cases hf : u.vm.findClass (FieldType.array ty).toString with
  | none => rw [hf] at h; simp at h
  | some comp =>
    rw [hf] at h
    simp only [Option.bind_some] at h ⊢
    rw [hal.findIdx_congr _ (fun _ _ _ _ => rfl)]
    generalize hF : (u.vm.classes.findIdx? fun (x : Class) => match x.kind with | .array component _ => component == comp | _ => false) = fi at h ⊢
    cases fi with
    | none => simp at h
    | some c =>
      simp only [Option.bind_some] at h ⊢
      cases hk : u.vm.classes[c]? with
      | none => rw [hk] at h; simp at h
      | some k =>
        obtain ⟨k', hk', he⟩ := hal.2.2 _ _ hk
        rw [hk] at h
        rw [hk']
        simp only [Option.map_some] at h ⊢
        rw [he, hal.findClass]
        exact h
theorem CK.alike {D : va_G} {T : Nat → ClassId} {s U : State} (h : CK D T s) (hW : s.WarmedH U.vm) : CK D T U :=
  ⟨va_K.moved hW.alike h.1, ⟨h.2.1.1.moved hW.alike, h.2.1.2.1.moved hW.alike, h.2.1.2.2.moved hW.alike⟩, va_Nw.warmM hW h.2.2.1, va_Nw.warmM hW h.2.2.2.1, va_Nw.warmM hW h.2.2.2.2.1, va_Nw.warmM hW h.2.2.2.2.2.1, va_Nw.warmM hW h.2.2.2.2.2.2⟩
theorem CK.calling {D : va_G} {T : Nat → ClassId} {U : State} {g : JFrame} {mk : MethodId} {a : Array Value} (h : CK D T U) : CK D T (U.calling g mk a) :=
  ⟨va_K.moved (u := U) (U := U.calling g mk a) (Vm.Alike.refl U.vm) h.1, ⟨h.2.1.1.moved (U := U.calling g mk a) (Vm.Alike.refl U.vm), h.2.1.2.1.moved (U := U.calling g mk a) (Vm.Alike.refl U.vm), h.2.1.2.2.moved (U := U.calling g mk a) (Vm.Alike.refl U.vm)⟩, va_Nw.same (u := U) (U := U.calling g mk a) rfl rfl h.2.2.1, va_Nw.same (u := U) (U := U.calling g mk a) rfl rfl h.2.2.2.1, va_Nw.same (u := U) (U := U.calling g mk a) rfl rfl h.2.2.2.2.1, va_Nw.same (u := U) (U := U.calling g mk a) rfl rfl h.2.2.2.2.2.1, va_Nw.same (u := U) (U := U.calling g mk a) rfl rfl h.2.2.2.2.2.2⟩
theorem FBc {av : List Value} {D : va_G} {T : Nat → ClassId} {sz : Nat} {ws : va_W} : FrameBlind (va_Pc av (fun U => U.heap.size = sz ∧ va_P D cls7 ws U.heap ∧ CK D T U)) := fun _ _ _ _ h => ⟨h.1, h.2.1, h.2.2.1, h.2.2.2.calling⟩
theorem goodI {y : MethodName} {cc : ByteArray} {nL : Nat} (h : Cond.code y cc nL none ∈ lw_good) : GoodIn lw_good (wsM y cc nL none) := goodM h
theorem zf_X1 : ∀ j, j < 5 → defaultValue (tyX1 j) = vp_V [.int 0, .int 0, .int 0, .int 0, .null] j := fun j hj => match j, hj with | 0, _ => rfl | 1, _ => rfl | 2, _ => rfl | 3, _ => rfl | 4, _ => rfl | k + 5, h => absurd h (by omega)
theorem zf_X3 : ∀ j, j < 5 → defaultValue (tyX3 j) = vp_V [.int 0, .int 0, .int 0, .long 0, .null] j := fun j hj => match j, hj with | 0, _ => rfl | 1, _ => rfl | 2, _ => rfl | 3, _ => rfl | 4, _ => rfl | k + 5, h => absurd h (by omega)
theorem zf_X4 : ∀ j, j < 19 → defaultValue (tyX4 j) = vp_V [.long 0, .long 0, .long 0, .long 0, .long 0, .long 0, .long 0, .int 0, .int 0, .int 0, .int 0, .int 0, .int 0, .null, .null, .null, .null, .null, .null] j := fun j hj => match j, hj with | 0, _ => rfl | 1, _ => rfl | 2, _ => rfl | 3, _ => rfl | 4, _ => rfl | 5, _ => rfl | 6, _ => rfl | 7, _ => rfl | 8, _ => rfl | 9, _ => rfl | 10, _ => rfl | 11, _ => rfl | 12, _ => rfl | 13, _ => rfl | 14, _ => rfl | 15, _ => rfl | 16, _ => rfl | 17, _ => rfl | 18, _ => rfl | k + 19, h => absurd h (by omega)
theorem zf_X5 : ∀ j, j < 5 → defaultValue (tyX5 j) = vp_V [.int 0, .int 0, .null, .null, .null] j := fun j hj => match j, hj with | 0, _ => rfl | 1, _ => rfl | 2, _ => rfl | 3, _ => rfl | 4, _ => rfl | k + 5, h => absurd h (by omega)
theorem zf_X6 : ∀ j, j < 5 → defaultValue (tyX6 j) = vp_V [.int 0, .int 0, .int 0, .null, .null] j := fun j hj => match j, hj with | 0, _ => rfl | 1, _ => rfl | 2, _ => rfl | 3, _ => rfl | 4, _ => rfl | k + 5, h => absurd h (by omega)
theorem zf_X7 : ∀ j, j < 8 → defaultValue (tyX7 j) = vp_V [.null, .null, .null, .int 0, .null, .null, .null, .null] j := fun j hj => match j, hj with | 0, _ => rfl | 1, _ => rfl | 2, _ => rfl | 3, _ => rfl | 4, _ => rfl | 5, _ => rfl | 6, _ => rfl | 7, _ => rfl | k + 8, h => absurd h (by omega)
theorem zf_X8 : ∀ j, j < 22 → defaultValue (tyX8 j) = vp_V [.null, .null, .null, .null, .int 0, .null, .null, .null, .null, .int 0, .null, .null, .int 0, .null, .null, .null, .null, .null, .null, .int 0, .int 0, .null] j := fun j hj => match j, hj with | 0, _ => rfl | 1, _ => rfl | 2, _ => rfl | 3, _ => rfl | 4, _ => rfl | 5, _ => rfl | 6, _ => rfl | 7, _ => rfl | 8, _ => rfl | 9, _ => rfl | 10, _ => rfl | 11, _ => rfl | 12, _ => rfl | 13, _ => rfl | 14, _ => rfl | 15, _ => rfl | 16, _ => rfl | 17, _ => rfl | 18, _ => rfl | 19, _ => rfl | 20, _ => rfl | 21, _ => rfl | k + 22, h => absurd h (by omega)
/-- i loans, one behind the other -/
def lps (T : Nat → ClassId) (ad : Nat → Nat) : Nat → va_W
  | 0 => []
  | i + 1 => lps T ad i ++ w_X4 T (ad (7 * i)) (fun k => ad (7 * i + 1 + k))
def bw (T : Nat → ClassId) (h0 qa : Nat) (ad : Nat → Nat) (i : Nat) : va_W := [(h0, .inr (0, [.int 0, .int 10, .int 500, .int 0, .ref qa])), (qa, .inl (T 4, 8, .inr (.inr (.inr (.inr (fun j => if j < i then some (ad (7 * j)) else none))))))] ++ lps T ad i
theorem w_X4_cg {T : Nat → ClassId} {h h' : Nat} {q q' : Nat → Nat} (e : h = h') (e2 : ∀ k, k < 6 → q k = q' k) : w_X4 T h q = w_X4 T h' q' := by
  subst e
  unfold w_X4
  rw [e2 0 (by omega), e2 1 (by omega), e2 2 (by omega), e2 3 (by omega), e2 4 (by omega), e2 5 (by omega)]
theorem lps_cg {T : Nat → ClassId} {ad ad' : Nat → Nat} : ∀ i, (∀ c, c < 7 * i → ad c = ad' c) → lps T ad i = lps T ad' i
  | 0, _ => rfl
  | i + 1, h => by
    unfold lps
    rw [lps_cg i (fun c hc => h c (by omega)), w_X4_cg (h (7 * i) (by omega)) (fun k hk => h (7 * i + 1 + k) (by omega))]
/-- the addresses, one loan more -/
def adN (ad : Nat → Nat) (i q : Nat) (u : Nat → Nat) : Nat → Nat := fun c => if c < 7 * i then ad c else if c = 7 * i then q else u (c - 7 * i - 1)
theorem bw_next (T : Nat → ClassId) (h0 qa : Nat) (ad : Nat → Nat) {i : Nat} (q : Nat) (u : Nat → Nat) : bw T h0 qa (adN ad i q u) (i + 1) = ([(h0, .inr (0, [.int 0, .int 10, .int 500, .int 0, .ref qa])), (qa, .inl (T 4, 8, .inr (.inr (.inr (.inr (va_up (fun j => if j < i then some (ad (7 * j)) else none) i (some q)))))))] ++ lps T ad i) ++ w_X4 T q u := by
  unfold bw
  rw [List.append_assoc]
  congr 1
  · congr 10
    funext j
    unfold va_up adN
    by_cases e : j = i
    · subst e
      rw [if_pos (by omega), if_pos rfl, if_neg (by omega), if_pos rfl]
    · rw [if_neg e]
      by_cases h : j < i
      · rw [if_pos (by omega), if_pos (show 7 * j < 7 * i by omega)]
        exact (if_pos h).symm
      · rw [if_neg (by omega)]
        exact (if_neg h).symm
  · show lps T (adN ad i q u) i ++ w_X4 T (adN ad i q u (7 * i)) (fun k => adN ad i q u (7 * i + 1 + k)) = _
    congr 1
    · exact lps_cg i (fun c hc => by unfold adN; rw [if_pos hc])
    · refine w_X4_cg ?_ (fun k hk => ?_)
      · unfold adN
        rw [if_neg (by omega), if_pos rfl]
      · unfold adN
        rw [if_neg (by omega), if_neg (by omega)]
        congr 1
        omega
def rm_X1_init : Room := { frames := 2, cells := 57, slots := 3088, locals := 32 }
section BKL
variable {p : Program} {l : Launch} {e : Env} {s : State} {m : MethodId} {args : Array Value} {below : List Frame} {meth : Method} {c : Code} {Q : State → Prop} {D : va_G} {T : Nat → ClassId} {A : Nat → Prop} {h0 qa : Nat}
set_option maxHeartbeats 4000000 in
set_option maxRecDepth 100000 in
theorem bk_loop (hx : p.tables.exec = Jvm.exec) (hb : c.code = cX1_init) (hml : c.maxLocals = 2) (hown : s.vm.findClass RX1 = some m.cls) (hts : ∀ w ∈ lw_good, w.before args s = true) (hCK : CK D T s) (hA : ∀ q, s.heap.size ≤ q → A q)
    (kend : ∀ (ad : Nat → Nat) (H : Heap) (locs : List Loc) (ls : Array Slot), va_P D cls7 (bw T h0 qa ad 8) H → va_D A (bw T h0 qa ad 8) → va_S A s.heap H locs → W p l e rm_X1_init s m args below meth c H locs 57 3088 Q (F0 m 63 ls [])) :
    ∀ (n i : Nat) (ad : Nat → Nat) (H : Heap) (locs : List Loc) (ls : Array Slot), i + n = 8 → va_P D cls7 (bw T h0 qa ad i) H → va_D A (bw T h0 qa ad i) → va_S A s.heap H locs → lv_has ls 2 [(1, .int (nI i)), (0, .ref h0)] → W p l e rm_X1_init s m args below meth c H locs (1 + 7 * i) (8 + 385 * i) Q (F0 m 38 ls []) := by
  intro n
  induction n with
  | zero =>
    intro i ad H locs ls hi hP hD hS hl
    have e8 : i = 8 := by omega
    subst e8
    refine lv_iload_n hx hb dX1_init_38 rfl (lv_at hl 0 rfl) ?_
    refine lv_bipush (v := 8) hx hb dX1_init_39 (by decide) ?_
    refine lv_icmp_ge (tgt := 63) hx hb dX1_init_41 (by decide) (fun hc => ?_) (fun hc => ?_)
    · exact kend ad H locs ls hP hD hS
    · exact absurd (show nI 8 ≥ 8 by decide) hc
  | succ n ih =>
    intro i ad H locs ls hi hP hD hS hl
    have hi8 : i < 8 := by omega
    have hK := hCK.1
    refine lv_iload_n hx hb dX1_init_38 rfl (lv_at hl 0 rfl) ?_
    refine lv_bipush (v := 8) hx hb dX1_init_39 (by decide) ?_
    refine lv_icmp_ge (tgt := 63) hx hb dX1_init_41 (by decide) (fun hc => ?_) (fun _ => ?_)
    · exact absurd ((nI_leI (a := 8) (by omega) (by omega)).mp hc) (by omega)
    refine lv_aload_n hx hb dX1_init_44 rfl (lv_at hl 1 rfl) ?_
    refine va_get (D := D) (ci := 0) (v := .ref qa) (C := RX1) (T := TX1) (N := 5) hx hb hts c7_0.2.1 hown hK hP 0 rfl rfl 4 (by decide) (hts _ wk_f_RX1_26) (fun _ h9 => h9) rfl dX1_init_45 ?_
    refine lv_iload_n hx hb dX1_init_48 rfl (lv_at hl 0 rfl) ?_
    refine va_new (ci := 2) (fs := [.long 0, .long 0, .long 0, .long 0, .long 0, .long 0, .long 0, .int 0, .int 0, .int 0, .int 0, .int 0, .int 0, .null, .null, .null, .null, .null, .null]) (C := RX4) (T := TX4) (N := 19) hx hb hts c7_2.2.1 tyX4 tyX4_ok hown (hts _ wk_cl_RX1_24) (hts _ wk_in_X4) (hts _ wk_it_X4) hK hP hD hS hA rfl zf_X4 (show 1 + 7 * i + 1 ≤ 57 by omega) (show 8 + 385 * i + 19 ≤ 3088 by omega) dX1_init_49 (fun q H hP hD hS => ?_)
    have hP := va_P.swap hP
    have hD := va_D.swap hD
    have hP : va_P D cls7 ([(h0, .inr (0, [.int 0, .int 10, .int 500, .int 0, .ref qa])), (qa, .inl (T 4, 8, .inr (.inr (.inr (.inr (fun j => if j < i then some (ad (7 * j)) else none)))))), (q, .inr (2, [.long 0, .long 0, .long 0, .long 0, .long 0, .long 0, .long 0, .int 0, .int 0, .int 0, .int 0, .int 0, .int 0, .null, .null, .null, .null, .null, .null]))] ++ lps T ad i) H := hP
    have hD : va_D A ([(h0, .inr (0, [.int 0, .int 10, .int 500, .int 0, .ref qa])), (qa, .inl (T 4, 8, .inr (.inr (.inr (.inr (fun j => if j < i then some (ad (7 * j)) else none)))))), (q, .inr (2, [.long 0, .long 0, .long 0, .long 0, .long 0, .long 0, .long 0, .int 0, .int 0, .int 0, .int 0, .int 0, .int 0, .null, .null, .null, .null, .null, .null]))] ++ lps T ad i) := hD
    refine lv_dup hx hb dX1_init_52 rfl ?_
    have hPc := hP.sub (ws' := [(q, .inr (2, [.long 0, .long 0, .long 0, .long 0, .long 0, .long 0, .long 0, .int 0, .int 0, .int 0, .int 0, .int 0, .int 0, .null, .null, .null, .null, .null, .null]))]) [2] rfl
    have hFc := va_free (wc := [(q, .inr (2, [.long 0, .long 0, .long 0, .long 0, .long 0, .long 0, .long 0, .int 0, .int 0, .int 0, .int 0, .int 0, .int 0, .null, .null, .null, .null, .null, .null]))]) hD hS hA [2] rfl
    refine va_callv (va_runIN (As := []) (rest := [.ref q, .int (nI i), .ref qa]) ⟨hx, hb, hml, hown, hts⟩ (k_X4 l D T q H.size) ⟨va_cnB 0 hts (goodI wk_co_X4) rfl rfl rfl hCK.2.2.1 (hts _ wk_it_X4) ⟨by decide +kernel, by decide +kernel, by decide +kernel⟩ ⟨Nat.le_of_ble_eq_true rfl, Nat.le_of_ble_eq_true rfl⟩, rfl, hts _ wk_im_X4⟩ ⟨FBc, fun U hU hW => ⟨rfl, by rw [hU], by rw [hU]; exact hPc, hCK.alike hW⟩⟩ rfl rfl hl.1 rfl (lv_room (Nat.le_of_ble_eq_true rfl)) dX1_init_53 ⟨show 1 + 7 * i + 1 + 6 ≤ 57 by omega, show 8 + 385 * i + 19 + 366 ≤ 3088 by omega⟩) hS (fun q _ h => hFc q h) hFc (fun u t H1 locs ht hvm hw hB hz1 hk1 hS => ?_)
    obtain ⟨hP1, hD1⟩ := hB
    rw [ht] at hP1
    obtain ⟨hP, hD⟩ := va_joinQ (wr := [(h0, .inr (0, [.int 0, .int 10, .int 500, .int 0, .ref qa])), (qa, .inl (T 4, 8, .inr (.inr (.inr (.inr (fun j => if j < i then some (ad (7 * j)) else none))))))]) (w1 := w_X4 T q u) hP hD [2] [0, 1] rfl rfl (by decide) (by decide) hk1 hFc hP1 hD1
    refine va_astq (r := (RX4, TX4, 19)) hx hb hK hP hD hS 1 4 2 2 rfl rfl rfl rfl (vp_in_nI hi8 (by omega)) dX1_init_56 (fun H locs hP hD hS => ?_)
    rw [clamp_nI (by omega)] at hP hD
    have hP := va_P.swap (a := [(h0, .inr (0, [.int 0, .int 10, .int 500, .int 0, .ref qa])), (qa, .inl (T 4, 8, .inr (.inr (.inr (.inr (va_up (fun j => if j < i then some (ad (7 * j)) else none) i (some q)))))))]) (b := w_X4 T q u) (c := lps T ad i) hP
    have hD := va_D.swap (a := [(h0, .inr (0, [.int 0, .int 10, .int 500, .int 0, .ref qa])), (qa, .inl (T 4, 8, .inr (.inr (.inr (.inr (va_up (fun j => if j < i then some (ad (7 * j)) else none) i (some q)))))))]) (b := w_X4 T q u) (c := lps T ad i) hD
    rw [← bw_next] at hP hD
    refine lv_iinc (v := nI (i + 1)) (lv' := [(1, .int (nI (i + 1))), (0, .ref h0)]) hx hb dX1_init_57 hl (k := 0) rfl (nI_1 i) (by decide) rfl (fun ls hl => ?_)
    refine lv_goto (tgt := 38) hx hb dX1_init_60 (by decide) ?_
    refine W.widen (k := 1 + 7 * (i + 1)) (n := 8 + 385 * (i + 1)) (by omega) (by omega) ?_
    exact ih (i + 1) _ H locs ls (by omega) hP hD hS hl
end BKL
set_option maxHeartbeats 4000000 in
set_option maxRecDepth 100000 in
theorem k_X1 (l : Launch) (D : va_G) (T : Nat → ClassId) (h0 sz : Nat) : Met l yX1_init (wsM yX1_init cX1_init 2 none) rm_X1_init (va_Pc [.ref h0] (fun U => U.heap.size = sz ∧ va_P D cls7 [(h0, .inr (0, [.int 0, .int 0, .int 0, .int 0, .null]))] U.heap ∧ CK D T U)) (va_Qv (fun _ : Nat × (Nat → Nat) => True) (fun u t => va_P D cls7 (bw T h0 u.1 u.2 8) t.heap ∧ va_D (va_A [(h0, .inr (0, [.int 0, .int 0, .int 0, .int 0, .null]))] sz) (bw T h0 u.1 u.2 8)) (va_A [(h0, .inr (0, [.int 0, .int 0, .int 0, .int 0, .null]))] sz)) 57 3088 (va_A [(h0, .inr (0, [.int 0, .int 0, .int 0, .int 0, .null]))] sz) := by
  refine Met.ofW (cc := cX1_init) (maxL := 2) (ret := none) (by decide) rfl ?_
  intro p e s m args below meth c s₁ B hml hv
  obtain ⟨rfl, hsz, hP, hCK⟩ := hv
  have hK := hCK.1
  have hx := B.exec
  have hb := B.bytes
  have hr := B.returns
  have hts := fun w (hw : w ∈ lw_good) => atoms_spec (ws := wsM yX1_init cX1_init 2 none) B.pre w (List.mem_cons_of_mem _ hw)
  have hown : s.vm.findClass RX1 = some m.cls := findClass_of_methodNamed B.named
  have hin : meth.name = "<init>" := (name_of_methodNamed B.named B.method).1
  subst hsz
  have hD0 : va_D (fun _ => True) [(h0, .inr (0, [.int 0, .int 0, .int 0, .int 0, .null]))] := va_D1 h0 _
  have hD := hD0.self (sz := s.heap.size)
  generalize hAe : va_A [(h0, .inr (0, [.int 0, .int 0, .int 0, .int 0, .null]))] s.heap.size = A at hD ⊢
  have hA : ∀ q : Nat, s.heap.size ≤ q → A q := fun q h => by rw [← hAe]; exact Or.inr h
  have hS : va_S A s.heap s.heap [] := va_S.rf
  have hP : va_P D cls7 [(h0, .inr (0, [.int 0, .int 0, .int 0, .int 0, .null]))] s.heap := hP
  have hl := lv_entry ([.ref h0]) (n := 2) (Nat.le_of_ble_eq_true rfl)
  rw [lg_entry_eq]
  generalize (lg_sl ([.ref h0]) ++ List.replicate (2 - (lg_sl ([.ref h0])).length) Slot.unset).toArray = ls at hl ⊢
  have hl : lv_has ls 2 [(0, .ref h0)] := hl
  refine lv_aload_n hx hb dX1_init_0 rfl (lv_at hl 0 rfl) ?_
  refine W.objInit hx hb hown (hts _ wk_ob_X1) (hts _ wk_oi) (hts _ wk_oc) rfl (by rw [hml]; exact hl.1) rfl dX1_init_1 (Nat.le_of_ble_eq_true rfl) (Nat.le_of_ble_eq_true rfl) ?_
  refine W.eq (g2 := F0 m 4 ls []) rfl ?_
  refine lv_aload_n hx hb dX1_init_4 rfl (lv_at hl 0 rfl) ?_
  refine lv_iconst (v := 0) hx hb dX1_init_5 (by decide) ?_
  refine va_put (D := D) (ci := 0) (v := .int 0) (ty := .int) (C := RX1) (T := TX1) (N := 5) hx hb hts c7_0.2.1 tyX1 tyX1_ok nmX1 hown hK hP hD hS 0 rfl rfl 0 (by decide) (hts _ wk_f_RX1_9) (fun _ h9 => h9) rfl (by decide +kernel) rfl rfl (Nat.le_of_ble_eq_true rfl) dX1_init_6 (fun H locs hP hD hS => ?_)
  have hP : va_P D cls7 ([(h0, .inr (0, [.int 0, .int 0, .int 0, .int 0, .null]))]) H := hP
  have hD : va_D A ([(h0, .inr (0, [.int 0, .int 0, .int 0, .int 0, .null]))]) := hD
  refine lv_aload_n hx hb dX1_init_9 rfl (lv_at hl 0 rfl) ?_
  refine lv_bipush (v := 10) hx hb dX1_init_10 (by decide) ?_
  refine va_put (D := D) (ci := 0) (v := .int 10) (ty := .int) (C := RX1) (T := TX1) (N := 5) hx hb hts c7_0.2.1 tyX1 tyX1_ok nmX1 hown hK hP hD hS 0 rfl rfl 1 (by decide) (hts _ wk_f_RX1_15) (fun _ h9 => h9) rfl (by decide +kernel) rfl rfl (Nat.le_of_ble_eq_true rfl) dX1_init_12 (fun H locs hP hD hS => ?_)
  have hP : va_P D cls7 ([(h0, .inr (0, [.int 0, .int 10, .int 0, .int 0, .null]))]) H := hP
  have hD : va_D A ([(h0, .inr (0, [.int 0, .int 10, .int 0, .int 0, .null]))]) := hD
  refine lv_aload_n hx hb dX1_init_15 rfl (lv_at hl 0 rfl) ?_
  refine lv_sipush (v := 500) hx hb dX1_init_16 (by decide) ?_
  refine va_put (D := D) (ci := 0) (v := .int 500) (ty := .int) (C := RX1) (T := TX1) (N := 5) hx hb hts c7_0.2.1 tyX1 tyX1_ok nmX1 hown hK hP hD hS 0 rfl rfl 2 (by decide) (hts _ wk_f_RX1_18) (fun _ h9 => h9) rfl (by decide +kernel) rfl rfl (Nat.le_of_ble_eq_true rfl) dX1_init_19 (fun H locs hP hD hS => ?_)
  have hP : va_P D cls7 ([(h0, .inr (0, [.int 0, .int 10, .int 500, .int 0, .null]))]) H := hP
  have hD : va_D A ([(h0, .inr (0, [.int 0, .int 10, .int 500, .int 0, .null]))]) := hD
  refine lv_aload_n hx hb dX1_init_22 rfl (lv_at hl 0 rfl) ?_
  refine lv_iconst (v := 0) hx hb dX1_init_23 (by decide) ?_
  refine va_put (D := D) (ci := 0) (v := .int 0) (ty := .int) (C := RX1) (T := TX1) (N := 5) hx hb hts c7_0.2.1 tyX1 tyX1_ok nmX1 hown hK hP hD hS 0 rfl rfl 3 (by decide) (hts _ wk_f_RX1_21) (fun _ h9 => h9) rfl (by decide +kernel) rfl rfl (Nat.le_of_ble_eq_true rfl) dX1_init_24 (fun H locs hP hD hS => ?_)
  have hP : va_P D cls7 ([(h0, .inr (0, [.int 0, .int 10, .int 500, .int 0, .null]))]) H := hP
  have hD : va_D A ([(h0, .inr (0, [.int 0, .int 10, .int 500, .int 0, .null]))]) := hD
  refine lv_aload_n hx hb dX1_init_27 rfl (lv_at hl 0 rfl) ?_
  refine lv_bipush (v := 8) hx hb dX1_init_28 (by decide) ?_
  refine va_newq (N' := 8) hx hb hown (hts _ wk_cl_RX1_24) hCK.2.1.1 hK hP hD hS hA (by decide) (by decide) (by decide) (Nat.le_of_ble_eq_true rfl) (Nat.le_of_ble_eq_true rfl) dX1_init_30 (fun qa cA H hK9 hP hD hS => ?_)
  have ecA : cA = T 4 := by
    obtain ⟨_, _, _, _, _, f1⟩ := (hK9.2 6 _ rfl).2
    obtain ⟨_, _, _, _, _, f2⟩ := (hK.2 4 _ rfl).2
    exact Option.some.inj (f1.symm.trans f2)
  subst ecA
  have hP : va_P D cls7 ([(h0, .inr (0, [.int 0, .int 10, .int 500, .int 0, .null])), (qa, .inl (T 4, 8, .inr (.inr (.inr (.inr (fun _ => none))))))]) H := hP
  have hD : va_D A ([(h0, .inr (0, [.int 0, .int 10, .int 500, .int 0, .null])), (qa, .inl (T 4, 8, .inr (.inr (.inr (.inr (fun _ => none))))))]) := hD
  refine W.widen (k := 1) (n := 8) (Nat.le_of_ble_eq_true rfl) (Nat.le_of_ble_eq_true rfl) ?_
  refine va_putF (D := D) (ci := 0) (v := .ref qa) (ty := .array (.object "LoanBook$Loan")) (C := RX1) (T := TX1) (N := 5) hx hb hts c7_0.2.1 tyX1 tyX1_ok nmX1 hown hK hP hD hS 0 rfl rfl 4 (by decide) (hts _ wk_f_RX1_26) (fun _ h9 => h9) rfl hin rfl (by decide +kernel) rfl rfl (Nat.le_of_ble_eq_true rfl) dX1_init_33 (fun H locs hP hD hS => ?_)
  have hP : va_P D cls7 ([(h0, .inr (0, [.int 0, .int 10, .int 500, .int 0, .ref qa])), (qa, .inl (T 4, 8, .inr (.inr (.inr (.inr (fun _ => none))))))]) H := hP
  have hD : va_D A ([(h0, .inr (0, [.int 0, .int 10, .int 500, .int 0, .ref qa])), (qa, .inl (T 4, 8, .inr (.inr (.inr (.inr (fun _ => none))))))]) := hD
  refine lv_iconst (v := 0) hx hb dX1_init_36 (by decide) ?_
  refine lv_istore_n (lv' := [(1, .int (nI 0)), (0, .ref h0)]) hx hb dX1_init_37 rfl hl (by decide) rfl (fun ls hl => ?_)
  have e0 : (fun j : Nat => if j < 0 then some ((fun _ : Nat => 0) (7 * j)) else none) = fun _ => none := by
    funext j
    rw [if_neg (by omega)]
  have eb : bw T h0 qa (fun _ => 0) 0 = [(h0, .inr (0, [.int 0, .int 10, .int 500, .int 0, .ref qa])), (qa, .inl (T 4, 8, .inr (.inr (.inr (.inr (fun _ => none))))))] := by
    unfold bw lps
    rw [e0]
    rfl
  refine W.widen (k := 1 + 7 * 0) (n := 8 + 385 * 0) (by omega) (by omega) ?_
  refine bk_loop (qa := qa) hx hb hml hown hts hCK hA (fun ad H locs ls hP hD hS => ?_) 8 0 (fun _ => 0) H locs ls (by omega) (by rw [eb]; exact hP) (by rw [eb]; exact hD) hS hl
  exact W.vret hx hb hr (fun t ht hW => ⟨⟨(qa, ad), rfl, trivial, by rw [ht]; exact hP, hD⟩, hS.F ht⟩) hS.2.2 dX1_init_63
