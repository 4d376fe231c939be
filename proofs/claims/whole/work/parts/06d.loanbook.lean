/-! LOANBOOK'S CONSTRUCTOR -/
theorem va_P.perm {D : va_G} {cl : List vw_C} {ws ws' : va_W} {H : Heap} (h : va_P D cl ws H) (p : List.Perm ws ws') : va_P D cl ws' H := by
  intro k q hq
  obtain ⟨j, hj⟩ := List.mem_iff_getElem?.mp (p.symm.mem_iff.mp (List.mem_of_getElem? hq))
  exact h j q hj
theorem va_D_nd {A : Nat → Prop} {ws : va_W} : va_D A ws ↔ (ws.map Prod.fst).Nodup ∧ ∀ q ∈ ws, A q.1 := by
  constructor
  · intro h
    refine ⟨?_, fun q hq => ?_⟩
    · rw [List.nodup_iff_pairwise_ne, List.pairwise_iff_getElem]
      intro i j hi hj hij e
      have hi' : i < ws.length := by simpa using hi
      have hj' : j < ws.length := by simpa using hj
      have := h.1 i j ws[i] ws[j] (List.getElem?_eq_getElem hi') (List.getElem?_eq_getElem hj') (by simpa using e)
      omega
    · obtain ⟨j, hj⟩ := List.mem_iff_getElem?.mp hq
      exact h.2 j q hj
  · rintro ⟨h1, h2⟩
    refine ⟨fun i j p q hi hj e => ?_, fun k q hq => h2 q (List.mem_of_getElem? hq)⟩
    rw [List.nodup_iff_pairwise_ne, List.pairwise_iff_getElem] at h1
    obtain ⟨li, hi⟩ := List.getElem?_eq_some_iff.mp hi
    obtain ⟨lj, hj⟩ := List.getElem?_eq_some_iff.mp hj
    rcases Nat.lt_trichotomy i j with h | h | h
    · exact absurd (show (ws.map Prod.fst)[i]'(by simpa using li) = (ws.map Prod.fst)[j]'(by simpa using lj) by rw [List.getElem_map, List.getElem_map, hi, hj]; exact e) (h1 i j (by simpa using li) (by simpa using lj) h)
    · exact h
    · exact absurd (show (ws.map Prod.fst)[j]'(by simpa using lj) = (ws.map Prod.fst)[i]'(by simpa using li) by rw [List.getElem_map, List.getElem_map, hi, hj]; exact e.symm) (h1 j i (by simpa using lj) (by simpa using li) h)
theorem va_D.perm {A : Nat → Prop} {ws ws' : va_W} (h : va_D A ws) (p : List.Perm ws ws') : va_D A ws' := by
  rw [va_D_nd] at *
  exact ⟨(p.map Prod.fst).nodup_iff.mp h.1, fun q hq => h.2 q (p.symm.mem_iff.mp hq)⟩
theorem pm_1 {α : Type} (a b c : List α) : List.Perm (a ++ (b ++ c)) ((b ++ a) ++ c) := by
  rw [← List.append_assoc]
  exact List.Perm.append_right c List.perm_append_comm
/-- i holders -/
def hps (T : Nat → ClassId) (ad : Nat → Nat) : Nat → va_W
  | 0 => []
  | i + 1 => hps T ad i ++ w_X3 T (ad (2 * i)) (fun k => ad (2 * i + 1 + k))
theorem w_X3_cg {T : Nat → ClassId} {h h' : Nat} {q q' : Nat → Nat} (e : h = h') (e2 : q 0 = q' 0) : w_X3 T h q = w_X3 T h' q' := by
  subst e
  unfold w_X3
  rw [e2]
theorem hps_cg {T : Nat → ClassId} {ad ad' : Nat → Nat} : ∀ i, (∀ c, c < 2 * i → ad c = ad' c) → hps T ad i = hps T ad' i
  | 0, _ => rfl
  | i + 1, h => by
    unfold hps
    rw [hps_cg i (fun c hc => h c (by omega)), w_X3_cg (q' := fun k => ad' (2 * i + 1 + k)) (h (2 * i) (by omega)) (h (2 * i + 1 + 0) (by omega))]
def hdN (ad : Nat → Nat) (i q : Nat) (u : Nat → Nat) : Nat → Nat := fun c => if c < 2 * i then ad c else if c = 2 * i then q else u (c - 2 * i - 1)
def hf (ad : Nat → Nat) (i : Nat) : Nat → Option Nat := fun j => if j < i then some (ad (2 * j)) else none
theorem hf_next (ad : Nat → Nat) (i q : Nat) (u : Nat → Nat) : va_up (hf ad i) i (some q) = hf (hdN ad i q u) (i + 1) := by
  funext j
  unfold va_up hf
  by_cases e : j = i
  · subst e
    rw [if_pos rfl, if_pos (by omega)]
    congr 1
    unfold hdN
    rw [if_neg (by omega), if_pos rfl]
  · rw [if_neg e]
    by_cases h : j < i
    · rw [if_pos (show j < i + 1 by omega)]
      refine (if_pos h).trans ?_
      congr 1
      unfold hdN
      rw [if_pos (show 2 * j < 2 * i by omega)]
    · rw [if_neg (show ¬ j < i + 1 by omega)]
      exact if_neg h
theorem hps_next (T : Nat → ClassId) (ad : Nat → Nat) (i q : Nat) (u : Nat → Nat) : hps T ad i ++ w_X3 T q u = hps T (hdN ad i q u) (i + 1) := by
  show _ = hps T (hdN ad i q u) i ++ w_X3 T (hdN ad i q u (2 * i)) (fun k => hdN ad i q u (2 * i + 1 + k))
  congr 1
  · exact hps_cg i (fun c hc => by unfold hdN; rw [if_pos hc])
  · refine w_X3_cg ?_ ?_
    · unfold hdN
      rw [if_neg (by omega), if_pos rfl]
    · unfold hdN
      rw [if_neg (by omega), if_neg (by omega)]
      congr 1
      omega
def rm_X7_init : Room := { frames := 3, cells := 201, slots := 10379, locals := 53 }
theorem cwN {R : Room} {s : State} {args : Array Value} {own host : String} {idx nL mc ms : Nat} {y : MethodName} {cc : ByteArray} {rm : Room} (hts : ∀ w ∈ lw_good, w.before args s = true) (hc : Cond.code y cc nL none ∈ lw_good) (h1 : rm.cells = mc) (h2 : rm.slots = ms) (hl : va_Nw (.methodLinkNest own idx y host) s) (hi : Cond.initialized y.cls ∈ lw_good) (hm : Cond.instanceMethod y ∈ lw_good) (hn : y.name = "<init>") (hd : y.cls ≠ "java/lang/invoke/MethodHandle" ∧ y.cls ≠ "java/lang/invoke/VarHandle" ∧ (parseMethodDescriptor y.desc).map (fun d => d.parameters.length) = some 0) (hR : rm.frames + 1 ≤ R.frames ∧ 8 + (nL + 11) + rm.locals ≤ R.locals) : va_CN R s args own idx y host cc nL none (wsM y cc nL none) rm mc ms 0 ∧ y.name = "<init>" ∧ (Cond.instanceMethod y).before args s = true :=
  ⟨va_cnB 0 hts (goodI hc) rfl h1 h2 hl (hts _ hi) hd hR, hn, hts _ hm⟩
theorem cwP {R : Room} {s : State} {args : Array Value} {own : String} {idx nL mc ms : Nat} {y : MethodName} {cc : ByteArray} {rm : Room} (hts : ∀ w ∈ lw_good, w.before args s = true) (hc : Cond.code y cc nL none ∈ lw_good) (h1 : rm.cells = mc) (h2 : rm.slots = ms) (hl : Cond.methodLink own idx y ∈ lw_good) (hi : Cond.initialized y.cls ∈ lw_good) (hm : Cond.instanceMethod y ∈ lw_good) (hn : y.name = "<init>") (hd : y.cls ≠ "java/lang/invoke/MethodHandle" ∧ y.cls ≠ "java/lang/invoke/VarHandle" ∧ (parseMethodDescriptor y.desc).map (fun d => d.parameters.length) = some 0) (hR : rm.frames + 1 ≤ R.frames ∧ 8 + (nL + 11) + rm.locals ≤ R.locals) : CallB R s args own idx y cc nL none (wsM y cc nL none) rm mc ms 0 ∧ y.name = "<init>" ∧ (Cond.instanceMethod y).before args s = true :=
  ⟨callB_of 0 hts (goodI hc) rfl h1 h2 (hts _ hi) (hts _ hl) hd hR, hn, hts _ hm⟩
section LBL
variable {p : Program} {l : Launch} {e : Env} {s : State} {m : MethodId} {args : Array Value} {below : List Frame} {meth : Method} {c : Code} {Q : State → Prop} {D : va_G} {T : Nat → ClassId} {A : Nat → Prop} {h0 q1 q2 q3 q4 q5 q6 qh : Nat} {pl : va_W}
set_option maxHeartbeats 4000000 in
set_option maxRecDepth 100000 in
theorem hd_loop (hx : p.tables.exec = Jvm.exec) (hb : c.code = cX7_init) (hml : c.maxLocals = 2) (hown : s.vm.findClass RX7 = some m.cls) (hts : ∀ w ∈ lw_good, w.before args s = true) (hCK : CK D T s) (hA : ∀ q, s.heap.size ≤ q → A q)
    (kend : ∀ (ad : Nat → Nat) (H : Heap) (locs : List Loc) (ls : Array Slot), va_P D cls7 ([(h0, .inr (5, [.ref q1, .ref q2, .ref q3, .int 0, .ref q4, .ref q5, .ref q6, .ref qh])), (qh, .inl (T 3, 6, .inr (.inr (.inr (.inr (hf ad 6))))))] ++ (hps T ad 6 ++ pl)) H → va_D A ([(h0, .inr (5, [.ref q1, .ref q2, .ref q3, .int 0, .ref q4, .ref q5, .ref q6, .ref qh])), (qh, .inl (T 3, 6, .inr (.inr (.inr (.inr (hf ad 6))))))] ++ (hps T ad 6 ++ pl)) → va_S A s.heap H locs → W p l e rm_X7_init s m args below meth c H locs 201 10379 Q (F0 m 111 ls [])) :
    ∀ (n i : Nat) (ad : Nat → Nat) (H : Heap) (locs : List Loc) (ls : Array Slot), i + n = 6 → va_P D cls7 ([(h0, .inr (5, [.ref q1, .ref q2, .ref q3, .int 0, .ref q4, .ref q5, .ref q6, .ref qh])), (qh, .inl (T 3, 6, .inr (.inr (.inr (.inr (hf ad i))))))] ++ (hps T ad i ++ pl)) H → va_D A ([(h0, .inr (5, [.ref q1, .ref q2, .ref q3, .int 0, .ref q4, .ref q5, .ref q6, .ref qh])), (qh, .inl (T 3, 6, .inr (.inr (.inr (.inr (hf ad i))))))] ++ (hps T ad i ++ pl)) → va_S A s.heap H locs → lv_has ls 2 [(1, .int (nI i)), (0, .ref h0)] → W p l e rm_X7_init s m args below meth c H locs (189 + 2 * i) (9989 + 65 * i) Q (F0 m 86 ls []) := by
  intro n
  induction n with
  | zero =>
    intro i ad H locs ls hi hP hD hS hl
    have e8 : i = 6 := by omega
    subst e8
    refine lv_iload_n hx hb dX7_init_86 rfl (lv_at hl 0 rfl) ?_
    refine lv_bipush (v := 6) hx hb dX7_init_87 (by decide) ?_
    refine lv_icmp_ge (tgt := 111) hx hb dX7_init_89 (by decide) (fun hc => ?_) (fun hc => ?_)
    · exact kend ad H locs ls hP hD hS
    · exact absurd (show nI 6 ≥ 6 by decide) hc
  | succ n ih =>
    intro i ad H locs ls hi hP hD hS hl
    have hi8 : i < 6 := by omega
    have hK := hCK.1
    refine lv_iload_n hx hb dX7_init_86 rfl (lv_at hl 0 rfl) ?_
    refine lv_bipush (v := 6) hx hb dX7_init_87 (by decide) ?_
    refine lv_icmp_ge (tgt := 111) hx hb dX7_init_89 (by decide) (fun hc => ?_) (fun _ => ?_)
    · exact absurd ((nI_leI (a := 6) (by omega) (by omega)).mp hc) (by omega)
    refine lv_aload_n hx hb dX7_init_92 rfl (lv_at hl 1 rfl) ?_
    refine va_get (D := D) (ci := 5) (v := .ref qh) (C := RX7) (T := TX7) (N := 8) hx hb hts c7_5.2.1 hown hK hP 0 rfl rfl 7 (by decide) (hts _ wk_f_RX7_49) (fun _ h9 => h9) rfl dX7_init_93 ?_
    refine lv_iload_n hx hb dX7_init_96 rfl (lv_at hl 0 rfl) ?_
    refine va_new (ci := 1) (fs := [.int 0, .int 0, .int 0, .long 0, .null]) (C := RX3) (T := TX3) (N := 5) hx hb hts c7_1.2.1 tyX3 tyX3_ok hown (hts _ wk_cl_RX7_47) (hts _ wk_in_X3) (hts _ wk_it_X3) hK hP hD hS hA rfl zf_X3 (show 189 + 2 * i + 1 ≤ 201 by omega) (show 9989 + 65 * i + 5 ≤ 10379 by omega) dX7_init_97 (fun q H hP hD hS => ?_)
    have hP := va_P.swap hP
    have hD := va_D.swap hD
    have hP : va_P D cls7 ([(h0, .inr (5, [.ref q1, .ref q2, .ref q3, .int 0, .ref q4, .ref q5, .ref q6, .ref qh])), (qh, .inl (T 3, 6, .inr (.inr (.inr (.inr (hf ad i)))))), (q, .inr (1, [.int 0, .int 0, .int 0, .long 0, .null]))] ++ (hps T ad i ++ pl)) H := hP
    have hD : va_D A ([(h0, .inr (5, [.ref q1, .ref q2, .ref q3, .int 0, .ref q4, .ref q5, .ref q6, .ref qh])), (qh, .inl (T 3, 6, .inr (.inr (.inr (.inr (hf ad i)))))), (q, .inr (1, [.int 0, .int 0, .int 0, .long 0, .null]))] ++ (hps T ad i ++ pl)) := hD
    refine lv_dup hx hb dX7_init_100 rfl ?_
    have hPc := hP.sub (ws' := [(q, .inr (1, [.int 0, .int 0, .int 0, .long 0, .null]))]) [2] rfl
    have hFc := va_free (wc := [(q, .inr (1, [.int 0, .int 0, .int 0, .long 0, .null]))]) hD hS hA [2] rfl
    refine va_callv (va_runIN (As := []) (rest := [.ref q, .int (nI i), .ref qh]) ⟨hx, hb, hml, hown, hts⟩ (k_X3 l D T q H.size) (cwN hts wk_co_X3 rfl rfl hCK.2.2.2.2.2.2 wk_it_X3 wk_im_X3 rfl ⟨by decide +kernel, by decide +kernel, by decide +kernel⟩ ⟨Nat.le_of_ble_eq_true rfl, Nat.le_of_ble_eq_true rfl⟩) ⟨FBc, fun U hU hW => ⟨rfl, by rw [hU], by rw [hU]; exact hPc, hCK.alike hW⟩⟩ rfl rfl hl.1 rfl (lv_room (Nat.le_of_ble_eq_true rfl)) dX7_init_101 ⟨show 189 + 2 * i + 1 + 1 ≤ 201 by omega, show 9989 + 65 * i + 5 + 60 ≤ 10379 by omega⟩) hS (fun q _ h => hFc q h) hFc (fun u t H1 locs ht hvm hw hB hz1 hk1 hS => ?_)
    obtain ⟨hP1, hD1⟩ := hB
    rw [ht] at hP1
    obtain ⟨hP, hD⟩ := va_joinQ (wr := [(h0, .inr (5, [.ref q1, .ref q2, .ref q3, .int 0, .ref q4, .ref q5, .ref q6, .ref qh])), (qh, .inl (T 3, 6, .inr (.inr (.inr (.inr (hf ad i))))))]) (w1 := w_X3 T q u) hP hD [2] [0, 1] rfl rfl (by decide) (by decide) hk1 hFc hP1 hD1
    refine va_astq (r := (RX3, TX3, 5)) hx hb hK hP hD hS 1 3 2 1 rfl rfl rfl rfl (vp_in_nI hi8 (by omega)) dX7_init_104 (fun H locs hP hD hS => ?_)
    rw [clamp_nI (by omega), hf_next ad i q u] at hP hD
    have pm : List.Perm (([(h0, .inr (5, [.ref q1, .ref q2, .ref q3, .int 0, .ref q4, .ref q5, .ref q6, .ref qh])), (qh, .inl (T 3, 6, .inr (.inr (.inr (.inr (hf (hdN ad i q u) (i + 1)))))))] ++ w_X3 T q u) ++ (hps T ad i ++ pl)) ([(h0, .inr (5, [.ref q1, .ref q2, .ref q3, .int 0, .ref q4, .ref q5, .ref q6, .ref qh])), (qh, .inl (T 3, 6, .inr (.inr (.inr (.inr (hf (hdN ad i q u) (i + 1)))))))] ++ (hps T (hdN ad i q u) (i + 1) ++ pl)) := by
      rw [← hps_next, List.append_assoc]
      exact List.Perm.append_left _ (pm_1 _ _ _)
    have hP := va_P.perm hP pm
    have hD := va_D.perm hD pm
    refine lv_iinc (v := nI (i + 1)) (lv' := [(1, .int (nI (i + 1))), (0, .ref h0)]) hx hb dX7_init_105 hl (k := 0) rfl (nI_1 i) (by decide) rfl (fun ls hl => ?_)
    refine lv_goto (tgt := 86) hx hb dX7_init_108 (by decide) ?_
    refine W.widen (k := 189 + 2 * (i + 1)) (n := 9989 + 65 * (i + 1)) (by omega) (by omega) ?_
    exact ih (i + 1) _ H locs ls (by omega) hP hD hS hl
end LBL
/-- what LoanBook's constructor made: the objects' addresses, the books' arrays and loans, thought's, plan's, tape's arrays, the holders' -/
abbrev UB : Type := (Nat × Nat × Nat × Nat × Nat × Nat × Nat) × (Nat × (Nat → Nat)) × (Nat × (Nat → Nat)) × (Nat × (Nat → Nat)) × (Nat → Nat) × (Nat → Nat) × (Nat → Nat) × (Nat → Nat) × Unit
def w_X7 (T : Nat → ClassId) (h0 : Nat) (u : UB) : va_W := ([(h0, .inr (5, [.ref u.1.1, .ref u.1.2.1, .ref u.1.2.2.1, .int 0, .ref u.1.2.2.2.1, .ref u.1.2.2.2.2.1, .ref u.1.2.2.2.2.2.1, .ref u.1.2.2.2.2.2.2])), (u.1.2.2.2.2.2.2, .inl (T 3, 6, .inr (.inr (.inr (.inr (hf u.2.2.2.2.2.2.2.1 6))))))] ++ (hps T u.2.2.2.2.2.2.2.1 6 ++ (w_X6 T u.1.2.2.2.2.2.1 u.2.2.2.2.2.2.1 ++ (w_X5 T u.1.2.2.2.2.1 u.2.2.2.2.2.1 ++ (w_X4 T u.1.2.2.2.1 u.2.2.2.2.1 ++ (bw T u.1.2.2.1 u.2.2.2.1.1 u.2.2.2.1.2 8 ++ (bw T u.1.2.1 u.2.2.1.1 u.2.2.1.2 8 ++ (bw T u.1.1 u.2.1.1 u.2.1.2 8 ++ []))))))))
set_option maxHeartbeats 4000000 in
set_option maxRecDepth 100000 in
theorem k_X7 (l : Launch) (D : va_G) (T : Nat → ClassId) (h0 sz : Nat) : Met l yX7_init (wsM yX7_init cX7_init 2 none) rm_X7_init (va_Pc [.ref h0] (fun U => U.heap.size = sz ∧ va_P D cls7 [(h0, .inr (5, [.null, .null, .null, .int 0, .null, .null, .null, .null]))] U.heap ∧ CK D T U)) (va_Qv (fun _ : UB => True) (fun u t => va_P D cls7 (w_X7 T h0 u) t.heap ∧ va_D (va_A [(h0, .inr (5, [.null, .null, .null, .int 0, .null, .null, .null, .null]))] sz) (w_X7 T h0 u)) (va_A [(h0, .inr (5, [.null, .null, .null, .int 0, .null, .null, .null, .null]))] sz)) 201 10379 (va_A [(h0, .inr (5, [.null, .null, .null, .int 0, .null, .null, .null, .null]))] sz) := by
  refine Met.ofW (cc := cX7_init) (maxL := 2) (ret := none) (by decide) rfl ?_
  intro p e s m args below meth c s₁ B hml hv
  obtain ⟨rfl, hsz, hP, hCK⟩ := hv
  have hK := hCK.1
  have hx := B.exec
  have hb := B.bytes
  have hr := B.returns
  have hts := fun w (hw : w ∈ lw_good) => atoms_spec (ws := wsM yX7_init cX7_init 2 none) B.pre w (List.mem_cons_of_mem _ hw)
  have hown : s.vm.findClass RX7 = some m.cls := findClass_of_methodNamed B.named
  have hin : meth.name = "<init>" := (name_of_methodNamed B.named B.method).1
  subst hsz
  have hD0 : va_D (fun _ => True) [(h0, .inr (5, [.null, .null, .null, .int 0, .null, .null, .null, .null]))] := va_D1 h0 _
  have hD := hD0.self (sz := s.heap.size)
  generalize hAe : va_A [(h0, .inr (5, [.null, .null, .null, .int 0, .null, .null, .null, .null]))] s.heap.size = A at hD ⊢
  have hA : ∀ q : Nat, s.heap.size ≤ q → A q := fun q h => by rw [← hAe]; exact Or.inr h
  have hS : va_S A s.heap s.heap [] := va_S.rf
  have hP : va_P D cls7 [(h0, .inr (5, [.null, .null, .null, .int 0, .null, .null, .null, .null]))] s.heap := hP
  have hl := lv_entry ([.ref h0]) (n := 2) (Nat.le_of_ble_eq_true rfl)
  rw [lg_entry_eq]
  generalize (lg_sl ([.ref h0]) ++ List.replicate (2 - (lg_sl ([.ref h0])).length) Slot.unset).toArray = ls at hl ⊢
  have hl : lv_has ls 2 [(0, .ref h0)] := hl
  refine lv_aload_n hx hb dX7_init_0 rfl (lv_at hl 0 rfl) ?_
  refine W.objInit hx hb hown (hts _ wk_ob_X7) (hts _ wk_oi) (hts _ wk_oc) rfl (by rw [hml]; exact hl.1) rfl dX7_init_1 (Nat.le_of_ble_eq_true rfl) (Nat.le_of_ble_eq_true rfl) ?_
  refine W.eq (g2 := F0 m 4 ls []) rfl ?_
  have hP : va_P D cls7 ([(h0, .inr (5, [.null, .null, .null, .int 0, .null, .null, .null, .null]))] ++ []) s.heap := by rw [List.append_nil]; exact hP
  have hD : va_D A ([(h0, .inr (5, [.null, .null, .null, .int 0, .null, .null, .null, .null]))] ++ []) := by rw [List.append_nil]; exact hD
  refine lv_aload_n hx hb dX7_init_4 rfl (lv_at hl 0 rfl) ?_
  refine va_new (ci := 0) (fs := [.int 0, .int 0, .int 0, .int 0, .null]) (C := RX1) (T := TX1) (N := 5) hx hb hts c7_0.2.1 tyX1 tyX1_ok hown (hts _ wk_cl_RX7_7) (hts _ wk_in_X1) (hts _ wk_it_X1) hK hP hD hS hA rfl zf_X1 (Nat.le_of_ble_eq_true rfl) (Nat.le_of_ble_eq_true rfl) dX7_init_5 (fun q1 H hP hD hS => ?_)
  have hP := va_P.swap hP
  have hD := va_D.swap hD
  have hP : va_P D cls7 ([(h0, .inr (5, [.null, .null, .null, .int 0, .null, .null, .null, .null])), (q1, .inr (0, [.int 0, .int 0, .int 0, .int 0, .null]))] ++ []) H := hP
  have hD : va_D A ([(h0, .inr (5, [.null, .null, .null, .int 0, .null, .null, .null, .null])), (q1, .inr (0, [.int 0, .int 0, .int 0, .int 0, .null]))] ++ []) := hD
  refine W.widen (k := 1) (n := 5) (Nat.le_of_ble_eq_true rfl) (Nat.le_of_ble_eq_true rfl) ?_
  refine lv_dup hx hb dX7_init_8 rfl ?_
  have hPc := hP.sub (ws' := [(q1, .inr (0, [.int 0, .int 0, .int 0, .int 0, .null]))]) [1] rfl
  have hFc := va_free (wc := [(q1, .inr (0, [.int 0, .int 0, .int 0, .int 0, .null]))]) hD hS hA [1] rfl
  refine va_callv (va_runI (As := []) (rest := [.ref q1, .ref h0]) ⟨hx, hb, hml, hown, hts⟩ (k_X1 l D T q1 H.size) (cwP hts wk_co_X1 rfl rfl wk_ml_RX7_9 wk_it_X1 wk_im_X1 rfl ⟨by decide +kernel, by decide +kernel, by decide +kernel⟩ ⟨Nat.le_of_ble_eq_true rfl, Nat.le_of_ble_eq_true rfl⟩) ⟨FBc, fun U hU hW => ⟨rfl, by rw [hU], by rw [hU]; exact hPc, hCK.alike hW⟩⟩ rfl rfl hl.1 rfl (lv_room (Nat.le_of_ble_eq_true rfl)) dX7_init_9 ⟨Nat.le_of_ble_eq_true rfl, Nat.le_of_ble_eq_true rfl⟩) hS (fun q _ h => hFc q h) hFc (fun u1 t H1 locs ht hvm hw hB hz1 hk1 hS => ?_)
  obtain ⟨hP1, hD1⟩ := hB
  rw [ht] at hP1
  obtain ⟨hP, hD⟩ := va_joinQ (wr := [(h0, .inr (5, [.null, .null, .null, .int 0, .null, .null, .null, .null]))]) (w1 := bw T q1 u1.1 u1.2 8) hP hD [1] [0] rfl rfl (by decide) (by decide) hk1 hFc hP1 hD1
  generalize H1 = H at hP hS ⊢
  refine W.widen (k := 58) (n := 3093) (Nat.le_of_ble_eq_true rfl) (Nat.le_of_ble_eq_true rfl) ?_
  have hP : va_P D cls7 ([(h0, .inr (5, [.null, .null, .null, .int 0, .null, .null, .null, .null]))] ++ (bw T q1 u1.1 u1.2 8 ++ [])) H := hP
  have hD : va_D A ([(h0, .inr (5, [.null, .null, .null, .int 0, .null, .null, .null, .null]))] ++ (bw T q1 u1.1 u1.2 8 ++ [])) := hD
  refine va_putF (D := D) (ci := 5) (v := .ref q1) (ty := .object "LoanBook$Book") (C := RX7) (T := TX7) (N := 8) hx hb hts c7_5.2.1 tyX7 tyX7_ok nmX7 hown hK hP hD hS 0 rfl rfl 0 (by decide) (hts _ wk_f_RX7_10) (fun _ h9 => h9) rfl hin rfl (by decide +kernel) rfl rfl (Nat.le_of_ble_eq_true rfl) dX7_init_12 (fun H locs hP hD hS => ?_)
  have hP : va_P D cls7 ([(h0, .inr (5, [.ref q1, .null, .null, .int 0, .null, .null, .null, .null]))] ++ (bw T q1 u1.1 u1.2 8 ++ [])) H := hP
  have hD : va_D A ([(h0, .inr (5, [.ref q1, .null, .null, .int 0, .null, .null, .null, .null]))] ++ (bw T q1 u1.1 u1.2 8 ++ [])) := hD
  refine lv_aload_n hx hb dX7_init_15 rfl (lv_at hl 0 rfl) ?_
  refine va_new (ci := 0) (fs := [.int 0, .int 0, .int 0, .int 0, .null]) (C := RX1) (T := TX1) (N := 5) hx hb hts c7_0.2.1 tyX1 tyX1_ok hown (hts _ wk_cl_RX7_7) (hts _ wk_in_X1) (hts _ wk_it_X1) hK hP hD hS hA rfl zf_X1 (Nat.le_of_ble_eq_true rfl) (Nat.le_of_ble_eq_true rfl) dX7_init_16 (fun q2 H hP hD hS => ?_)
  have hP := va_P.swap hP
  have hD := va_D.swap hD
  have hP : va_P D cls7 ([(h0, .inr (5, [.ref q1, .null, .null, .int 0, .null, .null, .null, .null])), (q2, .inr (0, [.int 0, .int 0, .int 0, .int 0, .null]))] ++ (bw T q1 u1.1 u1.2 8 ++ [])) H := hP
  have hD : va_D A ([(h0, .inr (5, [.ref q1, .null, .null, .int 0, .null, .null, .null, .null])), (q2, .inr (0, [.int 0, .int 0, .int 0, .int 0, .null]))] ++ (bw T q1 u1.1 u1.2 8 ++ [])) := hD
  refine W.widen (k := 59) (n := 3098) (Nat.le_of_ble_eq_true rfl) (Nat.le_of_ble_eq_true rfl) ?_
  refine lv_dup hx hb dX7_init_19 rfl ?_
  have hPc := hP.sub (ws' := [(q2, .inr (0, [.int 0, .int 0, .int 0, .int 0, .null]))]) [1] rfl
  have hFc := va_free (wc := [(q2, .inr (0, [.int 0, .int 0, .int 0, .int 0, .null]))]) hD hS hA [1] rfl
  refine va_callv (va_runI (As := []) (rest := [.ref q2, .ref h0]) ⟨hx, hb, hml, hown, hts⟩ (k_X1 l D T q2 H.size) (cwP hts wk_co_X1 rfl rfl wk_ml_RX7_9 wk_it_X1 wk_im_X1 rfl ⟨by decide +kernel, by decide +kernel, by decide +kernel⟩ ⟨Nat.le_of_ble_eq_true rfl, Nat.le_of_ble_eq_true rfl⟩) ⟨FBc, fun U hU hW => ⟨rfl, by rw [hU], by rw [hU]; exact hPc, hCK.alike hW⟩⟩ rfl rfl hl.1 rfl (lv_room (Nat.le_of_ble_eq_true rfl)) dX7_init_20 ⟨Nat.le_of_ble_eq_true rfl, Nat.le_of_ble_eq_true rfl⟩) hS (fun q _ h => hFc q h) hFc (fun u2 t H1 locs ht hvm hw hB hz1 hk1 hS => ?_)
  obtain ⟨hP1, hD1⟩ := hB
  rw [ht] at hP1
  obtain ⟨hP, hD⟩ := va_joinQ (wr := [(h0, .inr (5, [.ref q1, .null, .null, .int 0, .null, .null, .null, .null]))]) (w1 := bw T q2 u2.1 u2.2 8) hP hD [1] [0] rfl rfl (by decide) (by decide) hk1 hFc hP1 hD1
  generalize H1 = H at hP hS ⊢
  refine W.widen (k := 116) (n := 6186) (Nat.le_of_ble_eq_true rfl) (Nat.le_of_ble_eq_true rfl) ?_
  have hP : va_P D cls7 ([(h0, .inr (5, [.ref q1, .null, .null, .int 0, .null, .null, .null, .null]))] ++ (bw T q2 u2.1 u2.2 8 ++ (bw T q1 u1.1 u1.2 8 ++ []))) H := hP
  have hD : va_D A ([(h0, .inr (5, [.ref q1, .null, .null, .int 0, .null, .null, .null, .null]))] ++ (bw T q2 u2.1 u2.2 8 ++ (bw T q1 u1.1 u1.2 8 ++ []))) := hD
  refine va_putF (D := D) (ci := 5) (v := .ref q2) (ty := .object "LoanBook$Book") (C := RX7) (T := TX7) (N := 8) hx hb hts c7_5.2.1 tyX7 tyX7_ok nmX7 hown hK hP hD hS 0 rfl rfl 1 (by decide) (hts _ wk_f_RX7_16) (fun _ h9 => h9) rfl hin rfl (by decide +kernel) rfl rfl (Nat.le_of_ble_eq_true rfl) dX7_init_23 (fun H locs hP hD hS => ?_)
  have hP : va_P D cls7 ([(h0, .inr (5, [.ref q1, .ref q2, .null, .int 0, .null, .null, .null, .null]))] ++ (bw T q2 u2.1 u2.2 8 ++ (bw T q1 u1.1 u1.2 8 ++ []))) H := hP
  have hD : va_D A ([(h0, .inr (5, [.ref q1, .ref q2, .null, .int 0, .null, .null, .null, .null]))] ++ (bw T q2 u2.1 u2.2 8 ++ (bw T q1 u1.1 u1.2 8 ++ []))) := hD
  refine lv_aload_n hx hb dX7_init_26 rfl (lv_at hl 0 rfl) ?_
  refine va_new (ci := 0) (fs := [.int 0, .int 0, .int 0, .int 0, .null]) (C := RX1) (T := TX1) (N := 5) hx hb hts c7_0.2.1 tyX1 tyX1_ok hown (hts _ wk_cl_RX7_7) (hts _ wk_in_X1) (hts _ wk_it_X1) hK hP hD hS hA rfl zf_X1 (Nat.le_of_ble_eq_true rfl) (Nat.le_of_ble_eq_true rfl) dX7_init_27 (fun q3 H hP hD hS => ?_)
  have hP := va_P.swap hP
  have hD := va_D.swap hD
  have hP : va_P D cls7 ([(h0, .inr (5, [.ref q1, .ref q2, .null, .int 0, .null, .null, .null, .null])), (q3, .inr (0, [.int 0, .int 0, .int 0, .int 0, .null]))] ++ (bw T q2 u2.1 u2.2 8 ++ (bw T q1 u1.1 u1.2 8 ++ []))) H := hP
  have hD : va_D A ([(h0, .inr (5, [.ref q1, .ref q2, .null, .int 0, .null, .null, .null, .null])), (q3, .inr (0, [.int 0, .int 0, .int 0, .int 0, .null]))] ++ (bw T q2 u2.1 u2.2 8 ++ (bw T q1 u1.1 u1.2 8 ++ []))) := hD
  refine W.widen (k := 117) (n := 6191) (Nat.le_of_ble_eq_true rfl) (Nat.le_of_ble_eq_true rfl) ?_
  refine lv_dup hx hb dX7_init_30 rfl ?_
  have hPc := hP.sub (ws' := [(q3, .inr (0, [.int 0, .int 0, .int 0, .int 0, .null]))]) [1] rfl
  have hFc := va_free (wc := [(q3, .inr (0, [.int 0, .int 0, .int 0, .int 0, .null]))]) hD hS hA [1] rfl
  refine va_callv (va_runI (As := []) (rest := [.ref q3, .ref h0]) ⟨hx, hb, hml, hown, hts⟩ (k_X1 l D T q3 H.size) (cwP hts wk_co_X1 rfl rfl wk_ml_RX7_9 wk_it_X1 wk_im_X1 rfl ⟨by decide +kernel, by decide +kernel, by decide +kernel⟩ ⟨Nat.le_of_ble_eq_true rfl, Nat.le_of_ble_eq_true rfl⟩) ⟨FBc, fun U hU hW => ⟨rfl, by rw [hU], by rw [hU]; exact hPc, hCK.alike hW⟩⟩ rfl rfl hl.1 rfl (lv_room (Nat.le_of_ble_eq_true rfl)) dX7_init_31 ⟨Nat.le_of_ble_eq_true rfl, Nat.le_of_ble_eq_true rfl⟩) hS (fun q _ h => hFc q h) hFc (fun u3 t H1 locs ht hvm hw hB hz1 hk1 hS => ?_)
  obtain ⟨hP1, hD1⟩ := hB
  rw [ht] at hP1
  obtain ⟨hP, hD⟩ := va_joinQ (wr := [(h0, .inr (5, [.ref q1, .ref q2, .null, .int 0, .null, .null, .null, .null]))]) (w1 := bw T q3 u3.1 u3.2 8) hP hD [1] [0] rfl rfl (by decide) (by decide) hk1 hFc hP1 hD1
  generalize H1 = H at hP hS ⊢
  refine W.widen (k := 174) (n := 9279) (Nat.le_of_ble_eq_true rfl) (Nat.le_of_ble_eq_true rfl) ?_
  have hP : va_P D cls7 ([(h0, .inr (5, [.ref q1, .ref q2, .null, .int 0, .null, .null, .null, .null]))] ++ (bw T q3 u3.1 u3.2 8 ++ (bw T q2 u2.1 u2.2 8 ++ (bw T q1 u1.1 u1.2 8 ++ [])))) H := hP
  have hD : va_D A ([(h0, .inr (5, [.ref q1, .ref q2, .null, .int 0, .null, .null, .null, .null]))] ++ (bw T q3 u3.1 u3.2 8 ++ (bw T q2 u2.1 u2.2 8 ++ (bw T q1 u1.1 u1.2 8 ++ [])))) := hD
  refine va_putF (D := D) (ci := 5) (v := .ref q3) (ty := .object "LoanBook$Book") (C := RX7) (T := TX7) (N := 8) hx hb hts c7_5.2.1 tyX7 tyX7_ok nmX7 hown hK hP hD hS 0 rfl rfl 2 (by decide) (hts _ wk_f_RX7_19) (fun _ h9 => h9) rfl hin rfl (by decide +kernel) rfl rfl (Nat.le_of_ble_eq_true rfl) dX7_init_34 (fun H locs hP hD hS => ?_)
  have hP : va_P D cls7 ([(h0, .inr (5, [.ref q1, .ref q2, .ref q3, .int 0, .null, .null, .null, .null]))] ++ (bw T q3 u3.1 u3.2 8 ++ (bw T q2 u2.1 u2.2 8 ++ (bw T q1 u1.1 u1.2 8 ++ [])))) H := hP
  have hD : va_D A ([(h0, .inr (5, [.ref q1, .ref q2, .ref q3, .int 0, .null, .null, .null, .null]))] ++ (bw T q3 u3.1 u3.2 8 ++ (bw T q2 u2.1 u2.2 8 ++ (bw T q1 u1.1 u1.2 8 ++ [])))) := hD
  refine lv_aload_n hx hb dX7_init_37 rfl (lv_at hl 0 rfl) ?_
  refine lv_iconst (v := 0) hx hb dX7_init_38 (by decide) ?_
  refine va_put (D := D) (ci := 5) (v := .int 0) (ty := .boolean) (C := RX7) (T := TX7) (N := 8) hx hb hts c7_5.2.1 tyX7 tyX7_ok nmX7 hown hK hP hD hS 0 rfl rfl 3 (by decide) (hts _ wk_f_RX7_22) (fun _ h9 => h9) rfl (by decide +kernel) rfl rfl (Nat.le_of_ble_eq_true rfl) dX7_init_39 (fun H locs hP hD hS => ?_)
  have hP : va_P D cls7 ([(h0, .inr (5, [.ref q1, .ref q2, .ref q3, .int 0, .null, .null, .null, .null]))] ++ (bw T q3 u3.1 u3.2 8 ++ (bw T q2 u2.1 u2.2 8 ++ (bw T q1 u1.1 u1.2 8 ++ [])))) H := hP
  have hD : va_D A ([(h0, .inr (5, [.ref q1, .ref q2, .ref q3, .int 0, .null, .null, .null, .null]))] ++ (bw T q3 u3.1 u3.2 8 ++ (bw T q2 u2.1 u2.2 8 ++ (bw T q1 u1.1 u1.2 8 ++ [])))) := hD
  refine lv_aload_n hx hb dX7_init_42 rfl (lv_at hl 0 rfl) ?_
  refine va_new (ci := 2) (fs := [.long 0, .long 0, .long 0, .long 0, .long 0, .long 0, .long 0, .int 0, .int 0, .int 0, .int 0, .int 0, .int 0, .null, .null, .null, .null, .null, .null]) (C := RX4) (T := TX4) (N := 19) hx hb hts c7_2.2.1 tyX4 tyX4_ok hown (hts _ wk_cl_RX7_26) (hts _ wk_in_X4) (hts _ wk_it_X4) hK hP hD hS hA rfl zf_X4 (Nat.le_of_ble_eq_true rfl) (Nat.le_of_ble_eq_true rfl) dX7_init_43 (fun q4 H hP hD hS => ?_)
  have hP := va_P.swap hP
  have hD := va_D.swap hD
  have hP : va_P D cls7 ([(h0, .inr (5, [.ref q1, .ref q2, .ref q3, .int 0, .null, .null, .null, .null])), (q4, .inr (2, [.long 0, .long 0, .long 0, .long 0, .long 0, .long 0, .long 0, .int 0, .int 0, .int 0, .int 0, .int 0, .int 0, .null, .null, .null, .null, .null, .null]))] ++ (bw T q3 u3.1 u3.2 8 ++ (bw T q2 u2.1 u2.2 8 ++ (bw T q1 u1.1 u1.2 8 ++ [])))) H := hP
  have hD : va_D A ([(h0, .inr (5, [.ref q1, .ref q2, .ref q3, .int 0, .null, .null, .null, .null])), (q4, .inr (2, [.long 0, .long 0, .long 0, .long 0, .long 0, .long 0, .long 0, .int 0, .int 0, .int 0, .int 0, .int 0, .int 0, .null, .null, .null, .null, .null, .null]))] ++ (bw T q3 u3.1 u3.2 8 ++ (bw T q2 u2.1 u2.2 8 ++ (bw T q1 u1.1 u1.2 8 ++ [])))) := hD
  refine W.widen (k := 175) (n := 9298) (Nat.le_of_ble_eq_true rfl) (Nat.le_of_ble_eq_true rfl) ?_
  refine lv_dup hx hb dX7_init_46 rfl ?_
  have hPc := hP.sub (ws' := [(q4, .inr (2, [.long 0, .long 0, .long 0, .long 0, .long 0, .long 0, .long 0, .int 0, .int 0, .int 0, .int 0, .int 0, .int 0, .null, .null, .null, .null, .null, .null]))]) [1] rfl
  have hFc := va_free (wc := [(q4, .inr (2, [.long 0, .long 0, .long 0, .long 0, .long 0, .long 0, .long 0, .int 0, .int 0, .int 0, .int 0, .int 0, .int 0, .null, .null, .null, .null, .null, .null]))]) hD hS hA [1] rfl
  refine va_callv (va_runIN (As := []) (rest := [.ref q4, .ref h0]) ⟨hx, hb, hml, hown, hts⟩ (k_X4 l D T q4 H.size) (cwN hts wk_co_X4 rfl rfl hCK.2.2.2.1 wk_it_X4 wk_im_X4 rfl ⟨by decide +kernel, by decide +kernel, by decide +kernel⟩ ⟨Nat.le_of_ble_eq_true rfl, Nat.le_of_ble_eq_true rfl⟩) ⟨FBc, fun U hU hW => ⟨rfl, by rw [hU], by rw [hU]; exact hPc, hCK.alike hW⟩⟩ rfl rfl hl.1 rfl (lv_room (Nat.le_of_ble_eq_true rfl)) dX7_init_47 ⟨Nat.le_of_ble_eq_true rfl, Nat.le_of_ble_eq_true rfl⟩) hS (fun q _ h => hFc q h) hFc (fun u4 t H1 locs ht hvm hw hB hz1 hk1 hS => ?_)
  obtain ⟨hP1, hD1⟩ := hB
  rw [ht] at hP1
  obtain ⟨hP, hD⟩ := va_joinQ (wr := [(h0, .inr (5, [.ref q1, .ref q2, .ref q3, .int 0, .null, .null, .null, .null]))]) (w1 := w_X4 T q4 u4) hP hD [1] [0] rfl rfl (by decide) (by decide) hk1 hFc hP1 hD1
  generalize H1 = H at hP hS ⊢
  refine W.widen (k := 181) (n := 9664) (Nat.le_of_ble_eq_true rfl) (Nat.le_of_ble_eq_true rfl) ?_
  have hP : va_P D cls7 ([(h0, .inr (5, [.ref q1, .ref q2, .ref q3, .int 0, .null, .null, .null, .null]))] ++ (w_X4 T q4 u4 ++ (bw T q3 u3.1 u3.2 8 ++ (bw T q2 u2.1 u2.2 8 ++ (bw T q1 u1.1 u1.2 8 ++ []))))) H := hP
  have hD : va_D A ([(h0, .inr (5, [.ref q1, .ref q2, .ref q3, .int 0, .null, .null, .null, .null]))] ++ (w_X4 T q4 u4 ++ (bw T q3 u3.1 u3.2 8 ++ (bw T q2 u2.1 u2.2 8 ++ (bw T q1 u1.1 u1.2 8 ++ []))))) := hD
  refine va_putF (D := D) (ci := 5) (v := .ref q4) (ty := .object "LoanBook$Loan") (C := RX7) (T := TX7) (N := 8) hx hb hts c7_5.2.1 tyX7 tyX7_ok nmX7 hown hK hP hD hS 0 rfl rfl 4 (by decide) (hts _ wk_f_RX7_29) (fun _ h9 => h9) rfl hin rfl (by decide +kernel) rfl rfl (Nat.le_of_ble_eq_true rfl) dX7_init_50 (fun H locs hP hD hS => ?_)
  have hP : va_P D cls7 ([(h0, .inr (5, [.ref q1, .ref q2, .ref q3, .int 0, .ref q4, .null, .null, .null]))] ++ (w_X4 T q4 u4 ++ (bw T q3 u3.1 u3.2 8 ++ (bw T q2 u2.1 u2.2 8 ++ (bw T q1 u1.1 u1.2 8 ++ []))))) H := hP
  have hD : va_D A ([(h0, .inr (5, [.ref q1, .ref q2, .ref q3, .int 0, .ref q4, .null, .null, .null]))] ++ (w_X4 T q4 u4 ++ (bw T q3 u3.1 u3.2 8 ++ (bw T q2 u2.1 u2.2 8 ++ (bw T q1 u1.1 u1.2 8 ++ []))))) := hD
  refine lv_aload_n hx hb dX7_init_53 rfl (lv_at hl 0 rfl) ?_
  refine va_new (ci := 3) (fs := [.int 0, .int 0, .null, .null, .null]) (C := RX5) (T := TX5) (N := 5) hx hb hts c7_3.2.1 tyX5 tyX5_ok hown (hts _ wk_cl_RX7_33) (hts _ wk_in_X5) (hts _ wk_it_X5) hK hP hD hS hA rfl zf_X5 (Nat.le_of_ble_eq_true rfl) (Nat.le_of_ble_eq_true rfl) dX7_init_54 (fun q5 H hP hD hS => ?_)
  have hP := va_P.swap hP
  have hD := va_D.swap hD
  have hP : va_P D cls7 ([(h0, .inr (5, [.ref q1, .ref q2, .ref q3, .int 0, .ref q4, .null, .null, .null])), (q5, .inr (3, [.int 0, .int 0, .null, .null, .null]))] ++ (w_X4 T q4 u4 ++ (bw T q3 u3.1 u3.2 8 ++ (bw T q2 u2.1 u2.2 8 ++ (bw T q1 u1.1 u1.2 8 ++ []))))) H := hP
  have hD : va_D A ([(h0, .inr (5, [.ref q1, .ref q2, .ref q3, .int 0, .ref q4, .null, .null, .null])), (q5, .inr (3, [.int 0, .int 0, .null, .null, .null]))] ++ (w_X4 T q4 u4 ++ (bw T q3 u3.1 u3.2 8 ++ (bw T q2 u2.1 u2.2 8 ++ (bw T q1 u1.1 u1.2 8 ++ []))))) := hD
  refine W.widen (k := 182) (n := 9669) (Nat.le_of_ble_eq_true rfl) (Nat.le_of_ble_eq_true rfl) ?_
  refine lv_dup hx hb dX7_init_57 rfl ?_
  have hPc := hP.sub (ws' := [(q5, .inr (3, [.int 0, .int 0, .null, .null, .null]))]) [1] rfl
  have hFc := va_free (wc := [(q5, .inr (3, [.int 0, .int 0, .null, .null, .null]))]) hD hS hA [1] rfl
  refine va_callv (va_runIN (As := []) (rest := [.ref q5, .ref h0]) ⟨hx, hb, hml, hown, hts⟩ (k_X5 l D T q5 H.size) (cwN hts wk_co_X5 rfl rfl hCK.2.2.2.2.1 wk_it_X5 wk_im_X5 rfl ⟨by decide +kernel, by decide +kernel, by decide +kernel⟩ ⟨Nat.le_of_ble_eq_true rfl, Nat.le_of_ble_eq_true rfl⟩) ⟨FBc, fun U hU hW => ⟨rfl, by rw [hU], by rw [hU]; exact hPc, hCK.alike hW⟩⟩ rfl rfl hl.1 rfl (lv_room (Nat.le_of_ble_eq_true rfl)) dX7_init_58 ⟨Nat.le_of_ble_eq_true rfl, Nat.le_of_ble_eq_true rfl⟩) hS (fun q _ h => hFc q h) hFc (fun u5 t H1 locs ht hvm hw hB hz1 hk1 hS => ?_)
  obtain ⟨hP1, hD1⟩ := hB
  rw [ht] at hP1
  obtain ⟨hP, hD⟩ := va_joinQ (wr := [(h0, .inr (5, [.ref q1, .ref q2, .ref q3, .int 0, .ref q4, .null, .null, .null]))]) (w1 := w_X5 T q5 u5) hP hD [1] [0] rfl rfl (by decide) (by decide) hk1 hFc hP1 hD1
  generalize H1 = H at hP hS ⊢
  refine W.widen (k := 185) (n := 9852) (Nat.le_of_ble_eq_true rfl) (Nat.le_of_ble_eq_true rfl) ?_
  have hP : va_P D cls7 ([(h0, .inr (5, [.ref q1, .ref q2, .ref q3, .int 0, .ref q4, .null, .null, .null]))] ++ (w_X5 T q5 u5 ++ (w_X4 T q4 u4 ++ (bw T q3 u3.1 u3.2 8 ++ (bw T q2 u2.1 u2.2 8 ++ (bw T q1 u1.1 u1.2 8 ++ [])))))) H := hP
  have hD : va_D A ([(h0, .inr (5, [.ref q1, .ref q2, .ref q3, .int 0, .ref q4, .null, .null, .null]))] ++ (w_X5 T q5 u5 ++ (w_X4 T q4 u4 ++ (bw T q3 u3.1 u3.2 8 ++ (bw T q2 u2.1 u2.2 8 ++ (bw T q1 u1.1 u1.2 8 ++ [])))))) := hD
  refine va_putF (D := D) (ci := 5) (v := .ref q5) (ty := .object "LoanBook$Plan") (C := RX7) (T := TX7) (N := 8) hx hb hts c7_5.2.1 tyX7 tyX7_ok nmX7 hown hK hP hD hS 0 rfl rfl 5 (by decide) (hts _ wk_f_RX7_36) (fun _ h9 => h9) rfl hin rfl (by decide +kernel) rfl rfl (Nat.le_of_ble_eq_true rfl) dX7_init_61 (fun H locs hP hD hS => ?_)
  have hP : va_P D cls7 ([(h0, .inr (5, [.ref q1, .ref q2, .ref q3, .int 0, .ref q4, .ref q5, .null, .null]))] ++ (w_X5 T q5 u5 ++ (w_X4 T q4 u4 ++ (bw T q3 u3.1 u3.2 8 ++ (bw T q2 u2.1 u2.2 8 ++ (bw T q1 u1.1 u1.2 8 ++ [])))))) H := hP
  have hD : va_D A ([(h0, .inr (5, [.ref q1, .ref q2, .ref q3, .int 0, .ref q4, .ref q5, .null, .null]))] ++ (w_X5 T q5 u5 ++ (w_X4 T q4 u4 ++ (bw T q3 u3.1 u3.2 8 ++ (bw T q2 u2.1 u2.2 8 ++ (bw T q1 u1.1 u1.2 8 ++ [])))))) := hD
  refine lv_aload_n hx hb dX7_init_64 rfl (lv_at hl 0 rfl) ?_
  refine va_new (ci := 4) (fs := [.int 0, .int 0, .int 0, .null, .null]) (C := RX6) (T := TX6) (N := 5) hx hb hts c7_4.2.1 tyX6 tyX6_ok hown (hts _ wk_cl_RX7_40) (hts _ wk_in_X6) (hts _ wk_it_X6) hK hP hD hS hA rfl zf_X6 (Nat.le_of_ble_eq_true rfl) (Nat.le_of_ble_eq_true rfl) dX7_init_65 (fun q6 H hP hD hS => ?_)
  have hP := va_P.swap hP
  have hD := va_D.swap hD
  have hP : va_P D cls7 ([(h0, .inr (5, [.ref q1, .ref q2, .ref q3, .int 0, .ref q4, .ref q5, .null, .null])), (q6, .inr (4, [.int 0, .int 0, .int 0, .null, .null]))] ++ (w_X5 T q5 u5 ++ (w_X4 T q4 u4 ++ (bw T q3 u3.1 u3.2 8 ++ (bw T q2 u2.1 u2.2 8 ++ (bw T q1 u1.1 u1.2 8 ++ [])))))) H := hP
  have hD : va_D A ([(h0, .inr (5, [.ref q1, .ref q2, .ref q3, .int 0, .ref q4, .ref q5, .null, .null])), (q6, .inr (4, [.int 0, .int 0, .int 0, .null, .null]))] ++ (w_X5 T q5 u5 ++ (w_X4 T q4 u4 ++ (bw T q3 u3.1 u3.2 8 ++ (bw T q2 u2.1 u2.2 8 ++ (bw T q1 u1.1 u1.2 8 ++ [])))))) := hD
  refine W.widen (k := 186) (n := 9857) (Nat.le_of_ble_eq_true rfl) (Nat.le_of_ble_eq_true rfl) ?_
  refine lv_dup hx hb dX7_init_68 rfl ?_
  have hPc := hP.sub (ws' := [(q6, .inr (4, [.int 0, .int 0, .int 0, .null, .null]))]) [1] rfl
  have hFc := va_free (wc := [(q6, .inr (4, [.int 0, .int 0, .int 0, .null, .null]))]) hD hS hA [1] rfl
  refine va_callv (va_runIN (As := []) (rest := [.ref q6, .ref h0]) ⟨hx, hb, hml, hown, hts⟩ (k_X6 l D T q6 H.size) (cwN hts wk_co_X6 rfl rfl hCK.2.2.2.2.2.1 wk_it_X6 wk_im_X6 rfl ⟨by decide +kernel, by decide +kernel, by decide +kernel⟩ ⟨Nat.le_of_ble_eq_true rfl, Nat.le_of_ble_eq_true rfl⟩) ⟨FBc, fun U hU hW => ⟨rfl, by rw [hU], by rw [hU]; exact hPc, hCK.alike hW⟩⟩ rfl rfl hl.1 rfl (lv_room (Nat.le_of_ble_eq_true rfl)) dX7_init_69 ⟨Nat.le_of_ble_eq_true rfl, Nat.le_of_ble_eq_true rfl⟩) hS (fun q _ h => hFc q h) hFc (fun u6 t H1 locs ht hvm hw hB hz1 hk1 hS => ?_)
  obtain ⟨hP1, hD1⟩ := hB
  rw [ht] at hP1
  obtain ⟨hP, hD⟩ := va_joinQ (wr := [(h0, .inr (5, [.ref q1, .ref q2, .ref q3, .int 0, .ref q4, .ref q5, .null, .null]))]) (w1 := w_X6 T q6 u6) hP hD [1] [0] rfl rfl (by decide) (by decide) hk1 hFc hP1 hD1
  generalize H1 = H at hP hS ⊢
  refine W.widen (k := 188) (n := 9983) (Nat.le_of_ble_eq_true rfl) (Nat.le_of_ble_eq_true rfl) ?_
  have hP : va_P D cls7 ([(h0, .inr (5, [.ref q1, .ref q2, .ref q3, .int 0, .ref q4, .ref q5, .null, .null]))] ++ (w_X6 T q6 u6 ++ (w_X5 T q5 u5 ++ (w_X4 T q4 u4 ++ (bw T q3 u3.1 u3.2 8 ++ (bw T q2 u2.1 u2.2 8 ++ (bw T q1 u1.1 u1.2 8 ++ []))))))) H := hP
  have hD : va_D A ([(h0, .inr (5, [.ref q1, .ref q2, .ref q3, .int 0, .ref q4, .ref q5, .null, .null]))] ++ (w_X6 T q6 u6 ++ (w_X5 T q5 u5 ++ (w_X4 T q4 u4 ++ (bw T q3 u3.1 u3.2 8 ++ (bw T q2 u2.1 u2.2 8 ++ (bw T q1 u1.1 u1.2 8 ++ []))))))) := hD
  refine va_putF (D := D) (ci := 5) (v := .ref q6) (ty := .object "LoanBook$Tape") (C := RX7) (T := TX7) (N := 8) hx hb hts c7_5.2.1 tyX7 tyX7_ok nmX7 hown hK hP hD hS 0 rfl rfl 6 (by decide) (hts _ wk_f_RX7_43) (fun _ h9 => h9) rfl hin rfl (by decide +kernel) rfl rfl (Nat.le_of_ble_eq_true rfl) dX7_init_72 (fun H locs hP hD hS => ?_)
  have hP : va_P D cls7 ([(h0, .inr (5, [.ref q1, .ref q2, .ref q3, .int 0, .ref q4, .ref q5, .ref q6, .null]))] ++ (w_X6 T q6 u6 ++ (w_X5 T q5 u5 ++ (w_X4 T q4 u4 ++ (bw T q3 u3.1 u3.2 8 ++ (bw T q2 u2.1 u2.2 8 ++ (bw T q1 u1.1 u1.2 8 ++ []))))))) H := hP
  have hD : va_D A ([(h0, .inr (5, [.ref q1, .ref q2, .ref q3, .int 0, .ref q4, .ref q5, .ref q6, .null]))] ++ (w_X6 T q6 u6 ++ (w_X5 T q5 u5 ++ (w_X4 T q4 u4 ++ (bw T q3 u3.1 u3.2 8 ++ (bw T q2 u2.1 u2.2 8 ++ (bw T q1 u1.1 u1.2 8 ++ []))))))) := hD
  refine lv_aload_n hx hb dX7_init_75 rfl (lv_at hl 0 rfl) ?_
  refine lv_bipush (v := 6) hx hb dX7_init_76 (by decide) ?_
  refine va_newq (N' := 6) hx hb hown (hts _ wk_cl_RX7_47) hCK.2.1.2.1 hK hP hD hS hA (by decide) (by decide) (by decide) (Nat.le_of_ble_eq_true rfl) (Nat.le_of_ble_eq_true rfl) dX7_init_78 (fun qh cA H hK9 hP hD hS => ?_)
  have ecA : cA = T 3 := by
    obtain ⟨_, _, _, _, _, f1⟩ := (hK9.2 6 _ rfl).2
    obtain ⟨_, _, _, _, _, f2⟩ := (hK.2 3 _ rfl).2
    exact Option.some.inj (f1.symm.trans f2)
  subst ecA
  have hP := va_P.swap hP
  have hD := va_D.swap hD
  have hP : va_P D cls7 ([(h0, .inr (5, [.ref q1, .ref q2, .ref q3, .int 0, .ref q4, .ref q5, .ref q6, .null])), (qh, .inl (T 3, 6, .inr (.inr (.inr (.inr (fun _ => none))))))] ++ (w_X6 T q6 u6 ++ (w_X5 T q5 u5 ++ (w_X4 T q4 u4 ++ (bw T q3 u3.1 u3.2 8 ++ (bw T q2 u2.1 u2.2 8 ++ (bw T q1 u1.1 u1.2 8 ++ []))))))) H := hP
  have hD : va_D A ([(h0, .inr (5, [.ref q1, .ref q2, .ref q3, .int 0, .ref q4, .ref q5, .ref q6, .null])), (qh, .inl (T 3, 6, .inr (.inr (.inr (.inr (fun _ => none))))))] ++ (w_X6 T q6 u6 ++ (w_X5 T q5 u5 ++ (w_X4 T q4 u4 ++ (bw T q3 u3.1 u3.2 8 ++ (bw T q2 u2.1 u2.2 8 ++ (bw T q1 u1.1 u1.2 8 ++ []))))))) := hD
  refine W.widen (k := 189) (n := 9989) (Nat.le_of_ble_eq_true rfl) (Nat.le_of_ble_eq_true rfl) ?_
  refine va_putF (D := D) (ci := 5) (v := .ref qh) (ty := .array (.object "LoanBook$Holder")) (C := RX7) (T := TX7) (N := 8) hx hb hts c7_5.2.1 tyX7 tyX7_ok nmX7 hown hK hP hD hS 0 rfl rfl 7 (by decide) (hts _ wk_f_RX7_49) (fun _ h9 => h9) rfl hin rfl (by decide +kernel) rfl rfl (Nat.le_of_ble_eq_true rfl) dX7_init_81 (fun H locs hP hD hS => ?_)
  have hP : va_P D cls7 ([(h0, .inr (5, [.ref q1, .ref q2, .ref q3, .int 0, .ref q4, .ref q5, .ref q6, .ref qh])), (qh, .inl (T 3, 6, .inr (.inr (.inr (.inr (fun _ => none))))))] ++ (w_X6 T q6 u6 ++ (w_X5 T q5 u5 ++ (w_X4 T q4 u4 ++ (bw T q3 u3.1 u3.2 8 ++ (bw T q2 u2.1 u2.2 8 ++ (bw T q1 u1.1 u1.2 8 ++ []))))))) H := hP
  have hD : va_D A ([(h0, .inr (5, [.ref q1, .ref q2, .ref q3, .int 0, .ref q4, .ref q5, .ref q6, .ref qh])), (qh, .inl (T 3, 6, .inr (.inr (.inr (.inr (fun _ => none))))))] ++ (w_X6 T q6 u6 ++ (w_X5 T q5 u5 ++ (w_X4 T q4 u4 ++ (bw T q3 u3.1 u3.2 8 ++ (bw T q2 u2.1 u2.2 8 ++ (bw T q1 u1.1 u1.2 8 ++ []))))))) := hD
  refine lv_iconst (v := 0) hx hb dX7_init_84 (by decide) ?_
  refine lv_istore_n (lv' := [(1, .int (nI 0)), (0, .ref h0)]) hx hb dX7_init_85 rfl hl (by decide) rfl (fun ls hl => ?_)
  have e0 : hf (fun _ => 0) 0 = fun _ => none := by
    funext j
    unfold hf
    rw [if_neg (by omega)]
  refine W.widen (k := 189 + 2 * 0) (n := 9989 + 65 * 0) (Nat.le_of_ble_eq_true rfl) (Nat.le_of_ble_eq_true rfl) ?_
  refine hd_loop (pl := (w_X6 T q6 u6 ++ (w_X5 T q5 u5 ++ (w_X4 T q4 u4 ++ (bw T q3 u3.1 u3.2 8 ++ (bw T q2 u2.1 u2.2 8 ++ (bw T q1 u1.1 u1.2 8 ++ []))))))) hx hb hml hown hts hCK hA (fun ad H locs ls hP hD hS => ?_) 6 0 (fun _ => 0) H locs ls (by omega) (by rw [e0]; exact hP) (by rw [e0]; exact hD) hS hl
  exact W.vret hx hb hr (fun t ht hW => ⟨⟨((q1, q2, q3, q4, q5, q6, qh), u1, u2, u3, u4, u5, u6, ad, ()), rfl, trivial, by rw [ht]; exact hP, hD⟩, hS.F ht⟩) hS.2.2 dX7_init_111
