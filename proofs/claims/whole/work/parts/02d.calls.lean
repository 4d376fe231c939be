/-! calls, the JDK's natives, ends -/
/-- a method of an object, as the tables have it -/
def MIv (y : MethodName) (cc : ByteArray) (nL : Nat) (rt : Option FieldType) (n : Nat) : Prop := Cond.code y cc nL rt ∈ lw_good ∧ Cond.instanceMethod y ∈ lw_good ∧ Cond.selects y.cls y y ∈ lw_good ∧ Cond.initialized y.cls ∈ lw_good ∧ y.cls ≠ "java/lang/invoke/MethodHandle" ∧ y.cls ≠ "java/lang/invoke/VarHandle" ∧ (parseMethodDescriptor y.desc).map (fun d => d.parameters.length) = some n
/-- a static one -/
def MIs (y : MethodName) (cc : ByteArray) (nL : Nat) (rt : Option FieldType) (n : Nat) : Prop := Cond.code y cc nL rt ∈ lw_good ∧ Cond.static y ∈ lw_good ∧ Cond.initialized y.cls ∈ lw_good ∧ y.cls ≠ "java/lang/invoke/MethodHandle" ∧ y.cls ≠ "java/lang/invoke/VarHandle" ∧ (parseMethodDescriptor y.desc).map (fun d => d.parameters.length) = some n
def RmOK (R rm : Room) (nL : Nat) : Prop := rm.frames + 1 ≤ R.frames ∧ 8 + (nL + 11) + rm.locals ≤ R.locals ∧ rm.cells = 0 ∧ rm.slots = 0
theorem goodM {y : MethodName} {cc : ByteArray} {nL : Nat} {rt : Option FieldType} (h : Cond.code y cc nL rt ∈ lw_good) : GoodIn lw_good (wsM y cc nL rt) := fun w hw => by
  rcases List.mem_cons.mp hw with rfl | hw
  · exact lw_good_in _ h
  · exact lw_good_in _ hw
theorem trs_rev (Z : ZT) (as : List Value) (v : Value) (st : List Value) : trs Z (as.reverse ++ v :: st) = (trs Z as).reverse ++ tr Z v :: trs Z st := by
  simp [trs]
theorem trs_revS (Z : ZT) (as : List Value) (st : List Value) : trs Z (as.reverse ++ st) = (trs Z as).reverse ++ trs Z st := by
  simp [trs]
section SMC
variable {p : Program} {l : Launch} {e : Env} {R : Room} {s : State} {m : MethodId} {args : Array Value} {below : List Frame} {meth : Method} {cd : Code} {H : Heap} {locs : List Loc} {Q : State → Prop} {Z : ZT} {cells slots : Nat} {A0 : Nat → Prop} {H0 : Heap}
/-- behind a call -/
theorem wx_call {pc : Nat} {ls : Array Slot} {st0 rest : List Value} {v : Option Value} {S1 : St} {a : Array Value} (hr : va_Run p l e R s m args below meth cd H locs cells slots 0 0 (F0 m pc ls st0) rest (QX Z v S1 a) (zA Z)) (hS : va_S A0 H0 H locs) (hA : ∀ q, zA Z q → A0 q)
    (kk : ∀ (H1 : Heap) (locs1 : List Loc), Rep Z S1 H1 → va_S A0 H0 H1 locs1 → W p l e R s m args below meth cd H1 locs1 cells slots Q (F0 m (pc + 3) ls (v.toList ++ rest))) : W p l e R s m args below meth cd H locs cells slots Q (F0 m pc ls st0) := by
  intro T hT X
  obtain ⟨v', st₀, t, T', L, h0, X', hL, e1, e2, ⟨⟨hv, hb⟩, hz, hk⟩, st⟩ := hr T hT X
  cases hv
  rw [h0] at hz hk
  obtain ⟨t2, a1, b1⟩ := kk T'.heap (locs ++ L) (by rw [e1]; exact hb)
    ⟨Nat.le_trans hS.1 (by rw [e1]; exact hz), fun q h1 h2 => by rw [e1, hk q (Nat.lt_of_lt_of_le h1 hS.1) (fun z => h2 (hA q z))]; exact hS.2.1 q h1 h2, fun q hq => by
      rcases List.mem_append.mp hq with h | h
      · exact hS.2.2 q h
      · exact hA _ (hL q h)⟩ T' rfl X'
  exact ⟨t2, st t2 a1, b1⟩
theorem FB (Z : ZT) (av : List Value) (S : St) : FrameBlind (va_Pc av (fun U => Rep Z S U.heap ∧ KS Z U)) := fun _ _ _ _ h => ⟨h.1, h.2.1, h.2.2.calling⟩
theorem wx_runV {own : String} {cc : ByteArray} {nL idx n ci nL' : Nat} {y : MethodName} {cc' : ByteArray} {rt' : Option FieldType} {rm : Room} {c : Nat} {As rest : List Value} {S S1 : St} {v : Option Value} {pc : Nat} {ls : Array Slot} {T : u_T} {N : Nat} (hF : CallFix p m cd cc nL s args lw_good own) (hM : MetX Z l y cc' nL' rt' rm (.ref c :: As) S v S1) (hi : MIv y cc' nL' rt' n) (hl : Cond.methodLink own idx y ∈ lw_good) (hR : RmOK R rm nL') (hc : cls7[ci]? = some (y.cls, T, N)) (hk : (kd0 c).1 = ci) (hci : ci < 7) (hn : As.length = n) (hsz : ls.size = nL) (hW : (rest.map fun v => v.category).sum ≤ 8) (hKS : ∀ U : State, U.heap = H → s.WarmedH U.vm → KS Z U) (hK : va_K Z.2.1 cls7 (tyz Z) s) (hP : Rep Z S H) (hd : decode cc pc = .ok (.invokevirtual idx, 3)) (hcs : cells ≤ R.cells ∧ slots ≤ R.slots) :
    va_Run p l e R s m args below meth cd H locs cells slots 0 0 (F0 m pc ls (trs Z (As.reverse ++ .ref c :: rest))) (trs Z rest) (QX Z v S1 (trs Z (.ref c :: As)).toArray) (zA Z) := by
  have hlt : c < 226 := kd_lt (kd_eq hk) (by omega)
  obtain ⟨i1, i2, i3, i4, i5, i6, i7⟩ := hi
  have hcw : CallW R s args own y.cls idx y cc' nL' rt' (wsM y cc' nL' rt') rm 0 0 n :=
    ⟨callB_of n hF.2.2.2.2 (goodM i1) rfl hR.2.2.1 hR.2.2.2 (hF.2.2.2.2 _ i4) (hF.2.2.2.2 _ hl) ⟨i5, i6, i7⟩ ⟨hR.1, hR.2.1⟩, hF.2.2.2.2 _ i2, hF.2.2.2.2 _ i3⟩
  exact va_runV (As := trs Z As) (rest := trs Z rest) (b := Z.1 c) (g := F0 m pc ls (trs Z (As.reverse ++ .ref c :: rest))) hF hM hcw
    ⟨FB Z _ S, va_recv hK hP (ci := ci) (q0 := c) hc (by rw [wsO_at Z S hlt, ent_obj (kd_eq hk) hci]), fun U hU hW => ⟨rfl, by rw [hU]; exact hP, hKS U hU hW⟩⟩ rfl (by simp [trs, hn]) hsz (trs_rev Z As (.ref c) rest) (lv_room (by rw [trs_cat]; exact hW)) hd ⟨hcs.1, hcs.2⟩
theorem wx_runS {own : String} {cc : ByteArray} {nL idx n nL' : Nat} {y : MethodName} {cc' : ByteArray} {rt' : Option FieldType} {rm : Room} {As rest : List Value} {S S1 : St} {v : Option Value} {pc : Nat} {ls : Array Slot} (hF : CallFix p m cd cc nL s args lw_good own) (hM : MetX Z l y cc' nL' rt' rm As S v S1) (hi : MIs y cc' nL' rt' n) (hl : Cond.methodLink own idx y ∈ lw_good) (hR : RmOK R rm nL') (hn : As.length = n) (hsz : ls.size = nL) (hW : (rest.map fun v => v.category).sum ≤ 8) (hKS : ∀ U : State, U.heap = H → s.WarmedH U.vm → KS Z U) (hP : Rep Z S H) (hd : decode cc pc = .ok (.invokestatic idx, 3)) (hcs : cells ≤ R.cells ∧ slots ≤ R.slots) :
    va_Run p l e R s m args below meth cd H locs cells slots 0 0 (F0 m pc ls (trs Z (As.reverse ++ rest))) (trs Z rest) (QX Z v S1 (trs Z As).toArray) (zA Z) := by
  obtain ⟨i1, i2, i4, i5, i6, i7⟩ := hi
  have hcw : CallB R s args own idx y cc' nL' rt' (wsM y cc' nL' rt') rm 0 0 n ∧ (Cond.static y).before args s = true :=
    ⟨callB_of n hF.2.2.2.2 (goodM i1) rfl hR.2.2.1 hR.2.2.2 (hF.2.2.2.2 _ i4) (hF.2.2.2.2 _ hl) ⟨i5, i6, i7⟩ ⟨hR.1, hR.2.1⟩, hF.2.2.2.2 _ i2⟩
  exact va_runS (As := trs Z As) (rest := trs Z rest) (g := F0 m pc ls (trs Z (As.reverse ++ rest))) hF hM hcw
    ⟨FB Z _ S, fun U hU hW => ⟨rfl, by rw [hU]; exact hP, hKS U hU hW⟩⟩ rfl (by simp [trs, hn]) hsz (trs_revS Z As rest) (lv_room (by rw [trs_cat]; exact hW)) hd ⟨hcs.1, hcs.2⟩
/-- of a nest mate -/
theorem wx_runSN {own host : String} {cc : ByteArray} {nL idx n nL' : Nat} {y : MethodName} {cc' : ByteArray} {rt' : Option FieldType} {rm : Room} {As rest : List Value} {S S1 : St} {v : Option Value} {pc : Nat} {ls : Array Slot} (hF : CallFix p m cd cc nL s args lw_good own) (hM : MetX Z l y cc' nL' rt' rm As S v S1) (hi : MIs y cc' nL' rt' n) (hl : va_Nw (.methodLinkNest own idx y host) s) (hR : RmOK R rm nL') (hn : As.length = n) (hsz : ls.size = nL) (hW : (rest.map fun v => v.category).sum ≤ 8) (hKS : ∀ U : State, U.heap = H → s.WarmedH U.vm → KS Z U) (hP : Rep Z S H) (hd : decode cc pc = .ok (.invokestatic idx, 3)) (hcs : cells ≤ R.cells ∧ slots ≤ R.slots) :
    va_Run p l e R s m args below meth cd H locs cells slots 0 0 (F0 m pc ls (trs Z (As.reverse ++ rest))) (trs Z rest) (QX Z v S1 (trs Z As).toArray) (zA Z) := by
  obtain ⟨i1, i2, i4, i5, i6, i7⟩ := hi
  have hcw : va_CN R s args own idx y host cc' nL' rt' (wsM y cc' nL' rt') rm 0 0 n ∧ (Cond.static y).before args s = true ∧ True :=
    ⟨va_cnB n hF.2.2.2.2 (goodM i1) rfl hR.2.2.1 hR.2.2.2 hl (hF.2.2.2.2 _ i4) ⟨i5, i6, i7⟩ ⟨hR.1, hR.2.1⟩, hF.2.2.2.2 _ i2, trivial⟩
  exact va_runSN (As := trs Z As) (rest := trs Z rest) (g := F0 m pc ls (trs Z (As.reverse ++ rest))) hF hM hcw
    ⟨FB Z _ S, fun U hU hW => ⟨rfl, by rw [hU]; exact hP, hKS U hU hW⟩⟩ rfl (by simp [trs, hn]) hsz (trs_revS Z As rest) (lv_room (by rw [trs_cat]; exact hW)) hd ⟨hcs.1, hcs.2⟩
end SMC
section SMK
variable {ρ : Type} {em : ρ → Option Value} {Z : ZT} {R : Room} {own : String} {cc : ByteArray} {nL : Nat} {rt : Option FieldType} {lv : List (Nat × Value)} {st : List Value} {S : St}
theorem sm_callVI {idx n ci nL' : Nat} {y : MethodName} {cc' : ByteArray} {rt' : Option FieldType} {rm : Room} {c : Nat} (As : List Value) {stk : List Value} {o : Option (Int32 × St)} {K : Int32 → St → Option (ρ × St)} {pc : Nat} {T : u_T} {N : Nat} (hM : ∀ l r S1, o = some (r, S1) → MetX Z l y cc' nL' rt' rm (.ref c :: As) S (eI r) S1) (hd : decode cc pc = .ok (.invokevirtual idx, 3)) (hi : MIv y cc' nL' rt' n) (hlk : Cond.methodLink own idx y ∈ lw_good) (hR : RmOK R rm nL') (hc : cls7[ci]? = some (y.cls, T, N)) (hci : ci < 7) (hn : As.length = n) (hW : (st.map fun v => v.category).sum ≤ 8) (hst : stk = As.reverse ++ .ref c :: st) (k : ∀ r S1, Sim em Z R own cc nL rt (pc + 3) lv (.int r :: st) S1 (K r S1)) : Sim em Z R own cc nL rt pc lv stk S (gk c ci (cl o K)) := by
  intro p l e s m args below meth cd hC r S' ho ls H locs hl hP hS
  unfold gk at ho
  split at ho
  · next hk =>
    cases hoo : o with
    | none => rw [hoo] at ho; cases ho
    | some q =>
      obtain ⟨r1, S1⟩ := q
      rw [hoo] at ho
      subst hst
      refine wx_call (wx_runV (own := own) (cc := cc) (nL := nL) ⟨hC.1, hC.2.1, hC.2.2.1, hC.2.2.2.1, hC.2.2.2.2.1⟩ (hM l r1 S1 hoo) hi hlk hR hc hk hci hn hl.1 hW (fun U hU hW => hC.2.2.2.2.2.1.goes hS hU hW) hC.2.2.2.2.2.1.1 hP hd ⟨Nat.zero_le _, Nat.zero_le _⟩) hS (fun _ h => h) (fun H1 locs1 hP1 hS1 => ?_)
      exact k r1 S1 p l e s m args below meth cd hC r S' ho ls H1 locs1 hl hP1 hS1
  · cases ho
theorem sm_callSI {idx n nL' : Nat} {y : MethodName} {cc' : ByteArray} {rt' : Option FieldType} {rm : Room} (As : List Value) {stk : List Value} {o : Option (Int32 × St)} {K : Int32 → St → Option (ρ × St)} {pc : Nat} (hM : ∀ l r S1, o = some (r, S1) → MetX Z l y cc' nL' rt' rm As S (eI r) S1) (hd : decode cc pc = .ok (.invokestatic idx, 3)) (hi : MIs y cc' nL' rt' n) (hlk : Cond.methodLink own idx y ∈ lw_good) (hR : RmOK R rm nL') (hn : As.length = n) (hW : (st.map fun v => v.category).sum ≤ 8) (hst : stk = As.reverse ++ st) (k : ∀ r S1, Sim em Z R own cc nL rt (pc + 3) lv (.int r :: st) S1 (K r S1)) : Sim em Z R own cc nL rt pc lv stk S (cl o K) := by
  intro p l e s m args below meth cd hC r S' ho ls H locs hl hP hS
  cases hoo : o with
  | none => rw [hoo] at ho; cases ho
  | some q =>
    obtain ⟨r1, S1⟩ := q
    rw [hoo] at ho
    subst hst
    refine wx_call (wx_runS (own := own) (cc := cc) (nL := nL) ⟨hC.1, hC.2.1, hC.2.2.1, hC.2.2.2.1, hC.2.2.2.2.1⟩ (hM l r1 S1 hoo) hi hlk hR hn hl.1 hW (fun U hU hW => hC.2.2.2.2.2.1.goes hS hU hW) hP hd ⟨Nat.zero_le _, Nat.zero_le _⟩) hS (fun _ h => h) (fun H1 locs1 hP1 hS1 => ?_)
    exact k r1 S1 p l e s m args below meth cd hC r S' ho ls H1 locs1 hl hP1 hS1
theorem sm_callVL {idx n ci nL' : Nat} {y : MethodName} {cc' : ByteArray} {rt' : Option FieldType} {rm : Room} {c : Nat} (As : List Value) {stk : List Value} {o : Option (Int64 × St)} {K : Int64 → St → Option (ρ × St)} {pc : Nat} {T : u_T} {N : Nat} (hM : ∀ l r S1, o = some (r, S1) → MetX Z l y cc' nL' rt' rm (.ref c :: As) S (eL r) S1) (hd : decode cc pc = .ok (.invokevirtual idx, 3)) (hi : MIv y cc' nL' rt' n) (hlk : Cond.methodLink own idx y ∈ lw_good) (hR : RmOK R rm nL') (hc : cls7[ci]? = some (y.cls, T, N)) (hci : ci < 7) (hn : As.length = n) (hW : (st.map fun v => v.category).sum ≤ 8) (hst : stk = As.reverse ++ .ref c :: st) (k : ∀ r S1, Sim em Z R own cc nL rt (pc + 3) lv (.long r :: st) S1 (K r S1)) : Sim em Z R own cc nL rt pc lv stk S (gk c ci (cl o K)) := by
  intro p l e s m args below meth cd hC r S' ho ls H locs hl hP hS
  unfold gk at ho
  split at ho
  · next hk =>
    cases hoo : o with
    | none => rw [hoo] at ho; cases ho
    | some q =>
      obtain ⟨r1, S1⟩ := q
      rw [hoo] at ho
      subst hst
      refine wx_call (wx_runV (own := own) (cc := cc) (nL := nL) ⟨hC.1, hC.2.1, hC.2.2.1, hC.2.2.2.1, hC.2.2.2.2.1⟩ (hM l r1 S1 hoo) hi hlk hR hc hk hci hn hl.1 hW (fun U hU hW => hC.2.2.2.2.2.1.goes hS hU hW) hC.2.2.2.2.2.1.1 hP hd ⟨Nat.zero_le _, Nat.zero_le _⟩) hS (fun _ h => h) (fun H1 locs1 hP1 hS1 => ?_)
      exact k r1 S1 p l e s m args below meth cd hC r S' ho ls H1 locs1 hl hP1 hS1
  · cases ho
theorem sm_callSL {idx n nL' : Nat} {y : MethodName} {cc' : ByteArray} {rt' : Option FieldType} {rm : Room} (As : List Value) {stk : List Value} {o : Option (Int64 × St)} {K : Int64 → St → Option (ρ × St)} {pc : Nat} (hM : ∀ l r S1, o = some (r, S1) → MetX Z l y cc' nL' rt' rm As S (eL r) S1) (hd : decode cc pc = .ok (.invokestatic idx, 3)) (hi : MIs y cc' nL' rt' n) (hlk : Cond.methodLink own idx y ∈ lw_good) (hR : RmOK R rm nL') (hn : As.length = n) (hW : (st.map fun v => v.category).sum ≤ 8) (hst : stk = As.reverse ++ st) (k : ∀ r S1, Sim em Z R own cc nL rt (pc + 3) lv (.long r :: st) S1 (K r S1)) : Sim em Z R own cc nL rt pc lv stk S (cl o K) := by
  intro p l e s m args below meth cd hC r S' ho ls H locs hl hP hS
  cases hoo : o with
  | none => rw [hoo] at ho; cases ho
  | some q =>
    obtain ⟨r1, S1⟩ := q
    rw [hoo] at ho
    subst hst
    refine wx_call (wx_runS (own := own) (cc := cc) (nL := nL) ⟨hC.1, hC.2.1, hC.2.2.1, hC.2.2.2.1, hC.2.2.2.2.1⟩ (hM l r1 S1 hoo) hi hlk hR hn hl.1 hW (fun U hU hW => hC.2.2.2.2.2.1.goes hS hU hW) hP hd ⟨Nat.zero_le _, Nat.zero_le _⟩) hS (fun _ h => h) (fun H1 locs1 hP1 hS1 => ?_)
    exact k r1 S1 p l e s m args below meth cd hC r S' ho ls H1 locs1 hl hP1 hS1
theorem sm_callVD {idx n ci nL' : Nat} {y : MethodName} {cc' : ByteArray} {rt' : Option FieldType} {rm : Room} {c : Nat} (As : List Value) {stk : List Value} {o : Option (UInt64 × St)} {K : UInt64 → St → Option (ρ × St)} {pc : Nat} {T : u_T} {N : Nat} (hM : ∀ l r S1, o = some (r, S1) → MetX Z l y cc' nL' rt' rm (.ref c :: As) S (eD r) S1) (hd : decode cc pc = .ok (.invokevirtual idx, 3)) (hi : MIv y cc' nL' rt' n) (hlk : Cond.methodLink own idx y ∈ lw_good) (hR : RmOK R rm nL') (hc : cls7[ci]? = some (y.cls, T, N)) (hci : ci < 7) (hn : As.length = n) (hW : (st.map fun v => v.category).sum ≤ 8) (hst : stk = As.reverse ++ .ref c :: st) (k : ∀ r S1, Sim em Z R own cc nL rt (pc + 3) lv (.double r :: st) S1 (K r S1)) : Sim em Z R own cc nL rt pc lv stk S (gk c ci (cl o K)) := by
  intro p l e s m args below meth cd hC r S' ho ls H locs hl hP hS
  unfold gk at ho
  split at ho
  · next hk =>
    cases hoo : o with
    | none => rw [hoo] at ho; cases ho
    | some q =>
      obtain ⟨r1, S1⟩ := q
      rw [hoo] at ho
      subst hst
      refine wx_call (wx_runV (own := own) (cc := cc) (nL := nL) ⟨hC.1, hC.2.1, hC.2.2.1, hC.2.2.2.1, hC.2.2.2.2.1⟩ (hM l r1 S1 hoo) hi hlk hR hc hk hci hn hl.1 hW (fun U hU hW => hC.2.2.2.2.2.1.goes hS hU hW) hC.2.2.2.2.2.1.1 hP hd ⟨Nat.zero_le _, Nat.zero_le _⟩) hS (fun _ h => h) (fun H1 locs1 hP1 hS1 => ?_)
      exact k r1 S1 p l e s m args below meth cd hC r S' ho ls H1 locs1 hl hP1 hS1
  · cases ho
theorem sm_callSD {idx n nL' : Nat} {y : MethodName} {cc' : ByteArray} {rt' : Option FieldType} {rm : Room} (As : List Value) {stk : List Value} {o : Option (UInt64 × St)} {K : UInt64 → St → Option (ρ × St)} {pc : Nat} (hM : ∀ l r S1, o = some (r, S1) → MetX Z l y cc' nL' rt' rm As S (eD r) S1) (hd : decode cc pc = .ok (.invokestatic idx, 3)) (hi : MIs y cc' nL' rt' n) (hlk : Cond.methodLink own idx y ∈ lw_good) (hR : RmOK R rm nL') (hn : As.length = n) (hW : (st.map fun v => v.category).sum ≤ 8) (hst : stk = As.reverse ++ st) (k : ∀ r S1, Sim em Z R own cc nL rt (pc + 3) lv (.double r :: st) S1 (K r S1)) : Sim em Z R own cc nL rt pc lv stk S (cl o K) := by
  intro p l e s m args below meth cd hC r S' ho ls H locs hl hP hS
  cases hoo : o with
  | none => rw [hoo] at ho; cases ho
  | some q =>
    obtain ⟨r1, S1⟩ := q
    rw [hoo] at ho
    subst hst
    refine wx_call (wx_runS (own := own) (cc := cc) (nL := nL) ⟨hC.1, hC.2.1, hC.2.2.1, hC.2.2.2.1, hC.2.2.2.2.1⟩ (hM l r1 S1 hoo) hi hlk hR hn hl.1 hW (fun U hU hW => hC.2.2.2.2.2.1.goes hS hU hW) hP hd ⟨Nat.zero_le _, Nat.zero_le _⟩) hS (fun _ h => h) (fun H1 locs1 hP1 hS1 => ?_)
    exact k r1 S1 p l e s m args below meth cd hC r S' ho ls H1 locs1 hl hP1 hS1
theorem sm_callVV {idx n ci nL' : Nat} {y : MethodName} {cc' : ByteArray} {rt' : Option FieldType} {rm : Room} {c : Nat} (As : List Value) {stk : List Value} {o : Option (Unit × St)} {K : Unit → St → Option (ρ × St)} {pc : Nat} {T : u_T} {N : Nat} (hM : ∀ l r S1, o = some (r, S1) → MetX Z l y cc' nL' rt' rm (.ref c :: As) S (eV r) S1) (hd : decode cc pc = .ok (.invokevirtual idx, 3)) (hi : MIv y cc' nL' rt' n) (hlk : Cond.methodLink own idx y ∈ lw_good) (hR : RmOK R rm nL') (hc : cls7[ci]? = some (y.cls, T, N)) (hci : ci < 7) (hn : As.length = n) (hW : (st.map fun v => v.category).sum ≤ 8) (hst : stk = As.reverse ++ .ref c :: st) (k : ∀ r S1, Sim em Z R own cc nL rt (pc + 3) lv (st) S1 (K r S1)) : Sim em Z R own cc nL rt pc lv stk S (gk c ci (cl o K)) := by
  intro p l e s m args below meth cd hC r S' ho ls H locs hl hP hS
  unfold gk at ho
  split at ho
  · next hk =>
    cases hoo : o with
    | none => rw [hoo] at ho; cases ho
    | some q =>
      obtain ⟨r1, S1⟩ := q
      rw [hoo] at ho
      subst hst
      refine wx_call (wx_runV (own := own) (cc := cc) (nL := nL) ⟨hC.1, hC.2.1, hC.2.2.1, hC.2.2.2.1, hC.2.2.2.2.1⟩ (hM l r1 S1 hoo) hi hlk hR hc hk hci hn hl.1 hW (fun U hU hW => hC.2.2.2.2.2.1.goes hS hU hW) hC.2.2.2.2.2.1.1 hP hd ⟨Nat.zero_le _, Nat.zero_le _⟩) hS (fun _ h => h) (fun H1 locs1 hP1 hS1 => ?_)
      exact k r1 S1 p l e s m args below meth cd hC r S' ho ls H1 locs1 hl hP1 hS1
  · cases ho
theorem sm_callSV {idx n nL' : Nat} {y : MethodName} {cc' : ByteArray} {rt' : Option FieldType} {rm : Room} (As : List Value) {stk : List Value} {o : Option (Unit × St)} {K : Unit → St → Option (ρ × St)} {pc : Nat} (hM : ∀ l r S1, o = some (r, S1) → MetX Z l y cc' nL' rt' rm As S (eV r) S1) (hd : decode cc pc = .ok (.invokestatic idx, 3)) (hi : MIs y cc' nL' rt' n) (hlk : Cond.methodLink own idx y ∈ lw_good) (hR : RmOK R rm nL') (hn : As.length = n) (hW : (st.map fun v => v.category).sum ≤ 8) (hst : stk = As.reverse ++ st) (k : ∀ r S1, Sim em Z R own cc nL rt (pc + 3) lv (st) S1 (K r S1)) : Sim em Z R own cc nL rt pc lv stk S (cl o K) := by
  intro p l e s m args below meth cd hC r S' ho ls H locs hl hP hS
  cases hoo : o with
  | none => rw [hoo] at ho; cases ho
  | some q =>
    obtain ⟨r1, S1⟩ := q
    rw [hoo] at ho
    subst hst
    refine wx_call (wx_runS (own := own) (cc := cc) (nL := nL) ⟨hC.1, hC.2.1, hC.2.2.1, hC.2.2.2.1, hC.2.2.2.2.1⟩ (hM l r1 S1 hoo) hi hlk hR hn hl.1 hW (fun U hU hW => hC.2.2.2.2.2.1.goes hS hU hW) hP hd ⟨Nat.zero_le _, Nat.zero_le _⟩) hS (fun _ h => h) (fun H1 locs1 hP1 hS1 => ?_)
    exact k r1 S1 p l e s m args below meth cd hC r S' ho ls H1 locs1 hl hP1 hS1
theorem sm_callNI {idx n nL' : Nat} {y : MethodName} {cc' : ByteArray} {rt' : Option FieldType} {rm : Room} (As : List Value) {stk : List Value} {o : Option (Int32 × St)} {K : Int32 → St → Option (ρ × St)} {pc : Nat} (hM : ∀ l r S1, o = some (r, S1) → MetX Z l y cc' nL' rt' rm As S (eI r) S1) (hd : decode cc pc = .ok (.invokestatic idx, 3)) (hi : MIs y cc' nL' rt' n) (hlk : ∀ s : State, KS Z s → va_Nw (.methodLinkNest own idx y "LoanBook") s) (hR : RmOK R rm nL') (hn : As.length = n) (hW : (st.map fun v => v.category).sum ≤ 8) (hst : stk = As.reverse ++ st) (k : ∀ r S1, Sim em Z R own cc nL rt (pc + 3) lv (.int r :: st) S1 (K r S1)) : Sim em Z R own cc nL rt pc lv stk S (cl o K) := by
  intro p l e s m args below meth cd hC r S' ho ls H locs hl hP hS
  cases hoo : o with
  | none => rw [hoo] at ho; cases ho
  | some q =>
    obtain ⟨r1, S1⟩ := q
    rw [hoo] at ho
    subst hst
    refine wx_call (wx_runSN (own := own) (cc := cc) (nL := nL) ⟨hC.1, hC.2.1, hC.2.2.1, hC.2.2.2.1, hC.2.2.2.2.1⟩ (hM l r1 S1 hoo) hi (hlk s hC.2.2.2.2.2.1) hR hn hl.1 hW (fun U hU hW => hC.2.2.2.2.2.1.goes hS hU hW) hP hd ⟨Nat.zero_le _, Nat.zero_le _⟩) hS (fun _ h => h) (fun H1 locs1 hP1 hS1 => ?_)
    exact k r1 S1 p l e s m args below meth cd hC r S' ho ls H1 locs1 hl hP1 hS1
theorem sm_retI {v : Int32} {pc : Nat} (hd : decode cc pc = .ok (.ireturn, 1)) : Sim eI Z R own cc nL (some .int) pc lv [.int v] S (some (v, S)) := by
  intro p l e s m args below meth cd hC r S' ho ls H locs hl hP hS
  cases ho
  exact W.iret hC.1 hC.2.1 hC.2.2.2.2.2.2.1 (fun t ht hW => ⟨⟨rfl, by rw [ht]; exact hP⟩, hS.F ht⟩) hS.2.2 hd hC.2.2.2.2.2.2.2
theorem sm_retL {v : Int64} {pc : Nat} (hd : decode cc pc = .ok (.lreturn, 1)) : Sim eL Z R own cc nL (some .long) pc lv [.long v] S (some (v, S)) := by
  intro p l e s m args below meth cd hC r S' ho ls H locs hl hP hS
  cases ho
  exact W.lret hC.1 hC.2.1 hC.2.2.2.2.2.2.1 (fun t ht hW => ⟨⟨rfl, by rw [ht]; exact hP⟩, hS.F ht⟩) hS.2.2 hd hC.2.2.2.2.2.2.2
theorem sm_retD {v : UInt64} {pc : Nat} (hd : decode cc pc = .ok (.dreturn, 1)) : Sim eD Z R own cc nL (some .double) pc lv [.double v] S (some (v, S)) := by
  intro p l e s m args below meth cd hC r S' ho ls H locs hl hP hS
  cases ho
  exact W.dret hC.1 hC.2.1 hC.2.2.2.2.2.2.1 (fun t ht hW => ⟨⟨rfl, by rw [ht]; exact hP⟩, hS.F ht⟩) hS.2.2 hd hC.2.2.2.2.2.2.2
theorem sm_retZ {v : Int32} {pc : Nat} (hd : decode cc pc = .ok (.ireturn, 1)) : Sim eI Z R own cc nL (some .boolean) pc lv [.int v] S (zr v S) := by
  intro p l e s m args below meth cd hC r S' ho ls H locs hl hP hS
  unfold zr at ho
  split at ho
  · next hv =>
    cases ho
    exact W.zret hC.1 hC.2.1 hC.2.2.2.2.2.2.1 (by rcases hv with h | h <;> subst h <;> rfl) (fun t ht hW => ⟨⟨rfl, by rw [ht]; exact hP⟩, hS.F ht⟩) hS.2.2 hd hC.2.2.2.2.2.2.2
  · cases ho
theorem sm_retV {pc : Nat} (hd : decode cc pc = .ok (.return_, 1)) : Sim eV Z R own cc nL none pc lv [] S (some ((), S)) := by
  intro p l e s m args below meth cd hC r S' ho ls H locs hl hP hS
  cases ho
  exact W.vret hC.1 hC.2.1 hC.2.2.2.2.2.2.1 (fun t ht hW => ⟨⟨rfl, by rw [ht]; exact hP⟩, hS.F ht⟩) hS.2.2 hd hC.2.2.2.2.2.2.2
theorem sm_raw {b : UInt64} {o : Option (ρ × St)} {idx pc : Nat} (hd : decode cc pc = .ok (.invokestatic idx, 3)) (h1 : Cond.methodLink own idx ⟨"java/lang/Double", "doubleToRawLongBits", "(D)J"⟩ ∈ lw_good) (h2 : Cond.native ⟨"java/lang/Double", "doubleToRawLongBits", "(D)J"⟩ ∈ lw_good) (h3 : Cond.static ⟨"java/lang/Double", "doubleToRawLongBits", "(D)J"⟩ ∈ lw_good) (h4 : Cond.initialized "java/lang/Double" ∈ lw_good) (hR : 1 ≤ R.frames ∧ (st.map fun v => v.category).sum + 15 ≤ R.locals) (k : Sim em Z R own cc nL rt (pc + 3) lv (.long b.toInt64 :: st) S o) : Sim em Z R own cc nL rt pc lv (.double b :: st) S o := by
  intro p l e s m args below meth cd hC r S' ho ls H locs hl hP hS
  exact vn_d2l hC.1 hC.2.1 (hC.2.2.1.trans hl.1.symm) hC.2.2.2.1 (hC.2.2.2.2.1 _ h1) (hC.2.2.2.2.1 _ h2) (hC.2.2.2.2.1 _ h3) (hC.2.2.2.2.1 _ h4) hR.1 (by show ((trs Z st).map _).sum + 15 ≤ _; rw [trs_cat]; exact hR.2) hd (k p l e s m args below meth cd hC r S' ho ls H locs hl hP hS)
theorem sm_rawf {b : UInt32} {o : Option (ρ × St)} {idx pc : Nat} (hd : decode cc pc = .ok (.invokestatic idx, 3)) (h1 : Cond.methodLink own idx ⟨"java/lang/Float", "floatToRawIntBits", "(F)I"⟩ ∈ lw_good) (h2 : Cond.native ⟨"java/lang/Float", "floatToRawIntBits", "(F)I"⟩ ∈ lw_good) (h3 : Cond.static ⟨"java/lang/Float", "floatToRawIntBits", "(F)I"⟩ ∈ lw_good) (h4 : Cond.initialized "java/lang/Float" ∈ lw_good) (hR : 1 ≤ R.frames ∧ (st.map fun v => v.category).sum + 15 ≤ R.locals) (k : Sim em Z R own cc nL rt (pc + 3) lv (.int b.toInt32 :: st) S o) : Sim em Z R own cc nL rt pc lv (.float b :: st) S o := by
  intro p l e s m args below meth cd hC r S' ho ls H locs hl hP hS
  exact vn_f2i hC.1 hC.2.1 (hC.2.2.1.trans hl.1.symm) hC.2.2.2.1 (hC.2.2.2.2.1 _ h1) (hC.2.2.2.2.1 _ h2) (hC.2.2.2.2.1 _ h3) (hC.2.2.2.2.1 _ h4) hR.1 (by have h9 := hR.2; rw [← trs_cat Z] at h9; simp only [trs] at h9 ⊢; omega) hd (k p l e s m args below meth cd hC r S' ho ls H locs hl hP hS)
theorem sm_bits {b : Int64} {o : Option (ρ × St)} {idx pc : Nat} (hd : decode cc pc = .ok (.invokestatic idx, 3)) (h1 : Cond.methodLink own idx ⟨"java/lang/Double", "longBitsToDouble", "(J)D"⟩ ∈ lw_good) (h2 : Cond.native ⟨"java/lang/Double", "longBitsToDouble", "(J)D"⟩ ∈ lw_good) (h3 : Cond.static ⟨"java/lang/Double", "longBitsToDouble", "(J)D"⟩ ∈ lw_good) (h4 : Cond.initialized "java/lang/Double" ∈ lw_good) (hR : 1 ≤ R.frames ∧ (st.map fun v => v.category).sum + 15 ≤ R.locals) (k : Sim em Z R own cc nL rt (pc + 3) lv (.double b.toUInt64 :: st) S o) : Sim em Z R own cc nL rt pc lv (.long b :: st) S (if vn_snl2d b = false then o else none) := by
  intro p l e s m args below meth cd hC r S' ho ls H locs hl hP hS
  split at ho
  · next hv => exact vn_l2d hC.1 hC.2.1 (hC.2.2.1.trans hl.1.symm) hC.2.2.2.1 (hC.2.2.2.2.1 _ h1) (hC.2.2.2.2.1 _ h2) (hC.2.2.2.2.1 _ h3) (hC.2.2.2.2.1 _ h4) hv hR.1 (by show ((trs Z st).map _).sum + 15 ≤ _; rw [trs_cat]; exact hR.2) hd (k p l e s m args below meth cd hC r S' ho ls H locs hl hP hS)
  · cases ho
theorem cpy0 {α : Type} (f g : Nat → α) (n : Nat) : va_cpy f g 0 0 n = fun j => if j < n then f j else g j := by
  funext j
  simp [va_cpy]
def acZ {β : Type} (a b : Nat) (n : Int32) (S : St) (K : St → Option β) : Option β := if ((kd0 a).1 = 12 ∧ (kd0 b).1 = 12 ∧ 0 ≤ n.toInt ∧ n.toNatClampNeg ≤ (kd0 a).2 ∧ n.toNatClampNeg ≤ (kd0 b).2) ∧ ∀ j, j < n.toNatClampNeg → fits .boolean (.int (S.1 a j)) = true then K (rowI S b (fun j => if j < n.toNatClampNeg then S.1 a j else S.1 b j)) else none
theorem ge0_nlt {n : Int32} (h : 0 ≤ n.toInt) : ¬ n < 0 := fun q => by
  rw [Int32.lt_iff_toInt_lt, Int32.toInt_zero] at q
  omega
theorem sm_acI {a b pc idx : Nat} {n : Int32} {K : St → Option (ρ × St)} (hd : decode cc pc = .ok (.invokestatic idx, 3)) (h1 : Cond.methodLink own idx arraycopyName ∈ lw_good) (h2 : Cond.native arraycopyName ∈ lw_good) (h3 : Cond.static arraycopyName ∈ lw_good) (h4 : Cond.initialized "java/lang/System" ∈ lw_good) (hR : 1 ≤ R.frames ∧ (st.map fun v => v.category).sum + (nativeFrameWords "java/lang/System" "arraycopy" 5 + 11) ≤ R.locals) (k : ∀ S1, Sim em Z R own cc nL rt (pc + 3) lv st S1 (K S1)) : Sim em Z R own cc nL rt pc lv (.int n :: .int 0 :: .ref b :: .int 0 :: .ref a :: st) S (acI 10 a b n S K) := by
  intro p l e s m args below meth cd hC r S' ho ls H locs hl hP hS
  unfold acI at ho
  split at ho
  · next hk =>
    have hla : a < 226 := kd_lt (kd_eq hk.1) (by omega)
    have hlb : b < 226 := kd_lt (kd_eq hk.2.1) (by omega)
    have hD := zD hC.2.2.2.2.2.1 S
    refine va_copyi (D := Z.2.1) (ty := .int) hC.1 hC.2.1 (hC.2.2.1.trans hl.1.symm) hC.2.2.2.1 (hC.2.2.2.2.1 _ h1) (hC.2.2.2.2.1 _ h2) (hC.2.2.2.2.1 _ h3) (hC.2.2.2.2.1 _ h4) hC.2.2.2.2.2.1.1 hP hD hS a b 0 0 (by rw [wsO_at Z S hla, ent_I (kd_eq hk.1)]) (by rw [wsO_at Z S hlb, ent_I (kd_eq hk.2.1)]) rfl rfl rfl (by decide) (by decide) (ge0_nlt hk.2.2.1) (by rw [show (0 : Int32).toNatClampNeg = 0 from rfl, Nat.zero_add]; exact hk.2.2.2.1) (by rw [show (0 : Int32).toNatClampNeg = 0 from rfl, Nat.zero_add]; exact hk.2.2.2.2) (fun _ _ => rfl) hR.1 (by show ((trs Z st).map _).sum + _ ≤ _; rw [trs_cat]; exact hR.2) hd (fun H1 locs1 hP1 hD1 hS1 => ?_)
    rw [show (0 : Int32).toNatClampNeg = 0 from rfl, cpy0, wsO_set (offc_rowI S b (fun j => if j < n.toNatClampNeg then S.1 a j else S.1 b j)) (by rw [ent_I (kd_eq hk.2.1)]; simp [rowI])] at hP1
    exact k _ p l e s m args below meth cd hC r S' ho ls H1 locs1 hl hP1 hS1
  · cases ho
theorem sm_acJ {a b pc idx : Nat} {n : Int32} {K : St → Option (ρ × St)} (hd : decode cc pc = .ok (.invokestatic idx, 3)) (h1 : Cond.methodLink own idx arraycopyName ∈ lw_good) (h2 : Cond.native arraycopyName ∈ lw_good) (h3 : Cond.static arraycopyName ∈ lw_good) (h4 : Cond.initialized "java/lang/System" ∈ lw_good) (hR : 1 ≤ R.frames ∧ (st.map fun v => v.category).sum + (nativeFrameWords "java/lang/System" "arraycopy" 5 + 11) ≤ R.locals) (k : ∀ S1, Sim em Z R own cc nL rt (pc + 3) lv st S1 (K S1)) : Sim em Z R own cc nL rt pc lv (.int n :: .int 0 :: .ref b :: .int 0 :: .ref a :: st) S (acJ a b n S K) := by
  intro p l e s m args below meth cd hC r S' ho ls H locs hl hP hS
  unfold acJ at ho
  split at ho
  · next hk =>
    have hla : a < 226 := kd_lt (kd_eq hk.1) (by omega)
    have hlb : b < 226 := kd_lt (kd_eq hk.2.1) (by omega)
    have hD := zD hC.2.2.2.2.2.1 S
    refine va_copyl (D := Z.2.1) (ty := .long) hC.1 hC.2.1 (hC.2.2.1.trans hl.1.symm) hC.2.2.2.1 (hC.2.2.2.2.1 _ h1) (hC.2.2.2.2.1 _ h2) (hC.2.2.2.2.1 _ h3) (hC.2.2.2.2.1 _ h4) hC.2.2.2.2.2.1.1 hP hD hS a b 1 1 (by rw [wsO_at Z S hla, ent_J (kd_eq hk.1)]) (by rw [wsO_at Z S hlb, ent_J (kd_eq hk.2.1)]) rfl rfl rfl (by decide) (by decide) (ge0_nlt hk.2.2.1) (by rw [show (0 : Int32).toNatClampNeg = 0 from rfl, Nat.zero_add]; exact hk.2.2.2.1) (by rw [show (0 : Int32).toNatClampNeg = 0 from rfl, Nat.zero_add]; exact hk.2.2.2.2) (fun _ _ => rfl) hR.1 (by show ((trs Z st).map _).sum + _ ≤ _; rw [trs_cat]; exact hR.2) hd (fun H1 locs1 hP1 hD1 hS1 => ?_)
    rw [show (0 : Int32).toNatClampNeg = 0 from rfl, cpy0, wsO_set (offc_rowL S b (fun j => if j < n.toNatClampNeg then S.2 a j else S.2 b j)) (by rw [ent_J (kd_eq hk.2.1)]; simp [rowL])] at hP1
    exact k _ p l e s m args below meth cd hC r S' ho ls H1 locs1 hl hP1 hS1
  · cases ho
theorem sm_acZ {a b pc idx : Nat} {n : Int32} {K : St → Option (ρ × St)} (hd : decode cc pc = .ok (.invokestatic idx, 3)) (h1 : Cond.methodLink own idx arraycopyName ∈ lw_good) (h2 : Cond.native arraycopyName ∈ lw_good) (h3 : Cond.static arraycopyName ∈ lw_good) (h4 : Cond.initialized "java/lang/System" ∈ lw_good) (hR : 1 ≤ R.frames ∧ (st.map fun v => v.category).sum + (nativeFrameWords "java/lang/System" "arraycopy" 5 + 11) ≤ R.locals) (k : ∀ S1, Sim em Z R own cc nL rt (pc + 3) lv st S1 (K S1)) : Sim em Z R own cc nL rt pc lv (.int n :: .int 0 :: .ref b :: .int 0 :: .ref a :: st) S (acZ a b n S K) := by
  intro p l e s m args below meth cd hC r S' ho ls H locs hl hP hS
  unfold acZ at ho
  split at ho
  · next hk =>
    have hla : a < 226 := kd_lt (kd_eq hk.1.1) (by omega)
    have hlb : b < 226 := kd_lt (kd_eq hk.1.2.1) (by omega)
    have hD := zD hC.2.2.2.2.2.1 S
    refine va_copyi (D := Z.2.1) (ty := .boolean) hC.1 hC.2.1 (hC.2.2.1.trans hl.1.symm) hC.2.2.2.1 (hC.2.2.2.2.1 _ h1) (hC.2.2.2.2.1 _ h2) (hC.2.2.2.2.1 _ h3) (hC.2.2.2.2.1 _ h4) hC.2.2.2.2.2.1.1 hP hD hS a b 2 2 (by rw [wsO_at Z S hla, ent_Z (kd_eq hk.1.1)]) (by rw [wsO_at Z S hlb, ent_Z (kd_eq hk.1.2.1)]) rfl rfl rfl (by decide) (by decide) (ge0_nlt hk.1.2.2.1) (by rw [show (0 : Int32).toNatClampNeg = 0 from rfl, Nat.zero_add]; exact hk.1.2.2.2.1) (by rw [show (0 : Int32).toNatClampNeg = 0 from rfl, Nat.zero_add]; exact hk.1.2.2.2.2) (fun i hi => by rw [show (0 : Int32).toNatClampNeg + i = i from Nat.zero_add i]; exact hk.2 i hi) hR.1 (by show ((trs Z st).map _).sum + _ ≤ _; rw [trs_cat]; exact hR.2) hd (fun H1 locs1 hP1 hD1 hS1 => ?_)
    rw [show (0 : Int32).toNatClampNeg = 0 from rfl, cpy0, wsO_set (offc_rowI S b (fun j => if j < n.toNatClampNeg then S.1 a j else S.1 b j)) (by rw [ent_Z (kd_eq hk.1.2.1)]; simp [rowI])] at hP1
    exact k _ p l e s m args below meth cd hC r S' ho ls H1 locs1 hl hP1 hS1
  · cases ho
theorem trs_args (Z : ZT) : ∀ (av : List Value) (i : Nat), lv_args i (trs Z av) = trl Z (lv_args i av)
  | [], _ => rfl
  | v :: vs, i => by
    show (i, tr Z v) :: lv_args _ (trs Z vs) = trl Z ((i, v) :: lv_args _ vs)
    rw [tr_cat, trs_args Z vs]
    rfl
theorem Met.ofWF {l : Launch} {y : MethodName} {ws ws' : List Cond} {rm : Room} {Pc : Array Value → State → Prop} {Qc : Array Value → State → Outcome → State → Prop} {mc ms : Nat} {free : Addr → Prop} {cc : ByteArray} {maxL : Nat} {ret : Option FieldType}
    (hy : plainFor y = true) (hw : ws = Cond.code y cc maxL ret :: ws')
    (body : ∀ p e s m args below meth c s₁, BodyLoose p l y (headSpec ws rm) cc maxL ret e s m args below meth c s₁ → c.maxLocals = maxL → Pc args s →
      W p l e (headSpec ws rm).room s m args below meth c s.heap [] 0 0 (MQ below Qc args s mc ms free) (entryFrame m args maxL)) : Met l y ws rm Pc Qc mc ms free := by
  refine MetFree.of_bodySF (code := cc) (maxLocals := maxL) (ret := ret) hy ?_ ?_
  · intro args s m h hn
    obtain ⟨meth, c, h1, h2, h3, h4, h5, h6, -, -⟩ := Cond.code_spec hn (atoms_spec (ws := ws) h _ (by rw [hw]; exact List.mem_cons_self))
    exact ⟨meth, c, h1, h2, h3, h4, h5, h6⟩
  · intro p e s m args below meth c s₁ B hml hP _
    have hh0 : s₁.heap = s.heap := by rw [B.state]; rfl
    obtain ⟨t, a1, o, b1, b2, b3⟩ := body p e s m args below meth c s₁ B hml hP s₁ hh0 (Stand.of_body B)
    exact ⟨t, o, a1, b1, b2, ⟨b3.1, b3.2⟩⟩
theorem Sim.met {o : Option (ρ × St)} {y : MethodName} {rm : Room} {av : List Value} {lv0 : List (Nat × Value)} (hy : plainFor y = true) (hlv : lv_args 0 av = lv0) (hlen : (lg_sl (trs Z av)).length ≤ nL) (h : Sim em Z rm y.cls cc nL rt 0 lv0 [] S o) (l : Launch) {r : ρ} {S' : St} (ho : o = some (r, S')) : MetX Z l y cc nL rt rm av S (em r) S' := by
  refine Met.ofWF (cc := cc) (maxL := nL) (ret := rt) hy rfl ?_
  intro p e s m args below meth c s₁ B hml hv
  obtain ⟨rfl, hP, hK⟩ := hv
  have hts := atoms_spec (ws := wsM y cc nL rt) B.pre
  have hL := lv_entry (trs Z av) (n := nL) hlen
  rw [trs_args, hlv] at hL
  rw [lg_entry_eq]
  exact h p l e s m _ below meth c ⟨B.exec, B.bytes, hml, findClass_of_methodNamed B.named, fun w hw => hts w (List.mem_cons_of_mem _ hw), hK, B.returns, B.notSynchronized⟩ r S' ho _ s.heap [] hL hP va_S.rf
end SMK
