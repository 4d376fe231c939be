/-! A JUDGEMENT OF ONE'S OWN over the kit's W: 'from here the method comes to its end as the pure function o says'. A row an instruction. -/
def lw_good : List Cond := lw_tbl.filter goodWord
theorem gw {w : Cond} (i : Nat) (h : lw_tbl[i]? = some w) (hg : goodWord w = true) : w ∈ lw_good := List.mem_filter.mpr ⟨List.mem_of_getElem? h, hg⟩
theorem lw_good_in : GoodIn lw_good lw_good := fun w h => ⟨h, good_of_word (List.mem_filter.mp h).2⟩
def tr (Z : ZT) (v : Value) : Value := match v with
  | .ref c => .ref (Z.1 c)
  | v => v
def trs (Z : ZT) (st : List Value) : List Value := st.map (tr Z)
def trl (Z : ZT) (lv : List (Nat × Value)) : List (Nat × Value) := lv.map (fun q => (q.1, tr Z q.2))
theorem tr_cat (Z : ZT) (v : Value) : (tr Z v).category = v.category := by cases v <;> rfl
theorem trs_cat (Z : ZT) (st : List Value) : ((trs Z st).map fun v => v.category) = st.map fun v => v.category := by
  simp [trs, List.map_map, Function.comp_def, tr_cat]
theorem trl_at {Z : ZT} {lv : List (Nat × Value)} {k i : Nat} {v : Value} (h : lv[k]? = some (i, v)) : (trl Z lv)[k]? = some (i, tr Z v) := by
  simp [trl, h]
theorem trl_f1 (Z : ZT) (lv : List (Nat × Value)) (i : Nat) : (trl Z lv).filter (fun q => !(q.1 == i) && !(q.1 + 1 == i && q.2.category == 2)) = trl Z (lv.filter (fun q => !(q.1 == i) && !(q.1 + 1 == i && q.2.category == 2))) := by
  unfold trl
  rw [List.filter_map]
  congr 1
  apply List.filter_congr
  intro q _
  simp [tr_cat]
theorem trl_f2 (Z : ZT) (lv : List (Nat × Value)) (i : Nat) : (trl Z lv).filter (fun q => !(q.1 == i) && (!(q.1 == i + 1) && !(q.1 + 1 == i && q.2.category == 2))) = trl Z (lv.filter (fun q => !(q.1 == i) && (!(q.1 == i + 1) && !(q.1 + 1 == i && q.2.category == 2)))) := by
  unfold trl
  rw [List.filter_map]
  congr 1
  apply List.filter_congr
  intro q _
  simp [tr_cat]
/-- a method's end: what it answers, and the world behind it -/
def QX (Z : ZT) (v : Option Value) (S' : St) : Array Value → State → Outcome → State → Prop := fun _ st oc t => (oc = .returned v ∧ Rep Z S' t.heap) ∧ va_F (zA Z) st t
def wsM (y : MethodName) (cc : ByteArray) (nL : Nat) (rt : Option FieldType) : List Cond := Cond.code y cc nL rt :: lw_good
def MetX (Z : ZT) (l : Launch) (y : MethodName) (cc : ByteArray) (nL : Nat) (rt : Option FieldType) (rm : Room) (av : List Value) (S : St) (v : Option Value) (S' : St) : Prop :=
  Met l y (wsM y cc nL rt) rm (va_Pc (trs Z av) (fun U => Rep Z S U.heap ∧ KS Z U)) (QX Z v S') 0 0 (zA Z)
def CX (Z : ZT) (own : String) (cc : ByteArray) (nL : Nat) (rt : Option FieldType) (p : Program) (s : State) (m : MethodId) (args : Array Value) (meth : Method) (c : Code) : Prop :=
  p.tables.exec = Jvm.exec ∧ c.code = cc ∧ c.maxLocals = nL ∧ s.vm.findClass own = some m.cls ∧ (∀ w ∈ lw_good, w.before args s = true) ∧ KS Z s ∧ meth.sig.returnType = rt ∧ meth.locks = false
def Sim {ρ : Type} (em : ρ → Option Value) (Z : ZT) (R : Room) (own : String) (cc : ByteArray) (nL : Nat) (rt : Option FieldType) (pc : Nat) (lv : List (Nat × Value)) (st : List Value) (S : St) (o : Option (ρ × St)) : Prop :=
  ∀ (p : Program) (l : Launch) (e : Env) (s : State) (m : MethodId) (args : Array Value) (below : List Frame) (meth : Method) (c : Code), CX Z own cc nL rt p s m args meth c → ∀ (r : ρ) (S' : St), o = some (r, S') →
    ∀ (ls : Array Slot) (H : Heap) (locs : List Loc), lv_has ls nL (trl Z lv) → Rep Z S H → va_S (zA Z) s.heap H locs → W p l e R s m args below meth c H locs 0 0 (MQ below (QX Z (em r) S') args s 0 0 (zA Z)) (F0 m pc ls (trs Z st))
abbrev eI (v : Int32) : Option Value := some (.int v)
abbrev eL (v : Int64) : Option Value := some (.long v)
abbrev eD (v : UInt64) : Option Value := some (.double v)
abbrev eF (v : UInt32) : Option Value := some (.float v)
abbrev eV (_ : Unit) : Option Value := none
/-! the words of the pure functions -/
def bd {α β : Type} (x : α) (K : α → β) : β := K x
def gI {β : Type} (ci k c : Nat) (S : St) (K : Int32 → Option β) : Option β := if (kd0 c).1 = ci then K (S.1 c k) else none
def gL {β : Type} (ci k c : Nat) (S : St) (K : Int64 → Option β) : Option β := if (kd0 c).1 = ci then K (S.2 c k) else none
def rK {β : Type} (x : Option Nat) (K : Nat → Option β) : Option β := match x with
  | some a => K a
  | none => none
def gR {β : Type} (ci k c : Nat) (K : Nat → Option β) : Option β := if (kd0 c).1 = ci then rK (R0 c k) K else none
def pI {β : Type} (ci k c : Nat) (v : Int32) (S : St) (K : St → Option β) : Option β := if (kd0 c).1 = ci then K (setI S c k v) else none
def pZ {β : Type} (ci k c : Nat) (v : Int32) (S : St) (K : St → Option β) : Option β := if (kd0 c).1 = ci ∧ (v = 0 ∨ v = 1) then K (setI S c k v) else none
def pL {β : Type} (ci k c : Nat) (v : Int64) (S : St) (K : St → Option β) : Option β := if (kd0 c).1 = ci then K (setL S c k v) else none
def inb (i : Int32) (n : Nat) : Bool := decide (0 ≤ i.toInt ∧ i.toInt < n)
theorem inb_in {i : Int32} {n : Nat} (h : inb i n = true) : vp_in i n := vp_in_iff.mpr (of_decide_eq_true h)
def aI {β : Type} (a : Nat) (i : Int32) (S : St) (K : Int32 → Option β) : Option β := if (kd0 a).1 = 10 ∧ inb i (kd0 a).2 = true then K (S.1 a i.toNatClampNeg) else none
def aJ {β : Type} (a : Nat) (i : Int32) (S : St) (K : Int64 → Option β) : Option β := if (kd0 a).1 = 11 ∧ inb i (kd0 a).2 = true then K (S.2 a i.toNatClampNeg) else none
def aZ {β : Type} (a : Nat) (i : Int32) (S : St) (K : Int32 → Option β) : Option β := if (kd0 a).1 = 12 ∧ inb i (kd0 a).2 = true then K (S.1 a i.toNatClampNeg) else none
def aR {β : Type} (q a : Nat) (i : Int32) (K : Nat → Option β) : Option β := if (kd0 a).1 = q ∧ inb i (kd0 a).2 = true then rK (R0 a i.toNatClampNeg) K else none
def aT {β : Type} (i : Int32) (K : Int32 → Option β) : Option β := if inb i 12 = true then K (daT i.toNatClampNeg) else none
def sI {β : Type} (a : Nat) (i v : Int32) (S : St) (K : St → Option β) : Option β := if (kd0 a).1 = 10 ∧ inb i (kd0 a).2 = true then K (setI S a i.toNatClampNeg v) else none
def sJ {β : Type} (a : Nat) (i : Int32) (v : Int64) (S : St) (K : St → Option β) : Option β := if (kd0 a).1 = 11 ∧ inb i (kd0 a).2 = true then K (setL S a i.toNatClampNeg v) else none
def sZ {β : Type} (a : Nat) (i v : Int32) (S : St) (K : St → Option β) : Option β := if (kd0 a).1 = 12 ∧ inb i (kd0 a).2 = true then K (setI S a i.toNatClampNeg (vp_nar .boolean v)) else none
def gk {β : Type} (c ci : Nat) (x : Option β) : Option β := if (kd0 c).1 = ci then x else none
def cl {α β : Type} (o : Option (α × St)) (K : α → St → Option β) : Option β := match o with
  | some (r, S1) => K r S1
  | none => none
def nz {α β : Type} [DecidableEq α] (z y : α) (x : Option β) : Option β := if y = z then none else x
def dq {β : Type} (x : UInt64) (K : UInt64 → Option β) : Option β := if x &&& 0x7fffffffffffffff ≤ 0x7ff0000000000000 then K x else none
def fq {β : Type} (x : UInt32) (K : UInt32 → Option β) : Option β := if x &&& 0x7fffffff ≤ 0x7f800000 then K x else none
def zr (v : Int32) (S : St) : Option (Int32 × St) := if v = 0 ∨ v = 1 then some (v, S) else none
/-- System.arraycopy of whole rows of n from place 0 -/
def acI {β : Type} (q a b : Nat) (n : Int32) (S : St) (K : St → Option β) : Option β := if (kd0 a).1 = q ∧ (kd0 b).1 = q ∧ 0 ≤ n.toInt ∧ n.toNatClampNeg ≤ (kd0 a).2 ∧ n.toNatClampNeg ≤ (kd0 b).2 then K (rowI S b (fun j => if j < n.toNatClampNeg then S.1 a j else S.1 b j)) else none
def acJ {β : Type} (a b : Nat) (n : Int32) (S : St) (K : St → Option β) : Option β := if (kd0 a).1 = 11 ∧ (kd0 b).1 = 11 ∧ 0 ≤ n.toInt ∧ n.toNatClampNeg ≤ (kd0 a).2 ∧ n.toNatClampNeg ≤ (kd0 b).2 then K (rowL S b (fun j => if j < n.toNatClampNeg then S.2 a j else S.2 b j)) else none
def sw {β : Type} (x : Int32) (d : β) : List (Int32 × β) → β
  | [] => d
  | (k, a) :: l => if x = k then a else sw x d l
section SM
variable {ρ : Type} {em : ρ → Option Value} {Z : ZT} {R : Room} {own : String} {cc : ByteArray} {nL : Nat} {rt : Option FieldType} {lv : List (Nat × Value)} {st : List Value} {S : St} {o : Option (ρ × St)}
theorem sm_none {pc : Nat} : Sim em Z R own cc nL rt pc lv st S (none : Option (ρ × St)) := by
  intro p l e s m args below meth c hC r S' ho
  cases ho
theorem sm_sub {pc : Nat} {lv' : List (Nat × Value)} (ks : List Nat) (h : lv_pick lv ks = lv') (k : Sim em Z R own cc nL rt pc lv' st S o) : Sim em Z R own cc nL rt pc lv st S o := by
  intro p l e s m args below meth c hC r S' ho ls H locs hl hP hS
  refine k p l e s m args below meth c hC r S' ho ls H locs (lv_sub hl ks ?_) hP hS
  rw [← h]
  unfold lv_pick trl
  rw [List.map_filterMap]
  congr 1
  funext i
  simp
theorem sm_bd {α : Type} {pc : Nat} {x : α} {stk : α → List Value} {K : α → Option (ρ × St)} (k : ∀ v, Sim em Z R own cc nL rt pc lv (stk v) S (K v)) : Sim em Z R own cc nL rt pc lv (stk x) S (bd x K) := k x

theorem sm_iconst {n : Int} (v : Int32) {pc : Nat} (hd : decode cc pc = .ok (.iconst n, 1)) (hv : Int32.ofInt n = v) (k : Sim em Z R own cc nL rt (pc + 1) lv (.int v :: st) S o) : Sim em Z R own cc nL rt pc lv (st) S o := by
  intro p l e s m args below meth c hC r S' ho ls H locs hl hP hS
  exact lv_iconst hC.1 hC.2.1 hd hv (k p l e s m args below meth c hC r S' ho ls H locs hl hP hS)
theorem sm_bipush {n : Int} (v : Int32) {pc : Nat} (hd : decode cc pc = .ok (.bipush n, 2)) (hv : (Int8.ofInt n).toInt32 = v) (k : Sim em Z R own cc nL rt (pc + 2) lv (.int v :: st) S o) : Sim em Z R own cc nL rt pc lv (st) S o := by
  intro p l e s m args below meth c hC r S' ho ls H locs hl hP hS
  exact lv_bipush hC.1 hC.2.1 hd hv (k p l e s m args below meth c hC r S' ho ls H locs hl hP hS)
theorem sm_sipush {n : Int} (v : Int32) {pc : Nat} (hd : decode cc pc = .ok (.sipush n, 3)) (hv : (Int16.ofInt n).toInt32 = v) (k : Sim em Z R own cc nL rt (pc + 3) lv (.int v :: st) S o) : Sim em Z R own cc nL rt pc lv (st) S o := by
  intro p l e s m args below meth c hC r S' ho ls H locs hl hP hS
  exact lv_sipush hC.1 hC.2.1 hd hv (k p l e s m args below meth c hC r S' ho ls H locs hl hP hS)
theorem sm_lconst {n : Fin 2} (v : Int64) {pc : Nat} (hd : decode cc pc = .ok (.lconst n, 1)) (hv : Int64.ofNat (n : Nat) = v) (k : Sim em Z R own cc nL rt (pc + 1) lv (.long v :: st) S o) : Sim em Z R own cc nL rt pc lv (st) S o := by
  intro p l e s m args below meth c hC r S' ho ls H locs hl hP hS
  exact lv_lconst hC.1 hC.2.1 hd hv (k p l e s m args below meth c hC r S' ho ls H locs hl hP hS)
theorem sm_dconst0  {pc : Nat} (hd : decode cc pc = .ok (.dconst 0, 1))  (k : Sim em Z R own cc nL rt (pc + 1) lv (.double FP.dconst0 :: st) S o) : Sim em Z R own cc nL rt pc lv (st) S o := by
  intro p l e s m args below meth c hC r S' ho ls H locs hl hP hS
  exact lv_dconst0 hC.1 hC.2.1 hd  (k p l e s m args below meth c hC r S' ho ls H locs hl hP hS)
theorem sm_dconst1  {pc : Nat} (hd : decode cc pc = .ok (.dconst 1, 1))  (k : Sim em Z R own cc nL rt (pc + 1) lv (.double FP.dconst1 :: st) S o) : Sim em Z R own cc nL rt pc lv (st) S o := by
  intro p l e s m args below meth c hC r S' ho ls H locs hl hP hS
  exact lv_dconst1 hC.1 hC.2.1 hd  (k p l e s m args below meth c hC r S' ho ls H locs hl hP hS)
theorem sm_ldc {idx : Nat} (v : Int32) {pc : Nat} (hd : decode cc pc = .ok (.ldc idx, 2)) (hw : Cond.constant own idx v ∈ lw_good) (k : Sim em Z R own cc nL rt (pc + 2) lv (.int v :: st) S o) : Sim em Z R own cc nL rt pc lv st S o := by
  intro p l e s m args below meth c hC r S' ho ls H locs hl hP hS
  exact lv_ldc hC.1 hC.2.1 hC.2.2.2.1 (hC.2.2.2.2.1 _ hw) hd (k p l e s m args below meth c hC r S' ho ls H locs hl hP hS)
theorem sm_ldc2 {idx : Nat} (v : Int64) {pc : Nat} (hd : decode cc pc = .ok (.ldc2_w idx, 3)) (hw : Cond.constantLong own idx v ∈ lw_good) (k : Sim em Z R own cc nL rt (pc + 3) lv (.long v :: st) S o) : Sim em Z R own cc nL rt pc lv st S o := by
  intro p l e s m args below meth c hC r S' ho ls H locs hl hP hS
  exact lv_ldc2 hC.1 hC.2.1 hC.2.2.2.1 (hC.2.2.2.2.1 _ hw) hd (k p l e s m args below meth c hC r S' ho ls H locs hl hP hS)
theorem sm_ldc2d {idx : Nat} (v : UInt64) {pc : Nat} (hd : decode cc pc = .ok (.ldc2_w idx, 3)) (hw : Cond.constantDouble own idx v ∈ lw_good) (k : Sim em Z R own cc nL rt (pc + 3) lv (.double v :: st) S o) : Sim em Z R own cc nL rt pc lv st S o := by
  intro p l e s m args below meth c hC r S' ho ls H locs hl hP hS
  exact lv_ldc2d hC.1 hC.2.1 hC.2.2.2.1 (hC.2.2.2.2.1 _ hw) hd (k p l e s m args below meth c hC r S' ho ls H locs hl hP hS)
theorem sm_iload_n {n : Fin 4} {i : Nat} {x : Int32} {pc : Nat} (hd : decode cc pc = .ok (.iload_n n, 1)) (hi : (n : Nat) = i) (q : Nat) (hq : lv[q]? = some (i, .int x)) (k : Sim em Z R own cc nL rt (pc + 1) lv (.int x :: st) S o) : Sim em Z R own cc nL rt pc lv st S o := by
  intro p l e s m args below meth c hC r S' ho ls H locs hl hP hS
  exact lv_iload_n hC.1 hC.2.1 hd hi (lv_at hl q (trl_at hq)) (k p l e s m args below meth c hC r S' ho ls H locs hl hP hS)
theorem sm_iload {i : Nat} {x : Int32} {pc : Nat} (hd : decode cc pc = .ok (.iload i, 2)) (q : Nat) (hq : lv[q]? = some (i, .int x)) (k : Sim em Z R own cc nL rt (pc + 2) lv (.int x :: st) S o) : Sim em Z R own cc nL rt pc lv st S o := by
  intro p l e s m args below meth c hC r S' ho ls H locs hl hP hS
  exact lv_iload hC.1 hC.2.1 hd (lv_at hl q (trl_at hq)) (k p l e s m args below meth c hC r S' ho ls H locs hl hP hS)
theorem sm_istore_n {n : Fin 4} {i : Nat} {x : Int32} {lv' : List (Nat × Value)} {pc : Nat} (hd : decode cc pc = .ok (.istore_n n, 1)) (hi : (n : Nat) = i) (hn : i < nL) (hlv : (i, Value.int x) :: lv.filter (fun q => !(q.1 == i) && !(q.1 + 1 == i && q.2.category == 2)) = lv') (k : Sim em Z R own cc nL rt (pc + 1) lv' st S o) : Sim em Z R own cc nL rt pc lv (.int x :: st) S o := by
  intro p l e s m args below meth c hC r S' ho ls H locs hl hP hS
  refine lv_istore_n (lv' := trl Z lv') hC.1 hC.2.1 hd hi hl hn (by rw [← hlv, trl_f1]; rfl) (fun ls' hl' => ?_)
  exact k p l e s m args below meth c hC r S' ho ls' H locs hl' hP hS
theorem sm_istore {i : Nat} {x : Int32} {lv' : List (Nat × Value)} {pc : Nat} (hd : decode cc pc = .ok (.istore i, 2))  (hn : i < nL) (hlv : (i, Value.int x) :: lv.filter (fun q => !(q.1 == i) && !(q.1 + 1 == i && q.2.category == 2)) = lv') (k : Sim em Z R own cc nL rt (pc + 2) lv' st S o) : Sim em Z R own cc nL rt pc lv (.int x :: st) S o := by
  intro p l e s m args below meth c hC r S' ho ls H locs hl hP hS
  refine lv_istore (lv' := trl Z lv') hC.1 hC.2.1 hd hl hn (by rw [← hlv, trl_f1]; rfl) (fun ls' hl' => ?_)
  exact k p l e s m args below meth c hC r S' ho ls' H locs hl' hP hS
theorem sm_lload_n {n : Fin 4} {i : Nat} {x : Int64} {pc : Nat} (hd : decode cc pc = .ok (.lload_n n, 1)) (hi : (n : Nat) = i) (q : Nat) (hq : lv[q]? = some (i, .long x)) (k : Sim em Z R own cc nL rt (pc + 1) lv (.long x :: st) S o) : Sim em Z R own cc nL rt pc lv st S o := by
  intro p l e s m args below meth c hC r S' ho ls H locs hl hP hS
  exact lv_lload_n hC.1 hC.2.1 hd hi (lv_at hl q (trl_at hq)) (k p l e s m args below meth c hC r S' ho ls H locs hl hP hS)
theorem sm_lload {i : Nat} {x : Int64} {pc : Nat} (hd : decode cc pc = .ok (.lload i, 2)) (q : Nat) (hq : lv[q]? = some (i, .long x)) (k : Sim em Z R own cc nL rt (pc + 2) lv (.long x :: st) S o) : Sim em Z R own cc nL rt pc lv st S o := by
  intro p l e s m args below meth c hC r S' ho ls H locs hl hP hS
  exact lv_lload hC.1 hC.2.1 hd (lv_at hl q (trl_at hq)) (k p l e s m args below meth c hC r S' ho ls H locs hl hP hS)
theorem sm_lstore_n {n : Fin 4} {i : Nat} {x : Int64} {lv' : List (Nat × Value)} {pc : Nat} (hd : decode cc pc = .ok (.lstore_n n, 1)) (hi : (n : Nat) = i) (hn : i + 1 < nL) (hlv : (i, Value.long x) :: lv.filter (fun q => !(q.1 == i) && (!(q.1 == i + 1) && !(q.1 + 1 == i && q.2.category == 2))) = lv') (k : Sim em Z R own cc nL rt (pc + 1) lv' st S o) : Sim em Z R own cc nL rt pc lv (.long x :: st) S o := by
  intro p l e s m args below meth c hC r S' ho ls H locs hl hP hS
  refine lv_lstore_n (lv' := trl Z lv') hC.1 hC.2.1 hd hi hl hn (by rw [← hlv, trl_f2]; rfl) (fun ls' hl' => ?_)
  exact k p l e s m args below meth c hC r S' ho ls' H locs hl' hP hS
theorem sm_lstore {i : Nat} {x : Int64} {lv' : List (Nat × Value)} {pc : Nat} (hd : decode cc pc = .ok (.lstore i, 2))  (hn : i + 1 < nL) (hlv : (i, Value.long x) :: lv.filter (fun q => !(q.1 == i) && (!(q.1 == i + 1) && !(q.1 + 1 == i && q.2.category == 2))) = lv') (k : Sim em Z R own cc nL rt (pc + 2) lv' st S o) : Sim em Z R own cc nL rt pc lv (.long x :: st) S o := by
  intro p l e s m args below meth c hC r S' ho ls H locs hl hP hS
  refine lv_lstore (lv' := trl Z lv') hC.1 hC.2.1 hd hl hn (by rw [← hlv, trl_f2]; rfl) (fun ls' hl' => ?_)
  exact k p l e s m args below meth c hC r S' ho ls' H locs hl' hP hS
theorem sm_aload_n {n : Fin 4} {i : Nat} {x : Nat} {pc : Nat} (hd : decode cc pc = .ok (.aload_n n, 1)) (hi : (n : Nat) = i) (q : Nat) (hq : lv[q]? = some (i, .ref x)) (k : Sim em Z R own cc nL rt (pc + 1) lv (.ref x :: st) S o) : Sim em Z R own cc nL rt pc lv st S o := by
  intro p l e s m args below meth c hC r S' ho ls H locs hl hP hS
  exact lv_aload_n hC.1 hC.2.1 hd hi (lv_at hl q (trl_at hq)) (k p l e s m args below meth c hC r S' ho ls H locs hl hP hS)
theorem sm_aload {i : Nat} {x : Nat} {pc : Nat} (hd : decode cc pc = .ok (.aload i, 2)) (q : Nat) (hq : lv[q]? = some (i, .ref x)) (k : Sim em Z R own cc nL rt (pc + 2) lv (.ref x :: st) S o) : Sim em Z R own cc nL rt pc lv st S o := by
  intro p l e s m args below meth c hC r S' ho ls H locs hl hP hS
  exact lv_aload hC.1 hC.2.1 hd (lv_at hl q (trl_at hq)) (k p l e s m args below meth c hC r S' ho ls H locs hl hP hS)
theorem sm_astore_n {n : Fin 4} {i : Nat} {x : Nat} {lv' : List (Nat × Value)} {pc : Nat} (hd : decode cc pc = .ok (.astore_n n, 1)) (hi : (n : Nat) = i) (hn : i < nL) (hlv : (i, Value.ref x) :: lv.filter (fun q => !(q.1 == i) && !(q.1 + 1 == i && q.2.category == 2)) = lv') (k : Sim em Z R own cc nL rt (pc + 1) lv' st S o) : Sim em Z R own cc nL rt pc lv (.ref x :: st) S o := by
  intro p l e s m args below meth c hC r S' ho ls H locs hl hP hS
  refine lv_astore_n (lv' := trl Z lv') hC.1 hC.2.1 hd hi hl hn (by rw [← hlv, trl_f1]; rfl) (fun ls' hl' => ?_)
  exact k p l e s m args below meth c hC r S' ho ls' H locs hl' hP hS
theorem sm_astore {i : Nat} {x : Nat} {lv' : List (Nat × Value)} {pc : Nat} (hd : decode cc pc = .ok (.astore i, 2))  (hn : i < nL) (hlv : (i, Value.ref x) :: lv.filter (fun q => !(q.1 == i) && !(q.1 + 1 == i && q.2.category == 2)) = lv') (k : Sim em Z R own cc nL rt (pc + 2) lv' st S o) : Sim em Z R own cc nL rt pc lv (.ref x :: st) S o := by
  intro p l e s m args below meth c hC r S' ho ls H locs hl hP hS
  refine lv_astore (lv' := trl Z lv') hC.1 hC.2.1 hd hl hn (by rw [← hlv, trl_f1]; rfl) (fun ls' hl' => ?_)
  exact k p l e s m args below meth c hC r S' ho ls' H locs hl' hP hS
theorem sm_dload_n {n : Fin 4} {i : Nat} {x : UInt64} {pc : Nat} (hd : decode cc pc = .ok (.dload_n n, 1)) (hi : (n : Nat) = i) (q : Nat) (hq : lv[q]? = some (i, .double x)) (k : Sim em Z R own cc nL rt (pc + 1) lv (.double x :: st) S o) : Sim em Z R own cc nL rt pc lv st S o := by
  intro p l e s m args below meth c hC r S' ho ls H locs hl hP hS
  exact lv_dload_n hC.1 hC.2.1 hd hi (lv_at hl q (trl_at hq)) (k p l e s m args below meth c hC r S' ho ls H locs hl hP hS)
theorem sm_dload {i : Nat} {x : UInt64} {pc : Nat} (hd : decode cc pc = .ok (.dload i, 2)) (q : Nat) (hq : lv[q]? = some (i, .double x)) (k : Sim em Z R own cc nL rt (pc + 2) lv (.double x :: st) S o) : Sim em Z R own cc nL rt pc lv st S o := by
  intro p l e s m args below meth c hC r S' ho ls H locs hl hP hS
  exact lv_dload hC.1 hC.2.1 hd (lv_at hl q (trl_at hq)) (k p l e s m args below meth c hC r S' ho ls H locs hl hP hS)
theorem sm_dstore_n {n : Fin 4} {i : Nat} {x : UInt64} {lv' : List (Nat × Value)} {pc : Nat} (hd : decode cc pc = .ok (.dstore_n n, 1)) (hi : (n : Nat) = i) (hn : i + 1 < nL) (hlv : (i, Value.double x) :: lv.filter (fun q => !(q.1 == i) && (!(q.1 == i + 1) && !(q.1 + 1 == i && q.2.category == 2))) = lv') (k : Sim em Z R own cc nL rt (pc + 1) lv' st S o) : Sim em Z R own cc nL rt pc lv (.double x :: st) S o := by
  intro p l e s m args below meth c hC r S' ho ls H locs hl hP hS
  refine lv_dstore_n (lv' := trl Z lv') hC.1 hC.2.1 hd hi hl hn (by rw [← hlv, trl_f2]; rfl) (fun ls' hl' => ?_)
  exact k p l e s m args below meth c hC r S' ho ls' H locs hl' hP hS
theorem sm_dstore {i : Nat} {x : UInt64} {lv' : List (Nat × Value)} {pc : Nat} (hd : decode cc pc = .ok (.dstore i, 2))  (hn : i + 1 < nL) (hlv : (i, Value.double x) :: lv.filter (fun q => !(q.1 == i) && (!(q.1 == i + 1) && !(q.1 + 1 == i && q.2.category == 2))) = lv') (k : Sim em Z R own cc nL rt (pc + 2) lv' st S o) : Sim em Z R own cc nL rt pc lv (.double x :: st) S o := by
  intro p l e s m args below meth c hC r S' ho ls H locs hl hP hS
  refine lv_dstore (lv' := trl Z lv') hC.1 hC.2.1 hd hl hn (by rw [← hlv, trl_f2]; rfl) (fun ls' hl' => ?_)
  exact k p l e s m args below meth c hC r S' ho ls' H locs hl' hP hS
theorem sm_fload_n {n : Fin 4} {i : Nat} {x : UInt32} {pc : Nat} (hd : decode cc pc = .ok (.fload_n n, 1)) (hi : (n : Nat) = i) (q : Nat) (hq : lv[q]? = some (i, .float x)) (k : Sim em Z R own cc nL rt (pc + 1) lv (.float x :: st) S o) : Sim em Z R own cc nL rt pc lv st S o := by
  intro p l e s m args below meth c hC r S' ho ls H locs hl hP hS
  exact lv_fload_n hC.1 hC.2.1 hd hi (lv_at hl q (trl_at hq)) (k p l e s m args below meth c hC r S' ho ls H locs hl hP hS)
theorem sm_fload {i : Nat} {x : UInt32} {pc : Nat} (hd : decode cc pc = .ok (.fload i, 2)) (q : Nat) (hq : lv[q]? = some (i, .float x)) (k : Sim em Z R own cc nL rt (pc + 2) lv (.float x :: st) S o) : Sim em Z R own cc nL rt pc lv st S o := by
  intro p l e s m args below meth c hC r S' ho ls H locs hl hP hS
  exact lv_fload hC.1 hC.2.1 hd (lv_at hl q (trl_at hq)) (k p l e s m args below meth c hC r S' ho ls H locs hl hP hS)
theorem sm_fstore_n {n : Fin 4} {i : Nat} {x : UInt32} {lv' : List (Nat × Value)} {pc : Nat} (hd : decode cc pc = .ok (.fstore_n n, 1)) (hi : (n : Nat) = i) (hn : i < nL) (hlv : (i, Value.float x) :: lv.filter (fun q => !(q.1 == i) && !(q.1 + 1 == i && q.2.category == 2)) = lv') (k : Sim em Z R own cc nL rt (pc + 1) lv' st S o) : Sim em Z R own cc nL rt pc lv (.float x :: st) S o := by
  intro p l e s m args below meth c hC r S' ho ls H locs hl hP hS
  refine lv_fstore_n (lv' := trl Z lv') hC.1 hC.2.1 hd hi hl hn (by rw [← hlv, trl_f1]; rfl) (fun ls' hl' => ?_)
  exact k p l e s m args below meth c hC r S' ho ls' H locs hl' hP hS
theorem sm_fstore {i : Nat} {x : UInt32} {lv' : List (Nat × Value)} {pc : Nat} (hd : decode cc pc = .ok (.fstore i, 2))  (hn : i < nL) (hlv : (i, Value.float x) :: lv.filter (fun q => !(q.1 == i) && !(q.1 + 1 == i && q.2.category == 2)) = lv') (k : Sim em Z R own cc nL rt (pc + 2) lv' st S o) : Sim em Z R own cc nL rt pc lv (.float x :: st) S o := by
  intro p l e s m args below meth c hC r S' ho ls H locs hl hP hS
  refine lv_fstore (lv' := trl Z lv') hC.1 hC.2.1 hd hl hn (by rw [← hlv, trl_f1]; rfl) (fun ls' hl' => ?_)
  exact k p l e s m args below meth c hC r S' ho ls' H locs hl' hP hS
theorem sm_iinc {i : Nat} {n : Int} {x : Int32} (v : Int32) {lv' : List (Nat × Value)} {pc : Nat} (hd : decode cc pc = .ok (.iinc i n, 3)) (q : Nat) (hq : lv[q]? = some (i, .int x)) (hv : x + Int32.ofInt n = v) (hn : i < nL) (hlv : (i, Value.int v) :: lv.filter (fun q => !(q.1 == i) && !(q.1 + 1 == i && q.2.category == 2)) = lv') (k : Sim em Z R own cc nL rt (pc + 3) lv' st S o) : Sim em Z R own cc nL rt pc lv st S o := by
  intro p l e s m args below meth c hC r S' ho ls H locs hl hP hS
  refine lv_iinc (lv' := trl Z lv') (k := q) hC.1 hC.2.1 hd hl (trl_at hq) hv hn (by rw [← hlv, trl_f1]; rfl) (fun ls' hl' => ?_)
  exact k p l e s m args below meth c hC r S' ho ls' H locs hl' hP hS
theorem sm_iadd {x y : Int32} {pc : Nat} (hd : decode cc pc = .ok (.iadd, 1))  (k : Sim em Z R own cc nL rt (pc + 1) lv (.int (x + y) :: st) S o) : Sim em Z R own cc nL rt pc lv (.int y :: .int x :: st) S o := by
  intro p l e s m args below meth c hC r S' ho ls H locs hl hP hS
  exact lv_iadd hC.1 hC.2.1 hd  (k p l e s m args below meth c hC r S' ho ls H locs hl hP hS)
theorem sm_isub {x y : Int32} {pc : Nat} (hd : decode cc pc = .ok (.isub, 1))  (k : Sim em Z R own cc nL rt (pc + 1) lv (.int (x - y) :: st) S o) : Sim em Z R own cc nL rt pc lv (.int y :: .int x :: st) S o := by
  intro p l e s m args below meth c hC r S' ho ls H locs hl hP hS
  exact lv_isub hC.1 hC.2.1 hd  (k p l e s m args below meth c hC r S' ho ls H locs hl hP hS)
theorem sm_imul {x y : Int32} {pc : Nat} (hd : decode cc pc = .ok (.imul, 1))  (k : Sim em Z R own cc nL rt (pc + 1) lv (.int (x * y) :: st) S o) : Sim em Z R own cc nL rt pc lv (.int y :: .int x :: st) S o := by
  intro p l e s m args below meth c hC r S' ho ls H locs hl hP hS
  exact lv_imul hC.1 hC.2.1 hd  (k p l e s m args below meth c hC r S' ho ls H locs hl hP hS)
theorem sm_iand {x y : Int32} {pc : Nat} (hd : decode cc pc = .ok (.iand, 1))  (k : Sim em Z R own cc nL rt (pc + 1) lv (.int (x &&& y) :: st) S o) : Sim em Z R own cc nL rt pc lv (.int y :: .int x :: st) S o := by
  intro p l e s m args below meth c hC r S' ho ls H locs hl hP hS
  exact lv_iand hC.1 hC.2.1 hd  (k p l e s m args below meth c hC r S' ho ls H locs hl hP hS)
theorem sm_ior {x y : Int32} {pc : Nat} (hd : decode cc pc = .ok (.ior, 1))  (k : Sim em Z R own cc nL rt (pc + 1) lv (.int (x ||| y) :: st) S o) : Sim em Z R own cc nL rt pc lv (.int y :: .int x :: st) S o := by
  intro p l e s m args below meth c hC r S' ho ls H locs hl hP hS
  exact lv_ior hC.1 hC.2.1 hd  (k p l e s m args below meth c hC r S' ho ls H locs hl hP hS)
theorem sm_ixor {x y : Int32} {pc : Nat} (hd : decode cc pc = .ok (.ixor, 1))  (k : Sim em Z R own cc nL rt (pc + 1) lv (.int (x ^^^ y) :: st) S o) : Sim em Z R own cc nL rt pc lv (.int y :: .int x :: st) S o := by
  intro p l e s m args below meth c hC r S' ho ls H locs hl hP hS
  exact lv_ixor hC.1 hC.2.1 hd  (k p l e s m args below meth c hC r S' ho ls H locs hl hP hS)
theorem sm_ishl {x y : Int32} {pc : Nat} (hd : decode cc pc = .ok (.ishl, 1))  (k : Sim em Z R own cc nL rt (pc + 1) lv (.int (x <<< (y &&& 31)) :: st) S o) : Sim em Z R own cc nL rt pc lv (.int y :: .int x :: st) S o := by
  intro p l e s m args below meth c hC r S' ho ls H locs hl hP hS
  exact lv_ishl hC.1 hC.2.1 hd  (k p l e s m args below meth c hC r S' ho ls H locs hl hP hS)
theorem sm_ladd {x y : Int64} {pc : Nat} (hd : decode cc pc = .ok (.ladd, 1))  (k : Sim em Z R own cc nL rt (pc + 1) lv (.long (x + y) :: st) S o) : Sim em Z R own cc nL rt pc lv (.long y :: .long x :: st) S o := by
  intro p l e s m args below meth c hC r S' ho ls H locs hl hP hS
  exact lv_ladd hC.1 hC.2.1 hd  (k p l e s m args below meth c hC r S' ho ls H locs hl hP hS)
theorem sm_lsub {x y : Int64} {pc : Nat} (hd : decode cc pc = .ok (.lsub, 1))  (k : Sim em Z R own cc nL rt (pc + 1) lv (.long (x - y) :: st) S o) : Sim em Z R own cc nL rt pc lv (.long y :: .long x :: st) S o := by
  intro p l e s m args below meth c hC r S' ho ls H locs hl hP hS
  exact lv_lsub hC.1 hC.2.1 hd  (k p l e s m args below meth c hC r S' ho ls H locs hl hP hS)
theorem sm_lmul {x y : Int64} {pc : Nat} (hd : decode cc pc = .ok (.lmul, 1))  (k : Sim em Z R own cc nL rt (pc + 1) lv (.long (x * y) :: st) S o) : Sim em Z R own cc nL rt pc lv (.long y :: .long x :: st) S o := by
  intro p l e s m args below meth c hC r S' ho ls H locs hl hP hS
  exact lv_lmul hC.1 hC.2.1 hd  (k p l e s m args below meth c hC r S' ho ls H locs hl hP hS)
theorem sm_land {x y : Int64} {pc : Nat} (hd : decode cc pc = .ok (.land, 1))  (k : Sim em Z R own cc nL rt (pc + 1) lv (.long (x &&& y) :: st) S o) : Sim em Z R own cc nL rt pc lv (.long y :: .long x :: st) S o := by
  intro p l e s m args below meth c hC r S' ho ls H locs hl hP hS
  exact lv_land hC.1 hC.2.1 hd  (k p l e s m args below meth c hC r S' ho ls H locs hl hP hS)
theorem sm_lor {x y : Int64} {pc : Nat} (hd : decode cc pc = .ok (.lor, 1))  (k : Sim em Z R own cc nL rt (pc + 1) lv (.long (x ||| y) :: st) S o) : Sim em Z R own cc nL rt pc lv (.long y :: .long x :: st) S o := by
  intro p l e s m args below meth c hC r S' ho ls H locs hl hP hS
  exact lv_lor hC.1 hC.2.1 hd  (k p l e s m args below meth c hC r S' ho ls H locs hl hP hS)
theorem sm_lshl {x : Int64} {y : Int32} {pc : Nat} (hd : decode cc pc = .ok (.lshl, 1))  (k : Sim em Z R own cc nL rt (pc + 1) lv (.long (x <<< (y.toInt64 &&& 63)) :: st) S o) : Sim em Z R own cc nL rt pc lv (.int y :: .long x :: st) S o := by
  intro p l e s m args below meth c hC r S' ho ls H locs hl hP hS
  exact lv_lshl hC.1 hC.2.1 hd rfl (k p l e s m args below meth c hC r S' ho ls H locs hl hP hS)
theorem sm_lushr {x : Int64} {y : Int32} {pc : Nat} (hd : decode cc pc = .ok (.lushr, 1))  (k : Sim em Z R own cc nL rt (pc + 1) lv (.long (x.toUInt64 >>> (y.toInt64.toUInt64 &&& Int64.toUInt64 63)).toInt64 :: st) S o) : Sim em Z R own cc nL rt pc lv (.int y :: .long x :: st) S o := by
  intro p l e s m args below meth c hC r S' ho ls H locs hl hP hS
  exact lv_lushr hC.1 hC.2.1 hd rfl (k p l e s m args below meth c hC r S' ho ls H locs hl hP hS)
theorem sm_i2l {x : Int32} {pc : Nat} (hd : decode cc pc = .ok (.i2l, 1))  (k : Sim em Z R own cc nL rt (pc + 1) lv (.long x.toInt64 :: st) S o) : Sim em Z R own cc nL rt pc lv (.int x :: st) S o := by
  intro p l e s m args below meth c hC r S' ho ls H locs hl hP hS
  exact lv_i2l hC.1 hC.2.1 hd rfl (k p l e s m args below meth c hC r S' ho ls H locs hl hP hS)
theorem sm_l2i {x : Int64} {pc : Nat} (hd : decode cc pc = .ok (.l2i, 1))  (k : Sim em Z R own cc nL rt (pc + 1) lv (.int x.toInt32 :: st) S o) : Sim em Z R own cc nL rt pc lv (.long x :: st) S o := by
  intro p l e s m args below meth c hC r S' ho ls H locs hl hP hS
  exact lv_l2i hC.1 hC.2.1 hd rfl (k p l e s m args below meth c hC r S' ho ls H locs hl hP hS)
theorem sm_l2d {x : Int64} {pc : Nat} (hd : decode cc pc = .ok (.l2d, 1))  (k : Sim em Z R own cc nL rt (pc + 1) lv (.double (FP.l2d x) :: st) S o) : Sim em Z R own cc nL rt pc lv (.long x :: st) S o := by
  intro p l e s m args below meth c hC r S' ho ls H locs hl hP hS
  exact lv_l2d hC.1 hC.2.1 hd  (k p l e s m args below meth c hC r S' ho ls H locs hl hP hS)
theorem sm_d2l {x : UInt64} {pc : Nat} (hd : decode cc pc = .ok (.d2l, 1))  (k : Sim em Z R own cc nL rt (pc + 1) lv (.long (FP.d2l x) :: st) S o) : Sim em Z R own cc nL rt pc lv (.double x :: st) S o := by
  intro p l e s m args below meth c hC r S' ho ls H locs hl hP hS
  exact lv_d2l hC.1 hC.2.1 hd  (k p l e s m args below meth c hC r S' ho ls H locs hl hP hS)
theorem sm_idiv {x y : Int32} {pc : Nat} (hd : decode cc pc = .ok (.idiv, 1)) (k : Sim em Z R own cc nL rt (pc + 1) lv (.int (x / y) :: st) S o) : Sim em Z R own cc nL rt pc lv (.int y :: .int x :: st) S (nz 0 y o) := by
  intro p l e s m args below meth c hC r S' ho ls H locs hl hP hS
  unfold nz at ho
  split at ho
  · cases ho
  · next hne => exact lv_idiv hC.1 hC.2.1 hd hne (k p l e s m args below meth c hC r S' ho ls H locs hl hP hS)
theorem sm_idivc {x y : Int32} {pc : Nat} (hd : decode cc pc = .ok (.idiv, 1)) (hne : ¬ y = 0) (k : Sim em Z R own cc nL rt (pc + 1) lv (.int (x / y) :: st) S o) : Sim em Z R own cc nL rt pc lv (.int y :: .int x :: st) S o := by
  intro p l e s m args below meth c hC r S' ho ls H locs hl hP hS
  exact lv_idiv hC.1 hC.2.1 hd hne (k p l e s m args below meth c hC r S' ho ls H locs hl hP hS)
theorem sm_irem {x y : Int32} {pc : Nat} (hd : decode cc pc = .ok (.irem, 1)) (k : Sim em Z R own cc nL rt (pc + 1) lv (.int (x - x / y * y) :: st) S o) : Sim em Z R own cc nL rt pc lv (.int y :: .int x :: st) S (nz 0 y o) := by
  intro p l e s m args below meth c hC r S' ho ls H locs hl hP hS
  unfold nz at ho
  split at ho
  · cases ho
  · next hne => exact lv_irem hC.1 hC.2.1 hd hne (k p l e s m args below meth c hC r S' ho ls H locs hl hP hS)
theorem sm_iremc {x y : Int32} {pc : Nat} (hd : decode cc pc = .ok (.irem, 1)) (hne : ¬ y = 0) (k : Sim em Z R own cc nL rt (pc + 1) lv (.int (x - x / y * y) :: st) S o) : Sim em Z R own cc nL rt pc lv (.int y :: .int x :: st) S o := by
  intro p l e s m args below meth c hC r S' ho ls H locs hl hP hS
  exact lv_irem hC.1 hC.2.1 hd hne (k p l e s m args below meth c hC r S' ho ls H locs hl hP hS)
theorem sm_ldiv {x y : Int64} {pc : Nat} (hd : decode cc pc = .ok (.ldiv, 1)) (k : Sim em Z R own cc nL rt (pc + 1) lv (.long (x / y) :: st) S o) : Sim em Z R own cc nL rt pc lv (.long y :: .long x :: st) S (nz 0 y o) := by
  intro p l e s m args below meth c hC r S' ho ls H locs hl hP hS
  unfold nz at ho
  split at ho
  · cases ho
  · next hne => exact lv_ldiv hC.1 hC.2.1 hd hne (k p l e s m args below meth c hC r S' ho ls H locs hl hP hS)
theorem sm_ldivc {x y : Int64} {pc : Nat} (hd : decode cc pc = .ok (.ldiv, 1)) (hne : ¬ y = 0) (k : Sim em Z R own cc nL rt (pc + 1) lv (.long (x / y) :: st) S o) : Sim em Z R own cc nL rt pc lv (.long y :: .long x :: st) S o := by
  intro p l e s m args below meth c hC r S' ho ls H locs hl hP hS
  exact lv_ldiv hC.1 hC.2.1 hd hne (k p l e s m args below meth c hC r S' ho ls H locs hl hP hS)
theorem sm_lrem {x y : Int64} {pc : Nat} (hd : decode cc pc = .ok (.lrem, 1)) (k : Sim em Z R own cc nL rt (pc + 1) lv (.long (x - x / y * y) :: st) S o) : Sim em Z R own cc nL rt pc lv (.long y :: .long x :: st) S (nz 0 y o) := by
  intro p l e s m args below meth c hC r S' ho ls H locs hl hP hS
  unfold nz at ho
  split at ho
  · cases ho
  · next hne => exact lv_lrem hC.1 hC.2.1 hd hne (k p l e s m args below meth c hC r S' ho ls H locs hl hP hS)
theorem sm_lremc {x y : Int64} {pc : Nat} (hd : decode cc pc = .ok (.lrem, 1)) (hne : ¬ y = 0) (k : Sim em Z R own cc nL rt (pc + 1) lv (.long (x - x / y * y) :: st) S o) : Sim em Z R own cc nL rt pc lv (.long y :: .long x :: st) S o := by
  intro p l e s m args below meth c hC r S' ho ls H locs hl hP hS
  exact lv_lrem hC.1 hC.2.1 hd hne (k p l e s m args below meth c hC r S' ho ls H locs hl hP hS)
theorem sm_dadd {x y : UInt64} {K : UInt64 → Option (ρ × St)} {pc : Nat} (hd : decode cc pc = .ok (.dadd, 1)) (k : ∀ v, Sim em Z R own cc nL rt (pc + 1) lv (.double v :: st) S (K v)) : Sim em Z R own cc nL rt pc lv (.double y :: .double x :: st) S (dq (FP.dadd x y) K) := by
  intro p l e s m args below meth c hC r S' ho ls H locs hl hP hS
  unfold dq at ho
  split at ho
  · next hne => exact lv_dadd hC.1 hC.2.1 hd hne (k _ p l e s m args below meth c hC r S' ho ls H locs hl hP hS)
  · cases ho
theorem sm_dsub {x y : UInt64} {K : UInt64 → Option (ρ × St)} {pc : Nat} (hd : decode cc pc = .ok (.dsub, 1)) (k : ∀ v, Sim em Z R own cc nL rt (pc + 1) lv (.double v :: st) S (K v)) : Sim em Z R own cc nL rt pc lv (.double y :: .double x :: st) S (dq (FP.dsub x y) K) := by
  intro p l e s m args below meth c hC r S' ho ls H locs hl hP hS
  unfold dq at ho
  split at ho
  · next hne => exact lv_dsub hC.1 hC.2.1 hd hne (k _ p l e s m args below meth c hC r S' ho ls H locs hl hP hS)
  · cases ho
theorem sm_dmul {x y : UInt64} {K : UInt64 → Option (ρ × St)} {pc : Nat} (hd : decode cc pc = .ok (.dmul, 1)) (k : ∀ v, Sim em Z R own cc nL rt (pc + 1) lv (.double v :: st) S (K v)) : Sim em Z R own cc nL rt pc lv (.double y :: .double x :: st) S (dq (FP.dmul x y) K) := by
  intro p l e s m args below meth c hC r S' ho ls H locs hl hP hS
  unfold dq at ho
  split at ho
  · next hne => exact lv_dmul hC.1 hC.2.1 hd hne (k _ p l e s m args below meth c hC r S' ho ls H locs hl hP hS)
  · cases ho
theorem sm_ddiv {x y : UInt64} {K : UInt64 → Option (ρ × St)} {pc : Nat} (hd : decode cc pc = .ok (.ddiv, 1)) (k : ∀ v, Sim em Z R own cc nL rt (pc + 1) lv (.double v :: st) S (K v)) : Sim em Z R own cc nL rt pc lv (.double y :: .double x :: st) S (dq (FP.ddiv x y) K) := by
  intro p l e s m args below meth c hC r S' ho ls H locs hl hP hS
  unfold dq at ho
  split at ho
  · next hne => exact lv_ddiv hC.1 hC.2.1 hd hne (k _ p l e s m args below meth c hC r S' ho ls H locs hl hP hS)
  · cases ho
theorem sm_d2f {x : UInt64} {K : UInt32 → Option (ρ × St)} {pc : Nat} (hd : decode cc pc = .ok (.d2f, 1)) (k : ∀ v, Sim em Z R own cc nL rt (pc + 1) lv (.float v :: st) S (K v)) : Sim em Z R own cc nL rt pc lv (.double x :: st) S (fq (FP.d2f x) K) := by
  intro p l e s m args below meth c hC r S' ho ls H locs hl hP hS
  unfold fq at ho
  split at ho
  · next hne => exact lv_d2f hC.1 hC.2.1 hd hne (k _ p l e s m args below meth c hC r S' ho ls H locs hl hP hS)
  · cases ho
theorem sm_f2d {x : UInt32} {K : UInt64 → Option (ρ × St)} {pc : Nat} (hd : decode cc pc = .ok (.f2d, 1)) (k : ∀ v, Sim em Z R own cc nL rt (pc + 1) lv (.double v :: st) S (K v)) : Sim em Z R own cc nL rt pc lv (.float x :: st) S (dq (FP.f2d x) K) := by
  intro p l e s m args below meth c hC r S' ho ls H locs hl hP hS
  unfold dq at ho
  split at ho
  · next hne => exact lv_f2d hC.1 hC.2.1 hd hne (k _ p l e s m args below meth c hC r S' ho ls H locs hl hP hS)
  · cases ho
theorem sm_dup {va : Value} {pc : Nat} (hd : decode cc pc = .ok (.dup, 1)) (ha : va.category = 1) (k : Sim em Z R own cc nL rt (pc + 1) lv (va :: va :: st) S o) : Sim em Z R own cc nL rt pc lv (va :: st) S o := by
  intro p l e s m args below meth c hC r S' ho ls H locs hl hP hS
  exact lv_dup hC.1 hC.2.1 hd (by rw [tr_cat]; exact ha) (k p l e s m args below meth c hC r S' ho ls H locs hl hP hS)
theorem sm_pop {va : Value} {pc : Nat} (hd : decode cc pc = .ok (.pop, 1)) (ha : va.category = 1) (k : Sim em Z R own cc nL rt (pc + 1) lv st S o) : Sim em Z R own cc nL rt pc lv (va :: st) S o := by
  intro p l e s m args below meth c hC r S' ho ls H locs hl hP hS
  exact lv_pop hC.1 hC.2.1 hd (by rw [tr_cat]; exact ha) (k p l e s m args below meth c hC r S' ho ls H locs hl hP hS)
theorem sm_pop2_2 {va : Value} {pc : Nat} (hd : decode cc pc = .ok (.pop2, 1)) (ha : va.category = 2) (k : Sim em Z R own cc nL rt (pc + 1) lv st S o) : Sim em Z R own cc nL rt pc lv (va :: st) S o := by
  intro p l e s m args below meth c hC r S' ho ls H locs hl hP hS
  exact lv_pop2_2 hC.1 hC.2.1 hd (by rw [tr_cat]; exact ha) (k p l e s m args below meth c hC r S' ho ls H locs hl hP hS)
theorem sm_dup2_2 {va : Value} {pc : Nat} (hd : decode cc pc = .ok (.dup2, 1)) (ha : va.category = 2) (k : Sim em Z R own cc nL rt (pc + 1) lv (va :: va :: st) S o) : Sim em Z R own cc nL rt pc lv (va :: st) S o := by
  intro p l e s m args below meth c hC r S' ho ls H locs hl hP hS
  exact lv_dup2_2 hC.1 hC.2.1 hd (by rw [tr_cat]; exact ha) (k p l e s m args below meth c hC r S' ho ls H locs hl hP hS)
theorem sm_dup2_11 {va vb : Value} {pc : Nat} (hd : decode cc pc = .ok (.dup2, 1)) (ha : va.category = 1) (hb : vb.category = 1) (k : Sim em Z R own cc nL rt (pc + 1) lv (va :: vb :: va :: vb :: st) S o) : Sim em Z R own cc nL rt pc lv (va :: vb :: st) S o := by
  intro p l e s m args below meth c hC r S' ho ls H locs hl hP hS
  exact lv_dup2_11 hC.1 hC.2.1 hd (by rw [tr_cat]; exact ha) (by rw [tr_cat]; exact hb) (k p l e s m args below meth c hC r S' ho ls H locs hl hP hS)
theorem sm_dup_x1 {va vb : Value} {pc : Nat} (hd : decode cc pc = .ok (.dup_x1, 1)) (ha : va.category = 1) (hb : vb.category = 1) (k : Sim em Z R own cc nL rt (pc + 1) lv (va :: vb :: va :: st) S o) : Sim em Z R own cc nL rt pc lv (va :: vb :: st) S o := by
  intro p l e s m args below meth c hC r S' ho ls H locs hl hP hS
  exact lv_dup_x1 hC.1 hC.2.1 hd (by rw [tr_cat]; exact ha) (by rw [tr_cat]; exact hb) (k p l e s m args below meth c hC r S' ho ls H locs hl hP hS)
theorem sm_dup2_x2 {va vb vd : Value} {pc : Nat} (hd : decode cc pc = .ok (.dup2_x2, 1)) (ha : va.category = 2) (hb : vb.category = 1) (hc : vd.category = 1) (k : Sim em Z R own cc nL rt (pc + 1) lv (va :: vb :: vd :: va :: st) S o) : Sim em Z R own cc nL rt pc lv (va :: vb :: vd :: st) S o := by
  intro p l e s m args below meth c hC r S' ho ls H locs hl hP hS
  exact lv_dup2_x2_2 hC.1 hC.2.1 hd (by rw [tr_cat]; exact ha) (by rw [tr_cat]; exact hb) (by rw [tr_cat]; exact hc) (k p l e s m args below meth c hC r S' ho ls H locs hl hP hS)
theorem sm_goto {off : Int} (tgt : Nat) {pc : Nat} (hd : decode cc pc = .ok (.goto off, 3)) (ht : (pc : Int) + off = (tgt : Int)) (k : Sim em Z R own cc nL rt tgt lv st S o) : Sim em Z R own cc nL rt pc lv st S o := by
  intro p l e s m args below meth c hC r S' ho ls H locs hl hP hS
  exact lv_goto hC.1 hC.2.1 hd ht (k p l e s m args below meth c hC r S' ho ls H locs hl hP hS)
theorem sm_if_eq {x : Int32} {A B : Option (ρ × St)} {off : Int} (tgt : Nat) {pc : Nat} (hd : decode cc pc = .ok (.ifCond .eq off, 3)) (ht : ((pc + 0 : Nat) : Int) + off = (tgt : Int)) (kt : Sim em Z R own cc nL rt tgt lv st S A) (kf : Sim em Z R own cc nL rt (pc + 3) lv st S B) : Sim em Z R own cc nL rt pc lv (.int x :: st) S (if x = 0 then A else B) := by
  intro p l e s m args below meth c hC r S' ho ls H locs hl hP hS
  exact lv_if_eq hC.1 hC.2.1 hd ht (fun hc => kt p l e s m args below meth c hC r S' (by rw [← ho, if_pos hc]) ls H locs hl hP hS) (fun hc => kf p l e s m args below meth c hC r S' (by rw [← ho, if_neg hc]) ls H locs hl hP hS)
theorem sm_icmp_eq {x y : Int32} {A B : Option (ρ × St)} {off : Int} (tgt : Nat) {pc : Nat} (hd : decode cc pc = .ok (.if_icmp .eq off, 3)) (ht : ((pc + 0 : Nat) : Int) + off = (tgt : Int)) (kt : Sim em Z R own cc nL rt tgt lv st S A) (kf : Sim em Z R own cc nL rt (pc + 3) lv st S B) : Sim em Z R own cc nL rt pc lv (.int y :: .int x :: st) S (if x = y then A else B) := by
  intro p l e s m args below meth c hC r S' ho ls H locs hl hP hS
  exact lv_icmp_eq hC.1 hC.2.1 hd ht (fun hc => kt p l e s m args below meth c hC r S' (by rw [← ho, if_pos hc]) ls H locs hl hP hS) (fun hc => kf p l e s m args below meth c hC r S' (by rw [← ho, if_neg hc]) ls H locs hl hP hS)
theorem sm_if_ne {x : Int32} {A B : Option (ρ × St)} {off : Int} (tgt : Nat) {pc : Nat} (hd : decode cc pc = .ok (.ifCond .ne off, 3)) (ht : ((pc + 0 : Nat) : Int) + off = (tgt : Int)) (kt : Sim em Z R own cc nL rt tgt lv st S A) (kf : Sim em Z R own cc nL rt (pc + 3) lv st S B) : Sim em Z R own cc nL rt pc lv (.int x :: st) S (if ¬ x = 0 then A else B) := by
  intro p l e s m args below meth c hC r S' ho ls H locs hl hP hS
  exact lv_if_ne hC.1 hC.2.1 hd ht (fun hc => kt p l e s m args below meth c hC r S' (by rw [← ho, if_pos hc]) ls H locs hl hP hS) (fun hc => kf p l e s m args below meth c hC r S' (by rw [← ho, if_neg (fun h => h hc)]) ls H locs hl hP hS)
theorem sm_icmp_ne {x y : Int32} {A B : Option (ρ × St)} {off : Int} (tgt : Nat) {pc : Nat} (hd : decode cc pc = .ok (.if_icmp .ne off, 3)) (ht : ((pc + 0 : Nat) : Int) + off = (tgt : Int)) (kt : Sim em Z R own cc nL rt tgt lv st S A) (kf : Sim em Z R own cc nL rt (pc + 3) lv st S B) : Sim em Z R own cc nL rt pc lv (.int y :: .int x :: st) S (if ¬ x = y then A else B) := by
  intro p l e s m args below meth c hC r S' ho ls H locs hl hP hS
  exact lv_icmp_ne hC.1 hC.2.1 hd ht (fun hc => kt p l e s m args below meth c hC r S' (by rw [← ho, if_pos hc]) ls H locs hl hP hS) (fun hc => kf p l e s m args below meth c hC r S' (by rw [← ho, if_neg (fun h => h hc)]) ls H locs hl hP hS)
theorem sm_if_lt {x : Int32} {A B : Option (ρ × St)} {off : Int} (tgt : Nat) {pc : Nat} (hd : decode cc pc = .ok (.ifCond .lt off, 3)) (ht : ((pc + 0 : Nat) : Int) + off = (tgt : Int)) (kt : Sim em Z R own cc nL rt tgt lv st S A) (kf : Sim em Z R own cc nL rt (pc + 3) lv st S B) : Sim em Z R own cc nL rt pc lv (.int x :: st) S (if x < 0 then A else B) := by
  intro p l e s m args below meth c hC r S' ho ls H locs hl hP hS
  exact lv_if_lt hC.1 hC.2.1 hd ht (fun hc => kt p l e s m args below meth c hC r S' (by rw [← ho, if_pos hc]) ls H locs hl hP hS) (fun hc => kf p l e s m args below meth c hC r S' (by rw [← ho, if_neg hc]) ls H locs hl hP hS)
theorem sm_icmp_lt {x y : Int32} {A B : Option (ρ × St)} {off : Int} (tgt : Nat) {pc : Nat} (hd : decode cc pc = .ok (.if_icmp .lt off, 3)) (ht : ((pc + 0 : Nat) : Int) + off = (tgt : Int)) (kt : Sim em Z R own cc nL rt tgt lv st S A) (kf : Sim em Z R own cc nL rt (pc + 3) lv st S B) : Sim em Z R own cc nL rt pc lv (.int y :: .int x :: st) S (if x < y then A else B) := by
  intro p l e s m args below meth c hC r S' ho ls H locs hl hP hS
  exact lv_icmp_lt hC.1 hC.2.1 hd ht (fun hc => kt p l e s m args below meth c hC r S' (by rw [← ho, if_pos hc]) ls H locs hl hP hS) (fun hc => kf p l e s m args below meth c hC r S' (by rw [← ho, if_neg hc]) ls H locs hl hP hS)
theorem sm_if_ge {x : Int32} {A B : Option (ρ × St)} {off : Int} (tgt : Nat) {pc : Nat} (hd : decode cc pc = .ok (.ifCond .ge off, 3)) (ht : ((pc + 0 : Nat) : Int) + off = (tgt : Int)) (kt : Sim em Z R own cc nL rt tgt lv st S A) (kf : Sim em Z R own cc nL rt (pc + 3) lv st S B) : Sim em Z R own cc nL rt pc lv (.int x :: st) S (if 0 ≤ x then A else B) := by
  intro p l e s m args below meth c hC r S' ho ls H locs hl hP hS
  exact lv_if_ge hC.1 hC.2.1 hd ht (fun hc => kt p l e s m args below meth c hC r S' (by rw [← ho, if_pos hc]) ls H locs hl hP hS) (fun hc => kf p l e s m args below meth c hC r S' (by rw [← ho, if_neg hc]) ls H locs hl hP hS)
theorem sm_icmp_ge {x y : Int32} {A B : Option (ρ × St)} {off : Int} (tgt : Nat) {pc : Nat} (hd : decode cc pc = .ok (.if_icmp .ge off, 3)) (ht : ((pc + 0 : Nat) : Int) + off = (tgt : Int)) (kt : Sim em Z R own cc nL rt tgt lv st S A) (kf : Sim em Z R own cc nL rt (pc + 3) lv st S B) : Sim em Z R own cc nL rt pc lv (.int y :: .int x :: st) S (if y ≤ x then A else B) := by
  intro p l e s m args below meth c hC r S' ho ls H locs hl hP hS
  exact lv_icmp_ge hC.1 hC.2.1 hd ht (fun hc => kt p l e s m args below meth c hC r S' (by rw [← ho, if_pos hc]) ls H locs hl hP hS) (fun hc => kf p l e s m args below meth c hC r S' (by rw [← ho, if_neg hc]) ls H locs hl hP hS)
theorem sm_if_gt {x : Int32} {A B : Option (ρ × St)} {off : Int} (tgt : Nat) {pc : Nat} (hd : decode cc pc = .ok (.ifCond .gt off, 3)) (ht : ((pc + 0 : Nat) : Int) + off = (tgt : Int)) (kt : Sim em Z R own cc nL rt tgt lv st S A) (kf : Sim em Z R own cc nL rt (pc + 3) lv st S B) : Sim em Z R own cc nL rt pc lv (.int x :: st) S (if 0 < x then A else B) := by
  intro p l e s m args below meth c hC r S' ho ls H locs hl hP hS
  exact lv_if_gt hC.1 hC.2.1 hd ht (fun hc => kt p l e s m args below meth c hC r S' (by rw [← ho, if_pos hc]) ls H locs hl hP hS) (fun hc => kf p l e s m args below meth c hC r S' (by rw [← ho, if_neg hc]) ls H locs hl hP hS)
theorem sm_icmp_gt {x y : Int32} {A B : Option (ρ × St)} {off : Int} (tgt : Nat) {pc : Nat} (hd : decode cc pc = .ok (.if_icmp .gt off, 3)) (ht : ((pc + 0 : Nat) : Int) + off = (tgt : Int)) (kt : Sim em Z R own cc nL rt tgt lv st S A) (kf : Sim em Z R own cc nL rt (pc + 3) lv st S B) : Sim em Z R own cc nL rt pc lv (.int y :: .int x :: st) S (if y < x then A else B) := by
  intro p l e s m args below meth c hC r S' ho ls H locs hl hP hS
  exact lv_icmp_gt hC.1 hC.2.1 hd ht (fun hc => kt p l e s m args below meth c hC r S' (by rw [← ho, if_pos hc]) ls H locs hl hP hS) (fun hc => kf p l e s m args below meth c hC r S' (by rw [← ho, if_neg hc]) ls H locs hl hP hS)
theorem sm_if_le {x : Int32} {A B : Option (ρ × St)} {off : Int} (tgt : Nat) {pc : Nat} (hd : decode cc pc = .ok (.ifCond .le off, 3)) (ht : ((pc + 0 : Nat) : Int) + off = (tgt : Int)) (kt : Sim em Z R own cc nL rt tgt lv st S A) (kf : Sim em Z R own cc nL rt (pc + 3) lv st S B) : Sim em Z R own cc nL rt pc lv (.int x :: st) S (if x ≤ 0 then A else B) := by
  intro p l e s m args below meth c hC r S' ho ls H locs hl hP hS
  exact lv_if_le hC.1 hC.2.1 hd ht (fun hc => kt p l e s m args below meth c hC r S' (by rw [← ho, if_pos hc]) ls H locs hl hP hS) (fun hc => kf p l e s m args below meth c hC r S' (by rw [← ho, if_neg hc]) ls H locs hl hP hS)
theorem sm_icmp_le {x y : Int32} {A B : Option (ρ × St)} {off : Int} (tgt : Nat) {pc : Nat} (hd : decode cc pc = .ok (.if_icmp .le off, 3)) (ht : ((pc + 0 : Nat) : Int) + off = (tgt : Int)) (kt : Sim em Z R own cc nL rt tgt lv st S A) (kf : Sim em Z R own cc nL rt (pc + 3) lv st S B) : Sim em Z R own cc nL rt pc lv (.int y :: .int x :: st) S (if x ≤ y then A else B) := by
  intro p l e s m args below meth c hC r S' ho ls H locs hl hP hS
  exact lv_icmp_le hC.1 hC.2.1 hd ht (fun hc => kt p l e s m args below meth c hC r S' (by rw [← ho, if_pos hc]) ls H locs hl hP hS) (fun hc => kf p l e s m args below meth c hC r S' (by rw [← ho, if_neg hc]) ls H locs hl hP hS)
theorem sm_lcmp_eq {x y : Int64} {A B : Option (ρ × St)} {off : Int} (tgt : Nat) {pc : Nat} (hd : decode cc pc = .ok (.lcmp, 1)) (hd2 : decode cc (pc + 1) = .ok (.ifCond .eq off, 3)) (ht : ((pc + 1 : Nat) : Int) + off = (tgt : Int)) (kt : Sim em Z R own cc nL rt tgt lv st S A) (kf : Sim em Z R own cc nL rt (pc + 4) lv st S B) : Sim em Z R own cc nL rt pc lv (.long y :: .long x :: st) S (if x = y then A else B) := by
  intro p l e s m args below meth c hC r S' ho ls H locs hl hP hS
  refine W.lcmp hC.1 hC.2.1 hd ?_
  exact lv_if_eq hC.1 hC.2.1 hd2 ht (fun hc => kt p l e s m args below meth c hC r S' (by rw [← ho, if_pos ((lg_cmp_eq x y).mp hc)]) ls H locs hl hP hS) (fun hc => kf p l e s m args below meth c hC r S' (by rw [← ho, if_neg (fun h => hc ((lg_cmp_eq x y).mpr h))]) ls H locs hl hP hS)
theorem sm_lcmp_ne {x y : Int64} {A B : Option (ρ × St)} {off : Int} (tgt : Nat) {pc : Nat} (hd : decode cc pc = .ok (.lcmp, 1)) (hd2 : decode cc (pc + 1) = .ok (.ifCond .ne off, 3)) (ht : ((pc + 1 : Nat) : Int) + off = (tgt : Int)) (kt : Sim em Z R own cc nL rt tgt lv st S A) (kf : Sim em Z R own cc nL rt (pc + 4) lv st S B) : Sim em Z R own cc nL rt pc lv (.long y :: .long x :: st) S (if ¬ x = y then A else B) := by
  intro p l e s m args below meth c hC r S' ho ls H locs hl hP hS
  refine W.lcmp hC.1 hC.2.1 hd ?_
  exact lv_if_ne hC.1 hC.2.1 hd2 ht (fun hc => kt p l e s m args below meth c hC r S' (by rw [← ho, if_pos (fun h => hc ((lg_cmp_eq x y).mpr h))]) ls H locs hl hP hS) (fun hc => kf p l e s m args below meth c hC r S' (by rw [← ho, if_neg (fun h => h ((lg_cmp_eq x y).mp hc))]) ls H locs hl hP hS)
theorem sm_lcmp_lt {x y : Int64} {A B : Option (ρ × St)} {off : Int} (tgt : Nat) {pc : Nat} (hd : decode cc pc = .ok (.lcmp, 1)) (hd2 : decode cc (pc + 1) = .ok (.ifCond .lt off, 3)) (ht : ((pc + 1 : Nat) : Int) + off = (tgt : Int)) (kt : Sim em Z R own cc nL rt tgt lv st S A) (kf : Sim em Z R own cc nL rt (pc + 4) lv st S B) : Sim em Z R own cc nL rt pc lv (.long y :: .long x :: st) S (if x < y then A else B) := by
  intro p l e s m args below meth c hC r S' ho ls H locs hl hP hS
  refine W.lcmp hC.1 hC.2.1 hd ?_
  exact lv_if_lt hC.1 hC.2.1 hd2 ht (fun hc => kt p l e s m args below meth c hC r S' (by rw [← ho, if_pos ((lg_cmp_lt x y).mp hc)]) ls H locs hl hP hS) (fun hc => kf p l e s m args below meth c hC r S' (by rw [← ho, if_neg (fun h => hc ((lg_cmp_lt x y).mpr h))]) ls H locs hl hP hS)
theorem sm_lcmp_ge {x y : Int64} {A B : Option (ρ × St)} {off : Int} (tgt : Nat) {pc : Nat} (hd : decode cc pc = .ok (.lcmp, 1)) (hd2 : decode cc (pc + 1) = .ok (.ifCond .ge off, 3)) (ht : ((pc + 1 : Nat) : Int) + off = (tgt : Int)) (kt : Sim em Z R own cc nL rt tgt lv st S A) (kf : Sim em Z R own cc nL rt (pc + 4) lv st S B) : Sim em Z R own cc nL rt pc lv (.long y :: .long x :: st) S (if y ≤ x then A else B) := by
  intro p l e s m args below meth c hC r S' ho ls H locs hl hP hS
  refine W.lcmp hC.1 hC.2.1 hd ?_
  exact lv_if_ge hC.1 hC.2.1 hd2 ht (fun hc => kt p l e s m args below meth c hC r S' (by rw [← ho, if_pos ((lg_cmp_ge x y).mp hc)]) ls H locs hl hP hS) (fun hc => kf p l e s m args below meth c hC r S' (by rw [← ho, if_neg (fun h => hc ((lg_cmp_ge x y).mpr h))]) ls H locs hl hP hS)
theorem sm_lcmp_gt {x y : Int64} {A B : Option (ρ × St)} {off : Int} (tgt : Nat) {pc : Nat} (hd : decode cc pc = .ok (.lcmp, 1)) (hd2 : decode cc (pc + 1) = .ok (.ifCond .gt off, 3)) (ht : ((pc + 1 : Nat) : Int) + off = (tgt : Int)) (kt : Sim em Z R own cc nL rt tgt lv st S A) (kf : Sim em Z R own cc nL rt (pc + 4) lv st S B) : Sim em Z R own cc nL rt pc lv (.long y :: .long x :: st) S (if y < x then A else B) := by
  intro p l e s m args below meth c hC r S' ho ls H locs hl hP hS
  refine W.lcmp hC.1 hC.2.1 hd ?_
  exact lv_if_gt hC.1 hC.2.1 hd2 ht (fun hc => kt p l e s m args below meth c hC r S' (by rw [← ho, if_pos ((lg_cmp_gt x y).mp hc)]) ls H locs hl hP hS) (fun hc => kf p l e s m args below meth c hC r S' (by rw [← ho, if_neg (fun h => hc ((lg_cmp_gt x y).mpr h))]) ls H locs hl hP hS)
theorem sm_lcmp_le {x y : Int64} {A B : Option (ρ × St)} {off : Int} (tgt : Nat) {pc : Nat} (hd : decode cc pc = .ok (.lcmp, 1)) (hd2 : decode cc (pc + 1) = .ok (.ifCond .le off, 3)) (ht : ((pc + 1 : Nat) : Int) + off = (tgt : Int)) (kt : Sim em Z R own cc nL rt tgt lv st S A) (kf : Sim em Z R own cc nL rt (pc + 4) lv st S B) : Sim em Z R own cc nL rt pc lv (.long y :: .long x :: st) S (if x ≤ y then A else B) := by
  intro p l e s m args below meth c hC r S' ho ls H locs hl hP hS
  refine W.lcmp hC.1 hC.2.1 hd ?_
  exact lv_if_le hC.1 hC.2.1 hd2 ht (fun hc => kt p l e s m args below meth c hC r S' (by rw [← ho, if_pos ((lg_cmp_le x y).mp hc)]) ls H locs hl hP hS) (fun hc => kf p l e s m args below meth c hC r S' (by rw [← ho, if_neg (fun h => hc ((lg_cmp_le x y).mpr h))]) ls H locs hl hP hS)
/-- what dcmpl, dcmpg (op) push -/
def dx (x y : UInt64) (op : CmpOp) : Int32 := Op.cmpValue (FP.dcmp x y) op
def fx (x y : UInt32) (op : CmpOp) : Int32 := Op.cmpValue (FP.fcmp x y) op
theorem sm_dcmp_eq {x y : UInt64} {op : CmpOp} {A B : Option (ρ × St)} {off : Int} (tgt : Nat) {pc : Nat} (hd : decode cc pc = .ok (.dcmp op, 1)) (hd2 : decode cc (pc + 1) = .ok (.ifCond .eq off, 3)) (ht : ((pc + 1 : Nat) : Int) + off = (tgt : Int)) (kt : Sim em Z R own cc nL rt tgt lv st S A) (kf : Sim em Z R own cc nL rt (pc + 4) lv st S B) : Sim em Z R own cc nL rt pc lv (.double y :: .double x :: st) S (if dx x y op = 0 then A else B) := by
  intro p l e s m args below meth c hC r S' ho ls H locs hl hP hS
  refine lv_dcmp hC.1 hC.2.1 hd ?_
  exact lv_if_eq hC.1 hC.2.1 hd2 ht (fun (hc : dx x y op = 0) => kt p l e s m args below meth c hC r S' (by rw [← ho, if_pos hc]) ls H locs hl hP hS) (fun (hc : ¬ dx x y op = 0) => kf p l e s m args below meth c hC r S' (by rw [← ho, if_neg hc]) ls H locs hl hP hS)
theorem sm_dcmp_ne {x y : UInt64} {op : CmpOp} {A B : Option (ρ × St)} {off : Int} (tgt : Nat) {pc : Nat} (hd : decode cc pc = .ok (.dcmp op, 1)) (hd2 : decode cc (pc + 1) = .ok (.ifCond .ne off, 3)) (ht : ((pc + 1 : Nat) : Int) + off = (tgt : Int)) (kt : Sim em Z R own cc nL rt tgt lv st S A) (kf : Sim em Z R own cc nL rt (pc + 4) lv st S B) : Sim em Z R own cc nL rt pc lv (.double y :: .double x :: st) S (if ¬ dx x y op = 0 then A else B) := by
  intro p l e s m args below meth c hC r S' ho ls H locs hl hP hS
  refine lv_dcmp hC.1 hC.2.1 hd ?_
  exact lv_if_ne hC.1 hC.2.1 hd2 ht (fun (hc : ¬ dx x y op = 0) => kt p l e s m args below meth c hC r S' (by rw [← ho, if_pos hc]) ls H locs hl hP hS) (fun (hc : dx x y op = 0) => kf p l e s m args below meth c hC r S' (by rw [← ho, if_neg (fun h => h hc)]) ls H locs hl hP hS)
theorem sm_dcmp_lt {x y : UInt64} {op : CmpOp} {A B : Option (ρ × St)} {off : Int} (tgt : Nat) {pc : Nat} (hd : decode cc pc = .ok (.dcmp op, 1)) (hd2 : decode cc (pc + 1) = .ok (.ifCond .lt off, 3)) (ht : ((pc + 1 : Nat) : Int) + off = (tgt : Int)) (kt : Sim em Z R own cc nL rt tgt lv st S A) (kf : Sim em Z R own cc nL rt (pc + 4) lv st S B) : Sim em Z R own cc nL rt pc lv (.double y :: .double x :: st) S (if dx x y op < 0 then A else B) := by
  intro p l e s m args below meth c hC r S' ho ls H locs hl hP hS
  refine lv_dcmp hC.1 hC.2.1 hd ?_
  exact lv_if_lt hC.1 hC.2.1 hd2 ht (fun (hc : dx x y op < 0) => kt p l e s m args below meth c hC r S' (by rw [← ho, if_pos hc]) ls H locs hl hP hS) (fun (hc : ¬ dx x y op < 0) => kf p l e s m args below meth c hC r S' (by rw [← ho, if_neg hc]) ls H locs hl hP hS)
theorem sm_dcmp_ge {x y : UInt64} {op : CmpOp} {A B : Option (ρ × St)} {off : Int} (tgt : Nat) {pc : Nat} (hd : decode cc pc = .ok (.dcmp op, 1)) (hd2 : decode cc (pc + 1) = .ok (.ifCond .ge off, 3)) (ht : ((pc + 1 : Nat) : Int) + off = (tgt : Int)) (kt : Sim em Z R own cc nL rt tgt lv st S A) (kf : Sim em Z R own cc nL rt (pc + 4) lv st S B) : Sim em Z R own cc nL rt pc lv (.double y :: .double x :: st) S (if 0 ≤ dx x y op then A else B) := by
  intro p l e s m args below meth c hC r S' ho ls H locs hl hP hS
  refine lv_dcmp hC.1 hC.2.1 hd ?_
  exact lv_if_ge hC.1 hC.2.1 hd2 ht (fun (hc : 0 ≤ dx x y op) => kt p l e s m args below meth c hC r S' (by rw [← ho, if_pos hc]) ls H locs hl hP hS) (fun (hc : ¬ 0 ≤ dx x y op) => kf p l e s m args below meth c hC r S' (by rw [← ho, if_neg hc]) ls H locs hl hP hS)
theorem sm_dcmp_gt {x y : UInt64} {op : CmpOp} {A B : Option (ρ × St)} {off : Int} (tgt : Nat) {pc : Nat} (hd : decode cc pc = .ok (.dcmp op, 1)) (hd2 : decode cc (pc + 1) = .ok (.ifCond .gt off, 3)) (ht : ((pc + 1 : Nat) : Int) + off = (tgt : Int)) (kt : Sim em Z R own cc nL rt tgt lv st S A) (kf : Sim em Z R own cc nL rt (pc + 4) lv st S B) : Sim em Z R own cc nL rt pc lv (.double y :: .double x :: st) S (if 0 < dx x y op then A else B) := by
  intro p l e s m args below meth c hC r S' ho ls H locs hl hP hS
  refine lv_dcmp hC.1 hC.2.1 hd ?_
  exact lv_if_gt hC.1 hC.2.1 hd2 ht (fun (hc : 0 < dx x y op) => kt p l e s m args below meth c hC r S' (by rw [← ho, if_pos hc]) ls H locs hl hP hS) (fun (hc : ¬ 0 < dx x y op) => kf p l e s m args below meth c hC r S' (by rw [← ho, if_neg hc]) ls H locs hl hP hS)
theorem sm_dcmp_le {x y : UInt64} {op : CmpOp} {A B : Option (ρ × St)} {off : Int} (tgt : Nat) {pc : Nat} (hd : decode cc pc = .ok (.dcmp op, 1)) (hd2 : decode cc (pc + 1) = .ok (.ifCond .le off, 3)) (ht : ((pc + 1 : Nat) : Int) + off = (tgt : Int)) (kt : Sim em Z R own cc nL rt tgt lv st S A) (kf : Sim em Z R own cc nL rt (pc + 4) lv st S B) : Sim em Z R own cc nL rt pc lv (.double y :: .double x :: st) S (if dx x y op ≤ 0 then A else B) := by
  intro p l e s m args below meth c hC r S' ho ls H locs hl hP hS
  refine lv_dcmp hC.1 hC.2.1 hd ?_
  exact lv_if_le hC.1 hC.2.1 hd2 ht (fun (hc : dx x y op ≤ 0) => kt p l e s m args below meth c hC r S' (by rw [← ho, if_pos hc]) ls H locs hl hP hS) (fun (hc : ¬ dx x y op ≤ 0) => kf p l e s m args below meth c hC r S' (by rw [← ho, if_neg hc]) ls H locs hl hP hS)
theorem sm_fcmp_eq {x y : UInt32} {op : CmpOp} {A B : Option (ρ × St)} {off : Int} (tgt : Nat) {pc : Nat} (hd : decode cc pc = .ok (.fcmp op, 1)) (hd2 : decode cc (pc + 1) = .ok (.ifCond .eq off, 3)) (ht : ((pc + 1 : Nat) : Int) + off = (tgt : Int)) (kt : Sim em Z R own cc nL rt tgt lv st S A) (kf : Sim em Z R own cc nL rt (pc + 4) lv st S B) : Sim em Z R own cc nL rt pc lv (.float y :: .float x :: st) S (if fx x y op = 0 then A else B) := by
  intro p l e s m args below meth c hC r S' ho ls H locs hl hP hS
  refine lv_fcmp hC.1 hC.2.1 hd ?_
  exact lv_if_eq hC.1 hC.2.1 hd2 ht (fun (hc : fx x y op = 0) => kt p l e s m args below meth c hC r S' (by rw [← ho, if_pos hc]) ls H locs hl hP hS) (fun (hc : ¬ fx x y op = 0) => kf p l e s m args below meth c hC r S' (by rw [← ho, if_neg hc]) ls H locs hl hP hS)
/-- a switch: the targets, key by key, beside the pure function's branches -/
def swA {ρ : Type} (em : ρ → Option Value) (Z : ZT) (R : Room) (own : String) (cc : ByteArray) (nL : Nat) (rt : Option FieldType) (lv : List (Nat × Value)) (st : List Value) (S : St) : List Nat → List (Int32 × Option (ρ × St)) → Prop
  | t :: ts, (_, a) :: l => Sim em Z R own cc nL rt t lv st S a ∧ swA em Z R own cc nL rt lv st S ts l
  | [], [] => True
  | _, _ => False
theorem sw_hit {β : Type} {x : Int32} {d : β} : ∀ {l : List (Int32 × β)}, (∃ (i : Nat) (a : β), l[i]? = some (x, a) ∧ sw x d l = a) ∨ ((∀ q ∈ l, x ≠ q.1) ∧ sw x d l = d)
  | [] => Or.inr ⟨fun _ h => absurd h List.not_mem_nil, rfl⟩
  | (k, a) :: l => by
    by_cases h : x = k
    · subst h
      exact Or.inl ⟨0, a, rfl, if_pos rfl⟩
    · rcases sw_hit (x := x) (d := d) (l := l) with ⟨i, b, h1, h2⟩ | ⟨h1, h2⟩
      · exact Or.inl ⟨i + 1, b, h1, by rw [← h2]; exact if_neg h⟩
      · exact Or.inr ⟨fun q hq => by
          rcases List.mem_cons.mp hq with rfl | hq
          · exact h
          · exact h1 q hq, (if_neg h : sw x d ((k, a) :: l) = sw x d l).trans h2⟩
theorem swA_at {ts : List Nat} {l : List (Int32 × Option (ρ × St))} (h : swA em Z R own cc nL rt lv st S ts l) : ∀ {i : Nat} {k : Int32} {a : Option (ρ × St)}, l[i]? = some (k, a) → ∃ t, ts[i]? = some t ∧ Sim em Z R own cc nL rt t lv st S a := by
  induction ts generalizing l with
  | nil =>
    intro i k a hi
    cases l with
    | nil => cases hi
    | cons _ _ => exact h.elim
  | cons t ts ih =>
    intro i k a hi
    cases l with
    | nil => exact h.elim
    | cons q l =>
      cases i with
      | zero =>
        cases hi
        exact ⟨t, rfl, h.1⟩
      | succ i => exact ih h.2 hi
/-- keys lo, lo + 1, .. -/
def swK : Int → List Int32 → Bool
  | _, [] => true
  | a, k :: l => decide (k.toInt = a) && swK (a + 1) l
theorem swK_at : ∀ {l : List Int32} {a : Int} (_ : swK a l = true) {i : Nat} {k : Int32}, l[i]? = some k → k.toInt = a + i
  | [], _, _, i, k, hi => by cases hi
  | x :: l, a, h, i, k, hi => by
    simp only [swK, Bool.and_eq_true, decide_eq_true_eq] at h
    cases i with
    | zero =>
      cases hi
      omega
    | succ i =>
      have := swK_at h.2 (i := i) (k := k) hi
      omega
theorem sm_tsw {x : Int32} {dflt lo hi : Int} {offs : Array Int} {len : Nat} {d : Option (ρ × St)} {l : List (Int32 × Option (ρ × St))} {pc : Nat} (dt : Nat) (ts : List Nat) (hd : decode cc pc = .ok (.tableswitch dflt lo hi offs, len)) (hk : swK lo (l.map (·.1)) = true) (hln : hi = lo + (l.length : Int) - 1) (hts : offs.toList.map (fun o => (pc : Int) + o) = ts.map (fun (t : Nat) => (t : Int))) (hdt : (pc : Int) + dflt = (dt : Int)) (ka : swA em Z R own cc nL rt lv st S ts l) (kd : Sim em Z R own cc nL rt dt lv st S d) : Sim em Z R own cc nL rt pc lv (.int x :: st) S (sw x d l) := by
  intro p l1 e s m args below meth c hC r S' ho ls H locs hl hP hS
  rcases sw_hit (x := x) (d := d) (l := l) with ⟨i, a, h1, h2⟩ | ⟨h1, h2⟩
  · rw [h2] at ho
    obtain ⟨t, ht, hs⟩ := swA_at ka h1
    have hil : i < l.length := (List.getElem?_eq_some_iff.mp h1).1
    have hx : x.toInt = lo + i := swK_at hk (by rw [List.getElem?_map, h1]; rfl)
    have hof : ∃ off, offs[i]? = some off ∧ (pc : Int) + off = (t : Int) := by
      have h3 : (offs.toList.map (fun o => (pc : Int) + o))[i]? = some (t : Int) := by rw [hts, List.getElem?_map, ht]; rfl
      rw [List.getElem?_map] at h3
      cases h4 : offs.toList[i]? with
      | none => rw [h4] at h3; cases h3
      | some off =>
        rw [h4] at h3
        exact ⟨off, by rw [← Array.getElem?_toList]; exact h4, Option.some.inj h3⟩
    obtain ⟨off, hoff, htt⟩ := hof
    refine lv_tableIn (off := off) hC.1 hC.2.1 hd (by omega) (by omega) (by rw [hx]; rw [show (lo + (i : Int) - lo).toNat = i by omega]; exact hoff) htt ?_
    exact hs p l1 e s m args below meth c hC r S' ho ls H locs hl hP hS
  · rw [h2] at ho
    refine lv_tableOut hC.1 hC.2.1 hd ?_ hdt (kd p l1 e s m args below meth c hC r S' ho ls H locs hl hP hS)
    by_cases hlo : x.toInt < lo
    · exact Or.inl hlo
    · refine Or.inr ?_
      apply Classical.byContradiction
      intro hh
      have hil : (x.toInt - lo).toNat < l.length := by omega
      obtain ⟨q, hq⟩ : ∃ q, l[(x.toInt - lo).toNat]? = some q := ⟨_, List.getElem?_eq_getElem hil⟩
      have h5 : q.1.toInt = lo + ((x.toInt - lo).toNat : Int) := swK_at hk (by rw [List.getElem?_map, hq]; rfl)
      exact h1 q (List.mem_of_getElem? hq) (Int32.toInt_inj.mp (by omega))
theorem lsw_off {ps : List (Int × Int)} {dflt : Int} {x : Int32} : ∀ {l : List (Int32 × Option (ρ × St))} (_ : ps.map (·.1) = l.map (fun q => q.1.toInt)), (∀ q ∈ l, x ≠ q.1) → Op.lookupswitch.offset ps dflt x.toInt = dflt := by
  induction ps with
  | nil => intro l _ _; rfl
  | cons a ps ih =>
    intro l h hne
    cases l with
    | nil => cases h
    | cons q l =>
      simp only [List.map_cons, List.cons.injEq] at h
      obtain ⟨a1, a2⟩ := a
      rw [lv_osw (k := q.1) (hne q List.mem_cons_self) h.1.symm]
      exact ih h.2 (fun q hq => hne q (List.mem_cons_of_mem _ hq))
theorem lsw_hit {ps : List (Int × Int)} {dflt : Int} {x : Int32} : ∀ {l : List (Int32 × Option (ρ × St))} (_ : ps.map (·.1) = l.map (fun q => q.1.toInt)) {i : Nat} {a : Option (ρ × St)}, l[i]? = some (x, a) → (l.map (·.1)).Nodup → ∃ o, ps[i]? = some (x.toInt, o) ∧ Op.lookupswitch.offset ps dflt x.toInt = o := by
  induction ps with
  | nil =>
    intro l h i a hi
    cases l with
    | nil => cases hi
    | cons q l => cases h
  | cons b ps ih =>
    intro l h i a hi hnd
    cases l with
    | nil => cases h
    | cons q l =>
      simp only [List.map_cons, List.cons.injEq] at h
      obtain ⟨b1, b2⟩ := b
      cases i with
      | zero =>
        cases hi
        refine ⟨b2, by rw [List.getElem?_cons_zero]; rw [← h.1], ?_⟩
        rw [Op.lookupswitch.offset_cons, if_pos (by exact h.1)]
      | succ i =>
        have hi' : l[i]? = some (x, a) := hi
        simp only [List.map_cons, List.nodup_cons] at hnd
        obtain ⟨o, h1, h2⟩ := ih h.2 hi' hnd.2
        refine ⟨o, h1, ?_⟩
        rw [lv_osw (k := q.1) (fun e => hnd.1 (by rw [← e]; exact List.mem_map.mpr ⟨(x, a), List.mem_of_getElem? hi', rfl⟩)) h.1.symm]
        exact h2
theorem sm_lsw {x : Int32} {dflt : Int} {ps : Array (Int × Int)} {len : Nat} {d : Option (ρ × St)} {l : List (Int32 × Option (ρ × St))} {pc : Nat} (dt : Nat) (ts : List Nat) (hd : decode cc pc = .ok (.lookupswitch dflt ps, len)) (hp : (ps.toList.zip (ps.toList.drop 1)).all (fun (a, next) => a.1 < next.1) = true) (hk : ps.toList.map (·.1) = l.map (fun q => q.1.toInt)) (hnd : (l.map (·.1)).Nodup) (hts : ps.toList.map (fun o => (pc : Int) + o.2) = ts.map (fun (t : Nat) => (t : Int))) (hdt : (pc : Int) + dflt = (dt : Int)) (ka : swA em Z R own cc nL rt lv st S ts l) (kd : Sim em Z R own cc nL rt dt lv st S d) : Sim em Z R own cc nL rt pc lv (.int x :: st) S (sw x d l) := by
  intro p l1 e s m args below meth c hC r S' ho ls H locs hl hP hS
  rcases sw_hit (x := x) (d := d) (l := l) with ⟨i, a, h1, h2⟩ | ⟨h1, h2⟩
  · rw [h2] at ho
    obtain ⟨t, ht, hs⟩ := swA_at ka h1
    obtain ⟨off, hp1, hp2⟩ := lsw_hit (dflt := dflt) hk h1 hnd
    have htt : (pc : Int) + off = (t : Int) := by
      have h3 : (ps.toList.map (fun o => (pc : Int) + o.2))[i]? = some (t : Int) := by rw [hts, List.getElem?_map, ht]; rfl
      rw [List.getElem?_map, hp1] at h3
      exact Option.some.inj h3
    exact lv_lookup hC.1 hC.2.1 hd hp hp2 htt (hs p l1 e s m args below meth c hC r S' ho ls H locs hl hP hS)
  · rw [h2] at ho
    exact lv_lookup hC.1 hC.2.1 hd hp (lsw_off hk h1) hdt (kd p l1 e s m args below meth c hC r S' ho ls H locs hl hP hS)

end SM
