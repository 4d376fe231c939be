/-! A SIGNALLING NaN: Double.longBitsToDouble draws whether it stays one -/
def snR (b : Int64) (n : UInt64) : UInt64 := if n % 2 == 0 then b.toUInt64 else b.toUInt64 ||| 0x0008000000000000
theorem sn_wp {E : CtlPost} {e : Env} {d : Bool} {acts : List Action} {s : State} {Q : Option Value → Pre} (v : Int64) (hv : vn_snl2d v = true) (hq : ∀ d' acts', Q (some (.double (snR v (e.choices (.named "NaN.copy") (s.drawn.count (.named "NaN.copy")))))) d' acts' (s.draw (.named "NaN.copy"))) : wp (Native.java_lang_Float.bits.rowLongBitsToDouble.sem #[.long v]) Q E e d acts s := by
  have hv2 : (v.toUInt64 &&& 0x7fffffffffffffff > 0x7ff0000000000000 && v.toUInt64 &&& 0x0008000000000000 == 0) = true := hv
  rw [Native.java_lang_Float.bits.longBitsToDouble_on]
  simp only [hv2, if_true, wp_bind', Sem.choose, wp_choose, W.mark, wp_pure']
  exact hq _ _
theorem sn_steps {e : Env} {below : List Frame} {s target : State} {g : JFrame} {c : Code} {m : MethodId} {meth : Method} {k : Class} {ig : Instr} {len : Nat} (p : Program) (h : At s g.method c below) (acts : List Action)
    (N : NativeOf s.vm m k meth "java/lang/Double" "longBitsToDouble" "(J)D" true [.long]) (v : Int64)
    (hroom : e.platform.stackFull (((s.setTop g).threads[(s.setTop g).cur]?).getD { frames := [] }) (s.setTop g).frames (nativeFrameWords "java/lang/Double" "longBitsToDouble" 2) = false)
    (hv : vn_snl2d v = true) (hdg : decode c.code g.pc = .ok (ig, len))
    (hrest : Steps p.tables e below ((s.draw (.named "NaN.copy")).setTop { g with pc := g.pc + len, stack := .double (snR v (e.choices (.named "NaN.copy") (s.drawn.count (.named "NaN.copy")))) :: g.stack }) target) :
    Steps p.tables e below (doInvoke e (s.setTop g) acts m #[.long v]).1 target := by
  have hseen : seenByNative meth #[.long v] = #[.long v] := by simp [seenByNative, N.static, N.sig, narrow]
  refine Steps.nativeEnds (row := Native.java_lang_Float.bits.rowLongBitsToDouble) (v := some (.double (snR v (e.choices (.named "NaN.copy") (s.drawn.count (.named "NaN.copy")))))) (T := fun s => s.draw (.named "NaN.copy")) h acts N.cls N.meth N.boot N.native N.noCode N.noLock
    (by rw [N.className, N.name, N.desc]; exact longBitsToDouble_row p) (by rw [N.className, N.name]; exact hroom) (fun _ => rfl) rfl (fun _ => h.code) ?_ hdg hrest
  intro Q hq
  rw [hseen] at hq ⊢
  exact sn_wp v hv (fun d' acts' => hq d' acts')
section SNW
variable {p : Program} {l : Launch} {e : Env} {R : Room} {s : State} {m : MethodId} {args : Array Value} {below : List Frame} {meth : Method} {c : Code} {H : Heap} {locs : List Loc} {cells slots : Nat} {Q : State → Prop} {cc : ByteArray} {pc : Nat} {ls : Array Slot} {rest : List Value} {d0 : Drawn}
theorem sn_l2d0 {T : State} (X : Stand p l e R s m args below meth c T locs cells slots) (hexec : p.tables.exec = Jvm.exec) {own : String} {index : Nat} (hown : s.vm.findClass own = some m.cls) (hlink : (Cond.methodLink own index ⟨"java/lang/Double", "longBitsToDouble", "(J)D"⟩).before args s = true) (hnat : (Cond.native ⟨"java/lang/Double", "longBitsToDouble", "(J)D"⟩).before args s = true) (hstat : (Cond.static ⟨"java/lang/Double", "longBitsToDouble", "(J)D"⟩).before args s = true) (hinit : (Cond.initialized "java/lang/Double").before args s = true)
    {g : JFrame} (hg : g.method = m) (hsize : g.locals.size = c.maxLocals) {rest : List Value} {b : Int64} (hv : vn_snl2d b = true) (hstack : g.stack = .long b :: rest) (hdg : decode c.code g.pc = .ok (.invokestatic index, 3)) (hframes : 1 ≤ R.frames) (hlocals : 2 * g.monitorRoom + (rest.map fun v => v.category).sum + (nativeFrameWords "java/lang/Double" "longBitsToDouble" 2 + 11) ≤ R.locals) :
    ∃ (vm' : Vm) (n : UInt64), Stand p l e R (s.setDrawn (T.drawn.next (.named "NaN.copy"))) m args below meth c ((T.setVm vm').setDrawn (T.drawn.next (.named "NaN.copy"))) locs cells slots ∧ ∀ target, Steps p.tables e below (((T.setVm vm').setDrawn (T.drawn.next (.named "NaN.copy"))).setTop { g with pc := g.pc + 3, stack := .double (snR b n) :: rest }) target → Steps p.tables e below (T.setTop g) target := by
  obtain ⟨r, kS, methS, hnS, hmS, hkS, N⟩ := NativeOf.of_static hnat hstat (ps := [.long]) (ret := some .double) (by decide +kernel)
  have hinitS : kS.init = .initialized := Cond.initialized_spec (findClass_of_methodNamed hnS) hkS hinit
  obtain ⟨vm', X', step⟩ := X.invokestatic hexec hown hlink hnS hmS N.static hkS hinitS (by decide) hg (argsL := [.long b]) (rest := rest) (by rw [N.sig]; rfl) hstack hdg
  refine ⟨vm', e.choices (.named "NaN.copy") (T.drawn.count (.named "NaN.copy")), X'.drew _, fun target hrest => step target fun acts => ?_⟩
  subst hg
  obtain ⟨kS', N'⟩ := N.alike X'.warmed.alike
  exact sn_steps (g := { g with stack := rest }) (ig := .invokestatic index) (len := 3) p X'.here acts N' b (X'.notFull (g := { g with stack := rest }) hsize (vars := nativeFrameWords "java/lang/Double" "longBitsToDouble" 2) hframes hlocals) hv hdg hrest
theorem sn_l2d (hd0 : s.drawn.sameBut d0 lw_cs) (hexec : p.tables.exec = Jvm.exec) (hb : c.code = cc) (hml : c.maxLocals = ls.size) {own : String} {index : Nat} (hown : s.vm.findClass own = some m.cls) (hlink : (Cond.methodLink own index ⟨"java/lang/Double", "longBitsToDouble", "(J)D"⟩).before args (s.setDrawn d0) = true) (hnat : (Cond.native ⟨"java/lang/Double", "longBitsToDouble", "(J)D"⟩).before args (s.setDrawn d0) = true) (hstat : (Cond.static ⟨"java/lang/Double", "longBitsToDouble", "(J)D"⟩).before args (s.setDrawn d0) = true) (hinit : (Cond.initialized "java/lang/Double").before args (s.setDrawn d0) = true) {b : Int64} (hv : vn_snl2d b = true)
    (hframes : 1 ≤ R.frames) (hlocals : (rest.map fun v => v.category).sum + 15 ≤ R.locals) (hdg : decode cc pc = .ok (.invokestatic index, 3))
    (k : ∀ (n : UInt64) (d' : Drawn), s.drawn.sameBut d' lw_cs → W p l e R (s.setDrawn d') m args below meth c H locs cells slots Q (F0 m (pc + 3) ls (.double (snR b n) :: rest))) : W p l e R (s.setDrawn d0) m args below meth c H locs cells slots Q (F0 m pc ls (.long b :: rest)) := by
  intro T hT X
  obtain ⟨vm', n, X', st⟩ := sn_l2d0 X hexec hown hlink hnat hstat hinit (b := b) (hv := hv) (g := F0 m pc ls (.long b :: rest)) rfl (by rw [hml]) rfl (by rw [hb]; exact hdg) hframes (by show 2 * 0 + _ + _ ≤ _; have hw : nativeFrameWords "java/lang/Double" "longBitsToDouble" 2 = 4 := (by decide); omega)
  have hd1 : s.drawn.sameBut (T.drawn.next (.named "NaN.copy")) lw_cs := by
    have e : T.drawn = d0 := X.drawn_eq
    rw [e]
    exact Drawn.sameBut.trans hd0 (Drawn.sameBut.mono (Drawn.next_named d0 "NaN.copy") (fun c hc => by
      simp only [List.mem_cons, List.not_mem_nil, or_false] at hc
      rw [hc]
      decide))
  obtain ⟨t, a, b⟩ := k n _ hd1 ((T.setVm vm').setDrawn (T.drawn.next (.named "NaN.copy"))) hT X'
  exact ⟨t, st t a, b⟩
end SNW
theorem and_or_le (x : UInt64) (h : 0x7ff0000000000000 < x &&& 0x7fffffffffffffff) : 0x7ff0000000000000 < (x ||| 0x0008000000000000) &&& 0x7fffffffffffffff := by
  rw [UInt64.lt_iff_toNat_lt] at *
  have e1 : ((x ||| 0x0008000000000000) &&& 0x7fffffffffffffff).toNat = ((x.toNat ||| 2251799813685248) &&& 9223372036854775807) := by
    rw [UInt64.toNat_and, UInt64.toNat_or]
    rfl
  have e2 : (x &&& 0x7fffffffffffffff).toNat = (x.toNat &&& 9223372036854775807) := by
    rw [UInt64.toNat_and]
    rfl
  rw [e1, Nat.and_or_distrib_right]
  rw [e2] at h
  exact Nat.lt_of_lt_of_le h Nat.left_le_or
theorem snR_nan {b : Int64} (h : vn_snl2d b = true) (n : UInt64) : FP.Core.val64 (snR b n) = .nan := by
  unfold vn_snl2d at h
  rw [Bool.and_eq_true, decide_eq_true_eq] at h
  have key : 0x7ff0000000000000 < snR b n &&& 0x7fffffffffffffff := by
    unfold snR
    split
    · exact h.1
    · exact and_or_le _ h.1
  by_cases z : FP.Core.val64 (snR b n) = .nan
  · exact z
  · have := (FP.Core.ne_nan (snR b n)).mp z
    rw [UInt64.lt_iff_toNat_lt, FP.Core.mask_toNat] at key
    have e : (0x7ff0000000000000 : UInt64).toNat = 9218868437227405312 := rfl
    omega
theorem nan_rate {x : UInt64} (h : FP.Core.val64 x = .nan) (S : St) : F_X8_isRate x S = some (0, S) := by
  unfold F_X8_isRate J_X8_isRate_18 J_X8_isRate_19
  rw [if_pos, zr0]
  unfold dx
  rw [show FP.dcmp x FP.dconst0 = none from (FP.Core.dcmp_none _ _).mpr (Or.inl h)]
  decide
