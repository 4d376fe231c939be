/-! fields, arrays, calls, ends -/
/-- field kf of class ci, as entry idx of class own names it -/
def Fld (own : String) (idx ci kf : Nat) : Prop := ∃ (C : String) (T : u_T) (N : Nat) (t0 : Nat → FieldType), cls7[ci]? = some (C, T, N) ∧ kf < N ∧ (∀ w ∈ u_ws C T N, w ∈ lw_good) ∧ Cond.fieldLink own idx (T kf).1 (T kf).2.1 (T kf).2.2.1 ∈ lw_good ∧ (∀ k, k < N → parseFieldDescriptor (T k).2.2.1 = some (t0 k)) ∧ (∀ a, a < N → ∀ b, b < N → a ≠ b → (T a).2.1 ≠ (T b).2.1)
/-- the same of a field that may be written, of type ty -/
def FldW (own : String) (idx ci kf : Nat) (ty : FieldType) : Prop := ∃ (C : String) (T : u_T) (N : Nat) (t0 : Nat → FieldType), cls7[ci]? = some (C, T, N) ∧ kf < N ∧ (∀ w ∈ u_ws C T N, w ∈ lw_good) ∧ Cond.fieldLink own idx (T kf).1 (T kf).2.1 (T kf).2.2.1 ∈ lw_good ∧ (∀ k, k < N → parseFieldDescriptor (T k).2.2.1 = some (t0 k)) ∧ (∀ a, a < N → ∀ b, b < N → a ≠ b → (T a).2.1 ≠ (T b).2.1) ∧ (T kf).2.2.2 = false ∧ parseFieldDescriptor (T kf).2.2.1 = some ty
/-- a class of cls7: what of it is decided once -/
def ClsOK (ci : Nat) (C : String) (T : u_T) (N : Nat) (t0 : Nat → FieldType) : Prop := cls7[ci]? = some (C, T, N) ∧ (∀ w ∈ u_ws C T N, w ∈ lw_good) ∧ (∀ k, k < N → parseFieldDescriptor (T k).2.2.1 = some (t0 k)) ∧ (∀ a, a < N → ∀ b, b < N → a ≠ b → (T a).2.1 ≠ (T b).2.1)
theorem in_good {ws : List Cond} (h : ∀ w ∈ ws, w ∈ lw_tbl) (hg : ws.all goodWord = true) : ∀ w ∈ ws, w ∈ lw_good := fun w hw => List.mem_filter.mpr ⟨h w hw, List.all_eq_true.mp hg w hw⟩
theorem Fld.mk {own : String} {idx ci kf : Nat} {C : String} {T : u_T} {N : Nat} {t0 : Nat → FieldType} (hC : ClsOK ci C T N t0) (hk : kf < N) (hl : Cond.fieldLink own idx (T kf).1 (T kf).2.1 (T kf).2.2.1 ∈ lw_good) : Fld own idx ci kf := ⟨C, T, N, t0, hC.1, hk, hC.2.1, hl, hC.2.2.1, hC.2.2.2⟩
theorem FldW.mk {own : String} {idx ci kf : Nat} {C : String} {T : u_T} {N : Nat} {t0 : Nat → FieldType} {ty : FieldType} (hC : ClsOK ci C T N t0) (hk : kf < N) (hl : Cond.fieldLink own idx (T kf).1 (T kf).2.1 (T kf).2.2.1 ∈ lw_good) (hf : (T kf).2.2.2 = false) (ht : parseFieldDescriptor (T kf).2.2.1 = some ty) : FldW own idx ci kf ty := ⟨C, T, N, t0, hC.1, hk, hC.2.1, hl, hC.2.2.1, hC.2.2.2, hf, ht⟩
theorem kd_eq {c k : Nat} (h : (kd0 c).1 = k) : kd0 c = (k, (kd0 c).2) := by rw [← h]
section SMF
variable {ρ : Type} {em : ρ → Option Value} {Z : ZT} {R : Room} {own : String} {cc : ByteArray} {nL : Nat} {rt : Option FieldType} {lv : List (Nat × Value)} {st : List Value} {S : St} {o : Option (ρ × St)}
theorem sm_getI {ci kf idx c pc : Nat} {K : Int32 → Option (ρ × St)} (hd : decode cc pc = .ok (.getfield idx, 3)) (hf : Fld own idx ci kf) (hci : ci < 7) (ht : (fty ci)[kf]? = some 0) (k : ∀ v, Sim em Z R own cc nL rt (pc + 3) lv (.int v :: st) S (K v)) : Sim em Z R own cc nL rt pc lv (.ref c :: st) S (gI ci kf c S K) := by
  intro p l e s m args below meth cd hC r S' ho ls H locs hl hP hS
  unfold gI at ho
  split at ho
  · next hk =>
    obtain ⟨C, T, N, t0, h1, h2, h3, h4, h5, h6⟩ := hf
    have hlt : c < 226 := kd_lt (kd_eq hk) (by omega)
    exact va_get (D := Z.2.1) (v := .int (S.1 c kf)) hC.1 hC.2.1 hC.2.2.2.2.1 h3 hC.2.2.2.1 hC.2.2.2.2.2.1.1 hP c (by rw [wsO_at Z S hlt, ent_obj (kd_eq hk) hci]) h1 kf h2 (hC.2.2.2.2.1 _ h4) (fun _ h => h) (by rw [flds_at _ _ _ _ _ _ ht]; rfl) hd (k _ p l e s m args below meth cd hC r S' ho ls H locs hl hP hS)
  · cases ho
theorem sm_getL {ci kf idx c pc : Nat} {K : Int64 → Option (ρ × St)} (hd : decode cc pc = .ok (.getfield idx, 3)) (hf : Fld own idx ci kf) (hci : ci < 7) (ht : (fty ci)[kf]? = some 1) (k : ∀ v, Sim em Z R own cc nL rt (pc + 3) lv (.long v :: st) S (K v)) : Sim em Z R own cc nL rt pc lv (.ref c :: st) S (gL ci kf c S K) := by
  intro p l e s m args below meth cd hC r S' ho ls H locs hl hP hS
  unfold gL at ho
  split at ho
  · next hk =>
    obtain ⟨C, T, N, t0, h1, h2, h3, h4, h5, h6⟩ := hf
    have hlt : c < 226 := kd_lt (kd_eq hk) (by omega)
    exact va_get (D := Z.2.1) (v := .long (S.2 c kf)) hC.1 hC.2.1 hC.2.2.2.2.1 h3 hC.2.2.2.1 hC.2.2.2.2.2.1.1 hP c (by rw [wsO_at Z S hlt, ent_obj (kd_eq hk) hci]) h1 kf h2 (hC.2.2.2.2.1 _ h4) (fun _ h => h) (by rw [flds_at _ _ _ _ _ _ ht]; rfl) hd (k _ p l e s m args below meth cd hC r S' ho ls H locs hl hP hS)
  · cases ho
theorem sm_getR {ci kf idx c pc : Nat} {K : Nat → Option (ρ × St)} (hd : decode cc pc = .ok (.getfield idx, 3)) (hf : Fld own idx ci kf) (hci : ci < 7) (ht : (fty ci)[kf]? = some 2) (k : ∀ v, Sim em Z R own cc nL rt (pc + 3) lv (.ref v :: st) S (K v)) : Sim em Z R own cc nL rt pc lv (.ref c :: st) S (gR ci kf c K) := by
  intro p l e s m args below meth cd hC r S' ho ls H locs hl hP hS
  unfold gR at ho
  split at ho
  · next hk =>
    obtain ⟨C, T, N, t0, h1, h2, h3, h4, h5, h6⟩ := hf
    have hlt : c < 226 := kd_lt (kd_eq hk) (by omega)
    cases hr : R0 c kf with
    | none => rw [hr] at ho; cases ho
    | some a =>
      rw [hr] at ho
      exact va_get (D := Z.2.1) (v := .ref (Z.1 a)) hC.1 hC.2.1 hC.2.2.2.2.1 h3 hC.2.2.2.1 hC.2.2.2.2.2.1.1 hP c (by rw [wsO_at Z S hlt, ent_obj (kd_eq hk) hci]) h1 kf h2 (hC.2.2.2.2.1 _ h4) (fun _ h => h) (by rw [flds_at _ _ _ _ _ _ ht]; simp [fv, hr, va_rf]) hd (k a p l e s m args below meth cd hC r S' ho ls H locs hl hP hS)
  · cases ho
theorem sm_putI {ci kf idx c pc : Nat} {v : Int32} {K : St → Option (ρ × St)} (hd : decode cc pc = .ok (.putfield idx, 3)) (hf : FldW own idx ci kf .int) (hci : ci < 7) (ht : (fty ci)[kf]? = some 0) (k : ∀ S1, Sim em Z R own cc nL rt (pc + 3) lv st S1 (K S1)) : Sim em Z R own cc nL rt pc lv (.int v :: .ref c :: st) S (pI ci kf c v S K) := by
  intro p l e s m args below meth cd hC r S' ho ls H locs hl hP hS
  unfold pI at ho
  split at ho
  · next hk =>
    obtain ⟨C, T, N, t0, h1, h2, h3, h4, h5, h6, h7, h8⟩ := hf
    have hlt : c < 226 := kd_lt (kd_eq hk) (by omega)
    have hD := zD hC.2.2.2.2.2.1 S
    refine va_put (D := Z.2.1) (ty := .int) (v := .int v) hC.1 hC.2.1 hC.2.2.2.2.1 h3 t0 h5 h6 hC.2.2.2.1 hC.2.2.2.2.2.1.1 hP hD hS c (by rw [wsO_at Z S hlt, ent_obj (kd_eq hk) hci]) h1 kf h2 (hC.2.2.2.2.1 _ h4) (fun _ h => h) h7 h8 rfl rfl ?_ hd (fun H1 locs1 hP1 hD1 hS1 => ?_)
    · have := (List.getElem?_eq_some_iff.mp ht).1
      simpa [flds] using this
    · rw [flds_setI _ _ _ _ _ _ ht, wsO_set (offc_setI S c kf v) (ent_obj (kd_eq hk) hci)] at hP1
      exact k _ p l e s m args below meth cd hC r S' ho ls H1 locs1 hl hP1 hS1
  · cases ho
theorem sm_putZ {ci kf idx c pc : Nat} {v : Int32} {K : St → Option (ρ × St)} (hd : decode cc pc = .ok (.putfield idx, 3)) (hf : FldW own idx ci kf .boolean) (hci : ci < 7) (ht : (fty ci)[kf]? = some 0) (k : ∀ S1, Sim em Z R own cc nL rt (pc + 3) lv st S1 (K S1)) : Sim em Z R own cc nL rt pc lv (.int v :: .ref c :: st) S (pZ ci kf c v S K) := by
  intro p l e s m args below meth cd hC r S' ho ls H locs hl hP hS
  unfold pZ at ho
  split at ho
  · next hk =>
    obtain ⟨C, T, N, t0, h1, h2, h3, h4, h5, h6, h7, h8⟩ := hf
    have hlt : c < 226 := kd_lt (kd_eq hk.1) (by omega)
    have hD := zD hC.2.2.2.2.2.1 S
    refine va_put (D := Z.2.1) (ty := .boolean) (v := .int v) hC.1 hC.2.1 hC.2.2.2.2.1 h3 t0 h5 h6 hC.2.2.2.1 hC.2.2.2.2.2.1.1 hP hD hS c (by rw [wsO_at Z S hlt, ent_obj (kd_eq hk.1) hci]) h1 kf h2 (hC.2.2.2.2.1 _ h4) (fun _ h => h) h7 h8 (by rcases hk.2 with h | h <;> subst h <;> rfl) (by rcases hk.2 with h | h <;> subst h <;> rfl) ?_ hd (fun H1 locs1 hP1 hD1 hS1 => ?_)
    · have := (List.getElem?_eq_some_iff.mp ht).1
      simpa [flds] using this
    · rw [flds_setI _ _ _ _ _ _ ht, wsO_set (offc_setI S c kf v) (ent_obj (kd_eq hk.1) hci)] at hP1
      exact k _ p l e s m args below meth cd hC r S' ho ls H1 locs1 hl hP1 hS1
  · cases ho
theorem sm_putL {ci kf idx c pc : Nat} {v : Int64} {K : St → Option (ρ × St)} (hd : decode cc pc = .ok (.putfield idx, 3)) (hf : FldW own idx ci kf .long) (hci : ci < 7) (ht : (fty ci)[kf]? = some 1) (k : ∀ S1, Sim em Z R own cc nL rt (pc + 3) lv st S1 (K S1)) : Sim em Z R own cc nL rt pc lv (.long v :: .ref c :: st) S (pL ci kf c v S K) := by
  intro p l e s m args below meth cd hC r S' ho ls H locs hl hP hS
  unfold pL at ho
  split at ho
  · next hk =>
    obtain ⟨C, T, N, t0, h1, h2, h3, h4, h5, h6, h7, h8⟩ := hf
    have hlt : c < 226 := kd_lt (kd_eq hk) (by omega)
    have hD := zD hC.2.2.2.2.2.1 S
    refine va_put (D := Z.2.1) (ty := .long) (v := .long v) hC.1 hC.2.1 hC.2.2.2.2.1 h3 t0 h5 h6 hC.2.2.2.1 hC.2.2.2.2.2.1.1 hP hD hS c (by rw [wsO_at Z S hlt, ent_obj (kd_eq hk) hci]) h1 kf h2 (hC.2.2.2.2.1 _ h4) (fun _ h => h) h7 h8 rfl rfl ?_ hd (fun H1 locs1 hP1 hD1 hS1 => ?_)
    · have := (List.getElem?_eq_some_iff.mp ht).1
      simpa [flds] using this
    · rw [flds_setL _ _ _ _ _ _ ht, wsO_set (offc_setL S c kf v) (ent_obj (kd_eq hk) hci)] at hP1
      exact k _ p l e s m args below meth cd hC r S' ho ls H1 locs1 hl hP1 hS1
  · cases ho
theorem sm_aI {a pc : Nat} {i : Int32} {K : Int32 → Option (ρ × St)} (hd : decode cc pc = .ok (.iaload, 1)) (k : ∀ v, Sim em Z R own cc nL rt (pc + 1) lv (.int v :: st) S (K v)) : Sim em Z R own cc nL rt pc lv (.int i :: .ref a :: st) S (aI a i S K) := by
  intro p l e s m args below meth cd hC r S' ho ls H locs hl hP hS
  unfold aI at ho
  split at ho
  · next hk =>
    have hlt : a < 226 := kd_lt (kd_eq hk.1) (by omega)
    exact va_iald (D := Z.2.1) hC.1 hC.2.1 hC.2.2.2.2.2.1.1 hP a 0 (by rw [wsO_at Z S hlt, ent_I (kd_eq hk.1)]) rfl (inb_in hk.2) hd (k _ p l e s m args below meth cd hC r S' ho ls H locs hl hP hS)
  · cases ho
theorem sm_aJ {a pc : Nat} {i : Int32} {K : Int64 → Option (ρ × St)} (hd : decode cc pc = .ok (.laload, 1)) (k : ∀ v, Sim em Z R own cc nL rt (pc + 1) lv (.long v :: st) S (K v)) : Sim em Z R own cc nL rt pc lv (.int i :: .ref a :: st) S (aJ a i S K) := by
  intro p l e s m args below meth cd hC r S' ho ls H locs hl hP hS
  unfold aJ at ho
  split at ho
  · next hk =>
    have hlt : a < 226 := kd_lt (kd_eq hk.1) (by omega)
    exact va_lald (D := Z.2.1) hC.1 hC.2.1 hC.2.2.2.2.2.1.1 hP a 1 (by rw [wsO_at Z S hlt, ent_J (kd_eq hk.1)]) rfl (inb_in hk.2) hd (k _ p l e s m args below meth cd hC r S' ho ls H locs hl hP hS)
  · cases ho
theorem sm_aZ {a pc : Nat} {i : Int32} {K : Int32 → Option (ρ × St)} (hd : decode cc pc = .ok (.baload, 1)) (k : ∀ v, Sim em Z R own cc nL rt (pc + 1) lv (.int v :: st) S (K v)) : Sim em Z R own cc nL rt pc lv (.int i :: .ref a :: st) S (aZ a i S K) := by
  intro p l e s m args below meth cd hC r S' ho ls H locs hl hP hS
  unfold aZ at ho
  split at ho
  · next hk =>
    have hlt : a < 226 := kd_lt (kd_eq hk.1) (by omega)
    exact va_zald (D := Z.2.1) hC.1 hC.2.1 hC.2.2.2.2.2.1.1 hP a 2 (by rw [wsO_at Z S hlt, ent_Z (kd_eq hk.1)]) rfl (inb_in hk.2) hd (k _ p l e s m args below meth cd hC r S' ho ls H locs hl hP hS)
  · cases ho
theorem va_aldg {p : Program} {l : Launch} {e : Env} {R : Room} {s : State} {m : MethodId} {args : Array Value} {below : List Frame} {meth : Method} {c : Code} {H : Heap} {locs : List Loc} {cells slots : Nat} {Q : State → Prop} {cc : ByteArray} {pc : Nat} {ls : Array Slot} {rest : List Value} {D : va_G} {cl : List vw_C} {a : Nat} {tys : List (ClassId × FieldType)} {ws : va_W} (hexec : p.tables.exec = Jvm.exec) (hb : c.code = cc) (hK : va_K D cl tys s) (hP : va_P D cl ws H) (q0 t0 : Nat) {cA : ClassId} {ty : FieldType} {n : Nat} {f : Nat → Option Nat} (ha : ws[q0]? = some (a, .inl (cA, n, .inr (.inr (.inr (.inr f)))))) (ht : tys[t0]? = some (cA, ty)) (hty : ty.isReference = true) {i : Int32} (hin : vp_in i n) (hdg : decode cc pc = .ok (.aaload, 1))
    (kk : W p l e R s m args below meth c H locs cells slots Q (F0 m (pc + 1) ls (va_rf (f i.toNatClampNeg) :: rest))) : W p l e R s m args below meth c H locs cells slots Q (F0 m pc ls (.int i :: .ref a :: rest)) := by
  have hlt : i.toNatClampNeg < n := Nat.not_le.mp fun q => hin (Or.inr q)
  exact W.aald (v := va_rf (f i.toNatClampNeg)) (ty := ty) hexec hb (hP q0 _ ha) ((hK.2 t0 _ ht).1 n (fun j => va_rf (f j))) hty (fun q => by cases q) (by show ¬ (i < 0 ∨ (arrV _ _ _).slots.size ≤ _); rw [arrV_size]; exact hin) (by show (arrV _ _ _).slots[_]? = _; rw [arrV_read _ _ hlt]) rfl rfl hdg kk
theorem sm_aR {q a pc : Nat} {i : Int32} {K : Nat → Option (ρ × St)} (hd : decode cc pc = .ok (.aaload, 1)) (hq : q = 13 ∨ q = 14 ∨ q = 15) (k : ∀ v, Sim em Z R own cc nL rt (pc + 1) lv (.ref v :: st) S (K v)) : Sim em Z R own cc nL rt pc lv (.int i :: .ref a :: st) S (aR q a i K) := by
  intro p l e s m args below meth cd hC r S' ho ls H locs hl hP hS
  unfold aR at ho
  split at ho
  · next hk =>
    have hlt : a < 226 := kd_lt (kd_eq hk.1) (by omega)
    cases hr : R0 a i.toNatClampNeg with
    | none => rw [hr] at ho; cases ho
    | some b =>
      rw [hr] at ho
      have key : ∀ ty, (tyz Z)[q - 10]? = some (Z.2.2 (q - 10), ty) → ty.isReference = true → W p l e R s m args below meth cd H locs 0 0 (MQ below (QX Z (em r) S') args s 0 0 (zA Z)) (F0 m pc ls (trs Z (.int i :: .ref a :: st))) := fun ty h1 h2 => by
        refine va_aldg (D := Z.2.1) hC.1 hC.2.1 hC.2.2.2.2.2.1.1 hP a (q - 10) (by rw [wsO_at Z S hlt, ent_Q (kd_eq hk.1) hq]) h1 h2 (inb_in hk.2) hd ?_
        rw [hr]
        exact k b p l e s m args below meth cd hC r S' ho ls H locs hl hP hS
      rcases hq with rfl | rfl | rfl
      · exact key _ rfl rfl
      · exact key _ rfl rfl
      · exact key _ rfl rfl
  · cases ho
theorem sm_aT {pc : Nat} {i : Int32} {K : Int32 → Option (ρ × St)} (hd : decode cc pc = .ok (.iaload, 1)) (k : ∀ v, Sim em Z R own cc nL rt (pc + 1) lv (.int v :: st) S (K v)) : Sim em Z R own cc nL rt pc lv (.int i :: .ref 226 :: st) S (aT i K) := by
  intro p l e s m args below meth cd hC r S' ho ls H locs hl hP hS
  unfold aT at ho
  split at ho
  · next hk => exact va_ti (v := .int (daT i.toNatClampNeg)) hC.1 hC.2.1 hC.2.2.2.2.2.1.2.2.1 hS (inb_in hk) rfl hd (k _ p l e s m args below meth cd hC r S' ho ls H locs hl hP hS)
  · cases ho
theorem sm_gs {idx pc : Nat} (hd : decode cc pc = .ok (.getstatic idx, 3)) (hw : Cond.fieldLink own idx "LoanBook$Dates" "DAYS_AHEAD" "[I" ∈ lw_good) (k : Sim em Z R own cc nL rt (pc + 3) lv (.ref 226 :: st) S o) : Sim em Z R own cc nL rt pc lv st S o := by
  intro p l e s m args below meth cd hC r S' ho ls H locs hl hP hS
  exact va_gets hC.1 hC.2.1 hC.2.2.2.2.2.1.2.1 hS hC.2.2.2.1 (hC.2.2.2.2.1 _ hw) (fun _ h => h) hd (k p l e s m args below meth cd hC r S' ho ls H locs hl hP hS)
theorem sm_sI {a pc : Nat} {i : Int32} {v : Int32} {K : St → Option (ρ × St)} (hd : decode cc pc = .ok (.iastore, 1)) (k : ∀ S1, Sim em Z R own cc nL rt (pc + 1) lv st S1 (K S1)) : Sim em Z R own cc nL rt pc lv (.int v :: .int i :: .ref a :: st) S (sI a i v S K) := by
  intro p l e s m args below meth cd hC r S' ho ls H locs hl hP hS
  unfold sI at ho
  split at ho
  · next hk =>
    have hlt : a < 226 := kd_lt (kd_eq hk.1) (by omega)
    have hD := zD hC.2.2.2.2.2.1 S
    refine va_iast (D := Z.2.1) hC.1 hC.2.1 hC.2.2.2.2.2.1.1 hP hD hS a 0 (by rw [wsO_at Z S hlt, ent_I (kd_eq hk.1)]) rfl (inb_in hk.2) hd (fun H1 locs1 hP1 hD1 hS1 => ?_)
    rw [wsO_set (S' := setI S a i.toNatClampNeg v) (offc_setI S a i.toNatClampNeg v) (by rw [ent_I (kd_eq hk.1)]; congr 3; first | (congr 1; funext j; simp [setI, upd, vp_updL]; done) | (funext j; simp [setI, upd, vp_updL]; done) | (congr 2; funext j; simp [setI, upd, vp_updL]; done))] at hP1
    exact k _ p l e s m args below meth cd hC r S' ho ls H1 locs1 hl hP1 hS1
  · cases ho
theorem sm_sJ {a pc : Nat} {i : Int32} {v : Int64} {K : St → Option (ρ × St)} (hd : decode cc pc = .ok (.lastore, 1)) (k : ∀ S1, Sim em Z R own cc nL rt (pc + 1) lv st S1 (K S1)) : Sim em Z R own cc nL rt pc lv (.long v :: .int i :: .ref a :: st) S (sJ a i v S K) := by
  intro p l e s m args below meth cd hC r S' ho ls H locs hl hP hS
  unfold sJ at ho
  split at ho
  · next hk =>
    have hlt : a < 226 := kd_lt (kd_eq hk.1) (by omega)
    have hD := zD hC.2.2.2.2.2.1 S
    refine va_last (D := Z.2.1) hC.1 hC.2.1 hC.2.2.2.2.2.1.1 hP hD hS a 1 (by rw [wsO_at Z S hlt, ent_J (kd_eq hk.1)]) rfl (inb_in hk.2) hd (fun H1 locs1 hP1 hD1 hS1 => ?_)
    rw [wsO_set (S' := setL S a i.toNatClampNeg v) (offc_setL S a i.toNatClampNeg v) (by rw [ent_J (kd_eq hk.1)]; congr 3; first | (congr 1; funext j; simp [setL, upd, vp_updL]; done) | (funext j; simp [setL, upd, vp_updL]; done) | (congr 2; funext j; simp [setL, upd, vp_updL]; done))] at hP1
    exact k _ p l e s m args below meth cd hC r S' ho ls H1 locs1 hl hP1 hS1
  · cases ho
theorem sm_sZ {a pc : Nat} {i : Int32} {v : Int32} {K : St → Option (ρ × St)} (hd : decode cc pc = .ok (.bastore, 1)) (k : ∀ S1, Sim em Z R own cc nL rt (pc + 1) lv st S1 (K S1)) : Sim em Z R own cc nL rt pc lv (.int v :: .int i :: .ref a :: st) S (sZ a i v S K) := by
  intro p l e s m args below meth cd hC r S' ho ls H locs hl hP hS
  unfold sZ at ho
  split at ho
  · next hk =>
    have hlt : a < 226 := kd_lt (kd_eq hk.1) (by omega)
    have hD := zD hC.2.2.2.2.2.1 S
    refine va_zast (D := Z.2.1) hC.1 hC.2.1 hC.2.2.2.2.2.1.1 hP hD hS a 2 (by rw [wsO_at Z S hlt, ent_Z (kd_eq hk.1)]) rfl (inb_in hk.2) hd (fun H1 locs1 hP1 hD1 hS1 => ?_)
    rw [wsO_set (S' := setI S a i.toNatClampNeg (vp_nar .boolean v)) (offc_setI S a i.toNatClampNeg (vp_nar .boolean v)) (by rw [ent_Z (kd_eq hk.1)]; congr 3; first | (congr 1; funext j; simp [setI, upd, vp_updL]; done) | (funext j; simp [setI, upd, vp_updL]; done) | (congr 2; funext j; simp [setI, upd, vp_updL]; done))] at hP1
    exact k _ p l e s m args below meth cd hC r S' ho ls H1 locs1 hl hP1 hS1
  · cases ho
end SMF
