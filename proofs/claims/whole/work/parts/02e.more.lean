def aL {β : Type} (a : Nat) (K : Int32 → Option β) : Option β := if (kd0 a).1 = 11 then K (Int32.ofNat (kd0 a).2) else none
section SMX
variable {ρ : Type} {em : ρ → Option Value} {Z : ZT} {R : Room} {own : String} {cc : ByteArray} {nL : Nat} {rt : Option FieldType} {lv : List (Nat × Value)} {st : List Value} {S : St} {o : Option (ρ × St)}
theorem sm_alen {a pc : Nat} {K : Int32 → Option (ρ × St)} (hd : decode cc pc = .ok (.arraylength, 1)) (k : ∀ v, Sim em Z R own cc nL rt (pc + 1) lv (.int v :: st) S (K v)) : Sim em Z R own cc nL rt pc lv (.ref a :: st) S (aL a K) := by
  intro p l e s m args below meth cd hC r S' ho ls H locs hl hP hS
  unfold aL at ho
  split at ho
  · next hk =>
    have hlt : a < 226 := kd_lt (kd_eq hk) (by omega)
    exact va_alen (D := Z.2.1) (ty := .long) (x := ((kd0 a).2, .inr (.inl (S.2 a)))) hC.1 hC.2.1 hC.2.2.2.2.2.1.1 hP a 1 (by rw [wsO_at Z S hlt, ent_J (kd_eq hk)]) rfl rfl hd (k _ p l e s m args below meth cd hC r S' ho ls H locs hl hP hS)
  · cases ho
theorem sm_bdI {pc : Nat} {x : Int32} {K : Int32 → Option (ρ × St)} (k : ∀ v, Sim em Z R own cc nL rt pc lv (.int v :: st) S (K v)) : Sim em Z R own cc nL rt pc lv (.int x :: st) S (bd x K) := k x
theorem sm_bdJ {pc : Nat} {x : Int64} {K : Int64 → Option (ρ × St)} (k : ∀ v, Sim em Z R own cc nL rt pc lv (.long v :: st) S (K v)) : Sim em Z R own cc nL rt pc lv (.long x :: st) S (bd x K) := k x
theorem sm_bdD {pc : Nat} {x : UInt64} {K : UInt64 → Option (ρ × St)} (k : ∀ v, Sim em Z R own cc nL rt pc lv (.double v :: st) S (K v)) : Sim em Z R own cc nL rt pc lv (.double x :: st) S (bd x K) := k x
theorem sm_tswk {x : Int32} {dflt lo hi : Int} {offs : Array Int} {len : Nat} {d : Option (ρ × St)} {l : List (Int32 × Option (ρ × St))} {pc : Nat} (dt : Nat) (ts : List Nat) (keys : List Int32) (hd : decode cc pc = .ok (.tableswitch dflt lo hi offs, len)) (hkeys : l.map (·.1) = keys) (hk : swK lo keys = true) (hln : hi = lo + (keys.length : Int) - 1) (hts : offs.toList.map (fun o => (pc : Int) + o) = ts.map (fun (t : Nat) => (t : Int))) (hdt : (pc : Int) + dflt = (dt : Int)) (ka : swA em Z R own cc nL rt lv st S ts l) (kd : Sim em Z R own cc nL rt dt lv st S d) : Sim em Z R own cc nL rt pc lv (.int x :: st) S (sw x d l) := by
  subst hkeys
  exact sm_tsw dt ts hd hk (by rw [List.length_map] at hln; exact hln) hts hdt ka kd
theorem sm_lswk {x : Int32} {dflt : Int} {ps : Array (Int × Int)} {len : Nat} {d : Option (ρ × St)} {l : List (Int32 × Option (ρ × St))} {pc : Nat} (dt : Nat) (ts : List Nat) (keys : List Int32) (hd : decode cc pc = .ok (.lookupswitch dflt ps, len)) (hkeys : l.map (·.1) = keys) (hp : (ps.toList.zip (ps.toList.drop 1)).all (fun (a, next) => a.1 < next.1) = true) (hk : ps.toList.map (·.1) = keys.map (fun q => q.toInt)) (hnd : keys.Nodup) (hts : ps.toList.map (fun o => (pc : Int) + o.2) = ts.map (fun (t : Nat) => (t : Int))) (hdt : (pc : Int) + dflt = (dt : Int)) (ka : swA em Z R own cc nL rt lv st S ts l) (kd : Sim em Z R own cc nL rt dt lv st S d) : Sim em Z R own cc nL rt pc lv (.int x :: st) S (sw x d l) := by
  subst hkeys
  exact sm_lsw dt ts hd hp (by rw [hk, List.map_map]; rfl) hnd hts hdt ka kd
end SMX
