/-! THE CLAIM OUT OF ONE WALK OF THE LAW'S BODY. Your part is whole_start (and what it stands on); all else here is the same for every law, but numbers. -/
def R_law : String := "LoanBookLaw"
def lw_P (b : Addr) (xs : List Int32) (args : Array Value) (s : State) : Prop := args = #[.ref b] ∧ s.IntsAt b xs ∧ xs.length ≤ 3584 ∧ (Jvm.Cond.and given_1 narrow_1).before args s = true
/-- what a walk over the start with the record d0 says of its end, said of the start itself -/
theorem lw_closed {s t : State} {o : Outcome} {d0 : Drawn} {L : List Loc} {k n : Nat} (hd0 : s.drawn.sameBut d0 lw_cs) (hv : ∃ v, o = .returned v) (hW : (s.setDrawn d0).WarmedH t.vm) (hs : (s.setDrawn d0).sameButNew ({ t with vm := s.vm } : State) L k n) : State.butDraws s t lw_cs (fun t1 => Framed s o t1 L k n) := by
  have h2 : t.drawn = d0 := congrArg State.drawn hs.1
  refine ⟨⟨hv, hW, State.sameButNew.setDrawn hs s.drawn⟩, ?_, by decide⟩
  rw [h2]
  exact hd0
def lw_Q (_ : Array Value) (s : State) (o : Outcome) (t : State) : Prop := o = .returned (some (.int 1)) ∧ State.butDraws s t lw_cs (fun t1 => Framed s o t1 [] 600000 7302250)
def lw_Z (below : List Frame) (a : Array Value) (s : State) : State → Prop := fun t => ∃ o, t.status = .running ∧ Ended t below o ∧ lw_Q a s o t
/-- the law's own end, with 1 on the stack, nothing written that was there before, its room as the claim has it; d0: the record of draws at this point (at the entry s.drawn: begin with 'refine W.base ?_' and 'have hd0 := Drawn.sameBut.refl s.drawn lw_cs') -/
theorem lw_ret {p : Program} {l : Launch} {e : Env} {s : State} {m : MethodId} {below : List Frame} {meth : Method} {c : Code} {b : Nat} {d0 : Drawn} (hd0 : s.drawn.sameBut d0 lw_cs) (hx : p.tables.exec = Jvm.exec) (hb : c.code = code) (hr : meth.sig.returnType = ret) (hlocks : meth.locks = false) {pc : Nat} {H : Heap} {ls : Array Slot} (hdg : decode code pc = .ok (.ireturn, 1)) : W p l e room_1 (s.setDrawn d0) m #[Value.ref b] below meth c H [] 600000 7302250 (lw_Z below #[Value.ref b] s) (F0 m pc ls [.int 1]) := by
  intro T hT X
  obtain ⟨fs, hret, hrun, hended, hW, hframe⟩ := X.leave (v := some (.int 1)) (hlocks := hlocks) (fun h => by rw [hr] at h; cases h)
  have hmeth' : T.vm.method? m = some meth := X.method'
  refine ⟨T.setFrames fs, ?_, .returned (some (.int 1)), hrun, hended, rfl, lw_closed hd0 ⟨_, rfl⟩ hW hframe⟩
  jvm_step X.here [X.here.top, hx, hb, hdg, hmeth', hr, ret, narrow_b1]
  (try refine ⟨rfl, ?_⟩); (try refine ⟨rfl, ?_⟩)
  first | (intro acts; rw [hret _ acts rfl rfl rfl]) | rw [hret _ _ rfl rfl rfl]
  exact Steps.refl _
/-- what holds at the law's entry: the machine, the code, the tables' words (any of lw_tbl by 'hts w (by decide +kernel)'), the script of L ints xs at the cell b, what the Statement gives of the start (any of its parts by flat_of_before) -/
def lw_At (p : Program) (s : State) (m : MethodId) (meth : Method) (c : Code) (b L : Nat) (xs : Nat → Int32) : Prop :=
  p.tables.exec = Jvm.exec ∧ c.code = code ∧ meth.sig.returnType = ret ∧ c.maxLocals = 4 ∧ s.vm.findClass R_law = some m.cls ∧ (∀ w ∈ lw_tbl, w.before #[Value.ref b] s = true) ∧ va_X b L xs s s.heap ∧ b < s.heap.size ∧ meth.locks = false ∧ (Jvm.Cond.and given_1 narrow_1).before #[Value.ref b] s = true
theorem gt7 {i L : Nat} (hi : i ≤ L) (hL : L ≤ 3584) : nI i > Int32.ofNat L - 7 ↔ L < i + 7 := by
  show Int32.ofNat L - 7 < nI i ↔ _
  rw [show Int32.ofNat L = nI L from rfl, show (7 : Int32) = nI 7 from rfl]
  by_cases h : 7 ≤ L
  · rw [pk_sub h, nI_ltI (by omega) (by omega)]
    omega
  · have e : nI L - nI 7 = -nI (7 - L) := by rw [← pk_sub (show L ≤ 7 by omega), Int32.neg_sub]
    rw [e]
    exact ⟨fun _ => by omega, fun _ => neg_nle (nI_neg_lt (by omega) (by omega)) (by omega)⟩
section LLP
variable {p : Program} {l : Launch} {e : Env} {s : State} {m : MethodId} {below : List Frame} {meth : Method} {c : Code} {b L : Nat} {xs : Nat → Int32} {Z : ZT} {cells slots : Nat}
set_option maxRecDepth 100000 in
set_option maxHeartbeats 4000000 in
theorem law_loop (hE : LE p s m c b L xs Z) (hL : L ≤ 3584) (hr : meth.sig.returnType = ret) (hlocks : meth.locks = false) (hcs : cells ≤ room_1.cells ∧ slots ≤ room_1.slots) : ∀ (n i : Nat), i ≤ L → L ≤ i + n → ∀ (d0 : Drawn) (S : St) (H : Heap) (locs : List Loc) (ls : Array Slot), s.drawn.sameBut d0 lw_cs → Inv S → Rep Z S H → va_S (AH s) s.heap H locs → lv_has ls 4 (LV Z b i) → W p l e room_1 (s.setDrawn d0) m #[Value.ref b] below meth c H locs cells slots (lw_Z below #[Value.ref b] s) (F0 m 18 ls []) := by
  have hx := hE.1
  have hb := hE.2.1
  have ex : ∀ (d0 : Drawn) (H : Heap) (locs : List Loc) (ls : Array Slot), s.drawn.sameBut d0 lw_cs → va_S (AH s) s.heap H locs → W p l e room_1 (s.setDrawn d0) m #[Value.ref b] below meth c H locs cells slots (lw_Z below #[Value.ref b] s) (F0 m 1543 ls []) := by
    intro d0 H locs ls hd hS
    refine lv_iconst (v := 1) hx hb dL_law_1543 (by decide) ?_
    refine va_forget (s := s.setDrawn d0) (fun q hq => hS.2.2 q hq) ?_
    refine W.widen (k := 600000) (n := 7302250) hcs.1 hcs.2 ?_
    exact lw_ret hd hx hb hr hlocks dL_law_1544
  intro n
  induction n with
  | zero =>
    intro i hi hn d0 S H locs ls hd hI hP hS hl
    have hX : va_X b L xs (s.setDrawn d0) s.heap := hE.2.2.2.2.2.1
    have hbl := hE.2.2.2.2.2.2.1
    refine lv_iload_n hx hb dL_law_18 rfl (lv_at hl 3 rfl) ?_
    refine lv_aload_n hx hb dL_law_19 rfl (lv_at hl 0 rfl) ?_
    refine va_slen (A := AH s) hx hb hX hbl (Nat.not_le.mpr hbl) hS dL_law_20 ?_
    refine lv_bipush (v := 7) hx hb dL_law_21 (by decide) ?_
    refine lv_isub hx hb dL_law_23 ?_
    refine lv_icmp_gt (tgt := 1543) hx hb dL_law_24 (by decide) (fun hc => ?_) (fun hc => ?_)
    · exact ex d0 H locs ls hd hS
    · exact absurd ((gt7 hi hL).mpr (by omega)) hc
  | succ n ih =>
    intro i hi hn d0 S H locs ls hd hI hP hS hl
    have hX : va_X b L xs (s.setDrawn d0) s.heap := hE.2.2.2.2.2.1
    have hbl := hE.2.2.2.2.2.2.1
    refine lv_iload_n hx hb dL_law_18 rfl (lv_at hl 3 rfl) ?_
    refine lv_aload_n hx hb dL_law_19 rfl (lv_at hl 0 rfl) ?_
    refine va_slen (A := AH s) hx hb hX hbl (Nat.not_le.mpr hbl) hS dL_law_20 ?_
    refine lv_bipush (v := 7) hx hb dL_law_21 (by decide) ?_
    refine lv_isub hx hb dL_law_23 ?_
    refine lv_icmp_gt (tgt := 1543) hx hb dL_law_24 (by decide) (fun hc => ?_) (fun hc => ?_)
    · exact ex d0 H locs ls hd hS
    · have hi7 : i + 7 ≤ L := by
        rcases Nat.lt_or_ge L (i + 7) with h | h
        · exact absurd ((gt7 hi hL).mpr h) hc
        · exact h
      have hKK : LK p l e s m below meth c b i Z cells slots (lw_Z below #[Value.ref b] s) := by
        intro d S H locs ls hd hI hP hS hl
        refine lv_iinc (v := nI (i + 7)) (lv' := [(3, .int (nI (i + 7))), (0, .ref b), (1, .ref (Z.1 0)), (2, .ref (Z.1 202))]) hx hb dL_law_1537 hl (k := 3) rfl (nI_add i 7) (by decide) rfl (fun ls hl => ?_)
        refine lv_goto (tgt := 18) hx hb dL_law_1540 (by decide) ?_
        exact ih (i + 7) hi7 (by omega) d S H locs ls hd hI hP hS (lv_sub hl [1, 2, 3, 0] rfl)
      refine lv_aload_n hx hb dL_law_27 rfl (lv_at hl 0 rfl) ?_
      refine lv_iload_n hx hb dL_law_28 rfl (lv_at hl 3 rfl) ?_
      refine va_sld (A := AH s) hx hb hX hbl (Nat.not_le.mpr hbl) hS (vp_in_nI (n := i) (by omega) (by omega)) dL_law_29 ?_
      refine lv_bipush (v := 31) hx hb dL_law_30 (by decide) ?_
      refine lv_iand hx hb dL_law_32 ?_
      obtain ⟨j, hj, ej⟩ := pk_andE (xs ((nI i).toNatClampNeg)) (m := 31) 5 (by decide)
      rw [ej]
      match j, hj with
      | 0, _ =>
        refine lv_tableIn (off := 143) (tgt := 176) hx hb dL_law_33 (by decide) (by decide) (by decide) (by decide) ?_
        exact lc_date hE hL hi7 hcs hKK hd hI hP hS hl
      | 1, _ =>
        refine lv_tableIn (off := 176) (tgt := 209) hx hb dL_law_33 (by decide) (by decide) (by decide) (by decide) ?_
        exact lc_dayOf hE hL hi7 hcs hKK hd hI hP hS hl
      | 2, _ =>
        refine lv_tableIn (off := 219) (tgt := 252) hx hb dL_law_33 (by decide) (by decide) (by decide) (by decide) ?_
        exact lc_interest hE hL hi7 hcs hKK hd hI hP hS hl
      | 3, _ =>
        refine lv_tableIn (off := 315) (tgt := 348) hx hb dL_law_33 (by decide) (by decide) (by decide) (by decide) ?_
        exact lc_loan hE hL hi7 hcs hKK hd hI hP hS hl
      | 4, _ =>
        refine lv_tableIn (off := 398) (tgt := 431) hx hb dL_law_33 (by decide) (by decide) (by decide) (by decide) ?_
        exact lc_days hE hL hi7 hcs hKK hd hI hP hS hl
      | 5, _ =>
        refine lv_tableIn (off := 421) (tgt := 454) hx hb dL_law_33 (by decide) (by decide) (by decide) (by decide) ?_
        exact lc_pay hE hL hi7 hcs hKK hd hI hP hS hl
      | 6, _ =>
        refine lv_tableIn (off := 485) (tgt := 518) hx hb dL_law_33 (by decide) (by decide) (by decide) (by decide) ?_
        exact lc_reset hE hL hi7 hcs hKK hd hI hP hS hl
      | 7, _ =>
        refine lv_tableIn (off := 519) (tgt := 552) hx hb dL_law_33 (by decide) (by decide) (by decide) (by decide) ?_
        exact lc_writeOff hE hL hi7 hcs hKK hd hI hP hS hl
      | 8, _ =>
        refine lv_tableIn (off := 543) (tgt := 576) hx hb dL_law_33 (by decide) (by decide) (by decide) (by decide) ?_
        exact lc_rule hE hL hi7 hcs hKK hd hI hP hS hl
      | 9, _ =>
        refine lv_tableIn (off := 576) (tgt := 609) hx hb dL_law_33 (by decide) (by decide) (by decide) (by decide) ?_
        exact lc_of hE hL hi7 hcs hKK hd hI hP hS hl
      | 10, _ =>
        refine lv_tableIn (off := 609) (tgt := 642) hx hb dL_law_33 (by decide) (by decide) (by decide) (by decide) ?_
        exact lc_sum hE hL hi7 hcs hKK hd hI hP hS hl
      | 11, _ =>
        refine lv_tableIn (off := 643) (tgt := 676) hx hb dL_law_33 (by decide) (by decide) (by decide) (by decide) ?_
        exact lc_bill hE hL hi7 hcs hKK hd hI hP hS hl
      | 12, _ =>
        refine lv_tableIn (off := 687) (tgt := 720) hx hb dL_law_33 (by decide) (by decide) (by decide) (by decide) ?_
        exact lc_toCome hE hL hi7 hcs hKK hd hI hP hS hl
      | 13, _ =>
        refine lv_tableIn (off := 731) (tgt := 764) hx hb dL_law_33 (by decide) (by decide) (by decide) (by decide) ?_
        exact lc_coming hE hL hi7 hcs hKK hd hI hP hS hl
      | 14, _ =>
        refine lv_tableIn (off := 765) (tgt := 798) hx hb dL_law_33 (by decide) (by decide) (by decide) (by decide) ?_
        by_cases hv : vn_snl2d (lj (xs (i + 2)) (xs (i + (2 + 1)))) = false
        · exact lc_value hE hL hi7 hcs hKK hd hI hP hS hl hv
        · exact ln_value hE hL hi7 hcs hKK hd hI hP hS hl (by cases h : vn_snl2d (lj (xs (i + 2)) (xs (i + (2 + 1)))) with | true => rfl | false => exact absurd h hv)
      | 15, _ =>
        refine lv_tableIn (off := 829) (tgt := 862) hx hb dL_law_33 (by decide) (by decide) (by decide) (by decide) ?_
        exact lc_yieldOf hE hL hi7 hcs hKK hd hI hP hS hl
      | 16, _ =>
        refine lv_tableIn (off := 893) (tgt := 926) hx hb dL_law_33 (by decide) (by decide) (by decide) (by decide) ?_
        exact lc_near hE hL hi7 hcs hKK hd hI hP hS hl
      | 17, _ =>
        refine lv_tableIn (off := 956) (tgt := 989) hx hb dL_law_33 (by decide) (by decide) (by decide) (by decide) ?_
        by_cases hv : vn_snl2d (lj (xs (i + 2)) (xs (i + (2 + 1)))) = false
        · exact lc_duration hE hL hi7 hcs hKK hd hI hP hS hl hv
        · exact ln_duration hE hL hi7 hcs hKK hd hI hP hS hl (by cases h : vn_snl2d (lj (xs (i + 2)) (xs (i + (2 + 1)))) with | true => rfl | false => exact absurd h hv)
      | 18, _ =>
        refine lv_tableIn (off := 1020) (tgt := 1053) hx hb dL_law_33 (by decide) (by decide) (by decide) (by decide) ?_
        exact lc_behind hE hL hi7 hcs hKK hd hI hP hS hl
      | 19, _ =>
        refine lv_tableIn (off := 1043) (tgt := 1076) hx hb dL_law_33 (by decide) (by decide) (by decide) (by decide) ?_
        exact lc_settles hE hL hi7 hcs hKK hd hI hP hS hl
      | 20, _ =>
        refine lv_tableIn (off := 1066) (tgt := 1099) hx hb dL_law_33 (by decide) (by decide) (by decide) (by decide) ?_
        exact lc_would hE hL hi7 hcs hKK hd hI hP hS hl
      | 21, _ =>
        refine lv_tableIn (off := 1140) (tgt := 1173) hx hb dL_law_33 (by decide) (by decide) (by decide) (by decide) ?_
        exact lc_sooner hE hL hi7 hcs hKK hd hI hP hS hl
      | 22, _ =>
        refine lv_tableIn (off := 1203) (tgt := 1236) hx hb dL_law_33 (by decide) (by decide) (by decide) (by decide) ?_
        exact lc_judge hE hL hi7 hcs hKK hd hI hP hS hl
      | 23, _ =>
        refine lv_tableIn (off := 1236) (tgt := 1269) hx hb dL_law_33 (by decide) (by decide) (by decide) (by decide) ?_
        exact lc_feed hE hL hi7 hcs hKK hd hI hP hS hl
      | 24, _ =>
        refine lv_tableIn (off := 1259) (tgt := 1292) hx hb dL_law_33 (by decide) (by decide) (by decide) (by decide) ?_
        exact lc_script hE hL hi7 hcs hKK hd hI hP hS hl
      | 25, _ =>
        refine lv_tableIn (off := 1272) (tgt := 1305) hx hb dL_law_33 (by decide) (by decide) (by decide) (by decide) ?_
        exact lc_image hE hL hi7 hcs hKK hd hI hP hS hl
      | 26, _ =>
        refine lv_tableIn (off := 1285) (tgt := 1318) hx hb dL_law_33 (by decide) (by decide) (by decide) (by decide) ?_
        exact lc_back hE hL hi7 hcs hKK hd hI hP hS hl
      | 27, _ =>
        refine lv_tableIn (off := 1298) (tgt := 1331) hx hb dL_law_33 (by decide) (by decide) (by decide) (by decide) ?_
        exact lc_hold hE hL hi7 hcs hKK hd hI hP hS hl
      | 28, _ =>
        refine lv_tableIn (off := 1341) (tgt := 1374) hx hb dL_law_33 (by decide) (by decide) (by decide) (by decide) ?_
        exact lc_row hE hL hi7 hcs hKK hd hI hP hS hl
      | 29, _ =>
        refine lv_tableIn (off := 1374) (tgt := 1407) hx hb dL_law_33 (by decide) (by decide) (by decide) (by decide) ?_
        exact lc_put hE hL hi7 hcs hKK hd hI hP hS hl
      | 30, _ =>
        refine lv_tableIn (off := 1447) (tgt := 1480) hx hb dL_law_33 (by decide) (by decide) (by decide) (by decide) ?_
        exact lc_tells hE hL hi7 hcs hKK hd hI hP hS hl
      | 31, _ =>
        refine lv_tableIn (off := 1481) (tgt := 1514) hx hb dL_law_33 (by decide) (by decide) (by decide) (by decide) ?_
        exact lc_count hE hL hi7 hcs hKK hd hI hP hS hl
      | k + 32, h => exact absurd h (by omega)
end LLP
set_option maxRecDepth 100000 in
set_option maxHeartbeats 4000000 in
/-- THE LAW, from its entry -/
theorem whole_start {p : Program} {e : Env} {s : State} {m : MethodId} {below : List Frame} {meth : Method} {c : Code} (l : Launch) (hflags : l.flags = flags0) {b L : Nat} {xs : Nat → Int32} (hL : L ≤ 3584) (C0 : lw_At p s m meth c b L xs) : W p l e room_1 s m #[Value.ref b] below meth c s.heap [] 0 0 (lw_Z below #[Value.ref b] s) (entryFrame m ([Value.ref b] : List Value).toArray 4) := by
  obtain ⟨hx, hb, hr, hml, hown, hts0, hX, hbl, hlocks, hgv⟩ := id C0
  have hg0 : ∀ w ∈ lw_good, w.before #[Value.ref b] s = true := fun w hw => hts0 w (List.mem_filter.mp hw).1
  obtain ⟨D, T, st, hCK, hZ, hT, n5, n6⟩ := start_facts hts0 hgv
  have hK := hCK.1
  have hA : ∀ q : Nat, s.heap.size ≤ q → AH s q := fun _ h => h
  have hown : s.vm.findClass RL = some m.cls := hown
  have hb : c.code = cL_law := hb
  have hS : va_S (AH s) s.heap s.heap [] := va_S.rf
  have hP : va_P D cls7 [] s.heap := fun k q h => by simp at h
  have hD : va_D (AH s) [] := ⟨fun i j p q h => by simp at h, fun k q h => by simp at h⟩
  have hd0 := Drawn.sameBut.refl s.drawn lw_cs
  refine W.base ?_
  have hts := dr_words hg0 s.drawn
  have hl := lv_entry ([.ref b]) (n := 4) (Nat.le_of_ble_eq_true rfl)
  rw [lg_entry_eq]
  generalize (lg_sl ([.ref b]) ++ List.replicate (4 - (lg_sl ([.ref b])).length) Slot.unset).toArray = ls at hl ⊢
  have hl : lv_has ls 4 [(0, .ref b)] := hl
  refine va_new (s := s.setDrawn s.drawn) (ci := 5) (fs := [.null, .null, .null, .int 0, .null, .null, .null, .null]) (C := RX7) (T := TX7) (N := 8) hx hb hts c7_5.2.1 tyX7 tyX7_ok hown (hts _ wk_cl_RL_7) (hts _ wk_in_X7) (hts _ wk_it_X7) hK hP hD hS hA rfl zf_X7 (Nat.le_of_ble_eq_true rfl) (Nat.le_of_ble_eq_true rfl) dL_law_0 (fun q H hP hD hS => ?_)
  have hP : va_P D cls7 ([(q, .inr (5, [.null, .null, .null, .int 0, .null, .null, .null, .null]))] ++ []) H := hP
  have hD : va_D (AH s) ([(q, .inr (5, [.null, .null, .null, .int 0, .null, .null, .null, .null]))] ++ []) := hD
  refine lv_dup hx hb dL_law_3 rfl ?_
  have hPc := hP.sub (ws' := [(q, .inr (5, [.null, .null, .null, .int 0, .null, .null, .null, .null]))]) [0] rfl
  have hFc := va_free (wc := [(q, .inr (5, [.null, .null, .null, .int 0, .null, .null, .null, .null]))]) hD hS hA [0] rfl
  refine va_callv (va_runI (As := []) (rest := [.ref q]) ⟨hx, hb, hml, hown, hts⟩ (k_X7 l D T q H.size) (cwP hts wk_co_X7 rfl rfl wk_ml_RL_9 wk_it_X7 wk_im_X7 rfl ⟨by decide +kernel, by decide +kernel, by decide +kernel⟩ ⟨Nat.le_of_ble_eq_true rfl, Nat.le_of_ble_eq_true rfl⟩) ⟨FBc, fun U hU hW => ⟨rfl, by rw [hU], by rw [hU]; exact hPc, hCK.alike hW⟩⟩ rfl rfl hl.1 rfl (lv_room (Nat.le_of_ble_eq_true rfl)) dL_law_4 ⟨Nat.le_of_ble_eq_true rfl, Nat.le_of_ble_eq_true rfl⟩) hS (fun q _ h => hFc q h) hFc (fun u t H1 locs ht hvm hw hB hz1 hk1 hS => ?_)
  obtain ⟨hP1, hD1⟩ := hB
  rw [ht] at hP1
  obtain ⟨hP, hD⟩ := va_joinQ (wr := []) (w1 := w_X7 T q u) hP hD [0] [] rfl rfl (by decide) (by decide) hk1 hFc hP1 hD1
  rw [List.append_nil] at hP hD
  generalize H1 = H at hP hS ⊢
  refine lv_astore_n (lv' := [(1, .ref q), (0, .ref b)]) hx hb dL_law_7 rfl hl (by decide) rfl (fun ls hl => ?_)
  refine va_new (s := s.setDrawn s.drawn) (ci := 6) (fs := [.null, .null, .null, .null, .int 0, .null, .null, .null, .null, .int 0, .null, .null, .int 0, .null, .null, .null, .null, .null, .null, .int 0, .int 0, .null]) (C := RX8) (T := TX8) (N := 22) hx hb hts c7_6.2.1 tyX8 tyX8_ok hown (hts _ wk_cl_RL_10) (hts _ wk_in_X8) (hts _ wk_it_X8) hK hP hD hS hA rfl zf_X8 (Nat.le_of_ble_eq_true rfl) (Nat.le_of_ble_eq_true rfl) dL_law_8 (fun q2 H hP hD hS => ?_)
  have hP := va_P.swap hP
  have hD := va_D.swap hD
  have hP : va_P D cls7 ([(q2, .inr (6, [.null, .null, .null, .null, .int 0, .null, .null, .null, .null, .int 0, .null, .null, .int 0, .null, .null, .null, .null, .null, .null, .int 0, .int 0, .null]))] ++ w_X7 T q u) H := hP
  have hD : va_D (AH s) ([(q2, .inr (6, [.null, .null, .null, .null, .int 0, .null, .null, .null, .null, .int 0, .null, .null, .int 0, .null, .null, .null, .null, .null, .null, .int 0, .int 0, .null]))] ++ w_X7 T q u) := hD
  refine lv_dup hx hb dL_law_11 rfl ?_
  have hPc := hP.sub (ws' := [(q2, .inr (6, [.null, .null, .null, .null, .int 0, .null, .null, .null, .null, .int 0, .null, .null, .int 0, .null, .null, .null, .null, .null, .null, .int 0, .int 0, .null]))]) [0] rfl
  have hFc := va_free (wc := [(q2, .inr (6, [.null, .null, .null, .null, .int 0, .null, .null, .null, .null, .int 0, .null, .null, .int 0, .null, .null, .null, .null, .null, .null, .int 0, .int 0, .null]))]) hD hS hA [0] rfl
  refine va_callv (va_runI (As := []) (rest := [.ref q2]) ⟨hx, hb, hml, hown, hts⟩ (k_X8 l D T q2 H.size) (cwP hts wk_co_X8 rfl rfl wk_ml_RL_12 wk_it_X8 wk_im_X8 rfl ⟨by decide +kernel, by decide +kernel, by decide +kernel⟩ ⟨Nat.le_of_ble_eq_true rfl, Nat.le_of_ble_eq_true rfl⟩) ⟨FBc, fun U hU hW => ⟨rfl, by rw [hU], by rw [hU]; exact hPc, hCK.alike hW⟩⟩ rfl rfl hl.1 rfl (lv_room (Nat.le_of_ble_eq_true rfl)) dL_law_12 ⟨Nat.le_of_ble_eq_true rfl, Nat.le_of_ble_eq_true rfl⟩) hS (fun q _ h => hFc q h) hFc (fun v t H1 locs ht hvm hw hB hz1 hk1 hS => ?_)
  obtain ⟨hP1, hD1⟩ := hB
  rw [ht] at hP1
  obtain ⟨hP, hD⟩ := va_joinQ (wr := []) (w1 := w_X8 T q2 v) hP hD [0] [] rfl rfl (by decide) (by decide) hk1 hFc hP1 hD1
  generalize H1 = H at hP hS ⊢
  have pm : List.Perm (([] ++ w_X8 T q2 v) ++ w_X7 T q u) (wsO (adG q q2 st u v, D, T) S0) := by
    rw [List.nil_append]
    exact List.perm_append_comm.trans glue
  have hP : Rep (adG q q2 st u v, D, T) S0 H := hP.perm pm
  have hD : va_D (AH s) (wsO (adG q q2 st u v, D, T) S0) := hD.perm pm
  refine lv_astore_n (lv' := [(2, .ref q2), (1, .ref q), (0, .ref b)]) hx hb dL_law_15 rfl hl (by decide) rfl (fun ls hl => ?_)
  refine lv_iconst (v := 0) hx hb dL_law_16 (by decide) ?_
  refine lv_istore_n (lv' := [(3, .int (nI 0)), (2, .ref q2), (1, .ref q), (0, .ref b)]) hx hb dL_law_17 rfl hl (by decide) rfl (fun ls hl => ?_)
  have hE : LE p s m c b L xs (adG q q2 st u v, D, T) := ⟨hx, hb, hml, hown, hg0, hX, hbl, hK, hZ, hT, fun i j hi hj e => hD.1 i j _ _ (wsO_at _ _ hi) (wsO_at _ _ hj) e, n5, n6, fun z hz => by
    obtain ⟨k, hk, rfl⟩ := hz
    exact hD.2 k _ (wsO_at _ _ hk)⟩
  refine law_loop hE hL hr hlocks ⟨Nat.le_of_ble_eq_true rfl, Nat.le_of_ble_eq_true rfl⟩ L 0 (Nat.zero_le _) (by omega) s.drawn S0 H locs ls hd0 S0_inv hP hS (lv_sub hl [3, 2, 1, 0] rfl)
set_option maxHeartbeats 4000000 in
theorem lw_walk (l : Launch) (hflags : l.flags = flags0) (b : Addr) (xs : List Int32) : MetFree l x (headSpec (Jvm.Cond.code x code maxLocals ret :: tables_1) room_1) (lw_P b xs) (fun _ _ _ _ _ => True) lw_Q := by
  refine MetFree.of_bodyS (code := code) (maxLocals := maxLocals) (ret := ret) (by decide) ?_ ?_
  · intro args s m h hn
    obtain ⟨meth, c, h1, h2, h3, h4, h5, h6, -, -⟩ := Cond.code_spec hn (atoms_spec (ws := Jvm.Cond.code x code maxLocals ret :: tables_1) h _ List.mem_cons_self)
    exact ⟨meth, c, h1, h2, h3, h4, h5, h6⟩
  · intro p e s m args below meth c s₁ B hml0 hP _
    obtain ⟨rfl, hx, hbd, hgv⟩ := hP
    obtain ⟨scr, harrAt, hlist, hof, hsmall⟩ := hx
    obtain ⟨hcb, hkn, -, -⟩ := State.arrayAt?_spec harrAt
    have hown : s.vm.findClass R_law = some m.cls := findClass_of_methodNamed B.named
    have hts0 : ∀ c ∈ (Jvm.Cond.code x code maxLocals ret :: tables_1), c.before #[Value.ref b] s = true := atoms_spec (ws := Jvm.Cond.code x code maxLocals ret :: tables_1) B.pre
    have hts : ∀ w ∈ lw_tbl, w.before #[Value.ref b] s = true := k2_hts_sels lw_privs (fun w hw => hts0 w (List.mem_cons_of_mem _ hw)) lw_privs_ok
    have hml : c.maxLocals = 4 := B.maxLocals_eq (hts0 _ List.mem_cons_self)
    have X₀ : Stand p l e room_1 s m #[Value.ref b] below meth c s₁ [] 0 0 := Stand.of_body B
    have hh0 : s₁.heap = s.heap := by rw [B.state]; rfl
    have hsz : scr.slots.size = xs.length := by rw [← Array.length_toList, hlist, List.length_map]
    have hval : ∀ j : Nat, j < xs.length → scr.slots[j]? = some (.int (xs.getD j 0)) := fun j hj => by
      rw [← Array.getElem?_toList, hlist]
      simp [hj]
    have hbl : b < s.heap.size := (Array.getElem?_eq_some_iff.mp hcb).1
    have hX : va_X b xs.length (fun j => xs.getD j 0) s s.heap := ⟨scr, hcb, hof, hkn, hsz, hval⟩
    have K : W p l e room_1 s m #[Value.ref b] below meth c s₁.heap [] 0 0 (lw_Z below #[Value.ref b] s) (entryFrame m ([Value.ref b] : List Value).toArray 4) := by
      rw [hh0]
      exact whole_start l hflags hbd ⟨B.exec, B.bytes, B.returns, hml, hown, hts, hX, hbl, B.notSynchronized, hgv⟩
    obtain ⟨t, a1, o, b1, b2, b3⟩ := K s₁ rfl X₀
    exact ⟨t, o, a1, b1, b2, b3⟩
theorem lw_pre_spec {args : Array Value} {s : State} (h : (Jvm.Cond.and given_1 narrow_1).before args s = true) (hr : rest_1_c.before args s = true) : ∃ (b : Addr) (xs : List Int32), lw_P b xs args s := by
  have hs := flat_of_before _ h
  have hq := flat_of_before _ hr
  have hc : (Cond.count 1).before args s = true := hs _ (by decide +kernel)
  have harr : (Cond.arrayOf (.arg 0) .int).before args s = true := hs _ (by decide +kernel)
  have hle : (Cond.le (.length (.arg 0)) (.int 3584)).before args s = true := hs _ (by decide +kernel)
  have hlen : (Cond.isInt (.length (.arg 0))).before args s = true := hq _ (by decide +kernel)
  have hall : (Cond.all (.arg 0) (.isInt (.elem (.arg 0) (.index 0)))).before args s = true := hq _ (by decide +kernel)
  obtain ⟨b, xs, hb, hx⟩ := State.ints_of_pre rfl harr hlen hall
  have hsm : xs.length < 2 ^ 31 := hx.choose_spec.2.2.2
  have hev : (Term.length (.arg 0)).eval args s none [] s = some (.int xs.length.toInt32) := hx.length_eval hb
  have hv := Cond.le_ints hev (show (Term.int 3584).eval args s none [] s = some (.int 3584) from rfl)
  have hd : xs.length.toInt32 ≤ 3584 := by
    simpa [Cond.before, Cond.holds, hv] using hle
  have hN : xs.length ≤ 3584 := (Int32.ofNat_le_ofNat hsm (by decide)).mp (show Int32.ofNat xs.length ≤ Int32.ofNat 3584 from hd)
  exact ⟨b, xs, Cond.one_arg hc (show args[0]? = some (.ref b) from hb), hx, hN, h⟩
theorem lw_comes (l : Launch) (hflags : l.flags = flags0) : Comes l x (Jvm.Cond.code x code maxLocals ret :: tables_1) room_1 (fun tb e args s => Calls_1 tb e args s ∧ rest_1 tb e args s ∧ Pre_1 tb e args s)
    (fun _ _ args s o t => lw_Q args s o t) := by
  intro p e ha hc hk s m args below hf hfit hheap happ hpre
  obtain ⟨b, xs, hP⟩ := lw_pre_spec hpre.2.2 hpre.2.1
  obtain ⟨k, o, h1, h2, h3, hQ⟩ := lw_walk l hflags b xs p e ha hc hk s m args below hf ((Spec.applies_iff_loose hf).mp happ).1 hP trivial
  exact ⟨k, o, h1, h2, h3, hQ⟩
theorem lw_frame {s t : State} {o : Outcome} {args : Array Value} (h : State.butDraws s t lw_cs (fun t1 => Framed s o t1 [] 600000 7302250)) :
    State.butDraws s t [Jvm.Choice.named "NaN.bits", Jvm.Choice.named "NaN.copy"] (fun t1 => Framed s o t1 (fieldLocs frame_1_writes args s ++ arrayLocs frame_1_arrays args s ++ staticLocs frame_1_statics s) 600000 7302250) := h
theorem lw_limb (L : Cond) (hL : ∀ (args : Array Value) (s t : State), L.after args s (.returned (some (.int 1))) t = true) :
    ArmFor flags0 classFile x code maxLocals ret World_1 tables_1 room_1 Calls_1 rest_1 Pre_1
      (fun tb e a s o t => postC L tb e a s o t ∧ State.butDraws s t [Jvm.Choice.named "NaN.bits", Jvm.Choice.named "NaN.copy"] (fun t1 => Framed s o t1 (fieldLocs frame_1_writes a s ++ arrayLocs frame_1_arrays a s ++ staticLocs frame_1_statics s) 600000 7302250)) := by
  intro l hflags _ _ p e ha hc hk s m args below hf hfit hheap happ hpre
  obtain ⟨k, o, h1, h2, h3, rfl, hF⟩ := lw_comes l hflags p e ha hc hk s m args below hf hfit hheap happ hpre
  exact ⟨k, _, h1, h2, h3, hL args s _, lw_frame hF⟩
theorem i_vc : Claimed_1_1 ∧ Claimed_1_2 := ⟨lw_limb limb_1_1 (fun args s t => by simp [limb_1_1, Cond.after, Cond.holds, Cond.value]), lw_limb limb_1_2 (fun args s t => Cond.after_iff.mpr (by
  first | (rw [show limb_1_2 = Cond.eq .result (.int 1) from rfl, Cond.eq_ints (x := 1) (y := 1) rfl rfl]; simp; done) | (simp [limb_1_2, Cond.value, Term.eval]; done)))⟩
