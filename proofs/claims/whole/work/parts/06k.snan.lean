/-! value, duration at a signalling NaN -/
def snO (J22 : St → Option (Int64 × St)) (c : Nat) (a1 : Int32) (v4 : UInt64) (S : St) : Option (Int64 × St) := gk c 6 <| cl (F_X8_isLoan c a1 S) fun r8 S8 => if r8 = 0 then (J22 S8) else (cl (F_X8_isRate v4 S8) fun r16 S16 => if ¬ r16 = 0 then none else (J22 S16))
set_option maxRecDepth 20000 in
set_option maxHeartbeats 4000000 in
theorem sn_value (Z : ZT) (c : Nat) (a1 : Int32) (a2 : Int64) (v4 : UInt64) (S : St) : Sim eL Z rm_X8_value RX8 cX8_value 6 (some .long) 4 [(0, .ref c), (1, .int a1), (2, .long a2)] [.double v4] S (snO J_X8_value_22 c a1 v4 S) := by
  unfold snO
  refine sm_dstore (pc := 4) (lv' := [(4, .double v4), (0, .ref c), (1, .int a1), (2, .long a2)]) dX8_value_4 (by decide) rfl ?_
  refine sm_aload_n (pc := 6) dX8_value_6 rfl 1 rfl ?_
  refine sm_iload_n (pc := 7) dX8_value_7 rfl 2 rfl ?_
  refine sm_callVI (pc := 8) [.int a1] (fun lq rq Sq hq => m_X8_isLoan Z lq c a1 S hq) dX8_value_8 mi_X8_isLoan ml_RX8_197 ⟨Nat.le_of_ble_eq_true rfl, Nat.le_of_ble_eq_true rfl, rfl, rfl⟩ rfl (by decide) rfl (Nat.le_of_ble_eq_true rfl) rfl (fun r8 S8 => ?_)
  refine sm_if_eq 22 (pc := 11) dX8_value_11 rfl ?_ ?_
  · refine sm_sub [] rfl ?_
    exact sJ_X8_value_22 Z S8
  refine sm_dload (pc := 14) dX8_value_14 0 rfl ?_
  refine sm_callSI (pc := 16) [.double v4] (fun lq rq Sq hq => m_X8_isRate Z lq v4 S8 hq) dX8_value_16 mi_X8_isRate ml_RX8_242 ⟨Nat.le_of_ble_eq_true rfl, Nat.le_of_ble_eq_true rfl, rfl, rfl⟩ rfl (Nat.le_of_ble_eq_true rfl) rfl (fun r16 S16 => ?_)
  refine sm_if_ne 24 (pc := 19) dX8_value_19 rfl ?_ ?_
  · exact sm_none
  refine sm_sub [] rfl ?_
  exact sJ_X8_value_22 Z S16
set_option maxRecDepth 20000 in
set_option maxHeartbeats 4000000 in
/-- value where its argument is a signalling NaN: 0 -/
theorem mn_value (Z : ZT) (l : Launch) (a1 : Int32) (a2 : Int64) (hv : vn_snl2d a2 = true) {S : St} (hI : Inv S) : MetD lw_cs l yX8_value (wsM yX8_value cX8_value 6 (some .long)) rm_X8_value (va_Pc (trs Z [.ref 202, .int a1, .long a2]) (fun U => Rep Z S U.heap ∧ KS Z U)) (QX Z (eL 0) S) 0 0 (zA Z) := by
  have hr : ∀ n, snO J_X8_value_22 202 a1 (snR a2 n) S = some (0, S) := by
    intro n
    obtain ⟨B, hG, hC, hRb, hRS⟩ := hI
    have g8 := hG.1.2.2.2.1
    unfold snO J_X8_value_22
    rw [mgk]
    rcases loan_or a1 B.2.2.2.1 with h | ⟨i, hi, rfl⟩
    · rw [isLoan_no hRb g8 h, cl_some, if_pos rfl]
    · rw [isLoan_yes hRb g8 hi, cl_some, if_neg (by decide), nan_rate (snR_nan hv n), cl_some, if_neg (fun z => z rfl)]
  refine MetD.ofW (cc := cX8_value) (maxL := 6) (ret := some .long) (by decide) rfl ?_
  intro p e s m args below meth c s₁ B hml hp hd0
  obtain ⟨rfl, hP, hK⟩ := hp
  have hts := fun w (hw : w ∈ lw_good) => atoms_spec (ws := wsM yX8_value cX8_value 6 (some .long)) B.pre w (List.mem_cons_of_mem _ hw)
  have hown : s.vm.findClass RX8 = some m.cls := findClass_of_methodNamed B.named
  have hL := lv_entry (trs Z [.ref 202, .int a1, .long a2]) (n := 6) (Nat.le_of_ble_eq_true rfl)
  rw [lg_entry_eq]
  generalize (lg_sl (trs Z [.ref 202, .int a1, .long a2]) ++ List.replicate (6 - (lg_sl (trs Z [.ref 202, .int a1, .long a2])).length) Slot.unset).toArray = ls at hL ⊢
  have hl : lv_has ls 6 (trl Z [(0, .ref 202), (1, .int a1), (2, .long a2)]) := hL
  refine lv_lload_n B.exec B.bytes dX8_value_0 rfl (lv_at hl 2 rfl) ?_
  refine sn_l2d hd0 B.exec B.bytes (hml.trans hl.1.symm) hown (dr_words hts _ _ ml_RX8_236) (dr_words hts _ _ nt_longBitsToDouble) (dr_words hts _ _ ns_longBitsToDouble) (dr_words hts _ _ ni_longBitsToDouble) hv (Nat.le_of_ble_eq_true rfl) (Nat.le_of_ble_eq_true rfl) dX8_value_1 (fun n d1 hd1 => ?_)
  refine W.endD hd1 ?_
  exact sn_value Z 202 a1 a2 (snR a2 n) S p l e (s.setDrawn d1) m _ below meth c ⟨B.exec, B.bytes, hml, hown, dr_words hts d1, hK, B.returns, B.notSynchronized⟩ 0 S (hr n) ls s.heap [] hl hP va_S.rf
set_option maxRecDepth 20000 in
set_option maxHeartbeats 4000000 in
theorem sn_duration (Z : ZT) (c : Nat) (a1 : Int32) (a2 : Int64) (v4 : UInt64) (S : St) : Sim eL Z rm_X8_duration RX8 cX8_duration 8 (some .long) 4 [(0, .ref c), (1, .int a1), (2, .long a2)] [.double v4] S (snO J_X8_duration_22 c a1 v4 S) := by
  unfold snO
  refine sm_dstore (pc := 4) (lv' := [(4, .double v4), (0, .ref c), (1, .int a1), (2, .long a2)]) dX8_duration_4 (by decide) rfl ?_
  refine sm_aload_n (pc := 6) dX8_duration_6 rfl 1 rfl ?_
  refine sm_iload_n (pc := 7) dX8_duration_7 rfl 2 rfl ?_
  refine sm_callVI (pc := 8) [.int a1] (fun lq rq Sq hq => m_X8_isLoan Z lq c a1 S hq) dX8_duration_8 mi_X8_isLoan ml_RX8_197 ⟨Nat.le_of_ble_eq_true rfl, Nat.le_of_ble_eq_true rfl, rfl, rfl⟩ rfl (by decide) rfl (Nat.le_of_ble_eq_true rfl) rfl (fun r8 S8 => ?_)
  refine sm_if_eq 22 (pc := 11) dX8_duration_11 rfl ?_ ?_
  · refine sm_sub [] rfl ?_
    exact sJ_X8_duration_22 Z S8
  refine sm_dload (pc := 14) dX8_duration_14 0 rfl ?_
  refine sm_callSI (pc := 16) [.double v4] (fun lq rq Sq hq => m_X8_isRate Z lq v4 S8 hq) dX8_duration_16 mi_X8_isRate ml_RX8_242 ⟨Nat.le_of_ble_eq_true rfl, Nat.le_of_ble_eq_true rfl, rfl, rfl⟩ rfl (Nat.le_of_ble_eq_true rfl) rfl (fun r16 S16 => ?_)
  refine sm_if_ne 24 (pc := 19) dX8_duration_19 rfl ?_ ?_
  · exact sm_none
  refine sm_sub [] rfl ?_
  exact sJ_X8_duration_22 Z S16
set_option maxRecDepth 20000 in
set_option maxHeartbeats 4000000 in
/-- duration where its argument is a signalling NaN: 0 -/
theorem mn_duration (Z : ZT) (l : Launch) (a1 : Int32) (a2 : Int64) (hv : vn_snl2d a2 = true) {S : St} (hI : Inv S) : MetD lw_cs l yX8_duration (wsM yX8_duration cX8_duration 8 (some .long)) rm_X8_duration (va_Pc (trs Z [.ref 202, .int a1, .long a2]) (fun U => Rep Z S U.heap ∧ KS Z U)) (QX Z (eL 0) S) 0 0 (zA Z) := by
  have hr : ∀ n, snO J_X8_duration_22 202 a1 (snR a2 n) S = some (0, S) := by
    intro n
    obtain ⟨B, hG, hC, hRb, hRS⟩ := hI
    have g8 := hG.1.2.2.2.1
    unfold snO J_X8_duration_22
    rw [mgk]
    rcases loan_or a1 B.2.2.2.1 with h | ⟨i, hi, rfl⟩
    · rw [isLoan_no hRb g8 h, cl_some, if_pos rfl]
    · rw [isLoan_yes hRb g8 hi, cl_some, if_neg (by decide), nan_rate (snR_nan hv n), cl_some, if_neg (fun z => z rfl)]
  refine MetD.ofW (cc := cX8_duration) (maxL := 8) (ret := some .long) (by decide) rfl ?_
  intro p e s m args below meth c s₁ B hml hp hd0
  obtain ⟨rfl, hP, hK⟩ := hp
  have hts := fun w (hw : w ∈ lw_good) => atoms_spec (ws := wsM yX8_duration cX8_duration 8 (some .long)) B.pre w (List.mem_cons_of_mem _ hw)
  have hown : s.vm.findClass RX8 = some m.cls := findClass_of_methodNamed B.named
  have hL := lv_entry (trs Z [.ref 202, .int a1, .long a2]) (n := 8) (Nat.le_of_ble_eq_true rfl)
  rw [lg_entry_eq]
  generalize (lg_sl (trs Z [.ref 202, .int a1, .long a2]) ++ List.replicate (8 - (lg_sl (trs Z [.ref 202, .int a1, .long a2])).length) Slot.unset).toArray = ls at hL ⊢
  have hl : lv_has ls 8 (trl Z [(0, .ref 202), (1, .int a1), (2, .long a2)]) := hL
  refine lv_lload_n B.exec B.bytes dX8_duration_0 rfl (lv_at hl 2 rfl) ?_
  refine sn_l2d hd0 B.exec B.bytes (hml.trans hl.1.symm) hown (dr_words hts _ _ ml_RX8_236) (dr_words hts _ _ nt_longBitsToDouble) (dr_words hts _ _ ns_longBitsToDouble) (dr_words hts _ _ ni_longBitsToDouble) hv (Nat.le_of_ble_eq_true rfl) (Nat.le_of_ble_eq_true rfl) dX8_duration_1 (fun n d1 hd1 => ?_)
  refine W.endD hd1 ?_
  exact sn_duration Z 202 a1 a2 (snR a2 n) S p l e (s.setDrawn d1) m _ below meth c ⟨B.exec, B.bytes, hml, hown, dr_words hts d1, hK, B.returns, B.notSynchronized⟩ 0 S (hr n) ls s.heap [] hl hP va_S.rf
section LAD
variable {p : Program} {l : Launch} {e : Env} {s : State} {m : MethodId} {below : List Frame} {meth : Method} {c : Code} {b L i : Nat} {xs : Nat → Int32} {Z : ZT} {cells slots : Nat} {Q : State → Prop} {d0 : Drawn} {H : Heap} {locs : List Loc} {ls : Array Slot} {S : St}
theorem lw_callD (hd0 : s.drawn.sameBut d0 lw_cs) (hE : LE p s m c b L xs Z) {idx n ci nL' : Nat} {y : MethodName} {cc' : ByteArray} {rt' : Option FieldType} {rm : Room} {c0 : Nat} (As rest : List Value) {S1 : St} {v : Option Value} {pc : Nat} {T : u_T} {N : Nat} (hM : MetD lw_cs l y (wsM y cc' nL' rt') rm (va_Pc (trs Z (.ref c0 :: As)) (fun U => Rep Z S U.heap ∧ KS Z U)) (QX Z v S1) 0 0 (zA Z)) (hd : decode cL_law pc = .ok (.invokevirtual idx, 3)) (hi : MIv y cc' nL' rt' n) (hlk : Cond.methodLink RL idx y ∈ lw_good) (hR : RmOK room_1 rm nL') (hc : cls7[ci]? = some (y.cls, T, N)) (hk : (kd0 c0).1 = ci) (hci : ci < 7) (hn : As.length = n) (hl : lv_has ls 4 (LV Z b i)) (hW : (rest.map fun v => v.category).sum ≤ 8) (hP : Rep Z S H) (hS : va_S (AH s) s.heap H locs) (hcs : cells ≤ room_1.cells ∧ slots ≤ room_1.slots)
    (kk : ∀ (d' : Drawn) (H1 : Heap) (locs1 : List Loc), s.drawn.sameBut d' lw_cs → Rep Z S1 H1 → va_S (AH s) s.heap H1 locs1 → W p l e room_1 (s.setDrawn d') m #[Value.ref b] below meth c H1 locs1 cells slots Q (F0 m (pc + 3) ls (v.toList ++ trs Z rest))) : W p l e room_1 (s.setDrawn d0) m #[Value.ref b] below meth c H locs cells slots Q (F0 m pc ls (trs Z (As.reverse ++ .ref c0 :: rest))) := by
  obtain ⟨hx, hb, hml, hown, hts, hX, hbl, h1, h2, h3, h4, h5, h6, h7⟩ := hE
  have hlt : c0 < 226 := kd_lt (kd_eq hk) (by omega)
  obtain ⟨i1, i2, i3, i4, i5, i6, i7⟩ := hi
  have hts' := dr_words hts d0
  have hcw : CallW room_1 (s.setDrawn d0) #[Value.ref b] RL y.cls idx y cc' nL' rt' (wsM y cc' nL' rt') rm 0 0 n :=
    ⟨callB_of n hts' (goodM i1) rfl hR.2.2.1 hR.2.2.2 (hts' _ i4) (hts' _ hlk) ⟨i5, i6, i7⟩ ⟨hR.1, hR.2.1⟩, hts' _ i2, hts' _ i3⟩
  have hr := va_runV_D (cs := lw_cs) (cells := cells) (slots := slots) (e := e) (below := below) (meth := meth) (locs := locs) (As := trs Z As) (rest := trs Z rest) (b := Z.1 c0) (g := F0 m pc ls (trs Z (As.reverse ++ .ref c0 :: rest))) (s := s.setDrawn d0) (H := H) ⟨hx, hb, hml, hown, hts'⟩ hM hcw
    ⟨FB Z _ S, va_recv (s := s.setDrawn d0) h1 hP (ci := ci) (q0 := c0) hc (by rw [wsO_at Z S hlt, ent_obj (kd_eq hk) hci]), fun U hU hW => ⟨rfl, by rw [hU]; exact hP, KS.far (s := s.setDrawn d0) h1 h2 h3 h4 h5 h6 h7 hS hU hW⟩⟩ rfl (by simp [trs, hn]) hl.1 (trs_rev Z As (.ref c0) rest) (lv_room (by rw [trs_cat]; exact hW)) hd ⟨hcs.1, hcs.2⟩
  intro T hT X
  obtain ⟨v', st₀, t, T', L', d', hd', h0, X', hL, e1, e2, ⟨⟨hv, hbb⟩, hz, hk'⟩, st⟩ := hr T hT X
  cases hv
  rw [h0] at hz hk'
  obtain ⟨t2, a1, b1⟩ := kk d' T'.heap (locs ++ L') (hd0.trans hd') (by rw [e1]; exact hbb)
    ⟨Nat.le_trans hS.1 (by rw [e1]; exact hz), fun q g1 g2 => by rw [e1, hk' q (Nat.lt_of_lt_of_le g1 hS.1) (fun z => g2 (h7 q z))]; exact hS.2.1 q g1 g2, fun q hq => by
      rcases List.mem_append.mp hq with h | h
      · exact hS.2.2 q h
      · exact h7 _ (hL q h)⟩ T' rfl X'
  exact ⟨t2, st t2 a1, b1⟩
theorem cn_value (a : Int32) {b : Int64} (hv : vn_snl2d b = true) (hI : Inv S) : ∃ S1, F_X7_value 0 a b S = some (0, S1) ∧ Inv S1 := by
  have hI9 := hI
  obtain ⟨B, hG, hC, hRb, hRS⟩ := hI
  have g8 := hG.1.2.2.2.1
  refine ⟨S, ?_, hI9⟩
  unfold F_X7_value J_X7_value_18
  rw [z0, bgk b1]
  rcases loan_or a B.2.2.2.1 with h | ⟨i, hi, rfl⟩
  · rw [has_no b1 hC g8 h, cl_some, if_pos rfl]
  · rcases rate_or b with ⟨r0, r1, r2⟩ | ⟨r1, r2⟩
    · exfalso
      have n1 := snR_nan hv 0
      have n2 : snR b 0 = b.toUInt64 := rfl
      rw [n2] at n1
      have r3 := r2 S
      rw [nan_rate n1] at r3
      cases r3
    · rw [has_yes b1 hC g8 hi, cl_some, if_neg (by decide), r1, cl_some, if_neg (fun z => z rfl)]
set_option maxRecDepth 20000 in
set_option maxHeartbeats 4000000 in
theorem ln_value (hE : LE p s m c b L xs Z) (hL : L ≤ 3584) (hi : i + 7 ≤ L) (hcs : cells ≤ room_1.cells ∧ slots ≤ room_1.slots) (hK : LK p l e s m below meth c b i Z cells slots Q) (hd : s.drawn.sameBut d0 lw_cs) (hI : Inv S) (hP : Rep Z S H) (hS : va_S (AH s) s.heap H locs) (hl : lv_has ls 4 (LV Z b i)) (hv : vn_snl2d (lj (xs (i + 2)) (xs (i + (2 + 1)))) = true) : W p l e room_1 (s.setDrawn d0) m #[Value.ref b] below meth c H locs cells slots Q (F0 m 798 ls []) := by
  obtain ⟨S1, h1, hI1⟩ := cn_value (xs (i + 1)) hv hI
  have hx := hE.1
  have hb := hE.2.1
  refine lv_aload_n hx hb dL_law_798 rfl (lv_at hl 1 rfl) ?_
  refine lw_el hE hi hL hl hS (k := 1) (by omega) (by decide) dL_law_799 dL_law_800 dL_law_801 dL_law_802 dL_law_803 ?_
  refine lw_elJ hE hi hL hl hS (k := 2) (by omega) (by decide) (by decide) dL_law_804 dL_law_805 dL_law_806 dL_law_807 dL_law_808 dL_law_809 dL_law_810 dL_law_812 dL_law_813 dL_law_814 dL_law_815 dL_law_816 dL_law_817 dL_law_818 dL_law_819 dL_law_822 dL_law_823 ?_
  refine lw_call hE [.int (xs (i + 1)), .long (lj (xs (i + 2)) (xs (i + (2 + 1))))] [] (m_X7_value Z l 0 (xs (i + 1)) (lj (xs (i + 2)) (xs (i + (2 + 1)))) S h1) dL_law_824 mi_X7_value wl_80 ⟨Nat.le_of_ble_eq_true rfl, Nat.le_of_ble_eq_true rfl, rfl, rfl⟩ rfl (by rw [kd00]) (by omega) rfl hl (Nat.le_of_ble_eq_true rfl) hP hS hcs (fun H locs hP hS => ?_)
  refine lv_aload_n hx hb dL_law_827 rfl (lv_at hl 2 rfl) ?_
  refine lw_el hE hi hL hl hS (k := 1) (by omega) (by decide) dL_law_828 dL_law_829 dL_law_830 dL_law_831 dL_law_832 ?_
  refine lw_elJ hE hi hL hl hS (k := 2) (by omega) (by decide) (by decide) dL_law_833 dL_law_834 dL_law_835 dL_law_836 dL_law_837 dL_law_838 dL_law_839 dL_law_841 dL_law_842 dL_law_843 dL_law_844 dL_law_845 dL_law_846 dL_law_847 dL_law_848 dL_law_851 dL_law_852 ?_
  refine lw_callD hd hE [.int (xs (i + 1)), .long (lj (xs (i + 2)) (xs (i + (2 + 1))))] [.long 0] (mn_value Z l (xs (i + 1)) (lj (xs (i + 2)) (xs (i + (2 + 1)))) hv hI1) dL_law_853 mi_X8_value wl_83 ⟨Nat.le_of_ble_eq_true rfl, Nat.le_of_ble_eq_true rfl, rfl, rfl⟩ rfl (by rw [kd202]) (by omega) rfl hl (Nat.le_of_ble_eq_true rfl) hP hS hcs (fun d1 H locs hd1 hP hS => ?_)
  refine W.lcmp hx hb dL_law_856 ?_
  refine lv_if_eq (tgt := 1537) hx hb dL_law_857 (by decide) (fun _ => ?_) (fun hc => ?_)
  · exact hK d1 S1 H locs ls hd1 hI1 hP hS hl
  · exact absurd ((lg_cmp_eq (0 : Int64) 0).mpr rfl) hc
theorem cn_duration (a : Int32) {b : Int64} (hv : vn_snl2d b = true) (hI : Inv S) : ∃ S1, F_X7_duration 0 a b S = some (0, S1) ∧ Inv S1 := by
  have hI9 := hI
  obtain ⟨B, hG, hC, hRb, hRS⟩ := hI
  have g8 := hG.1.2.2.2.1
  refine ⟨S, ?_, hI9⟩
  unfold F_X7_duration J_X7_duration_18
  rw [z0, bgk b1]
  rcases loan_or a B.2.2.2.1 with h | ⟨i, hi, rfl⟩
  · rw [has_no b1 hC g8 h, cl_some, if_pos rfl]
  · rcases rate_or b with ⟨r0, r1, r2⟩ | ⟨r1, r2⟩
    · exfalso
      have n1 := snR_nan hv 0
      have n2 : snR b 0 = b.toUInt64 := rfl
      rw [n2] at n1
      have r3 := r2 S
      rw [nan_rate n1] at r3
      cases r3
    · rw [has_yes b1 hC g8 hi, cl_some, if_neg (by decide), r1, cl_some, if_neg (fun z => z rfl)]
set_option maxRecDepth 20000 in
set_option maxHeartbeats 4000000 in
theorem ln_duration (hE : LE p s m c b L xs Z) (hL : L ≤ 3584) (hi : i + 7 ≤ L) (hcs : cells ≤ room_1.cells ∧ slots ≤ room_1.slots) (hK : LK p l e s m below meth c b i Z cells slots Q) (hd : s.drawn.sameBut d0 lw_cs) (hI : Inv S) (hP : Rep Z S H) (hS : va_S (AH s) s.heap H locs) (hl : lv_has ls 4 (LV Z b i)) (hv : vn_snl2d (lj (xs (i + 2)) (xs (i + (2 + 1)))) = true) : W p l e room_1 (s.setDrawn d0) m #[Value.ref b] below meth c H locs cells slots Q (F0 m 989 ls []) := by
  obtain ⟨S1, h1, hI1⟩ := cn_duration (xs (i + 1)) hv hI
  have hx := hE.1
  have hb := hE.2.1
  refine lv_aload_n hx hb dL_law_989 rfl (lv_at hl 1 rfl) ?_
  refine lw_el hE hi hL hl hS (k := 1) (by omega) (by decide) dL_law_990 dL_law_991 dL_law_992 dL_law_993 dL_law_994 ?_
  refine lw_elJ hE hi hL hl hS (k := 2) (by omega) (by decide) (by decide) dL_law_995 dL_law_996 dL_law_997 dL_law_998 dL_law_999 dL_law_1000 dL_law_1001 dL_law_1003 dL_law_1004 dL_law_1005 dL_law_1006 dL_law_1007 dL_law_1008 dL_law_1009 dL_law_1010 dL_law_1013 dL_law_1014 ?_
  refine lw_call hE [.int (xs (i + 1)), .long (lj (xs (i + 2)) (xs (i + (2 + 1))))] [] (m_X7_duration Z l 0 (xs (i + 1)) (lj (xs (i + 2)) (xs (i + (2 + 1)))) S h1) dL_law_1015 mi_X7_duration wl_93 ⟨Nat.le_of_ble_eq_true rfl, Nat.le_of_ble_eq_true rfl, rfl, rfl⟩ rfl (by rw [kd00]) (by omega) rfl hl (Nat.le_of_ble_eq_true rfl) hP hS hcs (fun H locs hP hS => ?_)
  refine lv_aload_n hx hb dL_law_1018 rfl (lv_at hl 2 rfl) ?_
  refine lw_el hE hi hL hl hS (k := 1) (by omega) (by decide) dL_law_1019 dL_law_1020 dL_law_1021 dL_law_1022 dL_law_1023 ?_
  refine lw_elJ hE hi hL hl hS (k := 2) (by omega) (by decide) (by decide) dL_law_1024 dL_law_1025 dL_law_1026 dL_law_1027 dL_law_1028 dL_law_1029 dL_law_1030 dL_law_1032 dL_law_1033 dL_law_1034 dL_law_1035 dL_law_1036 dL_law_1037 dL_law_1038 dL_law_1039 dL_law_1042 dL_law_1043 ?_
  refine lw_callD hd hE [.int (xs (i + 1)), .long (lj (xs (i + 2)) (xs (i + (2 + 1))))] [.long 0] (mn_duration Z l (xs (i + 1)) (lj (xs (i + 2)) (xs (i + (2 + 1)))) hv hI1) dL_law_1044 mi_X8_duration wl_96 ⟨Nat.le_of_ble_eq_true rfl, Nat.le_of_ble_eq_true rfl, rfl, rfl⟩ rfl (by rw [kd202]) (by omega) rfl hl (Nat.le_of_ble_eq_true rfl) hP hS hcs (fun d1 H locs hd1 hP hS => ?_)
  refine W.lcmp hx hb dL_law_1047 ?_
  refine lv_if_eq (tgt := 1537) hx hb dL_law_1048 (by decide) (fun _ => ?_) (fun hc => ?_)
  · exact hK d1 S1 H locs ls hd1 hI1 hP hS hl
  · exact absurd ((lg_cmp_eq (0 : Int64) 0).mpr rfl) hc
end LAD
