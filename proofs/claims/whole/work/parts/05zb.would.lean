theorem kd204 : kd0 204 = (11, 2524) := by decide +kernel
theorem kd205 : kd0 205 = (11, 2524) := by decide +kernel
theorem kd206 : kd0 206 = (11, 2524) := by decide +kernel
theorem take_loop {x y : Nat} (hx : kd0 x = (11, 2524)) (hy : kd0 y = (11, 2524)) (hne : x ≠ y) : ∀ (j n k : Nat) (S : St), j < n → k + j = 2524 → ∃ S', L_X8_take_2 n x y (nI k) S = some ((), S') ∧ S'.1 = S.1 ∧ (∀ a, a ≠ y → S'.2 a = S.2 a) ∧ (∀ q, k ≤ q → q < 2524 → S'.2 y q = S.2 x q) ∧ (∀ q, q < k → S'.2 y q = S.2 y q)
  | _, 0, _, _, h, _ => absurd h (Nat.not_lt_zero _)
  | 0, n + 1, k, S, _, hk => by
    refine ⟨S, ?_, rfl, fun _ _ => rfl, fun q h1 h2 => by omega, fun _ _ => rfl⟩
    show B_X8_take_2 _ _ _ _ _ = _
    unfold B_X8_take_2
    rw [if_pos (by rw [fa_lit 2524, nI_leI (by omega) (by omega)]; omega)]
  | j + 1, n + 1, k, S, hn, hk => by
    obtain ⟨S', r1, r2, r3, r4, r5⟩ := take_loop hx hy hne j n (k + 1) (setL S y k (S.2 x k)) (by omega) (by omega)
    refine ⟨S', ?_, r2, fun a ha => ?_, fun q h1 h2 => ?_, fun q hq => ?_⟩
    · show B_X8_take_2 _ _ _ _ _ = _
      unfold B_X8_take_2
      rw [if_neg (by rw [fa_lit 2524, nI_leI (by omega) (by omega)]; omega), jL hx (by omega) (by omega), jS hy (by omega) (by omega), show nI k + 1 = nI (k + 1) from nI_1 k]
      exact r1
    · rw [r3 a ha, setL_n ha]
    · by_cases e : q = k
      · subst e
        rw [r5 q (by omega), setL_s]
      · rw [r4 q (by omega) h2, setL_n hne]
    · rw [r5 q (by omega), setL_k (by omega)]
theorem take_e {x y : Nat} (hx : kd0 x = (11, 2524)) (hy : kd0 y = (11, 2524)) (hne : x ≠ y) (S : St) : ∃ S', F_X8_take x y S = some ((), S') ∧ S'.1 = S.1 ∧ (∀ a, a ≠ y → S'.2 a = S.2 a) ∧ ∀ q, q < 2524 → S'.2 y q = S.2 x q := by
  obtain ⟨S', r1, r2, r3, r4, _⟩ := take_loop hx hy hne 2524 6000 0 S (by omega) (by omega)
  exact ⟨S', r1, r2, r3, fun q hq => r4 q (by omega) hq⟩
theorem RB.copy {S S' : St} {x y : Nat} {B : Bk} (h : RB S x B) (hG : GB B) (hc : ∀ q, q < 2524 → S'.2 y q = S.2 x q) : RB S' y B := by
  obtain ⟨q0, q1, q2, q3, q4⟩ := h
  have g8 := hG.2.2.2.1
  refine ⟨by rw [hc _ (by omega)]; exact q0, by rw [hc _ (by omega)]; exact q1, by rw [hc _ (by omega)]; exact q2, by rw [hc _ (by omega)]; exact q3, fun i hi => ?_⟩
  obtain ⟨h1, h2, h3, h4⟩ := q4 i hi
  have hl := (bls_len (hG.2.2.2.2 i hi).1).2
  refine ⟨fun w hw => ?_, fun w hw => ?_, ?_, fun j b hj => ?_⟩
  · rw [hc _ (by omega)]; exact h1 w hw
  · rw [hc _ (by omega)]; exact h2 w hw
  · rw [hc _ (by omega)]; exact h3
  · have hlj := (List.getElem?_eq_some_iff.mp hj).1
    have g := h4 j b hj
    rw [hc _ (by omega), hc _ (by omega), hc _ (by omega), hc _ (by omega), hc _ (by omega)]
    exact g
theorem mR1 {β : Type} (K : Nat → Option β) : gR 6 1 202 K = K 204 := mgR rfl K
theorem mR2 {β : Type} (K : Nat → Option β) : gR 6 2 202 K = K 205 := mgR rfl K
theorem mR3 {β : Type} (K : Nat → Option β) : gR 6 3 202 K = K 206 := mgR rfl K
theorem i64_cancel (x y : Int64) : x + y - x = y := by rw [Int64.add_comm, Int64.add_sub_cancel]
theorem pre_q (a : Nat) (l : Ln) : (pre a l).2.1 = up l.2.1 2 (l.2.1 2 + lN (min a (l.1 8))) ∧ (pre a l).1 8 = l.1 8 - min a (l.1 8) := by
  unfold pre
  split
  · constructor
    · rw [relv_2]; rfl
    · rw [relv_n _ (by omega)]; rfl
  · exact ⟨rfl, rfl⟩
theorem paid_q (a : Nat) (l : Ln) : (paid a l).2.1 0 = l.2.1 0 + lN (rp a (bls l)).1.1 ∧ (paid a l).2.1 1 = l.2.1 1 + lN (rp a (bls l)).1.2.1 ∧ (paid a l).2.1 2 = l.2.1 2 + lN (rp a (bls l)).1.2.2 + lN (min (rp a (bls l)).2.1 (l.1 8)) ∧ (paid a l).1 8 = l.1 8 - min (rp a (bls l)).2.1 (l.1 8) := by
  have hr := rcv_rp (l.1 7) 1 a l
  rw [← bls_bv] at hr
  have hp := pre_q (rcv (l.1 7) 1 a l).1 (rcv (l.1 7) 1 a l).2
  rw [rcv_1, (rcv_bls a l).2] at hp
  unfold paid
  rw [(rcv_bls a l).2, hp.1, hp.2, up_n _ _ (by omega), up_n _ _ (by omega), up_s]
  exact ⟨hr.2.1, hr.2.2.1, by rw [hr.2.2.2.1], rfl⟩
section TW6
variable {S : St} {B : Bk} {i : Nat}
theorem offL.K {S S' : St} (h : offL S S' 175) : offK S S' := fun a ha => h a (by omega)
/-- would -/
theorem t_would (hG : GX B) (a : Int32) (m : Int64) (o : Int32) : TwoB (F_X7_would 0 a m o) (F_X8_would 202 a m o) B := by
  have g8 := hG.1.2.2.2.1
  rcases loan_or a B.2.2.2.1 with h | ⟨i, hi, rfl⟩
  · refine TwoB.no hG (-1) (fun S hS => ?_) (fun S hS => ?_)
    · unfold F_X7_would J_X7_would_18
      rw [z0, bgk b1, has_no b1 hS g8 h, cl_some, if_pos rfl]
    · unfold F_X8_would J_X8_would_22
      rw [mgk, isPaid_no hS g8 h, cl_some, if_pos rfl]
  · by_cases c : m < 1 ∨ 1000000000 < m
    · refine TwoB.no hG (-1) (fun S hS => ?_) (fun S hS => ?_)
      · unfold F_X7_would J_X7_would_18
        rw [z0, bgk b1, has_yes b1 hS g8 hi, cl_some, if_neg (by decide), isAmount_e, if_pos c, cl_some, if_neg (fun z => z rfl)]
      · unfold F_X8_would J_X8_would_22
        rw [mgk, isPaid_yes hS g8 hi, if_pos c, cl_some, if_pos rfl]
    · have c' : ¬ (m < lN 1 ∨ lN 1000000000 < m) := by
        rw [show lN 1 = 1 from rfl, ← fa_litL 1000000000]
        exact c
      obtain ⟨n, rfl, n1, n2⟩ : ∃ n, m = lN n ∧ 1 ≤ n ∧ n ≤ 1000000000 := by
        rcases betweenL m 1 1000000000 (by omega) (by omega) with z | ⟨_, z⟩
        · exact absurd z c'
        · exact z
      have hi8 : i < 8 := by omega
      have gd := hG.1.2.2.2.2 i hi
      have hc := LC_book b1 hi8
      have hpq := paid_q n (B.2.2.2.2 i)
      have f7 : ∀ S, CB S 1 B → ∃ S1, CB S1 1 B ∧ offK S S1 ∧ CL S1 175 (paid n (B.2.2.2.2 i)) ∧ F_X7_would 0 (nI i) (lN n) o S = sw o (some ((-1 : Int64), S1)) [(0, gR 5 4 0 fun v109 => gL 2 3 v109 S1 fun v112 => gL 2 3 (1 + 2 + 7 * i) S1 fun v117 => some ((v112 - v117), S1)), (1, gR 5 4 0 fun v123 => gL 2 4 v123 S1 fun v126 => gL 2 4 (1 + 2 + 7 * i) S1 fun v131 => some ((v126 - v131), S1)), (2, gR 5 4 0 fun v137 => gL 2 5 v137 S1 fun v140 => gL 2 5 (1 + 2 + 7 * i) S1 fun v145 => some (((v140 - v145) - (lN ((B.2.2.2.2 i).1 8) - lN ((paid n (B.2.2.2.2 i)).1 8))), S1)), (3, some ((lN ((B.2.2.2.2 i).1 8) - lN ((paid n (B.2.2.2.2 i)).1 8)), S1)), (4, some (lN (givenBack n (B.2.2.2.2 i)), S1)), (5, gR 5 4 0 fun v160 => gL 2 2 v160 S1 fun v163 => some (v163, S1))] := by
        intro S hS
        obtain ⟨S0, r1, r2, r3⟩ := copyLoan_e hc LC_175 (by omega) (hS.2.2.2.2 i hi) gd.1
        obtain ⟨S1, u1, u2, u3⟩ := receive_e LC_175 r2 gd.1 n2
        have ho := r3.tr u3
        have hS1 : CB S1 1 B := by
          obtain ⟨q0, q1, q2, q3, q4⟩ := hS
          have e1 := (ho 1 (by omega)).1
          exact ⟨by rw [e1]; exact q0, by rw [e1]; exact q1, by rw [e1]; exact q2, by rw [e1]; exact q3, fun j hj => (q4 j hj).off ho (by omega)⟩
        refine ⟨S1, hS1, ho.K, u2, ?_⟩
        unfold F_X7_would
        rw [z0, bgk b1, has_yes b1 hS g8 hi, cl_some, if_neg (by decide), isAmount_e, if_neg c, cl_some, if_pos (by decide), z0, br4 b1, baR b1 hi8, z4, lgk LC_175, r1, cl_some, z4, lgk LC_175, u1, cl_some, lL hc, (hS1.2.2.2.2 i hi).1.2.1, z4, lL LC_175, u2.1.2.1, bd_e]
      have f8 : ∀ k : Nat, k ≤ 5 → ∀ S, RB S 203 B → ∃ S2, F_X8_would 202 (nI i) (lN n) (nI k) S = some (S2.2 211 k, S2) ∧ RB S2 203 B ∧ offQ S S2 ∧ (S2.2 211 0 = lN (rp n (bls (B.2.2.2.2 i))).1.1 ∧ S2.2 211 1 = lN (rp n (bls (B.2.2.2.2 i))).1.2.1 ∧ S2.2 211 2 = lN (rp n (bls (B.2.2.2.2 i))).1.2.2 ∧ S2.2 211 3 = lN (min (rp n (bls (B.2.2.2.2 i))).2.1 ((B.2.2.2.2 i).1 8)) ∧ S2.2 211 4 = lN (givenBack n (B.2.2.2.2 i)) ∧ S2.2 211 5 = lN ((paid n (B.2.2.2.2 i)).1 9)) := by
        intro k hk S hS
        obtain ⟨S1, r1, r2, r3, r4⟩ := take_e kd203 kd204 (by omega) S
        have hS1 : RB S1 203 B := hS.same (r3 203 (by omega))
        obtain ⟨S2, u1, u2, u3, u4, u5, u6, u7, u8, u9⟩ := pays_e hi8 gd.1 n2 (hS1.2.2.2.2 i hi)
        obtain ⟨S3, v1, v2, v3, v4⟩ := take_e kd204 kd203 (by omega) S2
        have e204 : S2.2 204 = S1.2 204 := u9.2.1 204 (by omega) (by omega)
        have hS3 : RB S3 203 B := hS.copy hG.1 (fun q hq => by rw [v4 q hq, e204, r4 q hq])
        have e211 : S3.2 211 = S2.2 211 := v3 211 (by omega)
        refine ⟨S3, ?_, hS3, ⟨fun x h1 h2 => by rw [v2, u9.1, r2], fun x h1 => by rw [v2, u9.1, r2], fun x hx => by rw [v3 x (by omega), u9.2.1 x (by omega) (by omega), r3 x (by omega)]⟩, ?_⟩
        · unfold F_X8_would
          rw [mgk, isPaid_yes hS g8 hi, if_neg c, cl_some, if_neg (by decide), fa_litL 5, show (0 : Int64) = lN 0 from rfl, inw_e _ _ _ (by omega) (by omega), if_neg (by rw [nI_ltI (by omega) (by omega), nI_ltI (by omega) (by omega)]; omega), cl_some, if_pos (by decide), mR0, mR1, r1, cl_some, mgk, u1, cl_some, mR1, mR0, v1, cl_some, mR10, j_at _ (by omega)]
        · rw [e211]
          exact ⟨u3, u4, u5, u6, u7, u8⟩
      have go : ∀ (k : Nat) (r : Int64), k ≤ 5 → (∀ S2 : St, (S2.2 211 0 = lN (rp n (bls (B.2.2.2.2 i))).1.1 ∧ S2.2 211 1 = lN (rp n (bls (B.2.2.2.2 i))).1.2.1 ∧ S2.2 211 2 = lN (rp n (bls (B.2.2.2.2 i))).1.2.2 ∧ S2.2 211 3 = lN (min (rp n (bls (B.2.2.2.2 i))).2.1 ((B.2.2.2.2 i).1 8)) ∧ S2.2 211 4 = lN (givenBack n (B.2.2.2.2 i)) ∧ S2.2 211 5 = lN ((paid n (B.2.2.2.2 i)).1 9)) → S2.2 211 k = r) → (∀ S, CB S 1 B → ∃ S1, F_X7_would 0 (nI i) (lN n) (nI k) S = some (r, S1) ∧ CB S1 1 B ∧ offK S S1) → TwoB (F_X7_would 0 (nI i) (lN n) (nI k)) (F_X8_would 202 (nI i) (lN n) (nI k)) B := by
        intro k r hk h1 h2
        refine ⟨r, B, hG, Nat.le_refl _, h2, fun S hS => ?_⟩
        obtain ⟨S2, w1, w2, w3, w4⟩ := f8 k hk S hS
        exact ⟨S2, by rw [w1, h1 S2 w4], w2, w3⟩
      rcases between o 0 5 (by omega) (by omega) with d | ⟨d, v, rfl, _, v9⟩
      · have hne : ∀ k : Nat, k ≤ 5 → o ≠ nI k := by
          rintro k hk rfl
          rw [nI_ltI (by omega) (by omega), nI_ltI (by omega) (by omega)] at d
          omega
        refine ⟨-1, B, hG, Nat.le_refl _, fun S hS => ?_, fun S hS => ⟨S, ?_, hS, offQ.rf S⟩⟩
        · obtain ⟨S1, r1, r2, r3, r4⟩ := f7 S hS
          refine ⟨S1, ?_, r1, r2⟩
          rw [r4, sw_x (show ¬ o = 0 from hne 0 (by omega)), sw_x (show ¬ o = 1 from hne 1 (by omega)), sw_x (show ¬ o = 2 from hne 2 (by omega)), sw_x (show ¬ o = 3 from hne 3 (by omega)), sw_x (show ¬ o = 4 from hne 4 (by omega)), sw_x (show ¬ o = 5 from hne 5 (by omega)), sw_n]
        · unfold F_X8_would J_X8_would_22
          rw [mgk, isPaid_yes hS g8 hi, if_neg c, cl_some, if_neg (by decide), fa_litL 5, show (0 : Int64) = lN 0 from rfl, inw_e _ _ _ (by omega) (by omega), if_pos d, cl_some, if_neg (fun z => z rfl)]
      · have hbal : (paid n (B.2.2.2.2 i)).1 8 ≤ (B.2.2.2.2 i).1 8 := by rw [hpq.2.2.2]; omega
        have hdf : lN ((B.2.2.2.2 i).1 8) - lN ((paid n (B.2.2.2.2 i)).1 8) = lN (min (rp n (bls (B.2.2.2.2 i))).2.1 ((B.2.2.2.2 i).1 8)) := by
          rw [lN_sub hbal, hpq.2.2.2]
          congr 1
          omega
        have hv : v = 0 ∨ v = 1 ∨ v = 2 ∨ v = 3 ∨ v = 4 ∨ v = 5 := by omega
        rcases hv with rfl | rfl | rfl | rfl | rfl | rfl
        · refine go 0 _ (by omega) (fun S2 w => w.1) (fun S hS => ?_)
          obtain ⟨S1, r1, r2, r3, r4⟩ := f7 S hS
          refine ⟨S1, ?_, r1, r2⟩
          rw [r4, sw_y (by rfl), z4, lL LC_175, lL hc, r3.1.2.2.2.1, (r1.2.2.2.2 i hi).1.2.2.2.1, hpq.1, i64_cancel]
        · refine go 1 _ (by omega) (fun S2 w => w.2.1) (fun S hS => ?_)
          obtain ⟨S1, r1, r2, r3, r4⟩ := f7 S hS
          refine ⟨S1, ?_, r1, r2⟩
          rw [r4, sw_x (by decide), sw_y (by rfl), z4, lL LC_175, lL hc, r3.1.2.2.2.2.1, (r1.2.2.2.2 i hi).1.2.2.2.2.1, hpq.2.1, i64_cancel]
        · refine go 2 _ (by omega) (fun S2 w => w.2.2.1) (fun S hS => ?_)
          obtain ⟨S1, r1, r2, r3, r4⟩ := f7 S hS
          refine ⟨S1, ?_, r1, r2⟩
          rw [r4, sw_x (by decide), sw_x (by decide), sw_y (by rfl), z4, lL LC_175, lL hc, r3.1.2.2.2.2.2.1, (r1.2.2.2.2 i hi).1.2.2.2.2.2.1, hpq.2.2.1, hdf, Int64.add_assoc, i64_cancel, Int64.add_sub_cancel]
        · refine go 3 _ (by omega) (fun S2 w => w.2.2.2.1) (fun S hS => ?_)
          obtain ⟨S1, r1, r2, r3, r4⟩ := f7 S hS
          refine ⟨S1, ?_, r1, r2⟩
          rw [r4, sw_x (by decide), sw_x (by decide), sw_x (by decide), sw_y (by rfl), hdf]
        · refine go 4 _ (by omega) (fun S2 w => w.2.2.2.2.1) (fun S hS => ?_)
          obtain ⟨S1, r1, r2, r3, r4⟩ := f7 S hS
          refine ⟨S1, ?_, r1, r2⟩
          rw [r4, sw_x (by decide), sw_x (by decide), sw_x (by decide), sw_x (by decide), sw_y (by rfl)]
        · refine go 5 _ (by omega) (fun S2 w => w.2.2.2.2.2) (fun S hS => ?_)
          obtain ⟨S1, r1, r2, r3, r4⟩ := f7 S hS
          refine ⟨S1, ?_, r1, r2⟩
          rw [r4, sw_x (by decide), sw_x (by decide), sw_x (by decide), sw_x (by decide), sw_x (by decide), sw_y (by rfl), z4, lL LC_175, r3.1.2.2.1]
end TW6
