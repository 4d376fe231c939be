theorem RLn.qc {S : St} {G i : Nat} {f : Nat → Nat} {q q' : Nat → Int64} {bs : List Bl} (h : RLn S G i f q bs) (hq : ∀ w, w < 4 → q' w = q w) : RLn S G i f q' bs := ⟨h.1, fun w hw => by rw [hq w hw]; exact h.2.1 w hw, h.2.2.1, h.2.2.2⟩
section RFQ
variable {S : St} {i : Nat}
/-- what a loan has got, one part -/
theorem got_e (hi : i < 8) {f : Nat → Nat} {q : Nat → Int64} {bs : List Bl} (hl : bs.length ≤ 60) (hS : RLn S 203 i f q bs) {x n s : Nat} (hx : x < 3) (hs : S.2 211 x = lN s) : L_X8_pays_158 (n + 1) 202 (nI i) (nI x) S = L_X8_pays_158 n 202 (nI i) (nI (x + 1)) (setL S 203 (315 * i + (10 + x)) (q x + lN s)) ∧ RLn (setL S 203 (315 * i + (10 + x)) (q x + lN s)) 203 i f (up q x (q x + lN s)) bs := by
  refine ⟨?_, rl_got hS hl (by omega) _⟩
  show B_X8_pays_158 _ _ _ _ _ = _
  unfold B_X8_pays_158
  rw [if_neg (by rw [show (3 : Int32) = nI 3 from rfl, nI_leI (by omega) (by omega)]; omega), mgk, show (10 : Int32) + nI x = nI (10 + x) from nI_add 10 x, at_e hi (by omega), cl_some, mR10, j_at _ (by omega), hs, mgk, sets_e hi (by omega), cl_some, show nI x + 1 = nI (x + 1) from nI_1 x, show 315 * i + (10 + x) = 315 * i + 10 + x by omega, hS.2.1 x (by omega)]
theorem J246_e (hi : i < 8) {f : Nat → Nat} {q : Nat → Int64} {bs : List Bl} (hS : RLn S 203 i f q bs) : ∃ S', J_X8_pays_246 202 (nI i) S = some ((), S') ∧ RLn S' 203 i f q bs ∧ S'.2 211 5 = lN (f 9) ∧ (∀ x, x ≠ 5 → S'.2 211 x = S.2 211 x) ∧ offP S S' i := by
  unfold J_X8_pays_246
  rw [mR10, mgk, show (9 : Int32) = nI 9 from rfl, at_e hi (by omega), cl_some, hS.1 9 (by omega), show (5 : Int32) = nI 5 from rfl, j_set _ (by omega)]
  exact ⟨_, rfl, hS.Q 5 _, setL_s, fun x hx => setL_k hx, (offP.rf S i).Q 5 _⟩
theorem J125_e (hi : i < 8) {m : Ln} {q : Nat → Int64} {bs : List Bl} {s : Nat → Nat} {a : Nat} (hl : bs.length ≤ 60) (hG : GD m) (ha : a ≤ 1000000000) (hS : RLn S 203 i m.1 q bs) (h0 : m.2.1 0 = q 0 + lN (s 0)) (h1 : m.2.1 1 = q 1 + lN (s 1)) (h2 : m.2.1 2 = q 2 + lN (s 2)) (h3 : m.2.1 3 = q 3) (hs : ∀ x, x < 3 → S.2 211 x = lN (s x)) : ∃ S', J_X8_pays_125 202 (nI i) (lN a) S = some ((), S') ∧ RLn S' 203 i (pre a m).1 (pre a m).2.1 bs ∧ (∀ x, x < 3 → S'.2 211 x = lN (s x)) ∧ S'.2 211 3 = lN (min a (m.1 8)) ∧ S'.2 211 4 = lN (a - min a (m.1 8)) ∧ S'.2 211 5 = lN ((pre a m).1 9) ∧ offP S S' i := by
  have hb := hG.2.2.2.2.2.2.2.2.1
  have hmd := hG.2.2.2.2.2.1
  unfold J_X8_pays_125
  rw [mR10, mgk, show (8 : Int32) = nI 8 from rfl, paidOff_e hi (by omega) (by omega) (by omega) (hS.1 8 (by omega)), cl_some, show (3 : Int32) = nI 3 from rfl, j_set _ (by omega), mR10, mR10, j_at _ (by omega), setL_s, lN_sub (Nat.min_le_left _ _), show (4 : Int32) = nI 4 from rfl, j_set _ (by omega)]
  have hS1 := ((rl_num hS hl (w := 8) (by omega) (m.1 8 - min a (m.1 8))).Q 3 (lN (min a (m.1 8)))).Q 4 (lN (a - min a (m.1 8)))
  have o1 := (((offP.rf S i).L (w := 8) (by omega) (lN (m.1 8 - min a (m.1 8)))).Q 3 (lN (min a (m.1 8)))).Q 4 (lN (a - min a (m.1 8)))
  have c1 : ∀ x, x < 3 → (setL (setL (setL S 203 (315 * i + 8) (lN (m.1 8 - min a (m.1 8)))) 211 3 (lN (min a (m.1 8)))) 211 4 (lN (a - min a (m.1 8)))).2 211 x = lN (s x) := by
    intro x hx
    rw [setL_k (by omega), setL_k (by omega), setL_n (by omega)]
    exact hs x hx
  have c3 : (setL (setL (setL S 203 (315 * i + 8) (lN (m.1 8 - min a (m.1 8)))) 211 3 (lN (min a (m.1 8)))) 211 4 (lN (a - min a (m.1 8)))).2 211 3 = lN (min a (m.1 8)) := by
    rw [setL_k (by omega), setL_s]
  have c4 : (setL (setL (setL S 203 (315 * i + 8) (lN (m.1 8 - min a (m.1 8)))) 211 3 (lN (min a (m.1 8)))) 211 4 (lN (a - min a (m.1 8)))).2 211 4 = lN (a - min a (m.1 8)) := setL_s
  generalize setL (setL (setL S 203 (315 * i + 8) (lN (m.1 8 - min a (m.1 8)))) 211 3 (lN (min a (m.1 8)))) 211 4 (lN (a - min a (m.1 8))) = S1 at hS1 o1 c1 c3 c4 ⊢
  obtain ⟨r1, hS2⟩ := got_e hi hl hS1 (x := 0) (n := 5999) (by omega) (c1 0 (by omega))
  have r1' : L_X8_pays_158 6000 202 (nI i) 0 S1 = _ := r1
  rw [r1']
  have o2 := o1.L (w := 10 + 0) (by omega) (q 0 + lN (s 0))
  have k2 : ∀ x, (setL S1 203 (315 * i + (10 + 0)) (q 0 + lN (s 0))).2 211 x = S1.2 211 x := fun x => by rw [setL_n (by omega)]
  generalize setL S1 203 (315 * i + (10 + 0)) (q 0 + lN (s 0)) = S2 at hS2 o2 k2 ⊢
  obtain ⟨r2, hS3⟩ := got_e hi hl hS2 (x := 1) (n := 5998) (by omega) (by rw [k2]; exact c1 1 (by omega))
  rw [up_n _ _ (by omega)] at hS3 r2
  have r2' : L_X8_pays_158 5999 202 (nI i) (nI (0 + 1)) S2 = _ := r2
  rw [r2']
  have o3 := o2.L (w := 10 + 1) (by omega) (q 1 + lN (s 1))
  have k3 : ∀ x, (setL S2 203 (315 * i + (10 + 1)) (q 1 + lN (s 1))).2 211 x = S1.2 211 x := fun x => by rw [setL_n (by omega)]; exact k2 x
  generalize setL S2 203 (315 * i + (10 + 1)) (q 1 + lN (s 1)) = S3 at hS3 o3 k3 ⊢
  obtain ⟨r3, hS4⟩ := got_e hi hl hS3 (x := 2) (n := 5997) (by omega) (by rw [k3]; exact c1 2 (by omega))
  rw [up_n _ _ (by omega), up_n _ _ (by omega)] at hS4 r3
  have r3' : L_X8_pays_158 5998 202 (nI i) (nI (1 + 1)) S3 = _ := r3
  rw [r3']
  have o4 := o3.L (w := 10 + 2) (by omega) (q 2 + lN (s 2))
  have k4 : ∀ x, (setL S3 203 (315 * i + (10 + 2)) (q 2 + lN (s 2))).2 211 x = S1.2 211 x := fun x => by rw [setL_n (by omega)]; exact k3 x
  generalize setL S3 203 (315 * i + (10 + 2)) (q 2 + lN (s 2)) = S4 at hS4 o4 k4 ⊢
  have e5 : L_X8_pays_158 5997 202 (nI i) (nI (2 + 1)) S4 = B_X8_pays_158 (L_X8_pays_158 5996) 202 (nI i) (nI 3) S4 := rfl
  have h12 : S4.2 203 (315 * i + 12) = q 2 + lN (s 2) := by
    have := hS4.2.1 2 (by omega)
    rw [up_s] at this
    exact this
  rw [e5]
  unfold B_X8_pays_158
  rw [if_pos (show (3 : Int32) ≤ nI 3 from Int32.le_refl _), mgk, show (12 : Int32) = nI 12 from rfl, at_e hi (by omega), cl_some, h12, mR10, show (3 : Int32) = nI 3 from rfl, j_at _ (by omega), k4, c3, mgk, sets_e hi (by omega), cl_some, mR10, j_at _ (by omega)]
  have hS5 : RLn (setL S4 203 (315 * i + 12) (q 2 + lN (s 2) + lN (min a (m.1 8)))) 203 i (pre0 a m).1 (pre0 a m).2.1 bs := by
    refine (rl_got hS4 hl (w := 2) (by omega) (q 2 + lN (s 2) + lN (min a (m.1 8)))).qc (fun w hw => ?_)
    show up m.2.1 2 (m.2.1 2 + lN (min a (m.1 8))) w = _
    rw [h2]
    by_cases w2 : w = 2
    · subst w2
      rw [up_s, up_s]
    · rw [up_n _ _ w2, up_n _ _ w2, up_n _ _ w2]
      by_cases w1 : w = 1
      · subst w1; rw [up_s, h1]
      · rw [up_n _ _ w1]
        by_cases w0 : w = 0
        · subst w0; rw [up_s, h0]
        · have w3 : w = 3 := by omega
          subst w3
          rw [up_n _ _ w0, h3]
  have o5 := o4.L (w := 12) (by omega) (q 2 + lN (s 2) + lN (min a (m.1 8)))
  have k5 : ∀ x, (setL S4 203 (315 * i + 12) (q 2 + lN (s 2) + lN (min a (m.1 8)))).2 211 x = S1.2 211 x := fun x => by rw [setL_n (by omega)]; exact k4 x
  generalize setL S4 203 (315 * i + 12) (q 2 + lN (s 2) + lN (min a (m.1 8))) = S5 at hS5 o5 k5 ⊢
  rw [k5, c3]
  have fin : ∀ S6, RLn S6 203 i (pre a m).1 (pre a m).2.1 bs → (∀ x, S6.2 211 x = S1.2 211 x) → offP S S6 i → ∃ S', J_X8_pays_246 202 (nI i) S6 = some ((), S') ∧ RLn S' 203 i (pre a m).1 (pre a m).2.1 bs ∧ (∀ x, x < 3 → S'.2 211 x = lN (s x)) ∧ S'.2 211 3 = lN (min a (m.1 8)) ∧ S'.2 211 4 = lN (a - min a (m.1 8)) ∧ S'.2 211 5 = lN ((pre a m).1 9) ∧ offP S S' i := by
    intro S6 hS6 k6 o6
    obtain ⟨S', u1, u2, u3, u4, u5⟩ := J246_e hi hS6
    refine ⟨S', u1, u2, fun x hx => ?_, ?_, ?_, u3, o6.tr u5⟩
    · rw [u4 x (by omega), k6]; exact c1 x hx
    · rw [u4 3 (by omega), k6]; exact c3
    · rw [u4 4 (by omega), k6]; exact c4
  by_cases z : min a (m.1 8) = 0
  · rw [if_pos (by rw [z]; exact Int64.le_refl _)]
    have ep : pre a m = pre0 a m := by
      unfold pre
      rw [if_neg (fun y => by omega)]
    exact fin S5 (by rw [ep]; exact hS5) k5 o5
  · rw [if_neg (by rw [show (0 : Int64) = lN 0 from rfl, lN_le63 (by omega) (by omega)]; omega), mgk, show (5 : Int32) = nI 5 from rfl, at_e hi (by omega), cl_some, hS5.1 5 (by omega)]
    have e5' : (pre0 a m).1 5 = m.1 5 := rfl
    rw [e5']
    by_cases y : m.1 5 = 1
    · rw [y, if_neg (show ¬ ¬ lN 1 = 1 from fun z => z rfl), mgk]
      have ep : pre a m = relv (pre0 a m) := by
        unfold pre
        rw [if_pos ⟨by omega, y⟩]
      have gs : GS (pre0 a m).1 := by
        obtain ⟨g1, g2, g3, g4, g5, g6, g7, g8, g9, g10, _⟩ := hG
        exact ⟨g1, g2, g3, g4, g5, g6, g7, g8, by show m.1 8 - min a (m.1 8) ≤ _; omega, g10, trivial⟩
      obtain ⟨S6, v1, v2, v3⟩ := level_e hi hS5.rn gs
      rw [v1, cl_some]
      by_cases x : (pre0 a m).1 3 = 0 ∧ (pre0 a m).1 8 ≠ 0
      · have e6 := v2 x
        subst e6
        refine fin _ ?_ (fun y => by rw [setL_n (by omega)]; exact k5 y) (o5.L (by omega) _)
        rw [ep]
        unfold relv
        rw [if_pos x]
        exact rl_num hS5 hl (by omega) _
      · have e6 := v3 x
        subst e6
        refine fin _ ?_ k5 o5
        rw [ep]
        unfold relv
        rw [if_neg x]
        exact hS5
    · rw [if_pos (show ¬ lN (m.1 5) = 1 from fun z => y (by rw [show (1 : Int64) = lN 1 from rfl, lN_eq63 (by omega) (by omega)] at z; exact z))]
      have ep : pre a m = pre0 a m := by
        unfold pre
        rw [if_neg (fun z => y z.2)]
      exact fin S5 (by rw [ep]; exact hS5) k5 o5
theorem pays6_e (i1 : Int32) (a : Int64) : ∀ (j n x : Nat) (S : St), j < n → x + j = 6 → ∃ S', L_X8_pays_6 n 202 i1 a (nI x) S = L_X8_pays_27 6000 202 i1 a S' ∧ (∀ y, x ≤ y → y < 6 → S'.2 211 y = 0) ∧ (∀ y, y < x → S'.2 211 y = S.2 211 y) ∧ S'.1 = S.1 ∧ ∀ c, c ≠ 211 → S'.2 c = S.2 c
  | _, 0, _, _, h, _ => absurd h (Nat.not_lt_zero _)
  | 0, n + 1, x, S, _, hx => by
    refine ⟨S, ?_, fun y h1 h2 => by omega, fun _ _ => rfl, rfl, fun _ _ => rfl⟩
    show B_X8_pays_6 _ _ _ _ _ _ = _
    unfold B_X8_pays_6
    rw [if_pos (by rw [show (6 : Int32) = nI 6 from rfl, nI_leI (by omega) (by omega)]; omega)]
  | j + 1, n + 1, x, S, hn, hx => by
    obtain ⟨S', r1, r2, r3, r4, r5⟩ := pays6_e i1 a j n (x + 1) (setL S 211 x 0) (by omega) (by omega)
    refine ⟨S', ?_, fun y h1 h2 => ?_, fun y hy => ?_, r4, fun c hc => ?_⟩
    · show B_X8_pays_6 _ _ _ _ _ _ = _
      unfold B_X8_pays_6
      rw [if_neg (by rw [show (6 : Int32) = nI 6 from rfl, nI_leI (by omega) (by omega)]; omega), mR10, j_set _ (by omega), show nI x + 1 = nI (x + 1) from nI_1 x]
      exact r1
    · by_cases e : y = x
      · subst e
        rw [r3 y (by omega), setL_s]
      · exact r2 y (by omega) h2
    · rw [r3 y (by omega), setL_k (by omega)]
    · rw [r5 c hc, setL_n hc]
/-- a payment, in the reference -/
theorem pays_e (hi : i < 8) {l : Ln} {a : Nat} (hG : GD l) (ha : a ≤ 1000000000) (hS : RLn S 203 i l.1 l.2.1 (bls l)) : ∃ S', F_X8_pays 202 (nI i) (lN a) S = some ((), S') ∧ RLn S' 203 i (paid a l).1 (paid a l).2.1 (bls (paid a l)) ∧ S'.2 211 0 = lN (rp a (bls l)).1.1 ∧ S'.2 211 1 = lN (rp a (bls l)).1.2.1 ∧ S'.2 211 2 = lN (rp a (bls l)).1.2.2 ∧ S'.2 211 3 = lN (min (rp a (bls l)).2.1 (l.1 8)) ∧ S'.2 211 4 = lN (givenBack a l) ∧ S'.2 211 5 = lN ((paid a l).1 9) ∧ offP S S' i := by
  have hl := bls_len hG
  obtain ⟨S1, r1, r2, _, r4, r5⟩ := pays6_e (nI i) (lN a) 6 6000 0 S (by omega) (by omega)
  have hS1 : RLn S1 203 i l.1 l.2.1 (bls l) := by
    unfold RLn at *
    rw [r5 203 (by omega)]
    exact hS
  obtain ⟨S2, u1, u2, u3, u4⟩ := pays27_e hi (bls l) 6000 a (fun _ => 0) S1 (by omega) hl.2 (fun b hb => by
    obtain ⟨k, hk, e⟩ := List.mem_map.mp hb
    subst e
    have := hG.2.2.2.2.2.2.2.2.2.2.1 k
    exact ⟨this.1, this.2.1, this.2.2.1⟩) ha hS1 (fun x hx => r2 x (by omega) (by omega))
  have hrc := rcv_rp (l.1 7) 1 a l
  rw [← bls_bv] at hrc
  have hb := rcv_bls a l
  have hrl := rp_len (bls l) a
  have hgd := rcv_gd (l.1 7) 1 a l hG (Nat.le_refl 1) (by omega)
  have h1 := rcv_1 (l.1 7) 1 a l
  obtain ⟨S3, v1, v2, v3, v4, v5, v6, v7⟩ := J125_e hi (m := (rcv (l.1 7) 1 a l).2) (q := l.2.1) (bs := (rp a (bls l)).2.2) (s := fun x => if x = 0 then (rp a (bls l)).1.1 else if x = 1 then (rp a (bls l)).1.2.1 else (rp a (bls l)).1.2.2) (a := (rp a (bls l)).2.1) (by omega) hgd (by omega) (by rw [h1]; exact u2) hrc.2.1 hrc.2.2.1 hrc.2.2.2.1 (hrc.2.2.2.2 3 (by omega)) (fun x hx => by
    by_cases e0 : x = 0
    · subst e0; rw [if_pos rfl, u3.1, Nat.zero_add]
    · by_cases e1 : x = 1
      · subst e1; rw [if_neg e0, if_pos rfl, u3.2.1, Nat.zero_add]
      · have e2 : x = 2 := by omega
        subst e2
        rw [if_neg e0, if_neg e1, u3.2.2, Nat.zero_add])
  have ep : pre (rp a (bls l)).2.1 (rcv (l.1 7) 1 a l).2 = paid a l := by
    unfold paid
    rw [hb.2]
  rw [ep] at v2 v6
  rw [h1] at v4 v5
  refine ⟨S3, ?_, ?_, ?_, ?_, ?_, v4, ?_, v6, ?_⟩
  · unfold F_X8_pays
    have r1' : L_X8_pays_6 6000 202 (nI i) (lN a) 0 S = _ := r1
    rw [r1', u1, v1]
  · rw [paid_bls]
    exact v2
  · exact v3 0 (by omega)
  · exact v3 1 (by omega)
  · exact v3 2 (by omega)
  · rw [givenBack_e]; exact v5
  · refine offP.tr ?_ (u4.tr v7)
    exact ⟨r4, fun c _ hc => r5 c hc, fun j _ => by rw [r5 203 (by omega)]⟩
end RFQ
