/-! what a loan will ask -/
def fb (l : Ln) : Nat → Nat
  | 0 => l.1 8
  | q + 1 => fb l q - pk l (l.1 7 + q + 1) (fb l q) (ik l (l.1 7 + q + 1) (fb l q))
def fi (l : Ln) (q : Nat) : Nat := ik l (l.1 7 + q + 1) (fb l q)
def fp (l : Ln) (q : Nat) : Nat := pk l (l.1 7 + q + 1) (fb l q) (fi l q)
def fm (l : Ln) : Nat := l.1 4 - l.1 7
theorem fb_succ (l : Ln) (q : Nat) : fb l (q + 1) = fb l q - fp l q := rfl
theorem fb_le {l : Ln} (hG : GD l) : ∀ q, fb l q ≤ 100000000
  | 0 => hG.2.2.2.2.2.2.2.2.1
  | q + 1 => by
    have := fb_le hG q
    rw [fb_succ]
    omega
theorem fp_le (l : Ln) (q : Nat) : fp l q ≤ fb l q := pkl_le _ _ _ _
theorem fi_le {l : Ln} (hG : GD l) {q : Nat} (hq : q < fm l) : fi l q ≤ 50000000 := by
  unfold fm at hq
  exact (ik_le hG.gs (by omega) (by omega) (fb_le hG q)).1
/-- the class's plan -/
def PP (S : St) (l : Ln) (y : Nat) : Prop := S.2 183 (l.1 7 + y + 1) = lN (fi l y) ∧ S.2 184 (l.1 7 + y + 1) = lN (fp l y) ∧ S.2 185 (l.1 7 + y + 1) = lN (fb l (y + 1))
def PC (S : St) (l : Ln) : Prop := S.1 182 0 = nI (l.1 7) ∧ S.1 182 1 = nI (l.1 4) ∧ ∀ y, y < fm l → PP S l y
/-- the reference's -/
def PR (S : St) (l : Ln) (y : Nat) : Prop := S.1 207 y = nI (pe (l.1 6) (l.1 7 + y + 1)) ∧ S.2 208 y = lN (fi l y) ∧ S.2 209 y = lN (fp l y) ∧ S.2 210 y = lN (fb l (y + 1))
def RC (S : St) (l : Ln) : Prop := S.1 202 9 = nI (fm l) ∧ ∀ y, y < fm l → PR S l y
section PLN
variable {β : Type}
theorem kd182 : kd0 182 = (3, 0) := by decide +kernel
theorem kd183 : kd0 183 = (11, 61) := by decide +kernel
theorem kd184 : kd0 184 = (11, 61) := by decide +kernel
theorem kd185 : kd0 185 = (11, 61) := by decide +kernel
theorem kd207 : kd0 207 = (10, 60) := by decide +kernel
theorem kd208 : kd0 208 = (11, 60) := by decide +kernel
theorem kd209 : kd0 209 = (11, 60) := by decide +kernel
theorem kd210 : kd0 210 = (11, 60) := by decide +kernel
theorem pgk (x : Option β) : gk 182 3 x = x := by
  unfold gk
  rw [kd182]
  rfl
theorem pI0 (k : Nat) (S : St) (K : Int32 → Option β) : gI 3 k 182 S K = K (S.1 182 k) := by
  unfold gI
  rw [kd182]
  rfl
theorem ppI (k : Nat) (v : Int32) (S : St) (K : St → Option β) : pI 3 k 182 v S K = K (setI S 182 k v) := by
  unfold pI
  rw [kd182]
  rfl
theorem pr2 (K : Nat → Option β) : gR 3 2 182 K = K 183 := by
  unfold gR R0
  rw [kd182]
  rfl
theorem pr3 (K : Nat → Option β) : gR 3 3 182 K = K 184 := by
  unfold gR R0
  rw [kd182]
  rfl
theorem pr4 (K : Nat → Option β) : gR 3 4 182 K = K 185 := by
  unfold gR R0
  rw [kd182]
  rfl
theorem mR5 (K : Nat → Option β) : gR 6 5 202 K = K 207 := mgR rfl K
theorem mR6 (K : Nat → Option β) : gR 6 6 202 K = K 208 := mgR rfl K
theorem mR7 (K : Nat → Option β) : gR 6 7 202 K = K 209 := mgR rfl K
theorem mR8 (K : Nat → Option β) : gR 6 8 202 K = K 210 := mgR rfl K
end PLN
def offF (S S' : St) : Prop := ∀ a, (a < 182 ∨ 185 < a) → S'.1 a = S.1 a ∧ S'.2 a = S.2 a
theorem offF.K {S S' : St} (h : offF S S') : offK S S' := fun a ha => h a (by omega)
theorem follow_loop {c : Nat} {l : Ln} (hc : LC c) (hc2 : c ≤ 175) (hG : GD l) : ∀ (j n q : Nat) (S : St), j < n → q + j = fm l → CL S c l → S.1 182 0 = nI (l.1 7) → S.1 182 1 = nI (l.1 4) → (∀ y, y < q → PP S l y) → ∃ S', L_X5_follow_29 n 182 c (lN (fb l q)) (nI (l.1 7 + q + 1)) S = some ((), S') ∧ PC S' l ∧ offF S S'
  | _, 0, _, _, h, _, _, _, _, _ => absurd h (Nat.not_lt_zero _)
  | 0, n + 1, q, S, _, hq, hS, h0, h1, hp => by
    have hdn := hG.2.2.2.2.2.2.2.1
    have hm := hG.2.2.2.2.1
    have hfm : fm l = l.1 4 - l.1 7 := rfl
    refine ⟨S, ?_, ⟨h0, h1, fun y hy => hp y (by omega)⟩, fun _ _ => ⟨rfl, rfl⟩⟩
    show B_X5_follow_29 _ _ _ _ _ _ = _
    unfold B_X5_follow_29
    rw [pI0, h1, if_pos (by rw [nI_ltI (by omega) (by omega)]; omega)]
  | j + 1, n + 1, q, S, hn, hq, hS, h0, h1, hp => by
    have hdn := hG.2.2.2.2.2.2.2.1
    have hm := hG.2.2.2.2.1
    have hfm : fm l = l.1 4 - l.1 7 := rfl
    have hb := fb_le hG q
    have hi := fi_le hG (show q < fm l by omega)
    show ∃ S', B_X5_follow_29 _ _ _ _ _ _ = _ ∧ _
    unfold B_X5_follow_29
    rw [pI0, h1, if_neg (by rw [nI_ltI (by omega) (by omega)]; omega), pr2, lgk hc, interestOf_e hc hS hG.gs (by omega) (by omega) hb, cl_some, jS kd183 (by omega) (by omega)]
    have e1 : ik l (l.1 7 + q + 1) (fb l q) = fi l q := rfl
    rw [e1]
    have hS1 : CL (setL S 183 (l.1 7 + q + 1) (lN (fi l q))) c l := hS.same (fun x hx => ⟨rfl, setL_n (by omega)⟩)
    rw [pr3, pr2, jL kd183 (by omega) (by omega), setL_s, lgk hc, principalOf_e hc hS1 hG.gs (by omega) (by omega) hb (by omega), cl_some, jS kd184 (by omega) (by omega)]
    have e2 : pk l (l.1 7 + q + 1) (fb l q) (fi l q) = fp l q := rfl
    rw [e2, pr3, jL kd184 (by omega) (by omega), setL_s, lN_sub (fp_le l q), bd_e, ← fb_succ, pr4, jS kd185 (by omega) (by omega), show nI (l.1 7 + q + 1) + 1 = nI (l.1 7 + (q + 1) + 1) by rw [nI_1]; congr 1]
    have hS3 : CL (setL (setL (setL S 183 (l.1 7 + q + 1) (lN (fi l q))) 184 (l.1 7 + q + 1) (lN (fp l q))) 185 (l.1 7 + q + 1) (lN (fb l (q + 1)))) c l := hS.same (fun x hx => ⟨rfl, by rw [setL_n (by omega), setL_n (by omega), setL_n (by omega)]⟩)
    have o3 : offF S (setL (setL (setL S 183 (l.1 7 + q + 1) (lN (fi l q))) 184 (l.1 7 + q + 1) (lN (fp l q))) 185 (l.1 7 + q + 1) (lN (fb l (q + 1)))) := fun a ha => ⟨rfl, by rw [setL_n (by omega), setL_n (by omega), setL_n (by omega)]⟩
    have k1 : (setL (setL (setL S 183 (l.1 7 + q + 1) (lN (fi l q))) 184 (l.1 7 + q + 1) (lN (fp l q))) 185 (l.1 7 + q + 1) (lN (fb l (q + 1)))).1 = S.1 := rfl
    have hp3 : ∀ y, y < q + 1 → PP (setL (setL (setL S 183 (l.1 7 + q + 1) (lN (fi l q))) 184 (l.1 7 + q + 1) (lN (fp l q))) 185 (l.1 7 + q + 1) (lN (fb l (q + 1)))) l y := by
      intro y hy
      unfold PP
      rw [setL_n (show (183 : Nat) ≠ 185 by omega), setL_n (show (183 : Nat) ≠ 184 by omega), setL_n (show (184 : Nat) ≠ 185 by omega)]
      by_cases e : y = q
      · subst e
        rw [setL_s, setL_s, setL_s]
        exact ⟨rfl, rfl, rfl⟩
      · have g := hp y (by omega)
        unfold PP at g
        rw [setL_k (by omega), setL_k (by omega), setL_k (by omega), setL_n (show (184 : Nat) ≠ 183 by omega), setL_n (show (185 : Nat) ≠ 184 by omega), setL_n (show (185 : Nat) ≠ 183 by omega)]
        exact g
    generalize setL (setL (setL S 183 (l.1 7 + q + 1) (lN (fi l q))) 184 (l.1 7 + q + 1) (lN (fp l q))) 185 (l.1 7 + q + 1) (lN (fb l (q + 1))) = S3 at hS3 o3 k1 hp3 ⊢
    obtain ⟨S', r1, r2, r3⟩ := follow_loop hc hc2 hG j n (q + 1) S3 (by omega) (by omega) hS3 (by rw [k1]; exact h0) (by rw [k1]; exact h1) hp3
    exact ⟨S', r1, r2, fun a ha => ⟨(r3 a ha).1.trans (o3 a ha).1, (r3 a ha).2.trans (o3 a ha).2⟩⟩
theorem follow_e {c : Nat} {l : Ln} {S : St} (hc : LC c) (hc2 : c ≤ 175) (hG : GD l) (hS : CL S c l) : ∃ S', F_X5_follow 182 c S = some ((), S') ∧ PC S' l ∧ offF S S' := by
  have hdn := hG.2.2.2.2.2.2.2.1
  have hm := hG.2.2.2.2.1
  have hfm : fm l = l.1 4 - l.1 7 := rfl
  unfold F_X5_follow
  have hS1 : CL (setI S 182 0 (nI (l.1 7))) c l := hS.same (fun x hx => ⟨setI_n (by omega), rfl⟩)
  have hS2 : CL (setI (setI S 182 0 (nI (l.1 7))) 182 1 (nI (l.1 4))) c l := hS.same (fun x hx => ⟨by rw [setI_n (by omega), setI_n (by omega)], rfl⟩)
  rw [lI hc, hS.2.1.2.2.2.2.2, ppI, lI hc, hS1.2.1.2.2.2.2.1, ppI, lL hc, hS2.1.2.1, pI0, setI_k (by omega), setI_s, bd_e, nI_1]
  have o2 : offF S (setI (setI S 182 0 (nI (l.1 7))) 182 1 (nI (l.1 4))) := fun a ha => ⟨by rw [setI_n (by omega), setI_n (by omega)], rfl⟩
  obtain ⟨S', r1, r2, r3⟩ := follow_loop hc hc2 hG (fm l) 6000 0 _ (by omega) (by omega) hS2 (by rw [setI_k (by omega), setI_s]) setI_s (fun y hy => by omega)
  exact ⟨S', r1, r2, fun a ha => ⟨(r3 a ha).1.trans (o2 a ha).1, (r3 a ha).2.trans (o2 a ha).2⟩⟩
/-- comes changes these -/
def offC (S S' : St) : Prop := (∀ a, a ≠ 202 → a ≠ 207 → S'.1 a = S.1 a) ∧ (∀ k, k ≠ 9 → S'.1 202 k = S.1 202 k) ∧ ∀ a, (a < 208 ∨ 210 < a) → S'.2 a = S.2 a
theorem offC.Q {S S' : St} (h : offC S S') : offQ S S' := ⟨h.1, h.2.1, fun a ha => h.2.2 a (by omega)⟩
theorem comes_loop {i : Nat} {l : Ln} (hi8 : i < 8) (hG : GD l) {bs : List Bl} : ∀ (j n q : Nat) (S : St), j < n → q + j = fm l → RLn S 203 i l.1 l.2.1 bs → S.1 202 9 = nI (fm l) → (∀ y, y < q → PR S l y) → ∃ S', L_X8_comes_33 n 202 (nI i) (nI (l.1 7)) (lN (fb l q)) (nI q) S = some ((), S') ∧ RC S' l ∧ offC S S'
  | _, 0, _, _, h, _, _, _, _ => absurd h (Nat.not_lt_zero _)
  | 0, n + 1, q, S, _, hq, hS, h0, hp => by
    have hdn := hG.2.2.2.2.2.2.2.1
    have hm := hG.2.2.2.2.1
    have hfm : fm l = l.1 4 - l.1 7 := rfl
    refine ⟨S, ?_, ⟨h0, fun y hy => hp y (by omega)⟩, ⟨fun _ _ _ => rfl, fun _ _ => rfl, fun _ _ => rfl⟩⟩
    show B_X8_comes_33 _ _ _ _ _ _ _ = _
    unfold B_X8_comes_33
    rw [mI, h0, if_pos (by rw [nI_leI (by omega) (by omega)]; omega)]
  | j + 1, n + 1, q, S, hn, hq, hS, h0, hp => by
    have hdn := hG.2.2.2.2.2.2.2.1
    have hm := hG.2.2.2.2.1
    have hfm : fm l = l.1 4 - l.1 7 := rfl
    have hb := fb_le hG q
    have hi := fi_le hG (show q < fm l by omega)
    show ∃ S', B_X8_comes_33 _ _ _ _ _ _ _ = _ ∧ _
    unfold B_X8_comes_33
    rw [mI, h0, if_neg (by rw [nI_leI (by omega) (by omega)]; omega), mR5, mgk, nI_add, nI_1, endOf_e hi8 hS.rn hG.gs (by omega), cl_some, jSI kd207 (by omega) (by omega)]
    have hS1 : RLn (setI S 207 q (nI (pe (l.1 6) (l.1 7 + q + 1)))) 203 i l.1 l.2.1 bs := hS
    rw [mR6, mgk, periodInterest_e hi8 hS1.rn hG.gs (by omega) hb, cl_some, jS kd208 (by omega) (by omega)]
    have e1 : ik l (l.1 7 + q + 1) (fb l q) = fi l q := rfl
    rw [e1]
    have hS2 : RLn (setL (setI S 207 q (nI (pe (l.1 6) (l.1 7 + q + 1)))) 208 q (lN (fi l q))) 203 i l.1 l.2.1 bs := by
      unfold RLn at *
      rw [setL_n (by omega)]
      exact hS
    rw [mR7, mR6, jL kd208 (by omega) (by omega), setL_s, mgk, refPrincipalOf_e hi8 hS2.rn hG.gs (by omega) hb (by omega), cl_some, jS kd209 (by omega) (by omega)]
    have e2 : pk l (l.1 7 + q + 1) (fb l q) (fi l q) = fp l q := rfl
    rw [e2, mR7, jL kd209 (by omega) (by omega), setL_s, lN_sub (fp_le l q), bd_e, ← fb_succ, mR8, jS kd210 (by omega) (by omega), nI_1]
    have hS3 : RLn (setL (setL (setL (setI S 207 q (nI (pe (l.1 6) (l.1 7 + q + 1)))) 208 q (lN (fi l q))) 209 q (lN (fp l q))) 210 q (lN (fb l (q + 1)))) 203 i l.1 l.2.1 bs := by
      unfold RLn at *
      rw [setL_n (by omega), setL_n (by omega), setL_n (by omega)]
      exact hS
    have o3 : offC S (setL (setL (setL (setI S 207 q (nI (pe (l.1 6) (l.1 7 + q + 1)))) 208 q (lN (fi l q))) 209 q (lN (fp l q))) 210 q (lN (fb l (q + 1)))) := ⟨fun a _ ha => setI_n ha, fun k _ => by show (setI S 207 q (nI (pe (l.1 6) (l.1 7 + q + 1)))).1 202 k = _; rw [setI_n (by omega)], fun a ha => by rw [setL_n (by omega), setL_n (by omega), setL_n (by omega)]; rfl⟩
    have hp3 : ∀ y, y < q + 1 → PR (setL (setL (setL (setI S 207 q (nI (pe (l.1 6) (l.1 7 + q + 1)))) 208 q (lN (fi l q))) 209 q (lN (fp l q))) 210 q (lN (fb l (q + 1)))) l y := by
      intro y hy
      unfold PR
      show (setI S 207 q (nI (pe (l.1 6) (l.1 7 + q + 1)))).1 207 y = _ ∧ _
      rw [setL_n (show (208 : Nat) ≠ 210 by omega), setL_n (show (208 : Nat) ≠ 209 by omega), setL_n (show (209 : Nat) ≠ 210 by omega)]
      by_cases e : y = q
      · subst e
        rw [setI_s, setL_s, setL_s, setL_s]
        exact ⟨rfl, rfl, rfl, rfl⟩
      · have g := hp y (by omega)
        unfold PR at g
        rw [setI_k (by omega), setL_k (by omega), setL_k (by omega), setL_k (by omega), setL_n (show (209 : Nat) ≠ 208 by omega), setL_n (show (210 : Nat) ≠ 209 by omega), setL_n (show (210 : Nat) ≠ 208 by omega)]
        exact g
    have k9 : (setL (setL (setL (setI S 207 q (nI (pe (l.1 6) (l.1 7 + q + 1)))) 208 q (lN (fi l q))) 209 q (lN (fp l q))) 210 q (lN (fb l (q + 1)))).1 202 9 = nI (fm l) := by
      show (setI S 207 q (nI (pe (l.1 6) (l.1 7 + q + 1)))).1 202 9 = _
      rw [setI_n (by omega)]
      exact h0
    generalize setL (setL (setL (setI S 207 q (nI (pe (l.1 6) (l.1 7 + q + 1)))) 208 q (lN (fi l q))) 209 q (lN (fp l q))) 210 q (lN (fb l (q + 1))) = S3 at hS3 o3 hp3 k9 ⊢
    obtain ⟨S', r1, r2, r3⟩ := comes_loop hi8 hG j n (q + 1) S3 (by omega) (by omega) hS3 k9 hp3
    exact ⟨S', r1, r2, ⟨fun a h1 h2 => (r3.1 a h1 h2).trans (o3.1 a h1 h2), fun k hk => (r3.2.1 k hk).trans (o3.2.1 k hk), fun a ha => (r3.2.2 a ha).trans (o3.2.2 a ha)⟩⟩
theorem comes_e {i : Nat} {l : Ln} {S : St} {bs : List Bl} (hi8 : i < 8) (hG : GD l) (hS : RLn S 203 i l.1 l.2.1 bs) : ∃ S', F_X8_comes 202 (nI i) S = some ((), S') ∧ RC S' l ∧ offC S S' := by
  have hdn := hG.2.2.2.2.2.2.2.1
  have hm := hG.2.2.2.2.1
  have hfm : fm l = l.1 4 - l.1 7 := rfl
  unfold F_X8_comes
  have hS1 : RLn (setI S 202 9 (nI (l.1 4 - l.1 7))) 203 i l.1 l.2.1 bs := hS
  rw [mgk, fa_lit 7, at_e hi8 (by omega), cl_some, hS.1 7 (by omega), lN_i32, bd_e, mgk, fa_lit 4, at_e hi8 (by omega), cl_some, hS.1 4 (by omega), lN_i32, pk_sub (by omega), mpI, mgk, fa_lit 8, at_e hi8 (by omega), cl_some, hS1.1 8 (by omega)]
  obtain ⟨S', r1, r2, r3⟩ := comes_loop hi8 hG (fm l) 6000 0 (setI S 202 9 (nI (l.1 4 - l.1 7))) (by omega) (by omega) hS1 setI_s (fun y hy => by omega)
  refine ⟨S', r1, r2, ⟨fun a h1 h2 => ?_, fun k hk => ?_, fun a ha => r3.2.2 a ha⟩⟩
  · rw [r3.1 a h1 h2, setI_n h1]
  · rw [r3.2.1 k hk, setI_k hk]
