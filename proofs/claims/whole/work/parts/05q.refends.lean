/-! the reference: a period ends; fees -/
theorem RLn.rn {S : St} {i : Nat} {f : Nat → Nat} {q : Nat → Int64} {bs : List (Nat × Nat × Nat × Nat × Nat)} (h : RLn S 203 i f q bs) : RN S i f := h.1
theorem RLn.off {S S' : St} {G i : Nat} {f : Nat → Nat} {q : Nat → Int64} {bs : List (Nat × Nat × Nat × Nat × Nat)} (h : RLn S G i f q bs) (hb : bs.length ≤ 60) (hf : ∀ j, 315 * i ≤ j → j < 315 * i + 315 → S'.2 G j = S.2 G j) : RLn S' G i f q bs := by
  obtain ⟨h1, h2, h3, h4⟩ := h
  refine ⟨fun w hw => ?_, fun w hw => ?_, ?_, fun j b hj => ?_⟩
  · rw [hf _ (by omega) (by omega)]; exact h1 w hw
  · rw [hf _ (by omega) (by omega)]; exact h2 w hw
  · rw [hf _ (by omega) (by omega)]; exact h3
  · have hl := (List.getElem?_eq_some_iff.mp hj).1
    have := h4 j b hj
    rw [hf _ (by omega) (by omega), hf _ (by omega) (by omega), hf _ (by omega) (by omega), hf _ (by omega) (by omega), hf _ (by omega) (by omega)]
    exact this
section RLE
variable {S : St} {i : Nat} {f : Nat → Nat} {q : Nat → Int64} {bs : List (Nat × Nat × Nat × Nat × Nat)}
theorem rl_num (h : RLn S 203 i f q bs) (hb : bs.length ≤ 60) {w : Nat} (hw : w < 10) (v : Nat) : RLn (setL S 203 (315 * i + w) (lN v)) 203 i (up f w v) q bs := by
  obtain ⟨h1, h2, h3, h4⟩ := h
  refine ⟨fun x hx => ?_, fun x hx => ?_, ?_, fun j b hj => ?_⟩
  · by_cases e : x = w
    · subst e
      rw [setL_s, up_s]
    · rw [setL_k (by omega), up_n _ _ e]
      exact h1 x hx
  · rw [setL_k (by omega)]; exact h2 x hx
  · rw [setL_k (by omega)]; exact h3
  · have hl := (List.getElem?_eq_some_iff.mp hj).1
    have := h4 j b hj
    rw [setL_k (by omega), setL_k (by omega), setL_k (by omega), setL_k (by omega), setL_k (by omega)]
    exact this
theorem rl_got (h : RLn S 203 i f q bs) (hb : bs.length ≤ 60) {w : Nat} (hw : w < 4) (v : Int64) : RLn (setL S 203 (315 * i + (10 + w)) v) 203 i f (up q w v) bs := by
  obtain ⟨h1, h2, h3, h4⟩ := h
  refine ⟨fun x hx => ?_, fun x hx => ?_, ?_, fun j b hj => ?_⟩
  · rw [setL_k (by omega)]; exact h1 x hx
  · by_cases e : x = w
    · subst e
      rw [← Nat.add_assoc, setL_s, up_s]
    · rw [setL_k (by omega), up_n _ _ e]
      exact h2 x hx
  · rw [setL_k (by omega)]; exact h3
  · have hl := (List.getElem?_eq_some_iff.mp hj).1
    have := h4 j b hj
    rw [setL_k (by omega), setL_k (by omega), setL_k (by omega), setL_k (by omega), setL_k (by omega)]
    exact this
/-- one more bill, behind all -/
theorem rl_push (h : RLn S 203 i f q bs) (hb : bs.length < 60) (d x y z m : Nat) : RLn (setL (setL (setL (setL (setL (setL S 203 (315 * i + (15 + 5 * bs.length)) (lN d)) 203 (315 * i + (15 + 5 * bs.length + 1)) (lN x)) 203 (315 * i + (15 + 5 * bs.length + 2)) (lN y)) 203 (315 * i + (15 + 5 * bs.length + 3)) (lN z)) 203 (315 * i + (15 + 5 * bs.length + 4)) (lN m)) 203 (315 * i + 14) (lN (bs.length + 1))) 203 i f q (bs ++ [(d, x, y, z, m)]) := by
  obtain ⟨h1, h2, h3, h4⟩ := h
  refine ⟨fun w hw => ?_, fun w hw => ?_, ?_, fun j b hj => ?_⟩
  · rw [setL_k (by omega), setL_k (by omega), setL_k (by omega), setL_k (by omega), setL_k (by omega), setL_k (by omega)]; exact h1 w hw
  · rw [setL_k (by omega), setL_k (by omega), setL_k (by omega), setL_k (by omega), setL_k (by omega), setL_k (by omega)]; exact h2 w hw
  · rw [setL_s, List.length_append]
    rfl
  · have hl := (List.getElem?_eq_some_iff.mp hj).1
    rw [List.length_append] at hl
    have hl' : j < bs.length + 1 := hl
    by_cases e : j = bs.length
    · subst e
      rw [List.getElem?_append_right (Nat.le_refl _), Nat.sub_self] at hj
      cases hj
      refine ⟨?_, ?_, ?_, ?_, ?_⟩
      · rw [setL_k (by omega), setL_k (by omega), setL_k (by omega), setL_k (by omega), setL_k (by omega), show 315 * i + 15 + 5 * bs.length = 315 * i + (15 + 5 * bs.length) by omega, setL_s]
      · rw [setL_k (by omega), setL_k (by omega), setL_k (by omega), setL_k (by omega), show 315 * i + 15 + 5 * bs.length + 1 = 315 * i + (15 + 5 * bs.length + 1) by omega, setL_s]
      · rw [setL_k (by omega), setL_k (by omega), setL_k (by omega), show 315 * i + 15 + 5 * bs.length + 2 = 315 * i + (15 + 5 * bs.length + 2) by omega, setL_s]
      · rw [setL_k (by omega), setL_k (by omega), show 315 * i + 15 + 5 * bs.length + 3 = 315 * i + (15 + 5 * bs.length + 3) by omega, setL_s]
      · rw [setL_k (by omega), show 315 * i + 15 + 5 * bs.length + 4 = 315 * i + (15 + 5 * bs.length + 4) by omega, setL_s]
    · rw [List.getElem?_append_left (by omega)] at hj
      have := h4 j b hj
      refine ⟨?_, ?_, ?_, ?_, ?_⟩
      · rw [setL_k (by omega), setL_k (by omega), setL_k (by omega), setL_k (by omega), setL_k (by omega), setL_k (by omega)]; exact this.1
      · rw [setL_k (by omega), setL_k (by omega), setL_k (by omega), setL_k (by omega), setL_k (by omega), setL_k (by omega)]; exact this.2.1
      · rw [setL_k (by omega), setL_k (by omega), setL_k (by omega), setL_k (by omega), setL_k (by omega), setL_k (by omega)]; exact this.2.2.1
      · rw [setL_k (by omega), setL_k (by omega), setL_k (by omega), setL_k (by omega), setL_k (by omega), setL_k (by omega)]; exact this.2.2.2.1
      · rw [setL_k (by omega), setL_k (by omega), setL_k (by omega), setL_k (by omega), setL_k (by omega), setL_k (by omega)]; exact this.2.2.2.2
/-- one number of a bill -/
theorem rl_bill (h : RLn S 203 i f q bs) (hb : bs.length ≤ 60) {j : Nat} {b b' : Nat × Nat × Nat × Nat × Nat} (hj : bs[j]? = some b) {t v : Nat} (ht : t < 5) (h0 : t ≠ 0 → b'.1 = b.1) (h1 : t ≠ 1 → b'.2.1 = b.2.1) (h2 : t ≠ 2 → b'.2.2.1 = b.2.2.1) (h3 : t ≠ 3 → b'.2.2.2.1 = b.2.2.2.1) (h4 : t ≠ 4 → b'.2.2.2.2 = b.2.2.2.2) (e0 : t = 0 → b'.1 = v) (e1 : t = 1 → b'.2.1 = v) (e2 : t = 2 → b'.2.2.1 = v) (e3 : t = 3 → b'.2.2.2.1 = v) (e4 : t = 4 → b'.2.2.2.2 = v) : RLn (setL S 203 (315 * i + (15 + 5 * j + t)) (lN v)) 203 i f q (bs.set j b') := by
  obtain ⟨q1, q2, q3, q4⟩ := h
  have hl := (List.getElem?_eq_some_iff.mp hj).1
  refine ⟨fun w hw => ?_, fun w hw => ?_, ?_, fun x y hx => ?_⟩
  · rw [setL_k (by omega)]; exact q1 w hw
  · rw [setL_k (by omega)]; exact q2 w hw
  · rw [setL_k (by omega), List.length_set]; exact q3
  · by_cases e : x = j
    · subst e
      rw [List.getElem?_set_self hl] at hx
      cases hx
      have g := q4 x b hj
      refine ⟨?_, ?_, ?_, ?_, ?_⟩
      · by_cases e : t = 0
        · rw [sL2, if_pos ⟨rfl, by omega⟩, e0 e]
        · rw [setL_k (by omega), h0 e]; exact g.1
      · by_cases e : t = 1
        · rw [sL2, if_pos ⟨rfl, by omega⟩, e1 e]
        · rw [setL_k (by omega), h1 e]; exact g.2.1
      · by_cases e : t = 2
        · rw [sL2, if_pos ⟨rfl, by omega⟩, e2 e]
        · rw [setL_k (by omega), h2 e]; exact g.2.2.1
      · by_cases e : t = 3
        · rw [sL2, if_pos ⟨rfl, by omega⟩, e3 e]
        · rw [setL_k (by omega), h3 e]; exact g.2.2.2.1
      · by_cases e : t = 4
        · rw [sL2, if_pos ⟨rfl, by omega⟩, e4 e]
        · rw [setL_k (by omega), h4 e]; exact g.2.2.2.2
    · rw [List.getElem?_set_ne (Ne.symm e)] at hx
      have hlx := (List.getElem?_eq_some_iff.mp hx).1
      have g := q4 x y hx
      rw [setL_k (by omega), setL_k (by omega), setL_k (by omega), setL_k (by omega), setL_k (by omega)]
      exact g
end RLE
section RLF
variable {S : St} {i : Nat} {l : Ln} {bs : List (Nat × Nat × Nat × Nat × Nat)}
/-- a period ends, in the reference -/
theorem ends_e (hi : i < 8) (hS : RLn S 203 i l.1 l.2.1 bs) (hG : GD l) (hd : l.1 7 < l.1 4) (hlen : bs.length ≤ l.1 7) {D : Nat} (hD : S.2 203 2521 = lN D) : ∃ S', F_X8_ends 202 (nI i) S = some (if ik l (l.1 7 + 1) (l.1 8) + pk l (l.1 7 + 1) (l.1 8) (ik l (l.1 7 + 1) (l.1 8)) = 0 then 0 else 1, S') ∧ RLn S' 203 i (ep1 l).1 (ep1 l).2.1 (if ik l (l.1 7 + 1) (l.1 8) + pk l (l.1 7 + 1) (l.1 8) (ik l (l.1 7 + 1) (l.1 8)) = 0 then bs else bs ++ [(D, ik l (l.1 7 + 1) (l.1 8), pk l (l.1 7 + 1) (l.1 8) (ik l (l.1 7 + 1) (l.1 8)), 0, 0)]) ∧ offG S S' i := by
  have hm := hG.2.2.2.2.1
  have hb := hG.2.2.2.2.2.2.2.2.1
  have hi1 := (ik_le hG.gs (k := l.1 7 + 1) (by omega) (by omega) hb).1
  have hp := pkl_le l (l.1 7 + 1) (l.1 8) (ik l (l.1 7 + 1) (l.1 8))
  have e1 : (ep1 l).1 = up (up l.1 8 (l.1 8 - pk l (l.1 7 + 1) (l.1 8) (ik l (l.1 7 + 1) (l.1 8)))) 7 (l.1 7 + 1) := rfl
  have e2 : (ep1 l).2.1 = l.2.1 := rfl
  rw [e1, e2]
  unfold F_X8_ends
  rw [mgk, show (7 : Int32) = nI 7 from rfl, at_e hi (by omega), cl_some, hS.1 7 (by omega), lN_i32, bd_e, mgk, show (8 : Int32) = nI 8 from rfl, at_e hi (by omega), cl_some, hS.1 8 (by omega), mgk, periodInterest_e hi hS.rn hG.gs hd hb, cl_some, mgk, refPrincipalOf_e hi hS.rn hG.gs hd hb (by omega), cl_some]
  generalize ik l (l.1 7 + 1) (l.1 8) = x at hi1 hp ⊢
  generalize pk l (l.1 7 + 1) (l.1 8) x = y at hp ⊢
  rw [mgk, show nI (l.1 7) + 1 = nI (l.1 7 + 1) from nI_1 _, wide_nI (by omega), sets_e hi (by omega), cl_some, mgk, lN_sub hp, sets_e hi (by omega), cl_some]
  have hS2 : RLn (setL (setL S 203 (315 * i + 7) (lN (l.1 7 + 1))) 203 (315 * i + 8) (lN (l.1 8 - y))) 203 i (up (up l.1 8 (l.1 8 - y)) 7 (l.1 7 + 1)) l.2.1 bs := by
    have h9 := rl_num (rl_num hS (by omega) (w := 7) (by omega) (l.1 7 + 1)) (by omega) (w := 8) (by omega) (l.1 8 - y)
    have e : up (up l.1 7 (l.1 7 + 1)) 8 (l.1 8 - y) = up (up l.1 8 (l.1 8 - y)) 7 (l.1 7 + 1) := by
      funext w
      unfold up
      by_cases h7 : w = 7
      · subst h7; simp
      · by_cases h8 : w = 8
        · subst h8; simp
        · simp [h7, h8]
    rw [e] at h9
    exact h9
  have o2 := ((offG.rf S i).L (w := 7) (by omega) (lN (l.1 7 + 1))).L (w := 8) (by omega) (lN (l.1 8 - y))
  have hD2 : (setL (setL S 203 (315 * i + 7) (lN (l.1 7 + 1))) 203 (315 * i + 8) (lN (l.1 8 - y))).2 203 2521 = lN D := by
    rw [setL_k (by omega), setL_k (by omega)]; exact hD
  generalize setL (setL S 203 (315 * i + 7) (lN (l.1 7 + 1))) 203 (315 * i + 8) (lN (l.1 8 - y)) = S2 at hS2 o2 hD2 ⊢
  rw [lN_add]
  by_cases h0 : x + y = 0
  · rw [h0, if_neg (fun z => z rfl), if_pos rfl]
    exact ⟨S2, rfl, hS2, o2⟩
  · rw [if_pos (show ¬ lN (x + y) = 0 from fun z => h0 (by rw [show (0 : Int64) = lN 0 from rfl, lN_eq63 (by omega) (by omega)] at z; exact z)), if_neg h0, if_neg h0, mgk, show (14 : Int32) = nI 14 from rfl, at_e hi (by omega), cl_some, hS2.2.2.1, lN_i32, bd_e, show (15 : Int32) + (5 : Int32) * nI bs.length = nI (15 + 5 * bs.length) by rw [show (15 : Int32) = nI 15 from rfl, show (5 : Int32) = nI 5 from rfl, pk_mul, nI_add], mR0, fa_lit 2521, g_at _ (by omega), hD2]
    rw [mgk, sets_e hi (by omega), cl_some, mgk, show nI (15 + 5 * bs.length) + 1 = nI (15 + 5 * bs.length + 1) from nI_1 _, sets_e hi (by omega), cl_some, mgk, show nI (15 + 5 * bs.length) + 2 = nI (15 + 5 * bs.length + 2) from nI_add _ 2, sets_e hi (by omega), cl_some, mgk, show nI (15 + 5 * bs.length) + 3 = nI (15 + 5 * bs.length + 3) from nI_add _ 3, sets_e hi (by omega), cl_some, mgk, show nI (15 + 5 * bs.length) + 4 = nI (15 + 5 * bs.length + 4) from nI_add _ 4, sets_e hi (by omega), cl_some, mgk, at_e hi (by omega), cl_some]
    have e14 : (setL (setL (setL (setL (setL S2 203 (315 * i + (15 + 5 * bs.length)) (lN D)) 203 (315 * i + (15 + 5 * bs.length + 1)) (lN x)) 203 (315 * i + (15 + 5 * bs.length + 2)) (lN y)) 203 (315 * i + (15 + 5 * bs.length + 3)) 0) 203 (315 * i + (15 + 5 * bs.length + 4)) 0).2 203 (315 * i + 14) = lN bs.length := by
      rw [setL_k (by omega), setL_k (by omega), setL_k (by omega), setL_k (by omega), setL_k (by omega)]
      exact hS2.2.2.1
    rw [e14, mgk, show (1 : Int64) = lN 1 from rfl, lN_add, sets_e hi (by omega), cl_some]
    refine ⟨_, rfl, rl_push hS2 (by omega) D x y 0 0, ?_⟩
    exact (((((o2.L (by omega) _).L (by omega) _).L (by omega) _).L (by omega) _).L (by omega) _).L (by omega) _
/-- fees of one day, on bills -/
def feB (D g fee : Nat) (b : Nat × Nat × Nat × Nat × Nat) : Nat × Nat × Nat × Nat × Nat := if b.2.2.2.2 = 0 ∧ b.1 + g = D then (b.1, b.2.1, b.2.2.1, fee, 1) else b
theorem fees_loop (hi : i < 8) {D g fee : Nat} (hD9 : D ≤ 40000) (hg : g ≤ 90) (f : Nat → Nat) (q : Nat → Int64) : ∀ (j n x : Nat) (S : St) (bs : List (Nat × Nat × Nat × Nat × Nat)), j < n → x + j = bs.length → bs.length ≤ 60 → (∀ b ∈ bs, b.1 ≤ 40000 ∧ b.2.2.2.2 ≤ 1) → RLn S 203 i f q bs → S.2 203 2521 = lN D → S.2 203 2522 = lN g → S.2 203 2523 = lN fee → ∃ S', L_X8_fees_2 n 202 (nI i) (nI x) S = some ((), S') ∧ RLn S' 203 i f q (bs.take x ++ (bs.drop x).map (feB D g fee)) ∧ offG S S' i
  | _, 0, _, _, _, h, _, _, _, _, _, _, _ => absurd h (Nat.not_lt_zero _)
  | 0, n + 1, x, S, bs, _, hx, hl, _, hS, h1, h2, h3 => by
    refine ⟨S, ?_, ?_, offG.rf S i⟩
    · show B_X8_fees_2 _ _ _ _ _ = _
      unfold B_X8_fees_2
      rw [mgk, show (14 : Int32) = nI 14 from rfl, at_e hi (by omega), cl_some, hS.2.2.1, wide_nI (by omega), if_pos (by rw [lN_le63 (by omega) (by omega)]; omega)]
    · rw [List.take_of_length_le (by omega), List.drop_of_length_le (by omega)]
      simp
      exact hS
  | j + 1, n + 1, x, S, bs, hn, hx, hl, hbd, hS, h1, h2, h3 => by
    have hxl : x < bs.length := by omega
    obtain ⟨b, hb⟩ : ∃ b, bs[x]? = some b := ⟨_, List.getElem?_eq_getElem hxl⟩
    have hbm := hbd b (List.mem_of_getElem? hb)
    have g4 := hS.2.2.2 x b hb
    have hdrop : bs.drop x = b :: bs.drop (x + 1) := by
      rw [List.drop_eq_getElem_cons hxl]
      congr 1
      rw [List.getElem?_eq_getElem hxl] at hb
      exact Option.some.inj hb
    show ∃ S', B_X8_fees_2 _ _ _ _ _ = _ ∧ _
    unfold B_X8_fees_2 J_X8_fees_87
    rw [mgk, show (14 : Int32) = nI 14 from rfl, at_e hi (by omega), cl_some, hS.2.2.1, wide_nI (by omega), if_neg (by rw [lN_le63 (by omega) (by omega)]; omega), show (15 : Int32) + (5 : Int32) * nI x = nI (15 + 5 * x) by rw [show (15 : Int32) = nI 15 from rfl, show (5 : Int32) = nI 5 from rfl, pk_mul, nI_add], bd_e, mgk, show nI (15 + 5 * x) + 4 = nI (15 + 5 * x + 4) from nI_add _ 4, at_e hi (by omega), cl_some, show 315 * i + (15 + 5 * x + 4) = 315 * i + 15 + 5 * x + 4 by omega, g4.2.2.2.2, show nI x + 1 = nI (x + 1) from nI_1 x]
    have keep : feB D g fee b = b → ∃ S', L_X8_fees_2 n 202 (nI i) (nI (x + 1)) S = some ((), S') ∧ RLn S' 203 i f q (bs.take x ++ (bs.drop x).map (feB D g fee)) ∧ offG S S' i := by
      intro hfe
      obtain ⟨S', r1, r2, r3⟩ := fees_loop hi hD9 hg f q j n (x + 1) S bs (by omega) (by omega) hl hbd hS h1 h2 h3
      refine ⟨S', r1, ?_, r3⟩
      have e : bs.take (x + 1) ++ (bs.drop (x + 1)).map (feB D g fee) = bs.take x ++ (bs.drop x).map (feB D g fee) := by
        rw [hdrop, List.map_cons, hfe, List.take_succ, hb]
        simp
      rw [← e]
      exact r2
    by_cases q1 : b.2.2.2.2 = 0
    · rw [q1, if_neg (fun z => z rfl), mR0, fa_lit 2521, g_at _ (by omega), h1, mgk, at_e hi (by omega), cl_some, show 315 * i + (15 + 5 * x) = 315 * i + 15 + 5 * x by omega, g4.1, mR0, fa_lit 2522, g_at _ (by omega), h2]
      by_cases q2 : b.1 + g = D
      · rw [if_neg (show ¬ ¬ lN D - lN b.1 = lN g from fun z => z (by rw [lN_sub (by omega)]; congr 1; omega)), mR0, fa_lit 2523, g_at _ (by omega), h3, mgk, show nI (15 + 5 * x) + 3 = nI (15 + 5 * x + 3) from nI_add _ 3, sets_e hi (by omega), cl_some, mgk, sets_e hi (by omega), cl_some]
        have hS1 := rl_bill hS hl hb (b' := (b.1, b.2.1, b.2.2.1, fee, b.2.2.2.2)) (t := 3) (v := fee) (by omega) (fun _ => rfl) (fun _ => rfl) (fun _ => rfl) (fun z => absurd rfl z) (fun _ => rfl) (fun z => by omega) (fun z => by omega) (fun z => by omega) (fun _ => rfl) (fun z => by omega)
        have hb1 : (bs.set x (b.1, b.2.1, b.2.2.1, fee, b.2.2.2.2))[x]? = some (b.1, b.2.1, b.2.2.1, fee, b.2.2.2.2) := List.getElem?_set_self hxl
        have hS2 := rl_bill hS1 (by rw [List.length_set]; exact hl) hb1 (b' := (b.1, b.2.1, b.2.2.1, fee, 1)) (t := 4) (v := 1) (by omega) (fun _ => rfl) (fun _ => rfl) (fun _ => rfl) (fun _ => rfl) (fun z => absurd rfl z) (fun z => by omega) (fun z => by omega) (fun z => by omega) (fun z => by omega) (fun _ => rfl)
        rw [List.set_set] at hS2
        have o2 := ((offG.rf S i).L (w := 15 + 5 * x + 3) (by omega) (lN fee)).L (w := 15 + 5 * x + 4) (by omega) (lN 1)
        have k1 : ∀ J, 2520 ≤ J → (setL (setL S 203 (315 * i + (15 + 5 * x + 3)) (lN fee)) 203 (315 * i + (15 + 5 * x + 4)) (lN 1)).2 203 J = S.2 203 J := fun J hJ => by rw [setL_k (by omega), setL_k (by omega)]
        obtain ⟨S', r1, r2, r3⟩ := fees_loop hi hD9 hg f q j n (x + 1) (setL (setL S 203 (315 * i + (15 + 5 * x + 3)) (lN fee)) 203 (315 * i + (15 + 5 * x + 4)) (lN 1)) (bs.set x (b.1, b.2.1, b.2.2.1, fee, 1)) (by omega) (by rw [List.length_set]; omega) (by rw [List.length_set]; exact hl) (by
            intro y hy
            rcases List.mem_or_eq_of_mem_set hy with h | h
            · exact hbd y h
            · subst h
              exact ⟨hbm.1, Nat.le_refl 1⟩) hS2 (by rw [k1 _ (by omega)]; exact h1) (by rw [k1 _ (by omega)]; exact h2) (by rw [k1 _ (by omega)]; exact h3)
        refine ⟨S', r1, ?_, o2.tr r3⟩
        have e : (bs.set x (b.1, b.2.1, b.2.2.1, fee, 1)).take (x + 1) ++ ((bs.set x (b.1, b.2.1, b.2.2.1, fee, 1)).drop (x + 1)).map (feB D g fee) = bs.take x ++ (bs.drop x).map (feB D g fee) := by
          have hfe : feB D g fee b = (b.1, b.2.1, b.2.2.1, fee, 1) := by
            unfold feB
            rw [if_pos ⟨q1, q2⟩]
          rw [hdrop, List.map_cons, hfe, List.take_succ, List.getElem?_set_self hxl, List.drop_set_of_lt (by omega), List.take_set_of_le (Nat.le_refl x)]
          simp
        rw [← e]
        exact r2
      · rw [if_pos (show ¬ lN D - lN b.1 = lN g from fun z => q2 (by
          have h9 := congrArg Int64.toInt z
          rw [lN_sub_toInt (by omega) (by omega), pk_lT (by omega)] at h9
          omega))]
        refine keep ?_
        unfold feB
        rw [if_neg (fun z => q2 z.2)]
    · rw [if_pos (show ¬ lN b.2.2.2.2 = 0 from fun z => q1 (by rw [show (0 : Int64) = lN 0 from rfl, lN_eq63 (by omega) (by omega)] at z; exact z))]
      refine keep ?_
      unfold feB
      rw [if_neg (fun z => q1 z.1)]
end RLF
