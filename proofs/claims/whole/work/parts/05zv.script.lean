/-! SCRIPT: ONE LINE -/
section SCL
variable {β : Type}
theorem n188_0 (S : St) (K : Int32 → Option β) : aI 188 0 S K = K (S.1 188 0) := jI (k := 0) kd188 (by omega) (by omega) S K
theorem n188_1 (S : St) (K : Int32 → Option β) : aI 188 1 S K = K (S.1 188 1) := jI (k := 1) kd188 (by omega) (by omega) S K
theorem n188_2 (S : St) (K : Int32 → Option β) : aI 188 2 S K = K (S.1 188 2) := jI (k := 2) kd188 (by omega) (by omega) S K
theorem n188_3 (S : St) (K : Int32 → Option β) : aI 188 3 S K = K (S.1 188 3) := jI (k := 3) kd188 (by omega) (by omega) S K
theorem n188_4 (S : St) (K : Int32 → Option β) : aI 188 4 S K = K (S.1 188 4) := jI (k := 4) kd188 (by omega) (by omega) S K
theorem n188_5 (S : St) (K : Int32 → Option β) : aI 188 5 S K = K (S.1 188 5) := jI (k := 5) kd188 (by omega) (by omega) S K
theorem n225_0 (S : St) (K : Int32 → Option β) : aI 225 0 S K = K (S.1 225 0) := jI (k := 0) kd225 (by omega) (by omega) S K
theorem n225_1 (S : St) (K : Int32 → Option β) : aI 225 1 S K = K (S.1 225 1) := jI (k := 1) kd225 (by omega) (by omega) S K
theorem n225_2 (S : St) (K : Int32 → Option β) : aI 225 2 S K = K (S.1 225 2) := jI (k := 2) kd225 (by omega) (by omega) S K
theorem n225_3 (S : St) (K : Int32 → Option β) : aI 225 3 S K = K (S.1 225 3) := jI (k := 3) kd225 (by omega) (by omega) S K
theorem n225_4 (S : St) (K : Int32 → Option β) : aI 225 4 S K = K (S.1 225 4) := jI (k := 4) kd225 (by omega) (by omega) S K
theorem n225_5 (S : St) (K : Int32 → Option β) : aI 225 5 S K = K (S.1 225 5) := jI (k := 5) kd225 (by omega) (by omega) S K
end SCL
theorem nofL_or {c : Nat} (h : nofL c ≠ 0) : c = 100 ∨ c = 102 ∨ c = 103 ∨ c = 119 ∨ c = 112 ∨ c = 114 ∨ c = 108 := by
  unfold nofL at h
  split at h
  · omega
  · split at h
    · omega
    · split at h
      · omega
      · exact absurd rfl h
/-- one line, both sides -/
def TwoL (c : Nat) (v : Nat → Nat) (B : Bk) : Prop := ∃ (r : Int64) (B' : Bk), GX B' ∧ B.2.2.2.1 ≤ B'.2.2.2.1 ∧ (∀ S, CB S 1 B → S.1 186 2 = nI c → (∀ t, t < nofL c → S.1 188 t = nI (v t)) → ∃ S1, F_X7_doLine 0 S = some (r, S1) ∧ CB S1 1 B' ∧ offK S S1) ∧ ∀ S, RB S 203 B → (∀ t, t < nofL c → S.1 225 t = nI (v t)) → ∃ S2, F_X8_does 202 (nI c) S = some (r, S2) ∧ RB S2 203 B' ∧ offQ S S2
section SC2
variable {B : Bk}
theorem tl_days (hG : GX B) (v : Nat → Nat) : TwoL 100 v B := by
  obtain ⟨r, B', t1, t2, t3, t4⟩ := t_days hG (nI (v 0))
  refine ⟨Int32.toInt64 r, B', t1, t2, fun S hS hc hv => ?_, fun S hS hv => ?_⟩
  · obtain ⟨S1, u1, u2⟩ := t3 S hS
    refine ⟨S1, ?_, u2⟩
    unfold F_X7_doLine
    rw [z6, tr4, z6, tI0, hc]
    repeat rw [sw_x (by decide)]
    rw [sw_y (by rfl), n188_0, hv 0 (by decide), zgk, u1, cl_some]
  · obtain ⟨S1, u1, u2⟩ := t4 S hS
    refine ⟨S1, ?_, u2⟩
    unfold F_X8_does
    rw [mR21, n225_0, hv 0 (by decide), mR21, n225_1]
    repeat rw [sw_x (by decide)]
    rw [sw_y (by rfl), mgk, u1, cl_some]
theorem tl_fee (hG : GX B) (v : Nat → Nat) : TwoL 102 v B := by
  obtain ⟨r, B', t1, t2, t3, t4⟩ := t_rule hG 1 (nI (v 0))
  refine ⟨Int32.toInt64 r, B', t1, t2, fun S hS hc hv => ?_, fun S hS hv => ?_⟩
  · obtain ⟨S1, u1, u2⟩ := t3 S hS
    refine ⟨S1, ?_, u2⟩
    unfold F_X7_doLine
    rw [z6, tr4, z6, tI0, hc]
    repeat rw [sw_x (by decide)]
    rw [sw_y (by rfl), n188_0, hv 0 (by decide), zgk, u1, cl_some]
  · obtain ⟨S1, u1, u2⟩ := t4 S hS
    refine ⟨S1, ?_, u2⟩
    unfold F_X8_does
    rw [mR21, n225_0, hv 0 (by decide), mR21, n225_1]
    repeat rw [sw_x (by decide)]
    rw [sw_y (by rfl)]
    unfold J_X8_does_253
    rw [mgk, u1, cl_some]
theorem tl_grace (hG : GX B) (v : Nat → Nat) : TwoL 103 v B := by
  obtain ⟨r, B', t1, t2, t3, t4⟩ := t_rule hG 0 (nI (v 0))
  refine ⟨Int32.toInt64 r, B', t1, t2, fun S hS hc hv => ?_, fun S hS hv => ?_⟩
  · obtain ⟨S1, u1, u2⟩ := t3 S hS
    refine ⟨S1, ?_, u2⟩
    unfold F_X7_doLine
    rw [z6, tr4, z6, tI0, hc]
    repeat rw [sw_x (by decide)]
    rw [sw_y (by rfl), n188_0, hv 0 (by decide), zgk, u1, cl_some]
  · obtain ⟨S1, u1, u2⟩ := t4 S hS
    refine ⟨S1, ?_, u2⟩
    unfold F_X8_does
    rw [mR21, n225_0, hv 0 (by decide), mR21, n225_1]
    repeat rw [sw_x (by decide)]
    rw [sw_y (by rfl), mgk, u1, cl_some]
theorem tl_off (hG : GX B) (v : Nat → Nat) : TwoL 119 v B := by
  obtain ⟨r, B', t1, t2, t3, t4⟩ := t_writeOff hG (nI (v 0))
  refine ⟨r, B', t1, t2, fun S hS hc hv => ?_, fun S hS hv => ?_⟩
  · obtain ⟨S1, u1, u2⟩ := t3 S hS
    refine ⟨S1, ?_, u2⟩
    unfold F_X7_doLine
    rw [z6, tr4, z6, tI0, hc]
    repeat rw [sw_x (by decide)]
    rw [sw_y (by rfl), n188_0, hv 0 (by decide), zgk, u1, cl_some]
  · obtain ⟨S1, u1, u2⟩ := t4 S hS
    refine ⟨S1, ?_, u2⟩
    unfold F_X8_does
    rw [mR21, n225_0, hv 0 (by decide), mR21, n225_1]
    repeat rw [sw_x (by decide)]
    rw [sw_y (by rfl), mgk, u1, cl_some]
theorem tl_pay (hG : GX B) (v : Nat → Nat) : TwoL 112 v B := by
  obtain ⟨r, B', t1, t2, t3, t4⟩ := t_pay hG (nI (v 0)) (Int32.toInt64 (nI (v 1)))
  refine ⟨r, B', t1, t2, fun S hS hc hv => ?_, fun S hS hv => ?_⟩
  · obtain ⟨S1, u1, u2⟩ := t3 S hS
    refine ⟨S1, ?_, u2⟩
    unfold F_X7_doLine
    rw [z6, tr4, z6, tI0, hc]
    repeat rw [sw_x (by decide)]
    rw [sw_y (by rfl), n188_0, hv 0 (by decide), n188_1, hv 1 (by decide), zgk, u1, cl_some]
  · obtain ⟨S1, u1, u2⟩ := t4 S hS
    refine ⟨S1, ?_, u2⟩
    unfold F_X8_does
    rw [mR21, n225_0, hv 0 (by decide), mR21, n225_1, hv 1 (by decide)]
    repeat rw [sw_x (by decide)]
    rw [sw_y (by rfl), mgk, u1, cl_some]
theorem tl_reset (hG : GX B) (v : Nat → Nat) : TwoL 114 v B := by
  obtain ⟨r, B', t1, t2, t3, t4⟩ := t_reset hG (nI (v 0)) (nI (v 1))
  refine ⟨r, B', t1, t2, fun S hS hc hv => ?_, fun S hS hv => ?_⟩
  · obtain ⟨S1, u1, u2⟩ := t3 S hS
    refine ⟨S1, ?_, u2⟩
    unfold F_X7_doLine
    rw [z6, tr4, z6, tI0, hc]
    repeat rw [sw_x (by decide)]
    rw [sw_y (by rfl), n188_0, hv 0 (by decide), n188_1, hv 1 (by decide), zgk, u1, cl_some]
  · obtain ⟨S1, u1, u2⟩ := t4 S hS
    refine ⟨S1, ?_, u2⟩
    unfold F_X8_does
    rw [mR21, n225_0, hv 0 (by decide), mR21, n225_1, hv 1 (by decide)]
    repeat rw [sw_x (by decide)]
    rw [sw_y (by rfl), mgk, u1, cl_some]
theorem tl_lend (hG : GX B) (v : Nat → Nat) : TwoL 108 v B := by
  have f7 : ∀ S, S.1 186 2 = nI 108 → (∀ t, t < nofL 108 → S.1 188 t = nI (v t)) → F_X7_doLine 0 S = cl (F_X1_lend 1 (Int32.toInt64 (nI (v 0))) (nI (v 1)) (nI (v 2)) (nI (v 3)) (nI (v 5)) (nI (v 4)) S) fun r131 S131 => some ((Int32.toInt64 r131), S131) := by
    intro S hc hv
    unfold F_X7_doLine
    rw [z6, tr4, z6, tI0, hc]
    repeat rw [sw_x (by decide)]
    rw [sw_y (by rfl), z0, n188_0, hv 0 (by decide), n188_1, hv 1 (by decide), n188_2, hv 2 (by decide), n188_3, hv 3 (by decide), n188_5, hv 5 (by decide), n188_4, hv 4 (by decide), bgk b1]
  have f8 : ∀ S, (∀ t, t < nofL 108 → S.1 225 t = nI (v t)) → F_X8_does 202 (nI 108) S = if (nI (v 3) < nI 0 ∨ nI 2 < nI (v 3)) ∨ (nI (v 4) < nI 1 ∨ nI 60 < nI (v 4)) ∨ (nI (v 5) < nI 0 ∨ nI 1 < nI (v 5)) then some (-1, S) else cl (F_X8_loan 202 (Int32.toInt64 (nI (v 0))) (nI (v 1)) (nI (v 2)) ((1000 : Int32) * nI (v 3) + (100 : Int32) * nI (v 5) + nI (v 4)) S) fun r S => some (Int32.toInt64 r, S) := by
    intro S hv
    have j0 : ∀ S, J_X8_does_161 202 (nI (v 0)) (nI (v 1)) S = some (-1, S) := fun S => rfl
    unfold F_X8_does
    rw [mR21, n225_0, hv 0 (by decide), mR21, n225_1, hv 1 (by decide)]
    repeat rw [sw_x (by decide)]
    rw [sw_y (by rfl), mR21, n225_3, hv 3 (by decide), show (0 : Int64) = lN 0 from rfl, fa_litL 2, fa_litL 60, show (1 : Int64) = lN 1 from rfl, inw_e _ _ _ (by omega) (by omega), cl_some]
    by_cases c1 : nI (v 3) < nI 0 ∨ nI 2 < nI (v 3)
    · rw [if_pos c1, if_pos rfl, if_pos (Or.inl c1), j0]
      rfl
    · rw [if_neg c1, if_neg (by decide), mR21, n225_4, hv 4 (by decide), inw_e _ _ _ (by omega) (by omega), cl_some]
      by_cases c2 : nI (v 4) < nI 1 ∨ nI 60 < nI (v 4)
      · rw [if_pos c2, if_pos rfl, if_pos (Or.inr (Or.inl c2)), j0]
        rfl
      · rw [if_neg c2, if_neg (by decide), mR21, n225_5, hv 5 (by decide), inw_e _ _ _ (by omega) (by omega), cl_some]
        by_cases c3 : nI (v 5) < nI 0 ∨ nI 1 < nI (v 5)
        · rw [if_pos c3, if_pos rfl, if_pos (Or.inr (Or.inr c3)), j0]
          rfl
        · rw [if_neg c3, if_neg (by decide), if_neg (fun z => by rcases z with z | z | z <;> contradiction)]
          unfold J_X8_does_162 J_X8_does_216
          rw [if_neg (by decide), mR21, n225_2, hv 2 (by decide), mR21, n225_3, hv 3 (by decide), mR21, n225_5, hv 5 (by decide), mR21, n225_4, hv 4 (by decide), mgk]
  by_cases c : (nI (v 3) < nI 0 ∨ nI 2 < nI (v 3)) ∨ (nI (v 4) < nI 1 ∨ nI 60 < nI (v 4)) ∨ (nI (v 5) < nI 0 ∨ nI 1 < nI (v 5))
  · have hl : ∀ S, F_X1_lend 1 (Int32.toInt64 (nI (v 0))) (nI (v 1)) (nI (v 2)) (nI (v 3)) (nI (v 5)) (nI (v 4)) S = some (-1, S) := by
      rcases lend_arg (Int32.toInt64 (nI (v 0))) (nI (v 1)) (nI (v 2)) (nI (v 3)) (nI (v 5)) (nI (v 4)) with z | ⟨lent, rate, cn, kd, md, n, x1, x2, x3, x4, x5, x6, l1, l2, l3, l4, l5, l6, l7, l8⟩
      · exact z 1
      · rw [x4, x5, x6, nI_ltI (by omega) (by omega), nI_ltI (by omega) (by omega), nI_ltI (by omega) (by omega), nI_ltI (by omega) (by omega), nI_ltI (by omega) (by omega), nI_ltI (by omega) (by omega)] at c
        omega
    refine ⟨-1, B, hG, Nat.le_refl _, fun S hS hc hv => ⟨S, ?_, hS, offK.rf _⟩, fun S hS hv => ⟨S, ?_, hS, offQ.rf _⟩⟩
    · rw [f7 S hc hv, hl, cl_some]
      rfl
    · rw [f8 S hv, if_pos c]
  · rcases between (nI (v 3)) 0 2 (by omega) (by omega) with z | ⟨_, k, ek, _, k2⟩
    · exact absurd (Or.inl z) c
    · rcases between (nI (v 4)) 1 60 (by omega) (by omega) with z | ⟨_, n, en, n1, n2⟩
      · exact absurd (Or.inr (Or.inl z)) c
      · rcases between (nI (v 5)) 0 1 (by omega) (by omega) with z | ⟨_, m, em, _, m2⟩
        · exact absurd (Or.inr (Or.inr z)) c
        · obtain ⟨r, B', t1, t2, t3, t4⟩ := t_loan hG (Int32.toInt64 (nI (v 0))) (nI (v 1)) (nI (v 2)) (nI (1000 * k + 100 * m + n))
          have cls : ∀ S, F_X7_loan 0 (Int32.toInt64 (nI (v 0))) (nI (v 1)) (nI (v 2)) (nI (1000 * k + 100 * m + n)) S = F_X1_lend 1 (Int32.toInt64 (nI (v 0))) (nI (v 1)) (nI (v 2)) (nI k) (nI m) (nI n) S := by
            intro S
            unfold F_X7_loan
            have e1 : nI (1000 * k + 100 * m + n) / (1000 : Int32) = nI k := by
              rw [fa_lit 1000, pk_div (by omega) (by omega) (by omega)]
              congr 1
              omega
            have e2 : nI (1000 * k + 100 * m + n) / (100 : Int32) - nI (1000 * k + 100 * m + n) / (100 : Int32) / (10 : Int32) * (10 : Int32) = nI m := by
              rw [fa_lit 100, fa_lit 10, pk_div (by omega) (by omega) (by omega), pk_div (by omega) (by omega) (by omega), pk_mul, pk_sub (by omega)]
              congr 1
              omega
            have e3 : nI (1000 * k + 100 * m + n) - nI (1000 * k + 100 * m + n) / (100 : Int32) * (100 : Int32) = nI n := by
              rw [fa_lit 100, pk_div (by omega) (by omega) (by omega), pk_mul, pk_sub (by omega)]
              congr 1
              omega
            rw [z0, bgk b1, e1, e2, e3]
            cases h : F_X1_lend 1 (Int32.toInt64 (nI (v 0))) (nI (v 1)) (nI (v 2)) (nI k) (nI m) (nI n) S with
            | none => rfl
            | some x => rfl
          refine ⟨Int32.toInt64 r, B', t1, t2, fun S hS hc hv => ?_, fun S hS hv => ?_⟩
          · obtain ⟨S1, u1, u2⟩ := t3 S hS
            refine ⟨S1, ?_, u2⟩
            rw [cls] at u1
            rw [f7 S hc hv, ek, en, em, u1, cl_some]
          · obtain ⟨S1, u1, u2⟩ := t4 S hS
            refine ⟨S1, ?_, u2⟩
            rw [f8 S hv, if_neg c, ek, en, em, fa_lit 1000, fa_lit 100, pk_mul, pk_mul, nI_add, nI_add, u1, cl_some]
theorem tl_all (hG : GX B) {c : Nat} (hc : nofL c ≠ 0) (v : Nat → Nat) : TwoL c v B := by
  rcases nofL_or hc with rfl | rfl | rfl | rfl | rfl | rfl | rfl
  · exact tl_days hG v
  · exact tl_fee hG v
  · exact tl_grace hG v
  · exact tl_off hG v
  · exact tl_pay hG v
  · exact tl_reset hG v
  · exact tl_lend hG v
end SC2
