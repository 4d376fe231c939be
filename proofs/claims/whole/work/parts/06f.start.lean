/-! THE WORLD AT THE START -/
def S0 : St := (fun c k => if c = 1 ∨ c = 59 ∨ c = 117 then (if k = 1 then 10 else if k = 2 then 500 else 0) else if c = 186 then (if k = 2 then -1 else 0) else 0, fun c k => if c = 203 then (if k = 2523 then 500 else if k = 2522 then 10 else 0) else 0)
theorem S0_I {c : Nat} (h : ¬ (c = 1 ∨ c = 59 ∨ c = 117)) (h2 : c ≠ 186) : S0.1 c = fun _ => 0 := by
  funext k
  show (if c = 1 ∨ c = 59 ∨ c = 117 then _ else if c = 186 then _ else _) = _
  rw [if_neg h, if_neg h2]
theorem S0_J {c : Nat} (h : c ≠ 203) : S0.2 c = fun _ => 0 := by
  funext k
  show (if c = 203 then _ else _) = _
  rw [if_neg h]
theorem S0_inv : Inv S0 := by
  refine ⟨(0, 10, 500, 0, fun _ => (fun _ => 0, fun _ => 0, fun _ => (0, 0, 0, 0))), ⟨⟨Nat.zero_le _, by decide, by decide, Nat.zero_le _, fun i hi => absurd hi (Nat.not_lt_zero _)⟩, fun q hq => absurd hq (Nat.not_lt_zero _)⟩, ⟨rfl, rfl, rfl, rfl, fun i hi => absurd hi (Nat.not_lt_zero _)⟩, ⟨rfl, rfl, rfl, rfl, fun i hi => absurd hi (Nat.not_lt_zero _)⟩, Or.inl ⟨rfl, rfl⟩, ⟨0, Nat.zero_le _, rfl, rfl, fun j hj => absurd hj (Nat.not_lt_zero _)⟩, fun h hh => ?_⟩
  refine ⟨0, Nat.zero_le _, ?_, rfl, fun z => by omega, fun z => by omega, fun z => by omega⟩
  rw [S0_I (by omega) (by omega)]
  rfl
def blk (Z : ZT) (S : St) : Nat → Nat → va_W
  | _, 0 => []
  | lo, n + 1 => (Z.1 lo, ent Z S lo) :: blk Z S (lo + 1) n
theorem blk_app (Z : ZT) (S : St) : ∀ (m lo n : Nat), blk Z S lo (m + n) = blk Z S lo m ++ blk Z S (lo + m) n
  | 0, lo, n => by rw [Nat.zero_add]; rfl
  | m + 1, lo, n => by
    rw [show m + 1 + n = (m + n) + 1 by omega]
    show _ :: blk Z S (lo + 1) (m + n) = _ :: (blk Z S (lo + 1) m ++ blk Z S (lo + (m + 1)) n)
    rw [blk_app Z S m (lo + 1) n, show lo + 1 + m = lo + (m + 1) by omega]
theorem blk_range (Z : ZT) (S : St) : ∀ (n lo : Nat), (List.range' lo n).map (fun c => (Z.1 c, ent Z S c)) = blk Z S lo n
  | 0, _ => rfl
  | n + 1, lo => by
    rw [List.range'_succ, List.map_cons, blk_range Z S n (lo + 1)]
    rfl
theorem wsO_blk (Z : ZT) (S : St) : wsO Z S = blk Z S 0 226 := by
  unfold wsO
  rw [List.range_eq_range', blk_range]
/-- the fields one by one -/
def flz (ad : Nat → Nat) (S : St) (c : Nat) : Nat → List Nat → List Value
  | _, [] => []
  | k, t :: ts => fv ad S c k t :: flz ad S c (k + 1) ts
theorem flz_e (ad : Nat → Nat) (S : St) (c : Nat) : ∀ (ts : List Nat) (j : Nat), ts.mapIdx (fun k t => fv ad S c (k + j) t) = flz ad S c j ts
  | [], _ => rfl
  | t :: ts, j => by
    rw [List.mapIdx_cons]
    show fv ad S c (0 + j) t :: ts.mapIdx (fun i => fun t => fv ad S c (i + 1 + j) t) = fv ad S c j t :: flz ad S c (j + 1) ts
    rw [Nat.zero_add, ← flz_e ad S c ts (j + 1)]
    congr 2
    funext i t
    rw [show i + 1 + j = i + (j + 1) by omega]
theorem flds_z (ad : Nat → Nat) (S : St) (c : Nat) (ts : List Nat) : flds ad S c ts = flz ad S c 0 ts := flz_e ad S c ts 0
theorem fv_0 (ad : Nat → Nat) (S : St) (c k : Nat) : fv ad S c k 0 = .int (S.1 c k) := rfl
theorem fv_1 (ad : Nat → Nat) (S : St) (c k : Nat) : fv ad S c k 1 = .long (S.2 c k) := rfl
theorem fv_2 (ad : Nat → Nat) (S : St) (c k : Nat) : fv ad S c k 2 = va_rf ((R0 c k).map ad) := rfl
theorem fty_2 : fty 2 = [1, 1, 1, 1, 1, 1, 1, 0, 0, 0, 0, 0, 0, 2, 2, 2, 2, 2, 2] := rfl
theorem fty_6 : fty 6 = [2, 2, 2, 2, 0, 2, 2, 2, 2, 0, 2, 2, 0, 2, 2, 2, 2, 2, 2, 0, 0, 2] := rfl
theorem rf_s {ad : Nat → Nat} {c k a : Nat} (h : R0 c k = some a) : va_rf ((R0 c k).map ad) = .ref (ad a) := by
  rw [h]
  rfl
section GLU
variable {Z : ZT}
theorem rf2 {c k : Nat} (h : kd0 c = (2, 0)) (h1 : 13 ≤ k) (h2 : k < 19) : R0 c k = some (c + k - 12) := by
  unfold R0
  rw [h]
  show (if 13 ≤ k ∧ k < 19 then some (c + k - 12) else none) = _
  rw [if_pos ⟨h1, h2⟩]
theorem flds2 {ad : Nat → Nat} {S : St} {c : Nat} (h : kd0 c = (2, 0)) (hI : S.1 c = fun _ => 0) (hJ : S.2 c = fun _ => 0) : flds ad S c (fty 2) = [.long 0, .long 0, .long 0, .long 0, .long 0, .long 0, .long 0, .int 0, .int 0, .int 0, .int 0, .int 0, .int 0, .ref (ad (c + 1)), .ref (ad (c + 2)), .ref (ad (c + 3)), .ref (ad (c + 4)), .ref (ad (c + 5)), .ref (ad (c + 6))] := by
  rw [flds_z, fty_2]
  simp only [flz, fv_0, fv_1, fv_2, Nat.zero_add, Nat.reduceAdd, hI, hJ]
  rw [rf_s (rf2 h (k := 13) (by omega) (by omega)), rf_s (rf2 h (k := 14) (by omega) (by omega)), rf_s (rf2 h (k := 15) (by omega) (by omega)), rf_s (rf2 h (k := 16) (by omega) (by omega)), rf_s (rf2 h (k := 17) (by omega) (by omega)), rf_s (rf2 h (k := 18) (by omega) (by omega))]
  rfl
theorem blk_loan {lo : Nat} (h : LC lo) (hI : ∀ k, k < 7 → S0.1 (lo + k) = fun _ => 0) (hJ : ∀ k, k < 7 → S0.2 (lo + k) = fun _ => 0) : blk Z S0 lo 7 = w_X4 Z.2.2 (Z.1 lo) (fun k => Z.1 (lo + 1 + k)) := by
  obtain ⟨k0, k1, k2, k3, k4, k5, k6⟩ := h
  show [(Z.1 lo, ent Z S0 lo), (Z.1 (lo + 1), ent Z S0 (lo + 1)), (Z.1 (lo + 2), ent Z S0 (lo + 2)), (Z.1 (lo + 3), ent Z S0 (lo + 3)), (Z.1 (lo + 4), ent Z S0 (lo + 4)), (Z.1 (lo + 5), ent Z S0 (lo + 5)), (Z.1 (lo + 6), ent Z S0 (lo + 6))] = _
  rw [ent_obj k0 (by omega), flds2 k0 (hI 0 (by omega)) (hJ 0 (by omega)), ent_I k1, ent_J k2, ent_J k3, ent_J k4, ent_J k5, ent_Z k6, hI 1 (by omega), hJ 2 (by omega), hJ 3 (by omega), hJ 4 (by omega), hJ 5 (by omega), hI 6 (by omega)]
  unfold w_X4
  rfl
theorem LB_kr {b : Nat} (h : LB b) : kd0 b = (0, 0) ∧ kd0 (b + 1) = (14, 8) ∧ R0 b 4 = some (b + 1) := by
  rcases h with rfl | rfl | rfl <;> exact ⟨by decide +kernel, by decide +kernel, by decide +kernel⟩
theorem LB_S0 {b : Nat} (h : LB b) : S0.1 b 0 = 0 ∧ S0.1 b 1 = 10 ∧ S0.1 b 2 = 500 ∧ S0.1 b 3 = 0 := by
  rcases h with rfl | rfl | rfl <;> exact ⟨rfl, rfl, rfl, rfl⟩
theorem blk_lps {b : Nat} (h : LB b) : ∀ i, i ≤ 8 → blk Z S0 (b + 2) (7 * i) = lps Z.2.2 (fun c => Z.1 (b + 2 + c)) i
  | 0, _ => rfl
  | i + 1, hi => by
    have hb : b = 1 ∨ b = 59 ∨ b = 117 := h
    rw [show 7 * (i + 1) = 7 * i + 7 by omega, blk_app, blk_lps h i (by omega), blk_loan (LC_book h (by omega)) (fun k hk => S0_I (by omega) (by omega)) (fun k hk => S0_J (by omega))]
    show _ = lps Z.2.2 (fun c => Z.1 (b + 2 + c)) i ++ w_X4 Z.2.2 (Z.1 (b + 2 + 7 * i)) (fun k => Z.1 (b + 2 + (7 * i + 1 + k)))
    congr 1
theorem blk_book {b : Nat} (h : LB b) : blk Z S0 b 58 = bw Z.2.2 (Z.1 b) (Z.1 (b + 1)) (fun c => Z.1 (b + 2 + c)) 8 := by
  obtain ⟨k0, k1, k2⟩ := LB_kr h
  obtain ⟨s0, s1, s2, s3⟩ := LB_S0 h
  have e1 : ent Z S0 b = .inr (0, [.int 0, .int 10, .int 500, .int 0, .ref (Z.1 (b + 1))]) := by
    rw [ent_obj k0 (by omega)]
    show Sum.inr (0, [.int (S0.1 b 0), .int (S0.1 b 1), .int (S0.1 b 2), .int (S0.1 b 3), va_rf ((R0 b 4).map Z.1)]) = _
    rw [s0, s1, s2, s3, k2]
    rfl
  have e2 : ent Z S0 (b + 1) = .inl (Z.2.2 4, 8, .inr (.inr (.inr (.inr (fun j => if j < 8 then some (Z.1 (b + 2 + 7 * j)) else none))))) := by
    rw [ent_Q k1 (by omega)]
    have e : (fun i => (R0 (b + 1) i).map Z.1) = fun j => if j < 8 then some (Z.1 (b + 2 + 7 * j)) else none := by
      funext j
      unfold R0
      rw [k1]
      show Option.map Z.1 (if j < 8 then some (b + 1 + 1 + 7 * j) else none) = _
      by_cases hj : j < 8
      · rw [if_pos hj, if_pos hj]
        rfl
      · rw [if_neg hj, if_neg hj]
        rfl
    rw [e]
  rw [show (58 : Nat) = 2 + 7 * 8 from rfl, blk_app, blk_lps h 8 (by omega)]
  show [(Z.1 b, ent Z S0 b), (Z.1 (b + 1), ent Z S0 (b + 1))] ++ _ = _
  rw [e1, e2]
  rfl
theorem kdH : ∀ h, h < 6 → kd0 (190 + 2 * h) = (1, 0) ∧ kd0 (190 + 2 * h + 1) = (11, 60) ∧ R0 (190 + 2 * h) 4 = some (190 + 2 * h + 1) := by
  decide +kernel
theorem blk_hps : ∀ i, i ≤ 6 → blk Z S0 190 (2 * i) = hps Z.2.2 (fun c => Z.1 (190 + c)) i
  | 0, _ => rfl
  | i + 1, hi => by
    obtain ⟨k0, k1, k2⟩ := kdH i (by omega)
    rw [show 2 * (i + 1) = 2 * i + 2 by omega, blk_app, blk_hps i (by omega)]
    show _ ++ [(Z.1 (190 + 2 * i), ent Z S0 (190 + 2 * i)), (Z.1 (190 + 2 * i + 1), ent Z S0 (190 + 2 * i + 1))] = hps Z.2.2 (fun c => Z.1 (190 + c)) i ++ w_X3 Z.2.2 (Z.1 (190 + 2 * i)) (fun k => Z.1 (190 + (2 * i + 1 + k)))
    have e1 : ent Z S0 (190 + 2 * i) = .inr (1, [.int 0, .int 0, .int 0, .long 0, .ref (Z.1 (190 + 2 * i + 1))]) := by
      rw [ent_obj k0 (by omega)]
      show Sum.inr (1, [.int (S0.1 (190 + 2 * i) 0), .int (S0.1 (190 + 2 * i) 1), .int (S0.1 (190 + 2 * i) 2), .long (S0.2 (190 + 2 * i) 3), va_rf ((R0 (190 + 2 * i) 4).map Z.1)]) = _
      rw [S0_I (by omega) (by omega), S0_J (by omega), k2]
      rfl
    rw [e1, ent_J k1, S0_J (by omega)]
    rfl
theorem R5 : R0 182 2 = some 183 ∧ R0 182 3 = some 184 ∧ R0 182 4 = some 185 := by decide +kernel
theorem blk_plan : blk Z S0 182 4 = w_X5 Z.2.2 (Z.1 182) (fun k => Z.1 (183 + k)) := by
  show [(Z.1 182, ent Z S0 182), (Z.1 183, ent Z S0 183), (Z.1 184, ent Z S0 184), (Z.1 185, ent Z S0 185)] = _
  have e1 : ent Z S0 182 = .inr (3, [.int 0, .int 0, .ref (Z.1 183), .ref (Z.1 184), .ref (Z.1 185)]) := by
    rw [ent_obj kd182 (by omega)]
    show Sum.inr (3, [.int (S0.1 182 0), .int (S0.1 182 1), va_rf ((R0 182 2).map Z.1), va_rf ((R0 182 3).map Z.1), va_rf ((R0 182 4).map Z.1)]) = _
    rw [S0_I (by omega) (by omega), R5.1, R5.2.1, R5.2.2]
    rfl
  rw [e1, ent_J kd183, ent_J kd184, ent_J kd185, S0_J (by omega), S0_J (by omega), S0_J (by omega)]
  rfl
theorem R6 : R0 186 3 = some 187 ∧ R0 186 4 = some 188 := by decide +kernel
theorem blk_tape : blk Z S0 186 3 = w_X6 Z.2.2 (Z.1 186) (fun k => Z.1 (187 + k)) := by
  show [(Z.1 186, ent Z S0 186), (Z.1 187, ent Z S0 187), (Z.1 188, ent Z S0 188)] = _
  have e1 : ent Z S0 186 = .inr (4, [.int 0, .int 0, .int (-1), .ref (Z.1 187), .ref (Z.1 188)]) := by
    rw [ent_obj kd186 (by omega)]
    show Sum.inr (4, [.int (S0.1 186 0), .int (S0.1 186 1), .int (S0.1 186 2), va_rf ((R0 186 3).map Z.1), va_rf ((R0 186 4).map Z.1)]) = _
    rw [R6.1, R6.2]
    rfl
  rw [e1, ent_I kd187, ent_I kd188, S0_I (by omega) (by omega), S0_I (by omega) (by omega)]
  rfl
theorem blk_harr : blk Z S0 189 1 = [(Z.1 189, .inl (Z.2.2 3, 6, .inr (.inr (.inr (.inr (hf (fun c => Z.1 (190 + c)) 6))))))] := by
  show [(Z.1 189, ent Z S0 189)] = _
  rw [ent_Q kd189 (by omega)]
  have e : (fun i => (R0 189 i).map Z.1) = hf (fun c => Z.1 (190 + c)) 6 := by
    funext j
    unfold R0 hf
    rw [kd189]
    show Option.map Z.1 (if j < 6 then some (189 + 1 + 2 * j) else none) = _
    by_cases hj : j < 6
    · rw [if_pos hj, if_pos hj]
      rfl
    · rw [if_neg hj, if_neg hj]
      rfl
  rw [e]
theorem R7 : R0 0 0 = some 1 ∧ R0 0 1 = some 59 ∧ R0 0 2 = some 117 ∧ R0 0 4 = some 175 ∧ R0 0 5 = some 182 ∧ R0 0 6 = some 186 ∧ R0 0 7 = some 189 := by decide +kernel
theorem blk_lb : blk Z S0 0 1 = [(Z.1 0, .inr (5, [.ref (Z.1 1), .ref (Z.1 59), .ref (Z.1 117), .int 0, .ref (Z.1 175), .ref (Z.1 182), .ref (Z.1 186), .ref (Z.1 189)]))] := by
  show [(Z.1 0, ent Z S0 0)] = _
  rw [ent_obj kd00 (by omega)]
  show [(Z.1 0, Sum.inr (5, [va_rf ((R0 0 0).map Z.1), va_rf ((R0 0 1).map Z.1), va_rf ((R0 0 2).map Z.1), .int (S0.1 0 3), va_rf ((R0 0 4).map Z.1), va_rf ((R0 0 5).map Z.1), va_rf ((R0 0 6).map Z.1), va_rf ((R0 0 7).map Z.1)]))] = _
  rw [S0_I (by omega) (by omega), R7.1, R7.2.1, R7.2.2.1, R7.2.2.2.1, R7.2.2.2.2.1, R7.2.2.2.2.2.1, R7.2.2.2.2.2.2]
  rfl
theorem R8 : R0 202 0 = some 203 ∧ R0 202 1 = some 204 ∧ R0 202 2 = some 205 ∧ R0 202 3 = some 206 ∧ R0 202 5 = some 207 ∧ R0 202 6 = some 208 ∧ R0 202 7 = some 209 ∧ R0 202 8 = some 210 ∧ R0 202 10 = some 211 ∧ R0 202 11 = some 212 ∧ R0 202 13 = some 213 ∧ R0 202 14 = some 214 ∧ R0 202 15 = some 215 ∧ R0 202 16 = some 216 ∧ R0 202 17 = some 217 ∧ R0 202 18 = some 218 ∧ R0 202 21 = some 225 := by decide +kernel
theorem kdR : ∀ h, h < 6 → kd0 (219 + h) = (11, 60) := by decide +kernel
theorem ent202 : ent Z S0 202 = .inr (6, [.ref (Z.1 203), .ref (Z.1 204), .ref (Z.1 205), .ref (Z.1 206), .int 0, .ref (Z.1 207), .ref (Z.1 208), .ref (Z.1 209), .ref (Z.1 210), .int 0, .ref (Z.1 211), .ref (Z.1 212), .int 0, .ref (Z.1 213), .ref (Z.1 214), .ref (Z.1 215), .ref (Z.1 216), .ref (Z.1 217), .ref (Z.1 218), .int 0, .int 0, .ref (Z.1 225)]) := by
  rw [ent_obj kd202 (by omega), flds_z, fty_6]
  obtain ⟨r0, r1, r2, r3, r5, r6, r7, r8, r10, r11, r13, r14, r15, r16, r17, r18, r21⟩ := R8
  simp only [flz, fv_0, fv_1, fv_2, Nat.zero_add, Nat.reduceAdd]
  rw [S0_I (by omega) (by omega), rf_s r0, rf_s r1, rf_s r2, rf_s r3, rf_s r5, rf_s r6, rf_s r7, rf_s r8, rf_s r10, rf_s r11, rf_s r13, rf_s r14, rf_s r15, rf_s r16, rf_s r17, rf_s r18, rf_s r21]
theorem S0_203 : S0.2 203 = vp_updL (vp_updL (fun _ => 0) 2522 10) 2523 500 := by
  funext k
  rfl
theorem ent218 : ent Z S0 218 = .inl (Z.2.2 5, 6, .inr (.inr (.inr (.inr (fun i => if i < 6 then some (Z.1 (203 + (16 + i))) else none))))) := by
  rw [ent_Q kd218 (by omega)]
  have e : (fun i => (R0 218 i).map Z.1) = fun i => if i < 6 then some (Z.1 (203 + (16 + i))) else none := by
    funext j
    unfold R0
    rw [kd218]
    show Option.map Z.1 (if j < 6 then some (218 + 1 + j) else none) = _
    by_cases hj : j < 6
    · rw [if_pos hj, if_pos hj]
      show some (Z.1 (218 + 1 + j)) = _
      rw [show 218 + 1 + j = 203 + (16 + j) by omega]
    · rw [if_neg hj, if_neg hj]
      rfl
  rw [e]
set_option maxHeartbeats 4000000 in
theorem blk_model : blk Z S0 202 24 = w_X8 Z.2.2 (Z.1 202) (fun k => Z.1 (203 + k)) := by
  show [(Z.1 202, ent Z S0 202), (Z.1 203, ent Z S0 203), (Z.1 204, ent Z S0 204), (Z.1 205, ent Z S0 205), (Z.1 206, ent Z S0 206), (Z.1 207, ent Z S0 207), (Z.1 208, ent Z S0 208), (Z.1 209, ent Z S0 209), (Z.1 210, ent Z S0 210), (Z.1 211, ent Z S0 211), (Z.1 212, ent Z S0 212), (Z.1 213, ent Z S0 213), (Z.1 214, ent Z S0 214), (Z.1 215, ent Z S0 215), (Z.1 216, ent Z S0 216), (Z.1 217, ent Z S0 217), (Z.1 218, ent Z S0 218), (Z.1 219, ent Z S0 219), (Z.1 220, ent Z S0 220), (Z.1 221, ent Z S0 221), (Z.1 222, ent Z S0 222), (Z.1 223, ent Z S0 223), (Z.1 224, ent Z S0 224), (Z.1 225, ent Z S0 225)] = _
  rw [ent202, ent_J kd203, S0_203, ent_J kd204, ent_J kd205, ent_J kd206, ent_I kd207, ent_J kd208, ent_J kd209, ent_J kd210, ent_J kd211, ent_I kd212, ent_I kd213, ent_I kd214, ent_J kd215, ent_J kd216, ent_I kd217, ent218, ent_J (kdR 0 (by omega)), ent_J (kdR 1 (by omega)), ent_J (kdR 2 (by omega)), ent_J (kdR 3 (by omega)), ent_J (kdR 4 (by omega)), ent_J (kdR 5 (by omega)), ent_I kd225]
  rw [S0_J (c := 204) (by omega), S0_J (c := 205) (by omega), S0_J (c := 206) (by omega), S0_I (c := 207) (by omega) (by omega), S0_J (c := 208) (by omega), S0_J (c := 209) (by omega), S0_J (c := 210) (by omega), S0_J (c := 211) (by omega), S0_I (c := 212) (by omega) (by omega), S0_I (c := 213) (by omega) (by omega), S0_I (c := 214) (by omega) (by omega), S0_J (c := 215) (by omega), S0_J (c := 216) (by omega), S0_I (c := 217) (by omega) (by omega), S0_I (c := 225) (by omega) (by omega)]
  rw [S0_J (c := 219 + 0) (by omega), S0_J (c := 219 + 1) (by omega), S0_J (c := 219 + 2) (by omega), S0_J (c := 219 + 3) (by omega), S0_J (c := 219 + 4) (by omega), S0_J (c := 219 + 5) (by omega)]
  rfl
end GLU
