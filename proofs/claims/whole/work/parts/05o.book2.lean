/-- a LOAN through the days d + 1 .. d + n -/
def adv (d n g f : Nat) (l : Ln) : Ln := chg (d + 1) (d + n) g f (epw (d + n) (l.1 4 - l.1 7) l)
def sumN (f : Nat → Nat) : Nat → Nat
  | 0 => 0
  | n + 1 => sumN f n + f n
theorem sumN_le {f : Nat → Nat} {M : Nat} (h : ∀ i, f i ≤ M) : ∀ n, sumN f n ≤ M * n
  | 0 => Nat.zero_le _
  | n + 1 => by
    have := sumN_le h n
    have := h n
    unfold sumN
    rw [Nat.mul_succ]
    omega
theorem sumN_cong {f g : Nat → Nat} : ∀ {n : Nat}, (∀ i, i < n → f i = g i) → sumN f n = sumN g n
  | 0, _ => rfl
  | n + 1, h => by
    unfold sumN
    rw [sumN_cong (fun i hi => h i (Nat.lt_succ_of_lt hi)), h n (Nat.lt_succ_self n)]
section BKD
variable {S : St} {b : Nat} {B : Bk}
theorem epw_gd (d : Nat) : ∀ (j : Nat) (l : Ln), GD l → l.1 7 + j ≤ l.1 4 → GD (epw d j l)
  | 0, _, h, _ => h
  | j + 1, l, h, hj => by
    unfold epw
    split
    · exact epw_gd d j (ep1 l) (ep1_gd h (by omega)) (by show l.1 7 + 1 + j ≤ l.1 4; omega)
    · exact h
theorem adv_gd {d n g f : Nat} {l : Ln} (h : GD l) (hf : f ≤ 10000) : GD (adv d n g f l) := by
  have := h.2.2.2.2.2.2.2.1
  exact chg_gd (epw_gd _ _ _ h (by omega)) hf
theorem pass_loop (hb : LB b) (hG : GB B) {n : Nat} (hn : 1 ≤ n) (hdn : B.1 + n ≤ 36524) : ∀ (j f i : Nat) (S : St) (x : Nat), j < f → i + j = B.2.2.2.1 → x ≤ 60 * i → CB S b (B.1, B.2.1, B.2.2.1, B.2.2.2.1, fun q => if q < i then adv B.1 n B.2.1 B.2.2.1 (B.2.2.2.2 q) else B.2.2.2.2 q) → ∃ S', L_X1_passDays_4 f b (nI n) (nI x) (nI i) S = some (nI (x + (sumN (fun q => epc (B.1 + n) ((B.2.2.2.2 q).1 4 - (B.2.2.2.2 q).1 7) (B.2.2.2.2 q)) B.2.2.2.1 - sumN (fun q => epc (B.1 + n) ((B.2.2.2.2 q).1 4 - (B.2.2.2.2 q).1 7) (B.2.2.2.2 q)) i)), S') ∧ CB S' b (B.1 + n, B.2.1, B.2.2.1, B.2.2.2.1, fun q => if q < B.2.2.2.1 then adv B.1 n B.2.1 B.2.2.1 (B.2.2.2.2 q) else B.2.2.2.2 q) ∧ offB S S' b
  | _, 0, _, _, _, h, _, _, _ => absurd h (Nat.not_lt_zero _)
  | 0, f + 1, i, S, x, _, hi, hx, hS => by
    have hn8 := hG.2.2.2.1
    have e : i = B.2.2.2.1 := by omega
    subst e
    show ∃ S', B_X1_passDays_4 _ _ _ _ _ _ = _ ∧ _
    unfold B_X1_passDays_4
    rw [bI hb, hS.2.2.2.1, if_pos (Int32.le_refl _), bI hb, hS.1, nI_add, bpI hb]
    refine ⟨_, by rw [Nat.sub_self]; rfl, ?_, (offB.rf S b).I 0 _⟩
    obtain ⟨q0, q1, q2, q3, q4⟩ := hS
    refine ⟨setI_s, by rw [setI_k (by omega)]; exact q1, by rw [setI_k (by omega)]; exact q2, by rw [setI_k (by omega)]; exact q3, fun q hq => ?_⟩
    exact (q4 q hq).same (fun j hj => ⟨setI_n (by omega), rfl⟩)
  | j + 1, f + 1, i, S, x, hf, hi, hx, hS => by
    have hn8 := hG.2.2.2.1
    have hgr := hG.2.1
    have hfe := hG.2.2.1
    have hi8 : i < 8 := by omega
    obtain ⟨gd, dy⟩ := hG.2.2.2.2 i (by omega)
    have hdone := gd.2.2.2.2.2.2.2.1
    have hmany := gd.2.2.2.2.1
    have hc := LC_book hb hi8
    have hl0 : CL S (b + 2 + 7 * i) (B.2.2.2.2 i) := by
      have := hS.2.2.2.2 i (show i < B.2.2.2.1 by omega)
      dsimp only at this
      rw [if_neg (Nat.lt_irrefl i)] at this
      exact this
    have hepc := epc_le (B.1 + n) ((B.2.2.2.2 i).1 4 - (B.2.2.2.2 i).1 7) (B.2.2.2.2 i)
    obtain ⟨S1, r1, r2, r3⟩ := endPeriods_e hc hl0 gd (B.1 + n) (by omega)
    have gd1 := epw_gd (B.1 + n) ((B.2.2.2.2 i).1 4 - (B.2.2.2.2 i).1 7) _ gd (by omega)
    obtain ⟨S2, s1, s2, s3⟩ := chargeLate_e hc r2 gd1 (f1 := B.1 + 1) (f2 := B.1 + n) (g := B.2.1) (fee := B.2.2.1) (by omega) (by omega) hgr hfe
    have fb1 := (r3 b (by omega)).1
    show ∃ S', B_X1_passDays_4 _ _ _ _ _ _ = _ ∧ _
    unfold B_X1_passDays_4
    rw [bI hb, hS.2.2.2.1, if_neg (by rw [nI_leI (by show B.2.2.2.1 < _; omega) (by omega)]; show ¬ B.2.2.2.1 ≤ i; omega), br4 hb, baR hb hi8, bI hb, hS.1, nI_add, lgk hc, r1, cl_some, bd_e, nI_add, br4 hb, baR hb hi8, bI hb, bI hb, bI hb, bI hb, fb1, hS.1, hS.2.1, hS.2.2.1, lgk hc, nI_add, show nI B.1 + 1 = nI (B.1 + 1) from nI_1 _, s1, cl_some, show nI i + 1 = nI (i + 1) from nI_1 i]
    have hCB : CB S2 b (B.1, B.2.1, B.2.2.1, B.2.2.2.1, fun q => if q < i + 1 then adv B.1 n B.2.1 B.2.2.1 (B.2.2.2.2 q) else B.2.2.2.2 q) := by
      have h9 := hS.loan (i := i) (show i < B.2.2.2.1 by omega) hn8 (r3.tr s3) s2
      have e : (fun q => if q < i + 1 then adv B.1 n B.2.1 B.2.2.1 (B.2.2.2.2 q) else B.2.2.2.2 q) = up (fun q => if q < i then adv B.1 n B.2.1 B.2.2.1 (B.2.2.2.2 q) else B.2.2.2.2 q) i (chg (B.1 + 1) (B.1 + n) B.2.1 B.2.2.1 (epw (B.1 + n) ((B.2.2.2.2 i).1 4 - (B.2.2.2.2 i).1 7) (B.2.2.2.2 i))) := by
        funext q
        by_cases e : q = i
        · subst e
          rw [up_s, if_pos (by omega)]
          rfl
        · rw [up_n _ _ e]
          by_cases h : q < i
          · rw [if_pos h, if_pos (by omega)]
          · rw [if_neg h, if_neg (by omega)]
      rw [e]
      exact h9
    obtain ⟨S3, t1, t2, t3⟩ := pass_loop hb hG hn hdn j f (i + 1) S2 (x + epc (B.1 + n) ((B.2.2.2.2 i).1 4 - (B.2.2.2.2 i).1 7) (B.2.2.2.2 i)) (by omega) (by omega) (by omega) hCB
    refine ⟨S3, ?_, t2, ((r3.tr s3).B hi8).tr t3⟩
    rw [t1]
    have hmono : sumN (fun q => epc (B.1 + n) ((B.2.2.2.2 q).1 4 - (B.2.2.2.2 q).1 7) (B.2.2.2.2 q)) (i + 1) ≤ sumN (fun q => epc (B.1 + n) ((B.2.2.2.2 q).1 4 - (B.2.2.2.2 q).1 7) (B.2.2.2.2 q)) B.2.2.2.1 := by
      have : ∀ k, sumN (fun q => epc (B.1 + n) ((B.2.2.2.2 q).1 4 - (B.2.2.2.2 q).1 7) (B.2.2.2.2 q)) (i + 1) ≤ sumN (fun q => epc (B.1 + n) ((B.2.2.2.2 q).1 4 - (B.2.2.2.2 q).1 7) (B.2.2.2.2 q)) (i + 1 + k) := fun k => by
        induction k with
        | zero => exact Nat.le_refl _
        | succ k ih => exact Nat.le_trans ih (Nat.le_add_right _ _)
      have h9 := this j
      rw [show i + 1 + j = B.2.2.2.1 by omega] at h9
      exact h9
    have hs1 : sumN (fun q => epc (B.1 + n) ((B.2.2.2.2 q).1 4 - (B.2.2.2.2 q).1 7) (B.2.2.2.2 q)) (i + 1) = sumN (fun q => epc (B.1 + n) ((B.2.2.2.2 q).1 4 - (B.2.2.2.2 q).1 7) (B.2.2.2.2 q)) i + epc (B.1 + n) ((B.2.2.2.2 i).1 4 - (B.2.2.2.2 i).1 7) (B.2.2.2.2 i) := rfl
    rw [show x + epc (B.1 + n) ((B.2.2.2.2 i).1 4 - (B.2.2.2.2 i).1 7) (B.2.2.2.2 i) + (sumN (fun q => epc (B.1 + n) ((B.2.2.2.2 q).1 4 - (B.2.2.2.2 q).1 7) (B.2.2.2.2 q)) B.2.2.2.1 - sumN (fun q => epc (B.1 + n) ((B.2.2.2.2 q).1 4 - (B.2.2.2.2 q).1 7) (B.2.2.2.2 q)) (i + 1)) = x + (sumN (fun q => epc (B.1 + n) ((B.2.2.2.2 q).1 4 - (B.2.2.2.2 q).1 7) (B.2.2.2.2 q)) B.2.2.2.1 - sumN (fun q => epc (B.1 + n) ((B.2.2.2.2 q).1 4 - (B.2.2.2.2 q).1 7) (B.2.2.2.2 q)) i) by omega]
theorem passDays_e (hb : LB b) (hG : GB B) (hS : CB S b B) {n : Nat} (hn : 1 ≤ n) (hdn : B.1 + n ≤ 36524) : ∃ S', F_X1_passDays b (nI n) S = some (nI (sumN (fun q => epc (B.1 + n) ((B.2.2.2.2 q).1 4 - (B.2.2.2.2 q).1 7) (B.2.2.2.2 q)) B.2.2.2.1), S') ∧ CB S' b (B.1 + n, B.2.1, B.2.2.1, B.2.2.2.1, fun q => if q < B.2.2.2.1 then adv B.1 n B.2.1 B.2.2.1 (B.2.2.2.2 q) else B.2.2.2.2 q) ∧ offB S S' b := by
  have hn8 := hG.2.2.2.1
  unfold F_X1_passDays
  obtain ⟨S', r1, r2, r3⟩ := pass_loop hb hG hn hdn B.2.2.2.1 6000 0 S 0 (by omega) (by omega) (by omega) (by
    have e : (fun q => if q < 0 then adv B.1 n B.2.1 B.2.2.1 (B.2.2.2.2 q) else B.2.2.2.2 q) = B.2.2.2.2 := by
      funext q
      rw [if_neg (Nat.not_lt_zero q)]
    rw [e]
    exact hS)
  refine ⟨S', ?_, r2, r3⟩
  rw [show (0 : Int32) = nI 0 from rfl, r1, Nat.zero_add]
  rfl
theorem biaB_loop (hb : LB b) (hG : GB B) (hS : CB S b B) : ∀ (j n i x : Nat), j < n → i + j = B.2.2.2.1 → L_X1_billsInArrears_4 n b (nI x) (nI i) S = some (nI (x + (sumN (fun q => (lvs (B.2.2.2.2 q)).length) (i + j) - sumN (fun q => (lvs (B.2.2.2.2 q)).length) i)), S)
  | _, 0, _, _, h, _ => absurd h (Nat.not_lt_zero _)
  | 0, n + 1, i, x, _, hi => by
    have hn8 := hG.2.2.2.1
    show B_X1_billsInArrears_4 _ _ _ _ _ = _
    unfold B_X1_billsInArrears_4
    rw [bI hb, hS.2.2.2.1, if_pos (by rw [nI_leI (by omega) (by omega)]; omega), Nat.add_zero, Nat.sub_self]
    rfl
  | j + 1, n + 1, i, x, hn, hi => by
    have hn8 := hG.2.2.2.1
    have hc := LC_book hb (show i < 8 by omega)
    show B_X1_billsInArrears_4 _ _ _ _ _ = _
    unfold B_X1_billsInArrears_4
    rw [bI hb, hS.2.2.2.1, if_neg (by rw [nI_leI (by omega) (by omega)]; omega), br4 hb, baR hb (by omega), lgk hc, bia_e hc (hS.2.2.2.2 i (by omega)) (hG.2.2.2.2 i (by omega)).1, cl_some, bd_e, nI_add, show nI i + 1 = nI (i + 1) from nI_1 i, biaB_loop hb hG hS j n (i + 1) _ (by omega) (by omega)]
    have e : i + 1 + j = i + (j + 1) := by omega
    rw [e]
    have hs1 : sumN (fun q => (lvs (B.2.2.2.2 q)).length) (i + 1) = sumN (fun q => (lvs (B.2.2.2.2 q)).length) i + (lvs (B.2.2.2.2 i)).length := rfl
    have hmono : ∀ k, sumN (fun q => (lvs (B.2.2.2.2 q)).length) (i + 1) ≤ sumN (fun q => (lvs (B.2.2.2.2 q)).length) (i + 1 + k) := fun k => by
      induction k with
      | zero => exact Nat.le_refl _
      | succ k ih => exact Nat.le_trans ih (Nat.le_add_right _ _)
    have := hmono j
    rw [e] at this
    congr 3
    omega
theorem biaB_e (hb : LB b) (hG : GB B) (hS : CB S b B) : F_X1_billsInArrears b S = some (nI (sumN (fun q => (lvs (B.2.2.2.2 q)).length) B.2.2.2.1), S) := by
  have hn8 := hG.2.2.2.1
  unfold F_X1_billsInArrears
  rw [show (0 : Int32) = nI 0 from rfl, biaB_loop hb hG hS B.2.2.2.1 6000 0 0 (by omega) (by omega), Nat.zero_add, Nat.zero_add]
  rfl
theorem setB_loop (hb : LB b) (hG : GB B) (hS : CB S b B) : ∀ (j n i x : Nat), j < n → i + j = B.2.2.2.1 → L_X1_settledLoans_4 n b (nI x) (nI i) S = some (nI (x + (sumN (fun q => if (B.2.2.2.2 q).1 8 = 0 ∧ lvs (B.2.2.2.2 q) = [] then 1 else 0) (i + j) - sumN (fun q => if (B.2.2.2.2 q).1 8 = 0 ∧ lvs (B.2.2.2.2 q) = [] then 1 else 0) i)), S)
  | _, 0, _, _, h, _ => absurd h (Nat.not_lt_zero _)
  | 0, n + 1, i, x, _, hi => by
    have hn8 := hG.2.2.2.1
    show B_X1_settledLoans_4 _ _ _ _ _ = _
    unfold B_X1_settledLoans_4
    rw [bI hb, hS.2.2.2.1, if_pos (by rw [nI_leI (by omega) (by omega)]; omega), Nat.add_zero, Nat.sub_self]
    rfl
  | j + 1, n + 1, i, x, hn, hi => by
    have hn8 := hG.2.2.2.1
    have hc := LC_book hb (show i < 8 by omega)
    have e : i + 1 + j = i + (j + 1) := by omega
    have hs1 : sumN (fun q => if (B.2.2.2.2 q).1 8 = 0 ∧ lvs (B.2.2.2.2 q) = [] then 1 else 0) (i + 1) = sumN (fun q => if (B.2.2.2.2 q).1 8 = 0 ∧ lvs (B.2.2.2.2 q) = [] then 1 else 0) i + (if (B.2.2.2.2 i).1 8 = 0 ∧ lvs (B.2.2.2.2 i) = [] then 1 else 0) := rfl
    have hmono : ∀ k, sumN (fun q => if (B.2.2.2.2 q).1 8 = 0 ∧ lvs (B.2.2.2.2 q) = [] then 1 else 0) (i + 1) ≤ sumN (fun q => if (B.2.2.2.2 q).1 8 = 0 ∧ lvs (B.2.2.2.2 q) = [] then 1 else 0) (i + 1 + k) := fun k => by
      induction k with
      | zero => exact Nat.le_refl _
      | succ k ih => exact Nat.le_trans ih (Nat.le_add_right _ _)
    have hm := hmono j
    rw [e] at hm
    show B_X1_settledLoans_4 _ _ _ _ _ = _
    unfold B_X1_settledLoans_4 J_X1_settledLoans_27
    rw [bI hb, hS.2.2.2.1, if_neg (by rw [nI_leI (by omega) (by omega)]; omega), br4 hb, baR hb (by omega), lgk hc, isSettled_e hc (hS.2.2.2.2 i (by omega)) (hG.2.2.2.2 i (by omega)).1, cl_some, show nI i + 1 = nI (i + 1) from nI_1 i, show nI x + 1 = nI (x + 1) from nI_1 x, setB_loop hb hG hS j n (i + 1) x (by omega) (by omega), setB_loop hb hG hS j n (i + 1) (x + 1) (by omega) (by omega), e]
    by_cases h : (B.2.2.2.2 i).1 8 = 0 ∧ lvs (B.2.2.2.2 i) = []
    · rw [if_pos h] at hs1 ⊢
      rw [if_neg ne10]
      congr 3
      omega
    · rw [if_neg h] at hs1 ⊢
      rw [if_pos rfl]
      congr 3
      omega
theorem setB_e (hb : LB b) (hG : GB B) (hS : CB S b B) : F_X1_settledLoans b S = some (nI (sumN (fun q => if (B.2.2.2.2 q).1 8 = 0 ∧ lvs (B.2.2.2.2 q) = [] then 1 else 0) B.2.2.2.1), S) := by
  have hn8 := hG.2.2.2.1
  unfold F_X1_settledLoans
  rw [show (0 : Int32) = nI 0 from rfl, setB_loop hb hG hS B.2.2.2.1 6000 0 0 (by omega) (by omega), Nat.zero_add, Nat.zero_add]
  rfl
/-- a new LOAN -/
def new0 (d lent rate cn kd md n : Nat) : Ln := ((fun w => if w = 0 then lent else if w = 1 then rate else if w = 2 then cn else if w = 3 then kd else if w = 4 then n else if w = 5 then md else if w = 6 then d else if w = 8 then lent else 0), (fun _ => 0), (fun _ => (0, 0, 0, 0)))
theorem new0_gd {d lent rate cn kd md n : Nat} (h1 : 1 ≤ lent) (h2 : lent ≤ 100000000) (h3 : rate ≤ 5000) (h4 : cn ≤ 3) (h5 : kd ≤ 2) (h6 : md ≤ 1) (h7 : 1 ≤ n) (h8 : n ≤ 60) (h9 : d ≤ 36524) (h10 : mo d + n < 1200) : GD (new0 d lent rate cn kd md n) :=
  ⟨⟨h1, h2⟩, h3, h4, h5, ⟨h7, h8⟩, h6, ⟨h9, h10⟩, Nat.zero_le _, h2, Nat.zero_le _, fun _ => ⟨Nat.zero_le _, Nat.zero_le _, Nat.zero_le _, Nat.zero_le _⟩, fun _ _ => rfl⟩
theorem lend_ok (hb : LB b) (hG : GB B) (hS : CB S b B) {lent rate cn kd md n : Nat} (h1 : 1 ≤ lent) (h2 : lent ≤ 100000000) (h3 : rate ≤ 5000) (h4 : cn ≤ 3) (h5 : kd ≤ 2) (h6 : md ≤ 1) (h7 : 1 ≤ n) (h8 : n ≤ 60) : (¬ mo B.1 + n < 1200 ∧ F_X1_lend b (lN lent) (nI rate) (nI cn) (nI kd) (nI md) (nI n) S = some (-5, S)) ∨ (mo B.1 + n < 1200 ∧ B.2.2.2.1 = 8 ∧ F_X1_lend b (lN lent) (nI rate) (nI cn) (nI kd) (nI md) (nI n) S = some (-3, S)) ∨ (mo B.1 + n < 1200 ∧ B.2.2.2.1 < 8 ∧ ∃ S', F_X1_lend b (lN lent) (nI rate) (nI cn) (nI kd) (nI md) (nI n) S = some (nI B.2.2.2.1, S') ∧ CB S' b (B.1, B.2.1, B.2.2.1, B.2.2.2.1 + 1, up B.2.2.2.2 B.2.2.2.1 (relv (new0 B.1 lent rate cn kd md n))) ∧ offB S S' b) := by
  have hd := hG.1
  have hm := mo_lt hd
  have hn8 := hG.2.2.2.1
  have nn : ∀ a m q : Nat, a < 2 ^ 31 → m < 2 ^ 31 → q < 2 ^ 31 → m ≤ a → a ≤ q → (if nI a < nI m ∨ nI q < nI a then (0 : Int32) else 1) = 1 := by
    intro a m q ha hm hq h1 h2
    rw [if_neg]
    rw [nI_ltI ha hm, nI_ltI hq ha]
    omega
  have body : F_X1_lend b (lN lent) (nI rate) (nI cn) (nI kd) (nI md) (nI n) S = (if nI (fo (mo B.1 + n)) ≤ (36524 : Int32) then (gI 0 3 b S fun v88 => if v88 < (8 : Int32) then (gR 0 4 b fun v100 => gI 0 3 b S fun v104 => aR 14 v100 v104 fun v107 => gk v107 2 <| cl (F_X4_clear v107 S) fun _ S112 => pL 2 0 v107 (lN lent) S112 fun S118 => pL 2 1 v107 (lN lent) S118 fun S124 => pI 2 7 v107 (nI rate) S124 fun S130 => pI 2 8 v107 (nI cn) S130 fun S137 => pI 2 9 v107 (nI kd) S137 fun S144 => pI 2 10 v107 (nI md) S144 fun S151 => pI 2 11 v107 (nI n) S151 fun S158 => gI 0 0 b S158 fun v164 => gk v107 2 <| cl (F_X4_layPeriods v107 v164 S158) fun _ S167 => gk v107 2 <| cl (F_X4_findLevel v107 S167) fun _ S172 => gI 0 3 b S172 fun v177 => pI 0 3 b (v177 + (1 : Int32)) S172 fun S182 => gI 0 3 b S182 fun v186 => some ((v186 - (1 : Int32)), S182)) else (some ((-3 : Int32), S))) else (some ((-5 : Int32), S))) := by
    unfold F_X1_lend
    rw [if_neg (show ¬ lN lent < 1 from fun z => by rw [show (1 : Int64) = lN 1 from rfl, lN_lt63 (by omega) (by omega)] at z; omega), if_neg (show ¬ (100000000 : Int64) < lN lent from fun z => by rw [fa_litL 100000000, lN_lt63 (by omega) (by omega)] at z; omega), isRate_e, cl_some, nn rate 0 5000 (by omega) (by omega) (by omega) (by omega) h3, if_neg ne10]
    rw [within_e, cl_some, show (if nI cn < 0 ∨ 3 < nI cn then (0 : Int32) else 1) = 1 from nn cn 0 3 (by omega) (by omega) (by omega) (by omega) h4, if_pos ne10, within_e, cl_some, show (if nI kd < 0 ∨ 2 < nI kd then (0 : Int32) else 1) = 1 from nn kd 0 2 (by omega) (by omega) (by omega) (by omega) h5, if_neg ne10, within_e, cl_some, show (if nI md < 0 ∨ 1 < nI md then (0 : Int32) else 1) = 1 from nn md 0 1 (by omega) (by omega) (by omega) (by omega) h6, if_neg ne10, within_e, cl_some, show (if nI n < 1 ∨ 60 < nI n then (0 : Int32) else 1) = 1 from nn n 1 60 (by omega) (by omega) (by omega) h7 h8, if_pos ne10, bI hb, hS.1, monthOf_e _ hd, cl_some, nI_add, firstOf_e _ (by omega), cl_some]
  have hfo := fo_bound (show mo B.1 + n < 3000 by omega)
  have hle : nI (fo (mo B.1 + n)) ≤ (36524 : Int32) ↔ mo B.1 + n < 1200 := by
    rw [fa_lit 36524, nI_leI (by omega) (by omega)]
    constructor
    · intro h
      apply Classical.byContradiction
      intro q
      have := fo_mono (show 1200 ≤ mo B.1 + n by omega)
      rw [fo_1200] at this
      omega
    · intro h
      have h9 := fo_mono (show mo B.1 + n + 1 ≤ 1200 by omega)
      have h8 := (fo_lt (mo B.1 + n)).1
      rw [fo_1200] at h9
      omega
  rw [body]
  by_cases hst : mo B.1 + n < 1200
  · refine Or.inr ?_
    rw [if_pos (hle.mpr hst), bI hb, hS.2.2.2.1]
    by_cases h88 : B.2.2.2.1 = 8
    · refine Or.inl ⟨hst, h88, ?_⟩
      rw [if_neg (by rw [h88]; decide)]
    · refine Or.inr ⟨hst, by omega, ?_⟩
      have hc := LC_book hb (show B.2.2.2.1 < 8 by omega)
      rw [if_pos (by rw [show (8 : Int32) = nI 8 from rfl, nI_ltI (by omega) (by omega)]; omega), br4 hb, bI hb, hS.2.2.2.1, baR hb (by omega), lgk hc]
      obtain ⟨S1, r1, r2, r3, r4, r5, r6, r7, r8, r9⟩ := clear_e hc S
      generalize hcq : b + 2 + 7 * B.2.2.2.1 = c at hc r1 r2 r3 r4 r5 r6 r7 r8 r9 ⊢
      rw [r1, cl_some, lpL hc, lpL hc, lpI hc, lpI hc, lpI hc, lpI hc, lpI hc, bI hb, lgk hc]
      have hbc : b ≠ c := by omega
      have e0 : (setI (setI (setI (setI (setI (setL (setL S1 c 0 (lN lent)) c 1 (lN lent)) c 7 (nI rate)) c 8 (nI cn)) c 9 (nI kd)) c 10 (nI md)) c 11 (nI n)).1 b 0 = nI B.1 := by
        simp only [setI_n hbc, sL1]
        rw [(r9 b (by omega)).1]
        exact hS.1
      rw [e0]
      have oT : offL S (setI (setI (setI (setI (setI (setL (setL S1 c 0 (lN lent)) c 1 (lN lent)) c 7 (nI rate)) c 8 (nI cn)) c 9 (nI kd)) c 10 (nI md)) c 11 (nI n)) c := r9.tr (fun x hx => by
        simp (disch := omega) only [setL_n, setI_n, sI2, sL1]
        exact ⟨trivial, trivial⟩)
      have t2 : (setI (setI (setI (setI (setI (setL (setL S1 c 0 (lN lent)) c 1 (lN lent)) c 7 (nI rate)) c 8 (nI cn)) c 9 (nI kd)) c 10 (nI md)) c 11 (nI n)).2 c 0 = lN lent ∧ (setI (setI (setI (setI (setI (setL (setL S1 c 0 (lN lent)) c 1 (lN lent)) c 7 (nI rate)) c 8 (nI cn)) c 9 (nI kd)) c 10 (nI md)) c 11 (nI n)).2 c 1 = lN lent := by
        simp (disch := omega) only [setL_k, setL_s, sI2]
        exact ⟨trivial, trivial⟩
      have t3 : ∀ j, 1 < j → (setI (setI (setI (setI (setI (setL (setL S1 c 0 (lN lent)) c 1 (lN lent)) c 7 (nI rate)) c 8 (nI cn)) c 9 (nI kd)) c 10 (nI md)) c 11 (nI n)).2 c j = S1.2 c j := by
        intro j hj
        simp (disch := omega) only [setL_k, sI2]
      have t4 : ∀ x, x ≠ c → (setI (setI (setI (setI (setI (setL (setL S1 c 0 (lN lent)) c 1 (lN lent)) c 7 (nI rate)) c 8 (nI cn)) c 9 (nI kd)) c 10 (nI md)) c 11 (nI n)).1 x = S1.1 x ∧ (setI (setI (setI (setI (setI (setL (setL S1 c 0 (lN lent)) c 1 (lN lent)) c 7 (nI rate)) c 8 (nI cn)) c 9 (nI kd)) c 10 (nI md)) c 11 (nI n)).2 x = S1.2 x := by
        intro x hx
        simp only [setI_n hx, setL_n hx, sI2, sL1]
        exact ⟨trivial, trivial⟩
      have t5 : (setI (setI (setI (setI (setI (setL (setL S1 c 0 (lN lent)) c 1 (lN lent)) c 7 (nI rate)) c 8 (nI cn)) c 9 (nI kd)) c 10 (nI md)) c 11 (nI n)).1 c 7 = nI rate ∧ (setI (setI (setI (setI (setI (setL (setL S1 c 0 (lN lent)) c 1 (lN lent)) c 7 (nI rate)) c 8 (nI cn)) c 9 (nI kd)) c 10 (nI md)) c 11 (nI n)).1 c 8 = nI cn ∧ (setI (setI (setI (setI (setI (setL (setL S1 c 0 (lN lent)) c 1 (lN lent)) c 7 (nI rate)) c 8 (nI cn)) c 9 (nI kd)) c 10 (nI md)) c 11 (nI n)).1 c 9 = nI kd ∧ (setI (setI (setI (setI (setI (setL (setL S1 c 0 (lN lent)) c 1 (lN lent)) c 7 (nI rate)) c 8 (nI cn)) c 9 (nI kd)) c 10 (nI md)) c 11 (nI n)).1 c 10 = nI md ∧ (setI (setI (setI (setI (setI (setL (setL S1 c 0 (lN lent)) c 1 (lN lent)) c 7 (nI rate)) c 8 (nI cn)) c 9 (nI kd)) c 10 (nI md)) c 11 (nI n)).1 c 11 = nI n ∧ (setI (setI (setI (setI (setI (setL (setL S1 c 0 (lN lent)) c 1 (lN lent)) c 7 (nI rate)) c 8 (nI cn)) c 9 (nI kd)) c 10 (nI md)) c 11 (nI n)).1 c 12 = S1.1 c 12 := by
        simp (disch := omega) only [setI_k, setI_s, sL1]
        exact ⟨trivial, trivial, trivial, trivial, trivial, trivial⟩
      generalize setI (setI (setI (setI (setI (setL (setL S1 c 0 (lN lent)) c 1 (lN lent)) c 7 (nI rate)) c 8 (nI cn)) c 9 (nI kd)) c 10 (nI md)) c 11 (nI n) = T at e0 oT t2 t3 t4 t5 ⊢
      obtain ⟨S2, u1, u2, u3, u4, u5⟩ := layPeriods_e hc hd h8 h7 h4 hst T t5.2.2.2.2.1 t5.2.1
      rw [u1, cl_some, lgk hc]
      have hCL : CL S2 c (new0 B.1 lent rate cn kd md n) := by
        have f0 := u4 c (by omega)
        have f0' := u5 c (by omega)
        have f3 := u5 (c + 3) (by omega)
        have f4 := u5 (c + 4) (by omega)
        have f5 := u5 (c + 5) (by omega)
        have f6 := u4 (c + 6) (by omega)
        unfold CL
        rw [f0, f0', f3, f4, f5, f6, t3 2 (by omega), t3 3 (by omega), t3 4 (by omega), t3 5 (by omega), t3 6 (by omega), (t4 (c + 3) (by omega)).2, (t4 (c + 4) (by omega)).2, (t4 (c + 5) (by omega)).2, (t4 (c + 6) (by omega)).1, t5.2.2.2.2.2]
        exact ⟨⟨t2.1, t2.2, r3, r4, r5, r6, r7⟩, ⟨t5.1, t5.2.1, t5.2.2.1, t5.2.2.2.1, t5.2.2.2.2.1, r8⟩, u2, u3, fun k hk => r2 k hk⟩
      obtain ⟨S3, v1, v2, v3⟩ := findLevel_e hc hCL (new0_gd h1 h2 h3 h4 h5 h6 h7 h8 hd hst)
      have oL : offL S S3 c := (oT.tr (fun x hx => ⟨u4 x (by omega), u5 x (by omega)⟩)).tr v3
      rw [v1, cl_some, bI hb, (oL b (by omega)).1, hS.2.2.2.1, show nI B.2.2.2.1 + 1 = nI (B.2.2.2.1 + 1) from nI_1 _, bpI hb, bI hb, setI_s, show (1 : Int32) = nI 1 from rfl, pk_sub (by omega), Nat.add_sub_cancel]
      subst hcq
      refine ⟨_, rfl, ?_, (oL.B (by omega)).I 3 _⟩
      obtain ⟨q0, q1, q2, q3, q4⟩ := hS
      have fb := (oL b (by omega)).1
      refine ⟨by rw [setI_k (by omega), fb]; exact q0, by rw [setI_k (by omega), fb]; exact q1, by rw [setI_k (by omega), fb]; exact q2, setI_s, fun j hj => ?_⟩
      have hj' : j < B.2.2.2.1 + 1 := hj
      refine CL.same (S := S3) ?_ (fun q hq => ⟨setI_n (by omega), rfl⟩)
      by_cases e : j = B.2.2.2.1
      · subst e
        show CL S3 _ (up _ _ _ _)
        rw [up_s]
        exact v2
      · show CL S3 _ (up _ _ _ _)
        rw [up_n _ _ e]
        exact (q4 j (by omega)).off oL (by omega)
  · exact Or.inl ⟨hst, by rw [if_neg (fun z => hst (hle.mp z))]⟩
end BKD
