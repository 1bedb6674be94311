/-! open -/
/-- the pairs of the table are those of the city of S -/
def pr_ok (h : am_H) (S : sg_S) : Prop := (0 ≤ h 83 9 ∧ h 83 9 ≤ 16) ∧
  (∀ a b, 0 ≤ a → a < sg_G S → 0 ≤ b → b < sg_G S → (h 36 (8 * a + b) = -1 ∨ (0 ≤ h 36 (8 * a + b) ∧ h 36 (8 * a + b) < h 83 9)) ∧ h 36 (8 * a + b) = h 36 (8 * b + a) ∧
    (h 36 (8 * a + b) ≠ -1 ↔ sg_bes S a b) ∧
    (sg_ri S a + 1 = sg_ri S b → h 36 (8 * a + b) ≠ -1 →
      h 37 (h 36 (8 * a + b)) = (if sg_kd S a = 1 ∨ sg_kd S b = 1 then 1 else 0) ∧
      h 38 (h 36 (8 * a + b)) = (sg_pl S a - sg_pl S b + (if sg_kd S a = 1 ∨ sg_kd S b = 1 then 1 else 0)) % sg_U S ∧
      h 39 (h 36 (8 * a + b)) = (if sg_kd S a = 3 then 1 else 0) - (if sg_kd S b = 3 then 1 else 0) ∧
      h 40 (h 36 (8 * a + b)) = (if sg_kd S a = 4 ∨ sg_kd S b = 4 then 1 else 0) ∧
      h 41 (h 36 (8 * a + b)) = sg_ri S a))
theorem pr_ok_of {h : am_H} {k : Int} (hi : iv h k) : pr_ok h (sg_of h) := hi.2.2.2.2.2.2.2.1
def tb_adj (U x : Int) : Int := if x < 0 then x + U else if U ≤ x then x - U else x
theorem far_eq {U a b T1 T2 sl f1 f2 : Int} (hU : 12 ≤ U ∧ U ≤ 54 ∧ U % 6 = 0) (ha : 0 ≤ a ∧ a < U) (hb : 0 ≤ b ∧ b < U) (h1 : 0 ≤ T1 ∧ T1 < U) (h2 : 0 ≤ T2 ∧ T2 < U) (hs : sl = 0 ∨ sl = 1) (hf1 : f1 = 0 ∨ f1 = 1) (hf2 : f2 = 0 ∨ f2 = 1) :
    tb_adj U ((a - b + sl) % U + T1 - T2 + (f1 - f2)) ≤ 2 * sl ↔ ((a + f1 + T1) % U = (b + f2 + T2) % U ∨ (sl = 1 ∧ ((a + f1 + T1) % U - (b + f2 + T2) % U = 1 ∨ (b + f2 + T2) % U - (a + f1 + T1) % U = 1 ∨ (a + f1 + T1) % U - (b + f2 + T2) % U = U - 1 ∨ (b + f2 + T2) % U - (a + f1 + T1) % U = U - 1))) := by
  have : U = 12 ∨ U = 18 ∨ U = 24 ∨ U = 30 ∨ U = 36 ∨ U = 42 ∨ U = 48 ∨ U = 54 := by omega
  unfold tb_adj
  rcases this with rfl | rfl | rfl | rfl | rfl | rfl | rfl | rfl <;> rcases hs with rfl | rfl <;> (split <;> (try split) <;> omega)
set_option maxHeartbeats 400000 in
set_option maxRecDepth 100000 in
theorem sp_openAt {S : sg_S} {p i : Int} {h : am_H} {Q : am_P} (hu : h 78 0 = sg_U S ∧ 12 ≤ sg_U S ∧ sg_U S ≤ 54) (hp : 0 ≤ p ∧ p < 16) (hi : 0 ≤ i ∧ i < 505) (ho : 0 ≤ h 41 p ∧ h 41 p ≤ 1) (hsl : h 37 p = 0 ∨ h 37 p = 1) (hah : 0 ≤ h 38 p ∧ h 38 p < sg_U S) (hod : -1 ≤ h 39 p ∧ h 39 p ≤ 1) (hth : h 40 p = 0 ∨ h 40 p = 1) (hT1 : 0 ≤ h 35 (505 * h 41 p + i) ∧ h 35 (505 * h 41 p + i) < sg_U S) (hT2 : 0 ≤ h 35 (505 * h 41 p + i + 505) ∧ h 35 (505 * h 41 p + i + 505) < sg_U S)
    (H1 : ¬ (h 40 p = 1 ∧ i % 3 ≠ 0) ∧ tb_adj (sg_U S) (h 38 p + h 35 (505 * h 41 p + i) - h 35 (505 * h 41 p + i + 505) + (if i % 2 = 1 then h 39 p else 0)) ≤ 2 * h 37 p → Q (some (.inl 1)) h)
    (H0 : ¬ (¬ (h 40 p = 1 ∧ i % 3 ≠ 0) ∧ tb_adj (sg_U S) (h 38 p + h 35 (505 * h 41 p + i) - h 35 (505 * h 41 p + i + 505) + (if i % 2 = 1 then h 39 p else 0)) ≤ 2 * h 37 p) → Q (some (.inl 0)) h) : am_Call 36 [.inr (.inr (some 83)), .inl p, .inl i] h Q := by
  have and1 := am_and1 (i := i) (by omega)
  simp (disch := omega) only [eq_self, and_self, am_up_at, Int.cast_ofNat_Int, Int.reduceNatCast, true_or, or_true, or_false, false_or, Classical.not_not, false_and, and_false, am_bk, am_step, am_ldI, am_ldL, am_ldA, am_nth, am_sto, am_stw_0, am_stw_i, am_stw_n, am_stw_a, am_stw_l, am_br, am_cmp, am_tk, am_cat, am_sw, am_copy, am_R, am_nc0, am_nc1, am_f0, am_f1, am_f2, am_f3, Int.reduceNeg, Int.reduceEq, Int.reduceLE, Int.reduceLT, Nat.reduceLeDiff, Nat.reduceAdd, Nat.reduceEqDiff, true_and, and_true, ↓reduceIte, if_false, if_true, forall_const, not_true_eq_false, not_false_eq_true, false_implies, true_implies, implies_true, Int.reduceAdd, Int.reduceMul, Int.reduceSub, ne_eq, ca_36_83, bl_36_0, bl_36_11, bl_36_23, bl_36_35, bl_36_47, bl_36_48, bl_36_57, bl_36_68, bl_36_78, bl_36_79, gf_83_0, gf_83_1, ar_35, al_35, gf_83_2, ar_36, al_36, gf_83_3, ar_37, al_37, gf_83_4, ar_38, al_38, gf_83_5, ar_39, al_39, gf_83_6, ar_40, al_40, gf_83_7, ar_41, al_41, gf_83_8, ar_42, al_42, gf_83_9, pf_83_9, gf_83_10, pf_83_10, gf_83_11, pf_83_11, gf_83_12, pf_83_12, gf_78_0, pf_78_0, gf_78_1, pf_78_1, gf_78_2, ar_6, al_6, gf_78_3, ar_7, al_7, gf_78_4, ar_8, al_8, gf_78_5, ar_9, al_9, gf_78_6, ar_10, al_10, and1, hu.1, Int.tmod_eq_emod_of_nonneg]
  (repeat' (first | with_reducible apply And.intro | with_reducible intro _)) <;> first | omega | (refine H1 ?_; unfold tb_adj; (repeat' split) <;> omega) | (refine H0 ?_; unfold tb_adj; (repeat' split) <;> omega)
set_option maxHeartbeats 400000 in
set_option maxRecDepth 100000 in
theorem sp_joinOf {S : sg_S} {a b : Int} {h : am_H} {Q : am_P} (hS : sg_ok S) (hP : pl_ok h S) (ha : 0 ≤ a ∧ a < sg_G S) (hb : 0 ≤ b ∧ b < sg_G S) (H1 : sg_wo S a b → Q (some (.inl (-1))) h) (H0 : ¬ sg_wo S a b → Q (some (.inl (h 36 (8 * a + b)))) h) : am_Call 33 [.inr (.inr (some 83)), .inl a, .inl b] h Q := by
  have g := hS.2.1
  have p1 := hP.2.1
  have pa := hP.2.2 a ha.1 ha.2
  have pb := hP.2.2 b hb.1 hb.2
  have ra := hS.2.2.1 a ha.1 ha.2
  have rb := hS.2.2.1 b hb.1 hb.2
  simp (disch := omega) only [eq_self, and_self, am_up_at, Int.cast_ofNat_Int, Int.reduceNatCast, true_or, or_true, or_false, false_or, Classical.not_not, false_and, and_false, am_bk, am_step, am_ldI, am_ldL, am_ldA, am_nth, am_sto, am_stw_0, am_stw_i, am_stw_n, am_stw_a, am_stw_l, am_br, am_cmp, am_tk, am_cat, am_sw, am_copy, am_R, am_nc0, am_nc1, am_f0, am_f1, am_f2, am_f3, Int.reduceNeg, Int.reduceEq, Int.reduceLE, Int.reduceLT, Nat.reduceLeDiff, Nat.reduceAdd, Nat.reduceEqDiff, true_and, and_true, ↓reduceIte, if_false, if_true, forall_const, not_true_eq_false, not_false_eq_true, false_implies, true_implies, implies_true, Int.reduceAdd, Int.reduceMul, Int.reduceSub, ne_eq, ca_33_83, bl_33_0, bl_33_4, bl_33_9, bl_33_10, bl_33_12, bl_33_24, bl_33_25, bl_33_26, bl_33_38, bl_33_43, bl_33_45, gf_83_0, gf_83_1, ar_35, al_35, gf_83_2, ar_36, al_36, gf_83_3, ar_37, al_37, gf_83_4, ar_38, al_38, gf_83_5, ar_39, al_39, gf_83_6, ar_40, al_40, gf_83_7, ar_41, al_41, gf_83_8, ar_42, al_42, gf_83_9, pf_83_9, gf_83_10, pf_83_10, gf_83_11, pf_83_11, gf_83_12, pf_83_12, gf_78_0, pf_78_0, gf_78_1, pf_78_1, gf_78_2, ar_6, al_6, gf_78_3, ar_7, al_7, gf_78_4, ar_8, al_8, gf_78_5, ar_9, al_9, gf_78_6, ar_10, al_10, eq_hasGate, p1, pa.1, pb.1, pa.2.2.2, pb.2.2.2]
  (repeat' (first | with_reducible apply And.intro | with_reducible intro _)) <;> first | omega | (refine H1 ?_; unfold sg_wo; omega) | (refine H0 ?_; unfold sg_wo; omega)
