/-! what the small methods answer -/
theorem am_i2l_of {x : Int} (h1 : -2147483648 ≤ x) (h2 : x ≤ 2147483647) : am_i2l x = Int64.ofInt x := by
  rw [am_i2l_eq, ← Int64.toInt_inj, Int32.toInt_toInt64, am_toI ⟨h1, h2⟩, Int64.toInt_ofInt_of_le (by omega) (by omega)]
theorem am_lcmp_of {x y : Int} (h1 : -2147483648 ≤ x) (h2 : x ≤ 2147483647) (h3 : -2147483648 ≤ y) (h4 : y ≤ 2147483647) : am_lcmp (Int64.ofInt x) (Int64.ofInt y) = if y < x then 1 else if x = y then 0 else -1 := by
  unfold am_lcmp
  simp only [gt_iff_lt, Int64.lt_iff_toInt_lt, ← Int64.toInt_inj, Int64.toInt_ofInt_of_le (show -2 ^ 63 ≤ x by omega) (show x < 2 ^ 63 by omega), Int64.toInt_ofInt_of_le (show -2 ^ 63 ≤ y by omega) (show y < 2 ^ 63 by omega)]
set_option maxHeartbeats 1000000 in
set_option maxRecDepth 100000 in
theorem eq_in {x a b : Int} {h : am_H} {Q : am_P} (h1 : -2147483648 ≤ x) (h2 : x ≤ 2147483647) (h3 : -2147483648 ≤ a) (h4 : a ≤ 2147483647) (h5 : -2147483648 ≤ b) (h6 : b ≤ 2147483647) :
    am_Call 95 [.inr (.inl (Int64.ofInt x)), .inr (.inl (Int64.ofInt a)), .inr (.inl (Int64.ofInt b))] h Q = ((a ≤ x ∧ x ≤ b → Q (some (.inl 1)) h) ∧ (¬ (a ≤ x ∧ x ≤ b) → Q (some (.inl 0)) h)) := by
  simp only [eq_self, and_self, am_up_at, Int.cast_ofNat_Int, Int.reduceNatCast, true_or, or_true, or_false, false_or, Classical.not_not, false_and, and_false, am_bk, am_step, am_ldI, am_ldL, am_ldA, am_nth, am_sto, am_stw_0, am_stw_i, am_stw_n, am_stw_a, am_stw_l, am_br, am_cmp, am_tk, am_cat, am_sw, am_copy, am_R, am_nc0, am_nc1, am_f0, am_f1, am_f2, am_f3, Int.reduceNeg, Int.reduceEq, Int.reduceLE, Int.reduceLT, Nat.reduceLeDiff, Nat.reduceAdd, Nat.reduceEqDiff, true_and, and_true, ↓reduceIte, if_false, if_true, forall_const, not_true_eq_false, not_false_eq_true, false_implies, true_implies, implies_true, Int.reduceAdd, Int.reduceMul, Int.reduceSub, ne_eq, ca_95, bl_95_0, bl_95_10, bl_95_11, am_lcmp_of h1 h2 h3 h4, am_lcmp_of h1 h2 h5 h6]
  apply propext
  constructor
  · intro H
    refine ⟨fun q => ?_, fun q => ?_⟩
    · have q1 := H.2.2 (by split <;> (try split) <;> omega)
      exact q1.2.2 (by split <;> (try split) <;> omega)
    · by_cases c1 : x < a
      · exact H.2.1 (by rw [if_neg (by omega), if_neg (by omega)]; omega)
      · have q1 := H.2.2 (by split <;> (try split) <;> omega)
        exact q1.2.1 (by rw [if_pos (by omega)]; omega)
  · intro H
    refine ⟨by split <;> (try split) <;> omega, fun q => H.2 ?_, fun q => ⟨by split <;> (try split) <;> omega, fun q2 => H.2 ?_, fun q2 => H.1 ?_⟩⟩
    · intro z; split at q <;> (try split at q) <;> omega
    · intro z; split at q2 <;> (try split at q2) <;> omega
    · refine ⟨?_, ?_⟩
      · by_cases z : a ≤ x
        · exact z
        · rw [if_neg (by omega), if_neg (by omega)] at q; omega
      · by_cases z : x ≤ b
        · exact z
        · rw [if_pos (by omega)] at q2; omega
set_option maxHeartbeats 1000000 in
set_option maxRecDepth 100000 in
theorem eq_noRing {x : Int} {h : am_H} {Q : am_P} (h1 : -2147483648 ≤ x) (h2 : x ≤ 2147483647) : am_Call 100 [.inl x] h Q = ((0 ≤ x ∧ x ≤ 2 → Q (some (.inl 0)) h) ∧ (¬ (0 ≤ x ∧ x ≤ 2) → Q (some (.inl 1)) h)) := by
  simp (disch := omega) only [eq_self, and_self, am_up_at, Int.cast_ofNat_Int, Int.reduceNatCast, true_or, or_true, or_false, false_or, Classical.not_not, false_and, and_false, am_bk, am_step, am_ldI, am_ldL, am_ldA, am_nth, am_sto, am_stw_0, am_stw_i, am_stw_n, am_stw_a, am_stw_l, am_br, am_cmp, am_tk, am_cat, am_sw, am_copy, am_R, am_nc0, am_nc1, am_f0, am_f1, am_f2, am_f3, Int.reduceNeg, Int.reduceEq, Int.reduceLE, Int.reduceLT, Nat.reduceLeDiff, Nat.reduceAdd, Nat.reduceEqDiff, true_and, and_true, ↓reduceIte, if_false, if_true, forall_const, not_true_eq_false, not_false_eq_true, false_implies, true_implies, implies_true, Int.reduceAdd, Int.reduceMul, Int.reduceSub, ne_eq, ca_100, bl_100_0, bl_100_5, bl_100_8, bl_100_9, am_i2l_of, eq_in]
set_option maxHeartbeats 1000000 in
set_option maxRecDepth 100000 in
theorem eq_noSecond {x : Int} {h : am_H} {Q : am_P} (h1 : -2147483648 ≤ x) (h2 : x ≤ 2147483647) : am_Call 99 [.inl x] h Q = ((0 ≤ x ∧ x ≤ 299 → Q (some (.inl 0)) h) ∧ (¬ (0 ≤ x ∧ x ≤ 299) → Q (some (.inl 1)) h)) := by
  simp (disch := omega) only [eq_self, and_self, am_up_at, Int.cast_ofNat_Int, Int.reduceNatCast, true_or, or_true, or_false, false_or, Classical.not_not, false_and, and_false, am_bk, am_step, am_ldI, am_ldL, am_ldA, am_nth, am_sto, am_stw_0, am_stw_i, am_stw_n, am_stw_a, am_stw_l, am_br, am_cmp, am_tk, am_cat, am_sw, am_copy, am_R, am_nc0, am_nc1, am_f0, am_f1, am_f2, am_f3, Int.reduceNeg, Int.reduceEq, Int.reduceLE, Int.reduceLT, Nat.reduceLeDiff, Nat.reduceAdd, Nat.reduceEqDiff, true_and, and_true, ↓reduceIte, if_false, if_true, forall_const, not_true_eq_false, not_false_eq_true, false_implies, true_implies, implies_true, Int.reduceAdd, Int.reduceMul, Int.reduceSub, ne_eq, ca_99, bl_99_0, bl_99_5, bl_99_8, bl_99_9, am_i2l_of, eq_in]
set_option maxHeartbeats 1000000 in
set_option maxRecDepth 100000 in
theorem eq_noGate {x : Int} {h : am_H} {Q : am_P} (h1 : -2147483648 ≤ x) (h2 : x ≤ 2147483647) (h3 : 0 ≤ h 86 5) (h4 : h 86 5 ≤ 8) : am_Call 98 [.inr (.inr (some 86)), .inl x] h Q = ((0 ≤ x ∧ x ≤ h 86 5 - 1 → Q (some (.inl 0)) h) ∧ (¬ (0 ≤ x ∧ x ≤ h 86 5 - 1) → Q (some (.inl 1)) h)) := by
  simp (disch := omega) only [eq_self, and_self, am_up_at, Int.cast_ofNat_Int, Int.reduceNatCast, true_or, or_true, or_false, false_or, Classical.not_not, false_and, and_false, am_bk, am_step, am_ldI, am_ldL, am_ldA, am_nth, am_sto, am_stw_0, am_stw_i, am_stw_n, am_stw_a, am_stw_l, am_br, am_cmp, am_tk, am_cat, am_sw, am_copy, am_R, am_nc0, am_nc1, am_f0, am_f1, am_f2, am_f3, Int.reduceNeg, Int.reduceEq, Int.reduceLE, Int.reduceLT, Nat.reduceLeDiff, Nat.reduceAdd, Nat.reduceEqDiff, true_and, and_true, ↓reduceIte, if_false, if_true, forall_const, not_true_eq_false, not_false_eq_true, false_implies, true_implies, implies_true, Int.reduceAdd, Int.reduceMul, Int.reduceSub, ne_eq, ca_98_86, bl_98_0, bl_98_9, bl_98_12, bl_98_13, gf_86_0, pf_86_0, gf_86_1, ar_50, al_50, gf_86_2, pf_86_2, gf_86_3, pf_86_3, gf_86_4, pf_86_4, gf_86_5, pf_86_5, gf_86_6, ar_51, al_51, gf_86_7, ar_52, al_52, gf_86_8, ar_53, al_53, gf_86_9, ar_54, al_54, gf_86_10, ar_55, al_55, gf_86_11, ar_56, al_56, gf_86_12, ar_57, al_57, gf_86_13, pf_86_13, gf_86_14, pf_86_14, gf_86_15, ar_58, al_58, gf_86_16, ar_59, al_59, gf_86_17, ar_60, al_60, gf_86_18, ar_61, al_61, gf_86_19, ar_62, al_62, gf_86_20, pf_86_20, gf_86_21, pf_86_21, gf_86_22, ar_63, al_63, gf_86_23, ar_64, al_64, gf_86_24, ar_65, al_65, gf_86_25, ar_66, al_66, gf_86_26, ar_67, al_67, gf_86_27, ar_68, al_68, gf_86_28, ar_69, al_69, gf_86_29, ar_70, al_70, gf_86_30, ar_71, al_71, gf_86_31, ar_72, al_72, gf_86_32, ar_73, al_73, gf_86_33, ar_74, al_74, gf_86_34, pf_86_34, am_i2l_of, eq_in]
