set_option maxHeartbeats 400000 in
set_option maxRecDepth 100000 in
theorem pr_write {h : am_H} {k n : Int} {v : Int64} (hn : am_R n) (hi : iv h k) : rg_pair 56 101 [.inl n, .inr (.inl v)] h k := by
  unfold rg_pair
  obtain ⟨hn1, hn2⟩ := hn
  have hthr := iv_thr hi
  obtain ⟨hok, hc, hm, ht, hs, hk0, hk1, hp, hw⟩ := hi
  have t1 := ht.1
  have t2 := ht.2.1
  by_cases hn8 : 1 ≤ n ∧ n ≤ 8
  · by_cases hf : h 75 1 + n ≤ 60
    · simp (disch := omega) only [eq_self, and_self, am_up_at, Int.cast_ofNat_Int, Int.reduceNatCast, true_or, or_true, or_false, false_or, Classical.not_not, false_and, and_false, am_bk, am_step, am_ldI, am_ldL, am_ldA, am_nth, am_sto, am_stw_0, am_stw_i, am_stw_n, am_stw_a, am_stw_l, am_br, am_cmp, am_tk, am_cat, am_sw, am_copy, am_R, am_nc0, am_nc1, am_f0, am_f1, am_f2, am_f3, Int.reduceNeg, Int.reduceEq, Int.reduceLE, Int.reduceLT, Nat.reduceLeDiff, Nat.reduceAdd, Nat.reduceEqDiff, true_and, and_true, ↓reduceIte, if_false, if_true, forall_const, not_true_eq_false, not_false_eq_true, false_implies, true_implies, implies_true, Int.reduceAdd, Int.reduceMul, Int.reduceSub, ne_eq, ca_56_75, bl_56_0, bl_56_6, bl_56_8, bl_56_16, gf_75_0, ar_0, al_0, gf_75_1, pf_75_1, gf_75_2, gf_75_3, gf_75_4, gf_75_5, gf_75_6, gf_75_7, gf_75_8, gf_75_9, gf_75_10, hn1, hn2]
      obtain ⟨m, rfl⟩ : ∃ m : Nat, n = (m : Int) := ⟨n.toNat, by omega⟩
      (repeat' (first | with_reducible apply And.intro | with_reducible intro _)) <;> first | omega | skip
      all_goals (
        refine lp_wrX m h (by omega) (by omega) (by omega) (fun h1 W => ?_)
        obtain ⟨w1, w2, w3, w4, w5⟩ := W
        have g86 := w5 86 (by omega) (by omega)
        simp (disch := omega) only [eq_self, and_self, am_up_at, Int.cast_ofNat_Int, Int.reduceNatCast, true_or, or_true, or_false, false_or, Classical.not_not, false_and, and_false, am_bk, am_step, am_ldI, am_ldL, am_ldA, am_nth, am_sto, am_stw_0, am_stw_i, am_stw_n, am_stw_a, am_stw_l, am_br, am_cmp, am_tk, am_cat, am_sw, am_copy, am_R, am_nc0, am_nc1, am_f0, am_f1, am_f2, am_f3, Int.reduceNeg, Int.reduceEq, Int.reduceLE, Int.reduceLT, Nat.reduceLeDiff, Nat.reduceAdd, Nat.reduceEqDiff, true_and, and_true, ↓reduceIte, if_false, if_true, forall_const, not_true_eq_false, not_false_eq_true, false_implies, true_implies, implies_true, Int.reduceAdd, Int.reduceMul, Int.reduceSub, ne_eq, ca_101_86, bl_101_0, bl_101_8, bl_101_11, bl_101_19, gf_86_0, pf_86_0, gf_86_1, ar_50, al_50, gf_86_2, pf_86_2, gf_86_3, pf_86_3, gf_86_4, pf_86_4, gf_86_5, pf_86_5, gf_86_6, ar_51, al_51, gf_86_7, ar_52, al_52, gf_86_8, ar_53, al_53, gf_86_9, ar_54, al_54, gf_86_10, ar_55, al_55, gf_86_11, ar_56, al_56, gf_86_12, ar_57, al_57, gf_86_13, pf_86_13, gf_86_14, pf_86_14, gf_86_15, ar_58, al_58, gf_86_16, ar_59, al_59, gf_86_17, ar_60, al_60, gf_86_18, ar_61, al_61, gf_86_19, ar_62, al_62, gf_86_20, pf_86_20, gf_86_21, pf_86_21, gf_86_22, ar_63, al_63, gf_86_23, ar_64, al_64, gf_86_24, ar_65, al_65, gf_86_25, ar_66, al_66, gf_86_26, ar_67, al_67, gf_86_27, ar_68, al_68, gf_86_28, ar_69, al_69, gf_86_29, ar_70, al_70, gf_86_30, ar_71, al_71, gf_86_31, ar_72, al_72, gf_86_32, ar_73, al_73, gf_86_33, ar_74, al_74, gf_86_34, pf_86_34, eq_in, am_i2l_of, hn1, hn2, g86]
        (repeat' (first | with_reducible apply And.intro | with_reducible intro _)) <;> first | omega | skip
        all_goals (
          refine lp_wrM m _ (by omega) (by simp only [eq_self, and_self, am_up_at, am_up_ne, ne_eq, Nat.reduceEqDiff, Int.reduceEq, Int.reduceNeg, not_false_eq_true, false_and, and_false, true_and, and_true, ↓reduceIte, if_false, if_true, Int.reduceAdd, Int.reduceMul, Nat.reduceAdd, g86]; omega) (by simp only [eq_self, and_self, am_up_at, am_up_ne, ne_eq, Nat.reduceEqDiff, Int.reduceEq, Int.reduceNeg, not_false_eq_true, false_and, and_false, true_and, and_true, ↓reduceIte, if_false, if_true, Int.reduceAdd, Int.reduceMul, Nat.reduceAdd, g86]; omega) (fun h2 W2 => ?_)
          obtain ⟨z1, z2, z3, z4, z5⟩ := W2
          simp only [eq_self, and_self, am_up_at, am_up_ne, ne_eq, Nat.reduceEqDiff, Int.reduceEq, Int.reduceNeg, not_false_eq_true, false_and, and_false, true_and, and_true, ↓reduceIte, if_false, if_true, Int.reduceAdd, Int.reduceMul, Nat.reduceAdd, g86] at z1 z3 z4 ⊢
          have fr : ∀ c, c ≠ 0 → c ≠ 50 → c ≠ 75 → c ≠ 86 → h2 c = h c := fun c a1 a2 a3 a4 => by rw [z5 c a2 a4, am_up_ne a4, w5 c a1 a3]
          have f86 : ∀ i, i ≠ 0 → i ≠ 2 → h2 86 i = h 86 i := fun i a1 a2 => by rw [z2 i a2]; simp only [eq_self, and_self, am_up_at, am_up_ne, ne_eq, Nat.reduceEqDiff, Int.reduceEq, Int.reduceNeg, not_false_eq_true, false_and, and_false, true_and, and_true, ↓reduceIte, if_false, if_true, Int.reduceAdd, Int.reduceMul, Nat.reduceAdd, a1, g86]
          have f75 : h2 75 = h1 75 := by rw [z5 75 (by omega) (by omega), am_up_ne (by omega)]
          have f0 : h2 0 = h1 0 := by rw [z5 0 (by omega) (by omega), am_up_ne (by omega)]
          have g50 : h1 50 = h 50 := w5 50 (by omega) (by omega)
          have f6 := fr 6 (by omega) (by omega) (by omega) (by omega)
          have f7 := fr 7 (by omega) (by omega) (by omega) (by omega)
          have f8 := fr 8 (by omega) (by omega) (by omega) (by omega)
          have f9 := fr 9 (by omega) (by omega) (by omega) (by omega)
          have f11 := fr 11 (by omega) (by omega) (by omega) (by omega)
          have f12 := fr 12 (by omega) (by omega) (by omega) (by omega)
          have f13 := fr 13 (by omega) (by omega) (by omega) (by omega)
          have f14 := fr 14 (by omega) (by omega) (by omega) (by omega)
          have f15 := fr 15 (by omega) (by omega) (by omega) (by omega)
          have f16 := fr 16 (by omega) (by omega) (by omega) (by omega)
          have f23 := fr 23 (by omega) (by omega) (by omega) (by omega)
          have f24 := fr 24 (by omega) (by omega) (by omega) (by omega)
          have f25 := fr 25 (by omega) (by omega) (by omega) (by omega)
          have f26 := fr 26 (by omega) (by omega) (by omega) (by omega)
          have f27 := fr 27 (by omega) (by omega) (by omega) (by omega)
          have f28 := fr 28 (by omega) (by omega) (by omega) (by omega)
          have f29 := fr 29 (by omega) (by omega) (by omega) (by omega)
          have f30 := fr 30 (by omega) (by omega) (by omega) (by omega)
          have f31 := fr 31 (by omega) (by omega) (by omega) (by omega)
          have f32 := fr 32 (by omega) (by omega) (by omega) (by omega)
          have f33 := fr 33 (by omega) (by omega) (by omega) (by omega)
          have f34 := fr 34 (by omega) (by omega) (by omega) (by omega)
          have f35 := fr 35 (by omega) (by omega) (by omega) (by omega)
          have f36 := fr 36 (by omega) (by omega) (by omega) (by omega)
          have f37 := fr 37 (by omega) (by omega) (by omega) (by omega)
          have f38 := fr 38 (by omega) (by omega) (by omega) (by omega)
          have f39 := fr 39 (by omega) (by omega) (by omega) (by omega)
          have f40 := fr 40 (by omega) (by omega) (by omega) (by omega)
          have f41 := fr 41 (by omega) (by omega) (by omega) (by omega)
          have f42 := fr 42 (by omega) (by omega) (by omega) (by omega)
          have f51 := fr 51 (by omega) (by omega) (by omega) (by omega)
          have f52 := fr 52 (by omega) (by omega) (by omega) (by omega)
          have f53 := fr 53 (by omega) (by omega) (by omega) (by omega)
          have f54 := fr 54 (by omega) (by omega) (by omega) (by omega)
          have f55 := fr 55 (by omega) (by omega) (by omega) (by omega)
          have f56 := fr 56 (by omega) (by omega) (by omega) (by omega)
          have f57 := fr 57 (by omega) (by omega) (by omega) (by omega)
          have f63 := fr 63 (by omega) (by omega) (by omega) (by omega)
          have f64 := fr 64 (by omega) (by omega) (by omega) (by omega)
          have f65 := fr 65 (by omega) (by omega) (by omega) (by omega)
          have f66 := fr 66 (by omega) (by omega) (by omega) (by omega)
          have f67 := fr 67 (by omega) (by omega) (by omega) (by omega)
          have f78 := fr 78 (by omega) (by omega) (by omega) (by omega)
          have f79 := fr 79 (by omega) (by omega) (by omega) (by omega)
          have f81 := fr 81 (by omega) (by omega) (by omega) (by omega)
          have f82 := fr 82 (by omega) (by omega) (by omega) (by omega)
          have f83 := fr 83 (by omega) (by omega) (by omega) (by omega)
          refine rg_leaf (by omega) (by omega) ⟨?_, ?_, ?_, ?_, ?_, ?_, ?_, ?_, ?_⟩
          · have e : sg_of h2 = sg_of h := by simp only [sg_of, f6, f7, f8, f9, f11, f12, f13, f14, f15, f16, f23, f24, f25, f26, f27, f28, f29, f30, f31, f32, f33, f34, f35, f36, f37, f38, f39, f40, f41, f42, f51, f52, f53, f54, f55, f56, f57, f63, f64, f65, f66, f67, f78, f79, f81, f82, f83, f86 4 (by omega) (by omega), f86 5 (by omega) (by omega), f86 21 (by omega) (by omega)]
            rw [e]; exact hok
          · simpa only [iv_c, f6, f7, f8, f9, f11, f12, f13, f14, f15, f16, f23, f24, f25, f26, f27, f28, f29, f30, f31, f32, f33, f34, f35, f36, f37, f38, f39, f40, f41, f42, f51, f52, f53, f54, f55, f56, f57, f63, f64, f65, f66, f67, f78, f79, f81, f82, f83, f86 4 (by omega) (by omega), f86 5 (by omega) (by omega), f86 21 (by omega) (by omega)] using hc
          · simpa only [iv_m, f6, f7, f8, f9, f11, f12, f13, f14, f15, f16, f23, f24, f25, f26, f27, f28, f29, f30, f31, f32, f33, f34, f35, f36, f37, f38, f39, f40, f41, f42, f51, f52, f53, f54, f55, f56, f57, f63, f64, f65, f66, f67, f78, f79, f81, f82, f83, f86 4 (by omega) (by omega), f86 5 (by omega) (by omega), f86 21 (by omega) (by omega)] using hm
          · refine ⟨by rw [f75]; omega, by omega, fun i q1 q2 => ?_⟩
            rw [f0]
            by_cases hi : i < h 86 2
            · rw [w3 i (by omega), z3 i hi, g50]
              exact ht.2.2 i q1 hi
            · have a := w4 (i - h 75 1) (by omega) (by omega)
              have b := z4 (i - h 86 2) (by omega) (by omega)
              rw [show h 75 1 + (i - h 75 1) = i by omega] at a
              rw [show h 86 2 + (i - h 86 2) = i by omega] at b
              have r := wr_r v ((m : Int) - 1 - (i - h 86 2))
              rw [a, b, t1]
              exact ⟨rfl, r⟩
          · simpa only [iv_s, iv_v, f6, f7, f8, f9, f11, f12, f13, f14, f15, f16, f23, f24, f25, f26, f27, f28, f29, f30, f31, f32, f33, f34, f35, f36, f37, f38, f39, f40, f41, f42, f51, f52, f53, f54, f55, f56, f57, f63, f64, f65, f66, f67, f78, f79, f81, f82, f83, f86 4 (by omega) (by omega), f86 5 (by omega) (by omega), f86 21 (by omega) (by omega)] using hs
          · simpa only [iv_k, iv_v, Nat.reduceAdd, f6, f7, f8, f9, f11, f12, f13, f14, f15, f16, f23, f24, f25, f26, f27, f28, f29, f30, f31, f32, f33, f34, f35, f36, f37, f38, f39, f40, f41, f42, f51, f52, f53, f54, f55, f56, f57, f63, f64, f65, f66, f67, f78, f79, f81, f82, f83, f86 4 (by omega) (by omega), f86 5 (by omega) (by omega), f86 21 (by omega) (by omega)] using hk0
          · simpa only [iv_k, iv_v, Nat.reduceAdd, f6, f7, f8, f9, f11, f12, f13, f14, f15, f16, f23, f24, f25, f26, f27, f28, f29, f30, f31, f32, f33, f34, f35, f36, f37, f38, f39, f40, f41, f42, f51, f52, f53, f54, f55, f56, f57, f63, f64, f65, f66, f67, f78, f79, f81, f82, f83, f86 4 (by omega) (by omega), f86 5 (by omega) (by omega), f86 21 (by omega) (by omega)] using hk1
          · simpa only [iv_p, f6, f7, f8, f9, f11, f12, f13, f14, f15, f16, f23, f24, f25, f26, f27, f28, f29, f30, f31, f32, f33, f34, f35, f36, f37, f38, f39, f40, f41, f42, f51, f52, f53, f54, f55, f56, f57, f63, f64, f65, f66, f67, f78, f79, f81, f82, f83, f86 4 (by omega) (by omega), f86 5 (by omega) (by omega), f86 21 (by omega) (by omega)] using hp
          · simpa only [iv_w, f6, f7, f8, f9, f11, f12, f13, f14, f15, f16, f23, f24, f25, f26, f27, f28, f29, f30, f31, f32, f33, f34, f35, f36, f37, f38, f39, f40, f41, f42, f51, f52, f53, f54, f55, f56, f57, f63, f64, f65, f66, f67, f78, f79, f81, f82, f83, f86 4 (by omega) (by omega), f86 5 (by omega) (by omega), f86 21 (by omega) (by omega)] using iv_w_up hw))
    · simp (disch := omega) only [eq_self, and_self, am_up_at, Int.cast_ofNat_Int, Int.reduceNatCast, true_or, or_true, or_false, false_or, Classical.not_not, false_and, and_false, am_bk, am_step, am_ldI, am_ldL, am_ldA, am_nth, am_sto, am_stw_0, am_stw_i, am_stw_n, am_stw_a, am_stw_l, am_br, am_cmp, am_tk, am_cat, am_sw, am_copy, am_R, am_nc0, am_nc1, am_f0, am_f1, am_f2, am_f3, Int.reduceNeg, Int.reduceEq, Int.reduceLE, Int.reduceLT, Nat.reduceLeDiff, Nat.reduceAdd, Nat.reduceEqDiff, true_and, and_true, ↓reduceIte, if_false, if_true, forall_const, not_true_eq_false, not_false_eq_true, false_implies, true_implies, implies_true, Int.reduceAdd, Int.reduceMul, Int.reduceSub, ne_eq, ca_56_75, bl_56_0, bl_56_6, bl_56_8, bl_56_16, gf_75_0, ar_0, al_0, gf_75_1, pf_75_1, gf_75_2, gf_75_3, gf_75_4, gf_75_5, gf_75_6, gf_75_7, gf_75_8, gf_75_9, gf_75_10, hn1, hn2]
      (repeat' (first | with_reducible apply And.intro | with_reducible intro _)) <;> first | omega | skip
      all_goals (simp (disch := omega) only [eq_self, and_self, am_up_at, Int.cast_ofNat_Int, Int.reduceNatCast, true_or, or_true, or_false, false_or, Classical.not_not, false_and, and_false, am_bk, am_step, am_ldI, am_ldL, am_ldA, am_nth, am_sto, am_stw_0, am_stw_i, am_stw_n, am_stw_a, am_stw_l, am_br, am_cmp, am_tk, am_cat, am_sw, am_copy, am_R, am_nc0, am_nc1, am_f0, am_f1, am_f2, am_f3, Int.reduceNeg, Int.reduceEq, Int.reduceLE, Int.reduceLT, Nat.reduceLeDiff, Nat.reduceAdd, Nat.reduceEqDiff, true_and, and_true, ↓reduceIte, if_false, if_true, forall_const, not_true_eq_false, not_false_eq_true, false_implies, true_implies, implies_true, Int.reduceAdd, Int.reduceMul, Int.reduceSub, ne_eq, ca_101_86, bl_101_0, bl_101_8, bl_101_11, bl_101_19, gf_86_0, pf_86_0, gf_86_1, ar_50, al_50, gf_86_2, pf_86_2, gf_86_3, pf_86_3, gf_86_4, pf_86_4, gf_86_5, pf_86_5, gf_86_6, ar_51, al_51, gf_86_7, ar_52, al_52, gf_86_8, ar_53, al_53, gf_86_9, ar_54, al_54, gf_86_10, ar_55, al_55, gf_86_11, ar_56, al_56, gf_86_12, ar_57, al_57, gf_86_13, pf_86_13, gf_86_14, pf_86_14, gf_86_15, ar_58, al_58, gf_86_16, ar_59, al_59, gf_86_17, ar_60, al_60, gf_86_18, ar_61, al_61, gf_86_19, ar_62, al_62, gf_86_20, pf_86_20, gf_86_21, pf_86_21, gf_86_22, ar_63, al_63, gf_86_23, ar_64, al_64, gf_86_24, ar_65, al_65, gf_86_25, ar_66, al_66, gf_86_26, ar_67, al_67, gf_86_27, ar_68, al_68, gf_86_28, ar_69, al_69, gf_86_29, ar_70, al_70, gf_86_30, ar_71, al_71, gf_86_31, ar_72, al_72, gf_86_32, ar_73, al_73, gf_86_33, ar_74, al_74, gf_86_34, pf_86_34, eq_in, am_i2l_of, hn1, hn2])
      all_goals ((repeat' (first | with_reducible apply And.intro | with_reducible intro _)) <;> first | omega | exact rg_leaf rfl (by omega) hthr)
  · simp (disch := omega) only [eq_self, and_self, am_up_at, Int.cast_ofNat_Int, Int.reduceNatCast, true_or, or_true, or_false, false_or, Classical.not_not, false_and, and_false, am_bk, am_step, am_ldI, am_ldL, am_ldA, am_nth, am_sto, am_stw_0, am_stw_i, am_stw_n, am_stw_a, am_stw_l, am_br, am_cmp, am_tk, am_cat, am_sw, am_copy, am_R, am_nc0, am_nc1, am_f0, am_f1, am_f2, am_f3, Int.reduceNeg, Int.reduceEq, Int.reduceLE, Int.reduceLT, Nat.reduceLeDiff, Nat.reduceAdd, Nat.reduceEqDiff, true_and, and_true, ↓reduceIte, if_false, if_true, forall_const, not_true_eq_false, not_false_eq_true, false_implies, true_implies, implies_true, Int.reduceAdd, Int.reduceMul, Int.reduceSub, ne_eq, ca_56_75, bl_56_0, bl_56_6, bl_56_8, bl_56_16, gf_75_0, ar_0, al_0, gf_75_1, pf_75_1, gf_75_2, gf_75_3, gf_75_4, gf_75_5, gf_75_6, gf_75_7, gf_75_8, gf_75_9, gf_75_10, hn1, hn2]
    (repeat' (first | with_reducible apply And.intro | with_reducible intro _)) <;> first | omega | skip
    all_goals (simp (disch := omega) only [eq_self, and_self, am_up_at, Int.cast_ofNat_Int, Int.reduceNatCast, true_or, or_true, or_false, false_or, Classical.not_not, false_and, and_false, am_bk, am_step, am_ldI, am_ldL, am_ldA, am_nth, am_sto, am_stw_0, am_stw_i, am_stw_n, am_stw_a, am_stw_l, am_br, am_cmp, am_tk, am_cat, am_sw, am_copy, am_R, am_nc0, am_nc1, am_f0, am_f1, am_f2, am_f3, Int.reduceNeg, Int.reduceEq, Int.reduceLE, Int.reduceLT, Nat.reduceLeDiff, Nat.reduceAdd, Nat.reduceEqDiff, true_and, and_true, ↓reduceIte, if_false, if_true, forall_const, not_true_eq_false, not_false_eq_true, false_implies, true_implies, implies_true, Int.reduceAdd, Int.reduceMul, Int.reduceSub, ne_eq, ca_101_86, bl_101_0, bl_101_8, bl_101_11, bl_101_19, gf_86_0, pf_86_0, gf_86_1, ar_50, al_50, gf_86_2, pf_86_2, gf_86_3, pf_86_3, gf_86_4, pf_86_4, gf_86_5, pf_86_5, gf_86_6, ar_51, al_51, gf_86_7, ar_52, al_52, gf_86_8, ar_53, al_53, gf_86_9, ar_54, al_54, gf_86_10, ar_55, al_55, gf_86_11, ar_56, al_56, gf_86_12, ar_57, al_57, gf_86_13, pf_86_13, gf_86_14, pf_86_14, gf_86_15, ar_58, al_58, gf_86_16, ar_59, al_59, gf_86_17, ar_60, al_60, gf_86_18, ar_61, al_61, gf_86_19, ar_62, al_62, gf_86_20, pf_86_20, gf_86_21, pf_86_21, gf_86_22, ar_63, al_63, gf_86_23, ar_64, al_64, gf_86_24, ar_65, al_65, gf_86_25, ar_66, al_66, gf_86_26, ar_67, al_67, gf_86_27, ar_68, al_68, gf_86_28, ar_69, al_69, gf_86_29, ar_70, al_70, gf_86_30, ar_71, al_71, gf_86_31, ar_72, al_72, gf_86_32, ar_73, al_73, gf_86_33, ar_74, al_74, gf_86_34, pf_86_34, eq_in, am_i2l_of, hn1, hn2])
    all_goals ((repeat' (first | with_reducible apply And.intro | with_reducible intro _)) <;> first | omega | exact rg_leaf rfl (by omega) hthr)
