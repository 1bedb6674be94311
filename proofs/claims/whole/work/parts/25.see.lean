set_option maxHeartbeats 400000 in
set_option maxRecDepth 100000 in
theorem pr_see {h : am_H} {k x y z : Int} (hx : am_R x) (hy : am_R y) (hz : am_R z) (hi : iv h k) : rg_pair 80 146 [.inl x, .inl y, .inl z] h k := by
  unfold rg_pair
  have hthr := iv_thr hi
  obtain ⟨hok, hc, hm, ht, hs, hk0, hk1, hp, hw⟩ := hi
  have e1 := hok.2.1
  have e2 := hok.2.2.1 x
  have e3 := hok.2.2.1 y
  simp only [sg_of, sg_U, sg_G, sg_ri, sg_rm, sg_pl, sg_kd, sg_pc, sg_fr, sg_la] at e1 e2 e3
  have c2 := hc.2.1
  have c3 := hc.2.2 x
  have c4 := hc.2.2 y
  have c5 := hs.1
  have c6 := hs.2.1
  have key : (0 ≤ x ∧ x < h 86 5) → (0 ≤ y ∧ y < h 86 5) → (0 ≤ z ∧ z < 300) → h 51 x ≠ h 51 y → h 86 21 < 8 → ∀ s s' : Int, s = h 86 21 → s' = h 86 21 → iv (am_up (am_up (am_up (am_up (am_up (am_up (am_up (am_up (am_up h 14 s x) 15 s y) 16 s z) 79 6 (s + 1)) 86 0 0) 63 s' x) 64 s' y) 65 s' z) 86 21 (s' + 1)) (k + 1) := by
    intro q1 q2 q3 q4 q5 s s' es es'
    subst es es'
    refine ⟨?_, ?_, ?_, ?_, ?_, ?_, ?_, ?_, ?_⟩
    · simpa only [sg_of, sg_U, sg_G, sg_ri, sg_rm, sg_pl, sg_kd, sg_pc, sg_fr, sg_la, eq_self, and_self, am_up_at, am_up_ne, ne_eq, Nat.reduceEqDiff, Int.reduceEq, Int.reduceNeg, not_false_eq_true, false_and, and_false, true_and, and_true, ↓reduceIte, if_false, if_true, Int.reduceAdd, Int.reduceMul, Nat.reduceAdd] using hok
    · simpa only [iv_c, eq_self, and_self, am_up_at, am_up_ne, ne_eq, Nat.reduceEqDiff, Int.reduceEq, Int.reduceNeg, not_false_eq_true, false_and, and_false, true_and, and_true, ↓reduceIte, if_false, if_true, Int.reduceAdd, Int.reduceMul, Nat.reduceAdd] using hc
    · simpa only [iv_m, eq_self, and_self, am_up_at, am_up_ne, ne_eq, Nat.reduceEqDiff, Int.reduceEq, Int.reduceNeg, not_false_eq_true, false_and, and_false, true_and, and_true, ↓reduceIte, if_false, if_true, Int.reduceAdd, Int.reduceMul, Nat.reduceAdd] using hm
    · simpa only [iv_t, eq_self, and_self, am_up_at, am_up_ne, ne_eq, Nat.reduceEqDiff, Int.reduceEq, Int.reduceNeg, not_false_eq_true, false_and, and_false, true_and, and_true, ↓reduceIte, if_false, if_true, Int.reduceAdd, Int.reduceMul, Nat.reduceAdd] using ht
    · simp only [iv_s, iv_v, eq_self, and_self, am_up_at, am_up_ne, ne_eq, Nat.reduceEqDiff, Int.reduceEq, Int.reduceNeg, not_false_eq_true, false_and, and_false, true_and, and_true, ↓reduceIte, if_false, if_true, Int.reduceAdd, Int.reduceMul, Nat.reduceAdd]
      refine ⟨by omega, fun i h1 h2 => ?_⟩
      have g := hs.2.2 i h1 h2
      by_cases hi : i = h 86 21
      · subst hi
        simp only [eq_self, and_self, am_up_at, am_up_ne, ne_eq, Nat.reduceEqDiff, Int.reduceEq, Int.reduceNeg, not_false_eq_true, false_and, and_false, true_and, and_true, ↓reduceIte, if_false, if_true, Int.reduceAdd, Int.reduceMul, Nat.reduceAdd]
        exact fun _ => ⟨q1, q2, q3, q4⟩
      · simp only [hi, eq_self, and_self, am_up_at, am_up_ne, ne_eq, Nat.reduceEqDiff, Int.reduceEq, Int.reduceNeg, not_false_eq_true, false_and, and_false, true_and, and_true, ↓reduceIte, if_false, if_true, Int.reduceAdd, Int.reduceMul, Nat.reduceAdd]
        exact ⟨g.1, g.2.1, g.2.2.1, fun h3 => g.2.2.2 (by omega)⟩
    · simpa only [iv_k, iv_v, eq_self, and_self, am_up_at, am_up_ne, ne_eq, Nat.reduceEqDiff, Int.reduceEq, Int.reduceNeg, not_false_eq_true, false_and, and_false, true_and, and_true, ↓reduceIte, if_false, if_true, Int.reduceAdd, Int.reduceMul, Nat.reduceAdd] using hk0
    · simpa only [iv_k, iv_v, eq_self, and_self, am_up_at, am_up_ne, ne_eq, Nat.reduceEqDiff, Int.reduceEq, Int.reduceNeg, not_false_eq_true, false_and, and_false, true_and, and_true, ↓reduceIte, if_false, if_true, Int.reduceAdd, Int.reduceMul, Nat.reduceAdd] using hk1
    · simpa only [iv_p, eq_self, and_self, am_up_at, am_up_ne, ne_eq, Nat.reduceEqDiff, Int.reduceEq, Int.reduceNeg, not_false_eq_true, false_and, and_false, true_and, and_true, ↓reduceIte, if_false, if_true, Int.reduceAdd, Int.reduceMul, Nat.reduceAdd] using hp
    · simpa only [iv_w, eq_self, and_self, am_up_at, am_up_ne, ne_eq, Nat.reduceEqDiff, Int.reduceEq, Int.reduceNeg, not_false_eq_true, false_and, and_false, true_and, and_true, ↓reduceIte, if_false, if_true, Int.reduceAdd, Int.reduceMul, Nat.reduceAdd] using iv_w_up hw
  refine gx_see hx hy hz (by omega) (fun V => ?_) (fun V => ?_)
  · refine gm_see hx hy hz (by omega) (fun V' => rg_leaf rfl (by omega) hthr) (fun V' => absurd V' (by omega))
  · simp only [eq_self, and_self, am_up_at, Int.cast_ofNat_Int, Int.reduceNatCast, true_or, or_true, or_false, false_or, Classical.not_not, false_and, and_false, am_bk, am_step, am_ldI, am_ldL, am_ldA, am_nth, am_sto, am_stw_0, am_stw_i, am_stw_n, am_stw_a, am_stw_l, am_br, am_cmp, am_tk, am_cat, am_sw, am_copy, am_R, am_nc0, am_nc1, am_f0, am_f1, am_f2, am_f3, Int.reduceNeg, Int.reduceEq, Int.reduceLE, Int.reduceLT, Nat.reduceLeDiff, Nat.reduceAdd, Nat.reduceEqDiff, true_and, and_true, ↓reduceIte, if_false, if_true, forall_const, not_true_eq_false, not_false_eq_true, false_implies, true_implies, implies_true, Int.reduceAdd, Int.reduceMul, Int.reduceSub, ne_eq, ca_80_75, bl_80_10, bl_80_22, bl_80_23, bl_80_30, bl_80_36, ca_11_79, bl_11_0, bl_11_7, bl_11_8, bl_11_20, bl_11_32, gf_75_0, ar_0, al_0, gf_75_1, pf_75_1, gf_75_2, gf_75_3, gf_75_4, gf_75_5, gf_75_6, gf_75_7, gf_75_8, gf_75_9, gf_75_10, gf_78_0, pf_78_0, gf_78_1, pf_78_1, gf_78_2, ar_6, al_6, gf_78_3, ar_7, al_7, gf_78_4, ar_8, al_8, gf_78_5, ar_9, al_9, gf_78_6, ar_10, al_10, gf_79_0, ar_11, al_11, gf_79_1, ar_12, al_12, gf_79_2, ar_13, al_13, gf_79_3, ar_14, al_14, gf_79_4, ar_15, al_15, gf_79_5, ar_16, al_16, gf_79_6, pf_79_6, gf_79_7, pf_79_7]
    (repeat' (first | with_reducible apply And.intro | with_reducible intro _)) <;> first | omega | skip
    all_goals (refine gm_see hx hy hz (by first | omega | (simp only [eq_self, and_self, am_up_at, am_up_ne, ne_eq, Nat.reduceEqDiff, Int.reduceEq, Int.reduceNeg, not_false_eq_true, false_and, and_false, true_and, and_true, ↓reduceIte, if_false, if_true, Int.reduceAdd, Int.reduceMul, Nat.reduceAdd]; omega)) (fun V' => absurd V (by (try simp only [eq_self, and_self, am_up_at, am_up_ne, ne_eq, Nat.reduceEqDiff, Int.reduceEq, Int.reduceNeg, not_false_eq_true, false_and, and_false, true_and, and_true, ↓reduceIte, if_false, if_true, Int.reduceAdd, Int.reduceMul, Nat.reduceAdd] at V'); omega)) (fun V' => ?_))
    all_goals (try simp only [eq_self, and_self, am_up_at, am_up_ne, ne_eq, Nat.reduceEqDiff, Int.reduceEq, Int.reduceNeg, not_false_eq_true, false_and, and_false, true_and, and_true, ↓reduceIte, if_false, if_true, Int.reduceAdd, Int.reduceMul, Nat.reduceAdd] at V')
    all_goals (simp only [eq_self, and_self, am_up_at, Int.cast_ofNat_Int, Int.reduceNatCast, true_or, or_true, or_false, false_or, Classical.not_not, false_and, and_false, am_bk, am_step, am_ldI, am_ldL, am_ldA, am_nth, am_sto, am_stw_0, am_stw_i, am_stw_n, am_stw_a, am_stw_l, am_br, am_cmp, am_tk, am_cat, am_sw, am_copy, am_R, am_nc0, am_nc1, am_f0, am_f1, am_f2, am_f3, Int.reduceNeg, Int.reduceEq, Int.reduceLE, Int.reduceLT, Nat.reduceLeDiff, Nat.reduceAdd, Nat.reduceEqDiff, true_and, and_true, ↓reduceIte, if_false, if_true, forall_const, not_true_eq_false, not_false_eq_true, false_implies, true_implies, implies_true, Int.reduceAdd, Int.reduceMul, Int.reduceSub, ne_eq, ca_146_86, bl_146_16, bl_146_27, bl_146_33, bl_146_45, bl_146_57, gf_86_0, pf_86_0, gf_86_1, ar_50, al_50, gf_86_2, pf_86_2, gf_86_3, pf_86_3, gf_86_4, pf_86_4, gf_86_5, pf_86_5, gf_86_6, ar_51, al_51, gf_86_7, ar_52, al_52, gf_86_8, ar_53, al_53, gf_86_9, ar_54, al_54, gf_86_10, ar_55, al_55, gf_86_11, ar_56, al_56, gf_86_12, ar_57, al_57, gf_86_13, pf_86_13, gf_86_14, pf_86_14, gf_86_15, ar_58, al_58, gf_86_16, ar_59, al_59, gf_86_17, ar_60, al_60, gf_86_18, ar_61, al_61, gf_86_19, ar_62, al_62, gf_86_20, pf_86_20, gf_86_21, pf_86_21, gf_86_22, ar_63, al_63, gf_86_23, ar_64, al_64, gf_86_24, ar_65, al_65, gf_86_25, ar_66, al_66, gf_86_26, ar_67, al_67, gf_86_27, ar_68, al_68, gf_86_28, ar_69, al_69, gf_86_29, ar_70, al_70, gf_86_30, ar_71, al_71, gf_86_31, ar_72, al_72, gf_86_32, ar_73, al_73, gf_86_33, ar_74, al_74, gf_86_34, pf_86_34])
    all_goals ((repeat' (first | with_reducible apply And.intro | with_reducible intro _)) <;> first | omega | exact rg_leaf rfl (by omega) hthr | exact rg_leaf (by omega) (by omega) (key (by omega) (by omega) (by omega) (by omega) (by omega) _ _ (by omega) (by omega)))
