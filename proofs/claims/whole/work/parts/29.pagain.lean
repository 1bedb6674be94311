/-! the pair again -/
set_option maxHeartbeats 400000 in
set_option maxRecDepth 100000 in
theorem pk_again0 {h : am_H} {k : Int} (hi : iv h k) : rg_pair 85 155 [.inl 0] h k := by
  unfold rg_pair
  have hthr := iv_thr hi
  obtain ⟨hok, hc, hm, ht, hs, hk0, hk1, hp, hw⟩ := hi
  have hpm := hok.2.2.2
  simp only [sg_of, sg_U, sg_G, sg_ri, sg_rm, sg_pl, sg_kd, sg_pc, sg_fr, sg_la] at hpm
  obtain ⟨⟨K1, K2⟩, K3⟩ := id hk0
  have K1' : h 81 7 = h 67 0 := K1
  rcases K2 with K2 | K2
  · simp (disch := omega) only [eq_self, and_self, am_up_at, Int.cast_ofNat_Int, Int.reduceNatCast, true_or, or_true, or_false, false_or, Classical.not_not, false_and, and_false, am_bk, am_step, am_ldI, am_ldL, am_ldA, am_nth, am_sto, am_stw_0, am_stw_i, am_stw_n, am_stw_a, am_stw_l, am_br, am_cmp, am_tk, am_cat, am_sw, am_copy, am_R, am_nc0, am_nc1, am_f0, am_f1, am_f2, am_f3, Int.reduceNeg, Int.reduceEq, Int.reduceLE, Int.reduceLT, Nat.reduceLeDiff, Nat.reduceAdd, Nat.reduceEqDiff, true_and, and_true, ↓reduceIte, if_false, if_true, forall_const, not_true_eq_false, not_false_eq_true, false_implies, true_implies, implies_true, Int.reduceAdd, Int.reduceMul, Int.reduceSub, ne_eq, ca_85_75, bl_85_0, bl_85_3, bl_85_8, bl_85_13, ca_88_75, bl_88_0, bl_88_5, bl_88_11, bl_88_12, gf_75_0, ar_0, al_0, gf_75_1, pf_75_1, gf_75_2, gf_75_3, gf_75_4, gf_75_5, gf_75_6, gf_75_7, gf_75_8, gf_75_9, gf_75_10, gf_81_0, ar_23, al_23, gf_81_1, ar_24, al_24, gf_81_2, ar_25, al_25, gf_81_3, ar_26, al_26, gf_81_4, ar_27, al_27, gf_81_5, ar_28, al_28, gf_81_6, pf_81_6, gf_81_7, pf_81_7, K1', K2]
    simp (disch := omega) only [eq_self, and_self, am_up_at, Int.cast_ofNat_Int, Int.reduceNatCast, true_or, or_true, or_false, false_or, Classical.not_not, false_and, and_false, am_bk, am_step, am_ldI, am_ldL, am_ldA, am_nth, am_sto, am_stw_0, am_stw_i, am_stw_n, am_stw_a, am_stw_l, am_br, am_cmp, am_tk, am_cat, am_sw, am_copy, am_R, am_nc0, am_nc1, am_f0, am_f1, am_f2, am_f3, Int.reduceNeg, Int.reduceEq, Int.reduceLE, Int.reduceLT, Nat.reduceLeDiff, Nat.reduceAdd, Nat.reduceEqDiff, true_and, and_true, ↓reduceIte, if_false, if_true, forall_const, not_true_eq_false, not_false_eq_true, false_implies, true_implies, implies_true, Int.reduceAdd, Int.reduceMul, Int.reduceSub, ne_eq, ca_155_86, bl_155_0, bl_155_8, bl_155_11, bl_155_18, gf_86_0, pf_86_0, gf_86_1, ar_50, al_50, gf_86_2, pf_86_2, gf_86_3, pf_86_3, gf_86_4, pf_86_4, gf_86_5, pf_86_5, gf_86_6, ar_51, al_51, gf_86_7, ar_52, al_52, gf_86_8, ar_53, al_53, gf_86_9, ar_54, al_54, gf_86_10, ar_55, al_55, gf_86_11, ar_56, al_56, gf_86_12, ar_57, al_57, gf_86_13, pf_86_13, gf_86_14, pf_86_14, gf_86_15, ar_58, al_58, gf_86_16, ar_59, al_59, gf_86_17, ar_60, al_60, gf_86_18, ar_61, al_61, gf_86_19, ar_62, al_62, gf_86_20, pf_86_20, gf_86_21, pf_86_21, gf_86_22, ar_63, al_63, gf_86_23, ar_64, al_64, gf_86_24, ar_65, al_65, gf_86_25, ar_66, al_66, gf_86_26, ar_67, al_67, gf_86_27, ar_68, al_68, gf_86_28, ar_69, al_69, gf_86_29, ar_70, al_70, gf_86_30, ar_71, al_71, gf_86_31, ar_72, al_72, gf_86_32, ar_73, al_73, gf_86_33, ar_74, al_74, gf_86_34, pf_86_34, eq_in, am_i2l_of, K2]
    (repeat' (first | with_reducible apply And.intro | with_reducible intro _)) <;> first | omega | exact rg_leaf rfl (by omega) hthr
  · simp (disch := omega) only [eq_self, and_self, am_up_at, Int.cast_ofNat_Int, Int.reduceNatCast, true_or, or_true, or_false, false_or, Classical.not_not, false_and, and_false, am_bk, am_step, am_ldI, am_ldL, am_ldA, am_nth, am_sto, am_stw_0, am_stw_i, am_stw_n, am_stw_a, am_stw_l, am_br, am_cmp, am_tk, am_cat, am_sw, am_copy, am_R, am_nc0, am_nc1, am_f0, am_f1, am_f2, am_f3, Int.reduceNeg, Int.reduceEq, Int.reduceLE, Int.reduceLT, Nat.reduceLeDiff, Nat.reduceAdd, Nat.reduceEqDiff, true_and, and_true, ↓reduceIte, if_false, if_true, forall_const, not_true_eq_false, not_false_eq_true, false_implies, true_implies, implies_true, Int.reduceAdd, Int.reduceMul, Int.reduceSub, ne_eq, ca_85_75, bl_85_0, bl_85_3, bl_85_8, bl_85_13, ca_88_75, bl_88_0, bl_88_5, bl_88_11, bl_88_12, gf_75_0, ar_0, al_0, gf_75_1, pf_75_1, gf_75_2, gf_75_3, gf_75_4, gf_75_5, gf_75_6, gf_75_7, gf_75_8, gf_75_9, gf_75_10, gf_81_0, ar_23, al_23, gf_81_1, ar_24, al_24, gf_81_2, ar_25, al_25, gf_81_3, ar_26, al_26, gf_81_4, ar_27, al_27, gf_81_5, ar_28, al_28, gf_81_6, pf_81_6, gf_81_7, pf_81_7, K1', K2]
    obtain ⟨L1, L2, L3⟩ := K3 K2
    simp only [Nat.reduceAdd] at L1 L3
    refine sp_tk_now_slot0 (fun h1 T => ?_)
    obtain ⟨T1, T2, T3, T4, T5⟩ := T
    simp only [Nat.reduceAdd] at T1 T2 T5
    have ec : ∀ c, c ≠ 79 → ¬ (11 ≤ c ∧ c ≤ 16) → h1 c = h c := T5
    simp only [eq_self, and_self, am_up_at, Int.cast_ofNat_Int, Int.reduceNatCast, true_or, or_true, or_false, false_or, Classical.not_not, false_and, and_false, am_bk, am_step, am_ldI, am_ldL, am_ldA, am_nth, am_sto, am_stw_0, am_stw_i, am_stw_n, am_stw_a, am_stw_l, am_br, am_cmp, am_tk, am_cat, am_sw, am_copy, am_R, am_nc0, am_nc1, am_f0, am_f1, am_f2, am_f3, Int.reduceNeg, Int.reduceEq, Int.reduceLE, Int.reduceLT, Nat.reduceLeDiff, Nat.reduceAdd, Nat.reduceEqDiff, true_and, and_true, ↓reduceIte, if_false, if_true, forall_const, not_true_eq_false, not_false_eq_true, false_implies, true_implies, implies_true, Int.reduceAdd, Int.reduceMul, Int.reduceSub, ne_eq, ca_85_75, bl_85_17, gf_75_0, ar_0, al_0, gf_75_1, pf_75_1, gf_75_2, gf_75_3, gf_75_4, gf_75_5, gf_75_6, gf_75_7, gf_75_8, gf_75_9, gf_75_10]
    refine sp_braked (fun r q1 q2 => by have := T1 r q1 q2; have := L1 r q1 q2; omega) ?_
    simp only [eq_self, and_self, am_up_at, Int.cast_ofNat_Int, Int.reduceNatCast, true_or, or_true, or_false, false_or, Classical.not_not, false_and, and_false, am_bk, am_step, am_ldI, am_ldL, am_ldA, am_nth, am_sto, am_stw_0, am_stw_i, am_stw_n, am_stw_a, am_stw_l, am_br, am_cmp, am_tk, am_cat, am_sw, am_copy, am_R, am_nc0, am_nc1, am_f0, am_f1, am_f2, am_f3, Int.reduceNeg, Int.reduceEq, Int.reduceLE, Int.reduceLT, Nat.reduceLeDiff, Nat.reduceAdd, Nat.reduceEqDiff, true_and, and_true, ↓reduceIte, if_false, if_true, forall_const, not_true_eq_false, not_false_eq_true, false_implies, true_implies, implies_true, Int.reduceAdd, Int.reduceMul, Int.reduceSub, ne_eq, ca_85_75, bl_85_20, gf_75_0, ar_0, al_0, gf_75_1, pf_75_1, gf_75_2, gf_75_3, gf_75_4, gf_75_5, gf_75_6, gf_75_7, gf_75_8, gf_75_9, gf_75_10]
    refine sm_again0 (by rw [ec 67 (by omega) (by omega)]; exact K2) (fun r q1 q2 => by rw [ec 66 (by omega) (by omega)]; have := L1 r q1 q2; omega) (fun h2 M => ?_)
    obtain ⟨M1, M2, M3, M7, M8⟩ := M
    have fr : ∀ c, c ≠ 79 → ¬ (11 ≤ c ∧ c ≤ 16) → ¬ (55 ≤ c ∧ c ≤ 57) → ¬ (63 ≤ c ∧ c ≤ 65) → c ≠ 86 → h2 c = h c := fun c a1 a2 a3 a4 a5 => by rw [M8 c (by omega) (by omega) (by omega) (by omega) (by omega) (by omega) (by omega), ec c a1 a2]
    have f86 : ∀ i, i ≠ 0 → i ≠ 21 → h2 86 i = h 86 i := fun i hi hi2 => by rw [M7 i hi hi2, ec 86 (by omega) (by omega)]
    have now : ∀ c, (11 ≤ c ∧ c ≤ 16) ∨ c = 79 → h2 c = h1 c := fun c a1 => M8 c (by omega) (by omega) (by omega) (by omega) (by omega) (by omega) (by omega)
    have f6 := fr 6 (by omega) (by omega) (by omega) (by omega) (by omega)
    have f7 := fr 7 (by omega) (by omega) (by omega) (by omega) (by omega)
    have f8 := fr 8 (by omega) (by omega) (by omega) (by omega) (by omega)
    have f9 := fr 9 (by omega) (by omega) (by omega) (by omega) (by omega)
    have f23 := fr 23 (by omega) (by omega) (by omega) (by omega) (by omega)
    have f24 := fr 24 (by omega) (by omega) (by omega) (by omega) (by omega)
    have f25 := fr 25 (by omega) (by omega) (by omega) (by omega) (by omega)
    have f26 := fr 26 (by omega) (by omega) (by omega) (by omega) (by omega)
    have f27 := fr 27 (by omega) (by omega) (by omega) (by omega) (by omega)
    have f28 := fr 28 (by omega) (by omega) (by omega) (by omega) (by omega)
    have f29 := fr 29 (by omega) (by omega) (by omega) (by omega) (by omega)
    have f30 := fr 30 (by omega) (by omega) (by omega) (by omega) (by omega)
    have f31 := fr 31 (by omega) (by omega) (by omega) (by omega) (by omega)
    have f32 := fr 32 (by omega) (by omega) (by omega) (by omega) (by omega)
    have f33 := fr 33 (by omega) (by omega) (by omega) (by omega) (by omega)
    have f34 := fr 34 (by omega) (by omega) (by omega) (by omega) (by omega)
    have f35 := fr 35 (by omega) (by omega) (by omega) (by omega) (by omega)
    have f36 := fr 36 (by omega) (by omega) (by omega) (by omega) (by omega)
    have f37 := fr 37 (by omega) (by omega) (by omega) (by omega) (by omega)
    have f38 := fr 38 (by omega) (by omega) (by omega) (by omega) (by omega)
    have f39 := fr 39 (by omega) (by omega) (by omega) (by omega) (by omega)
    have f40 := fr 40 (by omega) (by omega) (by omega) (by omega) (by omega)
    have f41 := fr 41 (by omega) (by omega) (by omega) (by omega) (by omega)
    have f42 := fr 42 (by omega) (by omega) (by omega) (by omega) (by omega)
    have f0 := fr 0 (by omega) (by omega) (by omega) (by omega) (by omega)
    have f50 := fr 50 (by omega) (by omega) (by omega) (by omega) (by omega)
    have f51 := fr 51 (by omega) (by omega) (by omega) (by omega) (by omega)
    have f52 := fr 52 (by omega) (by omega) (by omega) (by omega) (by omega)
    have f53 := fr 53 (by omega) (by omega) (by omega) (by omega) (by omega)
    have f54 := fr 54 (by omega) (by omega) (by omega) (by omega) (by omega)
    have f66 := fr 66 (by omega) (by omega) (by omega) (by omega) (by omega)
    have f67 := fr 67 (by omega) (by omega) (by omega) (by omega) (by omega)
    have f75 := fr 75 (by omega) (by omega) (by omega) (by omega) (by omega)
    have f78 := fr 78 (by omega) (by omega) (by omega) (by omega) (by omega)
    have f81 := fr 81 (by omega) (by omega) (by omega) (by omega) (by omega)
    have f82 := fr 82 (by omega) (by omega) (by omega) (by omega) (by omega)
    have f83 := fr 83 (by omega) (by omega) (by omega) (by omega) (by omega)
    have mo : ∀ r, 0 ≤ r → r ≤ 2 → h2 11 r = h 23 r ∧ h2 12 r = h 24 r ∧ h2 13 r = h 25 r ∧ h2 55 r = h 23 r ∧ h2 56 r = h 24 r ∧ h2 57 r = h 25 r := by
      intro r q1 q2
      have a := M1 r q1 q2
      have t := T1 r q1 q2
      have b := L1 r q1 q2
      rw [ec 66 (by omega) (by omega)] at a
      rw [now 11 (by omega), now 12 (by omega), now 13 (by omega)]
      omega
    have ms : ∀ i, 0 ≤ i → i ≤ 7 → h2 14 i = h 26 i ∧ h2 15 i = h 27 i ∧ h2 16 i = h 28 i ∧ h2 63 i = h 26 i ∧ h2 64 i = h 27 i ∧ h2 65 i = h 28 i := by
      intro i q1 q2
      have a := M2 i q1 q2
      have t := T2 i q1 q2
      have b := L3 i q1 q2
      rw [ec 66 (by omega) (by omega)] at a
      rw [now 14 (by omega), now 15 (by omega), now 16 (by omega)]
      omega
    have sn : h2 79 6 = h 81 6 ∧ h2 86 21 = h 81 6 := by
      rw [now 79 (by omega), M3, ec 66 (by omega) (by omega)]
      have := L2
      omega
    have ge : rg_nb (h2 57) = rg_nb (h1 13) := rg_nb_eq (fun r q1 q2 => by have := mo r q1 q2; rw [← now 13 (by omega)]; omega)
    have gr := rg_nb_r (h1 13)
    refine rg_leaf ge (by omega) ⟨?_, ?_, ?_, ?_, ?_, ?_, ?_, ?_, ?_⟩
    · simp only [sg_ok, sg_of, sg_U, sg_G, sg_ri, sg_rm, sg_pl, sg_kd, sg_pc, sg_fr, sg_la, f6, f7, f8, f9, f23, f24, f25, f26, f27, f28, f29, f30, f31, f32, f33, f34, f35, f36, f37, f38, f39, f40, f41, f42, f0, f50, f51, f52, f53, f54, f66, f67, f75, f78, f81, f82, f83, f86 2 (by omega) (by omega), f86 4 (by omega) (by omega), f86 5 (by omega) (by omega)] at hok ⊢
      refine ⟨hok.1, hok.2.1, hok.2.2.1, fun r q1 q2 => ?_⟩
      have a := mo r q1 q2
      have b := L1 r q1 q2
      omega
    · simpa only [iv_c, f6, f7, f8, f9, f23, f24, f25, f26, f27, f28, f29, f30, f31, f32, f33, f34, f35, f36, f37, f38, f39, f40, f41, f42, f0, f50, f51, f52, f53, f54, f66, f67, f75, f78, f81, f82, f83, f86 2 (by omega) (by omega), f86 4 (by omega) (by omega), f86 5 (by omega) (by omega)] using hc
    · intro r q1 q2
      have a := mo r q1 q2
      have b := L1 r q1 q2
      omega
    · simpa only [iv_t, f6, f7, f8, f9, f23, f24, f25, f26, f27, f28, f29, f30, f31, f32, f33, f34, f35, f36, f37, f38, f39, f40, f41, f42, f0, f50, f51, f52, f53, f54, f66, f67, f75, f78, f81, f82, f83, f86 2 (by omega) (by omega), f86 4 (by omega) (by omega), f86 5 (by omega) (by omega)] using ht
    · refine ⟨by omega, by have := L2; omega, fun i q1 q2 => ?_⟩
      have a := ms i q1 q2
      have b := L3 i q1 q2
      refine ⟨by omega, by omega, by omega, fun q3 => ?_⟩
      rw [sn.2] at q3
      rw [a.2.2.2.1, a.2.2.2.2.1, a.2.2.2.2.2]
      simpa only [iv_v, f6, f7, f8, f9, f23, f24, f25, f26, f27, f28, f29, f30, f31, f32, f33, f34, f35, f36, f37, f38, f39, f40, f41, f42, f0, f50, f51, f52, f53, f54, f66, f67, f75, f78, f81, f82, f83, f86 2 (by omega) (by omega), f86 4 (by omega) (by omega), f86 5 (by omega) (by omega)] using b.2.2.2 q3
    · simpa only [iv_k, iv_v, Nat.reduceAdd, f6, f7, f8, f9, f23, f24, f25, f26, f27, f28, f29, f30, f31, f32, f33, f34, f35, f36, f37, f38, f39, f40, f41, f42, f0, f50, f51, f52, f53, f54, f66, f67, f75, f78, f81, f82, f83, f86 2 (by omega) (by omega), f86 4 (by omega) (by omega), f86 5 (by omega) (by omega)] using hk0
    · simpa only [iv_k, iv_v, Nat.reduceAdd, f6, f7, f8, f9, f23, f24, f25, f26, f27, f28, f29, f30, f31, f32, f33, f34, f35, f36, f37, f38, f39, f40, f41, f42, f0, f50, f51, f52, f53, f54, f66, f67, f75, f78, f81, f82, f83, f86 2 (by omega) (by omega), f86 4 (by omega) (by omega), f86 5 (by omega) (by omega)] using hk1
    · simpa only [iv_p, f6, f7, f8, f9, f23, f24, f25, f26, f27, f28, f29, f30, f31, f32, f33, f34, f35, f36, f37, f38, f39, f40, f41, f42, f0, f50, f51, f52, f53, f54, f66, f67, f75, f78, f81, f82, f83, f86 2 (by omega) (by omega), f86 4 (by omega) (by omega), f86 5 (by omega) (by omega)] using hp
    · simpa only [iv_w, f6, f7, f8, f9, f23, f24, f25, f26, f27, f28, f29, f30, f31, f32, f33, f34, f35, f36, f37, f38, f39, f40, f41, f42, f0, f50, f51, f52, f53, f54, f66, f67, f75, f78, f81, f82, f83, f86 2 (by omega) (by omega), f86 4 (by omega) (by omega), f86 5 (by omega) (by omega)] using iv_w_up hw
set_option maxHeartbeats 400000 in
set_option maxRecDepth 100000 in
theorem pk_again1 {h : am_H} {k : Int} (hi : iv h k) : rg_pair 85 155 [.inl 1] h k := by
  unfold rg_pair
  have hthr := iv_thr hi
  obtain ⟨hok, hc, hm, ht, hs, hk0, hk1, hp, hw⟩ := hi
  have hpm := hok.2.2.2
  simp only [sg_of, sg_U, sg_G, sg_ri, sg_rm, sg_pl, sg_kd, sg_pc, sg_fr, sg_la] at hpm
  obtain ⟨⟨K1, K2⟩, K3⟩ := id hk1
  have K1' : h 82 7 = h 67 1 := K1
  rcases K2 with K2 | K2
  · simp (disch := omega) only [eq_self, and_self, am_up_at, Int.cast_ofNat_Int, Int.reduceNatCast, true_or, or_true, or_false, false_or, Classical.not_not, false_and, and_false, am_bk, am_step, am_ldI, am_ldL, am_ldA, am_nth, am_sto, am_stw_0, am_stw_i, am_stw_n, am_stw_a, am_stw_l, am_br, am_cmp, am_tk, am_cat, am_sw, am_copy, am_R, am_nc0, am_nc1, am_f0, am_f1, am_f2, am_f3, Int.reduceNeg, Int.reduceEq, Int.reduceLE, Int.reduceLT, Nat.reduceLeDiff, Nat.reduceAdd, Nat.reduceEqDiff, true_and, and_true, ↓reduceIte, if_false, if_true, forall_const, not_true_eq_false, not_false_eq_true, false_implies, true_implies, implies_true, Int.reduceAdd, Int.reduceMul, Int.reduceSub, ne_eq, ca_85_75, bl_85_0, bl_85_3, bl_85_8, bl_85_13, ca_88_75, bl_88_0, bl_88_5, bl_88_11, bl_88_12, gf_75_0, ar_0, al_0, gf_75_1, pf_75_1, gf_75_2, gf_75_3, gf_75_4, gf_75_5, gf_75_6, gf_75_7, gf_75_8, gf_75_9, gf_75_10, gf_82_0, ar_29, al_29, gf_82_1, ar_30, al_30, gf_82_2, ar_31, al_31, gf_82_3, ar_32, al_32, gf_82_4, ar_33, al_33, gf_82_5, ar_34, al_34, gf_82_6, pf_82_6, gf_82_7, pf_82_7, K1', K2]
    simp (disch := omega) only [eq_self, and_self, am_up_at, Int.cast_ofNat_Int, Int.reduceNatCast, true_or, or_true, or_false, false_or, Classical.not_not, false_and, and_false, am_bk, am_step, am_ldI, am_ldL, am_ldA, am_nth, am_sto, am_stw_0, am_stw_i, am_stw_n, am_stw_a, am_stw_l, am_br, am_cmp, am_tk, am_cat, am_sw, am_copy, am_R, am_nc0, am_nc1, am_f0, am_f1, am_f2, am_f3, Int.reduceNeg, Int.reduceEq, Int.reduceLE, Int.reduceLT, Nat.reduceLeDiff, Nat.reduceAdd, Nat.reduceEqDiff, true_and, and_true, ↓reduceIte, if_false, if_true, forall_const, not_true_eq_false, not_false_eq_true, false_implies, true_implies, implies_true, Int.reduceAdd, Int.reduceMul, Int.reduceSub, ne_eq, ca_155_86, bl_155_0, bl_155_8, bl_155_11, bl_155_18, gf_86_0, pf_86_0, gf_86_1, ar_50, al_50, gf_86_2, pf_86_2, gf_86_3, pf_86_3, gf_86_4, pf_86_4, gf_86_5, pf_86_5, gf_86_6, ar_51, al_51, gf_86_7, ar_52, al_52, gf_86_8, ar_53, al_53, gf_86_9, ar_54, al_54, gf_86_10, ar_55, al_55, gf_86_11, ar_56, al_56, gf_86_12, ar_57, al_57, gf_86_13, pf_86_13, gf_86_14, pf_86_14, gf_86_15, ar_58, al_58, gf_86_16, ar_59, al_59, gf_86_17, ar_60, al_60, gf_86_18, ar_61, al_61, gf_86_19, ar_62, al_62, gf_86_20, pf_86_20, gf_86_21, pf_86_21, gf_86_22, ar_63, al_63, gf_86_23, ar_64, al_64, gf_86_24, ar_65, al_65, gf_86_25, ar_66, al_66, gf_86_26, ar_67, al_67, gf_86_27, ar_68, al_68, gf_86_28, ar_69, al_69, gf_86_29, ar_70, al_70, gf_86_30, ar_71, al_71, gf_86_31, ar_72, al_72, gf_86_32, ar_73, al_73, gf_86_33, ar_74, al_74, gf_86_34, pf_86_34, eq_in, am_i2l_of, K2]
    (repeat' (first | with_reducible apply And.intro | with_reducible intro _)) <;> first | omega | exact rg_leaf rfl (by omega) hthr
  · simp (disch := omega) only [eq_self, and_self, am_up_at, Int.cast_ofNat_Int, Int.reduceNatCast, true_or, or_true, or_false, false_or, Classical.not_not, false_and, and_false, am_bk, am_step, am_ldI, am_ldL, am_ldA, am_nth, am_sto, am_stw_0, am_stw_i, am_stw_n, am_stw_a, am_stw_l, am_br, am_cmp, am_tk, am_cat, am_sw, am_copy, am_R, am_nc0, am_nc1, am_f0, am_f1, am_f2, am_f3, Int.reduceNeg, Int.reduceEq, Int.reduceLE, Int.reduceLT, Nat.reduceLeDiff, Nat.reduceAdd, Nat.reduceEqDiff, true_and, and_true, ↓reduceIte, if_false, if_true, forall_const, not_true_eq_false, not_false_eq_true, false_implies, true_implies, implies_true, Int.reduceAdd, Int.reduceMul, Int.reduceSub, ne_eq, ca_85_75, bl_85_0, bl_85_3, bl_85_8, bl_85_13, ca_88_75, bl_88_0, bl_88_5, bl_88_11, bl_88_12, gf_75_0, ar_0, al_0, gf_75_1, pf_75_1, gf_75_2, gf_75_3, gf_75_4, gf_75_5, gf_75_6, gf_75_7, gf_75_8, gf_75_9, gf_75_10, gf_82_0, ar_29, al_29, gf_82_1, ar_30, al_30, gf_82_2, ar_31, al_31, gf_82_3, ar_32, al_32, gf_82_4, ar_33, al_33, gf_82_5, ar_34, al_34, gf_82_6, pf_82_6, gf_82_7, pf_82_7, K1', K2]
    obtain ⟨L1, L2, L3⟩ := K3 K2
    simp only [Nat.reduceAdd] at L1 L3
    refine sp_tk_now_slot1 (fun h1 T => ?_)
    obtain ⟨T1, T2, T3, T4, T5⟩ := T
    simp only [Nat.reduceAdd] at T1 T2 T5
    have ec : ∀ c, c ≠ 79 → ¬ (11 ≤ c ∧ c ≤ 16) → h1 c = h c := T5
    simp only [eq_self, and_self, am_up_at, Int.cast_ofNat_Int, Int.reduceNatCast, true_or, or_true, or_false, false_or, Classical.not_not, false_and, and_false, am_bk, am_step, am_ldI, am_ldL, am_ldA, am_nth, am_sto, am_stw_0, am_stw_i, am_stw_n, am_stw_a, am_stw_l, am_br, am_cmp, am_tk, am_cat, am_sw, am_copy, am_R, am_nc0, am_nc1, am_f0, am_f1, am_f2, am_f3, Int.reduceNeg, Int.reduceEq, Int.reduceLE, Int.reduceLT, Nat.reduceLeDiff, Nat.reduceAdd, Nat.reduceEqDiff, true_and, and_true, ↓reduceIte, if_false, if_true, forall_const, not_true_eq_false, not_false_eq_true, false_implies, true_implies, implies_true, Int.reduceAdd, Int.reduceMul, Int.reduceSub, ne_eq, ca_85_75, bl_85_17, gf_75_0, ar_0, al_0, gf_75_1, pf_75_1, gf_75_2, gf_75_3, gf_75_4, gf_75_5, gf_75_6, gf_75_7, gf_75_8, gf_75_9, gf_75_10]
    refine sp_braked (fun r q1 q2 => by have := T1 r q1 q2; have := L1 r q1 q2; omega) ?_
    simp only [eq_self, and_self, am_up_at, Int.cast_ofNat_Int, Int.reduceNatCast, true_or, or_true, or_false, false_or, Classical.not_not, false_and, and_false, am_bk, am_step, am_ldI, am_ldL, am_ldA, am_nth, am_sto, am_stw_0, am_stw_i, am_stw_n, am_stw_a, am_stw_l, am_br, am_cmp, am_tk, am_cat, am_sw, am_copy, am_R, am_nc0, am_nc1, am_f0, am_f1, am_f2, am_f3, Int.reduceNeg, Int.reduceEq, Int.reduceLE, Int.reduceLT, Nat.reduceLeDiff, Nat.reduceAdd, Nat.reduceEqDiff, true_and, and_true, ↓reduceIte, if_false, if_true, forall_const, not_true_eq_false, not_false_eq_true, false_implies, true_implies, implies_true, Int.reduceAdd, Int.reduceMul, Int.reduceSub, ne_eq, ca_85_75, bl_85_20, gf_75_0, ar_0, al_0, gf_75_1, pf_75_1, gf_75_2, gf_75_3, gf_75_4, gf_75_5, gf_75_6, gf_75_7, gf_75_8, gf_75_9, gf_75_10]
    refine sm_again1 (by rw [ec 67 (by omega) (by omega)]; exact K2) (fun r q1 q2 => by rw [ec 66 (by omega) (by omega)]; have := L1 r q1 q2; omega) (fun h2 M => ?_)
    obtain ⟨M1, M2, M3, M7, M8⟩ := M
    have fr : ∀ c, c ≠ 79 → ¬ (11 ≤ c ∧ c ≤ 16) → ¬ (55 ≤ c ∧ c ≤ 57) → ¬ (63 ≤ c ∧ c ≤ 65) → c ≠ 86 → h2 c = h c := fun c a1 a2 a3 a4 a5 => by rw [M8 c (by omega) (by omega) (by omega) (by omega) (by omega) (by omega) (by omega), ec c a1 a2]
    have f86 : ∀ i, i ≠ 0 → i ≠ 21 → h2 86 i = h 86 i := fun i hi hi2 => by rw [M7 i hi hi2, ec 86 (by omega) (by omega)]
    have now : ∀ c, (11 ≤ c ∧ c ≤ 16) ∨ c = 79 → h2 c = h1 c := fun c a1 => M8 c (by omega) (by omega) (by omega) (by omega) (by omega) (by omega) (by omega)
    have f6 := fr 6 (by omega) (by omega) (by omega) (by omega) (by omega)
    have f7 := fr 7 (by omega) (by omega) (by omega) (by omega) (by omega)
    have f8 := fr 8 (by omega) (by omega) (by omega) (by omega) (by omega)
    have f9 := fr 9 (by omega) (by omega) (by omega) (by omega) (by omega)
    have f23 := fr 23 (by omega) (by omega) (by omega) (by omega) (by omega)
    have f24 := fr 24 (by omega) (by omega) (by omega) (by omega) (by omega)
    have f25 := fr 25 (by omega) (by omega) (by omega) (by omega) (by omega)
    have f26 := fr 26 (by omega) (by omega) (by omega) (by omega) (by omega)
    have f27 := fr 27 (by omega) (by omega) (by omega) (by omega) (by omega)
    have f28 := fr 28 (by omega) (by omega) (by omega) (by omega) (by omega)
    have f29 := fr 29 (by omega) (by omega) (by omega) (by omega) (by omega)
    have f30 := fr 30 (by omega) (by omega) (by omega) (by omega) (by omega)
    have f31 := fr 31 (by omega) (by omega) (by omega) (by omega) (by omega)
    have f32 := fr 32 (by omega) (by omega) (by omega) (by omega) (by omega)
    have f33 := fr 33 (by omega) (by omega) (by omega) (by omega) (by omega)
    have f34 := fr 34 (by omega) (by omega) (by omega) (by omega) (by omega)
    have f35 := fr 35 (by omega) (by omega) (by omega) (by omega) (by omega)
    have f36 := fr 36 (by omega) (by omega) (by omega) (by omega) (by omega)
    have f37 := fr 37 (by omega) (by omega) (by omega) (by omega) (by omega)
    have f38 := fr 38 (by omega) (by omega) (by omega) (by omega) (by omega)
    have f39 := fr 39 (by omega) (by omega) (by omega) (by omega) (by omega)
    have f40 := fr 40 (by omega) (by omega) (by omega) (by omega) (by omega)
    have f41 := fr 41 (by omega) (by omega) (by omega) (by omega) (by omega)
    have f42 := fr 42 (by omega) (by omega) (by omega) (by omega) (by omega)
    have f0 := fr 0 (by omega) (by omega) (by omega) (by omega) (by omega)
    have f50 := fr 50 (by omega) (by omega) (by omega) (by omega) (by omega)
    have f51 := fr 51 (by omega) (by omega) (by omega) (by omega) (by omega)
    have f52 := fr 52 (by omega) (by omega) (by omega) (by omega) (by omega)
    have f53 := fr 53 (by omega) (by omega) (by omega) (by omega) (by omega)
    have f54 := fr 54 (by omega) (by omega) (by omega) (by omega) (by omega)
    have f66 := fr 66 (by omega) (by omega) (by omega) (by omega) (by omega)
    have f67 := fr 67 (by omega) (by omega) (by omega) (by omega) (by omega)
    have f75 := fr 75 (by omega) (by omega) (by omega) (by omega) (by omega)
    have f78 := fr 78 (by omega) (by omega) (by omega) (by omega) (by omega)
    have f81 := fr 81 (by omega) (by omega) (by omega) (by omega) (by omega)
    have f82 := fr 82 (by omega) (by omega) (by omega) (by omega) (by omega)
    have f83 := fr 83 (by omega) (by omega) (by omega) (by omega) (by omega)
    have mo : ∀ r, 0 ≤ r → r ≤ 2 → h2 11 r = h 29 r ∧ h2 12 r = h 30 r ∧ h2 13 r = h 31 r ∧ h2 55 r = h 29 r ∧ h2 56 r = h 30 r ∧ h2 57 r = h 31 r := by
      intro r q1 q2
      have a := M1 r q1 q2
      have t := T1 r q1 q2
      have b := L1 r q1 q2
      rw [ec 66 (by omega) (by omega)] at a
      rw [now 11 (by omega), now 12 (by omega), now 13 (by omega)]
      omega
    have ms : ∀ i, 0 ≤ i → i ≤ 7 → h2 14 i = h 32 i ∧ h2 15 i = h 33 i ∧ h2 16 i = h 34 i ∧ h2 63 i = h 32 i ∧ h2 64 i = h 33 i ∧ h2 65 i = h 34 i := by
      intro i q1 q2
      have a := M2 i q1 q2
      have t := T2 i q1 q2
      have b := L3 i q1 q2
      rw [ec 66 (by omega) (by omega)] at a
      rw [now 14 (by omega), now 15 (by omega), now 16 (by omega)]
      omega
    have sn : h2 79 6 = h 82 6 ∧ h2 86 21 = h 82 6 := by
      rw [now 79 (by omega), M3, ec 66 (by omega) (by omega)]
      have := L2
      omega
    have ge : rg_nb (h2 57) = rg_nb (h1 13) := rg_nb_eq (fun r q1 q2 => by have := mo r q1 q2; rw [← now 13 (by omega)]; omega)
    have gr := rg_nb_r (h1 13)
    refine rg_leaf ge (by omega) ⟨?_, ?_, ?_, ?_, ?_, ?_, ?_, ?_, ?_⟩
    · simp only [sg_ok, sg_of, sg_U, sg_G, sg_ri, sg_rm, sg_pl, sg_kd, sg_pc, sg_fr, sg_la, f6, f7, f8, f9, f23, f24, f25, f26, f27, f28, f29, f30, f31, f32, f33, f34, f35, f36, f37, f38, f39, f40, f41, f42, f0, f50, f51, f52, f53, f54, f66, f67, f75, f78, f81, f82, f83, f86 2 (by omega) (by omega), f86 4 (by omega) (by omega), f86 5 (by omega) (by omega)] at hok ⊢
      refine ⟨hok.1, hok.2.1, hok.2.2.1, fun r q1 q2 => ?_⟩
      have a := mo r q1 q2
      have b := L1 r q1 q2
      omega
    · simpa only [iv_c, f6, f7, f8, f9, f23, f24, f25, f26, f27, f28, f29, f30, f31, f32, f33, f34, f35, f36, f37, f38, f39, f40, f41, f42, f0, f50, f51, f52, f53, f54, f66, f67, f75, f78, f81, f82, f83, f86 2 (by omega) (by omega), f86 4 (by omega) (by omega), f86 5 (by omega) (by omega)] using hc
    · intro r q1 q2
      have a := mo r q1 q2
      have b := L1 r q1 q2
      omega
    · simpa only [iv_t, f6, f7, f8, f9, f23, f24, f25, f26, f27, f28, f29, f30, f31, f32, f33, f34, f35, f36, f37, f38, f39, f40, f41, f42, f0, f50, f51, f52, f53, f54, f66, f67, f75, f78, f81, f82, f83, f86 2 (by omega) (by omega), f86 4 (by omega) (by omega), f86 5 (by omega) (by omega)] using ht
    · refine ⟨by omega, by have := L2; omega, fun i q1 q2 => ?_⟩
      have a := ms i q1 q2
      have b := L3 i q1 q2
      refine ⟨by omega, by omega, by omega, fun q3 => ?_⟩
      rw [sn.2] at q3
      rw [a.2.2.2.1, a.2.2.2.2.1, a.2.2.2.2.2]
      simpa only [iv_v, f6, f7, f8, f9, f23, f24, f25, f26, f27, f28, f29, f30, f31, f32, f33, f34, f35, f36, f37, f38, f39, f40, f41, f42, f0, f50, f51, f52, f53, f54, f66, f67, f75, f78, f81, f82, f83, f86 2 (by omega) (by omega), f86 4 (by omega) (by omega), f86 5 (by omega) (by omega)] using b.2.2.2 q3
    · simpa only [iv_k, iv_v, Nat.reduceAdd, f6, f7, f8, f9, f23, f24, f25, f26, f27, f28, f29, f30, f31, f32, f33, f34, f35, f36, f37, f38, f39, f40, f41, f42, f0, f50, f51, f52, f53, f54, f66, f67, f75, f78, f81, f82, f83, f86 2 (by omega) (by omega), f86 4 (by omega) (by omega), f86 5 (by omega) (by omega)] using hk0
    · simpa only [iv_k, iv_v, Nat.reduceAdd, f6, f7, f8, f9, f23, f24, f25, f26, f27, f28, f29, f30, f31, f32, f33, f34, f35, f36, f37, f38, f39, f40, f41, f42, f0, f50, f51, f52, f53, f54, f66, f67, f75, f78, f81, f82, f83, f86 2 (by omega) (by omega), f86 4 (by omega) (by omega), f86 5 (by omega) (by omega)] using hk1
    · simpa only [iv_p, f6, f7, f8, f9, f23, f24, f25, f26, f27, f28, f29, f30, f31, f32, f33, f34, f35, f36, f37, f38, f39, f40, f41, f42, f0, f50, f51, f52, f53, f54, f66, f67, f75, f78, f81, f82, f83, f86 2 (by omega) (by omega), f86 4 (by omega) (by omega), f86 5 (by omega) (by omega)] using hp
    · simpa only [iv_w, f6, f7, f8, f9, f23, f24, f25, f26, f27, f28, f29, f30, f31, f32, f33, f34, f35, f36, f37, f38, f39, f40, f41, f42, f0, f50, f51, f52, f53, f54, f66, f67, f75, f78, f81, f82, f83, f86 2 (by omega) (by omega), f86 4 (by omega) (by omega), f86 5 (by omega) (by omega)] using iv_w_up hw
set_option maxHeartbeats 400000 in
set_option maxRecDepth 100000 in
theorem pr_again {h : am_H} {k x : Int} (hx : am_R x) (hi : iv h k) : rg_pair 85 155 [.inl x] h k := by
  by_cases h0 : x = 0
  · subst h0; exact pk_again0 hi
  · by_cases h1 : x = 1
    · subst h1; exact pk_again1 hi
    · unfold rg_pair
      obtain ⟨hx1, hx2⟩ := hx
      have hthr := iv_thr hi
      simp (disch := omega) only [eq_self, and_self, am_up_at, Int.cast_ofNat_Int, Int.reduceNatCast, true_or, or_true, or_false, false_or, Classical.not_not, false_and, and_false, am_bk, am_step, am_ldI, am_ldL, am_ldA, am_nth, am_sto, am_stw_0, am_stw_i, am_stw_n, am_stw_a, am_stw_l, am_br, am_cmp, am_tk, am_cat, am_sw, am_copy, am_R, am_nc0, am_nc1, am_f0, am_f1, am_f2, am_f3, Int.reduceNeg, Int.reduceEq, Int.reduceLE, Int.reduceLT, Nat.reduceLeDiff, Nat.reduceAdd, Nat.reduceEqDiff, true_and, and_true, ↓reduceIte, if_false, if_true, forall_const, not_true_eq_false, not_false_eq_true, false_implies, true_implies, implies_true, Int.reduceAdd, Int.reduceMul, Int.reduceSub, ne_eq, ca_85_75, bl_85_0, bl_85_3, bl_85_8, ca_88_75, bl_88_0, bl_88_5, bl_88_11, bl_88_12, gf_75_0, ar_0, al_0, gf_75_1, pf_75_1, gf_75_2, gf_75_3, gf_75_4, gf_75_5, gf_75_6, gf_75_7, gf_75_8, gf_75_9, gf_75_10, hx1, hx2, h0, h1]
      simp (disch := omega) only [eq_self, and_self, am_up_at, Int.cast_ofNat_Int, Int.reduceNatCast, true_or, or_true, or_false, false_or, Classical.not_not, false_and, and_false, am_bk, am_step, am_ldI, am_ldL, am_ldA, am_nth, am_sto, am_stw_0, am_stw_i, am_stw_n, am_stw_a, am_stw_l, am_br, am_cmp, am_tk, am_cat, am_sw, am_copy, am_R, am_nc0, am_nc1, am_f0, am_f1, am_f2, am_f3, Int.reduceNeg, Int.reduceEq, Int.reduceLE, Int.reduceLT, Nat.reduceLeDiff, Nat.reduceAdd, Nat.reduceEqDiff, true_and, and_true, ↓reduceIte, if_false, if_true, forall_const, not_true_eq_false, not_false_eq_true, false_implies, true_implies, implies_true, Int.reduceAdd, Int.reduceMul, Int.reduceSub, ne_eq, ca_155_86, bl_155_0, bl_155_8, bl_155_11, gf_86_0, pf_86_0, gf_86_1, ar_50, al_50, gf_86_2, pf_86_2, gf_86_3, pf_86_3, gf_86_4, pf_86_4, gf_86_5, pf_86_5, gf_86_6, ar_51, al_51, gf_86_7, ar_52, al_52, gf_86_8, ar_53, al_53, gf_86_9, ar_54, al_54, gf_86_10, ar_55, al_55, gf_86_11, ar_56, al_56, gf_86_12, ar_57, al_57, gf_86_13, pf_86_13, gf_86_14, pf_86_14, gf_86_15, ar_58, al_58, gf_86_16, ar_59, al_59, gf_86_17, ar_60, al_60, gf_86_18, ar_61, al_61, gf_86_19, ar_62, al_62, gf_86_20, pf_86_20, gf_86_21, pf_86_21, gf_86_22, ar_63, al_63, gf_86_23, ar_64, al_64, gf_86_24, ar_65, al_65, gf_86_25, ar_66, al_66, gf_86_26, ar_67, al_67, gf_86_27, ar_68, al_68, gf_86_28, ar_69, al_69, gf_86_29, ar_70, al_70, gf_86_30, ar_71, al_71, gf_86_31, ar_72, al_72, gf_86_32, ar_73, al_73, gf_86_33, ar_74, al_74, gf_86_34, pf_86_34, eq_in, am_i2l_of]
      (repeat' (first | with_reducible apply And.intro | with_reducible intro _)) <;> first | omega | exact rg_leaf rfl (by omega) hthr
