/-! city, the pair -/
set_option maxHeartbeats 400000 in
set_option maxRecDepth 100000 in
theorem lp_mc1 {s : rd_S} {h0 : am_H} {Q : am_P} (hs : rs_ok s) (hA : mA h0 s) (hG : h0 86 5 = rG s) (H : ∀ h1, (∀ c, ¬ (51 ≤ c ∧ c ≤ 54) → h1 c = h0 c) → (∀ g, 0 ≤ g → g < rG s → h1 51 g = rri s g ∧ h1 52 g = rrm s g ∧ h1 53 g = rpl s g ∧ h1 54 g = rkd s g) → am_Ex 109 57 [some (.inr (.inr (some 86))), some (.inl (rG s))] [] h1 Q) :
    ∀ (m : Nat) (g : Int) (h : am_H), 0 ≤ g → g + m = rG s → (∀ c, ¬ (51 ≤ c ∧ c ≤ 54) → h c = h0 c) → (∀ q, 0 ≤ q → q < g → h 51 q = rri s q ∧ h 52 q = rrm s q ∧ h 53 q = rpl s q ∧ h 54 q = rkd s q) → am_Ex 109 19 [some (.inr (.inr (some 86))), some (.inl g)] [] h Q := by
  intro m
  have G := hs.2.1
  induction m with
  | zero =>
    intro g h g0 g1 hf I
    have eg : g = rG s := by omega
    subst eg
    have e5 : h 86 5 = rG s := by rw [hf 86 (by omega)]; exact hG
    have K := H h hf I
    rw [bl_109_19]
    simp only [eq_self, and_self, am_up_at, Int.cast_ofNat_Int, Int.reduceNatCast, true_or, or_true, or_false, false_or, Classical.not_not, false_and, and_false, am_bk, am_step, am_ldI, am_ldL, am_ldA, am_nth, am_sto, am_stw_0, am_stw_i, am_stw_n, am_stw_a, am_stw_l, am_br, am_cmp, am_tk, am_cat, am_sw, am_copy, am_R, am_nc0, am_nc1, am_f0, am_f1, am_f2, am_f3, Int.reduceNeg, Int.reduceEq, Int.reduceLE, Int.reduceLT, Nat.reduceLeDiff, Nat.reduceAdd, Nat.reduceEqDiff, true_and, and_true, ↓reduceIte, if_false, if_true, forall_const, not_true_eq_false, not_false_eq_true, false_implies, true_implies, implies_true, Int.reduceAdd, Int.reduceMul, Int.reduceSub, ne_eq, gf_86_0, pf_86_0, gf_86_1, ar_50, al_50, gf_86_2, pf_86_2, gf_86_3, pf_86_3, gf_86_4, pf_86_4, gf_86_5, pf_86_5, gf_86_6, ar_51, al_51, gf_86_7, ar_52, al_52, gf_86_8, ar_53, al_53, gf_86_9, ar_54, al_54, gf_86_10, ar_55, al_55, gf_86_11, ar_56, al_56, gf_86_12, ar_57, al_57, gf_86_13, pf_86_13, gf_86_14, pf_86_14, gf_86_15, ar_58, al_58, gf_86_16, ar_59, al_59, gf_86_17, ar_60, al_60, gf_86_18, ar_61, al_61, gf_86_19, ar_62, al_62, gf_86_20, pf_86_20, gf_86_21, pf_86_21, gf_86_22, ar_63, al_63, gf_86_23, ar_64, al_64, gf_86_24, ar_65, al_65, gf_86_25, ar_66, al_66, gf_86_26, ar_67, al_67, gf_86_27, ar_68, al_68, gf_86_28, ar_69, al_69, gf_86_29, ar_70, al_70, gf_86_30, ar_71, al_71, gf_86_31, ar_72, al_72, gf_86_32, ar_73, al_73, gf_86_33, ar_74, al_74, gf_86_34, pf_86_34, e5]
    (repeat' (first | with_reducible apply And.intro | with_reducible intro _)) <;> first | omega | exact K
  | succ m ih =>
    intro g h g0 g1 hf I
    have e5 : h 86 5 = rG s := by rw [hf 86 (by omega)]; exact hG
    have a := hA.2.1 g g0 (by omega)
    have rr := hs.2.2.2.1 g g0 (by omega)
    have e1 : h 58 g = rri s g := by rw [hf 58 (by omega)]; exact a.1
    have e2 : h 59 g = rrm s g := by rw [hf 59 (by omega)]; exact a.2.1
    have e3 : h 60 g = rpl s g := by rw [hf 60 (by omega)]; exact a.2.2.1
    have e4 : h 61 g = rkd s g := by rw [hf 61 (by omega)]; exact a.2.2.2
    have K := ih (g + 1) (am_up (am_up (am_up (am_up h 51 g (rri s g)) 52 g (rrm s g)) 53 g (rpl s g)) 54 g (rkd s g)) (by omega) (by omega) (fun c hc => by rw [am_up_ne (by omega), am_up_ne (by omega), am_up_ne (by omega), am_up_ne (by omega), hf c hc]) (fun q q0 q1 => by
      simp only [eq_self, and_self, am_up_at, am_up_ne, ne_eq, Nat.reduceEqDiff, Int.reduceEq, Int.reduceNeg, not_false_eq_true, false_and, and_false, true_and, and_true, ↓reduceIte, if_false, if_true, Int.reduceAdd, Int.reduceMul, Nat.reduceAdd]
      by_cases c : q = g
      · rw [if_pos c, if_pos c, if_pos c, if_pos c, c]; exact ⟨rfl, rfl, rfl, rfl⟩
      · rw [if_neg c, if_neg c, if_neg c, if_neg c]; exact I q q0 (by omega))
    rw [bl_109_19]
    simp only [eq_self, and_self, am_up_at, Int.cast_ofNat_Int, Int.reduceNatCast, true_or, or_true, or_false, false_or, Classical.not_not, false_and, and_false, am_bk, am_step, am_ldI, am_ldL, am_ldA, am_nth, am_sto, am_stw_0, am_stw_i, am_stw_n, am_stw_a, am_stw_l, am_br, am_cmp, am_tk, am_cat, am_sw, am_copy, am_R, am_nc0, am_nc1, am_f0, am_f1, am_f2, am_f3, Int.reduceNeg, Int.reduceEq, Int.reduceLE, Int.reduceLT, Nat.reduceLeDiff, Nat.reduceAdd, Nat.reduceEqDiff, true_and, and_true, ↓reduceIte, if_false, if_true, forall_const, not_true_eq_false, not_false_eq_true, false_implies, true_implies, implies_true, Int.reduceAdd, Int.reduceMul, Int.reduceSub, ne_eq, ca_109_86, bl_109_23, bl_109_35, bl_109_47, gf_86_0, pf_86_0, gf_86_1, ar_50, al_50, gf_86_2, pf_86_2, gf_86_3, pf_86_3, gf_86_4, pf_86_4, gf_86_5, pf_86_5, gf_86_6, ar_51, al_51, gf_86_7, ar_52, al_52, gf_86_8, ar_53, al_53, gf_86_9, ar_54, al_54, gf_86_10, ar_55, al_55, gf_86_11, ar_56, al_56, gf_86_12, ar_57, al_57, gf_86_13, pf_86_13, gf_86_14, pf_86_14, gf_86_15, ar_58, al_58, gf_86_16, ar_59, al_59, gf_86_17, ar_60, al_60, gf_86_18, ar_61, al_61, gf_86_19, ar_62, al_62, gf_86_20, pf_86_20, gf_86_21, pf_86_21, gf_86_22, ar_63, al_63, gf_86_23, ar_64, al_64, gf_86_24, ar_65, al_65, gf_86_25, ar_66, al_66, gf_86_26, ar_67, al_67, gf_86_27, ar_68, al_68, gf_86_28, ar_69, al_69, gf_86_29, ar_70, al_70, gf_86_30, ar_71, al_71, gf_86_31, ar_72, al_72, gf_86_32, ar_73, al_73, gf_86_33, ar_74, al_74, gf_86_34, pf_86_34, e5, e1, e2, e3, e4]
    (repeat' (first | with_reducible apply And.intro | with_reducible intro _)) <;> first | omega | exact K
set_option maxHeartbeats 400000 in
set_option maxRecDepth 100000 in
theorem lp_mc2 {s : rd_S} {h0 : am_H} {Q : am_P} (hs : rs_ok s) (hA : ∀ r, 0 ≤ r → r ≤ 2 → h0 62 r = rpc s r) (H : ∀ h1, (∀ c, ¬ (55 ≤ c ∧ c ≤ 57) → h1 c = h0 c) → (∀ r, 0 ≤ r → r ≤ 2 → h1 55 r = rpc s r ∧ h1 56 r = 0 ∧ h1 57 r = 0) → am_Ex 109 82 [some (.inr (.inr (some 86))), some (.inl 3)] [] h1 Q) :
    ∀ (m : Nat) (r : Int) (h : am_H), 0 ≤ r → r + m = 3 → (∀ c, ¬ (55 ≤ c ∧ c ≤ 57) → h c = h0 c) → (∀ q, 0 ≤ q → q < r → h 55 q = rpc s q ∧ h 56 q = 0 ∧ h 57 q = 0) → am_Ex 109 59 [some (.inr (.inr (some 86))), some (.inl r)] [] h Q := by
  intro m
  induction m with
  | zero =>
    intro r h r0 r1 hf I
    have er : r = 3 := by omega
    subst er
    have K := H h hf (fun q q0 q1 => I q q0 (by omega))
    rw [bl_109_59]
    simp only [eq_self, and_self, am_up_at, Int.cast_ofNat_Int, Int.reduceNatCast, true_or, or_true, or_false, false_or, Classical.not_not, false_and, and_false, am_bk, am_step, am_ldI, am_ldL, am_ldA, am_nth, am_sto, am_stw_0, am_stw_i, am_stw_n, am_stw_a, am_stw_l, am_br, am_cmp, am_tk, am_cat, am_sw, am_copy, am_R, am_nc0, am_nc1, am_f0, am_f1, am_f2, am_f3, Int.reduceNeg, Int.reduceEq, Int.reduceLE, Int.reduceLT, Nat.reduceLeDiff, Nat.reduceAdd, Nat.reduceEqDiff, true_and, and_true, ↓reduceIte, if_false, if_true, forall_const, not_true_eq_false, not_false_eq_true, false_implies, true_implies, implies_true, Int.reduceAdd, Int.reduceMul, Int.reduceSub, ne_eq, gf_86_0, pf_86_0, gf_86_1, ar_50, al_50, gf_86_2, pf_86_2, gf_86_3, pf_86_3, gf_86_4, pf_86_4, gf_86_5, pf_86_5, gf_86_6, ar_51, al_51, gf_86_7, ar_52, al_52, gf_86_8, ar_53, al_53, gf_86_9, ar_54, al_54, gf_86_10, ar_55, al_55, gf_86_11, ar_56, al_56, gf_86_12, ar_57, al_57, gf_86_13, pf_86_13, gf_86_14, pf_86_14, gf_86_15, ar_58, al_58, gf_86_16, ar_59, al_59, gf_86_17, ar_60, al_60, gf_86_18, ar_61, al_61, gf_86_19, ar_62, al_62, gf_86_20, pf_86_20, gf_86_21, pf_86_21, gf_86_22, ar_63, al_63, gf_86_23, ar_64, al_64, gf_86_24, ar_65, al_65, gf_86_25, ar_66, al_66, gf_86_26, ar_67, al_67, gf_86_27, ar_68, al_68, gf_86_28, ar_69, al_69, gf_86_29, ar_70, al_70, gf_86_30, ar_71, al_71, gf_86_31, ar_72, al_72, gf_86_32, ar_73, al_73, gf_86_33, ar_74, al_74, gf_86_34, pf_86_34]
    (repeat' (first | with_reducible apply And.intro | with_reducible intro _)) <;> first | omega | exact K
  | succ m ih =>
    intro r h r0 r1 hf I
    have e := hA r r0 (by omega)
    have e1 : h 62 r = rpc s r := by rw [hf 62 (by omega)]; exact e
    have K := ih (r + 1) (am_up (am_up (am_up h 55 r (rpc s r)) 56 r 0) 57 r 0) (by omega) (by omega) (fun c hc => by rw [am_up_ne (by omega), am_up_ne (by omega), am_up_ne (by omega), hf c hc]) (fun q q0 q1 => by
      simp only [eq_self, and_self, am_up_at, am_up_ne, ne_eq, Nat.reduceEqDiff, Int.reduceEq, Int.reduceNeg, not_false_eq_true, false_and, and_false, true_and, and_true, ↓reduceIte, if_false, if_true, Int.reduceAdd, Int.reduceMul, Nat.reduceAdd]
      by_cases c : q = r
      · rw [if_pos c, if_pos c, if_pos c, c]; exact ⟨rfl, rfl, rfl⟩
      · rw [if_neg c, if_neg c, if_neg c]; exact I q q0 (by omega))
    rw [bl_109_59]
    simp only [eq_self, and_self, am_up_at, Int.cast_ofNat_Int, Int.reduceNatCast, true_or, or_true, or_false, false_or, Classical.not_not, false_and, and_false, am_bk, am_step, am_ldI, am_ldL, am_ldA, am_nth, am_sto, am_stw_0, am_stw_i, am_stw_n, am_stw_a, am_stw_l, am_br, am_cmp, am_tk, am_cat, am_sw, am_copy, am_R, am_nc0, am_nc1, am_f0, am_f1, am_f2, am_f3, Int.reduceNeg, Int.reduceEq, Int.reduceLE, Int.reduceLT, Nat.reduceLeDiff, Nat.reduceAdd, Nat.reduceEqDiff, true_and, and_true, ↓reduceIte, if_false, if_true, forall_const, not_true_eq_false, not_false_eq_true, false_implies, true_implies, implies_true, Int.reduceAdd, Int.reduceMul, Int.reduceSub, ne_eq, ca_109_86, bl_109_62, bl_109_74, gf_86_0, pf_86_0, gf_86_1, ar_50, al_50, gf_86_2, pf_86_2, gf_86_3, pf_86_3, gf_86_4, pf_86_4, gf_86_5, pf_86_5, gf_86_6, ar_51, al_51, gf_86_7, ar_52, al_52, gf_86_8, ar_53, al_53, gf_86_9, ar_54, al_54, gf_86_10, ar_55, al_55, gf_86_11, ar_56, al_56, gf_86_12, ar_57, al_57, gf_86_13, pf_86_13, gf_86_14, pf_86_14, gf_86_15, ar_58, al_58, gf_86_16, ar_59, al_59, gf_86_17, ar_60, al_60, gf_86_18, ar_61, al_61, gf_86_19, ar_62, al_62, gf_86_20, pf_86_20, gf_86_21, pf_86_21, gf_86_22, ar_63, al_63, gf_86_23, ar_64, al_64, gf_86_24, ar_65, al_65, gf_86_25, ar_66, al_66, gf_86_26, ar_67, al_67, gf_86_27, ar_68, al_68, gf_86_28, ar_69, al_69, gf_86_29, ar_70, al_70, gf_86_30, ar_71, al_71, gf_86_31, ar_72, al_72, gf_86_32, ar_73, al_73, gf_86_33, ar_74, al_74, gf_86_34, pf_86_34, e1]
    (repeat' (first | with_reducible apply And.intro | with_reducible intro _)) <;> first | omega | exact K
set_option maxHeartbeats 400000 in
set_option maxRecDepth 100000 in
theorem sp_mcity {s : rd_S} {h : am_H} {Q : am_P} (hs : rs_ok s) (hA : mA h s) (H : ∀ h1, cm h h1 s → Q (some (.inl (rG s))) h1) : am_Ex 109 9 [some (.inr (.inr (some 86))), none] [] h Q := by
  have G := hs.2.1
  have U := hs.1
  have a1 := hA.1.1
  have a2 := hA.1.2.1
  obtain ⟨H1, eH⟩ : ∃ H1, H1 = am_up (am_up h 86 4 (rU s)) 86 5 (rG s) := ⟨_, rfl⟩
  have f1 : ∀ c, c ≠ 86 → H1 c = h c := fun c hc => by rw [eH, am_up_ne hc, am_up_ne hc]
  have A1 : mA H1 s := by
    refine ⟨⟨?_, ?_, ?_⟩, fun g g0 g1 => ?_, fun r r0 r1 => ?_⟩
    · rw [eH, u86, if_neg (by omega), u86, if_neg (by omega)]; exact a1
    · rw [eH, u86, if_neg (by omega), u86, if_neg (by omega)]; exact a2
    · rw [eH, u86, if_neg (by omega), u86, if_neg (by omega)]; exact hA.1.2.2
    · rw [f1 58 (by omega), f1 59 (by omega), f1 60 (by omega), f1 61 (by omega)]; exact hA.2.1 g g0 g1
    · rw [f1 62 (by omega)]; exact hA.2.2 r r0 r1
  have K := lp_mc1 (Q := Q) hs A1 (by rw [eH, u86, if_pos rfl]) (fun h2 b1 b2 => by
    have K := lp_mc2 (h0 := h2) (Q := Q) hs (fun r r0 r1 => by rw [b1 62 (by omega)]; exact A1.2.2 r r0 r1) (fun h3 c1 c2 => by
      have e86 : h3 86 = H1 86 := by rw [c1 86 (by omega), b1 86 (by omega)]
      have K := H (am_up (am_up (am_up h3 86 21 0) 67 0 0) 67 1 0) (by
        refine ⟨fun c d1 d2 d3 => ?_, ⟨?_, ?_, ?_, ?_⟩, fun g g0 g1 => ?_, fun r r0 r1 => ?_, ?_, ?_⟩
        · rw [am_up_ne d2, am_up_ne d2, am_up_ne d3, c1 c (by omega), b1 c (by omega), f1 c d3]
        · rw [am_up_ne (by omega), am_up_ne (by omega), u86, if_neg (by omega), e86, eH, u86, if_neg (by omega), u86, if_neg (by omega)]
        · rw [am_up_ne (by omega), am_up_ne (by omega), u86, if_neg (by omega), e86, eH, u86, if_neg (by omega), u86, if_pos rfl]
        · rw [am_up_ne (by omega), am_up_ne (by omega), u86, if_neg (by omega), e86, eH, u86, if_pos rfl]
        · rw [am_up_ne (by omega), am_up_ne (by omega), u86, if_pos rfl]
        · have z : ∀ c, 51 ≤ c ∧ c ≤ 54 → (am_up (am_up (am_up h3 86 21 0) 67 0 0) 67 1 0) c = h2 c := fun c hc => by rw [am_up_ne (by omega), am_up_ne (by omega), am_up_ne (by omega), c1 c (by omega)]
          rw [z 51 (by omega), z 52 (by omega), z 53 (by omega), z 54 (by omega)]; exact b2 g g0 g1
        · have z : ∀ c, 55 ≤ c ∧ c ≤ 57 → (am_up (am_up (am_up h3 86 21 0) 67 0 0) 67 1 0) c = h3 c := fun c hc => by rw [am_up_ne (by omega), am_up_ne (by omega), am_up_ne (by omega)]
          rw [z 55 (by omega), z 56 (by omega), z 57 (by omega)]; exact c2 r r0 r1
        · simp only [eq_self, and_self, am_up_at, am_up_ne, ne_eq, Nat.reduceEqDiff, Int.reduceEq, Int.reduceNeg, not_false_eq_true, false_and, and_false, true_and, and_true, ↓reduceIte, if_false, if_true, Int.reduceAdd, Int.reduceMul, Nat.reduceAdd]
        · simp only [eq_self, and_self, am_up_at, am_up_ne, ne_eq, Nat.reduceEqDiff, Int.reduceEq, Int.reduceNeg, not_false_eq_true, false_and, and_false, true_and, and_true, ↓reduceIte, if_false, if_true, Int.reduceAdd, Int.reduceMul, Nat.reduceAdd])
      have e5 : h3 86 5 = rG s := by rw [e86, eH, u86, if_pos rfl]
      simp only [eq_self, and_self, am_up_at, Int.cast_ofNat_Int, Int.reduceNatCast, true_or, or_true, or_false, false_or, Classical.not_not, false_and, and_false, am_bk, am_step, am_ldI, am_ldL, am_ldA, am_nth, am_sto, am_stw_0, am_stw_i, am_stw_n, am_stw_a, am_stw_l, am_br, am_cmp, am_tk, am_cat, am_sw, am_copy, am_R, am_nc0, am_nc1, am_f0, am_f1, am_f2, am_f3, Int.reduceNeg, Int.reduceEq, Int.reduceLE, Int.reduceLT, Nat.reduceLeDiff, Nat.reduceAdd, Nat.reduceEqDiff, true_and, and_true, ↓reduceIte, if_false, if_true, forall_const, not_true_eq_false, not_false_eq_true, false_implies, true_implies, implies_true, Int.reduceAdd, Int.reduceMul, Int.reduceSub, ne_eq, ca_109_86, bl_109_82, bl_109_94, gf_86_0, pf_86_0, gf_86_1, ar_50, al_50, gf_86_2, pf_86_2, gf_86_3, pf_86_3, gf_86_4, pf_86_4, gf_86_5, pf_86_5, gf_86_6, ar_51, al_51, gf_86_7, ar_52, al_52, gf_86_8, ar_53, al_53, gf_86_9, ar_54, al_54, gf_86_10, ar_55, al_55, gf_86_11, ar_56, al_56, gf_86_12, ar_57, al_57, gf_86_13, pf_86_13, gf_86_14, pf_86_14, gf_86_15, ar_58, al_58, gf_86_16, ar_59, al_59, gf_86_17, ar_60, al_60, gf_86_18, ar_61, al_61, gf_86_19, ar_62, al_62, gf_86_20, pf_86_20, gf_86_21, pf_86_21, gf_86_22, ar_63, al_63, gf_86_23, ar_64, al_64, gf_86_24, ar_65, al_65, gf_86_25, ar_66, al_66, gf_86_26, ar_67, al_67, gf_86_27, ar_68, al_68, gf_86_28, ar_69, al_69, gf_86_29, ar_70, al_70, gf_86_30, ar_71, al_71, gf_86_31, ar_72, al_72, gf_86_32, ar_73, al_73, gf_86_33, ar_74, al_74, gf_86_34, pf_86_34, e5]
      (repeat' (first | with_reducible apply And.intro | with_reducible intro _)) <;> first | omega | exact K) 3 0 h2 (by omega) (by omega) (fun _ _ => rfl) (fun q q0 q1 => by omega)
    simp only [eq_self, and_self, am_up_at, Int.cast_ofNat_Int, Int.reduceNatCast, true_or, or_true, or_false, false_or, Classical.not_not, false_and, and_false, am_bk, am_step, am_ldI, am_ldL, am_ldA, am_nth, am_sto, am_stw_0, am_stw_i, am_stw_n, am_stw_a, am_stw_l, am_br, am_cmp, am_tk, am_cat, am_sw, am_copy, am_R, am_nc0, am_nc1, am_f0, am_f1, am_f2, am_f3, Int.reduceNeg, Int.reduceEq, Int.reduceLE, Int.reduceLT, Nat.reduceLeDiff, Nat.reduceAdd, Nat.reduceEqDiff, true_and, and_true, ↓reduceIte, if_false, if_true, forall_const, not_true_eq_false, not_false_eq_true, false_implies, true_implies, implies_true, Int.reduceAdd, Int.reduceMul, Int.reduceSub, ne_eq, ca_109_86, bl_109_57, gf_86_0, pf_86_0, gf_86_1, ar_50, al_50, gf_86_2, pf_86_2, gf_86_3, pf_86_3, gf_86_4, pf_86_4, gf_86_5, pf_86_5, gf_86_6, ar_51, al_51, gf_86_7, ar_52, al_52, gf_86_8, ar_53, al_53, gf_86_9, ar_54, al_54, gf_86_10, ar_55, al_55, gf_86_11, ar_56, al_56, gf_86_12, ar_57, al_57, gf_86_13, pf_86_13, gf_86_14, pf_86_14, gf_86_15, ar_58, al_58, gf_86_16, ar_59, al_59, gf_86_17, ar_60, al_60, gf_86_18, ar_61, al_61, gf_86_19, ar_62, al_62, gf_86_20, pf_86_20, gf_86_21, pf_86_21, gf_86_22, ar_63, al_63, gf_86_23, ar_64, al_64, gf_86_24, ar_65, al_65, gf_86_25, ar_66, al_66, gf_86_26, ar_67, al_67, gf_86_27, ar_68, al_68, gf_86_28, ar_69, al_69, gf_86_29, ar_70, al_70, gf_86_30, ar_71, al_71, gf_86_31, ar_72, al_72, gf_86_32, ar_73, al_73, gf_86_33, ar_74, al_74, gf_86_34, pf_86_34]
    (repeat' (first | with_reducible apply And.intro | with_reducible intro _)) <;> first | omega | exact K) (rG s).toNat 0 H1 (by omega) (by omega) (fun _ _ => rfl) (fun q q0 q1 => by omega)
  rw [eH] at K
  simp only [eq_self, and_self, am_up_at, Int.cast_ofNat_Int, Int.reduceNatCast, true_or, or_true, or_false, false_or, Classical.not_not, false_and, and_false, am_bk, am_step, am_ldI, am_ldL, am_ldA, am_nth, am_sto, am_stw_0, am_stw_i, am_stw_n, am_stw_a, am_stw_l, am_br, am_cmp, am_tk, am_cat, am_sw, am_copy, am_R, am_nc0, am_nc1, am_f0, am_f1, am_f2, am_f3, Int.reduceNeg, Int.reduceEq, Int.reduceLE, Int.reduceLT, Nat.reduceLeDiff, Nat.reduceAdd, Nat.reduceEqDiff, true_and, and_true, ↓reduceIte, if_false, if_true, forall_const, not_true_eq_false, not_false_eq_true, false_implies, true_implies, implies_true, Int.reduceAdd, Int.reduceMul, Int.reduceSub, ne_eq, ca_109_86, bl_109_9, gf_86_0, pf_86_0, gf_86_1, ar_50, al_50, gf_86_2, pf_86_2, gf_86_3, pf_86_3, gf_86_4, pf_86_4, gf_86_5, pf_86_5, gf_86_6, ar_51, al_51, gf_86_7, ar_52, al_52, gf_86_8, ar_53, al_53, gf_86_9, ar_54, al_54, gf_86_10, ar_55, al_55, gf_86_11, ar_56, al_56, gf_86_12, ar_57, al_57, gf_86_13, pf_86_13, gf_86_14, pf_86_14, gf_86_15, ar_58, al_58, gf_86_16, ar_59, al_59, gf_86_17, ar_60, al_60, gf_86_18, ar_61, al_61, gf_86_19, ar_62, al_62, gf_86_20, pf_86_20, gf_86_21, pf_86_21, gf_86_22, ar_63, al_63, gf_86_23, ar_64, al_64, gf_86_24, ar_65, al_65, gf_86_25, ar_66, al_66, gf_86_26, ar_67, al_67, gf_86_27, ar_68, al_68, gf_86_28, ar_69, al_69, gf_86_29, ar_70, al_70, gf_86_30, ar_71, al_71, gf_86_31, ar_72, al_72, gf_86_32, ar_73, al_73, gf_86_33, ar_74, al_74, gf_86_34, pf_86_34, a1, a2]
  (repeat' (first | with_reducible apply And.intro | with_reducible intro _)) <;> first | omega | exact K
set_option maxHeartbeats 400000 in
set_option maxRecDepth 100000 in
theorem pr_city {h : am_H} {k : Int} (hi : iv h k) : rg_pair 59 109 [] h k := by
  unfold rg_pair
  have t := txt_of hi
  have tm := hi.2.2.2.1
  simp only [eq_self, and_self, am_up_at, Int.cast_ofNat_Int, Int.reduceNatCast, true_or, or_true, or_false, false_or, Classical.not_not, false_and, and_false, am_bk, am_step, am_ldI, am_ldL, am_ldA, am_nth, am_sto, am_stw_0, am_stw_i, am_stw_n, am_stw_a, am_stw_l, am_br, am_cmp, am_tk, am_cat, am_sw, am_copy, am_R, am_nc0, am_nc1, am_f0, am_f1, am_f2, am_f3, Int.reduceNeg, Int.reduceEq, Int.reduceLE, Int.reduceLT, Nat.reduceLeDiff, Nat.reduceAdd, Nat.reduceEqDiff, true_and, and_true, ↓reduceIte, if_false, if_true, forall_const, not_true_eq_false, not_false_eq_true, false_implies, true_implies, implies_true, Int.reduceAdd, Int.reduceMul, Int.reduceSub, ne_eq, ca_59_75, bl_59_0, gf_75_0, ar_0, al_0, gf_75_1, pf_75_1, gf_75_2, gf_75_3, gf_75_4, gf_75_5, gf_75_6, gf_75_7, gf_75_8, gf_75_9, gf_75_10, t.2.1]
  refine sp_ff t.1 t.2.2 (fun h1 r s R f1 ok => ?_)
  by_cases c : r = -9
  · obtain ⟨A1, hs⟩ := ok c
    have G := hs.2.1
    subst c
    have W : ∀ h2, cc h h2 s → am_Ex 59 34 [some (.inr (.inr (some 75)))] [] h2 (fun o h1 => am_Call 109 [.inr (.inr (some 86))] h1 (rg_post k o)) := by
      intro h2 C
      have p1 := C.2.1.2.1
      have K : am_Call 109 [.inr (.inr (some 86))] h2 (rg_post k (some (.inl (rG s)))) := by
        simp only [eq_self, and_self, am_up_at, Int.cast_ofNat_Int, Int.reduceNatCast, true_or, or_true, or_false, false_or, Classical.not_not, false_and, and_false, am_bk, am_step, am_ldI, am_ldL, am_ldA, am_nth, am_sto, am_stw_0, am_stw_i, am_stw_n, am_stw_a, am_stw_l, am_br, am_cmp, am_tk, am_cat, am_sw, am_copy, am_R, am_nc0, am_nc1, am_f0, am_f1, am_f2, am_f3, Int.reduceNeg, Int.reduceEq, Int.reduceLE, Int.reduceLT, Nat.reduceLeDiff, Nat.reduceAdd, Nat.reduceEqDiff, true_and, and_true, ↓reduceIte, if_false, if_true, forall_const, not_true_eq_false, not_false_eq_true, false_implies, true_implies, implies_true, Int.reduceAdd, Int.reduceMul, Int.reduceSub, ne_eq, ca_109_86, bl_109_0, gf_86_0, pf_86_0, gf_86_1, ar_50, al_50, gf_86_2, pf_86_2, gf_86_3, pf_86_3, gf_86_4, pf_86_4, gf_86_5, pf_86_5, gf_86_6, ar_51, al_51, gf_86_7, ar_52, al_52, gf_86_8, ar_53, al_53, gf_86_9, ar_54, al_54, gf_86_10, ar_55, al_55, gf_86_11, ar_56, al_56, gf_86_12, ar_57, al_57, gf_86_13, pf_86_13, gf_86_14, pf_86_14, gf_86_15, ar_58, al_58, gf_86_16, ar_59, al_59, gf_86_17, ar_60, al_60, gf_86_18, ar_61, al_61, gf_86_19, ar_62, al_62, gf_86_20, pf_86_20, gf_86_21, pf_86_21, gf_86_22, ar_63, al_63, gf_86_23, ar_64, al_64, gf_86_24, ar_65, al_65, gf_86_25, ar_66, al_66, gf_86_26, ar_67, al_67, gf_86_27, ar_68, al_68, gf_86_28, ar_69, al_69, gf_86_29, ar_70, al_70, gf_86_30, ar_71, al_71, gf_86_31, ar_72, al_72, gf_86_32, ar_73, al_73, gf_86_33, ar_74, al_74, gf_86_34, pf_86_34]
        have txm2 : txm (am_up h2 86 0 0) (h 50) (h 86 2) := by
          refine ⟨⟨by rw [u86, if_neg (by omega), C.1 86 (by omega) (by omega) (by omega) (by omega)], tm.2.1⟩, fun i i0 i1 => ?_⟩
          rw [am_up_ne (by omega), C.1 50 (by omega) (by omega) (by omega) (by omega)]
          exact ⟨rfl, (tm.2.2 i i0 i1).2⟩
        refine sp_rcity txm2 (fun h3 r3 s3 R3 f3 m3 _ _ => ?_)
        obtain ⟨e1, e2⟩ := rdAll_one R3 R
        subst e2
        have M := m3 e1
        have K := sp_mcity (Q := rg_post k (some (.inl (rG s3)))) hs M (fun h4 m4 => rg_leaf rfl (by omega) (iv_city hi hs C (by
          obtain ⟨q1, q2, q3, q4, q5, q6⟩ := m4
          exact ⟨fun c d1 d2 d3 => by rw [q1 c d1 d2 d3, f3.1 c (by omega) d3, am_up_ne d3], ⟨by rw [q2.1, f3.2 2 (by omega) (by omega) (by omega) (by omega), u86, if_neg (by omega)], q2.2⟩, q3, q4, q5, q6⟩)))
        simp only [eq_self, and_self, am_up_at, Int.cast_ofNat_Int, Int.reduceNatCast, true_or, or_true, or_false, false_or, Classical.not_not, false_and, and_false, am_bk, am_step, am_ldI, am_ldL, am_ldA, am_nth, am_sto, am_stw_0, am_stw_i, am_stw_n, am_stw_a, am_stw_l, am_br, am_cmp, am_tk, am_cat, am_sw, am_copy, am_R, am_nc0, am_nc1, am_f0, am_f1, am_f2, am_f3, Int.reduceNeg, Int.reduceEq, Int.reduceLE, Int.reduceLT, Nat.reduceLeDiff, Nat.reduceAdd, Nat.reduceEqDiff, true_and, and_true, ↓reduceIte, if_false, if_true, forall_const, not_true_eq_false, not_false_eq_true, false_implies, true_implies, implies_true, Int.reduceAdd, Int.reduceMul, Int.reduceSub, ne_eq, ca_109_86, bl_109_5, gf_86_0, pf_86_0, gf_86_1, ar_50, al_50, gf_86_2, pf_86_2, gf_86_3, pf_86_3, gf_86_4, pf_86_4, gf_86_5, pf_86_5, gf_86_6, ar_51, al_51, gf_86_7, ar_52, al_52, gf_86_8, ar_53, al_53, gf_86_9, ar_54, al_54, gf_86_10, ar_55, al_55, gf_86_11, ar_56, al_56, gf_86_12, ar_57, al_57, gf_86_13, pf_86_13, gf_86_14, pf_86_14, gf_86_15, ar_58, al_58, gf_86_16, ar_59, al_59, gf_86_17, ar_60, al_60, gf_86_18, ar_61, al_61, gf_86_19, ar_62, al_62, gf_86_20, pf_86_20, gf_86_21, pf_86_21, gf_86_22, ar_63, al_63, gf_86_23, ar_64, al_64, gf_86_24, ar_65, al_65, gf_86_25, ar_66, al_66, gf_86_26, ar_67, al_67, gf_86_27, ar_68, al_68, gf_86_28, ar_69, al_69, gf_86_29, ar_70, al_70, gf_86_30, ar_71, al_71, gf_86_31, ar_72, al_72, gf_86_32, ar_73, al_73, gf_86_33, ar_74, al_74, gf_86_34, pf_86_34, e1]
        (repeat' (first | with_reducible apply And.intro | with_reducible intro _)) <;> first | omega | exact K
      simp only [eq_self, and_self, am_up_at, Int.cast_ofNat_Int, Int.reduceNatCast, true_or, or_true, or_false, false_or, Classical.not_not, false_and, and_false, am_bk, am_step, am_ldI, am_ldL, am_ldA, am_nth, am_sto, am_stw_0, am_stw_i, am_stw_n, am_stw_a, am_stw_l, am_br, am_cmp, am_tk, am_cat, am_sw, am_copy, am_R, am_nc0, am_nc1, am_f0, am_f1, am_f2, am_f3, Int.reduceNeg, Int.reduceEq, Int.reduceLE, Int.reduceLT, Nat.reduceLeDiff, Nat.reduceAdd, Nat.reduceEqDiff, true_and, and_true, ↓reduceIte, if_false, if_true, forall_const, not_true_eq_false, not_false_eq_true, false_implies, true_implies, implies_true, Int.reduceAdd, Int.reduceMul, Int.reduceSub, ne_eq, ca_59_75, bl_59_34, gf_75_0, ar_0, al_0, gf_75_1, pf_75_1, gf_75_2, gf_75_3, gf_75_4, gf_75_5, gf_75_6, gf_75_7, gf_75_8, gf_75_9, gf_75_10, gf_78_0, pf_78_0, gf_78_1, pf_78_1, gf_78_2, ar_6, al_6, gf_78_3, ar_7, al_7, gf_78_4, ar_8, al_8, gf_78_5, ar_9, al_9, gf_78_6, ar_10, al_10, p1]
      exact K
    have K11 : am_Ex 59 11 [some (.inr (.inr (some 75)))] [] h1 (fun o h1 => am_Call 109 [.inr (.inr (some 86))] h1 (rg_post k o)) := by
      simp only [eq_self, and_self, am_up_at, Int.cast_ofNat_Int, Int.reduceNatCast, true_or, or_true, or_false, false_or, Classical.not_not, false_and, and_false, am_bk, am_step, am_ldI, am_ldL, am_ldA, am_nth, am_sto, am_stw_0, am_stw_i, am_stw_n, am_stw_a, am_stw_l, am_br, am_cmp, am_tk, am_cat, am_sw, am_copy, am_R, am_nc0, am_nc1, am_f0, am_f1, am_f2, am_f3, Int.reduceNeg, Int.reduceEq, Int.reduceLE, Int.reduceLT, Nat.reduceLeDiff, Nat.reduceAdd, Nat.reduceEqDiff, true_and, and_true, ↓reduceIte, if_false, if_true, forall_const, not_true_eq_false, not_false_eq_true, false_implies, true_implies, implies_true, Int.reduceAdd, Int.reduceMul, Int.reduceSub, ne_eq, ca_59_75, bl_59_11, gf_75_0, ar_0, al_0, gf_75_1, pf_75_1, gf_75_2, gf_75_3, gf_75_4, gf_75_5, gf_75_6, gf_75_7, gf_75_8, gf_75_9, gf_75_10, gf_76_0, gf_76_1, pf_76_1, gf_76_2, pf_76_2, gf_76_3, pf_76_3, gf_76_4, pf_76_4, gf_76_5, pf_76_5, gf_76_6, pf_76_6, gf_76_7, pf_76_7]
      refine sp_planTake (fun h2 b1 b2 b3 b4 b5 => ?_)
      simp only [eq_self, and_self, am_up_at, Int.cast_ofNat_Int, Int.reduceNatCast, true_or, or_true, or_false, false_or, Classical.not_not, false_and, and_false, am_bk, am_step, am_ldI, am_ldL, am_ldA, am_nth, am_sto, am_stw_0, am_stw_i, am_stw_n, am_stw_a, am_stw_l, am_br, am_cmp, am_tk, am_cat, am_sw, am_copy, am_R, am_nc0, am_nc1, am_f0, am_f1, am_f2, am_f3, Int.reduceNeg, Int.reduceEq, Int.reduceLE, Int.reduceLT, Nat.reduceLeDiff, Nat.reduceAdd, Nat.reduceEqDiff, true_and, and_true, ↓reduceIte, if_false, if_true, forall_const, not_true_eq_false, not_false_eq_true, false_implies, true_implies, implies_true, Int.reduceAdd, Int.reduceMul, Int.reduceSub, ne_eq, ca_59_75, bl_59_17, gf_75_0, ar_0, al_0, gf_75_1, pf_75_1, gf_75_2, gf_75_3, gf_75_4, gf_75_5, gf_75_6, gf_75_7, gf_75_8, gf_75_9, gf_75_10, gf_78_0, pf_78_0, gf_78_1, pf_78_1, gf_78_2, ar_6, al_6, gf_78_3, ar_7, al_7, gf_78_4, ar_8, al_8, gf_78_5, ar_9, al_9, gf_78_6, ar_10, al_10]
      refine sp_startWith (fun h3 d1 d2 d3 => ?_)
      obtain ⟨H4, eH⟩ : ∃ H4, H4 = am_up (am_up h3 81 7 0) 82 7 0 := ⟨_, rfl⟩
      have F4 : apF H4 s := by
        have z : ∀ c, (6 ≤ c ∧ c ≤ 9) ∨ c = 78 → H4 c = h2 c := fun c hc => by rw [eH, am_up_ne (by omega), am_up_ne (by omega), d1 c (by omega) (by omega) (by omega) (by omega)]
        refine ⟨?_, ?_, fun g g0 g1 => ?_⟩
        · rw [z 78 (by omega), b2]; exact A1.1.1
        · rw [z 78 (by omega), b3]; exact A1.1.2.1
        · have q := b4 g g0 (by omega)
          rw [z 6 (by omega), z 7 (by omega), z 8 (by omega), z 9 (by omega), q.1, q.2.1, q.2.2.1, q.2.2.2]
          exact A1.2.1 g g0 g1
      have P : ∀ Q' : am_P, (∀ h5, fr_u H4 h5 → 0 ≤ h5 83 9 ∧ h5 83 9 ≤ 16 → pI s (rG s) 0 h5 → Q' none h5) → am_Call 25 [.inr (.inr (some 83))] H4 Q' := fun Q' q => sp_pairUp hs F4 q
      have K : ∀ h5, fr_u H4 h5 → 0 ≤ h5 83 9 ∧ h5 83 9 ≤ 16 → pI s (rG s) 0 h5 → am_Ex 59 34 [some (.inr (.inr (some 75)))] [] h5 (fun o h1 => am_Call 109 [.inr (.inr (some 86))] h1 (rg_post k o)) := by
        intro h5 u5 n5 i5
        refine W h5 ⟨fun c x1 x2 x3 x4 => ?_, ap_u F4 u5, fun r r0 r1 => ?_, ?_, ?_, ?_, n5, fun i hi' => ?_, i5⟩
        · rw [u5.1 c x2 (by omega), eH, am_up_ne (by omega), am_up_ne (by omega), d1 c (by omega) (by omega) (by omega) (by omega), b1 c (by omega) (by omega), f1 c (by omega) (by omega) (by omega)]
        · have q := d2 r r0 r1
          rw [u5.1 11 (by omega) (by omega), u5.1 12 (by omega) (by omega), u5.1 13 (by omega) (by omega), eH, am_up_ne (by omega), am_up_ne (by omega), am_up_ne (by omega), am_up_ne (by omega), am_up_ne (by omega), am_up_ne (by omega), q.1, q.2.1, q.2.2, b5 r r0 r1]
          exact ⟨A1.2.2 r r0 r1, rfl, rfl⟩
        · rw [u5.1 79 (by omega) (by omega), eH, am_up_ne (by omega), am_up_ne (by omega)]; exact d3
        · rw [u5.1 81 (by omega) (by omega), eH]; simp only [eq_self, and_self, am_up_at, am_up_ne, ne_eq, Nat.reduceEqDiff, Int.reduceEq, Int.reduceNeg, not_false_eq_true, false_and, and_false, true_and, and_true, ↓reduceIte, if_false, if_true, Int.reduceAdd, Int.reduceMul, Nat.reduceAdd]
        · rw [u5.1 82 (by omega) (by omega), eH]; simp only [eq_self, and_self, am_up_at, am_up_ne, ne_eq, Nat.reduceEqDiff, Int.reduceEq, Int.reduceNeg, not_false_eq_true, false_and, and_false, true_and, and_true, ↓reduceIte, if_false, if_true, Int.reduceAdd, Int.reduceMul, Nat.reduceAdd]
        · rw [u5.2 i hi', eH, am_up_ne (by omega), am_up_ne (by omega), d1 83 (by omega) (by omega) (by omega) (by omega), b1 83 (by omega) (by omega), f1 83 (by omega) (by omega) (by omega)]
      rw [eH] at P
      simp only [eq_self, and_self, am_up_at, Int.cast_ofNat_Int, Int.reduceNatCast, true_or, or_true, or_false, false_or, Classical.not_not, false_and, and_false, am_bk, am_step, am_ldI, am_ldL, am_ldA, am_nth, am_sto, am_stw_0, am_stw_i, am_stw_n, am_stw_a, am_stw_l, am_br, am_cmp, am_tk, am_cat, am_sw, am_copy, am_R, am_nc0, am_nc1, am_f0, am_f1, am_f2, am_f3, Int.reduceNeg, Int.reduceEq, Int.reduceLE, Int.reduceLT, Nat.reduceLeDiff, Nat.reduceAdd, Nat.reduceEqDiff, true_and, and_true, ↓reduceIte, if_false, if_true, forall_const, not_true_eq_false, not_false_eq_true, false_implies, true_implies, implies_true, Int.reduceAdd, Int.reduceMul, Int.reduceSub, ne_eq, ca_59_75, bl_59_23, gf_75_0, ar_0, al_0, gf_75_1, pf_75_1, gf_75_2, gf_75_3, gf_75_4, gf_75_5, gf_75_6, gf_75_7, gf_75_8, gf_75_9, gf_75_10, gf_81_0, ar_23, al_23, gf_81_1, ar_24, al_24, gf_81_2, ar_25, al_25, gf_81_3, ar_26, al_26, gf_81_4, ar_27, al_27, gf_81_5, ar_28, al_28, gf_81_6, pf_81_6, gf_81_7, pf_81_7, gf_82_0, ar_29, al_29, gf_82_1, ar_30, al_30, gf_82_2, ar_31, al_31, gf_82_3, ar_32, al_32, gf_82_4, ar_33, al_33, gf_82_5, ar_34, al_34, gf_82_6, pf_82_6, gf_82_7, pf_82_7]
      (repeat' (first | with_reducible apply And.intro | with_reducible intro _)) <;> first | omega | exact P _ (by rw [← eH]; exact K)
    simp only [eq_self, and_self, am_up_at, Int.cast_ofNat_Int, Int.reduceNatCast, true_or, or_true, or_false, false_or, Classical.not_not, false_and, and_false, am_bk, am_step, am_ldI, am_ldL, am_ldA, am_nth, am_sto, am_stw_0, am_stw_i, am_stw_n, am_stw_a, am_stw_l, am_br, am_cmp, am_tk, am_cat, am_sw, am_copy, am_R, am_nc0, am_nc1, am_f0, am_f1, am_f2, am_f3, Int.reduceNeg, Int.reduceEq, Int.reduceLE, Int.reduceLT, Nat.reduceLeDiff, Nat.reduceAdd, Nat.reduceEqDiff, true_and, and_true, ↓reduceIte, if_false, if_true, forall_const, not_true_eq_false, not_false_eq_true, false_implies, true_implies, implies_true, Int.reduceAdd, Int.reduceMul, Int.reduceSub, ne_eq, ca_59_75, bl_59_7, gf_75_0, ar_0, al_0, gf_75_1, pf_75_1, gf_75_2, gf_75_3, gf_75_4, gf_75_5, gf_75_6, gf_75_7, gf_75_8, gf_75_9, gf_75_10]
    (repeat' (first | with_reducible apply And.intro | with_reducible intro _)) <;> first | omega | exact K11
  · have X := xd_c hi f1
    have rr : -9 ≤ r ∧ r ≤ 60 ∨ True := Or.inr trivial
    have K : am_Call 109 [.inr (.inr (some 86))] h1 (rg_post k (some (.inl (-3)))) := by
      simp only [eq_self, and_self, am_up_at, Int.cast_ofNat_Int, Int.reduceNatCast, true_or, or_true, or_false, false_or, Classical.not_not, false_and, and_false, am_bk, am_step, am_ldI, am_ldL, am_ldA, am_nth, am_sto, am_stw_0, am_stw_i, am_stw_n, am_stw_a, am_stw_l, am_br, am_cmp, am_tk, am_cat, am_sw, am_copy, am_R, am_nc0, am_nc1, am_f0, am_f1, am_f2, am_f3, Int.reduceNeg, Int.reduceEq, Int.reduceLE, Int.reduceLT, Nat.reduceLeDiff, Nat.reduceAdd, Nat.reduceEqDiff, true_and, and_true, ↓reduceIte, if_false, if_true, forall_const, not_true_eq_false, not_false_eq_true, false_implies, true_implies, implies_true, Int.reduceAdd, Int.reduceMul, Int.reduceSub, ne_eq, ca_109_86, bl_109_0, gf_86_0, pf_86_0, gf_86_1, ar_50, al_50, gf_86_2, pf_86_2, gf_86_3, pf_86_3, gf_86_4, pf_86_4, gf_86_5, pf_86_5, gf_86_6, ar_51, al_51, gf_86_7, ar_52, al_52, gf_86_8, ar_53, al_53, gf_86_9, ar_54, al_54, gf_86_10, ar_55, al_55, gf_86_11, ar_56, al_56, gf_86_12, ar_57, al_57, gf_86_13, pf_86_13, gf_86_14, pf_86_14, gf_86_15, ar_58, al_58, gf_86_16, ar_59, al_59, gf_86_17, ar_60, al_60, gf_86_18, ar_61, al_61, gf_86_19, ar_62, al_62, gf_86_20, pf_86_20, gf_86_21, pf_86_21, gf_86_22, ar_63, al_63, gf_86_23, ar_64, al_64, gf_86_24, ar_65, al_65, gf_86_25, ar_66, al_66, gf_86_26, ar_67, al_67, gf_86_27, ar_68, al_68, gf_86_28, ar_69, al_69, gf_86_29, ar_70, al_70, gf_86_30, ar_71, al_71, gf_86_31, ar_72, al_72, gf_86_32, ar_73, al_73, gf_86_33, ar_74, al_74, gf_86_34, pf_86_34]
      refine sp_rcity (txm_of hi X) (fun h2 r2 s2 R2 f2 _ r3 r4 => ?_)
      have e := rdAll_one R2 R
      have L := rg_leaf (k := k) (A := -3) (B := -3) rfl (by omega) (ed hi X (mx_t (mx_thr h1) (fd_mx f2)))
      have e1 := e.1
      simp only [eq_self, and_self, am_up_at, Int.cast_ofNat_Int, Int.reduceNatCast, true_or, or_true, or_false, false_or, Classical.not_not, false_and, and_false, am_bk, am_step, am_ldI, am_ldL, am_ldA, am_nth, am_sto, am_stw_0, am_stw_i, am_stw_n, am_stw_a, am_stw_l, am_br, am_cmp, am_tk, am_cat, am_sw, am_copy, am_R, am_nc0, am_nc1, am_f0, am_f1, am_f2, am_f3, Int.reduceNeg, Int.reduceEq, Int.reduceLE, Int.reduceLT, Nat.reduceLeDiff, Nat.reduceAdd, Nat.reduceEqDiff, true_and, and_true, ↓reduceIte, if_false, if_true, forall_const, not_true_eq_false, not_false_eq_true, false_implies, true_implies, implies_true, Int.reduceAdd, Int.reduceMul, Int.reduceSub, ne_eq, ca_109_86, bl_109_5, gf_86_0, pf_86_0, gf_86_1, ar_50, al_50, gf_86_2, pf_86_2, gf_86_3, pf_86_3, gf_86_4, pf_86_4, gf_86_5, pf_86_5, gf_86_6, ar_51, al_51, gf_86_7, ar_52, al_52, gf_86_8, ar_53, al_53, gf_86_9, ar_54, al_54, gf_86_10, ar_55, al_55, gf_86_11, ar_56, al_56, gf_86_12, ar_57, al_57, gf_86_13, pf_86_13, gf_86_14, pf_86_14, gf_86_15, ar_58, al_58, gf_86_16, ar_59, al_59, gf_86_17, ar_60, al_60, gf_86_18, ar_61, al_61, gf_86_19, ar_62, al_62, gf_86_20, pf_86_20, gf_86_21, pf_86_21, gf_86_22, ar_63, al_63, gf_86_23, ar_64, al_64, gf_86_24, ar_65, al_65, gf_86_25, ar_66, al_66, gf_86_26, ar_67, al_67, gf_86_27, ar_68, al_68, gf_86_28, ar_69, al_69, gf_86_29, ar_70, al_70, gf_86_30, ar_71, al_71, gf_86_31, ar_72, al_72, gf_86_32, ar_73, al_73, gf_86_33, ar_74, al_74, gf_86_34, pf_86_34]
      (repeat' (first | with_reducible apply And.intro | with_reducible intro _)) <;> first | omega | exact L
    have rg : -9 ≤ r ∧ r ≤ 66 := by
      have n1 := t.1.1
      rcases R with q | q | ⟨q0, q1, kk, q⟩
      · omega
      · omega
      · have bd : ∀ (kk : Nat) (s : rd_S) (p r : Int) (s' : rd_S), rdRun (h 50) (h 86 2) kk s p r s' → 0 ≤ p → -9 ≤ r ∧ r ≤ 66 := by
          intro kk
          induction kk with
          | zero =>
            intro s p r s' z hp
            rcases z with z | ⟨z1, z2, z3⟩
            · omega
            · unfold rdN at z2; omega
          | succ kk ih =>
            intro s p r s' z hp
            obtain ⟨z1, q, s1, z2, z3⟩ := z
            have : p < q := by unfold rdY at z2; omega
            exact ih s1 q r s' z3 (by omega)
        exact bd kk _ _ _ _ q (by omega)
    simp only [eq_self, and_self, am_up_at, Int.cast_ofNat_Int, Int.reduceNatCast, true_or, or_true, or_false, false_or, Classical.not_not, false_and, and_false, am_bk, am_step, am_ldI, am_ldL, am_ldA, am_nth, am_sto, am_stw_0, am_stw_i, am_stw_n, am_stw_a, am_stw_l, am_br, am_cmp, am_tk, am_cat, am_sw, am_copy, am_R, am_nc0, am_nc1, am_f0, am_f1, am_f2, am_f3, Int.reduceNeg, Int.reduceEq, Int.reduceLE, Int.reduceLT, Nat.reduceLeDiff, Nat.reduceAdd, Nat.reduceEqDiff, true_and, and_true, ↓reduceIte, if_false, if_true, forall_const, not_true_eq_false, not_false_eq_true, false_implies, true_implies, implies_true, Int.reduceAdd, Int.reduceMul, Int.reduceSub, ne_eq, ca_59_75, bl_59_7, gf_75_0, ar_0, al_0, gf_75_1, pf_75_1, gf_75_2, gf_75_3, gf_75_4, gf_75_5, gf_75_6, gf_75_7, gf_75_8, gf_75_9, gf_75_10]
    (repeat' (first | with_reducible apply And.intro | with_reducible intro _)) <;> first | omega | exact K
