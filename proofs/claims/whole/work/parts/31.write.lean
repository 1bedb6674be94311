/-! write -/
theorem wr_hi : ∀ i, i < 32 → 8 ≤ i → (255#32).getLsbD i = false := by decide
theorem wr_b0 (v : Int64) (j : Nat) (hj : j ≤ 56) (A B : Int64) (hA : A.toBitVec = v.toBitVec >>> j) (hB : B.toBitVec = v.toBitVec.sshiftRight j) : A.toInt32 &&& 255 = B.toInt32 &&& 255 := by
  apply Int32.toBitVec_inj.mp
  apply BitVec.eq_of_getLsbD_eq
  intro i hi
  show ((A.toBitVec.signExtend 32) &&& 255#32).getLsbD i = ((B.toBitVec.signExtend 32) &&& 255#32).getLsbD i
  rw [BitVec.getLsbD_and, BitVec.getLsbD_and]
  by_cases h8 : i < 8
  · have e : (A.toBitVec.signExtend 32).getLsbD i = (B.toBitVec.signExtend 32).getLsbD i := by
      rw [BitVec.getLsbD_signExtend, BitVec.getLsbD_signExtend, if_pos (by omega), if_pos (by omega), hA, hB, BitVec.getLsbD_ushiftRight, BitVec.getLsbD_sshiftRight]
      simp [show j + i < 64 by omega, show ¬ 64 ≤ i by omega]
    rw [e]
  · rw [wr_hi i hi (by omega)]
    simp
theorem wr_rng (x : Int32) : 0 ≤ (x &&& 255).toInt ∧ (x &&& 255).toInt ≤ 255 := by
  obtain ⟨j, hj, e⟩ := pk_andE x (m := 255) 8 (by decide)
  rw [e, nI_toInt (by omega)]
  omega
/-- the byte at i of v -/
noncomputable def rg_byt (v : Int64) (i : Int) : Int := am_and (am_l2i (am_lshr v (8 * i))) 255
theorem wr_r (v : Int64) (i : Int) : 0 ≤ rg_byt v i ∧ rg_byt v i ≤ 255 := by
  unfold rg_byt
  rw [am_and_eq, am_l2i_eq, am_ofI]
  exact wr_rng _
theorem wr_eq (v : Int64) {i : Int} (hi : 0 ≤ i ∧ i ≤ 7) : am_and (am_l2i (am_lushr v (8 * i))) 255 = rg_byt v i := by
  unfold rg_byt
  rw [am_and_eq, am_and_eq, am_l2i_eq, am_l2i_eq, am_ofI, am_ofI, am_lushr_eq, am_lshr_eq]
  have : i = 0 ∨ i = 1 ∨ i = 2 ∨ i = 3 ∨ i = 4 ∨ i = 5 ∨ i = 6 ∨ i = 7 := by omega
  rcases this with rfl | rfl | rfl | rfl | rfl | rfl | rfl | rfl
  · exact congrArg Int32.toInt (wr_b0 v 0 (by omega) _ _ rfl rfl)
  · exact congrArg Int32.toInt (wr_b0 v 8 (by omega) _ _ rfl rfl)
  · exact congrArg Int32.toInt (wr_b0 v 16 (by omega) _ _ rfl rfl)
  · exact congrArg Int32.toInt (wr_b0 v 24 (by omega) _ _ rfl rfl)
  · exact congrArg Int32.toInt (wr_b0 v 32 (by omega) _ _ rfl rfl)
  · exact congrArg Int32.toInt (wr_b0 v 40 (by omega) _ _ rfl rfl)
  · exact congrArg Int32.toInt (wr_b0 v 48 (by omega) _ _ rfl rfl)
  · exact congrArg Int32.toInt (wr_b0 v 56 (by omega) _ _ rfl rfl)
/-- from h to h1 the bytes from m - 1 down to 0 of v came behind the text at cell c, its length at object o, field f -/
def rg_wr (h h1 : am_H) (c o : Nat) (f : Int) (v : Int64) (m : Int) : Prop := h1 o f = h o f + m ∧ (∀ i, i ≠ f → h1 o i = h o i) ∧ (∀ j, j < h o f → h1 c j = h c j) ∧ (∀ q, 0 ≤ q → q < m → h1 c (h o f + q) = rg_byt v (m - 1 - q)) ∧ ∀ c', c' ≠ c → c' ≠ o → h1 c' = h c'
set_option maxHeartbeats 400000 in
set_option maxRecDepth 100000 in
theorem it_wrX {n i : Int} {v : Int64} {h : am_H} {Q : am_P} (hi : 0 ≤ i ∧ i ≤ 7) (hl : 0 ≤ h 75 1 ∧ h 75 1 < 60) (H : am_Ex 56 20 [some (.inr (.inr (some 75))), some (.inl n), some (.inr (.inl v)), none, some (.inl (i + -1))] [] (am_up (am_up h 0 (h 75 1) (rg_byt v i)) 75 1 (h 75 1 + 1)) Q) : am_Ex 56 20 [some (.inr (.inr (some 75))), some (.inl n), some (.inr (.inl v)), none, some (.inl i)] [] h Q := by
  rw [bl_56_20]
  simp only [eq_self, and_self, am_up_at, Int.cast_ofNat_Int, Int.reduceNatCast, true_or, or_true, or_false, false_or, Classical.not_not, false_and, and_false, am_bk, am_step, am_ldI, am_ldL, am_ldA, am_nth, am_sto, am_stw_0, am_stw_i, am_stw_n, am_stw_a, am_stw_l, am_br, am_cmp, am_tk, am_cat, am_sw, am_copy, am_R, am_nc0, am_nc1, am_f0, am_f1, am_f2, am_f3, Int.reduceNeg, Int.reduceEq, Int.reduceLE, Int.reduceLT, Nat.reduceLeDiff, Nat.reduceAdd, Nat.reduceEqDiff, true_and, and_true, ↓reduceIte, if_false, if_true, forall_const, not_true_eq_false, not_false_eq_true, false_implies, true_implies, implies_true, Int.reduceAdd, Int.reduceMul, Int.reduceSub, ne_eq, ca_56_75, bl_56_22, bl_56_34, gf_75_0, ar_0, al_0, gf_75_1, pf_75_1, gf_75_2, gf_75_3, gf_75_4, gf_75_5, gf_75_6, gf_75_7, gf_75_8, gf_75_9, gf_75_10, wr_eq v hi]
  (repeat' (first | with_reducible apply And.intro | with_reducible intro _)) <;> first | omega | exact H
set_option maxHeartbeats 400000 in
set_option maxRecDepth 100000 in
theorem lp_wrX {n : Int} {v : Int64} {Q : am_P} : ∀ (m : Nat) (h : am_H), (m : Int) ≤ 8 → 0 ≤ h 75 1 → h 75 1 + m ≤ 60 → (∀ h1, rg_wr h h1 0 75 1 v m → Q (some (.inl (h 75 1 + m))) h1) → am_Ex 56 20 [some (.inr (.inr (some 75))), some (.inl n), some (.inr (.inl v)), none, some (.inl ((m : Int) - 1))] [] h Q := by
  intro m
  induction m with
  | zero =>
    intro h h1 h2 h3 H
    rw [bl_56_20]
    simp only [eq_self, and_self, am_up_at, Int.cast_ofNat_Int, Int.reduceNatCast, true_or, or_true, or_false, false_or, Classical.not_not, false_and, and_false, am_bk, am_step, am_ldI, am_ldL, am_ldA, am_nth, am_sto, am_stw_0, am_stw_i, am_stw_n, am_stw_a, am_stw_l, am_br, am_cmp, am_tk, am_cat, am_sw, am_copy, am_R, am_nc0, am_nc1, am_f0, am_f1, am_f2, am_f3, Int.reduceNeg, Int.reduceEq, Int.reduceLE, Int.reduceLT, Nat.reduceLeDiff, Nat.reduceAdd, Nat.reduceEqDiff, true_and, and_true, ↓reduceIte, if_false, if_true, forall_const, not_true_eq_false, not_false_eq_true, false_implies, true_implies, implies_true, Int.reduceAdd, Int.reduceMul, Int.reduceSub, ne_eq, ca_56_75, bl_56_43, gf_75_0, ar_0, al_0, gf_75_1, pf_75_1, gf_75_2, gf_75_3, gf_75_4, gf_75_5, gf_75_6, gf_75_7, gf_75_8, gf_75_9, gf_75_10]
    have H := H h ⟨by omega, fun _ _ => rfl, fun _ _ => rfl, fun q a b => by omega, fun _ _ _ => rfl⟩
    (repeat' (first | with_reducible apply And.intro | with_reducible intro _)) <;> first | omega | exact am_leaf H (by omega)
  | succ m ih =>
    intro h h1 h2 h3 H
    refine it_wrX (by omega) (by omega) ?_
    rw [show ((m + 1 : Nat) : Int) - 1 + -1 = (m : Int) - 1 by omega]
    refine ih _ (by omega) (by simp only [eq_self, and_self, am_up_at, am_up_ne, ne_eq, Nat.reduceEqDiff, Int.reduceEq, Int.reduceNeg, not_false_eq_true, false_and, and_false, true_and, and_true, ↓reduceIte, if_false, if_true, Int.reduceAdd, Int.reduceMul, Nat.reduceAdd]; omega) (by simp only [eq_self, and_self, am_up_at, am_up_ne, ne_eq, Nat.reduceEqDiff, Int.reduceEq, Int.reduceNeg, not_false_eq_true, false_and, and_false, true_and, and_true, ↓reduceIte, if_false, if_true, Int.reduceAdd, Int.reduceMul, Nat.reduceAdd]; omega) (fun h1 W => ?_)
    obtain ⟨w1, w2, w3, w4, w5⟩ := W
    simp only [eq_self, and_self, am_up_at, am_up_ne, ne_eq, Nat.reduceEqDiff, Int.reduceEq, Int.reduceNeg, not_false_eq_true, false_and, and_false, true_and, and_true, ↓reduceIte, if_false, if_true, Int.reduceAdd, Int.reduceMul, Nat.reduceAdd] at w1 w3 w4 ⊢
    refine am_leaf (H h1 ⟨by omega, fun i hi => ?_, fun j hj => ?_, fun q a b => ?_, fun c' a b => ?_⟩) (by omega)
    · rw [w2 i hi]; simp only [eq_self, and_self, am_up_at, am_up_ne, ne_eq, Nat.reduceEqDiff, Int.reduceEq, Int.reduceNeg, not_false_eq_true, false_and, and_false, true_and, and_true, ↓reduceIte, if_false, if_true, Int.reduceAdd, Int.reduceMul, Nat.reduceAdd, hi]
    · rw [w3 j (by omega)]; exact if_neg (by omega)
    · by_cases hq : q = 0
      · subst hq
        rw [w3 _ (by omega)]
        simp only [Int.add_zero, eq_self, and_self, am_up_at, am_up_ne, ne_eq, Nat.reduceEqDiff, Int.reduceEq, Int.reduceNeg, not_false_eq_true, false_and, and_false, true_and, and_true, ↓reduceIte, if_false, if_true, Int.reduceAdd, Int.reduceMul, Nat.reduceAdd]
        rw [show ((m + 1 : Nat) : Int) - 1 - 0 = ((m + 1 : Nat) : Int) - 1 by omega]
      · have := w4 (q - 1) (by omega) (by omega)
        rw [show h 75 1 + 1 + (q - 1) = h 75 1 + q by omega] at this
        rw [this]
        congr 1
        omega
    · rw [w5 c' a b, am_up_ne b, am_up_ne a]
set_option maxHeartbeats 400000 in
set_option maxRecDepth 100000 in
theorem it_wrM {n i : Int} {v : Int64} {h : am_H} {Q : am_P} (hi : 0 ≤ i ∧ i ≤ 7) (hl : 0 ≤ h 86 2 ∧ h 86 2 < 60) (H : am_Ex 101 23 [some (.inr (.inr (some 86))), some (.inl n), some (.inr (.inl v)), none, some (.inl (i + -1))] [] (am_up (am_up h 50 (h 86 2) (rg_byt v i)) 86 2 (h 86 2 + 1)) Q) : am_Ex 101 23 [some (.inr (.inr (some 86))), some (.inl n), some (.inr (.inl v)), none, some (.inl i)] [] h Q := by
  rw [bl_101_23]
  unfold rg_byt at H
  simp only [eq_self, and_self, am_up_at, Int.cast_ofNat_Int, Int.reduceNatCast, true_or, or_true, or_false, false_or, Classical.not_not, false_and, and_false, am_bk, am_step, am_ldI, am_ldL, am_ldA, am_nth, am_sto, am_stw_0, am_stw_i, am_stw_n, am_stw_a, am_stw_l, am_br, am_cmp, am_tk, am_cat, am_sw, am_copy, am_R, am_nc0, am_nc1, am_f0, am_f1, am_f2, am_f3, Int.reduceNeg, Int.reduceEq, Int.reduceLE, Int.reduceLT, Nat.reduceLeDiff, Nat.reduceAdd, Nat.reduceEqDiff, true_and, and_true, ↓reduceIte, if_false, if_true, forall_const, not_true_eq_false, not_false_eq_true, false_implies, true_implies, implies_true, Int.reduceAdd, Int.reduceMul, Int.reduceSub, ne_eq, ca_101_86, bl_101_25, bl_101_37, gf_86_0, pf_86_0, gf_86_1, ar_50, al_50, gf_86_2, pf_86_2, gf_86_3, pf_86_3, gf_86_4, pf_86_4, gf_86_5, pf_86_5, gf_86_6, ar_51, al_51, gf_86_7, ar_52, al_52, gf_86_8, ar_53, al_53, gf_86_9, ar_54, al_54, gf_86_10, ar_55, al_55, gf_86_11, ar_56, al_56, gf_86_12, ar_57, al_57, gf_86_13, pf_86_13, gf_86_14, pf_86_14, gf_86_15, ar_58, al_58, gf_86_16, ar_59, al_59, gf_86_17, ar_60, al_60, gf_86_18, ar_61, al_61, gf_86_19, ar_62, al_62, gf_86_20, pf_86_20, gf_86_21, pf_86_21, gf_86_22, ar_63, al_63, gf_86_23, ar_64, al_64, gf_86_24, ar_65, al_65, gf_86_25, ar_66, al_66, gf_86_26, ar_67, al_67, gf_86_27, ar_68, al_68, gf_86_28, ar_69, al_69, gf_86_29, ar_70, al_70, gf_86_30, ar_71, al_71, gf_86_31, ar_72, al_72, gf_86_32, ar_73, al_73, gf_86_33, ar_74, al_74, gf_86_34, pf_86_34]
  (repeat' (first | with_reducible apply And.intro | with_reducible intro _)) <;> first | omega | exact H
set_option maxHeartbeats 400000 in
set_option maxRecDepth 100000 in
theorem lp_wrM {n : Int} {v : Int64} {Q : am_P} : ∀ (m : Nat) (h : am_H), (m : Int) ≤ 8 → 0 ≤ h 86 2 → h 86 2 + m ≤ 60 → (∀ h1, rg_wr h h1 50 86 2 v m → Q (some (.inl (h 86 2 + m))) h1) → am_Ex 101 23 [some (.inr (.inr (some 86))), some (.inl n), some (.inr (.inl v)), none, some (.inl ((m : Int) - 1))] [] h Q := by
  intro m
  induction m with
  | zero =>
    intro h h1 h2 h3 H
    rw [bl_101_23]
    simp only [eq_self, and_self, am_up_at, Int.cast_ofNat_Int, Int.reduceNatCast, true_or, or_true, or_false, false_or, Classical.not_not, false_and, and_false, am_bk, am_step, am_ldI, am_ldL, am_ldA, am_nth, am_sto, am_stw_0, am_stw_i, am_stw_n, am_stw_a, am_stw_l, am_br, am_cmp, am_tk, am_cat, am_sw, am_copy, am_R, am_nc0, am_nc1, am_f0, am_f1, am_f2, am_f3, Int.reduceNeg, Int.reduceEq, Int.reduceLE, Int.reduceLT, Nat.reduceLeDiff, Nat.reduceAdd, Nat.reduceEqDiff, true_and, and_true, ↓reduceIte, if_false, if_true, forall_const, not_true_eq_false, not_false_eq_true, false_implies, true_implies, implies_true, Int.reduceAdd, Int.reduceMul, Int.reduceSub, ne_eq, ca_101_86, bl_101_46, gf_86_0, pf_86_0, gf_86_1, ar_50, al_50, gf_86_2, pf_86_2, gf_86_3, pf_86_3, gf_86_4, pf_86_4, gf_86_5, pf_86_5, gf_86_6, ar_51, al_51, gf_86_7, ar_52, al_52, gf_86_8, ar_53, al_53, gf_86_9, ar_54, al_54, gf_86_10, ar_55, al_55, gf_86_11, ar_56, al_56, gf_86_12, ar_57, al_57, gf_86_13, pf_86_13, gf_86_14, pf_86_14, gf_86_15, ar_58, al_58, gf_86_16, ar_59, al_59, gf_86_17, ar_60, al_60, gf_86_18, ar_61, al_61, gf_86_19, ar_62, al_62, gf_86_20, pf_86_20, gf_86_21, pf_86_21, gf_86_22, ar_63, al_63, gf_86_23, ar_64, al_64, gf_86_24, ar_65, al_65, gf_86_25, ar_66, al_66, gf_86_26, ar_67, al_67, gf_86_27, ar_68, al_68, gf_86_28, ar_69, al_69, gf_86_29, ar_70, al_70, gf_86_30, ar_71, al_71, gf_86_31, ar_72, al_72, gf_86_32, ar_73, al_73, gf_86_33, ar_74, al_74, gf_86_34, pf_86_34]
    have H := H h ⟨by omega, fun _ _ => rfl, fun _ _ => rfl, fun q a b => by omega, fun _ _ _ => rfl⟩
    (repeat' (first | with_reducible apply And.intro | with_reducible intro _)) <;> first | omega | exact am_leaf H (by omega)
  | succ m ih =>
    intro h h1 h2 h3 H
    refine it_wrM (by omega) (by omega) ?_
    rw [show ((m + 1 : Nat) : Int) - 1 + -1 = (m : Int) - 1 by omega]
    refine ih _ (by omega) (by simp only [eq_self, and_self, am_up_at, am_up_ne, ne_eq, Nat.reduceEqDiff, Int.reduceEq, Int.reduceNeg, not_false_eq_true, false_and, and_false, true_and, and_true, ↓reduceIte, if_false, if_true, Int.reduceAdd, Int.reduceMul, Nat.reduceAdd]; omega) (by simp only [eq_self, and_self, am_up_at, am_up_ne, ne_eq, Nat.reduceEqDiff, Int.reduceEq, Int.reduceNeg, not_false_eq_true, false_and, and_false, true_and, and_true, ↓reduceIte, if_false, if_true, Int.reduceAdd, Int.reduceMul, Nat.reduceAdd]; omega) (fun h1 W => ?_)
    obtain ⟨w1, w2, w3, w4, w5⟩ := W
    simp only [eq_self, and_self, am_up_at, am_up_ne, ne_eq, Nat.reduceEqDiff, Int.reduceEq, Int.reduceNeg, not_false_eq_true, false_and, and_false, true_and, and_true, ↓reduceIte, if_false, if_true, Int.reduceAdd, Int.reduceMul, Nat.reduceAdd] at w1 w3 w4 ⊢
    refine am_leaf (H h1 ⟨by omega, fun i hi => ?_, fun j hj => ?_, fun q a b => ?_, fun c' a b => ?_⟩) (by omega)
    · rw [w2 i hi]; simp only [eq_self, and_self, am_up_at, am_up_ne, ne_eq, Nat.reduceEqDiff, Int.reduceEq, Int.reduceNeg, not_false_eq_true, false_and, and_false, true_and, and_true, ↓reduceIte, if_false, if_true, Int.reduceAdd, Int.reduceMul, Nat.reduceAdd, hi]
    · rw [w3 j (by omega)]; exact if_neg (by omega)
    · by_cases hq : q = 0
      · subst hq
        rw [w3 _ (by omega)]
        simp only [Int.add_zero, eq_self, and_self, am_up_at, am_up_ne, ne_eq, Nat.reduceEqDiff, Int.reduceEq, Int.reduceNeg, not_false_eq_true, false_and, and_false, true_and, and_true, ↓reduceIte, if_false, if_true, Int.reduceAdd, Int.reduceMul, Nat.reduceAdd]
        rw [show ((m + 1 : Nat) : Int) - 1 - 0 = ((m + 1 : Nat) : Int) - 1 by omega]
      · have := w4 (q - 1) (by omega) (by omega)
        rw [show h 86 2 + 1 + (q - 1) = h 86 2 + q by omega] at this
        rw [this]
        congr 1
        omega
    · rw [w5 c' a b, am_up_ne b, am_up_ne a]
