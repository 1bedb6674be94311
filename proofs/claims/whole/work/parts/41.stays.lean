/-! stays -/
def jn_ok (h : am_H) (S : sg_S) (a b j : Int) : Prop := (j = -1 ∧ sg_wo S a b) ∨ (j = h 36 (8 * a + b) ∧ ¬ sg_wo S a b)
theorem sp_isOpenJ {S : sg_S} {a b t j : Int} {h : am_H} {Q : am_P} (hS : sg_ok S) (hF : tb_fit S) (hT : tb_ok h S) (hP : pl_ok h S) (hR : pr_ok h S) (ha : 0 ≤ a ∧ a < sg_G S) (hb : 0 ≤ b ∧ b < sg_G S) (ht : 0 ≤ t ∧ t ≤ 100000) (hj : jn_ok h S a b j)
    (H1 : sg_opn S a b t → Q (some (.inl 1)) h) (H0 : ¬ sg_opn S a b t → Q (some (.inl 0)) h) : am_Call 34 [.inr (.inr (some 83)), .inl j, .inl t] h Q := by
  rcases hj with ⟨rfl, hj⟩ | ⟨rfl, hj⟩
  · exact sp_isOpenN (H0 (fun q => q.2.2.1 hj))
  · exact sp_isOpenX hS hF hT hP hR ha hb ht hj H1 H0
theorem jn_ok_r {h : am_H} {S : sg_S} {a b j : Int} (hR : pr_ok h S) (ha : 0 ≤ a ∧ a < sg_G S) (hb : 0 ≤ b ∧ b < sg_G S) (hj : jn_ok h S a b j) : -1 ≤ j ∧ j < 16 := by
  have R := (hR.2 a b ha.1 ha.2 hb.1 hb.2).1
  have R0 := hR.1
  rcases hj with ⟨rfl, _⟩ | ⟨rfl, _⟩ <;> omega
set_option maxHeartbeats 400000 in
set_option maxRecDepth 100000 in
theorem lp_staysX {S : sg_S} {x y t j e : Int} {h : am_H} {Q : am_P} (hS : sg_ok S) (hF : tb_fit S) (hT : tb_ok h S) (hP : pl_ok h S) (hR : pr_ok h S) (ha : 0 ≤ x ∧ x < sg_G S) (hb : 0 ≤ y ∧ y < sg_G S) (ht : 0 ≤ t ∧ t < 300) (hj : jn_ok h S x y j) (he : e ≤ 600) :
    ∀ (n : Nat) (k : Int), 0 ≤ k → k + n = e → (∀ k', k ≤ k' → k' < e → ¬ sg_opn S x y (t + k') → (∀ q, k ≤ q → q < k' → sg_opn S x y (t + q)) → Q (some (.inl k')) h) → ((∀ q, k ≤ q → q < e → sg_opn S x y (t + q)) → Q (some (.inl 999)) h) →
      am_Ex 69 28 [some (.inr (.inr (some 75))), some (.inl x), some (.inl y), some (.inl t), some (.inl j), some (.inl e), some (.inl k)] [] h Q := by
  intro n
  induction n with
  | zero =>
    intro k h0 h1 F N
    rw [bl_69_28]
    simp only [eq_self, and_self, am_up_at, Int.cast_ofNat_Int, Int.reduceNatCast, true_or, or_true, or_false, false_or, Classical.not_not, false_and, and_false, am_bk, am_step, am_ldI, am_ldL, am_ldA, am_nth, am_sto, am_stw_0, am_stw_i, am_stw_n, am_stw_a, am_stw_l, am_br, am_cmp, am_tk, am_cat, am_sw, am_copy, am_R, am_nc0, am_nc1, am_f0, am_f1, am_f2, am_f3, Int.reduceNeg, Int.reduceEq, Int.reduceLE, Int.reduceLT, Nat.reduceLeDiff, Nat.reduceAdd, Nat.reduceEqDiff, true_and, and_true, ↓reduceIte, if_false, if_true, forall_const, not_true_eq_false, not_false_eq_true, false_implies, true_implies, implies_true, Int.reduceAdd, Int.reduceMul, Int.reduceSub, ne_eq, ca_69_75, bl_69_43, gf_75_0, ar_0, al_0, gf_75_1, pf_75_1, gf_75_2, gf_75_3, gf_75_4, gf_75_5, gf_75_6, gf_75_7, gf_75_8, gf_75_9, gf_75_10]
    have N := N (fun q q1 q2 => by omega)
    (repeat' (first | with_reducible apply And.intro | with_reducible intro _)) <;> first | omega | exact N
  | succ n ih =>
    intro k h0 h1 F N
    rw [bl_69_28]
    simp only [eq_self, and_self, am_up_at, Int.cast_ofNat_Int, Int.reduceNatCast, true_or, or_true, or_false, false_or, Classical.not_not, false_and, and_false, am_bk, am_step, am_ldI, am_ldL, am_ldA, am_nth, am_sto, am_stw_0, am_stw_i, am_stw_n, am_stw_a, am_stw_l, am_br, am_cmp, am_tk, am_cat, am_sw, am_copy, am_R, am_nc0, am_nc1, am_f0, am_f1, am_f2, am_f3, Int.reduceNeg, Int.reduceEq, Int.reduceLE, Int.reduceLT, Nat.reduceLeDiff, Nat.reduceAdd, Nat.reduceEqDiff, true_and, and_true, ↓reduceIte, if_false, if_true, forall_const, not_true_eq_false, not_false_eq_true, false_implies, true_implies, implies_true, Int.reduceAdd, Int.reduceMul, Int.reduceSub, ne_eq, ca_69_75, bl_69_31, gf_75_0, ar_0, al_0, gf_75_1, pf_75_1, gf_75_2, gf_75_3, gf_75_4, gf_75_5, gf_75_6, gf_75_7, gf_75_8, gf_75_9, gf_75_10]
    refine ⟨by omega, fun q => by omega, fun _ => ?_⟩
    refine sp_isOpenJ hS hF hT hP hR ha hb (by omega) hj (fun q => ?_) (fun q => ?_)
    · simp only [eq_self, and_self, am_up_at, Int.cast_ofNat_Int, Int.reduceNatCast, true_or, or_true, or_false, false_or, Classical.not_not, false_and, and_false, am_bk, am_step, am_ldI, am_ldL, am_ldA, am_nth, am_sto, am_stw_0, am_stw_i, am_stw_n, am_stw_a, am_stw_l, am_br, am_cmp, am_tk, am_cat, am_sw, am_copy, am_R, am_nc0, am_nc1, am_f0, am_f1, am_f2, am_f3, Int.reduceNeg, Int.reduceEq, Int.reduceLE, Int.reduceLT, Nat.reduceLeDiff, Nat.reduceAdd, Nat.reduceEqDiff, true_and, and_true, ↓reduceIte, if_false, if_true, forall_const, not_true_eq_false, not_false_eq_true, false_implies, true_implies, implies_true, Int.reduceAdd, Int.reduceMul, Int.reduceSub, ne_eq, ca_69_75, bl_69_38, bl_69_41, gf_75_0, ar_0, al_0, gf_75_1, pf_75_1, gf_75_2, gf_75_3, gf_75_4, gf_75_5, gf_75_6, gf_75_7, gf_75_8, gf_75_9, gf_75_10]
      refine ih (k + 1) (by omega) (by omega) (fun s' a1 a2 a3 a4 => F s' (by omega) a2 a3 (fun q1 b1 b2 => ?_)) (fun a1 => N (fun q1 b1 b2 => ?_))
      · by_cases e1 : q1 = k
        · rw [e1]; exact q
        · exact a4 q1 (by omega) b2
      · by_cases e1 : q1 = k
        · rw [e1]; exact q
        · exact a1 q1 (by omega) b2
    · simp only [eq_self, and_self, am_up_at, Int.cast_ofNat_Int, Int.reduceNatCast, true_or, or_true, or_false, false_or, Classical.not_not, false_and, and_false, am_bk, am_step, am_ldI, am_ldL, am_ldA, am_nth, am_sto, am_stw_0, am_stw_i, am_stw_n, am_stw_a, am_stw_l, am_br, am_cmp, am_tk, am_cat, am_sw, am_copy, am_R, am_nc0, am_nc1, am_f0, am_f1, am_f2, am_f3, Int.reduceNeg, Int.reduceEq, Int.reduceLE, Int.reduceLT, Nat.reduceLeDiff, Nat.reduceAdd, Nat.reduceEqDiff, true_and, and_true, ↓reduceIte, if_false, if_true, forall_const, not_true_eq_false, not_false_eq_true, false_implies, true_implies, implies_true, Int.reduceAdd, Int.reduceMul, Int.reduceSub, ne_eq, ca_69_75, bl_69_38, bl_69_41, gf_75_0, ar_0, al_0, gf_75_1, pf_75_1, gf_75_2, gf_75_3, gf_75_4, gf_75_5, gf_75_6, gf_75_7, gf_75_8, gf_75_9, gf_75_10]
      exact F k (by omega) (by omega) q (fun q1 a1 a2 => by omega)
set_option maxHeartbeats 400000 in
set_option maxRecDepth 100000 in
theorem lp_staysM {a b t e : Int} {h : am_H} {Q : am_P} (hS : sg_ok (sg_of h)) (ha : 0 ≤ a ∧ a < h 86 5) (hb : 0 ≤ b ∧ b < h 86 5) (he : e ≤ 100000) (ht : 0 ≤ t ∧ t ≤ 300) :
    ∀ (n : Nat) (s : Int), 0 ≤ s → s + n = e → (∀ s', s ≤ s' → s' < e → ¬ sg_opn (sg_of h) a b s' → (∀ q, s ≤ q → q < s' → sg_opn (sg_of h) a b q) → Q (some (.inl (s' - t))) h) → ((∀ q, s ≤ q → q < e → sg_opn (sg_of h) a b q) → Q (some (.inl 999)) h) →
      am_Ex 127 25 [some (.inr (.inr (some 86))), some (.inl a), some (.inl b), some (.inl t), some (.inl e), some (.inl s)] [] h Q := by
  intro n
  induction n with
  | zero =>
    intro s h0 h1 F N
    rw [bl_127_25]
    simp only [eq_self, and_self, am_up_at, Int.cast_ofNat_Int, Int.reduceNatCast, true_or, or_true, or_false, false_or, Classical.not_not, false_and, and_false, am_bk, am_step, am_ldI, am_ldL, am_ldA, am_nth, am_sto, am_stw_0, am_stw_i, am_stw_n, am_stw_a, am_stw_l, am_br, am_cmp, am_tk, am_cat, am_sw, am_copy, am_R, am_nc0, am_nc1, am_f0, am_f1, am_f2, am_f3, Int.reduceNeg, Int.reduceEq, Int.reduceLE, Int.reduceLT, Nat.reduceLeDiff, Nat.reduceAdd, Nat.reduceEqDiff, true_and, and_true, ↓reduceIte, if_false, if_true, forall_const, not_true_eq_false, not_false_eq_true, false_implies, true_implies, implies_true, Int.reduceAdd, Int.reduceMul, Int.reduceSub, ne_eq, ca_127_86, bl_127_36, bl_127_41, bl_127_44, gf_86_0, pf_86_0, gf_86_1, ar_50, al_50, gf_86_2, pf_86_2, gf_86_3, pf_86_3, gf_86_4, pf_86_4, gf_86_5, pf_86_5, gf_86_6, ar_51, al_51, gf_86_7, ar_52, al_52, gf_86_8, ar_53, al_53, gf_86_9, ar_54, al_54, gf_86_10, ar_55, al_55, gf_86_11, ar_56, al_56, gf_86_12, ar_57, al_57, gf_86_13, pf_86_13, gf_86_14, pf_86_14, gf_86_15, ar_58, al_58, gf_86_16, ar_59, al_59, gf_86_17, ar_60, al_60, gf_86_18, ar_61, al_61, gf_86_19, ar_62, al_62, gf_86_20, pf_86_20, gf_86_21, pf_86_21, gf_86_22, ar_63, al_63, gf_86_23, ar_64, al_64, gf_86_24, ar_65, al_65, gf_86_25, ar_66, al_66, gf_86_26, ar_67, al_67, gf_86_27, ar_68, al_68, gf_86_28, ar_69, al_69, gf_86_29, ar_70, al_70, gf_86_30, ar_71, al_71, gf_86_31, ar_72, al_72, gf_86_32, ar_73, al_73, gf_86_33, ar_74, al_74, gf_86_34, pf_86_34]
    have N := N (fun q q1 q2 => by omega)
    (repeat' (first | with_reducible apply And.intro | with_reducible intro _)) <;> first | omega | exact N
  | succ n ih =>
    intro s h0 h1 F N
    rw [bl_127_25]
    simp only [eq_self, and_self, am_up_at, Int.cast_ofNat_Int, Int.reduceNatCast, true_or, or_true, or_false, false_or, Classical.not_not, false_and, and_false, am_bk, am_step, am_ldI, am_ldL, am_ldA, am_nth, am_sto, am_stw_0, am_stw_i, am_stw_n, am_stw_a, am_stw_l, am_br, am_cmp, am_tk, am_cat, am_sw, am_copy, am_R, am_nc0, am_nc1, am_f0, am_f1, am_f2, am_f3, Int.reduceNeg, Int.reduceEq, Int.reduceLE, Int.reduceLT, Nat.reduceLeDiff, Nat.reduceAdd, Nat.reduceEqDiff, true_and, and_true, ↓reduceIte, if_false, if_true, forall_const, not_true_eq_false, not_false_eq_true, false_implies, true_implies, implies_true, Int.reduceAdd, Int.reduceMul, Int.reduceSub, ne_eq, ca_127_86, bl_127_28, gf_86_0, pf_86_0, gf_86_1, ar_50, al_50, gf_86_2, pf_86_2, gf_86_3, pf_86_3, gf_86_4, pf_86_4, gf_86_5, pf_86_5, gf_86_6, ar_51, al_51, gf_86_7, ar_52, al_52, gf_86_8, ar_53, al_53, gf_86_9, ar_54, al_54, gf_86_10, ar_55, al_55, gf_86_11, ar_56, al_56, gf_86_12, ar_57, al_57, gf_86_13, pf_86_13, gf_86_14, pf_86_14, gf_86_15, ar_58, al_58, gf_86_16, ar_59, al_59, gf_86_17, ar_60, al_60, gf_86_18, ar_61, al_61, gf_86_19, ar_62, al_62, gf_86_20, pf_86_20, gf_86_21, pf_86_21, gf_86_22, ar_63, al_63, gf_86_23, ar_64, al_64, gf_86_24, ar_65, al_65, gf_86_25, ar_66, al_66, gf_86_26, ar_67, al_67, gf_86_27, ar_68, al_68, gf_86_28, ar_69, al_69, gf_86_29, ar_70, al_70, gf_86_30, ar_71, al_71, gf_86_31, ar_72, al_72, gf_86_32, ar_73, al_73, gf_86_33, ar_74, al_74, gf_86_34, pf_86_34]
    refine ⟨by omega, fun q => by omega, fun _ => ?_⟩
    refine sp_isOpen hS ha hb (by omega) (fun q => ?_) (fun q => ?_)
    · simp only [eq_self, and_self, am_up_at, Int.cast_ofNat_Int, Int.reduceNatCast, true_or, or_true, or_false, false_or, Classical.not_not, false_and, and_false, am_bk, am_step, am_ldI, am_ldL, am_ldA, am_nth, am_sto, am_stw_0, am_stw_i, am_stw_n, am_stw_a, am_stw_l, am_br, am_cmp, am_tk, am_cat, am_sw, am_copy, am_R, am_nc0, am_nc1, am_f0, am_f1, am_f2, am_f3, Int.reduceNeg, Int.reduceEq, Int.reduceLE, Int.reduceLT, Nat.reduceLeDiff, Nat.reduceAdd, Nat.reduceEqDiff, true_and, and_true, ↓reduceIte, if_false, if_true, forall_const, not_true_eq_false, not_false_eq_true, false_implies, true_implies, implies_true, Int.reduceAdd, Int.reduceMul, Int.reduceSub, ne_eq, ca_127_86, bl_127_33, gf_86_0, pf_86_0, gf_86_1, ar_50, al_50, gf_86_2, pf_86_2, gf_86_3, pf_86_3, gf_86_4, pf_86_4, gf_86_5, pf_86_5, gf_86_6, ar_51, al_51, gf_86_7, ar_52, al_52, gf_86_8, ar_53, al_53, gf_86_9, ar_54, al_54, gf_86_10, ar_55, al_55, gf_86_11, ar_56, al_56, gf_86_12, ar_57, al_57, gf_86_13, pf_86_13, gf_86_14, pf_86_14, gf_86_15, ar_58, al_58, gf_86_16, ar_59, al_59, gf_86_17, ar_60, al_60, gf_86_18, ar_61, al_61, gf_86_19, ar_62, al_62, gf_86_20, pf_86_20, gf_86_21, pf_86_21, gf_86_22, ar_63, al_63, gf_86_23, ar_64, al_64, gf_86_24, ar_65, al_65, gf_86_25, ar_66, al_66, gf_86_26, ar_67, al_67, gf_86_27, ar_68, al_68, gf_86_28, ar_69, al_69, gf_86_29, ar_70, al_70, gf_86_30, ar_71, al_71, gf_86_31, ar_72, al_72, gf_86_32, ar_73, al_73, gf_86_33, ar_74, al_74, gf_86_34, pf_86_34]
      refine ih (s + 1) (by omega) (by omega) (fun s' a1 a2 a3 a4 => F s' (by omega) a2 a3 (fun q1 b1 b2 => ?_)) (fun a1 => N (fun q1 b1 b2 => ?_))
      · by_cases e1 : q1 = s
        · rw [e1]; exact q
        · exact a4 q1 (by omega) b2
      · by_cases e1 : q1 = s
        · rw [e1]; exact q
        · exact a1 q1 (by omega) b2
    · simp only [eq_self, and_self, am_up_at, Int.cast_ofNat_Int, Int.reduceNatCast, true_or, or_true, or_false, false_or, Classical.not_not, false_and, and_false, am_bk, am_step, am_ldI, am_ldL, am_ldA, am_nth, am_sto, am_stw_0, am_stw_i, am_stw_n, am_stw_a, am_stw_l, am_br, am_cmp, am_tk, am_cat, am_sw, am_copy, am_R, am_nc0, am_nc1, am_f0, am_f1, am_f2, am_f3, Int.reduceNeg, Int.reduceEq, Int.reduceLE, Int.reduceLT, Nat.reduceLeDiff, Nat.reduceAdd, Nat.reduceEqDiff, true_and, and_true, ↓reduceIte, if_false, if_true, forall_const, not_true_eq_false, not_false_eq_true, false_implies, true_implies, implies_true, Int.reduceAdd, Int.reduceMul, Int.reduceSub, ne_eq, ca_127_86, bl_127_33, bl_127_36, bl_127_41, bl_127_44, gf_86_0, pf_86_0, gf_86_1, ar_50, al_50, gf_86_2, pf_86_2, gf_86_3, pf_86_3, gf_86_4, pf_86_4, gf_86_5, pf_86_5, gf_86_6, ar_51, al_51, gf_86_7, ar_52, al_52, gf_86_8, ar_53, al_53, gf_86_9, ar_54, al_54, gf_86_10, ar_55, al_55, gf_86_11, ar_56, al_56, gf_86_12, ar_57, al_57, gf_86_13, pf_86_13, gf_86_14, pf_86_14, gf_86_15, ar_58, al_58, gf_86_16, ar_59, al_59, gf_86_17, ar_60, al_60, gf_86_18, ar_61, al_61, gf_86_19, ar_62, al_62, gf_86_20, pf_86_20, gf_86_21, pf_86_21, gf_86_22, ar_63, al_63, gf_86_23, ar_64, al_64, gf_86_24, ar_65, al_65, gf_86_25, ar_66, al_66, gf_86_26, ar_67, al_67, gf_86_27, ar_68, al_68, gf_86_28, ar_69, al_69, gf_86_29, ar_70, al_70, gf_86_30, ar_71, al_71, gf_86_31, ar_72, al_72, gf_86_32, ar_73, al_73, gf_86_33, ar_74, al_74, gf_86_34, pf_86_34]
      have F := F s (by omega) (by omega) q (fun q1 a1 a2 => by omega)
      (repeat' (first | with_reducible apply And.intro | with_reducible intro _)) <;> first | omega | exact F
set_option maxHeartbeats 400000 in
set_option maxRecDepth 100000 in
theorem pr_stays {h : am_H} {k x y z : Int} (hx : am_R x) (hy : am_R y) (hz : am_R z) (hi : iv h k) : rg_pair 69 127 [.inl x, .inl y, .inl z] h k := by
  unfold rg_pair
  have hthr := iv_thr hi
  have hS := hi.1
  have hF := tb_fit_of hi
  have hP := pl_ok_of hi
  have hR := pr_ok_of hi
  have e0 := hS.1
  have e1 := hS.2.1
  have c2 := hi.2.1.2.1
  simp only [sg_of, sg_U, sg_G, sg_ri, sg_rm, sg_pl, sg_kd, sg_pc, sg_fr, sg_la] at e0 e1
  refine gx_stays hx hy hz (by omega) (fun V => ?_) (fun V => ?_)
  · exact gm_stays hx hy hz (by omega) (fun _ => rg_leaf rfl (by omega) hthr) (fun V' => absurd V' (by omega))
  · simp only [eq_self, and_self, am_up_at, Int.cast_ofNat_Int, Int.reduceNatCast, true_or, or_true, or_false, false_or, Classical.not_not, false_and, and_false, am_bk, am_step, am_ldI, am_ldL, am_ldA, am_nth, am_sto, am_stw_0, am_stw_i, am_stw_n, am_stw_a, am_stw_l, am_br, am_cmp, am_tk, am_cat, am_sw, am_copy, am_R, am_nc0, am_nc1, am_f0, am_f1, am_f2, am_f3, Int.reduceNeg, Int.reduceEq, Int.reduceLE, Int.reduceLT, Nat.reduceLeDiff, Nat.reduceAdd, Nat.reduceEqDiff, true_and, and_true, ↓reduceIte, if_false, if_true, forall_const, not_true_eq_false, not_false_eq_true, false_implies, true_implies, implies_true, Int.reduceAdd, Int.reduceMul, Int.reduceSub, ne_eq, ca_69_75, bl_69_10, gf_75_0, ar_0, al_0, gf_75_1, pf_75_1, gf_75_2, gf_75_3, gf_75_4, gf_75_5, gf_75_6, gf_75_7, gf_75_8, gf_75_9, gf_75_10]
    refine sp_lay_now hS hF hP.1 (fun r q1 q2 => ⟨(hi.2.2.1 r q1 q2).1, (hi.2.2.1 r q1 q2).2.1, (hi.2.2.1 r q1 q2).2.2.1⟩) (fun h1 T l10 l83 lc => ?_)
    have hP1 := pl_ok_mv hP (fun c hc => lc c (by omega) (by omega))
    have hR1 := pr_ok_mv hR (fun c hc => lc c (by omega) (by omega)) (l83 9 (by omega) (by omega) (by omega))
    have hg : 0 ≤ x ∧ x < sg_G (sg_of h) := by simp only [sg_of, sg_U, sg_G, sg_ri, sg_rm, sg_pl, sg_kd, sg_pc, sg_fr, sg_la]; omega
    have hg2 : 0 ≤ y ∧ y < sg_G (sg_of h) := by simp only [sg_of, sg_U, sg_G, sg_ri, sg_rm, sg_pl, sg_kd, sg_pc, sg_fr, sg_la]; omega
    have f86 := lc 86 (by omega) (by omega)
    have eS : sg_of (am_up h1 86 0 0) = sg_of h := sg_of_mv (fun c hc => by rw [am_up_ne (by omega), lc c (by omega) (by omega)]) (by simp only [eq_self, and_self, am_up_at, am_up_ne, ne_eq, Nat.reduceEqDiff, Int.reduceEq, Int.reduceNeg, not_false_eq_true, false_and, and_false, true_and, and_true, ↓reduceIte, if_false, if_true, Int.reduceAdd, Int.reduceMul, Nat.reduceAdd, f86]) (by simp only [eq_self, and_self, am_up_at, am_up_ne, ne_eq, Nat.reduceEqDiff, Int.reduceEq, Int.reduceNeg, not_false_eq_true, false_and, and_false, true_and, and_true, ↓reduceIte, if_false, if_true, Int.reduceAdd, Int.reduceMul, Nat.reduceAdd, f86])
    have fin : iv (am_up h1 86 0 0) (k + 1) := by
      refine iv_scr hi (fun c hc => ?_) ?_ (fun i hi => ?_) ?_
      · unfold iv_rel at hc
        rw [am_up_ne (by omega), lc c (by omega) (by omega)]
      · simp only [eq_self, and_self, am_up_at, am_up_ne, ne_eq, Nat.reduceEqDiff, Int.reduceEq, Int.reduceNeg, not_false_eq_true, false_and, and_false, true_and, and_true, ↓reduceIte, if_false, if_true, Int.reduceAdd, Int.reduceMul, Nat.reduceAdd]
        exact l83 9 (by omega) (by omega) (by omega)
      · rw [show am_up h1 86 0 0 86 i = h1 86 i from if_neg (by omega), f86]
      · refine iv_w_lay hi.2.2.2.2.2.2.2.2 ?_ ?_
        · rw [am_up_ne (by omega), lc 42 (by omega) (by omega)]
        · simp only [eq_self, and_self, am_up_at, am_up_ne, ne_eq, Nat.reduceEqDiff, Int.reduceEq, Int.reduceNeg, not_false_eq_true, false_and, and_false, true_and, and_true, ↓reduceIte, if_false, if_true, Int.reduceAdd, Int.reduceMul, Nat.reduceAdd]; exact l10
    have st := (tb_st_r hS hF).1
    have cs := sg_calm_st hS (t := z) (by omega)
    have cr := sg_calm_r hS (t := z) (by omega)
    have hU : sg_U (sg_of h) = h 86 4 := rfl
    have mod : ∀ r : Int, ((∀ s', z ≤ s' → s' < sg_calm (sg_of h) z + h 86 4 → ¬ sg_opn (sg_of h) x y s' → (∀ q, z ≤ q → q < s' → sg_opn (sg_of h) x y q) → s' - z = r) ∧ ((∀ q, z ≤ q → q < sg_calm (sg_of h) z + h 86 4 → sg_opn (sg_of h) x y q) → 999 = r)) → 0 ≤ r ∧ r ≤ 2000 → am_Call 127 [.inr (.inr (some 86)), .inl x, .inl y, .inl z] h1 (rg_post k (some (.inl r))) := by
      intro r hr rr
      refine gm_stays hx hy hz (by rw [f86]; omega) (fun V' => absurd V (by rw [f86] at V'; omega)) (fun V' => ?_)
      simp only [eq_self, and_self, am_up_at, Int.cast_ofNat_Int, Int.reduceNatCast, true_or, or_true, or_false, false_or, Classical.not_not, false_and, and_false, am_bk, am_step, am_ldI, am_ldL, am_ldA, am_nth, am_sto, am_stw_0, am_stw_i, am_stw_n, am_stw_a, am_stw_l, am_br, am_cmp, am_tk, am_cat, am_sw, am_copy, am_R, am_nc0, am_nc1, am_f0, am_f1, am_f2, am_f3, Int.reduceNeg, Int.reduceEq, Int.reduceLE, Int.reduceLT, Nat.reduceLeDiff, Nat.reduceAdd, Nat.reduceEqDiff, true_and, and_true, ↓reduceIte, if_false, if_true, forall_const, not_true_eq_false, not_false_eq_true, false_implies, true_implies, implies_true, Int.reduceAdd, Int.reduceMul, Int.reduceSub, ne_eq, ca_127_86, bl_127_16, gf_86_0, pf_86_0, gf_86_1, ar_50, al_50, gf_86_2, pf_86_2, gf_86_3, pf_86_3, gf_86_4, pf_86_4, gf_86_5, pf_86_5, gf_86_6, ar_51, al_51, gf_86_7, ar_52, al_52, gf_86_8, ar_53, al_53, gf_86_9, ar_54, al_54, gf_86_10, ar_55, al_55, gf_86_11, ar_56, al_56, gf_86_12, ar_57, al_57, gf_86_13, pf_86_13, gf_86_14, pf_86_14, gf_86_15, ar_58, al_58, gf_86_16, ar_59, al_59, gf_86_17, ar_60, al_60, gf_86_18, ar_61, al_61, gf_86_19, ar_62, al_62, gf_86_20, pf_86_20, gf_86_21, pf_86_21, gf_86_22, ar_63, al_63, gf_86_23, ar_64, al_64, gf_86_24, ar_65, al_65, gf_86_25, ar_66, al_66, gf_86_26, ar_67, al_67, gf_86_27, ar_68, al_68, gf_86_28, ar_69, al_69, gf_86_29, ar_70, al_70, gf_86_30, ar_71, al_71, gf_86_31, ar_72, al_72, gf_86_32, ar_73, al_73, gf_86_33, ar_74, al_74, gf_86_34, pf_86_34]
      refine sp_calm (S := sg_of h) hS (fun r _ _ => ?_) (by omega) ?_
      · rw [am_up_ne (by omega), am_up_ne (by omega), lc 56 (by omega) (by omega), lc 57 (by omega) (by omega)]
        exact ⟨rfl, rfl⟩
      simp only [eq_self, and_self, am_up_at, Int.cast_ofNat_Int, Int.reduceNatCast, true_or, or_true, or_false, false_or, Classical.not_not, false_and, and_false, am_bk, am_step, am_ldI, am_ldL, am_ldA, am_nth, am_sto, am_stw_0, am_stw_i, am_stw_n, am_stw_a, am_stw_l, am_br, am_cmp, am_tk, am_cat, am_sw, am_copy, am_R, am_nc0, am_nc1, am_f0, am_f1, am_f2, am_f3, Int.reduceNeg, Int.reduceEq, Int.reduceLE, Int.reduceLT, Nat.reduceLeDiff, Nat.reduceAdd, Nat.reduceEqDiff, true_and, and_true, ↓reduceIte, if_false, if_true, forall_const, not_true_eq_false, not_false_eq_true, false_implies, true_implies, implies_true, Int.reduceAdd, Int.reduceMul, Int.reduceSub, ne_eq, ca_127_86, bl_127_19, gf_86_0, pf_86_0, gf_86_1, ar_50, al_50, gf_86_2, pf_86_2, gf_86_3, pf_86_3, gf_86_4, pf_86_4, gf_86_5, pf_86_5, gf_86_6, ar_51, al_51, gf_86_7, ar_52, al_52, gf_86_8, ar_53, al_53, gf_86_9, ar_54, al_54, gf_86_10, ar_55, al_55, gf_86_11, ar_56, al_56, gf_86_12, ar_57, al_57, gf_86_13, pf_86_13, gf_86_14, pf_86_14, gf_86_15, ar_58, al_58, gf_86_16, ar_59, al_59, gf_86_17, ar_60, al_60, gf_86_18, ar_61, al_61, gf_86_19, ar_62, al_62, gf_86_20, pf_86_20, gf_86_21, pf_86_21, gf_86_22, ar_63, al_63, gf_86_23, ar_64, al_64, gf_86_24, ar_65, al_65, gf_86_25, ar_66, al_66, gf_86_26, ar_67, al_67, gf_86_27, ar_68, al_68, gf_86_28, ar_69, al_69, gf_86_29, ar_70, al_70, gf_86_30, ar_71, al_71, gf_86_31, ar_72, al_72, gf_86_32, ar_73, al_73, gf_86_33, ar_74, al_74, gf_86_34, pf_86_34, f86]
      refine lp_staysM (by rw [eS]; exact hS) (by simp only [eq_self, and_self, am_up_at, am_up_ne, ne_eq, Nat.reduceEqDiff, Int.reduceEq, Int.reduceNeg, not_false_eq_true, false_and, and_false, true_and, and_true, ↓reduceIte, if_false, if_true, Int.reduceAdd, Int.reduceMul, Nat.reduceAdd, f86]; omega) (by simp only [eq_self, and_self, am_up_at, am_up_ne, ne_eq, Nat.reduceEqDiff, Int.reduceEq, Int.reduceNeg, not_false_eq_true, false_and, and_false, true_and, and_true, ↓reduceIte, if_false, if_true, Int.reduceAdd, Int.reduceMul, Nat.reduceAdd, f86]; omega) (by omega) (by omega) (sg_calm (sg_of h) z + h 86 4 - z).toNat z (by omega) (by omega) (fun s' a1 a2 a3 a4 => ?_) (fun a1 => ?_)
      · rw [eS] at a3 a4
        exact rg_leaf (hr.1 s' a1 a2 a3 a4) (by omega) fin
      · rw [eS] at a1
        exact rg_leaf (hr.2 a1) (by omega) fin
    have out : ∀ j, jn_ok h1 (sg_of h) x y j → am_Ex 69 20 [some (.inr (.inr (some 75))), some (.inl x), some (.inl y), some (.inl z), none, none, none] [.inl j] h1 (fun o h1 => am_Call 127 [.inr (.inr (some 86)), .inl x, .inl y, .inl z] h1 (rg_post k o)) := by
      intro j hj
      simp only [eq_self, and_self, am_up_at, Int.cast_ofNat_Int, Int.reduceNatCast, true_or, or_true, or_false, false_or, Classical.not_not, false_and, and_false, am_bk, am_step, am_ldI, am_ldL, am_ldA, am_nth, am_sto, am_stw_0, am_stw_i, am_stw_n, am_stw_a, am_stw_l, am_br, am_cmp, am_tk, am_cat, am_sw, am_copy, am_R, am_nc0, am_nc1, am_f0, am_f1, am_f2, am_f3, Int.reduceNeg, Int.reduceEq, Int.reduceLE, Int.reduceLT, Nat.reduceLeDiff, Nat.reduceAdd, Nat.reduceEqDiff, true_and, and_true, ↓reduceIte, if_false, if_true, forall_const, not_true_eq_false, not_false_eq_true, false_implies, true_implies, implies_true, Int.reduceAdd, Int.reduceMul, Int.reduceSub, ne_eq, ca_69_75, bl_69_20, gf_75_0, ar_0, al_0, gf_75_1, pf_75_1, gf_75_2, gf_75_3, gf_75_4, gf_75_5, gf_75_6, gf_75_7, gf_75_8, gf_75_9, gf_75_10]
      refine sp_horizon hS hF T hP1 (by omega) ?_
      simp only [eq_self, and_self, am_up_at, Int.cast_ofNat_Int, Int.reduceNatCast, true_or, or_true, or_false, false_or, Classical.not_not, false_and, and_false, am_bk, am_step, am_ldI, am_ldL, am_ldA, am_nth, am_sto, am_stw_0, am_stw_i, am_stw_n, am_stw_a, am_stw_l, am_br, am_cmp, am_tk, am_cat, am_sw, am_copy, am_R, am_nc0, am_nc1, am_f0, am_f1, am_f2, am_f3, Int.reduceNeg, Int.reduceEq, Int.reduceLE, Int.reduceLT, Nat.reduceLeDiff, Nat.reduceAdd, Nat.reduceEqDiff, true_and, and_true, ↓reduceIte, if_false, if_true, forall_const, not_true_eq_false, not_false_eq_true, false_implies, true_implies, implies_true, Int.reduceAdd, Int.reduceMul, Int.reduceSub, ne_eq, ca_69_75, bl_69_25, gf_75_0, ar_0, al_0, gf_75_1, pf_75_1, gf_75_2, gf_75_3, gf_75_4, gf_75_5, gf_75_6, gf_75_7, gf_75_8, gf_75_9, gf_75_10]
      have hze : z + ((if tb_st (sg_of h) < z then 0 else tb_st (sg_of h) - z) + sg_U (sg_of h)) = (if z < tb_st (sg_of h) then tb_st (sg_of h) else z) + sg_U (sg_of h) := by
        (repeat' split) <;> omega
      have hzr : 0 ≤ (if tb_st (sg_of h) < z then 0 else tb_st (sg_of h) - z) + sg_U (sg_of h) ∧ (if tb_st (sg_of h) < z then 0 else tb_st (sg_of h) - z) + sg_U (sg_of h) ≤ 600 := by
        split <;> omega
      generalize (if tb_st (sg_of h) < z then 0 else tb_st (sg_of h) - z) + sg_U (sg_of h) = e at hze hzr ⊢
      refine lp_staysX hS hF T hP1 hR1 hg hg2 (by omega) hj hzr.2 e.toNat 0 (by omega) (by omega) (fun k' a1 a2 a3 a4 => ?_) (fun a1 => ?_)
      · refine mod k' ⟨fun s' b1 b2 b3 b4 => ?_, fun b1 => ?_⟩ (by omega)
        · rcases Int.lt_trichotomy s' (z + k') with q | q | q
          · exact absurd (by have := a4 (s' - z) (by omega) (by omega); rw [show z + (s' - z) = s' by omega] at this; exact this) b3
          · omega
          · exact absurd (b4 (z + k') (by omega) (by omega)) a3
        · exact absurd (b1 (z + k') (by omega) (by omega)) a3
      · have all := per_all (P := fun q => sg_opn (sg_of h) x y q) (st := tb_st (sg_of h)) (U := sg_U (sg_of h)) (t := z) (by omega) (fun q m q1 q2 => sg_opn_p hS hF hg hg2 q1 q2) (fun q q1 q2 => by have := a1 (q - z) (by omega) (by omega); rw [show z + (q - z) = q by omega] at this; exact this)
        exact mod 999 ⟨fun s' b1 b2 b3 b4 => absurd (all s' b1) b3, fun _ => rfl⟩ (by omega)
    simp only [eq_self, and_self, am_up_at, Int.cast_ofNat_Int, Int.reduceNatCast, true_or, or_true, or_false, false_or, Classical.not_not, false_and, and_false, am_bk, am_step, am_ldI, am_ldL, am_ldA, am_nth, am_sto, am_stw_0, am_stw_i, am_stw_n, am_stw_a, am_stw_l, am_br, am_cmp, am_tk, am_cat, am_sw, am_copy, am_R, am_nc0, am_nc1, am_f0, am_f1, am_f2, am_f3, Int.reduceNeg, Int.reduceEq, Int.reduceLE, Int.reduceLT, Nat.reduceLeDiff, Nat.reduceAdd, Nat.reduceEqDiff, true_and, and_true, ↓reduceIte, if_false, if_true, forall_const, not_true_eq_false, not_false_eq_true, false_implies, true_implies, implies_true, Int.reduceAdd, Int.reduceMul, Int.reduceSub, ne_eq, ca_69_75, bl_69_15, gf_75_0, ar_0, al_0, gf_75_1, pf_75_1, gf_75_2, gf_75_3, gf_75_4, gf_75_5, gf_75_6, gf_75_7, gf_75_8, gf_75_9, gf_75_10]
    refine sp_joinOf hS hP1 hg hg2 (fun q => ?_) (fun q => ?_)
    · exact out _ (Or.inl ⟨rfl, q⟩)
    · exact out _ (Or.inr ⟨rfl, q⟩)
