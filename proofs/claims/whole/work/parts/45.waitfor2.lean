set_option maxHeartbeats 400000 in
set_option maxRecDepth 100000 in
theorem it_wait {S : sg_S} {o n t f hor m i : Int} {h : am_H} {Q : am_P} (hS : sg_ok S) (hF : tb_fit S) (hT : tb_ok h S) (hP : pl_ok h S) (hR : pr_ok h S) (ho : 0 ≤ o ∧ o < sg_G S) (hn : 0 ≤ n ∧ n < sg_G S) (hon : sg_ri S o + 1 = sg_ri S n) (hp : h 36 (8 * o + n) ≠ -1) (hL : 0 ≤ h 83 10 ∧ h 83 10 ≤ 1000000) (hrg : wt_rg h) (hi : 0 ≤ i ∧ i < tb_st S + sg_U S) (hm : 0 ≤ m ∧ m < hor) (hh : hor ≤ 505)
    (H1 : ∀ y, h 42 (505 * h 36 (8 * o + n) + i) / 1024 = h 83 10 → am_Ex 37 66 [some (.inr (.inr (some 83))), some (.inl (h 36 (8 * o + n))), some (.inl t), some (.inl f), some (.inl hor), some (.inl (h 42 (505 * h 36 (8 * o + n) + i) % 1024)), some (.inl m), some (.inl i), some (.inl y)] [] h Q)
    (H2 : ∀ y, pp_at S o n i → am_Ex 37 66 [some (.inr (.inr (some 83))), some (.inl (h 36 (8 * o + n))), some (.inl t), some (.inl f), some (.inl hor), some (.inl 0), some (.inl m), some (.inl i), some (.inl y)] [] h Q)
    (H3 : ∀ y, ¬ pp_at S o n i → am_Ex 37 20 [some (.inr (.inr (some 83))), some (.inl (h 36 (8 * o + n))), some (.inl t), some (.inl f), some (.inl hor), some (.inl 1000000), some (.inl (m + 1)), some (.inl (if i + 1 < tb_st S + sg_U S then i + 1 else tb_st S)), some (.inl y)] [] h Q) :
    am_Ex 37 20 [some (.inr (.inr (some 83))), some (.inl (h 36 (8 * o + n))), some (.inl t), some (.inl f), some (.inl hor), some (.inl 1000000), some (.inl m), some (.inl i), none] [] h Q := by
  have st := (tb_st_r hS hF).1
  have hU := hS.1
  have t1 := hT.1
  have t2 := hT.2.1
  have R := (hR.2 o n ho.1 ho.2 hn.1 hn.2).1
  have R0 := hR.1
  have rg := hrg (505 * h 36 (8 * o + n) + i) (by omega) (by omega)
  have s1 := wt_shr (w := h 42 (505 * h 36 (8 * o + n) + i)) (by omega)
  have s2 := wt_and (w := h 42 (505 * h 36 (8 * o + n) + i)) (by omega)
  rw [bl_37_20]
  simp only [eq_self, and_self, am_up_at, Int.cast_ofNat_Int, Int.reduceNatCast, true_or, or_true, or_false, false_or, Classical.not_not, false_and, and_false, am_bk, am_step, am_ldI, am_ldL, am_ldA, am_nth, am_sto, am_stw_0, am_stw_i, am_stw_n, am_stw_a, am_stw_l, am_br, am_cmp, am_tk, am_cat, am_sw, am_copy, am_R, am_nc0, am_nc1, am_f0, am_f1, am_f2, am_f3, Int.reduceNeg, Int.reduceEq, Int.reduceLE, Int.reduceLT, Nat.reduceLeDiff, Nat.reduceAdd, Nat.reduceEqDiff, true_and, and_true, ↓reduceIte, if_false, if_true, forall_const, not_true_eq_false, not_false_eq_true, false_implies, true_implies, implies_true, Int.reduceAdd, Int.reduceMul, Int.reduceSub, ne_eq, ca_37_83, bl_37_23, bl_37_35, gf_83_0, gf_83_1, ar_35, al_35, gf_83_2, ar_36, al_36, gf_83_3, ar_37, al_37, gf_83_4, ar_38, al_38, gf_83_5, ar_39, al_39, gf_83_6, ar_40, al_40, gf_83_7, ar_41, al_41, gf_83_8, ar_42, al_42, gf_83_9, pf_83_9, gf_83_10, pf_83_10, gf_83_11, pf_83_11, gf_83_12, pf_83_12, s1, s2]
  refine ⟨by omega, fun q => by omega, fun _ => ⟨by omega, by omega, fun q => ?_, fun q => H1 _ (by omega)⟩⟩
  simp only [eq_self, and_self, am_up_at, Int.cast_ofNat_Int, Int.reduceNatCast, true_or, or_true, or_false, false_or, Classical.not_not, false_and, and_false, am_bk, am_step, am_ldI, am_ldL, am_ldA, am_nth, am_sto, am_stw_0, am_stw_i, am_stw_n, am_stw_a, am_stw_l, am_br, am_cmp, am_tk, am_cat, am_sw, am_copy, am_R, am_nc0, am_nc1, am_f0, am_f1, am_f2, am_f3, Int.reduceNeg, Int.reduceEq, Int.reduceLE, Int.reduceLT, Nat.reduceLeDiff, Nat.reduceAdd, Nat.reduceEqDiff, true_and, and_true, ↓reduceIte, if_false, if_true, forall_const, not_true_eq_false, not_false_eq_true, false_implies, true_implies, implies_true, Int.reduceAdd, Int.reduceMul, Int.reduceSub, ne_eq, ca_37_83, bl_37_43, gf_83_0, gf_83_1, ar_35, al_35, gf_83_2, ar_36, al_36, gf_83_3, ar_37, al_37, gf_83_4, ar_38, al_38, gf_83_5, ar_39, al_39, gf_83_6, ar_40, al_40, gf_83_7, ar_41, al_41, gf_83_8, ar_42, al_42, gf_83_9, pf_83_9, gf_83_10, pf_83_10, gf_83_11, pf_83_11, gf_83_12, pf_83_12]
  refine tb_oa hS hF hT hR ho hn hi hon hp hP.1 (fun q => ?_) (fun q => ?_)
  · simp only [eq_self, and_self, am_up_at, Int.cast_ofNat_Int, Int.reduceNatCast, true_or, or_true, or_false, false_or, Classical.not_not, false_and, and_false, am_bk, am_step, am_ldI, am_ldL, am_ldA, am_nth, am_sto, am_stw_0, am_stw_i, am_stw_n, am_stw_a, am_stw_l, am_br, am_cmp, am_tk, am_cat, am_sw, am_copy, am_R, am_nc0, am_nc1, am_f0, am_f1, am_f2, am_f3, Int.reduceNeg, Int.reduceEq, Int.reduceLE, Int.reduceLT, Nat.reduceLeDiff, Nat.reduceAdd, Nat.reduceEqDiff, true_and, and_true, ↓reduceIte, if_false, if_true, forall_const, not_true_eq_false, not_false_eq_true, false_implies, true_implies, implies_true, Int.reduceAdd, Int.reduceMul, Int.reduceSub, ne_eq, ca_37_83, bl_37_47, gf_83_0, gf_83_1, ar_35, al_35, gf_83_2, ar_36, al_36, gf_83_3, ar_37, al_37, gf_83_4, ar_38, al_38, gf_83_5, ar_39, al_39, gf_83_6, ar_40, al_40, gf_83_7, ar_41, al_41, gf_83_8, ar_42, al_42, gf_83_9, pf_83_9, gf_83_10, pf_83_10, gf_83_11, pf_83_11, gf_83_12, pf_83_12]
    exact H2 _ q
  · simp only [eq_self, and_self, am_up_at, Int.cast_ofNat_Int, Int.reduceNatCast, true_or, or_true, or_false, false_or, Classical.not_not, false_and, and_false, am_bk, am_step, am_ldI, am_ldL, am_ldA, am_nth, am_sto, am_stw_0, am_stw_i, am_stw_n, am_stw_a, am_stw_l, am_br, am_cmp, am_tk, am_cat, am_sw, am_copy, am_R, am_nc0, am_nc1, am_f0, am_f1, am_f2, am_f3, Int.reduceNeg, Int.reduceEq, Int.reduceLE, Int.reduceLT, Nat.reduceLeDiff, Nat.reduceAdd, Nat.reduceEqDiff, true_and, and_true, ↓reduceIte, if_false, if_true, forall_const, not_true_eq_false, not_false_eq_true, false_implies, true_implies, implies_true, Int.reduceAdd, Int.reduceMul, Int.reduceSub, ne_eq, ca_37_83, bl_37_47, bl_37_51, bl_37_61, bl_37_63, gf_83_0, gf_83_1, ar_35, al_35, gf_83_2, ar_36, al_36, gf_83_3, ar_37, al_37, gf_83_4, ar_38, al_38, gf_83_5, ar_39, al_39, gf_83_6, ar_40, al_40, gf_83_7, ar_41, al_41, gf_83_8, ar_42, al_42, gf_83_9, pf_83_9, gf_83_10, pf_83_10, gf_83_11, pf_83_11, gf_83_12, pf_83_12, t1, t2]
    by_cases hi1 : i + 1 < tb_st S + sg_U S
    · rw [if_pos hi1] at H3
      (repeat' (first | with_reducible apply And.intro | with_reducible intro _)) <;> first | omega | exact H3 _ q
    · rw [if_neg hi1] at H3
      (repeat' (first | with_reducible apply And.intro | with_reducible intro _)) <;> first | omega | exact H3 _ q
set_option maxHeartbeats 400000 in
set_option maxRecDepth 100000 in
theorem sp_wait66n {S : sg_S} {o n t f hor m rest i : Int} {h : am_H} {Q : am_P} (hS : sg_ok S) (hF : tb_fit S) (hT : tb_ok h S) (hR : pr_ok h S) (ho : 0 ≤ o ∧ o < sg_G S) (hn : 0 ≤ n ∧ n < sg_G S) (hon : sg_ri S o + 1 = sg_ri S n) (hp : h 36 (8 * o + n) ≠ -1) (hL : 0 ≤ h 83 10 ∧ h 83 10 ≤ 1000000) (hok : wt_ok h S) (hrg : wt_rg h) (hf : 0 ≤ f ∧ f < tb_st S + sg_U S) (hm : 0 ≤ m ∧ m ≤ 505)
    (hr : (1023 ≤ rest ∧ rest ≤ 1000000 ∧ ∀ q, f ≤ q → ¬ pp_at S o n q) ∨ (0 ≤ rest ∧ rest < 1023 ∧ pp_at S o n (f + m + rest) ∧ ∀ q, f ≤ q → q < f + m + rest → ¬ pp_at S o n q))
    (F : ∀ h1 w, wt_wf h h1 S → 0 ≤ w → w < 505 → pp_at S o n (f + w) → (∀ q, f ≤ q → q < f + w → ¬ pp_at S o n q) → Q (some (.inl w)) h1) (N : ∀ h1, wt_wf h h1 S → (∀ q, f ≤ q → ¬ pp_at S o n q) → Q (some (.inl 1000000)) h1) :
    am_Ex 37 66 [some (.inr (.inr (some 83))), some (.inl (h 36 (8 * o + n))), some (.inl t), some (.inl f), some (.inl hor), some (.inl rest), some (.inl m), some (.inl i), none] [] h Q := by
  have R := (hR.2 o n ho.1 ho.2 hn.1 hn.2).1
  have R0 := hR.1
  rcases hr with ⟨a1, a2, a3⟩ | ⟨a1, a2, a3, a4⟩
  · simp only [eq_self, and_self, am_up_at, Int.cast_ofNat_Int, Int.reduceNatCast, true_or, or_true, or_false, false_or, Classical.not_not, false_and, and_false, am_bk, am_step, am_ldI, am_ldL, am_ldA, am_nth, am_sto, am_stw_0, am_stw_i, am_stw_n, am_stw_a, am_stw_l, am_br, am_cmp, am_tk, am_cat, am_sw, am_copy, am_R, am_nc0, am_nc1, am_f0, am_f1, am_f2, am_f3, Int.reduceNeg, Int.reduceEq, Int.reduceLE, Int.reduceLT, Nat.reduceLeDiff, Nat.reduceAdd, Nat.reduceEqDiff, true_and, and_true, ↓reduceIte, if_false, if_true, forall_const, not_true_eq_false, not_false_eq_true, false_implies, true_implies, implies_true, Int.reduceAdd, Int.reduceMul, Int.reduceSub, ne_eq, ca_37_83, bl_37_66, bl_37_71, gf_83_0, gf_83_1, ar_35, al_35, gf_83_2, ar_36, al_36, gf_83_3, ar_37, al_37, gf_83_4, ar_38, al_38, gf_83_5, ar_39, al_39, gf_83_6, ar_40, al_40, gf_83_7, ar_41, al_41, gf_83_8, ar_42, al_42, gf_83_9, pf_83_9, gf_83_10, pf_83_10, gf_83_11, pf_83_11, gf_83_12, pf_83_12]
    refine ⟨by omega, fun q => by omega, fun _ => ?_⟩
    refine sp_rem hS hF hT ⟨rfl, hL⟩ (by omega) hf hm (Or.inl rfl) (fun h1 W => ?_)
    simp only [eq_self, and_self, am_up_at, Int.cast_ofNat_Int, Int.reduceNatCast, true_or, or_true, or_false, false_or, Classical.not_not, false_and, and_false, am_bk, am_step, am_ldI, am_ldL, am_ldA, am_nth, am_sto, am_stw_0, am_stw_i, am_stw_n, am_stw_a, am_stw_l, am_br, am_cmp, am_tk, am_cat, am_sw, am_copy, am_R, am_nc0, am_nc1, am_f0, am_f1, am_f2, am_f3, Int.reduceNeg, Int.reduceEq, Int.reduceLE, Int.reduceLT, Nat.reduceLeDiff, Nat.reduceAdd, Nat.reduceEqDiff, true_and, and_true, ↓reduceIte, if_false, if_true, forall_const, not_true_eq_false, not_false_eq_true, false_implies, true_implies, implies_true, Int.reduceAdd, Int.reduceMul, Int.reduceSub, ne_eq, ca_37_83, bl_37_77, bl_37_82, bl_37_85, gf_83_0, gf_83_1, ar_35, al_35, gf_83_2, ar_36, al_36, gf_83_3, ar_37, al_37, gf_83_4, ar_38, al_38, gf_83_5, ar_39, al_39, gf_83_6, ar_40, al_40, gf_83_7, ar_41, al_41, gf_83_8, ar_42, al_42, gf_83_9, pf_83_9, gf_83_10, pf_83_10, gf_83_11, pf_83_11, gf_83_12, pf_83_12]
    exact N h1 (wt_keep hS hF hT hR ho hn hon hp ⟨rfl, hL.1⟩ hf.1 hm.2 (Or.inl ⟨rfl, a3⟩) hok hrg W) a3
  · have lt := wt_is_lt hS hF ho hn (t := f) (w := m + rest) hf.1 (by omega) (by rw [show f + (m + rest) = f + m + rest by omega]; exact a3) (fun q q1 q2 => a4 q q1 (by omega))
    simp only [eq_self, and_self, am_up_at, Int.cast_ofNat_Int, Int.reduceNatCast, true_or, or_true, or_false, false_or, Classical.not_not, false_and, and_false, am_bk, am_step, am_ldI, am_ldL, am_ldA, am_nth, am_sto, am_stw_0, am_stw_i, am_stw_n, am_stw_a, am_stw_l, am_br, am_cmp, am_tk, am_cat, am_sw, am_copy, am_R, am_nc0, am_nc1, am_f0, am_f1, am_f2, am_f3, Int.reduceNeg, Int.reduceEq, Int.reduceLE, Int.reduceLT, Nat.reduceLeDiff, Nat.reduceAdd, Nat.reduceEqDiff, true_and, and_true, ↓reduceIte, if_false, if_true, forall_const, not_true_eq_false, not_false_eq_true, false_implies, true_implies, implies_true, Int.reduceAdd, Int.reduceMul, Int.reduceSub, ne_eq, ca_37_83, bl_37_66, bl_37_71, gf_83_0, gf_83_1, ar_35, al_35, gf_83_2, ar_36, al_36, gf_83_3, ar_37, al_37, gf_83_4, ar_38, al_38, gf_83_5, ar_39, al_39, gf_83_6, ar_40, al_40, gf_83_7, ar_41, al_41, gf_83_8, ar_42, al_42, gf_83_9, pf_83_9, gf_83_10, pf_83_10, gf_83_11, pf_83_11, gf_83_12, pf_83_12]
    refine ⟨by omega, fun _ => ?_, fun q => by omega⟩
    refine sp_rem hS hF hT ⟨rfl, hL⟩ (by omega) hf hm (Or.inr ⟨a1, by omega⟩) (fun h1 W => ?_)
    have hwf := wt_keep hS hF hT hR ho hn hon hp ⟨rfl, hL.1⟩ hf.1 hm.2 (Or.inr ⟨by omega, a1, by omega, a3, a4⟩) hok hrg W
    have F := F h1 (m + rest) hwf (by omega) lt (by rw [show f + (m + rest) = f + m + rest by omega]; exact a3) (fun q q1 q2 => a4 q q1 (by omega))
    simp only [eq_self, and_self, am_up_at, Int.cast_ofNat_Int, Int.reduceNatCast, true_or, or_true, or_false, false_or, Classical.not_not, false_and, and_false, am_bk, am_step, am_ldI, am_ldL, am_ldA, am_nth, am_sto, am_stw_0, am_stw_i, am_stw_n, am_stw_a, am_stw_l, am_br, am_cmp, am_tk, am_cat, am_sw, am_copy, am_R, am_nc0, am_nc1, am_f0, am_f1, am_f2, am_f3, Int.reduceNeg, Int.reduceEq, Int.reduceLE, Int.reduceLT, Nat.reduceLeDiff, Nat.reduceAdd, Nat.reduceEqDiff, true_and, and_true, ↓reduceIte, if_false, if_true, forall_const, not_true_eq_false, not_false_eq_true, false_implies, true_implies, implies_true, Int.reduceAdd, Int.reduceMul, Int.reduceSub, ne_eq, ca_37_83, bl_37_77, bl_37_82, bl_37_85, gf_83_0, gf_83_1, ar_35, al_35, gf_83_2, ar_36, al_36, gf_83_3, ar_37, al_37, gf_83_4, ar_38, al_38, gf_83_5, ar_39, al_39, gf_83_6, ar_40, al_40, gf_83_7, ar_41, al_41, gf_83_8, ar_42, al_42, gf_83_9, pf_83_9, gf_83_10, pf_83_10, gf_83_11, pf_83_11, gf_83_12, pf_83_12]
    (repeat' (first | with_reducible apply And.intro | with_reducible intro _)) <;> first | omega | exact F
theorem sp_wait66 {S : sg_S} {o n t f hor m rest i y : Int} {h : am_H} {Q : am_P} (hS : sg_ok S) (hF : tb_fit S) (hT : tb_ok h S) (hR : pr_ok h S) (ho : 0 ≤ o ∧ o < sg_G S) (hn : 0 ≤ n ∧ n < sg_G S) (hon : sg_ri S o + 1 = sg_ri S n) (hp : h 36 (8 * o + n) ≠ -1) (hL : 0 ≤ h 83 10 ∧ h 83 10 ≤ 1000000) (hok : wt_ok h S) (hrg : wt_rg h) (hf : 0 ≤ f ∧ f < tb_st S + sg_U S) (hm : 0 ≤ m ∧ m ≤ 505)
    (hr : (1023 ≤ rest ∧ rest ≤ 1000000 ∧ ∀ q, f ≤ q → ¬ pp_at S o n q) ∨ (0 ≤ rest ∧ rest < 1023 ∧ pp_at S o n (f + m + rest) ∧ ∀ q, f ≤ q → q < f + m + rest → ¬ pp_at S o n q))
    (F : ∀ h1 w, wt_wf h h1 S → 0 ≤ w → w < 505 → pp_at S o n (f + w) → (∀ q, f ≤ q → q < f + w → ¬ pp_at S o n q) → Q (some (.inl w)) h1) (N : ∀ h1, wt_wf h h1 S → (∀ q, f ≤ q → ¬ pp_at S o n q) → Q (some (.inl 1000000)) h1) :
    am_Ex 37 66 [some (.inr (.inr (some 83))), some (.inl (h 36 (8 * o + n))), some (.inl t), some (.inl f), some (.inl hor), some (.inl rest), some (.inl m), some (.inl i), some (.inl y)] [] h Q :=
  am_forget (sp_wait66n (t := t) (hor := hor) (i := i) hS hF hT hR ho hn hon hp hL hok hrg hf hm hr F N) (by simp [am_lq])
set_option maxHeartbeats 400000 in
set_option maxRecDepth 100000 in
theorem lp_wait {S : sg_S} {o n t f hor : Int} {h : am_H} {Q : am_P} (hS : sg_ok S) (hF : tb_fit S) (hT : tb_ok h S) (hP : pl_ok h S) (hR : pr_ok h S) (ho : 0 ≤ o ∧ o < sg_G S) (hn : 0 ≤ n ∧ n < sg_G S) (hon : sg_ri S o + 1 = sg_ri S n) (hp : h 36 (8 * o + n) ≠ -1) (hL : 0 ≤ h 83 10 ∧ h 83 10 ≤ 1000000) (hok : wt_ok h S) (hrg : wt_rg h) (hf : 0 ≤ f ∧ f < tb_st S + sg_U S) (hh : f + hor = (if f < tb_st S then tb_st S else f) + sg_U S) (hh2 : hor ≤ 505)
    (F : ∀ h1 w, wt_wf h h1 S → 0 ≤ w → w < 505 → pp_at S o n (f + w) → (∀ q, f ≤ q → q < f + w → ¬ pp_at S o n q) → Q (some (.inl w)) h1) (N : ∀ h1, wt_wf h h1 S → (∀ q, f ≤ q → ¬ pp_at S o n q) → Q (some (.inl 1000000)) h1) :
    ∀ (k : Nat) (m : Int), 0 ≤ m → m + k = hor → (∀ q, f ≤ q → q < f + m → ¬ pp_at S o n q) → am_Ex 37 20 [some (.inr (.inr (some 83))), some (.inl (h 36 (8 * o + n))), some (.inl t), some (.inl f), some (.inl hor), some (.inl 1000000), some (.inl m), some (.inl (tb_fo S (f + m))), none] [] h Q := by
  have hU := hS.1
  intro k
  induction k with
  | zero =>
    intro m m0 m1 hno
    have all := per_all (P := fun q => ¬ pp_at S o n q) (st := tb_st S) (U := sg_U S) (t := f) (by omega) (fun q x q1 q2 => by rw [pp_p hS hF ho hn q1 q2]) (fun q q1 q2 => hno q q1 (by omega))
    rw [bl_37_20]
    simp only [eq_self, and_self, am_up_at, Int.cast_ofNat_Int, Int.reduceNatCast, true_or, or_true, or_false, false_or, Classical.not_not, false_and, and_false, am_bk, am_step, am_ldI, am_ldL, am_ldA, am_nth, am_sto, am_stw_0, am_stw_i, am_stw_n, am_stw_a, am_stw_l, am_br, am_cmp, am_tk, am_cat, am_sw, am_copy, am_R, am_nc0, am_nc1, am_f0, am_f1, am_f2, am_f3, Int.reduceNeg, Int.reduceEq, Int.reduceLE, Int.reduceLT, Nat.reduceLeDiff, Nat.reduceAdd, Nat.reduceEqDiff, true_and, and_true, ↓reduceIte, if_false, if_true, forall_const, not_true_eq_false, not_false_eq_true, false_implies, true_implies, implies_true, Int.reduceAdd, Int.reduceMul, Int.reduceSub, ne_eq, ca_37_83, bl_37_23, bl_37_35, gf_83_0, gf_83_1, ar_35, al_35, gf_83_2, ar_36, al_36, gf_83_3, ar_37, al_37, gf_83_4, ar_38, al_38, gf_83_5, ar_39, al_39, gf_83_6, ar_40, al_40, gf_83_7, ar_41, al_41, gf_83_8, ar_42, al_42, gf_83_9, pf_83_9, gf_83_10, pf_83_10, gf_83_11, pf_83_11, gf_83_12, pf_83_12]
    refine ⟨by omega, fun _ => ?_, fun q => by omega⟩
    exact sp_wait66n hS hF hT hR ho hn hon hp hL hok hrg hf (by omega) (Or.inl ⟨by omega, by omega, all⟩) F N
  | succ k ih =>
    intro m m0 m1 hno
    have fr := tb_fo_r hS hF (t := f + m) (by omega)
    have sh : ∀ x, 0 ≤ x → (pp_at S o n (tb_fo S (f + m) + x) ↔ pp_at S o n (f + m + x)) := fun x hx => pp_f hS hF ho hn (by omega) hx
    have sh0 := sh 0 (by omega)
    rw [Int.add_zero, Int.add_zero] at sh0
    refine it_wait hS hF hT hP hR ho hn hon hp hL hrg fr (by omega) hh2 (fun y q => ?_) (fun y q => ?_) (fun y q => ?_)
    · have w := hok o n ho.1 ho.2 hn.1 hn.2 hon hp (tb_fo S (f + m)) fr.1 fr.2 q
      have wr : 0 ≤ h 42 (505 * h 36 (8 * o + n) + tb_fo S (f + m)) % 1024 ∧ h 42 (505 * h 36 (8 * o + n) + tb_fo S (f + m)) % 1024 ≤ 1023 := by omega
      generalize h 42 (505 * h 36 (8 * o + n) + tb_fo S (f + m)) % 1024 = v at w wr ⊢
      refine sp_wait66 hS hF hT hR ho hn hon hp hL hok hrg hf (by omega) ?_ F N
      by_cases hv : v = 1023
      · left
        refine ⟨by omega, by omega, fun z z1 => ?_⟩
        by_cases c : z < f + m
        · exact hno z z1 c
        · have := w.1 hv (tb_fo S (f + m) + (z - (f + m))) (by omega)
          rw [sh _ (by omega), show f + m + (z - (f + m)) = z by omega] at this
          exact this
      · right
        obtain ⟨b1, b2, b3⟩ := w.2 hv
        refine ⟨b1, by omega, by rw [sh _ b1] at b2; exact b2, fun z z1 z2 => ?_⟩
        by_cases c : z < f + m
        · exact hno z z1 c
        · have := b3 (tb_fo S (f + m) + (z - (f + m))) (by omega) (by omega)
          rw [sh _ (by omega), show f + m + (z - (f + m)) = z by omega] at this
          exact this
    · refine sp_wait66 hS hF hT hR ho hn hon hp hL hok hrg hf (by omega) (Or.inr ⟨by omega, by omega, ?_, fun z z1 z2 => hno z z1 (by omega)⟩) F N
      rw [Int.add_zero]
      exact sh0.mp q
    · rw [← tb_fo_s hS hF (by omega), show f + m + 1 = f + (m + 1) by omega]
      refine am_forget (ih (m + 1) (by omega) (by omega) (fun z z1 z2 => ?_)) (by simp [am_lq])
      by_cases c : z < f + m
      · exact hno z z1 c
      · rw [show z = f + m by omega]
        exact fun w => q (sh0.mpr w)
