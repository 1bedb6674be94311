/-! the class: rememberAll -/
def fr_y (h h1 : am_H) : Prop := ∀ c, c ≠ 42 → c ≠ 43 → c ≠ 44 → h1 c = h c
theorem fy_x {h h1 h2 : am_H} (f : fr_y h h1) (g : fr_x h1 h2) : fr_y h h2 := fun c a b d => (g c a b).trans (f c a b d)
theorem fy_r (h : am_H) : fr_y h h := fun _ _ _ _ => rfl
theorem fy_t {h h1 h2 : am_H} (f : fr_y h h1) (g : fr_y h1 h2) : fr_y h h2 := fun c a b d => (g c a b d).trans (f c a b d)
set_option maxHeartbeats 400000 in
set_option maxRecDepth 100000 in
theorem lp_ra1 {S : sg_S} {t g : Int} {h0 : am_H} {Q : am_P} (hy0 : ty_ok h0 S) (hg : 0 ≤ g ∧ g < sg_G S) (hA : ∀ b, 0 ≤ b → b < sg_G S → 0 ≤ h0 43 b ∧ h0 43 b ≤ 1000000) (H : ∀ h1, (∀ c, c ≠ 44 → h1 c = h0 c) → (∀ e, 0 ≤ e → e < sg_G S → h1 44 (8 * g + e) = h0 43 e) → (∀ j, j < 8 * g → h1 44 j = h0 44 j) → am_Ex 49 32 [some (.inr (.inr (some 84))), some (.inl t), some (.inl g), some (.inl (sg_G S))] [] h1 Q) :
    ∀ (m : Nat) (x : Int) (h : am_H), 0 ≤ x → x + m = sg_G S → (∀ c, c ≠ 44 → h c = h0 c) → (∀ e, 0 ≤ e → e < x → h 44 (8 * g + e) = h0 43 e) → (∀ j, j < 8 * g → h 44 j = h0 44 j) → am_Ex 49 13 [some (.inr (.inr (some 84))), some (.inl t), some (.inl g), some (.inl x)] [] h Q := by
  intro m
  have hG := hy0.1.2.1
  have p1 := hy0.2.2.2.1.2.1
  induction m with
  | zero =>
    intro x h x0 x1 hf I J
    have ex : x = sg_G S := by omega
    subst ex
    have e := hf 78 (by omega)
    have K := H h hf I J
    rw [bl_49_13]
    simp only [eq_self, and_self, am_up_at, Int.cast_ofNat_Int, Int.reduceNatCast, true_or, or_true, or_false, false_or, Classical.not_not, false_and, and_false, am_bk, am_step, am_ldI, am_ldL, am_ldA, am_nth, am_sto, am_stw_0, am_stw_i, am_stw_n, am_stw_a, am_stw_l, am_br, am_cmp, am_tk, am_cat, am_sw, am_copy, am_R, am_nc0, am_nc1, am_f0, am_f1, am_f2, am_f3, Int.reduceNeg, Int.reduceEq, Int.reduceLE, Int.reduceLT, Nat.reduceLeDiff, Nat.reduceAdd, Nat.reduceEqDiff, true_and, and_true, ↓reduceIte, if_false, if_true, forall_const, not_true_eq_false, not_false_eq_true, false_implies, true_implies, implies_true, Int.reduceAdd, Int.reduceMul, Int.reduceSub, ne_eq, gf_84_0, gf_84_1, gf_84_2, ar_43, al_43, gf_84_3, ar_44, al_44, gf_84_4, ar_45, al_45, gf_84_5, ar_46, al_46, gf_84_6, pf_84_6, gf_78_0, pf_78_0, gf_78_1, pf_78_1, gf_78_2, ar_6, al_6, gf_78_3, ar_7, al_7, gf_78_4, ar_8, al_8, gf_78_5, ar_9, al_9, gf_78_6, ar_10, al_10, e, p1]
    (repeat' (first | with_reducible apply And.intro | with_reducible intro _)) <;> first | omega | exact K
  | succ m ih =>
    intro x h x0 x1 hf I J
    have e := hf 78 (by omega)
    have e43 := hf 43 (by omega)
    have r := hA x x0 (by omega)
    have K := ih (x + 1) (am_up h 44 (8 * g + x) (h0 43 x)) (by omega) (by omega) (fun c hc => by rw [am_up_ne hc, hf c hc]) (fun q q1 q2 => by
        simp only [eq_self, and_self, am_up_at, am_up_ne, ne_eq, Nat.reduceEqDiff, Int.reduceEq, Int.reduceNeg, not_false_eq_true, false_and, and_false, true_and, and_true, ↓reduceIte, if_false, if_true, Int.reduceAdd, Int.reduceMul, Nat.reduceAdd]
        split
        · rw [show q = x by omega]
        · exact I q q1 (by omega)) (fun j hj => by
        simp only [eq_self, and_self, am_up_at, am_up_ne, ne_eq, Nat.reduceEqDiff, Int.reduceEq, Int.reduceNeg, not_false_eq_true, false_and, and_false, true_and, and_true, ↓reduceIte, if_false, if_true, Int.reduceAdd, Int.reduceMul, Nat.reduceAdd]
        rw [if_neg (by omega)]
        exact J j hj)
    rw [bl_49_13]
    simp only [eq_self, and_self, am_up_at, Int.cast_ofNat_Int, Int.reduceNatCast, true_or, or_true, or_false, false_or, Classical.not_not, false_and, and_false, am_bk, am_step, am_ldI, am_ldL, am_ldA, am_nth, am_sto, am_stw_0, am_stw_i, am_stw_n, am_stw_a, am_stw_l, am_br, am_cmp, am_tk, am_cat, am_sw, am_copy, am_R, am_nc0, am_nc1, am_f0, am_f1, am_f2, am_f3, Int.reduceNeg, Int.reduceEq, Int.reduceLE, Int.reduceLT, Nat.reduceLeDiff, Nat.reduceAdd, Nat.reduceEqDiff, true_and, and_true, ↓reduceIte, if_false, if_true, forall_const, not_true_eq_false, not_false_eq_true, false_implies, true_implies, implies_true, Int.reduceAdd, Int.reduceMul, Int.reduceSub, ne_eq, ca_49_84, bl_49_18, bl_49_30, gf_84_0, gf_84_1, gf_84_2, ar_43, al_43, gf_84_3, ar_44, al_44, gf_84_4, ar_45, al_45, gf_84_5, ar_46, al_46, gf_84_6, pf_84_6, gf_78_0, pf_78_0, gf_78_1, pf_78_1, gf_78_2, ar_6, al_6, gf_78_3, ar_7, al_7, gf_78_4, ar_8, al_8, gf_78_5, ar_9, al_9, gf_78_6, ar_10, al_10, e, p1, e43]
    (repeat' (first | with_reducible apply And.intro | with_reducible intro _)) <;> first | omega | exact K
set_option maxHeartbeats 400000 in
set_option maxRecDepth 100000 in
theorem lp_ra2 {S : sg_S} {t : Int} {h0 : am_H} {Q : am_P} (ht : 0 ≤ t ∧ t ≤ 50000) (H : ∀ h1, ty_ok h1 S → fr_y h0 h1 → (∀ g e, 0 ≤ g → g < sg_G S → 0 ≤ e → e < sg_G S → ar_is 1000000 S g t e (h1 44 (8 * g + e))) → Q none h1) :
    ∀ (m : Nat) (g : Int) (h : am_H), 0 ≤ g → g + m = sg_G S → ty_ok h S → fr_y h0 h → (∀ q e, 0 ≤ q → q < g → 0 ≤ e → e < sg_G S → ar_is 1000000 S q t e (h 44 (8 * q + e))) → am_Ex 49 2 [some (.inr (.inr (some 84))), some (.inl t), some (.inl g), none] [] h Q := by
  intro m
  induction m with
  | zero =>
    intro g h g0 g1 hy hf I
    have hG := hy.1.2.1
    have p1 := hy.2.2.2.1.2.1
    have K := H h hy hf (fun q e q1 q2 => I q e q1 (by omega))
    rw [bl_49_2]
    simp only [eq_self, and_self, am_up_at, Int.cast_ofNat_Int, Int.reduceNatCast, true_or, or_true, or_false, false_or, Classical.not_not, false_and, and_false, am_bk, am_step, am_ldI, am_ldL, am_ldA, am_nth, am_sto, am_stw_0, am_stw_i, am_stw_n, am_stw_a, am_stw_l, am_br, am_cmp, am_tk, am_cat, am_sw, am_copy, am_R, am_nc0, am_nc1, am_f0, am_f1, am_f2, am_f3, Int.reduceNeg, Int.reduceEq, Int.reduceLE, Int.reduceLT, Nat.reduceLeDiff, Nat.reduceAdd, Nat.reduceEqDiff, true_and, and_true, ↓reduceIte, if_false, if_true, forall_const, not_true_eq_false, not_false_eq_true, false_implies, true_implies, implies_true, Int.reduceAdd, Int.reduceMul, Int.reduceSub, ne_eq, ca_49_84, bl_49_34, gf_84_0, gf_84_1, gf_84_2, ar_43, al_43, gf_84_3, ar_44, al_44, gf_84_4, ar_45, al_45, gf_84_5, ar_46, al_46, gf_84_6, pf_84_6, gf_78_0, pf_78_0, gf_78_1, pf_78_1, gf_78_2, ar_6, al_6, gf_78_3, ar_7, al_7, gf_78_4, ar_8, al_8, gf_78_5, ar_9, al_9, gf_78_6, ar_10, al_10, p1]
    (repeat' (first | with_reducible apply And.intro | with_reducible intro _)) <;> first | omega | exact K
  | succ m ih =>
    intro g h g0 g1 hy hf I
    have hG := hy.1.2.1
    have p1 := hy.2.2.2.1.2.1
    have hg : 0 ≤ g ∧ g < sg_G S := by omega
    have K : ∀ h1, ty_ok h1 S → fr_x h h1 → (∀ b, 0 ≤ b → b < sg_G S → ar_is 1000000 S g t b (h1 43 b)) → am_Ex 49 11 [some (.inr (.inr (some 84))), some (.inl t), some (.inl g), none] [] h1 Q := by
      intro h1 y1 f1 ar
      simp only [eq_self, and_self, am_up_at, Int.cast_ofNat_Int, Int.reduceNatCast, true_or, or_true, or_false, false_or, Classical.not_not, false_and, and_false, am_bk, am_step, am_ldI, am_ldL, am_ldA, am_nth, am_sto, am_stw_0, am_stw_i, am_stw_n, am_stw_a, am_stw_l, am_br, am_cmp, am_tk, am_cat, am_sw, am_copy, am_R, am_nc0, am_nc1, am_f0, am_f1, am_f2, am_f3, Int.reduceNeg, Int.reduceEq, Int.reduceLE, Int.reduceLT, Nat.reduceLeDiff, Nat.reduceAdd, Nat.reduceEqDiff, true_and, and_true, ↓reduceIte, if_false, if_true, forall_const, not_true_eq_false, not_false_eq_true, false_implies, true_implies, implies_true, Int.reduceAdd, Int.reduceMul, Int.reduceSub, ne_eq, ca_49_84, bl_49_11, gf_84_0, gf_84_1, gf_84_2, ar_43, al_43, gf_84_3, ar_44, al_44, gf_84_4, ar_45, al_45, gf_84_5, ar_46, al_46, gf_84_6, pf_84_6]
      refine lp_ra1 y1 hg (fun b b1 b2 => by have := ar_r (by omega) ht (ar b b1 b2); omega) (fun h2 f2 I2 J2 => ?_) (sg_G S).toNat 0 h1 (by omega) (by omega) (fun _ _ => rfl) (fun q q1 q2 => by omega) (fun _ _ => rfl)
      simp only [eq_self, and_self, am_up_at, Int.cast_ofNat_Int, Int.reduceNatCast, true_or, or_true, or_false, false_or, Classical.not_not, false_and, and_false, am_bk, am_step, am_ldI, am_ldL, am_ldA, am_nth, am_sto, am_stw_0, am_stw_i, am_stw_n, am_stw_a, am_stw_l, am_br, am_cmp, am_tk, am_cat, am_sw, am_copy, am_R, am_nc0, am_nc1, am_f0, am_f1, am_f2, am_f3, Int.reduceNeg, Int.reduceEq, Int.reduceLE, Int.reduceLT, Nat.reduceLeDiff, Nat.reduceAdd, Nat.reduceEqDiff, true_and, and_true, ↓reduceIte, if_false, if_true, forall_const, not_true_eq_false, not_false_eq_true, false_implies, true_implies, implies_true, Int.reduceAdd, Int.reduceMul, Int.reduceSub, ne_eq, ca_49_84, bl_49_32, gf_84_0, gf_84_1, gf_84_2, ar_43, al_43, gf_84_3, ar_44, al_44, gf_84_4, ar_45, al_45, gf_84_5, ar_46, al_46, gf_84_6, pf_84_6]
      refine am_forget (ih (g + 1) h2 (by omega) (by omega) (ty_fr y1 (fun c hc => f2 c (by omega))) (fun c a b d => (f2 c d).trans ((f1 c a b).trans (hf c a b d))) (fun q e q1 q2 e1 e2 => ?_)) (by simp [am_lq])
      by_cases eq : q = g
      · rw [eq, I2 e e1 e2]; exact ar e e1 e2
      · rw [J2 (8 * q + e) (by omega), f1 44 (by omega) (by omega)]; exact I q e q1 (by omega) e1 e2
    rw [bl_49_2]
    simp only [eq_self, and_self, am_up_at, Int.cast_ofNat_Int, Int.reduceNatCast, true_or, or_true, or_false, false_or, Classical.not_not, false_and, and_false, am_bk, am_step, am_ldI, am_ldL, am_ldA, am_nth, am_sto, am_stw_0, am_stw_i, am_stw_n, am_stw_a, am_stw_l, am_br, am_cmp, am_tk, am_cat, am_sw, am_copy, am_R, am_nc0, am_nc1, am_f0, am_f1, am_f2, am_f3, Int.reduceNeg, Int.reduceEq, Int.reduceLE, Int.reduceLT, Nat.reduceLeDiff, Nat.reduceAdd, Nat.reduceEqDiff, true_and, and_true, ↓reduceIte, if_false, if_true, forall_const, not_true_eq_false, not_false_eq_true, false_implies, true_implies, implies_true, Int.reduceAdd, Int.reduceMul, Int.reduceSub, ne_eq, ca_49_84, bl_49_7, gf_84_0, gf_84_1, gf_84_2, ar_43, al_43, gf_84_3, ar_44, al_44, gf_84_4, ar_45, al_45, gf_84_5, ar_46, al_46, gf_84_6, pf_84_6, gf_78_0, pf_78_0, gf_78_1, pf_78_1, gf_78_2, ar_6, al_6, gf_78_3, ar_7, al_7, gf_78_4, ar_8, al_8, gf_78_5, ar_9, al_9, gf_78_6, ar_10, al_10, p1]
    (repeat' (first | with_reducible apply And.intro | with_reducible intro _)) <;> first | omega | exact sp_spread hy hg ht K
set_option maxHeartbeats 400000 in
set_option maxRecDepth 100000 in
theorem sp_remAll {S : sg_S} {t : Int} {h : am_H} {Q : am_P} (hy : ty_ok h S) (ht : 0 ≤ t ∧ t ≤ 50000) (H : ∀ h1, ty_ok h1 S → fr_y h h1 → (∀ g e, 0 ≤ g → g < sg_G S → 0 ≤ e → e < sg_G S → ar_is 1000000 S g t e (h1 44 (8 * g + e))) → Q none h1) : am_Call 49 [.inr (.inr (some 84)), .inl t] h Q := by
  have hG := hy.1.2.1
  simp only [eq_self, and_self, am_up_at, Int.cast_ofNat_Int, Int.reduceNatCast, true_or, or_true, or_false, false_or, Classical.not_not, false_and, and_false, am_bk, am_step, am_ldI, am_ldL, am_ldA, am_nth, am_sto, am_stw_0, am_stw_i, am_stw_n, am_stw_a, am_stw_l, am_br, am_cmp, am_tk, am_cat, am_sw, am_copy, am_R, am_nc0, am_nc1, am_f0, am_f1, am_f2, am_f3, Int.reduceNeg, Int.reduceEq, Int.reduceLE, Int.reduceLT, Nat.reduceLeDiff, Nat.reduceAdd, Nat.reduceEqDiff, true_and, and_true, ↓reduceIte, if_false, if_true, forall_const, not_true_eq_false, not_false_eq_true, false_implies, true_implies, implies_true, Int.reduceAdd, Int.reduceMul, Int.reduceSub, ne_eq, ca_49_84, bl_49_0, gf_84_0, gf_84_1, gf_84_2, ar_43, al_43, gf_84_3, ar_44, al_44, gf_84_4, ar_45, al_45, gf_84_5, ar_46, al_46, gf_84_6, pf_84_6]
  exact lp_ra2 ht H (sg_G S).toNat 0 h (by omega) (by omega) hy (fy_r h) (fun q e q1 q2 => by omega)
