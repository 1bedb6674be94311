/-! the reference: by, goFrom -/
theorem sp_nextR {S : sg_S} {a b t : Int} {h : am_H} {Q : am_P} (hm : sg_of h = S) (hS : sg_ok S) (hF : tb_fit S) (ha : 0 ≤ a ∧ a < sg_G S) (hb : 0 ≤ b ∧ b < sg_G S) (ht : 0 ≤ t ∧ t ≤ 90000) (F : ∀ s, nx_is S a b t s → Q (some (.inl s)) h) (N : (∀ q, t ≤ q → ¬ sg_opn S a b q) → Q (some (.inl 99999)) h) : am_Call 125 [.inr (.inr (some 86)), .inl a, .inl b, .inl t] h Q := by
  subst hm
  refine sp_nextOf hS ha hb ht (fun s s1 s2 s3 s4 => ?_) (fun z => ?_)
  · obtain ⟨v, v1, v2⟩ := nx_ex hS hF ha hb ht.1 s1 s3
    have ev : v = s := by
      rcases Int.lt_or_eq_of_le v2 with e | e
      · exact absurd v1.2.2.1 (s4 v v1.1 e)
      · exact e
    exact F s (ev ▸ v1)
  · have st := sg_calm_st hS ht.1
    exact N (per_all (P := fun q => ¬ sg_opn (sg_of h) a b q) (st := tb_st (sg_of h)) (U := sg_U (sg_of h)) (t := t) (by have := hS.1; omega) (fun q m q1 q2 => by rw [sg_opn_p hS hF ha hb q1 q2]) (fun q q1 q2 => z q q1 (by
        have e : sg_U (sg_of h) = h 86 4 := rfl
        omega)))
set_option maxHeartbeats 400000 in
set_option maxRecDepth 100000 in
theorem sp_by {S : sg_S} {a b t : Int} {h : am_H} {Q : am_P} (hm : sg_of h = S) (hS : sg_ok S) (hF : tb_fit S) (ha : 0 ≤ a ∧ a < sg_G S) (hb : 0 ≤ b ∧ b < sg_G S) (ht : 0 ≤ t ∧ t ≤ 90000) (H : ∀ r, rc 99999 S a t b r → 0 ≤ r → r ≤ 99999 → Q (some (.inl r)) h) : am_Call 132 [.inr (.inr (some 86)), .inl a, .inl t, .inl b] h Q := by
  have w := wk_r hS ha hb
  have pa := (hS.2.2.1 a ha.1 ha.2)
  have pb := (hS.2.2.1 b hb.1 hb.2)
  have hU := hS.1
  have G := hS.2.1
  have K1 := fun q => H (t + wk S a b) (Or.inl (Or.inl ⟨q, rfl⟩)) (by omega) (by omega)
  have e1 : h 51 = sg_ri S := by rw [← hm]; rfl
  have e2 : h 53 = sg_pl S := by rw [← hm]; rfl
  have e3 : h 86 4 = sg_U S := by rw [← hm]; rfl
  simp only [eq_self, and_self, am_up_at, Int.cast_ofNat_Int, Int.reduceNatCast, true_or, or_true, or_false, false_or, Classical.not_not, false_and, and_false, am_bk, am_step, am_ldI, am_ldL, am_ldA, am_nth, am_sto, am_stw_0, am_stw_i, am_stw_n, am_stw_a, am_stw_l, am_br, am_cmp, am_tk, am_cat, am_sw, am_copy, am_R, am_nc0, am_nc1, am_f0, am_f1, am_f2, am_f3, Int.reduceNeg, Int.reduceEq, Int.reduceLE, Int.reduceLT, Nat.reduceLeDiff, Nat.reduceAdd, Nat.reduceEqDiff, true_and, and_true, ↓reduceIte, if_false, if_true, forall_const, not_true_eq_false, not_false_eq_true, false_implies, true_implies, implies_true, Int.reduceAdd, Int.reduceMul, Int.reduceSub, ne_eq, ca_132_86, bl_132_0, bl_132_12, bl_132_24, bl_132_28, bl_132_37, bl_132_46, bl_132_50, bl_132_56, bl_132_57, gf_86_0, pf_86_0, gf_86_1, ar_50, al_50, gf_86_2, pf_86_2, gf_86_3, pf_86_3, gf_86_4, pf_86_4, gf_86_5, pf_86_5, gf_86_6, ar_51, al_51, gf_86_7, ar_52, al_52, gf_86_8, ar_53, al_53, gf_86_9, ar_54, al_54, gf_86_10, ar_55, al_55, gf_86_11, ar_56, al_56, gf_86_12, ar_57, al_57, gf_86_13, pf_86_13, gf_86_14, pf_86_14, gf_86_15, ar_58, al_58, gf_86_16, ar_59, al_59, gf_86_17, ar_60, al_60, gf_86_18, ar_61, al_61, gf_86_19, ar_62, al_62, gf_86_20, pf_86_20, gf_86_21, pf_86_21, gf_86_22, ar_63, al_63, gf_86_23, ar_64, al_64, gf_86_24, ar_65, al_65, gf_86_25, ar_66, al_66, gf_86_26, ar_67, al_67, gf_86_27, ar_68, al_68, gf_86_28, ar_69, al_69, gf_86_29, ar_70, al_70, gf_86_30, ar_71, al_71, gf_86_31, ar_72, al_72, gf_86_32, ar_73, al_73, gf_86_33, ar_74, al_74, gf_86_34, pf_86_34, e1, e2, e3]
  have nq : ∀ (q : ¬ sg_ri S a = sg_ri S b) , am_Ex 132 59 [some (.inr (.inr (some 86))), some (.inl a), some (.inl t), some (.inl b), none, none] [] h Q := by
    intro q
    simp only [eq_self, and_self, am_up_at, Int.cast_ofNat_Int, Int.reduceNatCast, true_or, or_true, or_false, false_or, Classical.not_not, false_and, and_false, am_bk, am_step, am_ldI, am_ldL, am_ldA, am_nth, am_sto, am_stw_0, am_stw_i, am_stw_n, am_stw_a, am_stw_l, am_br, am_cmp, am_tk, am_cat, am_sw, am_copy, am_R, am_nc0, am_nc1, am_f0, am_f1, am_f2, am_f3, Int.reduceNeg, Int.reduceEq, Int.reduceLE, Int.reduceLT, Nat.reduceLeDiff, Nat.reduceAdd, Nat.reduceEqDiff, true_and, and_true, ↓reduceIte, if_false, if_true, forall_const, not_true_eq_false, not_false_eq_true, false_implies, true_implies, implies_true, Int.reduceAdd, Int.reduceMul, Int.reduceSub, ne_eq, ca_132_86, bl_132_59, gf_86_0, pf_86_0, gf_86_1, ar_50, al_50, gf_86_2, pf_86_2, gf_86_3, pf_86_3, gf_86_4, pf_86_4, gf_86_5, pf_86_5, gf_86_6, ar_51, al_51, gf_86_7, ar_52, al_52, gf_86_8, ar_53, al_53, gf_86_9, ar_54, al_54, gf_86_10, ar_55, al_55, gf_86_11, ar_56, al_56, gf_86_12, ar_57, al_57, gf_86_13, pf_86_13, gf_86_14, pf_86_14, gf_86_15, ar_58, al_58, gf_86_16, ar_59, al_59, gf_86_17, ar_60, al_60, gf_86_18, ar_61, al_61, gf_86_19, ar_62, al_62, gf_86_20, pf_86_20, gf_86_21, pf_86_21, gf_86_22, ar_63, al_63, gf_86_23, ar_64, al_64, gf_86_24, ar_65, al_65, gf_86_25, ar_66, al_66, gf_86_26, ar_67, al_67, gf_86_27, ar_68, al_68, gf_86_28, ar_69, al_69, gf_86_29, ar_70, al_70, gf_86_30, ar_71, al_71, gf_86_31, ar_72, al_72, gf_86_32, ar_73, al_73, gf_86_33, ar_74, al_74, gf_86_34, pf_86_34]
    refine sp_nextR hm hS hF ha hb ht (fun s s1 => ?_) (fun z => ?_)
    · have := s1.1
      have := s1.2.1
      have K := H (s + 1) (Or.inl (Or.inr ⟨q, by rw [show s + 1 - 1 = s by omega]; exact s1⟩)) (by omega) (by omega)
      simp only [eq_self, and_self, am_up_at, Int.cast_ofNat_Int, Int.reduceNatCast, true_or, or_true, or_false, false_or, Classical.not_not, false_and, and_false, am_bk, am_step, am_ldI, am_ldL, am_ldA, am_nth, am_sto, am_stw_0, am_stw_i, am_stw_n, am_stw_a, am_stw_l, am_br, am_cmp, am_tk, am_cat, am_sw, am_copy, am_R, am_nc0, am_nc1, am_f0, am_f1, am_f2, am_f3, Int.reduceNeg, Int.reduceEq, Int.reduceLE, Int.reduceLT, Nat.reduceLeDiff, Nat.reduceAdd, Nat.reduceEqDiff, true_and, and_true, ↓reduceIte, if_false, if_true, forall_const, not_true_eq_false, not_false_eq_true, false_implies, true_implies, implies_true, Int.reduceAdd, Int.reduceMul, Int.reduceSub, ne_eq, ca_132_86, bl_132_64, bl_132_70, bl_132_73, gf_86_0, pf_86_0, gf_86_1, ar_50, al_50, gf_86_2, pf_86_2, gf_86_3, pf_86_3, gf_86_4, pf_86_4, gf_86_5, pf_86_5, gf_86_6, ar_51, al_51, gf_86_7, ar_52, al_52, gf_86_8, ar_53, al_53, gf_86_9, ar_54, al_54, gf_86_10, ar_55, al_55, gf_86_11, ar_56, al_56, gf_86_12, ar_57, al_57, gf_86_13, pf_86_13, gf_86_14, pf_86_14, gf_86_15, ar_58, al_58, gf_86_16, ar_59, al_59, gf_86_17, ar_60, al_60, gf_86_18, ar_61, al_61, gf_86_19, ar_62, al_62, gf_86_20, pf_86_20, gf_86_21, pf_86_21, gf_86_22, ar_63, al_63, gf_86_23, ar_64, al_64, gf_86_24, ar_65, al_65, gf_86_25, ar_66, al_66, gf_86_26, ar_67, al_67, gf_86_27, ar_68, al_68, gf_86_28, ar_69, al_69, gf_86_29, ar_70, al_70, gf_86_30, ar_71, al_71, gf_86_31, ar_72, al_72, gf_86_32, ar_73, al_73, gf_86_33, ar_74, al_74, gf_86_34, pf_86_34]
      (repeat' (first | with_reducible apply And.intro | with_reducible intro _)) <;> first | omega | exact K
    · have K := H 99999 (Or.inr ⟨rfl, fun v hv => by
        rcases hv with ⟨z1, _⟩ | ⟨_, z1⟩
        · exact q z1
        · exact z _ z1.1 z1.2.2.1⟩) (by omega) (by omega)
      simp only [eq_self, and_self, am_up_at, Int.cast_ofNat_Int, Int.reduceNatCast, true_or, or_true, or_false, false_or, Classical.not_not, false_and, and_false, am_bk, am_step, am_ldI, am_ldL, am_ldA, am_nth, am_sto, am_stw_0, am_stw_i, am_stw_n, am_stw_a, am_stw_l, am_br, am_cmp, am_tk, am_cat, am_sw, am_copy, am_R, am_nc0, am_nc1, am_f0, am_f1, am_f2, am_f3, Int.reduceNeg, Int.reduceEq, Int.reduceLE, Int.reduceLT, Nat.reduceLeDiff, Nat.reduceAdd, Nat.reduceEqDiff, true_and, and_true, ↓reduceIte, if_false, if_true, forall_const, not_true_eq_false, not_false_eq_true, false_implies, true_implies, implies_true, Int.reduceAdd, Int.reduceMul, Int.reduceSub, ne_eq, ca_132_86, bl_132_64, bl_132_70, bl_132_73, gf_86_0, pf_86_0, gf_86_1, ar_50, al_50, gf_86_2, pf_86_2, gf_86_3, pf_86_3, gf_86_4, pf_86_4, gf_86_5, pf_86_5, gf_86_6, ar_51, al_51, gf_86_7, ar_52, al_52, gf_86_8, ar_53, al_53, gf_86_9, ar_54, al_54, gf_86_10, ar_55, al_55, gf_86_11, ar_56, al_56, gf_86_12, ar_57, al_57, gf_86_13, pf_86_13, gf_86_14, pf_86_14, gf_86_15, ar_58, al_58, gf_86_16, ar_59, al_59, gf_86_17, ar_60, al_60, gf_86_18, ar_61, al_61, gf_86_19, ar_62, al_62, gf_86_20, pf_86_20, gf_86_21, pf_86_21, gf_86_22, ar_63, al_63, gf_86_23, ar_64, al_64, gf_86_24, ar_65, al_65, gf_86_25, ar_66, al_66, gf_86_26, ar_67, al_67, gf_86_27, ar_68, al_68, gf_86_28, ar_69, al_69, gf_86_29, ar_70, al_70, gf_86_30, ar_71, al_71, gf_86_31, ar_72, al_72, gf_86_32, ar_73, al_73, gf_86_33, ar_74, al_74, gf_86_34, pf_86_34]
      (repeat' (first | with_reducible apply And.intro | with_reducible intro _)) <;> first | omega | exact K
  (repeat' (first | with_reducible apply And.intro | with_reducible intro _)) <;> first | omega | exact nq (by assumption) | (refine am_leaf (K1 (by omega)) ?_; unfold wk; simp only; (repeat' split) <;> omega)
def fr_m (h h1 : am_H) : Prop := ∀ c, c ≠ 68 → c ≠ 69 → h1 c = h c
theorem fr_m_sg {h h1 : am_H} (f : fr_m h h1) : sg_of h1 = sg_of h := by
  simp only [sg_of, sg_U, sg_G, sg_ri, sg_rm, sg_pl, sg_kd, sg_pc, sg_fr, sg_la, f 86 (by omega) (by omega), f 51 (by omega) (by omega), f 52 (by omega) (by omega), f 53 (by omega) (by omega), f 54 (by omega) (by omega), f 55 (by omega) (by omega), f 56 (by omega) (by omega), f 57 (by omega) (by omega)]
def gf_a (h0 h : am_H) (a t g : Int) : Prop := (∀ j, 0 ≤ j → j < g → h 68 j = (if j = a then t else 99999) ∧ h 69 j = 0) ∧ fr_m h0 h
set_option maxHeartbeats 400000 in
set_option maxRecDepth 100000 in
theorem lp_gfa {S : sg_S} {a t : Int} {h0 : am_H} {Q : am_P} (hm0 : sg_of h0 = S) (hS : sg_ok S) (ha : 0 ≤ a ∧ a < sg_G S) (ht : 0 ≤ t ∧ t ≤ 50000) (H : ∀ h1, gf_a h0 h1 a t (sg_G S) → am_Ex 133 25 [some (.inr (.inr (some 86))), some (.inl a), some (.inl t), some (.inl 0), none, none, none] [] h1 Q) :
    ∀ (m : Nat) (g : Int) (h : am_H), 0 ≤ g → g + m = sg_G S → gf_a h0 h a t g → am_Ex 133 2 [some (.inr (.inr (some 86))), some (.inl a), some (.inl t), some (.inl g), none, none, none] [] h Q := by
  intro m
  have hG := hS.2.1
  induction m with
  | zero =>
    intro g h g0 g1 I
    have e : h 86 5 = sg_G S := by rw [← hm0, ← fr_m_sg I.2]; rfl
    have K := H h (by rw [show sg_G S = g by omega]; exact I)
    rw [bl_133_2]
    simp only [eq_self, and_self, am_up_at, Int.cast_ofNat_Int, Int.reduceNatCast, true_or, or_true, or_false, false_or, Classical.not_not, false_and, and_false, am_bk, am_step, am_ldI, am_ldL, am_ldA, am_nth, am_sto, am_stw_0, am_stw_i, am_stw_n, am_stw_a, am_stw_l, am_br, am_cmp, am_tk, am_cat, am_sw, am_copy, am_R, am_nc0, am_nc1, am_f0, am_f1, am_f2, am_f3, Int.reduceNeg, Int.reduceEq, Int.reduceLE, Int.reduceLT, Nat.reduceLeDiff, Nat.reduceAdd, Nat.reduceEqDiff, true_and, and_true, ↓reduceIte, if_false, if_true, forall_const, not_true_eq_false, not_false_eq_true, false_implies, true_implies, implies_true, Int.reduceAdd, Int.reduceMul, Int.reduceSub, ne_eq, ca_133_86, bl_133_23, gf_86_0, pf_86_0, gf_86_1, ar_50, al_50, gf_86_2, pf_86_2, gf_86_3, pf_86_3, gf_86_4, pf_86_4, gf_86_5, pf_86_5, gf_86_6, ar_51, al_51, gf_86_7, ar_52, al_52, gf_86_8, ar_53, al_53, gf_86_9, ar_54, al_54, gf_86_10, ar_55, al_55, gf_86_11, ar_56, al_56, gf_86_12, ar_57, al_57, gf_86_13, pf_86_13, gf_86_14, pf_86_14, gf_86_15, ar_58, al_58, gf_86_16, ar_59, al_59, gf_86_17, ar_60, al_60, gf_86_18, ar_61, al_61, gf_86_19, ar_62, al_62, gf_86_20, pf_86_20, gf_86_21, pf_86_21, gf_86_22, ar_63, al_63, gf_86_23, ar_64, al_64, gf_86_24, ar_65, al_65, gf_86_25, ar_66, al_66, gf_86_26, ar_67, al_67, gf_86_27, ar_68, al_68, gf_86_28, ar_69, al_69, gf_86_29, ar_70, al_70, gf_86_30, ar_71, al_71, gf_86_31, ar_72, al_72, gf_86_32, ar_73, al_73, gf_86_33, ar_74, al_74, gf_86_34, pf_86_34, e]
    (repeat' (first | with_reducible apply And.intro | with_reducible intro _)) <;> first | omega | exact K
  | succ m ih =>
    intro g h g0 g1 I
    have e : h 86 5 = sg_G S := by rw [← hm0, ← fr_m_sg I.2]; rfl
    have K : ∀ v, v = (if g = a then t else 99999) → am_Ex 133 2 [some (.inr (.inr (some 86))), some (.inl a), some (.inl t), some (.inl (g + 1)), none, none, none] [] (am_up (am_up h 68 g v) 69 g 0) Q := by
      intro v hv
      refine ih (g + 1) _ (by omega) (by omega) ⟨fun j j1 j2 => ?_, fun c c1 c2 => by rw [am_up_ne c2, am_up_ne c1, I.2 c c1 c2]⟩
      simp only [eq_self, and_self, am_up_at, am_up_ne, ne_eq, Nat.reduceEqDiff, Int.reduceEq, Int.reduceNeg, not_false_eq_true, false_and, and_false, true_and, and_true, ↓reduceIte, if_false, if_true, Int.reduceAdd, Int.reduceMul, Nat.reduceAdd]
      by_cases z : j = g
      · rw [if_pos z, if_pos z, hv, z]; exact ⟨rfl, rfl⟩
      · rw [if_neg z, if_neg z]; exact I.1 j j1 (by omega)
    rw [bl_133_2]
    simp only [eq_self, and_self, am_up_at, Int.cast_ofNat_Int, Int.reduceNatCast, true_or, or_true, or_false, false_or, Classical.not_not, false_and, and_false, am_bk, am_step, am_ldI, am_ldL, am_ldA, am_nth, am_sto, am_stw_0, am_stw_i, am_stw_n, am_stw_a, am_stw_l, am_br, am_cmp, am_tk, am_cat, am_sw, am_copy, am_R, am_nc0, am_nc1, am_f0, am_f1, am_f2, am_f3, Int.reduceNeg, Int.reduceEq, Int.reduceLE, Int.reduceLT, Nat.reduceLeDiff, Nat.reduceAdd, Nat.reduceEqDiff, true_and, and_true, ↓reduceIte, if_false, if_true, forall_const, not_true_eq_false, not_false_eq_true, false_implies, true_implies, implies_true, Int.reduceAdd, Int.reduceMul, Int.reduceSub, ne_eq, ca_133_86, bl_133_6, bl_133_14, bl_133_15, gf_86_0, pf_86_0, gf_86_1, ar_50, al_50, gf_86_2, pf_86_2, gf_86_3, pf_86_3, gf_86_4, pf_86_4, gf_86_5, pf_86_5, gf_86_6, ar_51, al_51, gf_86_7, ar_52, al_52, gf_86_8, ar_53, al_53, gf_86_9, ar_54, al_54, gf_86_10, ar_55, al_55, gf_86_11, ar_56, al_56, gf_86_12, ar_57, al_57, gf_86_13, pf_86_13, gf_86_14, pf_86_14, gf_86_15, ar_58, al_58, gf_86_16, ar_59, al_59, gf_86_17, ar_60, al_60, gf_86_18, ar_61, al_61, gf_86_19, ar_62, al_62, gf_86_20, pf_86_20, gf_86_21, pf_86_21, gf_86_22, ar_63, al_63, gf_86_23, ar_64, al_64, gf_86_24, ar_65, al_65, gf_86_25, ar_66, al_66, gf_86_26, ar_67, al_67, gf_86_27, ar_68, al_68, gf_86_28, ar_69, al_69, gf_86_29, ar_70, al_70, gf_86_30, ar_71, al_71, gf_86_31, ar_72, al_72, gf_86_32, ar_73, al_73, gf_86_33, ar_74, al_74, gf_86_34, pf_86_34, e]
    (repeat' (first | with_reducible apply And.intro | with_reducible intro _)) <;> first | omega | exact K _ (by split <;> omega)
/-- the gate that comes next -/
def sfm (A D : Int → Int) (g f : Int) : Prop := (f = -9 ∧ ∀ b, 0 ≤ b → b < g → D b ≠ 1 → 99999 ≤ A b) ∨ ((0 ≤ f ∧ f < g) ∧ D f ≠ 1 ∧ A f < 99999 ∧ ∀ b, 0 ≤ b → b < g → D b ≠ 1 → A f ≤ A b)
theorem sfm_s {A D : Int → Int} {g f : Int} (hg : 0 ≤ g) (h : sfm A D g f) : (D g ≠ 1 ∧ A g < 99999 ∧ (f = -9 ∨ A g < A f) → sfm A D (g + 1) g) ∧ (¬ (D g ≠ 1 ∧ A g < 99999 ∧ (f = -9 ∨ A g < A f)) → sfm A D (g + 1) f) := by
  have lift : ∀ x, (∀ b, 0 ≤ b → b < g → D b ≠ 1 → x ≤ A b) → (D g ≠ 1 → x ≤ A g) → ∀ b, 0 ≤ b → b < g + 1 → D b ≠ 1 → x ≤ A b := by
    intro x h1 h2 b b1 b2 b3
    by_cases e : b = g
    · rw [e] at b3 ⊢; exact h2 b3
    · exact h1 b b1 (by omega) b3
  refine ⟨fun q => ?_, fun q => ?_⟩
  · right
    rcases h with ⟨a1, a3⟩ | ⟨a1, a2, a4, a5⟩
    · exact ⟨by omega, q.1, q.2.1, lift _ (fun b b1 b2 b3 => by have := a3 b b1 b2 b3; omega) (fun _ => by omega)⟩
    · exact ⟨by omega, q.1, q.2.1, lift _ (fun b b1 b2 b3 => by have := a5 b b1 b2 b3; omega) (fun _ => by omega)⟩
  · rcases h with ⟨a1, a3⟩ | ⟨a1, a2, a4, a5⟩
    · exact Or.inl ⟨a1, lift _ a3 (fun z => by omega)⟩
    · exact Or.inr ⟨by omega, a2, a4, lift _ a5 (fun z => by omega)⟩
set_option maxHeartbeats 400000 in
set_option maxRecDepth 100000 in
theorem lp_sfm {S : sg_S} {a t n : Int} {h : am_H} {Q : am_P} (hm : sg_of h = S) (hS : sg_ok S) (hA : ∀ b, 0 ≤ b → b < sg_G S → (0 ≤ h 68 b ∧ h 68 b ≤ 99999) ∧ (h 69 b = 0 ∨ h 69 b = 1)) (H : ∀ f, sfm (h 68) (h 69) (sg_G S) f → am_Ex 133 66 [some (.inr (.inr (some 86))), some (.inl a), some (.inl t), some (.inl n), some (.inl f), some (.inl (sg_G S)), none] [] h Q) :
    ∀ (m : Nat) (g f : Int), 0 ≤ g → g + m = sg_G S → sfm (h 68) (h 69) g f → am_Ex 133 33 [some (.inr (.inr (some 86))), some (.inl a), some (.inl t), some (.inl n), some (.inl f), some (.inl g), none] [] h Q := by
  intro m
  have hG := hS.2.1
  have e : h 86 5 = sg_G S := by rw [← hm]; rfl
  induction m with
  | zero =>
    intro g f g0 g1 I
    have eg : g = sg_G S := by omega
    subst eg
    have K := H f I
    rw [bl_133_33]
    simp only [eq_self, and_self, am_up_at, Int.cast_ofNat_Int, Int.reduceNatCast, true_or, or_true, or_false, false_or, Classical.not_not, false_and, and_false, am_bk, am_step, am_ldI, am_ldL, am_ldA, am_nth, am_sto, am_stw_0, am_stw_i, am_stw_n, am_stw_a, am_stw_l, am_br, am_cmp, am_tk, am_cat, am_sw, am_copy, am_R, am_nc0, am_nc1, am_f0, am_f1, am_f2, am_f3, Int.reduceNeg, Int.reduceEq, Int.reduceLE, Int.reduceLT, Nat.reduceLeDiff, Nat.reduceAdd, Nat.reduceEqDiff, true_and, and_true, ↓reduceIte, if_false, if_true, forall_const, not_true_eq_false, not_false_eq_true, false_implies, true_implies, implies_true, Int.reduceAdd, Int.reduceMul, Int.reduceSub, ne_eq, gf_86_0, pf_86_0, gf_86_1, ar_50, al_50, gf_86_2, pf_86_2, gf_86_3, pf_86_3, gf_86_4, pf_86_4, gf_86_5, pf_86_5, gf_86_6, ar_51, al_51, gf_86_7, ar_52, al_52, gf_86_8, ar_53, al_53, gf_86_9, ar_54, al_54, gf_86_10, ar_55, al_55, gf_86_11, ar_56, al_56, gf_86_12, ar_57, al_57, gf_86_13, pf_86_13, gf_86_14, pf_86_14, gf_86_15, ar_58, al_58, gf_86_16, ar_59, al_59, gf_86_17, ar_60, al_60, gf_86_18, ar_61, al_61, gf_86_19, ar_62, al_62, gf_86_20, pf_86_20, gf_86_21, pf_86_21, gf_86_22, ar_63, al_63, gf_86_23, ar_64, al_64, gf_86_24, ar_65, al_65, gf_86_25, ar_66, al_66, gf_86_26, ar_67, al_67, gf_86_27, ar_68, al_68, gf_86_28, ar_69, al_69, gf_86_29, ar_70, al_70, gf_86_30, ar_71, al_71, gf_86_31, ar_72, al_72, gf_86_32, ar_73, al_73, gf_86_33, ar_74, al_74, gf_86_34, pf_86_34, e]
    (repeat' (first | with_reducible apply And.intro | with_reducible intro _)) <;> first | omega | exact K
  | succ m ih =>
    intro g f g0 g1 I
    have s := sfm_s g0 I
    have rg := hA g (by omega) (by omega)
    have rf : f = -9 ∨ ((0 ≤ f ∧ f < g) ∧ 0 ≤ h 68 f ∧ h 68 f ≤ 99999) := by
      rcases I with q | q
      · exact Or.inl q.1
      · have := hA f (by omega) (by omega); exact Or.inr ⟨q.1, by omega⟩
    have K1 := fun q => ih (g + 1) g (by omega) (by omega) (s.1 q)
    have K2 := fun q => ih (g + 1) f (by omega) (by omega) (s.2 q)
    rw [bl_133_33]
    simp only [eq_self, and_self, am_up_at, Int.cast_ofNat_Int, Int.reduceNatCast, true_or, or_true, or_false, false_or, Classical.not_not, false_and, and_false, am_bk, am_step, am_ldI, am_ldL, am_ldA, am_nth, am_sto, am_stw_0, am_stw_i, am_stw_n, am_stw_a, am_stw_l, am_br, am_cmp, am_tk, am_cat, am_sw, am_copy, am_R, am_nc0, am_nc1, am_f0, am_f1, am_f2, am_f3, Int.reduceNeg, Int.reduceEq, Int.reduceLE, Int.reduceLT, Nat.reduceLeDiff, Nat.reduceAdd, Nat.reduceEqDiff, true_and, and_true, ↓reduceIte, if_false, if_true, forall_const, not_true_eq_false, not_false_eq_true, false_implies, true_implies, implies_true, Int.reduceAdd, Int.reduceMul, Int.reduceSub, ne_eq, ca_133_86, bl_133_37, bl_133_49, bl_133_60, bl_133_62, bl_133_63, gf_86_0, pf_86_0, gf_86_1, ar_50, al_50, gf_86_2, pf_86_2, gf_86_3, pf_86_3, gf_86_4, pf_86_4, gf_86_5, pf_86_5, gf_86_6, ar_51, al_51, gf_86_7, ar_52, al_52, gf_86_8, ar_53, al_53, gf_86_9, ar_54, al_54, gf_86_10, ar_55, al_55, gf_86_11, ar_56, al_56, gf_86_12, ar_57, al_57, gf_86_13, pf_86_13, gf_86_14, pf_86_14, gf_86_15, ar_58, al_58, gf_86_16, ar_59, al_59, gf_86_17, ar_60, al_60, gf_86_18, ar_61, al_61, gf_86_19, ar_62, al_62, gf_86_20, pf_86_20, gf_86_21, pf_86_21, gf_86_22, ar_63, al_63, gf_86_23, ar_64, al_64, gf_86_24, ar_65, al_65, gf_86_25, ar_66, al_66, gf_86_26, ar_67, al_67, gf_86_27, ar_68, al_68, gf_86_28, ar_69, al_69, gf_86_29, ar_70, al_70, gf_86_30, ar_71, al_71, gf_86_31, ar_72, al_72, gf_86_32, ar_73, al_73, gf_86_33, ar_74, al_74, gf_86_34, pf_86_34, e]
    (repeat' (first | with_reducible apply And.intro | with_reducible intro _)) <;> first | omega | exact K1 (by omega) | exact K2 (by omega)
def rlm (S : sg_S) (A B D : Int → Int) (g x : Int) : Prop := ∀ b, 0 ≤ b → b < sg_G S → (b < x ∧ D b ≠ 1 ∧ ∃ r, rc 99999 S g (A g) b r ∧ B b = if r < A b then r else A b) ∨ (¬ (b < x ∧ D b ≠ 1) ∧ B b = A b)
set_option maxHeartbeats 400000 in
set_option maxRecDepth 100000 in
theorem lp_rlm {S : sg_S} {a t n g : Int} {h0 : am_H} {Q : am_P} (hm0 : sg_of h0 = S) (hS : sg_ok S) (hF : tb_fit S) (hg : 0 ≤ g ∧ g < sg_G S) (hgb : h0 69 g = 1) (hA : ∀ b, 0 ≤ b → b < sg_G S → (0 ≤ h0 68 b ∧ h0 68 b ≤ 99999) ∧ (h0 69 b = 0 ∨ h0 69 b = 1)) (hA2 : h0 68 g ≤ 90000) (H : ∀ h1, (∀ c, c ≠ 68 → h1 c = h0 c) → rlm S (h0 68) (h1 68) (h0 69) g (sg_G S) → am_Ex 133 115 [some (.inr (.inr (some 86))), some (.inl a), some (.inl t), some (.inl n), some (.inl g), some (.inl (sg_G S)), none] [] h1 Q) :
    ∀ (m : Nat) (x : Int) (h : am_H), 0 ≤ x → x + m = sg_G S → (∀ c, c ≠ 68 → h c = h0 c) → rlm S (h0 68) (h 68) (h0 69) g x → am_Ex 133 77 [some (.inr (.inr (some 86))), some (.inl a), some (.inl t), some (.inl n), some (.inl g), some (.inl x), none] [] h Q := by
  intro m
  have hG := hS.2.1
  induction m with
  | zero =>
    intro x h x0 x1 hf I
    have e : h 86 5 = sg_G S := by rw [← hm0, ← fr_m_sg (fun c c1 c2 => hf c c1)]; rfl
    have ex : x = sg_G S := by omega
    subst ex
    have K := H h hf I
    rw [bl_133_77]
    simp only [eq_self, and_self, am_up_at, Int.cast_ofNat_Int, Int.reduceNatCast, true_or, or_true, or_false, false_or, Classical.not_not, false_and, and_false, am_bk, am_step, am_ldI, am_ldL, am_ldA, am_nth, am_sto, am_stw_0, am_stw_i, am_stw_n, am_stw_a, am_stw_l, am_br, am_cmp, am_tk, am_cat, am_sw, am_copy, am_R, am_nc0, am_nc1, am_f0, am_f1, am_f2, am_f3, Int.reduceNeg, Int.reduceEq, Int.reduceLE, Int.reduceLT, Nat.reduceLeDiff, Nat.reduceAdd, Nat.reduceEqDiff, true_and, and_true, ↓reduceIte, if_false, if_true, forall_const, not_true_eq_false, not_false_eq_true, false_implies, true_implies, implies_true, Int.reduceAdd, Int.reduceMul, Int.reduceSub, ne_eq, gf_86_0, pf_86_0, gf_86_1, ar_50, al_50, gf_86_2, pf_86_2, gf_86_3, pf_86_3, gf_86_4, pf_86_4, gf_86_5, pf_86_5, gf_86_6, ar_51, al_51, gf_86_7, ar_52, al_52, gf_86_8, ar_53, al_53, gf_86_9, ar_54, al_54, gf_86_10, ar_55, al_55, gf_86_11, ar_56, al_56, gf_86_12, ar_57, al_57, gf_86_13, pf_86_13, gf_86_14, pf_86_14, gf_86_15, ar_58, al_58, gf_86_16, ar_59, al_59, gf_86_17, ar_60, al_60, gf_86_18, ar_61, al_61, gf_86_19, ar_62, al_62, gf_86_20, pf_86_20, gf_86_21, pf_86_21, gf_86_22, ar_63, al_63, gf_86_23, ar_64, al_64, gf_86_24, ar_65, al_65, gf_86_25, ar_66, al_66, gf_86_26, ar_67, al_67, gf_86_27, ar_68, al_68, gf_86_28, ar_69, al_69, gf_86_29, ar_70, al_70, gf_86_30, ar_71, al_71, gf_86_31, ar_72, al_72, gf_86_32, ar_73, al_73, gf_86_33, ar_74, al_74, gf_86_34, pf_86_34, e]
    (repeat' (first | with_reducible apply And.intro | with_reducible intro _)) <;> first | omega | exact K
  | succ m ih =>
    intro x h x0 x1 hf I
    have em : sg_of h = S := by rw [← hm0, ← fr_m_sg (fun c c1 c2 => hf c c1)]
    have e : h 86 5 = sg_G S := by rw [← em]; rfl
    have e69 : h 69 = h0 69 := hf 69 (by omega)
    have Ix : h 68 x = h0 68 x := by
      rcases I x (by omega) (by omega) with q | q
      · omega
      · exact q.2
    have Ig : h 68 g = h0 68 g := by
      rcases I g hg.1 hg.2 with q | q
      · exact absurd hgb q.2.1
      · exact q.2
    have rx := hA x (by omega) (by omega)
    have rg := hA g hg.1 hg.2
    have up : ∀ v, ((h0 69 x = 1 ∧ v = h0 68 x) ∨ (h0 69 x ≠ 1 ∧ ∃ r, rc 99999 S g (h0 68 g) x r ∧ v = if r < h0 68 x then r else h0 68 x)) → am_Ex 133 77 [some (.inr (.inr (some 86))), some (.inl a), some (.inl t), some (.inl n), some (.inl g), some (.inl (x + 1)), none] [] (am_up h 68 x v) Q := by
      intro v hv
      refine ih (x + 1) _ (by omega) (by omega) (fun c hc => by rw [am_up_ne hc, hf c hc]) (fun b b1 b2 => ?_)
      simp only [am_up_at, true_and]
      by_cases eb : b = x
      · rw [if_pos eb]
        subst eb
        rcases hv with ⟨z1, z2⟩ | ⟨z1, z2⟩
        · exact Or.inr ⟨fun w => w.2 z1, z2⟩
        · exact Or.inl ⟨by omega, z1, z2⟩
      · rw [if_neg eb]
        rcases I b b1 b2 with z | z
        · exact Or.inl ⟨by omega, z.2⟩
        · exact Or.inr ⟨fun w => z.1 ⟨by omega, w.2⟩, z.2⟩
    have out : ∀ y, (0 ≤ y ∧ y ≤ 99999) → ((h0 69 x = 1 ∧ y = 99999) ∨ (h0 69 x ≠ 1 ∧ rc 99999 S g (h0 68 g) x y)) → am_Ex 133 96 [some (.inr (.inr (some 86))), some (.inl a), some (.inl t), some (.inl n), some (.inl g), some (.inl x), none] [.inl y] h Q := by
      intro y hy hv
      simp only [eq_self, and_self, am_up_at, Int.cast_ofNat_Int, Int.reduceNatCast, true_or, or_true, or_false, false_or, Classical.not_not, false_and, and_false, am_bk, am_step, am_ldI, am_ldL, am_ldA, am_nth, am_sto, am_stw_0, am_stw_i, am_stw_n, am_stw_a, am_stw_l, am_br, am_cmp, am_tk, am_cat, am_sw, am_copy, am_R, am_nc0, am_nc1, am_f0, am_f1, am_f2, am_f3, Int.reduceNeg, Int.reduceEq, Int.reduceLE, Int.reduceLT, Nat.reduceLeDiff, Nat.reduceAdd, Nat.reduceEqDiff, true_and, and_true, ↓reduceIte, if_false, if_true, forall_const, not_true_eq_false, not_false_eq_true, false_implies, true_implies, implies_true, Int.reduceAdd, Int.reduceMul, Int.reduceSub, ne_eq, ca_133_86, bl_133_96, bl_133_108, bl_133_112, gf_86_0, pf_86_0, gf_86_1, ar_50, al_50, gf_86_2, pf_86_2, gf_86_3, pf_86_3, gf_86_4, pf_86_4, gf_86_5, pf_86_5, gf_86_6, ar_51, al_51, gf_86_7, ar_52, al_52, gf_86_8, ar_53, al_53, gf_86_9, ar_54, al_54, gf_86_10, ar_55, al_55, gf_86_11, ar_56, al_56, gf_86_12, ar_57, al_57, gf_86_13, pf_86_13, gf_86_14, pf_86_14, gf_86_15, ar_58, al_58, gf_86_16, ar_59, al_59, gf_86_17, ar_60, al_60, gf_86_18, ar_61, al_61, gf_86_19, ar_62, al_62, gf_86_20, pf_86_20, gf_86_21, pf_86_21, gf_86_22, ar_63, al_63, gf_86_23, ar_64, al_64, gf_86_24, ar_65, al_65, gf_86_25, ar_66, al_66, gf_86_26, ar_67, al_67, gf_86_27, ar_68, al_68, gf_86_28, ar_69, al_69, gf_86_29, ar_70, al_70, gf_86_30, ar_71, al_71, gf_86_31, ar_72, al_72, gf_86_32, ar_73, al_73, gf_86_33, ar_74, al_74, gf_86_34, pf_86_34, Ix]
      have K1 : y < h0 68 x → am_Ex 133 77 [some (.inr (.inr (some 86))), some (.inl a), some (.inl t), some (.inl n), some (.inl g), some (.inl (x + 1)), none] [] (am_up h 68 x y) Q := fun q => up y (by
        rcases hv with z | z
        · omega
        · exact Or.inr ⟨z.1, y, z.2, by rw [if_pos q]⟩)
      have K2 : ¬ y < h0 68 x → am_Ex 133 77 [some (.inr (.inr (some 86))), some (.inl a), some (.inl t), some (.inl n), some (.inl g), some (.inl (x + 1)), none] [] (am_up h 68 x (h0 68 x)) Q := fun q => up (h0 68 x) (by
        rcases hv with z | z
        · exact Or.inl ⟨z.1, rfl⟩
        · exact Or.inr ⟨z.1, y, z.2, by rw [if_neg q]⟩)
      (repeat' (first | with_reducible apply And.intro | with_reducible intro _)) <;> first | omega | exact am_forget (K1 (by omega)) (by simp [am_lq]) | exact am_forget (K2 (by omega)) (by simp [am_lq])
    have K1 : h0 69 x ≠ 1 → am_Ex 133 88 [some (.inr (.inr (some 86))), some (.inl a), some (.inl t), some (.inl n), some (.inl g), some (.inl x), none] [] h Q := by
      intro q
      simp only [eq_self, and_self, am_up_at, Int.cast_ofNat_Int, Int.reduceNatCast, true_or, or_true, or_false, false_or, Classical.not_not, false_and, and_false, am_bk, am_step, am_ldI, am_ldL, am_ldA, am_nth, am_sto, am_stw_0, am_stw_i, am_stw_n, am_stw_a, am_stw_l, am_br, am_cmp, am_tk, am_cat, am_sw, am_copy, am_R, am_nc0, am_nc1, am_f0, am_f1, am_f2, am_f3, Int.reduceNeg, Int.reduceEq, Int.reduceLE, Int.reduceLT, Nat.reduceLeDiff, Nat.reduceAdd, Nat.reduceEqDiff, true_and, and_true, ↓reduceIte, if_false, if_true, forall_const, not_true_eq_false, not_false_eq_true, false_implies, true_implies, implies_true, Int.reduceAdd, Int.reduceMul, Int.reduceSub, ne_eq, ca_133_86, bl_133_88, gf_86_0, pf_86_0, gf_86_1, ar_50, al_50, gf_86_2, pf_86_2, gf_86_3, pf_86_3, gf_86_4, pf_86_4, gf_86_5, pf_86_5, gf_86_6, ar_51, al_51, gf_86_7, ar_52, al_52, gf_86_8, ar_53, al_53, gf_86_9, ar_54, al_54, gf_86_10, ar_55, al_55, gf_86_11, ar_56, al_56, gf_86_12, ar_57, al_57, gf_86_13, pf_86_13, gf_86_14, pf_86_14, gf_86_15, ar_58, al_58, gf_86_16, ar_59, al_59, gf_86_17, ar_60, al_60, gf_86_18, ar_61, al_61, gf_86_19, ar_62, al_62, gf_86_20, pf_86_20, gf_86_21, pf_86_21, gf_86_22, ar_63, al_63, gf_86_23, ar_64, al_64, gf_86_24, ar_65, al_65, gf_86_25, ar_66, al_66, gf_86_26, ar_67, al_67, gf_86_27, ar_68, al_68, gf_86_28, ar_69, al_69, gf_86_29, ar_70, al_70, gf_86_30, ar_71, al_71, gf_86_31, ar_72, al_72, gf_86_32, ar_73, al_73, gf_86_33, ar_74, al_74, gf_86_34, pf_86_34, Ig]
      (repeat' (first | with_reducible apply And.intro | with_reducible intro _)) <;> first | omega | exact sp_by em hS hF hg (by omega) (by omega) (fun r hr r0 r1 => out r ⟨r0, r1⟩ (Or.inr ⟨by omega, hr⟩))
    have K2 : h0 69 x = 1 → am_Ex 133 96 [some (.inr (.inr (some 86))), some (.inl a), some (.inl t), some (.inl n), some (.inl g), some (.inl x), none] [.inl 99999] h Q := fun q => out 99999 (by omega) (Or.inl ⟨by omega, rfl⟩)
    rw [bl_133_77]
    simp only [eq_self, and_self, am_up_at, Int.cast_ofNat_Int, Int.reduceNatCast, true_or, or_true, or_false, false_or, Classical.not_not, false_and, and_false, am_bk, am_step, am_ldI, am_ldL, am_ldA, am_nth, am_sto, am_stw_0, am_stw_i, am_stw_n, am_stw_a, am_stw_l, am_br, am_cmp, am_tk, am_cat, am_sw, am_copy, am_R, am_nc0, am_nc1, am_f0, am_f1, am_f2, am_f3, Int.reduceNeg, Int.reduceEq, Int.reduceLE, Int.reduceLT, Nat.reduceLeDiff, Nat.reduceAdd, Nat.reduceEqDiff, true_and, and_true, ↓reduceIte, if_false, if_true, forall_const, not_true_eq_false, not_false_eq_true, false_implies, true_implies, implies_true, Int.reduceAdd, Int.reduceMul, Int.reduceSub, ne_eq, ca_133_86, bl_133_81, gf_86_0, pf_86_0, gf_86_1, ar_50, al_50, gf_86_2, pf_86_2, gf_86_3, pf_86_3, gf_86_4, pf_86_4, gf_86_5, pf_86_5, gf_86_6, ar_51, al_51, gf_86_7, ar_52, al_52, gf_86_8, ar_53, al_53, gf_86_9, ar_54, al_54, gf_86_10, ar_55, al_55, gf_86_11, ar_56, al_56, gf_86_12, ar_57, al_57, gf_86_13, pf_86_13, gf_86_14, pf_86_14, gf_86_15, ar_58, al_58, gf_86_16, ar_59, al_59, gf_86_17, ar_60, al_60, gf_86_18, ar_61, al_61, gf_86_19, ar_62, al_62, gf_86_20, pf_86_20, gf_86_21, pf_86_21, gf_86_22, ar_63, al_63, gf_86_23, ar_64, al_64, gf_86_24, ar_65, al_65, gf_86_25, ar_66, al_66, gf_86_26, ar_67, al_67, gf_86_27, ar_68, al_68, gf_86_28, ar_69, al_69, gf_86_29, ar_70, al_70, gf_86_30, ar_71, al_71, gf_86_31, ar_72, al_72, gf_86_32, ar_73, al_73, gf_86_33, ar_74, al_74, gf_86_34, pf_86_34, e, e69]
    (repeat' (first | with_reducible apply And.intro | with_reducible intro _)) <;> first | omega | exact K1 (by omega) | exact K2 (by omega)
set_option maxHeartbeats 400000 in
set_option maxRecDepth 100000 in
theorem lp_goFrom {S : sg_S} {a t : Int} {h0 : am_H} {Q : am_P} (hm0 : sg_of h0 = S) (hS : sg_ok S) (hF : tb_fit S) (ha : 0 ≤ a ∧ a < sg_G S) (ht : 0 ≤ t ∧ t ≤ 50000) (H : ∀ h1, fr_m h0 h1 → (∀ b, 0 ≤ b → b < sg_G S → ar_is 99999 S a t b (h1 68 b)) → Q none h1) :
    ∀ (m : Nat) (n : Int) (h : am_H), 0 ≤ n → n + m = sg_G S → fr_m h0 h → (∀ b, 0 ≤ b → b < sg_G S → h 69 b = 0 ∨ h 69 b = 1) → dj 99999 S a t n (h 68) (h 69) → am_Ex 133 25 [some (.inr (.inr (some 86))), some (.inl a), some (.inl t), some (.inl n), none, none, none] [] h Q := by
  intro m
  have hG := hS.2.1
  induction m with
  | zero =>
    intro n h n0 n1 hf hb hd
    have e : h 86 5 = sg_G S := by rw [← hm0, ← fr_m_sg hf]; rfl
    have en : n = sg_G S := by omega
    subst en
    have all := dj_all hG.1 hd
    have K := H h hf (dj_end hS hF (by omega) ht (by omega) ha hd (fun b b1 b2 z => absurd (all b b1 b2) z))
    rw [bl_133_25]
    simp only [eq_self, and_self, am_up_at, Int.cast_ofNat_Int, Int.reduceNatCast, true_or, or_true, or_false, false_or, Classical.not_not, false_and, and_false, am_bk, am_step, am_ldI, am_ldL, am_ldA, am_nth, am_sto, am_stw_0, am_stw_i, am_stw_n, am_stw_a, am_stw_l, am_br, am_cmp, am_tk, am_cat, am_sw, am_copy, am_R, am_nc0, am_nc1, am_f0, am_f1, am_f2, am_f3, Int.reduceNeg, Int.reduceEq, Int.reduceLE, Int.reduceLT, Nat.reduceLeDiff, Nat.reduceAdd, Nat.reduceEqDiff, true_and, and_true, ↓reduceIte, if_false, if_true, forall_const, not_true_eq_false, not_false_eq_true, false_implies, true_implies, implies_true, Int.reduceAdd, Int.reduceMul, Int.reduceSub, ne_eq, ca_133_86, bl_133_117, gf_86_0, pf_86_0, gf_86_1, ar_50, al_50, gf_86_2, pf_86_2, gf_86_3, pf_86_3, gf_86_4, pf_86_4, gf_86_5, pf_86_5, gf_86_6, ar_51, al_51, gf_86_7, ar_52, al_52, gf_86_8, ar_53, al_53, gf_86_9, ar_54, al_54, gf_86_10, ar_55, al_55, gf_86_11, ar_56, al_56, gf_86_12, ar_57, al_57, gf_86_13, pf_86_13, gf_86_14, pf_86_14, gf_86_15, ar_58, al_58, gf_86_16, ar_59, al_59, gf_86_17, ar_60, al_60, gf_86_18, ar_61, al_61, gf_86_19, ar_62, al_62, gf_86_20, pf_86_20, gf_86_21, pf_86_21, gf_86_22, ar_63, al_63, gf_86_23, ar_64, al_64, gf_86_24, ar_65, al_65, gf_86_25, ar_66, al_66, gf_86_26, ar_67, al_67, gf_86_27, ar_68, al_68, gf_86_28, ar_69, al_69, gf_86_29, ar_70, al_70, gf_86_30, ar_71, al_71, gf_86_31, ar_72, al_72, gf_86_32, ar_73, al_73, gf_86_33, ar_74, al_74, gf_86_34, pf_86_34, e]
    (repeat' (first | with_reducible apply And.intro | with_reducible intro _)) <;> first | omega | exact K
  | succ m ih =>
    intro n h n0 n1 hf hb hd
    have em : sg_of h = S := by rw [← hm0, ← fr_m_sg hf]
    have e : h 86 5 = sg_G S := by rw [← em]; rfl
    have r := dj_r (by omega) ht (by omega) hd
    rw [bl_133_25]
    simp only [eq_self, and_self, am_up_at, Int.cast_ofNat_Int, Int.reduceNatCast, true_or, or_true, or_false, false_or, Classical.not_not, false_and, and_false, am_bk, am_step, am_ldI, am_ldL, am_ldA, am_nth, am_sto, am_stw_0, am_stw_i, am_stw_n, am_stw_a, am_stw_l, am_br, am_cmp, am_tk, am_cat, am_sw, am_copy, am_R, am_nc0, am_nc1, am_f0, am_f1, am_f2, am_f3, Int.reduceNeg, Int.reduceEq, Int.reduceLE, Int.reduceLT, Nat.reduceLeDiff, Nat.reduceAdd, Nat.reduceEqDiff, true_and, and_true, ↓reduceIte, if_false, if_true, forall_const, not_true_eq_false, not_false_eq_true, false_implies, true_implies, implies_true, Int.reduceAdd, Int.reduceMul, Int.reduceSub, ne_eq, ca_133_86, bl_133_29, gf_86_0, pf_86_0, gf_86_1, ar_50, al_50, gf_86_2, pf_86_2, gf_86_3, pf_86_3, gf_86_4, pf_86_4, gf_86_5, pf_86_5, gf_86_6, ar_51, al_51, gf_86_7, ar_52, al_52, gf_86_8, ar_53, al_53, gf_86_9, ar_54, al_54, gf_86_10, ar_55, al_55, gf_86_11, ar_56, al_56, gf_86_12, ar_57, al_57, gf_86_13, pf_86_13, gf_86_14, pf_86_14, gf_86_15, ar_58, al_58, gf_86_16, ar_59, al_59, gf_86_17, ar_60, al_60, gf_86_18, ar_61, al_61, gf_86_19, ar_62, al_62, gf_86_20, pf_86_20, gf_86_21, pf_86_21, gf_86_22, ar_63, al_63, gf_86_23, ar_64, al_64, gf_86_24, ar_65, al_65, gf_86_25, ar_66, al_66, gf_86_26, ar_67, al_67, gf_86_27, ar_68, al_68, gf_86_28, ar_69, al_69, gf_86_29, ar_70, al_70, gf_86_30, ar_71, al_71, gf_86_31, ar_72, al_72, gf_86_32, ar_73, al_73, gf_86_33, ar_74, al_74, gf_86_34, pf_86_34, e]
    refine ⟨by omega, fun q => by omega, fun _ => ?_⟩
    refine lp_sfm em hS (fun b b1 b2 => ⟨by have := r b b1 b2; omega, hb b b1 b2⟩) (fun f hsf => ?_) (sg_G S).toNat 0 (-9) (by omega) (by omega) (Or.inl ⟨rfl, fun b b1 b2 => by omega⟩)
    rcases hsf with ⟨a1, a3⟩ | ⟨a1, a2, a4, a5⟩
    · have K := H h hf (dj_end hS hF (by omega) ht (by omega) ha hd (fun b b1 b2 z => by have := a3 b b1 b2 z; have := r b b1 b2; omega))
      simp only [eq_self, and_self, am_up_at, Int.cast_ofNat_Int, Int.reduceNatCast, true_or, or_true, or_false, false_or, Classical.not_not, false_and, and_false, am_bk, am_step, am_ldI, am_ldL, am_ldA, am_nth, am_sto, am_stw_0, am_stw_i, am_stw_n, am_stw_a, am_stw_l, am_br, am_cmp, am_tk, am_cat, am_sw, am_copy, am_R, am_nc0, am_nc1, am_f0, am_f1, am_f2, am_f3, Int.reduceNeg, Int.reduceEq, Int.reduceLE, Int.reduceLT, Nat.reduceLeDiff, Nat.reduceAdd, Nat.reduceEqDiff, true_and, and_true, ↓reduceIte, if_false, if_true, forall_const, not_true_eq_false, not_false_eq_true, false_implies, true_implies, implies_true, Int.reduceAdd, Int.reduceMul, Int.reduceSub, ne_eq, ca_133_86, bl_133_66, gf_86_0, pf_86_0, gf_86_1, ar_50, al_50, gf_86_2, pf_86_2, gf_86_3, pf_86_3, gf_86_4, pf_86_4, gf_86_5, pf_86_5, gf_86_6, ar_51, al_51, gf_86_7, ar_52, al_52, gf_86_8, ar_53, al_53, gf_86_9, ar_54, al_54, gf_86_10, ar_55, al_55, gf_86_11, ar_56, al_56, gf_86_12, ar_57, al_57, gf_86_13, pf_86_13, gf_86_14, pf_86_14, gf_86_15, ar_58, al_58, gf_86_16, ar_59, al_59, gf_86_17, ar_60, al_60, gf_86_18, ar_61, al_61, gf_86_19, ar_62, al_62, gf_86_20, pf_86_20, gf_86_21, pf_86_21, gf_86_22, ar_63, al_63, gf_86_23, ar_64, al_64, gf_86_24, ar_65, al_65, gf_86_25, ar_66, al_66, gf_86_26, ar_67, al_67, gf_86_27, ar_68, al_68, gf_86_28, ar_69, al_69, gf_86_29, ar_70, al_70, gf_86_30, ar_71, al_71, gf_86_31, ar_72, al_72, gf_86_32, ar_73, al_73, gf_86_33, ar_74, al_74, gf_86_34, pf_86_34]
      (repeat' (first | with_reducible apply And.intro | with_reducible intro _)) <;> first | omega | exact K
    · have rf := r f a1.1 a1.2
      simp only [eq_self, and_self, am_up_at, Int.cast_ofNat_Int, Int.reduceNatCast, true_or, or_true, or_false, false_or, Classical.not_not, false_and, and_false, am_bk, am_step, am_ldI, am_ldL, am_ldA, am_nth, am_sto, am_stw_0, am_stw_i, am_stw_n, am_stw_a, am_stw_l, am_br, am_cmp, am_tk, am_cat, am_sw, am_copy, am_R, am_nc0, am_nc1, am_f0, am_f1, am_f2, am_f3, Int.reduceNeg, Int.reduceEq, Int.reduceLE, Int.reduceLT, Nat.reduceLeDiff, Nat.reduceAdd, Nat.reduceEqDiff, true_and, and_true, ↓reduceIte, if_false, if_true, forall_const, not_true_eq_false, not_false_eq_true, false_implies, true_implies, implies_true, Int.reduceAdd, Int.reduceMul, Int.reduceSub, ne_eq, ca_133_86, bl_133_66, bl_133_70, gf_86_0, pf_86_0, gf_86_1, ar_50, al_50, gf_86_2, pf_86_2, gf_86_3, pf_86_3, gf_86_4, pf_86_4, gf_86_5, pf_86_5, gf_86_6, ar_51, al_51, gf_86_7, ar_52, al_52, gf_86_8, ar_53, al_53, gf_86_9, ar_54, al_54, gf_86_10, ar_55, al_55, gf_86_11, ar_56, al_56, gf_86_12, ar_57, al_57, gf_86_13, pf_86_13, gf_86_14, pf_86_14, gf_86_15, ar_58, al_58, gf_86_16, ar_59, al_59, gf_86_17, ar_60, al_60, gf_86_18, ar_61, al_61, gf_86_19, ar_62, al_62, gf_86_20, pf_86_20, gf_86_21, pf_86_21, gf_86_22, ar_63, al_63, gf_86_23, ar_64, al_64, gf_86_24, ar_65, al_65, gf_86_25, ar_66, al_66, gf_86_26, ar_67, al_67, gf_86_27, ar_68, al_68, gf_86_28, ar_69, al_69, gf_86_29, ar_70, al_70, gf_86_30, ar_71, al_71, gf_86_31, ar_72, al_72, gf_86_32, ar_73, al_73, gf_86_33, ar_74, al_74, gf_86_34, pf_86_34]
      have e68 : (am_up h 69 f 1) 68 = h 68 := am_up_ne (by omega)
      have K := lp_rlm (S := S) (a := a) (t := t) (n := n) (g := f) (h0 := am_up h 69 f 1) (Q := Q) (by rw [← em]; exact fr_m_sg (fun c c1 c2 => am_up_ne c2)) hS hF a1 (by simp only [eq_self, and_self, am_up_at, am_up_ne, ne_eq, Nat.reduceEqDiff, Int.reduceEq, Int.reduceNeg, not_false_eq_true, false_and, and_false, true_and, and_true, ↓reduceIte, if_false, if_true, Int.reduceAdd, Int.reduceMul, Nat.reduceAdd]) (fun b b1 b2 => by
          refine ⟨by have := r b b1 b2; rw [e68]; omega, ?_⟩
          simp only [eq_self, and_self, am_up_at, am_up_ne, ne_eq, Nat.reduceEqDiff, Int.reduceEq, Int.reduceNeg, not_false_eq_true, false_and, and_false, true_and, and_true, ↓reduceIte, if_false, if_true, Int.reduceAdd, Int.reduceMul, Nat.reduceAdd]
          split
          · exact Or.inr rfl
          · exact hb b b1 b2) (by rw [e68]; omega) (fun h1 f1 I => by
          simp only [eq_self, and_self, am_up_at, Int.cast_ofNat_Int, Int.reduceNatCast, true_or, or_true, or_false, false_or, Classical.not_not, false_and, and_false, am_bk, am_step, am_ldI, am_ldL, am_ldA, am_nth, am_sto, am_stw_0, am_stw_i, am_stw_n, am_stw_a, am_stw_l, am_br, am_cmp, am_tk, am_cat, am_sw, am_copy, am_R, am_nc0, am_nc1, am_f0, am_f1, am_f2, am_f3, Int.reduceNeg, Int.reduceEq, Int.reduceLE, Int.reduceLT, Nat.reduceLeDiff, Nat.reduceAdd, Nat.reduceEqDiff, true_and, and_true, ↓reduceIte, if_false, if_true, forall_const, not_true_eq_false, not_false_eq_true, false_implies, true_implies, implies_true, Int.reduceAdd, Int.reduceMul, Int.reduceSub, ne_eq, ca_133_86, bl_133_115, gf_86_0, pf_86_0, gf_86_1, ar_50, al_50, gf_86_2, pf_86_2, gf_86_3, pf_86_3, gf_86_4, pf_86_4, gf_86_5, pf_86_5, gf_86_6, ar_51, al_51, gf_86_7, ar_52, al_52, gf_86_8, ar_53, al_53, gf_86_9, ar_54, al_54, gf_86_10, ar_55, al_55, gf_86_11, ar_56, al_56, gf_86_12, ar_57, al_57, gf_86_13, pf_86_13, gf_86_14, pf_86_14, gf_86_15, ar_58, al_58, gf_86_16, ar_59, al_59, gf_86_17, ar_60, al_60, gf_86_18, ar_61, al_61, gf_86_19, ar_62, al_62, gf_86_20, pf_86_20, gf_86_21, pf_86_21, gf_86_22, ar_63, al_63, gf_86_23, ar_64, al_64, gf_86_24, ar_65, al_65, gf_86_25, ar_66, al_66, gf_86_26, ar_67, al_67, gf_86_27, ar_68, al_68, gf_86_28, ar_69, al_69, gf_86_29, ar_70, al_70, gf_86_30, ar_71, al_71, gf_86_31, ar_72, al_72, gf_86_32, ar_73, al_73, gf_86_33, ar_74, al_74, gf_86_34, pf_86_34]
          have e1 : h1 69 = (am_up h 69 f 1) 69 := f1 69 (by omega)
          refine am_forget (ih (n + 1) h1 (by omega) (by omega) (fun c c1 c2 => by rw [f1 c c1, am_up_ne c2, hf c c1 c2]) (fun b b1 b2 => ?_) ?_) (by simp [am_lq])
          · rw [e1]
            simp only [eq_self, and_self, am_up_at, am_up_ne, ne_eq, Nat.reduceEqDiff, Int.reduceEq, Int.reduceNeg, not_false_eq_true, false_and, and_false, true_and, and_true, ↓reduceIte, if_false, if_true, Int.reduceAdd, Int.reduceMul, Nat.reduceAdd]
            split
            · exact Or.inr rfl
            · exact hb b b1 b2
          · rw [e68] at I
            refine dj_step hS (by omega) ht (by omega) hd a1 a2 (by omega) a5 (fun b b1 b2 => ?_) (fun b b1 b2 b3 => ?_) (fun b b1 b2 b3 => ?_) ha
            · rw [e1]
              simp only [eq_self, and_self, am_up_at, am_up_ne, ne_eq, Nat.reduceEqDiff, Int.reduceEq, Int.reduceNeg, not_false_eq_true, false_and, and_false, true_and, and_true, ↓reduceIte, if_false, if_true, Int.reduceAdd, Int.reduceMul, Nat.reduceAdd]
            · rw [e1] at b3
              rcases I b b1 b2 with z | z
              · exact absurd b3 z.2.1
              · exact z.2
            · rw [e1] at b3
              rcases I b b1 b2 with z | z
              · exact z.2.2
              · exact absurd ⟨b2, b3⟩ z.1) (sg_G S).toNat 0 (am_up h 69 f 1) (by omega) (by omega) (fun _ _ => rfl) (fun b b1 b2 => Or.inr ⟨by omega, rfl⟩)
      (repeat' (first | with_reducible apply And.intro | with_reducible intro _)) <;> first | omega | exact K
set_option maxHeartbeats 400000 in
set_option maxRecDepth 100000 in
theorem sp_goFrom {S : sg_S} {a t : Int} {h : am_H} {Q : am_P} (hm : sg_of h = S) (hS : sg_ok S) (hF : tb_fit S) (ha : 0 ≤ a ∧ a < sg_G S) (ht : 0 ≤ t ∧ t ≤ 50000) (H : ∀ h1, fr_m h h1 → (∀ b, 0 ≤ b → b < sg_G S → ar_is 99999 S a t b (h1 68 b)) → Q none h1) : am_Call 133 [.inr (.inr (some 86)), .inl a, .inl t] h Q := by
  have hG := hS.2.1
  simp only [eq_self, and_self, am_up_at, Int.cast_ofNat_Int, Int.reduceNatCast, true_or, or_true, or_false, false_or, Classical.not_not, false_and, and_false, am_bk, am_step, am_ldI, am_ldL, am_ldA, am_nth, am_sto, am_stw_0, am_stw_i, am_stw_n, am_stw_a, am_stw_l, am_br, am_cmp, am_tk, am_cat, am_sw, am_copy, am_R, am_nc0, am_nc1, am_f0, am_f1, am_f2, am_f3, Int.reduceNeg, Int.reduceEq, Int.reduceLE, Int.reduceLT, Nat.reduceLeDiff, Nat.reduceAdd, Nat.reduceEqDiff, true_and, and_true, ↓reduceIte, if_false, if_true, forall_const, not_true_eq_false, not_false_eq_true, false_implies, true_implies, implies_true, Int.reduceAdd, Int.reduceMul, Int.reduceSub, ne_eq, ca_133_86, bl_133_0, gf_86_0, pf_86_0, gf_86_1, ar_50, al_50, gf_86_2, pf_86_2, gf_86_3, pf_86_3, gf_86_4, pf_86_4, gf_86_5, pf_86_5, gf_86_6, ar_51, al_51, gf_86_7, ar_52, al_52, gf_86_8, ar_53, al_53, gf_86_9, ar_54, al_54, gf_86_10, ar_55, al_55, gf_86_11, ar_56, al_56, gf_86_12, ar_57, al_57, gf_86_13, pf_86_13, gf_86_14, pf_86_14, gf_86_15, ar_58, al_58, gf_86_16, ar_59, al_59, gf_86_17, ar_60, al_60, gf_86_18, ar_61, al_61, gf_86_19, ar_62, al_62, gf_86_20, pf_86_20, gf_86_21, pf_86_21, gf_86_22, ar_63, al_63, gf_86_23, ar_64, al_64, gf_86_24, ar_65, al_65, gf_86_25, ar_66, al_66, gf_86_26, ar_67, al_67, gf_86_27, ar_68, al_68, gf_86_28, ar_69, al_69, gf_86_29, ar_70, al_70, gf_86_30, ar_71, al_71, gf_86_31, ar_72, al_72, gf_86_32, ar_73, al_73, gf_86_33, ar_74, al_74, gf_86_34, pf_86_34]
  refine lp_gfa hm hS ha ht (fun h1 I => ?_) (sg_G S).toNat 0 h (by omega) (by omega) ⟨fun j j1 j2 => by omega, fun _ _ _ => rfl⟩
  refine lp_goFrom hm hS hF ha ht H (sg_G S).toNat 0 h1 (by omega) (by omega) I.2 (fun b b1 b2 => Or.inl (I.1 b b1 b2).2) (dj_0 (fun b b1 b2 => (I.1 b b1 b2).1) (fun b b1 b2 => by have := (I.1 b b1 b2).2; omega) hG.1 ha)
