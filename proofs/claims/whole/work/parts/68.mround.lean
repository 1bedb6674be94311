/-! the reference: round -/
def fr_s (h h1 : am_H) : Prop := ∀ c, c ≠ 68 → c ≠ 69 → c ≠ 71 → h1 c = h c
theorem mx_fs {h h1 : am_H} (f : fr_s h h1) : mx h h1 := ⟨fun c hc => f c (by omega) (by omega) (by omega), fun i hi => by rw [f 86 (by omega) (by omega) (by omega)]⟩
def r71 (A : Int → Int) : Prop := ∀ i, 0 ≤ i → i < 2048 → 0 ≤ A i ∧ A i ≤ 99999
set_option maxHeartbeats 400000 in
set_option maxRecDepth 100000 in
theorem lp_mr0 {a t st : Int} {h0 : am_H} {Q : am_P} (H : ∀ h1, (∀ c, c ≠ 71 → h1 c = h0 c) → (∀ i, 0 ≤ i → i < 2048 → h1 71 i = 99999) → am_Ex 138 38 [some (.inr (.inr (some 86))), some (.inl a), some (.inl t), some (.inl st), some (.inl 2048), none, none, none, none, none] [] h1 Q) :
    ∀ (n : Nat) (k : Int) (h : am_H), 0 ≤ k → k + n = 2048 → (∀ c, c ≠ 71 → h c = h0 c) → (∀ i, 0 ≤ i → i < k → h 71 i = 99999) → am_Ex 138 28 [some (.inr (.inr (some 86))), some (.inl a), some (.inl t), some (.inl st), some (.inl k), none, none, none, none, none] [] h Q := by
  intro n
  induction n with
  | zero =>
    intro k h k0 k1 hf I
    have ek : k = 2048 := by omega
    subst ek
    have K := H h hf I
    rw [bl_138_28]
    simp only [eq_self, and_self, am_up_at, Int.cast_ofNat_Int, Int.reduceNatCast, true_or, or_true, or_false, false_or, Classical.not_not, false_and, and_false, am_bk, am_step, am_ldI, am_ldL, am_ldA, am_nth, am_sto, am_stw_0, am_stw_i, am_stw_n, am_stw_a, am_stw_l, am_br, am_cmp, am_tk, am_cat, am_sw, am_copy, am_R, am_nc0, am_nc1, am_f0, am_f1, am_f2, am_f3, Int.reduceNeg, Int.reduceEq, Int.reduceLE, Int.reduceLT, Nat.reduceLeDiff, Nat.reduceAdd, Nat.reduceEqDiff, true_and, and_true, ↓reduceIte, if_false, if_true, forall_const, not_true_eq_false, not_false_eq_true, false_implies, true_implies, implies_true, Int.reduceAdd, Int.reduceMul, Int.reduceSub, ne_eq, gf_86_0, pf_86_0, gf_86_1, ar_50, al_50, gf_86_2, pf_86_2, gf_86_3, pf_86_3, gf_86_4, pf_86_4, gf_86_5, pf_86_5, gf_86_6, ar_51, al_51, gf_86_7, ar_52, al_52, gf_86_8, ar_53, al_53, gf_86_9, ar_54, al_54, gf_86_10, ar_55, al_55, gf_86_11, ar_56, al_56, gf_86_12, ar_57, al_57, gf_86_13, pf_86_13, gf_86_14, pf_86_14, gf_86_15, ar_58, al_58, gf_86_16, ar_59, al_59, gf_86_17, ar_60, al_60, gf_86_18, ar_61, al_61, gf_86_19, ar_62, al_62, gf_86_20, pf_86_20, gf_86_21, pf_86_21, gf_86_22, ar_63, al_63, gf_86_23, ar_64, al_64, gf_86_24, ar_65, al_65, gf_86_25, ar_66, al_66, gf_86_26, ar_67, al_67, gf_86_27, ar_68, al_68, gf_86_28, ar_69, al_69, gf_86_29, ar_70, al_70, gf_86_30, ar_71, al_71, gf_86_31, ar_72, al_72, gf_86_32, ar_73, al_73, gf_86_33, ar_74, al_74, gf_86_34, pf_86_34]
    (repeat' (first | with_reducible apply And.intro | with_reducible intro _)) <;> first | omega | exact K
  | succ n ih =>
    intro k h k0 k1 hf I
    have K := ih (k + 1) (am_up h 71 k 99999) (by omega) (by omega) (fun c hc => by rw [am_up_ne hc, hf c hc]) (fun i i1 i2 => by
      simp only [eq_self, and_self, am_up_at, am_up_ne, ne_eq, Nat.reduceEqDiff, Int.reduceEq, Int.reduceNeg, not_false_eq_true, false_and, and_false, true_and, and_true, ↓reduceIte, if_false, if_true, Int.reduceAdd, Int.reduceMul, Nat.reduceAdd]
      split
      · rfl
      · exact I i i1 (by omega))
    rw [bl_138_28]
    simp only [eq_self, and_self, am_up_at, Int.cast_ofNat_Int, Int.reduceNatCast, true_or, or_true, or_false, false_or, Classical.not_not, false_and, and_false, am_bk, am_step, am_ldI, am_ldL, am_ldA, am_nth, am_sto, am_stw_0, am_stw_i, am_stw_n, am_stw_a, am_stw_l, am_br, am_cmp, am_tk, am_cat, am_sw, am_copy, am_R, am_nc0, am_nc1, am_f0, am_f1, am_f2, am_f3, Int.reduceNeg, Int.reduceEq, Int.reduceLE, Int.reduceLT, Nat.reduceLeDiff, Nat.reduceAdd, Nat.reduceEqDiff, true_and, and_true, ↓reduceIte, if_false, if_true, forall_const, not_true_eq_false, not_false_eq_true, false_implies, true_implies, implies_true, Int.reduceAdd, Int.reduceMul, Int.reduceSub, ne_eq, ca_138_86, bl_138_31, gf_86_0, pf_86_0, gf_86_1, ar_50, al_50, gf_86_2, pf_86_2, gf_86_3, pf_86_3, gf_86_4, pf_86_4, gf_86_5, pf_86_5, gf_86_6, ar_51, al_51, gf_86_7, ar_52, al_52, gf_86_8, ar_53, al_53, gf_86_9, ar_54, al_54, gf_86_10, ar_55, al_55, gf_86_11, ar_56, al_56, gf_86_12, ar_57, al_57, gf_86_13, pf_86_13, gf_86_14, pf_86_14, gf_86_15, ar_58, al_58, gf_86_16, ar_59, al_59, gf_86_17, ar_60, al_60, gf_86_18, ar_61, al_61, gf_86_19, ar_62, al_62, gf_86_20, pf_86_20, gf_86_21, pf_86_21, gf_86_22, ar_63, al_63, gf_86_23, ar_64, al_64, gf_86_24, ar_65, al_65, gf_86_25, ar_66, al_66, gf_86_26, ar_67, al_67, gf_86_27, ar_68, al_68, gf_86_28, ar_69, al_69, gf_86_29, ar_70, al_70, gf_86_30, ar_71, al_71, gf_86_31, ar_72, al_72, gf_86_32, ar_73, al_73, gf_86_33, ar_74, al_74, gf_86_34, pf_86_34]
    (repeat' (first | with_reducible apply And.intro | with_reducible intro _)) <;> first | omega | exact K
set_option maxHeartbeats 400000 in
set_option maxRecDepth 100000 in
theorem mr_118 {a t st f m x e T i : Int} {h : am_H} {Q : am_P} (hT : 0 ≤ T ∧ T < 2048) (he : 0 ≤ e ∧ e < 8) (hi : i = 0 ∨ i = 1) (r1 : 0 ≤ h 68 e ∧ h 68 e ≤ 99999) (r2 : 0 ≤ h 71 T ∧ h 71 T ≤ 99999) (K1 : i = 1 → h 68 e < h 71 T → am_Ex 138 93 [some (.inr (.inr (some 86))), some (.inl a), some (.inl t), some (.inl st), some (.inl f), some (.inl m), some (.inl x), some (.inl (e + 1)), none, none] [] (am_up h 71 T (h 68 e)) Q) (K2 : ¬ (i = 1 ∧ h 68 e < h 71 T) → am_Ex 138 93 [some (.inr (.inr (some 86))), some (.inl a), some (.inl t), some (.inl st), some (.inl f), some (.inl m), some (.inl x), some (.inl (e + 1)), none, none] [] (am_up h 71 T (h 71 T)) Q) : am_Ex 138 118 [some (.inr (.inr (some 86))), some (.inl a), some (.inl t), some (.inl st), some (.inl f), some (.inl m), some (.inl x), some (.inl e), some (.inl T), none] [.inl i] h Q := by
  simp only [eq_self, and_self, am_up_at, Int.cast_ofNat_Int, Int.reduceNatCast, true_or, or_true, or_false, false_or, Classical.not_not, false_and, and_false, am_bk, am_step, am_ldI, am_ldL, am_ldA, am_nth, am_sto, am_stw_0, am_stw_i, am_stw_n, am_stw_a, am_stw_l, am_br, am_cmp, am_tk, am_cat, am_sw, am_copy, am_R, am_nc0, am_nc1, am_f0, am_f1, am_f2, am_f3, Int.reduceNeg, Int.reduceEq, Int.reduceLE, Int.reduceLT, Nat.reduceLeDiff, Nat.reduceAdd, Nat.reduceEqDiff, true_and, and_true, ↓reduceIte, if_false, if_true, forall_const, not_true_eq_false, not_false_eq_true, false_implies, true_implies, implies_true, Int.reduceAdd, Int.reduceMul, Int.reduceSub, ne_eq, ca_138_86, bl_138_118, bl_138_130, bl_138_138, bl_138_142, gf_86_0, pf_86_0, gf_86_1, ar_50, al_50, gf_86_2, pf_86_2, gf_86_3, pf_86_3, gf_86_4, pf_86_4, gf_86_5, pf_86_5, gf_86_6, ar_51, al_51, gf_86_7, ar_52, al_52, gf_86_8, ar_53, al_53, gf_86_9, ar_54, al_54, gf_86_10, ar_55, al_55, gf_86_11, ar_56, al_56, gf_86_12, ar_57, al_57, gf_86_13, pf_86_13, gf_86_14, pf_86_14, gf_86_15, ar_58, al_58, gf_86_16, ar_59, al_59, gf_86_17, ar_60, al_60, gf_86_18, ar_61, al_61, gf_86_19, ar_62, al_62, gf_86_20, pf_86_20, gf_86_21, pf_86_21, gf_86_22, ar_63, al_63, gf_86_23, ar_64, al_64, gf_86_24, ar_65, al_65, gf_86_25, ar_66, al_66, gf_86_26, ar_67, al_67, gf_86_27, ar_68, al_68, gf_86_28, ar_69, al_69, gf_86_29, ar_70, al_70, gf_86_30, ar_71, al_71, gf_86_31, ar_72, al_72, gf_86_32, ar_73, al_73, gf_86_33, ar_74, al_74, gf_86_34, pf_86_34]
  (repeat' (first | with_reducible apply And.intro | with_reducible intro _)) <;> first | omega | exact am_forget (K1 (by omega) (by omega)) (by simp [am_lq]) | exact am_forget (K2 (by omega)) (by simp [am_lq])
set_option maxHeartbeats 400000 in
set_option maxRecDepth 100000 in
theorem mr_97a {a t st f m x e T : Int} {r : List am_E} {h : am_H} {Q : am_P} (hT : 8 * am_or m (am_shl 1 e) + e = T) (K : am_bk 138 Q 109 r [some (.inr (.inr (some 86))), some (.inl a), some (.inl t), some (.inl st), some (.inl f), some (.inl m), some (.inl x), some (.inl e), none, none] [.inl T] h) : am_bk 138 Q 109 ((168, 2, .bipush 8, 0, 0, 8, 0, []) :: (170, 2, .iload 5, 0, 0, 0, 0, []) :: (172, 1, .iconst 1, 0, 0, 1, 0, []) :: (173, 2, .iload 7, 0, 0, 0, 0, []) :: (175, 1, .ishl, 0, 0, 0, 0, []) :: (176, 1, .ior, 0, 0, 0, 0, []) :: (177, 1, .imul, 0, 0, 0, 0, []) :: (178, 2, .iload 7, 0, 0, 0, 0, []) :: (180, 1, .iadd, 0, 0, 0, 0, []) :: r) [some (.inr (.inr (some 86))), some (.inl a), some (.inl t), some (.inl st), some (.inl f), some (.inl m), some (.inl x), some (.inl e), none, none] [] h := by
  simp only [eq_self, and_self, am_up_at, Int.cast_ofNat_Int, Int.reduceNatCast, true_or, or_true, or_false, false_or, Classical.not_not, false_and, and_false, am_bk, am_step, am_ldI, am_ldL, am_ldA, am_nth, am_sto, am_stw_0, am_stw_i, am_stw_n, am_stw_a, am_stw_l, am_br, am_cmp, am_tk, am_cat, am_sw, am_copy, am_R, am_nc0, am_nc1, am_f0, am_f1, am_f2, am_f3, Int.reduceNeg, Int.reduceEq, Int.reduceLE, Int.reduceLT, Nat.reduceLeDiff, Nat.reduceAdd, Nat.reduceEqDiff, true_and, and_true, ↓reduceIte, if_false, if_true, forall_const, not_true_eq_false, not_false_eq_true, false_implies, true_implies, implies_true, Int.reduceAdd, Int.reduceMul, Int.reduceSub, ne_eq, hT]
  exact K
set_option maxHeartbeats 400000 in
set_option maxRecDepth 100000 in
theorem mr_97b {a t st f m x e T : Int} {h : am_H} {Q : am_P} (hst : 0 ≤ st ∧ st ≤ 255) (he : 0 ≤ e ∧ e ≤ 7) (K : am_Ex 138 110 [some (.inr (.inr (some 86))), some (.inl a), some (.inl t), some (.inl st), some (.inl f), some (.inl m), some (.inl x), some (.inl e), some (.inl T), none] [.inl (bt st e)] h Q) : am_bk 138 Q 109 [(181, 2, .istore 8, 0, 0, 0, 0, []), (183, 1, .iload_n 3, 0, 0, 0, 0, []), (184, 2, .iload 7, 0, 0, 0, 0, [])] [some (.inr (.inr (some 86))), some (.inl a), some (.inl t), some (.inl st), some (.inl f), some (.inl m), some (.inl x), some (.inl e), none, none] [.inl T] h := by
  simp only [eq_self, and_self, am_up_at, Int.cast_ofNat_Int, Int.reduceNatCast, true_or, or_true, or_false, false_or, Classical.not_not, false_and, and_false, am_bk, am_step, am_ldI, am_ldL, am_ldA, am_nth, am_sto, am_stw_0, am_stw_i, am_stw_n, am_stw_a, am_stw_l, am_br, am_cmp, am_tk, am_cat, am_sw, am_copy, am_R, am_nc0, am_nc1, am_f0, am_f1, am_f2, am_f3, Int.reduceNeg, Int.reduceEq, Int.reduceLE, Int.reduceLT, Nat.reduceLeDiff, Nat.reduceAdd, Nat.reduceEqDiff, true_and, and_true, ↓reduceIte, if_false, if_true, forall_const, not_true_eq_false, not_false_eq_true, false_implies, true_implies, implies_true, Int.reduceAdd, Int.reduceMul, Int.reduceSub, ne_eq, bl_138_109]
  exact sp_has hst he K
theorem mr_97 {a t st f m x e T b : Int} {h : am_H} {Q : am_P} (hT : 8 * am_or m (am_shl 1 e) + e = T) (hst : 0 ≤ st ∧ st ≤ 255) (he : 0 ≤ e ∧ e ≤ 7) (K : am_Ex 138 110 [some (.inr (.inr (some 86))), some (.inl a), some (.inl t), some (.inl st), some (.inl f), some (.inl m), some (.inl x), some (.inl e), some (.inl T), none] [.inl (bt st e)] h Q) : am_Ex 138 97 [some (.inr (.inr (some 86))), some (.inl a), some (.inl t), some (.inl st), some (.inl f), some (.inl m), some (.inl x), some (.inl e), none, none] [] h Q := by
  rw [bl_138_97]
  exact mr_97a hT (mr_97b hst he K)
set_option maxHeartbeats 400000 in
set_option maxRecDepth 100000 in
theorem lp_mr1 {S : sg_S} {a t st f m x v : Int} {h0 : am_H} {Q : am_P} (hm0 : sg_of h0 = S) (hS : sg_ok S) (hst : 0 ≤ st ∧ st ≤ 255) (hm : sub m st) (hx : 0 ≤ x ∧ x < sg_G S) (hvN : v < 99999) (hvr : 0 ≤ v ∧ v ≤ 40000) (ar : ∀ b, 0 ≤ b → b < sg_G S → ar_is 99999 S x v b (h0 68 b)) (H : ∀ h1, (∀ c, c ≠ 71 → h1 c = h0 c) → r71 (h1 71) → dp 99999 S a t st f m (fun _ => x + 1) (h1 71) → am_Ex 138 145 [some (.inr (.inr (some 86))), some (.inl a), some (.inl t), some (.inl st), some (.inl f), some (.inl m), some (.inl x), some (.inl (sg_G S)), none, none] [] h1 Q) :
    ∀ (n : Nat) (e : Int) (h : am_H), 0 ≤ e → e + n = sg_G S → (∀ c, c ≠ 71 → h c = h0 c) → h 71 (8 * m + x) = v → r71 (h 71) → dp 99999 S a t st f m (fun g => if g < e then x + 1 else x) (h 71) → am_Ex 138 93 [some (.inr (.inr (some 86))), some (.inl a), some (.inl t), some (.inl st), some (.inl f), some (.inl m), some (.inl x), some (.inl e), none, none] [] h Q := by
  intro n
  have hG := hS.2.1
  have e5 : h0 86 5 = sg_G S := by rw [← hm0]; rfl
  have mr := hm.1
  induction n with
  | zero =>
    intro e h e0 e1 hf hxv hr I
    have ee : e = sg_G S := by omega
    subst ee
    have e86 := hf 86 (by omega)
    have K := H h hf hr (dp_en hx.2 I)
    rw [bl_138_93]
    simp only [eq_self, and_self, am_up_at, Int.cast_ofNat_Int, Int.reduceNatCast, true_or, or_true, or_false, false_or, Classical.not_not, false_and, and_false, am_bk, am_step, am_ldI, am_ldL, am_ldA, am_nth, am_sto, am_stw_0, am_stw_i, am_stw_n, am_stw_a, am_stw_l, am_br, am_cmp, am_tk, am_cat, am_sw, am_copy, am_R, am_nc0, am_nc1, am_f0, am_f1, am_f2, am_f3, Int.reduceNeg, Int.reduceEq, Int.reduceLE, Int.reduceLT, Nat.reduceLeDiff, Nat.reduceAdd, Nat.reduceEqDiff, true_and, and_true, ↓reduceIte, if_false, if_true, forall_const, not_true_eq_false, not_false_eq_true, false_implies, true_implies, implies_true, Int.reduceAdd, Int.reduceMul, Int.reduceSub, ne_eq, gf_86_0, pf_86_0, gf_86_1, ar_50, al_50, gf_86_2, pf_86_2, gf_86_3, pf_86_3, gf_86_4, pf_86_4, gf_86_5, pf_86_5, gf_86_6, ar_51, al_51, gf_86_7, ar_52, al_52, gf_86_8, ar_53, al_53, gf_86_9, ar_54, al_54, gf_86_10, ar_55, al_55, gf_86_11, ar_56, al_56, gf_86_12, ar_57, al_57, gf_86_13, pf_86_13, gf_86_14, pf_86_14, gf_86_15, ar_58, al_58, gf_86_16, ar_59, al_59, gf_86_17, ar_60, al_60, gf_86_18, ar_61, al_61, gf_86_19, ar_62, al_62, gf_86_20, pf_86_20, gf_86_21, pf_86_21, gf_86_22, ar_63, al_63, gf_86_23, ar_64, al_64, gf_86_24, ar_65, al_65, gf_86_25, ar_66, al_66, gf_86_26, ar_67, al_67, gf_86_27, ar_68, al_68, gf_86_28, ar_69, al_69, gf_86_29, ar_70, al_70, gf_86_30, ar_71, al_71, gf_86_31, ar_72, al_72, gf_86_32, ar_73, al_73, gf_86_33, ar_74, al_74, gf_86_34, pf_86_34, e86, e5]
    (repeat' (first | with_reducible apply And.intro | with_reducible intro _)) <;> first | omega | exact K
  | succ n ih =>
    intro e h e0 e1 hf hxv hr I
    have e86 := hf 86 (by omega)
    have e68 := hf 68 (by omega)
    have he : 0 ≤ e ∧ e < sg_G S := by omega
    have he7 : 0 ≤ e ∧ e ≤ 7 := by omega
    have pe := pw_r he7
    have a1 := ar e he.1 he.2
    have ar1 := ar_r (by omega) (by omega) a1
    have es := bt_se mr he7
    have b1 := bt_01 st e
    have b2 := bt_01 m e
    have orr := (bt_or mr he7).1
    have rT := hr (8 * am_or m (am_shl 1 e) + e) (by omega) (by omega)
    have tr : 0 ≤ 8 * am_or m (am_shl 1 e) + e ∧ 8 * am_or m (am_shl 1 e) + e < 2048 := by omega
    have hsT : bt m e ≠ 1 → 8 * am_or m (am_shl 1 e) + e = 8 * (m + pw e) + e := fun z => by rw [es, if_neg z]
    obtain ⟨T, hT⟩ : ∃ T, 8 * am_or m (am_shl 1 e) + e = T := ⟨_, rfl⟩
    rw [hT] at tr hsT rT
    have K1 : bt st e = 1 ∧ bt m e ≠ 1 → am_Ex 138 118 [some (.inr (.inr (some 86))), some (.inl a), some (.inl t), some (.inl st), some (.inl f), some (.inl m), some (.inl x), some (.inl e), some (.inl T), none] [.inl 1] h Q := by
      intro q
      have eT := hsT q.2
      have me := bt_pl mr he7 q.2
      have go : ∀ w, w = (if h0 68 e < h 71 (8 * (m + pw e) + e) then h0 68 e else h 71 (8 * (m + pw e) + e)) → am_Ex 138 93 [some (.inr (.inr (some 86))), some (.inl a), some (.inl t), some (.inl st), some (.inl f), some (.inl m), some (.inl x), some (.inl (e + 1)), none, none] [] (am_up h 71 (8 * (m + pw e) + e) w) Q := by
        intro w hw
        refine ih (e + 1) (am_up h 71 (8 * (m + pw e) + e) w) (by omega) (by omega) (fun c hc => by rw [am_up_ne hc, hf c hc]) (by rw [am_up_at, if_neg (by omega)]; exact hxv) (fun i i1 i2 => ?_) (dp_su hG hm hx he q.2 q.1 (by rw [hxv]; exact hvN) (by rw [hxv]; exact a1) (by omega) hw I (fun i => by rw [am_up_at]; simp only [true_and]))
        rw [am_up_at]
        split
        · rw [hw, ← eT]; split <;> omega
        · exact hr i i1 i2
      rw [← eT] at go
      exact mr_118 tr (by omega) (Or.inr rfl) (by rw [e68]; omega) rT (fun _ z => by rw [e68] at z ⊢; exact go (h0 68 e) (by rw [if_pos z])) (fun z => go (h 71 T) (by rw [if_neg (fun y => z ⟨rfl, by rw [e68]; exact y⟩)]))
    have K0 : ¬ (bt st e = 1 ∧ bt m e ≠ 1) → am_Ex 138 118 [some (.inr (.inr (some 86))), some (.inl a), some (.inl t), some (.inl st), some (.inl f), some (.inl m), some (.inl x), some (.inl e), some (.inl T), none] [.inl 0] h Q := by
      intro q
      have K := ih (e + 1) h (by omega) (by omega) hf hxv hr (dp_st hx.2 q (by omega) I)
      rw [← am_up_self h 71 T] at K
      exact mr_118 tr (by omega) (Or.inl rfl) (by rw [e68]; omega) rT (fun z _ => by omega) (fun _ => K)
    have K3 : bt st e = 1 → am_Ex 138 114 [some (.inr (.inr (some 86))), some (.inl a), some (.inl t), some (.inl st), some (.inl f), some (.inl m), some (.inl x), some (.inl e), some (.inl T), none] [.inl (bt m e)] h Q := by
      intro q
      simp only [eq_self, and_self, am_up_at, Int.cast_ofNat_Int, Int.reduceNatCast, true_or, or_true, or_false, false_or, Classical.not_not, false_and, and_false, am_bk, am_step, am_ldI, am_ldL, am_ldA, am_nth, am_sto, am_stw_0, am_stw_i, am_stw_n, am_stw_a, am_stw_l, am_br, am_cmp, am_tk, am_cat, am_sw, am_copy, am_R, am_nc0, am_nc1, am_f0, am_f1, am_f2, am_f3, Int.reduceNeg, Int.reduceEq, Int.reduceLE, Int.reduceLT, Nat.reduceLeDiff, Nat.reduceAdd, Nat.reduceEqDiff, true_and, and_true, ↓reduceIte, if_false, if_true, forall_const, not_true_eq_false, not_false_eq_true, false_implies, true_implies, implies_true, Int.reduceAdd, Int.reduceMul, Int.reduceSub, ne_eq, ca_138_86, bl_138_114, bl_138_117, gf_86_0, pf_86_0, gf_86_1, ar_50, al_50, gf_86_2, pf_86_2, gf_86_3, pf_86_3, gf_86_4, pf_86_4, gf_86_5, pf_86_5, gf_86_6, ar_51, al_51, gf_86_7, ar_52, al_52, gf_86_8, ar_53, al_53, gf_86_9, ar_54, al_54, gf_86_10, ar_55, al_55, gf_86_11, ar_56, al_56, gf_86_12, ar_57, al_57, gf_86_13, pf_86_13, gf_86_14, pf_86_14, gf_86_15, ar_58, al_58, gf_86_16, ar_59, al_59, gf_86_17, ar_60, al_60, gf_86_18, ar_61, al_61, gf_86_19, ar_62, al_62, gf_86_20, pf_86_20, gf_86_21, pf_86_21, gf_86_22, ar_63, al_63, gf_86_23, ar_64, al_64, gf_86_24, ar_65, al_65, gf_86_25, ar_66, al_66, gf_86_26, ar_67, al_67, gf_86_27, ar_68, al_68, gf_86_28, ar_69, al_69, gf_86_29, ar_70, al_70, gf_86_30, ar_71, al_71, gf_86_31, ar_72, al_72, gf_86_32, ar_73, al_73, gf_86_33, ar_74, al_74, gf_86_34, pf_86_34]
      (repeat' (first | with_reducible apply And.intro | with_reducible intro _)) <;> first | omega | exact K1 (by omega) | exact K0 (by omega)
    have K4 : am_Ex 138 110 [some (.inr (.inr (some 86))), some (.inl a), some (.inl t), some (.inl st), some (.inl f), some (.inl m), some (.inl x), some (.inl e), some (.inl T), none] [.inl (bt st e)] h Q := by
      simp only [eq_self, and_self, am_up_at, Int.cast_ofNat_Int, Int.reduceNatCast, true_or, or_true, or_false, false_or, Classical.not_not, false_and, and_false, am_bk, am_step, am_ldI, am_ldL, am_ldA, am_nth, am_sto, am_stw_0, am_stw_i, am_stw_n, am_stw_a, am_stw_l, am_br, am_cmp, am_tk, am_cat, am_sw, am_copy, am_R, am_nc0, am_nc1, am_f0, am_f1, am_f2, am_f3, Int.reduceNeg, Int.reduceEq, Int.reduceLE, Int.reduceLT, Nat.reduceLeDiff, Nat.reduceAdd, Nat.reduceEqDiff, true_and, and_true, ↓reduceIte, if_false, if_true, forall_const, not_true_eq_false, not_false_eq_true, false_implies, true_implies, implies_true, Int.reduceAdd, Int.reduceMul, Int.reduceSub, ne_eq, ca_138_86, bl_138_110, bl_138_117, gf_86_0, pf_86_0, gf_86_1, ar_50, al_50, gf_86_2, pf_86_2, gf_86_3, pf_86_3, gf_86_4, pf_86_4, gf_86_5, pf_86_5, gf_86_6, ar_51, al_51, gf_86_7, ar_52, al_52, gf_86_8, ar_53, al_53, gf_86_9, ar_54, al_54, gf_86_10, ar_55, al_55, gf_86_11, ar_56, al_56, gf_86_12, ar_57, al_57, gf_86_13, pf_86_13, gf_86_14, pf_86_14, gf_86_15, ar_58, al_58, gf_86_16, ar_59, al_59, gf_86_17, ar_60, al_60, gf_86_18, ar_61, al_61, gf_86_19, ar_62, al_62, gf_86_20, pf_86_20, gf_86_21, pf_86_21, gf_86_22, ar_63, al_63, gf_86_23, ar_64, al_64, gf_86_24, ar_65, al_65, gf_86_25, ar_66, al_66, gf_86_26, ar_67, al_67, gf_86_27, ar_68, al_68, gf_86_28, ar_69, al_69, gf_86_29, ar_70, al_70, gf_86_30, ar_71, al_71, gf_86_31, ar_72, al_72, gf_86_32, ar_73, al_73, gf_86_33, ar_74, al_74, gf_86_34, pf_86_34]
      (repeat' (first | with_reducible apply And.intro | with_reducible intro _)) <;> first | omega | exact K0 (by omega) | exact sp_has mr he7 (K3 (by omega))
    rw [bl_138_93]
    simp only [eq_self, and_self, am_up_at, Int.cast_ofNat_Int, Int.reduceNatCast, true_or, or_true, or_false, false_or, Classical.not_not, false_and, and_false, am_bk, am_step, am_ldI, am_ldL, am_ldA, am_nth, am_sto, am_stw_0, am_stw_i, am_stw_n, am_stw_a, am_stw_l, am_br, am_cmp, am_tk, am_cat, am_sw, am_copy, am_R, am_nc0, am_nc1, am_f0, am_f1, am_f2, am_f3, Int.reduceNeg, Int.reduceEq, Int.reduceLE, Int.reduceLT, Nat.reduceLeDiff, Nat.reduceAdd, Nat.reduceEqDiff, true_and, and_true, ↓reduceIte, if_false, if_true, forall_const, not_true_eq_false, not_false_eq_true, false_implies, true_implies, implies_true, Int.reduceAdd, Int.reduceMul, Int.reduceSub, ne_eq, gf_86_0, pf_86_0, gf_86_1, ar_50, al_50, gf_86_2, pf_86_2, gf_86_3, pf_86_3, gf_86_4, pf_86_4, gf_86_5, pf_86_5, gf_86_6, ar_51, al_51, gf_86_7, ar_52, al_52, gf_86_8, ar_53, al_53, gf_86_9, ar_54, al_54, gf_86_10, ar_55, al_55, gf_86_11, ar_56, al_56, gf_86_12, ar_57, al_57, gf_86_13, pf_86_13, gf_86_14, pf_86_14, gf_86_15, ar_58, al_58, gf_86_16, ar_59, al_59, gf_86_17, ar_60, al_60, gf_86_18, ar_61, al_61, gf_86_19, ar_62, al_62, gf_86_20, pf_86_20, gf_86_21, pf_86_21, gf_86_22, ar_63, al_63, gf_86_23, ar_64, al_64, gf_86_24, ar_65, al_65, gf_86_25, ar_66, al_66, gf_86_26, ar_67, al_67, gf_86_27, ar_68, al_68, gf_86_28, ar_69, al_69, gf_86_29, ar_70, al_70, gf_86_30, ar_71, al_71, gf_86_31, ar_72, al_72, gf_86_32, ar_73, al_73, gf_86_33, ar_74, al_74, gf_86_34, pf_86_34, e86, e5]
    (repeat' (first | with_reducible apply And.intro | with_reducible intro _)) <;> first | omega | exact mr_97 (b := 0) hT hst he7 K4
set_option maxHeartbeats 400000 in
set_option maxRecDepth 100000 in
theorem lp_mr2 {S : sg_S} {a t st f m : Int} {h0 : am_H} {Q : am_P} (hm0 : sg_of h0 = S) (hS : sg_ok S) (hF : tb_fit S) (ht : 0 ≤ t ∧ t ≤ 299) (hst : 0 ≤ st ∧ st ≤ 255) (hm : sub m st) (H : ∀ h1, fr_s h0 h1 → r71 (h1 71) → dp 99999 S a t st f m (fun _ => sg_G S) (h1 71) → am_Ex 138 147 [some (.inr (.inr (some 86))), some (.inl a), some (.inl t), some (.inl st), some (.inl f), some (.inl m), some (.inl (sg_G S)), none, none, none] [] h1 Q) :
    ∀ (n : Nat) (x : Int) (h : am_H), 0 ≤ x → x + n = sg_G S → fr_s h0 h → r71 (h 71) → dp 99999 S a t st f m (fun _ => x) (h 71) → am_Ex 138 60 [some (.inr (.inr (some 86))), some (.inl a), some (.inl t), some (.inl st), some (.inl f), some (.inl m), some (.inl x), none, none, none] [] h Q := by
  intro n
  have hG := hS.2.1
  have mr := hm.1
  have sd := (sub_df mr hst).mpr hm
  induction n with
  | zero =>
    intro x h x0 x1 hf hr I
    have ex : x = sg_G S := by omega
    subst ex
    have e5 : h 86 5 = sg_G S := by rw [← hm0, ← mx_sg (mx_fs hf)]; rfl
    have K := H h hf hr I
    rw [bl_138_60]
    simp only [eq_self, and_self, am_up_at, Int.cast_ofNat_Int, Int.reduceNatCast, true_or, or_true, or_false, false_or, Classical.not_not, false_and, and_false, am_bk, am_step, am_ldI, am_ldL, am_ldA, am_nth, am_sto, am_stw_0, am_stw_i, am_stw_n, am_stw_a, am_stw_l, am_br, am_cmp, am_tk, am_cat, am_sw, am_copy, am_R, am_nc0, am_nc1, am_f0, am_f1, am_f2, am_f3, Int.reduceNeg, Int.reduceEq, Int.reduceLE, Int.reduceLT, Nat.reduceLeDiff, Nat.reduceAdd, Nat.reduceEqDiff, true_and, and_true, ↓reduceIte, if_false, if_true, forall_const, not_true_eq_false, not_false_eq_true, false_implies, true_implies, implies_true, Int.reduceAdd, Int.reduceMul, Int.reduceSub, ne_eq, gf_86_0, pf_86_0, gf_86_1, ar_50, al_50, gf_86_2, pf_86_2, gf_86_3, pf_86_3, gf_86_4, pf_86_4, gf_86_5, pf_86_5, gf_86_6, ar_51, al_51, gf_86_7, ar_52, al_52, gf_86_8, ar_53, al_53, gf_86_9, ar_54, al_54, gf_86_10, ar_55, al_55, gf_86_11, ar_56, al_56, gf_86_12, ar_57, al_57, gf_86_13, pf_86_13, gf_86_14, pf_86_14, gf_86_15, ar_58, al_58, gf_86_16, ar_59, al_59, gf_86_17, ar_60, al_60, gf_86_18, ar_61, al_61, gf_86_19, ar_62, al_62, gf_86_20, pf_86_20, gf_86_21, pf_86_21, gf_86_22, ar_63, al_63, gf_86_23, ar_64, al_64, gf_86_24, ar_65, al_65, gf_86_25, ar_66, al_66, gf_86_26, ar_67, al_67, gf_86_27, ar_68, al_68, gf_86_28, ar_69, al_69, gf_86_29, ar_70, al_70, gf_86_30, ar_71, al_71, gf_86_31, ar_72, al_72, gf_86_32, ar_73, al_73, gf_86_33, ar_74, al_74, gf_86_34, pf_86_34, e5]
    (repeat' (first | with_reducible apply And.intro | with_reducible intro _)) <;> first | omega | exact K
  | succ n ih =>
    intro x h x0 x1 hf hr I
    have em : sg_of h = S := by rw [← hm0]; exact mx_sg (mx_fs hf)
    have e5 : h 86 5 = sg_G S := by rw [← em]; rfl
    have hx : 0 ≤ x ∧ x < sg_G S := by omega
    have bd' := dp_b hG ht (by omega) I m.toNat m x (by omega) hm hx.1 hx.2
    have pcr := pc_r m
    by_cases q : h 71 (8 * m + x) < 99999
    · have K : ∀ h1, fr_m h h1 → (∀ b, 0 ≤ b → b < sg_G S → ar_is 99999 S x (h 71 (8 * m + x)) b (h1 68 b)) → am_Ex 138 91 [some (.inr (.inr (some 86))), some (.inl a), some (.inl t), some (.inl st), some (.inl f), some (.inl m), some (.inl x), none, none, none] [] h1 Q := by
        intro h1 f1 ar
        have e71 := f1 71 (by omega) (by omega)
        have K := lp_mr1 (a := a) (t := t) (f := f) (Q := Q) (show sg_of h1 = S by rw [← em]; exact fr_m_sg f1) hS hst hm hx q (by omega) ar (fun h2 f2 r2 I2 => by
          have K := ih (x + 1) h2 (by omega) (by omega) (fun c c1 c2 c3 => (f2 c c3).trans ((f1 c c1 c2).trans (hf c c1 c2 c3))) r2 I2
          simp only [eq_self, and_self, am_up_at, Int.cast_ofNat_Int, Int.reduceNatCast, true_or, or_true, or_false, false_or, Classical.not_not, false_and, and_false, am_bk, am_step, am_ldI, am_ldL, am_ldA, am_nth, am_sto, am_stw_0, am_stw_i, am_stw_n, am_stw_a, am_stw_l, am_br, am_cmp, am_tk, am_cat, am_sw, am_copy, am_R, am_nc0, am_nc1, am_f0, am_f1, am_f2, am_f3, Int.reduceNeg, Int.reduceEq, Int.reduceLE, Int.reduceLT, Nat.reduceLeDiff, Nat.reduceAdd, Nat.reduceEqDiff, true_and, and_true, ↓reduceIte, if_false, if_true, forall_const, not_true_eq_false, not_false_eq_true, false_implies, true_implies, implies_true, Int.reduceAdd, Int.reduceMul, Int.reduceSub, ne_eq, ca_138_86, bl_138_145, gf_86_0, pf_86_0, gf_86_1, ar_50, al_50, gf_86_2, pf_86_2, gf_86_3, pf_86_3, gf_86_4, pf_86_4, gf_86_5, pf_86_5, gf_86_6, ar_51, al_51, gf_86_7, ar_52, al_52, gf_86_8, ar_53, al_53, gf_86_9, ar_54, al_54, gf_86_10, ar_55, al_55, gf_86_11, ar_56, al_56, gf_86_12, ar_57, al_57, gf_86_13, pf_86_13, gf_86_14, pf_86_14, gf_86_15, ar_58, al_58, gf_86_16, ar_59, al_59, gf_86_17, ar_60, al_60, gf_86_18, ar_61, al_61, gf_86_19, ar_62, al_62, gf_86_20, pf_86_20, gf_86_21, pf_86_21, gf_86_22, ar_63, al_63, gf_86_23, ar_64, al_64, gf_86_24, ar_65, al_65, gf_86_25, ar_66, al_66, gf_86_26, ar_67, al_67, gf_86_27, ar_68, al_68, gf_86_28, ar_69, al_69, gf_86_29, ar_70, al_70, gf_86_30, ar_71, al_71, gf_86_31, ar_72, al_72, gf_86_32, ar_73, al_73, gf_86_33, ar_74, al_74, gf_86_34, pf_86_34]
          (repeat' (first | with_reducible apply And.intro | with_reducible intro _)) <;> first | omega | exact am_forget K (by simp [am_lq])) (sg_G S).toNat 0 h1 (by omega) (by omega) (fun _ _ => rfl) (by rw [e71]) (by rw [e71]; exact hr) (by rw [e71]; exact dp_be hx.2 I)
        simp only [eq_self, and_self, am_up_at, Int.cast_ofNat_Int, Int.reduceNatCast, true_or, or_true, or_false, false_or, Classical.not_not, false_and, and_false, am_bk, am_step, am_ldI, am_ldL, am_ldA, am_nth, am_sto, am_stw_0, am_stw_i, am_stw_n, am_stw_a, am_stw_l, am_br, am_cmp, am_tk, am_cat, am_sw, am_copy, am_R, am_nc0, am_nc1, am_f0, am_f1, am_f2, am_f3, Int.reduceNeg, Int.reduceEq, Int.reduceLE, Int.reduceLT, Nat.reduceLeDiff, Nat.reduceAdd, Nat.reduceEqDiff, true_and, and_true, ↓reduceIte, if_false, if_true, forall_const, not_true_eq_false, not_false_eq_true, false_implies, true_implies, implies_true, Int.reduceAdd, Int.reduceMul, Int.reduceSub, ne_eq, ca_138_86, bl_138_91, gf_86_0, pf_86_0, gf_86_1, ar_50, al_50, gf_86_2, pf_86_2, gf_86_3, pf_86_3, gf_86_4, pf_86_4, gf_86_5, pf_86_5, gf_86_6, ar_51, al_51, gf_86_7, ar_52, al_52, gf_86_8, ar_53, al_53, gf_86_9, ar_54, al_54, gf_86_10, ar_55, al_55, gf_86_11, ar_56, al_56, gf_86_12, ar_57, al_57, gf_86_13, pf_86_13, gf_86_14, pf_86_14, gf_86_15, ar_58, al_58, gf_86_16, ar_59, al_59, gf_86_17, ar_60, al_60, gf_86_18, ar_61, al_61, gf_86_19, ar_62, al_62, gf_86_20, pf_86_20, gf_86_21, pf_86_21, gf_86_22, ar_63, al_63, gf_86_23, ar_64, al_64, gf_86_24, ar_65, al_65, gf_86_25, ar_66, al_66, gf_86_26, ar_67, al_67, gf_86_27, ar_68, al_68, gf_86_28, ar_69, al_69, gf_86_29, ar_70, al_70, gf_86_30, ar_71, al_71, gf_86_31, ar_72, al_72, gf_86_32, ar_73, al_73, gf_86_33, ar_74, al_74, gf_86_34, pf_86_34]
        exact K
      rw [bl_138_60]
      simp only [eq_self, and_self, am_up_at, Int.cast_ofNat_Int, Int.reduceNatCast, true_or, or_true, or_false, false_or, Classical.not_not, false_and, and_false, am_bk, am_step, am_ldI, am_ldL, am_ldA, am_nth, am_sto, am_stw_0, am_stw_i, am_stw_n, am_stw_a, am_stw_l, am_br, am_cmp, am_tk, am_cat, am_sw, am_copy, am_R, am_nc0, am_nc1, am_f0, am_f1, am_f2, am_f3, Int.reduceNeg, Int.reduceEq, Int.reduceLE, Int.reduceLT, Nat.reduceLeDiff, Nat.reduceAdd, Nat.reduceEqDiff, true_and, and_true, ↓reduceIte, if_false, if_true, forall_const, not_true_eq_false, not_false_eq_true, false_implies, true_implies, implies_true, Int.reduceAdd, Int.reduceMul, Int.reduceSub, ne_eq, ca_138_86, bl_138_64, bl_138_76, bl_138_88, gf_86_0, pf_86_0, gf_86_1, ar_50, al_50, gf_86_2, pf_86_2, gf_86_3, pf_86_3, gf_86_4, pf_86_4, gf_86_5, pf_86_5, gf_86_6, ar_51, al_51, gf_86_7, ar_52, al_52, gf_86_8, ar_53, al_53, gf_86_9, ar_54, al_54, gf_86_10, ar_55, al_55, gf_86_11, ar_56, al_56, gf_86_12, ar_57, al_57, gf_86_13, pf_86_13, gf_86_14, pf_86_14, gf_86_15, ar_58, al_58, gf_86_16, ar_59, al_59, gf_86_17, ar_60, al_60, gf_86_18, ar_61, al_61, gf_86_19, ar_62, al_62, gf_86_20, pf_86_20, gf_86_21, pf_86_21, gf_86_22, ar_63, al_63, gf_86_23, ar_64, al_64, gf_86_24, ar_65, al_65, gf_86_25, ar_66, al_66, gf_86_26, ar_67, al_67, gf_86_27, ar_68, al_68, gf_86_28, ar_69, al_69, gf_86_29, ar_70, al_70, gf_86_30, ar_71, al_71, gf_86_31, ar_72, al_72, gf_86_32, ar_73, al_73, gf_86_33, ar_74, al_74, gf_86_34, pf_86_34, e5, sd]
      (repeat' (first | with_reducible apply And.intro | with_reducible intro _)) <;> first | omega | exact sp_goFrom em hS hF hx (by omega) K
    · have K := ih (x + 1) h (by omega) (by omega) hf hr (dp_sk hx.2 q I)
      rw [bl_138_60]
      simp only [eq_self, and_self, am_up_at, Int.cast_ofNat_Int, Int.reduceNatCast, true_or, or_true, or_false, false_or, Classical.not_not, false_and, and_false, am_bk, am_step, am_ldI, am_ldL, am_ldA, am_nth, am_sto, am_stw_0, am_stw_i, am_stw_n, am_stw_a, am_stw_l, am_br, am_cmp, am_tk, am_cat, am_sw, am_copy, am_R, am_nc0, am_nc1, am_f0, am_f1, am_f2, am_f3, Int.reduceNeg, Int.reduceEq, Int.reduceLE, Int.reduceLT, Nat.reduceLeDiff, Nat.reduceAdd, Nat.reduceEqDiff, true_and, and_true, ↓reduceIte, if_false, if_true, forall_const, not_true_eq_false, not_false_eq_true, false_implies, true_implies, implies_true, Int.reduceAdd, Int.reduceMul, Int.reduceSub, ne_eq, ca_138_86, bl_138_64, bl_138_76, bl_138_88, bl_138_145, gf_86_0, pf_86_0, gf_86_1, ar_50, al_50, gf_86_2, pf_86_2, gf_86_3, pf_86_3, gf_86_4, pf_86_4, gf_86_5, pf_86_5, gf_86_6, ar_51, al_51, gf_86_7, ar_52, al_52, gf_86_8, ar_53, al_53, gf_86_9, ar_54, al_54, gf_86_10, ar_55, al_55, gf_86_11, ar_56, al_56, gf_86_12, ar_57, al_57, gf_86_13, pf_86_13, gf_86_14, pf_86_14, gf_86_15, ar_58, al_58, gf_86_16, ar_59, al_59, gf_86_17, ar_60, al_60, gf_86_18, ar_61, al_61, gf_86_19, ar_62, al_62, gf_86_20, pf_86_20, gf_86_21, pf_86_21, gf_86_22, ar_63, al_63, gf_86_23, ar_64, al_64, gf_86_24, ar_65, al_65, gf_86_25, ar_66, al_66, gf_86_26, ar_67, al_67, gf_86_27, ar_68, al_68, gf_86_28, ar_69, al_69, gf_86_29, ar_70, al_70, gf_86_30, ar_71, al_71, gf_86_31, ar_72, al_72, gf_86_32, ar_73, al_73, gf_86_33, ar_74, al_74, gf_86_34, pf_86_34, e5, sd]
      (repeat' (first | with_reducible apply And.intro | with_reducible intro _)) <;> first | omega | exact K
set_option maxHeartbeats 400000 in
set_option maxRecDepth 100000 in
theorem lp_mr3 {S : sg_S} {a t st f : Int} {h0 : am_H} {Q : am_P} (hm0 : sg_of h0 = S) (hS : sg_ok S) (hF : tb_fit S) (ht : 0 ≤ t ∧ t ≤ 299) (hst : 0 ≤ st ∧ st ≤ 255) (H : ∀ h1, fr_s h0 h1 → r71 (h1 71) → dp 99999 S a t st f (st + 1) (fun _ => 0) (h1 71) → am_Ex 138 149 [some (.inr (.inr (some 86))), some (.inl a), some (.inl t), some (.inl st), some (.inl f), some (.inl (st + 1)), none, none, none, none] [] h1 Q) :
    ∀ (n : Nat) (m : Int) (h : am_H), 0 ≤ m → m + n = st + 1 → fr_s h0 h → r71 (h 71) → dp 99999 S a t st f m (fun _ => 0) (h 71) → am_Ex 138 55 [some (.inr (.inr (some 86))), some (.inl a), some (.inl t), some (.inl st), some (.inl f), some (.inl m), none, none, none, none] [] h Q := by
  intro n
  have hG := hS.2.1
  induction n with
  | zero =>
    intro m h m0 m1 hf hr I
    have em : m = st + 1 := by omega
    subst em
    have K := H h hf hr I
    rw [bl_138_55]
    simp only [eq_self, and_self, am_up_at, Int.cast_ofNat_Int, Int.reduceNatCast, true_or, or_true, or_false, false_or, Classical.not_not, false_and, and_false, am_bk, am_step, am_ldI, am_ldL, am_ldA, am_nth, am_sto, am_stw_0, am_stw_i, am_stw_n, am_stw_a, am_stw_l, am_br, am_cmp, am_tk, am_cat, am_sw, am_copy, am_R, am_nc0, am_nc1, am_f0, am_f1, am_f2, am_f3, Int.reduceNeg, Int.reduceEq, Int.reduceLE, Int.reduceLT, Nat.reduceLeDiff, Nat.reduceAdd, Nat.reduceEqDiff, true_and, and_true, ↓reduceIte, if_false, if_true, forall_const, not_true_eq_false, not_false_eq_true, false_implies, true_implies, implies_true, Int.reduceAdd, Int.reduceMul, Int.reduceSub, ne_eq, gf_86_0, pf_86_0, gf_86_1, ar_50, al_50, gf_86_2, pf_86_2, gf_86_3, pf_86_3, gf_86_4, pf_86_4, gf_86_5, pf_86_5, gf_86_6, ar_51, al_51, gf_86_7, ar_52, al_52, gf_86_8, ar_53, al_53, gf_86_9, ar_54, al_54, gf_86_10, ar_55, al_55, gf_86_11, ar_56, al_56, gf_86_12, ar_57, al_57, gf_86_13, pf_86_13, gf_86_14, pf_86_14, gf_86_15, ar_58, al_58, gf_86_16, ar_59, al_59, gf_86_17, ar_60, al_60, gf_86_18, ar_61, al_61, gf_86_19, ar_62, al_62, gf_86_20, pf_86_20, gf_86_21, pf_86_21, gf_86_22, ar_63, al_63, gf_86_23, ar_64, al_64, gf_86_24, ar_65, al_65, gf_86_25, ar_66, al_66, gf_86_26, ar_67, al_67, gf_86_27, ar_68, al_68, gf_86_28, ar_69, al_69, gf_86_29, ar_70, al_70, gf_86_30, ar_71, al_71, gf_86_31, ar_72, al_72, gf_86_32, ar_73, al_73, gf_86_33, ar_74, al_74, gf_86_34, pf_86_34]
    (repeat' (first | with_reducible apply And.intro | with_reducible intro _)) <;> first | omega | exact K
  | succ n ih =>
    intro m h m0 m1 hf hr I
    have em : sg_of h = S := by rw [← hm0]; exact mx_sg (mx_fs hf)
    have e5 : h 86 5 = sg_G S := by rw [← em]; rfl
    have mr : 0 ≤ m ∧ m ≤ 255 := by omega
    have sd := sub_df mr hst
    have dr := (bt_df mr hst).1
    by_cases q : sub m st
    · have K := lp_mr2 (a := a) (f := f) (Q := Q) em hS hF ht hst q (fun h1 f1 r1 I1 => by
        have K := ih (m + 1) h1 (by omega) (by omega) (fun c c1 c2 c3 => (f1 c c1 c2 c3).trans (hf c c1 c2 c3)) r1 (dp_nx hG I1 (fun _ _ _ _ => rfl))
        simp only [eq_self, and_self, am_up_at, Int.cast_ofNat_Int, Int.reduceNatCast, true_or, or_true, or_false, false_or, Classical.not_not, false_and, and_false, am_bk, am_step, am_ldI, am_ldL, am_ldA, am_nth, am_sto, am_stw_0, am_stw_i, am_stw_n, am_stw_a, am_stw_l, am_br, am_cmp, am_tk, am_cat, am_sw, am_copy, am_R, am_nc0, am_nc1, am_f0, am_f1, am_f2, am_f3, Int.reduceNeg, Int.reduceEq, Int.reduceLE, Int.reduceLT, Nat.reduceLeDiff, Nat.reduceAdd, Nat.reduceEqDiff, true_and, and_true, ↓reduceIte, if_false, if_true, forall_const, not_true_eq_false, not_false_eq_true, false_implies, true_implies, implies_true, Int.reduceAdd, Int.reduceMul, Int.reduceSub, ne_eq, ca_138_86, bl_138_147, gf_86_0, pf_86_0, gf_86_1, ar_50, al_50, gf_86_2, pf_86_2, gf_86_3, pf_86_3, gf_86_4, pf_86_4, gf_86_5, pf_86_5, gf_86_6, ar_51, al_51, gf_86_7, ar_52, al_52, gf_86_8, ar_53, al_53, gf_86_9, ar_54, al_54, gf_86_10, ar_55, al_55, gf_86_11, ar_56, al_56, gf_86_12, ar_57, al_57, gf_86_13, pf_86_13, gf_86_14, pf_86_14, gf_86_15, ar_58, al_58, gf_86_16, ar_59, al_59, gf_86_17, ar_60, al_60, gf_86_18, ar_61, al_61, gf_86_19, ar_62, al_62, gf_86_20, pf_86_20, gf_86_21, pf_86_21, gf_86_22, ar_63, al_63, gf_86_23, ar_64, al_64, gf_86_24, ar_65, al_65, gf_86_25, ar_66, al_66, gf_86_26, ar_67, al_67, gf_86_27, ar_68, al_68, gf_86_28, ar_69, al_69, gf_86_29, ar_70, al_70, gf_86_30, ar_71, al_71, gf_86_31, ar_72, al_72, gf_86_32, ar_73, al_73, gf_86_33, ar_74, al_74, gf_86_34, pf_86_34]
        (repeat' (first | with_reducible apply And.intro | with_reducible intro _)) <;> first | omega | exact am_forget K (by simp [am_lq])) (sg_G S).toNat 0 h (by omega) (by omega) (fun _ _ _ _ => rfl) hr I
      rw [bl_138_55]
      simp only [eq_self, and_self, am_up_at, Int.cast_ofNat_Int, Int.reduceNatCast, true_or, or_true, or_false, false_or, Classical.not_not, false_and, and_false, am_bk, am_step, am_ldI, am_ldL, am_ldA, am_nth, am_sto, am_stw_0, am_stw_i, am_stw_n, am_stw_a, am_stw_l, am_br, am_cmp, am_tk, am_cat, am_sw, am_copy, am_R, am_nc0, am_nc1, am_f0, am_f1, am_f2, am_f3, Int.reduceNeg, Int.reduceEq, Int.reduceLE, Int.reduceLT, Nat.reduceLeDiff, Nat.reduceAdd, Nat.reduceEqDiff, true_and, and_true, ↓reduceIte, if_false, if_true, forall_const, not_true_eq_false, not_false_eq_true, false_implies, true_implies, implies_true, Int.reduceAdd, Int.reduceMul, Int.reduceSub, ne_eq, ca_138_86, bl_138_58, gf_86_0, pf_86_0, gf_86_1, ar_50, al_50, gf_86_2, pf_86_2, gf_86_3, pf_86_3, gf_86_4, pf_86_4, gf_86_5, pf_86_5, gf_86_6, ar_51, al_51, gf_86_7, ar_52, al_52, gf_86_8, ar_53, al_53, gf_86_9, ar_54, al_54, gf_86_10, ar_55, al_55, gf_86_11, ar_56, al_56, gf_86_12, ar_57, al_57, gf_86_13, pf_86_13, gf_86_14, pf_86_14, gf_86_15, ar_58, al_58, gf_86_16, ar_59, al_59, gf_86_17, ar_60, al_60, gf_86_18, ar_61, al_61, gf_86_19, ar_62, al_62, gf_86_20, pf_86_20, gf_86_21, pf_86_21, gf_86_22, ar_63, al_63, gf_86_23, ar_64, al_64, gf_86_24, ar_65, al_65, gf_86_25, ar_66, al_66, gf_86_26, ar_67, al_67, gf_86_27, ar_68, al_68, gf_86_28, ar_69, al_69, gf_86_29, ar_70, al_70, gf_86_30, ar_71, al_71, gf_86_31, ar_72, al_72, gf_86_32, ar_73, al_73, gf_86_33, ar_74, al_74, gf_86_34, pf_86_34]
      (repeat' (first | with_reducible apply And.intro | with_reducible intro _)) <;> first | omega | exact K
    · have z : am_and m (am_xor st (-1)) ≠ 0 := fun z => q (sd.mp z)
      have K := ih (m + 1) h (by omega) (by omega) hf hr (dp_nx hG I (fun z => absurd z q))
      have K2 : am_Ex 138 60 [some (.inr (.inr (some 86))), some (.inl a), some (.inl t), some (.inl st), some (.inl f), some (.inl m), some (.inl 0), none, none, none] [] h Q := by
        rw [bl_138_60]
        simp only [eq_self, and_self, am_up_at, Int.cast_ofNat_Int, Int.reduceNatCast, true_or, or_true, or_false, false_or, Classical.not_not, false_and, and_false, am_bk, am_step, am_ldI, am_ldL, am_ldA, am_nth, am_sto, am_stw_0, am_stw_i, am_stw_n, am_stw_a, am_stw_l, am_br, am_cmp, am_tk, am_cat, am_sw, am_copy, am_R, am_nc0, am_nc1, am_f0, am_f1, am_f2, am_f3, Int.reduceNeg, Int.reduceEq, Int.reduceLE, Int.reduceLT, Nat.reduceLeDiff, Nat.reduceAdd, Nat.reduceEqDiff, true_and, and_true, ↓reduceIte, if_false, if_true, forall_const, not_true_eq_false, not_false_eq_true, false_implies, true_implies, implies_true, Int.reduceAdd, Int.reduceMul, Int.reduceSub, ne_eq, ca_138_86, bl_138_64, bl_138_76, bl_138_88, bl_138_147, gf_86_0, pf_86_0, gf_86_1, ar_50, al_50, gf_86_2, pf_86_2, gf_86_3, pf_86_3, gf_86_4, pf_86_4, gf_86_5, pf_86_5, gf_86_6, ar_51, al_51, gf_86_7, ar_52, al_52, gf_86_8, ar_53, al_53, gf_86_9, ar_54, al_54, gf_86_10, ar_55, al_55, gf_86_11, ar_56, al_56, gf_86_12, ar_57, al_57, gf_86_13, pf_86_13, gf_86_14, pf_86_14, gf_86_15, ar_58, al_58, gf_86_16, ar_59, al_59, gf_86_17, ar_60, al_60, gf_86_18, ar_61, al_61, gf_86_19, ar_62, al_62, gf_86_20, pf_86_20, gf_86_21, pf_86_21, gf_86_22, ar_63, al_63, gf_86_23, ar_64, al_64, gf_86_24, ar_65, al_65, gf_86_25, ar_66, al_66, gf_86_26, ar_67, al_67, gf_86_27, ar_68, al_68, gf_86_28, ar_69, al_69, gf_86_29, ar_70, al_70, gf_86_30, ar_71, al_71, gf_86_31, ar_72, al_72, gf_86_32, ar_73, al_73, gf_86_33, ar_74, al_74, gf_86_34, pf_86_34, e5]
        (repeat' (first | with_reducible apply And.intro | with_reducible intro _)) <;> first | omega | exact am_forget K (by simp [am_lq]) | exact absurd (by assumption) z
      rw [bl_138_55]
      simp only [eq_self, and_self, am_up_at, Int.cast_ofNat_Int, Int.reduceNatCast, true_or, or_true, or_false, false_or, Classical.not_not, false_and, and_false, am_bk, am_step, am_ldI, am_ldL, am_ldA, am_nth, am_sto, am_stw_0, am_stw_i, am_stw_n, am_stw_a, am_stw_l, am_br, am_cmp, am_tk, am_cat, am_sw, am_copy, am_R, am_nc0, am_nc1, am_f0, am_f1, am_f2, am_f3, Int.reduceNeg, Int.reduceEq, Int.reduceLE, Int.reduceLT, Nat.reduceLeDiff, Nat.reduceAdd, Nat.reduceEqDiff, true_and, and_true, ↓reduceIte, if_false, if_true, forall_const, not_true_eq_false, not_false_eq_true, false_implies, true_implies, implies_true, Int.reduceAdd, Int.reduceMul, Int.reduceSub, ne_eq, ca_138_86, bl_138_58, gf_86_0, pf_86_0, gf_86_1, ar_50, al_50, gf_86_2, pf_86_2, gf_86_3, pf_86_3, gf_86_4, pf_86_4, gf_86_5, pf_86_5, gf_86_6, ar_51, al_51, gf_86_7, ar_52, al_52, gf_86_8, ar_53, al_53, gf_86_9, ar_54, al_54, gf_86_10, ar_55, al_55, gf_86_11, ar_56, al_56, gf_86_12, ar_57, al_57, gf_86_13, pf_86_13, gf_86_14, pf_86_14, gf_86_15, ar_58, al_58, gf_86_16, ar_59, al_59, gf_86_17, ar_60, al_60, gf_86_18, ar_61, al_61, gf_86_19, ar_62, al_62, gf_86_20, pf_86_20, gf_86_21, pf_86_21, gf_86_22, ar_63, al_63, gf_86_23, ar_64, al_64, gf_86_24, ar_65, al_65, gf_86_25, ar_66, al_66, gf_86_26, ar_67, al_67, gf_86_27, ar_68, al_68, gf_86_28, ar_69, al_69, gf_86_29, ar_70, al_70, gf_86_30, ar_71, al_71, gf_86_31, ar_72, al_72, gf_86_32, ar_73, al_73, gf_86_33, ar_74, al_74, gf_86_34, pf_86_34]
      (repeat' (first | with_reducible apply And.intro | with_reducible intro _)) <;> first | omega | exact K2
set_option maxHeartbeats 400000 in
set_option maxRecDepth 100000 in
theorem lp_mr4 {S : sg_S} {a t st f : Int} {A : Int → Int} {h0 : am_H} {Q : am_P} (hm0 : sg_of h0 = S) (hS : sg_ok S) (hF : tb_fit S) (ha : 0 ≤ a ∧ a < sg_G S) (hst : 0 ≤ st ∧ st ≤ 255) (hA : ∀ g, 0 ≤ g → g < sg_G S → A g = 99999 ∨ (0 ≤ A g ∧ A g ≤ 40000)) (h0A : ∀ g, A g = h0 71 (8 * st + g)) (H : ∀ h1 r, fr_m h0 h1 → 0 ≤ r → mn 99999 S A a (sg_G S) r → am_Ex 138 189 [some (.inr (.inr (some 86))), some (.inl a), some (.inl t), some (.inl st), some (.inl f), some (.inl r), some (.inl (sg_G S)), none, none, none] [] h1 Q) :
    ∀ (n : Nat) (x r : Int) (h : am_H), 0 ≤ x → x + n = sg_G S → fr_m h0 h → 0 ≤ r → mn 99999 S A a x r → am_Ex 138 153 [some (.inr (.inr (some 86))), some (.inl a), some (.inl t), some (.inl st), some (.inl f), some (.inl r), some (.inl x), none, none, none] [] h Q := by
  intro n
  have hG := hS.2.1
  induction n with
  | zero =>
    intro x r h x0 x1 hf r0 I
    have ex : x = sg_G S := by omega
    subst ex
    have e5 : h 86 5 = sg_G S := by rw [← hm0, ← fr_m_sg hf]; rfl
    have K := H h r hf r0 I
    rw [bl_138_153]
    simp only [eq_self, and_self, am_up_at, Int.cast_ofNat_Int, Int.reduceNatCast, true_or, or_true, or_false, false_or, Classical.not_not, false_and, and_false, am_bk, am_step, am_ldI, am_ldL, am_ldA, am_nth, am_sto, am_stw_0, am_stw_i, am_stw_n, am_stw_a, am_stw_l, am_br, am_cmp, am_tk, am_cat, am_sw, am_copy, am_R, am_nc0, am_nc1, am_f0, am_f1, am_f2, am_f3, Int.reduceNeg, Int.reduceEq, Int.reduceLE, Int.reduceLT, Nat.reduceLeDiff, Nat.reduceAdd, Nat.reduceEqDiff, true_and, and_true, ↓reduceIte, if_false, if_true, forall_const, not_true_eq_false, not_false_eq_true, false_implies, true_implies, implies_true, Int.reduceAdd, Int.reduceMul, Int.reduceSub, ne_eq, gf_86_0, pf_86_0, gf_86_1, ar_50, al_50, gf_86_2, pf_86_2, gf_86_3, pf_86_3, gf_86_4, pf_86_4, gf_86_5, pf_86_5, gf_86_6, ar_51, al_51, gf_86_7, ar_52, al_52, gf_86_8, ar_53, al_53, gf_86_9, ar_54, al_54, gf_86_10, ar_55, al_55, gf_86_11, ar_56, al_56, gf_86_12, ar_57, al_57, gf_86_13, pf_86_13, gf_86_14, pf_86_14, gf_86_15, ar_58, al_58, gf_86_16, ar_59, al_59, gf_86_17, ar_60, al_60, gf_86_18, ar_61, al_61, gf_86_19, ar_62, al_62, gf_86_20, pf_86_20, gf_86_21, pf_86_21, gf_86_22, ar_63, al_63, gf_86_23, ar_64, al_64, gf_86_24, ar_65, al_65, gf_86_25, ar_66, al_66, gf_86_26, ar_67, al_67, gf_86_27, ar_68, al_68, gf_86_28, ar_69, al_69, gf_86_29, ar_70, al_70, gf_86_30, ar_71, al_71, gf_86_31, ar_72, al_72, gf_86_32, ar_73, al_73, gf_86_33, ar_74, al_74, gf_86_34, pf_86_34, e5]
    (repeat' (first | with_reducible apply And.intro | with_reducible intro _)) <;> first | omega | exact K
  | succ n ih =>
    intro x r h x0 x1 hf r0 I
    have em : sg_of h = S := by rw [← hm0]; exact fr_m_sg hf
    have e5 : h 86 5 = sg_G S := by rw [← em]; rfl
    have rN := I.1
    have hx : 0 ≤ x ∧ x < sg_G S := by omega
    have e71 : h 71 (8 * st + x) = A x := by rw [hf 71 (by omega) (by omega), h0A]
    have rA := hA x hx.1 hx.2
    by_cases q : A x < 99999
    · have K : ∀ h1, fr_m h h1 → (∀ b, 0 ≤ b → b < sg_G S → ar_is 99999 S x (A x) b (h1 68 b)) → am_Ex 138 179 [some (.inr (.inr (some 86))), some (.inl a), some (.inl t), some (.inl st), some (.inl f), some (.inl r), some (.inl x), none, none, none] [.inl (h1 68 a)] h1 Q := by
        intro h1 f1 ar
        have a1 := ar a ha.1 ha.2
        have ar1 := ar_r (by omega) (by omega) a1
        have go : ∀ w, w = (if h1 68 a < r then h1 68 a else r) → am_Ex 138 153 [some (.inr (.inr (some 86))), some (.inl a), some (.inl t), some (.inl st), some (.inl f), some (.inl w), some (.inl (x + 1)), none, none, none] [] h1 Q := by
          intro w hw
          exact ih (x + 1) w h1 (by omega) (by omega) (fun c c1 c2 => (f1 c c1 c2).trans (hf c c1 c2)) (by rw [hw]; split <;> omega) (by rw [hw]; exact mn_s hx.1 I q a1 (by omega))
        have Ka := fun (z : h1 68 a < r) => go (h1 68 a) (by rw [if_pos z])
        have Kb := fun (z : ¬ h1 68 a < r) => go r (by rw [if_neg z])
        simp only [eq_self, and_self, am_up_at, Int.cast_ofNat_Int, Int.reduceNatCast, true_or, or_true, or_false, false_or, Classical.not_not, false_and, and_false, am_bk, am_step, am_ldI, am_ldL, am_ldA, am_nth, am_sto, am_stw_0, am_stw_i, am_stw_n, am_stw_a, am_stw_l, am_br, am_cmp, am_tk, am_cat, am_sw, am_copy, am_R, am_nc0, am_nc1, am_f0, am_f1, am_f2, am_f3, Int.reduceNeg, Int.reduceEq, Int.reduceLE, Int.reduceLT, Nat.reduceLeDiff, Nat.reduceAdd, Nat.reduceEqDiff, true_and, and_true, ↓reduceIte, if_false, if_true, forall_const, not_true_eq_false, not_false_eq_true, false_implies, true_implies, implies_true, Int.reduceAdd, Int.reduceMul, Int.reduceSub, ne_eq, ca_138_86, bl_138_179, bl_138_185, bl_138_186, bl_138_187, gf_86_0, pf_86_0, gf_86_1, ar_50, al_50, gf_86_2, pf_86_2, gf_86_3, pf_86_3, gf_86_4, pf_86_4, gf_86_5, pf_86_5, gf_86_6, ar_51, al_51, gf_86_7, ar_52, al_52, gf_86_8, ar_53, al_53, gf_86_9, ar_54, al_54, gf_86_10, ar_55, al_55, gf_86_11, ar_56, al_56, gf_86_12, ar_57, al_57, gf_86_13, pf_86_13, gf_86_14, pf_86_14, gf_86_15, ar_58, al_58, gf_86_16, ar_59, al_59, gf_86_17, ar_60, al_60, gf_86_18, ar_61, al_61, gf_86_19, ar_62, al_62, gf_86_20, pf_86_20, gf_86_21, pf_86_21, gf_86_22, ar_63, al_63, gf_86_23, ar_64, al_64, gf_86_24, ar_65, al_65, gf_86_25, ar_66, al_66, gf_86_26, ar_67, al_67, gf_86_27, ar_68, al_68, gf_86_28, ar_69, al_69, gf_86_29, ar_70, al_70, gf_86_30, ar_71, al_71, gf_86_31, ar_72, al_72, gf_86_32, ar_73, al_73, gf_86_33, ar_74, al_74, gf_86_34, pf_86_34]
        (repeat' (first | with_reducible apply And.intro | with_reducible intro _)) <;> first | omega | exact am_forget (Ka (by omega)) (by simp [am_lq]) | exact am_forget (Kb (by omega)) (by simp [am_lq])
      rw [bl_138_153]
      simp only [eq_self, and_self, am_up_at, Int.cast_ofNat_Int, Int.reduceNatCast, true_or, or_true, or_false, false_or, Classical.not_not, false_and, and_false, am_bk, am_step, am_ldI, am_ldL, am_ldA, am_nth, am_sto, am_stw_0, am_stw_i, am_stw_n, am_stw_a, am_stw_l, am_br, am_cmp, am_tk, am_cat, am_sw, am_copy, am_R, am_nc0, am_nc1, am_f0, am_f1, am_f2, am_f3, Int.reduceNeg, Int.reduceEq, Int.reduceLE, Int.reduceLT, Nat.reduceLeDiff, Nat.reduceAdd, Nat.reduceEqDiff, true_and, and_true, ↓reduceIte, if_false, if_true, forall_const, not_true_eq_false, not_false_eq_true, false_implies, true_implies, implies_true, Int.reduceAdd, Int.reduceMul, Int.reduceSub, ne_eq, ca_138_86, bl_138_157, bl_138_169, gf_86_0, pf_86_0, gf_86_1, ar_50, al_50, gf_86_2, pf_86_2, gf_86_3, pf_86_3, gf_86_4, pf_86_4, gf_86_5, pf_86_5, gf_86_6, ar_51, al_51, gf_86_7, ar_52, al_52, gf_86_8, ar_53, al_53, gf_86_9, ar_54, al_54, gf_86_10, ar_55, al_55, gf_86_11, ar_56, al_56, gf_86_12, ar_57, al_57, gf_86_13, pf_86_13, gf_86_14, pf_86_14, gf_86_15, ar_58, al_58, gf_86_16, ar_59, al_59, gf_86_17, ar_60, al_60, gf_86_18, ar_61, al_61, gf_86_19, ar_62, al_62, gf_86_20, pf_86_20, gf_86_21, pf_86_21, gf_86_22, ar_63, al_63, gf_86_23, ar_64, al_64, gf_86_24, ar_65, al_65, gf_86_25, ar_66, al_66, gf_86_26, ar_67, al_67, gf_86_27, ar_68, al_68, gf_86_28, ar_69, al_69, gf_86_29, ar_70, al_70, gf_86_30, ar_71, al_71, gf_86_31, ar_72, al_72, gf_86_32, ar_73, al_73, gf_86_33, ar_74, al_74, gf_86_34, pf_86_34, e5, e71]
      (repeat' (first | with_reducible apply And.intro | with_reducible intro _)) <;> first | omega | exact sp_Msoon em hS hF hx ha (by omega) K
    · have K := ih (x + 1) r h (by omega) (by omega) hf r0 (mn_k I q)
      rw [bl_138_153]
      simp only [eq_self, and_self, am_up_at, Int.cast_ofNat_Int, Int.reduceNatCast, true_or, or_true, or_false, false_or, Classical.not_not, false_and, and_false, am_bk, am_step, am_ldI, am_ldL, am_ldA, am_nth, am_sto, am_stw_0, am_stw_i, am_stw_n, am_stw_a, am_stw_l, am_br, am_cmp, am_tk, am_cat, am_sw, am_copy, am_R, am_nc0, am_nc1, am_f0, am_f1, am_f2, am_f3, Int.reduceNeg, Int.reduceEq, Int.reduceLE, Int.reduceLT, Nat.reduceLeDiff, Nat.reduceAdd, Nat.reduceEqDiff, true_and, and_true, ↓reduceIte, if_false, if_true, forall_const, not_true_eq_false, not_false_eq_true, false_implies, true_implies, implies_true, Int.reduceAdd, Int.reduceMul, Int.reduceSub, ne_eq, ca_138_86, bl_138_157, bl_138_169, bl_138_187, gf_86_0, pf_86_0, gf_86_1, ar_50, al_50, gf_86_2, pf_86_2, gf_86_3, pf_86_3, gf_86_4, pf_86_4, gf_86_5, pf_86_5, gf_86_6, ar_51, al_51, gf_86_7, ar_52, al_52, gf_86_8, ar_53, al_53, gf_86_9, ar_54, al_54, gf_86_10, ar_55, al_55, gf_86_11, ar_56, al_56, gf_86_12, ar_57, al_57, gf_86_13, pf_86_13, gf_86_14, pf_86_14, gf_86_15, ar_58, al_58, gf_86_16, ar_59, al_59, gf_86_17, ar_60, al_60, gf_86_18, ar_61, al_61, gf_86_19, ar_62, al_62, gf_86_20, pf_86_20, gf_86_21, pf_86_21, gf_86_22, ar_63, al_63, gf_86_23, ar_64, al_64, gf_86_24, ar_65, al_65, gf_86_25, ar_66, al_66, gf_86_26, ar_67, al_67, gf_86_27, ar_68, al_68, gf_86_28, ar_69, al_69, gf_86_29, ar_70, al_70, gf_86_30, ar_71, al_71, gf_86_31, ar_72, al_72, gf_86_32, ar_73, al_73, gf_86_33, ar_74, al_74, gf_86_34, pf_86_34, e5, e71]
      (repeat' (first | with_reducible apply And.intro | with_reducible intro _)) <;> first | omega | exact K
theorem pw_1 (g : Int) : 1 ≤ pw g := by
  have := Nat.one_le_two_pow (n := g.toNat)
  unfold pw
  omega
set_option maxHeartbeats 400000 in
set_option maxRecDepth 100000 in
theorem pr_round {h : am_H} {k a t st : Int} (ha : am_R a) (ht : am_R t) (hst : am_R st) (hi : iv h k) (hk : k ≤ 600) : rg_pair 75 138 [.inl a, .inl t, .inl st] h k := by
  unfold rg_pair
  have hthr := iv_thr hi
  have hS := hi.1
  have hF := tb_fit_of hi
  have e1 := hS.2.1
  have c2 := hi.2.1.2.1
  have eG : sg_G (sg_of h) = h 86 5 := rfl
  have f := (bt_full e1).1
  obtain ⟨s1, s2⟩ := id hst
  have X0 : xd h h k := ⟨fun _ _ => rfl, rfl, iv_w_up hi.2.2.2.2.2.2.2.2⟩
  refine gx_round ha ht hst (by omega) (fun V => ?_) (fun V => ?_)
  · exact gm_round ha ht hst (by omega) (fun _ => rg_leaf rfl (by omega) hthr) (fun V' => absurd V' (by omega))
  have hg : 0 ≤ a ∧ a < sg_G (sg_of h) := by omega
  have ha7 : 0 ≤ a ∧ a ≤ 7 := by omega
  have mod : ∀ h1, xd h h1 k → ∀ q, (¬ (0 ≤ st ∧ st < am_shl 1 (sg_G (sg_of h))) → q = -2) → (0 ≤ st ∧ st < am_shl 1 (sg_G (sg_of h)) → ∃ r A, (q = if r < 1000000 then r else -9) ∧ dp 1000000 (sg_of h) a t (st - (if bt st a = 1 then pw a else 0)) 0 (st - (if bt st a = 1 then pw a else 0)) (fun _ => 0) A ∧ mn 1000000 (sg_of h) (fun z => A (8 * (st - (if bt st a = 1 then pw a else 0)) + z)) a (sg_G (sg_of h)) r) → am_Call 138 [.inr (.inr (some 86)), .inl a, .inl t, .inl st] h1 (rg_post k (some (.inl q))) := by
    intro h1 X q q1 q2
    have f86 := X.1 86 (by omega)
    have f5 : h1 86 5 = sg_G (sg_of h) := by rw [f86]; rfl
    have em : sg_of (am_up h1 86 0 0) = sg_of h := (mx_sg (mx_thr h1)).trans (cx_sg X.1)
    have L2 := fun z => rg_leaf (k := k) (A := q) (B := -2) (by have := q1 z; omega) (by have := q1 z; omega) (ed hi X (mx_thr h1))
    have L3 : 0 ≤ st ∧ st < am_shl 1 (sg_G (sg_of h)) → am_Ex 138 28 [some (.inr (.inr (some 86))), some (.inl a), some (.inl t), some (.inl st), some (.inl 0), none, none, none, none, none] [] (am_up h1 86 0 0) (rg_post k (some (.inl q))) := by
      intro W
      obtain ⟨r, A, r1, r2, r3⟩ := q2 W
      have stR : 0 ≤ st ∧ st ≤ 255 := by omega
      have fi := bt_fi stR ha7
      have pa := pw_r ha7
      obtain ⟨fv, efv⟩ : ∃ fv, fv = (if bt st a = 1 then pw a else 0) := ⟨_, rfl⟩
      rw [← efv] at fi r2 r3
      have fr : 0 ≤ fv ∧ fv ≤ 128 := by rw [efv]; split <;> omega
      have sself : sub st st := ⟨stR, fun _ _ _ z => z⟩
      have alR : 0 ≤ st - fv ∧ st - fv ≤ 255 := by
        rw [efv]
        by_cases c : bt st a = 1
        · rw [if_pos c]; exact (bt_mi stR ha7 c).1
        · rw [if_neg c]; omega
      refine lp_mr0 (fun h2 f2 I2 => ?_) 2048 0 _ (by omega) (by omega) (fun _ _ => rfl) (fun i i1 i2 => by omega)
      have em2 : sg_of h2 = sg_of h := by rw [← em]; exact mx_sg (mx_fs (fun c _ _ c3 => f2 c c3))
      have K := lp_mr3 (a := a) (f := fv) (Q := rg_post k (some (.inl q))) (h0 := am_up h2 71 (8 * fv + a) t) (by rw [← em2]; exact mx_sg (mx_up (by omega))) hS hF (show 0 ≤ t ∧ t ≤ 299 by omega) stR (fun h3 f3 r3' I3 => by
        have em3 : sg_of h3 = sg_of h := by rw [← em2]; exact (mx_sg (mx_fs f3)).trans (mx_sg (mx_up (by omega)))
        have K := lp_mr4 (t := t) (f := fv) (A := fun z => h3 71 (8 * st + z)) (Q := rg_post k (some (.inl q))) em3 hS hF hg stR (fun g g0 g1 => by
          have := dp_b e1 (show 0 ≤ t ∧ t ≤ 299 by omega) (by omega) I3 st.toNat st g (by omega) sself g0 g1
          have := pc_r st
          show h3 71 (8 * st + g) = 99999 ∨ (0 ≤ h3 71 (8 * st + g) ∧ h3 71 (8 * st + g) ≤ 40000)
          omega) (fun g => rfl) (fun h4 r' f4 r0 M => by
            have fin := ed hi X (mx_t (mx_thr h1) (mx_t (mx_fs (fun c _ _ c3 => f2 c c3)) (mx_t (mx_up (c := 71) (i := 8 * fv + a) (v := t) (by omega)) (mx_t (mx_fs f3) (mx_fr f4)))))
            have hfa : fv = 0 ∨ fv = pw a := by rw [efv]; split <;> simp
            have bst : fv = pw a → bt st a = 1 := fun z => by
              by_cases c : bt st a = 1
              · exact c
              · rw [if_neg c] at efv; omega
            have bst0 : fv = 0 → bt st a ≠ 1 := fun z c => by rw [if_pos c] at efv; omega
            have sal : ∀ s, sub s (st - fv) → (∀ k, 0 ≤ k → k ≤ 7 → bt s k = 1 → bt st k = 1) ∧ bt s a ≠ 1 := by
              intro s hs
              rcases hfa with z | z
              · rw [z, show st - 0 = st by omega] at hs
                exact ⟨hs.2, fun y => bst0 z (hs.2 a ha7.1 ha7.2 y)⟩
              · rw [z] at hs
                have mi := bt_mi stR ha7 (bst z)
                refine ⟨fun k k1 k2 y => ?_, fun y => ?_⟩
                · have := hs.2 k k1 k2 y
                  rw [mi.2 k k1 k2] at this
                  split at this
                  · omega
                  · exact this
                · have := hs.2 a ha7.1 ha7.2 y
                  rw [mi.2 a ha7.1 ha7.2, if_pos rfl] at this
                  omega
            have two := dp_two (N := 1000000) (M := 99999) (f := fv) e1 (show 0 ≤ t ∧ t ≤ 299 by omega) (by omega) (by omega) hg hfa (sal (st - fv) ⟨alR, fun _ _ _ z => z⟩).2 (fun s hs => by
              have sa := sal s hs
              rcases hfa with z | z
              · rw [z, show s + 0 = s by omega]
                exact ⟨⟨hs.1, sa.1⟩, fun _ _ _ _ => rfl, fun _ => sa.2⟩
              · rw [z]
                have p := bt_pl hs.1 ha7 sa.2
                refine ⟨⟨p.1, fun k k1 k2 y => ?_⟩, fun k k1 k2 k3 => by rw [p.2 k k1 k2, if_neg k3], fun y => by omega⟩
                rw [p.2 k k1 k2] at y
                split at y
                · rename_i c; rw [c]; exact bst z
                · exact sa.1 k k1 k2 y) (fun _ s hs => ⟨hs.1, (sal s hs).1⟩) r2 I3 (fun p g p1 p2 p3 => by
                have := sub_le p1 alR
                have := pw_1 g
                omega) (fun p p1 => by have := sub_le p1 stR; omega) (st - fv).toNat (st - fv)
            have pcr := pc_r (st - fv)
            have res := mn_two (B := 299 + 4040 * pc (st - fv)) (by omega) (by omega) (by omega) (fun g g0 g1 => by
              have z := two g (by omega) ⟨alR, fun _ _ _ z => z⟩ g0 g1
              rw [show st - fv + fv = st by omega] at z
              exact z) r3 M
            have rN' := M.1
            have Ka : r' = 99999 → rg_post k (some (.inl q)) (some (.inl (-9))) h4 := fun z => rg_leaf (by rw [r1]; rcases res with y | y <;> (split <;> omega)) (by rw [r1]; rcases res with y | y <;> (split <;> omega)) fin
            have Kb : ¬ r' = 99999 → rg_post k (some (.inl q)) (some (.inl r')) h4 := fun z => rg_leaf (by rw [r1]; rcases res with y | y <;> (split <;> omega)) (by rw [r1]; rcases res with y | y <;> (split <;> omega)) fin
            simp only [eq_self, and_self, am_up_at, Int.cast_ofNat_Int, Int.reduceNatCast, true_or, or_true, or_false, false_or, Classical.not_not, false_and, and_false, am_bk, am_step, am_ldI, am_ldL, am_ldA, am_nth, am_sto, am_stw_0, am_stw_i, am_stw_n, am_stw_a, am_stw_l, am_br, am_cmp, am_tk, am_cat, am_sw, am_copy, am_R, am_nc0, am_nc1, am_f0, am_f1, am_f2, am_f3, Int.reduceNeg, Int.reduceEq, Int.reduceLE, Int.reduceLT, Nat.reduceLeDiff, Nat.reduceAdd, Nat.reduceEqDiff, true_and, and_true, ↓reduceIte, if_false, if_true, forall_const, not_true_eq_false, not_false_eq_true, false_implies, true_implies, implies_true, Int.reduceAdd, Int.reduceMul, Int.reduceSub, ne_eq, ca_138_86, bl_138_189, bl_138_194, bl_138_195, gf_86_0, pf_86_0, gf_86_1, ar_50, al_50, gf_86_2, pf_86_2, gf_86_3, pf_86_3, gf_86_4, pf_86_4, gf_86_5, pf_86_5, gf_86_6, ar_51, al_51, gf_86_7, ar_52, al_52, gf_86_8, ar_53, al_53, gf_86_9, ar_54, al_54, gf_86_10, ar_55, al_55, gf_86_11, ar_56, al_56, gf_86_12, ar_57, al_57, gf_86_13, pf_86_13, gf_86_14, pf_86_14, gf_86_15, ar_58, al_58, gf_86_16, ar_59, al_59, gf_86_17, ar_60, al_60, gf_86_18, ar_61, al_61, gf_86_19, ar_62, al_62, gf_86_20, pf_86_20, gf_86_21, pf_86_21, gf_86_22, ar_63, al_63, gf_86_23, ar_64, al_64, gf_86_24, ar_65, al_65, gf_86_25, ar_66, al_66, gf_86_26, ar_67, al_67, gf_86_27, ar_68, al_68, gf_86_28, ar_69, al_69, gf_86_29, ar_70, al_70, gf_86_30, ar_71, al_71, gf_86_31, ar_72, al_72, gf_86_32, ar_73, al_73, gf_86_33, ar_74, al_74, gf_86_34, pf_86_34]
            (repeat' (first | with_reducible apply And.intro | with_reducible intro _)) <;> first | omega | exact Ka (by assumption) | exact Kb (by assumption)) (sg_G (sg_of h)).toNat 0 99999 h3 (by omega) (by omega) (fun _ _ _ => rfl) (by omega) (mn_0.mpr rfl)
        simp only [eq_self, and_self, am_up_at, Int.cast_ofNat_Int, Int.reduceNatCast, true_or, or_true, or_false, false_or, Classical.not_not, false_and, and_false, am_bk, am_step, am_ldI, am_ldL, am_ldA, am_nth, am_sto, am_stw_0, am_stw_i, am_stw_n, am_stw_a, am_stw_l, am_br, am_cmp, am_tk, am_cat, am_sw, am_copy, am_R, am_nc0, am_nc1, am_f0, am_f1, am_f2, am_f3, Int.reduceNeg, Int.reduceEq, Int.reduceLE, Int.reduceLT, Nat.reduceLeDiff, Nat.reduceAdd, Nat.reduceEqDiff, true_and, and_true, ↓reduceIte, if_false, if_true, forall_const, not_true_eq_false, not_false_eq_true, false_implies, true_implies, implies_true, Int.reduceAdd, Int.reduceMul, Int.reduceSub, ne_eq, ca_138_86, bl_138_149, gf_86_0, pf_86_0, gf_86_1, ar_50, al_50, gf_86_2, pf_86_2, gf_86_3, pf_86_3, gf_86_4, pf_86_4, gf_86_5, pf_86_5, gf_86_6, ar_51, al_51, gf_86_7, ar_52, al_52, gf_86_8, ar_53, al_53, gf_86_9, ar_54, al_54, gf_86_10, ar_55, al_55, gf_86_11, ar_56, al_56, gf_86_12, ar_57, al_57, gf_86_13, pf_86_13, gf_86_14, pf_86_14, gf_86_15, ar_58, al_58, gf_86_16, ar_59, al_59, gf_86_17, ar_60, al_60, gf_86_18, ar_61, al_61, gf_86_19, ar_62, al_62, gf_86_20, pf_86_20, gf_86_21, pf_86_21, gf_86_22, ar_63, al_63, gf_86_23, ar_64, al_64, gf_86_24, ar_65, al_65, gf_86_25, ar_66, al_66, gf_86_26, ar_67, al_67, gf_86_27, ar_68, al_68, gf_86_28, ar_69, al_69, gf_86_29, ar_70, al_70, gf_86_30, ar_71, al_71, gf_86_31, ar_72, al_72, gf_86_32, ar_73, al_73, gf_86_33, ar_74, al_74, gf_86_34, pf_86_34]
        (repeat' (first | with_reducible apply And.intro | with_reducible intro _)) <;> first | omega | exact K) (st + 1).toNat 0 (am_up h2 71 (8 * fv + a) t) (by omega) (by omega) (fun _ _ _ _ => rfl) (fun i i1 i2 => by
          rw [am_up_at]
          split
          · omega
          · rw [I2 i i1 i2]; omega) (dp_0 e1 (fun s g hs g0 g1 => by
          have := hs.1
          rw [am_up_at]
          simp only [true_and]
          rw [I2 (8 * s + g) (by omega) (by omega)]
          by_cases c : s = fv ∧ g = a
          · rw [if_pos c, if_pos (by omega)]
          · rw [if_neg c, if_neg (by omega)]))
      simp only [eq_self, and_self, am_up_at, Int.cast_ofNat_Int, Int.reduceNatCast, true_or, or_true, or_false, false_or, Classical.not_not, false_and, and_false, am_bk, am_step, am_ldI, am_ldL, am_ldA, am_nth, am_sto, am_stw_0, am_stw_i, am_stw_n, am_stw_a, am_stw_l, am_br, am_cmp, am_tk, am_cat, am_sw, am_copy, am_R, am_nc0, am_nc1, am_f0, am_f1, am_f2, am_f3, Int.reduceNeg, Int.reduceEq, Int.reduceLE, Int.reduceLT, Nat.reduceLeDiff, Nat.reduceAdd, Nat.reduceEqDiff, true_and, and_true, ↓reduceIte, if_false, if_true, forall_const, not_true_eq_false, not_false_eq_true, false_implies, true_implies, implies_true, Int.reduceAdd, Int.reduceMul, Int.reduceSub, ne_eq, ca_138_86, bl_138_38, bl_138_50, gf_86_0, pf_86_0, gf_86_1, ar_50, al_50, gf_86_2, pf_86_2, gf_86_3, pf_86_3, gf_86_4, pf_86_4, gf_86_5, pf_86_5, gf_86_6, ar_51, al_51, gf_86_7, ar_52, al_52, gf_86_8, ar_53, al_53, gf_86_9, ar_54, al_54, gf_86_10, ar_55, al_55, gf_86_11, ar_56, al_56, gf_86_12, ar_57, al_57, gf_86_13, pf_86_13, gf_86_14, pf_86_14, gf_86_15, ar_58, al_58, gf_86_16, ar_59, al_59, gf_86_17, ar_60, al_60, gf_86_18, ar_61, al_61, gf_86_19, ar_62, al_62, gf_86_20, pf_86_20, gf_86_21, pf_86_21, gf_86_22, ar_63, al_63, gf_86_23, ar_64, al_64, gf_86_24, ar_65, al_65, gf_86_25, ar_66, al_66, gf_86_26, ar_67, al_67, gf_86_27, ar_68, al_68, gf_86_28, ar_69, al_69, gf_86_29, ar_70, al_70, gf_86_30, ar_71, al_71, gf_86_31, ar_72, al_72, gf_86_32, ar_73, al_73, gf_86_33, ar_74, al_74, gf_86_34, pf_86_34, fi]
      (repeat' (first | with_reducible apply And.intro | with_reducible intro _)) <;> first | omega | exact K
    refine gm_round ha ht hst (by rw [f86]; omega) (fun V' => absurd V (by rw [f86] at V'; omega)) (fun V' => ?_)
    simp (disch := omega) only [eq_self, and_self, am_up_at, Int.cast_ofNat_Int, Int.reduceNatCast, true_or, or_true, or_false, false_or, Classical.not_not, false_and, and_false, am_bk, am_step, am_ldI, am_ldL, am_ldA, am_nth, am_sto, am_stw_0, am_stw_i, am_stw_n, am_stw_a, am_stw_l, am_br, am_cmp, am_tk, am_cat, am_sw, am_copy, am_R, am_nc0, am_nc1, am_f0, am_f1, am_f2, am_f3, Int.reduceNeg, Int.reduceEq, Int.reduceLE, Int.reduceLT, Nat.reduceLeDiff, Nat.reduceAdd, Nat.reduceEqDiff, true_and, and_true, ↓reduceIte, if_false, if_true, forall_const, not_true_eq_false, not_false_eq_true, false_implies, true_implies, implies_true, Int.reduceAdd, Int.reduceMul, Int.reduceSub, ne_eq, ca_138_86, bl_138_12, bl_138_23, bl_138_26, gf_86_0, pf_86_0, gf_86_1, ar_50, al_50, gf_86_2, pf_86_2, gf_86_3, pf_86_3, gf_86_4, pf_86_4, gf_86_5, pf_86_5, gf_86_6, ar_51, al_51, gf_86_7, ar_52, al_52, gf_86_8, ar_53, al_53, gf_86_9, ar_54, al_54, gf_86_10, ar_55, al_55, gf_86_11, ar_56, al_56, gf_86_12, ar_57, al_57, gf_86_13, pf_86_13, gf_86_14, pf_86_14, gf_86_15, ar_58, al_58, gf_86_16, ar_59, al_59, gf_86_17, ar_60, al_60, gf_86_18, ar_61, al_61, gf_86_19, ar_62, al_62, gf_86_20, pf_86_20, gf_86_21, pf_86_21, gf_86_22, ar_63, al_63, gf_86_23, ar_64, al_64, gf_86_24, ar_65, al_65, gf_86_25, ar_66, al_66, gf_86_26, ar_67, al_67, gf_86_27, ar_68, al_68, gf_86_28, ar_69, al_69, gf_86_29, ar_70, al_70, gf_86_30, ar_71, al_71, gf_86_31, ar_72, al_72, gf_86_32, ar_73, al_73, gf_86_33, ar_74, al_74, gf_86_34, pf_86_34, eq_in, am_i2l_of, f5]
    (repeat' (first | with_reducible apply And.intro | with_reducible intro _)) <;> first | omega | exact L2 (by omega) | exact L3 (by omega)
  have ec : h 78 1 = sg_G (sg_of h) := c2
  simp only [eq_self, and_self, am_up_at, Int.cast_ofNat_Int, Int.reduceNatCast, true_or, or_true, or_false, false_or, Classical.not_not, false_and, and_false, am_bk, am_step, am_ldI, am_ldL, am_ldA, am_nth, am_sto, am_stw_0, am_stw_i, am_stw_n, am_stw_a, am_stw_l, am_br, am_cmp, am_tk, am_cat, am_sw, am_copy, am_R, am_nc0, am_nc1, am_f0, am_f1, am_f2, am_f3, Int.reduceNeg, Int.reduceEq, Int.reduceLE, Int.reduceLT, Nat.reduceLeDiff, Nat.reduceAdd, Nat.reduceEqDiff, true_and, and_true, ↓reduceIte, if_false, if_true, forall_const, not_true_eq_false, not_false_eq_true, false_implies, true_implies, implies_true, Int.reduceAdd, Int.reduceMul, Int.reduceSub, ne_eq, ca_75_75, bl_75_10, gf_75_0, ar_0, al_0, gf_75_1, pf_75_1, gf_75_2, gf_75_3, gf_75_4, gf_75_5, gf_75_6, gf_75_7, gf_75_8, gf_75_9, gf_75_10]
  refine eq_hasGates hst (by omega) (fun z => ?_) (fun z => ?_)
  · rw [ec] at z
    have K : am_Ex 75 17 [some (.inr (.inr (some 75))), some (.inl a), some (.inl t), some (.inl st)] [] h (fun o h1 => am_Call 138 [.inr (.inr (some 86)), .inl a, .inl t, .inl st] h1 (rg_post k o)) := by
      simp only [eq_self, and_self, am_up_at, Int.cast_ofNat_Int, Int.reduceNatCast, true_or, or_true, or_false, false_or, Classical.not_not, false_and, and_false, am_bk, am_step, am_ldI, am_ldL, am_ldA, am_nth, am_sto, am_stw_0, am_stw_i, am_stw_n, am_stw_a, am_stw_l, am_br, am_cmp, am_tk, am_cat, am_sw, am_copy, am_R, am_nc0, am_nc1, am_f0, am_f1, am_f2, am_f3, Int.reduceNeg, Int.reduceEq, Int.reduceLE, Int.reduceLT, Nat.reduceLeDiff, Nat.reduceAdd, Nat.reduceEqDiff, true_and, and_true, ↓reduceIte, if_false, if_true, forall_const, not_true_eq_false, not_false_eq_true, false_implies, true_implies, implies_true, Int.reduceAdd, Int.reduceMul, Int.reduceSub, ne_eq, ca_75_75, bl_75_17, gf_75_0, ar_0, al_0, gf_75_1, pf_75_1, gf_75_2, gf_75_3, gf_75_4, gf_75_5, gf_75_6, gf_75_7, gf_75_8, gf_75_9, gf_75_10]
      refine sp_lay0 hi hk (fun h1 y1 l10 l9 lc => ?_)
      simp only [eq_self, and_self, am_up_at, Int.cast_ofNat_Int, Int.reduceNatCast, true_or, or_true, or_false, false_or, Classical.not_not, false_and, and_false, am_bk, am_step, am_ldI, am_ldL, am_ldA, am_nth, am_sto, am_stw_0, am_stw_i, am_stw_n, am_stw_a, am_stw_l, am_br, am_cmp, am_tk, am_cat, am_sw, am_copy, am_R, am_nc0, am_nc1, am_f0, am_f1, am_f2, am_f3, Int.reduceNeg, Int.reduceEq, Int.reduceLE, Int.reduceLT, Nat.reduceLeDiff, Nat.reduceAdd, Nat.reduceEqDiff, true_and, and_true, ↓reduceIte, if_false, if_true, forall_const, not_true_eq_false, not_false_eq_true, false_implies, true_implies, implies_true, Int.reduceAdd, Int.reduceMul, Int.reduceSub, ne_eq, ca_75_75, bl_75_22, gf_75_0, ar_0, al_0, gf_75_1, pf_75_1, gf_75_2, gf_75_3, gf_75_4, gf_75_5, gf_75_6, gf_75_7, gf_75_8, gf_75_9, gf_75_10]
      refine sp_eor y1 hg (by omega) (by omega) rfl (fun h2 r A y2 f2 D M => ?_)
      have X : xd h h2 k := xd_of hi y2 (by rw [f2 83 (by omega) (by omega) (by omega)]; omega) (by rw [f2 83 (by omega) (by omega) (by omega)]; exact l9) (cx_x (fun c c1 c2 c3 c4 _ c6 _ _ => (f2 c c3 c4 c6).trans (lc c c1 c2)))
      have rr : -9 ≤ r ∧ r ≤ 1000000 := by
        refine ⟨?_, M.1⟩
        rcases M.2.2.1 with q | ⟨g, g1, g2, g3⟩
        · omega
        · have bA := dp_b e1 (show 0 ≤ t ∧ t ≤ 299 by omega) (by omega) D
          rcases g3 with q | q
          · have stR : 0 ≤ st ∧ st ≤ 255 := by omega
            have alR : sub (st - (if bt st a = 1 then pw a else 0)) (st - (if bt st a = 1 then pw a else 0)) := by
              refine ⟨?_, fun _ _ _ z => z⟩
              by_cases c : bt st a = 1
              · rw [if_pos c]; exact (bt_mi stR ha7 c).1
              · rw [if_neg c]; omega
            have b := bA _ _ g (Nat.le_refl _) alR g1.1 g1.2
            have q1 : A (8 * (st - (if bt st a = 1 then pw a else 0)) + g) ≤ r := q.1.1
            omega
          · omega
      have K := mod h2 X (if r < 1000000 then r else -9) (fun y => absurd z y) (fun _ => ⟨r, A, rfl, D, M⟩)
      simp only [eq_self, and_self, am_up_at, Int.cast_ofNat_Int, Int.reduceNatCast, true_or, or_true, or_false, false_or, Classical.not_not, false_and, and_false, am_bk, am_step, am_ldI, am_ldL, am_ldA, am_nth, am_sto, am_stw_0, am_stw_i, am_stw_n, am_stw_a, am_stw_l, am_br, am_cmp, am_tk, am_cat, am_sw, am_copy, am_R, am_nc0, am_nc1, am_f0, am_f1, am_f2, am_f3, Int.reduceNeg, Int.reduceEq, Int.reduceLE, Int.reduceLT, Nat.reduceLeDiff, Nat.reduceAdd, Nat.reduceEqDiff, true_and, and_true, ↓reduceIte, if_false, if_true, forall_const, not_true_eq_false, not_false_eq_true, false_implies, true_implies, implies_true, Int.reduceAdd, Int.reduceMul, Int.reduceSub, ne_eq, ca_75_75, bl_75_28, bl_75_29, ca_90, bl_90_0, bl_90_5, bl_90_6, gf_75_0, ar_0, al_0, gf_75_1, pf_75_1, gf_75_2, gf_75_3, gf_75_4, gf_75_5, gf_75_6, gf_75_7, gf_75_8, gf_75_9, gf_75_10]
      by_cases c : r < 1000000
      · rw [if_pos c] at K
        (repeat' (first | with_reducible apply And.intro | with_reducible intro _)) <;> first | omega | exact K
      · rw [if_neg c] at K
        (repeat' (first | with_reducible apply And.intro | with_reducible intro _)) <;> first | omega | exact K
    simp only [eq_self, and_self, am_up_at, Int.cast_ofNat_Int, Int.reduceNatCast, true_or, or_true, or_false, false_or, Classical.not_not, false_and, and_false, am_bk, am_step, am_ldI, am_ldL, am_ldA, am_nth, am_sto, am_stw_0, am_stw_i, am_stw_n, am_stw_a, am_stw_l, am_br, am_cmp, am_tk, am_cat, am_sw, am_copy, am_R, am_nc0, am_nc1, am_f0, am_f1, am_f2, am_f3, Int.reduceNeg, Int.reduceEq, Int.reduceLE, Int.reduceLT, Nat.reduceLeDiff, Nat.reduceAdd, Nat.reduceEqDiff, true_and, and_true, ↓reduceIte, if_false, if_true, forall_const, not_true_eq_false, not_false_eq_true, false_implies, true_implies, implies_true, Int.reduceAdd, Int.reduceMul, Int.reduceSub, ne_eq, ca_75_75, bl_75_14, gf_75_0, ar_0, al_0, gf_75_1, pf_75_1, gf_75_2, gf_75_3, gf_75_4, gf_75_5, gf_75_6, gf_75_7, gf_75_8, gf_75_9, gf_75_10]
    (repeat' (first | with_reducible apply And.intro | with_reducible intro _)) <;> first | omega | exact K
  · rw [ec] at z
    have K := mod h X0 (-2) (fun _ => rfl) (fun y => absurd y z)
    simp only [eq_self, and_self, am_up_at, Int.cast_ofNat_Int, Int.reduceNatCast, true_or, or_true, or_false, false_or, Classical.not_not, false_and, and_false, am_bk, am_step, am_ldI, am_ldL, am_ldA, am_nth, am_sto, am_stw_0, am_stw_i, am_stw_n, am_stw_a, am_stw_l, am_br, am_cmp, am_tk, am_cat, am_sw, am_copy, am_R, am_nc0, am_nc1, am_f0, am_f1, am_f2, am_f3, Int.reduceNeg, Int.reduceEq, Int.reduceLE, Int.reduceLT, Nat.reduceLeDiff, Nat.reduceAdd, Nat.reduceEqDiff, true_and, and_true, ↓reduceIte, if_false, if_true, forall_const, not_true_eq_false, not_false_eq_true, false_implies, true_implies, implies_true, Int.reduceAdd, Int.reduceMul, Int.reduceSub, ne_eq, ca_75_75, bl_75_14, gf_75_0, ar_0, al_0, gf_75_1, pf_75_1, gf_75_2, gf_75_3, gf_75_4, gf_75_5, gf_75_6, gf_75_7, gf_75_8, gf_75_9, gf_75_10]
    (repeat' (first | with_reducible apply And.intro | with_reducible intro _)) <;> first | omega | exact K
