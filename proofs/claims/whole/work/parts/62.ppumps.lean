/-! the reference: pumps -/
theorem am_or0 {w : Int} (hw : 0 ≤ w ∧ w ≤ 255) : am_or w 0 = w := by
  have o := bt_or2 (x := w) (y := 0) hw (by omega)
  refine bt_ext o.1 hw (fun k k1 k2 => ?_)
  have e := o.2 k
  rw [bt_z] at e
  rcases bt_01 (am_or w 0) k with z | z <;> rcases bt_01 w k with y | y
  · omega
  · have := e.mpr (Or.inl y); omega
  · have := e.mp z; omega
  · omega
def gm (S : sg_S) (s t g n w : Int) : Prop := (0 ≤ w ∧ w ≤ 255) ∧ ∀ e, 0 ≤ e → e ≤ 7 → (bt w e = 1 ↔ e < n ∧ gd S g e (t + s) t)
theorem gm_s {S : sg_S} {s t g n w : Int} (hn : 0 ≤ n ∧ n ≤ 7) (h : gm S s t g n w) : (gd S g n (t + s) t → gm S s t g (n + 1) (am_or w (am_shl 1 n))) ∧ (¬ gd S g n (t + s) t → gm S s t g (n + 1) w) := by
  have o := bt_or (x := w) (g := n) h.1 hn
  refine ⟨fun q => ⟨o.1, fun k k1 k2 => ?_⟩, fun q => ⟨h.1, fun k k1 k2 => ?_⟩⟩
  · rw [o.2 k k1 k2]
    by_cases c : k = n
    · rw [if_pos c, c]; exact ⟨fun _ => ⟨by omega, q⟩, fun _ => rfl⟩
    · rw [if_neg c, h.2 k k1 k2]; exact ⟨fun z => ⟨by omega, z.2⟩, fun z => ⟨by omega, z.2⟩⟩
  · rw [h.2 k k1 k2]
    refine ⟨fun z => ⟨by omega, z.2⟩, fun z => ⟨?_, z.2⟩⟩
    by_cases c : k = n
    · rw [c] at z; exact absurd z.2 q
    · omega
def fr_q (h h1 : am_H) : Prop := ∀ c, c ≠ 68 → c ≠ 69 → c ≠ 72 → h1 c = h c
theorem mx_fq {h h1 : am_H} (f : fr_q h h1) : mx h h1 := ⟨fun c hc => f c (by omega) (by omega) (by omega), fun i hi => by rw [f 86 (by omega) (by omega) (by omega)]⟩
set_option maxHeartbeats 400000 in
set_option maxRecDepth 100000 in
theorem lp_mp1 {S : sg_S} {s t g : Int} {h0 : am_H} {Q : am_P} (hm0 : sg_of h0 = S) (hS : sg_ok S) (hs : 0 ≤ s ∧ s ≤ 99) (ht : 0 ≤ t ∧ t < 54) (hg : 0 ≤ g ∧ g < sg_G S) (ar : ∀ b, 0 ≤ b → b < sg_G S → ar_is 99999 S g t b (h0 68 b)) (H : ∀ h1, (∀ c, c ≠ 72 → h1 c = h0 c) → (∀ j, j ≠ 8 * t + g → h1 72 j = h0 72 j) → gm S s t g (sg_G S) (h1 72 (8 * t + g)) → am_Ex 144 74 [some (.inr (.inr (some 86))), some (.inl s), some (.inl t), some (.inl g), some (.inl (sg_G S))] [] h1 Q) :
    ∀ (m : Nat) (e : Int) (h : am_H), 0 ≤ e → e + m = sg_G S → (∀ c, c ≠ 72 → h c = h0 c) → (∀ j, j ≠ 8 * t + g → h 72 j = h0 72 j) → gm S s t g e (h 72 (8 * t + g)) → am_Ex 144 38 [some (.inr (.inr (some 86))), some (.inl s), some (.inl t), some (.inl g), some (.inl e)] [] h Q := by
  intro m
  have hG := hS.2.1
  have e5 : h0 86 5 = sg_G S := by rw [← hm0]; rfl
  induction m with
  | zero =>
    intro e h x0 x1 hf hj I
    have ee : e = sg_G S := by omega
    subst ee
    have e86 := hf 86 (by omega)
    have K := H h hf hj I
    rw [bl_144_38]
    simp only [eq_self, and_self, am_up_at, Int.cast_ofNat_Int, Int.reduceNatCast, true_or, or_true, or_false, false_or, Classical.not_not, false_and, and_false, am_bk, am_step, am_ldI, am_ldL, am_ldA, am_nth, am_sto, am_stw_0, am_stw_i, am_stw_n, am_stw_a, am_stw_l, am_br, am_cmp, am_tk, am_cat, am_sw, am_copy, am_R, am_nc0, am_nc1, am_f0, am_f1, am_f2, am_f3, Int.reduceNeg, Int.reduceEq, Int.reduceLE, Int.reduceLT, Nat.reduceLeDiff, Nat.reduceAdd, Nat.reduceEqDiff, true_and, and_true, ↓reduceIte, if_false, if_true, forall_const, not_true_eq_false, not_false_eq_true, false_implies, true_implies, implies_true, Int.reduceAdd, Int.reduceMul, Int.reduceSub, ne_eq, gf_86_0, pf_86_0, gf_86_1, ar_50, al_50, gf_86_2, pf_86_2, gf_86_3, pf_86_3, gf_86_4, pf_86_4, gf_86_5, pf_86_5, gf_86_6, ar_51, al_51, gf_86_7, ar_52, al_52, gf_86_8, ar_53, al_53, gf_86_9, ar_54, al_54, gf_86_10, ar_55, al_55, gf_86_11, ar_56, al_56, gf_86_12, ar_57, al_57, gf_86_13, pf_86_13, gf_86_14, pf_86_14, gf_86_15, ar_58, al_58, gf_86_16, ar_59, al_59, gf_86_17, ar_60, al_60, gf_86_18, ar_61, al_61, gf_86_19, ar_62, al_62, gf_86_20, pf_86_20, gf_86_21, pf_86_21, gf_86_22, ar_63, al_63, gf_86_23, ar_64, al_64, gf_86_24, ar_65, al_65, gf_86_25, ar_66, al_66, gf_86_26, ar_67, al_67, gf_86_27, ar_68, al_68, gf_86_28, ar_69, al_69, gf_86_29, ar_70, al_70, gf_86_30, ar_71, al_71, gf_86_31, ar_72, al_72, gf_86_32, ar_73, al_73, gf_86_33, ar_74, al_74, gf_86_34, pf_86_34, e86, e5]
    (repeat' (first | with_reducible apply And.intro | with_reducible intro _)) <;> first | omega | exact K
  | succ m ih =>
    intro e h x0 x1 hf hj I
    have e86 := hf 86 (by omega)
    have e68 := hf 68 (by omega)
    have wr := I.1
    have a1 := ar e x0 (by omega)
    have r := ar_r (by omega) (by omega) a1
    have gg := gd_ar (e := t + s) (by omega) (by omega) a1
    have st := gm_s (by omega) I
    have o0 := am_or0 wr
    have go : ∀ v, gm S s t g (e + 1) v → am_Ex 144 38 [some (.inr (.inr (some 86))), some (.inl s), some (.inl t), some (.inl g), some (.inl (e + 1))] [] (am_up h 72 (8 * t + g) v) Q := fun v hv => ih (e + 1) _ (by omega) (by omega) (fun c hc => by rw [am_up_ne hc, hf c hc]) (fun j hj' => by rw [am_up_at, if_neg (fun z => hj' z.2)]; exact hj j hj') (by simp only [eq_self, and_self, am_up_at, am_up_ne, ne_eq, Nat.reduceEqDiff, Int.reduceEq, Int.reduceNeg, not_false_eq_true, false_and, and_false, true_and, and_true, ↓reduceIte, if_false, if_true, Int.reduceAdd, Int.reduceMul, Nat.reduceAdd]; exact hv)
    have K1 := fun (q : h0 68 e ≤ t + s) => go _ (st.1 (gg.mp q))
    have K2 := fun (q : ¬ h0 68 e ≤ t + s) => go _ (st.2 (fun z => q (gg.mpr z)))
    rw [bl_144_38]
    simp only [eq_self, and_self, am_up_at, Int.cast_ofNat_Int, Int.reduceNatCast, true_or, or_true, or_false, false_or, Classical.not_not, false_and, and_false, am_bk, am_step, am_ldI, am_ldL, am_ldA, am_nth, am_sto, am_stw_0, am_stw_i, am_stw_n, am_stw_a, am_stw_l, am_br, am_cmp, am_tk, am_cat, am_sw, am_copy, am_R, am_nc0, am_nc1, am_f0, am_f1, am_f2, am_f3, Int.reduceNeg, Int.reduceEq, Int.reduceLE, Int.reduceLT, Nat.reduceLeDiff, Nat.reduceAdd, Nat.reduceEqDiff, true_and, and_true, ↓reduceIte, if_false, if_true, forall_const, not_true_eq_false, not_false_eq_true, false_implies, true_implies, implies_true, Int.reduceAdd, Int.reduceMul, Int.reduceSub, ne_eq, ca_144_86, bl_144_42, bl_144_54, bl_144_66, bl_144_69, bl_144_70, gf_86_0, pf_86_0, gf_86_1, ar_50, al_50, gf_86_2, pf_86_2, gf_86_3, pf_86_3, gf_86_4, pf_86_4, gf_86_5, pf_86_5, gf_86_6, ar_51, al_51, gf_86_7, ar_52, al_52, gf_86_8, ar_53, al_53, gf_86_9, ar_54, al_54, gf_86_10, ar_55, al_55, gf_86_11, ar_56, al_56, gf_86_12, ar_57, al_57, gf_86_13, pf_86_13, gf_86_14, pf_86_14, gf_86_15, ar_58, al_58, gf_86_16, ar_59, al_59, gf_86_17, ar_60, al_60, gf_86_18, ar_61, al_61, gf_86_19, ar_62, al_62, gf_86_20, pf_86_20, gf_86_21, pf_86_21, gf_86_22, ar_63, al_63, gf_86_23, ar_64, al_64, gf_86_24, ar_65, al_65, gf_86_25, ar_66, al_66, gf_86_26, ar_67, al_67, gf_86_27, ar_68, al_68, gf_86_28, ar_69, al_69, gf_86_29, ar_70, al_70, gf_86_30, ar_71, al_71, gf_86_31, ar_72, al_72, gf_86_32, ar_73, al_73, gf_86_33, ar_74, al_74, gf_86_34, pf_86_34, e86, e5, e68, o0]
    (repeat' (first | with_reducible apply And.intro | with_reducible intro _)) <;> first | omega | exact K1 (by omega) | exact K2 (by omega)
def rq (S : sg_S) (s t g : Int) (h : am_H) : Prop := ∀ t' g', pdn S t g t' g' → gm S s t' g' (sg_G S) (h 72 (8 * t' + g'))
set_option maxHeartbeats 400000 in
set_option maxRecDepth 100000 in
theorem lp_mp2 {S : sg_S} {s t : Int} {h0 : am_H} {Q : am_P} (hm0 : sg_of h0 = S) (hS : sg_ok S) (hF : tb_fit S) (hs : 0 ≤ s ∧ s ≤ 99) (ht : 0 ≤ t ∧ t < 54) (H : ∀ h1, fr_q h0 h1 → rq S s t (sg_G S) h1 → am_Ex 144 76 [some (.inr (.inr (some 86))), some (.inl s), some (.inl t), some (.inl (sg_G S)), none] [] h1 Q) :
    ∀ (m : Nat) (g : Int) (h : am_H), 0 ≤ g → g + m = sg_G S → fr_q h0 h → rq S s t g h → am_Ex 144 19 [some (.inr (.inr (some 86))), some (.inl s), some (.inl t), some (.inl g), none] [] h Q := by
  intro m
  have hG := hS.2.1
  induction m with
  | zero =>
    intro g h g0 g1 hf I
    have eg : g = sg_G S := by omega
    subst eg
    have e5 : h 86 5 = sg_G S := by rw [← hm0, ← mx_sg (mx_fq hf)]; rfl
    have K := H h hf I
    rw [bl_144_19]
    simp only [eq_self, and_self, am_up_at, Int.cast_ofNat_Int, Int.reduceNatCast, true_or, or_true, or_false, false_or, Classical.not_not, false_and, and_false, am_bk, am_step, am_ldI, am_ldL, am_ldA, am_nth, am_sto, am_stw_0, am_stw_i, am_stw_n, am_stw_a, am_stw_l, am_br, am_cmp, am_tk, am_cat, am_sw, am_copy, am_R, am_nc0, am_nc1, am_f0, am_f1, am_f2, am_f3, Int.reduceNeg, Int.reduceEq, Int.reduceLE, Int.reduceLT, Nat.reduceLeDiff, Nat.reduceAdd, Nat.reduceEqDiff, true_and, and_true, ↓reduceIte, if_false, if_true, forall_const, not_true_eq_false, not_false_eq_true, false_implies, true_implies, implies_true, Int.reduceAdd, Int.reduceMul, Int.reduceSub, ne_eq, gf_86_0, pf_86_0, gf_86_1, ar_50, al_50, gf_86_2, pf_86_2, gf_86_3, pf_86_3, gf_86_4, pf_86_4, gf_86_5, pf_86_5, gf_86_6, ar_51, al_51, gf_86_7, ar_52, al_52, gf_86_8, ar_53, al_53, gf_86_9, ar_54, al_54, gf_86_10, ar_55, al_55, gf_86_11, ar_56, al_56, gf_86_12, ar_57, al_57, gf_86_13, pf_86_13, gf_86_14, pf_86_14, gf_86_15, ar_58, al_58, gf_86_16, ar_59, al_59, gf_86_17, ar_60, al_60, gf_86_18, ar_61, al_61, gf_86_19, ar_62, al_62, gf_86_20, pf_86_20, gf_86_21, pf_86_21, gf_86_22, ar_63, al_63, gf_86_23, ar_64, al_64, gf_86_24, ar_65, al_65, gf_86_25, ar_66, al_66, gf_86_26, ar_67, al_67, gf_86_27, ar_68, al_68, gf_86_28, ar_69, al_69, gf_86_29, ar_70, al_70, gf_86_30, ar_71, al_71, gf_86_31, ar_72, al_72, gf_86_32, ar_73, al_73, gf_86_33, ar_74, al_74, gf_86_34, pf_86_34, e5]
    (repeat' (first | with_reducible apply And.intro | with_reducible intro _)) <;> first | omega | exact K
  | succ m ih =>
    intro g h g0 g1 hf I
    have em : sg_of h = S := by rw [← hm0]; exact mx_sg (mx_fq hf)
    have e5 : h 86 5 = sg_G S := by rw [← em]; rfl
    have hg : 0 ≤ g ∧ g < sg_G S := by omega
    have K : ∀ h1, fr_m h h1 → (∀ b, 0 ≤ b → b < sg_G S → ar_is 99999 S g t b (h1 68 b)) → am_Ex 144 27 [some (.inr (.inr (some 86))), some (.inl s), some (.inl t), some (.inl g), none] [] h1 Q := by
      intro h1 f1 ar
      have em1 : sg_of (am_up h1 72 (8 * t + g) 0) = S := by rw [← em, ← fr_m_sg f1]; exact mx_sg (mx_up (by omega))
      have J := lp_mp1 (Q := Q) em1 hS hs ht hg (by rw [am_up_ne (show (68 : Nat) ≠ 72 by omega)]; exact ar) (fun h2 f2 j2 I2 => by
        have fx : fr_q h0 h2 := fun c c1 c2 c3 => by rw [f2 c c3, am_up_ne c3, f1 c c1 c2, hf c c1 c2 c3]
        have K := ih (g + 1) h2 (by omega) (by omega) fx (fun t' g' hd => by
          by_cases c : t' = t ∧ g' = g
          · rw [c.1, c.2]; exact I2
          · have hd' : pdn S t g t' g' := by unfold pdn at hd ⊢; omega
            have := I t' g' hd'
            unfold pdn at hd'
            rw [j2 _ (by omega), am_up_at, if_neg (by omega), f1 72 (by omega) (by omega)]
            exact this)
        simp only [eq_self, and_self, am_up_at, Int.cast_ofNat_Int, Int.reduceNatCast, true_or, or_true, or_false, false_or, Classical.not_not, false_and, and_false, am_bk, am_step, am_ldI, am_ldL, am_ldA, am_nth, am_sto, am_stw_0, am_stw_i, am_stw_n, am_stw_a, am_stw_l, am_br, am_cmp, am_tk, am_cat, am_sw, am_copy, am_R, am_nc0, am_nc1, am_f0, am_f1, am_f2, am_f3, Int.reduceNeg, Int.reduceEq, Int.reduceLE, Int.reduceLT, Nat.reduceLeDiff, Nat.reduceAdd, Nat.reduceEqDiff, true_and, and_true, ↓reduceIte, if_false, if_true, forall_const, not_true_eq_false, not_false_eq_true, false_implies, true_implies, implies_true, Int.reduceAdd, Int.reduceMul, Int.reduceSub, ne_eq, ca_144_86, bl_144_74, gf_86_0, pf_86_0, gf_86_1, ar_50, al_50, gf_86_2, pf_86_2, gf_86_3, pf_86_3, gf_86_4, pf_86_4, gf_86_5, pf_86_5, gf_86_6, ar_51, al_51, gf_86_7, ar_52, al_52, gf_86_8, ar_53, al_53, gf_86_9, ar_54, al_54, gf_86_10, ar_55, al_55, gf_86_11, ar_56, al_56, gf_86_12, ar_57, al_57, gf_86_13, pf_86_13, gf_86_14, pf_86_14, gf_86_15, ar_58, al_58, gf_86_16, ar_59, al_59, gf_86_17, ar_60, al_60, gf_86_18, ar_61, al_61, gf_86_19, ar_62, al_62, gf_86_20, pf_86_20, gf_86_21, pf_86_21, gf_86_22, ar_63, al_63, gf_86_23, ar_64, al_64, gf_86_24, ar_65, al_65, gf_86_25, ar_66, al_66, gf_86_26, ar_67, al_67, gf_86_27, ar_68, al_68, gf_86_28, ar_69, al_69, gf_86_29, ar_70, al_70, gf_86_30, ar_71, al_71, gf_86_31, ar_72, al_72, gf_86_32, ar_73, al_73, gf_86_33, ar_74, al_74, gf_86_34, pf_86_34]
        (repeat' (first | with_reducible apply And.intro | with_reducible intro _)) <;> first | omega | exact am_forget K (by simp [am_lq])) (sg_G S).toNat 0 (am_up h1 72 (8 * t + g) 0) (by omega) (by omega) (fun _ _ => rfl) (fun _ _ => rfl) ⟨by simp only [eq_self, and_self, am_up_at, am_up_ne, ne_eq, Nat.reduceEqDiff, Int.reduceEq, Int.reduceNeg, not_false_eq_true, false_and, and_false, true_and, and_true, ↓reduceIte, if_false, if_true, Int.reduceAdd, Int.reduceMul, Nat.reduceAdd]; omega, fun e e1 e2 => by simp only [eq_self, and_self, am_up_at, am_up_ne, ne_eq, Nat.reduceEqDiff, Int.reduceEq, Int.reduceNeg, not_false_eq_true, false_and, and_false, true_and, and_true, ↓reduceIte, if_false, if_true, Int.reduceAdd, Int.reduceMul, Nat.reduceAdd]; rw [bt_z]; exact ⟨fun z => by omega, fun z => by omega⟩⟩
      simp only [eq_self, and_self, am_up_at, Int.cast_ofNat_Int, Int.reduceNatCast, true_or, or_true, or_false, false_or, Classical.not_not, false_and, and_false, am_bk, am_step, am_ldI, am_ldL, am_ldA, am_nth, am_sto, am_stw_0, am_stw_i, am_stw_n, am_stw_a, am_stw_l, am_br, am_cmp, am_tk, am_cat, am_sw, am_copy, am_R, am_nc0, am_nc1, am_f0, am_f1, am_f2, am_f3, Int.reduceNeg, Int.reduceEq, Int.reduceLE, Int.reduceLT, Nat.reduceLeDiff, Nat.reduceAdd, Nat.reduceEqDiff, true_and, and_true, ↓reduceIte, if_false, if_true, forall_const, not_true_eq_false, not_false_eq_true, false_implies, true_implies, implies_true, Int.reduceAdd, Int.reduceMul, Int.reduceSub, ne_eq, ca_144_86, bl_144_27, gf_86_0, pf_86_0, gf_86_1, ar_50, al_50, gf_86_2, pf_86_2, gf_86_3, pf_86_3, gf_86_4, pf_86_4, gf_86_5, pf_86_5, gf_86_6, ar_51, al_51, gf_86_7, ar_52, al_52, gf_86_8, ar_53, al_53, gf_86_9, ar_54, al_54, gf_86_10, ar_55, al_55, gf_86_11, ar_56, al_56, gf_86_12, ar_57, al_57, gf_86_13, pf_86_13, gf_86_14, pf_86_14, gf_86_15, ar_58, al_58, gf_86_16, ar_59, al_59, gf_86_17, ar_60, al_60, gf_86_18, ar_61, al_61, gf_86_19, ar_62, al_62, gf_86_20, pf_86_20, gf_86_21, pf_86_21, gf_86_22, ar_63, al_63, gf_86_23, ar_64, al_64, gf_86_24, ar_65, al_65, gf_86_25, ar_66, al_66, gf_86_26, ar_67, al_67, gf_86_27, ar_68, al_68, gf_86_28, ar_69, al_69, gf_86_29, ar_70, al_70, gf_86_30, ar_71, al_71, gf_86_31, ar_72, al_72, gf_86_32, ar_73, al_73, gf_86_33, ar_74, al_74, gf_86_34, pf_86_34]
      (repeat' (first | with_reducible apply And.intro | with_reducible intro _)) <;> first | omega | exact J
    rw [bl_144_19]
    simp only [eq_self, and_self, am_up_at, Int.cast_ofNat_Int, Int.reduceNatCast, true_or, or_true, or_false, false_or, Classical.not_not, false_and, and_false, am_bk, am_step, am_ldI, am_ldL, am_ldA, am_nth, am_sto, am_stw_0, am_stw_i, am_stw_n, am_stw_a, am_stw_l, am_br, am_cmp, am_tk, am_cat, am_sw, am_copy, am_R, am_nc0, am_nc1, am_f0, am_f1, am_f2, am_f3, Int.reduceNeg, Int.reduceEq, Int.reduceLE, Int.reduceLT, Nat.reduceLeDiff, Nat.reduceAdd, Nat.reduceEqDiff, true_and, and_true, ↓reduceIte, if_false, if_true, forall_const, not_true_eq_false, not_false_eq_true, false_implies, true_implies, implies_true, Int.reduceAdd, Int.reduceMul, Int.reduceSub, ne_eq, ca_144_86, bl_144_23, gf_86_0, pf_86_0, gf_86_1, ar_50, al_50, gf_86_2, pf_86_2, gf_86_3, pf_86_3, gf_86_4, pf_86_4, gf_86_5, pf_86_5, gf_86_6, ar_51, al_51, gf_86_7, ar_52, al_52, gf_86_8, ar_53, al_53, gf_86_9, ar_54, al_54, gf_86_10, ar_55, al_55, gf_86_11, ar_56, al_56, gf_86_12, ar_57, al_57, gf_86_13, pf_86_13, gf_86_14, pf_86_14, gf_86_15, ar_58, al_58, gf_86_16, ar_59, al_59, gf_86_17, ar_60, al_60, gf_86_18, ar_61, al_61, gf_86_19, ar_62, al_62, gf_86_20, pf_86_20, gf_86_21, pf_86_21, gf_86_22, ar_63, al_63, gf_86_23, ar_64, al_64, gf_86_24, ar_65, al_65, gf_86_25, ar_66, al_66, gf_86_26, ar_67, al_67, gf_86_27, ar_68, al_68, gf_86_28, ar_69, al_69, gf_86_29, ar_70, al_70, gf_86_30, ar_71, al_71, gf_86_31, ar_72, al_72, gf_86_32, ar_73, al_73, gf_86_33, ar_74, al_74, gf_86_34, pf_86_34, e5]
    (repeat' (first | with_reducible apply And.intro | with_reducible intro _)) <;> first | omega | exact sp_goFrom em hS hF hg (by omega) K
set_option maxHeartbeats 400000 in
set_option maxRecDepth 100000 in
theorem lp_mp3 {S : sg_S} {s : Int} {h0 : am_H} {Q : am_P} (hm0 : sg_of h0 = S) (hS : sg_ok S) (hF : tb_fit S) (hs : 0 ≤ s ∧ s ≤ 99) (H : ∀ h1, fr_q h0 h1 → rq S s (sg_U S) 0 h1 → am_Ex 144 78 [some (.inr (.inr (some 86))), some (.inl s), some (.inl (sg_U S)), none, none] [] h1 Q) :
    ∀ (m : Nat) (t : Int) (h : am_H), 0 ≤ t → t + m = sg_U S → fr_q h0 h → rq S s t 0 h → am_Ex 144 13 [some (.inr (.inr (some 86))), some (.inl s), some (.inl t), none, none] [] h Q := by
  intro m
  have hG := hS.2.1
  have hU := hS.1
  induction m with
  | zero =>
    intro t h t0 t1 hf I
    have et : t = sg_U S := by omega
    subst et
    have e4 : h 86 4 = sg_U S := by rw [← hm0, ← mx_sg (mx_fq hf)]; rfl
    have K := H h hf I
    rw [bl_144_13]
    simp only [eq_self, and_self, am_up_at, Int.cast_ofNat_Int, Int.reduceNatCast, true_or, or_true, or_false, false_or, Classical.not_not, false_and, and_false, am_bk, am_step, am_ldI, am_ldL, am_ldA, am_nth, am_sto, am_stw_0, am_stw_i, am_stw_n, am_stw_a, am_stw_l, am_br, am_cmp, am_tk, am_cat, am_sw, am_copy, am_R, am_nc0, am_nc1, am_f0, am_f1, am_f2, am_f3, Int.reduceNeg, Int.reduceEq, Int.reduceLE, Int.reduceLT, Nat.reduceLeDiff, Nat.reduceAdd, Nat.reduceEqDiff, true_and, and_true, ↓reduceIte, if_false, if_true, forall_const, not_true_eq_false, not_false_eq_true, false_implies, true_implies, implies_true, Int.reduceAdd, Int.reduceMul, Int.reduceSub, ne_eq, gf_86_0, pf_86_0, gf_86_1, ar_50, al_50, gf_86_2, pf_86_2, gf_86_3, pf_86_3, gf_86_4, pf_86_4, gf_86_5, pf_86_5, gf_86_6, ar_51, al_51, gf_86_7, ar_52, al_52, gf_86_8, ar_53, al_53, gf_86_9, ar_54, al_54, gf_86_10, ar_55, al_55, gf_86_11, ar_56, al_56, gf_86_12, ar_57, al_57, gf_86_13, pf_86_13, gf_86_14, pf_86_14, gf_86_15, ar_58, al_58, gf_86_16, ar_59, al_59, gf_86_17, ar_60, al_60, gf_86_18, ar_61, al_61, gf_86_19, ar_62, al_62, gf_86_20, pf_86_20, gf_86_21, pf_86_21, gf_86_22, ar_63, al_63, gf_86_23, ar_64, al_64, gf_86_24, ar_65, al_65, gf_86_25, ar_66, al_66, gf_86_26, ar_67, al_67, gf_86_27, ar_68, al_68, gf_86_28, ar_69, al_69, gf_86_29, ar_70, al_70, gf_86_30, ar_71, al_71, gf_86_31, ar_72, al_72, gf_86_32, ar_73, al_73, gf_86_33, ar_74, al_74, gf_86_34, pf_86_34, e4]
    (repeat' (first | with_reducible apply And.intro | with_reducible intro _)) <;> first | omega | exact K
  | succ m ih =>
    intro t h t0 t1 hf I
    have em : sg_of h = S := by rw [← hm0]; exact mx_sg (mx_fq hf)
    have e4 : h 86 4 = sg_U S := by rw [← em]; rfl
    have K := lp_mp2 (Q := Q) em hS hF hs (show 0 ≤ t ∧ t < 54 by omega) (fun h1 f1 I1 => by
      have K := ih (t + 1) h1 (by omega) (by omega) (fun c c1 c2 c3 => (f1 c c1 c2 c3).trans (hf c c1 c2 c3)) (fun t' g' hd => I1 t' g' (by unfold pdn at hd ⊢; omega))
      simp only [eq_self, and_self, am_up_at, Int.cast_ofNat_Int, Int.reduceNatCast, true_or, or_true, or_false, false_or, Classical.not_not, false_and, and_false, am_bk, am_step, am_ldI, am_ldL, am_ldA, am_nth, am_sto, am_stw_0, am_stw_i, am_stw_n, am_stw_a, am_stw_l, am_br, am_cmp, am_tk, am_cat, am_sw, am_copy, am_R, am_nc0, am_nc1, am_f0, am_f1, am_f2, am_f3, Int.reduceNeg, Int.reduceEq, Int.reduceLE, Int.reduceLT, Nat.reduceLeDiff, Nat.reduceAdd, Nat.reduceEqDiff, true_and, and_true, ↓reduceIte, if_false, if_true, forall_const, not_true_eq_false, not_false_eq_true, false_implies, true_implies, implies_true, Int.reduceAdd, Int.reduceMul, Int.reduceSub, ne_eq, ca_144_86, bl_144_76, gf_86_0, pf_86_0, gf_86_1, ar_50, al_50, gf_86_2, pf_86_2, gf_86_3, pf_86_3, gf_86_4, pf_86_4, gf_86_5, pf_86_5, gf_86_6, ar_51, al_51, gf_86_7, ar_52, al_52, gf_86_8, ar_53, al_53, gf_86_9, ar_54, al_54, gf_86_10, ar_55, al_55, gf_86_11, ar_56, al_56, gf_86_12, ar_57, al_57, gf_86_13, pf_86_13, gf_86_14, pf_86_14, gf_86_15, ar_58, al_58, gf_86_16, ar_59, al_59, gf_86_17, ar_60, al_60, gf_86_18, ar_61, al_61, gf_86_19, ar_62, al_62, gf_86_20, pf_86_20, gf_86_21, pf_86_21, gf_86_22, ar_63, al_63, gf_86_23, ar_64, al_64, gf_86_24, ar_65, al_65, gf_86_25, ar_66, al_66, gf_86_26, ar_67, al_67, gf_86_27, ar_68, al_68, gf_86_28, ar_69, al_69, gf_86_29, ar_70, al_70, gf_86_30, ar_71, al_71, gf_86_31, ar_72, al_72, gf_86_32, ar_73, al_73, gf_86_33, ar_74, al_74, gf_86_34, pf_86_34]
      (repeat' (first | with_reducible apply And.intro | with_reducible intro _)) <;> first | omega | exact am_forget K (by simp [am_lq])) (sg_G S).toNat 0 h (by omega) (by omega) (fun _ _ _ _ => rfl) I
    rw [bl_144_13]
    simp only [eq_self, and_self, am_up_at, Int.cast_ofNat_Int, Int.reduceNatCast, true_or, or_true, or_false, false_or, Classical.not_not, false_and, and_false, am_bk, am_step, am_ldI, am_ldL, am_ldA, am_nth, am_sto, am_stw_0, am_stw_i, am_stw_n, am_stw_a, am_stw_l, am_br, am_cmp, am_tk, am_cat, am_sw, am_copy, am_R, am_nc0, am_nc1, am_f0, am_f1, am_f2, am_f3, Int.reduceNeg, Int.reduceEq, Int.reduceLE, Int.reduceLT, Nat.reduceLeDiff, Nat.reduceAdd, Nat.reduceEqDiff, true_and, and_true, ↓reduceIte, if_false, if_true, forall_const, not_true_eq_false, not_false_eq_true, false_implies, true_implies, implies_true, Int.reduceAdd, Int.reduceMul, Int.reduceSub, ne_eq, ca_144_86, bl_144_17, gf_86_0, pf_86_0, gf_86_1, ar_50, al_50, gf_86_2, pf_86_2, gf_86_3, pf_86_3, gf_86_4, pf_86_4, gf_86_5, pf_86_5, gf_86_6, ar_51, al_51, gf_86_7, ar_52, al_52, gf_86_8, ar_53, al_53, gf_86_9, ar_54, al_54, gf_86_10, ar_55, al_55, gf_86_11, ar_56, al_56, gf_86_12, ar_57, al_57, gf_86_13, pf_86_13, gf_86_14, pf_86_14, gf_86_15, ar_58, al_58, gf_86_16, ar_59, al_59, gf_86_17, ar_60, al_60, gf_86_18, ar_61, al_61, gf_86_19, ar_62, al_62, gf_86_20, pf_86_20, gf_86_21, pf_86_21, gf_86_22, ar_63, al_63, gf_86_23, ar_64, al_64, gf_86_24, ar_65, al_65, gf_86_25, ar_66, al_66, gf_86_26, ar_67, al_67, gf_86_27, ar_68, al_68, gf_86_28, ar_69, al_69, gf_86_29, ar_70, al_70, gf_86_30, ar_71, al_71, gf_86_31, ar_72, al_72, gf_86_32, ar_73, al_73, gf_86_33, ar_74, al_74, gf_86_34, pf_86_34, e4]
    (repeat' (first | with_reducible apply And.intro | with_reducible intro _)) <;> first | omega | exact K
/-! reachAll -/
def go (S : sg_S) (s t w x v : Int) : Prop := (0 ≤ v ∧ v ≤ 255) ∧ ∀ e, 0 ≤ e → e ≤ 7 → (bt v e = 1 ↔ ∃ g, (0 ≤ g ∧ g < x) ∧ bt w g = 1 ∧ e < sg_G S ∧ gd S g e (t + s) t)
set_option maxHeartbeats 400000 in
set_option maxRecDepth 100000 in
theorem lp_rc1 {S : sg_S} {s t w i : Int} {h : am_H} {Q : am_P} (hm : sg_of h = S) (hS : sg_ok S) (hw : 0 ≤ w ∧ w ≤ 255) (ht : 0 ≤ t ∧ t < sg_U S) (hq : rq S s (sg_U S) 0 h) (H : ∀ v, go S s t w (sg_G S) v → am_Ex 145 37 [some (.inr (.inr (some 86))), some (.inl w), some (.inl i), some (.inl t), some (.inl v), some (.inl (sg_G S))] [] h Q) :
    ∀ (m : Nat) (g v : Int), 0 ≤ g → g + m = sg_G S → go S s t w g v → am_Ex 145 14 [some (.inr (.inr (some 86))), some (.inl w), some (.inl i), some (.inl t), some (.inl v), some (.inl g)] [] h Q := by
  intro m
  have hG := hS.2.1
  have hU := hS.1
  have e5 : h 86 5 = sg_G S := by rw [← hm]; rfl
  induction m with
  | zero =>
    intro g v g0 g1 I
    have eg : g = sg_G S := by omega
    subst eg
    have K := H v I
    rw [bl_145_14]
    simp only [eq_self, and_self, am_up_at, Int.cast_ofNat_Int, Int.reduceNatCast, true_or, or_true, or_false, false_or, Classical.not_not, false_and, and_false, am_bk, am_step, am_ldI, am_ldL, am_ldA, am_nth, am_sto, am_stw_0, am_stw_i, am_stw_n, am_stw_a, am_stw_l, am_br, am_cmp, am_tk, am_cat, am_sw, am_copy, am_R, am_nc0, am_nc1, am_f0, am_f1, am_f2, am_f3, Int.reduceNeg, Int.reduceEq, Int.reduceLE, Int.reduceLT, Nat.reduceLeDiff, Nat.reduceAdd, Nat.reduceEqDiff, true_and, and_true, ↓reduceIte, if_false, if_true, forall_const, not_true_eq_false, not_false_eq_true, false_implies, true_implies, implies_true, Int.reduceAdd, Int.reduceMul, Int.reduceSub, ne_eq, gf_86_0, pf_86_0, gf_86_1, ar_50, al_50, gf_86_2, pf_86_2, gf_86_3, pf_86_3, gf_86_4, pf_86_4, gf_86_5, pf_86_5, gf_86_6, ar_51, al_51, gf_86_7, ar_52, al_52, gf_86_8, ar_53, al_53, gf_86_9, ar_54, al_54, gf_86_10, ar_55, al_55, gf_86_11, ar_56, al_56, gf_86_12, ar_57, al_57, gf_86_13, pf_86_13, gf_86_14, pf_86_14, gf_86_15, ar_58, al_58, gf_86_16, ar_59, al_59, gf_86_17, ar_60, al_60, gf_86_18, ar_61, al_61, gf_86_19, ar_62, al_62, gf_86_20, pf_86_20, gf_86_21, pf_86_21, gf_86_22, ar_63, al_63, gf_86_23, ar_64, al_64, gf_86_24, ar_65, al_65, gf_86_25, ar_66, al_66, gf_86_26, ar_67, al_67, gf_86_27, ar_68, al_68, gf_86_28, ar_69, al_69, gf_86_29, ar_70, al_70, gf_86_30, ar_71, al_71, gf_86_31, ar_72, al_72, gf_86_32, ar_73, al_73, gf_86_33, ar_74, al_74, gf_86_34, pf_86_34, e5]
    (repeat' (first | with_reducible apply And.intro | with_reducible intro _)) <;> first | omega | exact K
  | succ m ih =>
    intro g v g0 g1 I
    have vr := I.1
    have R := hq t g ⟨ht.1, by omega, Or.inl ht.2⟩
    have rr := R.1
    have o := bt_or2 vr rr
    have o0 := am_or0 vr
    have b01 := bt_01 w g
    have Ka : bt w g = 1 → am_Ex 145 14 [some (.inr (.inr (some 86))), some (.inl w), some (.inl i), some (.inl t), some (.inl (am_or v (h 72 (8 * t + g)))), some (.inl (g + 1))] [] h Q := fun q => ih (g + 1) _ (by omega) (by omega) ⟨o.1, fun e e1 e2 => by
      rw [o.2 e, I.2 e e1 e2, R.2 e e1 e2]
      constructor
      · intro z
        rcases z with ⟨x, x1, x2⟩ | z
        · exact ⟨x, by omega, x2⟩
        · exact ⟨g, by omega, q, z⟩
      · intro ⟨x, x1, x2, x3⟩
        by_cases c : x = g
        · rw [c] at x3; exact Or.inr x3
        · exact Or.inl ⟨x, by omega, x2, x3⟩⟩
    have Kb : ¬ bt w g = 1 → am_Ex 145 14 [some (.inr (.inr (some 86))), some (.inl w), some (.inl i), some (.inl t), some (.inl v), some (.inl (g + 1))] [] h Q := fun q => ih (g + 1) _ (by omega) (by omega) ⟨vr, fun e e1 e2 => by
      rw [I.2 e e1 e2]
      constructor
      · intro ⟨x, x1, x2⟩
        exact ⟨x, by omega, x2⟩
      · intro ⟨x, x1, x2, x3⟩
        by_cases c : x = g
        · rw [c] at x2; exact absurd x2 q
        · exact ⟨x, by omega, x2, x3⟩⟩
    have K : am_Ex 145 22 [some (.inr (.inr (some 86))), some (.inl w), some (.inl i), some (.inl t), some (.inl v), some (.inl g)] [.inl (bt w g), .inl v] h Q := by
      simp only [eq_self, and_self, am_up_at, Int.cast_ofNat_Int, Int.reduceNatCast, true_or, or_true, or_false, false_or, Classical.not_not, false_and, and_false, am_bk, am_step, am_ldI, am_ldL, am_ldA, am_nth, am_sto, am_stw_0, am_stw_i, am_stw_n, am_stw_a, am_stw_l, am_br, am_cmp, am_tk, am_cat, am_sw, am_copy, am_R, am_nc0, am_nc1, am_f0, am_f1, am_f2, am_f3, Int.reduceNeg, Int.reduceEq, Int.reduceLE, Int.reduceLT, Nat.reduceLeDiff, Nat.reduceAdd, Nat.reduceEqDiff, true_and, and_true, ↓reduceIte, if_false, if_true, forall_const, not_true_eq_false, not_false_eq_true, false_implies, true_implies, implies_true, Int.reduceAdd, Int.reduceMul, Int.reduceSub, ne_eq, ca_145_86, bl_145_22, bl_145_32, bl_145_33, gf_86_0, pf_86_0, gf_86_1, ar_50, al_50, gf_86_2, pf_86_2, gf_86_3, pf_86_3, gf_86_4, pf_86_4, gf_86_5, pf_86_5, gf_86_6, ar_51, al_51, gf_86_7, ar_52, al_52, gf_86_8, ar_53, al_53, gf_86_9, ar_54, al_54, gf_86_10, ar_55, al_55, gf_86_11, ar_56, al_56, gf_86_12, ar_57, al_57, gf_86_13, pf_86_13, gf_86_14, pf_86_14, gf_86_15, ar_58, al_58, gf_86_16, ar_59, al_59, gf_86_17, ar_60, al_60, gf_86_18, ar_61, al_61, gf_86_19, ar_62, al_62, gf_86_20, pf_86_20, gf_86_21, pf_86_21, gf_86_22, ar_63, al_63, gf_86_23, ar_64, al_64, gf_86_24, ar_65, al_65, gf_86_25, ar_66, al_66, gf_86_26, ar_67, al_67, gf_86_27, ar_68, al_68, gf_86_28, ar_69, al_69, gf_86_29, ar_70, al_70, gf_86_30, ar_71, al_71, gf_86_31, ar_72, al_72, gf_86_32, ar_73, al_73, gf_86_33, ar_74, al_74, gf_86_34, pf_86_34, o0]
      (repeat' (first | with_reducible apply And.intro | with_reducible intro _)) <;> first | omega | exact Ka (by omega) | exact Kb (by omega)
    rw [bl_145_14]
    simp only [eq_self, and_self, am_up_at, Int.cast_ofNat_Int, Int.reduceNatCast, true_or, or_true, or_false, false_or, Classical.not_not, false_and, and_false, am_bk, am_step, am_ldI, am_ldL, am_ldA, am_nth, am_sto, am_stw_0, am_stw_i, am_stw_n, am_stw_a, am_stw_l, am_br, am_cmp, am_tk, am_cat, am_sw, am_copy, am_R, am_nc0, am_nc1, am_f0, am_f1, am_f2, am_f3, Int.reduceNeg, Int.reduceEq, Int.reduceLE, Int.reduceLT, Nat.reduceLeDiff, Nat.reduceAdd, Nat.reduceEqDiff, true_and, and_true, ↓reduceIte, if_false, if_true, forall_const, not_true_eq_false, not_false_eq_true, false_implies, true_implies, implies_true, Int.reduceAdd, Int.reduceMul, Int.reduceSub, ne_eq, ca_145_86, bl_145_18, gf_86_0, pf_86_0, gf_86_1, ar_50, al_50, gf_86_2, pf_86_2, gf_86_3, pf_86_3, gf_86_4, pf_86_4, gf_86_5, pf_86_5, gf_86_6, ar_51, al_51, gf_86_7, ar_52, al_52, gf_86_8, ar_53, al_53, gf_86_9, ar_54, al_54, gf_86_10, ar_55, al_55, gf_86_11, ar_56, al_56, gf_86_12, ar_57, al_57, gf_86_13, pf_86_13, gf_86_14, pf_86_14, gf_86_15, ar_58, al_58, gf_86_16, ar_59, al_59, gf_86_17, ar_60, al_60, gf_86_18, ar_61, al_61, gf_86_19, ar_62, al_62, gf_86_20, pf_86_20, gf_86_21, pf_86_21, gf_86_22, ar_63, al_63, gf_86_23, ar_64, al_64, gf_86_24, ar_65, al_65, gf_86_25, ar_66, al_66, gf_86_26, ar_67, al_67, gf_86_27, ar_68, al_68, gf_86_28, ar_69, al_69, gf_86_29, ar_70, al_70, gf_86_30, ar_71, al_71, gf_86_31, ar_72, al_72, gf_86_32, ar_73, al_73, gf_86_33, ar_74, al_74, gf_86_34, pf_86_34, e5]
    (repeat' (first | with_reducible apply And.intro | with_reducible intro _)) <;> first | omega | exact sp_has hw (by omega) K
theorem go_full {S : sg_S} {s t w v : Int} (hG : 0 ≤ sg_G S ∧ sg_G S ≤ 8) (h : go S s t w (sg_G S) v) : v = am_shl 1 (sg_G S) - 1 ↔ ∀ e, 0 ≤ e → e < sg_G S → ∃ g, (0 ≤ g ∧ g < sg_G S) ∧ bt w g = 1 ∧ gd S g e (t + s) t := by
  have f := bt_full hG
  constructor
  · intro q e e1 e2
    have z := f.2 e e1 (by omega)
    rw [if_pos e2, ← q] at z
    obtain ⟨g, g1, g2, g3, g4⟩ := (h.2 e e1 (by omega)).mp z
    exact ⟨g, g1, g2, g4⟩
  · intro q
    refine bt_ext h.1 (by omega) (fun k k1 k2 => ?_)
    rw [f.2 k k1 k2]
    by_cases c : k < sg_G S
    · rw [if_pos c]
      obtain ⟨g, g1, g2, g3⟩ := q k k1 c
      exact (h.2 k k1 k2).mpr ⟨g, g1, g2, c, g3⟩
    · rw [if_neg c]
      rcases bt_01 v k with z | z
      · exact z
      · obtain ⟨g, g1, g2, g3, g4⟩ := (h.2 k k1 k2).mp z
        exact absurd g3 c
set_option maxHeartbeats 400000 in
set_option maxRecDepth 100000 in
theorem lp_rc2 {S : sg_S} {s w : Int} {h : am_H} {Q : am_P} (hm : sg_of h = S) (hS : sg_ok S) (hw : 0 ≤ w ∧ w ≤ 255) (hq : rq S s (sg_U S) 0 h) (Y : sv S s w → Q (some (.inl 1)) h) (N : ¬ sv S s w → Q (some (.inl 0)) h) :
    ∀ (m : Nat) (t i : Int), 0 ≤ t → t + m = sg_U S → ((i = 1 ∧ ∀ t' e, 0 ≤ t' → t' < t → 0 ≤ e → e < sg_G S → ∃ g, (0 ≤ g ∧ g < sg_G S) ∧ bt w g = 1 ∧ gd S g e (t' + s) t') ∨ (i = 0 ∧ ¬ sv S s w)) → am_Ex 145 4 [some (.inr (.inr (some 86))), some (.inl w), some (.inl i), some (.inl t), none, none] [] h Q := by
  intro m
  have hG := hS.2.1
  have hU := hS.1
  have e5 : h 86 5 = sg_G S := by rw [← hm]; rfl
  have e4 : h 86 4 = sg_U S := by rw [← hm]; rfl
  have f := (bt_full hG).1
  induction m with
  | zero =>
    intro t i t0 t1 I
    have K : Q (some (.inl i)) h := by
      rcases I with ⟨a, b⟩ | ⟨a, b⟩
      · rw [a]; exact Y (fun t' e q1 q2 => b t' e q1 (by omega))
      · rw [a]; exact N b
    have ir : i = 0 ∨ i = 1 := by omega
    rw [bl_145_4]
    simp only [eq_self, and_self, am_up_at, Int.cast_ofNat_Int, Int.reduceNatCast, true_or, or_true, or_false, false_or, Classical.not_not, false_and, and_false, am_bk, am_step, am_ldI, am_ldL, am_ldA, am_nth, am_sto, am_stw_0, am_stw_i, am_stw_n, am_stw_a, am_stw_l, am_br, am_cmp, am_tk, am_cat, am_sw, am_copy, am_R, am_nc0, am_nc1, am_f0, am_f1, am_f2, am_f3, Int.reduceNeg, Int.reduceEq, Int.reduceLE, Int.reduceLT, Nat.reduceLeDiff, Nat.reduceAdd, Nat.reduceEqDiff, true_and, and_true, ↓reduceIte, if_false, if_true, forall_const, not_true_eq_false, not_false_eq_true, false_implies, true_implies, implies_true, Int.reduceAdd, Int.reduceMul, Int.reduceSub, ne_eq, ca_145_86, bl_145_51, gf_86_0, pf_86_0, gf_86_1, ar_50, al_50, gf_86_2, pf_86_2, gf_86_3, pf_86_3, gf_86_4, pf_86_4, gf_86_5, pf_86_5, gf_86_6, ar_51, al_51, gf_86_7, ar_52, al_52, gf_86_8, ar_53, al_53, gf_86_9, ar_54, al_54, gf_86_10, ar_55, al_55, gf_86_11, ar_56, al_56, gf_86_12, ar_57, al_57, gf_86_13, pf_86_13, gf_86_14, pf_86_14, gf_86_15, ar_58, al_58, gf_86_16, ar_59, al_59, gf_86_17, ar_60, al_60, gf_86_18, ar_61, al_61, gf_86_19, ar_62, al_62, gf_86_20, pf_86_20, gf_86_21, pf_86_21, gf_86_22, ar_63, al_63, gf_86_23, ar_64, al_64, gf_86_24, ar_65, al_65, gf_86_25, ar_66, al_66, gf_86_26, ar_67, al_67, gf_86_27, ar_68, al_68, gf_86_28, ar_69, al_69, gf_86_29, ar_70, al_70, gf_86_30, ar_71, al_71, gf_86_31, ar_72, al_72, gf_86_32, ar_73, al_73, gf_86_33, ar_74, al_74, gf_86_34, pf_86_34, e4]
    (repeat' (first | with_reducible apply And.intro | with_reducible intro _)) <;> first | omega | exact K
  | succ m ih =>
    intro t i t0 t1 I
    rcases I with ⟨a, b⟩ | ⟨a, b⟩
    · have K := lp_rc1 (i := i) (Q := Q) hm hS hw (show 0 ≤ t ∧ t < sg_U S by omega) hq (fun v hv => by
        have vr := hv.1
        have gf := go_full hG hv
        have Ka : v = am_shl 1 (sg_G S) - 1 → am_Ex 145 4 [some (.inr (.inr (some 86))), some (.inl w), some (.inl 1), some (.inl (t + 1)), none, none] [] h Q := fun q => ih (t + 1) 1 (by omega) (by omega) (Or.inl ⟨rfl, fun t' e q1 q2 q3 q4 => by
          by_cases c : t' = t
          · rw [c]; exact gf.mp q e q3 q4
          · exact b t' e q1 (by omega) q3 q4⟩)
        have Kb : ¬ v = am_shl 1 (sg_G S) - 1 → am_Ex 145 4 [some (.inr (.inr (some 86))), some (.inl w), some (.inl 0), some (.inl (t + 1)), none, none] [] h Q := fun q => ih (t + 1) 0 (by omega) (by omega) (Or.inr ⟨rfl, fun z => q (gf.mpr (fun e e1 e2 => z t e t0 (by omega) e1 e2))⟩)
        simp only [eq_self, and_self, am_up_at, Int.cast_ofNat_Int, Int.reduceNatCast, true_or, or_true, or_false, false_or, Classical.not_not, false_and, and_false, am_bk, am_step, am_ldI, am_ldL, am_ldA, am_nth, am_sto, am_stw_0, am_stw_i, am_stw_n, am_stw_a, am_stw_l, am_br, am_cmp, am_tk, am_cat, am_sw, am_copy, am_R, am_nc0, am_nc1, am_f0, am_f1, am_f2, am_f3, Int.reduceNeg, Int.reduceEq, Int.reduceLE, Int.reduceLT, Nat.reduceLeDiff, Nat.reduceAdd, Nat.reduceEqDiff, true_and, and_true, ↓reduceIte, if_false, if_true, forall_const, not_true_eq_false, not_false_eq_true, false_implies, true_implies, implies_true, Int.reduceAdd, Int.reduceMul, Int.reduceSub, ne_eq, ca_145_86, bl_145_37, bl_145_47, bl_145_48, gf_86_0, pf_86_0, gf_86_1, ar_50, al_50, gf_86_2, pf_86_2, gf_86_3, pf_86_3, gf_86_4, pf_86_4, gf_86_5, pf_86_5, gf_86_6, ar_51, al_51, gf_86_7, ar_52, al_52, gf_86_8, ar_53, al_53, gf_86_9, ar_54, al_54, gf_86_10, ar_55, al_55, gf_86_11, ar_56, al_56, gf_86_12, ar_57, al_57, gf_86_13, pf_86_13, gf_86_14, pf_86_14, gf_86_15, ar_58, al_58, gf_86_16, ar_59, al_59, gf_86_17, ar_60, al_60, gf_86_18, ar_61, al_61, gf_86_19, ar_62, al_62, gf_86_20, pf_86_20, gf_86_21, pf_86_21, gf_86_22, ar_63, al_63, gf_86_23, ar_64, al_64, gf_86_24, ar_65, al_65, gf_86_25, ar_66, al_66, gf_86_26, ar_67, al_67, gf_86_27, ar_68, al_68, gf_86_28, ar_69, al_69, gf_86_29, ar_70, al_70, gf_86_30, ar_71, al_71, gf_86_31, ar_72, al_72, gf_86_32, ar_73, al_73, gf_86_33, ar_74, al_74, gf_86_34, pf_86_34, e5]
        (repeat' (first | with_reducible apply And.intro | with_reducible intro _)) <;> first | omega | exact am_forget (Ka (by omega)) (by simp [am_lq]) | exact am_forget (Kb (by omega)) (by simp [am_lq])) (sg_G S).toNat 0 0 (by omega) (by omega) ⟨by omega, fun e e1 e2 => by rw [bt_z]; exact ⟨fun z => by omega, fun ⟨x, x1, _⟩ => by omega⟩⟩
      rw [bl_145_4]
      simp only [eq_self, and_self, am_up_at, Int.cast_ofNat_Int, Int.reduceNatCast, true_or, or_true, or_false, false_or, Classical.not_not, false_and, and_false, am_bk, am_step, am_ldI, am_ldL, am_ldA, am_nth, am_sto, am_stw_0, am_stw_i, am_stw_n, am_stw_a, am_stw_l, am_br, am_cmp, am_tk, am_cat, am_sw, am_copy, am_R, am_nc0, am_nc1, am_f0, am_f1, am_f2, am_f3, Int.reduceNeg, Int.reduceEq, Int.reduceLE, Int.reduceLT, Nat.reduceLeDiff, Nat.reduceAdd, Nat.reduceEqDiff, true_and, and_true, ↓reduceIte, if_false, if_true, forall_const, not_true_eq_false, not_false_eq_true, false_implies, true_implies, implies_true, Int.reduceAdd, Int.reduceMul, Int.reduceSub, ne_eq, ca_145_86, bl_145_8, gf_86_0, pf_86_0, gf_86_1, ar_50, al_50, gf_86_2, pf_86_2, gf_86_3, pf_86_3, gf_86_4, pf_86_4, gf_86_5, pf_86_5, gf_86_6, ar_51, al_51, gf_86_7, ar_52, al_52, gf_86_8, ar_53, al_53, gf_86_9, ar_54, al_54, gf_86_10, ar_55, al_55, gf_86_11, ar_56, al_56, gf_86_12, ar_57, al_57, gf_86_13, pf_86_13, gf_86_14, pf_86_14, gf_86_15, ar_58, al_58, gf_86_16, ar_59, al_59, gf_86_17, ar_60, al_60, gf_86_18, ar_61, al_61, gf_86_19, ar_62, al_62, gf_86_20, pf_86_20, gf_86_21, pf_86_21, gf_86_22, ar_63, al_63, gf_86_23, ar_64, al_64, gf_86_24, ar_65, al_65, gf_86_25, ar_66, al_66, gf_86_26, ar_67, al_67, gf_86_27, ar_68, al_68, gf_86_28, ar_69, al_69, gf_86_29, ar_70, al_70, gf_86_30, ar_71, al_71, gf_86_31, ar_72, al_72, gf_86_32, ar_73, al_73, gf_86_33, ar_74, al_74, gf_86_34, pf_86_34, e4]
      (repeat' (first | with_reducible apply And.intro | with_reducible intro _)) <;> first | omega | exact K
    · have K := N b
      rw [bl_145_4]
      simp only [eq_self, and_self, am_up_at, Int.cast_ofNat_Int, Int.reduceNatCast, true_or, or_true, or_false, false_or, Classical.not_not, false_and, and_false, am_bk, am_step, am_ldI, am_ldL, am_ldA, am_nth, am_sto, am_stw_0, am_stw_i, am_stw_n, am_stw_a, am_stw_l, am_br, am_cmp, am_tk, am_cat, am_sw, am_copy, am_R, am_nc0, am_nc1, am_f0, am_f1, am_f2, am_f3, Int.reduceNeg, Int.reduceEq, Int.reduceLE, Int.reduceLT, Nat.reduceLeDiff, Nat.reduceAdd, Nat.reduceEqDiff, true_and, and_true, ↓reduceIte, if_false, if_true, forall_const, not_true_eq_false, not_false_eq_true, false_implies, true_implies, implies_true, Int.reduceAdd, Int.reduceMul, Int.reduceSub, ne_eq, ca_145_86, bl_145_8, bl_145_51, gf_86_0, pf_86_0, gf_86_1, ar_50, al_50, gf_86_2, pf_86_2, gf_86_3, pf_86_3, gf_86_4, pf_86_4, gf_86_5, pf_86_5, gf_86_6, ar_51, al_51, gf_86_7, ar_52, al_52, gf_86_8, ar_53, al_53, gf_86_9, ar_54, al_54, gf_86_10, ar_55, al_55, gf_86_11, ar_56, al_56, gf_86_12, ar_57, al_57, gf_86_13, pf_86_13, gf_86_14, pf_86_14, gf_86_15, ar_58, al_58, gf_86_16, ar_59, al_59, gf_86_17, ar_60, al_60, gf_86_18, ar_61, al_61, gf_86_19, ar_62, al_62, gf_86_20, pf_86_20, gf_86_21, pf_86_21, gf_86_22, ar_63, al_63, gf_86_23, ar_64, al_64, gf_86_24, ar_65, al_65, gf_86_25, ar_66, al_66, gf_86_26, ar_67, al_67, gf_86_27, ar_68, al_68, gf_86_28, ar_69, al_69, gf_86_29, ar_70, al_70, gf_86_30, ar_71, al_71, gf_86_31, ar_72, al_72, gf_86_32, ar_73, al_73, gf_86_33, ar_74, al_74, gf_86_34, pf_86_34, e4, a]
      (repeat' (first | with_reducible apply And.intro | with_reducible intro _)) <;> first | omega | exact K
set_option maxHeartbeats 400000 in
set_option maxRecDepth 100000 in
theorem sp_reachAll {S : sg_S} {s w : Int} {h : am_H} {Q : am_P} (hm : sg_of h = S) (hS : sg_ok S) (hw : 0 ≤ w ∧ w ≤ 255) (hq : rq S s (sg_U S) 0 h) (Y : sv S s w → Q (some (.inl 1)) h) (N : ¬ sv S s w → Q (some (.inl 0)) h) : am_Call 145 [.inr (.inr (some 86)), .inl w] h Q := by
  have hU := hS.1
  simp only [eq_self, and_self, am_up_at, Int.cast_ofNat_Int, Int.reduceNatCast, true_or, or_true, or_false, false_or, Classical.not_not, false_and, and_false, am_bk, am_step, am_ldI, am_ldL, am_ldA, am_nth, am_sto, am_stw_0, am_stw_i, am_stw_n, am_stw_a, am_stw_l, am_br, am_cmp, am_tk, am_cat, am_sw, am_copy, am_R, am_nc0, am_nc1, am_f0, am_f1, am_f2, am_f3, Int.reduceNeg, Int.reduceEq, Int.reduceLE, Int.reduceLT, Nat.reduceLeDiff, Nat.reduceAdd, Nat.reduceEqDiff, true_and, and_true, ↓reduceIte, if_false, if_true, forall_const, not_true_eq_false, not_false_eq_true, false_implies, true_implies, implies_true, Int.reduceAdd, Int.reduceMul, Int.reduceSub, ne_eq, ca_145_86, bl_145_0, gf_86_0, pf_86_0, gf_86_1, ar_50, al_50, gf_86_2, pf_86_2, gf_86_3, pf_86_3, gf_86_4, pf_86_4, gf_86_5, pf_86_5, gf_86_6, ar_51, al_51, gf_86_7, ar_52, al_52, gf_86_8, ar_53, al_53, gf_86_9, ar_54, al_54, gf_86_10, ar_55, al_55, gf_86_11, ar_56, al_56, gf_86_12, ar_57, al_57, gf_86_13, pf_86_13, gf_86_14, pf_86_14, gf_86_15, ar_58, al_58, gf_86_16, ar_59, al_59, gf_86_17, ar_60, al_60, gf_86_18, ar_61, al_61, gf_86_19, ar_62, al_62, gf_86_20, pf_86_20, gf_86_21, pf_86_21, gf_86_22, ar_63, al_63, gf_86_23, ar_64, al_64, gf_86_24, ar_65, al_65, gf_86_25, ar_66, al_66, gf_86_26, ar_67, al_67, gf_86_27, ar_68, al_68, gf_86_28, ar_69, al_69, gf_86_29, ar_70, al_70, gf_86_30, ar_71, al_71, gf_86_31, ar_72, al_72, gf_86_32, ar_73, al_73, gf_86_33, ar_74, al_74, gf_86_34, pf_86_34]
  exact lp_rc2 hm hS hw hq Y N (sg_U S).toNat 0 1 (by omega) (by omega) (Or.inl ⟨rfl, fun t' e q1 q2 => by omega⟩)
set_option maxHeartbeats 400000 in
set_option maxRecDepth 100000 in
theorem lp_mp4 {S : sg_S} {s : Int} {h : am_H} {Q : am_P} (hm : sg_of h = S) (hS : sg_ok S) (hq : rq S s (sg_U S) 0 h) (H : ∀ b, fp S s (am_shl 1 (sg_G S)) b → Q (some (.inl b)) h) :
    ∀ (m : Nat) (n b : Int), 1 ≤ n → n + m = am_shl 1 (sg_G S) → fp S s n b → am_Ex 144 82 [some (.inr (.inr (some 86))), some (.inl s), some (.inl b), some (.inl n), none] [] h Q := by
  intro m
  have hG := hS.2.1
  have e5 : h 86 5 = sg_G S := by rw [← hm]; rfl
  have sh := (bt_full hG).1
  induction m with
  | zero =>
    intro n b n0 n1 I
    have br : -9 ≤ b ∧ b ≤ 256 := by rcases I with q | q <;> omega
    have K := H b (by rw [show am_shl 1 (sg_G S) = n by omega]; exact I)
    rw [bl_144_82]
    simp only [eq_self, and_self, am_up_at, Int.cast_ofNat_Int, Int.reduceNatCast, true_or, or_true, or_false, false_or, Classical.not_not, false_and, and_false, am_bk, am_step, am_ldI, am_ldL, am_ldA, am_nth, am_sto, am_stw_0, am_stw_i, am_stw_n, am_stw_a, am_stw_l, am_br, am_cmp, am_tk, am_cat, am_sw, am_copy, am_R, am_nc0, am_nc1, am_f0, am_f1, am_f2, am_f3, Int.reduceNeg, Int.reduceEq, Int.reduceLE, Int.reduceLT, Nat.reduceLeDiff, Nat.reduceAdd, Nat.reduceEqDiff, true_and, and_true, ↓reduceIte, if_false, if_true, forall_const, not_true_eq_false, not_false_eq_true, false_implies, true_implies, implies_true, Int.reduceAdd, Int.reduceMul, Int.reduceSub, ne_eq, ca_144_86, bl_144_112, gf_86_0, pf_86_0, gf_86_1, ar_50, al_50, gf_86_2, pf_86_2, gf_86_3, pf_86_3, gf_86_4, pf_86_4, gf_86_5, pf_86_5, gf_86_6, ar_51, al_51, gf_86_7, ar_52, al_52, gf_86_8, ar_53, al_53, gf_86_9, ar_54, al_54, gf_86_10, ar_55, al_55, gf_86_11, ar_56, al_56, gf_86_12, ar_57, al_57, gf_86_13, pf_86_13, gf_86_14, pf_86_14, gf_86_15, ar_58, al_58, gf_86_16, ar_59, al_59, gf_86_17, ar_60, al_60, gf_86_18, ar_61, al_61, gf_86_19, ar_62, al_62, gf_86_20, pf_86_20, gf_86_21, pf_86_21, gf_86_22, ar_63, al_63, gf_86_23, ar_64, al_64, gf_86_24, ar_65, al_65, gf_86_25, ar_66, al_66, gf_86_26, ar_67, al_67, gf_86_27, ar_68, al_68, gf_86_28, ar_69, al_69, gf_86_29, ar_70, al_70, gf_86_30, ar_71, al_71, gf_86_31, ar_72, al_72, gf_86_32, ar_73, al_73, gf_86_33, ar_74, al_74, gf_86_34, pf_86_34, e5]
    (repeat' (first | with_reducible apply And.intro | with_reducible intro _)) <;> first | omega | exact K
  | succ m ih =>
    intro n b n0 n1 I
    have br : b = -9 ∨ (1 ≤ b ∧ b ≤ 255) := by rcases I with q | q <;> omega
    have nr : 0 ≤ n ∧ n ≤ 255 := by omega
    have pr := pc_r n
    have pb := pc_r b
    have st := fp_s n0 I
    have Kn : ¬ (sv S s n ∧ (b = -9 ∨ pc n < pc b)) → ∀ f, am_Ex 144 109 [some (.inr (.inr (some 86))), some (.inl s), some (.inl b), some (.inl n), some (.inl f)] [.inl b] h Q := by
      intro q f
      have K := ih (n + 1) b (by omega) (by omega) (st.2 q)
      simp only [eq_self, and_self, am_up_at, Int.cast_ofNat_Int, Int.reduceNatCast, true_or, or_true, or_false, false_or, Classical.not_not, false_and, and_false, am_bk, am_step, am_ldI, am_ldL, am_ldA, am_nth, am_sto, am_stw_0, am_stw_i, am_stw_n, am_stw_a, am_stw_l, am_br, am_cmp, am_tk, am_cat, am_sw, am_copy, am_R, am_nc0, am_nc1, am_f0, am_f1, am_f2, am_f3, Int.reduceNeg, Int.reduceEq, Int.reduceLE, Int.reduceLT, Nat.reduceLeDiff, Nat.reduceAdd, Nat.reduceEqDiff, true_and, and_true, ↓reduceIte, if_false, if_true, forall_const, not_true_eq_false, not_false_eq_true, false_implies, true_implies, implies_true, Int.reduceAdd, Int.reduceMul, Int.reduceSub, ne_eq, ca_144_86, bl_144_109, gf_86_0, pf_86_0, gf_86_1, ar_50, al_50, gf_86_2, pf_86_2, gf_86_3, pf_86_3, gf_86_4, pf_86_4, gf_86_5, pf_86_5, gf_86_6, ar_51, al_51, gf_86_7, ar_52, al_52, gf_86_8, ar_53, al_53, gf_86_9, ar_54, al_54, gf_86_10, ar_55, al_55, gf_86_11, ar_56, al_56, gf_86_12, ar_57, al_57, gf_86_13, pf_86_13, gf_86_14, pf_86_14, gf_86_15, ar_58, al_58, gf_86_16, ar_59, al_59, gf_86_17, ar_60, al_60, gf_86_18, ar_61, al_61, gf_86_19, ar_62, al_62, gf_86_20, pf_86_20, gf_86_21, pf_86_21, gf_86_22, ar_63, al_63, gf_86_23, ar_64, al_64, gf_86_24, ar_65, al_65, gf_86_25, ar_66, al_66, gf_86_26, ar_67, al_67, gf_86_27, ar_68, al_68, gf_86_28, ar_69, al_69, gf_86_29, ar_70, al_70, gf_86_30, ar_71, al_71, gf_86_31, ar_72, al_72, gf_86_32, ar_73, al_73, gf_86_33, ar_74, al_74, gf_86_34, pf_86_34]
      (repeat' (first | with_reducible apply And.intro | with_reducible intro _)) <;> first | omega | exact am_forget K (by simp [am_lq])
    have Ky : sv S s n ∧ (b = -9 ∨ pc n < pc b) → ∀ f, am_Ex 144 109 [some (.inr (.inr (some 86))), some (.inl s), some (.inl b), some (.inl n), some (.inl f)] [.inl n] h Q := by
      intro q f
      have K := ih (n + 1) n (by omega) (by omega) (st.1 q)
      simp only [eq_self, and_self, am_up_at, Int.cast_ofNat_Int, Int.reduceNatCast, true_or, or_true, or_false, false_or, Classical.not_not, false_and, and_false, am_bk, am_step, am_ldI, am_ldL, am_ldA, am_nth, am_sto, am_stw_0, am_stw_i, am_stw_n, am_stw_a, am_stw_l, am_br, am_cmp, am_tk, am_cat, am_sw, am_copy, am_R, am_nc0, am_nc1, am_f0, am_f1, am_f2, am_f3, Int.reduceNeg, Int.reduceEq, Int.reduceLE, Int.reduceLT, Nat.reduceLeDiff, Nat.reduceAdd, Nat.reduceEqDiff, true_and, and_true, ↓reduceIte, if_false, if_true, forall_const, not_true_eq_false, not_false_eq_true, false_implies, true_implies, implies_true, Int.reduceAdd, Int.reduceMul, Int.reduceSub, ne_eq, ca_144_86, bl_144_109, gf_86_0, pf_86_0, gf_86_1, ar_50, al_50, gf_86_2, pf_86_2, gf_86_3, pf_86_3, gf_86_4, pf_86_4, gf_86_5, pf_86_5, gf_86_6, ar_51, al_51, gf_86_7, ar_52, al_52, gf_86_8, ar_53, al_53, gf_86_9, ar_54, al_54, gf_86_10, ar_55, al_55, gf_86_11, ar_56, al_56, gf_86_12, ar_57, al_57, gf_86_13, pf_86_13, gf_86_14, pf_86_14, gf_86_15, ar_58, al_58, gf_86_16, ar_59, al_59, gf_86_17, ar_60, al_60, gf_86_18, ar_61, al_61, gf_86_19, ar_62, al_62, gf_86_20, pf_86_20, gf_86_21, pf_86_21, gf_86_22, ar_63, al_63, gf_86_23, ar_64, al_64, gf_86_24, ar_65, al_65, gf_86_25, ar_66, al_66, gf_86_26, ar_67, al_67, gf_86_27, ar_68, al_68, gf_86_28, ar_69, al_69, gf_86_29, ar_70, al_70, gf_86_30, ar_71, al_71, gf_86_31, ar_72, al_72, gf_86_32, ar_73, al_73, gf_86_33, ar_74, al_74, gf_86_34, pf_86_34]
      (repeat' (first | with_reducible apply And.intro | with_reducible intro _)) <;> first | omega | exact am_forget K (by simp [am_lq])
    have Kt : b = -9 ∨ pc n < pc b → am_Ex 144 99 [some (.inr (.inr (some 86))), some (.inl s), some (.inl b), some (.inl n), none] [.inl 1] h Q := by
      intro lt
      have Ka : sv S s n → am_Ex 144 105 [some (.inr (.inr (some 86))), some (.inl s), some (.inl b), some (.inl n), some (.inl 1)] [.inl 1] h Q := by
        intro z
        have K := Ky ⟨z, lt⟩ 1
        simp only [eq_self, and_self, am_up_at, Int.cast_ofNat_Int, Int.reduceNatCast, true_or, or_true, or_false, false_or, Classical.not_not, false_and, and_false, am_bk, am_step, am_ldI, am_ldL, am_ldA, am_nth, am_sto, am_stw_0, am_stw_i, am_stw_n, am_stw_a, am_stw_l, am_br, am_cmp, am_tk, am_cat, am_sw, am_copy, am_R, am_nc0, am_nc1, am_f0, am_f1, am_f2, am_f3, Int.reduceNeg, Int.reduceEq, Int.reduceLE, Int.reduceLT, Nat.reduceLeDiff, Nat.reduceAdd, Nat.reduceEqDiff, true_and, and_true, ↓reduceIte, if_false, if_true, forall_const, not_true_eq_false, not_false_eq_true, false_implies, true_implies, implies_true, Int.reduceAdd, Int.reduceMul, Int.reduceSub, ne_eq, ca_144_86, bl_144_105, gf_86_0, pf_86_0, gf_86_1, ar_50, al_50, gf_86_2, pf_86_2, gf_86_3, pf_86_3, gf_86_4, pf_86_4, gf_86_5, pf_86_5, gf_86_6, ar_51, al_51, gf_86_7, ar_52, al_52, gf_86_8, ar_53, al_53, gf_86_9, ar_54, al_54, gf_86_10, ar_55, al_55, gf_86_11, ar_56, al_56, gf_86_12, ar_57, al_57, gf_86_13, pf_86_13, gf_86_14, pf_86_14, gf_86_15, ar_58, al_58, gf_86_16, ar_59, al_59, gf_86_17, ar_60, al_60, gf_86_18, ar_61, al_61, gf_86_19, ar_62, al_62, gf_86_20, pf_86_20, gf_86_21, pf_86_21, gf_86_22, ar_63, al_63, gf_86_23, ar_64, al_64, gf_86_24, ar_65, al_65, gf_86_25, ar_66, al_66, gf_86_26, ar_67, al_67, gf_86_27, ar_68, al_68, gf_86_28, ar_69, al_69, gf_86_29, ar_70, al_70, gf_86_30, ar_71, al_71, gf_86_31, ar_72, al_72, gf_86_32, ar_73, al_73, gf_86_33, ar_74, al_74, gf_86_34, pf_86_34]
        (repeat' (first | with_reducible apply And.intro | with_reducible intro _)) <;> first | omega | exact K
      have Kb : ¬ sv S s n → am_Ex 144 105 [some (.inr (.inr (some 86))), some (.inl s), some (.inl b), some (.inl n), some (.inl 1)] [.inl 0] h Q := by
        intro z
        have K := Kn (fun w => z w.1) 1
        simp only [eq_self, and_self, am_up_at, Int.cast_ofNat_Int, Int.reduceNatCast, true_or, or_true, or_false, false_or, Classical.not_not, false_and, and_false, am_bk, am_step, am_ldI, am_ldL, am_ldA, am_nth, am_sto, am_stw_0, am_stw_i, am_stw_n, am_stw_a, am_stw_l, am_br, am_cmp, am_tk, am_cat, am_sw, am_copy, am_R, am_nc0, am_nc1, am_f0, am_f1, am_f2, am_f3, Int.reduceNeg, Int.reduceEq, Int.reduceLE, Int.reduceLT, Nat.reduceLeDiff, Nat.reduceAdd, Nat.reduceEqDiff, true_and, and_true, ↓reduceIte, if_false, if_true, forall_const, not_true_eq_false, not_false_eq_true, false_implies, true_implies, implies_true, Int.reduceAdd, Int.reduceMul, Int.reduceSub, ne_eq, ca_144_86, bl_144_105, bl_144_108, gf_86_0, pf_86_0, gf_86_1, ar_50, al_50, gf_86_2, pf_86_2, gf_86_3, pf_86_3, gf_86_4, pf_86_4, gf_86_5, pf_86_5, gf_86_6, ar_51, al_51, gf_86_7, ar_52, al_52, gf_86_8, ar_53, al_53, gf_86_9, ar_54, al_54, gf_86_10, ar_55, al_55, gf_86_11, ar_56, al_56, gf_86_12, ar_57, al_57, gf_86_13, pf_86_13, gf_86_14, pf_86_14, gf_86_15, ar_58, al_58, gf_86_16, ar_59, al_59, gf_86_17, ar_60, al_60, gf_86_18, ar_61, al_61, gf_86_19, ar_62, al_62, gf_86_20, pf_86_20, gf_86_21, pf_86_21, gf_86_22, ar_63, al_63, gf_86_23, ar_64, al_64, gf_86_24, ar_65, al_65, gf_86_25, ar_66, al_66, gf_86_26, ar_67, al_67, gf_86_27, ar_68, al_68, gf_86_28, ar_69, al_69, gf_86_29, ar_70, al_70, gf_86_30, ar_71, al_71, gf_86_31, ar_72, al_72, gf_86_32, ar_73, al_73, gf_86_33, ar_74, al_74, gf_86_34, pf_86_34]
        (repeat' (first | with_reducible apply And.intro | with_reducible intro _)) <;> first | omega | exact K
      simp only [eq_self, and_self, am_up_at, Int.cast_ofNat_Int, Int.reduceNatCast, true_or, or_true, or_false, false_or, Classical.not_not, false_and, and_false, am_bk, am_step, am_ldI, am_ldL, am_ldA, am_nth, am_sto, am_stw_0, am_stw_i, am_stw_n, am_stw_a, am_stw_l, am_br, am_cmp, am_tk, am_cat, am_sw, am_copy, am_R, am_nc0, am_nc1, am_f0, am_f1, am_f2, am_f3, Int.reduceNeg, Int.reduceEq, Int.reduceLE, Int.reduceLT, Nat.reduceLeDiff, Nat.reduceAdd, Nat.reduceEqDiff, true_and, and_true, ↓reduceIte, if_false, if_true, forall_const, not_true_eq_false, not_false_eq_true, false_implies, true_implies, implies_true, Int.reduceAdd, Int.reduceMul, Int.reduceSub, ne_eq, ca_144_86, bl_144_99, gf_86_0, pf_86_0, gf_86_1, ar_50, al_50, gf_86_2, pf_86_2, gf_86_3, pf_86_3, gf_86_4, pf_86_4, gf_86_5, pf_86_5, gf_86_6, ar_51, al_51, gf_86_7, ar_52, al_52, gf_86_8, ar_53, al_53, gf_86_9, ar_54, al_54, gf_86_10, ar_55, al_55, gf_86_11, ar_56, al_56, gf_86_12, ar_57, al_57, gf_86_13, pf_86_13, gf_86_14, pf_86_14, gf_86_15, ar_58, al_58, gf_86_16, ar_59, al_59, gf_86_17, ar_60, al_60, gf_86_18, ar_61, al_61, gf_86_19, ar_62, al_62, gf_86_20, pf_86_20, gf_86_21, pf_86_21, gf_86_22, ar_63, al_63, gf_86_23, ar_64, al_64, gf_86_24, ar_65, al_65, gf_86_25, ar_66, al_66, gf_86_26, ar_67, al_67, gf_86_27, ar_68, al_68, gf_86_28, ar_69, al_69, gf_86_29, ar_70, al_70, gf_86_30, ar_71, al_71, gf_86_31, ar_72, al_72, gf_86_32, ar_73, al_73, gf_86_33, ar_74, al_74, gf_86_34, pf_86_34]
      (repeat' (first | with_reducible apply And.intro | with_reducible intro _)) <;> first | omega | exact sp_reachAll hm hS nr hq Ka Kb
    have Kf : ¬ (b = -9 ∨ pc n < pc b) → am_Ex 144 99 [some (.inr (.inr (some 86))), some (.inl s), some (.inl b), some (.inl n), none] [.inl 0] h Q := by
      intro q
      have K := Kn (fun z => q z.2) 0
      simp only [eq_self, and_self, am_up_at, Int.cast_ofNat_Int, Int.reduceNatCast, true_or, or_true, or_false, false_or, Classical.not_not, false_and, and_false, am_bk, am_step, am_ldI, am_ldL, am_ldA, am_nth, am_sto, am_stw_0, am_stw_i, am_stw_n, am_stw_a, am_stw_l, am_br, am_cmp, am_tk, am_cat, am_sw, am_copy, am_R, am_nc0, am_nc1, am_f0, am_f1, am_f2, am_f3, Int.reduceNeg, Int.reduceEq, Int.reduceLE, Int.reduceLT, Nat.reduceLeDiff, Nat.reduceAdd, Nat.reduceEqDiff, true_and, and_true, ↓reduceIte, if_false, if_true, forall_const, not_true_eq_false, not_false_eq_true, false_implies, true_implies, implies_true, Int.reduceAdd, Int.reduceMul, Int.reduceSub, ne_eq, ca_144_86, bl_144_99, bl_144_108, gf_86_0, pf_86_0, gf_86_1, ar_50, al_50, gf_86_2, pf_86_2, gf_86_3, pf_86_3, gf_86_4, pf_86_4, gf_86_5, pf_86_5, gf_86_6, ar_51, al_51, gf_86_7, ar_52, al_52, gf_86_8, ar_53, al_53, gf_86_9, ar_54, al_54, gf_86_10, ar_55, al_55, gf_86_11, ar_56, al_56, gf_86_12, ar_57, al_57, gf_86_13, pf_86_13, gf_86_14, pf_86_14, gf_86_15, ar_58, al_58, gf_86_16, ar_59, al_59, gf_86_17, ar_60, al_60, gf_86_18, ar_61, al_61, gf_86_19, ar_62, al_62, gf_86_20, pf_86_20, gf_86_21, pf_86_21, gf_86_22, ar_63, al_63, gf_86_23, ar_64, al_64, gf_86_24, ar_65, al_65, gf_86_25, ar_66, al_66, gf_86_26, ar_67, al_67, gf_86_27, ar_68, al_68, gf_86_28, ar_69, al_69, gf_86_29, ar_70, al_70, gf_86_30, ar_71, al_71, gf_86_31, ar_72, al_72, gf_86_32, ar_73, al_73, gf_86_33, ar_74, al_74, gf_86_34, pf_86_34]
      (repeat' (first | with_reducible apply And.intro | with_reducible intro _)) <;> first | omega | exact K
    have K2 : b ≠ -9 → am_Ex 144 95 [some (.inr (.inr (some 86))), some (.inl s), some (.inl b), some (.inl n), none] [.inl (pc b), .inl (pc n)] h Q := by
      intro q
      simp only [eq_self, and_self, am_up_at, Int.cast_ofNat_Int, Int.reduceNatCast, true_or, or_true, or_false, false_or, Classical.not_not, false_and, and_false, am_bk, am_step, am_ldI, am_ldL, am_ldA, am_nth, am_sto, am_stw_0, am_stw_i, am_stw_n, am_stw_a, am_stw_l, am_br, am_cmp, am_tk, am_cat, am_sw, am_copy, am_R, am_nc0, am_nc1, am_f0, am_f1, am_f2, am_f3, Int.reduceNeg, Int.reduceEq, Int.reduceLE, Int.reduceLT, Nat.reduceLeDiff, Nat.reduceAdd, Nat.reduceEqDiff, true_and, and_true, ↓reduceIte, if_false, if_true, forall_const, not_true_eq_false, not_false_eq_true, false_implies, true_implies, implies_true, Int.reduceAdd, Int.reduceMul, Int.reduceSub, ne_eq, ca_144_86, bl_144_95, bl_144_96, bl_144_98, gf_86_0, pf_86_0, gf_86_1, ar_50, al_50, gf_86_2, pf_86_2, gf_86_3, pf_86_3, gf_86_4, pf_86_4, gf_86_5, pf_86_5, gf_86_6, ar_51, al_51, gf_86_7, ar_52, al_52, gf_86_8, ar_53, al_53, gf_86_9, ar_54, al_54, gf_86_10, ar_55, al_55, gf_86_11, ar_56, al_56, gf_86_12, ar_57, al_57, gf_86_13, pf_86_13, gf_86_14, pf_86_14, gf_86_15, ar_58, al_58, gf_86_16, ar_59, al_59, gf_86_17, ar_60, al_60, gf_86_18, ar_61, al_61, gf_86_19, ar_62, al_62, gf_86_20, pf_86_20, gf_86_21, pf_86_21, gf_86_22, ar_63, al_63, gf_86_23, ar_64, al_64, gf_86_24, ar_65, al_65, gf_86_25, ar_66, al_66, gf_86_26, ar_67, al_67, gf_86_27, ar_68, al_68, gf_86_28, ar_69, al_69, gf_86_29, ar_70, al_70, gf_86_30, ar_71, al_71, gf_86_31, ar_72, al_72, gf_86_32, ar_73, al_73, gf_86_33, ar_74, al_74, gf_86_34, pf_86_34]
      (repeat' (first | with_reducible apply And.intro | with_reducible intro _)) <;> first | omega | exact Kt (by omega) | exact Kf (by omega)
    have K3 : b ≠ -9 → am_Ex 144 93 [some (.inr (.inr (some 86))), some (.inl s), some (.inl b), some (.inl n), none] [.inl (pc n)] h Q := by
      intro q
      simp only [eq_self, and_self, am_up_at, Int.cast_ofNat_Int, Int.reduceNatCast, true_or, or_true, or_false, false_or, Classical.not_not, false_and, and_false, am_bk, am_step, am_ldI, am_ldL, am_ldA, am_nth, am_sto, am_stw_0, am_stw_i, am_stw_n, am_stw_a, am_stw_l, am_br, am_cmp, am_tk, am_cat, am_sw, am_copy, am_R, am_nc0, am_nc1, am_f0, am_f1, am_f2, am_f3, Int.reduceNeg, Int.reduceEq, Int.reduceLE, Int.reduceLT, Nat.reduceLeDiff, Nat.reduceAdd, Nat.reduceEqDiff, true_and, and_true, ↓reduceIte, if_false, if_true, forall_const, not_true_eq_false, not_false_eq_true, false_implies, true_implies, implies_true, Int.reduceAdd, Int.reduceMul, Int.reduceSub, ne_eq, ca_144_86, bl_144_93, gf_86_0, pf_86_0, gf_86_1, ar_50, al_50, gf_86_2, pf_86_2, gf_86_3, pf_86_3, gf_86_4, pf_86_4, gf_86_5, pf_86_5, gf_86_6, ar_51, al_51, gf_86_7, ar_52, al_52, gf_86_8, ar_53, al_53, gf_86_9, ar_54, al_54, gf_86_10, ar_55, al_55, gf_86_11, ar_56, al_56, gf_86_12, ar_57, al_57, gf_86_13, pf_86_13, gf_86_14, pf_86_14, gf_86_15, ar_58, al_58, gf_86_16, ar_59, al_59, gf_86_17, ar_60, al_60, gf_86_18, ar_61, al_61, gf_86_19, ar_62, al_62, gf_86_20, pf_86_20, gf_86_21, pf_86_21, gf_86_22, ar_63, al_63, gf_86_23, ar_64, al_64, gf_86_24, ar_65, al_65, gf_86_25, ar_66, al_66, gf_86_26, ar_67, al_67, gf_86_27, ar_68, al_68, gf_86_28, ar_69, al_69, gf_86_29, ar_70, al_70, gf_86_30, ar_71, al_71, gf_86_31, ar_72, al_72, gf_86_32, ar_73, al_73, gf_86_33, ar_74, al_74, gf_86_34, pf_86_34]
      (repeat' (first | with_reducible apply And.intro | with_reducible intro _)) <;> first | omega | exact sp_many (by omega) (K2 q)
    rw [bl_144_82]
    simp only [eq_self, and_self, am_up_at, Int.cast_ofNat_Int, Int.reduceNatCast, true_or, or_true, or_false, false_or, Classical.not_not, false_and, and_false, am_bk, am_step, am_ldI, am_ldL, am_ldA, am_nth, am_sto, am_stw_0, am_stw_i, am_stw_n, am_stw_a, am_stw_l, am_br, am_cmp, am_tk, am_cat, am_sw, am_copy, am_R, am_nc0, am_nc1, am_f0, am_f1, am_f2, am_f3, Int.reduceNeg, Int.reduceEq, Int.reduceLE, Int.reduceLT, Nat.reduceLeDiff, Nat.reduceAdd, Nat.reduceEqDiff, true_and, and_true, ↓reduceIte, if_false, if_true, forall_const, not_true_eq_false, not_false_eq_true, false_implies, true_implies, implies_true, Int.reduceAdd, Int.reduceMul, Int.reduceSub, ne_eq, ca_144_86, bl_144_88, bl_144_96, gf_86_0, pf_86_0, gf_86_1, ar_50, al_50, gf_86_2, pf_86_2, gf_86_3, pf_86_3, gf_86_4, pf_86_4, gf_86_5, pf_86_5, gf_86_6, ar_51, al_51, gf_86_7, ar_52, al_52, gf_86_8, ar_53, al_53, gf_86_9, ar_54, al_54, gf_86_10, ar_55, al_55, gf_86_11, ar_56, al_56, gf_86_12, ar_57, al_57, gf_86_13, pf_86_13, gf_86_14, pf_86_14, gf_86_15, ar_58, al_58, gf_86_16, ar_59, al_59, gf_86_17, ar_60, al_60, gf_86_18, ar_61, al_61, gf_86_19, ar_62, al_62, gf_86_20, pf_86_20, gf_86_21, pf_86_21, gf_86_22, ar_63, al_63, gf_86_23, ar_64, al_64, gf_86_24, ar_65, al_65, gf_86_25, ar_66, al_66, gf_86_26, ar_67, al_67, gf_86_27, ar_68, al_68, gf_86_28, ar_69, al_69, gf_86_29, ar_70, al_70, gf_86_30, ar_71, al_71, gf_86_31, ar_72, al_72, gf_86_32, ar_73, al_73, gf_86_33, ar_74, al_74, gf_86_34, pf_86_34, e5]
    (repeat' (first | with_reducible apply And.intro | with_reducible intro _)) <;> first | omega | exact Kt (by omega) | exact sp_many nr (K3 (by omega))
set_option maxHeartbeats 400000 in
set_option maxRecDepth 100000 in
theorem pr_pumps {h : am_H} {k x : Int} (hx : am_R x) (hi : iv h k) (hk : k ≤ 600) : rg_pair 79 144 [.inl x] h k := by
  unfold rg_pair
  have hthr := iv_thr hi
  have hS := hi.1
  have hF := tb_fit_of hi
  have e1 := hS.2.1
  have hU := hS.1
  have c2 := hi.2.1.2.1
  have eG : sg_G (sg_of h) = h 86 5 := rfl
  have sh := (bt_full e1).1
  obtain ⟨x1, x2⟩ := id hx
  have X0 : xd h h k := ⟨fun _ _ => rfl, rfl, iv_w_up hi.2.2.2.2.2.2.2.2⟩
  have mod : ∀ h1, xd h h1 k → ∀ q, (¬ (0 ≤ x ∧ x ≤ 99) → q = -2) → (0 ≤ x ∧ x ≤ 99 → fp (sg_of h) x (am_shl 1 (sg_G (sg_of h))) q) → am_Call 144 [.inr (.inr (some 86)), .inl x] h1 (rg_post k (some (.inl q))) := by
    intro h1 X q q1 q2
    have em : sg_of (am_up h1 86 0 0) = sg_of h := (mx_sg (mx_thr h1)).trans (cx_sg X.1)
    have L1 := fun z => rg_leaf (k := k) (A := q) (B := -2) (by have := q1 z; omega) (by have := q1 z; omega) (ed hi X (mx_thr h1))
    have L2 : 0 ≤ x ∧ x ≤ 99 → am_Ex 144 13 [some (.inr (.inr (some 86))), some (.inl x), some (.inl 0), none, none] [] (am_up h1 86 0 0) (rg_post k (some (.inl q))) := by
      intro V
      refine lp_mp3 em hS hF V (fun h2 f2 I2 => ?_) (sg_U (sg_of h)).toNat 0 _ (by omega) (by omega) (fun _ _ _ _ => rfl) (fun t' g' hd => by unfold pdn at hd; omega)
      have em2 : sg_of h2 = sg_of h := (mx_sg (mx_fq f2)).trans em
      have K := lp_mp4 (Q := rg_post k (some (.inl q))) em2 hS I2 (fun b hb => by
        have br : -9 ≤ b ∧ b ≤ 256 := by rcases hb with z | z <;> omega
        have e := fp_one hb (q2 V)
        exact rg_leaf e (by omega) (ed hi X (mx_t (mx_thr h1) (mx_fq f2)))) (am_shl 1 (sg_G (sg_of h)) - 1).toNat 1 (-9) (by omega) (by omega) (Or.inl ⟨rfl, fun w w1 w2 => by omega⟩)
      simp only [eq_self, and_self, am_up_at, Int.cast_ofNat_Int, Int.reduceNatCast, true_or, or_true, or_false, false_or, Classical.not_not, false_and, and_false, am_bk, am_step, am_ldI, am_ldL, am_ldA, am_nth, am_sto, am_stw_0, am_stw_i, am_stw_n, am_stw_a, am_stw_l, am_br, am_cmp, am_tk, am_cat, am_sw, am_copy, am_R, am_nc0, am_nc1, am_f0, am_f1, am_f2, am_f3, Int.reduceNeg, Int.reduceEq, Int.reduceLE, Int.reduceLT, Nat.reduceLeDiff, Nat.reduceAdd, Nat.reduceEqDiff, true_and, and_true, ↓reduceIte, if_false, if_true, forall_const, not_true_eq_false, not_false_eq_true, false_implies, true_implies, implies_true, Int.reduceAdd, Int.reduceMul, Int.reduceSub, ne_eq, ca_144_86, bl_144_78, gf_86_0, pf_86_0, gf_86_1, ar_50, al_50, gf_86_2, pf_86_2, gf_86_3, pf_86_3, gf_86_4, pf_86_4, gf_86_5, pf_86_5, gf_86_6, ar_51, al_51, gf_86_7, ar_52, al_52, gf_86_8, ar_53, al_53, gf_86_9, ar_54, al_54, gf_86_10, ar_55, al_55, gf_86_11, ar_56, al_56, gf_86_12, ar_57, al_57, gf_86_13, pf_86_13, gf_86_14, pf_86_14, gf_86_15, ar_58, al_58, gf_86_16, ar_59, al_59, gf_86_17, ar_60, al_60, gf_86_18, ar_61, al_61, gf_86_19, ar_62, al_62, gf_86_20, pf_86_20, gf_86_21, pf_86_21, gf_86_22, ar_63, al_63, gf_86_23, ar_64, al_64, gf_86_24, ar_65, al_65, gf_86_25, ar_66, al_66, gf_86_26, ar_67, al_67, gf_86_27, ar_68, al_68, gf_86_28, ar_69, al_69, gf_86_29, ar_70, al_70, gf_86_30, ar_71, al_71, gf_86_31, ar_72, al_72, gf_86_32, ar_73, al_73, gf_86_33, ar_74, al_74, gf_86_34, pf_86_34]
      (repeat' (first | with_reducible apply And.intro | with_reducible intro _)) <;> first | omega | exact K
    simp (disch := omega) only [eq_self, and_self, am_up_at, Int.cast_ofNat_Int, Int.reduceNatCast, true_or, or_true, or_false, false_or, Classical.not_not, false_and, and_false, am_bk, am_step, am_ldI, am_ldL, am_ldA, am_nth, am_sto, am_stw_0, am_stw_i, am_stw_n, am_stw_a, am_stw_l, am_br, am_cmp, am_tk, am_cat, am_sw, am_copy, am_R, am_nc0, am_nc1, am_f0, am_f1, am_f2, am_f3, Int.reduceNeg, Int.reduceEq, Int.reduceLE, Int.reduceLT, Nat.reduceLeDiff, Nat.reduceAdd, Nat.reduceEqDiff, true_and, and_true, ↓reduceIte, if_false, if_true, forall_const, not_true_eq_false, not_false_eq_true, false_implies, true_implies, implies_true, Int.reduceAdd, Int.reduceMul, Int.reduceSub, ne_eq, ca_144_86, bl_144_0, bl_144_8, bl_144_11, gf_86_0, pf_86_0, gf_86_1, ar_50, al_50, gf_86_2, pf_86_2, gf_86_3, pf_86_3, gf_86_4, pf_86_4, gf_86_5, pf_86_5, gf_86_6, ar_51, al_51, gf_86_7, ar_52, al_52, gf_86_8, ar_53, al_53, gf_86_9, ar_54, al_54, gf_86_10, ar_55, al_55, gf_86_11, ar_56, al_56, gf_86_12, ar_57, al_57, gf_86_13, pf_86_13, gf_86_14, pf_86_14, gf_86_15, ar_58, al_58, gf_86_16, ar_59, al_59, gf_86_17, ar_60, al_60, gf_86_18, ar_61, al_61, gf_86_19, ar_62, al_62, gf_86_20, pf_86_20, gf_86_21, pf_86_21, gf_86_22, ar_63, al_63, gf_86_23, ar_64, al_64, gf_86_24, ar_65, al_65, gf_86_25, ar_66, al_66, gf_86_26, ar_67, al_67, gf_86_27, ar_68, al_68, gf_86_28, ar_69, al_69, gf_86_29, ar_70, al_70, gf_86_30, ar_71, al_71, gf_86_31, ar_72, al_72, gf_86_32, ar_73, al_73, gf_86_33, ar_74, al_74, gf_86_34, pf_86_34, eq_in, am_i2l_of]
    (repeat' (first | with_reducible apply And.intro | with_reducible intro _)) <;> first | omega | exact L1 (by omega) | exact L2 (by omega)
  by_cases V : 0 ≤ x ∧ x ≤ 99
  · by_cases g0 : h 78 1 = 0
    · have s1 : am_shl 1 (sg_G (sg_of h)) = 1 := by
        have f := (bt_full e1).2
        have z : am_shl 1 (sg_G (sg_of h)) - 1 = 0 := bt_ext (by omega) (by omega) (fun k k1 k2 => by rw [f k k1 k2, if_neg (by omega), bt_z])
        omega
      have K := mod h X0 (-9) (fun z => by omega) (fun _ => Or.inl ⟨rfl, fun w w1 w2 => by omega⟩)
      simp only [eq_self, and_self, am_up_at, Int.cast_ofNat_Int, Int.reduceNatCast, true_or, or_true, or_false, false_or, Classical.not_not, false_and, and_false, am_bk, am_step, am_ldI, am_ldL, am_ldA, am_nth, am_sto, am_stw_0, am_stw_i, am_stw_n, am_stw_a, am_stw_l, am_br, am_cmp, am_tk, am_cat, am_sw, am_copy, am_R, am_nc0, am_nc1, am_f0, am_f1, am_f2, am_f3, Int.reduceNeg, Int.reduceEq, Int.reduceLE, Int.reduceLT, Nat.reduceLeDiff, Nat.reduceAdd, Nat.reduceEqDiff, true_and, and_true, ↓reduceIte, if_false, if_true, forall_const, not_true_eq_false, not_false_eq_true, false_implies, true_implies, implies_true, Int.reduceAdd, Int.reduceMul, Int.reduceSub, ne_eq, ca_79_75, bl_79_0, bl_79_5, bl_79_7, gf_75_0, ar_0, al_0, gf_75_1, pf_75_1, gf_75_2, gf_75_3, gf_75_4, gf_75_5, gf_75_6, gf_75_7, gf_75_8, gf_75_9, gf_75_10, gf_78_0, pf_78_0, gf_78_1, pf_78_1, gf_78_2, ar_6, al_6, gf_78_3, ar_7, al_7, gf_78_4, ar_8, al_8, gf_78_5, ar_9, al_9, gf_78_6, ar_10, al_10]
      (repeat' (first | with_reducible apply And.intro | with_reducible intro _)) <;> first | omega | exact K
    · have K : am_Ex 79 13 [some (.inr (.inr (some 75))), some (.inl x)] [] h (fun o h1 => am_Call 144 [.inr (.inr (some 86)), .inl x] h1 (rg_post k o)) := by
        simp only [eq_self, and_self, am_up_at, Int.cast_ofNat_Int, Int.reduceNatCast, true_or, or_true, or_false, false_or, Classical.not_not, false_and, and_false, am_bk, am_step, am_ldI, am_ldL, am_ldA, am_nth, am_sto, am_stw_0, am_stw_i, am_stw_n, am_stw_a, am_stw_l, am_br, am_cmp, am_tk, am_cat, am_sw, am_copy, am_R, am_nc0, am_nc1, am_f0, am_f1, am_f2, am_f3, Int.reduceNeg, Int.reduceEq, Int.reduceLE, Int.reduceLT, Nat.reduceLeDiff, Nat.reduceAdd, Nat.reduceEqDiff, true_and, and_true, ↓reduceIte, if_false, if_true, forall_const, not_true_eq_false, not_false_eq_true, false_implies, true_implies, implies_true, Int.reduceAdd, Int.reduceMul, Int.reduceSub, ne_eq, ca_79_75, bl_79_13, gf_75_0, ar_0, al_0, gf_75_1, pf_75_1, gf_75_2, gf_75_3, gf_75_4, gf_75_5, gf_75_6, gf_75_7, gf_75_8, gf_75_9, gf_75_10]
        refine sp_lay0 hi hk (fun h1 y1 l10 l9 lc => ?_)
        simp only [eq_self, and_self, am_up_at, Int.cast_ofNat_Int, Int.reduceNatCast, true_or, or_true, or_false, false_or, Classical.not_not, false_and, and_false, am_bk, am_step, am_ldI, am_ldL, am_ldA, am_nth, am_sto, am_stw_0, am_stw_i, am_stw_n, am_stw_a, am_stw_l, am_br, am_cmp, am_tk, am_cat, am_sw, am_copy, am_R, am_nc0, am_nc1, am_f0, am_f1, am_f2, am_f3, Int.reduceNeg, Int.reduceEq, Int.reduceLE, Int.reduceLT, Nat.reduceLeDiff, Nat.reduceAdd, Nat.reduceEqDiff, true_and, and_true, ↓reduceIte, if_false, if_true, forall_const, not_true_eq_false, not_false_eq_true, false_implies, true_implies, implies_true, Int.reduceAdd, Int.reduceMul, Int.reduceSub, ne_eq, ca_79_75, bl_79_18, gf_75_0, ar_0, al_0, gf_75_1, pf_75_1, gf_75_2, gf_75_3, gf_75_4, gf_75_5, gf_75_6, gf_75_7, gf_75_8, gf_75_9, gf_75_10]
        refine sp_collect y1 V (fun h2 y2 f2 P2 => ?_)
        have X : xd h h2 k := xd_of hi y2 (by rw [f2 83 (by omega) (by omega) (by omega) (by omega) (by omega)]; omega) (by rw [f2 83 (by omega) (by omega) (by omega) (by omega) (by omega)]; exact l9) (cx_x (fun c c1 c2 c3 c4 c5 c6 c7 c8 => (f2 c c3 c4 c5 c7 c8).trans (lc c c1 c2)))
        simp only [eq_self, and_self, am_up_at, Int.cast_ofNat_Int, Int.reduceNatCast, true_or, or_true, or_false, false_or, Classical.not_not, false_and, and_false, am_bk, am_step, am_ldI, am_ldL, am_ldA, am_nth, am_sto, am_stw_0, am_stw_i, am_stw_n, am_stw_a, am_stw_l, am_br, am_cmp, am_tk, am_cat, am_sw, am_copy, am_R, am_nc0, am_nc1, am_f0, am_f1, am_f2, am_f3, Int.reduceNeg, Int.reduceEq, Int.reduceLE, Int.reduceLT, Nat.reduceLeDiff, Nat.reduceAdd, Nat.reduceEqDiff, true_and, and_true, ↓reduceIte, if_false, if_true, forall_const, not_true_eq_false, not_false_eq_true, false_implies, true_implies, implies_true, Int.reduceAdd, Int.reduceMul, Int.reduceSub, ne_eq, ca_79_75, bl_79_22, gf_75_0, ar_0, al_0, gf_75_1, pf_75_1, gf_75_2, gf_75_3, gf_75_4, gf_75_5, gf_75_6, gf_75_7, gf_75_8, gf_75_9, gf_75_10]
        refine sp_fwp y2 P2 (fun b hb => ?_)
        have K := mod h2 X b (fun z => absurd V z) (fun _ => hb)
        simp only [eq_self, and_self, am_up_at, Int.cast_ofNat_Int, Int.reduceNatCast, true_or, or_true, or_false, false_or, Classical.not_not, false_and, and_false, am_bk, am_step, am_ldI, am_ldL, am_ldA, am_nth, am_sto, am_stw_0, am_stw_i, am_stw_n, am_stw_a, am_stw_l, am_br, am_cmp, am_tk, am_cat, am_sw, am_copy, am_R, am_nc0, am_nc1, am_f0, am_f1, am_f2, am_f3, Int.reduceNeg, Int.reduceEq, Int.reduceLE, Int.reduceLT, Nat.reduceLeDiff, Nat.reduceAdd, Nat.reduceEqDiff, true_and, and_true, ↓reduceIte, if_false, if_true, forall_const, not_true_eq_false, not_false_eq_true, false_implies, true_implies, implies_true, Int.reduceAdd, Int.reduceMul, Int.reduceSub, ne_eq, ca_79_75, bl_79_25, gf_75_0, ar_0, al_0, gf_75_1, pf_75_1, gf_75_2, gf_75_3, gf_75_4, gf_75_5, gf_75_6, gf_75_7, gf_75_8, gf_75_9, gf_75_10]
        exact K
      simp only [eq_self, and_self, am_up_at, Int.cast_ofNat_Int, Int.reduceNatCast, true_or, or_true, or_false, false_or, Classical.not_not, false_and, and_false, am_bk, am_step, am_ldI, am_ldL, am_ldA, am_nth, am_sto, am_stw_0, am_stw_i, am_stw_n, am_stw_a, am_stw_l, am_br, am_cmp, am_tk, am_cat, am_sw, am_copy, am_R, am_nc0, am_nc1, am_f0, am_f1, am_f2, am_f3, Int.reduceNeg, Int.reduceEq, Int.reduceLE, Int.reduceLT, Nat.reduceLeDiff, Nat.reduceAdd, Nat.reduceEqDiff, true_and, and_true, ↓reduceIte, if_false, if_true, forall_const, not_true_eq_false, not_false_eq_true, false_implies, true_implies, implies_true, Int.reduceAdd, Int.reduceMul, Int.reduceSub, ne_eq, ca_79_75, bl_79_0, bl_79_5, bl_79_7, gf_75_0, ar_0, al_0, gf_75_1, pf_75_1, gf_75_2, gf_75_3, gf_75_4, gf_75_5, gf_75_6, gf_75_7, gf_75_8, gf_75_9, gf_75_10, gf_78_0, pf_78_0, gf_78_1, pf_78_1, gf_78_2, ar_6, al_6, gf_78_3, ar_7, al_7, gf_78_4, ar_8, al_8, gf_78_5, ar_9, al_9, gf_78_6, ar_10, al_10]
      (repeat' (first | with_reducible apply And.intro | with_reducible intro _)) <;> first | omega | exact K
  · have K := mod h X0 (-2) (fun _ => rfl) (fun z => absurd z V)
    simp only [eq_self, and_self, am_up_at, Int.cast_ofNat_Int, Int.reduceNatCast, true_or, or_true, or_false, false_or, Classical.not_not, false_and, and_false, am_bk, am_step, am_ldI, am_ldL, am_ldA, am_nth, am_sto, am_stw_0, am_stw_i, am_stw_n, am_stw_a, am_stw_l, am_br, am_cmp, am_tk, am_cat, am_sw, am_copy, am_R, am_nc0, am_nc1, am_f0, am_f1, am_f2, am_f3, Int.reduceNeg, Int.reduceEq, Int.reduceLE, Int.reduceLT, Nat.reduceLeDiff, Nat.reduceAdd, Nat.reduceEqDiff, true_and, and_true, ↓reduceIte, if_false, if_true, forall_const, not_true_eq_false, not_false_eq_true, false_implies, true_implies, implies_true, Int.reduceAdd, Int.reduceMul, Int.reduceSub, ne_eq, ca_79_75, bl_79_0, bl_79_5, gf_75_0, ar_0, al_0, gf_75_1, pf_75_1, gf_75_2, gf_75_3, gf_75_4, gf_75_5, gf_75_6, gf_75_7, gf_75_8, gf_75_9, gf_75_10, gf_78_0, pf_78_0, gf_78_1, pf_78_1, gf_78_2, ar_6, al_6, gf_78_3, ar_7, al_7, gf_78_4, ar_8, al_8, gf_78_5, ar_9, al_9, gf_78_6, ar_10, al_10]
    (repeat' (first | with_reducible apply And.intro | with_reducible intro _)) <;> first | omega | exact K
