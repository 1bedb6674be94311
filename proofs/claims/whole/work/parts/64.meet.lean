/-! meet -/
def mt (S : sg_S) (w t : Int) : Prop := ∀ g e, (0 ≤ g ∧ g < sg_G S) → (0 ≤ e ∧ e < sg_G S) → bt w g = 1 → bt w e = 1 → sg_at S g t = sg_at S e t
theorem mt_p {S : sg_S} (hS : sg_ok S) (hF : tb_fit S) {w t m : Int} (h1 : tb_st S ≤ t) (h2 : tb_st S ≤ t + sg_U S * m) : mt S w (t + sg_U S * m) ↔ mt S w t := by
  constructor
  · intro q g e hg he b1 b2
    rw [← sg_at_p hS hF hg h1 h2, ← sg_at_p hS hF he h1 h2]
    exact q g e hg he b1 b2
  · intro q g e hg he b1 b2
    rw [sg_at_p hS hF hg h1 h2, sg_at_p hS hF he h1 h2]
    exact q g e hg he b1 b2
/-- all of the set before x are at p; N: none yet -/
def mp (N : Int) (S : sg_S) (w t x p : Int) : Prop := (p = N ∧ ∀ g, 0 ≤ g → g < x → bt w g ≠ 1) ∨ ((0 ≤ p ∧ p < sg_U S) ∧ (∃ g, (0 ≤ g ∧ g < x) ∧ bt w g = 1) ∧ ∀ g, 0 ≤ g → g < x → bt w g = 1 → sg_at S g t = p)
theorem mp_s {N : Int} {S : sg_S} {w t x p : Int} (hS : sg_ok S) (hN : N < 0) (hx : 0 ≤ x ∧ x < sg_G S) (h : mp N S w t x p) : (bt w x ≠ 1 → mp N S w t (x + 1) p) ∧ (bt w x = 1 → (p = N ∨ sg_at S x t = p) → mp N S w t (x + 1) (sg_at S x t)) ∧ (bt w x = 1 → ¬ (p = N ∨ sg_at S x t = p) → ¬ mt S w t) := by
  have r := sg_at_r hS x t
  refine ⟨fun q => ?_, fun q z => Or.inr ⟨r, ⟨x, by omega, q⟩, fun g g1 g2 g3 => ?_⟩, fun q z m => ?_⟩
  · rcases h with ⟨a1, a2⟩ | ⟨a1, ⟨g, a2, a3⟩, a4⟩
    · refine Or.inl ⟨a1, fun g g1 g2 => ?_⟩
      by_cases c : g = x
      · rw [c]; exact q
      · exact a2 g g1 (by omega)
    · refine Or.inr ⟨a1, ⟨g, by omega, a3⟩, fun e e1 e2 e3 => ?_⟩
      by_cases c : e = x
      · rw [c] at e3; exact absurd e3 q
      · exact a4 e e1 (by omega) e3
  · by_cases c : g = x
    · rw [c]
    · rcases h with ⟨a1, a2⟩ | ⟨a1, a2, a4⟩
      · exact absurd g3 (a2 g g1 (by omega))
      · rw [a4 g g1 (by omega) g3]
        rcases z with z | z
        · omega
        · exact z.symm
  · rcases h with ⟨a1, a2⟩ | ⟨a1, ⟨g, a2, a3⟩, a4⟩
    · exact z (Or.inl a1)
    · have e := m g x (by omega) hx a3 q
      rw [a4 g a2.1 a2.2 a3] at e
      exact z (Or.inr e.symm)
theorem mp_end {N : Int} {S : sg_S} {w t p : Int} (h : mp N S w t (sg_G S) p) : mt S w t := by
  intro g e hg he b1 b2
  rcases h with ⟨a1, a2⟩ | ⟨a1, a2, a4⟩
  · exact absurd b1 (a2 g hg.1 hg.2)
  · rw [a4 g hg.1 hg.2 b1, a4 e he.1 he.2 b2]
set_option maxHeartbeats 400000 in
set_option maxRecDepth 100000 in
theorem lp_aop {S : sg_S} {w t i : Int} {h : am_H} {Q : am_P} (hy : ty_ok h S) (hw : 0 ≤ w ∧ w ≤ 255) (ht : 0 ≤ t ∧ t ≤ 100000) (hi : i = tb_fo S t) (Y : mt S w t → Q (some (.inl 1)) h) (N : ¬ mt S w t → Q (some (.inl 0)) h) :
    ∀ (m : Nat) (g p : Int), 0 ≤ g → g + m = sg_G S → mp (-1) S w t g p → am_Ex 32 8 [some (.inr (.inr (some 83))), some (.inl w), some (.inl t), some (.inl i), some (.inl p), some (.inl g), none] [] h Q := by
  intro m
  obtain ⟨hS, hF, hT, hP, hR, hL, hok, hrg⟩ := id hy
  have hG := hS.2.1
  have hU := hS.1
  have p1 := hP.2.1
  have fr := tb_fo_r hS hF ht.1
  have st := (tb_st_r hS hF).1
  induction m with
  | zero =>
    intro g p g0 g1 I
    have eg : g = sg_G S := by omega
    subst eg
    have K := Y (mp_end I)
    rw [bl_32_8]
    simp only [eq_self, and_self, am_up_at, Int.cast_ofNat_Int, Int.reduceNatCast, true_or, or_true, or_false, false_or, Classical.not_not, false_and, and_false, am_bk, am_step, am_ldI, am_ldL, am_ldA, am_nth, am_sto, am_stw_0, am_stw_i, am_stw_n, am_stw_a, am_stw_l, am_br, am_cmp, am_tk, am_cat, am_sw, am_copy, am_R, am_nc0, am_nc1, am_f0, am_f1, am_f2, am_f3, Int.reduceNeg, Int.reduceEq, Int.reduceLE, Int.reduceLT, Nat.reduceLeDiff, Nat.reduceAdd, Nat.reduceEqDiff, true_and, and_true, ↓reduceIte, if_false, if_true, forall_const, not_true_eq_false, not_false_eq_true, false_implies, true_implies, implies_true, Int.reduceAdd, Int.reduceMul, Int.reduceSub, ne_eq, ca_32_83, bl_32_35, gf_83_0, gf_83_1, ar_35, al_35, gf_83_2, ar_36, al_36, gf_83_3, ar_37, al_37, gf_83_4, ar_38, al_38, gf_83_5, ar_39, al_39, gf_83_6, ar_40, al_40, gf_83_7, ar_41, al_41, gf_83_8, ar_42, al_42, gf_83_9, pf_83_9, gf_83_10, pf_83_10, gf_83_11, pf_83_11, gf_83_12, pf_83_12, gf_78_0, pf_78_0, gf_78_1, pf_78_1, gf_78_2, ar_6, al_6, gf_78_3, ar_7, al_7, gf_78_4, ar_8, al_8, gf_78_5, ar_9, al_9, gf_78_6, ar_10, al_10, p1]
    (repeat' (first | with_reducible apply And.intro | with_reducible intro _)) <;> first | omega | exact K
  | succ m ih =>
    intro g p g0 g1 I
    have pr : p = -1 ∨ (0 ≤ p ∧ p < sg_U S) := by
      rcases I with q | q
      · exact Or.inl q.1
      · exact Or.inr q.1
    have b := bt_shr (x := w) (g := g) hw (by omega)
    have b01 := bt_01 w g
    have s := mp_s hS (by omega) (show 0 ≤ g ∧ g < sg_G S by omega) I
    have ar := sg_at_r hS g t
    have af := sg_at_f hS hF (show 0 ≤ g ∧ g < sg_G S by omega) ht.1
    rw [← hi] at af
    have K0 : bt w g ≠ 1 → am_Ex 32 8 [some (.inr (.inr (some 83))), some (.inl w), some (.inl t), some (.inl i), some (.inl p), some (.inl (g + 1)), none] [] h Q := fun q => ih (g + 1) p (by omega) (by omega) (s.1 q)
    have K1 : bt w g = 1 → am_Ex 32 23 [some (.inr (.inr (some 83))), some (.inl w), some (.inl t), some (.inl i), some (.inl p), some (.inl g), none] [.inl (sg_at S g i)] h Q := by
      intro q
      rw [af]
      have Ka : p = -1 ∨ sg_at S g t = p → am_Ex 32 8 [some (.inr (.inr (some 83))), some (.inl w), some (.inl t), some (.inl i), some (.inl (sg_at S g t)), some (.inl (g + 1)), none] [] h Q := fun z => ih (g + 1) _ (by omega) (by omega) (s.2.1 q z)
      have Kb : ¬ (p = -1 ∨ sg_at S g t = p) → Q (some (.inl 0)) h := fun z => N (s.2.2 q z)
      simp only [eq_self, and_self, am_up_at, Int.cast_ofNat_Int, Int.reduceNatCast, true_or, or_true, or_false, false_or, Classical.not_not, false_and, and_false, am_bk, am_step, am_ldI, am_ldL, am_ldA, am_nth, am_sto, am_stw_0, am_stw_i, am_stw_n, am_stw_a, am_stw_l, am_br, am_cmp, am_tk, am_cat, am_sw, am_copy, am_R, am_nc0, am_nc1, am_f0, am_f1, am_f2, am_f3, Int.reduceNeg, Int.reduceEq, Int.reduceLE, Int.reduceLT, Nat.reduceLeDiff, Nat.reduceAdd, Nat.reduceEqDiff, true_and, and_true, ↓reduceIte, if_false, if_true, forall_const, not_true_eq_false, not_false_eq_true, false_implies, true_implies, implies_true, Int.reduceAdd, Int.reduceMul, Int.reduceSub, ne_eq, ca_32_83, bl_32_23, bl_32_31, bl_32_33, gf_83_0, gf_83_1, ar_35, al_35, gf_83_2, ar_36, al_36, gf_83_3, ar_37, al_37, gf_83_4, ar_38, al_38, gf_83_5, ar_39, al_39, gf_83_6, ar_40, al_40, gf_83_7, ar_41, al_41, gf_83_8, ar_42, al_42, gf_83_9, pf_83_9, gf_83_10, pf_83_10, gf_83_11, pf_83_11, gf_83_12, pf_83_12]
      (repeat' (first | with_reducible apply And.intro | with_reducible intro _)) <;> first | omega | exact am_forget (Ka (by omega)) (by simp [am_lq]) | exact Kb (by omega)
    rw [bl_32_8]
    simp only [eq_self, and_self, am_up_at, Int.cast_ofNat_Int, Int.reduceNatCast, true_or, or_true, or_false, false_or, Classical.not_not, false_and, and_false, am_bk, am_step, am_ldI, am_ldL, am_ldA, am_nth, am_sto, am_stw_0, am_stw_i, am_stw_n, am_stw_a, am_stw_l, am_br, am_cmp, am_tk, am_cat, am_sw, am_copy, am_R, am_nc0, am_nc1, am_f0, am_f1, am_f2, am_f3, Int.reduceNeg, Int.reduceEq, Int.reduceLE, Int.reduceLT, Nat.reduceLeDiff, Nat.reduceAdd, Nat.reduceEqDiff, true_and, and_true, ↓reduceIte, if_false, if_true, forall_const, not_true_eq_false, not_false_eq_true, false_implies, true_implies, implies_true, Int.reduceAdd, Int.reduceMul, Int.reduceSub, ne_eq, ca_32_83, bl_32_13, bl_32_33, gf_83_0, gf_83_1, ar_35, al_35, gf_83_2, ar_36, al_36, gf_83_3, ar_37, al_37, gf_83_4, ar_38, al_38, gf_83_5, ar_39, al_39, gf_83_6, ar_40, al_40, gf_83_7, ar_41, al_41, gf_83_8, ar_42, al_42, gf_83_9, pf_83_9, gf_83_10, pf_83_10, gf_83_11, pf_83_11, gf_83_12, pf_83_12, gf_78_0, pf_78_0, gf_78_1, pf_78_1, gf_78_2, ar_6, al_6, gf_78_3, ar_7, al_7, gf_78_4, ar_8, al_8, gf_78_5, ar_9, al_9, gf_78_6, ar_10, al_10, p1, b]
    (repeat' (first | with_reducible apply And.intro | with_reducible intro _)) <;> first | omega | exact K0 (by omega) | exact sp_placeAt hS hF hT hP (by omega) (by omega) (K1 (by omega))
set_option maxHeartbeats 400000 in
set_option maxRecDepth 100000 in
theorem sp_aop {S : sg_S} {w t : Int} {h : am_H} {Q : am_P} (hy : ty_ok h S) (hw : 0 ≤ w ∧ w ≤ 255) (ht : 0 ≤ t ∧ t ≤ 100000) (Y : mt S w t → Q (some (.inl 1)) h) (N : ¬ mt S w t → Q (some (.inl 0)) h) : am_Call 32 [.inr (.inr (some 83)), .inl w, .inl t] h Q := by
  have hG := hy.1.2.1
  have K := lp_aop hy hw ht rfl Y N (sg_G S).toNat 0 (-1) (by omega) (by omega) (Or.inl ⟨rfl, fun g g1 g2 => by omega⟩)
  have K2 : am_Ex 32 3 [some (.inr (.inr (some 83))), some (.inl w), some (.inl t), none, none, none, none] [.inl (tb_fo S t)] h Q := by
    simp only [eq_self, and_self, am_up_at, Int.cast_ofNat_Int, Int.reduceNatCast, true_or, or_true, or_false, false_or, Classical.not_not, false_and, and_false, am_bk, am_step, am_ldI, am_ldL, am_ldA, am_nth, am_sto, am_stw_0, am_stw_i, am_stw_n, am_stw_a, am_stw_l, am_br, am_cmp, am_tk, am_cat, am_sw, am_copy, am_R, am_nc0, am_nc1, am_f0, am_f1, am_f2, am_f3, Int.reduceNeg, Int.reduceEq, Int.reduceLE, Int.reduceLT, Nat.reduceLeDiff, Nat.reduceAdd, Nat.reduceEqDiff, true_and, and_true, ↓reduceIte, if_false, if_true, forall_const, not_true_eq_false, not_false_eq_true, false_implies, true_implies, implies_true, Int.reduceAdd, Int.reduceMul, Int.reduceSub, ne_eq, ca_32_83, bl_32_3, gf_83_0, gf_83_1, ar_35, al_35, gf_83_2, ar_36, al_36, gf_83_3, ar_37, al_37, gf_83_4, ar_38, al_38, gf_83_5, ar_39, al_39, gf_83_6, ar_40, al_40, gf_83_7, ar_41, al_41, gf_83_8, ar_42, al_42, gf_83_9, pf_83_9, gf_83_10, pf_83_10, gf_83_11, pf_83_11, gf_83_12, pf_83_12]
    exact K
  simp only [eq_self, and_self, am_up_at, Int.cast_ofNat_Int, Int.reduceNatCast, true_or, or_true, or_false, false_or, Classical.not_not, false_and, and_false, am_bk, am_step, am_ldI, am_ldL, am_ldA, am_nth, am_sto, am_stw_0, am_stw_i, am_stw_n, am_stw_a, am_stw_l, am_br, am_cmp, am_tk, am_cat, am_sw, am_copy, am_R, am_nc0, am_nc1, am_f0, am_f1, am_f2, am_f3, Int.reduceNeg, Int.reduceEq, Int.reduceLE, Int.reduceLT, Nat.reduceLeDiff, Nat.reduceAdd, Nat.reduceEqDiff, true_and, and_true, ↓reduceIte, if_false, if_true, forall_const, not_true_eq_false, not_false_eq_true, false_implies, true_implies, implies_true, Int.reduceAdd, Int.reduceMul, Int.reduceSub, ne_eq, ca_32_83, bl_32_0, gf_83_0, gf_83_1, ar_35, al_35, gf_83_2, ar_36, al_36, gf_83_3, ar_37, al_37, gf_83_4, ar_38, al_38, gf_83_5, ar_39, al_39, gf_83_6, ar_40, al_40, gf_83_7, ar_41, al_41, gf_83_8, ar_42, al_42, gf_83_9, pf_83_9, gf_83_10, pf_83_10, gf_83_11, pf_83_11, gf_83_12, pf_83_12]
  exact sp_fold hy.1 hy.2.1 hy.2.2.1 ht K2
/-! the reference -/
set_option maxHeartbeats 400000 in
set_option maxRecDepth 100000 in
theorem lp_mts {S : sg_S} {w t : Int} {h : am_H} {Q : am_P} (hm : sg_of h = S) (hS : sg_ok S) (hw : 0 ≤ w ∧ w ≤ 255) (ht : 0 ≤ t ∧ t ≤ 100000) (Y : mt S w t → Q (some (.inl 1)) h) (N : ¬ mt S w t → Q (some (.inl 0)) h) :
    ∀ (m : Nat) (g p i : Int), 0 ≤ g → g + m = sg_G S → (p = -9 ∨ (0 ≤ p ∧ p < sg_U S)) → ((i = 1 ∧ mp (-9) S w t g p) ∨ (i = 0 ∧ ¬ mt S w t)) → am_Ex 130 6 [some (.inr (.inr (some 86))), some (.inl w), some (.inl t), some (.inl p), some (.inl i), some (.inl g)] [] h Q := by
  intro m
  subst hm
  have hG := hS.2.1
  have hU := hS.1
  have e5 : h 86 5 = sg_G (sg_of h) := rfl
  induction m with
  | zero =>
    intro g p i g0 g1 pr I
    have eg : g = sg_G (sg_of h) := by omega
    subst eg
    have K : Q (some (.inl i)) h := by
      rcases I with ⟨a, b⟩ | ⟨a, b⟩
      · rw [a]; exact Y (mp_end b)
      · rw [a]; exact N b
    rw [bl_130_6]
    simp only [eq_self, and_self, am_up_at, Int.cast_ofNat_Int, Int.reduceNatCast, true_or, or_true, or_false, false_or, Classical.not_not, false_and, and_false, am_bk, am_step, am_ldI, am_ldL, am_ldA, am_nth, am_sto, am_stw_0, am_stw_i, am_stw_n, am_stw_a, am_stw_l, am_br, am_cmp, am_tk, am_cat, am_sw, am_copy, am_R, am_nc0, am_nc1, am_f0, am_f1, am_f2, am_f3, Int.reduceNeg, Int.reduceEq, Int.reduceLE, Int.reduceLT, Nat.reduceLeDiff, Nat.reduceAdd, Nat.reduceEqDiff, true_and, and_true, ↓reduceIte, if_false, if_true, forall_const, not_true_eq_false, not_false_eq_true, false_implies, true_implies, implies_true, Int.reduceAdd, Int.reduceMul, Int.reduceSub, ne_eq, ca_130_86, bl_130_36, gf_86_0, pf_86_0, gf_86_1, ar_50, al_50, gf_86_2, pf_86_2, gf_86_3, pf_86_3, gf_86_4, pf_86_4, gf_86_5, pf_86_5, gf_86_6, ar_51, al_51, gf_86_7, ar_52, al_52, gf_86_8, ar_53, al_53, gf_86_9, ar_54, al_54, gf_86_10, ar_55, al_55, gf_86_11, ar_56, al_56, gf_86_12, ar_57, al_57, gf_86_13, pf_86_13, gf_86_14, pf_86_14, gf_86_15, ar_58, al_58, gf_86_16, ar_59, al_59, gf_86_17, ar_60, al_60, gf_86_18, ar_61, al_61, gf_86_19, ar_62, al_62, gf_86_20, pf_86_20, gf_86_21, pf_86_21, gf_86_22, ar_63, al_63, gf_86_23, ar_64, al_64, gf_86_24, ar_65, al_65, gf_86_25, ar_66, al_66, gf_86_26, ar_67, al_67, gf_86_27, ar_68, al_68, gf_86_28, ar_69, al_69, gf_86_29, ar_70, al_70, gf_86_30, ar_71, al_71, gf_86_31, ar_72, al_72, gf_86_32, ar_73, al_73, gf_86_33, ar_74, al_74, gf_86_34, pf_86_34, e5]
    (repeat' (first | with_reducible apply And.intro | with_reducible intro _)) <;> first | omega | exact K
  | succ m ih =>
    intro g p i g0 g1 pr I
    have b01 := bt_01 w g
    have hg : 0 ≤ g ∧ g < sg_G (sg_of h) := by omega
    have ar := sg_at_r hS g t
    have K0 : bt w g ≠ 1 → am_Ex 130 6 [some (.inr (.inr (some 86))), some (.inl w), some (.inl t), some (.inl p), some (.inl i), some (.inl (g + 1))] [] h Q := fun q => ih (g + 1) p i (by omega) (by omega) pr (by
      rcases I with ⟨a, b⟩ | ⟨a, b⟩
      · exact Or.inl ⟨a, (mp_s hS (by omega) hg b).1 q⟩
      · exact Or.inr ⟨a, b⟩)
    have fin : ∀ v, ((v = 1 ∧ mp (-9) (sg_of h) w t (g + 1) (sg_at (sg_of h) g t)) ∨ (v = 0 ∧ ¬ mt (sg_of h) w t)) → am_Ex 130 28 [some (.inr (.inr (some 86))), some (.inl w), some (.inl t), some (.inl p), some (.inl i), some (.inl g)] [.inl v] h Q := by
      intro v hv
      have K := ih (g + 1) (sg_at (sg_of h) g t) v (by omega) (by omega) (by omega) hv
      have K2 : am_Ex 130 33 [some (.inr (.inr (some 86))), some (.inl w), some (.inl t), some (.inl p), some (.inl v), some (.inl g)] [.inl (sg_at (sg_of h) g t)] h Q := by
        simp only [eq_self, and_self, am_up_at, Int.cast_ofNat_Int, Int.reduceNatCast, true_or, or_true, or_false, false_or, Classical.not_not, false_and, and_false, am_bk, am_step, am_ldI, am_ldL, am_ldA, am_nth, am_sto, am_stw_0, am_stw_i, am_stw_n, am_stw_a, am_stw_l, am_br, am_cmp, am_tk, am_cat, am_sw, am_copy, am_R, am_nc0, am_nc1, am_f0, am_f1, am_f2, am_f3, Int.reduceNeg, Int.reduceEq, Int.reduceLE, Int.reduceLT, Nat.reduceLeDiff, Nat.reduceAdd, Nat.reduceEqDiff, true_and, and_true, ↓reduceIte, if_false, if_true, forall_const, not_true_eq_false, not_false_eq_true, false_implies, true_implies, implies_true, Int.reduceAdd, Int.reduceMul, Int.reduceSub, ne_eq, ca_130_86, bl_130_33, bl_130_34, gf_86_0, pf_86_0, gf_86_1, ar_50, al_50, gf_86_2, pf_86_2, gf_86_3, pf_86_3, gf_86_4, pf_86_4, gf_86_5, pf_86_5, gf_86_6, ar_51, al_51, gf_86_7, ar_52, al_52, gf_86_8, ar_53, al_53, gf_86_9, ar_54, al_54, gf_86_10, ar_55, al_55, gf_86_11, ar_56, al_56, gf_86_12, ar_57, al_57, gf_86_13, pf_86_13, gf_86_14, pf_86_14, gf_86_15, ar_58, al_58, gf_86_16, ar_59, al_59, gf_86_17, ar_60, al_60, gf_86_18, ar_61, al_61, gf_86_19, ar_62, al_62, gf_86_20, pf_86_20, gf_86_21, pf_86_21, gf_86_22, ar_63, al_63, gf_86_23, ar_64, al_64, gf_86_24, ar_65, al_65, gf_86_25, ar_66, al_66, gf_86_26, ar_67, al_67, gf_86_27, ar_68, al_68, gf_86_28, ar_69, al_69, gf_86_29, ar_70, al_70, gf_86_30, ar_71, al_71, gf_86_31, ar_72, al_72, gf_86_32, ar_73, al_73, gf_86_33, ar_74, al_74, gf_86_34, pf_86_34]
        (repeat' (first | with_reducible apply And.intro | with_reducible intro _)) <;> first | omega | exact K
      simp only [eq_self, and_self, am_up_at, Int.cast_ofNat_Int, Int.reduceNatCast, true_or, or_true, or_false, false_or, Classical.not_not, false_and, and_false, am_bk, am_step, am_ldI, am_ldL, am_ldA, am_nth, am_sto, am_stw_0, am_stw_i, am_stw_n, am_stw_a, am_stw_l, am_br, am_cmp, am_tk, am_cat, am_sw, am_copy, am_R, am_nc0, am_nc1, am_f0, am_f1, am_f2, am_f3, Int.reduceNeg, Int.reduceEq, Int.reduceLE, Int.reduceLT, Nat.reduceLeDiff, Nat.reduceAdd, Nat.reduceEqDiff, true_and, and_true, ↓reduceIte, if_false, if_true, forall_const, not_true_eq_false, not_false_eq_true, false_implies, true_implies, implies_true, Int.reduceAdd, Int.reduceMul, Int.reduceSub, ne_eq, ca_130_86, bl_130_28, gf_86_0, pf_86_0, gf_86_1, ar_50, al_50, gf_86_2, pf_86_2, gf_86_3, pf_86_3, gf_86_4, pf_86_4, gf_86_5, pf_86_5, gf_86_6, ar_51, al_51, gf_86_7, ar_52, al_52, gf_86_8, ar_53, al_53, gf_86_9, ar_54, al_54, gf_86_10, ar_55, al_55, gf_86_11, ar_56, al_56, gf_86_12, ar_57, al_57, gf_86_13, pf_86_13, gf_86_14, pf_86_14, gf_86_15, ar_58, al_58, gf_86_16, ar_59, al_59, gf_86_17, ar_60, al_60, gf_86_18, ar_61, al_61, gf_86_19, ar_62, al_62, gf_86_20, pf_86_20, gf_86_21, pf_86_21, gf_86_22, ar_63, al_63, gf_86_23, ar_64, al_64, gf_86_24, ar_65, al_65, gf_86_25, ar_66, al_66, gf_86_26, ar_67, al_67, gf_86_27, ar_68, al_68, gf_86_28, ar_69, al_69, gf_86_29, ar_70, al_70, gf_86_30, ar_71, al_71, gf_86_31, ar_72, al_72, gf_86_32, ar_73, al_73, gf_86_33, ar_74, al_74, gf_86_34, pf_86_34]
      exact sp_spotAt hS hg ht K2
    have Kz : bt w g = 1 → i = 1 → p ≠ -9 → am_Ex 130 23 [some (.inr (.inr (some 86))), some (.inl w), some (.inl t), some (.inl p), some (.inl i), some (.inl g)] [.inl (sg_at (sg_of h) g t)] h Q := by
      intro q i1 pn
      have b : mp (-9) (sg_of h) w t g p := by rcases I with z | z <;> first | omega | exact z.2
      have s := mp_s hS (by omega) hg b
      have Ka := fun z => fin 1 (Or.inl ⟨rfl, s.2.1 q (Or.inr z)⟩)
      have Kb := fun (z : ¬ sg_at (sg_of h) g t = p) => fin 0 (Or.inr ⟨rfl, s.2.2 q (by omega)⟩)
      simp only [eq_self, and_self, am_up_at, Int.cast_ofNat_Int, Int.reduceNatCast, true_or, or_true, or_false, false_or, Classical.not_not, false_and, and_false, am_bk, am_step, am_ldI, am_ldL, am_ldA, am_nth, am_sto, am_stw_0, am_stw_i, am_stw_n, am_stw_a, am_stw_l, am_br, am_cmp, am_tk, am_cat, am_sw, am_copy, am_R, am_nc0, am_nc1, am_f0, am_f1, am_f2, am_f3, Int.reduceNeg, Int.reduceEq, Int.reduceLE, Int.reduceLT, Nat.reduceLeDiff, Nat.reduceAdd, Nat.reduceEqDiff, true_and, and_true, ↓reduceIte, if_false, if_true, forall_const, not_true_eq_false, not_false_eq_true, false_implies, true_implies, implies_true, Int.reduceAdd, Int.reduceMul, Int.reduceSub, ne_eq, ca_130_86, bl_130_23, bl_130_25, bl_130_27, gf_86_0, pf_86_0, gf_86_1, ar_50, al_50, gf_86_2, pf_86_2, gf_86_3, pf_86_3, gf_86_4, pf_86_4, gf_86_5, pf_86_5, gf_86_6, ar_51, al_51, gf_86_7, ar_52, al_52, gf_86_8, ar_53, al_53, gf_86_9, ar_54, al_54, gf_86_10, ar_55, al_55, gf_86_11, ar_56, al_56, gf_86_12, ar_57, al_57, gf_86_13, pf_86_13, gf_86_14, pf_86_14, gf_86_15, ar_58, al_58, gf_86_16, ar_59, al_59, gf_86_17, ar_60, al_60, gf_86_18, ar_61, al_61, gf_86_19, ar_62, al_62, gf_86_20, pf_86_20, gf_86_21, pf_86_21, gf_86_22, ar_63, al_63, gf_86_23, ar_64, al_64, gf_86_24, ar_65, al_65, gf_86_25, ar_66, al_66, gf_86_26, ar_67, al_67, gf_86_27, ar_68, al_68, gf_86_28, ar_69, al_69, gf_86_29, ar_70, al_70, gf_86_30, ar_71, al_71, gf_86_31, ar_72, al_72, gf_86_32, ar_73, al_73, gf_86_33, ar_74, al_74, gf_86_34, pf_86_34]
      (repeat' (first | with_reducible apply And.intro | with_reducible intro _)) <;> first | omega | exact Ka (by assumption) | exact Kb (by assumption)
    have Ky : bt w g = 1 → i = 1 → p = -9 → am_Ex 130 28 [some (.inr (.inr (some 86))), some (.inl w), some (.inl t), some (.inl p), some (.inl i), some (.inl g)] [.inl 1] h Q := by
      intro q i1 pn
      have b : mp (-9) (sg_of h) w t g p := by rcases I with z | z <;> first | omega | exact z.2
      exact fin 1 (Or.inl ⟨rfl, (mp_s hS (by omega) hg b).2.1 q (Or.inl pn)⟩)
    have Kx : i = 0 → am_Ex 130 28 [some (.inr (.inr (some 86))), some (.inl w), some (.inl t), some (.inl p), some (.inl i), some (.inl g)] [.inl 0] h Q := by
      intro i0
      rcases I with z | z
      · omega
      · exact fin 0 (Or.inr ⟨rfl, z.2⟩)
    have ir : i = 0 ∨ i = 1 := by omega
    have K : am_Ex 130 13 [some (.inr (.inr (some 86))), some (.inl w), some (.inl t), some (.inl p), some (.inl i), some (.inl g)] [.inl (bt w g)] h Q := by
      simp only [eq_self, and_self, am_up_at, Int.cast_ofNat_Int, Int.reduceNatCast, true_or, or_true, or_false, false_or, Classical.not_not, false_and, and_false, am_bk, am_step, am_ldI, am_ldL, am_ldA, am_nth, am_sto, am_stw_0, am_stw_i, am_stw_n, am_stw_a, am_stw_l, am_br, am_cmp, am_tk, am_cat, am_sw, am_copy, am_R, am_nc0, am_nc1, am_f0, am_f1, am_f2, am_f3, Int.reduceNeg, Int.reduceEq, Int.reduceLE, Int.reduceLT, Nat.reduceLeDiff, Nat.reduceAdd, Nat.reduceEqDiff, true_and, and_true, ↓reduceIte, if_false, if_true, forall_const, not_true_eq_false, not_false_eq_true, false_implies, true_implies, implies_true, Int.reduceAdd, Int.reduceMul, Int.reduceSub, ne_eq, ca_130_86, bl_130_13, bl_130_25, bl_130_27, bl_130_34, gf_86_0, pf_86_0, gf_86_1, ar_50, al_50, gf_86_2, pf_86_2, gf_86_3, pf_86_3, gf_86_4, pf_86_4, gf_86_5, pf_86_5, gf_86_6, ar_51, al_51, gf_86_7, ar_52, al_52, gf_86_8, ar_53, al_53, gf_86_9, ar_54, al_54, gf_86_10, ar_55, al_55, gf_86_11, ar_56, al_56, gf_86_12, ar_57, al_57, gf_86_13, pf_86_13, gf_86_14, pf_86_14, gf_86_15, ar_58, al_58, gf_86_16, ar_59, al_59, gf_86_17, ar_60, al_60, gf_86_18, ar_61, al_61, gf_86_19, ar_62, al_62, gf_86_20, pf_86_20, gf_86_21, pf_86_21, gf_86_22, ar_63, al_63, gf_86_23, ar_64, al_64, gf_86_24, ar_65, al_65, gf_86_25, ar_66, al_66, gf_86_26, ar_67, al_67, gf_86_27, ar_68, al_68, gf_86_28, ar_69, al_69, gf_86_29, ar_70, al_70, gf_86_30, ar_71, al_71, gf_86_31, ar_72, al_72, gf_86_32, ar_73, al_73, gf_86_33, ar_74, al_74, gf_86_34, pf_86_34]
      (repeat' (first | with_reducible apply And.intro | with_reducible intro _)) <;> first | omega | exact K0 (by omega) | exact Kx (by omega) | exact Ky (by omega) (by omega) (by omega) | exact sp_spotAt hS hg ht (Kz (by omega) (by omega) (by omega))
    rw [bl_130_6]
    simp only [eq_self, and_self, am_up_at, Int.cast_ofNat_Int, Int.reduceNatCast, true_or, or_true, or_false, false_or, Classical.not_not, false_and, and_false, am_bk, am_step, am_ldI, am_ldL, am_ldA, am_nth, am_sto, am_stw_0, am_stw_i, am_stw_n, am_stw_a, am_stw_l, am_br, am_cmp, am_tk, am_cat, am_sw, am_copy, am_R, am_nc0, am_nc1, am_f0, am_f1, am_f2, am_f3, Int.reduceNeg, Int.reduceEq, Int.reduceLE, Int.reduceLT, Nat.reduceLeDiff, Nat.reduceAdd, Nat.reduceEqDiff, true_and, and_true, ↓reduceIte, if_false, if_true, forall_const, not_true_eq_false, not_false_eq_true, false_implies, true_implies, implies_true, Int.reduceAdd, Int.reduceMul, Int.reduceSub, ne_eq, ca_130_86, bl_130_10, gf_86_0, pf_86_0, gf_86_1, ar_50, al_50, gf_86_2, pf_86_2, gf_86_3, pf_86_3, gf_86_4, pf_86_4, gf_86_5, pf_86_5, gf_86_6, ar_51, al_51, gf_86_7, ar_52, al_52, gf_86_8, ar_53, al_53, gf_86_9, ar_54, al_54, gf_86_10, ar_55, al_55, gf_86_11, ar_56, al_56, gf_86_12, ar_57, al_57, gf_86_13, pf_86_13, gf_86_14, pf_86_14, gf_86_15, ar_58, al_58, gf_86_16, ar_59, al_59, gf_86_17, ar_60, al_60, gf_86_18, ar_61, al_61, gf_86_19, ar_62, al_62, gf_86_20, pf_86_20, gf_86_21, pf_86_21, gf_86_22, ar_63, al_63, gf_86_23, ar_64, al_64, gf_86_24, ar_65, al_65, gf_86_25, ar_66, al_66, gf_86_26, ar_67, al_67, gf_86_27, ar_68, al_68, gf_86_28, ar_69, al_69, gf_86_29, ar_70, al_70, gf_86_30, ar_71, al_71, gf_86_31, ar_72, al_72, gf_86_32, ar_73, al_73, gf_86_33, ar_74, al_74, gf_86_34, pf_86_34, e5]
    (repeat' (first | with_reducible apply And.intro | with_reducible intro _)) <;> first | omega | exact sp_has hw (by omega) K
set_option maxHeartbeats 400000 in
set_option maxRecDepth 100000 in
theorem sp_mts {S : sg_S} {w t : Int} {h : am_H} {Q : am_P} (hm : sg_of h = S) (hS : sg_ok S) (hw : 0 ≤ w ∧ w ≤ 255) (ht : 0 ≤ t ∧ t ≤ 100000) (Y : mt S w t → Q (some (.inl 1)) h) (N : ¬ mt S w t → Q (some (.inl 0)) h) : am_Call 130 [.inr (.inr (some 86)), .inl w, .inl t] h Q := by
  have hG := hS.2.1
  simp only [eq_self, and_self, am_up_at, Int.cast_ofNat_Int, Int.reduceNatCast, true_or, or_true, or_false, false_or, Classical.not_not, false_and, and_false, am_bk, am_step, am_ldI, am_ldL, am_ldA, am_nth, am_sto, am_stw_0, am_stw_i, am_stw_n, am_stw_a, am_stw_l, am_br, am_cmp, am_tk, am_cat, am_sw, am_copy, am_R, am_nc0, am_nc1, am_f0, am_f1, am_f2, am_f3, Int.reduceNeg, Int.reduceEq, Int.reduceLE, Int.reduceLT, Nat.reduceLeDiff, Nat.reduceAdd, Nat.reduceEqDiff, true_and, and_true, ↓reduceIte, if_false, if_true, forall_const, not_true_eq_false, not_false_eq_true, false_implies, true_implies, implies_true, Int.reduceAdd, Int.reduceMul, Int.reduceSub, ne_eq, ca_130_86, bl_130_0, gf_86_0, pf_86_0, gf_86_1, ar_50, al_50, gf_86_2, pf_86_2, gf_86_3, pf_86_3, gf_86_4, pf_86_4, gf_86_5, pf_86_5, gf_86_6, ar_51, al_51, gf_86_7, ar_52, al_52, gf_86_8, ar_53, al_53, gf_86_9, ar_54, al_54, gf_86_10, ar_55, al_55, gf_86_11, ar_56, al_56, gf_86_12, ar_57, al_57, gf_86_13, pf_86_13, gf_86_14, pf_86_14, gf_86_15, ar_58, al_58, gf_86_16, ar_59, al_59, gf_86_17, ar_60, al_60, gf_86_18, ar_61, al_61, gf_86_19, ar_62, al_62, gf_86_20, pf_86_20, gf_86_21, pf_86_21, gf_86_22, ar_63, al_63, gf_86_23, ar_64, al_64, gf_86_24, ar_65, al_65, gf_86_25, ar_66, al_66, gf_86_26, ar_67, al_67, gf_86_27, ar_68, al_68, gf_86_28, ar_69, al_69, gf_86_29, ar_70, al_70, gf_86_30, ar_71, al_71, gf_86_31, ar_72, al_72, gf_86_32, ar_73, al_73, gf_86_33, ar_74, al_74, gf_86_34, pf_86_34]
  exact lp_mts hm hS hw ht Y N (sg_G S).toNat 0 (-9) 1 (by omega) (by omega) (Or.inl rfl) (Or.inl ⟨rfl, Or.inl ⟨rfl, fun g g1 g2 => by omega⟩⟩)
set_option maxHeartbeats 400000 in
set_option maxRecDepth 100000 in
theorem lp_meX {S : sg_S} {w t hor : Int} {h : am_H} {Q : am_P} (hy : ty_ok h S) (hw : 0 ≤ w ∧ w ≤ 255) (ht : 0 ≤ t ∧ t < 300) (hh : 0 ≤ hor ∧ hor ≤ 600) (F : ∀ k, 0 ≤ k → k < hor → mt S w (t + k) → (∀ q, 0 ≤ q → q < k → ¬ mt S w (t + q)) → Q (some (.inl (t + k))) h) (N : (∀ q, 0 ≤ q → q < hor → ¬ mt S w (t + q)) → Q (some (.inl (-9))) h) :
    ∀ (m : Nat) (k : Int), 0 ≤ k → k + m = hor → (∀ q, 0 ≤ q → q < k → ¬ mt S w (t + q)) → am_Ex 71 28 [some (.inr (.inr (some 75))), some (.inl w), some (.inl t), some (.inl hor), some (.inl k)] [] h Q := by
  intro m
  induction m with
  | zero =>
    intro k k0 k1 I
    have K := N (fun q q1 q2 => I q q1 (by omega))
    rw [bl_71_28]
    simp only [eq_self, and_self, am_up_at, Int.cast_ofNat_Int, Int.reduceNatCast, true_or, or_true, or_false, false_or, Classical.not_not, false_and, and_false, am_bk, am_step, am_ldI, am_ldL, am_ldA, am_nth, am_sto, am_stw_0, am_stw_i, am_stw_n, am_stw_a, am_stw_l, am_br, am_cmp, am_tk, am_cat, am_sw, am_copy, am_R, am_nc0, am_nc1, am_f0, am_f1, am_f2, am_f3, Int.reduceNeg, Int.reduceEq, Int.reduceLE, Int.reduceLT, Nat.reduceLeDiff, Nat.reduceAdd, Nat.reduceEqDiff, true_and, and_true, ↓reduceIte, if_false, if_true, forall_const, not_true_eq_false, not_false_eq_true, false_implies, true_implies, implies_true, Int.reduceAdd, Int.reduceMul, Int.reduceSub, ne_eq, ca_71_75, bl_71_45, gf_75_0, ar_0, al_0, gf_75_1, pf_75_1, gf_75_2, gf_75_3, gf_75_4, gf_75_5, gf_75_6, gf_75_7, gf_75_8, gf_75_9, gf_75_10]
    (repeat' (first | with_reducible apply And.intro | with_reducible intro _)) <;> first | omega | exact K
  | succ m ih =>
    intro k k0 k1 I
    have Ka : mt S w (t + k) → am_Ex 71 38 [some (.inr (.inr (some 75))), some (.inl w), some (.inl t), some (.inl hor), some (.inl k)] [.inl 1] h Q := by
      intro q
      have K := F k k0 (by omega) q I
      simp only [eq_self, and_self, am_up_at, Int.cast_ofNat_Int, Int.reduceNatCast, true_or, or_true, or_false, false_or, Classical.not_not, false_and, and_false, am_bk, am_step, am_ldI, am_ldL, am_ldA, am_nth, am_sto, am_stw_0, am_stw_i, am_stw_n, am_stw_a, am_stw_l, am_br, am_cmp, am_tk, am_cat, am_sw, am_copy, am_R, am_nc0, am_nc1, am_f0, am_f1, am_f2, am_f3, Int.reduceNeg, Int.reduceEq, Int.reduceLE, Int.reduceLT, Nat.reduceLeDiff, Nat.reduceAdd, Nat.reduceEqDiff, true_and, and_true, ↓reduceIte, if_false, if_true, forall_const, not_true_eq_false, not_false_eq_true, false_implies, true_implies, implies_true, Int.reduceAdd, Int.reduceMul, Int.reduceSub, ne_eq, ca_71_75, bl_71_38, gf_75_0, ar_0, al_0, gf_75_1, pf_75_1, gf_75_2, gf_75_3, gf_75_4, gf_75_5, gf_75_6, gf_75_7, gf_75_8, gf_75_9, gf_75_10]
      (repeat' (first | with_reducible apply And.intro | with_reducible intro _)) <;> first | omega | exact K
    have Kb : ¬ mt S w (t + k) → am_Ex 71 38 [some (.inr (.inr (some 75))), some (.inl w), some (.inl t), some (.inl hor), some (.inl k)] [.inl 0] h Q := by
      intro q
      have K := ih (k + 1) (by omega) (by omega) (fun j j1 j2 => by
        by_cases c : j = k
        · rw [c]; exact q
        · exact I j j1 (by omega))
      simp only [eq_self, and_self, am_up_at, Int.cast_ofNat_Int, Int.reduceNatCast, true_or, or_true, or_false, false_or, Classical.not_not, false_and, and_false, am_bk, am_step, am_ldI, am_ldL, am_ldA, am_nth, am_sto, am_stw_0, am_stw_i, am_stw_n, am_stw_a, am_stw_l, am_br, am_cmp, am_tk, am_cat, am_sw, am_copy, am_R, am_nc0, am_nc1, am_f0, am_f1, am_f2, am_f3, Int.reduceNeg, Int.reduceEq, Int.reduceLE, Int.reduceLT, Nat.reduceLeDiff, Nat.reduceAdd, Nat.reduceEqDiff, true_and, and_true, ↓reduceIte, if_false, if_true, forall_const, not_true_eq_false, not_false_eq_true, false_implies, true_implies, implies_true, Int.reduceAdd, Int.reduceMul, Int.reduceSub, ne_eq, ca_71_75, bl_71_38, bl_71_43, gf_75_0, ar_0, al_0, gf_75_1, pf_75_1, gf_75_2, gf_75_3, gf_75_4, gf_75_5, gf_75_6, gf_75_7, gf_75_8, gf_75_9, gf_75_10]
      (repeat' (first | with_reducible apply And.intro | with_reducible intro _)) <;> first | omega | exact K
    rw [bl_71_28]
    simp only [eq_self, and_self, am_up_at, Int.cast_ofNat_Int, Int.reduceNatCast, true_or, or_true, or_false, false_or, Classical.not_not, false_and, and_false, am_bk, am_step, am_ldI, am_ldL, am_ldA, am_nth, am_sto, am_stw_0, am_stw_i, am_stw_n, am_stw_a, am_stw_l, am_br, am_cmp, am_tk, am_cat, am_sw, am_copy, am_R, am_nc0, am_nc1, am_f0, am_f1, am_f2, am_f3, Int.reduceNeg, Int.reduceEq, Int.reduceLE, Int.reduceLT, Nat.reduceLeDiff, Nat.reduceAdd, Nat.reduceEqDiff, true_and, and_true, ↓reduceIte, if_false, if_true, forall_const, not_true_eq_false, not_false_eq_true, false_implies, true_implies, implies_true, Int.reduceAdd, Int.reduceMul, Int.reduceSub, ne_eq, ca_71_75, bl_71_31, gf_75_0, ar_0, al_0, gf_75_1, pf_75_1, gf_75_2, gf_75_3, gf_75_4, gf_75_5, gf_75_6, gf_75_7, gf_75_8, gf_75_9, gf_75_10]
    (repeat' (first | with_reducible apply And.intro | with_reducible intro _)) <;> first | omega | exact sp_aop hy hw (by omega) Ka Kb
set_option maxHeartbeats 400000 in
set_option maxRecDepth 100000 in
theorem lp_meM {S : sg_S} {w t e : Int} {h : am_H} {Q : am_P} (hm : sg_of h = S) (hS : sg_ok S) (hw : 0 ≤ w ∧ w ≤ 255) (ht : 0 ≤ t ∧ t < 300) (he : e ≤ 1000) (F : ∀ s, t ≤ s → s < e → mt S w s → (∀ q, t ≤ q → q < s → ¬ mt S w q) → Q (some (.inl s)) h) (N : (∀ q, t ≤ q → q < e → ¬ mt S w q) → Q (some (.inl (-9))) h) :
    ∀ (m : Nat) (s : Int), t ≤ s → s + m = e → (∀ q, t ≤ q → q < s → ¬ mt S w q) → am_Ex 131 35 [some (.inr (.inr (some 86))), some (.inl w), some (.inl t), some (.inl e), some (.inl s)] [] h Q := by
  intro m
  induction m with
  | zero =>
    intro s s0 s1 I
    have K := N (fun q q1 q2 => I q q1 (by omega))
    rw [bl_131_35]
    simp only [eq_self, and_self, am_up_at, Int.cast_ofNat_Int, Int.reduceNatCast, true_or, or_true, or_false, false_or, Classical.not_not, false_and, and_false, am_bk, am_step, am_ldI, am_ldL, am_ldA, am_nth, am_sto, am_stw_0, am_stw_i, am_stw_n, am_stw_a, am_stw_l, am_br, am_cmp, am_tk, am_cat, am_sw, am_copy, am_R, am_nc0, am_nc1, am_f0, am_f1, am_f2, am_f3, Int.reduceNeg, Int.reduceEq, Int.reduceLE, Int.reduceLT, Nat.reduceLeDiff, Nat.reduceAdd, Nat.reduceEqDiff, true_and, and_true, ↓reduceIte, if_false, if_true, forall_const, not_true_eq_false, not_false_eq_true, false_implies, true_implies, implies_true, Int.reduceAdd, Int.reduceMul, Int.reduceSub, ne_eq, ca_131_86, bl_131_47, gf_86_0, pf_86_0, gf_86_1, ar_50, al_50, gf_86_2, pf_86_2, gf_86_3, pf_86_3, gf_86_4, pf_86_4, gf_86_5, pf_86_5, gf_86_6, ar_51, al_51, gf_86_7, ar_52, al_52, gf_86_8, ar_53, al_53, gf_86_9, ar_54, al_54, gf_86_10, ar_55, al_55, gf_86_11, ar_56, al_56, gf_86_12, ar_57, al_57, gf_86_13, pf_86_13, gf_86_14, pf_86_14, gf_86_15, ar_58, al_58, gf_86_16, ar_59, al_59, gf_86_17, ar_60, al_60, gf_86_18, ar_61, al_61, gf_86_19, ar_62, al_62, gf_86_20, pf_86_20, gf_86_21, pf_86_21, gf_86_22, ar_63, al_63, gf_86_23, ar_64, al_64, gf_86_24, ar_65, al_65, gf_86_25, ar_66, al_66, gf_86_26, ar_67, al_67, gf_86_27, ar_68, al_68, gf_86_28, ar_69, al_69, gf_86_29, ar_70, al_70, gf_86_30, ar_71, al_71, gf_86_31, ar_72, al_72, gf_86_32, ar_73, al_73, gf_86_33, ar_74, al_74, gf_86_34, pf_86_34]
    (repeat' (first | with_reducible apply And.intro | with_reducible intro _)) <;> first | omega | exact K
  | succ m ih =>
    intro s s0 s1 I
    have Ka : mt S w s → am_Ex 131 42 [some (.inr (.inr (some 86))), some (.inl w), some (.inl t), some (.inl e), some (.inl s)] [.inl 1] h Q := by
      intro q
      have K := F s s0 (by omega) q I
      simp only [eq_self, and_self, am_up_at, Int.cast_ofNat_Int, Int.reduceNatCast, true_or, or_true, or_false, false_or, Classical.not_not, false_and, and_false, am_bk, am_step, am_ldI, am_ldL, am_ldA, am_nth, am_sto, am_stw_0, am_stw_i, am_stw_n, am_stw_a, am_stw_l, am_br, am_cmp, am_tk, am_cat, am_sw, am_copy, am_R, am_nc0, am_nc1, am_f0, am_f1, am_f2, am_f3, Int.reduceNeg, Int.reduceEq, Int.reduceLE, Int.reduceLT, Nat.reduceLeDiff, Nat.reduceAdd, Nat.reduceEqDiff, true_and, and_true, ↓reduceIte, if_false, if_true, forall_const, not_true_eq_false, not_false_eq_true, false_implies, true_implies, implies_true, Int.reduceAdd, Int.reduceMul, Int.reduceSub, ne_eq, ca_131_86, bl_131_42, gf_86_0, pf_86_0, gf_86_1, ar_50, al_50, gf_86_2, pf_86_2, gf_86_3, pf_86_3, gf_86_4, pf_86_4, gf_86_5, pf_86_5, gf_86_6, ar_51, al_51, gf_86_7, ar_52, al_52, gf_86_8, ar_53, al_53, gf_86_9, ar_54, al_54, gf_86_10, ar_55, al_55, gf_86_11, ar_56, al_56, gf_86_12, ar_57, al_57, gf_86_13, pf_86_13, gf_86_14, pf_86_14, gf_86_15, ar_58, al_58, gf_86_16, ar_59, al_59, gf_86_17, ar_60, al_60, gf_86_18, ar_61, al_61, gf_86_19, ar_62, al_62, gf_86_20, pf_86_20, gf_86_21, pf_86_21, gf_86_22, ar_63, al_63, gf_86_23, ar_64, al_64, gf_86_24, ar_65, al_65, gf_86_25, ar_66, al_66, gf_86_26, ar_67, al_67, gf_86_27, ar_68, al_68, gf_86_28, ar_69, al_69, gf_86_29, ar_70, al_70, gf_86_30, ar_71, al_71, gf_86_31, ar_72, al_72, gf_86_32, ar_73, al_73, gf_86_33, ar_74, al_74, gf_86_34, pf_86_34]
      (repeat' (first | with_reducible apply And.intro | with_reducible intro _)) <;> first | omega | exact K
    have Kb : ¬ mt S w s → am_Ex 131 42 [some (.inr (.inr (some 86))), some (.inl w), some (.inl t), some (.inl e), some (.inl s)] [.inl 0] h Q := by
      intro q
      have K := ih (s + 1) (by omega) (by omega) (fun j j1 j2 => by
        by_cases c : j = s
        · rw [c]; exact q
        · exact I j j1 (by omega))
      simp only [eq_self, and_self, am_up_at, Int.cast_ofNat_Int, Int.reduceNatCast, true_or, or_true, or_false, false_or, Classical.not_not, false_and, and_false, am_bk, am_step, am_ldI, am_ldL, am_ldA, am_nth, am_sto, am_stw_0, am_stw_i, am_stw_n, am_stw_a, am_stw_l, am_br, am_cmp, am_tk, am_cat, am_sw, am_copy, am_R, am_nc0, am_nc1, am_f0, am_f1, am_f2, am_f3, Int.reduceNeg, Int.reduceEq, Int.reduceLE, Int.reduceLT, Nat.reduceLeDiff, Nat.reduceAdd, Nat.reduceEqDiff, true_and, and_true, ↓reduceIte, if_false, if_true, forall_const, not_true_eq_false, not_false_eq_true, false_implies, true_implies, implies_true, Int.reduceAdd, Int.reduceMul, Int.reduceSub, ne_eq, ca_131_86, bl_131_42, bl_131_45, gf_86_0, pf_86_0, gf_86_1, ar_50, al_50, gf_86_2, pf_86_2, gf_86_3, pf_86_3, gf_86_4, pf_86_4, gf_86_5, pf_86_5, gf_86_6, ar_51, al_51, gf_86_7, ar_52, al_52, gf_86_8, ar_53, al_53, gf_86_9, ar_54, al_54, gf_86_10, ar_55, al_55, gf_86_11, ar_56, al_56, gf_86_12, ar_57, al_57, gf_86_13, pf_86_13, gf_86_14, pf_86_14, gf_86_15, ar_58, al_58, gf_86_16, ar_59, al_59, gf_86_17, ar_60, al_60, gf_86_18, ar_61, al_61, gf_86_19, ar_62, al_62, gf_86_20, pf_86_20, gf_86_21, pf_86_21, gf_86_22, ar_63, al_63, gf_86_23, ar_64, al_64, gf_86_24, ar_65, al_65, gf_86_25, ar_66, al_66, gf_86_26, ar_67, al_67, gf_86_27, ar_68, al_68, gf_86_28, ar_69, al_69, gf_86_29, ar_70, al_70, gf_86_30, ar_71, al_71, gf_86_31, ar_72, al_72, gf_86_32, ar_73, al_73, gf_86_33, ar_74, al_74, gf_86_34, pf_86_34]
      (repeat' (first | with_reducible apply And.intro | with_reducible intro _)) <;> first | omega | exact K
    rw [bl_131_35]
    simp only [eq_self, and_self, am_up_at, Int.cast_ofNat_Int, Int.reduceNatCast, true_or, or_true, or_false, false_or, Classical.not_not, false_and, and_false, am_bk, am_step, am_ldI, am_ldL, am_ldA, am_nth, am_sto, am_stw_0, am_stw_i, am_stw_n, am_stw_a, am_stw_l, am_br, am_cmp, am_tk, am_cat, am_sw, am_copy, am_R, am_nc0, am_nc1, am_f0, am_f1, am_f2, am_f3, Int.reduceNeg, Int.reduceEq, Int.reduceLE, Int.reduceLT, Nat.reduceLeDiff, Nat.reduceAdd, Nat.reduceEqDiff, true_and, and_true, ↓reduceIte, if_false, if_true, forall_const, not_true_eq_false, not_false_eq_true, false_implies, true_implies, implies_true, Int.reduceAdd, Int.reduceMul, Int.reduceSub, ne_eq, ca_131_86, bl_131_38, gf_86_0, pf_86_0, gf_86_1, ar_50, al_50, gf_86_2, pf_86_2, gf_86_3, pf_86_3, gf_86_4, pf_86_4, gf_86_5, pf_86_5, gf_86_6, ar_51, al_51, gf_86_7, ar_52, al_52, gf_86_8, ar_53, al_53, gf_86_9, ar_54, al_54, gf_86_10, ar_55, al_55, gf_86_11, ar_56, al_56, gf_86_12, ar_57, al_57, gf_86_13, pf_86_13, gf_86_14, pf_86_14, gf_86_15, ar_58, al_58, gf_86_16, ar_59, al_59, gf_86_17, ar_60, al_60, gf_86_18, ar_61, al_61, gf_86_19, ar_62, al_62, gf_86_20, pf_86_20, gf_86_21, pf_86_21, gf_86_22, ar_63, al_63, gf_86_23, ar_64, al_64, gf_86_24, ar_65, al_65, gf_86_25, ar_66, al_66, gf_86_26, ar_67, al_67, gf_86_27, ar_68, al_68, gf_86_28, ar_69, al_69, gf_86_29, ar_70, al_70, gf_86_30, ar_71, al_71, gf_86_31, ar_72, al_72, gf_86_32, ar_73, al_73, gf_86_33, ar_74, al_74, gf_86_34, pf_86_34]
    (repeat' (first | with_reducible apply And.intro | with_reducible intro _)) <;> first | omega | exact sp_mts hm hS hw (by omega) Ka Kb
set_option maxHeartbeats 400000 in
set_option maxRecDepth 100000 in
theorem eq_hasGates {x : Int} {h : am_H} {Q : am_P} (hx : am_R x) (hG : 0 ≤ h 78 1 ∧ h 78 1 ≤ 8) (H1 : 0 ≤ x ∧ x < am_shl 1 (h 78 1) → Q (some (.inl 1)) h) (H0 : ¬ (0 ≤ x ∧ x < am_shl 1 (h 78 1)) → Q (some (.inl 0)) h) : am_Call 15 [.inr (.inr (some 78)), .inl x] h Q := by
  obtain ⟨x1, x2⟩ := hx
  have f := (bt_full hG).1
  simp only [eq_self, and_self, am_up_at, Int.cast_ofNat_Int, Int.reduceNatCast, true_or, or_true, or_false, false_or, Classical.not_not, false_and, and_false, am_bk, am_step, am_ldI, am_ldL, am_ldA, am_nth, am_sto, am_stw_0, am_stw_i, am_stw_n, am_stw_a, am_stw_l, am_br, am_cmp, am_tk, am_cat, am_sw, am_copy, am_R, am_nc0, am_nc1, am_f0, am_f1, am_f2, am_f3, Int.reduceNeg, Int.reduceEq, Int.reduceLE, Int.reduceLT, Nat.reduceLeDiff, Nat.reduceAdd, Nat.reduceEqDiff, true_and, and_true, ↓reduceIte, if_false, if_true, forall_const, not_true_eq_false, not_false_eq_true, false_implies, true_implies, implies_true, Int.reduceAdd, Int.reduceMul, Int.reduceSub, ne_eq, ca_15_78, bl_15_0, bl_15_10, bl_15_11, gf_78_0, pf_78_0, gf_78_1, pf_78_1, gf_78_2, ar_6, al_6, gf_78_3, ar_7, al_7, gf_78_4, ar_8, al_8, gf_78_5, ar_9, al_9, gf_78_6, ar_10, al_10]
  (repeat' (first | with_reducible apply And.intro | with_reducible intro _)) <;> first | omega | exact H1 (by omega) | exact H0 (by omega)
set_option maxHeartbeats 400000 in
set_option maxRecDepth 100000 in
theorem pr_meet {h : am_H} {k w t : Int} (hw : am_R w) (ht : am_R t) (hi : iv h k) (hk : k ≤ 600) : rg_pair 71 131 [.inl w, .inl t] h k := by
  unfold rg_pair
  have hthr := iv_thr hi
  have hS := hi.1
  have hF := tb_fit_of hi
  have e1 := hS.2.1
  have hU := hS.1
  have c2 := hi.2.1.2.1
  have eG : sg_G (sg_of h) = h 86 5 := rfl
  have f := (bt_full e1).1
  obtain ⟨w1, w2⟩ := id hw
  obtain ⟨t1, t2⟩ := id ht
  have X0 : xd h h k := ⟨fun _ _ => rfl, rfl, iv_w_up hi.2.2.2.2.2.2.2.2⟩
  have st := (tb_st_r hS hF).1
  have cal := fun (q : 0 ≤ t) => sg_calm_r hS q
  have calst := fun (q : 0 ≤ t) => sg_calm_st hS q
  have mod : ∀ h1, xd h h1 k → ∀ q, (¬ (0 ≤ t ∧ t ≤ 299) → q = -1) → (0 ≤ t ∧ t ≤ 299 → ¬ ((0 ≤ w ∧ w < am_shl 1 (sg_G (sg_of h))) ∧ 2 ≤ pc w) → q = -2) → (0 ≤ t ∧ t ≤ 299 → (0 ≤ w ∧ w < am_shl 1 (sg_G (sg_of h))) ∧ 2 ≤ pc w → -9 ≤ q ∧ q ≤ 2000 ∧ (∀ s, t ≤ s → s < sg_calm (sg_of h) t + sg_U (sg_of h) → mt (sg_of h) w s → (∀ q, t ≤ q → q < s → ¬ mt (sg_of h) w q) → s = q) ∧ ((∀ s, t ≤ s → s < sg_calm (sg_of h) t + sg_U (sg_of h) → ¬ mt (sg_of h) w s) → -9 = q)) → am_Call 131 [.inr (.inr (some 86)), .inl w, .inl t] h1 (rg_post k (some (.inl q))) := by
    intro h1 X q q1 q2 q3
    have f86 := X.1 86 (by omega)
    have f5 : h1 86 5 = sg_G (sg_of h) := by rw [f86]; rfl
    have f4 : h1 86 4 = sg_U (sg_of h) := by rw [f86]; rfl
    have em : sg_of (am_up h1 86 0 0) = sg_of h := (mx_sg (mx_thr h1)).trans (cx_sg X.1)
    have fin := ed hi X (mx_thr h1)
    have L1 := fun z => rg_leaf (k := k) (A := q) (B := -1) (by have := q1 z; omega) (by have := q1 z; omega) fin
    have L2 := fun z y => rg_leaf (k := k) (A := q) (B := -2) (by have := q2 z y; omega) (by have := q2 z y; omega) fin
    have L3 : 0 ≤ t ∧ t ≤ 299 → (0 ≤ w ∧ w < am_shl 1 (sg_G (sg_of h))) ∧ 2 ≤ pc w → am_Ex 131 26 [some (.inr (.inr (some 86))), some (.inl w), some (.inl t), none, none] [] (am_up h1 86 0 0) (rg_post k (some (.inl q))) := by
      intro V W
      obtain ⟨r1, r2, r3, r4⟩ := q3 V W
      have cr := cal V.1
      simp only [eq_self, and_self, am_up_at, Int.cast_ofNat_Int, Int.reduceNatCast, true_or, or_true, or_false, false_or, Classical.not_not, false_and, and_false, am_bk, am_step, am_ldI, am_ldL, am_ldA, am_nth, am_sto, am_stw_0, am_stw_i, am_stw_n, am_stw_a, am_stw_l, am_br, am_cmp, am_tk, am_cat, am_sw, am_copy, am_R, am_nc0, am_nc1, am_f0, am_f1, am_f2, am_f3, Int.reduceNeg, Int.reduceEq, Int.reduceLE, Int.reduceLT, Nat.reduceLeDiff, Nat.reduceAdd, Nat.reduceEqDiff, true_and, and_true, ↓reduceIte, if_false, if_true, forall_const, not_true_eq_false, not_false_eq_true, false_implies, true_implies, implies_true, Int.reduceAdd, Int.reduceMul, Int.reduceSub, ne_eq, ca_131_86, bl_131_26, gf_86_0, pf_86_0, gf_86_1, ar_50, al_50, gf_86_2, pf_86_2, gf_86_3, pf_86_3, gf_86_4, pf_86_4, gf_86_5, pf_86_5, gf_86_6, ar_51, al_51, gf_86_7, ar_52, al_52, gf_86_8, ar_53, al_53, gf_86_9, ar_54, al_54, gf_86_10, ar_55, al_55, gf_86_11, ar_56, al_56, gf_86_12, ar_57, al_57, gf_86_13, pf_86_13, gf_86_14, pf_86_14, gf_86_15, ar_58, al_58, gf_86_16, ar_59, al_59, gf_86_17, ar_60, al_60, gf_86_18, ar_61, al_61, gf_86_19, ar_62, al_62, gf_86_20, pf_86_20, gf_86_21, pf_86_21, gf_86_22, ar_63, al_63, gf_86_23, ar_64, al_64, gf_86_24, ar_65, al_65, gf_86_25, ar_66, al_66, gf_86_26, ar_67, al_67, gf_86_27, ar_68, al_68, gf_86_28, ar_69, al_69, gf_86_29, ar_70, al_70, gf_86_30, ar_71, al_71, gf_86_31, ar_72, al_72, gf_86_32, ar_73, al_73, gf_86_33, ar_74, al_74, gf_86_34, pf_86_34]
      refine sp_calm (S := sg_of h) hS (fun r _ _ => ?_) (by omega) ?_
      · rw [← em]; exact ⟨rfl, rfl⟩
      have K := lp_meM (Q := rg_post k (some (.inl q))) (t := t) (e := sg_calm (sg_of h) t + sg_U (sg_of h)) em hS (show 0 ≤ w ∧ w ≤ 255 by omega) (by omega) (by omega) (fun s s1 s2 s3 s4 => rg_leaf (r3 s s1 s2 s3 s4) (by omega) fin) (fun z => rg_leaf (r4 z) (by omega) fin) (sg_calm (sg_of h) t + sg_U (sg_of h) - t).toNat t (by omega) (by omega) (fun q _ _ => by omega)
      simp only [eq_self, and_self, am_up_at, Int.cast_ofNat_Int, Int.reduceNatCast, true_or, or_true, or_false, false_or, Classical.not_not, false_and, and_false, am_bk, am_step, am_ldI, am_ldL, am_ldA, am_nth, am_sto, am_stw_0, am_stw_i, am_stw_n, am_stw_a, am_stw_l, am_br, am_cmp, am_tk, am_cat, am_sw, am_copy, am_R, am_nc0, am_nc1, am_f0, am_f1, am_f2, am_f3, Int.reduceNeg, Int.reduceEq, Int.reduceLE, Int.reduceLT, Nat.reduceLeDiff, Nat.reduceAdd, Nat.reduceEqDiff, true_and, and_true, ↓reduceIte, if_false, if_true, forall_const, not_true_eq_false, not_false_eq_true, false_implies, true_implies, implies_true, Int.reduceAdd, Int.reduceMul, Int.reduceSub, ne_eq, ca_131_86, bl_131_29, gf_86_0, pf_86_0, gf_86_1, ar_50, al_50, gf_86_2, pf_86_2, gf_86_3, pf_86_3, gf_86_4, pf_86_4, gf_86_5, pf_86_5, gf_86_6, ar_51, al_51, gf_86_7, ar_52, al_52, gf_86_8, ar_53, al_53, gf_86_9, ar_54, al_54, gf_86_10, ar_55, al_55, gf_86_11, ar_56, al_56, gf_86_12, ar_57, al_57, gf_86_13, pf_86_13, gf_86_14, pf_86_14, gf_86_15, ar_58, al_58, gf_86_16, ar_59, al_59, gf_86_17, ar_60, al_60, gf_86_18, ar_61, al_61, gf_86_19, ar_62, al_62, gf_86_20, pf_86_20, gf_86_21, pf_86_21, gf_86_22, ar_63, al_63, gf_86_23, ar_64, al_64, gf_86_24, ar_65, al_65, gf_86_25, ar_66, al_66, gf_86_26, ar_67, al_67, gf_86_27, ar_68, al_68, gf_86_28, ar_69, al_69, gf_86_29, ar_70, al_70, gf_86_30, ar_71, al_71, gf_86_31, ar_72, al_72, gf_86_32, ar_73, al_73, gf_86_33, ar_74, al_74, gf_86_34, pf_86_34, f4]
      (repeat' (first | with_reducible apply And.intro | with_reducible intro _)) <;> first | omega | exact K
    have L4 : 0 ≤ t ∧ t ≤ 299 → 0 ≤ w ∧ w < am_shl 1 (sg_G (sg_of h)) → am_Ex 131 22 [some (.inr (.inr (some 86))), some (.inl w), some (.inl t), none, none] [.inl (pc w)] (am_up h1 86 0 0) (rg_post k (some (.inl q))) := by
      intro V W
      have pr := pc_r w
      have Ka := fun z => L3 V ⟨W, z⟩
      have Kb := fun (z : ¬ 2 ≤ pc w) => L2 V (fun y => z y.2)
      simp only [eq_self, and_self, am_up_at, Int.cast_ofNat_Int, Int.reduceNatCast, true_or, or_true, or_false, false_or, Classical.not_not, false_and, and_false, am_bk, am_step, am_ldI, am_ldL, am_ldA, am_nth, am_sto, am_stw_0, am_stw_i, am_stw_n, am_stw_a, am_stw_l, am_br, am_cmp, am_tk, am_cat, am_sw, am_copy, am_R, am_nc0, am_nc1, am_f0, am_f1, am_f2, am_f3, Int.reduceNeg, Int.reduceEq, Int.reduceLE, Int.reduceLT, Nat.reduceLeDiff, Nat.reduceAdd, Nat.reduceEqDiff, true_and, and_true, ↓reduceIte, if_false, if_true, forall_const, not_true_eq_false, not_false_eq_true, false_implies, true_implies, implies_true, Int.reduceAdd, Int.reduceMul, Int.reduceSub, ne_eq, ca_131_86, bl_131_22, bl_131_24, gf_86_0, pf_86_0, gf_86_1, ar_50, al_50, gf_86_2, pf_86_2, gf_86_3, pf_86_3, gf_86_4, pf_86_4, gf_86_5, pf_86_5, gf_86_6, ar_51, al_51, gf_86_7, ar_52, al_52, gf_86_8, ar_53, al_53, gf_86_9, ar_54, al_54, gf_86_10, ar_55, al_55, gf_86_11, ar_56, al_56, gf_86_12, ar_57, al_57, gf_86_13, pf_86_13, gf_86_14, pf_86_14, gf_86_15, ar_58, al_58, gf_86_16, ar_59, al_59, gf_86_17, ar_60, al_60, gf_86_18, ar_61, al_61, gf_86_19, ar_62, al_62, gf_86_20, pf_86_20, gf_86_21, pf_86_21, gf_86_22, ar_63, al_63, gf_86_23, ar_64, al_64, gf_86_24, ar_65, al_65, gf_86_25, ar_66, al_66, gf_86_26, ar_67, al_67, gf_86_27, ar_68, al_68, gf_86_28, ar_69, al_69, gf_86_29, ar_70, al_70, gf_86_30, ar_71, al_71, gf_86_31, ar_72, al_72, gf_86_32, ar_73, al_73, gf_86_33, ar_74, al_74, gf_86_34, pf_86_34]
      (repeat' (first | with_reducible apply And.intro | with_reducible intro _)) <;> first | omega | exact Ka (by omega) | exact Kb (by omega)
    simp (disch := omega) only [eq_self, and_self, am_up_at, Int.cast_ofNat_Int, Int.reduceNatCast, true_or, or_true, or_false, false_or, Classical.not_not, false_and, and_false, am_bk, am_step, am_ldI, am_ldL, am_ldA, am_nth, am_sto, am_stw_0, am_stw_i, am_stw_n, am_stw_a, am_stw_l, am_br, am_cmp, am_tk, am_cat, am_sw, am_copy, am_R, am_nc0, am_nc1, am_f0, am_f1, am_f2, am_f3, Int.reduceNeg, Int.reduceEq, Int.reduceLE, Int.reduceLT, Nat.reduceLeDiff, Nat.reduceAdd, Nat.reduceEqDiff, true_and, and_true, ↓reduceIte, if_false, if_true, forall_const, not_true_eq_false, not_false_eq_true, false_implies, true_implies, implies_true, Int.reduceAdd, Int.reduceMul, Int.reduceSub, ne_eq, ca_131_86, bl_131_0, bl_131_5, bl_131_8, bl_131_19, bl_131_24, gf_86_0, pf_86_0, gf_86_1, ar_50, al_50, gf_86_2, pf_86_2, gf_86_3, pf_86_3, gf_86_4, pf_86_4, gf_86_5, pf_86_5, gf_86_6, ar_51, al_51, gf_86_7, ar_52, al_52, gf_86_8, ar_53, al_53, gf_86_9, ar_54, al_54, gf_86_10, ar_55, al_55, gf_86_11, ar_56, al_56, gf_86_12, ar_57, al_57, gf_86_13, pf_86_13, gf_86_14, pf_86_14, gf_86_15, ar_58, al_58, gf_86_16, ar_59, al_59, gf_86_17, ar_60, al_60, gf_86_18, ar_61, al_61, gf_86_19, ar_62, al_62, gf_86_20, pf_86_20, gf_86_21, pf_86_21, gf_86_22, ar_63, al_63, gf_86_23, ar_64, al_64, gf_86_24, ar_65, al_65, gf_86_25, ar_66, al_66, gf_86_26, ar_67, al_67, gf_86_27, ar_68, al_68, gf_86_28, ar_69, al_69, gf_86_29, ar_70, al_70, gf_86_30, ar_71, al_71, gf_86_31, ar_72, al_72, gf_86_32, ar_73, al_73, gf_86_33, ar_74, al_74, gf_86_34, pf_86_34, eq_noSecond, eq_in, am_i2l_of, f5]
    (repeat' (first | with_reducible apply And.intro | with_reducible intro _)) <;> first | omega | exact L1 (by omega) | exact L2 (by omega) (by omega) | exact sp_many (by omega) (L4 (by omega) (by omega))
  have Bad : 0 ≤ t ∧ t ≤ 299 → ¬ ((0 ≤ w ∧ w < am_shl 1 (sg_G (sg_of h))) ∧ 2 ≤ pc w) → am_Ex 71 14 [some (.inr (.inr (some 75))), some (.inl w), some (.inl t), none, none] [] h (fun o h1 => am_Call 131 [.inr (.inr (some 86)), .inl w, .inl t] h1 (rg_post k o)) := by
    intro V W
    have K := mod h X0 (-2) (fun z => absurd V z) (fun _ _ => rfl) (fun _ z => absurd z W)
    simp only [eq_self, and_self, am_up_at, Int.cast_ofNat_Int, Int.reduceNatCast, true_or, or_true, or_false, false_or, Classical.not_not, false_and, and_false, am_bk, am_step, am_ldI, am_ldL, am_ldA, am_nth, am_sto, am_stw_0, am_stw_i, am_stw_n, am_stw_a, am_stw_l, am_br, am_cmp, am_tk, am_cat, am_sw, am_copy, am_R, am_nc0, am_nc1, am_f0, am_f1, am_f2, am_f3, Int.reduceNeg, Int.reduceEq, Int.reduceLE, Int.reduceLT, Nat.reduceLeDiff, Nat.reduceAdd, Nat.reduceEqDiff, true_and, and_true, ↓reduceIte, if_false, if_true, forall_const, not_true_eq_false, not_false_eq_true, false_implies, true_implies, implies_true, Int.reduceAdd, Int.reduceMul, Int.reduceSub, ne_eq, ca_71_75, bl_71_14, gf_75_0, ar_0, al_0, gf_75_1, pf_75_1, gf_75_2, gf_75_3, gf_75_4, gf_75_5, gf_75_6, gf_75_7, gf_75_8, gf_75_9, gf_75_10]
    (repeat' (first | with_reducible apply And.intro | with_reducible intro _)) <;> first | omega | exact K
  have Good : 0 ≤ t ∧ t ≤ 299 → (0 ≤ w ∧ w < am_shl 1 (sg_G (sg_of h))) ∧ 2 ≤ pc w → am_Ex 71 16 [some (.inr (.inr (some 75))), some (.inl w), some (.inl t), none, none] [] h (fun o h1 => am_Call 131 [.inr (.inr (some 86)), .inl w, .inl t] h1 (rg_post k o)) := by
    intro V W
    have cr := cal V.1
    have cs := calst V.1
    simp only [eq_self, and_self, am_up_at, Int.cast_ofNat_Int, Int.reduceNatCast, true_or, or_true, or_false, false_or, Classical.not_not, false_and, and_false, am_bk, am_step, am_ldI, am_ldL, am_ldA, am_nth, am_sto, am_stw_0, am_stw_i, am_stw_n, am_stw_a, am_stw_l, am_br, am_cmp, am_tk, am_cat, am_sw, am_copy, am_R, am_nc0, am_nc1, am_f0, am_f1, am_f2, am_f3, Int.reduceNeg, Int.reduceEq, Int.reduceLE, Int.reduceLT, Nat.reduceLeDiff, Nat.reduceAdd, Nat.reduceEqDiff, true_and, and_true, ↓reduceIte, if_false, if_true, forall_const, not_true_eq_false, not_false_eq_true, false_implies, true_implies, implies_true, Int.reduceAdd, Int.reduceMul, Int.reduceSub, ne_eq, ca_71_75, bl_71_16, gf_75_0, ar_0, al_0, gf_75_1, pf_75_1, gf_75_2, gf_75_3, gf_75_4, gf_75_5, gf_75_6, gf_75_7, gf_75_8, gf_75_9, gf_75_10]
    refine sp_lay0 hi hk (fun h1 y1 l10 l9 lc => ?_)
    have X : xd h h1 k := xd_of hi y1 (by omega) l9 (cx_x (fun c c1 c2 _ _ _ _ _ _ => lc c c1 c2))
    have hze : t + ((if tb_st (sg_of h) < t then 0 else tb_st (sg_of h) - t) + sg_U (sg_of h)) = (if t < tb_st (sg_of h) then tb_st (sg_of h) else t) + sg_U (sg_of h) := by
      (repeat' split) <;> omega
    have hzr : 0 ≤ (if tb_st (sg_of h) < t then 0 else tb_st (sg_of h) - t) + sg_U (sg_of h) ∧ (if tb_st (sg_of h) < t then 0 else tb_st (sg_of h) - t) + sg_U (sg_of h) ≤ 600 := by
      split <;> omega
    have K : ∀ e, e = (if tb_st (sg_of h) < t then 0 else tb_st (sg_of h) - t) + sg_U (sg_of h) → am_Ex 71 25 [some (.inr (.inr (some 75))), some (.inl w), some (.inl t), none, none] [.inl e] h1 (fun o h1 => am_Call 131 [.inr (.inr (some 86)), .inl w, .inl t] h1 (rg_post k o)) := by
      intro e ee
      rw [← ee] at hze hzr
      simp only [eq_self, and_self, am_up_at, Int.cast_ofNat_Int, Int.reduceNatCast, true_or, or_true, or_false, false_or, Classical.not_not, false_and, and_false, am_bk, am_step, am_ldI, am_ldL, am_ldA, am_nth, am_sto, am_stw_0, am_stw_i, am_stw_n, am_stw_a, am_stw_l, am_br, am_cmp, am_tk, am_cat, am_sw, am_copy, am_R, am_nc0, am_nc1, am_f0, am_f1, am_f2, am_f3, Int.reduceNeg, Int.reduceEq, Int.reduceLE, Int.reduceLT, Nat.reduceLeDiff, Nat.reduceAdd, Nat.reduceEqDiff, true_and, and_true, ↓reduceIte, if_false, if_true, forall_const, not_true_eq_false, not_false_eq_true, false_implies, true_implies, implies_true, Int.reduceAdd, Int.reduceMul, Int.reduceSub, ne_eq, ca_71_75, bl_71_25, gf_75_0, ar_0, al_0, gf_75_1, pf_75_1, gf_75_2, gf_75_3, gf_75_4, gf_75_5, gf_75_6, gf_75_7, gf_75_8, gf_75_9, gf_75_10]
      refine lp_meX y1 (by omega) (by omega) hzr (fun j j1 j2 j3 j4 => ?_) (fun z => ?_) e.toNat 0 (by omega) (by omega) (fun q _ _ => by omega)
      · refine mod h1 X (t + j) (fun z => absurd V z) (fun _ z => absurd W z) (fun _ _ => ⟨by omega, by omega, fun s s1 s2 s3 s4 => ?_, fun z => absurd j3 (z _ (by omega) (by omega))⟩)
        rcases Int.lt_trichotomy s (t + j) with q | q | q
        · exact absurd (by rw [show t + (s - t) = s by omega]; exact s3) (j4 (s - t) (by omega) (by omega))
        · exact q
        · exact absurd j3 (s4 (t + j) (by omega) q)
      · have all := per_all (P := fun q => ¬ mt (sg_of h) w q) (st := tb_st (sg_of h)) (U := sg_U (sg_of h)) (t := t) (by omega) (fun q m q1 q2 => by rw [mt_p hS hF q1 q2]) (fun q q1 q2 => by have := z (q - t) (by omega) (by omega); rw [show t + (q - t) = q by omega] at this; exact this)
        exact mod h1 X (-9) (fun z => absurd V z) (fun _ z => absurd W z) (fun _ _ => ⟨by omega, by omega, fun s s1 s2 s3 s4 => absurd s3 (all s s1), fun _ => rfl⟩)
    simp only [eq_self, and_self, am_up_at, Int.cast_ofNat_Int, Int.reduceNatCast, true_or, or_true, or_false, false_or, Classical.not_not, false_and, and_false, am_bk, am_step, am_ldI, am_ldL, am_ldA, am_nth, am_sto, am_stw_0, am_stw_i, am_stw_n, am_stw_a, am_stw_l, am_br, am_cmp, am_tk, am_cat, am_sw, am_copy, am_R, am_nc0, am_nc1, am_f0, am_f1, am_f2, am_f3, Int.reduceNeg, Int.reduceEq, Int.reduceLE, Int.reduceLT, Nat.reduceLeDiff, Nat.reduceAdd, Nat.reduceEqDiff, true_and, and_true, ↓reduceIte, if_false, if_true, forall_const, not_true_eq_false, not_false_eq_true, false_implies, true_implies, implies_true, Int.reduceAdd, Int.reduceMul, Int.reduceSub, ne_eq, ca_71_75, bl_71_21, gf_75_0, ar_0, al_0, gf_75_1, pf_75_1, gf_75_2, gf_75_3, gf_75_4, gf_75_5, gf_75_6, gf_75_7, gf_75_8, gf_75_9, gf_75_10]
    exact sp_horizon hS hF y1.2.2.1 y1.2.2.2.1 (by omega) (K _ rfl)
  have Mid : 0 ≤ t ∧ t ≤ 299 → 0 ≤ w ∧ w < am_shl 1 (sg_G (sg_of h)) → am_Ex 71 12 [some (.inr (.inr (some 75))), some (.inl w), some (.inl t), none, none] [.inl (pc w)] h (fun o h1 => am_Call 131 [.inr (.inr (some 86)), .inl w, .inl t] h1 (rg_post k o)) := by
    intro V W
    have pr := pc_r w
    have Ka := fun z => Good V ⟨W, z⟩
    have Kb := fun (z : ¬ 2 ≤ pc w) => Bad V (fun y => z y.2)
    simp only [eq_self, and_self, am_up_at, Int.cast_ofNat_Int, Int.reduceNatCast, true_or, or_true, or_false, false_or, Classical.not_not, false_and, and_false, am_bk, am_step, am_ldI, am_ldL, am_ldA, am_nth, am_sto, am_stw_0, am_stw_i, am_stw_n, am_stw_a, am_stw_l, am_br, am_cmp, am_tk, am_cat, am_sw, am_copy, am_R, am_nc0, am_nc1, am_f0, am_f1, am_f2, am_f3, Int.reduceNeg, Int.reduceEq, Int.reduceLE, Int.reduceLT, Nat.reduceLeDiff, Nat.reduceAdd, Nat.reduceEqDiff, true_and, and_true, ↓reduceIte, if_false, if_true, forall_const, not_true_eq_false, not_false_eq_true, false_implies, true_implies, implies_true, Int.reduceAdd, Int.reduceMul, Int.reduceSub, ne_eq, ca_71_75, bl_71_12, gf_75_0, ar_0, al_0, gf_75_1, pf_75_1, gf_75_2, gf_75_3, gf_75_4, gf_75_5, gf_75_6, gf_75_7, gf_75_8, gf_75_9, gf_75_10]
    (repeat' (first | with_reducible apply And.intro | with_reducible intro _)) <;> first | omega | exact Ka (by omega) | exact Kb (by omega)
  have Has : 0 ≤ t ∧ t ≤ 299 → am_Ex 71 5 [some (.inr (.inr (some 75))), some (.inl w), some (.inl t), none, none] [] h (fun o h1 => am_Call 131 [.inr (.inr (some 86)), .inl w, .inl t] h1 (rg_post k o)) := by
    intro V
    simp only [eq_self, and_self, am_up_at, Int.cast_ofNat_Int, Int.reduceNatCast, true_or, or_true, or_false, false_or, Classical.not_not, false_and, and_false, am_bk, am_step, am_ldI, am_ldL, am_ldA, am_nth, am_sto, am_stw_0, am_stw_i, am_stw_n, am_stw_a, am_stw_l, am_br, am_cmp, am_tk, am_cat, am_sw, am_copy, am_R, am_nc0, am_nc1, am_f0, am_f1, am_f2, am_f3, Int.reduceNeg, Int.reduceEq, Int.reduceLE, Int.reduceLT, Nat.reduceLeDiff, Nat.reduceAdd, Nat.reduceEqDiff, true_and, and_true, ↓reduceIte, if_false, if_true, forall_const, not_true_eq_false, not_false_eq_true, false_implies, true_implies, implies_true, Int.reduceAdd, Int.reduceMul, Int.reduceSub, ne_eq, ca_71_75, bl_71_5, gf_75_0, ar_0, al_0, gf_75_1, pf_75_1, gf_75_2, gf_75_3, gf_75_4, gf_75_5, gf_75_6, gf_75_7, gf_75_8, gf_75_9, gf_75_10]
    have ec : h 78 1 = sg_G (sg_of h) := c2
    refine eq_hasGates hw (by omega) (fun z => ?_) (fun z => ?_)
    · rw [ec] at z
      simp only [eq_self, and_self, am_up_at, Int.cast_ofNat_Int, Int.reduceNatCast, true_or, or_true, or_false, false_or, Classical.not_not, false_and, and_false, am_bk, am_step, am_ldI, am_ldL, am_ldA, am_nth, am_sto, am_stw_0, am_stw_i, am_stw_n, am_stw_a, am_stw_l, am_br, am_cmp, am_tk, am_cat, am_sw, am_copy, am_R, am_nc0, am_nc1, am_f0, am_f1, am_f2, am_f3, Int.reduceNeg, Int.reduceEq, Int.reduceLE, Int.reduceLT, Nat.reduceLeDiff, Nat.reduceAdd, Nat.reduceEqDiff, true_and, and_true, ↓reduceIte, if_false, if_true, forall_const, not_true_eq_false, not_false_eq_true, false_implies, true_implies, implies_true, Int.reduceAdd, Int.reduceMul, Int.reduceSub, ne_eq, ca_71_75, bl_71_9, gf_75_0, ar_0, al_0, gf_75_1, pf_75_1, gf_75_2, gf_75_3, gf_75_4, gf_75_5, gf_75_6, gf_75_7, gf_75_8, gf_75_9, gf_75_10]
      (repeat' (first | with_reducible apply And.intro | with_reducible intro _)) <;> first | omega | exact sp_bitCount (by omega) (Mid V z)
    · rw [ec] at z
      have K := Bad V (fun y => z y.1)
      simp only [eq_self, and_self, am_up_at, Int.cast_ofNat_Int, Int.reduceNatCast, true_or, or_true, or_false, false_or, Classical.not_not, false_and, and_false, am_bk, am_step, am_ldI, am_ldL, am_ldA, am_nth, am_sto, am_stw_0, am_stw_i, am_stw_n, am_stw_a, am_stw_l, am_br, am_cmp, am_tk, am_cat, am_sw, am_copy, am_R, am_nc0, am_nc1, am_f0, am_f1, am_f2, am_f3, Int.reduceNeg, Int.reduceEq, Int.reduceLE, Int.reduceLT, Nat.reduceLeDiff, Nat.reduceAdd, Nat.reduceEqDiff, true_and, and_true, ↓reduceIte, if_false, if_true, forall_const, not_true_eq_false, not_false_eq_true, false_implies, true_implies, implies_true, Int.reduceAdd, Int.reduceMul, Int.reduceSub, ne_eq, ca_71_75, bl_71_9, gf_75_0, ar_0, al_0, gf_75_1, pf_75_1, gf_75_2, gf_75_3, gf_75_4, gf_75_5, gf_75_6, gf_75_7, gf_75_8, gf_75_9, gf_75_10]
      (repeat' (first | with_reducible apply And.intro | with_reducible intro _)) <;> first | omega | exact K
  have Un : ¬ (0 ≤ t ∧ t ≤ 299) → am_Call 131 [.inr (.inr (some 86)), .inl w, .inl t] h (rg_post k (some (.inl (-1)))) := fun V => mod h X0 (-1) (fun _ => rfl) (fun z => absurd z V) (fun z => absurd z V)
  simp (disch := omega) only [eq_self, and_self, am_up_at, Int.cast_ofNat_Int, Int.reduceNatCast, true_or, or_true, or_false, false_or, Classical.not_not, false_and, and_false, am_bk, am_step, am_ldI, am_ldL, am_ldA, am_nth, am_sto, am_stw_0, am_stw_i, am_stw_n, am_stw_a, am_stw_l, am_br, am_cmp, am_tk, am_cat, am_sw, am_copy, am_R, am_nc0, am_nc1, am_f0, am_f1, am_f2, am_f3, Int.reduceNeg, Int.reduceEq, Int.reduceLE, Int.reduceLT, Nat.reduceLeDiff, Nat.reduceAdd, Nat.reduceEqDiff, true_and, and_true, ↓reduceIte, if_false, if_true, forall_const, not_true_eq_false, not_false_eq_true, false_implies, true_implies, implies_true, Int.reduceAdd, Int.reduceMul, Int.reduceSub, ne_eq, ca_71_75, bl_71_0, bl_71_2, gf_75_0, ar_0, al_0, gf_75_1, pf_75_1, gf_75_2, gf_75_3, gf_75_4, gf_75_5, gf_75_6, gf_75_7, gf_75_8, gf_75_9, gf_75_10, eq_isSecond]
  (repeat' (first | with_reducible apply And.intro | with_reducible intro _)) <;> first | omega | exact Has (by omega) | exact Un (by omega)
