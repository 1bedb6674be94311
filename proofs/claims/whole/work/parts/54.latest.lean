/-! latest -/
theorem wyn_mono {S : sg_S} (hS : sg_ok S) (hF : tb_fit S) {a t u : Int} (ha : 0 ≤ a ∧ a < sg_G S) (hu : 0 ≤ u ∧ u ≤ t) : ∀ (n : Nat) (b v : Int), wyn S a t n b v → ∃ w, wyn S a u n b w ∧ w ≤ v := by
  intro n
  induction n with
  | zero => intro b v h; exact ⟨u, ⟨h.1, rfl⟩, by have := h.2; omega⟩
  | succ n ih =>
    intro b v h
    obtain ⟨g, s', h1, h2, h3⟩ := h
    obtain ⟨w', w1, w2⟩ := ih g s' h1
    have := wyn_t hS ha n g w' w1
    obtain ⟨w, x1, x2⟩ := stp_mono hS hF (u := w') (wyn_g ha n g s' h1) h2 (by omega) h3
    exact ⟨w, ⟨g, w', w1, h2, x1⟩, x2⟩
/-- one who starts at t is there by e -/
def gd (S : sg_S) (a b e t : Int) : Prop := ∃ v, wy S a t b v ∧ v ≤ e
theorem gd_mono {S : sg_S} (hS : sg_ok S) (hF : tb_fit S) {a b e t u : Int} (ha : 0 ≤ a ∧ a < sg_G S) (hu : 0 ≤ u ∧ u ≤ t) (h : gd S a b e t) : gd S a b e u := by
  obtain ⟨v, ⟨n, v1⟩, v2⟩ := h
  obtain ⟨w, w1, w2⟩ := wyn_mono hS hF ha hu n b v v1
  exact ⟨w, ⟨n, w1⟩, by omega⟩
theorem gd_ar {N : Int} {S : sg_S} {a b e t v : Int} (hN : 90000 ≤ N) (he : e ≤ 80000) (h : ar_is N S a t b v) : v ≤ e ↔ gd S a b e t := by
  rcases h with ⟨q1, q2, q3⟩ | ⟨q1, q2⟩
  · exact ⟨fun z => ⟨v, q2, z⟩, fun ⟨w, w1, w2⟩ => by have := q3 w w1; omega⟩
  · exact ⟨fun z => by omega, fun ⟨w, w1, w2⟩ => absurd w1 (q2 w)⟩
/-- the latest start -/
def la_is (S : sg_S) (a b e r : Int) : Prop := (r = -9 ∧ ∀ t, 0 ≤ t → t ≤ e → ¬ gd S a b e t) ∨ ((0 ≤ r ∧ r ≤ e) ∧ gd S a b e r ∧ ∀ t, r < t → t ≤ e → ¬ gd S a b e t)
theorem la_one {S : sg_S} {a b e r q : Int} (h1 : la_is S a b e r) (h2 : la_is S a b e q) : r = q := by
  rcases h1 with ⟨a1, a2⟩ | ⟨a1, a2, a3⟩ <;> rcases h2 with ⟨b1, b2⟩ | ⟨b1, b2, b3⟩
  · omega
  · exact absurd b2 (a2 q b1.1 b1.2)
  · exact absurd a2 (b2 r a1.1 a1.2)
  · rcases Int.lt_trichotomy r q with z | z | z
    · exact absurd b2 (a3 q z b1.2)
    · exact z
    · exact absurd a2 (b3 r z a1.2)
set_option maxHeartbeats 400000 in
set_option maxRecDepth 100000 in
theorem lp_lastStart {S : sg_S} {a b e : Int} {h0 : am_H} {Q : am_P} (ha : 0 ≤ a ∧ a < sg_G S) (hb : 0 ≤ b ∧ b < sg_G S) (he : 0 ≤ e ∧ e < 300) (F : ∀ h1 r, ty_ok h1 S → fr_x h0 h1 → la_is S a b e r → Q (some (.inl r)) h1) :
    ∀ (m : Nat) (n lo hi r : Int) (y : Option am_V) (h : am_H), 0 ≤ n → n + m = 300 → 0 ≤ lo → lo ≤ hi + 1 → hi ≤ e → hi - lo + 1 ≤ m → ((lo = 0 ∧ r = -9) ∨ (1 ≤ lo ∧ r = lo - 1 ∧ gd S a b e r)) → (∀ t, hi < t → t ≤ e → ¬ gd S a b e t) → ty_ok h S → fr_x h0 h →
    am_Ex 45 8 [some (.inr (.inr (some 84))), some (.inl a), some (.inl b), some (.inl e), some (.inl r), some (.inl lo), some (.inl hi), some (.inl n), none] [] h Q := by
  intro m
  have fin : ∀ lo hi r h, lo = hi + 1 → 0 ≤ lo → hi ≤ e → ((lo = 0 ∧ r = -9) ∨ (1 ≤ lo ∧ r = lo - 1 ∧ gd S a b e r)) → (∀ t, hi < t → t ≤ e → ¬ gd S a b e t) → ty_ok h S → fr_x h0 h → Q (some (.inl r)) h := by
    intro lo hi r h a1 a2 a3 a4 a5 a6 a7
    refine F h r a6 a7 ?_
    rcases a4 with q | ⟨q1, q2, q3⟩
    · exact Or.inl ⟨q.2, fun t t1 t2 => a5 t (by omega) t2⟩
    · exact Or.inr ⟨by omega, q3, fun t t1 t2 => a5 t (by omega) t2⟩
  induction m with
  | zero =>
    intro n lo hi r y h n0 n1 a1 a2 a3 a4 a5 a6 hy hf
    have K := fin lo hi r h (by omega) a1 a3 a5 a6 hy hf
    rw [bl_45_8]
    simp only [eq_self, and_self, am_up_at, Int.cast_ofNat_Int, Int.reduceNatCast, true_or, or_true, or_false, false_or, Classical.not_not, false_and, and_false, am_bk, am_step, am_ldI, am_ldL, am_ldA, am_nth, am_sto, am_stw_0, am_stw_i, am_stw_n, am_stw_a, am_stw_l, am_br, am_cmp, am_tk, am_cat, am_sw, am_copy, am_R, am_nc0, am_nc1, am_f0, am_f1, am_f2, am_f3, Int.reduceNeg, Int.reduceEq, Int.reduceLE, Int.reduceLT, Nat.reduceLeDiff, Nat.reduceAdd, Nat.reduceEqDiff, true_and, and_true, ↓reduceIte, if_false, if_true, forall_const, not_true_eq_false, not_false_eq_true, false_implies, true_implies, implies_true, Int.reduceAdd, Int.reduceMul, Int.reduceSub, ne_eq, ca_45_84, bl_45_43, gf_84_0, gf_84_1, gf_84_2, ar_43, al_43, gf_84_3, ar_44, al_44, gf_84_4, ar_45, al_45, gf_84_5, ar_46, al_46, gf_84_6, pf_84_6, gf_78_0, pf_78_0, gf_78_1, pf_78_1, gf_78_2, ar_6, al_6, gf_78_3, ar_7, al_7, gf_78_4, ar_8, al_8, gf_78_5, ar_9, al_9, gf_78_6, ar_10, al_10]
    (repeat' (first | with_reducible apply And.intro | with_reducible intro _)) <;> first | omega | exact K
  | succ m ih =>
    intro n lo hi r y h n0 n1 a1 a2 a3 a4 a5 a6 hy hf
    have hG := hy.1.2.1
    rw [bl_45_8]
    by_cases c : lo = hi + 1
    · have K := fin lo hi r h c a1 a3 a5 a6 hy hf
      simp only [eq_self, and_self, am_up_at, Int.cast_ofNat_Int, Int.reduceNatCast, true_or, or_true, or_false, false_or, Classical.not_not, false_and, and_false, am_bk, am_step, am_ldI, am_ldL, am_ldA, am_nth, am_sto, am_stw_0, am_stw_i, am_stw_n, am_stw_a, am_stw_l, am_br, am_cmp, am_tk, am_cat, am_sw, am_copy, am_R, am_nc0, am_nc1, am_f0, am_f1, am_f2, am_f3, Int.reduceNeg, Int.reduceEq, Int.reduceLE, Int.reduceLT, Nat.reduceLeDiff, Nat.reduceAdd, Nat.reduceEqDiff, true_and, and_true, ↓reduceIte, if_false, if_true, forall_const, not_true_eq_false, not_false_eq_true, false_implies, true_implies, implies_true, Int.reduceAdd, Int.reduceMul, Int.reduceSub, ne_eq, ca_45_84, bl_45_11, bl_45_23, bl_45_43, gf_84_0, gf_84_1, gf_84_2, ar_43, al_43, gf_84_3, ar_44, al_44, gf_84_4, ar_45, al_45, gf_84_5, ar_46, al_46, gf_84_6, pf_84_6, gf_78_0, pf_78_0, gf_78_1, pf_78_1, gf_78_2, ar_6, al_6, gf_78_3, ar_7, al_7, gf_78_4, ar_8, al_8, gf_78_5, ar_9, al_9, gf_78_6, ar_10, al_10]
      (repeat' (first | with_reducible apply And.intro | with_reducible intro _)) <;> first | omega | exact K
    · simp only [eq_self, and_self, am_up_at, Int.cast_ofNat_Int, Int.reduceNatCast, true_or, or_true, or_false, false_or, Classical.not_not, false_and, and_false, am_bk, am_step, am_ldI, am_ldL, am_ldA, am_nth, am_sto, am_stw_0, am_stw_i, am_stw_n, am_stw_a, am_stw_l, am_br, am_cmp, am_tk, am_cat, am_sw, am_copy, am_R, am_nc0, am_nc1, am_f0, am_f1, am_f2, am_f3, Int.reduceNeg, Int.reduceEq, Int.reduceLE, Int.reduceLT, Nat.reduceLeDiff, Nat.reduceAdd, Nat.reduceEqDiff, true_and, and_true, ↓reduceIte, if_false, if_true, forall_const, not_true_eq_false, not_false_eq_true, false_implies, true_implies, implies_true, Int.reduceAdd, Int.reduceMul, Int.reduceSub, ne_eq, ca_45_84, bl_45_11, bl_45_23, gf_84_0, gf_84_1, gf_84_2, ar_43, al_43, gf_84_3, ar_44, al_44, gf_84_4, ar_45, al_45, gf_84_5, ar_46, al_46, gf_84_6, pf_84_6, gf_78_0, pf_78_0, gf_78_1, pf_78_1, gf_78_2, ar_6, al_6, gf_78_3, ar_7, al_7, gf_78_4, ar_8, al_8, gf_78_5, ar_9, al_9, gf_78_6, ar_10, al_10]
      have et : (lo + hi).tdiv 2 = (lo + hi) / 2 := Int.tdiv_eq_ediv_of_nonneg (by omega)
      have mr : lo ≤ (lo + hi) / 2 ∧ (lo + hi) / 2 ≤ hi := by omega
      rw [et]
      generalize (lo + hi) / 2 = mi at mr ⊢
      have K : ∀ h1, ty_ok h1 S → fr_x h h1 → (∀ b, 0 ≤ b → b < sg_G S → ar_is 1000000 S a mi b (h1 43 b)) → am_Ex 45 24 [some (.inr (.inr (some 84))), some (.inl a), some (.inl b), some (.inl e), some (.inl r), some (.inl lo), some (.inl hi), some (.inl n), some (.inl mi)] [] h1 Q := by
        intro h1 y1 f1 ar
        have fx : fr_x h0 h1 := fun c c1 c2 => (f1 c c1 c2).trans (hf c c1 c2)
        have g := gd_ar (e := e) (by omega) (by omega) (ar b hb.1 hb.2)
        have rb := ar_r (by omega) (by omega) (ar b hb.1 hb.2)
        have K1 : h1 43 b ≤ e → am_Ex 45 8 [some (.inr (.inr (some 84))), some (.inl a), some (.inl b), some (.inl e), some (.inl mi), some (.inl (mi + 1)), some (.inl hi), some (.inl (n + 1)), none] [] h1 Q := fun q => ih (n + 1) (mi + 1) hi mi none h1 (by omega) (by omega) (by omega) (by omega) a3 (by omega) (Or.inr ⟨by omega, by omega, g.mp q⟩) a6 y1 fx
        have K2 : ¬ h1 43 b ≤ e → am_Ex 45 8 [some (.inr (.inr (some 84))), some (.inl a), some (.inl b), some (.inl e), some (.inl r), some (.inl lo), some (.inl (mi - 1)), some (.inl (n + 1)), none] [] h1 Q := fun q => ih (n + 1) lo (mi - 1) r none h1 (by omega) (by omega) (by omega) (by omega) (by omega) (by omega) a5 (fun t t1 t2 z => q (g.mpr (gd_mono hy.1 hy.2.1 ha (by omega) z))) y1 fx
        simp only [eq_self, and_self, am_up_at, Int.cast_ofNat_Int, Int.reduceNatCast, true_or, or_true, or_false, false_or, Classical.not_not, false_and, and_false, am_bk, am_step, am_ldI, am_ldL, am_ldA, am_nth, am_sto, am_stw_0, am_stw_i, am_stw_n, am_stw_a, am_stw_l, am_br, am_cmp, am_tk, am_cat, am_sw, am_copy, am_R, am_nc0, am_nc1, am_f0, am_f1, am_f2, am_f3, Int.reduceNeg, Int.reduceEq, Int.reduceLE, Int.reduceLT, Nat.reduceLeDiff, Nat.reduceAdd, Nat.reduceEqDiff, true_and, and_true, ↓reduceIte, if_false, if_true, forall_const, not_true_eq_false, not_false_eq_true, false_implies, true_implies, implies_true, Int.reduceAdd, Int.reduceMul, Int.reduceSub, ne_eq, ca_45_84, bl_45_24, bl_45_36, bl_45_37, bl_45_41, gf_84_0, gf_84_1, gf_84_2, ar_43, al_43, gf_84_3, ar_44, al_44, gf_84_4, ar_45, al_45, gf_84_5, ar_46, al_46, gf_84_6, pf_84_6, gf_78_0, pf_78_0, gf_78_1, pf_78_1, gf_78_2, ar_6, al_6, gf_78_3, ar_7, al_7, gf_78_4, ar_8, al_8, gf_78_5, ar_9, al_9, gf_78_6, ar_10, al_10]
        (repeat' (first | with_reducible apply And.intro | with_reducible intro _)) <;> first | omega | exact am_forget (K1 (by omega)) (by simp [am_lq]) | exact am_forget (K2 (by omega)) (by simp [am_lq])
      (repeat' (first | with_reducible apply And.intro | with_reducible intro _)) <;> first | omega | exact sp_spread hy ha (by omega) K
set_option maxHeartbeats 400000 in
set_option maxRecDepth 100000 in
theorem sp_lastStart {S : sg_S} {a b e : Int} {h : am_H} {Q : am_P} (hy : ty_ok h S) (ha : 0 ≤ a ∧ a < sg_G S) (hb : 0 ≤ b ∧ b < sg_G S) (he : 0 ≤ e ∧ e < 300) (F : ∀ h1 r, ty_ok h1 S → fr_x h h1 → la_is S a b e r → Q (some (.inl r)) h1) : am_Call 45 [.inr (.inr (some 84)), .inl a, .inl b, .inl e] h Q := by
  simp only [eq_self, and_self, am_up_at, Int.cast_ofNat_Int, Int.reduceNatCast, true_or, or_true, or_false, false_or, Classical.not_not, false_and, and_false, am_bk, am_step, am_ldI, am_ldL, am_ldA, am_nth, am_sto, am_stw_0, am_stw_i, am_stw_n, am_stw_a, am_stw_l, am_br, am_cmp, am_tk, am_cat, am_sw, am_copy, am_R, am_nc0, am_nc1, am_f0, am_f1, am_f2, am_f3, Int.reduceNeg, Int.reduceEq, Int.reduceLE, Int.reduceLT, Nat.reduceLeDiff, Nat.reduceAdd, Nat.reduceEqDiff, true_and, and_true, ↓reduceIte, if_false, if_true, forall_const, not_true_eq_false, not_false_eq_true, false_implies, true_implies, implies_true, Int.reduceAdd, Int.reduceMul, Int.reduceSub, ne_eq, ca_45_84, bl_45_0, gf_84_0, gf_84_1, gf_84_2, ar_43, al_43, gf_84_3, ar_44, al_44, gf_84_4, ar_45, al_45, gf_84_5, ar_46, al_46, gf_84_6, pf_84_6]
  exact lp_lastStart ha hb he F 300 0 0 e (-9) none h (by omega) (by omega) (by omega) (by omega) (by omega) (by omega) (Or.inl ⟨rfl, rfl⟩) (fun t t1 t2 => by omega) hy (fun _ _ _ => rfl)
set_option maxHeartbeats 400000 in
set_option maxRecDepth 100000 in
theorem lp_latestM {S : sg_S} {a b e : Int} {h0 : am_H} {Q : am_P} (hm0 : sg_of h0 = S) (hS : sg_ok S) (hF : tb_fit S) (ha : 0 ≤ a ∧ a < sg_G S) (hb : 0 ≤ b ∧ b < sg_G S) (he : 0 ≤ e ∧ e < 300) (F : ∀ h1 r, fr_m h0 h1 → la_is S a b e r → Q (some (.inl r)) h1) :
    ∀ (m : Nat) (s : Int) (h : am_H), s + 1 = m → s ≤ e → (∀ t, s < t → t ≤ e → ¬ gd S a b e t) → fr_m h0 h → am_Ex 137 18 [some (.inr (.inr (some 86))), some (.inl a), some (.inl b), some (.inl e), some (.inl s)] [] h Q := by
  intro m
  induction m with
  | zero =>
    intro s h s1 s2 s3 hf
    have K := F h (-9) hf (Or.inl ⟨rfl, fun t t1 t2 => s3 t (by omega) t2⟩)
    rw [bl_137_18]
    simp only [eq_self, and_self, am_up_at, Int.cast_ofNat_Int, Int.reduceNatCast, true_or, or_true, or_false, false_or, Classical.not_not, false_and, and_false, am_bk, am_step, am_ldI, am_ldL, am_ldA, am_nth, am_sto, am_stw_0, am_stw_i, am_stw_n, am_stw_a, am_stw_l, am_br, am_cmp, am_tk, am_cat, am_sw, am_copy, am_R, am_nc0, am_nc1, am_f0, am_f1, am_f2, am_f3, Int.reduceNeg, Int.reduceEq, Int.reduceLE, Int.reduceLT, Nat.reduceLeDiff, Nat.reduceAdd, Nat.reduceEqDiff, true_and, and_true, ↓reduceIte, if_false, if_true, forall_const, not_true_eq_false, not_false_eq_true, false_implies, true_implies, implies_true, Int.reduceAdd, Int.reduceMul, Int.reduceSub, ne_eq, ca_137_86, bl_137_31, gf_86_0, pf_86_0, gf_86_1, ar_50, al_50, gf_86_2, pf_86_2, gf_86_3, pf_86_3, gf_86_4, pf_86_4, gf_86_5, pf_86_5, gf_86_6, ar_51, al_51, gf_86_7, ar_52, al_52, gf_86_8, ar_53, al_53, gf_86_9, ar_54, al_54, gf_86_10, ar_55, al_55, gf_86_11, ar_56, al_56, gf_86_12, ar_57, al_57, gf_86_13, pf_86_13, gf_86_14, pf_86_14, gf_86_15, ar_58, al_58, gf_86_16, ar_59, al_59, gf_86_17, ar_60, al_60, gf_86_18, ar_61, al_61, gf_86_19, ar_62, al_62, gf_86_20, pf_86_20, gf_86_21, pf_86_21, gf_86_22, ar_63, al_63, gf_86_23, ar_64, al_64, gf_86_24, ar_65, al_65, gf_86_25, ar_66, al_66, gf_86_26, ar_67, al_67, gf_86_27, ar_68, al_68, gf_86_28, ar_69, al_69, gf_86_29, ar_70, al_70, gf_86_30, ar_71, al_71, gf_86_31, ar_72, al_72, gf_86_32, ar_73, al_73, gf_86_33, ar_74, al_74, gf_86_34, pf_86_34]
    (repeat' (first | with_reducible apply And.intro | with_reducible intro _)) <;> first | omega | exact K
  | succ m ih =>
    intro s h s1 s2 s3 hf
    have em : sg_of h = S := by rw [← hm0]; exact fr_m_sg hf
    rw [bl_137_18]
    simp only [eq_self, and_self, am_up_at, Int.cast_ofNat_Int, Int.reduceNatCast, true_or, or_true, or_false, false_or, Classical.not_not, false_and, and_false, am_bk, am_step, am_ldI, am_ldL, am_ldA, am_nth, am_sto, am_stw_0, am_stw_i, am_stw_n, am_stw_a, am_stw_l, am_br, am_cmp, am_tk, am_cat, am_sw, am_copy, am_R, am_nc0, am_nc1, am_f0, am_f1, am_f2, am_f3, Int.reduceNeg, Int.reduceEq, Int.reduceLE, Int.reduceLT, Nat.reduceLeDiff, Nat.reduceAdd, Nat.reduceEqDiff, true_and, and_true, ↓reduceIte, if_false, if_true, forall_const, not_true_eq_false, not_false_eq_true, false_implies, true_implies, implies_true, Int.reduceAdd, Int.reduceMul, Int.reduceSub, ne_eq, ca_137_86, bl_137_20, gf_86_0, pf_86_0, gf_86_1, ar_50, al_50, gf_86_2, pf_86_2, gf_86_3, pf_86_3, gf_86_4, pf_86_4, gf_86_5, pf_86_5, gf_86_6, ar_51, al_51, gf_86_7, ar_52, al_52, gf_86_8, ar_53, al_53, gf_86_9, ar_54, al_54, gf_86_10, ar_55, al_55, gf_86_11, ar_56, al_56, gf_86_12, ar_57, al_57, gf_86_13, pf_86_13, gf_86_14, pf_86_14, gf_86_15, ar_58, al_58, gf_86_16, ar_59, al_59, gf_86_17, ar_60, al_60, gf_86_18, ar_61, al_61, gf_86_19, ar_62, al_62, gf_86_20, pf_86_20, gf_86_21, pf_86_21, gf_86_22, ar_63, al_63, gf_86_23, ar_64, al_64, gf_86_24, ar_65, al_65, gf_86_25, ar_66, al_66, gf_86_26, ar_67, al_67, gf_86_27, ar_68, al_68, gf_86_28, ar_69, al_69, gf_86_29, ar_70, al_70, gf_86_30, ar_71, al_71, gf_86_31, ar_72, al_72, gf_86_32, ar_73, al_73, gf_86_33, ar_74, al_74, gf_86_34, pf_86_34]
    refine ⟨by omega, fun q => by omega, fun _ => ?_⟩
    refine sp_Msoon em hS hF ha hb (by omega) (fun h1 f1 ar => ?_)
    have fx : fr_m h0 h1 := fun c c1 c2 => (f1 c c1 c2).trans (hf c c1 c2)
    have g := gd_ar (e := e) (by omega) (by omega) (ar b hb.1 hb.2)
    have rb := ar_r (by omega) (by omega) (ar b hb.1 hb.2)
    have K1 : h1 68 b ≤ e → Q (some (.inl s)) h1 := fun q => F h1 s fx (Or.inr ⟨by omega, g.mp q, s3⟩)
    have K2 : ¬ h1 68 b ≤ e → am_Ex 137 18 [some (.inr (.inr (some 86))), some (.inl a), some (.inl b), some (.inl e), some (.inl (s + -1))] [] h1 Q := fun q => ih (s + -1) h1 (by omega) (by omega) (fun t t1 t2 z => by
      by_cases c : t = s
      · rw [c] at z; exact q (g.mpr z)
      · exact s3 t (by omega) t2 z) fx
    simp only [eq_self, and_self, am_up_at, Int.cast_ofNat_Int, Int.reduceNatCast, true_or, or_true, or_false, false_or, Classical.not_not, false_and, and_false, am_bk, am_step, am_ldI, am_ldL, am_ldA, am_nth, am_sto, am_stw_0, am_stw_i, am_stw_n, am_stw_a, am_stw_l, am_br, am_cmp, am_tk, am_cat, am_sw, am_copy, am_R, am_nc0, am_nc1, am_f0, am_f1, am_f2, am_f3, Int.reduceNeg, Int.reduceEq, Int.reduceLE, Int.reduceLT, Nat.reduceLeDiff, Nat.reduceAdd, Nat.reduceEqDiff, true_and, and_true, ↓reduceIte, if_false, if_true, forall_const, not_true_eq_false, not_false_eq_true, false_implies, true_implies, implies_true, Int.reduceAdd, Int.reduceMul, Int.reduceSub, ne_eq, ca_137_86, bl_137_25, bl_137_29, gf_86_0, pf_86_0, gf_86_1, ar_50, al_50, gf_86_2, pf_86_2, gf_86_3, pf_86_3, gf_86_4, pf_86_4, gf_86_5, pf_86_5, gf_86_6, ar_51, al_51, gf_86_7, ar_52, al_52, gf_86_8, ar_53, al_53, gf_86_9, ar_54, al_54, gf_86_10, ar_55, al_55, gf_86_11, ar_56, al_56, gf_86_12, ar_57, al_57, gf_86_13, pf_86_13, gf_86_14, pf_86_14, gf_86_15, ar_58, al_58, gf_86_16, ar_59, al_59, gf_86_17, ar_60, al_60, gf_86_18, ar_61, al_61, gf_86_19, ar_62, al_62, gf_86_20, pf_86_20, gf_86_21, pf_86_21, gf_86_22, ar_63, al_63, gf_86_23, ar_64, al_64, gf_86_24, ar_65, al_65, gf_86_25, ar_66, al_66, gf_86_26, ar_67, al_67, gf_86_27, ar_68, al_68, gf_86_28, ar_69, al_69, gf_86_29, ar_70, al_70, gf_86_30, ar_71, al_71, gf_86_31, ar_72, al_72, gf_86_32, ar_73, al_73, gf_86_33, ar_74, al_74, gf_86_34, pf_86_34]
    (repeat' (first | with_reducible apply And.intro | with_reducible intro _)) <;> first | omega | exact K1 (by omega) | exact K2 (by omega)
set_option maxHeartbeats 400000 in
set_option maxRecDepth 100000 in
theorem pr_latest {h : am_H} {k x y z : Int} (hx : am_R x) (hy : am_R y) (hz : am_R z) (hi : iv h k) (hk : k ≤ 600) : rg_pair 74 137 [.inl x, .inl y, .inl z] h k := by
  unfold rg_pair
  have hthr := iv_thr hi
  have hS := hi.1
  have hF := tb_fit_of hi
  have e1 := hS.2.1
  have c2 := hi.2.1.2.1
  have eG : sg_G (sg_of h) = h 86 5 := rfl
  refine gx_latest hx hy hz (by omega) (fun V => ?_) (fun V => ?_)
  · exact gm_latest hx hy hz (by omega) (fun _ => rg_leaf rfl (by omega) hthr) (fun V' => absurd V' (by omega))
  · simp only [eq_self, and_self, am_up_at, Int.cast_ofNat_Int, Int.reduceNatCast, true_or, or_true, or_false, false_or, Classical.not_not, false_and, and_false, am_bk, am_step, am_ldI, am_ldL, am_ldA, am_nth, am_sto, am_stw_0, am_stw_i, am_stw_n, am_stw_a, am_stw_l, am_br, am_cmp, am_tk, am_cat, am_sw, am_copy, am_R, am_nc0, am_nc1, am_f0, am_f1, am_f2, am_f3, Int.reduceNeg, Int.reduceEq, Int.reduceLE, Int.reduceLT, Nat.reduceLeDiff, Nat.reduceAdd, Nat.reduceEqDiff, true_and, and_true, ↓reduceIte, if_false, if_true, forall_const, not_true_eq_false, not_false_eq_true, false_implies, true_implies, implies_true, Int.reduceAdd, Int.reduceMul, Int.reduceSub, ne_eq, ca_74_75, bl_74_10, gf_75_0, ar_0, al_0, gf_75_1, pf_75_1, gf_75_2, gf_75_3, gf_75_4, gf_75_5, gf_75_6, gf_75_7, gf_75_8, gf_75_9, gf_75_10]
    refine sp_lay0 hi hk (fun h1 y1 l10 l9 lc => ?_)
    have hg : 0 ≤ x ∧ x < sg_G (sg_of h) := by omega
    have hg2 : 0 ≤ y ∧ y < sg_G (sg_of h) := by omega
    simp only [eq_self, and_self, am_up_at, Int.cast_ofNat_Int, Int.reduceNatCast, true_or, or_true, or_false, false_or, Classical.not_not, false_and, and_false, am_bk, am_step, am_ldI, am_ldL, am_ldA, am_nth, am_sto, am_stw_0, am_stw_i, am_stw_n, am_stw_a, am_stw_l, am_br, am_cmp, am_tk, am_cat, am_sw, am_copy, am_R, am_nc0, am_nc1, am_f0, am_f1, am_f2, am_f3, Int.reduceNeg, Int.reduceEq, Int.reduceLE, Int.reduceLT, Nat.reduceLeDiff, Nat.reduceAdd, Nat.reduceEqDiff, true_and, and_true, ↓reduceIte, if_false, if_true, forall_const, not_true_eq_false, not_false_eq_true, false_implies, true_implies, implies_true, Int.reduceAdd, Int.reduceMul, Int.reduceSub, ne_eq, ca_74_75, bl_74_15, gf_75_0, ar_0, al_0, gf_75_1, pf_75_1, gf_75_2, gf_75_3, gf_75_4, gf_75_5, gf_75_6, gf_75_7, gf_75_8, gf_75_9, gf_75_10]
    refine sp_lastStart y1 hg hg2 (by omega) (fun h2 r y2 f2 lr => ?_)
    have X : xd h h2 k := xd_of hi y2 (by rw [f2 83 (by omega) (by omega)]; omega) (by rw [f2 83 (by omega) (by omega)]; exact l9) (cx_x (fun c c1 c2 c3 c4 _ _ _ _ => (f2 c c3 c4).trans (lc c c1 c2)))
    have f86 := X.1 86 (by omega)
    have mod : am_Call 137 [.inr (.inr (some 86)), .inl x, .inl y, .inl z] h2 (rg_post k (some (.inl r))) := by
      refine gm_latest hx hy hz (by rw [f86]; omega) (fun V' => absurd V (by rw [f86] at V'; omega)) (fun V' => ?_)
      have em : sg_of (am_up h2 86 0 0) = sg_of h := (mx_sg (mx_thr h2)).trans (cx_sg X.1)
      simp only [eq_self, and_self, am_up_at, Int.cast_ofNat_Int, Int.reduceNatCast, true_or, or_true, or_false, false_or, Classical.not_not, false_and, and_false, am_bk, am_step, am_ldI, am_ldL, am_ldA, am_nth, am_sto, am_stw_0, am_stw_i, am_stw_n, am_stw_a, am_stw_l, am_br, am_cmp, am_tk, am_cat, am_sw, am_copy, am_R, am_nc0, am_nc1, am_f0, am_f1, am_f2, am_f3, Int.reduceNeg, Int.reduceEq, Int.reduceLE, Int.reduceLT, Nat.reduceLeDiff, Nat.reduceAdd, Nat.reduceEqDiff, true_and, and_true, ↓reduceIte, if_false, if_true, forall_const, not_true_eq_false, not_false_eq_true, false_implies, true_implies, implies_true, Int.reduceAdd, Int.reduceMul, Int.reduceSub, ne_eq, ca_137_86, bl_137_16, gf_86_0, pf_86_0, gf_86_1, ar_50, al_50, gf_86_2, pf_86_2, gf_86_3, pf_86_3, gf_86_4, pf_86_4, gf_86_5, pf_86_5, gf_86_6, ar_51, al_51, gf_86_7, ar_52, al_52, gf_86_8, ar_53, al_53, gf_86_9, ar_54, al_54, gf_86_10, ar_55, al_55, gf_86_11, ar_56, al_56, gf_86_12, ar_57, al_57, gf_86_13, pf_86_13, gf_86_14, pf_86_14, gf_86_15, ar_58, al_58, gf_86_16, ar_59, al_59, gf_86_17, ar_60, al_60, gf_86_18, ar_61, al_61, gf_86_19, ar_62, al_62, gf_86_20, pf_86_20, gf_86_21, pf_86_21, gf_86_22, ar_63, al_63, gf_86_23, ar_64, al_64, gf_86_24, ar_65, al_65, gf_86_25, ar_66, al_66, gf_86_26, ar_67, al_67, gf_86_27, ar_68, al_68, gf_86_28, ar_69, al_69, gf_86_29, ar_70, al_70, gf_86_30, ar_71, al_71, gf_86_31, ar_72, al_72, gf_86_32, ar_73, al_73, gf_86_33, ar_74, al_74, gf_86_34, pf_86_34]
      refine lp_latestM em hS hF hg hg2 (by omega) (fun h3 r' f3 lr' => ?_) (z + 1).toNat z _ (by omega) (by omega) (fun t t1 t2 => by omega) (fun _ _ _ => rfl)
      have rr : -9 ≤ r ∧ r < 300 := by rcases lr with q | q <;> omega
      exact rg_leaf (la_one lr' lr) (by omega) (ed hi X (mx_t (mx_thr h2) (mx_fr f3)))
    simp only [eq_self, and_self, am_up_at, Int.cast_ofNat_Int, Int.reduceNatCast, true_or, or_true, or_false, false_or, Classical.not_not, false_and, and_false, am_bk, am_step, am_ldI, am_ldL, am_ldA, am_nth, am_sto, am_stw_0, am_stw_i, am_stw_n, am_stw_a, am_stw_l, am_br, am_cmp, am_tk, am_cat, am_sw, am_copy, am_R, am_nc0, am_nc1, am_f0, am_f1, am_f2, am_f3, Int.reduceNeg, Int.reduceEq, Int.reduceLE, Int.reduceLT, Nat.reduceLeDiff, Nat.reduceAdd, Nat.reduceEqDiff, true_and, and_true, ↓reduceIte, if_false, if_true, forall_const, not_true_eq_false, not_false_eq_true, false_implies, true_implies, implies_true, Int.reduceAdd, Int.reduceMul, Int.reduceSub, ne_eq, ca_74_75, bl_74_21, gf_75_0, ar_0, al_0, gf_75_1, pf_75_1, gf_75_2, gf_75_3, gf_75_4, gf_75_5, gf_75_6, gf_75_7, gf_75_8, gf_75_9, gf_75_10]
    exact mod
