/-! the class: fill, walk, reach, soonestOf, spread -/
set_option maxHeartbeats 400000 in
set_option maxRecDepth 100000 in
theorem lp_fill {c : Nat} {n v : Int} {nn : Nat} (hl : ∀ K : Nat → Prop, am_al0 (am_lay c) K = K nn) (ha : ∀ K : Nat → Prop, am_ar (am_lay c) .int K = K nn) (hn : (nn : Int) = n) (hn2 : n ≤ 10000) {h0 : am_H} {Q : am_P} (H : ∀ h1, (∀ c', c' ≠ c → h1 c' = h0 c') → (∀ j, h1 c j = if 0 ≤ j ∧ j < n then v else h0 c j) → Q none h1) :
    ∀ (m : Nat) (i : Int) (h : am_H), 0 ≤ i → i + m = n → (∀ c', c' ≠ c → h c' = h0 c') → (∀ j, h c j = if 0 ≤ j ∧ j < i then v else h0 c j) → am_Ex 162 5 [some (.inr (.inr (some c))), some (.inl v), some (.inl i), some (.inl n)] [] h Q := by
  intro m
  induction m with
  | zero =>
    intro i h i0 i1 e1 e2
    rw [bl_162_5]
    simp only [eq_self, and_self, am_up_at, Int.cast_ofNat_Int, Int.reduceNatCast, true_or, or_true, or_false, false_or, Classical.not_not, false_and, and_false, am_bk, am_step, am_ldI, am_ldL, am_ldA, am_nth, am_sto, am_stw_0, am_stw_i, am_stw_n, am_stw_a, am_stw_l, am_br, am_cmp, am_tk, am_cat, am_sw, am_copy, am_R, am_nc0, am_nc1, am_f0, am_f1, am_f2, am_f3, Int.reduceNeg, Int.reduceEq, Int.reduceLE, Int.reduceLT, Nat.reduceLeDiff, Nat.reduceAdd, Nat.reduceEqDiff, true_and, and_true, ↓reduceIte, if_false, if_true, forall_const, not_true_eq_false, not_false_eq_true, false_implies, true_implies, implies_true, Int.reduceAdd, Int.reduceMul, Int.reduceSub, ne_eq, ca_162, bl_162_14]
    have := H h e1 (fun j => by rw [e2 j, show i = n by omega])
    (repeat' (first | with_reducible apply And.intro | with_reducible intro _)) <;> first | omega | exact this
  | succ m ih =>
    intro i h i0 i1 e1 e2
    rw [bl_162_5]
    simp only [eq_self, and_self, am_up_at, Int.cast_ofNat_Int, Int.reduceNatCast, true_or, or_true, or_false, false_or, Classical.not_not, false_and, and_false, am_bk, am_step, am_ldI, am_ldL, am_ldA, am_nth, am_sto, am_stw_0, am_stw_i, am_stw_n, am_stw_a, am_stw_l, am_br, am_cmp, am_tk, am_cat, am_sw, am_copy, am_R, am_nc0, am_nc1, am_f0, am_f1, am_f2, am_f3, Int.reduceNeg, Int.reduceEq, Int.reduceLE, Int.reduceLT, Nat.reduceLeDiff, Nat.reduceAdd, Nat.reduceEqDiff, true_and, and_true, ↓reduceIte, if_false, if_true, forall_const, not_true_eq_false, not_false_eq_true, false_implies, true_implies, implies_true, Int.reduceAdd, Int.reduceMul, Int.reduceSub, ne_eq, ca_162, bl_162_8, ha]
    refine ⟨by omega, fun q => by omega, fun _ => ⟨by omega, ih (i + 1) _ (by omega) (by omega) (fun c' hc => ?_) (fun j => ?_)⟩⟩
    · rw [am_up_ne hc]; exact e1 c' hc
    · simp only [am_up_at, true_and]
      rw [e2 j]
      by_cases c : j = i
      · rw [if_pos c, if_pos (by omega)]
      · rw [if_neg c]
        by_cases c2 : 0 ≤ j ∧ j < i
        · rw [if_pos c2, if_pos (by omega)]
        · rw [if_neg c2, if_neg (by omega)]
set_option maxHeartbeats 400000 in
set_option maxRecDepth 100000 in
theorem sp_fill {c : Nat} {n v : Int} {nn : Nat} (hl : ∀ K : Nat → Prop, am_al0 (am_lay c) K = K nn) (ha : ∀ K : Nat → Prop, am_ar (am_lay c) .int K = K nn) (hn : (nn : Int) = n) (hn2 : n ≤ 10000) {h : am_H} {Q : am_P} (H : ∀ h1, (∀ c', c' ≠ c → h1 c' = h c') → (∀ j, h1 c j = if 0 ≤ j ∧ j < n then v else h c j) → Q none h1) : am_Call 162 [.inr (.inr (some c)), .inl v] h Q := by
  simp only [eq_self, and_self, am_up_at, Int.cast_ofNat_Int, Int.reduceNatCast, true_or, or_true, or_false, false_or, Classical.not_not, false_and, and_false, am_bk, am_step, am_ldI, am_ldL, am_ldA, am_nth, am_sto, am_stw_0, am_stw_i, am_stw_n, am_stw_a, am_stw_l, am_br, am_cmp, am_tk, am_cat, am_sw, am_copy, am_R, am_nc0, am_nc1, am_f0, am_f1, am_f2, am_f3, Int.reduceNeg, Int.reduceEq, Int.reduceLE, Int.reduceLT, Nat.reduceLeDiff, Nat.reduceAdd, Nat.reduceEqDiff, true_and, and_true, ↓reduceIte, if_false, if_true, forall_const, not_true_eq_false, not_false_eq_true, false_implies, true_implies, implies_true, Int.reduceAdd, Int.reduceMul, Int.reduceSub, ne_eq, ca_162, bl_162_0, hl, hn]
  exact lp_fill hl ha hn hn2 H n.toNat 0 h (by omega) (by omega) (fun _ _ => rfl) (fun j => by rw [if_neg (by omega)])
set_option maxHeartbeats 400000 in
set_option maxRecDepth 100000 in
theorem sp_walk {S : sg_S} {a b : Int} {h : am_H} {Q : am_P} (hS : sg_ok S) (hP : pl_ok h S) (ha : 0 ≤ a ∧ a < sg_G S) (hb : 0 ≤ b ∧ b < sg_G S) (H : Q (some (.inl (wk S a b))) h) : am_Call 17 [.inr (.inr (some 78)), .inl a, .inl b] h Q := by
  have G := hS.2.1
  have U := hS.1
  have pa := (hS.2.2.1 a ha.1 ha.2).2.2.1
  have pb := (hS.2.2.1 b hb.1 hb.2).2.2.1
  have ea := (hP.2.2 a ha.1 ha.2).2.2.1
  have eb := (hP.2.2 b hb.1 hb.2).2.2.1
  have e0 := hP.1
  simp only [eq_self, and_self, am_up_at, Int.cast_ofNat_Int, Int.reduceNatCast, true_or, or_true, or_false, false_or, Classical.not_not, false_and, and_false, am_bk, am_step, am_ldI, am_ldL, am_ldA, am_nth, am_sto, am_stw_0, am_stw_i, am_stw_n, am_stw_a, am_stw_l, am_br, am_cmp, am_tk, am_cat, am_sw, am_copy, am_R, am_nc0, am_nc1, am_f0, am_f1, am_f2, am_f3, Int.reduceNeg, Int.reduceEq, Int.reduceLE, Int.reduceLT, Nat.reduceLeDiff, Nat.reduceAdd, Nat.reduceEqDiff, true_and, and_true, ↓reduceIte, if_false, if_true, forall_const, not_true_eq_false, not_false_eq_true, false_implies, true_implies, implies_true, Int.reduceAdd, Int.reduceMul, Int.reduceSub, ne_eq, ca_17_78, bl_17_0, bl_17_10, bl_17_18, bl_17_19, ca_158, bl_158_0, bl_158_5, bl_158_6, ca_160, bl_160_0, bl_160_5, bl_160_6, ca_159, bl_159_0, bl_159_5, bl_159_6, gf_78_0, pf_78_0, gf_78_1, pf_78_1, gf_78_2, ar_6, al_6, gf_78_3, ar_7, al_7, gf_78_4, ar_8, al_8, gf_78_5, ar_9, al_9, gf_78_6, ar_10, al_10, ea, eb, e0]
  (repeat' (first | with_reducible apply And.intro | with_reducible intro _)) <;> first | omega | (refine am_leaf H ?_; unfold wk; simp only; (repeat' split) <;> omega)
/-- what spreading may change -/
def fr_x (h h1 : am_H) : Prop := ∀ c, c ≠ 42 → c ≠ 43 → h1 c = h c
theorem wf_fr {h h1 : am_H} {S : sg_S} (hw : wt_wf h h1 S) : ∀ c, c ≠ 42 → h1 c = h c := hw.1
set_option maxHeartbeats 400000 in
set_option maxRecDepth 100000 in
theorem sp_reach {S : sg_S} {a b t : Int} {h : am_H} {Q : am_P} (hy : ty_ok h S) (ha : 0 ≤ a ∧ a < sg_G S) (hb : 0 ≤ b ∧ b < sg_G S) (ht : 0 ≤ t ∧ t ≤ 90000)
    (H : ∀ h1 r, ty_ok h1 S → (∀ c, c ≠ 42 → h1 c = h c) → rc 1000000 S a t b r → 0 ≤ r → r ≤ 1000000 → Q (some (.inl r)) h1) : am_Call 41 [.inr (.inr (some 84)), .inl a, .inl b, .inl t] h Q := by
  obtain ⟨hS, hF, hT, hP, hR, hL, hok, hrg⟩ := id hy
  have G := hS.2.1
  have U := hS.1
  have ea := (hP.2.2 a ha.1 ha.2).1
  have eb := (hP.2.2 b hb.1 hb.2).1
  have w := wk_r hS ha hb
  have ra := (hS.2.2.1 a ha.1 ha.2).1
  have rb := (hS.2.2.1 b hb.1 hb.2).1
  simp only [eq_self, and_self, am_up_at, Int.cast_ofNat_Int, Int.reduceNatCast, true_or, or_true, or_false, false_or, Classical.not_not, false_and, and_false, am_bk, am_step, am_ldI, am_ldL, am_ldA, am_nth, am_sto, am_stw_0, am_stw_i, am_stw_n, am_stw_a, am_stw_l, am_br, am_cmp, am_tk, am_cat, am_sw, am_copy, am_R, am_nc0, am_nc1, am_f0, am_f1, am_f2, am_f3, Int.reduceNeg, Int.reduceEq, Int.reduceLE, Int.reduceLT, Nat.reduceLeDiff, Nat.reduceAdd, Nat.reduceEqDiff, true_and, and_true, ↓reduceIte, if_false, if_true, forall_const, not_true_eq_false, not_false_eq_true, false_implies, true_implies, implies_true, Int.reduceAdd, Int.reduceMul, Int.reduceSub, ne_eq, ca_41_84, bl_41_0, bl_41_12, gf_84_0, gf_84_1, gf_84_2, ar_43, al_43, gf_84_3, ar_44, al_44, gf_84_4, ar_45, al_45, gf_84_5, ar_46, al_46, gf_84_6, pf_84_6, gf_78_0, pf_78_0, gf_78_1, pf_78_1, gf_78_2, ar_6, al_6, gf_78_3, ar_7, al_7, gf_78_4, ar_8, al_8, gf_78_5, ar_9, al_9, gf_78_6, ar_10, al_10, ea, eb]
  refine ⟨by omega, by omega, by omega, fun q => ?_, fun q => ?_⟩
  · have out : ∀ j, jn_ok h S a b j → am_Ex 41 26 [some (.inr (.inr (some 84))), some (.inl a), some (.inl b), some (.inl t), none] [.inl j, .inr (.inr (some 83))] h Q := by
      intro j hj
      have jr := jn_ok_r hR ha hb hj
      simp only [eq_self, and_self, am_up_at, Int.cast_ofNat_Int, Int.reduceNatCast, true_or, or_true, or_false, false_or, Classical.not_not, false_and, and_false, am_bk, am_step, am_ldI, am_ldL, am_ldA, am_nth, am_sto, am_stw_0, am_stw_i, am_stw_n, am_stw_a, am_stw_l, am_br, am_cmp, am_tk, am_cat, am_sw, am_copy, am_R, am_nc0, am_nc1, am_f0, am_f1, am_f2, am_f3, Int.reduceNeg, Int.reduceEq, Int.reduceLE, Int.reduceLT, Nat.reduceLeDiff, Nat.reduceAdd, Nat.reduceEqDiff, true_and, and_true, ↓reduceIte, if_false, if_true, forall_const, not_true_eq_false, not_false_eq_true, false_implies, true_implies, implies_true, Int.reduceAdd, Int.reduceMul, Int.reduceSub, ne_eq, ca_41_84, bl_41_26, gf_84_0, gf_84_1, gf_84_2, ar_43, al_43, gf_84_3, ar_44, al_44, gf_84_4, ar_45, al_45, gf_84_5, ar_46, al_46, gf_84_6, pf_84_6]
      refine sp_waitFor hS hF hT hP hR ha hb (by omega) hj hL hok hrg (fun h1 w w1 w2 w3 w4 w5 => ?_) (fun h1 w1 w2 => ?_)
      · simp only [eq_self, and_self, am_up_at, Int.cast_ofNat_Int, Int.reduceNatCast, true_or, or_true, or_false, false_or, Classical.not_not, false_and, and_false, am_bk, am_step, am_ldI, am_ldL, am_ldA, am_nth, am_sto, am_stw_0, am_stw_i, am_stw_n, am_stw_a, am_stw_l, am_br, am_cmp, am_tk, am_cat, am_sw, am_copy, am_R, am_nc0, am_nc1, am_f0, am_f1, am_f2, am_f3, Int.reduceNeg, Int.reduceEq, Int.reduceLE, Int.reduceLT, Nat.reduceLeDiff, Nat.reduceAdd, Nat.reduceEqDiff, true_and, and_true, ↓reduceIte, if_false, if_true, forall_const, not_true_eq_false, not_false_eq_true, false_implies, true_implies, implies_true, Int.reduceAdd, Int.reduceMul, Int.reduceSub, ne_eq, ca_41_84, bl_41_28, bl_41_34, bl_41_39, gf_84_0, gf_84_1, gf_84_2, ar_43, al_43, gf_84_3, ar_44, al_44, gf_84_4, ar_45, al_45, gf_84_5, ar_46, al_46, gf_84_6, pf_84_6]
        have K := H h1 (t + w + 1) (ty_wf hy w1) w1.1 (Or.inl (Or.inr ⟨q, by rw [show t + w + 1 - 1 = t + w by omega]; exact ⟨by omega, by omega, w4, w5⟩⟩)) (by omega) (by omega)
        (repeat' (first | with_reducible apply And.intro | with_reducible intro _)) <;> first | omega | exact K
      · simp only [eq_self, and_self, am_up_at, Int.cast_ofNat_Int, Int.reduceNatCast, true_or, or_true, or_false, false_or, Classical.not_not, false_and, and_false, am_bk, am_step, am_ldI, am_ldL, am_ldA, am_nth, am_sto, am_stw_0, am_stw_i, am_stw_n, am_stw_a, am_stw_l, am_br, am_cmp, am_tk, am_cat, am_sw, am_copy, am_R, am_nc0, am_nc1, am_f0, am_f1, am_f2, am_f3, Int.reduceNeg, Int.reduceEq, Int.reduceLE, Int.reduceLT, Nat.reduceLeDiff, Nat.reduceAdd, Nat.reduceEqDiff, true_and, and_true, ↓reduceIte, if_false, if_true, forall_const, not_true_eq_false, not_false_eq_true, false_implies, true_implies, implies_true, Int.reduceAdd, Int.reduceMul, Int.reduceSub, ne_eq, ca_41_84, bl_41_28, bl_41_34, bl_41_39, gf_84_0, gf_84_1, gf_84_2, ar_43, al_43, gf_84_3, ar_44, al_44, gf_84_4, ar_45, al_45, gf_84_5, ar_46, al_46, gf_84_6, pf_84_6]
        have K := H h1 1000000 (ty_wf hy w1) w1.1 (Or.inr ⟨rfl, fun v hv => by
          rcases hv with ⟨z, _⟩ | ⟨_, z⟩
          · exact q z
          · exact w2 _ z.1 z.2.2.1⟩) (by omega) (by omega)
        (repeat' (first | with_reducible apply And.intro | with_reducible intro _)) <;> first | omega | exact K
    simp only [eq_self, and_self, am_up_at, Int.cast_ofNat_Int, Int.reduceNatCast, true_or, or_true, or_false, false_or, Classical.not_not, false_and, and_false, am_bk, am_step, am_ldI, am_ldL, am_ldA, am_nth, am_sto, am_stw_0, am_stw_i, am_stw_n, am_stw_a, am_stw_l, am_br, am_cmp, am_tk, am_cat, am_sw, am_copy, am_R, am_nc0, am_nc1, am_f0, am_f1, am_f2, am_f3, Int.reduceNeg, Int.reduceEq, Int.reduceLE, Int.reduceLT, Nat.reduceLeDiff, Nat.reduceAdd, Nat.reduceEqDiff, true_and, and_true, ↓reduceIte, if_false, if_true, forall_const, not_true_eq_false, not_false_eq_true, false_implies, true_implies, implies_true, Int.reduceAdd, Int.reduceMul, Int.reduceSub, ne_eq, ca_41_84, bl_41_19, gf_84_0, gf_84_1, gf_84_2, ar_43, al_43, gf_84_3, ar_44, al_44, gf_84_4, ar_45, al_45, gf_84_5, ar_46, al_46, gf_84_6, pf_84_6]
    refine sp_joinOf hS hP ha hb (fun z => out _ (Or.inl ⟨rfl, z⟩)) (fun z => out _ (Or.inr ⟨rfl, z⟩))
  · refine sp_walk hS hP ha hb ?_
    simp only [eq_self, and_self, am_up_at, Int.cast_ofNat_Int, Int.reduceNatCast, true_or, or_true, or_false, false_or, Classical.not_not, false_and, and_false, am_bk, am_step, am_ldI, am_ldL, am_ldA, am_nth, am_sto, am_stw_0, am_stw_i, am_stw_n, am_stw_a, am_stw_l, am_br, am_cmp, am_tk, am_cat, am_sw, am_copy, am_R, am_nc0, am_nc1, am_f0, am_f1, am_f2, am_f3, Int.reduceNeg, Int.reduceEq, Int.reduceLE, Int.reduceLT, Nat.reduceLeDiff, Nat.reduceAdd, Nat.reduceEqDiff, true_and, and_true, ↓reduceIte, if_false, if_true, forall_const, not_true_eq_false, not_false_eq_true, false_implies, true_implies, implies_true, Int.reduceAdd, Int.reduceMul, Int.reduceSub, ne_eq, ca_41_84, bl_41_17, gf_84_0, gf_84_1, gf_84_2, ar_43, al_43, gf_84_3, ar_44, al_44, gf_84_4, ar_45, al_45, gf_84_5, ar_46, al_46, gf_84_6, pf_84_6]
    have K := H h (t + wk S a b) hy (fun _ _ => rfl) (Or.inl (Or.inl ⟨by omega, rfl⟩)) (by omega) (by omega)
    (repeat' (first | with_reducible apply And.intro | with_reducible intro _)) <;> first | omega | exact K
