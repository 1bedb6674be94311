/-! waitFor, next -/
set_option maxHeartbeats 400000 in
set_option maxRecDepth 100000 in
theorem sp_waitN {t : Int} {h : am_H} {Q : am_P} (H : Q (some (.inl 1000000)) h) : am_Call 37 [.inr (.inr (some 83)), .inl (-1), .inl t] h Q := by
  simp only [eq_self, and_self, am_up_at, Int.cast_ofNat_Int, Int.reduceNatCast, true_or, or_true, or_false, false_or, Classical.not_not, false_and, and_false, am_bk, am_step, am_ldI, am_ldL, am_ldA, am_nth, am_sto, am_stw_0, am_stw_i, am_stw_n, am_stw_a, am_stw_l, am_br, am_cmp, am_tk, am_cat, am_sw, am_copy, am_R, am_nc0, am_nc1, am_f0, am_f1, am_f2, am_f3, Int.reduceNeg, Int.reduceEq, Int.reduceLE, Int.reduceLT, Nat.reduceLeDiff, Nat.reduceAdd, Nat.reduceEqDiff, true_and, and_true, ↓reduceIte, if_false, if_true, forall_const, not_true_eq_false, not_false_eq_true, false_implies, true_implies, implies_true, Int.reduceAdd, Int.reduceMul, Int.reduceSub, ne_eq, ca_37_83, bl_37_0, bl_37_3, ca_35_83, bl_35_0, bl_35_8, bl_35_9, gf_83_0, gf_83_1, ar_35, al_35, gf_83_2, ar_36, al_36, gf_83_3, ar_37, al_37, gf_83_4, ar_38, al_38, gf_83_5, ar_39, al_39, gf_83_6, ar_40, al_40, gf_83_7, ar_41, al_41, gf_83_8, ar_42, al_42, gf_83_9, pf_83_9, gf_83_10, pf_83_10, gf_83_11, pf_83_11, gf_83_12, pf_83_12]
  (repeat' (first | with_reducible apply And.intro | with_reducible intro _)) <;> first | omega | exact H
set_option maxHeartbeats 400000 in
set_option maxRecDepth 100000 in
theorem sp_waitP {S : sg_S} {o n t : Int} {h : am_H} {Q : am_P} (hS : sg_ok S) (hF : tb_fit S) (hT : tb_ok h S) (hP : pl_ok h S) (hR : pr_ok h S) (ho : 0 ≤ o ∧ o < sg_G S) (hn : 0 ≤ n ∧ n < sg_G S) (ht : 0 ≤ t ∧ t ≤ 100000) (hon : sg_ri S o + 1 = sg_ri S n) (hp : h 36 (8 * o + n) ≠ -1) (hL : 0 ≤ h 83 10 ∧ h 83 10 ≤ 1000000) (hok : wt_ok h S) (hrg : wt_rg h)
    (F : ∀ h1 w, wt_wf h h1 S → 0 ≤ w → w < 505 → pp_at S o n (t + w) → (∀ q, t ≤ q → q < t + w → ¬ pp_at S o n q) → Q (some (.inl w)) h1) (N : ∀ h1, wt_wf h h1 S → (∀ q, t ≤ q → ¬ pp_at S o n q) → Q (some (.inl 1000000)) h1) :
    am_Call 37 [.inr (.inr (some 83)), .inl (h 36 (8 * o + n)), .inl t] h Q := by
  have R := (hR.2 o n ho.1 ho.2 hn.1 hn.2).1
  have R0 := hR.1
  have st := (tb_st_r hS hF).1
  have hU := hS.1
  have fr := tb_fo_r hS hF (t := t) ht.1
  have sh : ∀ x, 0 ≤ x → (pp_at S o n (tb_fo S t + x) ↔ pp_at S o n (t + x)) := fun x hx => pp_f hS hF ho hn ht.1 hx
  simp only [eq_self, and_self, am_up_at, Int.cast_ofNat_Int, Int.reduceNatCast, true_or, or_true, or_false, false_or, Classical.not_not, false_and, and_false, am_bk, am_step, am_ldI, am_ldL, am_ldA, am_nth, am_sto, am_stw_0, am_stw_i, am_stw_n, am_stw_a, am_stw_l, am_br, am_cmp, am_tk, am_cat, am_sw, am_copy, am_R, am_nc0, am_nc1, am_f0, am_f1, am_f2, am_f3, Int.reduceNeg, Int.reduceEq, Int.reduceLE, Int.reduceLT, Nat.reduceLeDiff, Nat.reduceAdd, Nat.reduceEqDiff, true_and, and_true, ↓reduceIte, if_false, if_true, forall_const, not_true_eq_false, not_false_eq_true, false_implies, true_implies, implies_true, Int.reduceAdd, Int.reduceMul, Int.reduceSub, ne_eq, ca_37_83, bl_37_0, bl_37_3, bl_37_6, ca_35_83, bl_35_0, bl_35_8, bl_35_9, gf_83_0, gf_83_1, ar_35, al_35, gf_83_2, ar_36, al_36, gf_83_3, ar_37, al_37, gf_83_4, ar_38, al_38, gf_83_5, ar_39, al_39, gf_83_6, ar_40, al_40, gf_83_7, ar_41, al_41, gf_83_8, ar_42, al_42, gf_83_9, pf_83_9, gf_83_10, pf_83_10, gf_83_11, pf_83_11, gf_83_12, pf_83_12]
  (repeat' (first | with_reducible apply And.intro | with_reducible intro _)) <;> first | omega | skip
  all_goals (
    refine sp_fold hS hF hT ht ?_
    simp only [eq_self, and_self, am_up_at, Int.cast_ofNat_Int, Int.reduceNatCast, true_or, or_true, or_false, false_or, Classical.not_not, false_and, and_false, am_bk, am_step, am_ldI, am_ldL, am_ldA, am_nth, am_sto, am_stw_0, am_stw_i, am_stw_n, am_stw_a, am_stw_l, am_br, am_cmp, am_tk, am_cat, am_sw, am_copy, am_R, am_nc0, am_nc1, am_f0, am_f1, am_f2, am_f3, Int.reduceNeg, Int.reduceEq, Int.reduceLE, Int.reduceLT, Nat.reduceLeDiff, Nat.reduceAdd, Nat.reduceEqDiff, true_and, and_true, ↓reduceIte, if_false, if_true, forall_const, not_true_eq_false, not_false_eq_true, false_implies, true_implies, implies_true, Int.reduceAdd, Int.reduceMul, Int.reduceSub, ne_eq, ca_37_83, bl_37_9, gf_83_0, gf_83_1, ar_35, al_35, gf_83_2, ar_36, al_36, gf_83_3, ar_37, al_37, gf_83_4, ar_38, al_38, gf_83_5, ar_39, al_39, gf_83_6, ar_40, al_40, gf_83_7, ar_41, al_41, gf_83_8, ar_42, al_42, gf_83_9, pf_83_9, gf_83_10, pf_83_10, gf_83_11, pf_83_11, gf_83_12, pf_83_12]
    refine sp_horizon hS hF hT hP (by omega) ?_
    simp only [eq_self, and_self, am_up_at, Int.cast_ofNat_Int, Int.reduceNatCast, true_or, or_true, or_false, false_or, Classical.not_not, false_and, and_false, am_bk, am_step, am_ldI, am_ldL, am_ldA, am_nth, am_sto, am_stw_0, am_stw_i, am_stw_n, am_stw_a, am_stw_l, am_br, am_cmp, am_tk, am_cat, am_sw, am_copy, am_R, am_nc0, am_nc1, am_f0, am_f1, am_f2, am_f3, Int.reduceNeg, Int.reduceEq, Int.reduceLE, Int.reduceLT, Nat.reduceLeDiff, Nat.reduceAdd, Nat.reduceEqDiff, true_and, and_true, ↓reduceIte, if_false, if_true, forall_const, not_true_eq_false, not_false_eq_true, false_implies, true_implies, implies_true, Int.reduceAdd, Int.reduceMul, Int.reduceSub, ne_eq, ca_37_83, bl_37_13, gf_83_0, gf_83_1, ar_35, al_35, gf_83_2, ar_36, al_36, gf_83_3, ar_37, al_37, gf_83_4, ar_38, al_38, gf_83_5, ar_39, al_39, gf_83_6, ar_40, al_40, gf_83_7, ar_41, al_41, gf_83_8, ar_42, al_42, gf_83_9, pf_83_9, gf_83_10, pf_83_10, gf_83_11, pf_83_11, gf_83_12, pf_83_12]
    have hze : tb_fo S t + ((if tb_st S < tb_fo S t then 0 else tb_st S - tb_fo S t) + sg_U S) = (if tb_fo S t < tb_st S then tb_st S else tb_fo S t) + sg_U S := by
      (repeat' split) <;> omega
    have hzr : 0 ≤ (if tb_st S < tb_fo S t then 0 else tb_st S - tb_fo S t) + sg_U S ∧ (if tb_st S < tb_fo S t then 0 else tb_st S - tb_fo S t) + sg_U S ≤ 505 := by
      split <;> omega
    generalize (if tb_st S < tb_fo S t then 0 else tb_st S - tb_fo S t) + sg_U S = e at hze hzr ⊢
    have L := lp_wait (t := t) hS hF hT hP hR ho hn hon hp hL hok hrg fr hze hzr.2 (Q := Q) (fun h1 w a1 a2 a3 a4 a5 => F h1 w a1 a2 a3 ((sh w a2).mp a4) (fun q q1 q2 => ?_)) (fun h1 a1 a2 => N h1 a1 (fun q q1 => ?_)) e.toNat 0 (by omega) (by omega) (fun q q1 q2 => by omega)
    · rw [Int.add_zero, show tb_fo S (tb_fo S t) = tb_fo S t from if_pos fr.2] at L
      exact L
    · have := a5 (tb_fo S t + (q - t)) (by omega) (by omega)
      rw [sh _ (by omega), show t + (q - t) = q by omega] at this
      exact this
    · have := a2 (tb_fo S t + (q - t)) (by omega)
      rw [sh _ (by omega), show t + (q - t) = q by omega] at this
      exact this)
theorem pp_opn {S : sg_S} {a b t : Int} (hb : sg_bes S a b) (hw : ¬ sg_wo S a b) : (pp_at S a b t ↔ sg_opn S a b t) ∧ (pp_at S b a t ↔ sg_opn S a b t) := by
  unfold pp_at sg_opn sg_opt
  refine ⟨⟨fun q => ⟨hb, q.1, hw, q.2⟩, fun q => ⟨q.2.1, q.2.2.2⟩⟩, ⟨fun q => ⟨hb, sg_near_sy.mp q.1, hw, fun z => q.2 (sg_lt_sy.mp z)⟩, fun q => ⟨sg_near_sy.mp q.2.1, fun z => q.2.2.2 (sg_lt_sy.mp z)⟩⟩⟩
theorem wt_wf_rf {h : am_H} {S : sg_S} (hok : wt_ok h S) (hrg : wt_rg h) : wt_wf h h S := ⟨fun _ _ => rfl, hok, hrg⟩
theorem sp_waitFor {S : sg_S} {a b t j : Int} {h : am_H} {Q : am_P} (hS : sg_ok S) (hF : tb_fit S) (hT : tb_ok h S) (hP : pl_ok h S) (hR : pr_ok h S) (ha : 0 ≤ a ∧ a < sg_G S) (hb : 0 ≤ b ∧ b < sg_G S) (ht : 0 ≤ t ∧ t ≤ 100000) (hj : jn_ok h S a b j) (hL : 0 ≤ h 83 10 ∧ h 83 10 ≤ 1000000) (hok : wt_ok h S) (hrg : wt_rg h)
    (F : ∀ h1 w, wt_wf h h1 S → 0 ≤ w → w < 505 → sg_opn S a b (t + w) → (∀ q, t ≤ q → q < t + w → ¬ sg_opn S a b q) → Q (some (.inl w)) h1) (N : ∀ h1, wt_wf h h1 S → (∀ q, t ≤ q → ¬ sg_opn S a b q) → Q (some (.inl 1000000)) h1) :
    am_Call 37 [.inr (.inr (some 83)), .inl j, .inl t] h Q := by
  have R := hR.2 a b ha.1 ha.2 hb.1 hb.2
  rcases hj with ⟨rfl, hj⟩ | ⟨rfl, hj⟩
  · exact sp_waitN (N h (wt_wf_rf hok hrg) (fun q _ z => z.2.2.1 hj))
  · by_cases hp : h 36 (8 * a + b) = -1
    · rw [hp]
      exact sp_waitN (N h (wt_wf_rf hok hrg) (fun q _ z => (R.2.2.1.mpr z.1) hp))
    · have hbes := R.2.2.1.mp hp
      have o1 : ∀ t, pp_at S a b t ↔ sg_opn S a b t := fun t => (pp_opn hbes hj).1
      have o2 : ∀ t, pp_at S b a t ↔ sg_opn S a b t := fun t => (pp_opn hbes hj).2
      rcases hbes with hb1 | hb1
      · exact sp_waitP hS hF hT hP hR ha hb ht hb1.1 hp hL hok hrg (fun h1 w a1 a2 a3 a4 a5 => F h1 w a1 a2 a3 ((o1 _).mp a4) (fun q q1 q2 z => a5 q q1 q2 ((o1 _).mpr z))) (fun h1 a1 a2 => N h1 a1 (fun q q1 z => a2 q q1 ((o1 _).mpr z)))
      · rw [R.2.1] at hp ⊢
        exact sp_waitP hS hF hT hP hR hb ha ht hb1.1 hp hL hok hrg (fun h1 w a1 a2 a3 a4 a5 => F h1 w a1 a2 a3 ((o2 _).mp a4) (fun q q1 q2 z => a5 q q1 q2 ((o2 _).mpr z))) (fun h1 a1 a2 => N h1 a1 (fun q q1 z => a2 q q1 ((o2 _).mpr z)))
/-- the table is laid for S, and what is remembered is right -/
def ty_ok (h : am_H) (S : sg_S) : Prop := sg_ok S ∧ tb_fit S ∧ tb_ok h S ∧ pl_ok h S ∧ pr_ok h S ∧ (0 ≤ h 83 10 ∧ h 83 10 ≤ 1000000) ∧ wt_ok h S ∧ wt_rg h
theorem wt_lay {h h1 : am_H} {S : sg_S} (hrg : wt_rg h) (hL : 0 ≤ h 83 10) (hR : pr_ok h1 S) (hS : sg_ok S) (hF : tb_fit S) (e1 : h1 42 = h 42) (e2 : h1 83 10 = h 83 10 + 1) : wt_ok h1 S ∧ wt_rg h1 := by
  have st := (tb_st_r hS hF).1
  have hU := hS.1
  refine ⟨fun o n o1 o2 n1 n2 on hp i i1 i2 e => ?_, fun x x1 x2 => ?_⟩
  · exfalso
    have R := (hR.2 o n o1 o2 n1 n2).1
    have R0 := hR.1
    have := hrg (505 * h1 36 (8 * o + n) + i) (by omega) (by omega)
    rw [e1, e2] at e
    omega
  · have := hrg x x1 x2
    rw [e1, e2]
    omega
theorem ty_wf {h h1 : am_H} {S : sg_S} (hy : ty_ok h S) (hw : wt_wf h h1 S) : ty_ok h1 S := by
  obtain ⟨a1, a2, a3, a4, a5, a6, a7, a8⟩ := hy
  obtain ⟨b1, b2, b3⟩ := hw
  have e83 := b1 83 (by omega)
  refine ⟨a1, a2, ?_, pl_ok_mv a4 (fun c hc => b1 c (by omega)), pr_ok_mv a5 (fun c hc => b1 c (by omega)) (by rw [e83]), by rw [e83]; exact a6, b2, b3⟩
  unfold tb_ok
  rw [e83, b1 35 (by omega)]
  exact a3
/-- cells that laying and waiting leave alone -/
theorem ty_fr {h h1 : am_H} {S : sg_S} (hy : ty_ok h S) (hc : ∀ c, c = 83 ∨ c = 78 ∨ (6 ≤ c ∧ c ≤ 9) ∨ (35 ≤ c ∧ c ≤ 42) → h1 c = h c) : ty_ok h1 S := by
  obtain ⟨a1, a2, a3, a4, a5, a6, a7, a8⟩ := hy
  have e83 := hc 83 (by omega)
  have e42 := hc 42 (by omega)
  have e36 := hc 36 (by omega)
  refine ⟨a1, a2, ?_, pl_ok_mv a4 (fun c hc' => hc c (by omega)), pr_ok_mv a5 (fun c hc' => hc c (by omega)) (by rw [e83]), by rw [e83]; exact a6, ?_, ?_⟩
  · unfold tb_ok
    rw [e83, hc 35 (by omega)]
    exact a3
  · unfold wt_ok
    rw [e83, e42, e36]
    exact a7
  · unfold wt_rg
    rw [e83, e42]
    exact a8
theorem sp_layN {S : sg_S} {h : am_H} {Q : am_P} (hS : sg_ok S) (hF : tb_fit S) (hP : pl_ok h S) (hR : pr_ok h S) (hm : ∀ r, 0 ≤ r → r ≤ 2 → h 11 r = sg_pc S r ∧ h 12 r = sg_fr S r ∧ h 13 r = sg_la S r) (hL : 0 ≤ h 83 10 ∧ h 83 10 < 1000000) (hrg : wt_rg h)
    (H : ∀ h1, ty_ok h1 S → h1 83 10 = h 83 10 + 1 → h1 83 9 = h 83 9 → (∀ c, c ≠ 35 → c ≠ 83 → h1 c = h c) → Q none h1) : am_Call 27 [.inr (.inr (some 83)), .inr (.inr (some 79))] h Q :=
  sp_lay_now hS hF hP.1 hm (fun h1 T l10 l83 lc => H h1 (by
    have hP1 := pl_ok_mv hP (fun c hc => lc c (by omega) (by omega))
    have hR1 := pr_ok_mv hR (fun c hc => lc c (by omega) (by omega)) (l83 9 (by omega) (by omega) (by omega))
    have w := wt_lay hrg hL.1 hR1 hS hF (lc 42 (by omega) (by omega)) l10
    exact ⟨hS, hF, T, hP1, hR1, by omega, w.1, w.2⟩) l10 (l83 9 (by omega) (by omega) (by omega)) lc)
theorem sp_layT {S : sg_S} {h : am_H} {Q : am_P} (hS : sg_ok S) (hF : tb_fit S) (hP : pl_ok h S) (hR : pr_ok h S) (hm : ∀ r, 0 ≤ r → r ≤ 2 → h 17 r = sg_pc S r ∧ h 18 r = sg_fr S r ∧ h 19 r = sg_la S r) (hL : 0 ≤ h 83 10 ∧ h 83 10 < 1000000) (hrg : wt_rg h)
    (H : ∀ h1, ty_ok h1 S → h1 83 10 = h 83 10 + 1 → h1 83 9 = h 83 9 → (∀ c, c ≠ 35 → c ≠ 83 → h1 c = h c) → Q none h1) : am_Call 27 [.inr (.inr (some 83)), .inr (.inr (some 80))] h Q :=
  sp_lay_trial hS hF hP.1 hm (fun h1 T l10 l83 lc => H h1 (by
    have hP1 := pl_ok_mv hP (fun c hc => lc c (by omega) (by omega))
    have hR1 := pr_ok_mv hR (fun c hc => lc c (by omega) (by omega)) (l83 9 (by omega) (by omega) (by omega))
    have w := wt_lay hrg hL.1 hR1 hS hF (lc 42 (by omega) (by omega)) l10
    exact ⟨hS, hF, T, hP1, hR1, by omega, w.1, w.2⟩) l10 (l83 9 (by omega) (by omega) (by omega)) lc)
theorem iv_rg {h : am_H} {k : Int} (hi : iv h k) (hk : k ≤ 600) : (0 ≤ h 83 10 ∧ h 83 10 ≤ 36000) ∧ wt_rg h := by
  obtain ⟨a, b⟩ := hi.2.2.2.2.2.2.2.2
  exact ⟨by omega, b⟩
/-- the first thing that most questions do -/
theorem sp_lay0 {h : am_H} {k : Int} {Q : am_P} (hi : iv h k) (hk : k ≤ 600) (H : ∀ h1, ty_ok h1 (sg_of h) → h1 83 10 = h 83 10 + 1 → h1 83 9 = h 83 9 → (∀ c, c ≠ 35 → c ≠ 83 → h1 c = h c) → Q none h1) : am_Call 27 [.inr (.inr (some 83)), .inr (.inr (some 79))] h Q := by
  have r := iv_rg hi hk
  exact sp_layN hi.1 (tb_fit_of hi) (pl_ok_of hi) (pr_ok_of hi) (fun r q1 q2 => ⟨(hi.2.2.1 r q1 q2).1, (hi.2.2.1 r q1 q2).2.1, (hi.2.2.1 r q1 q2).2.2.1⟩) (by omega) r.2 H
