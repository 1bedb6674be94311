/-! the reference: findBrake; bestBrake -/
def mz (h0 h : am_H) (r d : Int) : Prop := (∀ c, c ≠ 56 → c ≠ 57 → c ≠ 68 → c ≠ 69 → c ≠ 86 → h c = h0 c) ∧ (∀ i, i ≠ 34 → h 86 i = h0 86 i) ∧ (∀ q, h 57 q = if q = r then d else h0 57 q) ∧ (∀ q, q ≠ r → h 56 q = h0 56 q)
def fb (h h1 : am_H) : Prop := (∀ c, c ≠ 68 → c ≠ 69 → c ≠ 86 → h1 c = h c) ∧ ∀ i, i ≠ 34 → h1 86 i = h 86 i
theorem mx_fb {h h1 : am_H} (f : fb h h1) : mx h h1 := ⟨fun c hc => f.1 c (by omega) (by omega) (by omega), fun i hi => f.2 i (by omega)⟩
theorem mz_sb {S : sg_S} {h0 h : am_H} {r d s : Int} (hm : sg_of h0 = S) (hz : mz h0 h r d) : sg_of (am_up h 56 r s) = sb S r s d := by
  subst hm
  obtain ⟨z1, z2, z3, z4⟩ := hz
  have e : ∀ c, c ≠ 56 → c ≠ 57 → c ≠ 68 → c ≠ 69 → c ≠ 86 → am_up h 56 r s c = h0 c := fun c c1 c2 c3 c4 c5 => (am_up_ne c1).trans (z1 c c1 c2 c3 c4 c5)
  have e56 : am_up h 56 r s 56 = fun q => if q = r then s else h0 56 q := by
    funext q
    rw [am_up_at]
    by_cases c : q = r
    · rw [if_pos ⟨rfl, c⟩, if_pos c]
    · rw [if_neg (fun z => c z.2), if_neg c, z4 q c]
  have e57 : am_up h 56 r s 57 = fun q => if q = r then d else h0 57 q := by
    rw [am_up_ne (by omega)]
    funext q
    exact z3 q
  have e4 : am_up h 56 r s 86 4 = h0 86 4 := by rw [am_up_ne (by omega)]; exact z2 4 (by omega)
  have e5 : am_up h 56 r s 86 5 = h0 86 5 := by rw [am_up_ne (by omega)]; exact z2 5 (by omega)
  show (am_up h 56 r s 86 4, am_up h 56 r s 86 5, am_up h 56 r s 51, am_up h 56 r s 52, am_up h 56 r s 53, am_up h 56 r s 54, am_up h 56 r s 55, am_up h 56 r s 56, am_up h 56 r s 57) = _
  rw [e4, e5, e 51 (by omega) (by omega) (by omega) (by omega) (by omega), e 52 (by omega) (by omega) (by omega) (by omega) (by omega), e 53 (by omega) (by omega) (by omega) (by omega) (by omega), e 54 (by omega) (by omega) (by omega) (by omega) (by omega), e 55 (by omega) (by omega) (by omega) (by omega) (by omega), e56, e57]
  rfl
theorem mz_up {h0 h : am_H} {r d s : Int} (hz : mz h0 h r d) : mz h0 (am_up h 56 r s) r d := by
  obtain ⟨z1, z2, z3, z4⟩ := hz
  refine ⟨fun c c1 c2 c3 c4 c5 => (am_up_ne c1).trans (z1 c c1 c2 c3 c4 c5), fun i hi => by rw [am_up_ne (by omega)]; exact z2 i hi, fun q => by rw [am_up_ne (by omega)]; exact z3 q, fun q hq => ?_⟩
  rw [am_up_at, if_neg (fun z => hq z.2)]; exact z4 q hq
theorem mz_fr {h0 h h1 : am_H} {r d : Int} (hz : mz h0 h r d) (f : fr_m h h1) : mz h0 h1 r d := by
  obtain ⟨z1, z2, z3, z4⟩ := hz
  refine ⟨fun c c1 c2 c3 c4 c5 => (f c c3 c4).trans (z1 c c1 c2 c3 c4 c5), fun i hi => ?_, fun q => ?_, fun q hq => ?_⟩
  · rw [f 86 (by omega) (by omega)]; exact z2 i hi
  · rw [f 57 (by omega) (by omega)]; exact z3 q
  · rw [f 56 (by omega) (by omega)]; exact z4 q hq
theorem mz_34 {h0 h : am_H} {r d v : Int} (hz : mz h0 h r d) : mz h0 (am_up h 86 34 v) r d := by
  obtain ⟨z1, z2, z3, z4⟩ := hz
  refine ⟨fun c c1 c2 c3 c4 c5 => (am_up_ne c5).trans (z1 c c1 c2 c3 c4 c5), fun i hi => ?_, fun q => ?_, fun q hq => ?_⟩
  · rw [am_up_at, if_neg (fun z => hi z.2)]; exact z2 i hi
  · rw [am_up_ne (by omega)]; exact z3 q
  · rw [am_up_ne (by omega)]; exact z4 q hq
theorem mz_end {h0 h : am_H} {r d : Int} (hz : mz h0 h r d) : fb h0 (am_up (am_up h 56 r (h0 56 r)) 57 r (h0 57 r)) := by
  obtain ⟨z1, z2, z3, z4⟩ := hz
  refine ⟨fun c c1 c2 c3 => ?_, fun i hi => by rw [am_up_ne (by omega), am_up_ne (by omega)]; exact z2 i hi⟩
  by_cases e57 : c = 57
  · subst e57
    funext q
    rw [am_up_at]
    by_cases cq : q = r
    · rw [if_pos ⟨rfl, cq⟩, cq]
    · rw [if_neg (fun z => cq z.2), am_up_ne (by omega), z3 q, if_neg cq]
  · rw [am_up_ne e57]
    by_cases e56 : c = 56
    · subst e56
      funext q
      rw [am_up_at]
      by_cases cq : q = r
      · rw [if_pos ⟨rfl, cq⟩, cq]
      · rw [if_neg (fun z => cq z.2), z4 q cq]
    · rw [am_up_ne e56, z1 c e56 e57 c1 c2 c3]
set_option maxHeartbeats 400000 in
set_option maxRecDepth 100000 in
theorem lp_fb {S : sg_S} {r d a t b : Int} {h0 : am_H} {Q : am_P} (hm0 : sg_of h0 = S) (hS : sg_ok S) (hF : tb_fit S) (hr : 0 ≤ r ∧ r ≤ 2) (hd : 1 ≤ d ∧ d ≤ 99) (ha : 0 ≤ a ∧ a < sg_G S) (hb : 0 ≤ b ∧ b < sg_G S) (ht : 0 ≤ t ∧ t ≤ 299) (H : ∀ h1 be st, fb h0 h1 → bb 99999 S r d a t b (t + sg_U S) be st → Q (some (.inl st)) h1) :
    ∀ (m : Nat) (s be : Int) (h : am_H), t ≤ s → s + m = t + sg_U S → mz h0 h r d → bb 99999 S r d a t b s be (h 86 34) → am_Ex 139 22 [some (.inr (.inr (some 86))), some (.inl r), some (.inl d), some (.inl a), some (.inl t), some (.inl b), some (.inl (h0 56 r)), some (.inl (h0 57 r)), some (.inl be), some (.inl s), none] [] h Q := by
  intro m
  have hU := hS.1
  have hG := hS.2.1
  have rgb : ∀ n be st, t ≤ n → n ≤ t + sg_U S → bb 99999 S r d a t b n be st → (0 ≤ be ∧ be ≤ 99999) ∧ (-9 ≤ st ∧ st ≤ 400) := by
    intro n be st n1 n2 q
    rcases q with q | q <;> omega
  have o := hS.2.2.2 r hr.1 hr.2
  have o56 : h0 56 r = sg_fr S r := by rw [← hm0]; rfl
  have o57 : h0 57 r = sg_la S r := by rw [← hm0]; rfl
  have o4 : h0 86 4 = sg_U S := by rw [← hm0]; rfl
  induction m with
  | zero =>
    intro s be h s0 s1 hz I
    have e4 : h 86 4 = sg_U S := (hz.2.1 4 (by omega)).trans o4
    have rr := rgb s be _ s0 (by omega) I
    have K := H _ be (h 86 34) (mz_end hz) (by rw [show t + sg_U S = s by omega]; exact I)
    rw [bl_139_22]
    simp only [eq_self, and_self, am_up_at, Int.cast_ofNat_Int, Int.reduceNatCast, true_or, or_true, or_false, false_or, Classical.not_not, false_and, and_false, am_bk, am_step, am_ldI, am_ldL, am_ldA, am_nth, am_sto, am_stw_0, am_stw_i, am_stw_n, am_stw_a, am_stw_l, am_br, am_cmp, am_tk, am_cat, am_sw, am_copy, am_R, am_nc0, am_nc1, am_f0, am_f1, am_f2, am_f3, Int.reduceNeg, Int.reduceEq, Int.reduceLE, Int.reduceLT, Nat.reduceLeDiff, Nat.reduceAdd, Nat.reduceEqDiff, true_and, and_true, ↓reduceIte, if_false, if_true, forall_const, not_true_eq_false, not_false_eq_true, false_implies, true_implies, implies_true, Int.reduceAdd, Int.reduceMul, Int.reduceSub, ne_eq, ca_139_86, bl_139_57, bl_139_69, gf_86_0, pf_86_0, gf_86_1, ar_50, al_50, gf_86_2, pf_86_2, gf_86_3, pf_86_3, gf_86_4, pf_86_4, gf_86_5, pf_86_5, gf_86_6, ar_51, al_51, gf_86_7, ar_52, al_52, gf_86_8, ar_53, al_53, gf_86_9, ar_54, al_54, gf_86_10, ar_55, al_55, gf_86_11, ar_56, al_56, gf_86_12, ar_57, al_57, gf_86_13, pf_86_13, gf_86_14, pf_86_14, gf_86_15, ar_58, al_58, gf_86_16, ar_59, al_59, gf_86_17, ar_60, al_60, gf_86_18, ar_61, al_61, gf_86_19, ar_62, al_62, gf_86_20, pf_86_20, gf_86_21, pf_86_21, gf_86_22, ar_63, al_63, gf_86_23, ar_64, al_64, gf_86_24, ar_65, al_65, gf_86_25, ar_66, al_66, gf_86_26, ar_67, al_67, gf_86_27, ar_68, al_68, gf_86_28, ar_69, al_69, gf_86_29, ar_70, al_70, gf_86_30, ar_71, al_71, gf_86_31, ar_72, al_72, gf_86_32, ar_73, al_73, gf_86_33, ar_74, al_74, gf_86_34, pf_86_34, e4]
    (repeat' (first | with_reducible apply And.intro | with_reducible intro _)) <;> first | omega | exact K
  | succ m ih =>
    intro s be h s0 s1 hz I
    have e4 : h 86 4 = sg_U S := (hz.2.1 4 (by omega)).trans o4
    have rr := rgb s be _ s0 (by omega) I
    have K1 : ∀ h1, fr_m (am_up h 56 r s) h1 → (∀ c, 0 ≤ c → c < sg_G S → ar_is 99999 (sb S r s d) a t c (h1 68 c)) → am_Ex 139 38 [some (.inr (.inr (some 86))), some (.inl r), some (.inl d), some (.inl a), some (.inl t), some (.inl b), some (.inl (h0 56 r)), some (.inl (h0 57 r)), some (.inl be), some (.inl s), none] [.inl (h1 68 b)] h1 Q := by
      intro h1 f1 ar
      have ab := ar b hb.1 hb.2
      have abr := ar_r (by omega) (by omega) ab
      have e34 : h1 86 34 = h 86 34 := by rw [f1 86 (by omega) (by omega), am_up_ne (by omega)]
      have stp' := bb_s (by omega) (by omega) s0 I ab
      have z1 := mz_fr (mz_up hz) f1
      have Ka : h1 68 b < be → am_Ex 139 22 [some (.inr (.inr (some 86))), some (.inl r), some (.inl d), some (.inl a), some (.inl t), some (.inl b), some (.inl (h0 56 r)), some (.inl (h0 57 r)), some (.inl (h1 68 b)), some (.inl (s + 1)), none] [] (am_up h1 86 34 s) Q := fun q => ih (s + 1) (h1 68 b) _ (by omega) (by omega) (mz_34 z1) (by simp only [eq_self, and_self, am_up_at, am_up_ne, ne_eq, Nat.reduceEqDiff, Int.reduceEq, Int.reduceNeg, not_false_eq_true, false_and, and_false, true_and, and_true, ↓reduceIte, if_false, if_true, Int.reduceAdd, Int.reduceMul, Nat.reduceAdd]; exact stp'.1 q)
      have Kb : ¬ h1 68 b < be → am_Ex 139 22 [some (.inr (.inr (some 86))), some (.inl r), some (.inl d), some (.inl a), some (.inl t), some (.inl b), some (.inl (h0 56 r)), some (.inl (h0 57 r)), some (.inl be), some (.inl (s + 1)), none] [] (am_up h1 86 34 (h 86 34)) Q := fun q => ih (s + 1) be _ (by omega) (by omega) (mz_34 z1) (by simp only [eq_self, and_self, am_up_at, am_up_ne, ne_eq, Nat.reduceEqDiff, Int.reduceEq, Int.reduceNeg, not_false_eq_true, false_and, and_false, true_and, and_true, ↓reduceIte, if_false, if_true, Int.reduceAdd, Int.reduceMul, Nat.reduceAdd]; exact stp'.2 q)
      simp only [eq_self, and_self, am_up_at, Int.cast_ofNat_Int, Int.reduceNatCast, true_or, or_true, or_false, false_or, Classical.not_not, false_and, and_false, am_bk, am_step, am_ldI, am_ldL, am_ldA, am_nth, am_sto, am_stw_0, am_stw_i, am_stw_n, am_stw_a, am_stw_l, am_br, am_cmp, am_tk, am_cat, am_sw, am_copy, am_R, am_nc0, am_nc1, am_f0, am_f1, am_f2, am_f3, Int.reduceNeg, Int.reduceEq, Int.reduceLE, Int.reduceLT, Nat.reduceLeDiff, Nat.reduceAdd, Nat.reduceEqDiff, true_and, and_true, ↓reduceIte, if_false, if_true, forall_const, not_true_eq_false, not_false_eq_true, false_implies, true_implies, implies_true, Int.reduceAdd, Int.reduceMul, Int.reduceSub, ne_eq, ca_139_86, bl_139_38, bl_139_45, bl_139_47, bl_139_53, bl_139_54, gf_86_0, pf_86_0, gf_86_1, ar_50, al_50, gf_86_2, pf_86_2, gf_86_3, pf_86_3, gf_86_4, pf_86_4, gf_86_5, pf_86_5, gf_86_6, ar_51, al_51, gf_86_7, ar_52, al_52, gf_86_8, ar_53, al_53, gf_86_9, ar_54, al_54, gf_86_10, ar_55, al_55, gf_86_11, ar_56, al_56, gf_86_12, ar_57, al_57, gf_86_13, pf_86_13, gf_86_14, pf_86_14, gf_86_15, ar_58, al_58, gf_86_16, ar_59, al_59, gf_86_17, ar_60, al_60, gf_86_18, ar_61, al_61, gf_86_19, ar_62, al_62, gf_86_20, pf_86_20, gf_86_21, pf_86_21, gf_86_22, ar_63, al_63, gf_86_23, ar_64, al_64, gf_86_24, ar_65, al_65, gf_86_25, ar_66, al_66, gf_86_26, ar_67, al_67, gf_86_27, ar_68, al_68, gf_86_28, ar_69, al_69, gf_86_29, ar_70, al_70, gf_86_30, ar_71, al_71, gf_86_31, ar_72, al_72, gf_86_32, ar_73, al_73, gf_86_33, ar_74, al_74, gf_86_34, pf_86_34, e34]
      (repeat' (first | with_reducible apply And.intro | with_reducible intro _)) <;> first | omega | exact am_forget (Ka (by omega)) (by simp [am_lq]) | exact am_forget (Kb (by omega)) (by simp [am_lq])
    rw [bl_139_22]
    simp only [eq_self, and_self, am_up_at, Int.cast_ofNat_Int, Int.reduceNatCast, true_or, or_true, or_false, false_or, Classical.not_not, false_and, and_false, am_bk, am_step, am_ldI, am_ldL, am_ldA, am_nth, am_sto, am_stw_0, am_stw_i, am_stw_n, am_stw_a, am_stw_l, am_br, am_cmp, am_tk, am_cat, am_sw, am_copy, am_R, am_nc0, am_nc1, am_f0, am_f1, am_f2, am_f3, Int.reduceNeg, Int.reduceEq, Int.reduceLE, Int.reduceLT, Nat.reduceLeDiff, Nat.reduceAdd, Nat.reduceEqDiff, true_and, and_true, ↓reduceIte, if_false, if_true, forall_const, not_true_eq_false, not_false_eq_true, false_implies, true_implies, implies_true, Int.reduceAdd, Int.reduceMul, Int.reduceSub, ne_eq, ca_139_86, bl_139_28, gf_86_0, pf_86_0, gf_86_1, ar_50, al_50, gf_86_2, pf_86_2, gf_86_3, pf_86_3, gf_86_4, pf_86_4, gf_86_5, pf_86_5, gf_86_6, ar_51, al_51, gf_86_7, ar_52, al_52, gf_86_8, ar_53, al_53, gf_86_9, ar_54, al_54, gf_86_10, ar_55, al_55, gf_86_11, ar_56, al_56, gf_86_12, ar_57, al_57, gf_86_13, pf_86_13, gf_86_14, pf_86_14, gf_86_15, ar_58, al_58, gf_86_16, ar_59, al_59, gf_86_17, ar_60, al_60, gf_86_18, ar_61, al_61, gf_86_19, ar_62, al_62, gf_86_20, pf_86_20, gf_86_21, pf_86_21, gf_86_22, ar_63, al_63, gf_86_23, ar_64, al_64, gf_86_24, ar_65, al_65, gf_86_25, ar_66, al_66, gf_86_26, ar_67, al_67, gf_86_27, ar_68, al_68, gf_86_28, ar_69, al_69, gf_86_29, ar_70, al_70, gf_86_30, ar_71, al_71, gf_86_31, ar_72, al_72, gf_86_32, ar_73, al_73, gf_86_33, ar_74, al_74, gf_86_34, pf_86_34, e4]
    (repeat' (first | with_reducible apply And.intro | with_reducible intro _)) <;> first | omega | exact sp_Msoon (mz_sb hm0 hz) (sb_ok hS (by omega) hd) (sb_fit hF (by omega) hd) ha hb (by omega) K1
set_option maxHeartbeats 400000 in
set_option maxRecDepth 100000 in
theorem sp_findBrake {S : sg_S} {r d a t b : Int} {h : am_H} {Q : am_P} (hm : sg_of h = S) (hS : sg_ok S) (hF : tb_fit S) (hr : 0 ≤ r ∧ r ≤ 2) (hd : 1 ≤ d ∧ d ≤ 99) (ha : 0 ≤ a ∧ a < sg_G S) (hb : 0 ≤ b ∧ b < sg_G S) (ht : 0 ≤ t ∧ t ≤ 299) (H : ∀ h1 be st, fb h h1 → bb 99999 S r d a t b (t + sg_U S) be st → Q (some (.inl st)) h1) : am_Call 139 [.inr (.inr (some 86)), .inl r, .inl d, .inl a, .inl t, .inl b] h Q := by
  have hU := hS.1
  have o := hS.2.2.2 r hr.1 hr.2
  have o56 : h 56 r = sg_fr S r := by rw [← hm]; rfl
  have o57 : h 57 r = sg_la S r := by rw [← hm]; rfl
  have K := lp_fb hm hS hF hr hd ha hb ht H (sg_U S).toNat t 99999 (am_up (am_up h 57 r d) 86 34 (-9)) (by omega) (by omega) (mz_34 ⟨fun c c1 c2 c3 c4 c5 => am_up_ne c2, fun i _ => by rw [am_up_ne (by omega)], fun q => by rw [am_up_at]; simp only [true_and], fun q _ => by rw [am_up_ne (by omega)]⟩) (by simp only [eq_self, and_self, am_up_at, am_up_ne, ne_eq, Nat.reduceEqDiff, Int.reduceEq, Int.reduceNeg, not_false_eq_true, false_and, and_false, true_and, and_true, ↓reduceIte, if_false, if_true, Int.reduceAdd, Int.reduceMul, Nat.reduceAdd]; exact Or.inl ⟨rfl, rfl, fun s s1 s2 => by omega⟩)
  simp only [eq_self, and_self, am_up_at, Int.cast_ofNat_Int, Int.reduceNatCast, true_or, or_true, or_false, false_or, Classical.not_not, false_and, and_false, am_bk, am_step, am_ldI, am_ldL, am_ldA, am_nth, am_sto, am_stw_0, am_stw_i, am_stw_n, am_stw_a, am_stw_l, am_br, am_cmp, am_tk, am_cat, am_sw, am_copy, am_R, am_nc0, am_nc1, am_f0, am_f1, am_f2, am_f3, Int.reduceNeg, Int.reduceEq, Int.reduceLE, Int.reduceLT, Nat.reduceLeDiff, Nat.reduceAdd, Nat.reduceEqDiff, true_and, and_true, ↓reduceIte, if_false, if_true, forall_const, not_true_eq_false, not_false_eq_true, false_implies, true_implies, implies_true, Int.reduceAdd, Int.reduceMul, Int.reduceSub, ne_eq, ca_139_86, bl_139_0, bl_139_12, gf_86_0, pf_86_0, gf_86_1, ar_50, al_50, gf_86_2, pf_86_2, gf_86_3, pf_86_3, gf_86_4, pf_86_4, gf_86_5, pf_86_5, gf_86_6, ar_51, al_51, gf_86_7, ar_52, al_52, gf_86_8, ar_53, al_53, gf_86_9, ar_54, al_54, gf_86_10, ar_55, al_55, gf_86_11, ar_56, al_56, gf_86_12, ar_57, al_57, gf_86_13, pf_86_13, gf_86_14, pf_86_14, gf_86_15, ar_58, al_58, gf_86_16, ar_59, al_59, gf_86_17, ar_60, al_60, gf_86_18, ar_61, al_61, gf_86_19, ar_62, al_62, gf_86_20, pf_86_20, gf_86_21, pf_86_21, gf_86_22, ar_63, al_63, gf_86_23, ar_64, al_64, gf_86_24, ar_65, al_65, gf_86_25, ar_66, al_66, gf_86_26, ar_67, al_67, gf_86_27, ar_68, al_68, gf_86_28, ar_69, al_69, gf_86_29, ar_70, al_70, gf_86_30, ar_71, al_71, gf_86_31, ar_72, al_72, gf_86_32, ar_73, al_73, gf_86_33, ar_74, al_74, gf_86_34, pf_86_34]
  (repeat' (first | with_reducible apply And.intro | with_reducible intro _)) <;> first | omega | exact K
theorem bz_of {h : am_H} {k : Int} (hi : iv h k) (hk : k ≤ 600) : bz (sg_of h) h := by
  have r := iv_rg hi hk
  exact ⟨hi.1, tb_fit_of hi, pl_ok_of hi, pr_ok_of hi, fun r q1 q2 => ⟨(hi.2.2.1 r q1 q2).1, (hi.2.2.1 r q1 q2).2.1, (hi.2.2.1 r q1 q2).2.2.1⟩, by omega, by omega⟩
theorem bd_xd {h h1 : am_H} {k n : Int} (hi : iv h k) (hb : bd h h1 n) (hn : n ≤ 60) : xd h h1 k := by
  obtain ⟨b1, b2, b3, b4⟩ := hb
  obtain ⟨a, b⟩ := hi.2.2.2.2.2.2.2.2
  exact ⟨fun c hc => by unfold iv_rel at hc; exact b1 c (by omega) (by omega) (by omega) (by omega) (by omega) (by omega) (by omega), b2, ⟨by omega, by omega⟩, b4⟩
set_option maxHeartbeats 400000 in
set_option maxRecDepth 100000 in
theorem eq_refuse {r d a t b : Int} {h : am_H} {Q : am_P} (hr : am_R r) (hd : am_R d) (ha : am_R a) (ht : am_R t) (hb : am_R b) (hG : 0 ≤ h 78 1 ∧ h 78 1 ≤ 8) (H1 : ¬ ((0 ≤ r ∧ r ≤ 2) ∧ (0 ≤ a ∧ a < h 78 1) ∧ (0 ≤ b ∧ b < h 78 1) ∧ 0 ≤ t ∧ t < 300) → Q (some (.inl (-1))) h) (H2 : (0 ≤ r ∧ r ≤ 2) ∧ (0 ≤ a ∧ a < h 78 1) ∧ (0 ≤ b ∧ b < h 78 1) ∧ 0 ≤ t ∧ t < 300 → ¬ (1 ≤ d ∧ d ≤ 99) → Q (some (.inl (-2))) h) (H3 : (0 ≤ r ∧ r ≤ 2) ∧ (0 ≤ a ∧ a < h 78 1) ∧ (0 ≤ b ∧ b < h 78 1) ∧ 0 ≤ t ∧ t < 300 → 1 ≤ d ∧ d ≤ 99 → Q (some (.inl 0)) h) : am_Call 92 [.inr (.inr (some 75)), .inl r, .inl d, .inl a, .inl t, .inl b] h Q := by
  obtain ⟨r1, r2⟩ := hr
  obtain ⟨d1, d2⟩ := hd
  obtain ⟨a1, a2⟩ := ha
  obtain ⟨t1, t2⟩ := ht
  obtain ⟨b1, b2⟩ := hb
  simp (disch := omega) only [eq_self, and_self, am_up_at, Int.cast_ofNat_Int, Int.reduceNatCast, true_or, or_true, or_false, false_or, Classical.not_not, false_and, and_false, am_bk, am_step, am_ldI, am_ldL, am_ldA, am_nth, am_sto, am_stw_0, am_stw_i, am_stw_n, am_stw_a, am_stw_l, am_br, am_cmp, am_tk, am_cat, am_sw, am_copy, am_R, am_nc0, am_nc1, am_f0, am_f1, am_f2, am_f3, Int.reduceNeg, Int.reduceEq, Int.reduceLE, Int.reduceLT, Nat.reduceLeDiff, Nat.reduceAdd, Nat.reduceEqDiff, true_and, and_true, ↓reduceIte, if_false, if_true, forall_const, not_true_eq_false, not_false_eq_true, false_implies, true_implies, implies_true, Int.reduceAdd, Int.reduceMul, Int.reduceSub, ne_eq, ca_92_75, bl_92_0, bl_92_2, bl_92_7, bl_92_10, bl_92_11, bl_92_13, bl_92_19, bl_92_21, bl_92_22, gf_75_0, ar_0, al_0, gf_75_1, pf_75_1, gf_75_2, gf_75_3, gf_75_4, gf_75_5, gf_75_6, gf_75_7, gf_75_8, gf_75_9, gf_75_10, eq_isRing, eq_areGates, eq_isSecond]
  (repeat' (first | with_reducible apply And.intro | with_reducible intro _)) <;> first | omega | exact H1 (by omega) | exact H2 (by omega) (by omega) | exact H3 (by omega) (by omega)
set_option maxHeartbeats 400000 in
set_option maxRecDepth 100000 in
theorem pr_bestBrake {h : am_H} {k r d a t b : Int} (hr : am_R r) (hd : am_R d) (ha : am_R a) (ht : am_R t) (hb : am_R b) (hi : iv h k) (hk : k ≤ 600) : rg_pair 76 140 [.inl r, .inl d, .inl a, .inl t, .inl b] h k := by
  unfold rg_pair
  have hthr := iv_thr hi
  have hS := hi.1
  have hF := tb_fit_of hi
  have e1 := hS.2.1
  have hU := hS.1
  have c2 := hi.2.1.2.1
  have eG : sg_G (sg_of h) = h 86 5 := rfl
  obtain ⟨r1, r2⟩ := id hr
  obtain ⟨d1, d2⟩ := id hd
  obtain ⟨a1, a2⟩ := id ha
  obtain ⟨t1, t2⟩ := id ht
  obtain ⟨b1, b2⟩ := id hb
  have mod : ∀ h1, xd h h1 k → ∀ q, (¬ ((0 ≤ r ∧ r ≤ 2) ∧ (0 ≤ a ∧ a < h 86 5) ∧ (0 ≤ b ∧ b < h 86 5) ∧ 0 ≤ t ∧ t < 300) → q = -1) → ((0 ≤ r ∧ r ≤ 2) ∧ (0 ≤ a ∧ a < h 86 5) ∧ (0 ≤ b ∧ b < h 86 5) ∧ 0 ≤ t ∧ t < 300 → ¬ (1 ≤ d ∧ d ≤ 99) → q = -2) → ((0 ≤ r ∧ r ≤ 2) ∧ (0 ≤ a ∧ a < h 86 5) ∧ (0 ≤ b ∧ b < h 86 5) ∧ 0 ≤ t ∧ t < 300 → 1 ≤ d ∧ d ≤ 99 → ∃ be, bb 1000000 (sg_of h) r d a t b (t + sg_U (sg_of h)) be q) → am_Call 140 [.inr (.inr (some 86)), .inl r, .inl d, .inl a, .inl t, .inl b] h1 (rg_post k (some (.inl q))) := by
    intro h1 X q q1 q2 q3
    have f86 := X.1 86 (by omega)
    have em : sg_of (am_up h1 86 0 0) = sg_of h := (mx_sg (mx_thr h1)).trans (cx_sg X.1)
    have f5 : h1 86 5 = h 86 5 := by rw [f86]
    have fin := ed hi X (mx_thr h1)
    have L1 := fun z => rg_leaf (k := k) (A := q) (B := -1) (by have := q1 z; omega) (by have := q1 z; omega) fin
    have L2 := fun z w => rg_leaf (k := k) (A := q) (B := -2) (by have := q2 z w; omega) (by have := q2 z w; omega) fin
    have e5 : (am_up h1 86 0 0) 86 5 = h 86 5 := by simp only [eq_self, and_self, am_up_at, am_up_ne, ne_eq, Nat.reduceEqDiff, Int.reduceEq, Int.reduceNeg, not_false_eq_true, false_and, and_false, true_and, and_true, ↓reduceIte, if_false, if_true, Int.reduceAdd, Int.reduceMul, Nat.reduceAdd]; exact f5
    have L3 : (0 ≤ r ∧ r ≤ 2) ∧ (0 ≤ a ∧ a < h 86 5) ∧ (0 ≤ b ∧ b < h 86 5) ∧ 0 ≤ t ∧ t < 300 → 1 ≤ d ∧ d ≤ 99 → am_Call 139 [.inr (.inr (some 86)), .inl r, .inl d, .inl a, .inl t, .inl b] (am_up h1 86 0 0) (rg_post k (some (.inl q))) := by
      intro V W
      refine sp_findBrake em hS hF (by omega) W (by omega) (by omega) (by omega) (fun h2 be st f2 B => ?_)
      obtain ⟨be', B'⟩ := q3 V W
      have es := bb_one B B'
      have rr : -9 ≤ q ∧ q ≤ 400 := by rcases B' with z | z <;> omega
      exact rg_leaf es (by omega) (ed hi X (mx_t (mx_thr h1) (mx_fb f2)))
    simp (disch := first | omega | (simp only [eq_self, and_self, am_up_at, am_up_ne, ne_eq, Nat.reduceEqDiff, Int.reduceEq, Int.reduceNeg, not_false_eq_true, false_and, and_false, true_and, and_true, ↓reduceIte, if_false, if_true, Int.reduceAdd, Int.reduceMul, Nat.reduceAdd]; omega)) only [eq_self, and_self, am_up_at, Int.cast_ofNat_Int, Int.reduceNatCast, true_or, or_true, or_false, false_or, Classical.not_not, false_and, and_false, am_bk, am_step, am_ldI, am_ldL, am_ldA, am_nth, am_sto, am_stw_0, am_stw_i, am_stw_n, am_stw_a, am_stw_l, am_br, am_cmp, am_tk, am_cat, am_sw, am_copy, am_R, am_nc0, am_nc1, am_f0, am_f1, am_f2, am_f3, Int.reduceNeg, Int.reduceEq, Int.reduceLE, Int.reduceLT, Nat.reduceLeDiff, Nat.reduceAdd, Nat.reduceEqDiff, true_and, and_true, ↓reduceIte, if_false, if_true, forall_const, not_true_eq_false, not_false_eq_true, false_implies, true_implies, implies_true, Int.reduceAdd, Int.reduceMul, Int.reduceSub, ne_eq, ca_140_86, bl_140_0, bl_140_5, bl_140_9, bl_140_13, bl_140_16, bl_140_17, bl_140_19, bl_140_24, bl_140_32, bl_140_33, bl_140_34, gf_86_0, pf_86_0, gf_86_1, ar_50, al_50, gf_86_2, pf_86_2, gf_86_3, pf_86_3, gf_86_4, pf_86_4, gf_86_5, pf_86_5, gf_86_6, ar_51, al_51, gf_86_7, ar_52, al_52, gf_86_8, ar_53, al_53, gf_86_9, ar_54, al_54, gf_86_10, ar_55, al_55, gf_86_11, ar_56, al_56, gf_86_12, ar_57, al_57, gf_86_13, pf_86_13, gf_86_14, pf_86_14, gf_86_15, ar_58, al_58, gf_86_16, ar_59, al_59, gf_86_17, ar_60, al_60, gf_86_18, ar_61, al_61, gf_86_19, ar_62, al_62, gf_86_20, pf_86_20, gf_86_21, pf_86_21, gf_86_22, ar_63, al_63, gf_86_23, ar_64, al_64, gf_86_24, ar_65, al_65, gf_86_25, ar_66, al_66, gf_86_26, ar_67, al_67, gf_86_27, ar_68, al_68, gf_86_28, ar_69, al_69, gf_86_29, ar_70, al_70, gf_86_30, ar_71, al_71, gf_86_31, ar_72, al_72, gf_86_32, ar_73, al_73, gf_86_33, ar_74, al_74, gf_86_34, pf_86_34, eq_noRing, eq_noGate, eq_noSecond, eq_in, am_i2l_of, f5]
    (repeat' (first | with_reducible apply And.intro | with_reducible intro _)) <;> first | omega | exact L1 (by omega) | exact L2 (by omega) (by omega) | skip
    all_goals (refine sp_findBrake em hS hF (by omega) (by omega) (by omega) (by omega) (by omega) (fun h2 be st f2 B => ?_))
    all_goals (
      obtain ⟨be', B'⟩ := q3 (by omega) (by omega)
      have es := bb_one B B'
      have rr : -9 ≤ q ∧ q ≤ 400 := by rcases B' with z | z <;> omega
      exact rg_leaf es (by omega) (ed hi X (mx_t (mx_thr h1) (mx_fb f2))))
  have X0 : xd h h k := ⟨fun _ _ => rfl, rfl, iv_w_up hi.2.2.2.2.2.2.2.2⟩
  simp only [eq_self, and_self, am_up_at, Int.cast_ofNat_Int, Int.reduceNatCast, true_or, or_true, or_false, false_or, Classical.not_not, false_and, and_false, am_bk, am_step, am_ldI, am_ldL, am_ldA, am_nth, am_sto, am_stw_0, am_stw_i, am_stw_n, am_stw_a, am_stw_l, am_br, am_cmp, am_tk, am_cat, am_sw, am_copy, am_R, am_nc0, am_nc1, am_f0, am_f1, am_f2, am_f3, Int.reduceNeg, Int.reduceEq, Int.reduceLE, Int.reduceLT, Nat.reduceLeDiff, Nat.reduceAdd, Nat.reduceEqDiff, true_and, and_true, ↓reduceIte, if_false, if_true, forall_const, not_true_eq_false, not_false_eq_true, false_implies, true_implies, implies_true, Int.reduceAdd, Int.reduceMul, Int.reduceSub, ne_eq, ca_76_75, bl_76_0, gf_75_0, ar_0, al_0, gf_75_1, pf_75_1, gf_75_2, gf_75_3, gf_75_4, gf_75_5, gf_75_6, gf_75_7, gf_75_8, gf_75_9, gf_75_10]
  refine eq_refuse hr hd ha ht hb (by omega) (fun V => ?_) (fun V W => ?_) (fun V W => ?_)
  · have K := mod h X0 (-1) (fun _ => rfl) (fun z => by omega) (fun z => by omega)
    simp only [eq_self, and_self, am_up_at, Int.cast_ofNat_Int, Int.reduceNatCast, true_or, or_true, or_false, false_or, Classical.not_not, false_and, and_false, am_bk, am_step, am_ldI, am_ldL, am_ldA, am_nth, am_sto, am_stw_0, am_stw_i, am_stw_n, am_stw_a, am_stw_l, am_br, am_cmp, am_tk, am_cat, am_sw, am_copy, am_R, am_nc0, am_nc1, am_f0, am_f1, am_f2, am_f3, Int.reduceNeg, Int.reduceEq, Int.reduceLE, Int.reduceLT, Nat.reduceLeDiff, Nat.reduceAdd, Nat.reduceEqDiff, true_and, and_true, ↓reduceIte, if_false, if_true, forall_const, not_true_eq_false, not_false_eq_true, false_implies, true_implies, implies_true, Int.reduceAdd, Int.reduceMul, Int.reduceSub, ne_eq, ca_76_75, bl_76_7, bl_76_19, gf_75_0, ar_0, al_0, gf_75_1, pf_75_1, gf_75_2, gf_75_3, gf_75_4, gf_75_5, gf_75_6, gf_75_7, gf_75_8, gf_75_9, gf_75_10]
    (repeat' (first | with_reducible apply And.intro | with_reducible intro _)) <;> first | omega | exact K
  · have K := mod h X0 (-2) (fun z => by omega) (fun _ _ => rfl) (fun z w => by omega)
    simp only [eq_self, and_self, am_up_at, Int.cast_ofNat_Int, Int.reduceNatCast, true_or, or_true, or_false, false_or, Classical.not_not, false_and, and_false, am_bk, am_step, am_ldI, am_ldL, am_ldA, am_nth, am_sto, am_stw_0, am_stw_i, am_stw_n, am_stw_a, am_stw_l, am_br, am_cmp, am_tk, am_cat, am_sw, am_copy, am_R, am_nc0, am_nc1, am_f0, am_f1, am_f2, am_f3, Int.reduceNeg, Int.reduceEq, Int.reduceLE, Int.reduceLT, Nat.reduceLeDiff, Nat.reduceAdd, Nat.reduceEqDiff, true_and, and_true, ↓reduceIte, if_false, if_true, forall_const, not_true_eq_false, not_false_eq_true, false_implies, true_implies, implies_true, Int.reduceAdd, Int.reduceMul, Int.reduceSub, ne_eq, ca_76_75, bl_76_7, bl_76_19, gf_75_0, ar_0, al_0, gf_75_1, pf_75_1, gf_75_2, gf_75_3, gf_75_4, gf_75_5, gf_75_6, gf_75_7, gf_75_8, gf_75_9, gf_75_10]
    (repeat' (first | with_reducible apply And.intro | with_reducible intro _)) <;> first | omega | exact K
  · simp only [eq_self, and_self, am_up_at, Int.cast_ofNat_Int, Int.reduceNatCast, true_or, or_true, or_false, false_or, Classical.not_not, false_and, and_false, am_bk, am_step, am_ldI, am_ldL, am_ldA, am_nth, am_sto, am_stw_0, am_stw_i, am_stw_n, am_stw_a, am_stw_l, am_br, am_cmp, am_tk, am_cat, am_sw, am_copy, am_R, am_nc0, am_nc1, am_f0, am_f1, am_f2, am_f3, Int.reduceNeg, Int.reduceEq, Int.reduceLE, Int.reduceLT, Nat.reduceLeDiff, Nat.reduceAdd, Nat.reduceEqDiff, true_and, and_true, ↓reduceIte, if_false, if_true, forall_const, not_true_eq_false, not_false_eq_true, false_implies, true_implies, implies_true, Int.reduceAdd, Int.reduceMul, Int.reduceSub, ne_eq, ca_76_75, bl_76_7, bl_76_12, gf_75_0, ar_0, al_0, gf_75_1, pf_75_1, gf_75_2, gf_75_3, gf_75_4, gf_75_5, gf_75_6, gf_75_7, gf_75_8, gf_75_9, gf_75_10]
    have K : am_Call 94 [.inr (.inr (some 75)), .inl r, .inl d, .inl a, .inl t, .inl b] h (fun o h1 => am_Call 140 [.inr (.inr (some 86)), .inl r, .inl d, .inl a, .inl t, .inl b] h1 (rg_post k o)) :=
      sp_bbStart (bz_of hi hk) (iv_rg hi hk).2 (by omega) W (by omega) (by omega) (by omega) (fun h1 be st b1 B => mod h1 (bd_xd hi b1 (by omega)) st (fun z => by omega) (fun z w => by omega) (fun _ _ => ⟨be, B⟩))
    refine sp_bbStart (bz_of hi hk) (iv_rg hi hk).2 (by omega) W (by omega) (by omega) (by omega) (fun h1 be st b1 B => ?_)
    have K := mod h1 (bd_xd hi b1 (by omega)) st (fun z => by omega) (fun z w => by omega) (fun _ _ => ⟨be, B⟩)
    simp only [eq_self, and_self, am_up_at, Int.cast_ofNat_Int, Int.reduceNatCast, true_or, or_true, or_false, false_or, Classical.not_not, false_and, and_false, am_bk, am_step, am_ldI, am_ldL, am_ldA, am_nth, am_sto, am_stw_0, am_stw_i, am_stw_n, am_stw_a, am_stw_l, am_br, am_cmp, am_tk, am_cat, am_sw, am_copy, am_R, am_nc0, am_nc1, am_f0, am_f1, am_f2, am_f3, Int.reduceNeg, Int.reduceEq, Int.reduceLE, Int.reduceLT, Nat.reduceLeDiff, Nat.reduceAdd, Nat.reduceEqDiff, true_and, and_true, ↓reduceIte, if_false, if_true, forall_const, not_true_eq_false, not_false_eq_true, false_implies, true_implies, implies_true, Int.reduceAdd, Int.reduceMul, Int.reduceSub, ne_eq, ca_76_75, bl_76_19, gf_75_0, ar_0, al_0, gf_75_1, pf_75_1, gf_75_2, gf_75_3, gf_75_4, gf_75_5, gf_75_6, gf_75_7, gf_75_8, gf_75_9, gf_75_10]
    exact K
