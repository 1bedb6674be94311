/-! what the class and the reference scribble on does not count -/
def iv_rel (c : Nat) : Prop := c = 0 ∨ (6 ≤ c ∧ c ≤ 9) ∨ (11 ≤ c ∧ c ≤ 16) ∨ (23 ≤ c ∧ c ≤ 34) ∨ (36 ≤ c ∧ c ≤ 41) ∨ (50 ≤ c ∧ c ≤ 57) ∨ (63 ≤ c ∧ c ≤ 67) ∨ c = 75 ∨ c = 78 ∨ c = 79 ∨ c = 81 ∨ c = 82
set_option maxHeartbeats 400000 in
set_option maxRecDepth 100000 in
theorem iv_scr {h h1 : am_H} {k : Int} (hi : iv h k) (hc : ∀ c, iv_rel c → h1 c = h c) (e83 : h1 83 9 = h 83 9) (e86 : ∀ i, i = 2 ∨ i = 4 ∨ i = 5 ∨ i = 21 → h1 86 i = h 86 i) (hw1 : iv_w h1 (k + 1)) : iv h1 (k + 1) := by
  obtain ⟨hok, hcc, hm, ht, hs, hk0, hk1, hp, hw⟩ := hi
  have e2 := e86 2 (by omega)
  have e4 := e86 4 (by omega)
  have e5 := e86 5 (by omega)
  have e21 := e86 21 (by omega)
  have f0 := hc 0 (by unfold iv_rel; omega)
  have f6 := hc 6 (by unfold iv_rel; omega)
  have f7 := hc 7 (by unfold iv_rel; omega)
  have f8 := hc 8 (by unfold iv_rel; omega)
  have f9 := hc 9 (by unfold iv_rel; omega)
  have f11 := hc 11 (by unfold iv_rel; omega)
  have f12 := hc 12 (by unfold iv_rel; omega)
  have f13 := hc 13 (by unfold iv_rel; omega)
  have f14 := hc 14 (by unfold iv_rel; omega)
  have f15 := hc 15 (by unfold iv_rel; omega)
  have f16 := hc 16 (by unfold iv_rel; omega)
  have f23 := hc 23 (by unfold iv_rel; omega)
  have f24 := hc 24 (by unfold iv_rel; omega)
  have f25 := hc 25 (by unfold iv_rel; omega)
  have f26 := hc 26 (by unfold iv_rel; omega)
  have f27 := hc 27 (by unfold iv_rel; omega)
  have f28 := hc 28 (by unfold iv_rel; omega)
  have f29 := hc 29 (by unfold iv_rel; omega)
  have f30 := hc 30 (by unfold iv_rel; omega)
  have f31 := hc 31 (by unfold iv_rel; omega)
  have f32 := hc 32 (by unfold iv_rel; omega)
  have f33 := hc 33 (by unfold iv_rel; omega)
  have f34 := hc 34 (by unfold iv_rel; omega)
  have f36 := hc 36 (by unfold iv_rel; omega)
  have f37 := hc 37 (by unfold iv_rel; omega)
  have f38 := hc 38 (by unfold iv_rel; omega)
  have f39 := hc 39 (by unfold iv_rel; omega)
  have f40 := hc 40 (by unfold iv_rel; omega)
  have f41 := hc 41 (by unfold iv_rel; omega)
  have f50 := hc 50 (by unfold iv_rel; omega)
  have f51 := hc 51 (by unfold iv_rel; omega)
  have f52 := hc 52 (by unfold iv_rel; omega)
  have f53 := hc 53 (by unfold iv_rel; omega)
  have f54 := hc 54 (by unfold iv_rel; omega)
  have f55 := hc 55 (by unfold iv_rel; omega)
  have f56 := hc 56 (by unfold iv_rel; omega)
  have f57 := hc 57 (by unfold iv_rel; omega)
  have f63 := hc 63 (by unfold iv_rel; omega)
  have f64 := hc 64 (by unfold iv_rel; omega)
  have f65 := hc 65 (by unfold iv_rel; omega)
  have f66 := hc 66 (by unfold iv_rel; omega)
  have f67 := hc 67 (by unfold iv_rel; omega)
  have f75 := hc 75 (by unfold iv_rel; omega)
  have f78 := hc 78 (by unfold iv_rel; omega)
  have f79 := hc 79 (by unfold iv_rel; omega)
  have f81 := hc 81 (by unfold iv_rel; omega)
  have f82 := hc 82 (by unfold iv_rel; omega)
  refine ⟨?_, ?_, ?_, ?_, ?_, ?_, ?_, ?_, hw1⟩
  · have e : sg_of h1 = sg_of h := by simp only [sg_of, f0, f6, f7, f8, f9, f11, f12, f13, f14, f15, f16, f23, f24, f25, f26, f27, f28, f29, f30, f31, f32, f33, f34, f36, f37, f38, f39, f40, f41, f50, f51, f52, f53, f54, f55, f56, f57, f63, f64, f65, f66, f67, f75, f78, f79, f81, f82, e83, e2, e4, e5, e21]
    rw [e]; exact hok
  · simpa only [iv_c, f0, f6, f7, f8, f9, f11, f12, f13, f14, f15, f16, f23, f24, f25, f26, f27, f28, f29, f30, f31, f32, f33, f34, f36, f37, f38, f39, f40, f41, f50, f51, f52, f53, f54, f55, f56, f57, f63, f64, f65, f66, f67, f75, f78, f79, f81, f82, e83, e2, e4, e5, e21] using hcc
  · simpa only [iv_m, f0, f6, f7, f8, f9, f11, f12, f13, f14, f15, f16, f23, f24, f25, f26, f27, f28, f29, f30, f31, f32, f33, f34, f36, f37, f38, f39, f40, f41, f50, f51, f52, f53, f54, f55, f56, f57, f63, f64, f65, f66, f67, f75, f78, f79, f81, f82, e83, e2, e4, e5, e21] using hm
  · simpa only [iv_t, f0, f6, f7, f8, f9, f11, f12, f13, f14, f15, f16, f23, f24, f25, f26, f27, f28, f29, f30, f31, f32, f33, f34, f36, f37, f38, f39, f40, f41, f50, f51, f52, f53, f54, f55, f56, f57, f63, f64, f65, f66, f67, f75, f78, f79, f81, f82, e83, e2, e4, e5, e21] using ht
  · simpa only [iv_s, iv_v, f0, f6, f7, f8, f9, f11, f12, f13, f14, f15, f16, f23, f24, f25, f26, f27, f28, f29, f30, f31, f32, f33, f34, f36, f37, f38, f39, f40, f41, f50, f51, f52, f53, f54, f55, f56, f57, f63, f64, f65, f66, f67, f75, f78, f79, f81, f82, e83, e2, e4, e5, e21] using hs
  · simpa only [iv_k, iv_v, Nat.reduceAdd, f0, f6, f7, f8, f9, f11, f12, f13, f14, f15, f16, f23, f24, f25, f26, f27, f28, f29, f30, f31, f32, f33, f34, f36, f37, f38, f39, f40, f41, f50, f51, f52, f53, f54, f55, f56, f57, f63, f64, f65, f66, f67, f75, f78, f79, f81, f82, e83, e2, e4, e5, e21] using hk0
  · simpa only [iv_k, iv_v, Nat.reduceAdd, f0, f6, f7, f8, f9, f11, f12, f13, f14, f15, f16, f23, f24, f25, f26, f27, f28, f29, f30, f31, f32, f33, f34, f36, f37, f38, f39, f40, f41, f50, f51, f52, f53, f54, f55, f56, f57, f63, f64, f65, f66, f67, f75, f78, f79, f81, f82, e83, e2, e4, e5, e21] using hk1
  · simpa only [iv_p, f0, f6, f7, f8, f9, f11, f12, f13, f14, f15, f16, f23, f24, f25, f26, f27, f28, f29, f30, f31, f32, f33, f34, f36, f37, f38, f39, f40, f41, f50, f51, f52, f53, f54, f55, f56, f57, f63, f64, f65, f66, f67, f75, f78, f79, f81, f82, e83, e2, e4, e5, e21] using hp
/-- the plan is the city of S -/
def pl_ok (h : am_H) (S : sg_S) : Prop := h 78 0 = sg_U S ∧ h 78 1 = sg_G S ∧ ∀ g, 0 ≤ g → g < sg_G S → h 6 g = sg_ri S g ∧ h 7 g = sg_rm S g ∧ h 8 g = sg_pl S g ∧ h 9 g = sg_kd S g
theorem pl_ok_of {h : am_H} {k : Int} (hi : iv h k) : pl_ok h (sg_of h) := hi.2.1
theorem tb_fit_of {h : am_H} {k : Int} (hi : iv h k) : tb_fit (sg_of h) := by
  intro r h1 h2
  have a := hi.2.2.1 r h1 h2
  have b := (hi.1.2.2.2 r h1 h2).2.2
  simp only [sg_of, sg_U, sg_G, sg_ri, sg_rm, sg_pl, sg_kd, sg_pc, sg_fr, sg_la] at b ⊢
  omega
def tb_fo (S : sg_S) (t : Int) : Int := if t < tb_st S + sg_U S then t else tb_st S + (t - tb_st S) % sg_U S
theorem tb_fo_r {S : sg_S} (hS : sg_ok S) (hF : tb_fit S) {t : Int} (ht : 0 ≤ t) : 0 ≤ tb_fo S t ∧ tb_fo S t < tb_st S + sg_U S := by
  have a := (tb_st_r hS hF).1
  have b := hS.1
  have c := Int.emod_nonneg (t - tb_st S) (show sg_U S ≠ 0 by omega)
  have d := Int.emod_lt_of_pos (t - tb_st S) (show 0 < sg_U S by omega)
  unfold tb_fo
  split <;> omega
theorem tb_fo_c {S : sg_S} (hS : sg_ok S) (hF : tb_fit S) {t : Int} (ht : 0 ≤ t) : tb_fo S t = t ∨ (tb_st S ≤ tb_fo S t ∧ ∃ m : Int, t = tb_fo S t + sg_U S * m) := by
  have a := (tb_st_r hS hF).1
  have b := hS.1
  unfold tb_fo
  split
  · exact Or.inl rfl
  · right
    have c := Int.emod_nonneg (t - tb_st S) (show sg_U S ≠ 0 by omega)
    refine ⟨by omega, (t - tb_st S) / sg_U S, ?_⟩
    have := Int.emod_add_mul_ediv (t - tb_st S) (sg_U S)
    omega
theorem sg_tn_p {f l t : Int} (hf : 0 ≤ f) (hl : 0 ≤ l) (h : 0 < l → f + l ≤ t) : sg_tn f l t = t - l := by
  unfold sg_tn
  by_cases h0 : 0 < l
  · have := h h0
    (repeat' split) <;> omega
  · have : l = 0 := by omega
    subst this
    (repeat' split) <;> omega
theorem sg_par {S : sg_S} (hS : sg_ok S) (t m : Int) : (t + sg_U S * m) % 2 = t % 2 ∧ (t + sg_U S * m) % 3 = t % 3 := by
  have h6 := hS.1.2.2
  obtain ⟨q, hq⟩ : ∃ q, sg_U S = 6 * q := ⟨sg_U S / 6, by omega⟩
  rw [hq, Int.mul_assoc]
  generalize q * m = z
  omega
theorem sg_at_p {S : sg_S} (hS : sg_ok S) (hF : tb_fit S) {g : Int} (hg : 0 ≤ g ∧ g < sg_G S) {t m : Int} (h1 : tb_st S ≤ t) (h2 : tb_st S ≤ t + sg_U S * m) : sg_at S g (t + sg_U S * m) = sg_at S g t := by
  have r := (hS.2.2.1 g hg.1 hg.2).1
  have b := hS.2.2.2 (sg_ri S g) r.1 r.2
  have s := (tb_st_r hS hF).2 (sg_ri S g) r.1 r.2
  unfold sg_at sg_by
  rw [sg_tn_p b.2.1.1 b.2.2.1 (fun q => by have := s q; omega), sg_tn_p b.2.1.1 b.2.2.1 (fun q => by have := s q; omega)]
  have e : sg_fu (sg_kd S g) (t + sg_U S * m) = sg_fu (sg_kd S g) t := by
    unfold sg_fu
    rw [(sg_par hS t m).1]
  rw [e, show sg_pl S g + sg_fu (sg_kd S g) t + sg_pc S (sg_ri S g) * (t + sg_U S * m - sg_la S (sg_ri S g)) = sg_pl S g + sg_fu (sg_kd S g) t + sg_pc S (sg_ri S g) * (t - sg_la S (sg_ri S g)) + sg_U S * (sg_pc S (sg_ri S g) * m) by
    rw [show t + sg_U S * m - sg_la S (sg_ri S g) = (t - sg_la S (sg_ri S g)) + sg_U S * m by omega, Int.mul_add, Int.mul_left_comm]; omega]
  exact Int.add_mul_emod_self_left _ _ _
theorem sg_at_f {S : sg_S} (hS : sg_ok S) (hF : tb_fit S) {g : Int} (hg : 0 ≤ g ∧ g < sg_G S) {t : Int} (ht : 0 ≤ t) : sg_at S g (tb_fo S t) = sg_at S g t := by
  rcases tb_fo_c hS hF ht with e | ⟨h1, m, e⟩
  · rw [e]
  · have b := hS.1
    have h2 : tb_st S ≤ tb_fo S t + sg_U S * m := by
      rw [← e]
      by_cases q : t < tb_st S + sg_U S
      · have : tb_fo S t = t := if_pos q
        omega
      · omega
    have := sg_at_p hS hF hg h1 h2
    rw [← e] at this
    exact this.symm
set_option maxHeartbeats 400000 in
set_option maxRecDepth 100000 in
theorem sp_fold {S : sg_S} {t : Int} {h : am_H} {Q : am_P} (hS : sg_ok S) (hF : tb_fit S) (hT : tb_ok h S) (ht : 0 ≤ t ∧ t ≤ 100000) (H : Q (some (.inl (tb_fo S t))) h) : am_Call 29 [.inr (.inr (some 83)), .inl t] h Q := by
  have a := (tb_st_r hS hF).1
  have b := hS.1
  have t1 := hT.1
  have t2 := hT.2.1
  simp (disch := omega) only [eq_self, and_self, am_up_at, Int.cast_ofNat_Int, Int.reduceNatCast, true_or, or_true, or_false, false_or, Classical.not_not, false_and, and_false, am_bk, am_step, am_ldI, am_ldL, am_ldA, am_nth, am_sto, am_stw_0, am_stw_i, am_stw_n, am_stw_a, am_stw_l, am_br, am_cmp, am_tk, am_cat, am_sw, am_copy, am_R, am_nc0, am_nc1, am_f0, am_f1, am_f2, am_f3, Int.reduceNeg, Int.reduceEq, Int.reduceLE, Int.reduceLT, Nat.reduceLeDiff, Nat.reduceAdd, Nat.reduceEqDiff, true_and, and_true, ↓reduceIte, if_false, if_true, forall_const, not_true_eq_false, not_false_eq_true, false_implies, true_implies, implies_true, Int.reduceAdd, Int.reduceMul, Int.reduceSub, ne_eq, ca_29_83, bl_29_0, bl_29_12, bl_29_13, bl_29_20, bl_29_21, bl_29_22, ca_159, bl_159_0, bl_159_5, bl_159_6, ca_160, bl_160_0, bl_160_5, bl_160_6, gf_83_0, gf_83_1, ar_35, al_35, gf_83_2, ar_36, al_36, gf_83_3, ar_37, al_37, gf_83_4, ar_38, al_38, gf_83_5, ar_39, al_39, gf_83_6, ar_40, al_40, gf_83_7, ar_41, al_41, gf_83_8, ar_42, al_42, gf_83_9, pf_83_9, gf_83_10, pf_83_10, gf_83_11, pf_83_11, gf_83_12, pf_83_12, t1, t2, Int.tmod_eq_emod_of_nonneg]
  (repeat' (first | with_reducible apply And.intro | with_reducible intro _)) <;> first | omega | (refine am_leaf H ?_; unfold tb_fo; split <;> first | omega | (rw [show tb_st S + sg_U S - tb_st S = sg_U S by omega, Int.tmod_eq_emod_of_nonneg (by omega)]))
set_option maxHeartbeats 400000 in
set_option maxRecDepth 100000 in
theorem sp_horizon {S : sg_S} {t : Int} {h : am_H} {Q : am_P} (hS : sg_ok S) (hF : tb_fit S) (hT : tb_ok h S) (hP : pl_ok h S) (ht : 0 ≤ t ∧ t ≤ 100000) (H : Q (some (.inl ((if tb_st S < t then 0 else tb_st S - t) + sg_U S))) h) : am_Call 30 [.inr (.inr (some 83)), .inl t] h Q := by
  have a := (tb_st_r hS hF).1
  have b := hS.1
  have t1 := hT.1
  have t2 := hP.1
  simp only [eq_self, and_self, am_up_at, Int.cast_ofNat_Int, Int.reduceNatCast, true_or, or_true, or_false, false_or, Classical.not_not, false_and, and_false, am_bk, am_step, am_ldI, am_ldL, am_ldA, am_nth, am_sto, am_stw_0, am_stw_i, am_stw_n, am_stw_a, am_stw_l, am_br, am_cmp, am_tk, am_cat, am_sw, am_copy, am_R, am_nc0, am_nc1, am_f0, am_f1, am_f2, am_f3, Int.reduceNeg, Int.reduceEq, Int.reduceLE, Int.reduceLT, Nat.reduceLeDiff, Nat.reduceAdd, Nat.reduceEqDiff, true_and, and_true, ↓reduceIte, if_false, if_true, forall_const, not_true_eq_false, not_false_eq_true, false_implies, true_implies, implies_true, Int.reduceAdd, Int.reduceMul, Int.reduceSub, ne_eq, ca_30_83, bl_30_0, bl_30_6, ca_159, bl_159_0, bl_159_5, bl_159_6, gf_83_0, gf_83_1, ar_35, al_35, gf_83_2, ar_36, al_36, gf_83_3, ar_37, al_37, gf_83_4, ar_38, al_38, gf_83_5, ar_39, al_39, gf_83_6, ar_40, al_40, gf_83_7, ar_41, al_41, gf_83_8, ar_42, al_42, gf_83_9, pf_83_9, gf_83_10, pf_83_10, gf_83_11, pf_83_11, gf_83_12, pf_83_12, gf_78_0, pf_78_0, gf_78_1, pf_78_1, gf_78_2, ar_6, al_6, gf_78_3, ar_7, al_7, gf_78_4, ar_8, al_8, gf_78_5, ar_9, al_9, gf_78_6, ar_10, al_10, t1, t2]
  (repeat' (first | with_reducible apply And.intro | with_reducible intro _)) <;> first | omega | (refine am_leaf H ?_; split <;> omega)
theorem am_and1 {i : Int} (h : 0 ≤ i ∧ i ≤ 2147483647) : am_and i 1 = i % 2 := by
  obtain ⟨n, rfl⟩ : ∃ n : Nat, i = (n : Int) := ⟨i.toNat, by omega⟩
  rw [am_and_eq, am_cast, show Int32.ofInt 1 = (1 : Int32) by decide]
  have := pk_andN (n := n) (by omega) (m := 1) 1 (by decide)
  rw [show Int32.ofNat n = nI n from rfl, this, nI_toInt (by omega)]
  omega
set_option maxHeartbeats 400000 in
set_option maxRecDepth 100000 in
theorem sp_placeAt {S : sg_S} {g i : Int} {h : am_H} {Q : am_P} (hS : sg_ok S) (hF : tb_fit S) (hT : tb_ok h S) (hP : pl_ok h S) (hg : 0 ≤ g ∧ g < sg_G S) (hi : 0 ≤ i ∧ i < tb_st S + sg_U S) (H : Q (some (.inl (sg_at S g i))) h) : am_Call 31 [.inr (.inr (some 83)), .inl g, .inl i] h Q := by
  have a := (tb_st_r hS hF).1
  have b := hS.1
  have b2 := hS.2.1
  have r := hS.2.2.1 g hg.1 hg.2
  have p := hP.2.2 g hg.1 hg.2
  have p0 := hP.1
  have row := hT.2.2 (sg_ri S g) i r.1.1 r.1.2 hi.1 hi.2
  have n1 := Int.emod_nonneg (sg_pc S (sg_ri S g) * sg_tn (sg_fr S (sg_ri S g)) (sg_la S (sg_ri S g)) i) (show sg_U S ≠ 0 by omega)
  have n2 := Int.emod_lt_of_pos (sg_pc S (sg_ri S g) * sg_tn (sg_fr S (sg_ri S g)) (sg_la S (sg_ri S g)) i) (show 0 < sg_U S by omega)
  have and1 := am_and1 (i := i) (by omega)
  simp only [eq_self, and_self, am_up_at, Int.cast_ofNat_Int, Int.reduceNatCast, true_or, or_true, or_false, false_or, Classical.not_not, false_and, and_false, am_bk, am_step, am_ldI, am_ldL, am_ldA, am_nth, am_sto, am_stw_0, am_stw_i, am_stw_n, am_stw_a, am_stw_l, am_br, am_cmp, am_tk, am_cat, am_sw, am_copy, am_R, am_nc0, am_nc1, am_f0, am_f1, am_f2, am_f3, Int.reduceNeg, Int.reduceEq, Int.reduceLE, Int.reduceLT, Nat.reduceLeDiff, Nat.reduceAdd, Nat.reduceEqDiff, true_and, and_true, ↓reduceIte, if_false, if_true, forall_const, not_true_eq_false, not_false_eq_true, false_implies, true_implies, implies_true, Int.reduceAdd, Int.reduceMul, Int.reduceSub, ne_eq, ca_31_83, bl_31_0, bl_31_11, bl_31_12, bl_31_24, gf_83_0, gf_83_1, ar_35, al_35, gf_83_2, ar_36, al_36, gf_83_3, ar_37, al_37, gf_83_4, ar_38, al_38, gf_83_5, ar_39, al_39, gf_83_6, ar_40, al_40, gf_83_7, ar_41, al_41, gf_83_8, ar_42, al_42, gf_83_9, pf_83_9, gf_83_10, pf_83_10, gf_83_11, pf_83_11, gf_83_12, pf_83_12, gf_78_0, pf_78_0, gf_78_1, pf_78_1, gf_78_2, ar_6, al_6, gf_78_3, ar_7, al_7, gf_78_4, ar_8, al_8, gf_78_5, ar_9, al_9, gf_78_6, ar_10, al_10, p.1, p.2.2.1, p.2.2.2, row, and1]
  have fin : ∀ s : Int, s = sg_fu (sg_kd S g) i → (sg_pl S g + (sg_pc S (sg_ri S g) * sg_tn (sg_fr S (sg_ri S g)) (sg_la S (sg_ri S g)) i) % sg_U S + s) % sg_U S = sg_at S g i := by
    intro s es
    unfold sg_at sg_by
    rw [es, show sg_pl S g + (sg_pc S (sg_ri S g) * sg_tn (sg_fr S (sg_ri S g)) (sg_la S (sg_ri S g)) i) % sg_U S + sg_fu (sg_kd S g) i = (sg_pl S g + sg_fu (sg_kd S g) i) + (sg_pc S (sg_ri S g) * sg_tn (sg_fr S (sg_ri S g)) (sg_la S (sg_ri S g)) i) % sg_U S by omega, Int.add_emod_emod]
  have fu := sg_fu_c (sg_kd S g) i
  (repeat' (first | with_reducible apply And.intro | with_reducible intro _)) <;> first | omega | skip
  all_goals (
    refine sp_wrap (by omega) (by omega) ?_
    simp only [eq_self, and_self, am_up_at, Int.cast_ofNat_Int, Int.reduceNatCast, true_or, or_true, or_false, false_or, Classical.not_not, false_and, and_false, am_bk, am_step, am_ldI, am_ldL, am_ldA, am_nth, am_sto, am_stw_0, am_stw_i, am_stw_n, am_stw_a, am_stw_l, am_br, am_cmp, am_tk, am_cat, am_sw, am_copy, am_R, am_nc0, am_nc1, am_f0, am_f1, am_f2, am_f3, Int.reduceNeg, Int.reduceEq, Int.reduceLE, Int.reduceLT, Nat.reduceLeDiff, Nat.reduceAdd, Nat.reduceEqDiff, true_and, and_true, ↓reduceIte, if_false, if_true, forall_const, not_true_eq_false, not_false_eq_true, false_implies, true_implies, implies_true, Int.reduceAdd, Int.reduceMul, Int.reduceSub, ne_eq, ca_31_83, bl_31_36, gf_83_0, gf_83_1, ar_35, al_35, gf_83_2, ar_36, al_36, gf_83_3, ar_37, al_37, gf_83_4, ar_38, al_38, gf_83_5, ar_39, al_39, gf_83_6, ar_40, al_40, gf_83_7, ar_41, al_41, gf_83_8, ar_42, al_42, gf_83_9, pf_83_9, gf_83_10, pf_83_10, gf_83_11, pf_83_11, gf_83_12, pf_83_12, gf_78_0, pf_78_0, gf_78_1, pf_78_1, gf_78_2, ar_6, al_6, gf_78_3, ar_7, al_7, gf_78_4, ar_8, al_8, gf_78_5, ar_9, al_9, gf_78_6, ar_10, al_10]
    refine am_leaf H ?_
    rw [p0]
    exact fin _ (by omega))
