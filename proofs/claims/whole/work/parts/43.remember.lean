/-! the class remembers waits -/
def wt_v (m k rest : Int) : Int := if rest = 1000000 then 1023 else m - k + rest
set_option maxHeartbeats 400000 in
set_option maxRecDepth 100000 in
theorem it_rem {S : sg_S} {p f m rest i k L : Int} {h : am_H} {Q : am_P} (hS : sg_ok S) (hF : tb_fit S) (hT : tb_ok h S) (hL : h 83 10 = L ∧ 0 ≤ L ∧ L ≤ 1000000) (hp : 0 ≤ p ∧ p < 16) (hi : 0 ≤ i ∧ i < tb_st S + sg_U S) (hk : 0 ≤ k ∧ k < m) (hm : m ≤ 505) (hr : rest = 1000000 ∨ (0 ≤ rest ∧ m + rest < 1023))
    (H : ∀ y, am_Ex 38 4 [some (.inr (.inr (some 83))), some (.inl p), some (.inl f), some (.inl m), some (.inl rest), some (.inl (if i + 1 < tb_st S + sg_U S then i + 1 else tb_st S)), some (.inl (k + 1)), some (.inl y)] [] (am_up h 42 (505 * p + i) (1024 * L + wt_v m k rest)) Q) :
    am_Ex 38 4 [some (.inr (.inr (some 83))), some (.inl p), some (.inl f), some (.inl m), some (.inl rest), some (.inl i), some (.inl k), none] [] h Q := by
  have st := (tb_st_r hS hF).1
  have hU := hS.1
  have t1 := hT.1
  have t2 := hT.2.1
  have s1 := wt_shl (l := L) hL.2
  have s2 := wt_or (l := L) (w := 1023) hL.2 (by omega)
  rw [bl_38_4]
  simp only [eq_self, and_self, am_up_at, Int.cast_ofNat_Int, Int.reduceNatCast, true_or, or_true, or_false, false_or, Classical.not_not, false_and, and_false, am_bk, am_step, am_ldI, am_ldL, am_ldA, am_nth, am_sto, am_stw_0, am_stw_i, am_stw_n, am_stw_a, am_stw_l, am_br, am_cmp, am_tk, am_cat, am_sw, am_copy, am_R, am_nc0, am_nc1, am_f0, am_f1, am_f2, am_f3, Int.reduceNeg, Int.reduceEq, Int.reduceLE, Int.reduceLT, Nat.reduceLeDiff, Nat.reduceAdd, Nat.reduceEqDiff, true_and, and_true, ↓reduceIte, if_false, if_true, forall_const, not_true_eq_false, not_false_eq_true, false_implies, true_implies, implies_true, Int.reduceAdd, Int.reduceMul, Int.reduceSub, ne_eq, ca_38_83, bl_38_7, bl_38_12, bl_38_17, bl_38_29, bl_38_41, bl_38_42, bl_38_44, gf_83_0, gf_83_1, ar_35, al_35, gf_83_2, ar_36, al_36, gf_83_3, ar_37, al_37, gf_83_4, ar_38, al_38, gf_83_5, ar_39, al_39, gf_83_6, ar_40, al_40, gf_83_7, ar_41, al_41, gf_83_8, ar_42, al_42, gf_83_9, pf_83_9, gf_83_10, pf_83_10, gf_83_11, pf_83_11, gf_83_12, pf_83_12, t1, t2, hL.1, s1]
  by_cases hi1 : i + 1 < tb_st S + sg_U S
  · rw [if_pos hi1] at H
    by_cases hr1 : rest = 1000000
    · have v1 : wt_v m k rest = 1023 := if_pos hr1
      rw [v1] at H
      (repeat' (first | with_reducible apply And.intro | with_reducible intro _)) <;> first | omega | (rw [s2]; exact H _)
    · have v1 : wt_v m k rest = m - k + rest := if_neg hr1
      have s3 := wt_or (l := L) (w := m - k + rest) hL.2 (by omega)
      rw [v1] at H
      (repeat' (first | with_reducible apply And.intro | with_reducible intro _)) <;> first | omega | (rw [s3]; exact H _)
  · rw [if_neg hi1] at H
    by_cases hr1 : rest = 1000000
    · have v1 : wt_v m k rest = 1023 := if_pos hr1
      rw [v1] at H
      (repeat' (first | with_reducible apply And.intro | with_reducible intro _)) <;> first | omega | (rw [s2]; exact H _)
    · have v1 : wt_v m k rest = m - k + rest := if_neg hr1
      have s3 := wt_or (l := L) (w := m - k + rest) hL.2 (by omega)
      rw [v1] at H
      (repeat' (first | with_reducible apply And.intro | with_reducible intro _)) <;> first | omega | (rw [s3]; exact H _)
/-- from h to h1 the waits of the pair p from the second f on, m of them, were remembered -/
def wt_rm (S : sg_S) (h h1 : am_H) (p f m rest L k : Int) : Prop := (∀ x, h1 42 x = h 42 x ∨ ∃ q, 0 ≤ q ∧ q < k ∧ x = 505 * p + tb_fo S (f + q) ∧ h1 42 x = 1024 * L + wt_v m q rest) ∧ ∀ c, c ≠ 42 → h1 c = h c
set_option maxHeartbeats 400000 in
set_option maxRecDepth 100000 in
theorem lp_rem {S : sg_S} {p f m rest L : Int} {h0 : am_H} {Q : am_P} (hS : sg_ok S) (hF : tb_fit S) (hT : tb_ok h0 S) (hL : h0 83 10 = L ∧ 0 ≤ L ∧ L ≤ 1000000) (hp : 0 ≤ p ∧ p < 16) (hf : 0 ≤ f) (hm : 0 ≤ m ∧ m ≤ 505) (hr : rest = 1000000 ∨ (0 ≤ rest ∧ m + rest < 1023)) (HQ : ∀ h1, wt_rm S h0 h1 p f m rest L m → Q none h1) :
    ∀ (n : Nat) (k : Int) (h : am_H), 0 ≤ k → k + n = m → wt_rm S h0 h p f m rest L k → am_Ex 38 4 [some (.inr (.inr (some 83))), some (.inl p), some (.inl f), some (.inl m), some (.inl rest), some (.inl (tb_fo S (f + k))), some (.inl k), none] [] h Q := by
  intro n
  induction n with
  | zero =>
    intro k h h1 h2 hrm
    rw [bl_38_4]
    simp only [eq_self, and_self, am_up_at, Int.cast_ofNat_Int, Int.reduceNatCast, true_or, or_true, or_false, false_or, Classical.not_not, false_and, and_false, am_bk, am_step, am_ldI, am_ldL, am_ldA, am_nth, am_sto, am_stw_0, am_stw_i, am_stw_n, am_stw_a, am_stw_l, am_br, am_cmp, am_tk, am_cat, am_sw, am_copy, am_R, am_nc0, am_nc1, am_f0, am_f1, am_f2, am_f3, Int.reduceNeg, Int.reduceEq, Int.reduceLE, Int.reduceLT, Nat.reduceLeDiff, Nat.reduceAdd, Nat.reduceEqDiff, true_and, and_true, ↓reduceIte, if_false, if_true, forall_const, not_true_eq_false, not_false_eq_true, false_implies, true_implies, implies_true, Int.reduceAdd, Int.reduceMul, Int.reduceSub, ne_eq, ca_38_83, bl_38_47, gf_83_0, gf_83_1, ar_35, al_35, gf_83_2, ar_36, al_36, gf_83_3, ar_37, al_37, gf_83_4, ar_38, al_38, gf_83_5, ar_39, al_39, gf_83_6, ar_40, al_40, gf_83_7, ar_41, al_41, gf_83_8, ar_42, al_42, gf_83_9, pf_83_9, gf_83_10, pf_83_10, gf_83_11, pf_83_11, gf_83_12, pf_83_12]
    have : k = m := by omega
    subst this
    have HQ := HQ h hrm
    (repeat' (first | with_reducible apply And.intro | with_reducible intro _)) <;> first | omega | exact HQ
  | succ n ih =>
    intro k h h1 h2 hrm
    have e83 := hrm.2 83 (by omega)
    have e35 := hrm.2 35 (by omega)
    refine it_rem hS hF (by unfold tb_ok; rw [e83, e35]; exact hT) (by rw [e83]; exact hL) hp (tb_fo_r hS hF (by omega)) (by omega) hm.2 hr (fun y => ?_)
    rw [← tb_fo_s hS hF (by omega), show f + k + 1 = f + (k + 1) by omega]
    refine am_forget (ih (k + 1) _ (by omega) (by omega) ⟨fun x => ?_, fun c hc => ?_⟩) (by simp [am_lq])
    · by_cases e : x = 505 * p + tb_fo S (f + k)
      · right
        exact ⟨k, h1, by omega, e, by rw [e]; exact if_pos ⟨rfl, rfl⟩⟩
      · rw [show am_up h 42 (505 * p + tb_fo S (f + k)) (1024 * L + wt_v m k rest) 42 x = h 42 x from if_neg (fun q => e q.2)]
        rcases hrm.1 x with q | ⟨q, q1, q2, q3, q4⟩
        · exact Or.inl q
        · exact Or.inr ⟨q, q1, by omega, q3, q4⟩
    · rw [am_up_ne hc]; exact hrm.2 c hc
set_option maxHeartbeats 400000 in
set_option maxRecDepth 100000 in
theorem sp_rem {S : sg_S} {p f m rest L : Int} {h : am_H} {Q : am_P} (hS : sg_ok S) (hF : tb_fit S) (hT : tb_ok h S) (hL : h 83 10 = L ∧ 0 ≤ L ∧ L ≤ 1000000) (hp : 0 ≤ p ∧ p < 16) (hf : 0 ≤ f ∧ f < tb_st S + sg_U S) (hm : 0 ≤ m ∧ m ≤ 505) (hr : rest = 1000000 ∨ (0 ≤ rest ∧ m + rest < 1023)) (HQ : ∀ h1, wt_rm S h h1 p f m rest L m → Q none h1) :
    am_Call 38 [.inr (.inr (some 83)), .inl p, .inl f, .inl m, .inl rest] h Q := by
  simp only [eq_self, and_self, am_up_at, Int.cast_ofNat_Int, Int.reduceNatCast, true_or, or_true, or_false, false_or, Classical.not_not, false_and, and_false, am_bk, am_step, am_ldI, am_ldL, am_ldA, am_nth, am_sto, am_stw_0, am_stw_i, am_stw_n, am_stw_a, am_stw_l, am_br, am_cmp, am_tk, am_cat, am_sw, am_copy, am_R, am_nc0, am_nc1, am_f0, am_f1, am_f2, am_f3, Int.reduceNeg, Int.reduceEq, Int.reduceLE, Int.reduceLT, Nat.reduceLeDiff, Nat.reduceAdd, Nat.reduceEqDiff, true_and, and_true, ↓reduceIte, if_false, if_true, forall_const, not_true_eq_false, not_false_eq_true, false_implies, true_implies, implies_true, Int.reduceAdd, Int.reduceMul, Int.reduceSub, ne_eq, ca_38_83, bl_38_0, gf_83_0, gf_83_1, ar_35, al_35, gf_83_2, ar_36, al_36, gf_83_3, ar_37, al_37, gf_83_4, ar_38, al_38, gf_83_5, ar_39, al_39, gf_83_6, ar_40, al_40, gf_83_7, ar_41, al_41, gf_83_8, ar_42, al_42, gf_83_9, pf_83_9, gf_83_10, pf_83_10, gf_83_11, pf_83_11, gf_83_12, pf_83_12]
  have := lp_rem (Q := Q) hS hF hT hL hp hf.1 hm hr HQ m.toNat 0 h (by omega) (by omega) ⟨fun x => Or.inl rfl, fun _ _ => rfl⟩
  rw [show f + 0 = f by omega, show tb_fo S f = f from if_pos hf.2] at this
  exact this
