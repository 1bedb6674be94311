/-! the class: round -/
def fr_r (h h1 : am_H) : Prop := ∀ c, c ≠ 42 → c ≠ 43 → c ≠ 45 → h1 c = h c
theorem dp_st {N : Int} {S : sg_S} {a t al f m x e : Int} {A : Int → Int} (hx : x < sg_G S) (hv : ¬ (bt al e = 1 ∧ bt m e ≠ 1)) (he : 0 ≤ e ∧ e < 8) (h : dp N S a t al f m (fun g => if g < e then x + 1 else x) A) : dp N S a t al f m (fun g => if g < e + 1 then x + 1 else x) A := by
  refine dp_F h (fun k => by show (if k < e + 1 then x + 1 else x) ≤ sg_G S; split <;> omega) (fun s g r hs g0 g1 b d z => ?_)
  by_cases c : g = e
  · exfalso
    subst c
    have mm := bt_mi hs.1 (show 0 ≤ g ∧ g ≤ 7 by omega) b
    have b2 := mm.2 g g0 (by omega)
    rw [if_pos rfl, d] at b2
    exact hv ⟨hs.2 g g0 (by omega) b, by omega⟩
  · have z' : mn N S (fun q => A (8 * m + q)) g (if g < e then x + 1 else x) r := z
    show mn N S (fun q => A (8 * m + q)) g (if g < e + 1 then x + 1 else x) r
    by_cases c2 : g < e
    · rw [if_pos c2] at z'; rw [if_pos (by omega)]; exact z'
    · rw [if_neg c2] at z'; rw [if_neg (by omega)]; exact z'
theorem dp_su {N : Int} {S : sg_S} {a t al f m x e v w : Int} {A A' : Int → Int} (hG : 0 ≤ sg_G S ∧ sg_G S ≤ 8) (hm : sub m al) (hx : 0 ≤ x ∧ x < sg_G S) (he : 0 ≤ e ∧ e < sg_G S) (hem : bt m e ≠ 1) (hea : bt al e = 1) (hAx : A (8 * m + x) < N) (hv : ar_is N S x (A (8 * m + x)) e v) (hvN : v ≤ N) (hw : w = if v < A (8 * (m + pw e) + e) then v else A (8 * (m + pw e) + e)) (h : dp N S a t al f m (fun g => if g < e then x + 1 else x) A) (hA' : ∀ i, A' i = if i = 8 * (m + pw e) + e then w else A i) : dp N S a t al f m (fun g => if g < e + 1 then x + 1 else x) A' := by
  have z := dp_u (F := fun g => if g < e then x + 1 else x) hG hm hx he hem hea hAx hv hvN hw (by show (if e < e then x + 1 else x) = x; rw [if_neg (by omega)]) h hA'
  have ef : (fun g : Int => if g = e then x + 1 else (fun g : Int => if g < e then x + 1 else x) g) = (fun g => if g < e + 1 then x + 1 else x) := by
    funext g
    show (if g = e then x + 1 else if g < e then x + 1 else x) = if g < e + 1 then x + 1 else x
    (repeat' split) <;> omega
  rw [ef] at z
  exact z
theorem dp_sk {N : Int} {S : sg_S} {a t al f m x : Int} {A : Int → Int} (hx : x < sg_G S) (hA : ¬ A (8 * m + x) < N) (h : dp N S a t al f m (fun _ => x) A) : dp N S a t al f m (fun _ => x + 1) A :=
  dp_F h (fun _ => by show x + 1 ≤ sg_G S; omega) (fun s g r hs g0 g1 b d z => mn_k z hA)
theorem dp_en {N : Int} {S : sg_S} {a t al f m x : Int} {A : Int → Int} (hx : x < sg_G S) (h : dp N S a t al f m (fun g => if g < sg_G S then x + 1 else x) A) : dp N S a t al f m (fun _ => x + 1) A :=
  dp_F h (fun _ => by show x + 1 ≤ sg_G S; omega) (fun s g r hs g0 g1 b d z => by
    have z' : mn N S (fun q => A (8 * m + q)) g (if g < sg_G S then x + 1 else x) r := z
    rw [if_pos g1] at z'
    exact z')
theorem dp_be {N : Int} {S : sg_S} {a t al f m x : Int} {A : Int → Int} (hx : x < sg_G S) (h : dp N S a t al f m (fun _ => x) A) : dp N S a t al f m (fun g => if g < 0 then x + 1 else x) A :=
  dp_F h (fun k => by show (if k < 0 then x + 1 else x) ≤ sg_G S; split <;> omega) (fun s g r hs g0 g1 b d z => by
    show mn N S (fun q => A (8 * m + q)) g (if g < 0 then x + 1 else x) r
    rw [if_neg (by omega)]
    exact z)
set_option maxHeartbeats 400000 in
set_option maxRecDepth 100000 in
theorem lp_as1 {S : sg_S} {a t al m x v : Int} {h0 : am_H} {Q : am_P} (hy0 : ty_ok h0 S) (ht : 0 ≤ t ∧ t ≤ 299) (hal : 0 ≤ al ∧ al ≤ 255) (hm : sub m al) (hx : 0 ≤ x ∧ x < sg_G S) (hv : h0 45 (8 * m + x) = v) (hvN : v < 1000000) (hvr : 0 ≤ v ∧ v ≤ 40000) (ar : ∀ b, 0 ≤ b → b < sg_G S → ar_is 1000000 S x v b (h0 43 b)) (H : ∀ h1, (∀ c, c ≠ 45 → h1 c = h0 c) → dp 1000000 S a t al 0 m (fun _ => x + 1) (h1 45) → am_Ex 47 66 [some (.inr (.inr (some 84))), some (.inl m), some (.inl al), some (.inl x), some (.inl v), some (.inl (sg_G S)), none] [] h1 Q) :
    ∀ (n : Nat) (e : Int) (h : am_H), 0 ≤ e → e + n = sg_G S → (∀ c, c ≠ 45 → h c = h0 c) → h 45 (8 * m + x) = v → dp 1000000 S a t al 0 m (fun g => if g < e then x + 1 else x) (h 45) → am_Ex 47 26 [some (.inr (.inr (some 84))), some (.inl m), some (.inl al), some (.inl x), some (.inl v), some (.inl e), none] [] h Q := by
  intro n
  have hG := hy0.1.2.1
  have p1 := hy0.2.2.2.1.2.1
  have mr := hm.1
  have df := bt_df hal mr
  induction n with
  | zero =>
    intro e h e0 e1 hf hxv I
    have ee : e = sg_G S := by omega
    subst ee
    have e78 := hf 78 (by omega)
    have K := H h hf (dp_en hx.2 I)
    rw [bl_47_26]
    simp only [eq_self, and_self, am_up_at, Int.cast_ofNat_Int, Int.reduceNatCast, true_or, or_true, or_false, false_or, Classical.not_not, false_and, and_false, am_bk, am_step, am_ldI, am_ldL, am_ldA, am_nth, am_sto, am_stw_0, am_stw_i, am_stw_n, am_stw_a, am_stw_l, am_br, am_cmp, am_tk, am_cat, am_sw, am_copy, am_R, am_nc0, am_nc1, am_f0, am_f1, am_f2, am_f3, Int.reduceNeg, Int.reduceEq, Int.reduceLE, Int.reduceLT, Nat.reduceLeDiff, Nat.reduceAdd, Nat.reduceEqDiff, true_and, and_true, ↓reduceIte, if_false, if_true, forall_const, not_true_eq_false, not_false_eq_true, false_implies, true_implies, implies_true, Int.reduceAdd, Int.reduceMul, Int.reduceSub, ne_eq, gf_84_0, gf_84_1, gf_84_2, ar_43, al_43, gf_84_3, ar_44, al_44, gf_84_4, ar_45, al_45, gf_84_5, ar_46, al_46, gf_84_6, pf_84_6, gf_78_0, pf_78_0, gf_78_1, pf_78_1, gf_78_2, ar_6, al_6, gf_78_3, ar_7, al_7, gf_78_4, ar_8, al_8, gf_78_5, ar_9, al_9, gf_78_6, ar_10, al_10, e78, p1]
    (repeat' (first | with_reducible apply And.intro | with_reducible intro _)) <;> first | omega | exact K
  | succ n ih =>
    intro e h e0 e1 hf hxv I
    have e78 := hf 78 (by omega)
    have e43 := hf 43 (by omega)
    have he : 0 ≤ e ∧ e < sg_G S := by omega
    have b := bt_shr (x := am_and al (am_xor m (-1))) (g := e) df.1 (by omega)
    have b01 := bt_01 (am_and al (am_xor m (-1))) e
    have bi := df.2 e e0 (by omega)
    have pe := pw_r (show 0 ≤ e ∧ e ≤ 7 by omega)
    have a1 := ar e he.1 he.2
    have ar1 := ar_r (by omega) (by omega) a1
    have K0 : ¬ bt (am_and al (am_xor m (-1))) e = 1 → am_Ex 47 26 [some (.inr (.inr (some 84))), some (.inl m), some (.inl al), some (.inl x), some (.inl v), some (.inl (e + 1)), none] [] h Q := fun q => ih (e + 1) h (by omega) (by omega) hf hxv (dp_st hx.2 (fun z => q (bi.mpr z)) (by omega) I)
    by_cases q : bt (am_and al (am_xor m (-1))) e = 1
    · skip
      obtain ⟨q1, q2⟩ := bi.mp q
      have es := bt_se mr (show 0 ≤ e ∧ e ≤ 7 by omega)
      rw [if_neg q2] at es
      have me := bt_pl mr (show 0 ≤ e ∧ e ≤ 7 by omega) q2
      have hs' : sub (m + pw e) al := ⟨me.1, fun k k1 k2 z => by
        rw [me.2 k k1 k2] at z
        split at z
        · rename_i c; rw [c]; exact q1
        · exact hm.2 k k1 k2 z⟩
      have bd' := dp_b hG ht (by omega) I (m + pw e).toNat (m + pw e) e (by omega) hs' he.1 he.2
      have pcr := pc_r (m + pw e)
      have Kw : ∀ w, w = (if h0 43 e < h 45 (8 * (m + pw e) + e) then h0 43 e else h 45 (8 * (m + pw e) + e)) → am_Ex 47 63 [some (.inr (.inr (some 84))), some (.inl m), some (.inl al), some (.inl x), some (.inl v), some (.inl e), some (.inl (8 * (m + pw e) + e))] [.inl w, .inl (8 * (m + pw e) + e), .inr (.inr (some 45))] h Q := by
        intro w hw
        have K := ih (e + 1) (am_up h 45 (8 * (m + pw e) + e) w) (by omega) (by omega) (fun c hc => by rw [am_up_ne hc, hf c hc]) (by rw [am_up_at, if_neg (by omega)]; exact hxv) (dp_su hG hm hx he q2 q1 (by rw [hxv]; exact hvN) (by rw [hxv]; exact a1) (by omega) hw I (fun i => by rw [am_up_at]; simp only [true_and]))
        simp only [eq_self, and_self, am_up_at, Int.cast_ofNat_Int, Int.reduceNatCast, true_or, or_true, or_false, false_or, Classical.not_not, false_and, and_false, am_bk, am_step, am_ldI, am_ldL, am_ldA, am_nth, am_sto, am_stw_0, am_stw_i, am_stw_n, am_stw_a, am_stw_l, am_br, am_cmp, am_tk, am_cat, am_sw, am_copy, am_R, am_nc0, am_nc1, am_f0, am_f1, am_f2, am_f3, Int.reduceNeg, Int.reduceEq, Int.reduceLE, Int.reduceLT, Nat.reduceLeDiff, Nat.reduceAdd, Nat.reduceEqDiff, true_and, and_true, ↓reduceIte, if_false, if_true, forall_const, not_true_eq_false, not_false_eq_true, false_implies, true_implies, implies_true, Int.reduceAdd, Int.reduceMul, Int.reduceSub, ne_eq, ca_47_84, bl_47_63, bl_47_64, gf_84_0, gf_84_1, gf_84_2, ar_43, al_43, gf_84_3, ar_44, al_44, gf_84_4, ar_45, al_45, gf_84_5, ar_46, al_46, gf_84_6, pf_84_6]
        (repeat' (first | with_reducible apply And.intro | with_reducible intro _)) <;> first | omega | exact am_forget K (by simp [am_lq])
      rw [bl_47_26]
      simp only [eq_self, and_self, am_up_at, Int.cast_ofNat_Int, Int.reduceNatCast, true_or, or_true, or_false, false_or, Classical.not_not, false_and, and_false, am_bk, am_step, am_ldI, am_ldL, am_ldA, am_nth, am_sto, am_stw_0, am_stw_i, am_stw_n, am_stw_a, am_stw_l, am_br, am_cmp, am_tk, am_cat, am_sw, am_copy, am_R, am_nc0, am_nc1, am_f0, am_f1, am_f2, am_f3, Int.reduceNeg, Int.reduceEq, Int.reduceLE, Int.reduceLT, Nat.reduceLeDiff, Nat.reduceAdd, Nat.reduceEqDiff, true_and, and_true, ↓reduceIte, if_false, if_true, forall_const, not_true_eq_false, not_false_eq_true, false_implies, true_implies, implies_true, Int.reduceAdd, Int.reduceMul, Int.reduceSub, ne_eq, ca_47_84, bl_47_31, bl_47_43, bl_47_55, bl_47_64, ca_160, bl_160_0, bl_160_5, bl_160_6, gf_84_0, gf_84_1, gf_84_2, ar_43, al_43, gf_84_3, ar_44, al_44, gf_84_4, ar_45, al_45, gf_84_5, ar_46, al_46, gf_84_6, pf_84_6, gf_78_0, pf_78_0, gf_78_1, pf_78_1, gf_78_2, ar_6, al_6, gf_78_3, ar_7, al_7, gf_78_4, ar_8, al_8, gf_78_5, ar_9, al_9, gf_78_6, ar_10, al_10, e78, p1, b, es, e43]
      (repeat' (first | with_reducible apply And.intro | with_reducible intro _)) <;> first | omega | exact Kw _ (by split <;> omega)
    · rw [bl_47_26]
      simp only [eq_self, and_self, am_up_at, Int.cast_ofNat_Int, Int.reduceNatCast, true_or, or_true, or_false, false_or, Classical.not_not, false_and, and_false, am_bk, am_step, am_ldI, am_ldL, am_ldA, am_nth, am_sto, am_stw_0, am_stw_i, am_stw_n, am_stw_a, am_stw_l, am_br, am_cmp, am_tk, am_cat, am_sw, am_copy, am_R, am_nc0, am_nc1, am_f0, am_f1, am_f2, am_f3, Int.reduceNeg, Int.reduceEq, Int.reduceLE, Int.reduceLT, Nat.reduceLeDiff, Nat.reduceAdd, Nat.reduceEqDiff, true_and, and_true, ↓reduceIte, if_false, if_true, forall_const, not_true_eq_false, not_false_eq_true, false_implies, true_implies, implies_true, Int.reduceAdd, Int.reduceMul, Int.reduceSub, ne_eq, ca_47_84, bl_47_31, bl_47_43, bl_47_55, bl_47_64, gf_84_0, gf_84_1, gf_84_2, ar_43, al_43, gf_84_3, ar_44, al_44, gf_84_4, ar_45, al_45, gf_84_5, ar_46, al_46, gf_84_6, pf_84_6, gf_78_0, pf_78_0, gf_78_1, pf_78_1, gf_78_2, ar_6, al_6, gf_78_3, ar_7, al_7, gf_78_4, ar_8, al_8, gf_78_5, ar_9, al_9, gf_78_6, ar_10, al_10, e78, p1, b]
      (repeat' (first | with_reducible apply And.intro | with_reducible intro _)) <;> first | omega | exact K0 q
set_option maxHeartbeats 400000 in
set_option maxRecDepth 100000 in
theorem lp_as2 {S : sg_S} {a t al m : Int} {h0 : am_H} {Q : am_P} (ht : 0 ≤ t ∧ t ≤ 299) (hal : 0 ≤ al ∧ al ≤ 255) (hm : sub m al) (H : ∀ h1, ty_ok h1 S → fr_r h0 h1 → dp 1000000 S a t al 0 m (fun _ => sg_G S) (h1 45) → Q none h1) :
    ∀ (n : Nat) (x : Int) (h : am_H), 0 ≤ x → x + n = sg_G S → ty_ok h S → fr_r h0 h → dp 1000000 S a t al 0 m (fun _ => x) (h 45) → am_Ex 47 2 [some (.inr (.inr (some 84))), some (.inl m), some (.inl al), some (.inl x), none, none, none] [] h Q := by
  intro n
  have mr := hm.1
  induction n with
  | zero =>
    intro x h x0 x1 hy hf I
    have hG := hy.1.2.1
    have p1 := hy.2.2.2.1.2.1
    have ex : x = sg_G S := by omega
    subst ex
    have K := H h hy hf I
    rw [bl_47_2]
    simp only [eq_self, and_self, am_up_at, Int.cast_ofNat_Int, Int.reduceNatCast, true_or, or_true, or_false, false_or, Classical.not_not, false_and, and_false, am_bk, am_step, am_ldI, am_ldL, am_ldA, am_nth, am_sto, am_stw_0, am_stw_i, am_stw_n, am_stw_a, am_stw_l, am_br, am_cmp, am_tk, am_cat, am_sw, am_copy, am_R, am_nc0, am_nc1, am_f0, am_f1, am_f2, am_f3, Int.reduceNeg, Int.reduceEq, Int.reduceLE, Int.reduceLT, Nat.reduceLeDiff, Nat.reduceAdd, Nat.reduceEqDiff, true_and, and_true, ↓reduceIte, if_false, if_true, forall_const, not_true_eq_false, not_false_eq_true, false_implies, true_implies, implies_true, Int.reduceAdd, Int.reduceMul, Int.reduceSub, ne_eq, ca_47_84, bl_47_68, gf_84_0, gf_84_1, gf_84_2, ar_43, al_43, gf_84_3, ar_44, al_44, gf_84_4, ar_45, al_45, gf_84_5, ar_46, al_46, gf_84_6, pf_84_6, gf_78_0, pf_78_0, gf_78_1, pf_78_1, gf_78_2, ar_6, al_6, gf_78_3, ar_7, al_7, gf_78_4, ar_8, al_8, gf_78_5, ar_9, al_9, gf_78_6, ar_10, al_10, p1]
    (repeat' (first | with_reducible apply And.intro | with_reducible intro _)) <;> first | omega | exact K
  | succ n ih =>
    intro x h x0 x1 hy hf I
    have hG := hy.1.2.1
    have p1 := hy.2.2.2.1.2.1
    have hx : 0 ≤ x ∧ x < sg_G S := by omega
    have bd' := dp_b hG ht (by omega) I m.toNat m x (by omega) hm hx.1 hx.2
    have pcr := pc_r m
    by_cases q : h 45 (8 * m + x) < 1000000
    · have K : ∀ h1, ty_ok h1 S → fr_x h h1 → (∀ b, 0 ≤ b → b < sg_G S → ar_is 1000000 S x (h 45 (8 * m + x)) b (h1 43 b)) → am_Ex 47 24 [some (.inr (.inr (some 84))), some (.inl m), some (.inl al), some (.inl x), some (.inl (h 45 (8 * m + x))), none, none] [] h1 Q := by
        intro h1 y1 f1 ar
        have e45 := f1 45 (by omega) (by omega)
        have K := lp_as1 (a := a) (t := t) (Q := Q) y1 ht hal hm hx (by rw [e45]) q (by omega) ar (fun h2 f2 I2 => by
          have K := ih (x + 1) h2 (by omega) (by omega) (ty_fr y1 (fun c hc => f2 c (by omega))) (fun c c1 c2 c3 => (f2 c c3).trans ((f1 c c1 c2).trans (hf c c1 c2 c3))) I2
          simp only [eq_self, and_self, am_up_at, Int.cast_ofNat_Int, Int.reduceNatCast, true_or, or_true, or_false, false_or, Classical.not_not, false_and, and_false, am_bk, am_step, am_ldI, am_ldL, am_ldA, am_nth, am_sto, am_stw_0, am_stw_i, am_stw_n, am_stw_a, am_stw_l, am_br, am_cmp, am_tk, am_cat, am_sw, am_copy, am_R, am_nc0, am_nc1, am_f0, am_f1, am_f2, am_f3, Int.reduceNeg, Int.reduceEq, Int.reduceLE, Int.reduceLT, Nat.reduceLeDiff, Nat.reduceAdd, Nat.reduceEqDiff, true_and, and_true, ↓reduceIte, if_false, if_true, forall_const, not_true_eq_false, not_false_eq_true, false_implies, true_implies, implies_true, Int.reduceAdd, Int.reduceMul, Int.reduceSub, ne_eq, ca_47_84, bl_47_66, gf_84_0, gf_84_1, gf_84_2, ar_43, al_43, gf_84_3, ar_44, al_44, gf_84_4, ar_45, al_45, gf_84_5, ar_46, al_46, gf_84_6, pf_84_6]
          (repeat' (first | with_reducible apply And.intro | with_reducible intro _)) <;> first | omega | exact am_forget K (by simp [am_lq])) (sg_G S).toNat 0 h1 (by omega) (by omega) (fun _ _ => rfl) (by rw [e45]) (by rw [e45]; exact dp_be hx.2 I)
        simp only [eq_self, and_self, am_up_at, Int.cast_ofNat_Int, Int.reduceNatCast, true_or, or_true, or_false, false_or, Classical.not_not, false_and, and_false, am_bk, am_step, am_ldI, am_ldL, am_ldA, am_nth, am_sto, am_stw_0, am_stw_i, am_stw_n, am_stw_a, am_stw_l, am_br, am_cmp, am_tk, am_cat, am_sw, am_copy, am_R, am_nc0, am_nc1, am_f0, am_f1, am_f2, am_f3, Int.reduceNeg, Int.reduceEq, Int.reduceLE, Int.reduceLT, Nat.reduceLeDiff, Nat.reduceAdd, Nat.reduceEqDiff, true_and, and_true, ↓reduceIte, if_false, if_true, forall_const, not_true_eq_false, not_false_eq_true, false_implies, true_implies, implies_true, Int.reduceAdd, Int.reduceMul, Int.reduceSub, ne_eq, ca_47_84, bl_47_24, gf_84_0, gf_84_1, gf_84_2, ar_43, al_43, gf_84_3, ar_44, al_44, gf_84_4, ar_45, al_45, gf_84_5, ar_46, al_46, gf_84_6, pf_84_6]
        exact K
      rw [bl_47_2]
      simp only [eq_self, and_self, am_up_at, Int.cast_ofNat_Int, Int.reduceNatCast, true_or, or_true, or_false, false_or, Classical.not_not, false_and, and_false, am_bk, am_step, am_ldI, am_ldL, am_ldA, am_nth, am_sto, am_stw_0, am_stw_i, am_stw_n, am_stw_a, am_stw_l, am_br, am_cmp, am_tk, am_cat, am_sw, am_copy, am_R, am_nc0, am_nc1, am_f0, am_f1, am_f2, am_f3, Int.reduceNeg, Int.reduceEq, Int.reduceLE, Int.reduceLT, Nat.reduceLeDiff, Nat.reduceAdd, Nat.reduceEqDiff, true_and, and_true, ↓reduceIte, if_false, if_true, forall_const, not_true_eq_false, not_false_eq_true, false_implies, true_implies, implies_true, Int.reduceAdd, Int.reduceMul, Int.reduceSub, ne_eq, ca_47_84, bl_47_7, bl_47_19, bl_47_20, gf_84_0, gf_84_1, gf_84_2, ar_43, al_43, gf_84_3, ar_44, al_44, gf_84_4, ar_45, al_45, gf_84_5, ar_46, al_46, gf_84_6, pf_84_6, gf_78_0, pf_78_0, gf_78_1, pf_78_1, gf_78_2, ar_6, al_6, gf_78_3, ar_7, al_7, gf_78_4, ar_8, al_8, gf_78_5, ar_9, al_9, gf_78_6, ar_10, al_10, p1]
      (repeat' (first | with_reducible apply And.intro | with_reducible intro _)) <;> first | omega | exact sp_spread hy hx (by omega) K
    · have K := ih (x + 1) h (by omega) (by omega) hy hf (dp_sk hx.2 q I)
      rw [bl_47_2]
      simp only [eq_self, and_self, am_up_at, Int.cast_ofNat_Int, Int.reduceNatCast, true_or, or_true, or_false, false_or, Classical.not_not, false_and, and_false, am_bk, am_step, am_ldI, am_ldL, am_ldA, am_nth, am_sto, am_stw_0, am_stw_i, am_stw_n, am_stw_a, am_stw_l, am_br, am_cmp, am_tk, am_cat, am_sw, am_copy, am_R, am_nc0, am_nc1, am_f0, am_f1, am_f2, am_f3, Int.reduceNeg, Int.reduceEq, Int.reduceLE, Int.reduceLT, Nat.reduceLeDiff, Nat.reduceAdd, Nat.reduceEqDiff, true_and, and_true, ↓reduceIte, if_false, if_true, forall_const, not_true_eq_false, not_false_eq_true, false_implies, true_implies, implies_true, Int.reduceAdd, Int.reduceMul, Int.reduceSub, ne_eq, ca_47_84, bl_47_7, bl_47_19, bl_47_66, gf_84_0, gf_84_1, gf_84_2, ar_43, al_43, gf_84_3, ar_44, al_44, gf_84_4, ar_45, al_45, gf_84_5, ar_46, al_46, gf_84_6, pf_84_6, gf_78_0, pf_78_0, gf_78_1, pf_78_1, gf_78_2, ar_6, al_6, gf_78_3, ar_7, al_7, gf_78_4, ar_8, al_8, gf_78_5, ar_9, al_9, gf_78_6, ar_10, al_10, p1]
      (repeat' (first | with_reducible apply And.intro | with_reducible intro _)) <;> first | omega | exact am_forget K (by simp [am_lq])
set_option maxHeartbeats 400000 in
set_option maxRecDepth 100000 in
theorem sp_as {S : sg_S} {a t al m : Int} {h : am_H} {Q : am_P} (hy : ty_ok h S) (ht : 0 ≤ t ∧ t ≤ 299) (hal : 0 ≤ al ∧ al ≤ 255) (hm : sub m al) (I : dp 1000000 S a t al 0 m (fun _ => 0) (h 45)) (H : ∀ h1, ty_ok h1 S → fr_r h h1 → dp 1000000 S a t al 0 m (fun _ => sg_G S) (h1 45) → Q none h1) : am_Call 47 [.inr (.inr (some 84)), .inl m, .inl al] h Q := by
  have hG := hy.1.2.1
  simp only [eq_self, and_self, am_up_at, Int.cast_ofNat_Int, Int.reduceNatCast, true_or, or_true, or_false, false_or, Classical.not_not, false_and, and_false, am_bk, am_step, am_ldI, am_ldL, am_ldA, am_nth, am_sto, am_stw_0, am_stw_i, am_stw_n, am_stw_a, am_stw_l, am_br, am_cmp, am_tk, am_cat, am_sw, am_copy, am_R, am_nc0, am_nc1, am_f0, am_f1, am_f2, am_f3, Int.reduceNeg, Int.reduceEq, Int.reduceLE, Int.reduceLT, Nat.reduceLeDiff, Nat.reduceAdd, Nat.reduceEqDiff, true_and, and_true, ↓reduceIte, if_false, if_true, forall_const, not_true_eq_false, not_false_eq_true, false_implies, true_implies, implies_true, Int.reduceAdd, Int.reduceMul, Int.reduceSub, ne_eq, ca_47_84, bl_47_0, gf_84_0, gf_84_1, gf_84_2, ar_43, al_43, gf_84_3, ar_44, al_44, gf_84_4, ar_45, al_45, gf_84_5, ar_46, al_46, gf_84_6, pf_84_6]
  exact lp_as2 ht hal hm H (sg_G S).toNat 0 h (by omega) (by omega) hy (fun _ _ _ _ => rfl) I
set_option maxHeartbeats 400000 in
set_option maxRecDepth 100000 in
theorem lp_er1 {S : sg_S} {a t st al : Int} {h0 : am_H} {Q : am_P} (ht : 0 ≤ t ∧ t ≤ 299) (hal : 0 ≤ al ∧ al ≤ 255) (H : ∀ h1, ty_ok h1 S → fr_r h0 h1 → dp 1000000 S a t al 0 al (fun _ => 0) (h1 45) → am_Ex 46 34 [some (.inr (.inr (some 84))), some (.inl a), some (.inl t), some (.inl st), some (.inl al), some (.inl al), none, none] [] h1 Q) :
    ∀ (n : Nat) (m : Int) (h : am_H), 0 ≤ m → m + n = al → ty_ok h S → fr_r h0 h → dp 1000000 S a t al 0 m (fun _ => 0) (h 45) → am_Ex 46 19 [some (.inr (.inr (some 84))), some (.inl a), some (.inl t), some (.inl st), some (.inl al), some (.inl m), none, none] [] h Q := by
  intro n
  induction n with
  | zero =>
    intro m h m0 m1 hy hf I
    have em : m = al := by omega
    subst em
    have K := H h hy hf I
    rw [bl_46_19]
    simp only [eq_self, and_self, am_up_at, Int.cast_ofNat_Int, Int.reduceNatCast, true_or, or_true, or_false, false_or, Classical.not_not, false_and, and_false, am_bk, am_step, am_ldI, am_ldL, am_ldA, am_nth, am_sto, am_stw_0, am_stw_i, am_stw_n, am_stw_a, am_stw_l, am_br, am_cmp, am_tk, am_cat, am_sw, am_copy, am_R, am_nc0, am_nc1, am_f0, am_f1, am_f2, am_f3, Int.reduceNeg, Int.reduceEq, Int.reduceLE, Int.reduceLT, Nat.reduceLeDiff, Nat.reduceAdd, Nat.reduceEqDiff, true_and, and_true, ↓reduceIte, if_false, if_true, forall_const, not_true_eq_false, not_false_eq_true, false_implies, true_implies, implies_true, Int.reduceAdd, Int.reduceMul, Int.reduceSub, ne_eq, gf_84_0, gf_84_1, gf_84_2, ar_43, al_43, gf_84_3, ar_44, al_44, gf_84_4, ar_45, al_45, gf_84_5, ar_46, al_46, gf_84_6, pf_84_6]
    (repeat' (first | with_reducible apply And.intro | with_reducible intro _)) <;> first | omega | exact K
  | succ n ih =>
    intro m h m0 m1 hy hf I
    have hG := hy.1.2.1
    have sd := sub_df (x := m) (y := al) (by omega) hal
    have dr := (bt_df (x := m) (y := al) (by omega) hal).1
    by_cases q : sub m al
    · have z := sd.mpr q
      have K : ∀ h1, ty_ok h1 S → fr_r h h1 → dp 1000000 S a t al 0 m (fun _ => sg_G S) (h1 45) → am_Ex 46 32 [some (.inr (.inr (some 84))), some (.inl a), some (.inl t), some (.inl st), some (.inl al), some (.inl m), none, none] [] h1 Q := by
        intro h1 y1 f1 I1
        have K := ih (m + 1) h1 (by omega) (by omega) y1 (fun c c1 c2 c3 => (f1 c c1 c2 c3).trans (hf c c1 c2 c3)) (dp_nx hG I1 (fun _ _ _ _ => rfl))
        simp only [eq_self, and_self, am_up_at, Int.cast_ofNat_Int, Int.reduceNatCast, true_or, or_true, or_false, false_or, Classical.not_not, false_and, and_false, am_bk, am_step, am_ldI, am_ldL, am_ldA, am_nth, am_sto, am_stw_0, am_stw_i, am_stw_n, am_stw_a, am_stw_l, am_br, am_cmp, am_tk, am_cat, am_sw, am_copy, am_R, am_nc0, am_nc1, am_f0, am_f1, am_f2, am_f3, Int.reduceNeg, Int.reduceEq, Int.reduceLE, Int.reduceLT, Nat.reduceLeDiff, Nat.reduceAdd, Nat.reduceEqDiff, true_and, and_true, ↓reduceIte, if_false, if_true, forall_const, not_true_eq_false, not_false_eq_true, false_implies, true_implies, implies_true, Int.reduceAdd, Int.reduceMul, Int.reduceSub, ne_eq, ca_46_84, bl_46_32, gf_84_0, gf_84_1, gf_84_2, ar_43, al_43, gf_84_3, ar_44, al_44, gf_84_4, ar_45, al_45, gf_84_5, ar_46, al_46, gf_84_6, pf_84_6]
        (repeat' (first | with_reducible apply And.intro | with_reducible intro _)) <;> first | omega | exact K
      rw [bl_46_19]
      simp only [eq_self, and_self, am_up_at, Int.cast_ofNat_Int, Int.reduceNatCast, true_or, or_true, or_false, false_or, Classical.not_not, false_and, and_false, am_bk, am_step, am_ldI, am_ldL, am_ldA, am_nth, am_sto, am_stw_0, am_stw_i, am_stw_n, am_stw_a, am_stw_l, am_br, am_cmp, am_tk, am_cat, am_sw, am_copy, am_R, am_nc0, am_nc1, am_f0, am_f1, am_f2, am_f3, Int.reduceNeg, Int.reduceEq, Int.reduceLE, Int.reduceLT, Nat.reduceLeDiff, Nat.reduceAdd, Nat.reduceEqDiff, true_and, and_true, ↓reduceIte, if_false, if_true, forall_const, not_true_eq_false, not_false_eq_true, false_implies, true_implies, implies_true, Int.reduceAdd, Int.reduceMul, Int.reduceSub, ne_eq, ca_46_84, bl_46_22, gf_84_0, gf_84_1, gf_84_2, ar_43, al_43, gf_84_3, ar_44, al_44, gf_84_4, ar_45, al_45, gf_84_5, ar_46, al_46, gf_84_6, pf_84_6, z]
      (repeat' (first | with_reducible apply And.intro | with_reducible intro _)) <;> first | omega | exact sp_as hy ht hal q I K
    · have z : am_and m (am_xor al (-1)) ≠ 0 := fun z => q (sd.mp z)
      have K := ih (m + 1) h (by omega) (by omega) hy hf (dp_nx hG I (fun z => absurd z q))
      rw [bl_46_19]
      simp only [eq_self, and_self, am_up_at, Int.cast_ofNat_Int, Int.reduceNatCast, true_or, or_true, or_false, false_or, Classical.not_not, false_and, and_false, am_bk, am_step, am_ldI, am_ldL, am_ldA, am_nth, am_sto, am_stw_0, am_stw_i, am_stw_n, am_stw_a, am_stw_l, am_br, am_cmp, am_tk, am_cat, am_sw, am_copy, am_R, am_nc0, am_nc1, am_f0, am_f1, am_f2, am_f3, Int.reduceNeg, Int.reduceEq, Int.reduceLE, Int.reduceLT, Nat.reduceLeDiff, Nat.reduceAdd, Nat.reduceEqDiff, true_and, and_true, ↓reduceIte, if_false, if_true, forall_const, not_true_eq_false, not_false_eq_true, false_implies, true_implies, implies_true, Int.reduceAdd, Int.reduceMul, Int.reduceSub, ne_eq, ca_46_84, bl_46_22, bl_46_32, gf_84_0, gf_84_1, gf_84_2, ar_43, al_43, gf_84_3, ar_44, al_44, gf_84_4, ar_45, al_45, gf_84_5, ar_46, al_46, gf_84_6, pf_84_6]
      (repeat' (first | with_reducible apply And.intro | with_reducible intro _)) <;> first | omega | exact K | exact absurd (by assumption) z
set_option maxHeartbeats 400000 in
set_option maxRecDepth 100000 in
theorem lp_er2 {S : sg_S} {a t st al : Int} {A : Int → Int} {h0 : am_H} {Q : am_P} (ha : 0 ≤ a ∧ a < sg_G S) (ht : 0 ≤ t ∧ t ≤ 299) (hal : 0 ≤ al ∧ al ≤ 255) (hA : ∀ g, 0 ≤ g → g < sg_G S → A g = 1000000 ∨ (0 ≤ A g ∧ A g ≤ 40000)) (H : ∀ h1 r, ty_ok h1 S → fr_x h0 h1 → mn 1000000 S A a (sg_G S) r → Q (some (.inl r)) h1) (h0A : ∀ g, A g = h0 45 (8 * al + g)) :
    ∀ (n : Nat) (x r : Int) (h : am_H), 0 ≤ x → x + n = sg_G S → ty_ok h S → fr_x h0 h → 0 ≤ r → mn 1000000 S A a x r → am_Ex 46 38 [some (.inr (.inr (some 84))), some (.inl a), some (.inl t), some (.inl st), some (.inl al), some (.inl r), some (.inl x), none] [] h Q := by
  intro n
  induction n with
  | zero =>
    intro x r h x0 x1 hy hf r0 I
    have hG := hy.1.2.1
    have p1 := hy.2.2.2.1.2.1
    have ex : x = sg_G S := by omega
    subst ex
    have rN := I.1
    have K := H h r hy hf I
    rw [bl_46_38]
    simp only [eq_self, and_self, am_up_at, Int.cast_ofNat_Int, Int.reduceNatCast, true_or, or_true, or_false, false_or, Classical.not_not, false_and, and_false, am_bk, am_step, am_ldI, am_ldL, am_ldA, am_nth, am_sto, am_stw_0, am_stw_i, am_stw_n, am_stw_a, am_stw_l, am_br, am_cmp, am_tk, am_cat, am_sw, am_copy, am_R, am_nc0, am_nc1, am_f0, am_f1, am_f2, am_f3, Int.reduceNeg, Int.reduceEq, Int.reduceLE, Int.reduceLT, Nat.reduceLeDiff, Nat.reduceAdd, Nat.reduceEqDiff, true_and, and_true, ↓reduceIte, if_false, if_true, forall_const, not_true_eq_false, not_false_eq_true, false_implies, true_implies, implies_true, Int.reduceAdd, Int.reduceMul, Int.reduceSub, ne_eq, ca_46_84, bl_46_68, gf_84_0, gf_84_1, gf_84_2, ar_43, al_43, gf_84_3, ar_44, al_44, gf_84_4, ar_45, al_45, gf_84_5, ar_46, al_46, gf_84_6, pf_84_6, gf_78_0, pf_78_0, gf_78_1, pf_78_1, gf_78_2, ar_6, al_6, gf_78_3, ar_7, al_7, gf_78_4, ar_8, al_8, gf_78_5, ar_9, al_9, gf_78_6, ar_10, al_10, p1]
    (repeat' (first | with_reducible apply And.intro | with_reducible intro _)) <;> first | omega | exact K
  | succ n ih =>
    intro x r h x0 x1 hy hf r0 I
    have hG := hy.1.2.1
    have p1 := hy.2.2.2.1.2.1
    have rN := I.1
    have hx : 0 ≤ x ∧ x < sg_G S := by omega
    have e45 : h 45 (8 * al + x) = A x := by rw [hf 45 (by omega) (by omega), h0A]
    have rA := hA x hx.1 hx.2
    by_cases q : A x < 1000000
    · have K : ∀ h1, ty_ok h1 S → fr_x h h1 → (∀ b, 0 ≤ b → b < sg_G S → ar_is 1000000 S x (A x) b (h1 43 b)) → am_Ex 46 59 [some (.inr (.inr (some 84))), some (.inl a), some (.inl t), some (.inl st), some (.inl al), some (.inl r), some (.inl x), some (.inl (A x))] [] h1 Q := by
        intro h1 y1 f1 ar
        have a1 := ar a ha.1 ha.2
        have ar1 := ar_r (by omega) (by omega) a1
        have Kw : ∀ w, w = (if h1 43 a < r then h1 43 a else r) → am_Ex 46 65 [some (.inr (.inr (some 84))), some (.inl a), some (.inl t), some (.inl st), some (.inl al), some (.inl r), some (.inl x), some (.inl (A x))] [.inl w] h1 Q := by
          intro w hw
          have K := ih (x + 1) w h1 (by omega) (by omega) y1 (fun c c1 c2 => (f1 c c1 c2).trans (hf c c1 c2)) (by rw [hw]; split <;> omega) (by rw [hw]; exact mn_s hx.1 I q a1 (by omega))
          simp only [eq_self, and_self, am_up_at, Int.cast_ofNat_Int, Int.reduceNatCast, true_or, or_true, or_false, false_or, Classical.not_not, false_and, and_false, am_bk, am_step, am_ldI, am_ldL, am_ldA, am_nth, am_sto, am_stw_0, am_stw_i, am_stw_n, am_stw_a, am_stw_l, am_br, am_cmp, am_tk, am_cat, am_sw, am_copy, am_R, am_nc0, am_nc1, am_f0, am_f1, am_f2, am_f3, Int.reduceNeg, Int.reduceEq, Int.reduceLE, Int.reduceLT, Nat.reduceLeDiff, Nat.reduceAdd, Nat.reduceEqDiff, true_and, and_true, ↓reduceIte, if_false, if_true, forall_const, not_true_eq_false, not_false_eq_true, false_implies, true_implies, implies_true, Int.reduceAdd, Int.reduceMul, Int.reduceSub, ne_eq, ca_46_84, bl_46_65, bl_46_66, gf_84_0, gf_84_1, gf_84_2, ar_43, al_43, gf_84_3, ar_44, al_44, gf_84_4, ar_45, al_45, gf_84_5, ar_46, al_46, gf_84_6, pf_84_6]
          (repeat' (first | with_reducible apply And.intro | with_reducible intro _)) <;> first | omega | exact am_forget K (by simp [am_lq])
        simp only [eq_self, and_self, am_up_at, Int.cast_ofNat_Int, Int.reduceNatCast, true_or, or_true, or_false, false_or, Classical.not_not, false_and, and_false, am_bk, am_step, am_ldI, am_ldL, am_ldA, am_nth, am_sto, am_stw_0, am_stw_i, am_stw_n, am_stw_a, am_stw_l, am_br, am_cmp, am_tk, am_cat, am_sw, am_copy, am_R, am_nc0, am_nc1, am_f0, am_f1, am_f2, am_f3, Int.reduceNeg, Int.reduceEq, Int.reduceLE, Int.reduceLT, Nat.reduceLeDiff, Nat.reduceAdd, Nat.reduceEqDiff, true_and, and_true, ↓reduceIte, if_false, if_true, forall_const, not_true_eq_false, not_false_eq_true, false_implies, true_implies, implies_true, Int.reduceAdd, Int.reduceMul, Int.reduceSub, ne_eq, ca_46_84, bl_46_59, ca_160, bl_160_0, bl_160_5, bl_160_6, gf_84_0, gf_84_1, gf_84_2, ar_43, al_43, gf_84_3, ar_44, al_44, gf_84_4, ar_45, al_45, gf_84_5, ar_46, al_46, gf_84_6, pf_84_6]
        (repeat' (first | with_reducible apply And.intro | with_reducible intro _)) <;> first | omega | exact Kw _ (by split <;> omega)
      rw [bl_46_38]
      simp only [eq_self, and_self, am_up_at, Int.cast_ofNat_Int, Int.reduceNatCast, true_or, or_true, or_false, false_or, Classical.not_not, false_and, and_false, am_bk, am_step, am_ldI, am_ldL, am_ldA, am_nth, am_sto, am_stw_0, am_stw_i, am_stw_n, am_stw_a, am_stw_l, am_br, am_cmp, am_tk, am_cat, am_sw, am_copy, am_R, am_nc0, am_nc1, am_f0, am_f1, am_f2, am_f3, Int.reduceNeg, Int.reduceEq, Int.reduceLE, Int.reduceLT, Nat.reduceLeDiff, Nat.reduceAdd, Nat.reduceEqDiff, true_and, and_true, ↓reduceIte, if_false, if_true, forall_const, not_true_eq_false, not_false_eq_true, false_implies, true_implies, implies_true, Int.reduceAdd, Int.reduceMul, Int.reduceSub, ne_eq, ca_46_84, bl_46_43, bl_46_55, gf_84_0, gf_84_1, gf_84_2, ar_43, al_43, gf_84_3, ar_44, al_44, gf_84_4, ar_45, al_45, gf_84_5, ar_46, al_46, gf_84_6, pf_84_6, gf_78_0, pf_78_0, gf_78_1, pf_78_1, gf_78_2, ar_6, al_6, gf_78_3, ar_7, al_7, gf_78_4, ar_8, al_8, gf_78_5, ar_9, al_9, gf_78_6, ar_10, al_10, p1, e45]
      (repeat' (first | with_reducible apply And.intro | with_reducible intro _)) <;> first | omega | exact sp_spread hy hx (by omega) K
    · have K := ih (x + 1) r h (by omega) (by omega) hy hf r0 (mn_k I q)
      rw [bl_46_38]
      simp only [eq_self, and_self, am_up_at, Int.cast_ofNat_Int, Int.reduceNatCast, true_or, or_true, or_false, false_or, Classical.not_not, false_and, and_false, am_bk, am_step, am_ldI, am_ldL, am_ldA, am_nth, am_sto, am_stw_0, am_stw_i, am_stw_n, am_stw_a, am_stw_l, am_br, am_cmp, am_tk, am_cat, am_sw, am_copy, am_R, am_nc0, am_nc1, am_f0, am_f1, am_f2, am_f3, Int.reduceNeg, Int.reduceEq, Int.reduceLE, Int.reduceLT, Nat.reduceLeDiff, Nat.reduceAdd, Nat.reduceEqDiff, true_and, and_true, ↓reduceIte, if_false, if_true, forall_const, not_true_eq_false, not_false_eq_true, false_implies, true_implies, implies_true, Int.reduceAdd, Int.reduceMul, Int.reduceSub, ne_eq, ca_46_84, bl_46_43, bl_46_55, bl_46_66, gf_84_0, gf_84_1, gf_84_2, ar_43, al_43, gf_84_3, ar_44, al_44, gf_84_4, ar_45, al_45, gf_84_5, ar_46, al_46, gf_84_6, pf_84_6, gf_78_0, pf_78_0, gf_78_1, pf_78_1, gf_78_2, ar_6, al_6, gf_78_3, ar_7, al_7, gf_78_4, ar_8, al_8, gf_78_5, ar_9, al_9, gf_78_6, ar_10, al_10, p1, e45]
      (repeat' (first | with_reducible apply And.intro | with_reducible intro _)) <;> first | omega | exact am_forget K (by simp [am_lq])
set_option maxHeartbeats 400000 in
set_option maxRecDepth 100000 in
theorem sp_eor {S : sg_S} {a t st al : Int} {h : am_H} {Q : am_P} (hy : ty_ok h S) (ha : 0 ≤ a ∧ a < sg_G S) (ht : 0 ≤ t ∧ t ≤ 299) (hst : 0 ≤ st ∧ st ≤ 255) (hal : al = st - (if bt st a = 1 then pw a else 0)) (H : ∀ h1 r A, ty_ok h1 S → fr_r h h1 → dp 1000000 S a t al 0 al (fun _ => 0) A → mn 1000000 S (fun q => A (8 * al + q)) a (sg_G S) r → Q (some (.inl r)) h1) : am_Call 46 [.inr (.inr (some 84)), .inl a, .inl t, .inl st] h Q := by
  have hG := hy.1.2.1
  have ec := bt_cl hst (show 0 ≤ a ∧ a ≤ 7 by omega)
  have er := (bt_clr hst (show 0 ≤ a ∧ a ≤ 7 by omega)).1
  rw [ec, ← hal] at er
  simp only [eq_self, and_self, am_up_at, Int.cast_ofNat_Int, Int.reduceNatCast, true_or, or_true, or_false, false_or, Classical.not_not, false_and, and_false, am_bk, am_step, am_ldI, am_ldL, am_ldA, am_nth, am_sto, am_stw_0, am_stw_i, am_stw_n, am_stw_a, am_stw_l, am_br, am_cmp, am_tk, am_cat, am_sw, am_copy, am_R, am_nc0, am_nc1, am_f0, am_f1, am_f2, am_f3, Int.reduceNeg, Int.reduceEq, Int.reduceLE, Int.reduceLT, Nat.reduceLeDiff, Nat.reduceAdd, Nat.reduceEqDiff, true_and, and_true, ↓reduceIte, if_false, if_true, forall_const, not_true_eq_false, not_false_eq_true, false_implies, true_implies, implies_true, Int.reduceAdd, Int.reduceMul, Int.reduceSub, ne_eq, ca_46_84, bl_46_0, gf_84_0, gf_84_1, gf_84_2, ar_43, al_43, gf_84_3, ar_44, al_44, gf_84_4, ar_45, al_45, gf_84_5, ar_46, al_46, gf_84_6, pf_84_6, ec, ← hal]
  refine sp_fill (n := 2048) al_45 ar_45 rfl (by omega) (fun h1 e1 e2 => ?_)
  have y1 : ty_ok h1 S := ty_fr hy (fun c hc => e1 c (by omega))
  have K := lp_er1 (a := a) (t := t) (st := st) (h0 := h) (Q := Q) ht er (fun h2 y2 f2 I2 => by
    have K := lp_er2 (st := st) (h0 := h2) (A := fun q => h2 45 (8 * al + q)) (Q := Q) ha ht er (fun g g0 g1 => by
      have := dp_b hG ht (by omega) I2 al.toNat al g (by omega) ⟨er, fun k _ _ z => z⟩ g0 g1
      have := pc_r al
      show h2 45 (8 * al + g) = 1000000 ∨ (0 ≤ h2 45 (8 * al + g) ∧ h2 45 (8 * al + g) ≤ 40000)
      omega) (fun h3 r y3 f3 M => H h3 r (h2 45) y3 (fun c c1 c2 c3 => (f3 c c1 c2).trans (f2 c c1 c2 c3)) I2 M) (fun g => rfl) (sg_G S).toNat 0 1000000 h2 (by omega) (by omega) y2 (fun _ _ _ => rfl) (by omega) (mn_0.mpr rfl)
    simp only [eq_self, and_self, am_up_at, Int.cast_ofNat_Int, Int.reduceNatCast, true_or, or_true, or_false, false_or, Classical.not_not, false_and, and_false, am_bk, am_step, am_ldI, am_ldL, am_ldA, am_nth, am_sto, am_stw_0, am_stw_i, am_stw_n, am_stw_a, am_stw_l, am_br, am_cmp, am_tk, am_cat, am_sw, am_copy, am_R, am_nc0, am_nc1, am_f0, am_f1, am_f2, am_f3, Int.reduceNeg, Int.reduceEq, Int.reduceLE, Int.reduceLT, Nat.reduceLeDiff, Nat.reduceAdd, Nat.reduceEqDiff, true_and, and_true, ↓reduceIte, if_false, if_true, forall_const, not_true_eq_false, not_false_eq_true, false_implies, true_implies, implies_true, Int.reduceAdd, Int.reduceMul, Int.reduceSub, ne_eq, ca_46_84, bl_46_34, gf_84_0, gf_84_1, gf_84_2, ar_43, al_43, gf_84_3, ar_44, al_44, gf_84_4, ar_45, al_45, gf_84_5, ar_46, al_46, gf_84_6, pf_84_6]
    (repeat' (first | with_reducible apply And.intro | with_reducible intro _)) <;> first | omega | exact am_forget K (by simp [am_lq])) al.toNat 0 (am_up h1 45 a t) (by omega) (by omega) (ty_fr y1 (fun c hc => by rw [am_up_ne (show c ≠ 45 by omega)])) (fun c c1 c2 c3 => by rw [am_up_ne c3, e1 c c3]) (dp_0 hG (fun s g hs g0 g1 => by
      have := hs.1
      rw [am_up_at]
      simp only [true_and]
      rw [e2 (8 * s + g), if_pos (show 0 ≤ 8 * s + g ∧ 8 * s + g < 2048 by omega)]
      by_cases c : s = 0 ∧ g = a
      · rw [if_pos c, if_pos (by omega)]
      · rw [if_neg c, if_neg (by omega)]))
  simp only [eq_self, and_self, am_up_at, Int.cast_ofNat_Int, Int.reduceNatCast, true_or, or_true, or_false, false_or, Classical.not_not, false_and, and_false, am_bk, am_step, am_ldI, am_ldL, am_ldA, am_nth, am_sto, am_stw_0, am_stw_i, am_stw_n, am_stw_a, am_stw_l, am_br, am_cmp, am_tk, am_cat, am_sw, am_copy, am_R, am_nc0, am_nc1, am_f0, am_f1, am_f2, am_f3, Int.reduceNeg, Int.reduceEq, Int.reduceLE, Int.reduceLT, Nat.reduceLeDiff, Nat.reduceAdd, Nat.reduceEqDiff, true_and, and_true, ↓reduceIte, if_false, if_true, forall_const, not_true_eq_false, not_false_eq_true, false_implies, true_implies, implies_true, Int.reduceAdd, Int.reduceMul, Int.reduceSub, ne_eq, ca_46_84, bl_46_12, gf_84_0, gf_84_1, gf_84_2, ar_43, al_43, gf_84_3, ar_44, al_44, gf_84_4, ar_45, al_45, gf_84_5, ar_46, al_46, gf_84_6, pf_84_6]
  (repeat' (first | with_reducible apply And.intro | with_reducible intro _)) <;> first | omega | exact K
