/-! worst, latest -/
def sn (S : sg_S) (a t b v : Int) : Prop := (t ≤ v ∧ v ≤ t + 4040) ∧ wy S a t b v ∧ ∀ s, wy S a t b s → v ≤ s
theorem sn_one {S : sg_S} {a t b v w : Int} (h1 : sn S a t b v) (h2 : sn S a t b w) : v = w := by
  have := h1.2.2 w h2.2.1
  have := h2.2.2 v h1.2.1
  omega
def nv (S : sg_S) (a t b : Int) : Prop := ∀ s, ¬ wy S a t b s
theorem ar_sn {N : Int} {S : sg_S} {a t b v : Int} (hN : 90000 ≤ N) (ht : t ≤ 50000) (h : ar_is N S a t b v) : (v < N ∧ sn S a t b v) ∨ (v = N ∧ nv S a t b) := by
  rcases h with q | q
  · exact Or.inl ⟨by omega, q⟩
  · exact Or.inr q
/-- r is the most over the seconds before n -/
def wr (S : sg_S) (a b n r : Int) : Prop := (∀ t, 0 ≤ t → t < n → ∃ v, sn S a t b v ∧ v - t ≤ r) ∧ (r = 0 ∨ ∃ t v, (0 ≤ t ∧ t < n) ∧ sn S a t b v ∧ r = v - t) ∧ 0 ≤ r ∧ r ≤ 4040
theorem wr_one {S : sg_S} {a b n r q : Int} (h1 : wr S a b n r) (h2 : wr S a b n q) : r = q := by
  have le : ∀ {r q : Int}, wr S a b n r → wr S a b n q → r ≤ q := by
    intro r q h1 h2
    rcases h1.2.1 with e | ⟨t, v, t1, v1, e⟩
    · have := h2.2.2; omega
    · obtain ⟨w, w1, w2⟩ := h2.1 t t1.1 t1.2
      have := sn_one v1 w1
      omega
  have := le h1 h2
  have := le h2 h1
  omega
theorem wr_s {S : sg_S} {a b n r v : Int} (hn : 0 ≤ n) (h : wr S a b n r) (hv : sn S a n b v) : wr S a b (n + 1) (if r < v - n then v - n else r) := by
  have := hv.1
  obtain ⟨h1, h2, h3⟩ := h
  refine ⟨fun t t1 t2 => ?_, ?_, by split <;> omega⟩
  · by_cases e : t = n
    · subst e; exact ⟨v, hv, by split <;> omega⟩
    · obtain ⟨w, w1, w2⟩ := h1 t t1 (by omega)
      exact ⟨w, w1, by split <;> omega⟩
  · by_cases c : r < v - n
    · rw [if_pos c]; exact Or.inr ⟨n, v, by omega, hv, rfl⟩
    · rw [if_neg c]
      rcases h2 with e | ⟨t, w, t1, t2, t3⟩
      · exact Or.inl e
      · exact Or.inr ⟨t, w, by omega, t2, t3⟩
theorem wr_0 {S : sg_S} {a b : Int} : wr S a b 0 0 := ⟨fun t t1 t2 => by omega, Or.inl rfl, by omega⟩
def wv (S : sg_S) (a b n : Int) : Prop := ∃ t, (0 ≤ t ∧ t < n) ∧ nv S a t b
theorem wv_not {S : sg_S} {a b n r : Int} (h : wr S a b n r) : ¬ wv S a b n := by
  intro ⟨t, t1, t2⟩
  obtain ⟨v, v1, _⟩ := h.1 t t1.1 t1.2
  exact t2 v v1.2.1
set_option maxHeartbeats 400000 in
set_option maxRecDepth 100000 in
theorem lp_longest {S : sg_S} {a b : Int} {h0 : am_H} {Q : am_P} (ha : 0 ≤ a ∧ a < sg_G S) (hb : 0 ≤ b ∧ b < sg_G S) (F : ∀ h1 r, ty_ok h1 S → fr_x h0 h1 → wr S a b (sg_U S) r → Q (some (.inl r)) h1) (N : ∀ h1, ty_ok h1 S → fr_x h0 h1 → wv S a b (sg_U S) → Q (some (.inl 1000000)) h1) :
    ∀ (m : Nat) (t r : Int) (h : am_H), 0 ≤ t → t + m = sg_U S → ty_ok h S → fr_x h0 h → wr S a b t r → am_Ex 48 4 [some (.inr (.inr (some 84))), some (.inl a), some (.inl b), some (.inl r), some (.inl t)] [] h Q := by
  intro m
  induction m with
  | zero =>
    intro t r h t0 t1 hy hf I
    have hU := hy.1.1
    have p0 := hy.2.2.2.1.1
    have K := F h r hy hf (by rw [show sg_U S = t by omega]; exact I)
    rw [bl_48_4]
    simp only [eq_self, and_self, am_up_at, Int.cast_ofNat_Int, Int.reduceNatCast, true_or, or_true, or_false, false_or, Classical.not_not, false_and, and_false, am_bk, am_step, am_ldI, am_ldL, am_ldA, am_nth, am_sto, am_stw_0, am_stw_i, am_stw_n, am_stw_a, am_stw_l, am_br, am_cmp, am_tk, am_cat, am_sw, am_copy, am_R, am_nc0, am_nc1, am_f0, am_f1, am_f2, am_f3, Int.reduceNeg, Int.reduceEq, Int.reduceLE, Int.reduceLT, Nat.reduceLeDiff, Nat.reduceAdd, Nat.reduceEqDiff, true_and, and_true, ↓reduceIte, if_false, if_true, forall_const, not_true_eq_false, not_false_eq_true, false_implies, true_implies, implies_true, Int.reduceAdd, Int.reduceMul, Int.reduceSub, ne_eq, ca_48_84, bl_48_32, gf_84_0, gf_84_1, gf_84_2, ar_43, al_43, gf_84_3, ar_44, al_44, gf_84_4, ar_45, al_45, gf_84_5, ar_46, al_46, gf_84_6, pf_84_6, gf_78_0, pf_78_0, gf_78_1, pf_78_1, gf_78_2, ar_6, al_6, gf_78_3, ar_7, al_7, gf_78_4, ar_8, al_8, gf_78_5, ar_9, al_9, gf_78_6, ar_10, al_10, p0]
    (repeat' (first | with_reducible apply And.intro | with_reducible intro _)) <;> first | omega | exact K
  | succ m ih =>
    intro t r h t0 t1 hy hf I
    have hU := hy.1.1
    have hG := hy.1.2.1
    have p0 := hy.2.2.2.1.1
    have ir := I.2.2
    rw [bl_48_4]
    simp only [eq_self, and_self, am_up_at, Int.cast_ofNat_Int, Int.reduceNatCast, true_or, or_true, or_false, false_or, Classical.not_not, false_and, and_false, am_bk, am_step, am_ldI, am_ldL, am_ldA, am_nth, am_sto, am_stw_0, am_stw_i, am_stw_n, am_stw_a, am_stw_l, am_br, am_cmp, am_tk, am_cat, am_sw, am_copy, am_R, am_nc0, am_nc1, am_f0, am_f1, am_f2, am_f3, Int.reduceNeg, Int.reduceEq, Int.reduceLE, Int.reduceLT, Nat.reduceLeDiff, Nat.reduceAdd, Nat.reduceEqDiff, true_and, and_true, ↓reduceIte, if_false, if_true, forall_const, not_true_eq_false, not_false_eq_true, false_implies, true_implies, implies_true, Int.reduceAdd, Int.reduceMul, Int.reduceSub, ne_eq, ca_48_84, bl_48_9, gf_84_0, gf_84_1, gf_84_2, ar_43, al_43, gf_84_3, ar_44, al_44, gf_84_4, ar_45, al_45, gf_84_5, ar_46, al_46, gf_84_6, pf_84_6, gf_78_0, pf_78_0, gf_78_1, pf_78_1, gf_78_2, ar_6, al_6, gf_78_3, ar_7, al_7, gf_78_4, ar_8, al_8, gf_78_5, ar_9, al_9, gf_78_6, ar_10, al_10, p0]
    refine ⟨by omega, fun q => by omega, fun _ => ?_⟩
    refine sp_spread hy ha (by omega) (fun h1 y1 f1 ar => ?_)
    have fx : fr_x h0 h1 := fun c c1 c2 => (f1 c c1 c2).trans (hf c c1 c2)
    have ab := ar b hb.1 hb.2
    rcases ar_sn (by omega) (by omega) ab with ⟨l, q⟩ | ⟨l, q⟩
    · have q1 := q.1
      have K := ih (t + 1) _ h1 (by omega) (by omega) y1 fx (wr_s t0 I q)
      simp only [eq_self, and_self, am_up_at, Int.cast_ofNat_Int, Int.reduceNatCast, true_or, or_true, or_false, false_or, Classical.not_not, false_and, and_false, am_bk, am_step, am_ldI, am_ldL, am_ldA, am_nth, am_sto, am_stw_0, am_stw_i, am_stw_n, am_stw_a, am_stw_l, am_br, am_cmp, am_tk, am_cat, am_sw, am_copy, am_R, am_nc0, am_nc1, am_f0, am_f1, am_f2, am_f3, Int.reduceNeg, Int.reduceEq, Int.reduceLE, Int.reduceLT, Nat.reduceLeDiff, Nat.reduceAdd, Nat.reduceEqDiff, true_and, and_true, ↓reduceIte, if_false, if_true, forall_const, not_true_eq_false, not_false_eq_true, false_implies, true_implies, implies_true, Int.reduceAdd, Int.reduceMul, Int.reduceSub, ne_eq, ca_48_84, bl_48_13, bl_48_21, bl_48_29, ca_159, bl_159_0, bl_159_5, bl_159_6, gf_84_0, gf_84_1, gf_84_2, ar_43, al_43, gf_84_3, ar_44, al_44, gf_84_4, ar_45, al_45, gf_84_5, ar_46, al_46, gf_84_6, pf_84_6, gf_78_0, pf_78_0, gf_78_1, pf_78_1, gf_78_2, ar_6, al_6, gf_78_3, ar_7, al_7, gf_78_4, ar_8, al_8, gf_78_5, ar_9, al_9, gf_78_6, ar_10, al_10]
      by_cases c : r < h1 43 b - t
      · rw [if_pos c] at K
        (repeat' (first | with_reducible apply And.intro | with_reducible intro _)) <;> first | omega | exact K
      · rw [if_neg c] at K
        (repeat' (first | with_reducible apply And.intro | with_reducible intro _)) <;> first | omega | exact K
    · have K := N h1 y1 fx ⟨t, by omega, q⟩
      simp only [eq_self, and_self, am_up_at, Int.cast_ofNat_Int, Int.reduceNatCast, true_or, or_true, or_false, false_or, Classical.not_not, false_and, and_false, am_bk, am_step, am_ldI, am_ldL, am_ldA, am_nth, am_sto, am_stw_0, am_stw_i, am_stw_n, am_stw_a, am_stw_l, am_br, am_cmp, am_tk, am_cat, am_sw, am_copy, am_R, am_nc0, am_nc1, am_f0, am_f1, am_f2, am_f3, Int.reduceNeg, Int.reduceEq, Int.reduceLE, Int.reduceLT, Nat.reduceLeDiff, Nat.reduceAdd, Nat.reduceEqDiff, true_and, and_true, ↓reduceIte, if_false, if_true, forall_const, not_true_eq_false, not_false_eq_true, false_implies, true_implies, implies_true, Int.reduceAdd, Int.reduceMul, Int.reduceSub, ne_eq, ca_48_84, bl_48_13, gf_84_0, gf_84_1, gf_84_2, ar_43, al_43, gf_84_3, ar_44, al_44, gf_84_4, ar_45, al_45, gf_84_5, ar_46, al_46, gf_84_6, pf_84_6, gf_78_0, pf_78_0, gf_78_1, pf_78_1, gf_78_2, ar_6, al_6, gf_78_3, ar_7, al_7, gf_78_4, ar_8, al_8, gf_78_5, ar_9, al_9, gf_78_6, ar_10, al_10, l]
      (repeat' (first | with_reducible apply And.intro | with_reducible intro _)) <;> first | omega | exact K
set_option maxHeartbeats 400000 in
set_option maxRecDepth 100000 in
theorem sp_longest {S : sg_S} {a b : Int} {h : am_H} {Q : am_P} (hy : ty_ok h S) (ha : 0 ≤ a ∧ a < sg_G S) (hb : 0 ≤ b ∧ b < sg_G S) (F : ∀ h1 r, ty_ok h1 S → fr_x h h1 → wr S a b (sg_U S) r → Q (some (.inl r)) h1) (N : ∀ h1, ty_ok h1 S → fr_x h h1 → wv S a b (sg_U S) → Q (some (.inl 1000000)) h1) : am_Call 48 [.inr (.inr (some 84)), .inl a, .inl b] h Q := by
  have hU := hy.1.1
  simp only [eq_self, and_self, am_up_at, Int.cast_ofNat_Int, Int.reduceNatCast, true_or, or_true, or_false, false_or, Classical.not_not, false_and, and_false, am_bk, am_step, am_ldI, am_ldL, am_ldA, am_nth, am_sto, am_stw_0, am_stw_i, am_stw_n, am_stw_a, am_stw_l, am_br, am_cmp, am_tk, am_cat, am_sw, am_copy, am_R, am_nc0, am_nc1, am_f0, am_f1, am_f2, am_f3, Int.reduceNeg, Int.reduceEq, Int.reduceLE, Int.reduceLT, Nat.reduceLeDiff, Nat.reduceAdd, Nat.reduceEqDiff, true_and, and_true, ↓reduceIte, if_false, if_true, forall_const, not_true_eq_false, not_false_eq_true, false_implies, true_implies, implies_true, Int.reduceAdd, Int.reduceMul, Int.reduceSub, ne_eq, ca_48_84, bl_48_0, gf_84_0, gf_84_1, gf_84_2, ar_43, al_43, gf_84_3, ar_44, al_44, gf_84_4, ar_45, al_45, gf_84_5, ar_46, al_46, gf_84_6, pf_84_6]
  exact lp_longest ha hb F N (sg_U S).toNat 0 0 h (by omega) (by omega) hy (fun _ _ _ => rfl) wr_0
/-- the reference's row of the worst -/
def wm (S : sg_S) (a b n r : Int) : Prop := (r = 99999 ∧ wv S a b n) ∨ wr S a b n r
theorem wm_s {S : sg_S} {a b n r v : Int} (hn : 0 ≤ n ∧ n ≤ 50000) (h : wm S a b n r) (hv : ar_is 99999 S a n b v) : ∀ w, w = (if v = 99999 then 99999 else v - n) → wm S a b (n + 1) (if r < w then w else r) := by
  intro w hw
  have rr : 0 ≤ r ∧ r ≤ 99999 := by
    rcases h with q | q
    · omega
    · have := q.2.2; omega
  rcases ar_sn (by omega) (by omega) hv with ⟨l, q⟩ | ⟨l, q⟩
  · rw [if_neg (by omega)] at hw
    have := q.1
    rcases h with ⟨h1, t, t1, t2⟩ | h
    · rw [if_neg (by omega)]; exact Or.inl ⟨h1, t, by omega, t2⟩
    · rw [hw]; exact Or.inr (wr_s hn.1 h q)
  · rw [if_pos l] at hw
    left
    refine ⟨by split <;> omega, n, by omega, q⟩
def fr_n (h h1 : am_H) : Prop := ∀ c, c ≠ 68 → c ≠ 69 → c ≠ 70 → h1 c = h c
theorem mx_fn {h h1 : am_H} (f : fr_n h h1) : mx h h1 := ⟨fun c hc => f c (by omega) (by omega) (by omega), fun i hi => by rw [f 86 (by omega) (by omega) (by omega)]⟩
theorem fn_m {h h1 h2 : am_H} (f : fr_n h h1) (g : fr_m h1 h2) : fr_n h h2 := fun c a b d => (g c a b).trans (f c a b d)
theorem fn_u {h h1 : am_H} {i v : Int} (f : fr_n h h1) : fr_n h (am_up h1 70 i v) := fun c a b d => by rw [am_up_ne d]; exact f c a b d
set_option maxHeartbeats 400000 in
set_option maxRecDepth 100000 in
theorem lp_lw0 {S : sg_S} {a : Int} {h0 : am_H} {Q : am_P} (hm0 : sg_of h0 = S) (hS : sg_ok S) (H : ∀ h1, fr_n h0 h1 → (∀ b, 0 ≤ b → b < sg_G S → h1 70 b = 0) → am_Ex 142 15 [some (.inr (.inr (some 86))), some (.inl a), some (.inl 0), none, none] [] h1 Q) :
    ∀ (m : Nat) (g : Int) (h : am_H), 0 ≤ g → g + m = sg_G S → fr_n h0 h → (∀ b, 0 ≤ b → b < g → h 70 b = 0) → am_Ex 142 2 [some (.inr (.inr (some 86))), some (.inl a), some (.inl g), none, none] [] h Q := by
  intro m
  have hG := hS.2.1
  induction m with
  | zero =>
    intro g h g0 g1 hf I
    have e : h 86 5 = sg_G S := by rw [← hm0, ← mx_sg (mx_fn hf)]; rfl
    have K := H h hf (by rw [show sg_G S = g by omega]; exact I)
    rw [bl_142_2]
    simp only [eq_self, and_self, am_up_at, Int.cast_ofNat_Int, Int.reduceNatCast, true_or, or_true, or_false, false_or, Classical.not_not, false_and, and_false, am_bk, am_step, am_ldI, am_ldL, am_ldA, am_nth, am_sto, am_stw_0, am_stw_i, am_stw_n, am_stw_a, am_stw_l, am_br, am_cmp, am_tk, am_cat, am_sw, am_copy, am_R, am_nc0, am_nc1, am_f0, am_f1, am_f2, am_f3, Int.reduceNeg, Int.reduceEq, Int.reduceLE, Int.reduceLT, Nat.reduceLeDiff, Nat.reduceAdd, Nat.reduceEqDiff, true_and, and_true, ↓reduceIte, if_false, if_true, forall_const, not_true_eq_false, not_false_eq_true, false_implies, true_implies, implies_true, Int.reduceAdd, Int.reduceMul, Int.reduceSub, ne_eq, ca_142_86, bl_142_13, gf_86_0, pf_86_0, gf_86_1, ar_50, al_50, gf_86_2, pf_86_2, gf_86_3, pf_86_3, gf_86_4, pf_86_4, gf_86_5, pf_86_5, gf_86_6, ar_51, al_51, gf_86_7, ar_52, al_52, gf_86_8, ar_53, al_53, gf_86_9, ar_54, al_54, gf_86_10, ar_55, al_55, gf_86_11, ar_56, al_56, gf_86_12, ar_57, al_57, gf_86_13, pf_86_13, gf_86_14, pf_86_14, gf_86_15, ar_58, al_58, gf_86_16, ar_59, al_59, gf_86_17, ar_60, al_60, gf_86_18, ar_61, al_61, gf_86_19, ar_62, al_62, gf_86_20, pf_86_20, gf_86_21, pf_86_21, gf_86_22, ar_63, al_63, gf_86_23, ar_64, al_64, gf_86_24, ar_65, al_65, gf_86_25, ar_66, al_66, gf_86_26, ar_67, al_67, gf_86_27, ar_68, al_68, gf_86_28, ar_69, al_69, gf_86_29, ar_70, al_70, gf_86_30, ar_71, al_71, gf_86_31, ar_72, al_72, gf_86_32, ar_73, al_73, gf_86_33, ar_74, al_74, gf_86_34, pf_86_34, e]
    (repeat' (first | with_reducible apply And.intro | with_reducible intro _)) <;> first | omega | exact K
  | succ m ih =>
    intro g h g0 g1 hf I
    have e : h 86 5 = sg_G S := by rw [← hm0, ← mx_sg (mx_fn hf)]; rfl
    have K := ih (g + 1) (am_up h 70 g 0) (by omega) (by omega) (fn_u hf) (fun b b1 b2 => by
      simp only [eq_self, and_self, am_up_at, am_up_ne, ne_eq, Nat.reduceEqDiff, Int.reduceEq, Int.reduceNeg, not_false_eq_true, false_and, and_false, true_and, and_true, ↓reduceIte, if_false, if_true, Int.reduceAdd, Int.reduceMul, Nat.reduceAdd]
      split
      · rfl
      · exact I b b1 (by omega))
    rw [bl_142_2]
    simp only [eq_self, and_self, am_up_at, Int.cast_ofNat_Int, Int.reduceNatCast, true_or, or_true, or_false, false_or, Classical.not_not, false_and, and_false, am_bk, am_step, am_ldI, am_ldL, am_ldA, am_nth, am_sto, am_stw_0, am_stw_i, am_stw_n, am_stw_a, am_stw_l, am_br, am_cmp, am_tk, am_cat, am_sw, am_copy, am_R, am_nc0, am_nc1, am_f0, am_f1, am_f2, am_f3, Int.reduceNeg, Int.reduceEq, Int.reduceLE, Int.reduceLT, Nat.reduceLeDiff, Nat.reduceAdd, Nat.reduceEqDiff, true_and, and_true, ↓reduceIte, if_false, if_true, forall_const, not_true_eq_false, not_false_eq_true, false_implies, true_implies, implies_true, Int.reduceAdd, Int.reduceMul, Int.reduceSub, ne_eq, ca_142_86, bl_142_6, gf_86_0, pf_86_0, gf_86_1, ar_50, al_50, gf_86_2, pf_86_2, gf_86_3, pf_86_3, gf_86_4, pf_86_4, gf_86_5, pf_86_5, gf_86_6, ar_51, al_51, gf_86_7, ar_52, al_52, gf_86_8, ar_53, al_53, gf_86_9, ar_54, al_54, gf_86_10, ar_55, al_55, gf_86_11, ar_56, al_56, gf_86_12, ar_57, al_57, gf_86_13, pf_86_13, gf_86_14, pf_86_14, gf_86_15, ar_58, al_58, gf_86_16, ar_59, al_59, gf_86_17, ar_60, al_60, gf_86_18, ar_61, al_61, gf_86_19, ar_62, al_62, gf_86_20, pf_86_20, gf_86_21, pf_86_21, gf_86_22, ar_63, al_63, gf_86_23, ar_64, al_64, gf_86_24, ar_65, al_65, gf_86_25, ar_66, al_66, gf_86_26, ar_67, al_67, gf_86_27, ar_68, al_68, gf_86_28, ar_69, al_69, gf_86_29, ar_70, al_70, gf_86_30, ar_71, al_71, gf_86_31, ar_72, al_72, gf_86_32, ar_73, al_73, gf_86_33, ar_74, al_74, gf_86_34, pf_86_34, e]
    (repeat' (first | with_reducible apply And.intro | with_reducible intro _)) <;> first | omega | exact K
set_option maxHeartbeats 400000 in
set_option maxRecDepth 100000 in
theorem lp_lw1 {S : sg_S} {a t : Int} {h0 : am_H} {Q : am_P} (hm0 : sg_of h0 = S) (hS : sg_ok S) (ht : 0 ≤ t ∧ t ≤ 54) (ar : ∀ b, 0 ≤ b → b < sg_G S → ar_is 99999 S a t b (h0 68 b)) (I0 : ∀ b, 0 ≤ b → b < sg_G S → wm S a b t (h0 70 b)) (H : ∀ h1, (∀ c, c ≠ 70 → h1 c = h0 c) → (∀ b, 0 ≤ b → b < sg_G S → wm S a b (t + 1) (h1 70 b)) → am_Ex 142 62 [some (.inr (.inr (some 86))), some (.inl a), some (.inl t), some (.inl (sg_G S)), none] [] h1 Q) :
    ∀ (m : Nat) (g : Int) (h : am_H), 0 ≤ g → g + m = sg_G S → (∀ c, c ≠ 70 → h c = h0 c) → (∀ b, 0 ≤ b → b < sg_G S → (b < g → wm S a b (t + 1) (h 70 b)) ∧ (¬ b < g → h 70 b = h0 70 b)) → am_Ex 142 25 [some (.inr (.inr (some 86))), some (.inl a), some (.inl t), some (.inl g), none] [] h Q := by
  intro m
  have hG := hS.2.1
  induction m with
  | zero =>
    intro g h g0 g1 hf I
    have e : h 86 5 = sg_G S := by rw [hf 86 (by omega), ← hm0]; rfl
    have eg : g = sg_G S := by omega
    subst eg
    have K := H h hf (fun b b1 b2 => (I b b1 b2).1 b2)
    rw [bl_142_25]
    simp only [eq_self, and_self, am_up_at, Int.cast_ofNat_Int, Int.reduceNatCast, true_or, or_true, or_false, false_or, Classical.not_not, false_and, and_false, am_bk, am_step, am_ldI, am_ldL, am_ldA, am_nth, am_sto, am_stw_0, am_stw_i, am_stw_n, am_stw_a, am_stw_l, am_br, am_cmp, am_tk, am_cat, am_sw, am_copy, am_R, am_nc0, am_nc1, am_f0, am_f1, am_f2, am_f3, Int.reduceNeg, Int.reduceEq, Int.reduceLE, Int.reduceLT, Nat.reduceLeDiff, Nat.reduceAdd, Nat.reduceEqDiff, true_and, and_true, ↓reduceIte, if_false, if_true, forall_const, not_true_eq_false, not_false_eq_true, false_implies, true_implies, implies_true, Int.reduceAdd, Int.reduceMul, Int.reduceSub, ne_eq, gf_86_0, pf_86_0, gf_86_1, ar_50, al_50, gf_86_2, pf_86_2, gf_86_3, pf_86_3, gf_86_4, pf_86_4, gf_86_5, pf_86_5, gf_86_6, ar_51, al_51, gf_86_7, ar_52, al_52, gf_86_8, ar_53, al_53, gf_86_9, ar_54, al_54, gf_86_10, ar_55, al_55, gf_86_11, ar_56, al_56, gf_86_12, ar_57, al_57, gf_86_13, pf_86_13, gf_86_14, pf_86_14, gf_86_15, ar_58, al_58, gf_86_16, ar_59, al_59, gf_86_17, ar_60, al_60, gf_86_18, ar_61, al_61, gf_86_19, ar_62, al_62, gf_86_20, pf_86_20, gf_86_21, pf_86_21, gf_86_22, ar_63, al_63, gf_86_23, ar_64, al_64, gf_86_24, ar_65, al_65, gf_86_25, ar_66, al_66, gf_86_26, ar_67, al_67, gf_86_27, ar_68, al_68, gf_86_28, ar_69, al_69, gf_86_29, ar_70, al_70, gf_86_30, ar_71, al_71, gf_86_31, ar_72, al_72, gf_86_32, ar_73, al_73, gf_86_33, ar_74, al_74, gf_86_34, pf_86_34, e]
    (repeat' (first | with_reducible apply And.intro | with_reducible intro _)) <;> first | omega | exact K
  | succ m ih =>
    intro g h g0 g1 hf I
    have e : h 86 5 = sg_G S := by rw [hf 86 (by omega), ← hm0]; rfl
    have e68 := hf 68 (by omega)
    have e70 := (I g (by omega) (by omega)).2 (by omega)
    have a1 := ar g (by omega) (by omega)
    have r1 := ar_r (by omega) (by omega) a1
    have w0 := I0 g (by omega) (by omega)
    have r0 : 0 ≤ h0 70 g ∧ h0 70 g ≤ 99999 := by
      rcases w0 with q | q
      · omega
      · have := q.2.2; omega
    have st := wm_s (by omega) w0 a1
    have r2 : t ≤ h0 68 g := by rcases a1 with q | q <;> omega
    have up : ∀ v, wm S a g (t + 1) v → am_Ex 142 25 [some (.inr (.inr (some 86))), some (.inl a), some (.inl t), some (.inl (g + 1)), none] [] (am_up h 70 g v) Q := by
      intro v hv
      refine ih (g + 1) (am_up h 70 g v) (by omega) (by omega) (fun c hc => by rw [am_up_ne hc, hf c hc]) (fun b b1 b2 => ?_)
      simp only [am_up_at, true_and]
      by_cases eb : b = g
      · rw [if_pos eb, eb]; exact ⟨fun _ => hv, fun q => by omega⟩
      · rw [if_neg eb]; exact ⟨fun q => (I b b1 b2).1 (by omega), fun q => (I b b1 b2).2 (by omega)⟩
    rw [bl_142_25]
    simp only [eq_self, and_self, am_up_at, Int.cast_ofNat_Int, Int.reduceNatCast, true_or, or_true, or_false, false_or, Classical.not_not, false_and, and_false, am_bk, am_step, am_ldI, am_ldL, am_ldA, am_nth, am_sto, am_stw_0, am_stw_i, am_stw_n, am_stw_a, am_stw_l, am_br, am_cmp, am_tk, am_cat, am_sw, am_copy, am_R, am_nc0, am_nc1, am_f0, am_f1, am_f2, am_f3, Int.reduceNeg, Int.reduceEq, Int.reduceLE, Int.reduceLT, Nat.reduceLeDiff, Nat.reduceAdd, Nat.reduceEqDiff, true_and, and_true, ↓reduceIte, if_false, if_true, forall_const, not_true_eq_false, not_false_eq_true, false_implies, true_implies, implies_true, Int.reduceAdd, Int.reduceMul, Int.reduceSub, ne_eq, ca_142_86, bl_142_29, bl_142_37, bl_142_43, bl_142_55, bl_142_59, gf_86_0, pf_86_0, gf_86_1, ar_50, al_50, gf_86_2, pf_86_2, gf_86_3, pf_86_3, gf_86_4, pf_86_4, gf_86_5, pf_86_5, gf_86_6, ar_51, al_51, gf_86_7, ar_52, al_52, gf_86_8, ar_53, al_53, gf_86_9, ar_54, al_54, gf_86_10, ar_55, al_55, gf_86_11, ar_56, al_56, gf_86_12, ar_57, al_57, gf_86_13, pf_86_13, gf_86_14, pf_86_14, gf_86_15, ar_58, al_58, gf_86_16, ar_59, al_59, gf_86_17, ar_60, al_60, gf_86_18, ar_61, al_61, gf_86_19, ar_62, al_62, gf_86_20, pf_86_20, gf_86_21, pf_86_21, gf_86_22, ar_63, al_63, gf_86_23, ar_64, al_64, gf_86_24, ar_65, al_65, gf_86_25, ar_66, al_66, gf_86_26, ar_67, al_67, gf_86_27, ar_68, al_68, gf_86_28, ar_69, al_69, gf_86_29, ar_70, al_70, gf_86_30, ar_71, al_71, gf_86_31, ar_72, al_72, gf_86_32, ar_73, al_73, gf_86_33, ar_74, al_74, gf_86_34, pf_86_34, e, e68, e70]
    by_cases c1 : h0 68 g = 99999
    · have s1 := st 99999 (by rw [if_pos c1])
      by_cases c2 : h0 70 g < 99999
      · rw [if_pos c2] at s1
        have K := up _ s1
        (repeat' (first | with_reducible apply And.intro | with_reducible intro _)) <;> first | omega | exact am_forget K (by simp [am_lq])
      · rw [if_neg c2] at s1
        have K := up _ s1
        (repeat' (first | with_reducible apply And.intro | with_reducible intro _)) <;> first | omega | exact am_forget K (by simp [am_lq])
    · have s1 := st (h0 68 g - t) (by rw [if_neg c1])
      by_cases c2 : h0 70 g < h0 68 g - t
      · rw [if_pos c2] at s1
        have K := up _ s1
        (repeat' (first | with_reducible apply And.intro | with_reducible intro _)) <;> first | omega | exact am_forget K (by simp [am_lq])
      · rw [if_neg c2] at s1
        have K := up _ s1
        (repeat' (first | with_reducible apply And.intro | with_reducible intro _)) <;> first | omega | exact am_forget K (by simp [am_lq])
set_option maxHeartbeats 400000 in
set_option maxRecDepth 100000 in
theorem lp_lw2 {S : sg_S} {a : Int} {h0 : am_H} {Q : am_P} (hm0 : sg_of h0 = S) (hS : sg_ok S) (hF : tb_fit S) (ha : 0 ≤ a ∧ a < sg_G S) (H : ∀ h1, fr_n h0 h1 → (∀ b, 0 ≤ b → b < sg_G S → wm S a b (sg_U S) (h1 70 b)) → Q none h1) :
    ∀ (m : Nat) (t : Int) (h : am_H), 0 ≤ t → t + m = sg_U S → fr_n h0 h → (∀ b, 0 ≤ b → b < sg_G S → wm S a b t (h 70 b)) → am_Ex 142 15 [some (.inr (.inr (some 86))), some (.inl a), some (.inl t), none, none] [] h Q := by
  intro m
  have hG := hS.2.1
  have hU := hS.1
  induction m with
  | zero =>
    intro t h t0 t1 hf I
    have e : h 86 4 = sg_U S := by rw [← hm0, ← mx_sg (mx_fn hf)]; rfl
    have K := H h hf (by rw [show sg_U S = t by omega]; exact I)
    rw [bl_142_15]
    simp only [eq_self, and_self, am_up_at, Int.cast_ofNat_Int, Int.reduceNatCast, true_or, or_true, or_false, false_or, Classical.not_not, false_and, and_false, am_bk, am_step, am_ldI, am_ldL, am_ldA, am_nth, am_sto, am_stw_0, am_stw_i, am_stw_n, am_stw_a, am_stw_l, am_br, am_cmp, am_tk, am_cat, am_sw, am_copy, am_R, am_nc0, am_nc1, am_f0, am_f1, am_f2, am_f3, Int.reduceNeg, Int.reduceEq, Int.reduceLE, Int.reduceLT, Nat.reduceLeDiff, Nat.reduceAdd, Nat.reduceEqDiff, true_and, and_true, ↓reduceIte, if_false, if_true, forall_const, not_true_eq_false, not_false_eq_true, false_implies, true_implies, implies_true, Int.reduceAdd, Int.reduceMul, Int.reduceSub, ne_eq, ca_142_86, bl_142_64, gf_86_0, pf_86_0, gf_86_1, ar_50, al_50, gf_86_2, pf_86_2, gf_86_3, pf_86_3, gf_86_4, pf_86_4, gf_86_5, pf_86_5, gf_86_6, ar_51, al_51, gf_86_7, ar_52, al_52, gf_86_8, ar_53, al_53, gf_86_9, ar_54, al_54, gf_86_10, ar_55, al_55, gf_86_11, ar_56, al_56, gf_86_12, ar_57, al_57, gf_86_13, pf_86_13, gf_86_14, pf_86_14, gf_86_15, ar_58, al_58, gf_86_16, ar_59, al_59, gf_86_17, ar_60, al_60, gf_86_18, ar_61, al_61, gf_86_19, ar_62, al_62, gf_86_20, pf_86_20, gf_86_21, pf_86_21, gf_86_22, ar_63, al_63, gf_86_23, ar_64, al_64, gf_86_24, ar_65, al_65, gf_86_25, ar_66, al_66, gf_86_26, ar_67, al_67, gf_86_27, ar_68, al_68, gf_86_28, ar_69, al_69, gf_86_29, ar_70, al_70, gf_86_30, ar_71, al_71, gf_86_31, ar_72, al_72, gf_86_32, ar_73, al_73, gf_86_33, ar_74, al_74, gf_86_34, pf_86_34, e]
    (repeat' (first | with_reducible apply And.intro | with_reducible intro _)) <;> first | omega | exact K
  | succ m ih =>
    intro t h t0 t1 hf I
    have em : sg_of h = S := by rw [← hm0, ← mx_sg (mx_fn hf)]
    have e : h 86 4 = sg_U S := by rw [← em]; rfl
    rw [bl_142_15]
    simp only [eq_self, and_self, am_up_at, Int.cast_ofNat_Int, Int.reduceNatCast, true_or, or_true, or_false, false_or, Classical.not_not, false_and, and_false, am_bk, am_step, am_ldI, am_ldL, am_ldA, am_nth, am_sto, am_stw_0, am_stw_i, am_stw_n, am_stw_a, am_stw_l, am_br, am_cmp, am_tk, am_cat, am_sw, am_copy, am_R, am_nc0, am_nc1, am_f0, am_f1, am_f2, am_f3, Int.reduceNeg, Int.reduceEq, Int.reduceLE, Int.reduceLT, Nat.reduceLeDiff, Nat.reduceAdd, Nat.reduceEqDiff, true_and, and_true, ↓reduceIte, if_false, if_true, forall_const, not_true_eq_false, not_false_eq_true, false_implies, true_implies, implies_true, Int.reduceAdd, Int.reduceMul, Int.reduceSub, ne_eq, ca_142_86, bl_142_19, gf_86_0, pf_86_0, gf_86_1, ar_50, al_50, gf_86_2, pf_86_2, gf_86_3, pf_86_3, gf_86_4, pf_86_4, gf_86_5, pf_86_5, gf_86_6, ar_51, al_51, gf_86_7, ar_52, al_52, gf_86_8, ar_53, al_53, gf_86_9, ar_54, al_54, gf_86_10, ar_55, al_55, gf_86_11, ar_56, al_56, gf_86_12, ar_57, al_57, gf_86_13, pf_86_13, gf_86_14, pf_86_14, gf_86_15, ar_58, al_58, gf_86_16, ar_59, al_59, gf_86_17, ar_60, al_60, gf_86_18, ar_61, al_61, gf_86_19, ar_62, al_62, gf_86_20, pf_86_20, gf_86_21, pf_86_21, gf_86_22, ar_63, al_63, gf_86_23, ar_64, al_64, gf_86_24, ar_65, al_65, gf_86_25, ar_66, al_66, gf_86_26, ar_67, al_67, gf_86_27, ar_68, al_68, gf_86_28, ar_69, al_69, gf_86_29, ar_70, al_70, gf_86_30, ar_71, al_71, gf_86_31, ar_72, al_72, gf_86_32, ar_73, al_73, gf_86_33, ar_74, al_74, gf_86_34, pf_86_34, e]
    refine ⟨by omega, fun q => by omega, fun _ => ?_⟩
    refine sp_goFrom em hS hF ha (by omega) (fun h1 f1 ar => ?_)
    have e70 : h1 70 = h 70 := f1 70 (by omega) (by omega)
    simp only [eq_self, and_self, am_up_at, Int.cast_ofNat_Int, Int.reduceNatCast, true_or, or_true, or_false, false_or, Classical.not_not, false_and, and_false, am_bk, am_step, am_ldI, am_ldL, am_ldA, am_nth, am_sto, am_stw_0, am_stw_i, am_stw_n, am_stw_a, am_stw_l, am_br, am_cmp, am_tk, am_cat, am_sw, am_copy, am_R, am_nc0, am_nc1, am_f0, am_f1, am_f2, am_f3, Int.reduceNeg, Int.reduceEq, Int.reduceLE, Int.reduceLT, Nat.reduceLeDiff, Nat.reduceAdd, Nat.reduceEqDiff, true_and, and_true, ↓reduceIte, if_false, if_true, forall_const, not_true_eq_false, not_false_eq_true, false_implies, true_implies, implies_true, Int.reduceAdd, Int.reduceMul, Int.reduceSub, ne_eq, ca_142_86, bl_142_23, gf_86_0, pf_86_0, gf_86_1, ar_50, al_50, gf_86_2, pf_86_2, gf_86_3, pf_86_3, gf_86_4, pf_86_4, gf_86_5, pf_86_5, gf_86_6, ar_51, al_51, gf_86_7, ar_52, al_52, gf_86_8, ar_53, al_53, gf_86_9, ar_54, al_54, gf_86_10, ar_55, al_55, gf_86_11, ar_56, al_56, gf_86_12, ar_57, al_57, gf_86_13, pf_86_13, gf_86_14, pf_86_14, gf_86_15, ar_58, al_58, gf_86_16, ar_59, al_59, gf_86_17, ar_60, al_60, gf_86_18, ar_61, al_61, gf_86_19, ar_62, al_62, gf_86_20, pf_86_20, gf_86_21, pf_86_21, gf_86_22, ar_63, al_63, gf_86_23, ar_64, al_64, gf_86_24, ar_65, al_65, gf_86_25, ar_66, al_66, gf_86_26, ar_67, al_67, gf_86_27, ar_68, al_68, gf_86_28, ar_69, al_69, gf_86_29, ar_70, al_70, gf_86_30, ar_71, al_71, gf_86_31, ar_72, al_72, gf_86_32, ar_73, al_73, gf_86_33, ar_74, al_74, gf_86_34, pf_86_34]
    refine lp_lw1 (by rw [← em]; exact fr_m_sg f1) hS (by omega) ar (by rw [e70]; exact I) (fun h2 f2 J => ?_) (sg_G S).toNat 0 h1 (by omega) (by omega) (fun _ _ => rfl) (fun b b1 b2 => ⟨fun q => by omega, fun _ => rfl⟩)
    simp only [eq_self, and_self, am_up_at, Int.cast_ofNat_Int, Int.reduceNatCast, true_or, or_true, or_false, false_or, Classical.not_not, false_and, and_false, am_bk, am_step, am_ldI, am_ldL, am_ldA, am_nth, am_sto, am_stw_0, am_stw_i, am_stw_n, am_stw_a, am_stw_l, am_br, am_cmp, am_tk, am_cat, am_sw, am_copy, am_R, am_nc0, am_nc1, am_f0, am_f1, am_f2, am_f3, Int.reduceNeg, Int.reduceEq, Int.reduceLE, Int.reduceLT, Nat.reduceLeDiff, Nat.reduceAdd, Nat.reduceEqDiff, true_and, and_true, ↓reduceIte, if_false, if_true, forall_const, not_true_eq_false, not_false_eq_true, false_implies, true_implies, implies_true, Int.reduceAdd, Int.reduceMul, Int.reduceSub, ne_eq, ca_142_86, bl_142_62, gf_86_0, pf_86_0, gf_86_1, ar_50, al_50, gf_86_2, pf_86_2, gf_86_3, pf_86_3, gf_86_4, pf_86_4, gf_86_5, pf_86_5, gf_86_6, ar_51, al_51, gf_86_7, ar_52, al_52, gf_86_8, ar_53, al_53, gf_86_9, ar_54, al_54, gf_86_10, ar_55, al_55, gf_86_11, ar_56, al_56, gf_86_12, ar_57, al_57, gf_86_13, pf_86_13, gf_86_14, pf_86_14, gf_86_15, ar_58, al_58, gf_86_16, ar_59, al_59, gf_86_17, ar_60, al_60, gf_86_18, ar_61, al_61, gf_86_19, ar_62, al_62, gf_86_20, pf_86_20, gf_86_21, pf_86_21, gf_86_22, ar_63, al_63, gf_86_23, ar_64, al_64, gf_86_24, ar_65, al_65, gf_86_25, ar_66, al_66, gf_86_26, ar_67, al_67, gf_86_27, ar_68, al_68, gf_86_28, ar_69, al_69, gf_86_29, ar_70, al_70, gf_86_30, ar_71, al_71, gf_86_31, ar_72, al_72, gf_86_32, ar_73, al_73, gf_86_33, ar_74, al_74, gf_86_34, pf_86_34]
    refine am_forget (ih (t + 1) h2 (by omega) (by omega) (fun c a b d => (f2 c d).trans ((f1 c a b).trans (hf c a b d))) J) (by simp [am_lq])
set_option maxHeartbeats 400000 in
set_option maxRecDepth 100000 in
theorem pr_worst {h : am_H} {k x y : Int} (hx : am_R x) (hy : am_R y) (hi : iv h k) (hk : k ≤ 600) : rg_pair 78 143 [.inl x, .inl y] h k := by
  unfold rg_pair
  have hthr := iv_thr hi
  have hS := hi.1
  have hF := tb_fit_of hi
  have e1 := hS.2.1
  have hU := hS.1
  have c2 := hi.2.1.2.1
  have eG : sg_G (sg_of h) = h 86 5 := rfl
  refine gx_worst hx hy (by omega) (fun V => ?_) (fun V => ?_)
  · exact gm_worst hx hy (by omega) (fun _ => rg_leaf rfl (by omega) hthr) (fun V' => absurd V' (by omega))
  · simp only [eq_self, and_self, am_up_at, Int.cast_ofNat_Int, Int.reduceNatCast, true_or, or_true, or_false, false_or, Classical.not_not, false_and, and_false, am_bk, am_step, am_ldI, am_ldL, am_ldA, am_nth, am_sto, am_stw_0, am_stw_i, am_stw_n, am_stw_a, am_stw_l, am_br, am_cmp, am_tk, am_cat, am_sw, am_copy, am_R, am_nc0, am_nc1, am_f0, am_f1, am_f2, am_f3, Int.reduceNeg, Int.reduceEq, Int.reduceLE, Int.reduceLT, Nat.reduceLeDiff, Nat.reduceAdd, Nat.reduceEqDiff, true_and, and_true, ↓reduceIte, if_false, if_true, forall_const, not_true_eq_false, not_false_eq_true, false_implies, true_implies, implies_true, Int.reduceAdd, Int.reduceMul, Int.reduceSub, ne_eq, ca_78_75, bl_78_7, gf_75_0, ar_0, al_0, gf_75_1, pf_75_1, gf_75_2, gf_75_3, gf_75_4, gf_75_5, gf_75_6, gf_75_7, gf_75_8, gf_75_9, gf_75_10]
    refine sp_lay0 hi hk (fun h1 y1 l10 l9 lc => ?_)
    have hg : 0 ≤ x ∧ x < sg_G (sg_of h) := by omega
    have hg2 : 0 ≤ y ∧ y < sg_G (sg_of h) := by omega
    have mod : ∀ (r : Int) (h2 : am_H), ty_ok h2 (sg_of h) → fr_x h1 h2 → ((wv (sg_of h) x y (sg_U (sg_of h)) → -9 = r) ∧ ∀ v, wr (sg_of h) x y (sg_U (sg_of h)) v → v = r) → -9 ≤ r ∧ r ≤ 5000 → am_Call 143 [.inr (.inr (some 86)), .inl x, .inl y] h2 (rg_post k (some (.inl r))) := by
      intro r h2 y2 f2 hr rr
      have X : xd h h2 k := xd_of hi y2 (by rw [f2 83 (by omega) (by omega)]; omega) (by rw [f2 83 (by omega) (by omega)]; exact l9) (cx_x (fun c c1 c2 c3 c4 _ _ _ _ => (f2 c c3 c4).trans (lc c c1 c2)))
      have f86 := X.1 86 (by omega)
      refine gm_worst hx hy (by rw [f86]; omega) (fun V' => absurd V (by rw [f86] at V'; omega)) (fun V' => ?_)
      have em : sg_of (am_up h2 86 0 0) = sg_of h := (mx_sg (mx_thr h2)).trans (cx_sg X.1)
      simp only [eq_self, and_self, am_up_at, Int.cast_ofNat_Int, Int.reduceNatCast, true_or, or_true, or_false, false_or, Classical.not_not, false_and, and_false, am_bk, am_step, am_ldI, am_ldL, am_ldA, am_nth, am_sto, am_stw_0, am_stw_i, am_stw_n, am_stw_a, am_stw_l, am_br, am_cmp, am_tk, am_cat, am_sw, am_copy, am_R, am_nc0, am_nc1, am_f0, am_f1, am_f2, am_f3, Int.reduceNeg, Int.reduceEq, Int.reduceLE, Int.reduceLT, Nat.reduceLeDiff, Nat.reduceAdd, Nat.reduceEqDiff, true_and, and_true, ↓reduceIte, if_false, if_true, forall_const, not_true_eq_false, not_false_eq_true, false_implies, true_implies, implies_true, Int.reduceAdd, Int.reduceMul, Int.reduceSub, ne_eq, ca_143_86, bl_143_13, ca_142_86, bl_142_0, gf_86_0, pf_86_0, gf_86_1, ar_50, al_50, gf_86_2, pf_86_2, gf_86_3, pf_86_3, gf_86_4, pf_86_4, gf_86_5, pf_86_5, gf_86_6, ar_51, al_51, gf_86_7, ar_52, al_52, gf_86_8, ar_53, al_53, gf_86_9, ar_54, al_54, gf_86_10, ar_55, al_55, gf_86_11, ar_56, al_56, gf_86_12, ar_57, al_57, gf_86_13, pf_86_13, gf_86_14, pf_86_14, gf_86_15, ar_58, al_58, gf_86_16, ar_59, al_59, gf_86_17, ar_60, al_60, gf_86_18, ar_61, al_61, gf_86_19, ar_62, al_62, gf_86_20, pf_86_20, gf_86_21, pf_86_21, gf_86_22, ar_63, al_63, gf_86_23, ar_64, al_64, gf_86_24, ar_65, al_65, gf_86_25, ar_66, al_66, gf_86_26, ar_67, al_67, gf_86_27, ar_68, al_68, gf_86_28, ar_69, al_69, gf_86_29, ar_70, al_70, gf_86_30, ar_71, al_71, gf_86_31, ar_72, al_72, gf_86_32, ar_73, al_73, gf_86_33, ar_74, al_74, gf_86_34, pf_86_34]
      refine lp_lw0 em hS (fun h3 f3 z3 => ?_) (sg_G (sg_of h)).toNat 0 _ (by omega) (by omega) (fun _ _ _ _ => rfl) (fun b b1 b2 => by omega)
      refine lp_lw2 em hS hF hg (fun h4 f4 I => ?_) (sg_U (sg_of h)).toNat 0 h3 (by omega) (by omega) f3 (fun b b1 b2 => by rw [z3 b b1 b2]; exact Or.inr wr_0)
      have fin := ed hi X (mx_t (mx_thr h2) (mx_fn f4))
      simp only [eq_self, and_self, am_up_at, Int.cast_ofNat_Int, Int.reduceNatCast, true_or, or_true, or_false, false_or, Classical.not_not, false_and, and_false, am_bk, am_step, am_ldI, am_ldL, am_ldA, am_nth, am_sto, am_stw_0, am_stw_i, am_stw_n, am_stw_a, am_stw_l, am_br, am_cmp, am_tk, am_cat, am_sw, am_copy, am_R, am_nc0, am_nc1, am_f0, am_f1, am_f2, am_f3, Int.reduceNeg, Int.reduceEq, Int.reduceLE, Int.reduceLT, Nat.reduceLeDiff, Nat.reduceAdd, Nat.reduceEqDiff, true_and, and_true, ↓reduceIte, if_false, if_true, forall_const, not_true_eq_false, not_false_eq_true, false_implies, true_implies, implies_true, Int.reduceAdd, Int.reduceMul, Int.reduceSub, ne_eq, ca_143_86, bl_143_16, bl_143_24, bl_143_28, gf_86_0, pf_86_0, gf_86_1, ar_50, al_50, gf_86_2, pf_86_2, gf_86_3, pf_86_3, gf_86_4, pf_86_4, gf_86_5, pf_86_5, gf_86_6, ar_51, al_51, gf_86_7, ar_52, al_52, gf_86_8, ar_53, al_53, gf_86_9, ar_54, al_54, gf_86_10, ar_55, al_55, gf_86_11, ar_56, al_56, gf_86_12, ar_57, al_57, gf_86_13, pf_86_13, gf_86_14, pf_86_14, gf_86_15, ar_58, al_58, gf_86_16, ar_59, al_59, gf_86_17, ar_60, al_60, gf_86_18, ar_61, al_61, gf_86_19, ar_62, al_62, gf_86_20, pf_86_20, gf_86_21, pf_86_21, gf_86_22, ar_63, al_63, gf_86_23, ar_64, al_64, gf_86_24, ar_65, al_65, gf_86_25, ar_66, al_66, gf_86_26, ar_67, al_67, gf_86_27, ar_68, al_68, gf_86_28, ar_69, al_69, gf_86_29, ar_70, al_70, gf_86_30, ar_71, al_71, gf_86_31, ar_72, al_72, gf_86_32, ar_73, al_73, gf_86_33, ar_74, al_74, gf_86_34, pf_86_34]
      have w := I y hg2.1 hg2.2
      generalize h4 70 y = v at w ⊢
      rcases w with ⟨q1, q2⟩ | q
      · have K : rg_post k (some (.inl r)) (some (.inl (-9))) h4 := rg_leaf (hr.1 q2) (by omega) fin
        (repeat' (first | with_reducible apply And.intro | with_reducible intro _)) <;> first | omega | exact K
      · have := q.2.2
        have K : rg_post k (some (.inl r)) (some (.inl v)) h4 := rg_leaf (hr.2 v q) (by omega) fin
        (repeat' (first | with_reducible apply And.intro | with_reducible intro _)) <;> first | omega | exact K
    simp only [eq_self, and_self, am_up_at, Int.cast_ofNat_Int, Int.reduceNatCast, true_or, or_true, or_false, false_or, Classical.not_not, false_and, and_false, am_bk, am_step, am_ldI, am_ldL, am_ldA, am_nth, am_sto, am_stw_0, am_stw_i, am_stw_n, am_stw_a, am_stw_l, am_br, am_cmp, am_tk, am_cat, am_sw, am_copy, am_R, am_nc0, am_nc1, am_f0, am_f1, am_f2, am_f3, Int.reduceNeg, Int.reduceEq, Int.reduceLE, Int.reduceLT, Nat.reduceLeDiff, Nat.reduceAdd, Nat.reduceEqDiff, true_and, and_true, ↓reduceIte, if_false, if_true, forall_const, not_true_eq_false, not_false_eq_true, false_implies, true_implies, implies_true, Int.reduceAdd, Int.reduceMul, Int.reduceSub, ne_eq, ca_78_75, bl_78_12, gf_75_0, ar_0, al_0, gf_75_1, pf_75_1, gf_75_2, gf_75_3, gf_75_4, gf_75_5, gf_75_6, gf_75_7, gf_75_8, gf_75_9, gf_75_10]
    refine sp_longest y1 hg hg2 (fun h2 r y2 f2 w => ?_) (fun h2 y2 f2 w => ?_)
    · have := w.2.2
      have K := mod r h2 y2 f2 ⟨fun z => absurd z (wv_not w), fun v hv => wr_one hv w⟩ (by omega)
      simp only [eq_self, and_self, am_up_at, Int.cast_ofNat_Int, Int.reduceNatCast, true_or, or_true, or_false, false_or, Classical.not_not, false_and, and_false, am_bk, am_step, am_ldI, am_ldL, am_ldA, am_nth, am_sto, am_stw_0, am_stw_i, am_stw_n, am_stw_a, am_stw_l, am_br, am_cmp, am_tk, am_cat, am_sw, am_copy, am_R, am_nc0, am_nc1, am_f0, am_f1, am_f2, am_f3, Int.reduceNeg, Int.reduceEq, Int.reduceLE, Int.reduceLT, Nat.reduceLeDiff, Nat.reduceAdd, Nat.reduceEqDiff, true_and, and_true, ↓reduceIte, if_false, if_true, forall_const, not_true_eq_false, not_false_eq_true, false_implies, true_implies, implies_true, Int.reduceAdd, Int.reduceMul, Int.reduceSub, ne_eq, ca_78_75, bl_78_17, bl_78_18, ca_90, bl_90_0, bl_90_5, bl_90_6, gf_75_0, ar_0, al_0, gf_75_1, pf_75_1, gf_75_2, gf_75_3, gf_75_4, gf_75_5, gf_75_6, gf_75_7, gf_75_8, gf_75_9, gf_75_10, gf_84_0, gf_84_1, gf_84_2, ar_43, al_43, gf_84_3, ar_44, al_44, gf_84_4, ar_45, al_45, gf_84_5, ar_46, al_46, gf_84_6, pf_84_6]
      (repeat' (first | with_reducible apply And.intro | with_reducible intro _)) <;> first | omega | exact K
    · have K := mod (-9) h2 y2 f2 ⟨fun z => rfl, fun v hv => absurd w (wv_not hv)⟩ (by omega)
      simp only [eq_self, and_self, am_up_at, Int.cast_ofNat_Int, Int.reduceNatCast, true_or, or_true, or_false, false_or, Classical.not_not, false_and, and_false, am_bk, am_step, am_ldI, am_ldL, am_ldA, am_nth, am_sto, am_stw_0, am_stw_i, am_stw_n, am_stw_a, am_stw_l, am_br, am_cmp, am_tk, am_cat, am_sw, am_copy, am_R, am_nc0, am_nc1, am_f0, am_f1, am_f2, am_f3, Int.reduceNeg, Int.reduceEq, Int.reduceLE, Int.reduceLT, Nat.reduceLeDiff, Nat.reduceAdd, Nat.reduceEqDiff, true_and, and_true, ↓reduceIte, if_false, if_true, forall_const, not_true_eq_false, not_false_eq_true, false_implies, true_implies, implies_true, Int.reduceAdd, Int.reduceMul, Int.reduceSub, ne_eq, ca_78_75, bl_78_17, bl_78_18, ca_90, bl_90_0, bl_90_5, bl_90_6, gf_75_0, ar_0, al_0, gf_75_1, pf_75_1, gf_75_2, gf_75_3, gf_75_4, gf_75_5, gf_75_6, gf_75_7, gf_75_8, gf_75_9, gf_75_10, gf_84_0, gf_84_1, gf_84_2, ar_43, al_43, gf_84_3, ar_44, al_44, gf_84_4, ar_45, al_45, gf_84_5, ar_46, al_46, gf_84_6, pf_84_6]
      (repeat' (first | with_reducible apply And.intro | with_reducible intro _)) <;> first | omega | exact K
