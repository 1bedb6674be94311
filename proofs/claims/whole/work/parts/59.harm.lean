/-! harm -/
def cn (P : Int → Prop) : Nat → Int → Prop
  | 0, k => k = 0
  | n + 1, k => ∃ j, cn P n j ∧ ((P n ∧ k = j + 1) ∨ (¬ P n ∧ k = j))
theorem cn_one {P : Int → Prop} : ∀ (n : Nat) (j k : Int), cn P n j → cn P n k → j = k := by
  intro n
  induction n with
  | zero => intro j k h1 h2; exact Eq.trans h1 h2.symm
  | succ n ih =>
    intro j k ⟨a, a1, a2⟩ ⟨b, b1, b2⟩
    have := ih a b a1 b1
    rcases a2 with ⟨p, q⟩ | ⟨p, q⟩ <;> rcases b2 with ⟨p', q'⟩ | ⟨p', q'⟩ <;> first | omega | exact absurd p p' | exact absurd p' p
theorem cn_r {P : Int → Prop} : ∀ (n : Nat) (k : Int), cn P n k → 0 ≤ k ∧ k ≤ n := by
  intro n
  induction n with
  | zero => intro k h; have : k = 0 := h; omega
  | succ n ih =>
    intro k ⟨a, a1, a2⟩
    have := ih a a1
    rcases a2 with a2 | a2 <;> omega
theorem cn_s {P : Int → Prop} {x j : Int} (hx : 0 ≤ x) (h : cn P x.toNat j) : (P x → cn P (x + 1).toNat (j + 1)) ∧ (¬ P x → cn P (x + 1).toNat j) := by
  rw [show (x + 1).toNat = x.toNat + 1 by omega]
  have e : ((x.toNat : Nat) : Int) = x := by omega
  exact ⟨fun p => ⟨j, h, Or.inl ⟨by rw [e]; exact p, rfl⟩⟩, fun p => ⟨j, h, Or.inr ⟨by rw [e]; exact p, rfl⟩⟩⟩
def cnn (P : Int → Int → Prop) (G : Nat) : Nat → Int → Prop
  | 0, k => k = 0
  | n + 1, k => ∃ j m, cnn P G n j ∧ cn (P n) G m ∧ k = j + m
theorem cnn_one {P : Int → Int → Prop} {G : Nat} : ∀ (n : Nat) (j k : Int), cnn P G n j → cnn P G n k → j = k := by
  intro n
  induction n with
  | zero => intro j k h1 h2; exact Eq.trans h1 h2.symm
  | succ n ih =>
    intro j k ⟨a, m, a1, a2, a3⟩ ⟨b, l, b1, b2, b3⟩
    have := ih a b a1 b1
    have := cn_one G m l a2 b2
    omega
theorem cnn_r {P : Int → Int → Prop} {G : Nat} (hG : G ≤ 8) : ∀ (n : Nat) (k : Int), cnn P G n k → 0 ≤ k ∧ k ≤ 8 * n := by
  intro n
  induction n with
  | zero => intro k h; have : k = 0 := h; omega
  | succ n ih =>
    intro k ⟨a, m, a1, a2, a3⟩
    have := ih a a1
    have := cn_r G m a2
    omega
theorem cnn_s {P : Int → Int → Prop} {G : Nat} {x j m : Int} (hx : 0 ≤ x) (h : cnn P G x.toNat j) (h2 : cn (P x) G m) : cnn P G (x + 1).toNat (j + m) := by
  rw [show (x + 1).toNat = x.toNat + 1 by omega]
  have e : ((x.toNat : Nat) : Int) = x := by omega
  exact ⟨j, m, h, by rw [e]; exact h2, rfl⟩
def ltr (S T : sg_S) (t g e : Int) : Prop := ∃ v, sn S g t e v ∧ (nv T g t e ∨ ∃ w, sn T g t e w ∧ v < w)
theorem ltr_ar {N : Int} {S T : sg_S} {t g e v w : Int} (hN : 90000 ≤ N) (ht : t ≤ 50000) (h1 : ar_is N S g t e v) (h2 : ar_is N T g t e w) : v < w ↔ ltr S T t g e := by
  rcases ar_sn hN ht h1 with ⟨a1, a2⟩ | ⟨a1, a2⟩ <;> rcases ar_sn hN ht h2 with ⟨b1, b2⟩ | ⟨b1, b2⟩
  · refine ⟨fun q => ⟨v, a2, Or.inr ⟨w, b2, q⟩⟩, fun ⟨v', c1, c2⟩ => ?_⟩
    have := sn_one a2 c1
    rcases c2 with c2 | ⟨w', c2, c3⟩
    · exact absurd b2.2.1 (c2 w)
    · have := sn_one b2 c2; omega
  · exact ⟨fun q => ⟨v, a2, Or.inl b2⟩, fun _ => by omega⟩
  · exact ⟨fun q => by omega, fun ⟨v', c1, _⟩ => absurd c1.2.1 (a2 v')⟩
  · exact ⟨fun q => by omega, fun ⟨v', c1, _⟩ => absurd c1.2.1 (a2 v')⟩
set_option maxHeartbeats 400000 in
set_option maxRecDepth 100000 in
theorem lp_cl1 {S : sg_S} {P : Int → Prop} {t g c : Int} {h : am_H} {Q : am_P} (hy : ty_ok h S) (hg : 0 ≤ g ∧ g < sg_G S) (hc : 0 ≤ c ∧ c ≤ 1000) (hA : ∀ b, 0 ≤ b → b < sg_G S → (0 ≤ h 43 b ∧ h 43 b ≤ 1000000) ∧ (0 ≤ h 44 (8 * g + b) ∧ h 44 (8 * g + b) ≤ 1000000) ∧ (h 44 (8 * g + b) < h 43 b ↔ P b)) (H : ∀ m, cn P (sg_G S).toNat m → am_Ex 50 36 [some (.inr (.inr (some 84))), some (.inl t), some (.inl (c + m)), some (.inl g), some (.inl (sg_G S))] [] h Q) :
    ∀ (n : Nat) (x m : Int), 0 ≤ x → x + n = sg_G S → cn P x.toNat m → am_Ex 50 15 [some (.inr (.inr (some 84))), some (.inl t), some (.inl (c + m)), some (.inl g), some (.inl x)] [] h Q := by
  intro n
  have hG := hy.1.2.1
  have p1 := hy.2.2.2.1.2.1
  induction n with
  | zero =>
    intro x m x0 x1 I
    have ex : x = sg_G S := by omega
    subst ex
    have K := H m I
    rw [bl_50_15]
    simp only [eq_self, and_self, am_up_at, Int.cast_ofNat_Int, Int.reduceNatCast, true_or, or_true, or_false, false_or, Classical.not_not, false_and, and_false, am_bk, am_step, am_ldI, am_ldL, am_ldA, am_nth, am_sto, am_stw_0, am_stw_i, am_stw_n, am_stw_a, am_stw_l, am_br, am_cmp, am_tk, am_cat, am_sw, am_copy, am_R, am_nc0, am_nc1, am_f0, am_f1, am_f2, am_f3, Int.reduceNeg, Int.reduceEq, Int.reduceLE, Int.reduceLT, Nat.reduceLeDiff, Nat.reduceAdd, Nat.reduceEqDiff, true_and, and_true, ↓reduceIte, if_false, if_true, forall_const, not_true_eq_false, not_false_eq_true, false_implies, true_implies, implies_true, Int.reduceAdd, Int.reduceMul, Int.reduceSub, ne_eq, gf_84_0, gf_84_1, gf_84_2, ar_43, al_43, gf_84_3, ar_44, al_44, gf_84_4, ar_45, al_45, gf_84_5, ar_46, al_46, gf_84_6, pf_84_6, gf_78_0, pf_78_0, gf_78_1, pf_78_1, gf_78_2, ar_6, al_6, gf_78_3, ar_7, al_7, gf_78_4, ar_8, al_8, gf_78_5, ar_9, al_9, gf_78_6, ar_10, al_10, p1]
    (repeat' (first | with_reducible apply And.intro | with_reducible intro _)) <;> first | omega | exact K
  | succ n ih =>
    intro x m x0 x1 I
    have r := hA x x0 (by omega)
    have s := cn_s x0 I
    have mr := cn_r _ _ I
    have K1 := fun q => ih (x + 1) (m + 1) (by omega) (by omega) (s.1 (r.2.2.mp q))
    have K2 := fun (q : ¬ h 44 (8 * g + x) < h 43 x) => ih (x + 1) m (by omega) (by omega) (s.2 (fun z => q (r.2.2.mpr z)))
    rw [show c + (m + 1) = c + m + 1 by omega] at K1
    rw [bl_50_15]
    simp only [eq_self, and_self, am_up_at, Int.cast_ofNat_Int, Int.reduceNatCast, true_or, or_true, or_false, false_or, Classical.not_not, false_and, and_false, am_bk, am_step, am_ldI, am_ldL, am_ldA, am_nth, am_sto, am_stw_0, am_stw_i, am_stw_n, am_stw_a, am_stw_l, am_br, am_cmp, am_tk, am_cat, am_sw, am_copy, am_R, am_nc0, am_nc1, am_f0, am_f1, am_f2, am_f3, Int.reduceNeg, Int.reduceEq, Int.reduceLE, Int.reduceLT, Nat.reduceLeDiff, Nat.reduceAdd, Nat.reduceEqDiff, true_and, and_true, ↓reduceIte, if_false, if_true, forall_const, not_true_eq_false, not_false_eq_true, false_implies, true_implies, implies_true, Int.reduceAdd, Int.reduceMul, Int.reduceSub, ne_eq, ca_50_84, bl_50_20, bl_50_32, bl_50_34, gf_84_0, gf_84_1, gf_84_2, ar_43, al_43, gf_84_3, ar_44, al_44, gf_84_4, ar_45, al_45, gf_84_5, ar_46, al_46, gf_84_6, pf_84_6, gf_78_0, pf_78_0, gf_78_1, pf_78_1, gf_78_2, ar_6, al_6, gf_78_3, ar_7, al_7, gf_78_4, ar_8, al_8, gf_78_5, ar_9, al_9, gf_78_6, ar_10, al_10, p1]
    (repeat' (first | with_reducible apply And.intro | with_reducible intro _)) <;> first | omega | exact K1 (by omega) | exact K2 (by omega)
set_option maxHeartbeats 400000 in
set_option maxRecDepth 100000 in
theorem lp_cl2 {S T : sg_S} {t : Int} {h0 : am_H} {Q : am_P} (ht : 0 ≤ t ∧ t ≤ 50000) (hB : ∀ g e, 0 ≤ g → g < sg_G T → 0 ≤ e → e < sg_G T → ar_is 1000000 S g t e (h0 44 (8 * g + e))) (H : ∀ h1 n, ty_ok h1 T → fr_x h0 h1 → cnn (ltr S T t) (sg_G T).toNat (sg_G T).toNat n → Q (some (.inl n)) h1) :
    ∀ (m : Nat) (g c : Int) (h : am_H), 0 ≤ g → g + m = sg_G T → ty_ok h T → fr_x h0 h → cnn (ltr S T t) (sg_G T).toNat g.toNat c → am_Ex 50 4 [some (.inr (.inr (some 84))), some (.inl t), some (.inl c), some (.inl g), none] [] h Q := by
  intro m
  induction m with
  | zero =>
    intro g c h g0 g1 hy hf I
    have hG := hy.1.2.1
    have p1 := hy.2.2.2.1.2.1
    have cr := cnn_r (by omega) _ _ I
    have K := H h c hy hf (by rw [show (sg_G T).toNat = g.toNat by omega] at I ⊢; exact I)
    rw [bl_50_4]
    simp only [eq_self, and_self, am_up_at, Int.cast_ofNat_Int, Int.reduceNatCast, true_or, or_true, or_false, false_or, Classical.not_not, false_and, and_false, am_bk, am_step, am_ldI, am_ldL, am_ldA, am_nth, am_sto, am_stw_0, am_stw_i, am_stw_n, am_stw_a, am_stw_l, am_br, am_cmp, am_tk, am_cat, am_sw, am_copy, am_R, am_nc0, am_nc1, am_f0, am_f1, am_f2, am_f3, Int.reduceNeg, Int.reduceEq, Int.reduceLE, Int.reduceLT, Nat.reduceLeDiff, Nat.reduceAdd, Nat.reduceEqDiff, true_and, and_true, ↓reduceIte, if_false, if_true, forall_const, not_true_eq_false, not_false_eq_true, false_implies, true_implies, implies_true, Int.reduceAdd, Int.reduceMul, Int.reduceSub, ne_eq, ca_50_84, bl_50_38, gf_84_0, gf_84_1, gf_84_2, ar_43, al_43, gf_84_3, ar_44, al_44, gf_84_4, ar_45, al_45, gf_84_5, ar_46, al_46, gf_84_6, pf_84_6, gf_78_0, pf_78_0, gf_78_1, pf_78_1, gf_78_2, ar_6, al_6, gf_78_3, ar_7, al_7, gf_78_4, ar_8, al_8, gf_78_5, ar_9, al_9, gf_78_6, ar_10, al_10, p1]
    (repeat' (first | with_reducible apply And.intro | with_reducible intro _)) <;> first | omega | exact K
  | succ m ih =>
    intro g c h g0 g1 hy hf I
    have hG := hy.1.2.1
    have p1 := hy.2.2.2.1.2.1
    have hg : 0 ≤ g ∧ g < sg_G T := by omega
    have cr := cnn_r (by omega) _ _ I
    have K : ∀ h1, ty_ok h1 T → fr_x h h1 → (∀ b, 0 ≤ b → b < sg_G T → ar_is 1000000 T g t b (h1 43 b)) → am_Ex 50 13 [some (.inr (.inr (some 84))), some (.inl t), some (.inl c), some (.inl g), none] [] h1 Q := by
      intro h1 y1 f1 ar
      have fx : fr_x h0 h1 := fun c a b => (f1 c a b).trans (hf c a b)
      have e44 := fx 44 (by omega) (by omega)
      simp only [eq_self, and_self, am_up_at, Int.cast_ofNat_Int, Int.reduceNatCast, true_or, or_true, or_false, false_or, Classical.not_not, false_and, and_false, am_bk, am_step, am_ldI, am_ldL, am_ldA, am_nth, am_sto, am_stw_0, am_stw_i, am_stw_n, am_stw_a, am_stw_l, am_br, am_cmp, am_tk, am_cat, am_sw, am_copy, am_R, am_nc0, am_nc1, am_f0, am_f1, am_f2, am_f3, Int.reduceNeg, Int.reduceEq, Int.reduceLE, Int.reduceLT, Nat.reduceLeDiff, Nat.reduceAdd, Nat.reduceEqDiff, true_and, and_true, ↓reduceIte, if_false, if_true, forall_const, not_true_eq_false, not_false_eq_true, false_implies, true_implies, implies_true, Int.reduceAdd, Int.reduceMul, Int.reduceSub, ne_eq, ca_50_84, bl_50_13, gf_84_0, gf_84_1, gf_84_2, ar_43, al_43, gf_84_3, ar_44, al_44, gf_84_4, ar_45, al_45, gf_84_5, ar_46, al_46, gf_84_6, pf_84_6]
      have L := lp_cl1 (P := ltr S T t g) (t := t) (c := c) (Q := Q) y1 hg (by omega) (fun b b1 b2 => by
        rw [e44]
        have z1 := hB g b hg.1 hg.2 b1 b2
        have z2 := ar b b1 b2
        exact ⟨by have := ar_r (by omega) ht z2; omega, by have := ar_r (by omega) ht z1; omega, ltr_ar (by omega) ht.2 z1 z2⟩) (fun k hk => by
          simp only [eq_self, and_self, am_up_at, Int.cast_ofNat_Int, Int.reduceNatCast, true_or, or_true, or_false, false_or, Classical.not_not, false_and, and_false, am_bk, am_step, am_ldI, am_ldL, am_ldA, am_nth, am_sto, am_stw_0, am_stw_i, am_stw_n, am_stw_a, am_stw_l, am_br, am_cmp, am_tk, am_cat, am_sw, am_copy, am_R, am_nc0, am_nc1, am_f0, am_f1, am_f2, am_f3, Int.reduceNeg, Int.reduceEq, Int.reduceLE, Int.reduceLT, Nat.reduceLeDiff, Nat.reduceAdd, Nat.reduceEqDiff, true_and, and_true, ↓reduceIte, if_false, if_true, forall_const, not_true_eq_false, not_false_eq_true, false_implies, true_implies, implies_true, Int.reduceAdd, Int.reduceMul, Int.reduceSub, ne_eq, ca_50_84, bl_50_36, gf_84_0, gf_84_1, gf_84_2, ar_43, al_43, gf_84_3, ar_44, al_44, gf_84_4, ar_45, al_45, gf_84_5, ar_46, al_46, gf_84_6, pf_84_6]
          exact am_forget (ih (g + 1) (c + k) h1 (by omega) (by omega) y1 fx (cnn_s g0 I hk)) (by simp [am_lq])) (sg_G T).toNat 0 0 (by omega) (by omega) rfl
      rw [show c + 0 = c by omega] at L
      exact L
    rw [bl_50_4]
    simp only [eq_self, and_self, am_up_at, Int.cast_ofNat_Int, Int.reduceNatCast, true_or, or_true, or_false, false_or, Classical.not_not, false_and, and_false, am_bk, am_step, am_ldI, am_ldL, am_ldA, am_nth, am_sto, am_stw_0, am_stw_i, am_stw_n, am_stw_a, am_stw_l, am_br, am_cmp, am_tk, am_cat, am_sw, am_copy, am_R, am_nc0, am_nc1, am_f0, am_f1, am_f2, am_f3, Int.reduceNeg, Int.reduceEq, Int.reduceLE, Int.reduceLT, Nat.reduceLeDiff, Nat.reduceAdd, Nat.reduceEqDiff, true_and, and_true, ↓reduceIte, if_false, if_true, forall_const, not_true_eq_false, not_false_eq_true, false_implies, true_implies, implies_true, Int.reduceAdd, Int.reduceMul, Int.reduceSub, ne_eq, ca_50_84, bl_50_9, gf_84_0, gf_84_1, gf_84_2, ar_43, al_43, gf_84_3, ar_44, al_44, gf_84_4, ar_45, al_45, gf_84_5, ar_46, al_46, gf_84_6, pf_84_6, gf_78_0, pf_78_0, gf_78_1, pf_78_1, gf_78_2, ar_6, al_6, gf_78_3, ar_7, al_7, gf_78_4, ar_8, al_8, gf_78_5, ar_9, al_9, gf_78_6, ar_10, al_10, p1]
    (repeat' (first | with_reducible apply And.intro | with_reducible intro _)) <;> first | omega | exact sp_spread hy hg ht K
set_option maxHeartbeats 400000 in
set_option maxRecDepth 100000 in
theorem sp_countLater {S T : sg_S} {t : Int} {h : am_H} {Q : am_P} (hy : ty_ok h T) (ht : 0 ≤ t ∧ t ≤ 50000) (hB : ∀ g e, 0 ≤ g → g < sg_G T → 0 ≤ e → e < sg_G T → ar_is 1000000 S g t e (h 44 (8 * g + e))) (H : ∀ h1 n, ty_ok h1 T → fr_x h h1 → cnn (ltr S T t) (sg_G T).toNat (sg_G T).toNat n → Q (some (.inl n)) h1) : am_Call 50 [.inr (.inr (some 84)), .inl t] h Q := by
  have hG := hy.1.2.1
  simp only [eq_self, and_self, am_up_at, Int.cast_ofNat_Int, Int.reduceNatCast, true_or, or_true, or_false, false_or, Classical.not_not, false_and, and_false, am_bk, am_step, am_ldI, am_ldL, am_ldA, am_nth, am_sto, am_stw_0, am_stw_i, am_stw_n, am_stw_a, am_stw_l, am_br, am_cmp, am_tk, am_cat, am_sw, am_copy, am_R, am_nc0, am_nc1, am_f0, am_f1, am_f2, am_f3, Int.reduceNeg, Int.reduceEq, Int.reduceLE, Int.reduceLT, Nat.reduceLeDiff, Nat.reduceAdd, Nat.reduceEqDiff, true_and, and_true, ↓reduceIte, if_false, if_true, forall_const, not_true_eq_false, not_false_eq_true, false_implies, true_implies, implies_true, Int.reduceAdd, Int.reduceMul, Int.reduceSub, ne_eq, ca_50_84, bl_50_0, gf_84_0, gf_84_1, gf_84_2, ar_43, al_43, gf_84_3, ar_44, al_44, gf_84_4, ar_45, al_45, gf_84_5, ar_46, al_46, gf_84_6, pf_84_6]
  exact lp_cl2 ht hB H (sg_G T).toNat 0 0 h (by omega) (by omega) hy (fun _ _ _ => rfl) rfl
/-! the reference -/
set_option maxHeartbeats 400000 in
set_option maxRecDepth 100000 in
theorem lp_hm1 {S : sg_S} {r d a t b s n g : Int} {h0 : am_H} {Q : am_P} (hm0 : sg_of h0 = S) (hS : sg_ok S) (hA : ∀ b, 0 ≤ b → b < sg_G S → 0 ≤ h0 68 b ∧ h0 68 b ≤ 99999) (H : ∀ h1, (∀ c, c ≠ 70 → h1 c = h0 c) → (∀ e, 0 ≤ e → e < sg_G S → h1 70 e = h0 68 e) → am_Ex 141 68 [some (.inr (.inr (some 86))), some (.inl r), some (.inl d), some (.inl a), some (.inl t), some (.inl b), some (.inl s), some (.inl n), some (.inl g), some (.inl (sg_G S)), none, none] [] h1 Q) :
    ∀ (m : Nat) (x : Int) (h : am_H), 0 ≤ x → x + m = sg_G S → (∀ c, c ≠ 70 → h c = h0 c) → (∀ e, 0 ≤ e → e < x → h 70 e = h0 68 e) → am_Ex 141 54 [some (.inr (.inr (some 86))), some (.inl r), some (.inl d), some (.inl a), some (.inl t), some (.inl b), some (.inl s), some (.inl n), some (.inl g), some (.inl x), none, none] [] h Q := by
  intro m
  have hG := hS.2.1
  have e5 : h0 86 5 = sg_G S := by rw [← hm0]; rfl
  induction m with
  | zero =>
    intro x h x0 x1 hf I
    have ex : x = sg_G S := by omega
    subst ex
    have e := hf 86 (by omega)
    have K := H h hf I
    rw [bl_141_54]
    simp only [eq_self, and_self, am_up_at, Int.cast_ofNat_Int, Int.reduceNatCast, true_or, or_true, or_false, false_or, Classical.not_not, false_and, and_false, am_bk, am_step, am_ldI, am_ldL, am_ldA, am_nth, am_sto, am_stw_0, am_stw_i, am_stw_n, am_stw_a, am_stw_l, am_br, am_cmp, am_tk, am_cat, am_sw, am_copy, am_R, am_nc0, am_nc1, am_f0, am_f1, am_f2, am_f3, Int.reduceNeg, Int.reduceEq, Int.reduceLE, Int.reduceLT, Nat.reduceLeDiff, Nat.reduceAdd, Nat.reduceEqDiff, true_and, and_true, ↓reduceIte, if_false, if_true, forall_const, not_true_eq_false, not_false_eq_true, false_implies, true_implies, implies_true, Int.reduceAdd, Int.reduceMul, Int.reduceSub, ne_eq, gf_86_0, pf_86_0, gf_86_1, ar_50, al_50, gf_86_2, pf_86_2, gf_86_3, pf_86_3, gf_86_4, pf_86_4, gf_86_5, pf_86_5, gf_86_6, ar_51, al_51, gf_86_7, ar_52, al_52, gf_86_8, ar_53, al_53, gf_86_9, ar_54, al_54, gf_86_10, ar_55, al_55, gf_86_11, ar_56, al_56, gf_86_12, ar_57, al_57, gf_86_13, pf_86_13, gf_86_14, pf_86_14, gf_86_15, ar_58, al_58, gf_86_16, ar_59, al_59, gf_86_17, ar_60, al_60, gf_86_18, ar_61, al_61, gf_86_19, ar_62, al_62, gf_86_20, pf_86_20, gf_86_21, pf_86_21, gf_86_22, ar_63, al_63, gf_86_23, ar_64, al_64, gf_86_24, ar_65, al_65, gf_86_25, ar_66, al_66, gf_86_26, ar_67, al_67, gf_86_27, ar_68, al_68, gf_86_28, ar_69, al_69, gf_86_29, ar_70, al_70, gf_86_30, ar_71, al_71, gf_86_31, ar_72, al_72, gf_86_32, ar_73, al_73, gf_86_33, ar_74, al_74, gf_86_34, pf_86_34, e, e5]
    (repeat' (first | with_reducible apply And.intro | with_reducible intro _)) <;> first | omega | exact K
  | succ m ih =>
    intro x h x0 x1 hf I
    have e := hf 86 (by omega)
    have e68 := hf 68 (by omega)
    have ra := hA x x0 (by omega)
    have K := ih (x + 1) (am_up h 70 x (h0 68 x)) (by omega) (by omega) (fun c hc => by rw [am_up_ne hc, hf c hc]) (fun q q1 q2 => by
        simp only [eq_self, and_self, am_up_at, am_up_ne, ne_eq, Nat.reduceEqDiff, Int.reduceEq, Int.reduceNeg, not_false_eq_true, false_and, and_false, true_and, and_true, ↓reduceIte, if_false, if_true, Int.reduceAdd, Int.reduceMul, Nat.reduceAdd]
        split
        · rw [show q = x by omega]
        · exact I q q1 (by omega))
    rw [bl_141_54]
    simp only [eq_self, and_self, am_up_at, Int.cast_ofNat_Int, Int.reduceNatCast, true_or, or_true, or_false, false_or, Classical.not_not, false_and, and_false, am_bk, am_step, am_ldI, am_ldL, am_ldA, am_nth, am_sto, am_stw_0, am_stw_i, am_stw_n, am_stw_a, am_stw_l, am_br, am_cmp, am_tk, am_cat, am_sw, am_copy, am_R, am_nc0, am_nc1, am_f0, am_f1, am_f2, am_f3, Int.reduceNeg, Int.reduceEq, Int.reduceLE, Int.reduceLT, Nat.reduceLeDiff, Nat.reduceAdd, Nat.reduceEqDiff, true_and, and_true, ↓reduceIte, if_false, if_true, forall_const, not_true_eq_false, not_false_eq_true, false_implies, true_implies, implies_true, Int.reduceAdd, Int.reduceMul, Int.reduceSub, ne_eq, ca_141_86, bl_141_58, gf_86_0, pf_86_0, gf_86_1, ar_50, al_50, gf_86_2, pf_86_2, gf_86_3, pf_86_3, gf_86_4, pf_86_4, gf_86_5, pf_86_5, gf_86_6, ar_51, al_51, gf_86_7, ar_52, al_52, gf_86_8, ar_53, al_53, gf_86_9, ar_54, al_54, gf_86_10, ar_55, al_55, gf_86_11, ar_56, al_56, gf_86_12, ar_57, al_57, gf_86_13, pf_86_13, gf_86_14, pf_86_14, gf_86_15, ar_58, al_58, gf_86_16, ar_59, al_59, gf_86_17, ar_60, al_60, gf_86_18, ar_61, al_61, gf_86_19, ar_62, al_62, gf_86_20, pf_86_20, gf_86_21, pf_86_21, gf_86_22, ar_63, al_63, gf_86_23, ar_64, al_64, gf_86_24, ar_65, al_65, gf_86_25, ar_66, al_66, gf_86_26, ar_67, al_67, gf_86_27, ar_68, al_68, gf_86_28, ar_69, al_69, gf_86_29, ar_70, al_70, gf_86_30, ar_71, al_71, gf_86_31, ar_72, al_72, gf_86_32, ar_73, al_73, gf_86_33, ar_74, al_74, gf_86_34, pf_86_34, e, e5, e68]
    (repeat' (first | with_reducible apply And.intro | with_reducible intro _)) <;> first | omega | exact K
set_option maxHeartbeats 400000 in
set_option maxRecDepth 100000 in
theorem lp_hm2 {S : sg_S} {P : Int → Prop} {r d a t b s c g wf wl : Int} {h : am_H} {Q : am_P} (hm : sg_of h = S) (hS : sg_ok S) (hc : 0 ≤ c ∧ c ≤ 1000) (hA : ∀ b, 0 ≤ b → b < sg_G S → (0 ≤ h 68 b ∧ h 68 b ≤ 99999) ∧ (0 ≤ h 70 b ∧ h 70 b ≤ 99999) ∧ (h 70 b < h 68 b ↔ P b)) (H : ∀ m, cn P (sg_G S).toNat m → am_Ex 141 125 [some (.inr (.inr (some 86))), some (.inl r), some (.inl d), some (.inl a), some (.inl t), some (.inl b), some (.inl s), some (.inl (c + m)), some (.inl g), some (.inl wf), some (.inl wl), some (.inl (sg_G S))] [] h Q) :
    ∀ (n : Nat) (x m : Int), 0 ≤ x → x + n = sg_G S → cn P x.toNat m → am_Ex 141 104 [some (.inr (.inr (some 86))), some (.inl r), some (.inl d), some (.inl a), some (.inl t), some (.inl b), some (.inl s), some (.inl (c + m)), some (.inl g), some (.inl wf), some (.inl wl), some (.inl x)] [] h Q := by
  intro n
  have hG := hS.2.1
  have e5 : h 86 5 = sg_G S := by rw [← hm]; rfl
  induction n with
  | zero =>
    intro x m x0 x1 I
    have ex : x = sg_G S := by omega
    subst ex
    have K := H m I
    rw [bl_141_104]
    simp only [eq_self, and_self, am_up_at, Int.cast_ofNat_Int, Int.reduceNatCast, true_or, or_true, or_false, false_or, Classical.not_not, false_and, and_false, am_bk, am_step, am_ldI, am_ldL, am_ldA, am_nth, am_sto, am_stw_0, am_stw_i, am_stw_n, am_stw_a, am_stw_l, am_br, am_cmp, am_tk, am_cat, am_sw, am_copy, am_R, am_nc0, am_nc1, am_f0, am_f1, am_f2, am_f3, Int.reduceNeg, Int.reduceEq, Int.reduceLE, Int.reduceLT, Nat.reduceLeDiff, Nat.reduceAdd, Nat.reduceEqDiff, true_and, and_true, ↓reduceIte, if_false, if_true, forall_const, not_true_eq_false, not_false_eq_true, false_implies, true_implies, implies_true, Int.reduceAdd, Int.reduceMul, Int.reduceSub, ne_eq, gf_86_0, pf_86_0, gf_86_1, ar_50, al_50, gf_86_2, pf_86_2, gf_86_3, pf_86_3, gf_86_4, pf_86_4, gf_86_5, pf_86_5, gf_86_6, ar_51, al_51, gf_86_7, ar_52, al_52, gf_86_8, ar_53, al_53, gf_86_9, ar_54, al_54, gf_86_10, ar_55, al_55, gf_86_11, ar_56, al_56, gf_86_12, ar_57, al_57, gf_86_13, pf_86_13, gf_86_14, pf_86_14, gf_86_15, ar_58, al_58, gf_86_16, ar_59, al_59, gf_86_17, ar_60, al_60, gf_86_18, ar_61, al_61, gf_86_19, ar_62, al_62, gf_86_20, pf_86_20, gf_86_21, pf_86_21, gf_86_22, ar_63, al_63, gf_86_23, ar_64, al_64, gf_86_24, ar_65, al_65, gf_86_25, ar_66, al_66, gf_86_26, ar_67, al_67, gf_86_27, ar_68, al_68, gf_86_28, ar_69, al_69, gf_86_29, ar_70, al_70, gf_86_30, ar_71, al_71, gf_86_31, ar_72, al_72, gf_86_32, ar_73, al_73, gf_86_33, ar_74, al_74, gf_86_34, pf_86_34, e5]
    (repeat' (first | with_reducible apply And.intro | with_reducible intro _)) <;> first | omega | exact K
  | succ n ih =>
    intro x m x0 x1 I
    have ra := hA x x0 (by omega)
    have st := cn_s x0 I
    have mr := cn_r _ _ I
    have K1 := fun q => ih (x + 1) (m + 1) (by omega) (by omega) (st.1 (ra.2.2.mp q))
    have K2 := fun (q : ¬ h 70 x < h 68 x) => ih (x + 1) m (by omega) (by omega) (st.2 (fun z => q (ra.2.2.mpr z)))
    rw [show c + (m + 1) = c + m + 1 by omega] at K1
    rw [bl_141_104]
    simp only [eq_self, and_self, am_up_at, Int.cast_ofNat_Int, Int.reduceNatCast, true_or, or_true, or_false, false_or, Classical.not_not, false_and, and_false, am_bk, am_step, am_ldI, am_ldL, am_ldA, am_nth, am_sto, am_stw_0, am_stw_i, am_stw_n, am_stw_a, am_stw_l, am_br, am_cmp, am_tk, am_cat, am_sw, am_copy, am_R, am_nc0, am_nc1, am_f0, am_f1, am_f2, am_f3, Int.reduceNeg, Int.reduceEq, Int.reduceLE, Int.reduceLT, Nat.reduceLeDiff, Nat.reduceAdd, Nat.reduceEqDiff, true_and, and_true, ↓reduceIte, if_false, if_true, forall_const, not_true_eq_false, not_false_eq_true, false_implies, true_implies, implies_true, Int.reduceAdd, Int.reduceMul, Int.reduceSub, ne_eq, ca_141_86, bl_141_108, bl_141_120, bl_141_121, gf_86_0, pf_86_0, gf_86_1, ar_50, al_50, gf_86_2, pf_86_2, gf_86_3, pf_86_3, gf_86_4, pf_86_4, gf_86_5, pf_86_5, gf_86_6, ar_51, al_51, gf_86_7, ar_52, al_52, gf_86_8, ar_53, al_53, gf_86_9, ar_54, al_54, gf_86_10, ar_55, al_55, gf_86_11, ar_56, al_56, gf_86_12, ar_57, al_57, gf_86_13, pf_86_13, gf_86_14, pf_86_14, gf_86_15, ar_58, al_58, gf_86_16, ar_59, al_59, gf_86_17, ar_60, al_60, gf_86_18, ar_61, al_61, gf_86_19, ar_62, al_62, gf_86_20, pf_86_20, gf_86_21, pf_86_21, gf_86_22, ar_63, al_63, gf_86_23, ar_64, al_64, gf_86_24, ar_65, al_65, gf_86_25, ar_66, al_66, gf_86_26, ar_67, al_67, gf_86_27, ar_68, al_68, gf_86_28, ar_69, al_69, gf_86_29, ar_70, al_70, gf_86_30, ar_71, al_71, gf_86_31, ar_72, al_72, gf_86_32, ar_73, al_73, gf_86_33, ar_74, al_74, gf_86_34, pf_86_34, e5, Int.add_zero]
    (repeat' (first | with_reducible apply And.intro | with_reducible intro _)) <;> first | omega | exact K1 (by omega) | exact K2 (by omega)
theorem am_up_cm {h : am_H} {a b : Nat} {i j v w : Int} (hab : a ≠ b) : am_up (am_up h a i v) b j w = am_up (am_up h b j w) a i v := by
  funext c x
  simp only [am_up_at]
  by_cases c1 : c = b
  · by_cases c2 : c = a
    · exact absurd (c2.symm.trans c1) hab
    · simp only [c2, false_and, if_false]
  · simp only [c1, false_and, if_false]
set_option maxHeartbeats 400000 in
set_option maxRecDepth 100000 in
theorem lp_hm3 {S : sg_S} {r d a t b s : Int} {h0 : am_H} {Q : am_P} (hm0 : sg_of h0 = S) (hS : sg_ok S) (hF : tb_fit S) (hr : 0 ≤ r ∧ r ≤ 2) (hd : 1 ≤ d ∧ d ≤ 99) (ht : 0 ≤ t ∧ t ≤ 299) (hs : 0 ≤ s ∧ s ≤ 352) (H : ∀ h1 n, fr_n h0 h1 → cnn (ltr S (sb S r s d) t) (sg_G S).toNat (sg_G S).toNat n → Q (some (.inl n)) h1) :
    ∀ (m : Nat) (g c : Int) (h : am_H), 0 ≤ g → g + m = sg_G S → fr_n h0 h → cnn (ltr S (sb S r s d) t) (sg_G S).toNat g.toNat c → am_Ex 141 44 [some (.inr (.inr (some 86))), some (.inl r), some (.inl d), some (.inl a), some (.inl t), some (.inl b), some (.inl s), some (.inl c), some (.inl g), none, none, none] [] h Q := by
  intro m
  have hG := hS.2.1
  induction m with
  | zero =>
    intro g c h g0 g1 hf I
    have e : h 86 5 = sg_G S := by rw [hf 86 (by omega) (by omega) (by omega), ← hm0]; rfl
    have cr := cnn_r (by omega) _ _ I
    have K := H h c hf (by rw [show (sg_G S).toNat = g.toNat by omega] at I ⊢; exact I)
    rw [bl_141_44]
    simp only [eq_self, and_self, am_up_at, Int.cast_ofNat_Int, Int.reduceNatCast, true_or, or_true, or_false, false_or, Classical.not_not, false_and, and_false, am_bk, am_step, am_ldI, am_ldL, am_ldA, am_nth, am_sto, am_stw_0, am_stw_i, am_stw_n, am_stw_a, am_stw_l, am_br, am_cmp, am_tk, am_cat, am_sw, am_copy, am_R, am_nc0, am_nc1, am_f0, am_f1, am_f2, am_f3, Int.reduceNeg, Int.reduceEq, Int.reduceLE, Int.reduceLT, Nat.reduceLeDiff, Nat.reduceAdd, Nat.reduceEqDiff, true_and, and_true, ↓reduceIte, if_false, if_true, forall_const, not_true_eq_false, not_false_eq_true, false_implies, true_implies, implies_true, Int.reduceAdd, Int.reduceMul, Int.reduceSub, ne_eq, ca_141_86, bl_141_127, gf_86_0, pf_86_0, gf_86_1, ar_50, al_50, gf_86_2, pf_86_2, gf_86_3, pf_86_3, gf_86_4, pf_86_4, gf_86_5, pf_86_5, gf_86_6, ar_51, al_51, gf_86_7, ar_52, al_52, gf_86_8, ar_53, al_53, gf_86_9, ar_54, al_54, gf_86_10, ar_55, al_55, gf_86_11, ar_56, al_56, gf_86_12, ar_57, al_57, gf_86_13, pf_86_13, gf_86_14, pf_86_14, gf_86_15, ar_58, al_58, gf_86_16, ar_59, al_59, gf_86_17, ar_60, al_60, gf_86_18, ar_61, al_61, gf_86_19, ar_62, al_62, gf_86_20, pf_86_20, gf_86_21, pf_86_21, gf_86_22, ar_63, al_63, gf_86_23, ar_64, al_64, gf_86_24, ar_65, al_65, gf_86_25, ar_66, al_66, gf_86_26, ar_67, al_67, gf_86_27, ar_68, al_68, gf_86_28, ar_69, al_69, gf_86_29, ar_70, al_70, gf_86_30, ar_71, al_71, gf_86_31, ar_72, al_72, gf_86_32, ar_73, al_73, gf_86_33, ar_74, al_74, gf_86_34, pf_86_34, e]
    (repeat' (first | with_reducible apply And.intro | with_reducible intro _)) <;> first | omega | exact K
  | succ m ih =>
    intro g c h g0 g1 hf I
    have em : sg_of h = S := by rw [← hm0]; exact mx_sg (mx_fn hf)
    have e : h 86 5 = sg_G S := by rw [← em]; rfl
    have hg : 0 ≤ g ∧ g < sg_G S := by omega
    have cr := cnn_r (by omega) _ _ I
    have K : ∀ h1, fr_m h h1 → (∀ b, 0 ≤ b → b < sg_G S → ar_is 99999 S g t b (h1 68 b)) → am_Ex 141 52 [some (.inr (.inr (some 86))), some (.inl r), some (.inl d), some (.inl a), some (.inl t), some (.inl b), some (.inl s), some (.inl c), some (.inl g), none, none, none] [] h1 Q := by
      intro h1 f1 ar
      have em1 : sg_of h1 = S := (fr_m_sg f1).trans em
      simp only [eq_self, and_self, am_up_at, Int.cast_ofNat_Int, Int.reduceNatCast, true_or, or_true, or_false, false_or, Classical.not_not, false_and, and_false, am_bk, am_step, am_ldI, am_ldL, am_ldA, am_nth, am_sto, am_stw_0, am_stw_i, am_stw_n, am_stw_a, am_stw_l, am_br, am_cmp, am_tk, am_cat, am_sw, am_copy, am_R, am_nc0, am_nc1, am_f0, am_f1, am_f2, am_f3, Int.reduceNeg, Int.reduceEq, Int.reduceLE, Int.reduceLT, Nat.reduceLeDiff, Nat.reduceAdd, Nat.reduceEqDiff, true_and, and_true, ↓reduceIte, if_false, if_true, forall_const, not_true_eq_false, not_false_eq_true, false_implies, true_implies, implies_true, Int.reduceAdd, Int.reduceMul, Int.reduceSub, ne_eq, ca_141_86, bl_141_52, gf_86_0, pf_86_0, gf_86_1, ar_50, al_50, gf_86_2, pf_86_2, gf_86_3, pf_86_3, gf_86_4, pf_86_4, gf_86_5, pf_86_5, gf_86_6, ar_51, al_51, gf_86_7, ar_52, al_52, gf_86_8, ar_53, al_53, gf_86_9, ar_54, al_54, gf_86_10, ar_55, al_55, gf_86_11, ar_56, al_56, gf_86_12, ar_57, al_57, gf_86_13, pf_86_13, gf_86_14, pf_86_14, gf_86_15, ar_58, al_58, gf_86_16, ar_59, al_59, gf_86_17, ar_60, al_60, gf_86_18, ar_61, al_61, gf_86_19, ar_62, al_62, gf_86_20, pf_86_20, gf_86_21, pf_86_21, gf_86_22, ar_63, al_63, gf_86_23, ar_64, al_64, gf_86_24, ar_65, al_65, gf_86_25, ar_66, al_66, gf_86_26, ar_67, al_67, gf_86_27, ar_68, al_68, gf_86_28, ar_69, al_69, gf_86_29, ar_70, al_70, gf_86_30, ar_71, al_71, gf_86_31, ar_72, al_72, gf_86_32, ar_73, al_73, gf_86_33, ar_74, al_74, gf_86_34, pf_86_34]
      refine lp_hm1 em1 hS (fun b b1 b2 => by have := ar b b1 b2; have := ar_r (by omega) (by omega) this; omega) (fun h2 f2 I2 => ?_) (sg_G S).toNat 0 h1 (by omega) (by omega) (fun _ _ => rfl) (fun q q1 q2 => by omega)
      have em2 : sg_of h2 = S := by rw [← em1]; exact mx_sg (mx_fn (fun c _ _ c3 => f2 c c3))
      have o := hS.2.2.2 r hr.1 hr.2
      have o56 : h2 56 r = sg_fr S r := by rw [← em2]; rfl
      have o57 : h2 57 r = sg_la S r := by rw [← em2]; rfl
      have mz0 : mz h2 (am_up h2 57 r d) r d := ⟨fun c c1 c2 c3 c4 c5 => am_up_ne c2, fun i _ => by rw [am_up_ne (by omega)], fun q => by rw [am_up_at]; simp only [true_and], fun q _ => by rw [am_up_ne (by omega)]⟩
      have esb := mz_sb (s := s) em2 mz0
      rw [am_up_cm (by omega)] at esb
      have J : ∀ h3, fr_m (am_up (am_up h2 56 r s) 57 r d) h3 → (∀ b, 0 ≤ b → b < sg_G S → ar_is 99999 (sb S r s d) g t b (h3 68 b)) → am_Ex 141 92 [some (.inr (.inr (some 86))), some (.inl r), some (.inl d), some (.inl a), some (.inl t), some (.inl b), some (.inl s), some (.inl c), some (.inl g), some (.inl (h2 56 r)), some (.inl (h2 57 r)), none] [] h3 Q := by
        intro h3 f3 ar3
        have mz3 : mz h2 h3 r d := mz_fr (by rw [am_up_cm (by omega)]; exact mz_up mz0) f3
        have fbe := mz_end mz3
        have emE : sg_of (am_up (am_up h3 56 r (h2 56 r)) 57 r (h2 57 r)) = S := by rw [← em2]; exact mx_sg (mx_fb fbe)
        have e68 : (am_up (am_up h3 56 r (h2 56 r)) 57 r (h2 57 r)) 68 = h3 68 := by rw [am_up_ne (by omega), am_up_ne (by omega)]
        have e70 : (am_up (am_up h3 56 r (h2 56 r)) 57 r (h2 57 r)) 70 = h2 70 := fbe.1 70 (by omega) (by omega) (by omega)
        have e86 : (am_up (am_up h3 56 r (h2 56 r)) 57 r (h2 57 r)) 86 = h2 86 := by
          rw [am_up_ne (by omega), am_up_ne (by omega), f3 86 (by omega) (by omega), am_up_ne (by omega), am_up_ne (by omega)]
        have fE : fr_n h0 (am_up (am_up h3 56 r (h2 56 r)) 57 r (h2 57 r)) := by
          intro c c1 c2 c3
          have back : h2 c = h0 c := (f2 c c3).trans ((f1 c c1 c2).trans (hf c c1 c2 c3))
          by_cases z : c = 86
          · subst z; rw [e86]; exact back
          · rw [fbe.1 c c1 c2 z]; exact back
        have L := lp_hm2 (P := ltr S (sb S r s d) t g) (r := r) (d := d) (a := a) (t := t) (b := b) (s := s) (c := c) (g := g) (wf := h2 56 r) (wl := h2 57 r) (Q := Q) emE hS (by omega) (fun b b1 b2 => by
          rw [e68, e70, I2 b b1 b2]
          have z1 := ar b b1 b2
          have z2 := ar3 b b1 b2
          exact ⟨by have := ar_r (by omega) (by omega) z2; omega, by have := ar_r (by omega) (by omega) z1; omega, ltr_ar (by omega) (by omega) z1 z2⟩) (fun k hk => by
            simp only [eq_self, and_self, am_up_at, Int.cast_ofNat_Int, Int.reduceNatCast, true_or, or_true, or_false, false_or, Classical.not_not, false_and, and_false, am_bk, am_step, am_ldI, am_ldL, am_ldA, am_nth, am_sto, am_stw_0, am_stw_i, am_stw_n, am_stw_a, am_stw_l, am_br, am_cmp, am_tk, am_cat, am_sw, am_copy, am_R, am_nc0, am_nc1, am_f0, am_f1, am_f2, am_f3, Int.reduceNeg, Int.reduceEq, Int.reduceLE, Int.reduceLT, Nat.reduceLeDiff, Nat.reduceAdd, Nat.reduceEqDiff, true_and, and_true, ↓reduceIte, if_false, if_true, forall_const, not_true_eq_false, not_false_eq_true, false_implies, true_implies, implies_true, Int.reduceAdd, Int.reduceMul, Int.reduceSub, ne_eq, ca_141_86, bl_141_125, gf_86_0, pf_86_0, gf_86_1, ar_50, al_50, gf_86_2, pf_86_2, gf_86_3, pf_86_3, gf_86_4, pf_86_4, gf_86_5, pf_86_5, gf_86_6, ar_51, al_51, gf_86_7, ar_52, al_52, gf_86_8, ar_53, al_53, gf_86_9, ar_54, al_54, gf_86_10, ar_55, al_55, gf_86_11, ar_56, al_56, gf_86_12, ar_57, al_57, gf_86_13, pf_86_13, gf_86_14, pf_86_14, gf_86_15, ar_58, al_58, gf_86_16, ar_59, al_59, gf_86_17, ar_60, al_60, gf_86_18, ar_61, al_61, gf_86_19, ar_62, al_62, gf_86_20, pf_86_20, gf_86_21, pf_86_21, gf_86_22, ar_63, al_63, gf_86_23, ar_64, al_64, gf_86_24, ar_65, al_65, gf_86_25, ar_66, al_66, gf_86_26, ar_67, al_67, gf_86_27, ar_68, al_68, gf_86_28, ar_69, al_69, gf_86_29, ar_70, al_70, gf_86_30, ar_71, al_71, gf_86_31, ar_72, al_72, gf_86_32, ar_73, al_73, gf_86_33, ar_74, al_74, gf_86_34, pf_86_34]
            exact am_forget (ih (g + 1) (c + k) _ (by omega) (by omega) fE (cnn_s g0 I hk)) (by simp [am_lq])) (sg_G S).toNat 0 0 (by omega) (by omega) rfl
        rw [show c + 0 = c by omega] at L
        simp only [eq_self, and_self, am_up_at, Int.cast_ofNat_Int, Int.reduceNatCast, true_or, or_true, or_false, false_or, Classical.not_not, false_and, and_false, am_bk, am_step, am_ldI, am_ldL, am_ldA, am_nth, am_sto, am_stw_0, am_stw_i, am_stw_n, am_stw_a, am_stw_l, am_br, am_cmp, am_tk, am_cat, am_sw, am_copy, am_R, am_nc0, am_nc1, am_f0, am_f1, am_f2, am_f3, Int.reduceNeg, Int.reduceEq, Int.reduceLE, Int.reduceLT, Nat.reduceLeDiff, Nat.reduceAdd, Nat.reduceEqDiff, true_and, and_true, ↓reduceIte, if_false, if_true, forall_const, not_true_eq_false, not_false_eq_true, false_implies, true_implies, implies_true, Int.reduceAdd, Int.reduceMul, Int.reduceSub, ne_eq, ca_141_86, bl_141_92, gf_86_0, pf_86_0, gf_86_1, ar_50, al_50, gf_86_2, pf_86_2, gf_86_3, pf_86_3, gf_86_4, pf_86_4, gf_86_5, pf_86_5, gf_86_6, ar_51, al_51, gf_86_7, ar_52, al_52, gf_86_8, ar_53, al_53, gf_86_9, ar_54, al_54, gf_86_10, ar_55, al_55, gf_86_11, ar_56, al_56, gf_86_12, ar_57, al_57, gf_86_13, pf_86_13, gf_86_14, pf_86_14, gf_86_15, ar_58, al_58, gf_86_16, ar_59, al_59, gf_86_17, ar_60, al_60, gf_86_18, ar_61, al_61, gf_86_19, ar_62, al_62, gf_86_20, pf_86_20, gf_86_21, pf_86_21, gf_86_22, ar_63, al_63, gf_86_23, ar_64, al_64, gf_86_24, ar_65, al_65, gf_86_25, ar_66, al_66, gf_86_26, ar_67, al_67, gf_86_27, ar_68, al_68, gf_86_28, ar_69, al_69, gf_86_29, ar_70, al_70, gf_86_30, ar_71, al_71, gf_86_31, ar_72, al_72, gf_86_32, ar_73, al_73, gf_86_33, ar_74, al_74, gf_86_34, pf_86_34]
        (repeat' (first | with_reducible apply And.intro | with_reducible intro _)) <;> first | omega | exact L
      simp only [eq_self, and_self, am_up_at, Int.cast_ofNat_Int, Int.reduceNatCast, true_or, or_true, or_false, false_or, Classical.not_not, false_and, and_false, am_bk, am_step, am_ldI, am_ldL, am_ldA, am_nth, am_sto, am_stw_0, am_stw_i, am_stw_n, am_stw_a, am_stw_l, am_br, am_cmp, am_tk, am_cat, am_sw, am_copy, am_R, am_nc0, am_nc1, am_f0, am_f1, am_f2, am_f3, Int.reduceNeg, Int.reduceEq, Int.reduceLE, Int.reduceLT, Nat.reduceLeDiff, Nat.reduceAdd, Nat.reduceEqDiff, true_and, and_true, ↓reduceIte, if_false, if_true, forall_const, not_true_eq_false, not_false_eq_true, false_implies, true_implies, implies_true, Int.reduceAdd, Int.reduceMul, Int.reduceSub, ne_eq, ca_141_86, bl_141_68, bl_141_80, gf_86_0, pf_86_0, gf_86_1, ar_50, al_50, gf_86_2, pf_86_2, gf_86_3, pf_86_3, gf_86_4, pf_86_4, gf_86_5, pf_86_5, gf_86_6, ar_51, al_51, gf_86_7, ar_52, al_52, gf_86_8, ar_53, al_53, gf_86_9, ar_54, al_54, gf_86_10, ar_55, al_55, gf_86_11, ar_56, al_56, gf_86_12, ar_57, al_57, gf_86_13, pf_86_13, gf_86_14, pf_86_14, gf_86_15, ar_58, al_58, gf_86_16, ar_59, al_59, gf_86_17, ar_60, al_60, gf_86_18, ar_61, al_61, gf_86_19, ar_62, al_62, gf_86_20, pf_86_20, gf_86_21, pf_86_21, gf_86_22, ar_63, al_63, gf_86_23, ar_64, al_64, gf_86_24, ar_65, al_65, gf_86_25, ar_66, al_66, gf_86_26, ar_67, al_67, gf_86_27, ar_68, al_68, gf_86_28, ar_69, al_69, gf_86_29, ar_70, al_70, gf_86_30, ar_71, al_71, gf_86_31, ar_72, al_72, gf_86_32, ar_73, al_73, gf_86_33, ar_74, al_74, gf_86_34, pf_86_34]
      (repeat' (first | with_reducible apply And.intro | with_reducible intro _)) <;> first | omega | exact sp_goFrom esb (sb_ok hS hs hd) (sb_fit hF hs hd) hg (by omega) J
    rw [bl_141_44]
    simp only [eq_self, and_self, am_up_at, Int.cast_ofNat_Int, Int.reduceNatCast, true_or, or_true, or_false, false_or, Classical.not_not, false_and, and_false, am_bk, am_step, am_ldI, am_ldL, am_ldA, am_nth, am_sto, am_stw_0, am_stw_i, am_stw_n, am_stw_a, am_stw_l, am_br, am_cmp, am_tk, am_cat, am_sw, am_copy, am_R, am_nc0, am_nc1, am_f0, am_f1, am_f2, am_f3, Int.reduceNeg, Int.reduceEq, Int.reduceLE, Int.reduceLT, Nat.reduceLeDiff, Nat.reduceAdd, Nat.reduceEqDiff, true_and, and_true, ↓reduceIte, if_false, if_true, forall_const, not_true_eq_false, not_false_eq_true, false_implies, true_implies, implies_true, Int.reduceAdd, Int.reduceMul, Int.reduceSub, ne_eq, ca_141_86, bl_141_48, gf_86_0, pf_86_0, gf_86_1, ar_50, al_50, gf_86_2, pf_86_2, gf_86_3, pf_86_3, gf_86_4, pf_86_4, gf_86_5, pf_86_5, gf_86_6, ar_51, al_51, gf_86_7, ar_52, al_52, gf_86_8, ar_53, al_53, gf_86_9, ar_54, al_54, gf_86_10, ar_55, al_55, gf_86_11, ar_56, al_56, gf_86_12, ar_57, al_57, gf_86_13, pf_86_13, gf_86_14, pf_86_14, gf_86_15, ar_58, al_58, gf_86_16, ar_59, al_59, gf_86_17, ar_60, al_60, gf_86_18, ar_61, al_61, gf_86_19, ar_62, al_62, gf_86_20, pf_86_20, gf_86_21, pf_86_21, gf_86_22, ar_63, al_63, gf_86_23, ar_64, al_64, gf_86_24, ar_65, al_65, gf_86_25, ar_66, al_66, gf_86_26, ar_67, al_67, gf_86_27, ar_68, al_68, gf_86_28, ar_69, al_69, gf_86_29, ar_70, al_70, gf_86_30, ar_71, al_71, gf_86_31, ar_72, al_72, gf_86_32, ar_73, al_73, gf_86_33, ar_74, al_74, gf_86_34, pf_86_34, e]
    (repeat' (first | with_reducible apply And.intro | with_reducible intro _)) <;> first | omega | exact sp_goFrom em hS hF hg (by omega) K
set_option maxHeartbeats 400000 in
set_option maxRecDepth 100000 in
theorem pr_harm {h : am_H} {k r d a t b : Int} (hr : am_R r) (hd : am_R d) (ha : am_R a) (ht : am_R t) (hb : am_R b) (hi : iv h k) (hk : k ≤ 600) : rg_pair 77 141 [.inl r, .inl d, .inl a, .inl t, .inl b] h k := by
  unfold rg_pair
  have hthr := iv_thr hi
  have hS := hi.1
  have hF := tb_fit_of hi
  have e1 := hS.2.1
  have hU := hS.1
  have c2 := hi.2.1.2.1
  have eG : sg_G (sg_of h) = h 86 5 := rfl
  have hz := bz_of hi hk
  obtain ⟨r1, r2⟩ := id hr
  obtain ⟨d1, d2⟩ := id hd
  obtain ⟨a1, a2⟩ := id ha
  obtain ⟨t1, t2⟩ := id ht
  obtain ⟨b1, b2⟩ := id hb
  have mod : ∀ h1, xd h h1 k → ∀ q, (¬ ((0 ≤ r ∧ r ≤ 2) ∧ (0 ≤ a ∧ a < h 86 5) ∧ (0 ≤ b ∧ b < h 86 5) ∧ 0 ≤ t ∧ t < 300) → q = -1) → ((0 ≤ r ∧ r ≤ 2) ∧ (0 ≤ a ∧ a < h 86 5) ∧ (0 ≤ b ∧ b < h 86 5) ∧ 0 ≤ t ∧ t < 300 → ¬ (1 ≤ d ∧ d ≤ 99) → q = -2) → ((0 ≤ r ∧ r ≤ 2) ∧ (0 ≤ a ∧ a < h 86 5) ∧ (0 ≤ b ∧ b < h 86 5) ∧ 0 ≤ t ∧ t < 300 → 1 ≤ d ∧ d ≤ 99 → ∃ be st, bb 1000000 (sg_of h) r d a t b (t + sg_U (sg_of h)) be st ∧ (st = -9 → q = -9) ∧ (st ≠ -9 → cnn (ltr (sg_of h) (sb (sg_of h) r st d) t) (sg_G (sg_of h)).toNat (sg_G (sg_of h)).toNat q)) → am_Call 141 [.inr (.inr (some 86)), .inl r, .inl d, .inl a, .inl t, .inl b] h1 (rg_post k (some (.inl q))) := by
    intro h1 X q q1 q2 q3
    have f86 := X.1 86 (by omega)
    have em : sg_of (am_up h1 86 0 0) = sg_of h := (mx_sg (mx_thr h1)).trans (cx_sg X.1)
    have f5 : h1 86 5 = h 86 5 := by rw [f86]
    have fin := ed hi X (mx_thr h1)
    have L1 := fun z => rg_leaf (k := k) (A := q) (B := -1) (by have := q1 z; omega) (by have := q1 z; omega) fin
    have L2 := fun z w => rg_leaf (k := k) (A := q) (B := -2) (by have := q2 z w; omega) (by have := q2 z w; omega) fin
    have L3 : (0 ≤ r ∧ r ≤ 2) ∧ (0 ≤ a ∧ a < h 86 5) ∧ (0 ≤ b ∧ b < h 86 5) ∧ 0 ≤ t ∧ t < 300 → 1 ≤ d ∧ d ≤ 99 → ∀ h2 be st, fb (am_up h1 86 0 0) h2 → bb 99999 (sg_of h) r d a t b (t + sg_U (sg_of h)) be st → am_Ex 141 34 [some (.inr (.inr (some 86))), some (.inl r), some (.inl d), some (.inl a), some (.inl t), some (.inl b), none, none, none, none, none, none] [.inl st] h2 (rg_post k (some (.inl q))) := by
      intro V W h2 be st f2 B
      obtain ⟨be', st', B', q4, q5⟩ := q3 V W
      have es := bb_one B B'
      subst es
      have em2 : sg_of h2 = sg_of h := (mx_sg (mx_fb f2)).trans em
      have fin2 := ed hi X (mx_t (mx_thr h1) (mx_fb f2))
      have sr : st = -9 ∨ (t ≤ st ∧ st ≤ 352) := by
        rcases B' with z | z
        · exact Or.inl z.2.1
        · exact Or.inr (by omega)
      by_cases cs : st = -9
      · have K := rg_leaf (k := k) (A := q) (B := -9) (by have := q4 cs; omega) (by have := q4 cs; omega) fin2
        simp only [eq_self, and_self, am_up_at, Int.cast_ofNat_Int, Int.reduceNatCast, true_or, or_true, or_false, false_or, Classical.not_not, false_and, and_false, am_bk, am_step, am_ldI, am_ldL, am_ldA, am_nth, am_sto, am_stw_0, am_stw_i, am_stw_n, am_stw_a, am_stw_l, am_br, am_cmp, am_tk, am_cat, am_sw, am_copy, am_R, am_nc0, am_nc1, am_f0, am_f1, am_f2, am_f3, Int.reduceNeg, Int.reduceEq, Int.reduceLE, Int.reduceLT, Nat.reduceLeDiff, Nat.reduceAdd, Nat.reduceEqDiff, true_and, and_true, ↓reduceIte, if_false, if_true, forall_const, not_true_eq_false, not_false_eq_true, false_implies, true_implies, implies_true, Int.reduceAdd, Int.reduceMul, Int.reduceSub, ne_eq, ca_141_86, bl_141_34, gf_86_0, pf_86_0, gf_86_1, ar_50, al_50, gf_86_2, pf_86_2, gf_86_3, pf_86_3, gf_86_4, pf_86_4, gf_86_5, pf_86_5, gf_86_6, ar_51, al_51, gf_86_7, ar_52, al_52, gf_86_8, ar_53, al_53, gf_86_9, ar_54, al_54, gf_86_10, ar_55, al_55, gf_86_11, ar_56, al_56, gf_86_12, ar_57, al_57, gf_86_13, pf_86_13, gf_86_14, pf_86_14, gf_86_15, ar_58, al_58, gf_86_16, ar_59, al_59, gf_86_17, ar_60, al_60, gf_86_18, ar_61, al_61, gf_86_19, ar_62, al_62, gf_86_20, pf_86_20, gf_86_21, pf_86_21, gf_86_22, ar_63, al_63, gf_86_23, ar_64, al_64, gf_86_24, ar_65, al_65, gf_86_25, ar_66, al_66, gf_86_26, ar_67, al_67, gf_86_27, ar_68, al_68, gf_86_28, ar_69, al_69, gf_86_29, ar_70, al_70, gf_86_30, ar_71, al_71, gf_86_31, ar_72, al_72, gf_86_32, ar_73, al_73, gf_86_33, ar_74, al_74, gf_86_34, pf_86_34, cs]
        (repeat' (first | with_reducible apply And.intro | with_reducible intro _)) <;> first | omega | exact K
      · have K := lp_hm3 (r := r) (d := d) (t := t) (a := a) (b := b) (Q := rg_post k (some (.inl q))) em2 hS hF (by omega) W (by omega) (show 0 ≤ st ∧ st ≤ 352 by omega) (fun h3 n f3 C => by
          have cr := cnn_r (by omega) _ _ C
          have en := cnn_one _ _ _ C (q5 cs)
          exact rg_leaf en (by omega) (ed hi X (mx_t (mx_t (mx_thr h1) (mx_fb f2)) (mx_fn f3)))) (sg_G (sg_of h)).toNat 0 0 h2 (by omega) (by omega) (fun _ _ _ _ => rfl) rfl
        simp only [eq_self, and_self, am_up_at, Int.cast_ofNat_Int, Int.reduceNatCast, true_or, or_true, or_false, false_or, Classical.not_not, false_and, and_false, am_bk, am_step, am_ldI, am_ldL, am_ldA, am_nth, am_sto, am_stw_0, am_stw_i, am_stw_n, am_stw_a, am_stw_l, am_br, am_cmp, am_tk, am_cat, am_sw, am_copy, am_R, am_nc0, am_nc1, am_f0, am_f1, am_f2, am_f3, Int.reduceNeg, Int.reduceEq, Int.reduceLE, Int.reduceLT, Nat.reduceLeDiff, Nat.reduceAdd, Nat.reduceEqDiff, true_and, and_true, ↓reduceIte, if_false, if_true, forall_const, not_true_eq_false, not_false_eq_true, false_implies, true_implies, implies_true, Int.reduceAdd, Int.reduceMul, Int.reduceSub, ne_eq, ca_141_86, bl_141_34, bl_141_40, gf_86_0, pf_86_0, gf_86_1, ar_50, al_50, gf_86_2, pf_86_2, gf_86_3, pf_86_3, gf_86_4, pf_86_4, gf_86_5, pf_86_5, gf_86_6, ar_51, al_51, gf_86_7, ar_52, al_52, gf_86_8, ar_53, al_53, gf_86_9, ar_54, al_54, gf_86_10, ar_55, al_55, gf_86_11, ar_56, al_56, gf_86_12, ar_57, al_57, gf_86_13, pf_86_13, gf_86_14, pf_86_14, gf_86_15, ar_58, al_58, gf_86_16, ar_59, al_59, gf_86_17, ar_60, al_60, gf_86_18, ar_61, al_61, gf_86_19, ar_62, al_62, gf_86_20, pf_86_20, gf_86_21, pf_86_21, gf_86_22, ar_63, al_63, gf_86_23, ar_64, al_64, gf_86_24, ar_65, al_65, gf_86_25, ar_66, al_66, gf_86_26, ar_67, al_67, gf_86_27, ar_68, al_68, gf_86_28, ar_69, al_69, gf_86_29, ar_70, al_70, gf_86_30, ar_71, al_71, gf_86_31, ar_72, al_72, gf_86_32, ar_73, al_73, gf_86_33, ar_74, al_74, gf_86_34, pf_86_34]
        (repeat' (first | with_reducible apply And.intro | with_reducible intro _)) <;> first | omega | exact K
    simp (disch := first | omega | (simp only [eq_self, and_self, am_up_at, am_up_ne, ne_eq, Nat.reduceEqDiff, Int.reduceEq, Int.reduceNeg, not_false_eq_true, false_and, and_false, true_and, and_true, ↓reduceIte, if_false, if_true, Int.reduceAdd, Int.reduceMul, Nat.reduceAdd]; omega)) only [eq_self, and_self, am_up_at, Int.cast_ofNat_Int, Int.reduceNatCast, true_or, or_true, or_false, false_or, Classical.not_not, false_and, and_false, am_bk, am_step, am_ldI, am_ldL, am_ldA, am_nth, am_sto, am_stw_0, am_stw_i, am_stw_n, am_stw_a, am_stw_l, am_br, am_cmp, am_tk, am_cat, am_sw, am_copy, am_R, am_nc0, am_nc1, am_f0, am_f1, am_f2, am_f3, Int.reduceNeg, Int.reduceEq, Int.reduceLE, Int.reduceLT, Nat.reduceLeDiff, Nat.reduceAdd, Nat.reduceEqDiff, true_and, and_true, ↓reduceIte, if_false, if_true, forall_const, not_true_eq_false, not_false_eq_true, false_implies, true_implies, implies_true, Int.reduceAdd, Int.reduceMul, Int.reduceSub, ne_eq, ca_141_86, bl_141_0, bl_141_5, bl_141_9, bl_141_13, bl_141_16, bl_141_17, bl_141_19, bl_141_24, bl_141_27, gf_86_0, pf_86_0, gf_86_1, ar_50, al_50, gf_86_2, pf_86_2, gf_86_3, pf_86_3, gf_86_4, pf_86_4, gf_86_5, pf_86_5, gf_86_6, ar_51, al_51, gf_86_7, ar_52, al_52, gf_86_8, ar_53, al_53, gf_86_9, ar_54, al_54, gf_86_10, ar_55, al_55, gf_86_11, ar_56, al_56, gf_86_12, ar_57, al_57, gf_86_13, pf_86_13, gf_86_14, pf_86_14, gf_86_15, ar_58, al_58, gf_86_16, ar_59, al_59, gf_86_17, ar_60, al_60, gf_86_18, ar_61, al_61, gf_86_19, ar_62, al_62, gf_86_20, pf_86_20, gf_86_21, pf_86_21, gf_86_22, ar_63, al_63, gf_86_23, ar_64, al_64, gf_86_24, ar_65, al_65, gf_86_25, ar_66, al_66, gf_86_26, ar_67, al_67, gf_86_27, ar_68, al_68, gf_86_28, ar_69, al_69, gf_86_29, ar_70, al_70, gf_86_30, ar_71, al_71, gf_86_31, ar_72, al_72, gf_86_32, ar_73, al_73, gf_86_33, ar_74, al_74, gf_86_34, pf_86_34, eq_noRing, eq_noGate, eq_noSecond, eq_in, am_i2l_of, f5]
    (repeat' (first | with_reducible apply And.intro | with_reducible intro _)) <;> first | omega | exact L1 (by omega) | exact L2 (by omega) (by omega) | exact sp_findBrake em hS hF (by omega) (by omega) (by omega) (by omega) (by omega) (L3 (by omega) (by omega))
  have X0 : xd h h k := ⟨fun _ _ => rfl, rfl, iv_w_up hi.2.2.2.2.2.2.2.2⟩
  simp only [eq_self, and_self, am_up_at, Int.cast_ofNat_Int, Int.reduceNatCast, true_or, or_true, or_false, false_or, Classical.not_not, false_and, and_false, am_bk, am_step, am_ldI, am_ldL, am_ldA, am_nth, am_sto, am_stw_0, am_stw_i, am_stw_n, am_stw_a, am_stw_l, am_br, am_cmp, am_tk, am_cat, am_sw, am_copy, am_R, am_nc0, am_nc1, am_f0, am_f1, am_f2, am_f3, Int.reduceNeg, Int.reduceEq, Int.reduceLE, Int.reduceLT, Nat.reduceLeDiff, Nat.reduceAdd, Nat.reduceEqDiff, true_and, and_true, ↓reduceIte, if_false, if_true, forall_const, not_true_eq_false, not_false_eq_true, false_implies, true_implies, implies_true, Int.reduceAdd, Int.reduceMul, Int.reduceSub, ne_eq, ca_77_75, bl_77_0, gf_75_0, ar_0, al_0, gf_75_1, pf_75_1, gf_75_2, gf_75_3, gf_75_4, gf_75_5, gf_75_6, gf_75_7, gf_75_8, gf_75_9, gf_75_10]
  refine eq_refuse hr hd ha ht hb (by omega) (fun V => ?_) (fun V W => ?_) (fun V W => ?_)
  · have K := mod h X0 (-1) (fun _ => rfl) (fun z => by omega) (fun z => by omega)
    simp only [eq_self, and_self, am_up_at, Int.cast_ofNat_Int, Int.reduceNatCast, true_or, or_true, or_false, false_or, Classical.not_not, false_and, and_false, am_bk, am_step, am_ldI, am_ldL, am_ldA, am_nth, am_sto, am_stw_0, am_stw_i, am_stw_n, am_stw_a, am_stw_l, am_br, am_cmp, am_tk, am_cat, am_sw, am_copy, am_R, am_nc0, am_nc1, am_f0, am_f1, am_f2, am_f3, Int.reduceNeg, Int.reduceEq, Int.reduceLE, Int.reduceLT, Nat.reduceLeDiff, Nat.reduceAdd, Nat.reduceEqDiff, true_and, and_true, ↓reduceIte, if_false, if_true, forall_const, not_true_eq_false, not_false_eq_true, false_implies, true_implies, implies_true, Int.reduceAdd, Int.reduceMul, Int.reduceSub, ne_eq, ca_77_75, bl_77_7, gf_75_0, ar_0, al_0, gf_75_1, pf_75_1, gf_75_2, gf_75_3, gf_75_4, gf_75_5, gf_75_6, gf_75_7, gf_75_8, gf_75_9, gf_75_10]
    (repeat' (first | with_reducible apply And.intro | with_reducible intro _)) <;> first | omega | exact K
  · have K := mod h X0 (-2) (fun z => by omega) (fun _ _ => rfl) (fun z w => by omega)
    simp only [eq_self, and_self, am_up_at, Int.cast_ofNat_Int, Int.reduceNatCast, true_or, or_true, or_false, false_or, Classical.not_not, false_and, and_false, am_bk, am_step, am_ldI, am_ldL, am_ldA, am_nth, am_sto, am_stw_0, am_stw_i, am_stw_n, am_stw_a, am_stw_l, am_br, am_cmp, am_tk, am_cat, am_sw, am_copy, am_R, am_nc0, am_nc1, am_f0, am_f1, am_f2, am_f3, Int.reduceNeg, Int.reduceEq, Int.reduceLE, Int.reduceLT, Nat.reduceLeDiff, Nat.reduceAdd, Nat.reduceEqDiff, true_and, and_true, ↓reduceIte, if_false, if_true, forall_const, not_true_eq_false, not_false_eq_true, false_implies, true_implies, implies_true, Int.reduceAdd, Int.reduceMul, Int.reduceSub, ne_eq, ca_77_75, bl_77_7, gf_75_0, ar_0, al_0, gf_75_1, pf_75_1, gf_75_2, gf_75_3, gf_75_4, gf_75_5, gf_75_6, gf_75_7, gf_75_8, gf_75_9, gf_75_10]
    (repeat' (first | with_reducible apply And.intro | with_reducible intro _)) <;> first | omega | exact K
  · simp only [eq_self, and_self, am_up_at, Int.cast_ofNat_Int, Int.reduceNatCast, true_or, or_true, or_false, false_or, Classical.not_not, false_and, and_false, am_bk, am_step, am_ldI, am_ldL, am_ldA, am_nth, am_sto, am_stw_0, am_stw_i, am_stw_n, am_stw_a, am_stw_l, am_br, am_cmp, am_tk, am_cat, am_sw, am_copy, am_R, am_nc0, am_nc1, am_f0, am_f1, am_f2, am_f3, Int.reduceNeg, Int.reduceEq, Int.reduceLE, Int.reduceLT, Nat.reduceLeDiff, Nat.reduceAdd, Nat.reduceEqDiff, true_and, and_true, ↓reduceIte, if_false, if_true, forall_const, not_true_eq_false, not_false_eq_true, false_implies, true_implies, implies_true, Int.reduceAdd, Int.reduceMul, Int.reduceSub, ne_eq, ca_77_75, bl_77_7, bl_77_12, gf_75_0, ar_0, al_0, gf_75_1, pf_75_1, gf_75_2, gf_75_3, gf_75_4, gf_75_5, gf_75_6, gf_75_7, gf_75_8, gf_75_9, gf_75_10]
    refine sp_bbStart hz (iv_rg hi hk).2 (by omega) W (by omega) (by omega) (by omega) (fun h1 be st b1 B => ?_)
    have sr : st = -9 ∨ (t ≤ st ∧ st ≤ 352) := by
      rcases B with z | z
      · exact Or.inl z.2.1
      · exact Or.inr (by omega)
    by_cases cs : st = -9
    · have K := mod h1 (bd_xd hi b1 (by omega)) (-9) (fun z => by omega) (fun z w => by omega) (fun _ _ => ⟨be, st, B, fun _ => rfl, fun z => absurd cs z⟩)
      simp only [eq_self, and_self, am_up_at, Int.cast_ofNat_Int, Int.reduceNatCast, true_or, or_true, or_false, false_or, Classical.not_not, false_and, and_false, am_bk, am_step, am_ldI, am_ldL, am_ldA, am_nth, am_sto, am_stw_0, am_stw_i, am_stw_n, am_stw_a, am_stw_l, am_br, am_cmp, am_tk, am_cat, am_sw, am_copy, am_R, am_nc0, am_nc1, am_f0, am_f1, am_f2, am_f3, Int.reduceNeg, Int.reduceEq, Int.reduceLE, Int.reduceLT, Nat.reduceLeDiff, Nat.reduceAdd, Nat.reduceEqDiff, true_and, and_true, ↓reduceIte, if_false, if_true, forall_const, not_true_eq_false, not_false_eq_true, false_implies, true_implies, implies_true, Int.reduceAdd, Int.reduceMul, Int.reduceSub, ne_eq, ca_77_75, bl_77_19, gf_75_0, ar_0, al_0, gf_75_1, pf_75_1, gf_75_2, gf_75_3, gf_75_4, gf_75_5, gf_75_6, gf_75_7, gf_75_8, gf_75_9, gf_75_10, cs]
      (repeat' (first | with_reducible apply And.intro | with_reducible intro _)) <;> first | omega | exact K
    · have K : am_Ex 77 25 [some (.inr (.inr (some 75))), some (.inl r), some (.inl d), some (.inl a), some (.inl t), some (.inl b), some (.inl 0), some (.inl st)] [] h1 (fun o h1 => am_Call 141 [.inr (.inr (some 86)), .inl r, .inl d, .inl a, .inl t, .inl b] h1 (rg_post k o)) := by
        have pp := bd_pl hz b1
        have z6 := hz.2.2.2.2.2
        have z5 := hz.2.2.2.2.1
        have bb1 := b1.1
        have b3 := b1.2.2.1
        simp only [eq_self, and_self, am_up_at, Int.cast_ofNat_Int, Int.reduceNatCast, true_or, or_true, or_false, false_or, Classical.not_not, false_and, and_false, am_bk, am_step, am_ldI, am_ldL, am_ldA, am_nth, am_sto, am_stw_0, am_stw_i, am_stw_n, am_stw_a, am_stw_l, am_br, am_cmp, am_tk, am_cat, am_sw, am_copy, am_R, am_nc0, am_nc1, am_f0, am_f1, am_f2, am_f3, Int.reduceNeg, Int.reduceEq, Int.reduceLE, Int.reduceLT, Nat.reduceLeDiff, Nat.reduceAdd, Nat.reduceEqDiff, true_and, and_true, ↓reduceIte, if_false, if_true, forall_const, not_true_eq_false, not_false_eq_true, false_implies, true_implies, implies_true, Int.reduceAdd, Int.reduceMul, Int.reduceSub, ne_eq, ca_77_75, bl_77_25, gf_75_0, ar_0, al_0, gf_75_1, pf_75_1, gf_75_2, gf_75_3, gf_75_4, gf_75_5, gf_75_6, gf_75_7, gf_75_8, gf_75_9, gf_75_10]
        refine sp_layN hS hF pp.1 pp.2 (fun q q1 q2 => ?_) (by omega) b1.2.2.2 (fun h2 y2 l10 l9 lc => ?_)
        · rw [bb1 11 (by omega) (by omega) (by omega) (by omega) (by omega) (by omega) (by omega), bb1 12 (by omega) (by omega) (by omega) (by omega) (by omega) (by omega) (by omega), bb1 13 (by omega) (by omega) (by omega) (by omega) (by omega) (by omega) (by omega)]
          exact z5 q q1 q2
        have bd2 : bd h h2 55 := by
          obtain ⟨_, _, _, _, _, _, _, rg⟩ := id y2
          exact ⟨fun c x1 x2 x3 x4 x5 x6 x7 => (lc c x2 x7).trans (bb1 c x1 x2 x3 x4 x5 x6 x7), by rw [l9]; exact b1.2.1, by omega, rg⟩
        simp only [eq_self, and_self, am_up_at, Int.cast_ofNat_Int, Int.reduceNatCast, true_or, or_true, or_false, false_or, Classical.not_not, false_and, and_false, am_bk, am_step, am_ldI, am_ldL, am_ldA, am_nth, am_sto, am_stw_0, am_stw_i, am_stw_n, am_stw_a, am_stw_l, am_br, am_cmp, am_tk, am_cat, am_sw, am_copy, am_R, am_nc0, am_nc1, am_f0, am_f1, am_f2, am_f3, Int.reduceNeg, Int.reduceEq, Int.reduceLE, Int.reduceLT, Nat.reduceLeDiff, Nat.reduceAdd, Nat.reduceEqDiff, true_and, and_true, ↓reduceIte, if_false, if_true, forall_const, not_true_eq_false, not_false_eq_true, false_implies, true_implies, implies_true, Int.reduceAdd, Int.reduceMul, Int.reduceSub, ne_eq, ca_77_75, bl_77_30, gf_75_0, ar_0, al_0, gf_75_1, pf_75_1, gf_75_2, gf_75_3, gf_75_4, gf_75_5, gf_75_6, gf_75_7, gf_75_8, gf_75_9, gf_75_10]
        refine sp_remAll y2 (by omega) (fun h3 y3 f3 ar3 => ?_)
        have bd3 := bd_y bd2 f3 y3
        simp only [eq_self, and_self, am_up_at, Int.cast_ofNat_Int, Int.reduceNatCast, true_or, or_true, or_false, false_or, Classical.not_not, false_and, and_false, am_bk, am_step, am_ldI, am_ldL, am_ldA, am_nth, am_sto, am_stw_0, am_stw_i, am_stw_n, am_stw_a, am_stw_l, am_br, am_cmp, am_tk, am_cat, am_sw, am_copy, am_R, am_nc0, am_nc1, am_f0, am_f1, am_f2, am_f3, Int.reduceNeg, Int.reduceEq, Int.reduceLE, Int.reduceLT, Nat.reduceLeDiff, Nat.reduceAdd, Nat.reduceEqDiff, true_and, and_true, ↓reduceIte, if_false, if_true, forall_const, not_true_eq_false, not_false_eq_true, false_implies, true_implies, implies_true, Int.reduceAdd, Int.reduceMul, Int.reduceSub, ne_eq, ca_77_75, bl_77_34, gf_75_0, ar_0, al_0, gf_75_1, pf_75_1, gf_75_2, gf_75_3, gf_75_4, gf_75_5, gf_75_6, gf_75_7, gf_75_8, gf_75_9, gf_75_10]
        refine sp_layTrial hz bd3 (by omega) (by omega) (by omega) W (fun h4 b4 y4 e44 => ?_)
        simp only [eq_self, and_self, am_up_at, Int.cast_ofNat_Int, Int.reduceNatCast, true_or, or_true, or_false, false_or, Classical.not_not, false_and, and_false, am_bk, am_step, am_ldI, am_ldL, am_ldA, am_nth, am_sto, am_stw_0, am_stw_i, am_stw_n, am_stw_a, am_stw_l, am_br, am_cmp, am_tk, am_cat, am_sw, am_copy, am_R, am_nc0, am_nc1, am_f0, am_f1, am_f2, am_f3, Int.reduceNeg, Int.reduceEq, Int.reduceLE, Int.reduceLT, Nat.reduceLeDiff, Nat.reduceAdd, Nat.reduceEqDiff, true_and, and_true, ↓reduceIte, if_false, if_true, forall_const, not_true_eq_false, not_false_eq_true, false_implies, true_implies, implies_true, Int.reduceAdd, Int.reduceMul, Int.reduceSub, ne_eq, ca_77_75, bl_77_39, gf_75_0, ar_0, al_0, gf_75_1, pf_75_1, gf_75_2, gf_75_3, gf_75_4, gf_75_5, gf_75_6, gf_75_7, gf_75_8, gf_75_9, gf_75_10]
        refine sp_countLater (S := sg_of h) y4 (by omega) (fun g e g1 g2 x1 x2 => by rw [e44]; exact ar3 g e g1 g2 x1 x2) (fun h5 n y5 f5 C => ?_)
        have K := mod h5 (bd_xd hi (bd_y b4 (fy_of f5) y5) (by omega)) n (fun z => by omega) (fun z w => by omega) (fun _ _ => ⟨be, st, B, fun z => absurd z cs, fun _ => C⟩)
        simp only [eq_self, and_self, am_up_at, Int.cast_ofNat_Int, Int.reduceNatCast, true_or, or_true, or_false, false_or, Classical.not_not, false_and, and_false, am_bk, am_step, am_ldI, am_ldL, am_ldA, am_nth, am_sto, am_stw_0, am_stw_i, am_stw_n, am_stw_a, am_stw_l, am_br, am_cmp, am_tk, am_cat, am_sw, am_copy, am_R, am_nc0, am_nc1, am_f0, am_f1, am_f2, am_f3, Int.reduceNeg, Int.reduceEq, Int.reduceLE, Int.reduceLT, Nat.reduceLeDiff, Nat.reduceAdd, Nat.reduceEqDiff, true_and, and_true, ↓reduceIte, if_false, if_true, forall_const, not_true_eq_false, not_false_eq_true, false_implies, true_implies, implies_true, Int.reduceAdd, Int.reduceMul, Int.reduceSub, ne_eq, ca_77_75, bl_77_43, gf_75_0, ar_0, al_0, gf_75_1, pf_75_1, gf_75_2, gf_75_3, gf_75_4, gf_75_5, gf_75_6, gf_75_7, gf_75_8, gf_75_9, gf_75_10]
        exact K
      simp only [eq_self, and_self, am_up_at, Int.cast_ofNat_Int, Int.reduceNatCast, true_or, or_true, or_false, false_or, Classical.not_not, false_and, and_false, am_bk, am_step, am_ldI, am_ldL, am_ldA, am_nth, am_sto, am_stw_0, am_stw_i, am_stw_n, am_stw_a, am_stw_l, am_br, am_cmp, am_tk, am_cat, am_sw, am_copy, am_R, am_nc0, am_nc1, am_f0, am_f1, am_f2, am_f3, Int.reduceNeg, Int.reduceEq, Int.reduceLE, Int.reduceLT, Nat.reduceLeDiff, Nat.reduceAdd, Nat.reduceEqDiff, true_and, and_true, ↓reduceIte, if_false, if_true, forall_const, not_true_eq_false, not_false_eq_true, false_implies, true_implies, implies_true, Int.reduceAdd, Int.reduceMul, Int.reduceSub, ne_eq, ca_77_75, bl_77_19, gf_75_0, ar_0, al_0, gf_75_1, pf_75_1, gf_75_2, gf_75_3, gf_75_4, gf_75_5, gf_75_6, gf_75_7, gf_75_8, gf_75_9, gf_75_10]
      (repeat' (first | with_reducible apply And.intro | with_reducible intro _)) <;> first | omega | exact K
