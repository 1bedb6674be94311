/-! the class: pumps -/
def gi (S : sg_S) (s t e n w : Int) : Prop := (0 ≤ w ∧ w ≤ 255) ∧ ∀ g, 0 ≤ g → g ≤ 7 → (bt w g = 1 ↔ g < n ∧ gd S g e (t + s) t)
set_option maxHeartbeats 400000 in
set_option maxRecDepth 100000 in
theorem lp_git {S : sg_S} {s t e : Int} {h : am_H} {Q : am_P} (hy : ty_ok h S) (he : 0 ≤ e ∧ e < sg_G S) (hs : 0 ≤ s ∧ s ≤ 99) (ht : 0 ≤ t ∧ t ≤ 54) (hB : ∀ g e, 0 ≤ g → g < sg_G S → 0 ≤ e → e < sg_G S → ar_is 1000000 S g t e (h 44 (8 * g + e))) (H : ∀ w, gi S s t e (sg_G S) w → Q (some (.inl w)) h) :
    ∀ (m : Nat) (g w : Int), 0 ≤ g → g + m = sg_G S → gi S s t e g w → am_Ex 53 4 [some (.inr (.inr (some 84))), some (.inl e), some (.inl (t + s)), some (.inl w), some (.inl g)] [] h Q := by
  intro m
  have hG := hy.1.2.1
  have p1 := hy.2.2.2.1.2.1
  induction m with
  | zero =>
    intro g w g0 g1 I
    have eg : g = sg_G S := by omega
    subst eg
    have K := H w I
    have wr := I.1
    rw [bl_53_4]
    simp only [eq_self, and_self, am_up_at, Int.cast_ofNat_Int, Int.reduceNatCast, true_or, or_true, or_false, false_or, Classical.not_not, false_and, and_false, am_bk, am_step, am_ldI, am_ldL, am_ldA, am_nth, am_sto, am_stw_0, am_stw_i, am_stw_n, am_stw_a, am_stw_l, am_br, am_cmp, am_tk, am_cat, am_sw, am_copy, am_R, am_nc0, am_nc1, am_f0, am_f1, am_f2, am_f3, Int.reduceNeg, Int.reduceEq, Int.reduceLE, Int.reduceLT, Nat.reduceLeDiff, Nat.reduceAdd, Nat.reduceEqDiff, true_and, and_true, ↓reduceIte, if_false, if_true, forall_const, not_true_eq_false, not_false_eq_true, false_implies, true_implies, implies_true, Int.reduceAdd, Int.reduceMul, Int.reduceSub, ne_eq, ca_53_84, bl_53_27, gf_84_0, gf_84_1, gf_84_2, ar_43, al_43, gf_84_3, ar_44, al_44, gf_84_4, ar_45, al_45, gf_84_5, ar_46, al_46, gf_84_6, pf_84_6, gf_78_0, pf_78_0, gf_78_1, pf_78_1, gf_78_2, ar_6, al_6, gf_78_3, ar_7, al_7, gf_78_4, ar_8, al_8, gf_78_5, ar_9, al_9, gf_78_6, ar_10, al_10, p1]
    (repeat' (first | with_reducible apply And.intro | with_reducible intro _)) <;> first | omega | exact K
  | succ m ih =>
    intro g w g0 g1 I
    have wr := I.1
    have ar := hB g e g0 (by omega) he.1 he.2
    have r := ar_r (by omega) (by omega) ar
    have gg := gd_ar (e := t + s) (by omega) (by omega) ar
    have o := bt_or (x := w) (g := g) wr (by omega)
    have K1 : h 44 (8 * g + e) ≤ t + s → am_Ex 53 4 [some (.inr (.inr (some 84))), some (.inl e), some (.inl (t + s)), some (.inl (am_or w (am_shl 1 g))), some (.inl (g + 1))] [] h Q := fun q => ih (g + 1) _ (by omega) (by omega) ⟨o.1, fun k k1 k2 => by
      rw [o.2 k k1 k2]
      by_cases c : k = g
      · rw [if_pos c, c]; exact ⟨fun _ => ⟨by omega, gg.mp q⟩, fun _ => rfl⟩
      · rw [if_neg c, I.2 k k1 k2]; exact ⟨fun z => ⟨by omega, z.2⟩, fun z => ⟨by omega, z.2⟩⟩⟩
    have K2 : ¬ h 44 (8 * g + e) ≤ t + s → am_Ex 53 4 [some (.inr (.inr (some 84))), some (.inl e), some (.inl (t + s)), some (.inl w), some (.inl (g + 1))] [] h Q := fun q => ih (g + 1) w (by omega) (by omega) ⟨wr, fun k k1 k2 => by
      rw [I.2 k k1 k2]
      refine ⟨fun z => ⟨by omega, z.2⟩, fun z => ⟨?_, z.2⟩⟩
      by_cases c : k = g
      · rw [c] at z; exact absurd (gg.mpr z.2) q
      · omega⟩
    rw [bl_53_4]
    simp only [eq_self, and_self, am_up_at, Int.cast_ofNat_Int, Int.reduceNatCast, true_or, or_true, or_false, false_or, Classical.not_not, false_and, and_false, am_bk, am_step, am_ldI, am_ldL, am_ldA, am_nth, am_sto, am_stw_0, am_stw_i, am_stw_n, am_stw_a, am_stw_l, am_br, am_cmp, am_tk, am_cat, am_sw, am_copy, am_R, am_nc0, am_nc1, am_f0, am_f1, am_f2, am_f3, Int.reduceNeg, Int.reduceEq, Int.reduceLE, Int.reduceLT, Nat.reduceLeDiff, Nat.reduceAdd, Nat.reduceEqDiff, true_and, and_true, ↓reduceIte, if_false, if_true, forall_const, not_true_eq_false, not_false_eq_true, false_implies, true_implies, implies_true, Int.reduceAdd, Int.reduceMul, Int.reduceSub, ne_eq, ca_53_84, bl_53_9, bl_53_21, bl_53_25, gf_84_0, gf_84_1, gf_84_2, ar_43, al_43, gf_84_3, ar_44, al_44, gf_84_4, ar_45, al_45, gf_84_5, ar_46, al_46, gf_84_6, pf_84_6, gf_78_0, pf_78_0, gf_78_1, pf_78_1, gf_78_2, ar_6, al_6, gf_78_3, ar_7, al_7, gf_78_4, ar_8, al_8, gf_78_5, ar_9, al_9, gf_78_6, ar_10, al_10, p1]
    (repeat' (first | with_reducible apply And.intro | with_reducible intro _)) <;> first | omega | exact K1 (by omega) | exact K2 (by omega)
set_option maxHeartbeats 400000 in
set_option maxRecDepth 100000 in
theorem sp_git {S : sg_S} {s t e : Int} {h : am_H} {Q : am_P} (hy : ty_ok h S) (he : 0 ≤ e ∧ e < sg_G S) (hs : 0 ≤ s ∧ s ≤ 99) (ht : 0 ≤ t ∧ t ≤ 54) (hB : ∀ g e, 0 ≤ g → g < sg_G S → 0 ≤ e → e < sg_G S → ar_is 1000000 S g t e (h 44 (8 * g + e))) (H : ∀ w, gi S s t e (sg_G S) w → Q (some (.inl w)) h) : am_Call 53 [.inr (.inr (some 84)), .inl e, .inl (t + s)] h Q := by
  have hG := hy.1.2.1
  simp only [eq_self, and_self, am_up_at, Int.cast_ofNat_Int, Int.reduceNatCast, true_or, or_true, or_false, false_or, Classical.not_not, false_and, and_false, am_bk, am_step, am_ldI, am_ldL, am_ldA, am_nth, am_sto, am_stw_0, am_stw_i, am_stw_n, am_stw_a, am_stw_l, am_br, am_cmp, am_tk, am_cat, am_sw, am_copy, am_R, am_nc0, am_nc1, am_f0, am_f1, am_f2, am_f3, Int.reduceNeg, Int.reduceEq, Int.reduceLE, Int.reduceLT, Nat.reduceLeDiff, Nat.reduceAdd, Nat.reduceEqDiff, true_and, and_true, ↓reduceIte, if_false, if_true, forall_const, not_true_eq_false, not_false_eq_true, false_implies, true_implies, implies_true, Int.reduceAdd, Int.reduceMul, Int.reduceSub, ne_eq, ca_53_84, bl_53_0, gf_84_0, gf_84_1, gf_84_2, ar_43, al_43, gf_84_3, ar_44, al_44, gf_84_4, ar_45, al_45, gf_84_5, ar_46, al_46, gf_84_6, pf_84_6]
  exact lp_git hy he hs ht hB H (sg_G S).toNat 0 0 (by omega) (by omega) ⟨by omega, fun k k1 k2 => by rw [bt_z]; exact ⟨fun z => by omega, fun z => by omega⟩⟩
/-- what lies in the list of sets -/
def ms (h : am_H) (w : Int) : Prop := ∃ i, (0 ≤ i ∧ i < h 84 6) ∧ h 46 i = w
def ps (h : am_H) : Prop := 0 ≤ h 84 6 ∧ (∀ w, ms h w → 0 ≤ w ∧ w ≤ 255) ∧ ∃ M : Int → Int, (∀ v, 0 ≤ v → v ≤ 255 → (M v = 1 ↔ ms h v)) ∧ dn M 256 = h 84 6
theorem ps_n {h : am_H} (hp : ps h) : h 84 6 ≤ 256 := by
  obtain ⟨_, _, M, _, m2⟩ := hp
  have := dn_le M 256
  omega
theorem ps_add {h : am_H} {v : Int} (hp : ps h) (hv : 0 ≤ v ∧ v ≤ 255) (hn : ¬ ms h v) : h 84 6 < 256 ∧ ps (am_up (am_up h 46 (h 84 6) v) 84 6 (h 84 6 + 1)) ∧ ∀ w, ms (am_up (am_up h 46 (h 84 6) v) 84 6 (h 84 6 + 1)) w ↔ (w = v ∨ ms h w) := by
  obtain ⟨p1, p2, M, m1, m2⟩ := hp
  have key : ∀ w, ms (am_up (am_up h 46 (h 84 6) v) 84 6 (h 84 6 + 1)) w ↔ (w = v ∨ ms h w) := by
    intro w
    unfold ms
    simp only [eq_self, and_self, am_up_at, am_up_ne, ne_eq, Nat.reduceEqDiff, Int.reduceEq, Int.reduceNeg, not_false_eq_true, false_and, and_false, true_and, and_true, ↓reduceIte, if_false, if_true, Int.reduceAdd, Int.reduceMul, Nat.reduceAdd]
    constructor
    · intro ⟨i, i1, i2⟩
      by_cases c : i = h 84 6
      · rw [if_pos c] at i2; exact Or.inl i2.symm
      · rw [if_neg c] at i2; exact Or.inr ⟨i, by omega, i2⟩
    · intro q
      rcases q with q | ⟨i, i1, i2⟩
      · exact ⟨h 84 6, by omega, by rw [if_pos rfl]; exact q.symm⟩
      · exact ⟨i, by omega, by rw [if_neg (by omega)]; exact i2⟩
  have e84 : (am_up (am_up h 46 (h 84 6) v) 84 6 (h 84 6 + 1)) 84 6 = h 84 6 + 1 := by simp only [eq_self, and_self, am_up_at, am_up_ne, ne_eq, Nat.reduceEqDiff, Int.reduceEq, Int.reduceNeg, not_false_eq_true, false_and, and_false, true_and, and_true, ↓reduceIte, if_false, if_true, Int.reduceAdd, Int.reduceMul, Nat.reduceAdd]
  have hM : M v ≠ 1 := fun z => hn ((m1 v hv.1 hv.2).mp z)
  have u := dn_up (D := M) (D' := fun q => if q = v then 1 else M q) (x := v) hM (by simp only [if_pos]) 256 (fun g _ _ g3 => by simp only [if_neg g3])
  rw [m2, if_pos (by omega)] at u
  have l := dn_le (fun q => if q = v then 1 else M q) 256
  refine ⟨by omega, ⟨by omega, fun w hw => ?_, fun q => if q = v then 1 else M q, fun w w1 w2 => ?_, by omega⟩, key⟩
  · rcases (key w).mp hw with z | z
    · omega
    · exact p2 w z
  · rw [key w]
    by_cases c : w = v
    · simp only [if_pos c]; exact ⟨fun _ => Or.inl c, fun _ => trivial⟩
    · simp only [if_neg c]; rw [m1 w w1 w2]; exact ⟨fun z => Or.inr z, fun z => z.resolve_left c⟩
set_option maxHeartbeats 400000 in
set_option maxRecDepth 100000 in
theorem lp_aps {v : Int} {h : am_H} {Q : am_P} (hp : ps h) (hv : 0 ≤ v ∧ v ≤ 255) (H : ∀ h1, ps h1 → (∀ c, c ≠ 46 → c ≠ 84 → h1 c = h c) → (∀ w, ms h1 w ↔ (w = v ∨ ms h w)) → Q none h1) :
    ∀ (m : Nat) (i : Int), 0 ≤ i → i + m = h 84 6 → (∀ j, 0 ≤ j → j < i → h 46 j ≠ v) → am_Ex 54 2 [some (.inr (.inr (some 84))), some (.inl v), some (.inl i)] [] h Q := by
  intro m
  have pn := ps_n hp
  have p0 := hp.1
  induction m with
  | zero =>
    intro i i0 i1 I
    have nn : ¬ ms h v := fun ⟨j, j1, j2⟩ => I j j1.1 (by omega) j2
    have a := ps_add hp hv nn
    have K := H _ a.2.1 (fun c c1 c2 => by rw [am_up_ne c2, am_up_ne c1]) a.2.2
    rw [bl_54_2]
    simp only [eq_self, and_self, am_up_at, Int.cast_ofNat_Int, Int.reduceNatCast, true_or, or_true, or_false, false_or, Classical.not_not, false_and, and_false, am_bk, am_step, am_ldI, am_ldL, am_ldA, am_nth, am_sto, am_stw_0, am_stw_i, am_stw_n, am_stw_a, am_stw_l, am_br, am_cmp, am_tk, am_cat, am_sw, am_copy, am_R, am_nc0, am_nc1, am_f0, am_f1, am_f2, am_f3, Int.reduceNeg, Int.reduceEq, Int.reduceLE, Int.reduceLT, Nat.reduceLeDiff, Nat.reduceAdd, Nat.reduceEqDiff, true_and, and_true, ↓reduceIte, if_false, if_true, forall_const, not_true_eq_false, not_false_eq_true, false_implies, true_implies, implies_true, Int.reduceAdd, Int.reduceMul, Int.reduceSub, ne_eq, ca_54_84, bl_54_15, bl_54_27, bl_54_33, gf_84_0, gf_84_1, gf_84_2, ar_43, al_43, gf_84_3, ar_44, al_44, gf_84_4, ar_45, al_45, gf_84_5, ar_46, al_46, gf_84_6, pf_84_6]
    (repeat' (first | with_reducible apply And.intro | with_reducible intro _)) <;> first | omega | exact K
  | succ m ih =>
    intro i i0 i1 I
    have rg := hp.2.1 (h 46 i) ⟨i, by omega, rfl⟩
    have K1 : h 46 i = v → Q none h := fun q => H h hp (fun _ _ _ => rfl) (fun w => ⟨fun z => Or.inr z, fun z => by
      rcases z with z | z
      · rw [z]; exact ⟨i, by omega, q⟩
      · exact z⟩)
    have K2 : ¬ h 46 i = v → am_Ex 54 2 [some (.inr (.inr (some 84))), some (.inl v), some (.inl (i + 1))] [] h Q := fun q => ih (i + 1) (by omega) (by omega) (fun j j1 j2 => by
      by_cases c : j = i
      · rw [c]; exact q
      · exact I j j1 (by omega))
    rw [bl_54_2]
    simp only [eq_self, and_self, am_up_at, Int.cast_ofNat_Int, Int.reduceNatCast, true_or, or_true, or_false, false_or, Classical.not_not, false_and, and_false, am_bk, am_step, am_ldI, am_ldL, am_ldA, am_nth, am_sto, am_stw_0, am_stw_i, am_stw_n, am_stw_a, am_stw_l, am_br, am_cmp, am_tk, am_cat, am_sw, am_copy, am_R, am_nc0, am_nc1, am_f0, am_f1, am_f2, am_f3, Int.reduceNeg, Int.reduceEq, Int.reduceLE, Int.reduceLT, Nat.reduceLeDiff, Nat.reduceAdd, Nat.reduceEqDiff, true_and, and_true, ↓reduceIte, if_false, if_true, forall_const, not_true_eq_false, not_false_eq_true, false_implies, true_implies, implies_true, Int.reduceAdd, Int.reduceMul, Int.reduceSub, ne_eq, ca_54_84, bl_54_6, bl_54_13, gf_84_0, gf_84_1, gf_84_2, ar_43, al_43, gf_84_3, ar_44, al_44, gf_84_4, ar_45, al_45, gf_84_5, ar_46, al_46, gf_84_6, pf_84_6]
    (repeat' (first | with_reducible apply And.intro | with_reducible intro _)) <;> first | omega | exact K1 (by omega) | exact K2 (by omega)
set_option maxHeartbeats 400000 in
set_option maxRecDepth 100000 in
theorem sp_aps {v : Int} {h : am_H} {Q : am_P} (hp : ps h) (hv : 0 ≤ v ∧ v ≤ 255) (H : ∀ h1, ps h1 → (∀ c, c ≠ 46 → c ≠ 84 → h1 c = h c) → (∀ w, ms h1 w ↔ (w = v ∨ ms h w)) → Q none h1) : am_Call 54 [.inr (.inr (some 84)), .inl v] h Q := by
  have p0 := hp.1
  simp only [eq_self, and_self, am_up_at, Int.cast_ofNat_Int, Int.reduceNatCast, true_or, or_true, or_false, false_or, Classical.not_not, false_and, and_false, am_bk, am_step, am_ldI, am_ldL, am_ldA, am_nth, am_sto, am_stw_0, am_stw_i, am_stw_n, am_stw_a, am_stw_l, am_br, am_cmp, am_tk, am_cat, am_sw, am_copy, am_R, am_nc0, am_nc1, am_f0, am_f1, am_f2, am_f3, Int.reduceNeg, Int.reduceEq, Int.reduceLE, Int.reduceLT, Nat.reduceLeDiff, Nat.reduceAdd, Nat.reduceEqDiff, true_and, and_true, ↓reduceIte, if_false, if_true, forall_const, not_true_eq_false, not_false_eq_true, false_implies, true_implies, implies_true, Int.reduceAdd, Int.reduceMul, Int.reduceSub, ne_eq, ca_54_84, bl_54_0, gf_84_0, gf_84_1, gf_84_2, ar_43, al_43, gf_84_3, ar_44, al_44, gf_84_4, ar_45, al_45, gf_84_5, ar_46, al_46, gf_84_6, pf_84_6]
  exact lp_aps hp hv H (h 84 6).toNat 0 (by omega) (by omega) (fun j j1 j2 => by omega)
/-- the sets of the seconds and gates that are done -/
def pdn (S : sg_S) (t e t' e' : Int) : Prop := 0 ≤ t' ∧ (0 ≤ e' ∧ e' < sg_G S) ∧ (t' < t ∨ (t' = t ∧ e' < e))
def pcs (S : sg_S) (s t e : Int) (h : am_H) : Prop := ps h ∧ (∀ t' e', pdn S t e t' e' → ∃ w, gi S s t' e' (sg_G S) w ∧ ms h w) ∧ ∀ w, ms h w → ∃ t' e', pdn S t e t' e' ∧ gi S s t' e' (sg_G S) w
def fr_p (h h1 : am_H) : Prop := ∀ c, c ≠ 42 → c ≠ 43 → c ≠ 44 → c ≠ 46 → c ≠ 84 → h1 c = h c
theorem ms_mv {h h1 : am_H} (e1 : h1 46 = h 46) (e2 : h1 84 = h 84) (w : Int) : ms h1 w ↔ ms h w := by unfold ms; rw [e1, e2]
theorem ps_mv {h h1 : am_H} (e1 : h1 46 = h 46) (e2 : h1 84 = h 84) (hp : ps h) : ps h1 := by
  obtain ⟨p1, p2, M, m1, m2⟩ := hp
  exact ⟨by rw [e2]; exact p1, fun w hw => p2 w ((ms_mv e1 e2 w).mp hw), M, fun v v1 v2 => by rw [m1 v v1 v2, ms_mv e1 e2], by rw [e2]; exact m2⟩
theorem pcs_mv {S : sg_S} {s t e : Int} {h h1 : am_H} (e1 : h1 46 = h 46) (e2 : h1 84 = h 84) (hp : pcs S s t e h) : pcs S s t e h1 :=
  ⟨ps_mv e1 e2 hp.1, fun t' e' q => by obtain ⟨w, w1, w2⟩ := hp.2.1 t' e' q; exact ⟨w, w1, (ms_mv e1 e2 w).mpr w2⟩, fun w hw => hp.2.2 w ((ms_mv e1 e2 w).mp hw)⟩
theorem pcs_nx {S : sg_S} {s t : Int} {h : am_H} (hG : 0 ≤ sg_G S) (hp : pcs S s t (sg_G S) h) : pcs S s (t + 1) 0 h := by
  have eq : ∀ t' e', pdn S (t + 1) 0 t' e' ↔ pdn S t (sg_G S) t' e' := fun t' e' => by unfold pdn; omega
  exact ⟨hp.1, fun t' e' q => hp.2.1 t' e' ((eq t' e').mp q), fun w hw => by obtain ⟨t', e', q, r⟩ := hp.2.2 w hw; exact ⟨t', e', (eq t' e').mpr q, r⟩⟩
theorem pcs_s {S : sg_S} {s t e w : Int} {h h1 : am_H} (hte : 0 ≤ t ∧ 0 ≤ e ∧ e < sg_G S) (hp : pcs S s t e h) (hw : gi S s t e (sg_G S) w) (hp1 : ps h1) (hm : ∀ v, ms h1 v ↔ (v = w ∨ ms h v)) : pcs S s t (e + 1) h1 := by
  refine ⟨hp1, fun t' e' q => ?_, fun v hv => ?_⟩
  · by_cases c : t' = t ∧ e' = e
    · rw [c.1, c.2]; exact ⟨w, hw, (hm w).mpr (Or.inl rfl)⟩
    · obtain ⟨v, v1, v2⟩ := hp.2.1 t' e' (by unfold pdn at q ⊢; omega)
      exact ⟨v, v1, (hm v).mpr (Or.inr v2)⟩
  · rcases (hm v).mp hv with z | z
    · rw [z]; exact ⟨t, e, by unfold pdn; omega, hw⟩
    · obtain ⟨t', e', q, r⟩ := hp.2.2 v z
      exact ⟨t', e', by unfold pdn at q ⊢; omega, r⟩
set_option maxHeartbeats 400000 in
set_option maxRecDepth 100000 in
theorem lp_cp1 {S : sg_S} {s t : Int} {h0 : am_H} {Q : am_P} (hs : 0 ≤ s ∧ s ≤ 99) (ht : 0 ≤ t ∧ t ≤ 54) (hB : ∀ g e, 0 ≤ g → g < sg_G S → 0 ≤ e → e < sg_G S → ar_is 1000000 S g t e (h0 44 (8 * g + e))) (H : ∀ h1, ty_ok h1 S → (∀ c, c ≠ 46 → c ≠ 84 → h1 c = h0 c) → pcs S s t (sg_G S) h1 → am_Ex 52 30 [some (.inr (.inr (some 84))), some (.inl s), some (.inl t), some (.inl (sg_G S))] [] h1 Q) :
    ∀ (m : Nat) (e : Int) (h : am_H), 0 ≤ e → e + m = sg_G S → ty_ok h S → (∀ c, c ≠ 46 → c ≠ 84 → h c = h0 c) → pcs S s t e h → am_Ex 52 15 [some (.inr (.inr (some 84))), some (.inl s), some (.inl t), some (.inl e)] [] h Q := by
  intro m
  induction m with
  | zero =>
    intro e h e0 e1 hy hf I
    have hG := hy.1.2.1
    have p1 := hy.2.2.2.1.2.1
    have ee : e = sg_G S := by omega
    subst ee
    have K := H h hy hf I
    rw [bl_52_15]
    simp only [eq_self, and_self, am_up_at, Int.cast_ofNat_Int, Int.reduceNatCast, true_or, or_true, or_false, false_or, Classical.not_not, false_and, and_false, am_bk, am_step, am_ldI, am_ldL, am_ldA, am_nth, am_sto, am_stw_0, am_stw_i, am_stw_n, am_stw_a, am_stw_l, am_br, am_cmp, am_tk, am_cat, am_sw, am_copy, am_R, am_nc0, am_nc1, am_f0, am_f1, am_f2, am_f3, Int.reduceNeg, Int.reduceEq, Int.reduceLE, Int.reduceLT, Nat.reduceLeDiff, Nat.reduceAdd, Nat.reduceEqDiff, true_and, and_true, ↓reduceIte, if_false, if_true, forall_const, not_true_eq_false, not_false_eq_true, false_implies, true_implies, implies_true, Int.reduceAdd, Int.reduceMul, Int.reduceSub, ne_eq, gf_84_0, gf_84_1, gf_84_2, ar_43, al_43, gf_84_3, ar_44, al_44, gf_84_4, ar_45, al_45, gf_84_5, ar_46, al_46, gf_84_6, pf_84_6, gf_78_0, pf_78_0, gf_78_1, pf_78_1, gf_78_2, ar_6, al_6, gf_78_3, ar_7, al_7, gf_78_4, ar_8, al_8, gf_78_5, ar_9, al_9, gf_78_6, ar_10, al_10, p1]
    (repeat' (first | with_reducible apply And.intro | with_reducible intro _)) <;> first | omega | exact K
  | succ m ih =>
    intro e h e0 e1 hy hf I
    have hG := hy.1.2.1
    have p1 := hy.2.2.2.1.2.1
    have e44 := hf 44 (by omega) (by omega)
    have K : ∀ w, gi S s t e (sg_G S) w → am_Ex 52 27 [some (.inr (.inr (some 84))), some (.inl s), some (.inl t), some (.inl e)] [.inl w, .inr (.inr (some 84))] h Q := by
      intro w hw
      have wr := hw.1
      have K : ∀ h1, ps h1 → (∀ c, c ≠ 46 → c ≠ 84 → h1 c = h c) → (∀ v, ms h1 v ↔ (v = w ∨ ms h v)) → am_Ex 52 28 [some (.inr (.inr (some 84))), some (.inl s), some (.inl t), some (.inl e)] [] h1 Q := by
        intro h1 q1 q2 q3
        have K := ih (e + 1) h1 (by omega) (by omega) (ty_fr hy (fun c hc => q2 c (by omega) (by omega))) (fun c a b => (q2 c a b).trans (hf c a b)) (pcs_s (by omega) I hw q1 q3)
        simp only [eq_self, and_self, am_up_at, Int.cast_ofNat_Int, Int.reduceNatCast, true_or, or_true, or_false, false_or, Classical.not_not, false_and, and_false, am_bk, am_step, am_ldI, am_ldL, am_ldA, am_nth, am_sto, am_stw_0, am_stw_i, am_stw_n, am_stw_a, am_stw_l, am_br, am_cmp, am_tk, am_cat, am_sw, am_copy, am_R, am_nc0, am_nc1, am_f0, am_f1, am_f2, am_f3, Int.reduceNeg, Int.reduceEq, Int.reduceLE, Int.reduceLT, Nat.reduceLeDiff, Nat.reduceAdd, Nat.reduceEqDiff, true_and, and_true, ↓reduceIte, if_false, if_true, forall_const, not_true_eq_false, not_false_eq_true, false_implies, true_implies, implies_true, Int.reduceAdd, Int.reduceMul, Int.reduceSub, ne_eq, ca_52_84, bl_52_28, gf_84_0, gf_84_1, gf_84_2, ar_43, al_43, gf_84_3, ar_44, al_44, gf_84_4, ar_45, al_45, gf_84_5, ar_46, al_46, gf_84_6, pf_84_6]
        (repeat' (first | with_reducible apply And.intro | with_reducible intro _)) <;> first | omega | exact K
      simp only [eq_self, and_self, am_up_at, Int.cast_ofNat_Int, Int.reduceNatCast, true_or, or_true, or_false, false_or, Classical.not_not, false_and, and_false, am_bk, am_step, am_ldI, am_ldL, am_ldA, am_nth, am_sto, am_stw_0, am_stw_i, am_stw_n, am_stw_a, am_stw_l, am_br, am_cmp, am_tk, am_cat, am_sw, am_copy, am_R, am_nc0, am_nc1, am_f0, am_f1, am_f2, am_f3, Int.reduceNeg, Int.reduceEq, Int.reduceLE, Int.reduceLT, Nat.reduceLeDiff, Nat.reduceAdd, Nat.reduceEqDiff, true_and, and_true, ↓reduceIte, if_false, if_true, forall_const, not_true_eq_false, not_false_eq_true, false_implies, true_implies, implies_true, Int.reduceAdd, Int.reduceMul, Int.reduceSub, ne_eq, ca_52_84, bl_52_27, gf_84_0, gf_84_1, gf_84_2, ar_43, al_43, gf_84_3, ar_44, al_44, gf_84_4, ar_45, al_45, gf_84_5, ar_46, al_46, gf_84_6, pf_84_6]
      exact sp_aps I.1 wr K
    rw [bl_52_15]
    simp only [eq_self, and_self, am_up_at, Int.cast_ofNat_Int, Int.reduceNatCast, true_or, or_true, or_false, false_or, Classical.not_not, false_and, and_false, am_bk, am_step, am_ldI, am_ldL, am_ldA, am_nth, am_sto, am_stw_0, am_stw_i, am_stw_n, am_stw_a, am_stw_l, am_br, am_cmp, am_tk, am_cat, am_sw, am_copy, am_R, am_nc0, am_nc1, am_f0, am_f1, am_f2, am_f3, Int.reduceNeg, Int.reduceEq, Int.reduceLE, Int.reduceLT, Nat.reduceLeDiff, Nat.reduceAdd, Nat.reduceEqDiff, true_and, and_true, ↓reduceIte, if_false, if_true, forall_const, not_true_eq_false, not_false_eq_true, false_implies, true_implies, implies_true, Int.reduceAdd, Int.reduceMul, Int.reduceSub, ne_eq, ca_52_84, bl_52_20, gf_84_0, gf_84_1, gf_84_2, ar_43, al_43, gf_84_3, ar_44, al_44, gf_84_4, ar_45, al_45, gf_84_5, ar_46, al_46, gf_84_6, pf_84_6, gf_78_0, pf_78_0, gf_78_1, pf_78_1, gf_78_2, ar_6, al_6, gf_78_3, ar_7, al_7, gf_78_4, ar_8, al_8, gf_78_5, ar_9, al_9, gf_78_6, ar_10, al_10, p1]
    (repeat' (first | with_reducible apply And.intro | with_reducible intro _)) <;> first | omega | exact sp_git hy (by omega) hs ht (by rw [e44]; exact hB) K
set_option maxHeartbeats 400000 in
set_option maxRecDepth 100000 in
theorem lp_cp2 {S : sg_S} {s : Int} {h0 : am_H} {Q : am_P} (hs : 0 ≤ s ∧ s ≤ 99) (H : ∀ h1, ty_ok h1 S → fr_p h0 h1 → pcs S s (sg_U S) 0 h1 → Q none h1) :
    ∀ (m : Nat) (t : Int) (h : am_H), 0 ≤ t → t + m = sg_U S → ty_ok h S → fr_p h0 h → pcs S s t 0 h → am_Ex 52 5 [some (.inr (.inr (some 84))), some (.inl s), some (.inl t), none] [] h Q := by
  intro m
  induction m with
  | zero =>
    intro t h t0 t1 hy hf I
    have hU := hy.1.1
    have p0 := hy.2.2.2.1.1
    have K := H h hy hf (by rw [show sg_U S = t by omega]; exact I)
    rw [bl_52_5]
    simp only [eq_self, and_self, am_up_at, Int.cast_ofNat_Int, Int.reduceNatCast, true_or, or_true, or_false, false_or, Classical.not_not, false_and, and_false, am_bk, am_step, am_ldI, am_ldL, am_ldA, am_nth, am_sto, am_stw_0, am_stw_i, am_stw_n, am_stw_a, am_stw_l, am_br, am_cmp, am_tk, am_cat, am_sw, am_copy, am_R, am_nc0, am_nc1, am_f0, am_f1, am_f2, am_f3, Int.reduceNeg, Int.reduceEq, Int.reduceLE, Int.reduceLT, Nat.reduceLeDiff, Nat.reduceAdd, Nat.reduceEqDiff, true_and, and_true, ↓reduceIte, if_false, if_true, forall_const, not_true_eq_false, not_false_eq_true, false_implies, true_implies, implies_true, Int.reduceAdd, Int.reduceMul, Int.reduceSub, ne_eq, ca_52_84, bl_52_32, gf_84_0, gf_84_1, gf_84_2, ar_43, al_43, gf_84_3, ar_44, al_44, gf_84_4, ar_45, al_45, gf_84_5, ar_46, al_46, gf_84_6, pf_84_6, gf_78_0, pf_78_0, gf_78_1, pf_78_1, gf_78_2, ar_6, al_6, gf_78_3, ar_7, al_7, gf_78_4, ar_8, al_8, gf_78_5, ar_9, al_9, gf_78_6, ar_10, al_10, p0]
    (repeat' (first | with_reducible apply And.intro | with_reducible intro _)) <;> first | omega | exact K
  | succ m ih =>
    intro t h t0 t1 hy hf I
    have hU := hy.1.1
    have hG := hy.1.2.1
    have p0 := hy.2.2.2.1.1
    have K : ∀ h1, ty_ok h1 S → fr_y h h1 → (∀ g e, 0 ≤ g → g < sg_G S → 0 ≤ e → e < sg_G S → ar_is 1000000 S g t e (h1 44 (8 * g + e))) → am_Ex 52 13 [some (.inr (.inr (some 84))), some (.inl s), some (.inl t), none] [] h1 Q := by
      intro h1 y1 f1 ar
      simp only [eq_self, and_self, am_up_at, Int.cast_ofNat_Int, Int.reduceNatCast, true_or, or_true, or_false, false_or, Classical.not_not, false_and, and_false, am_bk, am_step, am_ldI, am_ldL, am_ldA, am_nth, am_sto, am_stw_0, am_stw_i, am_stw_n, am_stw_a, am_stw_l, am_br, am_cmp, am_tk, am_cat, am_sw, am_copy, am_R, am_nc0, am_nc1, am_f0, am_f1, am_f2, am_f3, Int.reduceNeg, Int.reduceEq, Int.reduceLE, Int.reduceLT, Nat.reduceLeDiff, Nat.reduceAdd, Nat.reduceEqDiff, true_and, and_true, ↓reduceIte, if_false, if_true, forall_const, not_true_eq_false, not_false_eq_true, false_implies, true_implies, implies_true, Int.reduceAdd, Int.reduceMul, Int.reduceSub, ne_eq, ca_52_84, bl_52_13, gf_84_0, gf_84_1, gf_84_2, ar_43, al_43, gf_84_3, ar_44, al_44, gf_84_4, ar_45, al_45, gf_84_5, ar_46, al_46, gf_84_6, pf_84_6]
      refine lp_cp1 hs (by omega) ar (fun h2 y2 f2 I2 => ?_) (sg_G S).toNat 0 h1 (by omega) (by omega) y1 (fun _ _ _ => rfl) (pcs_mv (f1 46 (by omega) (by omega) (by omega)) (f1 84 (by omega) (by omega) (by omega)) I)
      simp only [eq_self, and_self, am_up_at, Int.cast_ofNat_Int, Int.reduceNatCast, true_or, or_true, or_false, false_or, Classical.not_not, false_and, and_false, am_bk, am_step, am_ldI, am_ldL, am_ldA, am_nth, am_sto, am_stw_0, am_stw_i, am_stw_n, am_stw_a, am_stw_l, am_br, am_cmp, am_tk, am_cat, am_sw, am_copy, am_R, am_nc0, am_nc1, am_f0, am_f1, am_f2, am_f3, Int.reduceNeg, Int.reduceEq, Int.reduceLE, Int.reduceLT, Nat.reduceLeDiff, Nat.reduceAdd, Nat.reduceEqDiff, true_and, and_true, ↓reduceIte, if_false, if_true, forall_const, not_true_eq_false, not_false_eq_true, false_implies, true_implies, implies_true, Int.reduceAdd, Int.reduceMul, Int.reduceSub, ne_eq, ca_52_84, bl_52_30, gf_84_0, gf_84_1, gf_84_2, ar_43, al_43, gf_84_3, ar_44, al_44, gf_84_4, ar_45, al_45, gf_84_5, ar_46, al_46, gf_84_6, pf_84_6]
      exact am_forget (ih (t + 1) h2 (by omega) (by omega) y2 (fun c a b d x y => (f2 c x y).trans ((f1 c a b d).trans (hf c a b d x y))) (pcs_nx hG.1 I2)) (by simp [am_lq])
    rw [bl_52_5]
    simp only [eq_self, and_self, am_up_at, Int.cast_ofNat_Int, Int.reduceNatCast, true_or, or_true, or_false, false_or, Classical.not_not, false_and, and_false, am_bk, am_step, am_ldI, am_ldL, am_ldA, am_nth, am_sto, am_stw_0, am_stw_i, am_stw_n, am_stw_a, am_stw_l, am_br, am_cmp, am_tk, am_cat, am_sw, am_copy, am_R, am_nc0, am_nc1, am_f0, am_f1, am_f2, am_f3, Int.reduceNeg, Int.reduceEq, Int.reduceLE, Int.reduceLT, Nat.reduceLeDiff, Nat.reduceAdd, Nat.reduceEqDiff, true_and, and_true, ↓reduceIte, if_false, if_true, forall_const, not_true_eq_false, not_false_eq_true, false_implies, true_implies, implies_true, Int.reduceAdd, Int.reduceMul, Int.reduceSub, ne_eq, ca_52_84, bl_52_10, gf_84_0, gf_84_1, gf_84_2, ar_43, al_43, gf_84_3, ar_44, al_44, gf_84_4, ar_45, al_45, gf_84_5, ar_46, al_46, gf_84_6, pf_84_6, gf_78_0, pf_78_0, gf_78_1, pf_78_1, gf_78_2, ar_6, al_6, gf_78_3, ar_7, al_7, gf_78_4, ar_8, al_8, gf_78_5, ar_9, al_9, gf_78_6, ar_10, al_10, p0]
    (repeat' (first | with_reducible apply And.intro | with_reducible intro _)) <;> first | omega | exact sp_remAll hy (by omega) K
set_option maxHeartbeats 400000 in
set_option maxRecDepth 100000 in
theorem sp_collect {S : sg_S} {s : Int} {h : am_H} {Q : am_P} (hy : ty_ok h S) (hs : 0 ≤ s ∧ s ≤ 99) (H : ∀ h1, ty_ok h1 S → fr_p h h1 → pcs S s (sg_U S) 0 h1 → Q none h1) : am_Call 52 [.inr (.inr (some 84)), .inl s] h Q := by
  have hU := hy.1.1
  have e6 : (am_up h 84 6 0) 84 6 = 0 := by simp only [eq_self, and_self, am_up_at, am_up_ne, ne_eq, Nat.reduceEqDiff, Int.reduceEq, Int.reduceNeg, not_false_eq_true, false_and, and_false, true_and, and_true, ↓reduceIte, if_false, if_true, Int.reduceAdd, Int.reduceMul, Nat.reduceAdd]
  have nm : ∀ w, ¬ ms (am_up h 84 6 0) w := fun w ⟨i, i1, _⟩ => by omega
  have K := lp_cp2 (h0 := h) (Q := Q) hs H (sg_U S).toNat 0 (am_up h 84 6 0) (by omega) (by omega) (ty_fr hy (fun c hc => am_up_ne (by omega))) (fun c _ _ _ _ e => am_up_ne e) ⟨⟨by omega, fun w hw => absurd hw (nm w), fun _ => 0, fun v _ _ => ⟨fun z => absurd (show (0 : Int) = 1 from z) (by omega), fun z => absurd z (nm v)⟩, by rw [e6]; exact dn_0 256 (fun _ _ _ => by show (0 : Int) ≠ 1; omega)⟩, fun t' e' q => by unfold pdn at q; omega, fun w hw => absurd hw (nm w)⟩
  simp only [eq_self, and_self, am_up_at, Int.cast_ofNat_Int, Int.reduceNatCast, true_or, or_true, or_false, false_or, Classical.not_not, false_and, and_false, am_bk, am_step, am_ldI, am_ldL, am_ldA, am_nth, am_sto, am_stw_0, am_stw_i, am_stw_n, am_stw_a, am_stw_l, am_br, am_cmp, am_tk, am_cat, am_sw, am_copy, am_R, am_nc0, am_nc1, am_f0, am_f1, am_f2, am_f3, Int.reduceNeg, Int.reduceEq, Int.reduceLE, Int.reduceLT, Nat.reduceLeDiff, Nat.reduceAdd, Nat.reduceEqDiff, true_and, and_true, ↓reduceIte, if_false, if_true, forall_const, not_true_eq_false, not_false_eq_true, false_implies, true_implies, implies_true, Int.reduceAdd, Int.reduceMul, Int.reduceSub, ne_eq, ca_52_84, bl_52_0, gf_84_0, gf_84_1, gf_84_2, ar_43, al_43, gf_84_3, ar_44, al_44, gf_84_4, ar_45, al_45, gf_84_5, ar_46, al_46, gf_84_6, pf_84_6]
  (repeat' (first | with_reducible apply And.intro | with_reducible intro _)) <;> first | omega | exact K
/-- a set serves all -/
def sv (S : sg_S) (s w : Int) : Prop := ∀ t e, 0 ≤ t → t < sg_U S → 0 ≤ e → e < sg_G S → ∃ g, (0 ≤ g ∧ g < sg_G S) ∧ bt w g = 1 ∧ gd S g e (t + s) t
theorem sv_ms {S : sg_S} {s w : Int} {h : am_H} (hG : sg_G S ≤ 8) (hw : 0 ≤ w ∧ w ≤ 255) (hp : pcs S s (sg_U S) 0 h) : sv S s w ↔ ∀ v, ms h v → am_and v w ≠ 0 := by
  constructor
  · intro q v hv
    obtain ⟨t, e, a1, a2⟩ := hp.2.2 v hv
    unfold pdn at a1
    obtain ⟨g, g1, g2, g3⟩ := q t e (by omega) (by omega) (by omega) (by omega)
    exact (bt_nz a2.1 hw).mpr ⟨g, by omega, (a2.2 g (by omega) (by omega)).mpr ⟨by omega, g3⟩, g2⟩
  · intro q t e t1 t2 e1 e2
    obtain ⟨v, v1, v2⟩ := hp.2.1 t e ⟨t1, ⟨e1, e2⟩, Or.inl t2⟩
    obtain ⟨g, g1, g2, g3⟩ := (bt_nz v1.1 hw).mp (q v v2)
    have z := (v1.2 g g1.1 g1.2).mp g2
    exact ⟨g, by omega, g3, z.2⟩
set_option maxHeartbeats 400000 in
set_option maxRecDepth 100000 in
theorem lp_sva {S : sg_S} {s w : Int} {h : am_H} {Q : am_P} (hG : sg_G S ≤ 8) (hw : 0 ≤ w ∧ w ≤ 255) (hp : pcs S s (sg_U S) 0 h) (Y : sv S s w → Q (some (.inl 1)) h) (N : ¬ sv S s w → Q (some (.inl 0)) h) :
    ∀ (m : Nat) (i : Int), 0 ≤ i → i + m = h 84 6 → (∀ j, 0 ≤ j → j < i → am_and (h 46 j) w ≠ 0) → am_Ex 55 2 [some (.inr (.inr (some 84))), some (.inl w), some (.inl i)] [] h Q := by
  intro m
  have pn := ps_n hp.1
  have p0 := hp.1.1
  have key := sv_ms hG hw hp
  induction m with
  | zero =>
    intro i i0 i1 I
    have K := Y (key.mpr (fun v ⟨j, j1, j2⟩ => by rw [← j2]; exact I j j1.1 (by omega)))
    rw [bl_55_2]
    simp only [eq_self, and_self, am_up_at, Int.cast_ofNat_Int, Int.reduceNatCast, true_or, or_true, or_false, false_or, Classical.not_not, false_and, and_false, am_bk, am_step, am_ldI, am_ldL, am_ldA, am_nth, am_sto, am_stw_0, am_stw_i, am_stw_n, am_stw_a, am_stw_l, am_br, am_cmp, am_tk, am_cat, am_sw, am_copy, am_R, am_nc0, am_nc1, am_f0, am_f1, am_f2, am_f3, Int.reduceNeg, Int.reduceEq, Int.reduceLE, Int.reduceLT, Nat.reduceLeDiff, Nat.reduceAdd, Nat.reduceEqDiff, true_and, and_true, ↓reduceIte, if_false, if_true, forall_const, not_true_eq_false, not_false_eq_true, false_implies, true_implies, implies_true, Int.reduceAdd, Int.reduceMul, Int.reduceSub, ne_eq, ca_55_84, bl_55_17, gf_84_0, gf_84_1, gf_84_2, ar_43, al_43, gf_84_3, ar_44, al_44, gf_84_4, ar_45, al_45, gf_84_5, ar_46, al_46, gf_84_6, pf_84_6]
    (repeat' (first | with_reducible apply And.intro | with_reducible intro _)) <;> first | omega | exact K
  | succ m ih =>
    intro i i0 i1 I
    have mi : ms h (h 46 i) := ⟨i, by omega, rfl⟩
    have rg := hp.1.2.1 _ mi
    have ra := (bt_and0 rg hw).1
    have K1 : am_and (h 46 i) w = 0 → Q (some (.inl 0)) h := fun q => N (fun z => key.mp z _ mi q)
    have K2 : ¬ am_and (h 46 i) w = 0 → am_Ex 55 2 [some (.inr (.inr (some 84))), some (.inl w), some (.inl (i + 1))] [] h Q := fun q => ih (i + 1) (by omega) (by omega) (fun j j1 j2 => by
      by_cases c : j = i
      · rw [c]; exact q
      · exact I j j1 (by omega))
    rw [bl_55_2]
    simp only [eq_self, and_self, am_up_at, Int.cast_ofNat_Int, Int.reduceNatCast, true_or, or_true, or_false, false_or, Classical.not_not, false_and, and_false, am_bk, am_step, am_ldI, am_ldL, am_ldA, am_nth, am_sto, am_stw_0, am_stw_i, am_stw_n, am_stw_a, am_stw_l, am_br, am_cmp, am_tk, am_cat, am_sw, am_copy, am_R, am_nc0, am_nc1, am_f0, am_f1, am_f2, am_f3, Int.reduceNeg, Int.reduceEq, Int.reduceLE, Int.reduceLT, Nat.reduceLeDiff, Nat.reduceAdd, Nat.reduceEqDiff, true_and, and_true, ↓reduceIte, if_false, if_true, forall_const, not_true_eq_false, not_false_eq_true, false_implies, true_implies, implies_true, Int.reduceAdd, Int.reduceMul, Int.reduceSub, ne_eq, ca_55_84, bl_55_6, bl_55_15, gf_84_0, gf_84_1, gf_84_2, ar_43, al_43, gf_84_3, ar_44, al_44, gf_84_4, ar_45, al_45, gf_84_5, ar_46, al_46, gf_84_6, pf_84_6]
    (repeat' (first | with_reducible apply And.intro | with_reducible intro _)) <;> first | omega | exact K1 (by omega) | exact K2 (by omega)
set_option maxHeartbeats 400000 in
set_option maxRecDepth 100000 in
theorem sp_sva {S : sg_S} {s w : Int} {h : am_H} {Q : am_P} (hG : sg_G S ≤ 8) (hw : 0 ≤ w ∧ w ≤ 255) (hp : pcs S s (sg_U S) 0 h) (Y : sv S s w → Q (some (.inl 1)) h) (N : ¬ sv S s w → Q (some (.inl 0)) h) : am_Call 55 [.inr (.inr (some 84)), .inl w] h Q := by
  have p0 := hp.1.1
  simp only [eq_self, and_self, am_up_at, Int.cast_ofNat_Int, Int.reduceNatCast, true_or, or_true, or_false, false_or, Classical.not_not, false_and, and_false, am_bk, am_step, am_ldI, am_ldL, am_ldA, am_nth, am_sto, am_stw_0, am_stw_i, am_stw_n, am_stw_a, am_stw_l, am_br, am_cmp, am_tk, am_cat, am_sw, am_copy, am_R, am_nc0, am_nc1, am_f0, am_f1, am_f2, am_f3, Int.reduceNeg, Int.reduceEq, Int.reduceLE, Int.reduceLT, Nat.reduceLeDiff, Nat.reduceAdd, Nat.reduceEqDiff, true_and, and_true, ↓reduceIte, if_false, if_true, forall_const, not_true_eq_false, not_false_eq_true, false_implies, true_implies, implies_true, Int.reduceAdd, Int.reduceMul, Int.reduceSub, ne_eq, ca_55_84, bl_55_0, gf_84_0, gf_84_1, gf_84_2, ar_43, al_43, gf_84_3, ar_44, al_44, gf_84_4, ar_45, al_45, gf_84_5, ar_46, al_46, gf_84_6, pf_84_6]
  exact lp_sva hG hw hp Y N (h 84 6).toNat 0 (by omega) (by omega) (fun j j1 j2 => by omega)
/-- the best of the sets before n -/
def fp (S : sg_S) (s n b : Int) : Prop := (b = -9 ∧ ∀ w, 1 ≤ w → w < n → ¬ sv S s w) ∨ ((1 ≤ b ∧ b < n) ∧ sv S s b ∧ ∀ w, 1 ≤ w → w < n → sv S s w → pc b ≤ pc w ∧ (w < b → pc b < pc w))
theorem fp_one {S : sg_S} {s n b c : Int} (h1 : fp S s n b) (h2 : fp S s n c) : b = c := by
  rcases h1 with ⟨a1, a2⟩ | ⟨a1, a2, a3⟩ <;> rcases h2 with ⟨b1, b2⟩ | ⟨b1, b2, b3⟩
  · omega
  · exact absurd b2 (a2 c b1.1 b1.2)
  · exact absurd a2 (b2 b a1.1 a1.2)
  · have x := a3 c b1.1 b1.2 b2
    have y := b3 b a1.1 a1.2 a2
    rcases Int.lt_trichotomy b c with z | z | z
    · have := y.2 z; omega
    · exact z
    · have := x.2 z; omega
theorem fp_s {S : sg_S} {s n b : Int} (hn : 1 ≤ n) (h : fp S s n b) : (sv S s n ∧ (b = -9 ∨ pc n < pc b) → fp S s (n + 1) n) ∧ (¬ (sv S s n ∧ (b = -9 ∨ pc n < pc b)) → fp S s (n + 1) b) := by
  rcases h with ⟨a1, a2⟩ | ⟨a1, a2, a3⟩
  · refine ⟨fun q => Or.inr ⟨by omega, q.1, fun w w1 w2 w3 => ?_⟩, fun q => Or.inl ⟨a1, fun w w1 w2 w3 => ?_⟩⟩
    · by_cases c : w = n
      · rw [c]; exact ⟨by omega, fun z => by omega⟩
      · exact absurd w3 (a2 w w1 (by omega))
    · by_cases c : w = n
      · rw [c] at w3; exact q ⟨w3, Or.inl a1⟩
      · exact a2 w w1 (by omega) w3
  · refine ⟨fun q => Or.inr ⟨by omega, q.1, fun w w1 w2 w3 => ?_⟩, fun q => Or.inr ⟨by omega, a2, fun w w1 w2 w3 => ?_⟩⟩
    · have := q.2
      by_cases c : w = n
      · rw [c]; exact ⟨by omega, fun z => by omega⟩
      · have := a3 w w1 (by omega) w3
        exact ⟨by omega, fun _ => by omega⟩
    · by_cases c : w = n
      · rw [c] at w3 ⊢
        refine ⟨?_, fun z => by omega⟩
        by_cases d : pc n < pc b
        · exact absurd ⟨w3, Or.inr d⟩ q
        · omega
      · exact a3 w w1 (by omega) w3
set_option maxHeartbeats 400000 in
set_option maxRecDepth 100000 in
theorem lp_fwp {S : sg_S} {s : Int} {h : am_H} {Q : am_P} (hy : ty_ok h S) (hp : pcs S s (sg_U S) 0 h) (H : ∀ b, fp S s (am_shl 1 (sg_G S)) b → Q (some (.inl b)) h) :
    ∀ (m : Nat) (n b f : Int), 1 ≤ n → n + m = am_shl 1 (sg_G S) → fp S s n b → f = (if b = -9 then 9 else pc b) → am_Ex 51 6 [some (.inr (.inr (some 84))), some (.inl b), some (.inl f), some (.inl n)] [] h Q := by
  intro m
  have hG := hy.1.2.1
  have p1 := hy.2.2.2.1.2.1
  have sh := (bt_full hG).1
  induction m with
  | zero =>
    intro n b f n0 n1 I hf
    have br : -9 ≤ b ∧ b ≤ 256 := by rcases I with q | q <;> omega
    have K := H b (by rw [show am_shl 1 (sg_G S) = n by omega]; exact I)
    rw [bl_51_6]
    simp only [eq_self, and_self, am_up_at, Int.cast_ofNat_Int, Int.reduceNatCast, true_or, or_true, or_false, false_or, Classical.not_not, false_and, and_false, am_bk, am_step, am_ldI, am_ldL, am_ldA, am_nth, am_sto, am_stw_0, am_stw_i, am_stw_n, am_stw_a, am_stw_l, am_br, am_cmp, am_tk, am_cat, am_sw, am_copy, am_R, am_nc0, am_nc1, am_f0, am_f1, am_f2, am_f3, Int.reduceNeg, Int.reduceEq, Int.reduceLE, Int.reduceLT, Nat.reduceLeDiff, Nat.reduceAdd, Nat.reduceEqDiff, true_and, and_true, ↓reduceIte, if_false, if_true, forall_const, not_true_eq_false, not_false_eq_true, false_implies, true_implies, implies_true, Int.reduceAdd, Int.reduceMul, Int.reduceSub, ne_eq, ca_51_84, bl_51_28, gf_84_0, gf_84_1, gf_84_2, ar_43, al_43, gf_84_3, ar_44, al_44, gf_84_4, ar_45, al_45, gf_84_5, ar_46, al_46, gf_84_6, pf_84_6, gf_78_0, pf_78_0, gf_78_1, pf_78_1, gf_78_2, ar_6, al_6, gf_78_3, ar_7, al_7, gf_78_4, ar_8, al_8, gf_78_5, ar_9, al_9, gf_78_6, ar_10, al_10, p1]
    (repeat' (first | with_reducible apply And.intro | with_reducible intro _)) <;> first | omega | exact K
  | succ m ih =>
    intro n b f n0 n1 I hf
    have br : -9 ≤ b ∧ b ≤ 256 := by rcases I with q | q <;> omega
    have nr : 0 ≤ n ∧ n ≤ 255 := by omega
    have pr := pc_r n
    have pb := pc_r b
    have fr : 0 ≤ f ∧ f ≤ 9 := by rw [hf]; split <;> omega
    have st := fp_s n0 I
    have Kn : ¬ (sv S s n ∧ (b = -9 ∨ pc n < pc b)) → am_Ex 51 26 [some (.inr (.inr (some 84))), some (.inl b), some (.inl f), some (.inl n)] [] h Q := by
      intro q
      have K := ih (n + 1) b f (by omega) (by omega) (st.2 q) hf
      simp only [eq_self, and_self, am_up_at, Int.cast_ofNat_Int, Int.reduceNatCast, true_or, or_true, or_false, false_or, Classical.not_not, false_and, and_false, am_bk, am_step, am_ldI, am_ldL, am_ldA, am_nth, am_sto, am_stw_0, am_stw_i, am_stw_n, am_stw_a, am_stw_l, am_br, am_cmp, am_tk, am_cat, am_sw, am_copy, am_R, am_nc0, am_nc1, am_f0, am_f1, am_f2, am_f3, Int.reduceNeg, Int.reduceEq, Int.reduceLE, Int.reduceLT, Nat.reduceLeDiff, Nat.reduceAdd, Nat.reduceEqDiff, true_and, and_true, ↓reduceIte, if_false, if_true, forall_const, not_true_eq_false, not_false_eq_true, false_implies, true_implies, implies_true, Int.reduceAdd, Int.reduceMul, Int.reduceSub, ne_eq, ca_51_84, bl_51_26, gf_84_0, gf_84_1, gf_84_2, ar_43, al_43, gf_84_3, ar_44, al_44, gf_84_4, ar_45, al_45, gf_84_5, ar_46, al_46, gf_84_6, pf_84_6]
      (repeat' (first | with_reducible apply And.intro | with_reducible intro _)) <;> first | omega | exact K
    have Ky : sv S s n ∧ (b = -9 ∨ pc n < pc b) → am_Ex 51 25 [some (.inr (.inr (some 84))), some (.inl n), some (.inl f), some (.inl n)] [.inl (pc n)] h Q := by
      intro q
      have K := ih (n + 1) n (pc n) (by omega) (by omega) (st.1 q) (by rw [if_neg (by omega)])
      simp only [eq_self, and_self, am_up_at, Int.cast_ofNat_Int, Int.reduceNatCast, true_or, or_true, or_false, false_or, Classical.not_not, false_and, and_false, am_bk, am_step, am_ldI, am_ldL, am_ldA, am_nth, am_sto, am_stw_0, am_stw_i, am_stw_n, am_stw_a, am_stw_l, am_br, am_cmp, am_tk, am_cat, am_sw, am_copy, am_R, am_nc0, am_nc1, am_f0, am_f1, am_f2, am_f3, Int.reduceNeg, Int.reduceEq, Int.reduceLE, Int.reduceLT, Nat.reduceLeDiff, Nat.reduceAdd, Nat.reduceEqDiff, true_and, and_true, ↓reduceIte, if_false, if_true, forall_const, not_true_eq_false, not_false_eq_true, false_implies, true_implies, implies_true, Int.reduceAdd, Int.reduceMul, Int.reduceSub, ne_eq, ca_51_84, bl_51_25, bl_51_26, gf_84_0, gf_84_1, gf_84_2, ar_43, al_43, gf_84_3, ar_44, al_44, gf_84_4, ar_45, al_45, gf_84_5, ar_46, al_46, gf_84_6, pf_84_6]
      (repeat' (first | with_reducible apply And.intro | with_reducible intro _)) <;> first | omega | exact K
    have Kt : pc n < f → am_Ex 51 15 [some (.inr (.inr (some 84))), some (.inl b), some (.inl f), some (.inl n)] [.inl (pc n)] h Q := by
      intro q
      have lt : b = -9 ∨ pc n < pc b := by
        rw [hf] at q
        split at q
        · exact Or.inl (by assumption)
        · exact Or.inr q
      have Ka : sv S s n → am_Ex 51 20 [some (.inr (.inr (some 84))), some (.inl b), some (.inl f), some (.inl n)] [.inl 1] h Q := by
        intro z
        simp only [eq_self, and_self, am_up_at, Int.cast_ofNat_Int, Int.reduceNatCast, true_or, or_true, or_false, false_or, Classical.not_not, false_and, and_false, am_bk, am_step, am_ldI, am_ldL, am_ldA, am_nth, am_sto, am_stw_0, am_stw_i, am_stw_n, am_stw_a, am_stw_l, am_br, am_cmp, am_tk, am_cat, am_sw, am_copy, am_R, am_nc0, am_nc1, am_f0, am_f1, am_f2, am_f3, Int.reduceNeg, Int.reduceEq, Int.reduceLE, Int.reduceLT, Nat.reduceLeDiff, Nat.reduceAdd, Nat.reduceEqDiff, true_and, and_true, ↓reduceIte, if_false, if_true, forall_const, not_true_eq_false, not_false_eq_true, false_implies, true_implies, implies_true, Int.reduceAdd, Int.reduceMul, Int.reduceSub, ne_eq, ca_51_84, bl_51_20, gf_84_0, gf_84_1, gf_84_2, ar_43, al_43, gf_84_3, ar_44, al_44, gf_84_4, ar_45, al_45, gf_84_5, ar_46, al_46, gf_84_6, pf_84_6]
        (repeat' (first | with_reducible apply And.intro | with_reducible intro _)) <;> first | omega | exact sp_bitCount nr (Ky ⟨z, lt⟩)
      have Kb : ¬ sv S s n → am_Ex 51 20 [some (.inr (.inr (some 84))), some (.inl b), some (.inl f), some (.inl n)] [.inl 0] h Q := by
        intro z
        simp only [eq_self, and_self, am_up_at, Int.cast_ofNat_Int, Int.reduceNatCast, true_or, or_true, or_false, false_or, Classical.not_not, false_and, and_false, am_bk, am_step, am_ldI, am_ldL, am_ldA, am_nth, am_sto, am_stw_0, am_stw_i, am_stw_n, am_stw_a, am_stw_l, am_br, am_cmp, am_tk, am_cat, am_sw, am_copy, am_R, am_nc0, am_nc1, am_f0, am_f1, am_f2, am_f3, Int.reduceNeg, Int.reduceEq, Int.reduceLE, Int.reduceLT, Nat.reduceLeDiff, Nat.reduceAdd, Nat.reduceEqDiff, true_and, and_true, ↓reduceIte, if_false, if_true, forall_const, not_true_eq_false, not_false_eq_true, false_implies, true_implies, implies_true, Int.reduceAdd, Int.reduceMul, Int.reduceSub, ne_eq, ca_51_84, bl_51_20, gf_84_0, gf_84_1, gf_84_2, ar_43, al_43, gf_84_3, ar_44, al_44, gf_84_4, ar_45, al_45, gf_84_5, ar_46, al_46, gf_84_6, pf_84_6]
        (repeat' (first | with_reducible apply And.intro | with_reducible intro _)) <;> first | omega | exact Kn (fun w => z w.1)
      simp only [eq_self, and_self, am_up_at, Int.cast_ofNat_Int, Int.reduceNatCast, true_or, or_true, or_false, false_or, Classical.not_not, false_and, and_false, am_bk, am_step, am_ldI, am_ldL, am_ldA, am_nth, am_sto, am_stw_0, am_stw_i, am_stw_n, am_stw_a, am_stw_l, am_br, am_cmp, am_tk, am_cat, am_sw, am_copy, am_R, am_nc0, am_nc1, am_f0, am_f1, am_f2, am_f3, Int.reduceNeg, Int.reduceEq, Int.reduceLE, Int.reduceLT, Nat.reduceLeDiff, Nat.reduceAdd, Nat.reduceEqDiff, true_and, and_true, ↓reduceIte, if_false, if_true, forall_const, not_true_eq_false, not_false_eq_true, false_implies, true_implies, implies_true, Int.reduceAdd, Int.reduceMul, Int.reduceSub, ne_eq, ca_51_84, bl_51_15, gf_84_0, gf_84_1, gf_84_2, ar_43, al_43, gf_84_3, ar_44, al_44, gf_84_4, ar_45, al_45, gf_84_5, ar_46, al_46, gf_84_6, pf_84_6]
      (repeat' (first | with_reducible apply And.intro | with_reducible intro _)) <;> first | omega | exact sp_sva hG.2 nr hp Ka Kb
    have Kf : ¬ pc n < f → am_Ex 51 15 [some (.inr (.inr (some 84))), some (.inl b), some (.inl f), some (.inl n)] [.inl (pc n)] h Q := by
      intro q
      have K := Kn (fun z => by rw [hf] at q; split at q <;> omega)
      simp only [eq_self, and_self, am_up_at, Int.cast_ofNat_Int, Int.reduceNatCast, true_or, or_true, or_false, false_or, Classical.not_not, false_and, and_false, am_bk, am_step, am_ldI, am_ldL, am_ldA, am_nth, am_sto, am_stw_0, am_stw_i, am_stw_n, am_stw_a, am_stw_l, am_br, am_cmp, am_tk, am_cat, am_sw, am_copy, am_R, am_nc0, am_nc1, am_f0, am_f1, am_f2, am_f3, Int.reduceNeg, Int.reduceEq, Int.reduceLE, Int.reduceLT, Nat.reduceLeDiff, Nat.reduceAdd, Nat.reduceEqDiff, true_and, and_true, ↓reduceIte, if_false, if_true, forall_const, not_true_eq_false, not_false_eq_true, false_implies, true_implies, implies_true, Int.reduceAdd, Int.reduceMul, Int.reduceSub, ne_eq, ca_51_84, bl_51_15, gf_84_0, gf_84_1, gf_84_2, ar_43, al_43, gf_84_3, ar_44, al_44, gf_84_4, ar_45, al_45, gf_84_5, ar_46, al_46, gf_84_6, pf_84_6]
      (repeat' (first | with_reducible apply And.intro | with_reducible intro _)) <;> first | omega | exact K
    have K : am_Ex 51 15 [some (.inr (.inr (some 84))), some (.inl b), some (.inl f), some (.inl n)] [.inl (pc n)] h Q := by
      by_cases c : pc n < f
      · exact Kt c
      · exact Kf c
    rw [bl_51_6]
    simp only [eq_self, and_self, am_up_at, Int.cast_ofNat_Int, Int.reduceNatCast, true_or, or_true, or_false, false_or, Classical.not_not, false_and, and_false, am_bk, am_step, am_ldI, am_ldL, am_ldA, am_nth, am_sto, am_stw_0, am_stw_i, am_stw_n, am_stw_a, am_stw_l, am_br, am_cmp, am_tk, am_cat, am_sw, am_copy, am_R, am_nc0, am_nc1, am_f0, am_f1, am_f2, am_f3, Int.reduceNeg, Int.reduceEq, Int.reduceLE, Int.reduceLT, Nat.reduceLeDiff, Nat.reduceAdd, Nat.reduceEqDiff, true_and, and_true, ↓reduceIte, if_false, if_true, forall_const, not_true_eq_false, not_false_eq_true, false_implies, true_implies, implies_true, Int.reduceAdd, Int.reduceMul, Int.reduceSub, ne_eq, ca_51_84, bl_51_13, gf_84_0, gf_84_1, gf_84_2, ar_43, al_43, gf_84_3, ar_44, al_44, gf_84_4, ar_45, al_45, gf_84_5, ar_46, al_46, gf_84_6, pf_84_6, gf_78_0, pf_78_0, gf_78_1, pf_78_1, gf_78_2, ar_6, al_6, gf_78_3, ar_7, al_7, gf_78_4, ar_8, al_8, gf_78_5, ar_9, al_9, gf_78_6, ar_10, al_10, p1]
    (repeat' (first | with_reducible apply And.intro | with_reducible intro _)) <;> first | omega | exact sp_bitCount nr K
set_option maxHeartbeats 400000 in
set_option maxRecDepth 100000 in
theorem sp_fwp {S : sg_S} {s : Int} {h : am_H} {Q : am_P} (hy : ty_ok h S) (hp : pcs S s (sg_U S) 0 h) (H : ∀ b, fp S s (am_shl 1 (sg_G S)) b → Q (some (.inl b)) h) : am_Call 51 [.inr (.inr (some 84))] h Q := by
  have sh := (bt_full hy.1.2.1).1
  simp only [eq_self, and_self, am_up_at, Int.cast_ofNat_Int, Int.reduceNatCast, true_or, or_true, or_false, false_or, Classical.not_not, false_and, and_false, am_bk, am_step, am_ldI, am_ldL, am_ldA, am_nth, am_sto, am_stw_0, am_stw_i, am_stw_n, am_stw_a, am_stw_l, am_br, am_cmp, am_tk, am_cat, am_sw, am_copy, am_R, am_nc0, am_nc1, am_f0, am_f1, am_f2, am_f3, Int.reduceNeg, Int.reduceEq, Int.reduceLE, Int.reduceLT, Nat.reduceLeDiff, Nat.reduceAdd, Nat.reduceEqDiff, true_and, and_true, ↓reduceIte, if_false, if_true, forall_const, not_true_eq_false, not_false_eq_true, false_implies, true_implies, implies_true, Int.reduceAdd, Int.reduceMul, Int.reduceSub, ne_eq, ca_51_84, bl_51_0, gf_84_0, gf_84_1, gf_84_2, ar_43, al_43, gf_84_3, ar_44, al_44, gf_84_4, ar_45, al_45, gf_84_5, ar_46, al_46, gf_84_6, pf_84_6]
  exact lp_fwp hy hp H (am_shl 1 (sg_G S) - 1).toNat 1 (-9) 9 (by omega) (by omega) (Or.inl ⟨rfl, fun w w1 w2 => by omega⟩) (by rw [if_pos rfl])
