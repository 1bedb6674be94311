/-! the class: tryAll -/
def pO (k r : Int) : Int := (if r = 0 then k / 361 else if r = 1 then k / 19 % 19 else k % 19) - 9
theorem pO_r {k r : Int} (hk : 0 ≤ k ∧ k < 6859) : -9 ≤ pO k r ∧ pO k r ≤ 9 := by
  unfold pO
  (repeat' split) <;> omega
theorem pO_ix {p q s : Int} (hp : -9 ≤ p ∧ p ≤ 9) (hq : -9 ≤ q ∧ q ≤ 9) (hs : -9 ≤ s ∧ s ≤ 9) : pO (361 * (p + 9) + 19 * (q + 9) + (s + 9)) 0 = p ∧ pO (361 * (p + 9) + 19 * (q + 9) + (s + 9)) 1 = q ∧ pO (361 * (p + 9) + 19 * (q + 9) + (s + 9)) 2 = s := by
  unfold pO
  refine ⟨?_, ?_, ?_⟩
  · rw [if_pos rfl]; omega
  · rw [if_neg (by omega), if_pos rfl]; omega
  · rw [if_neg (by omega), if_neg (by omega)]; omega
def lo (F : Int → Prop) (i N r v : Int) : Prop := (-9 ≤ v ∧ v ≤ N) ∧ (∀ k, 0 ≤ k → k < i → F k → v ≤ pO k r) ∧ (v = N ∨ ∃ k, (0 ≤ k ∧ k < i) ∧ F k ∧ pO k r = v)
def hi' (F : Int → Prop) (i N r v : Int) : Prop := (N ≤ v ∧ v ≤ 9) ∧ (∀ k, 0 ≤ k → k < i → F k → pO k r ≤ v) ∧ (v = N ∨ ∃ k, (0 ≤ k ∧ k < i) ∧ F k ∧ pO k r = v)
theorem lo_s {F : Int → Prop} {i N r v : Int} (hi : 0 ≤ i ∧ i < 6859) (h : lo F i N r v) : (F i → lo F (i + 1) N r (if pO i r < v then pO i r else v)) ∧ (¬ F i → lo F (i + 1) N r v) := by
  have pr := pO_r (r := r) hi
  obtain ⟨h1, h2, h3⟩ := h
  refine ⟨fun f => ⟨by split <;> omega, fun k k1 k2 k3 => ?_, ?_⟩, fun f => ⟨h1, fun k k1 k2 k3 => ?_, ?_⟩⟩
  · by_cases c : k = i
    · rw [c]; split <;> omega
    · have := h2 k k1 (by omega) k3
      split <;> omega
  · by_cases c : pO i r < v
    · rw [if_pos c]; exact Or.inr ⟨i, by omega, f, rfl⟩
    · rw [if_neg c]
      rcases h3 with z | ⟨k, k1, k2⟩
      · exact Or.inl z
      · exact Or.inr ⟨k, by omega, k2⟩
  · by_cases c : k = i
    · rw [c] at k3; exact absurd k3 f
    · exact h2 k k1 (by omega) k3
  · rcases h3 with z | ⟨k, k1, k2⟩
    · exact Or.inl z
    · exact Or.inr ⟨k, by omega, k2⟩
theorem hi_s {F : Int → Prop} {i N r v : Int} (hi : 0 ≤ i ∧ i < 6859) (h : hi' F i N r v) : (F i → hi' F (i + 1) N r (if v < pO i r then pO i r else v)) ∧ (¬ F i → hi' F (i + 1) N r v) := by
  have pr := pO_r (r := r) hi
  obtain ⟨h1, h2, h3⟩ := h
  refine ⟨fun f => ⟨by split <;> omega, fun k k1 k2 k3 => ?_, ?_⟩, fun f => ⟨h1, fun k k1 k2 k3 => ?_, ?_⟩⟩
  · by_cases c : k = i
    · rw [c]; split <;> omega
    · have := h2 k k1 (by omega) k3
      split <;> omega
  · by_cases c : v < pO i r
    · rw [if_pos c]; exact Or.inr ⟨i, by omega, f, rfl⟩
    · rw [if_neg c]
      rcases h3 with z | ⟨k, k1, k2⟩
      · exact Or.inl z
      · exact Or.inr ⟨k, by omega, k2⟩
  · by_cases c : k = i
    · rw [c] at k3; exact absurd k3 f
    · exact h2 k k1 (by omega) k3
  · rcases h3 with z | ⟨k, k1, k2⟩
    · exact Or.inl z
    · exact Or.inr ⟨k, by omega, k2⟩
def cst (F : Int → Prop) (i : Int) (h : am_H) : Prop := cn F i.toNat (h 85 4) ∧ ∀ r, 0 ≤ r → r ≤ 2 → lo F i 9 r (h 48 r) ∧ hi' F i (-9) r (h 49 r)
theorem cst_no {F : Int → Prop} {i : Int} {h : am_H} (hi : 0 ≤ i ∧ i < 6859) (hf : ¬ F i) (I : cst F i h) : cst F (i + 1) h :=
  ⟨(cn_s hi.1 I.1).2 hf, fun r r1 r2 => ⟨(lo_s hi (I.2 r r1 r2).1).2 hf, (hi_s hi (I.2 r r1 r2).2).2 hf⟩⟩
theorem cst_nn {F : Int → Prop} {h : am_H} : ∀ (n : Nat) (i : Int), 0 ≤ i → i + n ≤ 6859 → (∀ k, i ≤ k → k < i + n → ¬ F k) → cst F i h → cst F (i + n) h := by
  intro n
  induction n with
  | zero => intro i _ _ _ I; rw [show i + ((0 : Nat) : Int) = i by omega]; exact I
  | succ n ih =>
    intro i i0 i1 hn I
    have := ih (i + 1) (by omega) (by omega) (fun k k1 k2 => hn k (by omega) (by omega)) (cst_no ⟨i0, by omega⟩ (hn i (by omega) (by omega)) I)
    rw [show i + 1 + (n : Int) = i + ((n + 1 : Nat) : Int) by omega] at this
    exact this
set_option maxHeartbeats 400000 in
set_option maxRecDepth 100000 in
theorem sp_widen {r p : Int} {h : am_H} {Q : am_P} (hr : 0 ≤ r ∧ r ≤ 2) (hp : -9 ≤ p ∧ p ≤ 9) (h1 : -9 ≤ h 48 r ∧ h 48 r ≤ 9) (h2 : -9 ≤ h 49 r ∧ h 49 r ≤ 9) (H : ∀ h1, (∀ c, c ≠ 48 → c ≠ 49 → h1 c = h c) → (∀ q, h1 48 q = if q = r then (if p < h 48 r then p else h 48 r) else h 48 q) → (∀ q, h1 49 q = if q = r then (if h 49 r < p then p else h 49 r) else h 49 q) → Q none h1) : am_Call 2 [.inr (.inr (some 85)), .inl r, .inl p] h Q := by
  have go : ∀ v w, v = (if p < h 48 r then p else h 48 r) → w = (if h 49 r < p then p else h 49 r) → Q none (am_up (am_up h 48 r v) 49 r w) := by
    intro v w hv hw
    refine H _ (fun c c1 c2 => by rw [am_up_ne c2, am_up_ne c1]) (fun q => ?_) (fun q => ?_)
    · rw [am_up_ne (by omega), am_up_at, hv]
      simp only [true_and]
    · rw [am_up_at, am_up_ne (by omega), hw]
      simp only [true_and]
  have go2 : ∀ v, v = (if p < h 48 r then p else h 48 r) → am_Ex 2 9 [some (.inr (.inr (some 85))), some (.inl r), some (.inl p)] [.inl v, .inl r, .inr (.inr (some 48))] h Q := by
    intro v hv
    simp only [eq_self, and_self, am_up_at, Int.cast_ofNat_Int, Int.reduceNatCast, true_or, or_true, or_false, false_or, Classical.not_not, false_and, and_false, am_bk, am_step, am_ldI, am_ldL, am_ldA, am_nth, am_sto, am_stw_0, am_stw_i, am_stw_n, am_stw_a, am_stw_l, am_br, am_cmp, am_tk, am_cat, am_sw, am_copy, am_R, am_nc0, am_nc1, am_f0, am_f1, am_f2, am_f3, Int.reduceNeg, Int.reduceEq, Int.reduceLE, Int.reduceLT, Nat.reduceLeDiff, Nat.reduceAdd, Nat.reduceEqDiff, true_and, and_true, ↓reduceIte, if_false, if_true, forall_const, not_true_eq_false, not_false_eq_true, false_implies, true_implies, implies_true, Int.reduceAdd, Int.reduceMul, Int.reduceSub, ne_eq, ca_2_85, bl_2_9, bl_2_19, ca_159, bl_159_0, bl_159_5, bl_159_6, gf_85_0, gf_85_1, ar_47, al_47, gf_85_2, ar_48, al_48, gf_85_3, ar_49, al_49, gf_85_4, pf_85_4]
    (repeat' (first | with_reducible apply And.intro | with_reducible intro _)) <;> first | omega | exact go v _ hv (by split <;> omega)
  simp only [eq_self, and_self, am_up_at, Int.cast_ofNat_Int, Int.reduceNatCast, true_or, or_true, or_false, false_or, Classical.not_not, false_and, and_false, am_bk, am_step, am_ldI, am_ldL, am_ldA, am_nth, am_sto, am_stw_0, am_stw_i, am_stw_n, am_stw_a, am_stw_l, am_br, am_cmp, am_tk, am_cat, am_sw, am_copy, am_R, am_nc0, am_nc1, am_f0, am_f1, am_f2, am_f3, Int.reduceNeg, Int.reduceEq, Int.reduceLE, Int.reduceLT, Nat.reduceLeDiff, Nat.reduceAdd, Nat.reduceEqDiff, true_and, and_true, ↓reduceIte, if_false, if_true, forall_const, not_true_eq_false, not_false_eq_true, false_implies, true_implies, implies_true, Int.reduceAdd, Int.reduceMul, Int.reduceSub, ne_eq, ca_2_85, bl_2_0, ca_160, bl_160_0, bl_160_5, bl_160_6, gf_85_0, gf_85_1, ar_47, al_47, gf_85_2, ar_48, al_48, gf_85_3, ar_49, al_49, gf_85_4, pf_85_4]
  (repeat' (first | with_reducible apply And.intro | with_reducible intro _)) <;> first | omega | exact go2 _ (by split <;> omega)
def fr_g (h h1 : am_H) : Prop := ∀ c, c ≠ 48 → c ≠ 49 → c ≠ 85 → h1 c = h c
theorem dv_mv {h h1 : am_H} (e : h1 47 = h 47) (c d : Int) : dv h1 c d ↔ dv h c d := by unfold dv; rw [e]
set_option maxHeartbeats 400000 in
set_option maxRecDepth 100000 in
theorem lp_ti {F : Int → Prop} {p q : Int} {h0 : am_H} {Q : am_P} (hp : -9 ≤ p ∧ p ≤ 9) (hq : -9 ≤ q ∧ q ≤ 9) (hF : ∀ s, -9 ≤ s → s ≤ 9 → (F (361 * (p + 9) + 19 * (q + 9) + (s + 9)) ↔ (dv h0 2 (p - s) ∧ dv h0 5 (q - s)))) (H : ∀ h1, fr_g h0 h1 → cst F (361 * (p + 9) + 19 * (q + 9) + 19) h1 → Q none h1) :
    ∀ (m : Nat) (s : Int) (h : am_H), -9 ≤ s → s + m = 10 → fr_g h0 h → cst F (361 * (p + 9) + 19 * (q + 9) + (s + 9)) h → am_Ex 1 2 [some (.inr (.inr (some 85))), some (.inl p), some (.inl q), some (.inl s)] [] h Q := by
  intro m
  induction m with
  | zero =>
    intro s h s0 s1 hf I
    have K := H h hf (by rw [show (19 : Int) = s + 9 by omega] at *; exact I)
    rw [bl_1_2]
    simp only [eq_self, and_self, am_up_at, Int.cast_ofNat_Int, Int.reduceNatCast, true_or, or_true, or_false, false_or, Classical.not_not, false_and, and_false, am_bk, am_step, am_ldI, am_ldL, am_ldA, am_nth, am_sto, am_stw_0, am_stw_i, am_stw_n, am_stw_a, am_stw_l, am_br, am_cmp, am_tk, am_cat, am_sw, am_copy, am_R, am_nc0, am_nc1, am_f0, am_f1, am_f2, am_f3, Int.reduceNeg, Int.reduceEq, Int.reduceLE, Int.reduceLT, Nat.reduceLeDiff, Nat.reduceAdd, Nat.reduceEqDiff, true_and, and_true, ↓reduceIte, if_false, if_true, forall_const, not_true_eq_false, not_false_eq_true, false_implies, true_implies, implies_true, Int.reduceAdd, Int.reduceMul, Int.reduceSub, ne_eq, bl_1_41]
    (repeat' (first | with_reducible apply And.intro | with_reducible intro _)) <;> first | omega | exact K
  | succ m ih =>
    intro s h s0 s1 hf I
    have e47 := hf 47 (by omega) (by omega) (by omega)
    have ix := pO_ix hp hq (show -9 ≤ s ∧ s ≤ 9 by omega)
    have hFs := hF s s0 (by omega)
    have nr := cn_r _ _ I.1
    obtain ⟨i, hi⟩ : ∃ i, i = 361 * (p + 9) + 19 * (q + 9) + (s + 9) := ⟨_, rfl⟩
    rw [← hi] at I ix hFs nr
    have ir : 0 ≤ i ∧ i < 6859 := by omega
    have l0 := (I.2 0 (by omega) (by omega))
    have l1 := (I.2 1 (by omega) (by omega))
    have l2 := (I.2 2 (by omega) (by omega))
    have Kn : ¬ F i → am_Ex 1 2 [some (.inr (.inr (some 85))), some (.inl p), some (.inl q), some (.inl (s + 1))] [] h Q := fun z => ih (s + 1) h (by omega) (by omega) hf (by rw [show 361 * (p + 9) + 19 * (q + 9) + (s + 1 + 9) = i + 1 by omega]; exact cst_no ir z I)
    have Ky : F i → am_Ex 1 20 [some (.inr (.inr (some 85))), some (.inl p), some (.inl q), some (.inl s)] [.inl 1] h Q := by
      intro z
      obtain ⟨H', hH⟩ : ∃ H', H' = am_up h 85 4 (h 85 4 + 1) := ⟨_, rfl⟩
      have f48 : H' 48 = h 48 := by rw [hH]; exact am_up_ne (by omega)
      have f49 : H' 49 = h 49 := by rw [hH]; exact am_up_ne (by omega)
      have W : ∀ h1, (∀ c, c ≠ 48 → c ≠ 49 → h1 c = H' c) → (∀ x, h1 48 x = if x = 0 then (if p < H' 48 0 then p else H' 48 0) else H' 48 x) → (∀ x, h1 49 x = if x = 0 then (if H' 49 0 < p then p else H' 49 0) else H' 49 x) → am_Ex 1 31 [some (.inr (.inr (some 85))), some (.inl p), some (.inl q), some (.inl s)] [] h1 Q := by
        intro h1 a1 a2 a3
        rw [f48] at a2
        rw [f49] at a3
        simp only [eq_self, and_self, am_up_at, Int.cast_ofNat_Int, Int.reduceNatCast, true_or, or_true, or_false, false_or, Classical.not_not, false_and, and_false, am_bk, am_step, am_ldI, am_ldL, am_ldA, am_nth, am_sto, am_stw_0, am_stw_i, am_stw_n, am_stw_a, am_stw_l, am_br, am_cmp, am_tk, am_cat, am_sw, am_copy, am_R, am_nc0, am_nc1, am_f0, am_f1, am_f2, am_f3, Int.reduceNeg, Int.reduceEq, Int.reduceLE, Int.reduceLT, Nat.reduceLeDiff, Nat.reduceAdd, Nat.reduceEqDiff, true_and, and_true, ↓reduceIte, if_false, if_true, forall_const, not_true_eq_false, not_false_eq_true, false_implies, true_implies, implies_true, Int.reduceAdd, Int.reduceMul, Int.reduceSub, ne_eq, ca_1_85, bl_1_31, gf_85_0, gf_85_1, ar_47, al_47, gf_85_2, ar_48, al_48, gf_85_3, ar_49, al_49, gf_85_4, pf_85_4]
        refine sp_widen (by omega) hq (by rw [a2, if_neg (by omega)]; exact l1.1.1) (by rw [a3, if_neg (by omega)]; exact l1.2.1) (fun h2 b1 b2 b3 => ?_)
        simp only [eq_self, and_self, am_up_at, Int.cast_ofNat_Int, Int.reduceNatCast, true_or, or_true, or_false, false_or, Classical.not_not, false_and, and_false, am_bk, am_step, am_ldI, am_ldL, am_ldA, am_nth, am_sto, am_stw_0, am_stw_i, am_stw_n, am_stw_a, am_stw_l, am_br, am_cmp, am_tk, am_cat, am_sw, am_copy, am_R, am_nc0, am_nc1, am_f0, am_f1, am_f2, am_f3, Int.reduceNeg, Int.reduceEq, Int.reduceLE, Int.reduceLT, Nat.reduceLeDiff, Nat.reduceAdd, Nat.reduceEqDiff, true_and, and_true, ↓reduceIte, if_false, if_true, forall_const, not_true_eq_false, not_false_eq_true, false_implies, true_implies, implies_true, Int.reduceAdd, Int.reduceMul, Int.reduceSub, ne_eq, ca_1_85, bl_1_35, gf_85_0, gf_85_1, ar_47, al_47, gf_85_2, ar_48, al_48, gf_85_3, ar_49, al_49, gf_85_4, pf_85_4]
        refine sp_widen (by omega) (by omega) (by rw [b2, if_neg (by omega), a2, if_neg (by omega)]; exact l2.1.1) (by rw [b3, if_neg (by omega), a3, if_neg (by omega)]; exact l2.2.1) (fun h3 c1 c2 c3 => ?_)
        have e85 : h3 85 4 = h 85 4 + 1 := by
          rw [c1 85 (by omega) (by omega), b1 85 (by omega) (by omega), a1 85 (by omega) (by omega), hH]
          simp only [eq_self, and_self, am_up_at, am_up_ne, ne_eq, Nat.reduceEqDiff, Int.reduceEq, Int.reduceNeg, not_false_eq_true, false_and, and_false, true_and, and_true, ↓reduceIte, if_false, if_true, Int.reduceAdd, Int.reduceMul, Nat.reduceAdd]
        have K := ih (s + 1) h3 (by omega) (by omega) (fun c d1 d2 d3 => by rw [c1 c d1 d2, b1 c d1 d2, a1 c d1 d2, hH, am_up_ne d3, hf c d1 d2 d3]) (by
          rw [show 361 * (p + 9) + 19 * (q + 9) + (s + 1 + 9) = i + 1 by omega]
          refine ⟨by rw [e85]; exact (cn_s ir.1 I.1).1 z, fun r r1 r2 => ?_⟩
          have : r = 0 ∨ r = 1 ∨ r = 2 := by omega
          rcases this with e | e | e <;> subst e
          · have x1 := (lo_s ir l0.1).1 z
            have x2 := (hi_s ir l0.2).1 z
            rw [ix.1] at x1 x2
            refine ⟨?_, ?_⟩
            · rw [c2 0, if_neg (show ¬ (0 : Int) = 2 by omega), b2 0, if_neg (show ¬ (0 : Int) = 1 by omega), a2 0, if_pos (show (0 : Int) = 0 from rfl)]; exact x1
            · rw [c3 0, if_neg (show ¬ (0 : Int) = 2 by omega), b3 0, if_neg (show ¬ (0 : Int) = 1 by omega), a3 0, if_pos (show (0 : Int) = 0 from rfl)]; exact x2
          · have x1 := (lo_s ir l1.1).1 z
            have x2 := (hi_s ir l1.2).1 z
            rw [ix.2.1] at x1 x2
            refine ⟨?_, ?_⟩
            · rw [c2 1, if_neg (show ¬ (1 : Int) = 2 by omega), b2 1, if_pos (show (1 : Int) = 1 from rfl), a2 1, if_neg (show ¬ (1 : Int) = 0 by omega)]; exact x1
            · rw [c3 1, if_neg (show ¬ (1 : Int) = 2 by omega), b3 1, if_pos (show (1 : Int) = 1 from rfl), a3 1, if_neg (show ¬ (1 : Int) = 0 by omega)]; exact x2
          · have x1 := (lo_s ir l2.1).1 z
            have x2 := (hi_s ir l2.2).1 z
            rw [ix.2.2] at x1 x2
            refine ⟨?_, ?_⟩
            · rw [c2 2, if_pos (show (2 : Int) = 2 from rfl), b2 2, if_neg (show ¬ (2 : Int) = 1 by omega), a2 2, if_neg (show ¬ (2 : Int) = 0 by omega)]; exact x1
            · rw [c3 2, if_pos (show (2 : Int) = 2 from rfl), b3 2, if_neg (show ¬ (2 : Int) = 1 by omega), a3 2, if_neg (show ¬ (2 : Int) = 0 by omega)]; exact x2)
        simp only [eq_self, and_self, am_up_at, Int.cast_ofNat_Int, Int.reduceNatCast, true_or, or_true, or_false, false_or, Classical.not_not, false_and, and_false, am_bk, am_step, am_ldI, am_ldL, am_ldA, am_nth, am_sto, am_stw_0, am_stw_i, am_stw_n, am_stw_a, am_stw_l, am_br, am_cmp, am_tk, am_cat, am_sw, am_copy, am_R, am_nc0, am_nc1, am_f0, am_f1, am_f2, am_f3, Int.reduceNeg, Int.reduceEq, Int.reduceLE, Int.reduceLT, Nat.reduceLeDiff, Nat.reduceAdd, Nat.reduceEqDiff, true_and, and_true, ↓reduceIte, if_false, if_true, forall_const, not_true_eq_false, not_false_eq_true, false_implies, true_implies, implies_true, Int.reduceAdd, Int.reduceMul, Int.reduceSub, ne_eq, ca_1_85, bl_1_39, gf_85_0, gf_85_1, ar_47, al_47, gf_85_2, ar_48, al_48, gf_85_3, ar_49, al_49, gf_85_4, pf_85_4]
        (repeat' (first | with_reducible apply And.intro | with_reducible intro _)) <;> first | omega | exact K
      simp only [eq_self, and_self, am_up_at, Int.cast_ofNat_Int, Int.reduceNatCast, true_or, or_true, or_false, false_or, Classical.not_not, false_and, and_false, am_bk, am_step, am_ldI, am_ldL, am_ldA, am_nth, am_sto, am_stw_0, am_stw_i, am_stw_n, am_stw_a, am_stw_l, am_br, am_cmp, am_tk, am_cat, am_sw, am_copy, am_R, am_nc0, am_nc1, am_f0, am_f1, am_f2, am_f3, Int.reduceNeg, Int.reduceEq, Int.reduceLE, Int.reduceLT, Nat.reduceLeDiff, Nat.reduceAdd, Nat.reduceEqDiff, true_and, and_true, ↓reduceIte, if_false, if_true, forall_const, not_true_eq_false, not_false_eq_true, false_implies, true_implies, implies_true, Int.reduceAdd, Int.reduceMul, Int.reduceSub, ne_eq, ca_1_85, bl_1_20, gf_85_0, gf_85_1, ar_47, al_47, gf_85_2, ar_48, al_48, gf_85_3, ar_49, al_49, gf_85_4, pf_85_4]
      (repeat' (first | with_reducible apply And.intro | with_reducible intro _)) <;> first | omega | (rw [← hH]; exact sp_widen (by omega) hp (by rw [f48]; exact l0.1.1) (by rw [f49]; exact l0.2.1) W)
    have K20 : ¬ F i → am_Ex 1 20 [some (.inr (.inr (some 85))), some (.inl p), some (.inl q), some (.inl s)] [.inl 0] h Q := by
      intro z
      have K := Kn z
      simp only [eq_self, and_self, am_up_at, Int.cast_ofNat_Int, Int.reduceNatCast, true_or, or_true, or_false, false_or, Classical.not_not, false_and, and_false, am_bk, am_step, am_ldI, am_ldL, am_ldA, am_nth, am_sto, am_stw_0, am_stw_i, am_stw_n, am_stw_a, am_stw_l, am_br, am_cmp, am_tk, am_cat, am_sw, am_copy, am_R, am_nc0, am_nc1, am_f0, am_f1, am_f2, am_f3, Int.reduceNeg, Int.reduceEq, Int.reduceLE, Int.reduceLT, Nat.reduceLeDiff, Nat.reduceAdd, Nat.reduceEqDiff, true_and, and_true, ↓reduceIte, if_false, if_true, forall_const, not_true_eq_false, not_false_eq_true, false_implies, true_implies, implies_true, Int.reduceAdd, Int.reduceMul, Int.reduceSub, ne_eq, ca_1_85, bl_1_20, bl_1_39, gf_85_0, gf_85_1, ar_47, al_47, gf_85_2, ar_48, al_48, gf_85_3, ar_49, al_49, gf_85_4, pf_85_4]
      (repeat' (first | with_reducible apply And.intro | with_reducible intro _)) <;> first | omega | exact K
    have K12 : dv h 2 (p - s) → am_Ex 1 12 [some (.inr (.inr (some 85))), some (.inl p), some (.inl q), some (.inl s)] [.inl 1] h Q := by
      intro z
      simp only [eq_self, and_self, am_up_at, Int.cast_ofNat_Int, Int.reduceNatCast, true_or, or_true, or_false, false_or, Classical.not_not, false_and, and_false, am_bk, am_step, am_ldI, am_ldL, am_ldA, am_nth, am_sto, am_stw_0, am_stw_i, am_stw_n, am_stw_a, am_stw_l, am_br, am_cmp, am_tk, am_cat, am_sw, am_copy, am_R, am_nc0, am_nc1, am_f0, am_f1, am_f2, am_f3, Int.reduceNeg, Int.reduceEq, Int.reduceLE, Int.reduceLT, Nat.reduceLeDiff, Nat.reduceAdd, Nat.reduceEqDiff, true_and, and_true, ↓reduceIte, if_false, if_true, forall_const, not_true_eq_false, not_false_eq_true, false_implies, true_implies, implies_true, Int.reduceAdd, Int.reduceMul, Int.reduceSub, ne_eq, ca_1_85, bl_1_12, gf_85_0, gf_85_1, ar_47, al_47, gf_85_2, ar_48, al_48, gf_85_3, ar_49, al_49, gf_85_4, pf_85_4]
      (repeat' (first | with_reducible apply And.intro | with_reducible intro _)) <;> first | omega | exact sp_fits (by omega) (by omega) (by omega) (fun y => Ky (hFs.mpr ⟨(dv_mv e47 _ _).mp z, (dv_mv e47 _ _).mp y⟩)) (fun y => K20 (fun w => y ((dv_mv e47 _ _).mpr (hFs.mp w).2)))
    have K12n : ¬ dv h 2 (p - s) → am_Ex 1 12 [some (.inr (.inr (some 85))), some (.inl p), some (.inl q), some (.inl s)] [.inl 0] h Q := by
      intro z
      have K := Kn (fun w => z ((dv_mv e47 _ _).mpr (hFs.mp w).1))
      simp only [eq_self, and_self, am_up_at, Int.cast_ofNat_Int, Int.reduceNatCast, true_or, or_true, or_false, false_or, Classical.not_not, false_and, and_false, am_bk, am_step, am_ldI, am_ldL, am_ldA, am_nth, am_sto, am_stw_0, am_stw_i, am_stw_n, am_stw_a, am_stw_l, am_br, am_cmp, am_tk, am_cat, am_sw, am_copy, am_R, am_nc0, am_nc1, am_f0, am_f1, am_f2, am_f3, Int.reduceNeg, Int.reduceEq, Int.reduceLE, Int.reduceLT, Nat.reduceLeDiff, Nat.reduceAdd, Nat.reduceEqDiff, true_and, and_true, ↓reduceIte, if_false, if_true, forall_const, not_true_eq_false, not_false_eq_true, false_implies, true_implies, implies_true, Int.reduceAdd, Int.reduceMul, Int.reduceSub, ne_eq, ca_1_85, bl_1_12, bl_1_39, gf_85_0, gf_85_1, ar_47, al_47, gf_85_2, ar_48, al_48, gf_85_3, ar_49, al_49, gf_85_4, pf_85_4]
      (repeat' (first | with_reducible apply And.intro | with_reducible intro _)) <;> first | omega | exact K
    rw [bl_1_2]
    simp only [eq_self, and_self, am_up_at, Int.cast_ofNat_Int, Int.reduceNatCast, true_or, or_true, or_false, false_or, Classical.not_not, false_and, and_false, am_bk, am_step, am_ldI, am_ldL, am_ldA, am_nth, am_sto, am_stw_0, am_stw_i, am_stw_n, am_stw_a, am_stw_l, am_br, am_cmp, am_tk, am_cat, am_sw, am_copy, am_R, am_nc0, am_nc1, am_f0, am_f1, am_f2, am_f3, Int.reduceNeg, Int.reduceEq, Int.reduceLE, Int.reduceLT, Nat.reduceLeDiff, Nat.reduceAdd, Nat.reduceEqDiff, true_and, and_true, ↓reduceIte, if_false, if_true, forall_const, not_true_eq_false, not_false_eq_true, false_implies, true_implies, implies_true, Int.reduceAdd, Int.reduceMul, Int.reduceSub, ne_eq, ca_1_85, bl_1_5, gf_85_0, gf_85_1, ar_47, al_47, gf_85_2, ar_48, al_48, gf_85_3, ar_49, al_49, gf_85_4, pf_85_4]
    (repeat' (first | with_reducible apply And.intro | with_reducible intro _)) <;> first | omega | exact sp_fits (by omega) (by omega) (by omega) K12 K12n
set_option maxHeartbeats 400000 in
set_option maxRecDepth 100000 in
theorem sp_ti {F : Int → Prop} {p q : Int} {h : am_H} {Q : am_P} (hp : -9 ≤ p ∧ p ≤ 9) (hq : -9 ≤ q ∧ q ≤ 9) (hF : ∀ s, -9 ≤ s → s ≤ 9 → (F (361 * (p + 9) + 19 * (q + 9) + (s + 9)) ↔ (dv h 2 (p - s) ∧ dv h 5 (q - s)))) (I : cst F (361 * (p + 9) + 19 * (q + 9)) h) (H : ∀ h1, fr_g h h1 → cst F (361 * (p + 9) + 19 * (q + 9) + 19) h1 → Q none h1) : am_Call 1 [.inr (.inr (some 85)), .inl p, .inl q] h Q := by
  simp only [eq_self, and_self, am_up_at, Int.cast_ofNat_Int, Int.reduceNatCast, true_or, or_true, or_false, false_or, Classical.not_not, false_and, and_false, am_bk, am_step, am_ldI, am_ldL, am_ldA, am_nth, am_sto, am_stw_0, am_stw_i, am_stw_n, am_stw_a, am_stw_l, am_br, am_cmp, am_tk, am_cat, am_sw, am_copy, am_R, am_nc0, am_nc1, am_f0, am_f1, am_f2, am_f3, Int.reduceNeg, Int.reduceEq, Int.reduceLE, Int.reduceLT, Nat.reduceLeDiff, Nat.reduceAdd, Nat.reduceEqDiff, true_and, and_true, ↓reduceIte, if_false, if_true, forall_const, not_true_eq_false, not_false_eq_true, false_implies, true_implies, implies_true, Int.reduceAdd, Int.reduceMul, Int.reduceSub, ne_eq, ca_1_85, bl_1_0, gf_85_0, gf_85_1, ar_47, al_47, gf_85_2, ar_48, al_48, gf_85_3, ar_49, al_49, gf_85_4, pf_85_4]
  exact lp_ti hp hq hF H 19 (-9) h (by omega) (by omega) (fun _ _ _ _ => rfl) (by rw [show 361 * (p + 9) + 19 * (q + 9) + (-9 + 9) = 361 * (p + 9) + 19 * (q + 9) by omega]; exact I)
set_option maxHeartbeats 400000 in
set_option maxRecDepth 100000 in
theorem lp_ta2 {F : Int → Prop} {p : Int} {h0 : am_H} {Q : am_P} (hp : -9 ≤ p ∧ p ≤ 9) (hF : ∀ q s, -9 ≤ q → q ≤ 9 → -9 ≤ s → s ≤ 9 → (F (361 * (p + 9) + 19 * (q + 9) + (s + 9)) ↔ (dv h0 1 (p - q) ∧ dv h0 2 (p - s) ∧ dv h0 5 (q - s)))) (H : ∀ h1, fr_g h0 h1 → cst F (361 * (p + 9) + 361) h1 → am_Ex 0 64 [some (.inr (.inr (some 85))), some (.inr (.inr (some 79))), some (.inl p), some (.inl 10)] [] h1 Q) :
    ∀ (m : Nat) (q : Int) (h : am_H), -9 ≤ q → q + m = 10 → fr_g h0 h → cst F (361 * (p + 9) + 19 * (q + 9)) h → am_Ex 0 47 [some (.inr (.inr (some 85))), some (.inr (.inr (some 79))), some (.inl p), some (.inl q)] [] h Q := by
  intro m
  induction m with
  | zero =>
    intro q h q0 q1 hf I
    have eq : q = 10 := by omega
    subst eq
    have K := H h hf (by rw [show 361 * (p + 9) + 361 = 361 * (p + 9) + 19 * (10 + 9) by omega]; exact I)
    rw [bl_0_47]
    simp only [eq_self, and_self, am_up_at, Int.cast_ofNat_Int, Int.reduceNatCast, true_or, or_true, or_false, false_or, Classical.not_not, false_and, and_false, am_bk, am_step, am_ldI, am_ldL, am_ldA, am_nth, am_sto, am_stw_0, am_stw_i, am_stw_n, am_stw_a, am_stw_l, am_br, am_cmp, am_tk, am_cat, am_sw, am_copy, am_R, am_nc0, am_nc1, am_f0, am_f1, am_f2, am_f3, Int.reduceNeg, Int.reduceEq, Int.reduceLE, Int.reduceLT, Nat.reduceLeDiff, Nat.reduceAdd, Nat.reduceEqDiff, true_and, and_true, ↓reduceIte, if_false, if_true, forall_const, not_true_eq_false, not_false_eq_true, false_implies, true_implies, implies_true, Int.reduceAdd, Int.reduceMul, Int.reduceSub, ne_eq]
    (repeat' (first | with_reducible apply And.intro | with_reducible intro _)) <;> first | omega | exact K
  | succ m ih =>
    intro q h q0 q1 hf I
    have e47 := hf 47 (by omega) (by omega) (by omega)
    have hFq := fun s s0 s1 => hF q s q0 (by omega) s0 s1
    have Kn : ¬ dv h 1 (p - q) → am_Ex 0 57 [some (.inr (.inr (some 85))), some (.inr (.inr (some 79))), some (.inl p), some (.inl q)] [.inl 0] h Q := by
      intro z
      have K := ih (q + 1) h (by omega) (by omega) hf (by
        have c := cst_nn 19 (361 * (p + 9) + 19 * (q + 9)) (by omega) (by omega) (fun k k1 k2 y => by
          have := (hFq (k - (361 * (p + 9) + 19 * (q + 9)) - 9) (by omega) (by omega))
          rw [show 361 * (p + 9) + 19 * (q + 9) + (k - (361 * (p + 9) + 19 * (q + 9)) - 9 + 9) = k by omega] at this
          exact z ((dv_mv e47 _ _).mpr (this.mp y).1)) I
        rw [show 361 * (p + 9) + 19 * (q + 1 + 9) = 361 * (p + 9) + 19 * (q + 9) + ((19 : Nat) : Int) by omega]
        exact c)
      simp only [eq_self, and_self, am_up_at, Int.cast_ofNat_Int, Int.reduceNatCast, true_or, or_true, or_false, false_or, Classical.not_not, false_and, and_false, am_bk, am_step, am_ldI, am_ldL, am_ldA, am_nth, am_sto, am_stw_0, am_stw_i, am_stw_n, am_stw_a, am_stw_l, am_br, am_cmp, am_tk, am_cat, am_sw, am_copy, am_R, am_nc0, am_nc1, am_f0, am_f1, am_f2, am_f3, Int.reduceNeg, Int.reduceEq, Int.reduceLE, Int.reduceLT, Nat.reduceLeDiff, Nat.reduceAdd, Nat.reduceEqDiff, true_and, and_true, ↓reduceIte, if_false, if_true, forall_const, not_true_eq_false, not_false_eq_true, false_implies, true_implies, implies_true, Int.reduceAdd, Int.reduceMul, Int.reduceSub, ne_eq, bl_0_57, bl_0_62]
      (repeat' (first | with_reducible apply And.intro | with_reducible intro _)) <;> first | omega | exact K
    have Ky : dv h 1 (p - q) → am_Ex 0 57 [some (.inr (.inr (some 85))), some (.inr (.inr (some 79))), some (.inl p), some (.inl q)] [.inl 1] h Q := by
      intro z
      have W : ∀ h1, fr_g h h1 → cst F (361 * (p + 9) + 19 * (q + 9) + 19) h1 → am_Ex 0 62 [some (.inr (.inr (some 85))), some (.inr (.inr (some 79))), some (.inl p), some (.inl q)] [] h1 Q := by
        intro h1 f1 I1
        have K := ih (q + 1) h1 (by omega) (by omega) (fun c d1 d2 d3 => (f1 c d1 d2 d3).trans (hf c d1 d2 d3)) (by rw [show 361 * (p + 9) + 19 * (q + 1 + 9) = 361 * (p + 9) + 19 * (q + 9) + 19 by omega]; exact I1)
        simp only [eq_self, and_self, am_up_at, Int.cast_ofNat_Int, Int.reduceNatCast, true_or, or_true, or_false, false_or, Classical.not_not, false_and, and_false, am_bk, am_step, am_ldI, am_ldL, am_ldA, am_nth, am_sto, am_stw_0, am_stw_i, am_stw_n, am_stw_a, am_stw_l, am_br, am_cmp, am_tk, am_cat, am_sw, am_copy, am_R, am_nc0, am_nc1, am_f0, am_f1, am_f2, am_f3, Int.reduceNeg, Int.reduceEq, Int.reduceLE, Int.reduceLT, Nat.reduceLeDiff, Nat.reduceAdd, Nat.reduceEqDiff, true_and, and_true, ↓reduceIte, if_false, if_true, forall_const, not_true_eq_false, not_false_eq_true, false_implies, true_implies, implies_true, Int.reduceAdd, Int.reduceMul, Int.reduceSub, ne_eq, bl_0_62]
        (repeat' (first | with_reducible apply And.intro | with_reducible intro _)) <;> first | omega | exact K
      have hT : ∀ s, -9 ≤ s → s ≤ 9 → (F (361 * (p + 9) + 19 * (q + 9) + (s + 9)) ↔ (dv h 2 (p - s) ∧ dv h 5 (q - s))) := by
        intro s s0 s1
        rw [hFq s s0 s1, dv_mv e47, dv_mv e47]
        exact ⟨fun y => y.2, fun y => ⟨(dv_mv e47 _ _).mp z, y⟩⟩
      have hq : -9 ≤ q ∧ q ≤ 9 := by omega
      simp only [eq_self, and_self, am_up_at, Int.cast_ofNat_Int, Int.reduceNatCast, true_or, or_true, or_false, false_or, Classical.not_not, false_and, and_false, am_bk, am_step, am_ldI, am_ldL, am_ldA, am_nth, am_sto, am_stw_0, am_stw_i, am_stw_n, am_stw_a, am_stw_l, am_br, am_cmp, am_tk, am_cat, am_sw, am_copy, am_R, am_nc0, am_nc1, am_f0, am_f1, am_f2, am_f3, Int.reduceNeg, Int.reduceEq, Int.reduceLE, Int.reduceLT, Nat.reduceLeDiff, Nat.reduceAdd, Nat.reduceEqDiff, true_and, and_true, ↓reduceIte, if_false, if_true, forall_const, not_true_eq_false, not_false_eq_true, false_implies, true_implies, implies_true, Int.reduceAdd, Int.reduceMul, Int.reduceSub, ne_eq, bl_0_57]
      (repeat' (first | with_reducible apply And.intro | with_reducible intro _)) <;> first | omega | exact sp_ti hp hq hT I W
    rw [bl_0_47]
    simp only [eq_self, and_self, am_up_at, Int.cast_ofNat_Int, Int.reduceNatCast, true_or, or_true, or_false, false_or, Classical.not_not, false_and, and_false, am_bk, am_step, am_ldI, am_ldL, am_ldA, am_nth, am_sto, am_stw_0, am_stw_i, am_stw_n, am_stw_a, am_stw_l, am_br, am_cmp, am_tk, am_cat, am_sw, am_copy, am_R, am_nc0, am_nc1, am_f0, am_f1, am_f2, am_f3, Int.reduceNeg, Int.reduceEq, Int.reduceLE, Int.reduceLT, Nat.reduceLeDiff, Nat.reduceAdd, Nat.reduceEqDiff, true_and, and_true, ↓reduceIte, if_false, if_true, forall_const, not_true_eq_false, not_false_eq_true, false_implies, true_implies, implies_true, Int.reduceAdd, Int.reduceMul, Int.reduceSub, ne_eq, bl_0_50]
    (repeat' (first | with_reducible apply And.intro | with_reducible intro _)) <;> first | omega | exact sp_fits (by omega) (by omega) (by omega) Ky Kn
set_option maxHeartbeats 400000 in
set_option maxRecDepth 100000 in
theorem lp_ta1 {F : Int → Prop} {h0 : am_H} {Q : am_P} (hF : ∀ p q s, -9 ≤ p → p ≤ 9 → -9 ≤ q → q ≤ 9 → -9 ≤ s → s ≤ 9 → (F (361 * (p + 9) + 19 * (q + 9) + (s + 9)) ↔ (dv h0 1 (p - q) ∧ dv h0 2 (p - s) ∧ dv h0 5 (q - s)))) (H : ∀ h1, fr_g h0 h1 → cst F 6859 h1 → Q none h1) :
    ∀ (m : Nat) (p : Int) (h : am_H), -9 ≤ p → p + m = 10 → fr_g h0 h → cst F (361 * (p + 9)) h → am_Ex 0 42 [some (.inr (.inr (some 85))), some (.inr (.inr (some 79))), some (.inl p), none] [] h Q := by
  intro m
  induction m with
  | zero =>
    intro p h p0 p1 hf I
    have K := H h hf (by rw [show (6859 : Int) = 361 * (p + 9) by omega]; exact I)
    rw [bl_0_42]
    simp only [eq_self, and_self, am_up_at, Int.cast_ofNat_Int, Int.reduceNatCast, true_or, or_true, or_false, false_or, Classical.not_not, false_and, and_false, am_bk, am_step, am_ldI, am_ldL, am_ldA, am_nth, am_sto, am_stw_0, am_stw_i, am_stw_n, am_stw_a, am_stw_l, am_br, am_cmp, am_tk, am_cat, am_sw, am_copy, am_R, am_nc0, am_nc1, am_f0, am_f1, am_f2, am_f3, Int.reduceNeg, Int.reduceEq, Int.reduceLE, Int.reduceLT, Nat.reduceLeDiff, Nat.reduceAdd, Nat.reduceEqDiff, true_and, and_true, ↓reduceIte, if_false, if_true, forall_const, not_true_eq_false, not_false_eq_true, false_implies, true_implies, implies_true, Int.reduceAdd, Int.reduceMul, Int.reduceSub, ne_eq, bl_0_66]
    (repeat' (first | with_reducible apply And.intro | with_reducible intro _)) <;> first | omega | exact K
  | succ m ih =>
    intro p h p0 p1 hf I
    have e47 := hf 47 (by omega) (by omega) (by omega)
    have K := lp_ta2 (F := F) (Q := Q) (h0 := h) (show -9 ≤ p ∧ p ≤ 9 by omega) (fun q s q0 q1 s0 s1 => by rw [hF p q s p0 (by omega) q0 q1 s0 s1, dv_mv e47, dv_mv e47, dv_mv e47]) (fun h1 f1 I1 => by
      have K := ih (p + 1) h1 (by omega) (by omega) (fun c d1 d2 d3 => (f1 c d1 d2 d3).trans (hf c d1 d2 d3)) (by rw [show 361 * (p + 1 + 9) = 361 * (p + 9) + 361 by omega]; exact I1)
      simp only [eq_self, and_self, am_up_at, Int.cast_ofNat_Int, Int.reduceNatCast, true_or, or_true, or_false, false_or, Classical.not_not, false_and, and_false, am_bk, am_step, am_ldI, am_ldL, am_ldA, am_nth, am_sto, am_stw_0, am_stw_i, am_stw_n, am_stw_a, am_stw_l, am_br, am_cmp, am_tk, am_cat, am_sw, am_copy, am_R, am_nc0, am_nc1, am_f0, am_f1, am_f2, am_f3, Int.reduceNeg, Int.reduceEq, Int.reduceLE, Int.reduceLT, Nat.reduceLeDiff, Nat.reduceAdd, Nat.reduceEqDiff, true_and, and_true, ↓reduceIte, if_false, if_true, forall_const, not_true_eq_false, not_false_eq_true, false_implies, true_implies, implies_true, Int.reduceAdd, Int.reduceMul, Int.reduceSub, ne_eq, bl_0_64]
      (repeat' (first | with_reducible apply And.intro | with_reducible intro _)) <;> first | omega | exact am_forget K (by simp [am_lq])) 19 (-9) h (by omega) (by omega) (fun _ _ _ _ => rfl) (by rw [show 361 * (p + 9) + 19 * (-9 + 9) = 361 * (p + 9) by omega]; exact I)
    rw [bl_0_42]
    simp only [eq_self, and_self, am_up_at, Int.cast_ofNat_Int, Int.reduceNatCast, true_or, or_true, or_false, false_or, Classical.not_not, false_and, and_false, am_bk, am_step, am_ldI, am_ldL, am_ldA, am_nth, am_sto, am_stw_0, am_stw_i, am_stw_n, am_stw_a, am_stw_l, am_br, am_cmp, am_tk, am_cat, am_sw, am_copy, am_R, am_nc0, am_nc1, am_f0, am_f1, am_f2, am_f3, Int.reduceNeg, Int.reduceEq, Int.reduceLE, Int.reduceLT, Nat.reduceLeDiff, Nat.reduceAdd, Nat.reduceEqDiff, true_and, and_true, ↓reduceIte, if_false, if_true, forall_const, not_true_eq_false, not_false_eq_true, false_implies, true_implies, implies_true, Int.reduceAdd, Int.reduceMul, Int.reduceSub, ne_eq, bl_0_45]
    (repeat' (first | with_reducible apply And.intro | with_reducible intro _)) <;> first | omega | exact K
set_option maxHeartbeats 400000 in
set_option maxRecDepth 100000 in
theorem lp_ta0 {S : sg_S} {n : Int} {A B T : Int → Int} {h0 : am_H} {Q : am_P} (hS : sg_ok S) (hP : pl_ok h0 S) (hs : se_ok S n A B T) (hn : h0 79 6 = n) (hm : ∀ i, 0 ≤ i → i < n → h0 14 i = A i ∧ h0 15 i = B i ∧ h0 16 i = T i) (H : ∀ h1 i, (∀ c, c ≠ 47 → h1 c = h0 c) → dI S A B T n h1 → am_Ex 0 29 [some (.inr (.inr (some 85))), some (.inr (.inr (some 79))), some (.inl i), none] [] h1 Q) :
    ∀ (m : Nat) (i : Int) (h : am_H), 0 ≤ i → i + m = n → (∀ c, c ≠ 47 → h c = h0 c) → dI S A B T i h → am_Ex 0 6 [some (.inr (.inr (some 85))), some (.inr (.inr (some 79))), some (.inl i), none] [] h Q := by
  intro m
  have nr := hs.1
  have G := hS.2.1
  induction m with
  | zero =>
    intro i h i0 i1 hf I
    have e79 : h 79 6 = n := by rw [hf 79 (by omega)]; exact hn
    have K := H h i hf (by rw [show n = i by omega]; exact I)
    rw [bl_0_6]
    simp only [eq_self, and_self, am_up_at, Int.cast_ofNat_Int, Int.reduceNatCast, true_or, or_true, or_false, false_or, Classical.not_not, false_and, and_false, am_bk, am_step, am_ldI, am_ldL, am_ldA, am_nth, am_sto, am_stw_0, am_stw_i, am_stw_n, am_stw_a, am_stw_l, am_br, am_cmp, am_tk, am_cat, am_sw, am_copy, am_R, am_nc0, am_nc1, am_f0, am_f1, am_f2, am_f3, Int.reduceNeg, Int.reduceEq, Int.reduceLE, Int.reduceLT, Nat.reduceLeDiff, Nat.reduceAdd, Nat.reduceEqDiff, true_and, and_true, ↓reduceIte, if_false, if_true, forall_const, not_true_eq_false, not_false_eq_true, false_implies, true_implies, implies_true, Int.reduceAdd, Int.reduceMul, Int.reduceSub, ne_eq, gf_85_0, gf_85_1, ar_47, al_47, gf_85_2, ar_48, al_48, gf_85_3, ar_49, al_49, gf_85_4, pf_85_4, gf_79_0, ar_11, al_11, gf_79_1, ar_12, al_12, gf_79_2, ar_13, al_13, gf_79_3, ar_14, al_14, gf_79_4, ar_15, al_15, gf_79_5, ar_16, al_16, gf_79_6, pf_79_6, gf_79_7, pf_79_7, e79]
    (repeat' (first | with_reducible apply And.intro | with_reducible intro _)) <;> first | omega | exact K
  | succ m ih =>
    intro i h i0 i1 hf I
    have e79 : h 79 6 = n := by rw [hf 79 (by omega)]; exact hn
    have mi := hm i i0 (by omega)
    have e14 : h 14 i = A i := by rw [hf 14 (by omega)]; exact mi.1
    have e15 : h 15 i = B i := by rw [hf 15 (by omega)]; exact mi.2.1
    have e16 : h 16 i = T i := by rw [hf 16 (by omega)]; exact mi.2.2
    have s := hs.2 i i0 (by omega)
    have hP1 := pl_ok_mv hP (fun c hc => hf c (by omega))
    have W : ∀ h1, (∀ c, c ≠ 47 → h1 c = h c) → (∀ c e, -18 ≤ e → e ≤ 18 → (dv h1 c e ↔ (dv h c e ∧ (c = 3 * sg_ri S (oa S (A i) (B i)) + sg_ri S (ob S (A i) (B i)) → zr S (oa S (A i) (B i)) (ob S (A i) (B i)) e (T i))))) → am_Ex 0 27 [some (.inr (.inr (some 85))), some (.inr (.inr (some 79))), some (.inl i), none] [] h1 Q := by
      intro h1 f1 J
      have K := ih (i + 1) h1 (by omega) (by omega) (fun c hc => (f1 c hc).trans (hf c hc)) (fun c e c0 c1 e0 e1 => by
        rw [J c e e0 e1, I c e c0 c1 e0 e1]
        constructor
        · intro z j j0 j1 q
          by_cases cj : j = i
          · rw [cj] at q ⊢; exact z.2 q
          · exact z.1 j j0 (by omega) q
        · intro z
          exact ⟨fun j j0 j1 q => z j j0 (by omega) q, fun q => z i i0 (by omega) q⟩)
      simp only [eq_self, and_self, am_up_at, Int.cast_ofNat_Int, Int.reduceNatCast, true_or, or_true, or_false, false_or, Classical.not_not, false_and, and_false, am_bk, am_step, am_ldI, am_ldL, am_ldA, am_nth, am_sto, am_stw_0, am_stw_i, am_stw_n, am_stw_a, am_stw_l, am_br, am_cmp, am_tk, am_cat, am_sw, am_copy, am_R, am_nc0, am_nc1, am_f0, am_f1, am_f2, am_f3, Int.reduceNeg, Int.reduceEq, Int.reduceLE, Int.reduceLT, Nat.reduceLeDiff, Nat.reduceAdd, Nat.reduceEqDiff, true_and, and_true, ↓reduceIte, if_false, if_true, forall_const, not_true_eq_false, not_false_eq_true, false_implies, true_implies, implies_true, Int.reduceAdd, Int.reduceMul, Int.reduceSub, ne_eq, bl_0_27]
      (repeat' (first | with_reducible apply And.intro | with_reducible intro _)) <;> first | omega | exact K
    rw [bl_0_6]
    simp only [eq_self, and_self, am_up_at, Int.cast_ofNat_Int, Int.reduceNatCast, true_or, or_true, or_false, false_or, Classical.not_not, false_and, and_false, am_bk, am_step, am_ldI, am_ldL, am_ldA, am_nth, am_sto, am_stw_0, am_stw_i, am_stw_n, am_stw_a, am_stw_l, am_br, am_cmp, am_tk, am_cat, am_sw, am_copy, am_R, am_nc0, am_nc1, am_f0, am_f1, am_f2, am_f3, Int.reduceNeg, Int.reduceEq, Int.reduceLE, Int.reduceLT, Nat.reduceLeDiff, Nat.reduceAdd, Nat.reduceEqDiff, true_and, and_true, ↓reduceIte, if_false, if_true, forall_const, not_true_eq_false, not_false_eq_true, false_implies, true_implies, implies_true, Int.reduceAdd, Int.reduceMul, Int.reduceSub, ne_eq, ca_0_85, bl_0_10, bl_0_22, gf_85_0, gf_85_1, ar_47, al_47, gf_85_2, ar_48, al_48, gf_85_3, ar_49, al_49, gf_85_4, pf_85_4, gf_79_0, ar_11, al_11, gf_79_1, ar_12, al_12, gf_79_2, ar_13, al_13, gf_79_3, ar_14, al_14, gf_79_4, ar_15, al_15, gf_79_5, ar_16, al_16, gf_79_6, pf_79_6, gf_79_7, pf_79_7, e79, e14, e15, e16]
    (repeat' (first | with_reducible apply And.intro | with_reducible intro _)) <;> first | omega | exact sp_ro hS hP1 s.1 s.2.1 s.2.2.1 W
set_option maxHeartbeats 400000 in
set_option maxRecDepth 100000 in
theorem lp_fillL {n : Int} {v : Int64} {h0 : am_H} {Q : am_P} (hn : n = 9) (H : ∀ h1, (∀ c', c' ≠ 47 → h1 c' = h0 c') → (∀ j, 0 ≤ j → j < n → h1 47 j = v.toInt) → Q none h1) :
    ∀ (m : Nat) (i : Int) (h : am_H), 0 ≤ i → i + m = n → (∀ c', c' ≠ 47 → h c' = h0 c') → (∀ j, 0 ≤ j → j < i → h 47 j = v.toInt) → am_Ex 161 5 [some (.inr (.inr (some 47))), some (.inr (.inl v)), none, some (.inl i), some (.inl n)] [] h Q := by
  intro m
  induction m with
  | zero =>
    intro i h i0 i1 e1 e2
    rw [bl_161_5]
    simp only [eq_self, and_self, am_up_at, Int.cast_ofNat_Int, Int.reduceNatCast, true_or, or_true, or_false, false_or, Classical.not_not, false_and, and_false, am_bk, am_step, am_ldI, am_ldL, am_ldA, am_nth, am_sto, am_stw_0, am_stw_i, am_stw_n, am_stw_a, am_stw_l, am_br, am_cmp, am_tk, am_cat, am_sw, am_copy, am_R, am_nc0, am_nc1, am_f0, am_f1, am_f2, am_f3, Int.reduceNeg, Int.reduceEq, Int.reduceLE, Int.reduceLT, Nat.reduceLeDiff, Nat.reduceAdd, Nat.reduceEqDiff, true_and, and_true, ↓reduceIte, if_false, if_true, forall_const, not_true_eq_false, not_false_eq_true, false_implies, true_implies, implies_true, Int.reduceAdd, Int.reduceMul, Int.reduceSub, ne_eq, ca_161, bl_161_14]
    have := H h e1 (fun j j1 j2 => e2 j j1 (by omega))
    (repeat' (first | with_reducible apply And.intro | with_reducible intro _)) <;> first | omega | exact this
  | succ m ih =>
    intro i h i0 i1 e1 e2
    have K := ih (i + 1) (am_up h 47 i v.toInt) (by omega) (by omega) (fun c' hc => by rw [am_up_ne hc]; exact e1 c' hc) (fun j j1 j2 => by
      simp only [eq_self, and_self, am_up_at, am_up_ne, ne_eq, Nat.reduceEqDiff, Int.reduceEq, Int.reduceNeg, not_false_eq_true, false_and, and_false, true_and, and_true, ↓reduceIte, if_false, if_true, Int.reduceAdd, Int.reduceMul, Nat.reduceAdd]
      split
      · rfl
      · exact e2 j j1 (by omega))
    rw [bl_161_5]
    simp only [eq_self, and_self, am_up_at, Int.cast_ofNat_Int, Int.reduceNatCast, true_or, or_true, or_false, false_or, Classical.not_not, false_and, and_false, am_bk, am_step, am_ldI, am_ldL, am_ldA, am_nth, am_sto, am_stw_0, am_stw_i, am_stw_n, am_stw_a, am_stw_l, am_br, am_cmp, am_tk, am_cat, am_sw, am_copy, am_R, am_nc0, am_nc1, am_f0, am_f1, am_f2, am_f3, Int.reduceNeg, Int.reduceEq, Int.reduceLE, Int.reduceLT, Nat.reduceLeDiff, Nat.reduceAdd, Nat.reduceEqDiff, true_and, and_true, ↓reduceIte, if_false, if_true, forall_const, not_true_eq_false, not_false_eq_true, false_implies, true_implies, implies_true, Int.reduceAdd, Int.reduceMul, Int.reduceSub, ne_eq, ca_161, bl_161_8, gf_85_0, gf_85_1, ar_47, al_47, gf_85_2, ar_48, al_48, gf_85_3, ar_49, al_49, gf_85_4, pf_85_4]
    (repeat' (first | with_reducible apply And.intro | with_reducible intro _)) <;> first | omega | exact K
