/-! a brake tried -/
def sb (S : sg_S) (r s d : Int) : sg_S := (sg_U S, sg_G S, sg_ri S, sg_rm S, sg_pl S, sg_kd S, sg_pc S, fun q => if q = r then s else sg_fr S q, fun q => if q = r then d else sg_la S q)
theorem sb_ok {S : sg_S} {r s d : Int} (hS : sg_ok S) (hs : 0 ≤ s ∧ s ≤ 352) (hd : 1 ≤ d ∧ d ≤ 99) : sg_ok (sb S r s d) := by
  refine ⟨hS.1, hS.2.1, hS.2.2.1, fun q q1 q2 => ?_⟩
  have := hS.2.2.2 q q1 q2
  refine ⟨this.1, ?_, ?_⟩
  · show 0 ≤ (if q = r then s else sg_fr S q) ∧ (if q = r then s else sg_fr S q) ≤ 400
    split <;> omega
  · show 0 ≤ (if q = r then d else sg_la S q) ∧ (if q = r then d else sg_la S q) ≤ 99
    split <;> omega
theorem sb_fit {S : sg_S} {r s d : Int} (hF : tb_fit S) (hs : 0 ≤ s ∧ s ≤ 352) (hd : 1 ≤ d ∧ d ≤ 99) : tb_fit (sb S r s d) := by
  intro q q1 q2
  have := hF q q1 q2
  show (if q = r then s else sg_fr S q) + (if q = r then d else sg_la S q) ≤ 451
  split <;> omega
theorem sbr_at {S : sg_S} {r s s' d g q : Int} (h1 : q ≤ s) (h2 : s ≤ s') : sg_at (sb S r s d) g q = sg_at (sb S r s' d) g q := by
  have e : sg_tn (if sg_ri S g = r then s else sg_fr S (sg_ri S g)) (if sg_ri S g = r then d else sg_la S (sg_ri S g)) q = sg_tn (if sg_ri S g = r then s' else sg_fr S (sg_ri S g)) (if sg_ri S g = r then d else sg_la S (sg_ri S g)) q := by
    by_cases c : sg_ri S g = r
    · rw [if_pos c, if_pos c, if_pos c]
      unfold sg_tn
      rw [if_pos h1, if_pos (show q ≤ s' by omega)]
    · rw [if_neg c, if_neg c, if_neg c]
  show sg_by S g (sg_tn (if sg_ri S g = r then s else sg_fr S (sg_ri S g)) (if sg_ri S g = r then d else sg_la S (sg_ri S g)) q) q = sg_by S g (sg_tn (if sg_ri S g = r then s' else sg_fr S (sg_ri S g)) (if sg_ri S g = r then d else sg_la S (sg_ri S g)) q) q
  rw [e]
/-- the two are the same up to second s -/
def ag (S T : sg_S) (s : Int) : Prop := sg_G S = sg_G T ∧ (∀ g, sg_ri S g = sg_ri T g) ∧ (∀ a b, wk S a b = wk T a b) ∧ ∀ x y q, q ≤ s → (sg_opn S x y q ↔ sg_opn T x y q)
theorem ag_sb {S : sg_S} {r s s' d : Int} (h : s ≤ s') : ag (sb S r s d) (sb S r s' d) s := by
  refine ⟨rfl, fun _ => rfl, fun _ _ => rfl, fun x y q hq => ?_⟩
  show (sg_bes S x y ∧ sg_opt S x y (sg_at (sb S r s d) x q) (sg_at (sb S r s d) y q) q) ↔ (sg_bes S x y ∧ sg_opt S x y (sg_at (sb S r s' d) x q) (sg_at (sb S r s' d) y q) q)
  rw [sbr_at (g := x) hq h, sbr_at (g := y) hq h]
theorem ag_s {S T : sg_S} {s : Int} (h : ag S T s) : ag T S s := ⟨h.1.symm, fun g => (h.2.1 g).symm, fun a b => (h.2.2.1 a b).symm, fun x y q hq => (h.2.2.2 x y q hq).symm⟩
theorem ag_stp {S T : sg_S} {s g u b v : Int} (h : ag S T s) (hv : v ≤ s) (hs : stp S g u b v) : stp T g u b v := by
  rcases hs with ⟨a1, a2⟩ | ⟨a1, a2, a3, a4, a5⟩
  · exact Or.inl ⟨by rw [← h.2.1, ← h.2.1]; exact a1, by rw [← h.2.2.1]; exact a2⟩
  · exact Or.inr ⟨by rw [← h.2.1, ← h.2.1]; exact a1, a2, a3, (h.2.2.2 _ _ _ (by omega)).mp a4, fun q q1 q2 z => a5 q q1 q2 ((h.2.2.2 _ _ _ (by omega)).mpr z)⟩
theorem ag_wyn {S T : sg_S} {s a t : Int} (h : ag S T s) (hS : sg_ok S) (ha : 0 ≤ a ∧ a < sg_G S) : ∀ (n : Nat) (b v : Int), v ≤ s → wyn S a t n b v → wyn T a t n b v := by
  intro n
  induction n with
  | zero => intro b v _ w; exact w
  | succ n ih =>
    intro b v hv w
    obtain ⟨g, s', w1, w2, w3⟩ := w
    have := stp_r hS (wyn_g ha n g s' w1) w2 w3
    exact ⟨g, s', ih g s' (by omega) w1, by rw [← h.1]; exact w2, ag_stp h hv w3⟩
theorem ag_sn {S T : sg_S} {s a t b v : Int} (h : ag S T s) (hS : sg_ok S) (hT : sg_ok T) (ha : 0 ≤ a ∧ a < sg_G S) (hv : v ≤ s) (hs : sn S a t b v) : sn T a t b v := by
  obtain ⟨h1, ⟨n, h2⟩, h3⟩ := hs
  refine ⟨h1, ⟨n, ag_wyn h hS ha n b v hv h2⟩, fun w ⟨m, hw⟩ => ?_⟩
  by_cases c : v ≤ w
  · exact c
  · exact h3 w ⟨m, ag_wyn (ag_s h) hT (by rw [← h.1]; exact ha) m b w (by omega) hw⟩
/-- the best of the seconds before n -/
def bb (N : Int) (S : sg_S) (r d a t b n be st : Int) : Prop := (be = N ∧ st = -9 ∧ ∀ s, t ≤ s → s < n → nv (sb S r s d) a t b) ∨ ((t ≤ st ∧ st < n) ∧ (t ≤ be ∧ be ≤ t + 4040) ∧ sn (sb S r st d) a t b be ∧ (∀ s v, t ≤ s → s < n → sn (sb S r s d) a t b v → be ≤ v) ∧ ∀ s v, t ≤ s → s < st → sn (sb S r s d) a t b v → be < v)
theorem bb_one {N M : Int} {S : sg_S} {r d a t b n be st be' st' : Int} (h1 : bb N S r d a t b n be st) (h2 : bb M S r d a t b n be' st') : st = st' := by
  rcases h1 with ⟨a1, a2, a3⟩ | ⟨a1, a2, a3, a4, a5⟩ <;> rcases h2 with ⟨b1, b2, b3⟩ | ⟨b1, b2, b3, b4, b5⟩
  · omega
  · exact absurd b3.2.1 (a3 st' b1.1 b1.2 be')
  · exact absurd a3.2.1 (b3 st a1.1 a1.2 be)
  · have l1 := a4 st' be' b1.1 b1.2 b3
    have l2 := b4 st be a1.1 a1.2 a3
    rcases Int.lt_trichotomy st st' with z | z | z
    · have := b5 st be a1.1 z a3; omega
    · exact z
    · have := a5 st' be' b1.1 z b3; omega
theorem bb_s {N : Int} {S : sg_S} {r d a t b n be st v : Int} (hN : 90000 ≤ N) (ht : 0 ≤ t ∧ t ≤ 50000) (hn : t ≤ n) (h : bb N S r d a t b n be st) (hv : ar_is N (sb S r n d) a t b v) : (v < be → bb N S r d a t b (n + 1) v n) ∧ (¬ v < be → bb N S r d a t b (n + 1) be st) := by
  rcases h with ⟨a1, a2, a3⟩ | ⟨a1, a2, a3, a4, a5⟩ <;> rcases ar_sn hN ht.2 hv with ⟨v1, v2⟩ | ⟨v1, v2⟩
  · refine ⟨fun _ => Or.inr ⟨by omega, v2.1, v2, fun s w s1 s2 sw => ?_, fun s w s1 s2 sw => absurd sw.2.1 (a3 s s1 s2 w)⟩, fun q => by omega⟩
    by_cases e : s = n
    · rw [e] at sw; have := sn_one v2 sw; omega
    · exact absurd sw.2.1 (a3 s s1 (by omega) w)
  · refine ⟨fun _ => by omega, fun _ => Or.inl ⟨a1, a2, fun s s1 s2 => ?_⟩⟩
    by_cases e : s = n
    · rw [e]; exact v2
    · exact a3 s s1 (by omega)
  · refine ⟨fun q => Or.inr ⟨by omega, v2.1, v2, fun s w s1 s2 sw => ?_, fun s w s1 s2 sw => by have := a4 s w s1 s2 sw; omega⟩, fun q => Or.inr ⟨by omega, a2, a3, fun s w s1 s2 sw => ?_, a5⟩⟩
    · by_cases e : s = n
      · rw [e] at sw; have := sn_one v2 sw; omega
      · have := a4 s w s1 (by omega) sw; omega
    · by_cases e : s = n
      · rw [e] at sw; have := sn_one v2 sw; omega
      · exact a4 s w s1 (by omega) sw
  · refine ⟨fun q => by omega, fun q => Or.inr ⟨by omega, a2, a3, fun s w s1 s2 sw => ?_, a5⟩⟩
    by_cases e : s = n
    · rw [e] at sw; exact absurd sw.2.1 (v2 w)
    · exact a4 s w s1 (by omega) sw
theorem bb_brk {N : Int} {S : sg_S} {r d a t b n be st v m : Int} (hS : sg_ok S) (hd : 1 ≤ d ∧ d ≤ 99) (ha : 0 ≤ a ∧ a < sg_G S) (hN : 90000 ≤ N) (ht : 0 ≤ t ∧ t ≤ 299) (hn : t ≤ n) (h : bb N S r d a t b (n + 1) be st) (hv : ar_is N (sb S r n d) a t b v) (hvn : v ≤ n) (hm : n + 1 ≤ m ∧ m ≤ 353) : bb N S r d a t b m be st := by
  have vs : sn (sb S r n d) a t b v := by
    rcases ar_sn hN (by omega) hv with q | q
    · exact q.2
    · omega
  rcases h with ⟨a1, a2, a3⟩ | ⟨a1, a2, a3, a4, a5⟩
  · exact absurd vs.2.1 (a3 n hn (by omega) v)
  · refine Or.inr ⟨by omega, a2, a3, fun s w s1 s2 sw => ?_, a5⟩
    by_cases c : s < n + 1
    · exact a4 s w s1 c sw
    · have o := ag_sn (ag_sb (S := S) (r := r) (d := d) (show n ≤ s by omega)) (sb_ok hS (by omega) hd) (sb_ok hS (by omega) hd) ha hvn vs
      have := sn_one o sw
      have := a4 n v hn (by omega) vs
      omega
/-- what trying leaves -/
def bx (h h1 : am_H) : Prop := ∀ c, c < 17 ∨ 22 < c → c ≠ 35 → c ≠ 42 → c ≠ 43 → c ≠ 44 → c ≠ 80 → c ≠ 83 → h1 c = h c
def bd (h0 h : am_H) (n : Int) : Prop := bx h0 h ∧ h 83 9 = h0 83 9 ∧ (h0 83 10 ≤ h 83 10 ∧ h 83 10 ≤ h0 83 10 + n) ∧ wt_rg h
def bz (S : sg_S) (h0 : am_H) : Prop := sg_ok S ∧ tb_fit S ∧ pl_ok h0 S ∧ pr_ok h0 S ∧ (∀ r, 0 ≤ r → r ≤ 2 → h0 11 r = sg_pc S r ∧ h0 12 r = sg_fr S r ∧ h0 13 r = sg_la S r) ∧ 0 ≤ h0 83 10 ∧ h0 83 10 ≤ 40000
theorem bd_pl {S : sg_S} {h0 h : am_H} {n : Int} (hz : bz S h0) (hb : bd h0 h n) : pl_ok h S ∧ pr_ok h S :=
  ⟨pl_ok_mv hz.2.2.1 (fun c hc => hb.1 c (by omega) (by omega) (by omega) (by omega) (by omega) (by omega) (by omega)), pr_ok_mv hz.2.2.2.1 (fun c hc => hb.1 c (by omega) (by omega) (by omega) (by omega) (by omega) (by omega) (by omega)) hb.2.1⟩
theorem bd_y {S : sg_S} {h0 h h1 : am_H} {n : Int} (hb : bd h0 h n) (f : fr_y h h1) (hy : ty_ok h1 S) : bd h0 h1 n := by
  obtain ⟨b1, b2, b3, b4⟩ := hb
  obtain ⟨_, _, _, _, _, _, _, rg⟩ := hy
  have e := f 83 (by omega) (by omega) (by omega)
  refine ⟨fun c c1 c2 c3 c4 c5 c6 c7 => (f c c3 c4 c5).trans (b1 c c1 c2 c3 c4 c5 c6 c7), ?_, ?_, rg⟩
  · rw [e]; exact b2
  · rw [e]; exact b3
theorem fy_of {h h1 : am_H} (f : fr_x h h1) : fr_y h h1 := fun c a b _ => f c a b
set_option maxHeartbeats 400000 in
set_option maxRecDepth 100000 in
theorem sp_layTrial {S : sg_S} {r s d n : Int} {h0 h : am_H} {Q : am_P} (hz : bz S h0) (hb : bd h0 h n) (hn : n ≤ 60) (hr : 0 ≤ r ∧ r ≤ 2) (hs : 0 ≤ s ∧ s ≤ 352) (hd : 1 ≤ d ∧ d ≤ 99) (H : ∀ h1, bd h0 h1 (n + 1) → ty_ok h1 (sb S r s d) → h1 44 = h 44 → Q none h1) : am_Call 93 [.inr (.inr (some 75)), .inl r, .inl s, .inl d] h Q := by
  have pp := bd_pl hz hb
  obtain ⟨z1, z2, z3, z4, z5, z6⟩ := hz
  obtain ⟨b1, b2, b3, b4⟩ := id hb
  simp only [eq_self, and_self, am_up_at, Int.cast_ofNat_Int, Int.reduceNatCast, true_or, or_true, or_false, false_or, Classical.not_not, false_and, and_false, am_bk, am_step, am_ldI, am_ldL, am_ldA, am_nth, am_sto, am_stw_0, am_stw_i, am_stw_n, am_stw_a, am_stw_l, am_br, am_cmp, am_tk, am_cat, am_sw, am_copy, am_R, am_nc0, am_nc1, am_f0, am_f1, am_f2, am_f3, Int.reduceNeg, Int.reduceEq, Int.reduceLE, Int.reduceLT, Nat.reduceLeDiff, Nat.reduceAdd, Nat.reduceEqDiff, true_and, and_true, ↓reduceIte, if_false, if_true, forall_const, not_true_eq_false, not_false_eq_true, false_implies, true_implies, implies_true, Int.reduceAdd, Int.reduceMul, Int.reduceSub, ne_eq, ca_93_75, bl_93_0, gf_75_0, ar_0, al_0, gf_75_1, pf_75_1, gf_75_2, gf_75_3, gf_75_4, gf_75_5, gf_75_6, gf_75_7, gf_75_8, gf_75_9, gf_75_10]
  refine sp_tk_trial_now (fun h1 ⟨t1, t2, t3, t4, t5⟩ => ?_)
  simp only [eq_self, and_self, am_up_at, Int.cast_ofNat_Int, Int.reduceNatCast, true_or, or_true, or_false, false_or, Classical.not_not, false_and, and_false, am_bk, am_step, am_ldI, am_ldL, am_ldA, am_nth, am_sto, am_stw_0, am_stw_i, am_stw_n, am_stw_a, am_stw_l, am_br, am_cmp, am_tk, am_cat, am_sw, am_copy, am_R, am_nc0, am_nc1, am_f0, am_f1, am_f2, am_f3, Int.reduceNeg, Int.reduceEq, Int.reduceLE, Int.reduceLT, Nat.reduceLeDiff, Nat.reduceAdd, Nat.reduceEqDiff, true_and, and_true, ↓reduceIte, if_false, if_true, forall_const, not_true_eq_false, not_false_eq_true, false_implies, true_implies, implies_true, Int.reduceAdd, Int.reduceMul, Int.reduceSub, ne_eq, ca_93_75, bl_93_5, ca_8_80, bl_8_0, gf_75_0, ar_0, al_0, gf_75_1, pf_75_1, gf_75_2, gf_75_3, gf_75_4, gf_75_5, gf_75_6, gf_75_7, gf_75_8, gf_75_9, gf_75_10, gf_80_0, ar_17, al_17, gf_80_1, ar_18, al_18, gf_80_2, ar_19, al_19, gf_80_3, ar_20, al_20, gf_80_4, ar_21, al_21, gf_80_5, ar_22, al_22, gf_80_6, pf_80_6, gf_80_7, pf_80_7]
  have K : am_Ex 93 11 [some (.inr (.inr (some 75))), some (.inl r), some (.inl s), some (.inl d)] [] (am_up (am_up h1 18 r s) 19 r d) Q := by
    simp only [eq_self, and_self, am_up_at, Int.cast_ofNat_Int, Int.reduceNatCast, true_or, or_true, or_false, false_or, Classical.not_not, false_and, and_false, am_bk, am_step, am_ldI, am_ldL, am_ldA, am_nth, am_sto, am_stw_0, am_stw_i, am_stw_n, am_stw_a, am_stw_l, am_br, am_cmp, am_tk, am_cat, am_sw, am_copy, am_R, am_nc0, am_nc1, am_f0, am_f1, am_f2, am_f3, Int.reduceNeg, Int.reduceEq, Int.reduceLE, Int.reduceLT, Nat.reduceLeDiff, Nat.reduceAdd, Nat.reduceEqDiff, true_and, and_true, ↓reduceIte, if_false, if_true, forall_const, not_true_eq_false, not_false_eq_true, false_implies, true_implies, implies_true, Int.reduceAdd, Int.reduceMul, Int.reduceSub, ne_eq, ca_93_75, bl_93_11, gf_75_0, ar_0, al_0, gf_75_1, pf_75_1, gf_75_2, gf_75_3, gf_75_4, gf_75_5, gf_75_6, gf_75_7, gf_75_8, gf_75_9, gf_75_10]
    have fx : ∀ c, (c < 17 ∨ 22 < c) → c ≠ 80 → am_up (am_up h1 18 r s) 19 r d c = h c := fun c c1 c2 => by rw [am_up_ne (by omega), am_up_ne (by omega), t5 c c2 (by omega)]
    have e83 := fx 83 (by omega) (by omega)
    refine sp_layT (S := sb S r s d) (sb_ok z1 hs hd) (sb_fit z2 hs hd) (pl_ok_mv pp.1 (fun c hc => fx c (by omega) (by omega))) (pr_ok_mv pp.2 (fun c hc => fx c (by omega) (by omega)) (by rw [e83])) (fun q q1 q2 => ?_) (by rw [e83]; omega) (by
        unfold wt_rg at b4 ⊢
        rw [e83, fx 42 (by omega) (by omega)]
        exact b4) (fun h2 y2 l10 l9 lc => ?_)
    · have tq := t1 q q1 q2
      have zq := z5 q q1 q2
      have m11 := b1 11 (by omega) (by omega) (by omega) (by omega) (by omega) (by omega) (by omega)
      have m12 := b1 12 (by omega) (by omega) (by omega) (by omega) (by omega) (by omega) (by omega)
      have m13 := b1 13 (by omega) (by omega) (by omega) (by omega) (by omega) (by omega) (by omega)
      refine ⟨?_, ?_, ?_⟩
      · rw [am_up_ne (by omega), am_up_ne (by omega), tq.1, m11]; exact zq.1
      · show _ = if q = r then s else sg_fr S q
        rw [am_up_ne (by omega), am_up_at]
        by_cases c : q = r
        · rw [if_pos ⟨rfl, c⟩, if_pos c]
        · rw [if_neg (fun z => c z.2), if_neg c, tq.2.1, m12]; exact zq.2.1
      · show _ = if q = r then d else sg_la S q
        rw [am_up_at]
        by_cases c : q = r
        · rw [if_pos ⟨rfl, c⟩, if_pos c]
        · rw [if_neg (fun z => c z.2), if_neg c, am_up_ne (by omega), tq.2.2, m13]; exact zq.2.2
    · have K := H h2 (by
        obtain ⟨_, _, _, _, _, _, _, rg⟩ := id y2
        refine ⟨fun c c1 c2 c3 c4 c5 c6 c7 => ?_, ?_, ?_, rg⟩
        · rw [lc c c2 c7, fx c c1 c6]; exact b1 c c1 c2 c3 c4 c5 c6 c7
        · rw [l9, e83]; exact b2
        · rw [l10, e83]; omega) y2 (by rw [lc 44 (by omega) (by omega), fx 44 (by omega) (by omega)])
      simp only [eq_self, and_self, am_up_at, Int.cast_ofNat_Int, Int.reduceNatCast, true_or, or_true, or_false, false_or, Classical.not_not, false_and, and_false, am_bk, am_step, am_ldI, am_ldL, am_ldA, am_nth, am_sto, am_stw_0, am_stw_i, am_stw_n, am_stw_a, am_stw_l, am_br, am_cmp, am_tk, am_cat, am_sw, am_copy, am_R, am_nc0, am_nc1, am_f0, am_f1, am_f2, am_f3, Int.reduceNeg, Int.reduceEq, Int.reduceLE, Int.reduceLT, Nat.reduceLeDiff, Nat.reduceAdd, Nat.reduceEqDiff, true_and, and_true, ↓reduceIte, if_false, if_true, forall_const, not_true_eq_false, not_false_eq_true, false_implies, true_implies, implies_true, Int.reduceAdd, Int.reduceMul, Int.reduceSub, ne_eq, ca_93_75, bl_93_16, gf_75_0, ar_0, al_0, gf_75_1, pf_75_1, gf_75_2, gf_75_3, gf_75_4, gf_75_5, gf_75_6, gf_75_7, gf_75_8, gf_75_9, gf_75_10]
      exact K
  (repeat' (first | with_reducible apply And.intro | with_reducible intro _)) <;> first | omega | exact K
set_option maxHeartbeats 400000 in
set_option maxRecDepth 100000 in
theorem lp_bbs {S : sg_S} {r d a t b : Int} {h0 : am_H} {Q : am_P} (hz : bz S h0) (hr : 0 ≤ r ∧ r ≤ 2) (hd : 1 ≤ d ∧ d ≤ 99) (ha : 0 ≤ a ∧ a < sg_G S) (hb : 0 ≤ b ∧ b < sg_G S) (ht : 0 ≤ t ∧ t ≤ 299) (H : ∀ h1 be st, bd h0 h1 54 → bb 1000000 S r d a t b (t + sg_U S) be st → Q (some (.inl st)) h1) :
    ∀ (m : Nat) (s be st : Int) (h : am_H), t ≤ s → s + m = t + sg_U S → bd h0 h (s - t) → bb 1000000 S r d a t b s be st → am_Ex 94 6 [some (.inr (.inr (some 75))), some (.inl r), some (.inl d), some (.inl a), some (.inl t), some (.inl b), some (.inl be), some (.inl st), some (.inl s), none] [] h Q := by
  intro m
  have hU := hz.1.1
  have hG := hz.1.2.1
  have mono : ∀ h n, bd h0 h n → n ≤ 54 → bd h0 h 54 := fun h n q l => ⟨q.1, q.2.1, by have := q.2.2.1; omega, q.2.2.2⟩
  have rgb : ∀ n be st, t ≤ n → n ≤ t + sg_U S → bb 1000000 S r d a t b n be st → (0 ≤ be ∧ be ≤ 1000000) ∧ (-9 ≤ st ∧ st ≤ 400) := by
    intro n be st n1 n2 q
    rcases q with q | q <;> omega
  induction m with
  | zero =>
    intro s be st h s0 s1 hbd I
    have p0 := (bd_pl hz hbd).1.1
    have rr := rgb s be st s0 (by omega) I
    have K := H h be st (mono h _ hbd (by omega)) (by rw [show t + sg_U S = s by omega]; exact I)
    rw [bl_94_6]
    simp only [eq_self, and_self, am_up_at, Int.cast_ofNat_Int, Int.reduceNatCast, true_or, or_true, or_false, false_or, Classical.not_not, false_and, and_false, am_bk, am_step, am_ldI, am_ldL, am_ldA, am_nth, am_sto, am_stw_0, am_stw_i, am_stw_n, am_stw_a, am_stw_l, am_br, am_cmp, am_tk, am_cat, am_sw, am_copy, am_R, am_nc0, am_nc1, am_f0, am_f1, am_f2, am_f3, Int.reduceNeg, Int.reduceEq, Int.reduceLE, Int.reduceLT, Nat.reduceLeDiff, Nat.reduceAdd, Nat.reduceEqDiff, true_and, and_true, ↓reduceIte, if_false, if_true, forall_const, not_true_eq_false, not_false_eq_true, false_implies, true_implies, implies_true, Int.reduceAdd, Int.reduceMul, Int.reduceSub, ne_eq, ca_94_75, bl_94_42, gf_75_0, ar_0, al_0, gf_75_1, pf_75_1, gf_75_2, gf_75_3, gf_75_4, gf_75_5, gf_75_6, gf_75_7, gf_75_8, gf_75_9, gf_75_10, gf_78_0, pf_78_0, gf_78_1, pf_78_1, gf_78_2, ar_6, al_6, gf_78_3, ar_7, al_7, gf_78_4, ar_8, al_8, gf_78_5, ar_9, al_9, gf_78_6, ar_10, al_10, p0]
    (repeat' (first | with_reducible apply And.intro | with_reducible intro _)) <;> first | omega | exact K
  | succ m ih =>
    intro s be st h s0 s1 hbd I
    have p0 := (bd_pl hz hbd).1.1
    have rr := rgb s be st s0 (by omega) I
    have K1 : ∀ h2, bd h0 h2 (s - t + 1) → (∀ c, 0 ≤ c → c < sg_G S → ar_is 1000000 (sb S r s d) a t c (h2 43 c)) → am_Ex 94 23 [some (.inr (.inr (some 75))), some (.inl r), some (.inl d), some (.inl a), some (.inl t), some (.inl b), some (.inl be), some (.inl st), some (.inl s), none] [] h2 Q := by
      intro h2 b2 ar
      have ab := ar b hb.1 hb.2
      have abr := ar_r (by omega) (by omega) ab
      have stp' := bb_s (by omega) (by omega) s0 I ab
      have go : ∀ be' st' x, bb 1000000 S r d a t b (s + 1) be' st' → x = h2 43 b → am_Ex 94 36 [some (.inr (.inr (some 75))), some (.inl r), some (.inl d), some (.inl a), some (.inl t), some (.inl b), some (.inl be'), some (.inl st'), some (.inl s), some (.inl x)] [] h2 Q := by
        intro be' st' x I' ex
        have rr' := rgb (s + 1) be' st' (by omega) (by omega) I'
        have Ka : h2 43 b ≤ s → Q (some (.inl st')) h2 := fun q => H h2 be' st' (mono h2 _ b2 (by omega)) (bb_brk hz.1 hd ha (by omega) ht s0 I' ab q (by omega))
        have Kb := ih (s + 1) be' st' h2 (by omega) (by omega) (by rw [show s + 1 - t = s - t + 1 by omega]; exact b2) I'
        simp only [eq_self, and_self, am_up_at, Int.cast_ofNat_Int, Int.reduceNatCast, true_or, or_true, or_false, false_or, Classical.not_not, false_and, and_false, am_bk, am_step, am_ldI, am_ldL, am_ldA, am_nth, am_sto, am_stw_0, am_stw_i, am_stw_n, am_stw_a, am_stw_l, am_br, am_cmp, am_tk, am_cat, am_sw, am_copy, am_R, am_nc0, am_nc1, am_f0, am_f1, am_f2, am_f3, Int.reduceNeg, Int.reduceEq, Int.reduceLE, Int.reduceLT, Nat.reduceLeDiff, Nat.reduceAdd, Nat.reduceEqDiff, true_and, and_true, ↓reduceIte, if_false, if_true, forall_const, not_true_eq_false, not_false_eq_true, false_implies, true_implies, implies_true, Int.reduceAdd, Int.reduceMul, Int.reduceSub, ne_eq, ca_94_75, bl_94_36, bl_94_40, bl_94_42, gf_75_0, ar_0, al_0, gf_75_1, pf_75_1, gf_75_2, gf_75_3, gf_75_4, gf_75_5, gf_75_6, gf_75_7, gf_75_8, gf_75_9, gf_75_10, gf_78_0, pf_78_0, gf_78_1, pf_78_1, gf_78_2, ar_6, al_6, gf_78_3, ar_7, al_7, gf_78_4, ar_8, al_8, gf_78_5, ar_9, al_9, gf_78_6, ar_10, al_10, ex]
        (repeat' (first | with_reducible apply And.intro | with_reducible intro _)) <;> first | omega | exact Ka (by omega) | exact am_forget Kb (by simp [am_lq])
      have G1 := fun q => go (h2 43 b) s (h2 43 b) (stp'.1 q) rfl
      have G2 := fun q => go be st (h2 43 b) (stp'.2 q) rfl
      simp only [eq_self, and_self, am_up_at, Int.cast_ofNat_Int, Int.reduceNatCast, true_or, or_true, or_false, false_or, Classical.not_not, false_and, and_false, am_bk, am_step, am_ldI, am_ldL, am_ldA, am_nth, am_sto, am_stw_0, am_stw_i, am_stw_n, am_stw_a, am_stw_l, am_br, am_cmp, am_tk, am_cat, am_sw, am_copy, am_R, am_nc0, am_nc1, am_f0, am_f1, am_f2, am_f3, Int.reduceNeg, Int.reduceEq, Int.reduceLE, Int.reduceLT, Nat.reduceLeDiff, Nat.reduceAdd, Nat.reduceEqDiff, true_and, and_true, ↓reduceIte, if_false, if_true, forall_const, not_true_eq_false, not_false_eq_true, false_implies, true_implies, implies_true, Int.reduceAdd, Int.reduceMul, Int.reduceSub, ne_eq, ca_94_75, bl_94_23, bl_94_35, gf_75_0, ar_0, al_0, gf_75_1, pf_75_1, gf_75_2, gf_75_3, gf_75_4, gf_75_5, gf_75_6, gf_75_7, gf_75_8, gf_75_9, gf_75_10, gf_84_0, gf_84_1, gf_84_2, ar_43, al_43, gf_84_3, ar_44, al_44, gf_84_4, ar_45, al_45, gf_84_5, ar_46, al_46, gf_84_6, pf_84_6]
      (repeat' (first | with_reducible apply And.intro | with_reducible intro _)) <;> first | omega | exact G1 (by omega) | exact G2 (by omega)
    have K2 : ∀ h1, bd h0 h1 (s - t + 1) → ty_ok h1 (sb S r s d) → h1 44 = h 44 → am_Ex 94 18 [some (.inr (.inr (some 75))), some (.inl r), some (.inl d), some (.inl a), some (.inl t), some (.inl b), some (.inl be), some (.inl st), some (.inl s), none] [] h1 Q := by
      intro h1 b1 y1 _
      simp only [eq_self, and_self, am_up_at, Int.cast_ofNat_Int, Int.reduceNatCast, true_or, or_true, or_false, false_or, Classical.not_not, false_and, and_false, am_bk, am_step, am_ldI, am_ldL, am_ldA, am_nth, am_sto, am_stw_0, am_stw_i, am_stw_n, am_stw_a, am_stw_l, am_br, am_cmp, am_tk, am_cat, am_sw, am_copy, am_R, am_nc0, am_nc1, am_f0, am_f1, am_f2, am_f3, Int.reduceNeg, Int.reduceEq, Int.reduceLE, Int.reduceLT, Nat.reduceLeDiff, Nat.reduceAdd, Nat.reduceEqDiff, true_and, and_true, ↓reduceIte, if_false, if_true, forall_const, not_true_eq_false, not_false_eq_true, false_implies, true_implies, implies_true, Int.reduceAdd, Int.reduceMul, Int.reduceSub, ne_eq, ca_94_75, bl_94_18, gf_75_0, ar_0, al_0, gf_75_1, pf_75_1, gf_75_2, gf_75_3, gf_75_4, gf_75_5, gf_75_6, gf_75_7, gf_75_8, gf_75_9, gf_75_10]
      exact sp_spread y1 ha (by omega) (fun h2 y2 f2 ar => K1 h2 (bd_y b1 (fy_of f2) y2) ar)
    rw [bl_94_6]
    simp only [eq_self, and_self, am_up_at, Int.cast_ofNat_Int, Int.reduceNatCast, true_or, or_true, or_false, false_or, Classical.not_not, false_and, and_false, am_bk, am_step, am_ldI, am_ldL, am_ldA, am_nth, am_sto, am_stw_0, am_stw_i, am_stw_n, am_stw_a, am_stw_l, am_br, am_cmp, am_tk, am_cat, am_sw, am_copy, am_R, am_nc0, am_nc1, am_f0, am_f1, am_f2, am_f3, Int.reduceNeg, Int.reduceEq, Int.reduceLE, Int.reduceLT, Nat.reduceLeDiff, Nat.reduceAdd, Nat.reduceEqDiff, true_and, and_true, ↓reduceIte, if_false, if_true, forall_const, not_true_eq_false, not_false_eq_true, false_implies, true_implies, implies_true, Int.reduceAdd, Int.reduceMul, Int.reduceSub, ne_eq, ca_94_75, bl_94_13, gf_75_0, ar_0, al_0, gf_75_1, pf_75_1, gf_75_2, gf_75_3, gf_75_4, gf_75_5, gf_75_6, gf_75_7, gf_75_8, gf_75_9, gf_75_10, gf_78_0, pf_78_0, gf_78_1, pf_78_1, gf_78_2, ar_6, al_6, gf_78_3, ar_7, al_7, gf_78_4, ar_8, al_8, gf_78_5, ar_9, al_9, gf_78_6, ar_10, al_10, p0]
    (repeat' (first | with_reducible apply And.intro | with_reducible intro _)) <;> first | omega | exact sp_layTrial hz hbd (by omega) hr (by omega) hd K2
set_option maxHeartbeats 400000 in
set_option maxRecDepth 100000 in
theorem sp_bbStart {S : sg_S} {r d a t b : Int} {h : am_H} {Q : am_P} (hz : bz S h) (hw : wt_rg h) (hr : 0 ≤ r ∧ r ≤ 2) (hd : 1 ≤ d ∧ d ≤ 99) (ha : 0 ≤ a ∧ a < sg_G S) (hb : 0 ≤ b ∧ b < sg_G S) (ht : 0 ≤ t ∧ t ≤ 299) (H : ∀ h1 be st, bd h h1 54 → bb 1000000 S r d a t b (t + sg_U S) be st → Q (some (.inl st)) h1) : am_Call 94 [.inr (.inr (some 75)), .inl r, .inl d, .inl a, .inl t, .inl b] h Q := by
  have hU := hz.1.1
  simp only [eq_self, and_self, am_up_at, Int.cast_ofNat_Int, Int.reduceNatCast, true_or, or_true, or_false, false_or, Classical.not_not, false_and, and_false, am_bk, am_step, am_ldI, am_ldL, am_ldA, am_nth, am_sto, am_stw_0, am_stw_i, am_stw_n, am_stw_a, am_stw_l, am_br, am_cmp, am_tk, am_cat, am_sw, am_copy, am_R, am_nc0, am_nc1, am_f0, am_f1, am_f2, am_f3, Int.reduceNeg, Int.reduceEq, Int.reduceLE, Int.reduceLT, Nat.reduceLeDiff, Nat.reduceAdd, Nat.reduceEqDiff, true_and, and_true, ↓reduceIte, if_false, if_true, forall_const, not_true_eq_false, not_false_eq_true, false_implies, true_implies, implies_true, Int.reduceAdd, Int.reduceMul, Int.reduceSub, ne_eq, ca_94_75, bl_94_0, gf_75_0, ar_0, al_0, gf_75_1, pf_75_1, gf_75_2, gf_75_3, gf_75_4, gf_75_5, gf_75_6, gf_75_7, gf_75_8, gf_75_9, gf_75_10]
  exact lp_bbs hz hr hd ha hb ht H (sg_U S).toNat t 1000000 (-9) h (by omega) (by omega) ⟨fun _ _ _ _ _ _ _ _ => rfl, rfl, by omega, hw⟩ (Or.inl ⟨rfl, rfl, fun s s1 s2 => by omega⟩)
