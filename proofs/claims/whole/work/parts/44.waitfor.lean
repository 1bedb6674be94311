/-! waitFor -/
def pp_T (h : am_H) (S : sg_S) (p i : Int) : Prop := ¬ (h 40 p = 1 ∧ i % 3 ≠ 0) ∧ tb_adj (sg_U S) (h 38 p + h 35 (505 * h 41 p + i) - h 35 (505 * h 41 p + i + 505) + (if i % 2 = 1 then h 39 p else 0)) ≤ 2 * h 37 p
theorem pp_tab {S : sg_S} {h : am_H} {o n i : Int} (hS : sg_ok S) (hT : tb_ok h S) (hR : pr_ok h S) (ho : 0 ≤ o ∧ o < sg_G S) (hn : 0 ≤ n ∧ n < sg_G S) (hi : 0 ≤ i ∧ i < tb_st S + sg_U S) (hon : sg_ri S o + 1 = sg_ri S n) (hp : h 36 (8 * o + n) ≠ -1) : pp_T h S (h 36 (8 * o + n)) i ↔ pp_at S o n i := by
  obtain ⟨R1, R2, R3, R4⟩ := hR.2 o n ho.1 ho.2 hn.1 hn.2
  obtain ⟨r1, r2, r3, r4, r5⟩ := R4 hon hp
  have ro := hS.2.2.1 o ho.1 ho.2
  have rn := hS.2.2.1 n hn.1 hn.2
  have row1 := hT.2.2 (sg_ri S o) i ro.1.1 ro.1.2 hi.1 hi.2
  have row2 := hT.2.2 (sg_ri S n) i rn.1.1 rn.1.2 hi.1 hi.2
  have b := hS.1
  have hU0 : sg_U S ≠ 0 := by omega
  have hUp : 0 < sg_U S := by omega
  have q12 := And.intro (Int.emod_nonneg (sg_pc S (sg_ri S o) * sg_tn (sg_fr S (sg_ri S o)) (sg_la S (sg_ri S o)) i) hU0) (Int.emod_lt_of_pos (sg_pc S (sg_ri S o) * sg_tn (sg_fr S (sg_ri S o)) (sg_la S (sg_ri S o)) i) hUp)
  have q34 := And.intro (Int.emod_nonneg (sg_pc S (sg_ri S n) * sg_tn (sg_fr S (sg_ri S n)) (sg_la S (sg_ri S n)) i) hU0) (Int.emod_lt_of_pos (sg_pc S (sg_ri S n) * sg_tn (sg_fr S (sg_ri S n)) (sg_la S (sg_ri S n)) i) hUp)
  rw [← row1] at q12
  rw [← row2] at q34
  have e2 : 505 * h 41 (h 36 (8 * o + n)) + i + 505 = 505 * sg_ri S n + i := by rw [r5]; omega
  have e1 : 505 * h 41 (h 36 (8 * o + n)) + i = 505 * sg_ri S o + i := by rw [r5]
  have key := tb_key (i := i) b ro.2.2.1 rn.2.2.1 q12 q34 r1 r2 r3 r4
  rw [row1, row2, ← sg_at_e (S := S) (g := o) (i := i), ← sg_at_e (S := S) (g := n) (i := i)] at key
  rw [← row1, ← row2, ← e1, ← e2] at key
  exact key
theorem pp_same {S : sg_S} {h : am_H} {o n o' n' t : Int} (hS : sg_ok S) (hF : tb_fit S) (hT : tb_ok h S) (hR : pr_ok h S) (ho : 0 ≤ o ∧ o < sg_G S) (hn : 0 ≤ n ∧ n < sg_G S) (hon : sg_ri S o + 1 = sg_ri S n) (ho' : 0 ≤ o' ∧ o' < sg_G S) (hn' : 0 ≤ n' ∧ n' < sg_G S) (hon' : sg_ri S o' + 1 = sg_ri S n') (hp : h 36 (8 * o + n) ≠ -1) (he : h 36 (8 * o' + n') = h 36 (8 * o + n)) (ht : 0 ≤ t) : pp_at S o' n' t ↔ pp_at S o n t := by
  have f := tb_fo_r hS hF ht
  have a := pp_f hS hF ho hn ht (x := 0) (by omega)
  have b := pp_f hS hF ho' hn' ht (x := 0) (by omega)
  rw [Int.add_zero, Int.add_zero] at a b
  have c := pp_tab hS hT hR ho hn f hon hp
  have d := pp_tab hS hT hR ho' hn' f hon' (by rw [he]; exact hp)
  rw [he] at d
  rw [← a, ← b, ← c, ← d]
/-- what is remembered is right -/
def wt_ok (h : am_H) (S : sg_S) : Prop := ∀ o n, 0 ≤ o → o < sg_G S → 0 ≤ n → n < sg_G S → sg_ri S o + 1 = sg_ri S n → h 36 (8 * o + n) ≠ -1 → ∀ i, 0 ≤ i → i < tb_st S + sg_U S → h 42 (505 * h 36 (8 * o + n) + i) / 1024 = h 83 10 → wt_is S o n i (h 42 (505 * h 36 (8 * o + n) + i) % 1024)
def wt_rg (h : am_H) : Prop := ∀ x, 0 ≤ x → x < 8080 → 0 ≤ h 42 x ∧ h 42 x < 1024 * (h 83 10 + 1)
def wt_wf (h h1 : am_H) (S : sg_S) : Prop := (∀ c, c ≠ 42 → h1 c = h c) ∧ wt_ok h1 S ∧ wt_rg h1
theorem wt_keep {S : sg_S} {h h1 : am_H} {o n f m rest L : Int} (hS : sg_ok S) (hF : tb_fit S) (hT : tb_ok h S) (hR : pr_ok h S) (ho : 0 ≤ o ∧ o < sg_G S) (hn : 0 ≤ n ∧ n < sg_G S) (hon : sg_ri S o + 1 = sg_ri S n) (hp : h 36 (8 * o + n) ≠ -1) (hL : h 83 10 = L ∧ 0 ≤ L) (hf : 0 ≤ f) (hm : m ≤ 505) (hr : (rest = 1000000 ∧ ∀ q, f ≤ q → ¬ pp_at S o n q) ∨ (rest ≠ 1000000 ∧ 0 ≤ rest ∧ m + rest < 1023 ∧ pp_at S o n (f + m + rest) ∧ ∀ q, f ≤ q → q < f + m + rest → ¬ pp_at S o n q))
    (hok : wt_ok h S) (hrg : wt_rg h) (hrm : wt_rm S h h1 (h 36 (8 * o + n)) f m rest L m) : wt_wf h h1 S := by
  have st := (tb_st_r hS hF).1
  have hU := hS.1
  have e36 := hrm.2 36 (by omega)
  have e83 := hrm.2 83 (by omega)
  have hvr : ∀ q, 0 ≤ q → q < m → 0 ≤ wt_v m q rest ∧ wt_v m q rest ≤ 1023 := by
    intro q q1 q2
    unfold wt_v
    rcases hr with ⟨a, b⟩ | ⟨a, b, c, d, e⟩
    · rw [if_pos a]; omega
    · rw [if_neg a]; omega
  refine ⟨hrm.2, ?_, ?_⟩
  · intro o' n' a1 a2 a3 a4 a5 a6 i b1 b2 b3
    rw [e36] at a6 b3 ⊢
    rw [e83] at b3
    rcases hrm.1 (505 * h 36 (8 * o' + n') + i) with q | ⟨q, q1, q2, q3, q4⟩
    · rw [q] at b3 ⊢
      exact hok o' n' a1 a2 a3 a4 a5 a6 i b1 b2 b3
    · rw [q4]
      have fr := tb_fo_r hS hF (t := f + q) (by omega)
      have R' := (hR.2 o' n' a1 a2 a3 a4).1
      have R := (hR.2 o n ho.1 ho.2 hn.1 hn.2).1
      have ep : h 36 (8 * o' + n') = h 36 (8 * o + n) := by omega
      have ei : i = tb_fo S (f + q) := by omega
      have vr := hvr q q1 q2
      rw [show (1024 * L + wt_v m q rest) % 1024 = wt_v m q rest by omega]
      have sm : ∀ t, 0 ≤ t → (pp_at S o' n' t ↔ pp_at S o n t) := fun t ht => pp_same hS hF hT hR ho hn hon ⟨a1, a2⟩ ⟨a3, a4⟩ a5 hp ep ht
      have sf : ∀ x, 0 ≤ x → (pp_at S o n (i + x) ↔ pp_at S o n (f + q + x)) := fun x hx => by rw [ei]; exact pp_f hS hF ho hn (by omega) hx
      rcases hr with ⟨a, b⟩ | ⟨a, b, c, d, e⟩
      · have ev : wt_v m q rest = 1023 := if_pos a
        refine ⟨fun _ z z1 => ?_, fun z => absurd ev z⟩
        rw [sm z (by omega), show z = i + (z - i) by omega, sf _ (by omega)]
        exact b _ (by omega)
      · have ev : wt_v m q rest = m - q + rest := if_neg a
        rw [ev]
        refine ⟨fun z => by omega, fun _ => ⟨by omega, ?_, fun z z1 z2 => ?_⟩⟩
        · rw [sm _ (by omega), sf _ (by omega), show f + q + (m - q + rest) = f + m + rest by omega]
          exact d
        · rw [sm z (by omega), show z = i + (z - i) by omega, sf _ (by omega)]
          exact e _ (by omega) (by omega)
  · intro x x1 x2
    rw [e83]
    rcases hrm.1 x with q | ⟨q, q1, q2, q3, q4⟩
    · rw [q]; exact hrg x x1 x2
    · have := hvr q q1 q2
      rw [q4]
      omega
