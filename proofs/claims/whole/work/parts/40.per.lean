/-! all comes again -/
theorem sg_opn_p {S : sg_S} (hS : sg_ok S) (hF : tb_fit S) {a b : Int} (ha : 0 ≤ a ∧ a < sg_G S) (hb : 0 ≤ b ∧ b < sg_G S) {t m : Int} (h1 : tb_st S ≤ t) (h2 : tb_st S ≤ t + sg_U S * m) : sg_opn S a b (t + sg_U S * m) ↔ sg_opn S a b t := by
  unfold sg_opn sg_opt sg_lt
  rw [sg_at_p hS hF ha h1 h2, sg_at_p hS hF hb h1 h2, (sg_par hS t m).2]
theorem per_all {P : Int → Prop} {st U t : Int} (hU : 0 < U) (hp : ∀ q m, st ≤ q → st ≤ q + U * m → (P (q + U * m) ↔ P q)) (h : ∀ q, t ≤ q → q < (if t < st then st else t) + U → P q) : ∀ q, t ≤ q → P q := by
  intro q hq
  have hM : t ≤ (if t < st then st else t) ∧ st ≤ (if t < st then st else t) := by split <;> omega
  generalize (if t < st then st else t) = M at h hM
  by_cases c : q < M + U
  · exact h q hq c
  · have e := Int.emod_add_mul_ediv (q - M) U
    have n1 := Int.emod_nonneg (q - M) (show U ≠ 0 by omega)
    have n2 := Int.emod_lt_of_pos (q - M) hU
    have eq : q = (M + (q - M) % U) + U * ((q - M) / U) := by omega
    rw [eq]
    exact (hp _ _ (by omega) (by omega)).mpr (h _ (by omega) (by omega))
theorem sg_calm_st {S : sg_S} (hS : sg_ok S) {t : Int} (ht : 0 ≤ t) : (if t < tb_st S then tb_st S else t) ≤ sg_calm S t := by
  have p0 := hS.2.2.2 0 (by omega) (by omega)
  have p1 := hS.2.2.2 1 (by omega) (by omega)
  have p2 := hS.2.2.2 2 (by omega) (by omega)
  have a : t ≤ sg_calm S t := by
    unfold sg_calm sg_mx
    (repeat' split) <;> omega
  have b : tb_st S ≤ sg_calm S t := by
    have c0 : tb_m (sg_fr S 0) (sg_la S 0) 0 ≤ sg_mx (sg_fr S 0 + sg_la S 0) t := by
      unfold tb_m sg_mx
      (repeat' split) <;> omega
    have c1 : tb_m (sg_fr S 1) (sg_la S 1) (tb_m (sg_fr S 0) (sg_la S 0) 0) ≤ sg_mx (sg_fr S 1 + sg_la S 1) (sg_mx (sg_fr S 0 + sg_la S 0) t) := by
      generalize tb_m (sg_fr S 0) (sg_la S 0) 0 = x at c0 ⊢
      generalize sg_mx (sg_fr S 0 + sg_la S 0) t = y at c0 ⊢
      unfold tb_m sg_mx
      (repeat' split) <;> omega
    unfold tb_st sg_calm
    generalize tb_m (sg_fr S 1) (sg_la S 1) (tb_m (sg_fr S 0) (sg_la S 0) 0) = x at c1 ⊢
    generalize sg_mx (sg_fr S 1 + sg_la S 1) (sg_mx (sg_fr S 0 + sg_la S 0) t) = y at c1 ⊢
    unfold tb_m sg_mx
    (repeat' split) <;> omega
  split <;> omega
