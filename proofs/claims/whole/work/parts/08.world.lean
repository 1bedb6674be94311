/-! the world of all cells, by their numbers -/
def am_fv (ad : Nat → Nat) (h : am_H) (c : Nat) : Nat → List (Option Nat) → List Value
  | _, [] => []
  | i, none :: r => .int (Int32.ofInt (h c i)) :: am_fv ad h c (i + 1) r
  | i, some t :: r => .ref (ad t) :: am_fv ad h c (i + 1) r
def am_en (ad : Nat → Nat) (cA : Nat → ClassId) (h : am_H) (c : Nat) : va_E := match am_lay c with
  | .inl (.long, n) => .inl (cA c, n, .inr (.inl (fun j => Int64.ofInt (h c j))))
  | .inl (_, n) => .inl (cA c, n, .inl (fun j => Int32.ofInt (h c j)))
  | .inr (ci, fks) => .inr (ci, am_fv ad h c 0 fks)
def am_w (ad : Nat → Nat) (cA : Nat → ClassId) (h : am_H) : va_W := (List.range 87).map (fun c => (ad c, am_en ad cA h c))
def am_ety (c : Nat) : FieldType := match am_lay c with
  | .inl (ty, _) => ty
  | .inr _ => .int
def am_ty (cA : Nat → ClassId) : List (ClassId × FieldType) := (List.range 75).map (fun c => (cA c, am_ety c))
theorem am_w_at (ad : Nat → Nat) (cA : Nat → ClassId) (h : am_H) {c : Nat} (hc : c < 87) : (am_w ad cA h)[c]? = some (ad c, am_en ad cA h c) := by
  simp [am_w, hc]
theorem am_ty_at (cA : Nat → ClassId) {c : Nat} (hc : c < 75) : (am_ty cA)[c]? = some (cA c, am_ety c) := by
  simp [am_ty, hc]
theorem am_lay_big {c : Nat} (hc : 87 ≤ c) : am_lay c = .inr (99, []) := by
  have : am_nth am_lays c = none := by
    rw [am_nth_eq, List.getElem?_eq_none]
    exact Nat.le_trans (by decide) hc
  simp [am_lay, this]
def am_layok (c : Nat) : Bool := match am_lay c with
  | .inl (ty, n) => decide (c < 75) && decide (n < 100000) && (decide (ty = .int) || decide (ty = .boolean) || decide (ty = .long))
  | .inr _ => true
theorem am_lays_ok : ∀ c, c < 87 → am_layok c = true := by decide +kernel
theorem am_lay_arr {c n : Nat} {ty : FieldType} (h : am_lay c = .inl (ty, n)) : c < 75 ∧ n < 100000 := by
  by_cases hc : c < 87
  · have h2 := am_lays_ok c hc
    simp [am_layok, h] at h2
    exact h2.1
  · rw [am_lay_big (by omega)] at h
    cases h
theorem am_lay_obj {c ci : Nat} {fks : List (Option Nat)} (h : am_lay c = .inr (ci, fks)) (hci : ci < 8) : c < 87 := by
  by_cases hc : c < 87
  · exact hc
  · rw [am_lay_big (by omega)] at h
    simp at h
    omega
theorem am_fv_len (ad : Nat → Nat) (h : am_H) (c : Nat) : ∀ (i : Nat) (fks : List (Option Nat)), (am_fv ad h c i fks).length = fks.length
  | _, [] => rfl
  | i, none :: r => by simp [am_fv, am_fv_len ad h c (i + 1) r]
  | i, some t :: r => by simp [am_fv, am_fv_len ad h c (i + 1) r]
theorem am_fv_n (ad : Nat → Nat) (h : am_H) (c : Nat) : ∀ (fks : List (Option Nat)) (i0 b : Nat), am_nth fks b = some none → (am_fv ad h c i0 fks)[b]? = some (.int (Int32.ofInt (h c ((i0 + b : Nat) : Int))))
  | [], _, b, e => by cases b <;> cases e
  | x :: r, i0, 0, e => by cases e; rfl
  | x :: r, i0, b + 1, e => by
    have := am_fv_n ad h c r (i0 + 1) b e
    rw [show i0 + (b + 1) = i0 + 1 + b by omega]
    cases x <;> exact this
theorem am_fv_s (ad : Nat → Nat) (h : am_H) (c t : Nat) : ∀ (fks : List (Option Nat)) (i0 b : Nat), am_nth fks b = some (some t) → (am_fv ad h c i0 fks)[b]? = some (.ref (ad t))
  | [], _, b, e => by cases b <;> cases e
  | x :: r, i0, 0, e => by cases e; rfl
  | x :: r, i0, b + 1, e => by
    have := am_fv_s ad h c t r (i0 + 1) b e
    cases x <;> exact this
theorem am_fv_off (ad : Nat → Nat) (h : am_H) (c : Nat) (x : Int) (b : Nat) : ∀ (fks : List (Option Nat)) (i0 : Nat), b < i0 → am_fv ad (am_up h c b x) c i0 fks = am_fv ad h c i0 fks
  | [], _, _ => rfl
  | none :: r, i0, hb => by
    simp only [am_fv, am_fv_off ad h c x b r (i0 + 1) (by omega)]
    rw [show am_up h c b x c i0 = h c i0 from if_neg (by omega)]
  | some t :: r, i0, hb => by
    simp only [am_fv, am_fv_off ad h c x b r (i0 + 1) (by omega)]
theorem am_fv_set (ad : Nat → Nat) (h : am_H) (c : Nat) (x : Int) : ∀ (fks : List (Option Nat)) (i0 b : Nat), am_nth fks b = some none → (am_fv ad h c i0 fks).set b (.int (Int32.ofInt x)) = am_fv ad (am_up h c ((i0 + b : Nat) : Int) x) c i0 fks
  | [], _, b, e => by cases b <;> cases e
  | y :: r, i0, 0, e => by
    cases e
    simp only [am_fv, List.set_cons_zero, Nat.add_zero]
    rw [am_fv_off ad h c x i0 r (i0 + 1) (by omega), show am_up h c i0 x c i0 = x from if_pos ⟨rfl, rfl⟩]
  | y :: r, i0, b + 1, e => by
    have := am_fv_set ad h c x r (i0 + 1) b e
    rw [show i0 + 1 + b = i0 + (b + 1) by omega] at this
    cases y with
    | none =>
      simp only [am_fv, List.set_cons_succ]
      rw [this, show am_up h c ((i0 + (b + 1) : Nat) : Int) x c i0 = h c i0 from if_neg (by omega)]
    | some t =>
      simp only [am_fv, List.set_cons_succ]
      rw [this]
theorem am_w_set {ad : Nat → Nat} {cA : Nat → ClassId} {h h' : am_H} {c : Nat} (hc : c < 87) (hh : ∀ c', c' ≠ c → ∀ i, h' c' i = h c' i) : (am_w ad cA h).set c (ad c, am_en ad cA h' c) = am_w ad cA h' := by
  have hen : ∀ c', c' ≠ c → am_en ad cA h c' = am_en ad cA h' c' := by
    intro c' hne
    have h2 : h c' = h' c' := funext fun i => (hh c' hne i).symm
    have h3 : ∀ (fks : List (Option Nat)) (i : Nat), am_fv ad h c' i fks = am_fv ad h' c' i fks := by
      intro fks
      induction fks with
      | nil => intro i; rfl
      | cons x r ih => intro i; cases x <;> simp only [am_fv, ih, h2]
    unfold am_en
    split <;> simp only [h2, h3]
  apply List.ext_getElem?
  intro i
  by_cases hi : i < 87
  · rw [am_w_at _ _ _ hi]
    by_cases hic : i = c
    · subst hic
      rw [List.getElem?_set_self (by simp [am_w, hi])]
    · rw [List.getElem?_set_ne (Ne.symm hic), am_w_at _ _ _ hi, hen i hic]
  · rw [List.getElem?_eq_none (by simp [am_w]; omega), List.getElem?_eq_none (by simp [am_w]; omega)]
theorem am_w_inv {ad : Nat → Nat} {cA : Nat → ClassId} {h : am_H} {i : Nat} {q : Nat × va_E} (e : (am_w ad cA h)[i]? = some q) : i < 87 ∧ q = (ad i, am_en ad cA h i) := by
  have hi : i < 87 := by
    have := (List.getElem?_eq_some_iff.mp e).1
    simpa [am_w] using this
  rw [am_w_at _ _ _ hi] at e
  exact ⟨hi, (Option.some.inj e).symm⟩
theorem am_D_any {ad : Nat → Nat} {cA : Nat → ClassId} {h h' : am_H} {A A' : Nat → Prop} (hD : va_D A (am_w ad cA h)) (hA : ∀ c, c < 87 → A (ad c) → A' (ad c)) : va_D A' (am_w ad cA h') := by
  refine ⟨fun i j p q hp hq e => ?_, fun k q hq => ?_⟩
  · obtain ⟨h1, rfl⟩ := am_w_inv hp
    obtain ⟨h2, rfl⟩ := am_w_inv hq
    exact hD.1 i j _ _ (am_w_at ad cA h h1) (am_w_at ad cA h h2) e
  · obtain ⟨h1, rfl⟩ := am_w_inv hq
    exact hA k h1 (hD.2 k _ (am_w_at ad cA h h1))
def am_A (ad : Nat → Nat) (sz : Nat) : Nat → Prop := fun q => (∃ c, c < 87 ∧ q = ad c) ∨ sz ≤ q
def am_wd (ad : Nat → Nat) (cA : Nat → ClassId) (D : va_G) (A : Nat → Prop) (H0 : Heap) (h : am_H) (H : Heap) (locs : List Loc) : Prop := va_P D am_cl (am_w ad cA h) H ∧ va_D A (am_w ad cA h) ∧ va_S A H0 H locs
def am_Q (ad : Nat → Nat) (cA : Nat → ClassId) (D : va_G) (Q : am_P) (A : Nat → Prop) : Array Value → State → Outcome → State → Prop := fun _ st oc t =>
  (∃ (r : Option am_V) (h' : am_H), oc = .returned (r.map (am_c ad)) ∧ Q r h' ∧ va_P D am_cl (am_w ad cA h') t.heap ∧ va_K D am_cl (am_ty cA) t ∧ va_Nw am_nest t) ∧ va_F A st t
def am_Pc (ad : Nat → Nat) (cA : Nat → ClassId) (D : va_G) (args : List am_V) (h : am_H) (sz : Nat) : Array Value → State → Prop :=
  va_Pc (args.map (am_c ad)) (fun U => U.heap.size = sz ∧ va_P D am_cl (am_w ad cA h) U.heap ∧ va_K D am_cl (am_ty cA) U ∧ va_D (fun _ => True) (am_w ad cA h) ∧ va_Nw am_nest U)
theorem am_Pc_blind {ad : Nat → Nat} {cA : Nat → ClassId} {D : va_G} {args : List am_V} {h : am_H} {sz : Nat} : FrameBlind (am_Pc ad cA D args h sz) := by
  intro a U g mk q
  obtain ⟨q0, q1, qP, qK, qD, qN⟩ := q
  exact ⟨q0, q1, qP, va_K.moved (u := U) (U := U.calling g mk a) (Vm.Alike.refl U.vm) qK, qD, va_Nw.same (u := U) (U := U.calling g mk a) rfl rfl qN⟩
theorem am_mem_of_nth {α : Type} {l : List α} {i : Nat} {x : α} (h : am_nth l i = some x) : x ∈ l := by
  rw [am_nth_eq] at h
  exact List.mem_of_getElem? h
theorem am_at_mem {w : Nat} {c : Jvm.Cond} (h : am_at w c = true) : c ∈ am_tb := by
  simp only [am_at, Bool.and_eq_true, decide_eq_true_eq] at h
  refine List.mem_filter.mpr ⟨?_, h.2⟩
  have h1 := h.1
  unfold am_ats at h1
  have m1 : ∀ {x : Jvm.Cond}, x ∈ tables_1 → x ∈ lw_tbl := fun hx => List.mem_append_right _ hx
  split at h1
  · exact List.mem_append_left _ (am_mem_of_nth h1)
  · exact m1 (List.mem_append_left _ (am_mem_of_nth h1))
  · exact m1 (List.mem_append_right _ (List.mem_append_left _ (am_mem_of_nth h1)))
  · exact m1 (List.mem_append_right _ (List.mem_append_right _ (List.mem_append_left _ (am_mem_of_nth h1))))
  · exact m1 (List.mem_append_right _ (List.mem_append_right _ (List.mem_append_right _ (List.mem_append_left _ (am_mem_of_nth h1)))))
  · exact m1 (List.mem_append_right _ (List.mem_append_right _ (List.mem_append_right _ (List.mem_append_right _ (am_mem_of_nth h1)))))
theorem am_tb_good {c : Jvm.Cond} (h : c ∈ am_tb) : c ∈ am_tb ∧ ((c.onTables && c.keeps) = true ∨ ∃ ty, c = .arrayClass ty) := ⟨h, good_of_word (List.mem_filter.mp h).2⟩
set_option maxRecDepth 100000 in
theorem am_cl0 : ∀ w ∈ u_ws RX0 TX0 5 ++ u_ws RX1 TX1 8 ++ u_ws RX2 TX2 7 ++ u_ws RX3 TX3 8, w ∈ am_tb := by decide +kernel
set_option maxRecDepth 100000 in
theorem am_cl1 : ∀ w ∈ u_ws RX4 TX4 13 ++ u_ws RX5 TX5 7 ++ u_ws RX6 TX6 11, w ∈ am_tb := by decide +kernel
set_option maxRecDepth 100000 in
theorem am_cl2 : ∀ w ∈ u_ws RX7 TX7 35, w ∈ am_tb := by decide +kernel
theorem am_cls {ci N : Nat} {C : String} {T : u_T} (h : am_cl[ci]? = some (C, T, N)) : ci < 8 ∧ (∀ w ∈ u_ws C T N, w ∈ am_tb) ∧ (∃ ty0 : Nat → FieldType, ∀ k, k < N → parseFieldDescriptor (T k).2.2.1 = some (ty0 k)) ∧ ∀ a, a < N → ∀ b, b < N → a ≠ b → (T a).2.1 ≠ (T b).2.1 := by
  match ci, h with
  | 0, h => cases h; exact ⟨by decide, fun w hw => am_cl0 w (by simp only [List.mem_append]; exact Or.inl (Or.inl (Or.inl hw))), ⟨_, tyX0_ok⟩, nmX0⟩
  | 1, h => cases h; exact ⟨by decide, fun w hw => am_cl0 w (by simp only [List.mem_append]; exact Or.inl (Or.inl (Or.inr hw))), ⟨_, tyX1_ok⟩, nmX1⟩
  | 2, h => cases h; exact ⟨by decide, fun w hw => am_cl0 w (by simp only [List.mem_append]; exact Or.inl (Or.inr hw)), ⟨_, tyX2_ok⟩, nmX2⟩
  | 3, h => cases h; exact ⟨by decide, fun w hw => am_cl0 w (by simp only [List.mem_append]; exact Or.inr hw), ⟨_, tyX3_ok⟩, nmX3⟩
  | 4, h => cases h; exact ⟨by decide, fun w hw => am_cl1 w (by simp only [List.mem_append]; exact Or.inl (Or.inl hw)), ⟨_, tyX4_ok⟩, nmX4⟩
  | 5, h => cases h; exact ⟨by decide, fun w hw => am_cl1 w (by simp only [List.mem_append]; exact Or.inl (Or.inr hw)), ⟨_, tyX5_ok⟩, nmX5⟩
  | 6, h => cases h; exact ⟨by decide, fun w hw => am_cl1 w (by simp only [List.mem_append]; exact Or.inr hw), ⟨_, tyX6_ok⟩, nmX6⟩
  | 7, h => cases h; exact ⟨by decide, fun w hw => am_cl2 w hw, ⟨_, tyX7_ok⟩, nmX7⟩
  | k + 8, h => simp [am_cl] at h
