/-! numbers: an Int and the Int32 that it stands for -/
theorem am_toI {x : Int} (h : am_R x) : (Int32.ofInt x).toInt = x := Int32.toInt_ofInt_of_le (by have := h.1; omega) (by have := h.2; omega)
theorem am_clamp {x : Int} (h : am_R x) : (Int32.ofInt x).toNatClampNeg = x.toNat := by
  show (Int32.ofInt x).toInt.toNat = x.toNat
  rw [am_toI h]
theorem am_ofI (x : Int32) : Int32.ofInt x.toInt = x := Int32.ofInt_toInt x
theorem am_vpin {i : Int} {n : Nat} (h : 0 ≤ i ∧ i < n) (hn : n < 2147483648) : vp_in (Int32.ofInt i) n := by
  rw [vp_in_iff, am_toI ⟨by omega, by omega⟩]
  exact h
theorem am_lt {x y : Int} (hx : am_R x) (hy : am_R y) : (Int32.ofInt x < Int32.ofInt y) ↔ x < y := by rw [Int32.lt_iff_toInt_lt, am_toI hx, am_toI hy]
theorem am_le {x y : Int} (hx : am_R x) (hy : am_R y) : (Int32.ofInt x ≤ Int32.ofInt y) ↔ x ≤ y := by rw [Int32.le_iff_toInt_le, am_toI hx, am_toI hy]
theorem am_eq {x y : Int} (hx : am_R x) (hy : am_R y) : (Int32.ofInt x = Int32.ofInt y) ↔ x = y := by rw [← Int32.toInt_inj, am_toI hx, am_toI hy]
theorem am_R0 : am_R 0 := ⟨by decide, by decide⟩
theorem am_of0 : Int32.ofInt 0 = 0 := by decide
theorem am_add (x y : Int) : Int32.ofInt x + Int32.ofInt y = Int32.ofInt (x + y) := (Int32.ofInt_add x y).symm
theorem am_sub (x y : Int) : Int32.ofInt x - Int32.ofInt y = Int32.ofInt (x - y) := (Int32.ofInt_sub x y).symm
theorem am_mul (x y : Int) : Int32.ofInt x * Int32.ofInt y = Int32.ofInt (x * y) := (Int32.ofInt_mul x y).symm
theorem am_neg (x : Int) : -Int32.ofInt x = Int32.ofInt (-x) := (Int32.ofInt_neg x).symm
theorem am_div {x y : Int} (hx : am_R x) (hy : 0 < y ∧ y ≤ 2147483647) : Int32.ofInt x / Int32.ofInt y = Int32.ofInt (x.tdiv y) := by
  rw [← Int32.toInt_inj, Int32.toInt_div, am_toI hx, am_toI ⟨by omega, by omega⟩, Int32.toInt_ofInt]
theorem am_rem {x y : Int} (hx : am_R x) (hy : 0 < y ∧ y ≤ 2147483647) : Int32.ofInt x - Int32.ofInt x / Int32.ofInt y * Int32.ofInt y = Int32.ofInt (x.tmod y) := by
  rw [am_div hx hy, am_mul, am_sub, Int.tmod_def, Int.mul_comm]
theorem am_ne0 {y : Int} (hy : 0 < y ∧ y ≤ 2147483647) : ¬ Int32.ofInt y = 0 := by
  rw [← am_of0, am_eq ⟨by omega, by omega⟩ am_R0]; omega
theorem am_lcmp_eq (x y : Int64) : Int32.ofInt (am_lcmp x y) = lg_cmp x y := by
  unfold am_lcmp lg_cmp
  split
  · decide
  · split <;> decide
theorem am_cast (n : Nat) : Int32.ofInt (n : Int) = Int32.ofNat n := Int32.ofInt_eq_ofNat
theorem am_lofI (x : Int64) : Int64.ofInt x.toInt = x := Int64.ofInt_toInt x
theorem am_zb {x : Int} (h : x = 0 ∨ x = 1) : narrow .boolean (.int (Int32.ofInt x)) = .int (Int32.ofInt x) ∧ fits .boolean (.int (Int32.ofInt x)) = true ∧ vp_nar .boolean (Int32.ofInt x) = Int32.ofInt x := by
  rcases h with rfl | rfl <;> exact ⟨by decide +kernel, by decide +kernel, by decide +kernel⟩
theorem am_ib (x : Int32) : narrow .int (.int x) = .int x ∧ fits .int (.int x) = true := ⟨rfl, rfl⟩
/-! lists -/
theorem am_nth_eq {α : Type} : ∀ (l : List α) (i : Nat), am_nth l i = l[i]?
  | [], _ => rfl
  | _ :: _, 0 => rfl
  | _ :: r, n + 1 => by rw [am_nth, am_nth_eq r n]; rfl
theorem am_nth_lt {α : Type} {l : List α} {i : Nat} {x : α} (h : am_nth l i = some x) : i < l.length := by
  rw [am_nth_eq] at h
  exact (List.getElem?_eq_some_iff.mp h).1
theorem am_stw_spec : ∀ (ls : am_L) (i : Nat) (v : am_V) (ls' : am_L), am_stw ls i v = some ls' →
    (∀ j, am_nth ls' j = if j = i then some (some v) else am_nth ls j) ∧ i < ls.length ∧ ls'.length = ls.length ∧ ∀ j x, j + 1 = i → am_nth ls j ≠ some (some (.inr (.inl x)))
  | [], i, v, ls', h => by cases i <;> simp [am_stw] at h
  | x :: r, 0, v, ls', h => by
    rw [am_stw] at h
    cases h
    refine ⟨fun j => ?_, Nat.succ_pos _, rfl, fun j x h => by omega⟩
    cases j with
    | zero => rfl
    | succ j => rw [if_neg (by omega)]; rfl
  | x :: r, n + 1, v, ls', h => by
    have key : ∃ r', am_stw r n v = some r' ∧ ls' = x :: r' ∧ ∀ y, n = 0 → x ≠ some (.inr (.inl y)) := by
      cases n with
      | zero =>
        rcases x with _ | x | x | x
        · rw [am_stw] at h
          · cases hr : am_stw r 0 v with
            | none => rw [hr] at h; cases h
            | some r' => rw [hr] at h; cases h; exact ⟨r', rfl, rfl, fun y _ e => by cases e⟩
          · intro a b e; cases b
        · rw [am_stw] at h
          · cases hr : am_stw r 0 v with
            | none => rw [hr] at h; cases h
            | some r' => rw [hr] at h; cases h; exact ⟨r', rfl, rfl, fun y _ e => by cases e⟩
          · intro a b e; cases b
        · rw [am_stw] at h; cases h
        · rw [am_stw] at h
          · cases hr : am_stw r 0 v with
            | none => rw [hr] at h; cases h
            | some r' => rw [hr] at h; cases h; exact ⟨r', rfl, rfl, fun y _ e => by cases e⟩
          · intro a b e; cases b
      | succ n =>
        rw [am_stw] at h
        · cases hr : am_stw r (n + 1) v with
          | none => rw [hr] at h; cases h
          | some r' => rw [hr] at h; cases h; exact ⟨r', rfl, rfl, fun y e => by omega⟩
        · intro a b e; omega
    obtain ⟨r', h1, rfl, h3⟩ := key
    obtain ⟨g1, g2, g3, g4⟩ := am_stw_spec r n v r' h1
    refine ⟨fun j => ?_, by simp only [List.length_cons]; omega, by simp only [List.length_cons]; omega, fun j y hj => ?_⟩
    · cases j with
      | zero => rw [if_neg (by omega)]; rfl
      | succ j =>
        show am_nth r' j = _
        rw [g1 j]
        by_cases hj : j = n
        · rw [if_pos hj, if_pos (by omega)]
        · rw [if_neg hj, if_neg (by omega)]; rfl
    · cases j with
      | zero =>
        intro e
        exact h3 y (by omega) (Option.some.inj e)
      | succ j => exact g4 j y (by omega)
def am_c (ad : Nat → Nat) : am_V → Value
  | .inl x => .int (Int32.ofInt x)
  | .inr (.inl y) => .long y
  | .inr (.inr (some k)) => .ref (ad k)
  | .inr (.inr none) => .null
theorem am_c_cat (ad : Nat → Nat) (v : am_V) : (am_c ad v).category = 2 ↔ ∃ x, v = .inr (.inl x) := by
  rcases v with x | x | _ | x <;> simp [am_c, Value.category]
def am_al (ad : Nat → Nat) : Nat → am_L → List (Nat × Value)
  | _, [] => []
  | i, none :: r => am_al ad (i + 1) r
  | i, some v :: r => (i, am_c ad v) :: am_al ad (i + 1) r
theorem am_al_mem {ad : Nat → Nat} : ∀ (ls : am_L) (i0 i : Nat) (v : am_V), am_nth ls i = some (some v) → (i0 + i, am_c ad v) ∈ am_al ad i0 ls
  | [], _, i, _, h => by cases i <;> cases h
  | x :: r, i0, 0, v, h => by
    cases h
    exact List.mem_cons_self
  | x :: r, i0, i + 1, v, h => by
    have := am_al_mem (ad := ad) r (i0 + 1) i v h
    rw [show i0 + (i + 1) = i0 + 1 + i by omega]
    cases x with
    | none => exact this
    | some x => exact List.mem_cons_of_mem _ this
theorem am_al_inv {ad : Nat → Nat} : ∀ (ls : am_L) (i0 : Nat) (q : Nat × Value), q ∈ am_al ad i0 ls → ∃ i v, am_nth ls i = some (some v) ∧ q = (i0 + i, am_c ad v)
  | [], _, q, h => by cases h
  | none :: r, i0, q, h => by
    obtain ⟨i, v, h1, h2⟩ := am_al_inv r (i0 + 1) q h
    exact ⟨i + 1, v, h1, by rw [h2, show i0 + 1 + i = i0 + (i + 1) by omega]⟩
  | some x :: r, i0, q, h => by
    rcases List.mem_cons.mp h with h | h
    · exact ⟨0, x, rfl, h⟩
    · obtain ⟨i, v, h1, h2⟩ := am_al_inv r (i0 + 1) q h
      exact ⟨i + 1, v, h1, by rw [h2, show i0 + 1 + i = i0 + (i + 1) by omega]⟩
def am_lv (ad : Nat → Nat) (lsC : Array Slot) (nL : Nat) (ls : am_L) : Prop := lv_has lsC nL (am_al ad 0 ls) ∧ ls.length ≤ nL
theorem am_lv_at {ad : Nat → Nat} {lsC : Array Slot} {nL : Nat} {ls : am_L} (h : am_lv ad lsC nL ls) {i : Nat} {v : am_V} (hi : am_nth ls i = some (some v)) : lsC[i]? = some (.val (am_c ad v)) := by
  have := h.1.2.2 _ (am_al_mem (ad := ad) ls 0 i v hi)
  rwa [Nat.zero_add] at this
theorem am_lv_st {ad : Nat → Nat} {lsC : Array Slot} {nL : Nat} {ls ls' : am_L} {i : Nat} {v : am_V} (h : am_lv ad lsC nL ls) (hs : am_stw ls i v = some ls') : i < nL ∧ ∀ lsC' : Array Slot,
    lv_has lsC' nL ((i, am_c ad v) :: (am_al ad 0 ls).filter (fun q => !(q.1 == i) && !(q.1 + 1 == i && q.2.category == 2))) → am_lv ad lsC' nL ls' := by
  obtain ⟨g1, g2, g3, g4⟩ := am_stw_spec ls i v ls' hs
  refine ⟨by have := h.2; omega, fun lsC' h' => ⟨⟨h'.1, h'.2.1, fun q hq => ?_⟩, by have := h.2; omega⟩⟩
  obtain ⟨j, w, h1, rfl⟩ := am_al_inv ls' 0 q hq
  apply h'.2.2
  rw [g1 j] at h1
  by_cases hj : j = i
  · rw [if_pos hj] at h1
    cases h1
    rw [hj, Nat.zero_add]
    exact List.mem_cons_self
  · rw [if_neg hj] at h1
    refine List.mem_cons_of_mem _ (List.mem_filter.mpr ⟨am_al_mem ls 0 j w h1, ?_⟩)
    simp only [Nat.zero_add, Bool.and_eq_true, Bool.not_eq_true', beq_eq_false_iff_ne, Bool.and_eq_false_iff]
    refine ⟨hj, ?_⟩
    by_cases hj1 : j + 1 = i
    · right
      intro hc
      obtain ⟨x, rfl⟩ := (am_c_cat ad w).mp hc
      exact g4 j x hj1 h1
    · exact Or.inl hj1
theorem am_cat_eq (ad : Nat → Nat) : ∀ st : am_S, ((st.map (am_c ad)).map fun v => v.category).sum = am_cat st
  | [] => rfl
  | v :: r => by
    have := am_cat_eq ad r
    rcases v with x | x | _ | x <;> simp [am_c, Value.category, am_cat] at this ⊢ <;> omega
theorem am_sl_len (ad : Nat → Nat) : ∀ vs : List am_V, (lg_sl (vs.map (am_c ad))).length = am_cat vs
  | [] => rfl
  | v :: r => by
    have := am_sl_len ad r
    rcases v with x | x | _ | x <;> simp [lg_sl, am_c, Value.category, am_cat] at this ⊢ <;> omega
theorem am_pad_len : ∀ (n : Nat) (vs : List am_V), (am_pad n vs).length = n
  | 0, vs => by cases vs <;> rfl
  | n + 1, [] => by simp [am_pad, am_pad_len n []]
  | n + 1, .inl x :: r => by simp [am_pad, am_pad_len n r]
  | n + 1, .inr (.inr x) :: r => by simp [am_pad, am_pad_len n r]
  | 1, .inr (.inl x) :: r => by simp [am_pad]
  | n + 2, .inr (.inl x) :: r => by simp [am_pad, am_pad_len n r]
theorem am_pad_mem (ad : Nat → Nat) : ∀ (n i0 : Nat) (vs : List am_V) (q : Nat × Value), q ∈ am_al ad i0 (am_pad n vs) → q ∈ lv_args i0 (vs.map (am_c ad))
  | 0, i0, vs, q, h => by cases vs <;> cases h
  | n + 1, i0, [], q, h => by
    have := am_pad_mem ad n (i0 + 1) [] q (by simpa [am_pad, am_al] using h)
    cases this
  | n + 1, i0, .inl x :: r, q, h => by
    simp only [am_pad, am_al, List.mem_cons] at h
    simp only [List.map_cons, lv_args, List.mem_cons]
    rcases h with h | h
    · exact Or.inl h
    · exact Or.inr (by simpa [am_c, Value.category] using am_pad_mem ad n (i0 + 1) r q h)
  | n + 1, i0, .inr (.inr x) :: r, q, h => by
    simp only [am_pad, am_al, List.mem_cons] at h
    simp only [List.map_cons, lv_args, List.mem_cons]
    rcases h with h | h
    · exact Or.inl h
    · refine Or.inr ?_
      have := am_pad_mem ad n (i0 + 1) r q h
      rcases x with _ | x <;> simpa [am_c, Value.category] using this
  | 1, i0, .inr (.inl x) :: r, q, h => by
    simp only [am_pad, am_al, List.mem_cons] at h
    simp only [List.map_cons, lv_args, List.mem_cons]
    rcases h with h | h
    · exact Or.inl h
    · cases h
  | n + 2, i0, .inr (.inl x) :: r, q, h => by
    simp only [am_pad, am_al, List.mem_cons] at h
    simp only [List.map_cons, lv_args, List.mem_cons]
    rcases h with h | h
    · exact Or.inl h
    · refine Or.inr ?_
      have := am_pad_mem ad n (i0 + 1 + 1) r q h
      simpa [am_c, Value.category] using this
