/-! waits: their stamps, and what is waited for -/
theorem wt_and {w : Int} (h : 0 ≤ w ∧ w ≤ 2147483647) : am_and w 1023 = w % 1024 := by
  obtain ⟨n, rfl⟩ : ∃ n : Nat, w = (n : Int) := ⟨w.toNat, by omega⟩
  rw [am_and_eq, am_cast, show Int32.ofInt 1023 = (1023 : Int32) by decide]
  have := pk_andN (n := n) (by omega) (m := 1023) 10 (by decide)
  rw [show Int32.ofNat n = nI n from rfl, this, nI_toInt (by omega)]
  omega
theorem wt_shr {w : Int} (h : 0 ≤ w ∧ w ≤ 2147483647) : am_shr w 10 = w / 1024 := by
  obtain ⟨n, rfl⟩ : ∃ n : Nat, w = (n : Int) := ⟨w.toNat, by omega⟩
  rw [am_shr_eq, am_cast]
  have := pk_shrN (n := n) (by omega) (Int32.ofInt 10 &&& 31) 10 (by decide)
  rw [show Int32.ofNat n = nI n from rfl, this, nI_toInt (by omega)]
  omega
theorem wt_shl {l : Int} (h : 0 ≤ l ∧ l ≤ 1000000) : am_shl l 10 = 1024 * l := by
  obtain ⟨n, rfl⟩ : ∃ n : Nat, l = (n : Int) := ⟨l.toNat, by omega⟩
  rw [am_shl_eq, am_cast]
  have := pk_shlN (n := n) (Int32.ofInt 10 &&& 31) 10 (by decide) (by omega)
  rw [show Int32.ofNat n = nI n from rfl, this, nI_toInt (by omega)]
  omega
theorem wt_orN (a b : Nat) : nI a ||| nI b = nI (a ||| b) := by
  apply Int32.toBitVec_inj.1
  show BitVec.ofNat 32 a ||| BitVec.ofNat 32 b = BitVec.ofNat 32 (a ||| b)
  apply BitVec.eq_of_getLsbD_eq
  intro i hi
  simp [hi]
theorem wt_or {l w : Int} (h : 0 ≤ l ∧ l ≤ 1000000) (hw : 0 ≤ w ∧ w < 1024) : am_or (1024 * l) w = 1024 * l + w := by
  obtain ⟨n, rfl⟩ : ∃ n : Nat, l = (n : Int) := ⟨l.toNat, by omega⟩
  obtain ⟨v, rfl⟩ : ∃ v : Nat, w = (v : Int) := ⟨w.toNat, by omega⟩
  rw [am_or_eq, show (1024 : Int) * (n : Int) = ((2 ^ 10 * n : Nat) : Int) by omega, am_cast, am_cast]
  show (nI (2 ^ 10 * n) ||| nI v).toInt = _
  rw [wt_orN, ← Nat.two_pow_add_eq_or_of_lt (by omega), nI_toInt (by omega)]
  omega
/-- the pair of an outer and an inner gate, as the table has it, at a second -/
def pp_at (S : sg_S) (o n t : Int) : Prop := sg_near S o n (sg_at S o t) (sg_at S n t) ∧ ¬ sg_lt S o n t
theorem pp_p {S : sg_S} (hS : sg_ok S) (hF : tb_fit S) {o n : Int} (ho : 0 ≤ o ∧ o < sg_G S) (hn : 0 ≤ n ∧ n < sg_G S) {t m : Int} (h1 : tb_st S ≤ t) (h2 : tb_st S ≤ t + sg_U S * m) : pp_at S o n (t + sg_U S * m) ↔ pp_at S o n t := by
  unfold pp_at sg_lt
  rw [sg_at_p hS hF ho h1 h2, sg_at_p hS hF hn h1 h2, (sg_par hS t m).2]
theorem pp_f {S : sg_S} (hS : sg_ok S) (hF : tb_fit S) {o n : Int} (ho : 0 ≤ o ∧ o < sg_G S) (hn : 0 ≤ n ∧ n < sg_G S) {t x : Int} (ht : 0 ≤ t) (hx : 0 ≤ x) : pp_at S o n (tb_fo S t + x) ↔ pp_at S o n (t + x) := by
  rcases tb_fo_c hS hF ht with e | ⟨h1, m, e⟩
  · rw [e]
  · have hU := hS.1
    have h2 : tb_st S ≤ t := by
      by_cases q : t < tb_st S + sg_U S
      · have : tb_fo S t = t := if_pos q
        omega
      · omega
    have := pp_p hS hF ho hn (t := tb_fo S t + x) (m := m) (by omega) (by rw [show tb_fo S t + x + sg_U S * m = t + x by omega]; omega)
    rw [show tb_fo S t + x + sg_U S * m = t + x by omega] at this
    exact this.symm
/-- w is how long the pair is waited for from t on; 1023: for ever -/
def wt_is (S : sg_S) (o n t w : Int) : Prop := (w = 1023 → ∀ q, t ≤ q → ¬ pp_at S o n q) ∧ (w ≠ 1023 → 0 ≤ w ∧ pp_at S o n (t + w) ∧ ∀ q, t ≤ q → q < t + w → ¬ pp_at S o n q)
theorem wt_is_lt {S : sg_S} (hS : sg_ok S) (hF : tb_fit S) {o n : Int} (ho : 0 ≤ o ∧ o < sg_G S) (hn : 0 ≤ n ∧ n < sg_G S) {t w : Int} (ht : 0 ≤ t) (hw : 0 ≤ w) (h1 : pp_at S o n (t + w)) (h2 : ∀ q, t ≤ q → q < t + w → ¬ pp_at S o n q) : w < 505 := by
  have st := (tb_st_r hS hF).1
  have hU := hS.1
  by_cases c : w < 505
  · exact c
  · exfalso
    have := per_all (P := fun q => ¬ pp_at S o n q) (st := tb_st S) (U := sg_U S) (t := t) (by omega) (fun q m q1 q2 => by rw [pp_p hS hF ho hn q1 q2]) (fun q q1 q2 => h2 q q1 (by split at q2 <;> omega))
    exact this (t + w) (by omega) h1
/-- the second that the class's walk through the table comes to next -/
theorem tb_fo_s {S : sg_S} (hS : sg_ok S) (hF : tb_fit S) {t : Int} (ht : 0 ≤ t) : tb_fo S (t + 1) = (if tb_fo S t + 1 < tb_st S + sg_U S then tb_fo S t + 1 else tb_st S) := by
  have st := (tb_st_r hS hF).1
  have hU := hS.1
  have : sg_U S = 12 ∨ sg_U S = 18 ∨ sg_U S = 24 ∨ sg_U S = 30 ∨ sg_U S = 36 ∨ sg_U S = 42 ∨ sg_U S = 48 ∨ sg_U S = 54 := by omega
  unfold tb_fo
  generalize tb_st S = s at st ⊢
  rcases this with e | e | e | e | e | e | e | e <;> rw [e] <;> (repeat' split) <;> omega
