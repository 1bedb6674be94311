/-! the reference's state as numbers; what holds between the two objects between calls -/
theorem am_f0 : ((0 : Fin 4) : Nat) = 0 := rfl
theorem am_f1 : ((1 : Fin 4) : Nat) = 1 := rfl
theorem am_f2 : ((2 : Fin 4) : Nat) = 2 := rfl
theorem am_f3 : ((3 : Fin 4) : Nat) = 3 := rfl
theorem am_nc0 : ((0 : Nat) : Int) = 0 := rfl
theorem am_nc1 : ((1 : Nat) : Int) = 1 := rfl
theorem am_up_at (h : am_H) (c : Nat) (i v : Int) (c' : Nat) (i' : Int) : am_up h c i v c' i' = if c' = c ∧ i' = i then v else h c' i' := rfl
theorem am_stw_0 (x : Option am_V) (r : am_L) (v : am_V) : am_stw (x :: r) 0 v = some (some v :: r) := by rw [am_stw]
theorem am_stw_i (y : Int) (r : am_L) (n : Nat) (v : am_V) : am_stw (some (.inl y) :: r) (n + 1) v = (match am_stw r n v with
    | some r' => some (some (.inl y) :: r')
    | none => none) := by
  rw [am_stw]
  · cases am_stw r n v <;> rfl
  · intro a e; cases e
theorem am_stw_n (r : am_L) (n : Nat) (v : am_V) : am_stw (none :: r) (n + 1) v = (match am_stw r n v with
    | some r' => some (none :: r')
    | none => none) := by
  rw [am_stw]
  · cases am_stw r n v <;> rfl
  · intro a e; cases e
theorem am_stw_a (y : Option Nat) (r : am_L) (n : Nat) (v : am_V) : am_stw (some (.inr (.inr y)) :: r) (n + 1) v = (match am_stw r n v with
    | some r' => some (some (.inr (.inr y)) :: r')
    | none => none) := by
  rw [am_stw]
  · cases am_stw r n v <;> rfl
  · intro a e; cases e
theorem am_stw_l (y : Int64) (r : am_L) (n : Nat) (v : am_V) : am_stw (some (.inr (.inl y)) :: r) (n + 2) v = (match am_stw r (n + 1) v with
    | some r' => some (some (.inr (.inl y)) :: r')
    | none => none) := by
  rw [am_stw]
  · cases am_stw r (n + 1) v <;> rfl
  · intro a _ e; omega
theorem am_leaf {Q : am_P} {x y : Int} {h : am_H} (hQ : Q (some (.inl x)) h) (e : y = x) : Q (some (.inl y)) h := by rw [e]; exact hQ
abbrev sg_S : Type := Int × Int × (Int → Int) × (Int → Int) × (Int → Int) × (Int → Int) × (Int → Int) × (Int → Int) × (Int → Int)
def sg_U (S : sg_S) : Int := S.1
def sg_G (S : sg_S) : Int := S.2.1
def sg_ri (S : sg_S) : Int → Int := S.2.2.1
def sg_rm (S : sg_S) : Int → Int := S.2.2.2.1
def sg_pl (S : sg_S) : Int → Int := S.2.2.2.2.1
def sg_kd (S : sg_S) : Int → Int := S.2.2.2.2.2.1
def sg_pc (S : sg_S) : Int → Int := S.2.2.2.2.2.2.1
def sg_fr (S : sg_S) : Int → Int := S.2.2.2.2.2.2.2.1
def sg_la (S : sg_S) : Int → Int := S.2.2.2.2.2.2.2.2
/-- the reference's city and motion -/
def sg_of (h : am_H) : sg_S := (h 86 4, h 86 5, h 51, h 52, h 53, h 54, h 55, h 56, h 57)
def sg_ok (S : sg_S) : Prop := (12 ≤ sg_U S ∧ sg_U S ≤ 54 ∧ sg_U S % 6 = 0) ∧ (0 ≤ sg_G S ∧ sg_G S ≤ 8) ∧
  (∀ g, 0 ≤ g → g < sg_G S → (0 ≤ sg_ri S g ∧ sg_ri S g ≤ 2) ∧ (sg_rm S g = 0 ∨ sg_rm S g = 1) ∧ (0 ≤ sg_pl S g ∧ sg_pl S g < sg_U S) ∧ (0 ≤ sg_kd S g ∧ sg_kd S g ≤ 4)) ∧
  (∀ r, 0 ≤ r → r ≤ 2 → (-9 ≤ sg_pc S r ∧ sg_pc S r ≤ 9) ∧ (0 ≤ sg_fr S r ∧ sg_fr S r ≤ 400) ∧ (0 ≤ sg_la S r ∧ sg_la S r ≤ 99))
/-- the plan is the reference's city -/
def iv_c (h : am_H) : Prop := h 78 0 = h 86 4 ∧ h 78 1 = h 86 5 ∧ ∀ g, 0 ≤ g → g < h 86 5 → h 6 g = h 51 g ∧ h 7 g = h 52 g ∧ h 8 g = h 53 g ∧ h 9 g = h 54 g
/-- paces and brakes are the reference's -/
def iv_m (h : am_H) : Prop := ∀ r, 0 ≤ r → r ≤ 2 → h 11 r = h 55 r ∧ h 12 r = h 56 r ∧ h 13 r = h 57 r ∧ h 56 r ≤ 99
def iv_t (h : am_H) : Prop := h 75 1 = h 86 2 ∧ (0 ≤ h 86 2 ∧ h 86 2 ≤ 60) ∧ ∀ i, 0 ≤ i → i < h 86 2 → h 0 i = h 50 i ∧ 0 ≤ h 50 i ∧ h 50 i ≤ 255
/-- a row of what is seen is good -/
def iv_v (h : am_H) (a b t : Int) : Prop := (0 ≤ a ∧ a < h 86 5) ∧ (0 ≤ b ∧ b < h 86 5) ∧ (0 ≤ t ∧ t < 300) ∧ h 51 a ≠ h 51 b
def iv_s (h : am_H) : Prop := h 79 6 = h 86 21 ∧ (0 ≤ h 86 21 ∧ h 86 21 ≤ 8) ∧ ∀ i, 0 ≤ i → i ≤ 7 → h 14 i = h 63 i ∧ h 15 i = h 64 i ∧ h 16 i = h 65 i ∧ (i < h 86 21 → iv_v h (h 63 i) (h 64 i) (h 65 i))
/-- a slot: its object o, its arrays from c on, its number s -/
def iv_k (h : am_H) (o c : Nat) (s : Int) : Prop := (h o 7 = h 67 s ∧ (h 67 s = 0 ∨ h 67 s = 1)) ∧ (h 67 s = 1 →
  (∀ r, 0 ≤ r → r ≤ 2 → (h c r = h 66 (40 * s + r) ∧ h (c + 1) r = h 66 (40 * s + 3 + r) ∧ h (c + 2) r = h 66 (40 * s + 6 + r)) ∧ (-9 ≤ h c r ∧ h c r ≤ 9) ∧ (0 ≤ h (c + 1) r ∧ h (c + 1) r ≤ 99) ∧ (0 ≤ h (c + 2) r ∧ h (c + 2) r ≤ 99)) ∧
  (h o 6 = h 66 (40 * s + 33) ∧ 0 ≤ h o 6 ∧ h o 6 ≤ 8) ∧
  (∀ i, 0 ≤ i → i ≤ 7 → h (c + 3) i = h 66 (40 * s + 9 + i) ∧ h (c + 4) i = h 66 (40 * s + 17 + i) ∧ h (c + 5) i = h 66 (40 * s + 25 + i) ∧ (i < h o 6 → iv_v h (h (c + 3) i) (h (c + 4) i) (h (c + 5) i))))
/-- the table: pairs of gates that can be opposite, and the waits' stamps -/
def iv_p (h : am_H) : Prop := (0 ≤ h 83 9 ∧ h 83 9 ≤ 16) ∧
  (∀ a b, 0 ≤ a → a < h 86 5 → 0 ≤ b → b < h 86 5 → (h 36 (8 * a + b) = -1 ∨ (0 ≤ h 36 (8 * a + b) ∧ h 36 (8 * a + b) < h 83 9)) ∧ h 36 (8 * a + b) = h 36 (8 * b + a) ∧
    (h 36 (8 * a + b) ≠ -1 ↔ ((h 51 a + 1 = h 51 b ∧ h 52 a = 0 ∧ h 52 b = 1) ∨ (h 51 b + 1 = h 51 a ∧ h 52 b = 0 ∧ h 52 a = 1))) ∧
    (h 51 a + 1 = h 51 b → h 36 (8 * a + b) ≠ -1 →
      h 37 (h 36 (8 * a + b)) = (if h 54 a = 1 ∨ h 54 b = 1 then 1 else 0) ∧
      h 38 (h 36 (8 * a + b)) = (h 53 a - h 53 b + (if h 54 a = 1 ∨ h 54 b = 1 then 1 else 0)) % h 86 4 ∧
      h 39 (h 36 (8 * a + b)) = (if h 54 a = 3 then 1 else 0) - (if h 54 b = 3 then 1 else 0) ∧
      h 40 (h 36 (8 * a + b)) = (if h 54 a = 4 ∨ h 54 b = 4 then 1 else 0) ∧
      h 41 (h 36 (8 * a + b)) = h 51 a))
def iv_w (h : am_H) (k : Int) : Prop := (0 ≤ h 83 10 ∧ h 83 10 ≤ 60 * k) ∧ ∀ i, 0 ≤ i → i < 8080 → 0 ≤ h 42 i ∧ h 42 i < 1024 * (h 83 10 + 1)
/-- what holds between calls, k of them done -/
def iv (h : am_H) (k : Int) : Prop := sg_ok (sg_of h) ∧ iv_c h ∧ iv_m h ∧ iv_t h ∧ iv_s h ∧ iv_k h 81 23 0 ∧ iv_k h 82 29 1 ∧ iv_p h ∧ iv_w h k
def rg_post (k : Int) (o : Option am_V) : am_P := fun o' h => o' = o ∧ (∃ x : Int, o = some (.inl x) ∧ am_R x) ∧ iv h (k + 1)
/-- the two objects answer alike, and go on alike -/
def rg_pair (j j' : Nat) (as : List am_V) (h : am_H) (k : Int) : Prop := am_Call j (.inr (.inr (some 75)) :: as) h fun o h1 => am_Call j' (.inr (.inr (some 86)) :: as) h1 (rg_post k o)
