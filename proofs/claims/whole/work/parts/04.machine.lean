/-! the abstract machine: ints are Int (standing for their Int32), longs are Int64, references are numbers of cells; the heap is a table of numbers -/
abbrev am_V : Type := Int ⊕ (Int64 ⊕ Option Nat)
abbrev am_H : Type := Nat → Int → Int
abbrev am_L : Type := List (Option am_V)
abbrev am_S : Type := List am_V
abbrev am_P : Type := Option am_V → am_H → Prop
def am_up (h : am_H) (c : Nat) (i v : Int) : am_H := fun c' i' => if c' = c ∧ i' = i then v else h c' i'
def am_cp (h : am_H) (s : Nat) (sp : Int) (d : Nat) (dp n : Int) : am_H := fun c i => if c = d ∧ dp ≤ i ∧ i < dp + n then h s (sp + (i - dp)) else h c i
def am_R (x : Int) : Prop := -2147483648 ≤ x ∧ x ≤ 2147483647
def am_lcmp (x y : Int64) : Int := if x > y then 1 else if x = y then 0 else -1
/-! what is computed of bits is kept closed: the kernel must not run it -/
theorem am_opq {α : Type} (z : α) : ∃ w : α, w = z := ⟨z, rfl⟩
noncomputable def am_oq {α : Type} (z : α) : α := Classical.choose (am_opq z)
theorem am_oq_eq {α : Type} (z : α) : am_oq z = z := Classical.choose_spec (am_opq z)
noncomputable def am_and (x y : Int) : Int := am_oq (Int32.ofInt x &&& Int32.ofInt y).toInt
noncomputable def am_or (x y : Int) : Int := am_oq (Int32.ofInt x ||| Int32.ofInt y).toInt
noncomputable def am_xor (x y : Int) : Int := am_oq (Int32.ofInt x ^^^ Int32.ofInt y).toInt
noncomputable def am_shl (x y : Int) : Int := am_oq (Int32.ofInt x <<< (Int32.ofInt y &&& 31)).toInt
noncomputable def am_shr (x y : Int) : Int := am_oq (Int32.ofInt x >>> (Int32.ofInt y &&& 31)).toInt
noncomputable def am_ushr (x y : Int) : Int := am_oq ((Int32.ofInt x).toUInt32 >>> ((Int32.ofInt y).toUInt32 &&& Int32.toUInt32 31)).toInt32.toInt
noncomputable def am_i2l (x : Int) : Int64 := am_oq (Int32.ofInt x).toInt64
noncomputable def am_l2i (x : Int64) : Int := am_oq x.toInt32.toInt
noncomputable def am_lshl (x : Int64) (y : Int) : Int64 := am_oq (x <<< ((Int32.ofInt y).toInt64 &&& 63))
noncomputable def am_lshr (x : Int64) (y : Int) : Int64 := am_oq (x >>> ((Int32.ofInt y).toInt64 &&& 63))
noncomputable def am_lushr (x : Int64) (y : Int) : Int64 := am_oq (x.toUInt64 >>> ((Int32.ofInt y).toInt64.toUInt64 &&& Int64.toUInt64 63)).toInt64
theorem am_and_eq (x y : Int) : am_and x y = (Int32.ofInt x &&& Int32.ofInt y).toInt := am_oq_eq _
theorem am_or_eq (x y : Int) : am_or x y = (Int32.ofInt x ||| Int32.ofInt y).toInt := am_oq_eq _
theorem am_xor_eq (x y : Int) : am_xor x y = (Int32.ofInt x ^^^ Int32.ofInt y).toInt := am_oq_eq _
theorem am_shl_eq (x y : Int) : am_shl x y = (Int32.ofInt x <<< (Int32.ofInt y &&& 31)).toInt := am_oq_eq _
theorem am_shr_eq (x y : Int) : am_shr x y = (Int32.ofInt x >>> (Int32.ofInt y &&& 31)).toInt := am_oq_eq _
theorem am_ushr_eq (x y : Int) : am_ushr x y = ((Int32.ofInt x).toUInt32 >>> ((Int32.ofInt y).toUInt32 &&& Int32.toUInt32 31)).toInt32.toInt := am_oq_eq _
theorem am_i2l_eq (x : Int) : am_i2l x = (Int32.ofInt x).toInt64 := am_oq_eq _
theorem am_l2i_eq (x : Int64) : am_l2i x = x.toInt32.toInt := am_oq_eq _
theorem am_lshl_eq (x : Int64) (y : Int) : am_lshl x y = x <<< ((Int32.ofInt y).toInt64 &&& 63) := am_oq_eq _
theorem am_lshr_eq (x : Int64) (y : Int) : am_lshr x y = x >>> ((Int32.ofInt y).toInt64 &&& 63) := am_oq_eq _
theorem am_lushr_eq (x : Int64) (y : Int) : am_lushr x y = (x.toUInt64 >>> ((Int32.ofInt y).toInt64.toUInt64 &&& Int64.toUInt64 63)).toInt64 := am_oq_eq _
def am_stw : am_L → Nat → am_V → Option am_L
  | [], _, _ => none
  | _ :: r, 0, v => some (some v :: r)
  | some (.inr (.inl _)) :: _, 1, _ => none
  | x :: r, n + 1, v => match am_stw r n v with
    | some r' => some (x :: r')
    | none => none
def am_ldI (ls : am_L) (i : Nat) (K : Int → Prop) : Prop := match am_nth ls i with
  | some (some (.inl x)) => K x
  | _ => False
def am_ldL (ls : am_L) (i : Nat) (K : Int64 → Prop) : Prop := match am_nth ls i with
  | some (some (.inr (.inl x))) => K x
  | _ => False
def am_ldA (ls : am_L) (i : Nat) (K : Option Nat → Prop) : Prop := match am_nth ls i with
  | some (some (.inr (.inr x))) => K x
  | _ => False
def am_sto (ls : am_L) (i : Nat) (v : am_V) (K : am_L → Prop) : Prop := match am_stw ls i v with
  | some ls' => K ls'
  | none => False
def am_cmp (c : Jvm.ClassFile.Cond) (x y : Int) : Prop := match c with
  | .eq => x = y
  | .ne => x ≠ y
  | .lt => x < y
  | .ge => y ≤ x
  | .gt => y < x
  | .le => x ≤ y
def am_sw (x lo : Int) (ts : List Nat) (d : Nat) (K : Nat → Prop) : Prop := match ts with
  | [] => K d
  | t :: r => (x = lo → K t) ∧ (x ≠ lo → am_sw x (lo + 1) r d K)
def am_br (js : List Nat) (K : Nat → Prop) : Prop := match js with
  | [t] => K t
  | _ => False
def am_gf (k : am_K) (ci b c : Nat) (h : am_H) (K : am_V → Prop) : Prop := match k with
  | .inr (ci', fks) => if ci' = ci then (match am_nth fks b with
    | some none => K (.inl (h c b))
    | some (some t) => K (.inr (.inr (some t)))
    | none => False) else False
  | .inl _ => False
def am_pf (k : am_K) (ci b : Nat) (K : Prop) : Prop := match k with
  | .inr (ci', fks) => if ci' = ci then (match am_nth fks b with
    | some none => K
    | _ => False) else False
  | .inl _ => False
def am_ar (k : am_K) (ty : FieldType) (K : Nat → Prop) : Prop := match k with
  | .inl (ty', n) => if ty' = ty then K n else False
  | .inr _ => False
def am_al0 (k : am_K) (K : Nat → Prop) : Prop := match k with
  | .inl (_, n) => K n
  | .inr _ => False
def am_rc (st : Bool) (ci : Nat) (args : List am_V) (K : Prop) : Prop := if st then K else match args with
  | .inr (.inr (some c)) :: _ => (match am_lay c with
    | .inr (ci', _) => if ci' = ci then K else False
    | .inl _ => False)
  | _ => False
def am_cat : am_S → Nat
  | [] => 0
  | .inr (.inl _) :: r => 2 + am_cat r
  | _ :: r => 1 + am_cat r
/-- the uppermost n of the stack, the lowest of them first, and the rest -/
def am_tk : Nat → am_S → List am_V → Option (List am_V × am_S)
  | 0, st, acc => some (acc, st)
  | _ + 1, [], _ => none
  | n + 1, v :: st, acc => am_tk n st (v :: acc)
def am_copy (st : am_S) (ls : am_L) (h : am_H) (N : am_L → am_S → am_H → Prop) : Prop := match st with
  | .inl n :: .inl dp :: .inr (.inr (some d)) :: .inl sp :: .inr (.inr (some s)) :: r =>
    am_ar (am_lay s) .int fun ns => am_ar (am_lay d) .int fun nd => (0 ≤ sp ∧ 0 ≤ dp ∧ 0 ≤ n ∧ sp + n ≤ ns ∧ dp + n ≤ nd) ∧ am_cat r ≤ 8 ∧ N ls r (am_cp h s sp d dp n)
  | _ => False
/-- one instruction: what must hold so that it, and what comes behind it, go well -/
def am_step (e : am_E) (ls : am_L) (st : am_S) (h : am_H) (N : am_L → am_S → am_H → Prop) (J : Nat → am_L → am_S → am_H → Prop) (R : am_P) (X : Nat → List am_V → am_H → am_P → Prop) : Prop :=
  match e with
  | (_, _, i, a, b, v, _, js) =>
  match i with
  | .iconst _ => N ls (.inl v :: st) h
  | .bipush _ => N ls (.inl v :: st) h
  | .sipush _ => N ls (.inl v :: st) h
  | .ldc _ => N ls (.inl v :: st) h
  | .ldc_w _ => N ls (.inl v :: st) h
  | .lconst _ => N ls (.inr (.inl (Int64.ofInt v)) :: st) h
  | .ldc2_w _ => N ls (.inr (.inl (Int64.ofInt v)) :: st) h
  | .aconst_null => N ls (.inr (.inr none) :: st) h
  | .iload_n k => am_ldI ls k fun x => N ls (.inl x :: st) h
  | .iload k => am_ldI ls k fun x => N ls (.inl x :: st) h
  | .lload_n k => am_ldL ls k fun x => N ls (.inr (.inl x) :: st) h
  | .lload k => am_ldL ls k fun x => N ls (.inr (.inl x) :: st) h
  | .aload_n k => am_ldA ls k fun x => N ls (.inr (.inr x) :: st) h
  | .aload k => am_ldA ls k fun x => N ls (.inr (.inr x) :: st) h
  | .istore_n k => (match st with
    | .inl x :: r => am_sto ls k (.inl x) fun ls' => N ls' r h
    | _ => False)
  | .istore k => (match st with
    | .inl x :: r => am_sto ls k (.inl x) fun ls' => N ls' r h
    | _ => False)
  | .astore_n k => (match st with
    | .inr (.inr x) :: r => am_sto ls k (.inr (.inr x)) fun ls' => N ls' r h
    | _ => False)
  | .iinc k n => am_ldI ls k fun x => am_sto ls k (.inl (x + n)) fun ls' => N ls' st h
  | .iadd => (match st with
    | .inl y :: .inl x :: r => N ls (.inl (x + y) :: r) h
    | _ => False)
  | .isub => (match st with
    | .inl y :: .inl x :: r => N ls (.inl (x - y) :: r) h
    | _ => False)
  | .imul => (match st with
    | .inl y :: .inl x :: r => N ls (.inl (x * y) :: r) h
    | _ => False)
  | .ineg => (match st with
    | .inl x :: r => N ls (.inl (-x) :: r) h
    | _ => False)
  | .idiv => (match st with
    | .inl y :: .inl x :: r => (am_R x ∧ 0 < y ∧ y ≤ 2147483647) ∧ N ls (.inl (x.tdiv y) :: r) h
    | _ => False)
  | .irem => (match st with
    | .inl y :: .inl x :: r => (am_R x ∧ 0 < y ∧ y ≤ 2147483647) ∧ N ls (.inl (x.tmod y) :: r) h
    | _ => False)
  | .iand => (match st with
    | .inl y :: .inl x :: r => N ls (.inl (am_and x y) :: r) h
    | _ => False)
  | .ior => (match st with
    | .inl y :: .inl x :: r => N ls (.inl (am_or x y) :: r) h
    | _ => False)
  | .ixor => (match st with
    | .inl y :: .inl x :: r => N ls (.inl (am_xor x y) :: r) h
    | _ => False)
  | .ishl => (match st with
    | .inl y :: .inl x :: r => N ls (.inl (am_shl x y) :: r) h
    | _ => False)
  | .ishr => (match st with
    | .inl y :: .inl x :: r => N ls (.inl (am_shr x y) :: r) h
    | _ => False)
  | .iushr => (match st with
    | .inl y :: .inl x :: r => N ls (.inl (am_ushr x y) :: r) h
    | _ => False)
  | .i2l => (match st with
    | .inl x :: r => N ls (.inr (.inl (am_i2l x)) :: r) h
    | _ => False)
  | .l2i => (match st with
    | .inr (.inl x) :: r => N ls (.inl (am_l2i x) :: r) h
    | _ => False)
  | .lcmp => (match st with
    | .inr (.inl y) :: .inr (.inl x) :: r => N ls (.inl (am_lcmp x y) :: r) h
    | _ => False)
  | .land => (match st with
    | .inr (.inl y) :: .inr (.inl x) :: r => N ls (.inr (.inl (x &&& y)) :: r) h
    | _ => False)
  | .lor => (match st with
    | .inr (.inl y) :: .inr (.inl x) :: r => N ls (.inr (.inl (x ||| y)) :: r) h
    | _ => False)
  | .lxor => (match st with
    | .inr (.inl y) :: .inr (.inl x) :: r => N ls (.inr (.inl (x ^^^ y)) :: r) h
    | _ => False)
  | .lshl => (match st with
    | .inl y :: .inr (.inl x) :: r => N ls (.inr (.inl (am_lshl x y)) :: r) h
    | _ => False)
  | .lshr => (match st with
    | .inl y :: .inr (.inl x) :: r => N ls (.inr (.inl (am_lshr x y)) :: r) h
    | _ => False)
  | .lushr => (match st with
    | .inl y :: .inr (.inl x) :: r => N ls (.inr (.inl (am_lushr x y)) :: r) h
    | _ => False)
  | .dup => (match st with
    | .inl x :: r => N ls (.inl x :: .inl x :: r) h
    | .inr (.inr x) :: r => N ls (.inr (.inr x) :: .inr (.inr x) :: r) h
    | _ => False)
  | .dup2 => (match st with
    | .inl y :: .inr (.inr x) :: r => N ls (.inl y :: .inr (.inr x) :: .inl y :: .inr (.inr x) :: r) h
    | _ => False)
  | .getfield _ => (match st with
    | .inr (.inr (some c)) :: r => am_gf (am_lay c) a b c h fun x => N ls (x :: r) h
    | _ => False)
  | .putfield _ => (match st with
    | .inl x :: .inr (.inr (some c)) :: r => am_pf (am_lay c) a b ((v = 1 → x = 0 ∨ x = 1) ∧ N ls r (am_up h c b x))
    | _ => False)
  | .iaload => (match st with
    | .inl i :: .inr (.inr (some c)) :: r => am_ar (am_lay c) .int fun n => (0 ≤ i ∧ i < n) ∧ N ls (.inl (h c i) :: r) h
    | _ => False)
  | .baload => (match st with
    | .inl i :: .inr (.inr (some c)) :: r => am_ar (am_lay c) .boolean fun n => (0 ≤ i ∧ i < n) ∧ N ls (.inl (h c i) :: r) h
    | _ => False)
  | .laload => (match st with
    | .inl i :: .inr (.inr (some c)) :: r => am_ar (am_lay c) .long fun n => (0 ≤ i ∧ i < n) ∧ N ls (.inr (.inl (Int64.ofInt (h c i))) :: r) h
    | _ => False)
  | .iastore => (match st with
    | .inl x :: .inl i :: .inr (.inr (some c)) :: r => am_ar (am_lay c) .int fun n => (0 ≤ i ∧ i < n) ∧ N ls r (am_up h c i x)
    | _ => False)
  | .bastore => (match st with
    | .inl x :: .inl i :: .inr (.inr (some c)) :: r => am_ar (am_lay c) .boolean fun n => (0 ≤ i ∧ i < n ∧ (x = 0 ∨ x = 1)) ∧ N ls r (am_up h c i x)
    | _ => False)
  | .lastore => (match st with
    | .inr (.inl x) :: .inl i :: .inr (.inr (some c)) :: r => am_ar (am_lay c) .long fun n => (0 ≤ i ∧ i < n) ∧ N ls r (am_up h c i x.toInt)
    | _ => False)
  | .arraylength => (match st with
    | .inr (.inr (some c)) :: r => am_al0 (am_lay c) fun n => N ls (.inl n :: r) h
    | _ => False)
  | .ifCond cd _ => (match st with
    | .inl x :: r => am_R x ∧ am_br js fun t => (am_cmp cd x 0 → J t ls r h) ∧ (¬ am_cmp cd x 0 → N ls r h)
    | _ => False)
  | .if_icmp cd _ => (match st with
    | .inl y :: .inl x :: r => (am_R x ∧ am_R y) ∧ am_br js fun t => (am_cmp cd x y → J t ls r h) ∧ (¬ am_cmp cd x y → N ls r h)
    | _ => False)
  | .ifnonnull _ => (match st with
    | .inr (.inr (some _)) :: r => am_br js fun t => J t ls r h
    | .inr (.inr none) :: r => N ls r h
    | _ => False)
  | .goto _ => am_br js fun t => J t ls st h
  | .tableswitch _ _ _ _ => (match st, js with
    | .inl x :: r, d :: ts => am_R x ∧ am_sw x v ts d fun t => J t ls r h
    | _, _ => False)
  | .invokestatic _ => if a = 999 then am_copy st ls h N else (match am_tk b st [] with
    | some (args, r) => am_cat r ≤ 8 ∧ X a args h fun o h' => match o with
      | some x => N ls (x :: r) h'
      | none => N ls r h'
    | none => False)
  | .invokevirtual _ => (match am_tk b st [] with
    | some (args, r) => am_cat r ≤ 8 ∧ X a args h fun o h' => match o with
      | some x => N ls (x :: r) h'
      | none => N ls r h'
    | none => False)
  | .ireturn => (match st with
    | [.inl x] => (a = 1 → x = 0 ∨ x = 1) ∧ R (some (.inl x)) h
    | _ => False)
  | .areturn => (match st with
    | [.inr (.inr x)] => R (some (.inr (.inr x))) h
    | _ => False)
  | .return_ => (match st with
    | [] => R none h
    | _ => False)
  | _ => False
def am_m (m : Nat) : am_M := (am_nth am_ms m).getD (⟨"", "", ""⟩, ⟨#[]⟩, 0, none, 99, true, 0, 0, 0, [], [])
def am_y (m : Nat) : MethodName := (am_m m).1
def am_by (m : Nat) : ByteArray := (am_m m).2.1
def am_ml (m : Nat) : Nat := (am_m m).2.2.1
def am_rt (m : Nat) : Option FieldType := (am_m m).2.2.2.1
def am_oc (m : Nat) : Nat := (am_m m).2.2.2.2.1
def am_ss (m : Nat) : Bool := (am_m m).2.2.2.2.2.1
def am_np (m : Nat) : Nat := (am_m m).2.2.2.2.2.2.1
def am_fr (m : Nat) : Nat := (am_m m).2.2.2.2.2.2.2.1
def am_lr (m : Nat) : Nat := (am_m m).2.2.2.2.2.2.2.2.1
def am_code (m : Nat) : List am_E := (am_m m).2.2.2.2.2.2.2.2.2.1
def am_wp0 (m : Nat) : List Nat := (am_m m).2.2.2.2.2.2.2.2.2.2
def am_pad : Nat → List am_V → am_L
  | 0, _ => []
  | n + 1, [] => none :: am_pad n []
  | n + 1, .inr (.inl x) :: r => (match n with
    | 0 => [some (.inr (.inl x))]
    | n' + 1 => some (.inr (.inl x)) :: none :: am_pad n' r)
  | n + 1, v :: r => some v :: am_pad n r
/-- the method m, from its k-th instruction, within n steps: it returns, and Q holds of the answer and the heap -/
def am_wp : Nat → Nat → Nat → am_L → am_S → am_H → am_P → Prop
  | 0, _, _, _, _, _, _ => False
  | n + 1, m, k, ls, st, h, Q => match am_nth (am_code m) k with
    | none => False
    | some e => am_step e ls st h (fun ls st h => am_wp n m (k + 1) ls st h Q) (fun t ls st h => am_wp n m t ls st h Q) Q (fun j args h Q' => am_rc (am_ss j) (am_oc j) args (if am_cat args ≤ am_ml j then am_wp n j 0 (am_pad (am_ml j) args) [] h Q' else False))
