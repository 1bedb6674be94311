/-! every entry of the code lists says what the class files say: checked by the kernel -/
def am_tb : List Jvm.Cond := lw_tbl.filter goodWord
def am_cl : List vw_C := [(RX0, TX0, 5), (RX1, TX1, 8), (RX2, TX2, 7), (RX3, TX3, 8), (RX4, TX4, 13), (RX5, TX5, 7), (RX6, TX6, 11), (RX7, TX7, 35)]
def am_nest : Jvm.Cond := .methodLinkNest RX3 66 yX6_isRing RX6
def am_pcl (C : List am_E) (k : Nat) : Nat := match am_nth C k with
  | some e => e.1
  | none => 1000000
/-- the words of the tables by their places: the list's number times 1000, and the place in it -/
def am_ats (w : Nat) : Option Jvm.Cond := match w / 1000 with
  | 0 => am_nth (k2_sels lw_privs) (w % 1000)
  | 1 => am_nth tables_1_1 (w % 1000)
  | 2 => am_nth tables_1_2 (w % 1000)
  | 3 => am_nth tables_1_3 (w % 1000)
  | 4 => am_nth tables_1_4 (w % 1000)
  | _ => am_nth tables_1_5 (w % 1000)
def am_at (w : Nat) (c : Jvm.Cond) : Bool := decide (am_ats w = some c) && goodWord c
def am_nx (r : List am_E) (pc len : Nat) : Bool := match r with
  | e :: _ => e.1 == pc + len
  | [] => false
def am_jt (C : List am_E) (pc : Nat) (off : Int) (t : Nat) : Bool := decide ((pc : Int) + off = (am_pcl C t : Int))
def am_jts (C : List am_E) (pc : Nat) : List Int → List Nat → Bool
  | [], [] => true
  | o :: os, t :: ts => am_jt C pc o t && am_jts C pc os ts
  | _, _ => false
def am_rmk (F L : Nat) (j : am_M) : Bool := decide (j.2.2.2.2.2.2.2.1 + 1 ≤ F) && decide (8 + (j.2.2.1 + 11) + j.2.2.2.2.2.2.2.2.1 ≤ L)
def am_chk (own : String) (B : ByteArray) (rt : Option FieldType) (F L : Nat) (C r : List am_E) (e : am_E) : Bool := match e with
  | (pc, len, i, a, b, v, w, js) => decide (decode B pc = .ok (i, len)) && (match i with
    | .iconst n => decide (len = 1) && decide (Int32.ofInt n = Int32.ofInt v) && am_nx r pc len
    | .bipush n => decide (len = 2) && decide ((Int8.ofInt n).toInt32 = Int32.ofInt v) && am_nx r pc len
    | .sipush n => decide (len = 3) && decide ((Int16.ofInt n).toInt32 = Int32.ofInt v) && am_nx r pc len
    | .ldc x => decide (len = 2) && am_at w (.constant own x (Int32.ofInt v)) && am_nx r pc len
    | .ldc_w x => decide (len = 3) && am_at w (.constant own x (Int32.ofInt v)) && am_nx r pc len
    | .ldc2_w x => decide (len = 3) && am_at w (.constantLong own x (Int64.ofInt v)) && am_nx r pc len
    | .lconst n => decide (len = 1) && decide (Int64.ofNat (n : Nat) = Int64.ofInt v) && am_nx r pc len
    | .iload _ => decide (len = 2) && am_nx r pc len
    | .lload _ => decide (len = 2) && am_nx r pc len
    | .aload _ => decide (len = 2) && am_nx r pc len
    | .istore _ => decide (len = 2) && am_nx r pc len
    | .iinc _ _ => decide (len = 3) && am_nx r pc len
    | .getfield x => decide (len = 3) && am_nx r pc len && (match am_cl[a]? with
      | some (C, T, N) => decide (b < N) && decide ((T b).1 = C) && am_at w (.fieldLink own x C (T b).2.1 (T b).2.2.1)
      | none => false)
    | .putfield x => decide (len = 3) && am_nx r pc len && (match am_cl[a]? with
      | some (C, T, N) => decide (b < N) && decide ((T b).1 = C) && am_at w (.fieldLink own x C (T b).2.1 (T b).2.2.1) && decide ((T b).2.2.2 = false) && decide (parseFieldDescriptor (T b).2.2.1 = some (if v = 1 then .boolean else .int))
      | none => false)
    | .ifCond _ off => decide (len = 3) && am_nx r pc len && (match js with
      | [t] => am_jt C pc off t
      | _ => false)
    | .if_icmp _ off => decide (len = 3) && am_nx r pc len && (match js with
      | [t] => am_jt C pc off t
      | _ => false)
    | .ifnonnull off => decide (len = 3) && am_nx r pc len && (match js with
      | [t] => am_jt C pc off t
      | _ => false)
    | .goto off => decide (len = 3) && (match js with
      | [t] => am_jt C pc off t
      | _ => false)
    | .tableswitch d lo hi offs => decide (lo = v) && decide (hi = v + (offs.size : Int) - 1) && (match js with
      | dt :: ts => am_jt C pc d dt && am_jts C pc offs.toList ts
      | _ => false)
    | .invokestatic x => decide (len = 3) && am_nx r pc len && (if a = 999 then am_at w (.methodLink own x arraycopyName) && decide (1 ≤ F) && decide (26 ≤ L)
      else am_ss a && decide (b = am_np a) && am_rmk F L (am_m a) && (if v = 1 then decide (own = RX3) && decide (x = 66) && decide (am_y a = yX6_isRing) else am_at w (.methodLink own x (am_y a))))
    | .invokevirtual x => decide (len = 3) && am_nx r pc len && (!(am_ss a)) && decide (b = am_np a + 1) && am_rmk F L (am_m a) && am_at w (.methodLink own x (am_y a))
    | .ireturn => decide (len = 1) && decide (rt = if a = 1 then some .boolean else some .int)
    | .areturn => decide (len = 1) && decide (rt = some (.object RX1))
    | .return_ => decide (len = 1) && decide (rt = none)
    | _ => decide (len = 1) && am_nx r pc len)
def am_chks (own : String) (B : ByteArray) (rt : Option FieldType) (F L : Nat) (C : List am_E) : List am_E → Bool
  | [] => true
  | e :: r => am_chk own B rt F L C r e && am_chks own B rt F L C r
def am_mok (M : am_M) : Bool := match M with
  | (y, B, ml, rt, oc, ss, np, F, L, C, [w0, w1, w2, w3]) => am_at w0 (.code y B ml rt) && am_at w1 (.initialized y.cls) && (if ss then am_at w2 (.static y) else am_at w2 (.instanceMethod y) && am_at w3 (.selects y.cls y y) && decide ((am_cl[oc]?).map (fun q => q.1) = some y.cls))
    && plainFor y && decide (y.cls ≠ "java/lang/invoke/MethodHandle") && decide (y.cls ≠ "java/lang/invoke/VarHandle") && decide ((parseMethodDescriptor y.desc).map (fun d => d.parameters.length) = some np) && decide (am_pcl C 0 = 0) && am_chks y.cls B rt F L C C
  | _ => false
