/-! the constructors: steps -/
def kn (U : State) : Prop := va_Nw (.methodLinkNest RX6 19 yX3_init RX6) U ∧ va_Nw (.methodLinkNest RX3 11 yX2_init RX6) U ∧ va_Nw (.methodLinkNest RX6 26 yX2_init RX6) U ∧ va_Nw (.methodLinkNest RX6 33 yX1_init RX6) U
theorem kn.warm {s U : State} (hW : s.WarmedH U.vm) (h : kn s) : kn U := ⟨va_Nw.warmM hW h.1, va_Nw.warmM hW h.2.1, va_Nw.warmM hW h.2.2.1, va_Nw.warmM hW h.2.2.2⟩
theorem kn.same {u U : State} (e : u.vm = U.vm) (h : kn u) : kn U := ⟨va_Nw.same rfl e h.1, va_Nw.same rfl e h.2.1, va_Nw.same rfl e h.2.2.1, va_Nw.same rfl e h.2.2.2⟩
def kx (p : Program) (s : State) (m : MethodId) (args : Array Value) (c : Code) (cc : ByteArray) (nL : Nat) (own : String) (A : Nat → Prop) : Prop :=
  p.tables.exec = Jvm.exec ∧ c.code = cc ∧ c.maxLocals = nL ∧ s.vm.findClass own = some m.cls ∧ (∀ w ∈ am_tb, w.before args s = true) ∧ (∀ q, s.heap.size ≤ q → A q) ∧ kn s
def kw (D : va_G) (A : Nat → Prop) (tys : List (ClassId × FieldType)) (ws : va_W) (s : State) (H : Heap) (locs : List Loc) : Prop := va_K D am_cl tys s ∧ va_P D am_cl ws H ∧ va_D A ws ∧ va_S A s.heap H locs
def kcP (D : va_G) (av : List Value) (sz : Nat) (ws : va_W) : Array Value → State → Prop := va_Pc av (fun U => U.heap.size = sz ∧ va_P D am_cl ws U.heap ∧ va_K D am_cl [] U ∧ va_D (fun _ => True) ws ∧ kn U)
def kcQ (D : va_G) (sh : va_W → List (ClassId × FieldType) → Prop) (A : Nat → Prop) : Array Value → State → Outcome → State → Prop :=
  va_Qv (fun u : va_W × List (ClassId × FieldType) => sh u.1 u.2) (fun u t => va_P D am_cl u.1 t.heap ∧ va_K D am_cl u.2 t ∧ va_D A u.1) A
def kM (l : Launch) (y : MethodName) (cc : ByteArray) (maxL : Nat) (rm : Room) (D : va_G) (av : List Value) (ws0 : va_W) (sh : va_W → List (ClassId × FieldType) → Prop) : Prop :=
  ∀ sz, Met l y (Jvm.Cond.code y cc maxL none :: am_tb) rm (kcP D av sz ws0) (kcQ D sh (va_A ws0 sz)) rm.cells rm.slots (va_A ws0 sz)
theorem kcP_blind {D : va_G} {av : List Value} {sz : Nat} {ws : va_W} : FrameBlind (kcP D av sz ws) := by
  intro a U g mk q
  obtain ⟨q0, q1, qP, qK, qD, qN⟩ := q
  exact ⟨q0, q1, qP, va_K.moved (u := U) (U := U.calling g mk a) (Vm.Alike.refl U.vm) qK, qD, kn.same (u := U) (U := U.calling g mk a) rfl qN⟩
theorem kM_of {l : Launch} {y : MethodName} {cc : ByteArray} {maxL : Nat} {rm : Room} {D : va_G} {av : List Value} {ws0 : va_W} {sh : va_W → List (ClassId × FieldType) → Prop} (hy : plainFor y = true) (hi : y.name = "<init>") (hlen : (lg_sl av).length ≤ maxL)
    (body : ∀ (p : Program) (e : Env) (s : State) (m : MethodId) (args : Array Value) (below : List Frame) (meth : Method) (c : Code) (A : Nat → Prop) (ls : Array Slot), kx p s m args c cc maxL y.cls A → meth.name = "<init>" → meth.sig.returnType = none → meth.locks = false → kw D A [] ws0 s s.heap [] → lv_has ls maxL (lv_args 0 av) →
      W p l e rm s m args below meth c s.heap [] 0 0 (MQ below (kcQ D sh A) args s rm.cells rm.slots A) (F0 m 0 ls [])) : kM l y cc maxL rm D av ws0 sh := by
  intro sz
  refine am_ofW hy rfl ?_
  intro p e s m args below meth c s₁ B hml hv
  obtain ⟨rfl, hsz, hP, hK, hD0, hN⟩ := hv
  subst hsz
  have hts := atoms_spec (ws := Jvm.Cond.code y cc maxL none :: am_tb) B.pre
  have hl := lv_entry av (n := maxL) hlen
  rw [lg_entry_eq]
  have hin : meth.name = "<init>" := by rw [(name_of_methodNamed B.named B.method).1]; exact hi
  exact body p e s m _ below meth c _ _ ⟨B.exec, B.bytes, hml, findClass_of_methodNamed B.named, fun w hw => hts w (List.mem_cons_of_mem _ hw), fun q h => Or.inr h, hN⟩ hin B.returns B.notSynchronized ⟨hK, hP, hD0.self (sz := s.heap.size), va_S.rf⟩ hl
theorem ks_ret {p : Program} {l : Launch} {e : Env} {R : Room} {s : State} {m : MethodId} {args : Array Value} {below : List Frame} {meth : Method} {c : Code} {H : Heap} {locs : List Loc} {cells slots : Nat} {cc : ByteArray} {nL : Nat} {own : String} {A : Nat → Prop} {D : va_G} {tys : List (ClassId × FieldType)} {ws : va_W} {sh : va_W → List (ClassId × FieldType) → Prop} {pc : Nat} {ls : Array Slot}
    (C : kx p s m args c cc nL own A) (hr : meth.sig.returnType = none) (hlk : meth.locks = false) (K : kw D A tys ws s H locs) (hsh : sh ws tys) (d : decode cc pc = .ok (.return_, 1)) : W p l e R s m args below meth c H locs cells slots (MQ below (kcQ D sh A) args s cells slots A) (F0 m pc ls []) := by
  obtain ⟨hx, hb, -, -, -, -, -⟩ := C
  obtain ⟨hK, hP, hD, hS⟩ := K
  exact W.vret hx hb hr (fun t ht hW => ⟨⟨(ws, tys), rfl, hsh, by rw [ht]; exact hP, va_K.moved hW.alike hK, hD⟩, hS.F ht⟩) hS.2.2 d
theorem ks_obj {p : Program} {l : Launch} {e : Env} {R : Room} {s : State} {m : MethodId} {args : Array Value} {below : List Frame} {meth : Method} {c : Code} {H : Heap} {locs : List Loc} {cells slots : Nat} {Q : State → Prop} {cc : ByteArray} {nL : Nat} {own : String} {A : Nat → Prop} {pc a x : Nat} {ls : Array Slot} {lv : List (Nat × Value)}
    (C : kx p s m args c cc nL own A) (hl : lv_has ls nL lv) (hw : Jvm.Cond.methodLink own x objectInit ∈ am_tb) (hw2 : Jvm.Cond.instanceMethod objectInit ∈ am_tb ∧ Jvm.Cond.code objectInit ⟨#[0xb1]⟩ 1 none ∈ am_tb) (d : decode cc pc = .ok (.invokespecial x, 3)) (hR : 1 ≤ R.frames ∧ 12 ≤ R.locals)
    (kk : W p l e R s m args below meth c H locs cells slots Q (F0 m (pc + 3) ls [])) : W p l e R s m args below meth c H locs cells slots Q (F0 m pc ls [.ref a]) := by
  obtain ⟨hx, hb, hml, hown, hts, -, -⟩ := C
  refine W.objInit hx hb hown (hts _ hw) (hts _ hw2.1) (hts _ hw2.2) rfl (by rw [hml]; exact hl.1) rfl d hR.1 ?_ ?_
  · exact hR.2
  · exact kk
theorem ks_put {p : Program} {l : Launch} {e : Env} {R : Room} {s : State} {m : MethodId} {args : Array Value} {below : List Frame} {meth : Method} {c : Code} {H : Heap} {locs : List Loc} {cells slots : Nat} {Q : State → Prop} {cc : ByteArray} {nL : Nat} {own : String} {A : Nat → Prop} {D : va_G} {tys : List (ClassId × FieldType)} {ws : va_W} {pc a x ci N : Nat} {ls : Array Slot} {fs : List Value} {T : u_T} {v : Value} {rest : List Value}
    (C : kx p s m args c cc nL own A) (K : kw D A tys ws s H locs) (q0 : Nat) (he : ws[q0]? = some (a, .inr (ci, fs))) (hc : am_cl[ci]? = some (own, T, N)) (k : Nat) (ty : FieldType) (hk : k < N ∧ (T k).1 = own ∧ (T k).2.2.2 = false ∧ parseFieldDescriptor (T k).2.2.1 = some ty) (hv : narrow ty v = v ∧ fits ty v = true) (hl : k < fs.length) (hlk : Jvm.Cond.fieldLink own x own (T k).2.1 (T k).2.2.1 ∈ am_tb) (d : decode cc pc = .ok (.putfield x, 3))
    (kk : ∀ (H1 : Heap) (locs1 : List Loc), kw D A tys (ws.set q0 (a, .inr (ci, fs.set k v))) s H1 locs1 → W p l e R s m args below meth c H1 locs1 cells slots Q (F0 m (pc + 3) ls rest)) : W p l e R s m args below meth c H locs cells slots Q (F0 m pc ls (v :: .ref a :: rest)) := by
  obtain ⟨hx, hb, hml, hown, hts, -, -⟩ := C
  obtain ⟨hK, hP, hD, hS⟩ := K
  obtain ⟨-, h1, ⟨ty0, h2⟩, h3⟩ := am_cls hc
  obtain ⟨k1, k2, k3, k4⟩ := hk
  exact va_put hx hb hts h1 ty0 h2 h3 hown hK hP hD hS q0 he hc k k1 (hts _ hlk) (fun x9 h9 => by rw [k2] at h9; exact h9) k3 k4 hv.1 hv.2 hl d (fun H1 locs1 a1 a2 a3 => kk H1 locs1 ⟨hK, a1, a2, a3⟩)
theorem ks_putF {p : Program} {l : Launch} {e : Env} {R : Room} {s : State} {m : MethodId} {args : Array Value} {below : List Frame} {meth : Method} {c : Code} {H : Heap} {locs : List Loc} {cells slots : Nat} {Q : State → Prop} {cc : ByteArray} {nL : Nat} {own : String} {A : Nat → Prop} {D : va_G} {tys : List (ClassId × FieldType)} {ws : va_W} {pc a x ci N : Nat} {ls : Array Slot} {fs : List Value} {T : u_T} {v : Value} {rest : List Value}
    (C : kx p s m args c cc nL own A) (hin : meth.name = "<init>") (K : kw D A tys ws s H locs) (q0 : Nat) (he : ws[q0]? = some (a, .inr (ci, fs))) (hc : am_cl[ci]? = some (own, T, N)) (k : Nat) (ty : FieldType) (hk : k < N ∧ (T k).1 = own ∧ (T k).2.2.2 = true ∧ parseFieldDescriptor (T k).2.2.1 = some ty) (hv : narrow ty v = v ∧ fits ty v = true) (hl : k < fs.length) (hlk : Jvm.Cond.fieldLink own x own (T k).2.1 (T k).2.2.1 ∈ am_tb) (d : decode cc pc = .ok (.putfield x, 3))
    (kk : ∀ (H1 : Heap) (locs1 : List Loc), kw D A tys (ws.set q0 (a, .inr (ci, fs.set k v))) s H1 locs1 → W p l e R s m args below meth c H1 locs1 cells slots Q (F0 m (pc + 3) ls rest)) : W p l e R s m args below meth c H locs cells slots Q (F0 m pc ls (v :: .ref a :: rest)) := by
  obtain ⟨hx, hb, hml, hown, hts, -, -⟩ := C
  obtain ⟨hK, hP, hD, hS⟩ := K
  obtain ⟨-, h1, ⟨ty0, h2⟩, h3⟩ := am_cls hc
  obtain ⟨k1, k2, k3, k4⟩ := hk
  exact va_putF hx hb hts h1 ty0 h2 h3 hown hK hP hD hS q0 he hc k k1 (hts _ hlk) (fun x9 h9 => by rw [k2] at h9; exact h9) k3 hin k2 k4 hv.1 hv.2 hl d (fun H1 locs1 a1 a2 a3 => kk H1 locs1 ⟨hK, a1, a2, a3⟩)
/-- a new array, put into a field -/
theorem ks_na {p : Program} {l : Launch} {e : Env} {R : Room} {s : State} {m : MethodId} {args : Array Value} {below : List Frame} {meth : Method} {c : Code} {H : Heap} {locs : List Loc} {cells slots : Nat} {Q : State → Prop} {cc : ByteArray} {nL : Nat} {own : String} {A : Nat → Prop} {D : va_G} {tys : List (ClassId × FieldType)} {ws : va_W} {pc a x ci N : Nat} {ls : Array Slot} {fs : List Value} {T : u_T} {rest : List Value} {aty : ArrayType} {n : Int32} {N' k1 n1 : Nat} {a0 : vp_A}
    (C : kx p s m args c cc nL own A) (hin : meth.name = "<init>") (K : kw D A tys ws s H locs) (q0 : Nat) (he : ∀ y : Nat × va_E, (ws ++ [y])[q0]? = some (a, .inr (ci, fs))) (hc : am_cl[ci]? = some (own, T, N)) (k : Nat) (ty : FieldType) (hty : newarray.typeOf aty = ty) (hk : k < N ∧ (T k).1 = own ∧ (T k).2.2.2 = true ∧ parseFieldDescriptor (T k).2.2.1 = some (.array ty)) (hl : k < fs.length) (hlk : Jvm.Cond.fieldLink own x own (T k).2.1 (T k).2.2.1 ∈ am_tb) (harr : Jvm.Cond.arrayClass ty ∈ am_tb)
    (ha : ∀ cA : ClassId, vp_cell cA a0 = arrV cA N' (fun _ => defaultValue ty)) (hn : ¬ n < 0) (hN : n.toNatClampNeg = N') (hbytes : N' * componentBytes ty ≤ 536870912) (hcells : cells + 1 = k1 ∧ k1 ≤ R.cells) (hslots : slots + N' = n1 ∧ n1 ≤ R.slots) (d1 : decode cc pc = .ok (.newarray aty, 2)) (d2 : decode cc (pc + 2) = .ok (.putfield x, 3))
    (kk : ∀ (q : Nat) (cA : ClassId) (H1 : Heap) (locs1 : List Loc), kw D A (tys ++ [(cA, ty)]) ((ws ++ [((q, .inl (cA, a0)) : Nat × va_E)] : va_W).set q0 ((a, .inr (ci, fs.set k (.ref q))) : Nat × va_E)) s H1 locs1 → W p l e R s m args below meth c H1 locs1 k1 n1 Q (F0 m (pc + 2 + 3) ls rest)) : W p l e R s m args below meth c H locs cells slots Q (F0 m pc ls (.int n :: .ref a :: rest)) := by
  obtain ⟨hK, hP, hD, hS⟩ := id K
  obtain ⟨hx, hb, hml, hown, hts, hA, -⟩ := id C
  obtain ⟨rfl, hc2⟩ := hcells
  obtain ⟨rfl, hs2⟩ := hslots
  refine va_newa hx hb (by rw [hty]; exact hts _ harr) hty hK hP hD hS hA ha hn hN hbytes hc2 hs2 d1 (fun q cA H1 e1 e2 e3 e4 => ?_)
  exact ks_putF C hin ⟨e1, e2, e3, e4⟩ q0 (he _) hc k (.array ty) hk ⟨rfl, rfl⟩ hl hlk d2 (fun H2 locs2 K2 => kk q cA H2 locs2 K2)
theorem ks_new {p : Program} {l : Launch} {e : Env} {R : Room} {s : State} {m : MethodId} {args : Array Value} {below : List Frame} {meth : Method} {c : Code} {H : Heap} {locs : List Loc} {cells slots : Nat} {Q : State → Prop} {cc : ByteArray} {nL : Nat} {own C0 : String} {A : Nat → Prop} {D : va_G} {tys : List (ClassId × FieldType)} {ws : va_W} {pc x ci N : Nat} {ls : Array Slot} {fs : List Value} {T : u_T} {rest : List Value} {k1 n1 : Nat}
    (C : kx p s m args c cc nL own A) (K : kw D A tys ws s H locs) (hc : am_cl[ci]? = some (C0, T, N)) (ty : Nat → FieldType) (hty : ∀ k, k < N → parseFieldDescriptor (T k).2.2.1 = some (ty k)) (hfs : (List.range N).map (fun j => defaultValue (ty j)) = (List.range N).map (vp_V fs)) (hw : Jvm.Cond.classLink own x C0 ∈ am_tb ∧ Jvm.Cond.instantiable C0 N ∈ am_tb ∧ Jvm.Cond.initialized C0 ∈ am_tb) (hcells : cells + 1 = k1 ∧ k1 ≤ R.cells) (hslots : slots + N = n1 ∧ n1 ≤ R.slots) (d1 : decode cc pc = .ok (.new x, 3)) (d2 : decode cc (pc + 3) = .ok (.dup, 1))
    (kk : ∀ (q : Nat) (H1 : Heap), kw D A tys (ws ++ [(q, .inr (ci, fs))]) s H1 locs → W p l e R s m args below meth c H1 locs k1 n1 Q (F0 m (pc + 3 + 1) ls (.ref q :: .ref q :: rest))) : W p l e R s m args below meth c H locs cells slots Q (F0 m pc ls rest) := by
  obtain ⟨hK, hP, hD, hS⟩ := id K
  obtain ⟨hx, hb, hml, hown, hts, hA, -⟩ := id C
  obtain ⟨rfl, hc2⟩ := hcells
  obtain ⟨rfl, hs2⟩ := hslots
  refine va_new (fs := fs) hx hb hts (am_cls hc).2.1 ty hty hown (hts _ hw.1) (hts _ hw.2.1) (hts _ hw.2.2) hK hP hD hS hA hc (fun j hj => ?_) hc2 hs2 d1 (fun q H1 e1 e2 e3 => ?_)
  · have h1 := congrArg (fun z : List Value => z[j]?) hfs
    simp only [List.getElem?_map, List.getElem?_range hj, Option.map_some] at h1
    exact Option.some.inj h1
  · exact lv_dup hx hb d2 rfl (kk q H1 ⟨hK, e1, e2, e3⟩)
/-- a constructor's call -/
theorem ks_call {p : Program} {l : Launch} {e : Env} {R : Room} {s : State} {m : MethodId} {args : Array Value} {below : List Frame} {meth : Method} {c : Code} {H : Heap} {locs : List Loc} {cells slots : Nat} {Q : State → Prop} {cc : ByteArray} {nL : Nat} {own : String} {A : Nat → Prop} {D : va_G} {tys : List (ClassId × FieldType)} {ws : va_W} {pc x b : Nat} {ls : Array Slot} {rest As : List Value} {k1 n1 : Nat} {y : MethodName} {bytes : ByteArray} {maxL : Nat} {rm : Room} {ent : va_E} {sh : va_W → List (ClassId × FieldType) → Prop} {lv : List (Nat × Value)} {st : List Value}
    (C : kx p s m args c cc nL own A) (K : kw D A tys ws s H locs) (hl : lv_has ls nL lv) (M : kM l y bytes maxL rm D (.ref b :: As) [(b, ent)] sh) (q0 : Nat) (he : ws[q0]? = some (b, ent)) (isR : List Nat) (wr : va_W) (hR : isR.map (fun i => ws[i]?) = wr.map some) (hn : va_nd isR = true) (hdis : ∀ i ∈ isR, i ∉ [q0])
    (hy : y.name = "<init>" ∧ y.cls ≠ "java/lang/invoke/MethodHandle" ∧ y.cls ≠ "java/lang/invoke/VarHandle" ∧ (parseMethodDescriptor y.desc).map (fun d => d.parameters.length) = some As.length) (hw : Jvm.Cond.code y bytes maxL none ∈ am_tb ∧ Jvm.Cond.initialized y.cls ∈ am_tb ∧ Jvm.Cond.instanceMethod y ∈ am_tb) (hlk : Jvm.Cond.methodLink own x y ∈ am_tb ∨ va_Nw (.methodLinkNest own x y RX6) s) (hroom : rm.frames + 1 ≤ R.frames ∧ 8 + (maxL + 11) + rm.locals ≤ R.locals) (hcells : cells + rm.cells = k1 ∧ k1 ≤ R.cells) (hslots : slots + rm.slots = n1 ∧ n1 ≤ R.slots) (hst : st = As.reverse ++ .ref b :: rest) (hcat : (rest.map fun v => v.category).sum ≤ 8) (d : decode cc pc = .ok (.invokespecial x, 3))
    (kk : ∀ (w1 : va_W) (t1 : List (ClassId × FieldType)) (H1 : Heap) (locs1 : List Loc), sh w1 t1 → kw D A (tys ++ t1) (wr ++ w1) s H1 locs1 → W p l e R s m args below meth c H1 locs1 k1 n1 Q (F0 m (pc + 3) ls rest)) : W p l e R s m args below meth c H locs cells slots Q (F0 m pc ls st) := by
  obtain ⟨hK, hP, hD, hS⟩ := id K
  obtain ⟨hx, hb, hml, hown, hts, hA, hN⟩ := id C
  obtain ⟨rfl, hc2⟩ := hcells
  obtain ⟨rfl, hs2⟩ := hslots
  subst hst
  have hC1 : [q0].map (fun i => ws[i]?) = ([(b, ent)] : va_W).map some := by simp [he]
  have hPc := hP.sub (ws' := [(b, ent)]) [q0] (by simp [he])
  have hDc := hD.sub (ws' := [(b, ent)]) [q0] rfl hC1
  have hKc := hK.sub (tys' := []) [] rfl
  have hFc := va_free (wc := [(b, ent)]) hD hS hA [q0] hC1
  have pay := pay_in (s := s) (args := args) hts (ws := Jvm.Cond.code y bytes maxL none :: am_tb) (fun w hw2 => am_tb_good (by rcases List.mem_cons.mp hw2 with rfl | hw2; exact hw.1; exact hw2))
  have hsg : ∀ sig, parseMethodDescriptor y.desc = some sig → As.length = sig.parameters.length := fun sig hsg => by
    have h9 := hy.2.2.2
    rw [hsg] at h9; exact (Option.some.inj h9).symm
  have pre : PreS s H (kcP D (.ref b :: As) H.size [(b, ent)]) (.ref b :: As) := ⟨kcP_blind, fun U hU hW => ⟨rfl, by rw [hU], by rw [hU]; exact hPc, va_K.moved hW.alike hKc, hDc.weaken (fun _ _ _ _ => trivial), kn.warm hW hN⟩⟩
  have run : va_Run p l e R s m args below meth c H locs cells slots rm.cells rm.slots (F0 m pc ls (As.reverse ++ .ref b :: rest)) rest (kcQ D sh (va_A [(b, ent)] H.size) (Value.ref b :: As).toArray) (va_A [(b, ent)] H.size) := by
    rcases hlk with hlk | hlk
    · exact va_runI (As := As) (rest := rest) (nL := nL) (Ts := am_tb) (own := own) ⟨hx, hb, hml, hown, hts⟩ (M H.size) ⟨⟨rfl, rfl, hroom.1, hroom.2, pay, List.mem_cons_self, hts _ hw.1, hts _ hw.2.1, ⟨hy.2.1, hy.2.2.1⟩, hsg, hts _ hlk⟩, hy.1, hts _ hw.2.2⟩ pre rfl rfl hl.1 rfl (lv_room hcat) d ⟨hc2, hs2⟩
    · exact va_runIN (host := RX6) (As := As) (rest := rest) (nL := nL) (Ts := am_tb) (own := own) ⟨hx, hb, hml, hown, hts⟩ (M H.size) ⟨⟨⟨rfl, rfl, hroom.1, hroom.2, pay, List.mem_cons_self⟩, hts _ hw.1, hts _ hw.2.1, ⟨hy.2.1, hy.2.2.1⟩, hsg, va_Nw.use rfl hlk⟩, hy.1, hts _ hw.2.2⟩ pre rfl rfl hl.1 rfl (lv_room hcat) d ⟨hc2, hs2⟩
  refine va_callv run hS (fun q _ h => hFc q h) hFc (fun u t H1 locs1 ht hvm hw1 hB hz1 hk1 hS1 => ?_)
  obtain ⟨w1, t1⟩ := u
  obtain ⟨hP1, hK1, hD1⟩ := hB
  rw [ht] at hP1
  have hK1 := va_K.moved hvm.symm hK1
  obtain ⟨hP2, hD2⟩ := va_join (wr := wr) (w1 := w1) hP hD [q0] isR hC1 hR hn hdis hk1 hFc hP1 hD1
  exact kk w1 t1 H1 locs1 hw1 ⟨hK.app hK1, hP2, hD2, hS1⟩
