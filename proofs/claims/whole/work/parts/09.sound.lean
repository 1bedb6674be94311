/-! what the abstract machine says holds of the machine itself -/
theorem am_ofW {l : Launch} {y : MethodName} {ws ws' : List Jvm.Cond} {rm : Room} {Pc : Array Value → State → Prop} {Qc : Array Value → State → Outcome → State → Prop} {mc ms : Nat} {free : Addr → Prop} {cc : ByteArray} {maxL : Nat} {ret : Option FieldType}
    (hy : plainFor y = true) (hw : ws = Jvm.Cond.code y cc maxL ret :: ws')
    (body : ∀ p e s m args below meth c s₁, BodyLoose p l y (headSpec ws rm) cc maxL ret e s m args below meth c s₁ → c.maxLocals = maxL → Pc args s →
      W p l e (headSpec ws rm).room s m args below meth c s.heap [] 0 0 (MQ below Qc args s mc ms free) (entryFrame m args maxL)) : Met l y ws rm Pc Qc mc ms free := by
  refine MetFree.of_bodySF (code := cc) (maxLocals := maxL) (ret := ret) hy ?_ ?_
  · intro args s m h hn
    obtain ⟨meth, c, h1, h2, h3, h4, h5, h6, -, -⟩ := Cond.code_spec hn (atoms_spec (ws := ws) h _ (by rw [hw]; exact List.mem_cons_self))
    exact ⟨meth, c, h1, h2, h3, h4, h5, h6⟩
  · intro p e s m args below meth c s₁ B hml hP _
    have hh0 : s₁.heap = s.heap := by rw [B.state]; rfl
    obtain ⟨t, a1, o, b1, b2, b3⟩ := body p e s m args below meth c s₁ B hml hP s₁ hh0 (Stand.of_body B)
    exact ⟨t, o, a1, b1, b2, ⟨b3.1, b3.2⟩⟩
/-- what is known in a frame of the method m -/
def am_cx (m : Nat) (p : Program) (R : Room) (s : State) (mm : MethodId) (args : Array Value) (meth : Method) (c : Code) (cA : Nat → ClassId) (D : va_G) (A : Nat → Prop) : Prop :=
  p.tables.exec = Jvm.exec ∧ c.code = am_by m ∧ meth.sig.returnType = am_rt m ∧ c.maxLocals = am_ml m ∧ s.vm.findClass (am_y m).cls = some mm.cls ∧ (∀ w ∈ am_tb, w.before args s = true) ∧ meth.locks = false ∧
  va_K D am_cl (am_ty cA) s ∧ va_Nw am_nest s ∧ (∀ q, s.heap.size ≤ q → A q) ∧ am_fr m ≤ R.frames ∧ am_lr m ≤ R.locals
def am_pcs (m k : Nat) : Nat := am_pcl (am_code m) k
def am_ws (m : Nat) : List Jvm.Cond := Jvm.Cond.code (am_y m) (am_by m) (am_ml m) (am_rt m) :: am_tb
def am_rm (m : Nat) : Room := { frames := am_fr m, cells := 0, slots := 0, locals := am_lr m }
def am_SND (l : Launch) (n : Nat) : Prop := ∀ (m k : Nat) (ls : am_L) (st : am_S) (h : am_H) (Q : am_P) (p : Program) (e : Env) (R : Room) (s : State) (mm : MethodId) (args : Array Value) (below : List Frame) (meth : Method) (c : Code) (H : Heap) (locs : List Loc) (ad : Nat → Nat) (cA : Nat → ClassId) (D : va_G) (A : Nat → Prop) (lsC : Array Slot),
  am_cx m p R s mm args meth c cA D A → am_wp n m k ls st h Q → am_wd ad cA D A s.heap h H locs → am_lv ad lsC (am_ml m) ls →
  W p l e R s mm args below meth c H locs 0 0 (MQ below (am_Q ad cA D Q A) args s 0 0 A) (F0 mm (am_pcs m k) lsC (st.map (am_c ad)))
/-- what is known of a method that has code -/
def am_mk (m : Nat) : Prop := Jvm.Cond.code (am_y m) (am_by m) (am_ml m) (am_rt m) ∈ am_tb ∧ Jvm.Cond.initialized (am_y m).cls ∈ am_tb ∧ (if am_ss m then Jvm.Cond.static (am_y m) ∈ am_tb else Jvm.Cond.instanceMethod (am_y m) ∈ am_tb ∧ Jvm.Cond.selects (am_y m).cls (am_y m) (am_y m) ∈ am_tb ∧ (am_cl[am_oc m]?).map (fun q => q.1) = some (am_y m).cls)
  ∧ plainFor (am_y m) = true ∧ (am_y m).cls ≠ "java/lang/invoke/MethodHandle" ∧ (am_y m).cls ≠ "java/lang/invoke/VarHandle" ∧ (parseMethodDescriptor (am_y m).desc).map (fun d => d.parameters.length) = some (am_np m) ∧ am_pcs m 0 = 0 ∧ am_chks (am_y m).cls (am_by m) (am_rt m) (am_fr m) (am_lr m) (am_code m) (am_code m) = true
theorem am_mk_of {m : Nat} {k : Nat} {e : am_E} (h : am_nth (am_code m) k = some e) : am_mk m := by
  have hm : ∃ M, am_nth am_ms m = some M := by
    cases hM : am_nth am_ms m with
    | some M => exact ⟨M, rfl⟩
    | none =>
      simp [am_code, am_m, hM, am_nth] at h
  obtain ⟨M, hM⟩ := hm
  have hok := am_okAll M (am_mem_of_nth hM)
  have hmm : am_m m = M := by simp [am_m, hM]
  unfold am_mk am_pcs
  simp only [am_y, am_by, am_ml, am_rt, am_oc, am_ss, am_np, am_fr, am_lr, am_code, hmm]
  obtain ⟨y, B, ml, rt, oc, ss, np, F, L, C, ws⟩ := M
  unfold am_mok at hok
  split at hok
  · rename_i heq
    cases heq
    simp only [Bool.and_eq_true, decide_eq_true_eq] at hok
    obtain ⟨⟨⟨⟨⟨⟨⟨⟨h1, h2⟩, h3⟩, h4⟩, h5⟩, h6⟩, h7⟩, h8⟩, h9⟩ := hok
    refine ⟨am_at_mem h1, am_at_mem h2, ?_, h4, h5, h6, h7, h8, h9⟩
    cases ss with
    | true =>
      simp only [if_true] at h3 ⊢
      exact am_at_mem h3
    | false =>
      simp only [Bool.false_eq_true, if_false, Bool.and_eq_true, decide_eq_true_eq] at h3 ⊢
      exact ⟨am_at_mem h3.1.1, am_at_mem h3.1.2, h3.2⟩
  · cases hok
theorem am_chks_at {own : String} {B : ByteArray} {rt : Option FieldType} {F L : Nat} {C : List am_E} : ∀ (r : List am_E) (k : Nat) (e : am_E), am_chks own B rt F L C r = true → am_nth r k = some e → am_chk own B rt F L C (r.drop (k + 1)) e = true
  | [], k, e, _, h => by cases k <;> cases h
  | x :: r, 0, e, hc, h => by
    cases h
    simp only [am_chks, Bool.and_eq_true] at hc
    exact hc.1
  | x :: r, k + 1, e, hc, h => by
    simp only [am_chks, Bool.and_eq_true] at hc
    exact am_chks_at r k e hc.2 h
theorem am_nx_pc {C : List am_E} {k pc len : Nat} (h : am_nx (C.drop (k + 1)) pc len = true) : am_pcl C (k + 1) = pc + len := by
  have e1 : C[k + 1]? = (C.drop (k + 1))[0]? := by simp
  unfold am_pcl
  rw [am_nth_eq, e1]
  cases hd : C.drop (k + 1) with
  | nil => rw [hd] at h; cases h
  | cons x r =>
    rw [hd] at h
    simpa [am_nx] using h
theorem am_tk_spec : ∀ (n : Nat) (st acc a r), am_tk n st acc = some (a, r) → ∃ b, a = b.reverse ++ acc ∧ st = b ++ r ∧ b.length = n
  | 0, st, acc, a, r, h => by cases st <;> (cases h; exact ⟨[], rfl, rfl, rfl⟩)
  | n + 1, [], acc, a, r, h => by cases h
  | n + 1, v :: st, acc, a, r, h => by
    obtain ⟨b, h1, h2, h3⟩ := am_tk_spec n st (v :: acc) a r h
    exact ⟨v :: b, by rw [h1]; simp, by rw [h2]; rfl, by simp [h3]⟩
theorem am_met_of {l : Launch} {n : Nat} (hn : am_SND l n) {j : Nat} {args : List am_V} {h : am_H} {Q : am_P} (ad : Nat → Nat) (cA : Nat → ClassId) (D : va_G) (sz : Nat) (hM : am_mk j) (hc : am_cat args ≤ am_ml j) (hw : am_wp n j 0 (am_pad (am_ml j) args) [] h Q) :
    Met l (am_y j) (am_ws j) (am_rm j) (am_Pc ad cA D args h sz) (am_Q ad cA D Q (am_A ad sz)) 0 0 (am_A ad sz) := by
  refine am_ofW (cc := am_by j) (maxL := am_ml j) (ret := am_rt j) hM.2.2.2.1 rfl ?_
  intro p e s m args' below meth c s₁ B hml hv
  obtain ⟨rfl, hsz, hP, hK, hD0, hN⟩ := hv
  have hts := atoms_spec (ws := am_ws j) B.pre
  have hown : s.vm.findClass (am_y j).cls = some m.cls := findClass_of_methodNamed B.named
  subst hsz
  have hl := lv_entry (args.map (am_c ad)) (n := am_ml j) (by rw [am_sl_len]; exact hc)
  rw [lg_entry_eq]
  generalize (lg_sl (args.map (am_c ad)) ++ List.replicate (am_ml j - (lg_sl (args.map (am_c ad))).length) Slot.unset).toArray = ls at hl ⊢
  have key := hn j 0 (am_pad (am_ml j) args) [] h Q p e (am_rm j) s m (args.map (am_c ad)).toArray below meth c s.heap [] ad cA D (am_A ad s.heap.size) ls
    ⟨B.exec, B.bytes, B.returns, hml, hown, fun w hw => hts w (List.mem_cons_of_mem _ hw), B.notSynchronized, hK, hN, fun q h => Or.inr h, Nat.le_refl _, Nat.le_refl _⟩ hw
    ⟨hP, am_D_any hD0 (fun c hc _ => Or.inl ⟨c, hc, rfl⟩), va_S.rf⟩ ⟨⟨hl.1, hl.2.1, fun q hq => hl.2.2 q (am_pad_mem ad _ 0 args q hq)⟩, by rw [am_pad_len]; exact Nat.le_refl _⟩
  rw [hM.2.2.2.2.2.2.2.1] at key
  exact key
theorem am_callc {p : Program} {l : Launch} {e : Env} {R : Room} {s : State} {m : MethodId} {args : Array Value} {below : List Frame} {meth : Method} {c : Code} {H : Heap} {locs : List Loc} {Q : State → Prop} {pc : Nat} {ls : Array Slot} {rest st0 : List Value} {a : Array Value} {ad : Nat → Nat} {cA : Nat → ClassId} {D : va_G} {A : Nat → Prop} {h : am_H} {Qj : am_P}
    (hr : va_Run p l e R s m args below meth c H locs 0 0 0 0 (F0 m pc ls st0) rest (am_Q ad cA D Qj (am_A ad H.size) a) (am_A ad H.size)) (wd : am_wd ad cA D A s.heap h H locs) (hA : ∀ q, s.heap.size ≤ q → A q)
    (kk : ∀ (o : Option am_V) (h' : am_H) (H' : Heap) (locs' : List Loc), Qj o h' → am_wd ad cA D A s.heap h' H' locs' → W p l e R s m args below meth c H' locs' 0 0 Q (F0 m (pc + 3) ls ((o.map (am_c ad)).toList ++ rest))) : W p l e R s m args below meth c H locs 0 0 Q (F0 m pc ls st0) := by
  intro T hT X
  obtain ⟨v, st₀, t, T', L, h0, X', hL, e1, e2, ⟨⟨r, h', hv, hp, hP', hK', hN'⟩, hz, hk⟩, st⟩ := hr T hT X
  cases hv
  rw [h0] at hz hk
  obtain ⟨hP, hD, hS⟩ := wd
  have hA1 : ∀ q, am_A ad H.size q → A q := by
    intro q hq
    rcases hq with ⟨c', hc', rfl⟩ | hq
    · exact hD.2 c' _ (am_w_at ad cA h hc')
    · exact hA q (Nat.le_trans hS.1 hq)
  obtain ⟨t2, a1, b1⟩ := kk r h' T'.heap (locs ++ L) hp ⟨by rw [e1]; exact hP', am_D_any hD (fun _ _ h => h), ⟨Nat.le_trans hS.1 (by rw [e1]; exact hz), fun q h1 h2 => by rw [e1, hk q (Nat.lt_of_lt_of_le h1 hS.1) (fun z => h2 (hA1 q z))]; exact hS.2.1 q h1 h2, fun q hq => by
      rcases List.mem_append.mp hq with h | h
      · exact hS.2.2 q h
      · exact hA1 _ (hL q h)⟩⟩ T' rfl X'
  exact ⟨t2, st t2 a1, b1⟩
