/-! the constructors (written by wip/whole/mkctor.py) -/
abbrev kI (c : ClassId) (n : Nat) : va_E := .inl (c, n, .inl (fun _ => 0))
abbrev kL (c : ClassId) (n : Nat) : va_E := .inl (c, n, .inr (.inl (fun _ => 0)))
theorem kk_mem {L : List (Nat × Jvm.Cond)} (h : L.all (fun q => am_at q.1 q.2) = true) {i w : Nat} {c : Jvm.Cond} (hi : L[i]? = some (w, c)) : c ∈ am_tb := am_at_mem (List.all_eq_true.mp h (w, c) (List.mem_of_getElem? hi))
theorem ks_get {p : Program} {l : Launch} {e : Env} {R : Room} {s : State} {m : MethodId} {args : Array Value} {below : List Frame} {meth : Method} {c : Code} {H : Heap} {locs : List Loc} {cells slots : Nat} {Q : State → Prop} {cc : ByteArray} {nL : Nat} {own : String} {A : Nat → Prop} {D : va_G} {tys : List (ClassId × FieldType)} {ws : va_W} {pc a x ci N : Nat} {ls : Array Slot} {fs : List Value} {T : u_T} {v : Value} {rest : List Value}
    (C : kx p s m args c cc nL own A) (K : kw D A tys ws s H locs) (q0 : Nat) (he : ws[q0]? = some (a, .inr (ci, fs))) (hc : am_cl[ci]? = some (own, T, N)) (k : Nat) (hk : k < N ∧ (T k).1 = own) (hlk : Jvm.Cond.fieldLink own x own (T k).2.1 (T k).2.2.1 ∈ am_tb) (hv : fs[k]? = some v) (d : decode cc pc = .ok (.getfield x, 3))
    (kk : W p l e R s m args below meth c H locs cells slots Q (F0 m (pc + 3) ls (v :: rest))) : W p l e R s m args below meth c H locs cells slots Q (F0 m pc ls (.ref a :: rest)) := by
  obtain ⟨hx, hb, hml, hown, hts, -, -⟩ := C
  obtain ⟨hK, hP, hD, hS⟩ := K
  exact va_get hx hb hts (am_cls hc).2.1 hown hK hP q0 he hc k hk.1 (hts _ hlk) (fun x9 h9 => by rw [hk.2] at h9; exact h9) hv d kk
