/-! the law: a call, a push -/
theorem am_callk {p : Program} {l : Launch} {e : Env} {R : Room} {s : State} {m : MethodId} {args : Array Value} {below : List Frame} {meth : Method} {c : Code} {H : Heap} {locs : List Loc} {Q : State → Prop} {pc : Nat} {ls : Array Slot} {rest st0 : List Value} {a : Array Value} {ad : Nat → Nat} {cA : Nat → ClassId} {D : va_G} {A : Nat → Prop} {h : am_H} {Qj : am_P} {kc ks : Nat}
    (hr : va_Run p l e R s m args below meth c H locs kc ks 0 0 (F0 m pc ls st0) rest (am_Q ad cA D Qj (am_A ad H.size) a) (am_A ad H.size)) (wd : am_wd ad cA D A s.heap h H locs) (hA : ∀ q, s.heap.size ≤ q → A q)
    (kk : ∀ (o : Option am_V) (h' : am_H) (H' : Heap) (locs' : List Loc), Qj o h' → am_wd ad cA D A s.heap h' H' locs' → W p l e R s m args below meth c H' locs' kc ks Q (F0 m (pc + 3) ls ((o.map (am_c ad)).toList ++ rest))) : W p l e R s m args below meth c H locs kc ks Q (F0 m pc ls st0) := by
  intro T hT X
  obtain ⟨v, st₀, t, T', L, h0, X', hL, e1, e2, ⟨⟨r, h', hv, hp, hP', hK', hN'⟩, hz, hk⟩, st⟩ := hr T hT X
  cases hv
  rw [h0] at hz hk
  obtain ⟨hP, hD, hS⟩ := wd
  have hA1 : ∀ q, am_A ad H.size q → A q := by
    intro q hq
    rcases hq with ⟨c', hc', rfl⟩ | hq
    · exact hD.2 c' _ (am_w_at ad cA h hc')
    · exact hA q (Nat.le_trans hS.1 hq)
  obtain ⟨t2, a1, b1⟩ := kk r h' T'.heap (locs ++ L) hp ⟨by rw [e1]; exact hP', am_D_any hD (fun _ _ h => h), ⟨Nat.le_trans hS.1 (by rw [e1]; exact hz), fun q h1 h2 => by rw [e1, hk q (Nat.lt_of_lt_of_le h1 hS.1) (fun z => h2 (hA1 q z))]; exact hS.2.1 q h1 h2, fun q hq => by
      rcases List.mem_append.mp hq with h | h
      · exact hS.2.2 q h
      · exact hA1 _ (hL q h)⟩⟩ T' rfl X'
  exact ⟨t2, st t2 a1, b1⟩
theorem lw_tb {w : Jvm.Cond} (h : w ∈ am_tb) : w ∈ lw_tbl := (List.mem_filter.mp h).1
/-- what is known in the law's frame -/
def lq (p : Program) (s : State) (m : MethodId) (args : Array Value) (c : Code) (cA : Nat → ClassId) (D : va_G) (A : Nat → Prop) : Prop :=
  p.tables.exec = Jvm.exec ∧ c.code = code ∧ c.maxLocals = 4 ∧ s.vm.findClass "ThreeRingsLaw" = some m.cls ∧ (∀ w ∈ lw_tbl, w.before args s = true) ∧ va_K D am_cl (am_ty cA) s ∧ va_Nw am_nest s ∧ (∀ q, s.heap.size ≤ q → A q)
set_option maxHeartbeats 1000000 in
theorem lw_call {p : Program} {l : Launch} {e : Env} {s : State} {m : MethodId} {args : Array Value} {below : List Frame} {meth : Method} {c : Code} {H : Heap} {locs : List Loc} {Q : State → Prop} {pc : Nat} {ls : Array Slot} {r : List Value} {ad : Nat → Nat} {cA : Nat → ClassId} {D : va_G} {A : Nat → Prop} {h : am_H} {Qj : am_P} {kc ks : Nat} {a c0 x0 : Nat} {tl : List am_V} {lv : List (Nat × Value)}
    (C : lq p s m args c cA D A) (hcall : am_Call a (.inr (.inr (some c0)) :: tl) h Qj) (hss : am_ss a = false) (hlen : tl.length = am_np a) (hfr : am_fr a + 1 ≤ 11) (hlr : 8 + (am_ml a + 11) + am_lr a ≤ 462) (hlk : Jvm.Cond.methodLink "ThreeRingsLaw" x0 (am_y a) ∈ lw_tbl) (hdg : decode code pc = .ok (.invokevirtual x0, 3)) (hl : lv_has ls 4 lv) (hcat : (r.map fun v => v.category).sum ≤ 8) (wd : am_wd ad cA D A s.heap h H locs)
    (kk : ∀ (o : Option am_V) (h' : am_H) (H' : Heap) (locs' : List Loc), Qj o h' → am_wd ad cA D A s.heap h' H' locs' → W p l e room_1 s m args below meth c H' locs' kc ks Q (F0 m (pc + 3) ls ((o.map (am_c ad)).toList ++ r))) (hkc : kc + 0 ≤ 87) (hks : ks + 0 ≤ 15269) : W p l e room_1 s m args below meth c H locs kc ks Q (F0 m pc ls ((tl.map (am_c ad)).reverse ++ .ref (ad c0) :: r)) := by
  obtain ⟨hx, hb, hml, hown, hts, hK, hN, hA⟩ := C
  obtain ⟨n, hw⟩ := hcall
  unfold am_rc at hw
  rw [hss] at hw
  simp only [Bool.false_eq_true, if_false] at hw
  split at hw
  · rename_i ci fks hlay
    by_cases hcc : ci = am_oc a
    · rw [if_pos hcc] at hw
      by_cases hca : am_cat (.inr (.inr (some c0)) :: tl) ≤ am_ml a
      · rw [if_pos hca] at hw
        have hMj : am_mk a := by
          cases n with
          | zero => exact hw.elim
          | succ n' =>
            rw [am_wp] at hw
            cases he' : am_nth (am_code a) 0 with
            | none => rw [he'] at hw; exact hw.elim
            | some e' => exact am_mk_of he'
        have hMet := am_met_of (am_snd l n) ad cA D H.size hMj hca hw
        obtain ⟨k1, k2, k3, k4, k5, k6, k7, -, -⟩ := hMj
        rw [hss] at k3
        simp only [Bool.false_eq_true, if_false] at k3
        have hcl : ∃ q, am_cl[am_oc a]? = some q ∧ q.1 = (am_y a).cls := by
          cases hq0 : am_cl[am_oc a]? with
          | none => rw [hq0] at k3; simp at k3
          | some q => rw [hq0] at k3; exact ⟨q, rfl, by simpa using k3.2.2⟩
        obtain ⟨⟨qC, qT, qN⟩, hq1, hq2⟩ := hcl
        have hci8 := (am_cls hq1).1
        have he0 := am_w_at ad cA h (am_lay_obj hlay (by rw [hcc]; exact hci8))
        rw [am_en_obj hlay, hcc] at he0
        have hrc := va_recv hK wd.1 hq1 he0
        rw [hq2] at hrc
        refine am_callk (h := h) (va_runV (As := tl.map (am_c ad)) (rest := r) (nL := 4) (Ts := lw_tbl) (own := "ThreeRingsLaw") ⟨hx, hb, hml, hown, hts⟩ hMet
          ⟨⟨rfl, rfl, hfr, hlr, pay_in hts (fun w hw => by
            have z := am_tb_good (c := w) (by rcases List.mem_cons.mp hw with rfl | hw; exact k1; exact hw)
            exact ⟨lw_tb z.1, z.2⟩), List.mem_cons_self, hts _ (lw_tb k1), hts _ (lw_tb k2), ⟨k5, k6⟩, fun sig hsg => by rw [hsg] at k7; exact (Option.some.inj k7).symm, hts _ hlk⟩, hts _ (lw_tb k3.1), hts _ (lw_tb k3.2.1)⟩
          ⟨am_Pc_blind, hrc, fun U hU hW => ⟨rfl, by rw [hU], by rw [hU]; exact wd.1, va_K.moved hW.alike hK, am_D_any wd.2.1 (fun _ _ _ => trivial), va_Nw.warmM hW hN⟩⟩
          rfl (by rw [List.length_map]; exact hlen) hl.1 rfl (lv_room hcat) hdg ⟨hkc, hks⟩) wd hA kk
      · rw [if_neg hca] at hw; exact hw.elim
    · rw [if_neg hcc] at hw; exact hw.elim
  · exact hw.elim
theorem lw_call' {p : Program} {l : Launch} {e : Env} {s : State} {m : MethodId} {args : Array Value} {below : List Frame} {meth : Method} {c : Code} {H : Heap} {locs : List Loc} {Q : State → Prop} {pc : Nat} {ls : Array Slot} {r st : List Value} {ad : Nat → Nat} {cA : Nat → ClassId} {D : va_G} {A : Nat → Prop} {h : am_H} {Qj : am_P} {kc ks : Nat} {a c0 x0 : Nat} {tl : List am_V} {lv : List (Nat × Value)}
    (C : lq p s m args c cA D A) (hcall : am_Call a (.inr (.inr (some c0)) :: tl) h Qj) (hst : st = (tl.map (am_c ad)).reverse ++ .ref (ad c0) :: r) (hss : am_ss a = false ∧ tl.length = am_np a ∧ am_fr a + 1 ≤ 11 ∧ 8 + (am_ml a + 11) + am_lr a ≤ 462) (hlk : Jvm.Cond.methodLink "ThreeRingsLaw" x0 (am_y a) ∈ lw_tbl) (hdg : decode code pc = .ok (.invokevirtual x0, 3)) (hl : lv_has ls 4 lv) (hcat : (r.map fun v => v.category).sum ≤ 8) (wd : am_wd ad cA D A s.heap h H locs) (hk : kc + 0 ≤ 87 ∧ ks + 0 ≤ 15269)
    (kk : ∀ (o : Option am_V) (h' : am_H) (H' : Heap) (locs' : List Loc), Qj o h' → am_wd ad cA D A s.heap h' H' locs' → W p l e room_1 s m args below meth c H' locs' kc ks Q (F0 m (pc + 3) ls ((o.map (am_c ad)).toList ++ r))) : W p l e room_1 s m args below meth c H locs kc ks Q (F0 m pc ls st) := by
  rw [hst]
  exact lw_call C hcall hss.1 hss.2.1 hss.2.2.1 hss.2.2.2 hlk hdg hl hcat wd kk hk.1 hk.2
theorem lw_cat {ad : Nat → Nat} (o : Option am_V) : (((o.map (am_c ad)).toList).map fun v => v.category).sum ≤ 8 := by
  cases o with
  | none => exact Nat.zero_le _
  | some v => rcases v with x | x | x <;> (try (cases x)) <;> exact Nat.le_of_ble_eq_true rfl
theorem lw_push {p : Program} {l : Launch} {e : Env} {s : State} {m : MethodId} {args : Array Value} {below : List Frame} {meth : Method} {c : Code} {H : Heap} {locs : List Loc} {Q : State → Prop} {pc : Nat} {ls : Array Slot} {st : List Value} {A : Nat → Prop} {kc ks b L : Nat} {xs : Nat → Int32} {x3 kk : Int32} {k : Int} {lv : List (Nat × Value)} {i0 i3 : Nat}
    (hx : p.tables.exec = Jvm.exec) (hb : c.code = code) (hX : va_X b L xs s s.heap) (hbl : b < s.heap.size) (hbA : ¬ A b) (hS : va_S A s.heap H locs) (hl : lv_has ls 4 lv) (h0 : lv[i0]? = some (0, .ref b)) (h3 : lv[i3]? = some (3, .int x3)) (hk : Int32.ofInt k = kk) (hin : vp_in (x3 + kk) L)
    (d0 : decode code pc = .ok (.aload_n 0, 1)) (d1 : decode code (pc + 1) = .ok (.iload_n 3, 1)) (d2 : decode code (pc + 1 + 1) = .ok (.iconst k, 1)) (d3 : decode code (pc + 1 + 1 + 1) = .ok (.iadd, 1)) (d4 : decode code (pc + 1 + 1 + 1 + 1) = .ok (.iaload, 1))
    (K : W p l e room_1 s m args below meth c H locs kc ks Q (F0 m (pc + 1 + 1 + 1 + 1 + 1) ls (.int (xs (x3 + kk).toNatClampNeg) :: st))) : W p l e room_1 s m args below meth c H locs kc ks Q (F0 m pc ls st) := by
  refine lv_aload_n hx hb d0 rfl (lv_at hl i0 h0) ?_
  refine lv_iload_n hx hb d1 rfl (lv_at hl i3 h3) ?_
  refine lv_iconst hx hb d2 hk ?_
  refine lv_iadd hx hb d3 ?_
  exact va_sld hx hb hX hbl hbA hS hin d4 K
