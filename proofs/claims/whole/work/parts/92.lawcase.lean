/-! the law: its cases -/
theorem lw_bool {p : Program} {l : Launch} {e : Env} {s : State} {m : MethodId} {args : Array Value} {below : List Frame} {meth : Method} {c : Code} {H : Heap} {locs : List Loc} {Q : State → Prop} {pc tgt en : Nat} {ls : Array Slot} {st : List Value} {kc ks : Nat} {x : Int32} {o1 o2 : Int} (hx : p.tables.exec = Jvm.exec) (hb : c.code = code) (d0 : decode code pc = .ok (.ifCond .eq o1, 3)) (t0 : (pc : Int) + o1 = (tgt : Int)) (d1 : decode code (pc + 3) = .ok (.iconst 1, 1)) (d2 : decode code (pc + 3 + 1) = .ok (.goto o2, 3)) (t2 : ((pc + 3 + 1 : Nat) : Int) + o2 = (en : Int)) (d3 : decode code tgt = .ok (.iconst 0, 1)) (te : tgt + 1 = en)
    (K : W p l e room_1 s m args below meth c H locs kc ks Q (F0 m en ls (.int (if x = 0 then 0 else 1) :: st))) : W p l e room_1 s m args below meth c H locs kc ks Q (F0 m pc ls (.int x :: st)) := by
  refine lv_if_eq hx hb d0 t0 (fun z => ?_) (fun z => ?_)
  · rw [if_pos z] at K
    subst te
    exact lv_iconst hx hb d3 (by decide) K
  · rw [if_neg z] at K
    exact lv_iconst hx hb d1 (by decide) (lv_goto hx hb d2 t2 K)
theorem lw_R (v : Int32) : am_R v.toInt := ⟨by have := Int32.le_toInt v; omega, by have := Int32.toInt_lt v; omega⟩

set_option maxHeartbeats 1000000 in
theorem lc_write {p : Program} {l : Launch} {e : Env} {s : State} {m : MethodId} {below : List Frame} {meth : Method} {c : Code} {H : Heap} {locs : List Loc} {Q : State → Prop} {ls : Array Slot} {ad : Nat → Nat} {cA : Nat → ClassId} {D : va_G} {b L : Nat} {xs : Nat → Int32} {x3 : Int32} {k : Int} {h : am_H} (C : lq p s m #[Value.ref b] c cA D (fun q => s.heap.size ≤ q)) (hX : va_X b L xs s s.heap) (hbl : b < s.heap.size) (hl : lv_has ls 4 [(3, .int x3), (2, .ref (ad 86)), (1, .ref (ad 75)), (0, .ref b)]) (hin : ∀ q : Int32, q = 1 ∨ q = 2 ∨ q = 3 ∨ q = 4 ∨ q = 5 → vp_in (x3 + q) L) (hi : iv h k) (hk : k ≤ 600) (wd : am_wd ad cA D (fun q => s.heap.size ≤ q) s.heap h H locs) (K : ∀ h' H' locs', iv h' (k + 1) → am_wd ad cA D (fun q => s.heap.size ≤ q) s.heap h' H' locs' → W p l e room_1 s m #[Value.ref b] below meth c H' locs' 87 15269 Q (F0 m 1240 ls [])) : W p l e room_1 s m #[Value.ref b] below meth c H locs 87 15269 Q (F0 m 168 ls []) := by
  obtain ⟨hx, hb, hml, hown, hts, hK, hN, hA⟩ := id C
  have hbA : ¬ (fun q : Nat => s.heap.size ≤ q) b := Nat.not_le.mpr hbl
  refine lv_aload_n hx hb dl_168 rfl (lv_at hl 2 rfl) ?_
  refine lw_push (k := 1) (kk := 1) (i0 := 3) (i3 := 0) hx hb hX hbl hbA wd.2.2 hl rfl rfl (by decide) (hin 1 (by simp)) dl_169 dl_170 dl_171 dl_172 dl_173 ?_
  refine lw_push (k := 2) (kk := 2) (i0 := 3) (i3 := 0) hx hb hX hbl hbA wd.2.2 hl rfl rfl (by decide) (hin 2 (by simp)) dl_174 dl_175 dl_176 dl_177 dl_178 ?_
  refine lv_i2l hx hb dl_179 rfl ?_
  refine lv_bipush (v := 32) hx hb dl_180 (by decide) ?_
  refine lv_lshl hx hb dl_182 rfl ?_
  refine lw_push (k := 3) (kk := 3) (i0 := 3) (i3 := 0) hx hb hX hbl hbA wd.2.2 hl rfl rfl (by decide) (hin 3 (by simp)) dl_183 dl_184 dl_185 dl_186 dl_187 ?_
  refine lv_i2l hx hb dl_188 rfl ?_
  refine lv_ldc2 (own := "ThreeRingsLaw") (v := 4294967295) hx hb hown (hts _ (lw_tb (am_at_mem (w := 5116) (by decide +kernel)))) dl_189 ?_
  refine lv_land hx hb dl_192 ?_
  refine lv_lor hx hb dl_193 ?_
  refine lw_call' (a := 56) (c0 := 75) (tl := [.inl (xs (x3 + 1).toNatClampNeg).toInt, .inr (.inl ((((xs (x3 + 2).toNatClampNeg).toInt64) <<< ((32 : Int32).toInt64 &&& 63)) ||| (((xs (x3 + 3).toNatClampNeg).toInt64) &&& 4294967295)))]) (r := []) (Qj := fun o h1 => am_Call 101 (.inr (.inr (some 86)) :: [.inl (xs (x3 + 1).toNatClampNeg).toInt, .inr (.inl ((((xs (x3 + 2).toNatClampNeg).toInt64) <<< ((32 : Int32).toInt64 &&& 63)) ||| (((xs (x3 + 3).toNatClampNeg).toInt64) &&& 4294967295)))]) h1 (rg_post k o)) C (pr_write (lw_R _) hi) (by simp only [List.map, List.reverse, List.reverseAux, am_c, Int32.ofInt_toInt]; rfl) (show am_ss 56 = false ∧ 2 = am_np 56 ∧ am_fr 56 + 1 ≤ 11 ∧ 8 + (am_ml 56 + 11) + am_lr 56 ≤ 462 from by decide +kernel) (lw_tb (am_at_mem (w := 2047) (by decide +kernel))) dl_194 hl (Nat.zero_le _) wd (by decide) (fun o h1 H1 locs1 q1 wd1 => ?_)
  refine lv_aload_n hx hb dl_197 rfl (lv_at hl 1 rfl) ?_
  refine lw_push (k := 1) (kk := 1) (i0 := 3) (i3 := 0) hx hb hX hbl hbA wd1.2.2 hl rfl rfl (by decide) (hin 1 (by simp)) dl_198 dl_199 dl_200 dl_201 dl_202 ?_
  refine lw_push (k := 2) (kk := 2) (i0 := 3) (i3 := 0) hx hb hX hbl hbA wd1.2.2 hl rfl rfl (by decide) (hin 2 (by simp)) dl_203 dl_204 dl_205 dl_206 dl_207 ?_
  refine lv_i2l hx hb dl_208 rfl ?_
  refine lv_bipush (v := 32) hx hb dl_209 (by decide) ?_
  refine lv_lshl hx hb dl_211 rfl ?_
  refine lw_push (k := 3) (kk := 3) (i0 := 3) (i3 := 0) hx hb hX hbl hbA wd1.2.2 hl rfl rfl (by decide) (hin 3 (by simp)) dl_212 dl_213 dl_214 dl_215 dl_216 ?_
  refine lv_i2l hx hb dl_217 rfl ?_
  refine lv_ldc2 (own := "ThreeRingsLaw") (v := 4294967295) hx hb hown (hts _ (lw_tb (am_at_mem (w := 5116) (by decide +kernel)))) dl_218 ?_
  refine lv_land hx hb dl_221 ?_
  refine lv_lor hx hb dl_222 ?_
  refine lw_call' (a := 101) (c0 := 86) (tl := [.inl (xs (x3 + 1).toNatClampNeg).toInt, .inr (.inl ((((xs (x3 + 2).toNatClampNeg).toInt64) <<< ((32 : Int32).toInt64 &&& 63)) ||| (((xs (x3 + 3).toNatClampNeg).toInt64) &&& 4294967295)))]) (r := (o.map (am_c ad)).toList) C q1 (by simp only [List.map, List.reverse, List.reverseAux, am_c, Int32.ofInt_toInt, List.append_nil]; rfl) (show am_ss 101 = false ∧ 2 = am_np 101 ∧ am_fr 101 + 1 ≤ 11 ∧ 8 + (am_ml 101 + 11) + am_lr 101 ≤ 462 from by decide +kernel) (lw_tb (am_at_mem (w := 4112) (by decide +kernel))) dl_223 hl (lw_cat o) wd1 (by decide) (fun o2 h2 H2 locs2 q2 wd2 => ?_)
  obtain ⟨e1, ⟨x, e2, _⟩, i2⟩ := q2
  subst e1
  subst e2
  exact lv_icmp_eq (tgt := 1240) hx hb dl_226 (by decide) (fun _ => K h2 H2 locs2 i2 wd2) (fun z => absurd rfl z)
set_option maxHeartbeats 1000000 in
theorem lc_wipe {p : Program} {l : Launch} {e : Env} {s : State} {m : MethodId} {below : List Frame} {meth : Method} {c : Code} {H : Heap} {locs : List Loc} {Q : State → Prop} {ls : Array Slot} {ad : Nat → Nat} {cA : Nat → ClassId} {D : va_G} {b L : Nat} {xs : Nat → Int32} {x3 : Int32} {k : Int} {h : am_H} (C : lq p s m #[Value.ref b] c cA D (fun q => s.heap.size ≤ q)) (hX : va_X b L xs s s.heap) (hbl : b < s.heap.size) (hl : lv_has ls 4 [(3, .int x3), (2, .ref (ad 86)), (1, .ref (ad 75)), (0, .ref b)]) (hin : ∀ q : Int32, q = 1 ∨ q = 2 ∨ q = 3 ∨ q = 4 ∨ q = 5 → vp_in (x3 + q) L) (hi : iv h k) (hk : k ≤ 600) (wd : am_wd ad cA D (fun q => s.heap.size ≤ q) s.heap h H locs) (K : ∀ h' H' locs', iv h' (k + 1) → am_wd ad cA D (fun q => s.heap.size ≤ q) s.heap h' H' locs' → W p l e room_1 s m #[Value.ref b] below meth c H' locs' 87 15269 Q (F0 m 1240 ls [])) : W p l e room_1 s m #[Value.ref b] below meth c H locs 87 15269 Q (F0 m 231 ls []) := by
  obtain ⟨hx, hb, hml, hown, hts, hK, hN, hA⟩ := id C
  have hbA : ¬ (fun q : Nat => s.heap.size ≤ q) b := Nat.not_le.mpr hbl
  refine lv_aload_n hx hb dl_231 rfl (lv_at hl 2 rfl) ?_
  refine lw_call' (a := 57) (c0 := 75) (tl := []) (r := []) (Qj := fun o h1 => am_Call 102 (.inr (.inr (some 86)) :: []) h1 (rg_post k o)) C (pr_wipe hi) (by simp only [List.map, List.reverse, List.reverseAux, am_c, Int32.ofInt_toInt]; rfl) (show am_ss 57 = false ∧ 0 = am_np 57 ∧ am_fr 57 + 1 ≤ 11 ∧ 8 + (am_ml 57 + 11) + am_lr 57 ≤ 462 from by decide +kernel) (lw_tb (am_at_mem (w := 2051) (by decide +kernel))) dl_232 hl (Nat.zero_le _) wd (by decide) (fun o h1 H1 locs1 q1 wd1 => ?_)
  refine lv_aload_n hx hb dl_235 rfl (lv_at hl 1 rfl) ?_
  refine lw_call' (a := 102) (c0 := 86) (tl := []) (r := (o.map (am_c ad)).toList) C q1 (by simp only [List.map, List.reverse, List.reverseAux, am_c, Int32.ofInt_toInt, List.append_nil]; rfl) (show am_ss 102 = false ∧ 0 = am_np 102 ∧ am_fr 102 + 1 ≤ 11 ∧ 8 + (am_ml 102 + 11) + am_lr 102 ≤ 462 from by decide +kernel) (lw_tb (am_at_mem (w := 4120) (by decide +kernel))) dl_236 hl (lw_cat o) wd1 (by decide) (fun o2 h2 H2 locs2 q2 wd2 => ?_)
  obtain ⟨e1, ⟨x, e2, _⟩, i2⟩ := q2
  subst e1
  subst e2
  exact lv_icmp_eq (tgt := 1240) hx hb dl_239 (by decide) (fun _ => K h2 H2 locs2 i2 wd2) (fun z => absurd rfl z)
set_option maxHeartbeats 1000000 in
theorem lc_fault {p : Program} {l : Launch} {e : Env} {s : State} {m : MethodId} {below : List Frame} {meth : Method} {c : Code} {H : Heap} {locs : List Loc} {Q : State → Prop} {ls : Array Slot} {ad : Nat → Nat} {cA : Nat → ClassId} {D : va_G} {b L : Nat} {xs : Nat → Int32} {x3 : Int32} {k : Int} {h : am_H} (C : lq p s m #[Value.ref b] c cA D (fun q => s.heap.size ≤ q)) (hX : va_X b L xs s s.heap) (hbl : b < s.heap.size) (hl : lv_has ls 4 [(3, .int x3), (2, .ref (ad 86)), (1, .ref (ad 75)), (0, .ref b)]) (hin : ∀ q : Int32, q = 1 ∨ q = 2 ∨ q = 3 ∨ q = 4 ∨ q = 5 → vp_in (x3 + q) L) (hi : iv h k) (hk : k ≤ 600) (wd : am_wd ad cA D (fun q => s.heap.size ≤ q) s.heap h H locs) (K : ∀ h' H' locs', iv h' (k + 1) → am_wd ad cA D (fun q => s.heap.size ≤ q) s.heap h' H' locs' → W p l e room_1 s m #[Value.ref b] below meth c H' locs' 87 15269 Q (F0 m 1240 ls [])) : W p l e room_1 s m #[Value.ref b] below meth c H locs 87 15269 Q (F0 m 244 ls []) := by
  obtain ⟨hx, hb, hml, hown, hts, hK, hN, hA⟩ := id C
  have hbA : ¬ (fun q : Nat => s.heap.size ≤ q) b := Nat.not_le.mpr hbl
  refine lv_aload_n hx hb dl_244 rfl (lv_at hl 2 rfl) ?_
  refine lw_call' (a := 58) (c0 := 75) (tl := []) (r := []) (Qj := fun o h1 => am_Call 108 (.inr (.inr (some 86)) :: []) h1 (rg_post k o)) C (pr_fault hi) (by simp only [List.map, List.reverse, List.reverseAux, am_c, Int32.ofInt_toInt]; rfl) (show am_ss 58 = false ∧ 0 = am_np 58 ∧ am_fr 58 + 1 ≤ 11 ∧ 8 + (am_ml 58 + 11) + am_lr 58 ≤ 462 from by decide +kernel) (lw_tb (am_at_mem (w := 2055) (by decide +kernel))) dl_245 hl (Nat.zero_le _) wd (by decide) (fun o h1 H1 locs1 q1 wd1 => ?_)
  refine lv_aload_n hx hb dl_248 rfl (lv_at hl 1 rfl) ?_
  refine lw_call' (a := 108) (c0 := 86) (tl := []) (r := (o.map (am_c ad)).toList) C q1 (by simp only [List.map, List.reverse, List.reverseAux, am_c, Int32.ofInt_toInt, List.append_nil]; rfl) (show am_ss 108 = false ∧ 0 = am_np 108 ∧ am_fr 108 + 1 ≤ 11 ∧ 8 + (am_ml 108 + 11) + am_lr 108 ≤ 462 from by decide +kernel) (lw_tb (am_at_mem (w := 4124) (by decide +kernel))) dl_249 hl (lw_cat o) wd1 (by decide) (fun o2 h2 H2 locs2 q2 wd2 => ?_)
  obtain ⟨e1, ⟨x, e2, _⟩, i2⟩ := q2
  subst e1
  subst e2
  exact lv_icmp_eq (tgt := 1240) hx hb dl_252 (by decide) (fun _ => K h2 H2 locs2 i2 wd2) (fun z => absurd rfl z)
set_option maxHeartbeats 1000000 in
theorem lc_city {p : Program} {l : Launch} {e : Env} {s : State} {m : MethodId} {below : List Frame} {meth : Method} {c : Code} {H : Heap} {locs : List Loc} {Q : State → Prop} {ls : Array Slot} {ad : Nat → Nat} {cA : Nat → ClassId} {D : va_G} {b L : Nat} {xs : Nat → Int32} {x3 : Int32} {k : Int} {h : am_H} (C : lq p s m #[Value.ref b] c cA D (fun q => s.heap.size ≤ q)) (hX : va_X b L xs s s.heap) (hbl : b < s.heap.size) (hl : lv_has ls 4 [(3, .int x3), (2, .ref (ad 86)), (1, .ref (ad 75)), (0, .ref b)]) (hin : ∀ q : Int32, q = 1 ∨ q = 2 ∨ q = 3 ∨ q = 4 ∨ q = 5 → vp_in (x3 + q) L) (hi : iv h k) (hk : k ≤ 600) (wd : am_wd ad cA D (fun q => s.heap.size ≤ q) s.heap h H locs) (K : ∀ h' H' locs', iv h' (k + 1) → am_wd ad cA D (fun q => s.heap.size ≤ q) s.heap h' H' locs' → W p l e room_1 s m #[Value.ref b] below meth c H' locs' 87 15269 Q (F0 m 1240 ls [])) : W p l e room_1 s m #[Value.ref b] below meth c H locs 87 15269 Q (F0 m 257 ls []) := by
  obtain ⟨hx, hb, hml, hown, hts, hK, hN, hA⟩ := id C
  have hbA : ¬ (fun q : Nat => s.heap.size ≤ q) b := Nat.not_le.mpr hbl
  refine lv_aload_n hx hb dl_257 rfl (lv_at hl 2 rfl) ?_
  refine lw_call' (a := 59) (c0 := 75) (tl := []) (r := []) (Qj := fun o h1 => am_Call 109 (.inr (.inr (some 86)) :: []) h1 (rg_post k o)) C (pr_city hi) (by simp only [List.map, List.reverse, List.reverseAux, am_c, Int32.ofInt_toInt]; rfl) (show am_ss 59 = false ∧ 0 = am_np 59 ∧ am_fr 59 + 1 ≤ 11 ∧ 8 + (am_ml 59 + 11) + am_lr 59 ≤ 462 from by decide +kernel) (lw_tb (am_at_mem (w := 2097) (by decide +kernel))) dl_258 hl (Nat.zero_le _) wd (by decide) (fun o h1 H1 locs1 q1 wd1 => ?_)
  refine lv_aload_n hx hb dl_261 rfl (lv_at hl 1 rfl) ?_
  refine lw_call' (a := 109) (c0 := 86) (tl := []) (r := (o.map (am_c ad)).toList) C q1 (by simp only [List.map, List.reverse, List.reverseAux, am_c, Int32.ofInt_toInt, List.append_nil]; rfl) (show am_ss 109 = false ∧ 0 = am_np 109 ∧ am_fr 109 + 1 ≤ 11 ∧ 8 + (am_ml 109 + 11) + am_lr 109 ≤ 462 from by decide +kernel) (lw_tb (am_at_mem (w := 4155) (by decide +kernel))) dl_262 hl (lw_cat o) wd1 (by decide) (fun o2 h2 H2 locs2 q2 wd2 => ?_)
  obtain ⟨e1, ⟨x, e2, _⟩, i2⟩ := q2
  subst e1
  subst e2
  exact lv_icmp_eq (tgt := 1240) hx hb dl_265 (by decide) (fun _ => K h2 H2 locs2 i2 wd2) (fun z => absurd rfl z)
set_option maxHeartbeats 1000000 in
theorem lc_about {p : Program} {l : Launch} {e : Env} {s : State} {m : MethodId} {below : List Frame} {meth : Method} {c : Code} {H : Heap} {locs : List Loc} {Q : State → Prop} {ls : Array Slot} {ad : Nat → Nat} {cA : Nat → ClassId} {D : va_G} {b L : Nat} {xs : Nat → Int32} {x3 : Int32} {k : Int} {h : am_H} (C : lq p s m #[Value.ref b] c cA D (fun q => s.heap.size ≤ q)) (hX : va_X b L xs s s.heap) (hbl : b < s.heap.size) (hl : lv_has ls 4 [(3, .int x3), (2, .ref (ad 86)), (1, .ref (ad 75)), (0, .ref b)]) (hin : ∀ q : Int32, q = 1 ∨ q = 2 ∨ q = 3 ∨ q = 4 ∨ q = 5 → vp_in (x3 + q) L) (hi : iv h k) (hk : k ≤ 600) (wd : am_wd ad cA D (fun q => s.heap.size ≤ q) s.heap h H locs) (K : ∀ h' H' locs', iv h' (k + 1) → am_wd ad cA D (fun q => s.heap.size ≤ q) s.heap h' H' locs' → W p l e room_1 s m #[Value.ref b] below meth c H' locs' 87 15269 Q (F0 m 1240 ls [])) : W p l e room_1 s m #[Value.ref b] below meth c H locs 87 15269 Q (F0 m 270 ls []) := by
  obtain ⟨hx, hb, hml, hown, hts, hK, hN, hA⟩ := id C
  have hbA : ¬ (fun q : Nat => s.heap.size ≤ q) b := Nat.not_le.mpr hbl
  refine lv_aload_n hx hb dl_270 rfl (lv_at hl 2 rfl) ?_
  refine lw_push (k := 1) (kk := 1) (i0 := 3) (i3 := 0) hx hb hX hbl hbA wd.2.2 hl rfl rfl (by decide) (hin 1 (by simp)) dl_271 dl_272 dl_273 dl_274 dl_275 ?_
  refine lw_call' (a := 60) (c0 := 75) (tl := [.inl (xs (x3 + 1).toNatClampNeg).toInt]) (r := []) (Qj := fun o h1 => am_Call 110 (.inr (.inr (some 86)) :: [.inl (xs (x3 + 1).toNatClampNeg).toInt]) h1 (rg_post k o)) C (pr_about (lw_R _) hi) (by simp only [List.map, List.reverse, List.reverseAux, am_c, Int32.ofInt_toInt]; rfl) (show am_ss 60 = false ∧ 1 = am_np 60 ∧ am_fr 60 + 1 ≤ 11 ∧ 8 + (am_ml 60 + 11) + am_lr 60 ≤ 462 from by decide +kernel) (lw_tb (am_at_mem (w := 2133) (by decide +kernel))) dl_276 hl (Nat.zero_le _) wd (by decide) (fun o h1 H1 locs1 q1 wd1 => ?_)
  refine lv_aload_n hx hb dl_279 rfl (lv_at hl 1 rfl) ?_
  refine lw_push (k := 1) (kk := 1) (i0 := 3) (i3 := 0) hx hb hX hbl hbA wd1.2.2 hl rfl rfl (by decide) (hin 1 (by simp)) dl_280 dl_281 dl_282 dl_283 dl_284 ?_
  refine lw_call' (a := 110) (c0 := 86) (tl := [.inl (xs (x3 + 1).toNatClampNeg).toInt]) (r := (o.map (am_c ad)).toList) C q1 (by simp only [List.map, List.reverse, List.reverseAux, am_c, Int32.ofInt_toInt, List.append_nil]; rfl) (show am_ss 110 = false ∧ 1 = am_np 110 ∧ am_fr 110 + 1 ≤ 11 ∧ 8 + (am_ml 110 + 11) + am_lr 110 ≤ 462 from by decide +kernel) (lw_tb (am_at_mem (w := 4159) (by decide +kernel))) dl_285 hl (lw_cat o) wd1 (by decide) (fun o2 h2 H2 locs2 q2 wd2 => ?_)
  obtain ⟨e1, ⟨x, e2, _⟩, i2⟩ := q2
  subst e1
  subst e2
  exact lv_icmp_eq (tgt := 1240) hx hb dl_288 (by decide) (fun _ => K h2 H2 locs2 i2 wd2) (fun z => absurd rfl z)
set_option maxHeartbeats 1000000 in
theorem lc_gate {p : Program} {l : Launch} {e : Env} {s : State} {m : MethodId} {below : List Frame} {meth : Method} {c : Code} {H : Heap} {locs : List Loc} {Q : State → Prop} {ls : Array Slot} {ad : Nat → Nat} {cA : Nat → ClassId} {D : va_G} {b L : Nat} {xs : Nat → Int32} {x3 : Int32} {k : Int} {h : am_H} (C : lq p s m #[Value.ref b] c cA D (fun q => s.heap.size ≤ q)) (hX : va_X b L xs s s.heap) (hbl : b < s.heap.size) (hl : lv_has ls 4 [(3, .int x3), (2, .ref (ad 86)), (1, .ref (ad 75)), (0, .ref b)]) (hin : ∀ q : Int32, q = 1 ∨ q = 2 ∨ q = 3 ∨ q = 4 ∨ q = 5 → vp_in (x3 + q) L) (hi : iv h k) (hk : k ≤ 600) (wd : am_wd ad cA D (fun q => s.heap.size ≤ q) s.heap h H locs) (K : ∀ h' H' locs', iv h' (k + 1) → am_wd ad cA D (fun q => s.heap.size ≤ q) s.heap h' H' locs' → W p l e room_1 s m #[Value.ref b] below meth c H' locs' 87 15269 Q (F0 m 1240 ls [])) : W p l e room_1 s m #[Value.ref b] below meth c H locs 87 15269 Q (F0 m 293 ls []) := by
  obtain ⟨hx, hb, hml, hown, hts, hK, hN, hA⟩ := id C
  have hbA : ¬ (fun q : Nat => s.heap.size ≤ q) b := Nat.not_le.mpr hbl
  refine lv_aload_n hx hb dl_293 rfl (lv_at hl 2 rfl) ?_
  refine lw_push (k := 1) (kk := 1) (i0 := 3) (i3 := 0) hx hb hX hbl hbA wd.2.2 hl rfl rfl (by decide) (hin 1 (by simp)) dl_294 dl_295 dl_296 dl_297 dl_298 ?_
  refine lw_push (k := 2) (kk := 2) (i0 := 3) (i3 := 0) hx hb hX hbl hbA wd.2.2 hl rfl rfl (by decide) (hin 2 (by simp)) dl_299 dl_300 dl_301 dl_302 dl_303 ?_
  refine lw_call' (a := 61) (c0 := 75) (tl := [.inl (xs (x3 + 1).toNatClampNeg).toInt, .inl (xs (x3 + 2).toNatClampNeg).toInt]) (r := []) (Qj := fun o h1 => am_Call 111 (.inr (.inr (some 86)) :: [.inl (xs (x3 + 1).toNatClampNeg).toInt, .inl (xs (x3 + 2).toNatClampNeg).toInt]) h1 (rg_post k o)) C (pr_gate (lw_R _) (lw_R _) hi) (by simp only [List.map, List.reverse, List.reverseAux, am_c, Int32.ofInt_toInt]; rfl) (show am_ss 61 = false ∧ 2 = am_np 61 ∧ am_fr 61 + 1 ≤ 11 ∧ 8 + (am_ml 61 + 11) + am_lr 61 ≤ 462 from by decide +kernel) (lw_tb (am_at_mem (w := 2137) (by decide +kernel))) dl_304 hl (Nat.zero_le _) wd (by decide) (fun o h1 H1 locs1 q1 wd1 => ?_)
  refine lv_aload_n hx hb dl_307 rfl (lv_at hl 1 rfl) ?_
  refine lw_push (k := 1) (kk := 1) (i0 := 3) (i3 := 0) hx hb hX hbl hbA wd1.2.2 hl rfl rfl (by decide) (hin 1 (by simp)) dl_308 dl_309 dl_310 dl_311 dl_312 ?_
  refine lw_push (k := 2) (kk := 2) (i0 := 3) (i3 := 0) hx hb hX hbl hbA wd1.2.2 hl rfl rfl (by decide) (hin 2 (by simp)) dl_313 dl_314 dl_315 dl_316 dl_317 ?_
  refine lw_call' (a := 111) (c0 := 86) (tl := [.inl (xs (x3 + 1).toNatClampNeg).toInt, .inl (xs (x3 + 2).toNatClampNeg).toInt]) (r := (o.map (am_c ad)).toList) C q1 (by simp only [List.map, List.reverse, List.reverseAux, am_c, Int32.ofInt_toInt, List.append_nil]; rfl) (show am_ss 111 = false ∧ 2 = am_np 111 ∧ am_fr 111 + 1 ≤ 11 ∧ 8 + (am_ml 111 + 11) + am_lr 111 ≤ 462 from by decide +kernel) (lw_tb (am_at_mem (w := 4163) (by decide +kernel))) dl_318 hl (lw_cat o) wd1 (by decide) (fun o2 h2 H2 locs2 q2 wd2 => ?_)
  obtain ⟨e1, ⟨x, e2, _⟩, i2⟩ := q2
  subst e1
  subst e2
  exact lv_icmp_eq (tgt := 1240) hx hb dl_321 (by decide) (fun _ => K h2 H2 locs2 i2 wd2) (fun z => absurd rfl z)
set_option maxHeartbeats 1000000 in
theorem lc_pace {p : Program} {l : Launch} {e : Env} {s : State} {m : MethodId} {below : List Frame} {meth : Method} {c : Code} {H : Heap} {locs : List Loc} {Q : State → Prop} {ls : Array Slot} {ad : Nat → Nat} {cA : Nat → ClassId} {D : va_G} {b L : Nat} {xs : Nat → Int32} {x3 : Int32} {k : Int} {h : am_H} (C : lq p s m #[Value.ref b] c cA D (fun q => s.heap.size ≤ q)) (hX : va_X b L xs s s.heap) (hbl : b < s.heap.size) (hl : lv_has ls 4 [(3, .int x3), (2, .ref (ad 86)), (1, .ref (ad 75)), (0, .ref b)]) (hin : ∀ q : Int32, q = 1 ∨ q = 2 ∨ q = 3 ∨ q = 4 ∨ q = 5 → vp_in (x3 + q) L) (hi : iv h k) (hk : k ≤ 600) (wd : am_wd ad cA D (fun q => s.heap.size ≤ q) s.heap h H locs) (K : ∀ h' H' locs', iv h' (k + 1) → am_wd ad cA D (fun q => s.heap.size ≤ q) s.heap h' H' locs' → W p l e room_1 s m #[Value.ref b] below meth c H' locs' 87 15269 Q (F0 m 1240 ls [])) : W p l e room_1 s m #[Value.ref b] below meth c H locs 87 15269 Q (F0 m 326 ls []) := by
  obtain ⟨hx, hb, hml, hown, hts, hK, hN, hA⟩ := id C
  have hbA : ¬ (fun q : Nat => s.heap.size ≤ q) b := Nat.not_le.mpr hbl
  refine lv_aload_n hx hb dl_326 rfl (lv_at hl 2 rfl) ?_
  refine lw_push (k := 1) (kk := 1) (i0 := 3) (i3 := 0) hx hb hX hbl hbA wd.2.2 hl rfl rfl (by decide) (hin 1 (by simp)) dl_327 dl_328 dl_329 dl_330 dl_331 ?_
  refine lw_call' (a := 62) (c0 := 75) (tl := [.inl (xs (x3 + 1).toNatClampNeg).toInt]) (r := []) (Qj := fun o h1 => am_Call 112 (.inr (.inr (some 86)) :: [.inl (xs (x3 + 1).toNatClampNeg).toInt]) h1 (rg_post k o)) C (pr_pace (lw_R _) hi) (by simp only [List.map, List.reverse, List.reverseAux, am_c, Int32.ofInt_toInt]; rfl) (show am_ss 62 = false ∧ 1 = am_np 62 ∧ am_fr 62 + 1 ≤ 11 ∧ 8 + (am_ml 62 + 11) + am_lr 62 ≤ 462 from by decide +kernel) (lw_tb (am_at_mem (w := 2145) (by decide +kernel))) dl_332 hl (Nat.zero_le _) wd (by decide) (fun o h1 H1 locs1 q1 wd1 => ?_)
  refine lv_aload_n hx hb dl_335 rfl (lv_at hl 1 rfl) ?_
  refine lw_push (k := 1) (kk := 1) (i0 := 3) (i3 := 0) hx hb hX hbl hbA wd1.2.2 hl rfl rfl (by decide) (hin 1 (by simp)) dl_336 dl_337 dl_338 dl_339 dl_340 ?_
  refine lw_call' (a := 112) (c0 := 86) (tl := [.inl (xs (x3 + 1).toNatClampNeg).toInt]) (r := (o.map (am_c ad)).toList) C q1 (by simp only [List.map, List.reverse, List.reverseAux, am_c, Int32.ofInt_toInt, List.append_nil]; rfl) (show am_ss 112 = false ∧ 1 = am_np 112 ∧ am_fr 112 + 1 ≤ 11 ∧ 8 + (am_ml 112 + 11) + am_lr 112 ≤ 462 from by decide +kernel) (lw_tb (am_at_mem (w := 4171) (by decide +kernel))) dl_341 hl (lw_cat o) wd1 (by decide) (fun o2 h2 H2 locs2 q2 wd2 => ?_)
  obtain ⟨e1, ⟨x, e2, _⟩, i2⟩ := q2
  subst e1
  subst e2
  exact lv_icmp_eq (tgt := 1240) hx hb dl_344 (by decide) (fun _ => K h2 H2 locs2 i2 wd2) (fun z => absurd rfl z)
set_option maxHeartbeats 1000000 in
theorem lc_turn {p : Program} {l : Launch} {e : Env} {s : State} {m : MethodId} {below : List Frame} {meth : Method} {c : Code} {H : Heap} {locs : List Loc} {Q : State → Prop} {ls : Array Slot} {ad : Nat → Nat} {cA : Nat → ClassId} {D : va_G} {b L : Nat} {xs : Nat → Int32} {x3 : Int32} {k : Int} {h : am_H} (C : lq p s m #[Value.ref b] c cA D (fun q => s.heap.size ≤ q)) (hX : va_X b L xs s s.heap) (hbl : b < s.heap.size) (hl : lv_has ls 4 [(3, .int x3), (2, .ref (ad 86)), (1, .ref (ad 75)), (0, .ref b)]) (hin : ∀ q : Int32, q = 1 ∨ q = 2 ∨ q = 3 ∨ q = 4 ∨ q = 5 → vp_in (x3 + q) L) (hi : iv h k) (hk : k ≤ 600) (wd : am_wd ad cA D (fun q => s.heap.size ≤ q) s.heap h H locs) (K : ∀ h' H' locs', iv h' (k + 1) → am_wd ad cA D (fun q => s.heap.size ≤ q) s.heap h' H' locs' → W p l e room_1 s m #[Value.ref b] below meth c H' locs' 87 15269 Q (F0 m 1240 ls [])) : W p l e room_1 s m #[Value.ref b] below meth c H locs 87 15269 Q (F0 m 349 ls []) := by
  obtain ⟨hx, hb, hml, hown, hts, hK, hN, hA⟩ := id C
  have hbA : ¬ (fun q : Nat => s.heap.size ≤ q) b := Nat.not_le.mpr hbl
  refine lv_aload_n hx hb dl_349 rfl (lv_at hl 2 rfl) ?_
  refine lw_push (k := 1) (kk := 1) (i0 := 3) (i3 := 0) hx hb hX hbl hbA wd.2.2 hl rfl rfl (by decide) (hin 1 (by simp)) dl_350 dl_351 dl_352 dl_353 dl_354 ?_
  refine lw_push (k := 2) (kk := 2) (i0 := 3) (i3 := 0) hx hb hX hbl hbA wd.2.2 hl rfl rfl (by decide) (hin 2 (by simp)) dl_355 dl_356 dl_357 dl_358 dl_359 ?_
  refine lw_call' (a := 63) (c0 := 75) (tl := [.inl (xs (x3 + 1).toNatClampNeg).toInt, .inl (xs (x3 + 2).toNatClampNeg).toInt]) (r := []) (Qj := fun o h1 => am_Call 113 (.inr (.inr (some 86)) :: [.inl (xs (x3 + 1).toNatClampNeg).toInt, .inl (xs (x3 + 2).toNatClampNeg).toInt]) h1 (rg_post k o)) C (pr_turn (lw_R _) (lw_R _) hi) (by simp only [List.map, List.reverse, List.reverseAux, am_c, Int32.ofInt_toInt]; rfl) (show am_ss 63 = false ∧ 2 = am_np 63 ∧ am_fr 63 + 1 ≤ 11 ∧ 8 + (am_ml 63 + 11) + am_lr 63 ≤ 462 from by decide +kernel) (lw_tb (am_at_mem (w := 2150) (by decide +kernel))) dl_360 hl (Nat.zero_le _) wd (by decide) (fun o h1 H1 locs1 q1 wd1 => ?_)
  refine lv_aload_n hx hb dl_363 rfl (lv_at hl 1 rfl) ?_
  refine lw_push (k := 1) (kk := 1) (i0 := 3) (i3 := 0) hx hb hX hbl hbA wd1.2.2 hl rfl rfl (by decide) (hin 1 (by simp)) dl_364 dl_365 dl_366 dl_367 dl_368 ?_
  refine lw_push (k := 2) (kk := 2) (i0 := 3) (i3 := 0) hx hb hX hbl hbA wd1.2.2 hl rfl rfl (by decide) (hin 2 (by simp)) dl_369 dl_370 dl_371 dl_372 dl_373 ?_
  refine lw_call' (a := 113) (c0 := 86) (tl := [.inl (xs (x3 + 1).toNatClampNeg).toInt, .inl (xs (x3 + 2).toNatClampNeg).toInt]) (r := (o.map (am_c ad)).toList) C q1 (by simp only [List.map, List.reverse, List.reverseAux, am_c, Int32.ofInt_toInt, List.append_nil]; rfl) (show am_ss 113 = false ∧ 2 = am_np 113 ∧ am_fr 113 + 1 ≤ 11 ∧ 8 + (am_ml 113 + 11) + am_lr 113 ≤ 462 from by decide +kernel) (lw_tb (am_at_mem (w := 4175) (by decide +kernel))) dl_374 hl (lw_cat o) wd1 (by decide) (fun o2 h2 H2 locs2 q2 wd2 => ?_)
  obtain ⟨e1, ⟨x, e2, _⟩, i2⟩ := q2
  subst e1
  subst e2
  exact lv_icmp_eq (tgt := 1240) hx hb dl_377 (by decide) (fun _ => K h2 H2 locs2 i2 wd2) (fun z => absurd rfl z)
set_option maxHeartbeats 1000000 in
theorem lc_brake {p : Program} {l : Launch} {e : Env} {s : State} {m : MethodId} {below : List Frame} {meth : Method} {c : Code} {H : Heap} {locs : List Loc} {Q : State → Prop} {ls : Array Slot} {ad : Nat → Nat} {cA : Nat → ClassId} {D : va_G} {b L : Nat} {xs : Nat → Int32} {x3 : Int32} {k : Int} {h : am_H} (C : lq p s m #[Value.ref b] c cA D (fun q => s.heap.size ≤ q)) (hX : va_X b L xs s s.heap) (hbl : b < s.heap.size) (hl : lv_has ls 4 [(3, .int x3), (2, .ref (ad 86)), (1, .ref (ad 75)), (0, .ref b)]) (hin : ∀ q : Int32, q = 1 ∨ q = 2 ∨ q = 3 ∨ q = 4 ∨ q = 5 → vp_in (x3 + q) L) (hi : iv h k) (hk : k ≤ 600) (wd : am_wd ad cA D (fun q => s.heap.size ≤ q) s.heap h H locs) (K : ∀ h' H' locs', iv h' (k + 1) → am_wd ad cA D (fun q => s.heap.size ≤ q) s.heap h' H' locs' → W p l e room_1 s m #[Value.ref b] below meth c H' locs' 87 15269 Q (F0 m 1240 ls [])) : W p l e room_1 s m #[Value.ref b] below meth c H locs 87 15269 Q (F0 m 382 ls []) := by
  obtain ⟨hx, hb, hml, hown, hts, hK, hN, hA⟩ := id C
  have hbA : ¬ (fun q : Nat => s.heap.size ≤ q) b := Nat.not_le.mpr hbl
  refine lv_aload_n hx hb dl_382 rfl (lv_at hl 2 rfl) ?_
  refine lw_push (k := 1) (kk := 1) (i0 := 3) (i3 := 0) hx hb hX hbl hbA wd.2.2 hl rfl rfl (by decide) (hin 1 (by simp)) dl_383 dl_384 dl_385 dl_386 dl_387 ?_
  refine lw_push (k := 2) (kk := 2) (i0 := 3) (i3 := 0) hx hb hX hbl hbA wd.2.2 hl rfl rfl (by decide) (hin 2 (by simp)) dl_388 dl_389 dl_390 dl_391 dl_392 ?_
  refine lw_push (k := 3) (kk := 3) (i0 := 3) (i3 := 0) hx hb hX hbl hbA wd.2.2 hl rfl rfl (by decide) (hin 3 (by simp)) dl_393 dl_394 dl_395 dl_396 dl_397 ?_
  refine lw_call' (a := 64) (c0 := 75) (tl := [.inl (xs (x3 + 1).toNatClampNeg).toInt, .inl (xs (x3 + 2).toNatClampNeg).toInt, .inl (xs (x3 + 3).toNatClampNeg).toInt]) (r := []) (Qj := fun o h1 => am_Call 114 (.inr (.inr (some 86)) :: [.inl (xs (x3 + 1).toNatClampNeg).toInt, .inl (xs (x3 + 2).toNatClampNeg).toInt, .inl (xs (x3 + 3).toNatClampNeg).toInt]) h1 (rg_post k o)) C (pr_brake (lw_R _) (lw_R _) (lw_R _) hi) (by simp only [List.map, List.reverse, List.reverseAux, am_c, Int32.ofInt_toInt]; rfl) (show am_ss 64 = false ∧ 3 = am_np 64 ∧ am_fr 64 + 1 ≤ 11 ∧ 8 + (am_ml 64 + 11) + am_lr 64 ≤ 462 from by decide +kernel) (lw_tb (am_at_mem (w := 2154) (by decide +kernel))) dl_398 hl (Nat.zero_le _) wd (by decide) (fun o h1 H1 locs1 q1 wd1 => ?_)
  refine lv_aload_n hx hb dl_401 rfl (lv_at hl 1 rfl) ?_
  refine lw_push (k := 1) (kk := 1) (i0 := 3) (i3 := 0) hx hb hX hbl hbA wd1.2.2 hl rfl rfl (by decide) (hin 1 (by simp)) dl_402 dl_403 dl_404 dl_405 dl_406 ?_
  refine lw_push (k := 2) (kk := 2) (i0 := 3) (i3 := 0) hx hb hX hbl hbA wd1.2.2 hl rfl rfl (by decide) (hin 2 (by simp)) dl_407 dl_408 dl_409 dl_410 dl_411 ?_
  refine lw_push (k := 3) (kk := 3) (i0 := 3) (i3 := 0) hx hb hX hbl hbA wd1.2.2 hl rfl rfl (by decide) (hin 3 (by simp)) dl_412 dl_413 dl_414 dl_415 dl_416 ?_
  refine lw_call' (a := 114) (c0 := 86) (tl := [.inl (xs (x3 + 1).toNatClampNeg).toInt, .inl (xs (x3 + 2).toNatClampNeg).toInt, .inl (xs (x3 + 3).toNatClampNeg).toInt]) (r := (o.map (am_c ad)).toList) C q1 (by simp only [List.map, List.reverse, List.reverseAux, am_c, Int32.ofInt_toInt, List.append_nil]; rfl) (show am_ss 114 = false ∧ 3 = am_np 114 ∧ am_fr 114 + 1 ≤ 11 ∧ 8 + (am_ml 114 + 11) + am_lr 114 ≤ 462 from by decide +kernel) (lw_tb (am_at_mem (w := 4181) (by decide +kernel))) dl_417 hl (lw_cat o) wd1 (by decide) (fun o2 h2 H2 locs2 q2 wd2 => ?_)
  obtain ⟨e1, ⟨x, e2, _⟩, i2⟩ := q2
  subst e1
  subst e2
  exact lv_icmp_eq (tgt := 1240) hx hb dl_420 (by decide) (fun _ => K h2 H2 locs2 i2 wd2) (fun z => absurd rfl z)
set_option maxHeartbeats 1000000 in
theorem lc_dry {p : Program} {l : Launch} {e : Env} {s : State} {m : MethodId} {below : List Frame} {meth : Method} {c : Code} {H : Heap} {locs : List Loc} {Q : State → Prop} {ls : Array Slot} {ad : Nat → Nat} {cA : Nat → ClassId} {D : va_G} {b L : Nat} {xs : Nat → Int32} {x3 : Int32} {k : Int} {h : am_H} (C : lq p s m #[Value.ref b] c cA D (fun q => s.heap.size ≤ q)) (hX : va_X b L xs s s.heap) (hbl : b < s.heap.size) (hl : lv_has ls 4 [(3, .int x3), (2, .ref (ad 86)), (1, .ref (ad 75)), (0, .ref b)]) (hin : ∀ q : Int32, q = 1 ∨ q = 2 ∨ q = 3 ∨ q = 4 ∨ q = 5 → vp_in (x3 + q) L) (hi : iv h k) (hk : k ≤ 600) (wd : am_wd ad cA D (fun q => s.heap.size ≤ q) s.heap h H locs) (K : ∀ h' H' locs', iv h' (k + 1) → am_wd ad cA D (fun q => s.heap.size ≤ q) s.heap h' H' locs' → W p l e room_1 s m #[Value.ref b] below meth c H' locs' 87 15269 Q (F0 m 1240 ls [])) : W p l e room_1 s m #[Value.ref b] below meth c H locs 87 15269 Q (F0 m 425 ls []) := by
  obtain ⟨hx, hb, hml, hown, hts, hK, hN, hA⟩ := id C
  have hbA : ¬ (fun q : Nat => s.heap.size ≤ q) b := Nat.not_le.mpr hbl
  refine lv_aload_n hx hb dl_425 rfl (lv_at hl 2 rfl) ?_
  refine lw_push (k := 1) (kk := 1) (i0 := 3) (i3 := 0) hx hb hX hbl hbA wd.2.2 hl rfl rfl (by decide) (hin 1 (by simp)) dl_426 dl_427 dl_428 dl_429 dl_430 ?_
  refine lw_call' (a := 65) (c0 := 75) (tl := [.inl (xs (x3 + 1).toNatClampNeg).toInt]) (r := []) (Qj := fun o h1 => am_Call 115 (.inr (.inr (some 86)) :: [.inl (xs (x3 + 1).toNatClampNeg).toInt]) h1 (rg_post k o)) C (pr_dry (lw_R _) hi) (by simp only [List.map, List.reverse, List.reverseAux, am_c, Int32.ofInt_toInt]; rfl) (show am_ss 65 = false ∧ 1 = am_np 65 ∧ am_fr 65 + 1 ≤ 11 ∧ 8 + (am_ml 65 + 11) + am_lr 65 ≤ 462 from by decide +kernel) (lw_tb (am_at_mem (w := 2162) (by decide +kernel))) dl_431 hl (Nat.zero_le _) wd (by decide) (fun o h1 H1 locs1 q1 wd1 => ?_)
  refine lv_aload_n hx hb dl_434 rfl (lv_at hl 1 rfl) ?_
  refine lw_push (k := 1) (kk := 1) (i0 := 3) (i3 := 0) hx hb hX hbl hbA wd1.2.2 hl rfl rfl (by decide) (hin 1 (by simp)) dl_435 dl_436 dl_437 dl_438 dl_439 ?_
  refine lw_call' (a := 115) (c0 := 86) (tl := [.inl (xs (x3 + 1).toNatClampNeg).toInt]) (r := (o.map (am_c ad)).toList) C q1 (by simp only [List.map, List.reverse, List.reverseAux, am_c, Int32.ofInt_toInt, List.append_nil]; rfl) (show am_ss 115 = false ∧ 1 = am_np 115 ∧ am_fr 115 + 1 ≤ 11 ∧ 8 + (am_ml 115 + 11) + am_lr 115 ≤ 462 from by decide +kernel) (lw_tb (am_at_mem (w := 4186) (by decide +kernel))) dl_440 hl (lw_cat o) wd1 (by decide) (fun o2 h2 H2 locs2 q2 wd2 => ?_)
  obtain ⟨e1, ⟨x, e2, _⟩, i2⟩ := q2
  subst e1
  subst e2
  exact lv_icmp_eq (tgt := 1240) hx hb dl_443 (by decide) (fun _ => K h2 H2 locs2 i2 wd2) (fun z => absurd rfl z)
set_option maxHeartbeats 1000000 in
theorem lc_where {p : Program} {l : Launch} {e : Env} {s : State} {m : MethodId} {below : List Frame} {meth : Method} {c : Code} {H : Heap} {locs : List Loc} {Q : State → Prop} {ls : Array Slot} {ad : Nat → Nat} {cA : Nat → ClassId} {D : va_G} {b L : Nat} {xs : Nat → Int32} {x3 : Int32} {k : Int} {h : am_H} (C : lq p s m #[Value.ref b] c cA D (fun q => s.heap.size ≤ q)) (hX : va_X b L xs s s.heap) (hbl : b < s.heap.size) (hl : lv_has ls 4 [(3, .int x3), (2, .ref (ad 86)), (1, .ref (ad 75)), (0, .ref b)]) (hin : ∀ q : Int32, q = 1 ∨ q = 2 ∨ q = 3 ∨ q = 4 ∨ q = 5 → vp_in (x3 + q) L) (hi : iv h k) (hk : k ≤ 600) (wd : am_wd ad cA D (fun q => s.heap.size ≤ q) s.heap h H locs) (K : ∀ h' H' locs', iv h' (k + 1) → am_wd ad cA D (fun q => s.heap.size ≤ q) s.heap h' H' locs' → W p l e room_1 s m #[Value.ref b] below meth c H' locs' 87 15269 Q (F0 m 1240 ls [])) : W p l e room_1 s m #[Value.ref b] below meth c H locs 87 15269 Q (F0 m 448 ls []) := by
  obtain ⟨hx, hb, hml, hown, hts, hK, hN, hA⟩ := id C
  have hbA : ¬ (fun q : Nat => s.heap.size ≤ q) b := Nat.not_le.mpr hbl
  refine lv_aload_n hx hb dl_448 rfl (lv_at hl 2 rfl) ?_
  refine lw_push (k := 1) (kk := 1) (i0 := 3) (i3 := 0) hx hb hX hbl hbA wd.2.2 hl rfl rfl (by decide) (hin 1 (by simp)) dl_449 dl_450 dl_451 dl_452 dl_453 ?_
  refine lw_push (k := 2) (kk := 2) (i0 := 3) (i3 := 0) hx hb hX hbl hbA wd.2.2 hl rfl rfl (by decide) (hin 2 (by simp)) dl_454 dl_455 dl_456 dl_457 dl_458 ?_
  refine lw_call' (a := 66) (c0 := 75) (tl := [.inl (xs (x3 + 1).toNatClampNeg).toInt, .inl (xs (x3 + 2).toNatClampNeg).toInt]) (r := []) (Qj := fun o h1 => am_Call 119 (.inr (.inr (some 86)) :: [.inl (xs (x3 + 1).toNatClampNeg).toInt, .inl (xs (x3 + 2).toNatClampNeg).toInt]) h1 (rg_post k o)) C (pr_where (lw_R _) (lw_R _) hi) (by simp only [List.map, List.reverse, List.reverseAux, am_c, Int32.ofInt_toInt]; rfl) (show am_ss 66 = false ∧ 2 = am_np 66 ∧ am_fr 66 + 1 ≤ 11 ∧ 8 + (am_ml 66 + 11) + am_lr 66 ≤ 462 from by decide +kernel) (lw_tb (am_at_mem (w := 2176) (by decide +kernel))) dl_459 hl (Nat.zero_le _) wd (by decide) (fun o h1 H1 locs1 q1 wd1 => ?_)
  refine lv_aload_n hx hb dl_462 rfl (lv_at hl 1 rfl) ?_
  refine lw_push (k := 1) (kk := 1) (i0 := 3) (i3 := 0) hx hb hX hbl hbA wd1.2.2 hl rfl rfl (by decide) (hin 1 (by simp)) dl_463 dl_464 dl_465 dl_466 dl_467 ?_
  refine lw_push (k := 2) (kk := 2) (i0 := 3) (i3 := 0) hx hb hX hbl hbA wd1.2.2 hl rfl rfl (by decide) (hin 2 (by simp)) dl_468 dl_469 dl_470 dl_471 dl_472 ?_
  refine lw_call' (a := 119) (c0 := 86) (tl := [.inl (xs (x3 + 1).toNatClampNeg).toInt, .inl (xs (x3 + 2).toNatClampNeg).toInt]) (r := (o.map (am_c ad)).toList) C q1 (by simp only [List.map, List.reverse, List.reverseAux, am_c, Int32.ofInt_toInt, List.append_nil]; rfl) (show am_ss 119 = false ∧ 2 = am_np 119 ∧ am_fr 119 + 1 ≤ 11 ∧ 8 + (am_ml 119 + 11) + am_lr 119 ≤ 462 from by decide +kernel) (lw_tb (am_at_mem (w := 4190) (by decide +kernel))) dl_473 hl (lw_cat o) wd1 (by decide) (fun o2 h2 H2 locs2 q2 wd2 => ?_)
  obtain ⟨e1, ⟨x, e2, _⟩, i2⟩ := q2
  subst e1
  subst e2
  exact lv_icmp_eq (tgt := 1240) hx hb dl_476 (by decide) (fun _ => K h2 H2 locs2 i2 wd2) (fun z => absurd rfl z)
set_option maxHeartbeats 1000000 in
theorem lc_open {p : Program} {l : Launch} {e : Env} {s : State} {m : MethodId} {below : List Frame} {meth : Method} {c : Code} {H : Heap} {locs : List Loc} {Q : State → Prop} {ls : Array Slot} {ad : Nat → Nat} {cA : Nat → ClassId} {D : va_G} {b L : Nat} {xs : Nat → Int32} {x3 : Int32} {k : Int} {h : am_H} (C : lq p s m #[Value.ref b] c cA D (fun q => s.heap.size ≤ q)) (hX : va_X b L xs s s.heap) (hbl : b < s.heap.size) (hl : lv_has ls 4 [(3, .int x3), (2, .ref (ad 86)), (1, .ref (ad 75)), (0, .ref b)]) (hin : ∀ q : Int32, q = 1 ∨ q = 2 ∨ q = 3 ∨ q = 4 ∨ q = 5 → vp_in (x3 + q) L) (hi : iv h k) (hk : k ≤ 600) (wd : am_wd ad cA D (fun q => s.heap.size ≤ q) s.heap h H locs) (K : ∀ h' H' locs', iv h' (k + 1) → am_wd ad cA D (fun q => s.heap.size ≤ q) s.heap h' H' locs' → W p l e room_1 s m #[Value.ref b] below meth c H' locs' 87 15269 Q (F0 m 1240 ls [])) : W p l e room_1 s m #[Value.ref b] below meth c H locs 87 15269 Q (F0 m 481 ls []) := by
  obtain ⟨hx, hb, hml, hown, hts, hK, hN, hA⟩ := id C
  have hbA : ¬ (fun q : Nat => s.heap.size ≤ q) b := Nat.not_le.mpr hbl
  refine lv_aload_n hx hb dl_481 rfl (lv_at hl 2 rfl) ?_
  refine lw_push (k := 1) (kk := 1) (i0 := 3) (i3 := 0) hx hb hX hbl hbA wd.2.2 hl rfl rfl (by decide) (hin 1 (by simp)) dl_482 dl_483 dl_484 dl_485 dl_486 ?_
  refine lw_push (k := 2) (kk := 2) (i0 := 3) (i3 := 0) hx hb hX hbl hbA wd.2.2 hl rfl rfl (by decide) (hin 2 (by simp)) dl_487 dl_488 dl_489 dl_490 dl_491 ?_
  refine lw_push (k := 3) (kk := 3) (i0 := 3) (i3 := 0) hx hb hX hbl hbA wd.2.2 hl rfl rfl (by decide) (hin 3 (by simp)) dl_492 dl_493 dl_494 dl_495 dl_496 ?_
  refine lw_call' (a := 67) (c0 := 75) (tl := [.inl (xs (x3 + 1).toNatClampNeg).toInt, .inl (xs (x3 + 2).toNatClampNeg).toInt, .inl (xs (x3 + 3).toNatClampNeg).toInt]) (r := []) (Qj := fun o h1 => am_Call 123 (.inr (.inr (some 86)) :: [.inl (xs (x3 + 1).toNatClampNeg).toInt, .inl (xs (x3 + 2).toNatClampNeg).toInt, .inl (xs (x3 + 3).toNatClampNeg).toInt]) h1 (rg_post k o)) C (pr_open (lw_R _) (lw_R _) (lw_R _) hi) (by simp only [List.map, List.reverse, List.reverseAux, am_c, Int32.ofInt_toInt]; rfl) (show am_ss 67 = false ∧ 3 = am_np 67 ∧ am_fr 67 + 1 ≤ 11 ∧ 8 + (am_ml 67 + 11) + am_lr 67 ≤ 462 from by decide +kernel) (lw_tb (am_at_mem (w := 2201) (by decide +kernel))) dl_497 hl (Nat.zero_le _) wd (by decide) (fun o h1 H1 locs1 q1 wd1 => ?_)
  refine lv_aload_n hx hb dl_500 rfl (lv_at hl 1 rfl) ?_
  refine lw_push (k := 1) (kk := 1) (i0 := 3) (i3 := 0) hx hb hX hbl hbA wd1.2.2 hl rfl rfl (by decide) (hin 1 (by simp)) dl_501 dl_502 dl_503 dl_504 dl_505 ?_
  refine lw_push (k := 2) (kk := 2) (i0 := 3) (i3 := 0) hx hb hX hbl hbA wd1.2.2 hl rfl rfl (by decide) (hin 2 (by simp)) dl_506 dl_507 dl_508 dl_509 dl_510 ?_
  refine lw_push (k := 3) (kk := 3) (i0 := 3) (i3 := 0) hx hb hX hbl hbA wd1.2.2 hl rfl rfl (by decide) (hin 3 (by simp)) dl_511 dl_512 dl_513 dl_514 dl_515 ?_
  refine lw_call' (a := 123) (c0 := 86) (tl := [.inl (xs (x3 + 1).toNatClampNeg).toInt, .inl (xs (x3 + 2).toNatClampNeg).toInt, .inl (xs (x3 + 3).toNatClampNeg).toInt]) (r := (o.map (am_c ad)).toList) C q1 (by simp only [List.map, List.reverse, List.reverseAux, am_c, Int32.ofInt_toInt, List.append_nil]; rfl) (show am_ss 123 = false ∧ 3 = am_np 123 ∧ am_fr 123 + 1 ≤ 11 ∧ 8 + (am_ml 123 + 11) + am_lr 123 ≤ 462 from by decide +kernel) (lw_tb (am_at_mem (w := 4210) (by decide +kernel))) dl_516 hl (lw_cat o) wd1 (by decide) (fun o2 h2 H2 locs2 q2 wd2 => ?_)
  obtain ⟨e1, ⟨x, e2, _⟩, i2⟩ := q2
  subst e1
  subst e2
  exact lv_icmp_eq (tgt := 1240) hx hb dl_519 (by decide) (fun _ => K h2 H2 locs2 i2 wd2) (fun z => absurd rfl z)
set_option maxHeartbeats 1000000 in
theorem lc_next {p : Program} {l : Launch} {e : Env} {s : State} {m : MethodId} {below : List Frame} {meth : Method} {c : Code} {H : Heap} {locs : List Loc} {Q : State → Prop} {ls : Array Slot} {ad : Nat → Nat} {cA : Nat → ClassId} {D : va_G} {b L : Nat} {xs : Nat → Int32} {x3 : Int32} {k : Int} {h : am_H} (C : lq p s m #[Value.ref b] c cA D (fun q => s.heap.size ≤ q)) (hX : va_X b L xs s s.heap) (hbl : b < s.heap.size) (hl : lv_has ls 4 [(3, .int x3), (2, .ref (ad 86)), (1, .ref (ad 75)), (0, .ref b)]) (hin : ∀ q : Int32, q = 1 ∨ q = 2 ∨ q = 3 ∨ q = 4 ∨ q = 5 → vp_in (x3 + q) L) (hi : iv h k) (hk : k ≤ 600) (wd : am_wd ad cA D (fun q => s.heap.size ≤ q) s.heap h H locs) (K : ∀ h' H' locs', iv h' (k + 1) → am_wd ad cA D (fun q => s.heap.size ≤ q) s.heap h' H' locs' → W p l e room_1 s m #[Value.ref b] below meth c H' locs' 87 15269 Q (F0 m 1240 ls [])) : W p l e room_1 s m #[Value.ref b] below meth c H locs 87 15269 Q (F0 m 524 ls []) := by
  obtain ⟨hx, hb, hml, hown, hts, hK, hN, hA⟩ := id C
  have hbA : ¬ (fun q : Nat => s.heap.size ≤ q) b := Nat.not_le.mpr hbl
  refine lv_aload_n hx hb dl_524 rfl (lv_at hl 2 rfl) ?_
  refine lw_push (k := 1) (kk := 1) (i0 := 3) (i3 := 0) hx hb hX hbl hbA wd.2.2 hl rfl rfl (by decide) (hin 1 (by simp)) dl_525 dl_526 dl_527 dl_528 dl_529 ?_
  refine lw_push (k := 2) (kk := 2) (i0 := 3) (i3 := 0) hx hb hX hbl hbA wd.2.2 hl rfl rfl (by decide) (hin 2 (by simp)) dl_530 dl_531 dl_532 dl_533 dl_534 ?_
  refine lw_push (k := 3) (kk := 3) (i0 := 3) (i3 := 0) hx hb hX hbl hbA wd.2.2 hl rfl rfl (by decide) (hin 3 (by simp)) dl_535 dl_536 dl_537 dl_538 dl_539 ?_
  refine lw_call' (a := 68) (c0 := 75) (tl := [.inl (xs (x3 + 1).toNatClampNeg).toInt, .inl (xs (x3 + 2).toNatClampNeg).toInt, .inl (xs (x3 + 3).toNatClampNeg).toInt]) (r := []) (Qj := fun o h1 => am_Call 126 (.inr (.inr (some 86)) :: [.inl (xs (x3 + 1).toNatClampNeg).toInt, .inl (xs (x3 + 2).toNatClampNeg).toInt, .inl (xs (x3 + 3).toNatClampNeg).toInt]) h1 (rg_post k o)) C (pr_next (lw_R _) (lw_R _) (lw_R _) hi hk) (by simp only [List.map, List.reverse, List.reverseAux, am_c, Int32.ofInt_toInt]; rfl) (show am_ss 68 = false ∧ 3 = am_np 68 ∧ am_fr 68 + 1 ≤ 11 ∧ 8 + (am_ml 68 + 11) + am_lr 68 ≤ 462 from by decide +kernel) (lw_tb (am_at_mem (w := 2227) (by decide +kernel))) dl_540 hl (Nat.zero_le _) wd (by decide) (fun o h1 H1 locs1 q1 wd1 => ?_)
  refine lv_aload_n hx hb dl_543 rfl (lv_at hl 1 rfl) ?_
  refine lw_push (k := 1) (kk := 1) (i0 := 3) (i3 := 0) hx hb hX hbl hbA wd1.2.2 hl rfl rfl (by decide) (hin 1 (by simp)) dl_544 dl_545 dl_546 dl_547 dl_548 ?_
  refine lw_push (k := 2) (kk := 2) (i0 := 3) (i3 := 0) hx hb hX hbl hbA wd1.2.2 hl rfl rfl (by decide) (hin 2 (by simp)) dl_549 dl_550 dl_551 dl_552 dl_553 ?_
  refine lw_push (k := 3) (kk := 3) (i0 := 3) (i3 := 0) hx hb hX hbl hbA wd1.2.2 hl rfl rfl (by decide) (hin 3 (by simp)) dl_554 dl_555 dl_556 dl_557 dl_558 ?_
  refine lw_call' (a := 126) (c0 := 86) (tl := [.inl (xs (x3 + 1).toNatClampNeg).toInt, .inl (xs (x3 + 2).toNatClampNeg).toInt, .inl (xs (x3 + 3).toNatClampNeg).toInt]) (r := (o.map (am_c ad)).toList) C q1 (by simp only [List.map, List.reverse, List.reverseAux, am_c, Int32.ofInt_toInt, List.append_nil]; rfl) (show am_ss 126 = false ∧ 3 = am_np 126 ∧ am_fr 126 + 1 ≤ 11 ∧ 8 + (am_ml 126 + 11) + am_lr 126 ≤ 462 from by decide +kernel) (lw_tb (am_at_mem (w := 4226) (by decide +kernel))) dl_559 hl (lw_cat o) wd1 (by decide) (fun o2 h2 H2 locs2 q2 wd2 => ?_)
  obtain ⟨e1, ⟨x, e2, _⟩, i2⟩ := q2
  subst e1
  subst e2
  exact lv_icmp_eq (tgt := 1240) hx hb dl_562 (by decide) (fun _ => K h2 H2 locs2 i2 wd2) (fun z => absurd rfl z)
set_option maxHeartbeats 1000000 in
theorem lc_stays {p : Program} {l : Launch} {e : Env} {s : State} {m : MethodId} {below : List Frame} {meth : Method} {c : Code} {H : Heap} {locs : List Loc} {Q : State → Prop} {ls : Array Slot} {ad : Nat → Nat} {cA : Nat → ClassId} {D : va_G} {b L : Nat} {xs : Nat → Int32} {x3 : Int32} {k : Int} {h : am_H} (C : lq p s m #[Value.ref b] c cA D (fun q => s.heap.size ≤ q)) (hX : va_X b L xs s s.heap) (hbl : b < s.heap.size) (hl : lv_has ls 4 [(3, .int x3), (2, .ref (ad 86)), (1, .ref (ad 75)), (0, .ref b)]) (hin : ∀ q : Int32, q = 1 ∨ q = 2 ∨ q = 3 ∨ q = 4 ∨ q = 5 → vp_in (x3 + q) L) (hi : iv h k) (hk : k ≤ 600) (wd : am_wd ad cA D (fun q => s.heap.size ≤ q) s.heap h H locs) (K : ∀ h' H' locs', iv h' (k + 1) → am_wd ad cA D (fun q => s.heap.size ≤ q) s.heap h' H' locs' → W p l e room_1 s m #[Value.ref b] below meth c H' locs' 87 15269 Q (F0 m 1240 ls [])) : W p l e room_1 s m #[Value.ref b] below meth c H locs 87 15269 Q (F0 m 567 ls []) := by
  obtain ⟨hx, hb, hml, hown, hts, hK, hN, hA⟩ := id C
  have hbA : ¬ (fun q : Nat => s.heap.size ≤ q) b := Nat.not_le.mpr hbl
  refine lv_aload_n hx hb dl_567 rfl (lv_at hl 2 rfl) ?_
  refine lw_push (k := 1) (kk := 1) (i0 := 3) (i3 := 0) hx hb hX hbl hbA wd.2.2 hl rfl rfl (by decide) (hin 1 (by simp)) dl_568 dl_569 dl_570 dl_571 dl_572 ?_
  refine lw_push (k := 2) (kk := 2) (i0 := 3) (i3 := 0) hx hb hX hbl hbA wd.2.2 hl rfl rfl (by decide) (hin 2 (by simp)) dl_573 dl_574 dl_575 dl_576 dl_577 ?_
  refine lw_push (k := 3) (kk := 3) (i0 := 3) (i3 := 0) hx hb hX hbl hbA wd.2.2 hl rfl rfl (by decide) (hin 3 (by simp)) dl_578 dl_579 dl_580 dl_581 dl_582 ?_
  refine lw_call' (a := 69) (c0 := 75) (tl := [.inl (xs (x3 + 1).toNatClampNeg).toInt, .inl (xs (x3 + 2).toNatClampNeg).toInt, .inl (xs (x3 + 3).toNatClampNeg).toInt]) (r := []) (Qj := fun o h1 => am_Call 127 (.inr (.inr (some 86)) :: [.inl (xs (x3 + 1).toNatClampNeg).toInt, .inl (xs (x3 + 2).toNatClampNeg).toInt, .inl (xs (x3 + 3).toNatClampNeg).toInt]) h1 (rg_post k o)) C (pr_stays (lw_R _) (lw_R _) (lw_R _) hi) (by simp only [List.map, List.reverse, List.reverseAux, am_c, Int32.ofInt_toInt]; rfl) (show am_ss 69 = false ∧ 3 = am_np 69 ∧ am_fr 69 + 1 ≤ 11 ∧ 8 + (am_ml 69 + 11) + am_lr 69 ≤ 462 from by decide +kernel) (lw_tb (am_at_mem (w := 3005) (by decide +kernel))) dl_583 hl (Nat.zero_le _) wd (by decide) (fun o h1 H1 locs1 q1 wd1 => ?_)
  refine lv_aload_n hx hb dl_586 rfl (lv_at hl 1 rfl) ?_
  refine lw_push (k := 1) (kk := 1) (i0 := 3) (i3 := 0) hx hb hX hbl hbA wd1.2.2 hl rfl rfl (by decide) (hin 1 (by simp)) dl_587 dl_588 dl_589 dl_590 dl_591 ?_
  refine lw_push (k := 2) (kk := 2) (i0 := 3) (i3 := 0) hx hb hX hbl hbA wd1.2.2 hl rfl rfl (by decide) (hin 2 (by simp)) dl_592 dl_593 dl_594 dl_595 dl_596 ?_
  refine lw_push (k := 3) (kk := 3) (i0 := 3) (i3 := 0) hx hb hX hbl hbA wd1.2.2 hl rfl rfl (by decide) (hin 3 (by simp)) dl_597 dl_598 dl_599 dl_600 dl_601 ?_
  refine lw_call' (a := 127) (c0 := 86) (tl := [.inl (xs (x3 + 1).toNatClampNeg).toInt, .inl (xs (x3 + 2).toNatClampNeg).toInt, .inl (xs (x3 + 3).toNatClampNeg).toInt]) (r := (o.map (am_c ad)).toList) C q1 (by simp only [List.map, List.reverse, List.reverseAux, am_c, Int32.ofInt_toInt, List.append_nil]; rfl) (show am_ss 127 = false ∧ 3 = am_np 127 ∧ am_fr 127 + 1 ≤ 11 ∧ 8 + (am_ml 127 + 11) + am_lr 127 ≤ 462 from by decide +kernel) (lw_tb (am_at_mem (w := 4239) (by decide +kernel))) dl_602 hl (lw_cat o) wd1 (by decide) (fun o2 h2 H2 locs2 q2 wd2 => ?_)
  obtain ⟨e1, ⟨x, e2, _⟩, i2⟩ := q2
  subst e1
  subst e2
  exact lv_icmp_eq (tgt := 1240) hx hb dl_605 (by decide) (fun _ => K h2 H2 locs2 i2 wd2) (fun z => absurd rfl z)
set_option maxHeartbeats 1000000 in
theorem lc_share {p : Program} {l : Launch} {e : Env} {s : State} {m : MethodId} {below : List Frame} {meth : Method} {c : Code} {H : Heap} {locs : List Loc} {Q : State → Prop} {ls : Array Slot} {ad : Nat → Nat} {cA : Nat → ClassId} {D : va_G} {b L : Nat} {xs : Nat → Int32} {x3 : Int32} {k : Int} {h : am_H} (C : lq p s m #[Value.ref b] c cA D (fun q => s.heap.size ≤ q)) (hX : va_X b L xs s s.heap) (hbl : b < s.heap.size) (hl : lv_has ls 4 [(3, .int x3), (2, .ref (ad 86)), (1, .ref (ad 75)), (0, .ref b)]) (hin : ∀ q : Int32, q = 1 ∨ q = 2 ∨ q = 3 ∨ q = 4 ∨ q = 5 → vp_in (x3 + q) L) (hi : iv h k) (hk : k ≤ 600) (wd : am_wd ad cA D (fun q => s.heap.size ≤ q) s.heap h H locs) (K : ∀ h' H' locs', iv h' (k + 1) → am_wd ad cA D (fun q => s.heap.size ≤ q) s.heap h' H' locs' → W p l e room_1 s m #[Value.ref b] below meth c H' locs' 87 15269 Q (F0 m 1240 ls [])) : W p l e room_1 s m #[Value.ref b] below meth c H locs 87 15269 Q (F0 m 610 ls []) := by
  obtain ⟨hx, hb, hml, hown, hts, hK, hN, hA⟩ := id C
  have hbA : ¬ (fun q : Nat => s.heap.size ≤ q) b := Nat.not_le.mpr hbl
  refine lv_aload_n hx hb dl_610 rfl (lv_at hl 2 rfl) ?_
  refine lw_push (k := 1) (kk := 1) (i0 := 3) (i3 := 0) hx hb hX hbl hbA wd.2.2 hl rfl rfl (by decide) (hin 1 (by simp)) dl_611 dl_612 dl_613 dl_614 dl_615 ?_
  refine lw_push (k := 2) (kk := 2) (i0 := 3) (i3 := 0) hx hb hX hbl hbA wd.2.2 hl rfl rfl (by decide) (hin 2 (by simp)) dl_616 dl_617 dl_618 dl_619 dl_620 ?_
  refine lw_push (k := 3) (kk := 3) (i0 := 3) (i3 := 0) hx hb hX hbl hbA wd.2.2 hl rfl rfl (by decide) (hin 3 (by simp)) dl_621 dl_622 dl_623 dl_624 dl_625 ?_
  refine lw_bool (tgt := 633) (en := 634) hx hb dl_626 (by decide) dl_629 dl_630 (by decide) dl_633 rfl ?_
  refine lw_call' (a := 70) (c0 := 75) (tl := [.inl (xs (x3 + 1).toNatClampNeg).toInt, .inl (xs (x3 + 2).toNatClampNeg).toInt, .inl (if (xs (x3 + 3).toNatClampNeg) = 0 then (0 : Int32) else 1).toInt]) (r := []) (Qj := fun o h1 => am_Call 129 (.inr (.inr (some 86)) :: [.inl (xs (x3 + 1).toNatClampNeg).toInt, .inl (xs (x3 + 2).toNatClampNeg).toInt, .inl (if (xs (x3 + 3).toNatClampNeg) = 0 then (0 : Int32) else 1).toInt]) h1 (rg_post k o)) C (pr_share (lw_R _) (lw_R _) (lw_R _) hi hk) (by simp only [List.map, List.reverse, List.reverseAux, am_c, Int32.ofInt_toInt]; rfl) (show am_ss 70 = false ∧ 3 = am_np 70 ∧ am_fr 70 + 1 ≤ 11 ∧ 8 + (am_ml 70 + 11) + am_lr 70 ≤ 462 from by decide +kernel) (lw_tb (am_at_mem (w := 3010) (by decide +kernel))) dl_634 hl (Nat.zero_le _) wd (by decide) (fun o h1 H1 locs1 q1 wd1 => ?_)
  refine lv_aload_n hx hb dl_637 rfl (lv_at hl 1 rfl) ?_
  refine lw_push (k := 1) (kk := 1) (i0 := 3) (i3 := 0) hx hb hX hbl hbA wd1.2.2 hl rfl rfl (by decide) (hin 1 (by simp)) dl_638 dl_639 dl_640 dl_641 dl_642 ?_
  refine lw_push (k := 2) (kk := 2) (i0 := 3) (i3 := 0) hx hb hX hbl hbA wd1.2.2 hl rfl rfl (by decide) (hin 2 (by simp)) dl_643 dl_644 dl_645 dl_646 dl_647 ?_
  refine lw_push (k := 3) (kk := 3) (i0 := 3) (i3 := 0) hx hb hX hbl hbA wd1.2.2 hl rfl rfl (by decide) (hin 3 (by simp)) dl_648 dl_649 dl_650 dl_651 dl_652 ?_
  refine lw_bool (tgt := 660) (en := 661) hx hb dl_653 (by decide) dl_656 dl_657 (by decide) dl_660 rfl ?_
  refine lw_call' (a := 129) (c0 := 86) (tl := [.inl (xs (x3 + 1).toNatClampNeg).toInt, .inl (xs (x3 + 2).toNatClampNeg).toInt, .inl (if (xs (x3 + 3).toNatClampNeg) = 0 then (0 : Int32) else 1).toInt]) (r := (o.map (am_c ad)).toList) C q1 (by simp only [List.map, List.reverse, List.reverseAux, am_c, Int32.ofInt_toInt, List.append_nil]; rfl) (show am_ss 129 = false ∧ 3 = am_np 129 ∧ am_fr 129 + 1 ≤ 11 ∧ 8 + (am_ml 129 + 11) + am_lr 129 ≤ 462 from by decide +kernel) (lw_tb (am_at_mem (w := 5003) (by decide +kernel))) dl_661 hl (lw_cat o) wd1 (by decide) (fun o2 h2 H2 locs2 q2 wd2 => ?_)
  obtain ⟨e1, ⟨x, e2, _⟩, i2⟩ := q2
  subst e1
  subst e2
  exact lv_icmp_eq (tgt := 1240) hx hb dl_664 (by decide) (fun _ => K h2 H2 locs2 i2 wd2) (fun z => absurd rfl z)
set_option maxHeartbeats 1000000 in
theorem lc_meet {p : Program} {l : Launch} {e : Env} {s : State} {m : MethodId} {below : List Frame} {meth : Method} {c : Code} {H : Heap} {locs : List Loc} {Q : State → Prop} {ls : Array Slot} {ad : Nat → Nat} {cA : Nat → ClassId} {D : va_G} {b L : Nat} {xs : Nat → Int32} {x3 : Int32} {k : Int} {h : am_H} (C : lq p s m #[Value.ref b] c cA D (fun q => s.heap.size ≤ q)) (hX : va_X b L xs s s.heap) (hbl : b < s.heap.size) (hl : lv_has ls 4 [(3, .int x3), (2, .ref (ad 86)), (1, .ref (ad 75)), (0, .ref b)]) (hin : ∀ q : Int32, q = 1 ∨ q = 2 ∨ q = 3 ∨ q = 4 ∨ q = 5 → vp_in (x3 + q) L) (hi : iv h k) (hk : k ≤ 600) (wd : am_wd ad cA D (fun q => s.heap.size ≤ q) s.heap h H locs) (K : ∀ h' H' locs', iv h' (k + 1) → am_wd ad cA D (fun q => s.heap.size ≤ q) s.heap h' H' locs' → W p l e room_1 s m #[Value.ref b] below meth c H' locs' 87 15269 Q (F0 m 1240 ls [])) : W p l e room_1 s m #[Value.ref b] below meth c H locs 87 15269 Q (F0 m 669 ls []) := by
  obtain ⟨hx, hb, hml, hown, hts, hK, hN, hA⟩ := id C
  have hbA : ¬ (fun q : Nat => s.heap.size ≤ q) b := Nat.not_le.mpr hbl
  refine lv_aload_n hx hb dl_669 rfl (lv_at hl 2 rfl) ?_
  refine lw_push (k := 1) (kk := 1) (i0 := 3) (i3 := 0) hx hb hX hbl hbA wd.2.2 hl rfl rfl (by decide) (hin 1 (by simp)) dl_670 dl_671 dl_672 dl_673 dl_674 ?_
  refine lw_push (k := 2) (kk := 2) (i0 := 3) (i3 := 0) hx hb hX hbl hbA wd.2.2 hl rfl rfl (by decide) (hin 2 (by simp)) dl_675 dl_676 dl_677 dl_678 dl_679 ?_
  refine lw_call' (a := 71) (c0 := 75) (tl := [.inl (xs (x3 + 1).toNatClampNeg).toInt, .inl (xs (x3 + 2).toNatClampNeg).toInt]) (r := []) (Qj := fun o h1 => am_Call 131 (.inr (.inr (some 86)) :: [.inl (xs (x3 + 1).toNatClampNeg).toInt, .inl (xs (x3 + 2).toNatClampNeg).toInt]) h1 (rg_post k o)) C (pr_meet (lw_R _) (lw_R _) hi hk) (by simp only [List.map, List.reverse, List.reverseAux, am_c, Int32.ofInt_toInt]; rfl) (show am_ss 71 = false ∧ 2 = am_np 71 ∧ am_fr 71 + 1 ≤ 11 ∧ 8 + (am_ml 71 + 11) + am_lr 71 ≤ 462 from by decide +kernel) (lw_tb (am_at_mem (w := 3024) (by decide +kernel))) dl_680 hl (Nat.zero_le _) wd (by decide) (fun o h1 H1 locs1 q1 wd1 => ?_)
  refine lv_aload_n hx hb dl_683 rfl (lv_at hl 1 rfl) ?_
  refine lw_push (k := 1) (kk := 1) (i0 := 3) (i3 := 0) hx hb hX hbl hbA wd1.2.2 hl rfl rfl (by decide) (hin 1 (by simp)) dl_684 dl_685 dl_686 dl_687 dl_688 ?_
  refine lw_push (k := 2) (kk := 2) (i0 := 3) (i3 := 0) hx hb hX hbl hbA wd1.2.2 hl rfl rfl (by decide) (hin 2 (by simp)) dl_689 dl_690 dl_691 dl_692 dl_693 ?_
  refine lw_call' (a := 131) (c0 := 86) (tl := [.inl (xs (x3 + 1).toNatClampNeg).toInt, .inl (xs (x3 + 2).toNatClampNeg).toInt]) (r := (o.map (am_c ad)).toList) C q1 (by simp only [List.map, List.reverse, List.reverseAux, am_c, Int32.ofInt_toInt, List.append_nil]; rfl) (show am_ss 131 = false ∧ 2 = am_np 131 ∧ am_fr 131 + 1 ≤ 11 ∧ 8 + (am_ml 131 + 11) + am_lr 131 ≤ 462 from by decide +kernel) (lw_tb (am_at_mem (w := 5010) (by decide +kernel))) dl_694 hl (lw_cat o) wd1 (by decide) (fun o2 h2 H2 locs2 q2 wd2 => ?_)
  obtain ⟨e1, ⟨x, e2, _⟩, i2⟩ := q2
  subst e1
  subst e2
  exact lv_icmp_eq (tgt := 1240) hx hb dl_697 (by decide) (fun _ => K h2 H2 locs2 i2 wd2) (fun z => absurd rfl z)
set_option maxHeartbeats 1000000 in
theorem lc_soonest {p : Program} {l : Launch} {e : Env} {s : State} {m : MethodId} {below : List Frame} {meth : Method} {c : Code} {H : Heap} {locs : List Loc} {Q : State → Prop} {ls : Array Slot} {ad : Nat → Nat} {cA : Nat → ClassId} {D : va_G} {b L : Nat} {xs : Nat → Int32} {x3 : Int32} {k : Int} {h : am_H} (C : lq p s m #[Value.ref b] c cA D (fun q => s.heap.size ≤ q)) (hX : va_X b L xs s s.heap) (hbl : b < s.heap.size) (hl : lv_has ls 4 [(3, .int x3), (2, .ref (ad 86)), (1, .ref (ad 75)), (0, .ref b)]) (hin : ∀ q : Int32, q = 1 ∨ q = 2 ∨ q = 3 ∨ q = 4 ∨ q = 5 → vp_in (x3 + q) L) (hi : iv h k) (hk : k ≤ 600) (wd : am_wd ad cA D (fun q => s.heap.size ≤ q) s.heap h H locs) (K : ∀ h' H' locs', iv h' (k + 1) → am_wd ad cA D (fun q => s.heap.size ≤ q) s.heap h' H' locs' → W p l e room_1 s m #[Value.ref b] below meth c H' locs' 87 15269 Q (F0 m 1240 ls [])) : W p l e room_1 s m #[Value.ref b] below meth c H locs 87 15269 Q (F0 m 702 ls []) := by
  obtain ⟨hx, hb, hml, hown, hts, hK, hN, hA⟩ := id C
  have hbA : ¬ (fun q : Nat => s.heap.size ≤ q) b := Nat.not_le.mpr hbl
  refine lv_aload_n hx hb dl_702 rfl (lv_at hl 2 rfl) ?_
  refine lw_push (k := 1) (kk := 1) (i0 := 3) (i3 := 0) hx hb hX hbl hbA wd.2.2 hl rfl rfl (by decide) (hin 1 (by simp)) dl_703 dl_704 dl_705 dl_706 dl_707 ?_
  refine lw_push (k := 2) (kk := 2) (i0 := 3) (i3 := 0) hx hb hX hbl hbA wd.2.2 hl rfl rfl (by decide) (hin 2 (by simp)) dl_708 dl_709 dl_710 dl_711 dl_712 ?_
  refine lw_push (k := 3) (kk := 3) (i0 := 3) (i3 := 0) hx hb hX hbl hbA wd.2.2 hl rfl rfl (by decide) (hin 3 (by simp)) dl_713 dl_714 dl_715 dl_716 dl_717 ?_
  refine lw_call' (a := 72) (c0 := 75) (tl := [.inl (xs (x3 + 1).toNatClampNeg).toInt, .inl (xs (x3 + 2).toNatClampNeg).toInt, .inl (xs (x3 + 3).toNatClampNeg).toInt]) (r := []) (Qj := fun o h1 => am_Call 135 (.inr (.inr (some 86)) :: [.inl (xs (x3 + 1).toNatClampNeg).toInt, .inl (xs (x3 + 2).toNatClampNeg).toInt, .inl (xs (x3 + 3).toNatClampNeg).toInt]) h1 (rg_post k o)) C (pr_soonest (lw_R _) (lw_R _) (lw_R _) hi hk) (by simp only [List.map, List.reverse, List.reverseAux, am_c, Int32.ofInt_toInt]; rfl) (show am_ss 72 = false ∧ 3 = am_np 72 ∧ am_fr 72 + 1 ≤ 11 ∧ 8 + (am_ml 72 + 11) + am_lr 72 ≤ 462 from by decide +kernel) (lw_tb (am_at_mem (w := 3043) (by decide +kernel))) dl_718 hl (Nat.zero_le _) wd (by decide) (fun o h1 H1 locs1 q1 wd1 => ?_)
  refine lv_aload_n hx hb dl_721 rfl (lv_at hl 1 rfl) ?_
  refine lw_push (k := 1) (kk := 1) (i0 := 3) (i3 := 0) hx hb hX hbl hbA wd1.2.2 hl rfl rfl (by decide) (hin 1 (by simp)) dl_722 dl_723 dl_724 dl_725 dl_726 ?_
  refine lw_push (k := 2) (kk := 2) (i0 := 3) (i3 := 0) hx hb hX hbl hbA wd1.2.2 hl rfl rfl (by decide) (hin 2 (by simp)) dl_727 dl_728 dl_729 dl_730 dl_731 ?_
  refine lw_push (k := 3) (kk := 3) (i0 := 3) (i3 := 0) hx hb hX hbl hbA wd1.2.2 hl rfl rfl (by decide) (hin 3 (by simp)) dl_732 dl_733 dl_734 dl_735 dl_736 ?_
  refine lw_call' (a := 135) (c0 := 86) (tl := [.inl (xs (x3 + 1).toNatClampNeg).toInt, .inl (xs (x3 + 2).toNatClampNeg).toInt, .inl (xs (x3 + 3).toNatClampNeg).toInt]) (r := (o.map (am_c ad)).toList) C q1 (by simp only [List.map, List.reverse, List.reverseAux, am_c, Int32.ofInt_toInt, List.append_nil]; rfl) (show am_ss 135 = false ∧ 3 = am_np 135 ∧ am_fr 135 + 1 ≤ 11 ∧ 8 + (am_ml 135 + 11) + am_lr 135 ≤ 462 from by decide +kernel) (lw_tb (am_at_mem (w := 5021) (by decide +kernel))) dl_737 hl (lw_cat o) wd1 (by decide) (fun o2 h2 H2 locs2 q2 wd2 => ?_)
  obtain ⟨e1, ⟨x, e2, _⟩, i2⟩ := q2
  subst e1
  subst e2
  exact lv_icmp_eq (tgt := 1240) hx hb dl_740 (by decide) (fun _ => K h2 H2 locs2 i2 wd2) (fun z => absurd rfl z)
set_option maxHeartbeats 1000000 in
theorem lc_step {p : Program} {l : Launch} {e : Env} {s : State} {m : MethodId} {below : List Frame} {meth : Method} {c : Code} {H : Heap} {locs : List Loc} {Q : State → Prop} {ls : Array Slot} {ad : Nat → Nat} {cA : Nat → ClassId} {D : va_G} {b L : Nat} {xs : Nat → Int32} {x3 : Int32} {k : Int} {h : am_H} (C : lq p s m #[Value.ref b] c cA D (fun q => s.heap.size ≤ q)) (hX : va_X b L xs s s.heap) (hbl : b < s.heap.size) (hl : lv_has ls 4 [(3, .int x3), (2, .ref (ad 86)), (1, .ref (ad 75)), (0, .ref b)]) (hin : ∀ q : Int32, q = 1 ∨ q = 2 ∨ q = 3 ∨ q = 4 ∨ q = 5 → vp_in (x3 + q) L) (hi : iv h k) (hk : k ≤ 600) (wd : am_wd ad cA D (fun q => s.heap.size ≤ q) s.heap h H locs) (K : ∀ h' H' locs', iv h' (k + 1) → am_wd ad cA D (fun q => s.heap.size ≤ q) s.heap h' H' locs' → W p l e room_1 s m #[Value.ref b] below meth c H' locs' 87 15269 Q (F0 m 1240 ls [])) : W p l e room_1 s m #[Value.ref b] below meth c H locs 87 15269 Q (F0 m 745 ls []) := by
  obtain ⟨hx, hb, hml, hown, hts, hK, hN, hA⟩ := id C
  have hbA : ¬ (fun q : Nat => s.heap.size ≤ q) b := Nat.not_le.mpr hbl
  refine lv_aload_n hx hb dl_745 rfl (lv_at hl 2 rfl) ?_
  refine lw_push (k := 1) (kk := 1) (i0 := 3) (i3 := 0) hx hb hX hbl hbA wd.2.2 hl rfl rfl (by decide) (hin 1 (by simp)) dl_746 dl_747 dl_748 dl_749 dl_750 ?_
  refine lw_push (k := 2) (kk := 2) (i0 := 3) (i3 := 0) hx hb hX hbl hbA wd.2.2 hl rfl rfl (by decide) (hin 2 (by simp)) dl_751 dl_752 dl_753 dl_754 dl_755 ?_
  refine lw_push (k := 3) (kk := 3) (i0 := 3) (i3 := 0) hx hb hX hbl hbA wd.2.2 hl rfl rfl (by decide) (hin 3 (by simp)) dl_756 dl_757 dl_758 dl_759 dl_760 ?_
  refine lw_push (k := 4) (kk := 4) (i0 := 3) (i3 := 0) hx hb hX hbl hbA wd.2.2 hl rfl rfl (by decide) (hin 4 (by simp)) dl_761 dl_762 dl_763 dl_764 dl_765 ?_
  refine lw_push (k := 5) (kk := 5) (i0 := 3) (i3 := 0) hx hb hX hbl hbA wd.2.2 hl rfl rfl (by decide) (hin 5 (by simp)) dl_766 dl_767 dl_768 dl_769 dl_770 ?_
  refine lw_call' (a := 73) (c0 := 75) (tl := [.inl (xs (x3 + 1).toNatClampNeg).toInt, .inl (xs (x3 + 2).toNatClampNeg).toInt, .inl (xs (x3 + 3).toNatClampNeg).toInt, .inl (xs (x3 + 4).toNatClampNeg).toInt, .inl (xs (x3 + 5).toNatClampNeg).toInt]) (r := []) (Qj := fun o h1 => am_Call 136 (.inr (.inr (some 86)) :: [.inl (xs (x3 + 1).toNatClampNeg).toInt, .inl (xs (x3 + 2).toNatClampNeg).toInt, .inl (xs (x3 + 3).toNatClampNeg).toInt, .inl (xs (x3 + 4).toNatClampNeg).toInt, .inl (xs (x3 + 5).toNatClampNeg).toInt]) h1 (rg_post k o)) C (pr_step (lw_R _) (lw_R _) (lw_R _) (lw_R _) (lw_R _) hi hk) (by simp only [List.map, List.reverse, List.reverseAux, am_c, Int32.ofInt_toInt]; rfl) (show am_ss 73 = false ∧ 5 = am_np 73 ∧ am_fr 73 + 1 ≤ 11 ∧ 8 + (am_ml 73 + 11) + am_lr 73 ≤ 462 from by decide +kernel) (lw_tb (am_at_mem (w := 3076) (by decide +kernel))) dl_771 hl (Nat.zero_le _) wd (by decide) (fun o h1 H1 locs1 q1 wd1 => ?_)
  refine lv_aload_n hx hb dl_774 rfl (lv_at hl 1 rfl) ?_
  refine lw_push (k := 1) (kk := 1) (i0 := 3) (i3 := 0) hx hb hX hbl hbA wd1.2.2 hl rfl rfl (by decide) (hin 1 (by simp)) dl_775 dl_776 dl_777 dl_778 dl_779 ?_
  refine lw_push (k := 2) (kk := 2) (i0 := 3) (i3 := 0) hx hb hX hbl hbA wd1.2.2 hl rfl rfl (by decide) (hin 2 (by simp)) dl_780 dl_781 dl_782 dl_783 dl_784 ?_
  refine lw_push (k := 3) (kk := 3) (i0 := 3) (i3 := 0) hx hb hX hbl hbA wd1.2.2 hl rfl rfl (by decide) (hin 3 (by simp)) dl_785 dl_786 dl_787 dl_788 dl_789 ?_
  refine lw_push (k := 4) (kk := 4) (i0 := 3) (i3 := 0) hx hb hX hbl hbA wd1.2.2 hl rfl rfl (by decide) (hin 4 (by simp)) dl_790 dl_791 dl_792 dl_793 dl_794 ?_
  refine lw_push (k := 5) (kk := 5) (i0 := 3) (i3 := 0) hx hb hX hbl hbA wd1.2.2 hl rfl rfl (by decide) (hin 5 (by simp)) dl_795 dl_796 dl_797 dl_798 dl_799 ?_
  refine lw_call' (a := 136) (c0 := 86) (tl := [.inl (xs (x3 + 1).toNatClampNeg).toInt, .inl (xs (x3 + 2).toNatClampNeg).toInt, .inl (xs (x3 + 3).toNatClampNeg).toInt, .inl (xs (x3 + 4).toNatClampNeg).toInt, .inl (xs (x3 + 5).toNatClampNeg).toInt]) (r := (o.map (am_c ad)).toList) C q1 (by simp only [List.map, List.reverse, List.reverseAux, am_c, Int32.ofInt_toInt, List.append_nil]; rfl) (show am_ss 136 = false ∧ 5 = am_np 136 ∧ am_fr 136 + 1 ≤ 11 ∧ 8 + (am_ml 136 + 11) + am_lr 136 ≤ 462 from by decide +kernel) (lw_tb (am_at_mem (w := 5037) (by decide +kernel))) dl_800 hl (lw_cat o) wd1 (by decide) (fun o2 h2 H2 locs2 q2 wd2 => ?_)
  obtain ⟨e1, ⟨x, e2, _⟩, i2⟩ := q2
  subst e1
  subst e2
  exact lv_icmp_eq (tgt := 1240) hx hb dl_803 (by decide) (fun _ => K h2 H2 locs2 i2 wd2) (fun z => absurd rfl z)
set_option maxHeartbeats 1000000 in
theorem lc_latest {p : Program} {l : Launch} {e : Env} {s : State} {m : MethodId} {below : List Frame} {meth : Method} {c : Code} {H : Heap} {locs : List Loc} {Q : State → Prop} {ls : Array Slot} {ad : Nat → Nat} {cA : Nat → ClassId} {D : va_G} {b L : Nat} {xs : Nat → Int32} {x3 : Int32} {k : Int} {h : am_H} (C : lq p s m #[Value.ref b] c cA D (fun q => s.heap.size ≤ q)) (hX : va_X b L xs s s.heap) (hbl : b < s.heap.size) (hl : lv_has ls 4 [(3, .int x3), (2, .ref (ad 86)), (1, .ref (ad 75)), (0, .ref b)]) (hin : ∀ q : Int32, q = 1 ∨ q = 2 ∨ q = 3 ∨ q = 4 ∨ q = 5 → vp_in (x3 + q) L) (hi : iv h k) (hk : k ≤ 600) (wd : am_wd ad cA D (fun q => s.heap.size ≤ q) s.heap h H locs) (K : ∀ h' H' locs', iv h' (k + 1) → am_wd ad cA D (fun q => s.heap.size ≤ q) s.heap h' H' locs' → W p l e room_1 s m #[Value.ref b] below meth c H' locs' 87 15269 Q (F0 m 1240 ls [])) : W p l e room_1 s m #[Value.ref b] below meth c H locs 87 15269 Q (F0 m 808 ls []) := by
  obtain ⟨hx, hb, hml, hown, hts, hK, hN, hA⟩ := id C
  have hbA : ¬ (fun q : Nat => s.heap.size ≤ q) b := Nat.not_le.mpr hbl
  refine lv_aload_n hx hb dl_808 rfl (lv_at hl 2 rfl) ?_
  refine lw_push (k := 1) (kk := 1) (i0 := 3) (i3 := 0) hx hb hX hbl hbA wd.2.2 hl rfl rfl (by decide) (hin 1 (by simp)) dl_809 dl_810 dl_811 dl_812 dl_813 ?_
  refine lw_push (k := 2) (kk := 2) (i0 := 3) (i3 := 0) hx hb hX hbl hbA wd.2.2 hl rfl rfl (by decide) (hin 2 (by simp)) dl_814 dl_815 dl_816 dl_817 dl_818 ?_
  refine lw_push (k := 3) (kk := 3) (i0 := 3) (i3 := 0) hx hb hX hbl hbA wd.2.2 hl rfl rfl (by decide) (hin 3 (by simp)) dl_819 dl_820 dl_821 dl_822 dl_823 ?_
  refine lw_call' (a := 74) (c0 := 75) (tl := [.inl (xs (x3 + 1).toNatClampNeg).toInt, .inl (xs (x3 + 2).toNatClampNeg).toInt, .inl (xs (x3 + 3).toNatClampNeg).toInt]) (r := []) (Qj := fun o h1 => am_Call 137 (.inr (.inr (some 86)) :: [.inl (xs (x3 + 1).toNatClampNeg).toInt, .inl (xs (x3 + 2).toNatClampNeg).toInt, .inl (xs (x3 + 3).toNatClampNeg).toInt]) h1 (rg_post k o)) C (pr_latest (lw_R _) (lw_R _) (lw_R _) hi hk) (by simp only [List.map, List.reverse, List.reverseAux, am_c, Int32.ofInt_toInt]; rfl) (show am_ss 74 = false ∧ 3 = am_np 74 ∧ am_fr 74 + 1 ≤ 11 ∧ 8 + (am_ml 74 + 11) + am_lr 74 ≤ 462 from by decide +kernel) (lw_tb (am_at_mem (w := 3092) (by decide +kernel))) dl_824 hl (Nat.zero_le _) wd (by decide) (fun o h1 H1 locs1 q1 wd1 => ?_)
  refine lv_aload_n hx hb dl_827 rfl (lv_at hl 1 rfl) ?_
  refine lw_push (k := 1) (kk := 1) (i0 := 3) (i3 := 0) hx hb hX hbl hbA wd1.2.2 hl rfl rfl (by decide) (hin 1 (by simp)) dl_828 dl_829 dl_830 dl_831 dl_832 ?_
  refine lw_push (k := 2) (kk := 2) (i0 := 3) (i3 := 0) hx hb hX hbl hbA wd1.2.2 hl rfl rfl (by decide) (hin 2 (by simp)) dl_833 dl_834 dl_835 dl_836 dl_837 ?_
  refine lw_push (k := 3) (kk := 3) (i0 := 3) (i3 := 0) hx hb hX hbl hbA wd1.2.2 hl rfl rfl (by decide) (hin 3 (by simp)) dl_838 dl_839 dl_840 dl_841 dl_842 ?_
  refine lw_call' (a := 137) (c0 := 86) (tl := [.inl (xs (x3 + 1).toNatClampNeg).toInt, .inl (xs (x3 + 2).toNatClampNeg).toInt, .inl (xs (x3 + 3).toNatClampNeg).toInt]) (r := (o.map (am_c ad)).toList) C q1 (by simp only [List.map, List.reverse, List.reverseAux, am_c, Int32.ofInt_toInt, List.append_nil]; rfl) (show am_ss 137 = false ∧ 3 = am_np 137 ∧ am_fr 137 + 1 ≤ 11 ∧ 8 + (am_ml 137 + 11) + am_lr 137 ≤ 462 from by decide +kernel) (lw_tb (am_at_mem (w := 5041) (by decide +kernel))) dl_843 hl (lw_cat o) wd1 (by decide) (fun o2 h2 H2 locs2 q2 wd2 => ?_)
  obtain ⟨e1, ⟨x, e2, _⟩, i2⟩ := q2
  subst e1
  subst e2
  exact lv_icmp_eq (tgt := 1240) hx hb dl_846 (by decide) (fun _ => K h2 H2 locs2 i2 wd2) (fun z => absurd rfl z)
set_option maxHeartbeats 1000000 in
theorem lc_round {p : Program} {l : Launch} {e : Env} {s : State} {m : MethodId} {below : List Frame} {meth : Method} {c : Code} {H : Heap} {locs : List Loc} {Q : State → Prop} {ls : Array Slot} {ad : Nat → Nat} {cA : Nat → ClassId} {D : va_G} {b L : Nat} {xs : Nat → Int32} {x3 : Int32} {k : Int} {h : am_H} (C : lq p s m #[Value.ref b] c cA D (fun q => s.heap.size ≤ q)) (hX : va_X b L xs s s.heap) (hbl : b < s.heap.size) (hl : lv_has ls 4 [(3, .int x3), (2, .ref (ad 86)), (1, .ref (ad 75)), (0, .ref b)]) (hin : ∀ q : Int32, q = 1 ∨ q = 2 ∨ q = 3 ∨ q = 4 ∨ q = 5 → vp_in (x3 + q) L) (hi : iv h k) (hk : k ≤ 600) (wd : am_wd ad cA D (fun q => s.heap.size ≤ q) s.heap h H locs) (K : ∀ h' H' locs', iv h' (k + 1) → am_wd ad cA D (fun q => s.heap.size ≤ q) s.heap h' H' locs' → W p l e room_1 s m #[Value.ref b] below meth c H' locs' 87 15269 Q (F0 m 1240 ls [])) : W p l e room_1 s m #[Value.ref b] below meth c H locs 87 15269 Q (F0 m 851 ls []) := by
  obtain ⟨hx, hb, hml, hown, hts, hK, hN, hA⟩ := id C
  have hbA : ¬ (fun q : Nat => s.heap.size ≤ q) b := Nat.not_le.mpr hbl
  refine lv_aload_n hx hb dl_851 rfl (lv_at hl 2 rfl) ?_
  refine lw_push (k := 1) (kk := 1) (i0 := 3) (i3 := 0) hx hb hX hbl hbA wd.2.2 hl rfl rfl (by decide) (hin 1 (by simp)) dl_852 dl_853 dl_854 dl_855 dl_856 ?_
  refine lw_push (k := 2) (kk := 2) (i0 := 3) (i3 := 0) hx hb hX hbl hbA wd.2.2 hl rfl rfl (by decide) (hin 2 (by simp)) dl_857 dl_858 dl_859 dl_860 dl_861 ?_
  refine lw_push (k := 3) (kk := 3) (i0 := 3) (i3 := 0) hx hb hX hbl hbA wd.2.2 hl rfl rfl (by decide) (hin 3 (by simp)) dl_862 dl_863 dl_864 dl_865 dl_866 ?_
  refine lw_call' (a := 75) (c0 := 75) (tl := [.inl (xs (x3 + 1).toNatClampNeg).toInt, .inl (xs (x3 + 2).toNatClampNeg).toInt, .inl (xs (x3 + 3).toNatClampNeg).toInt]) (r := []) (Qj := fun o h1 => am_Call 138 (.inr (.inr (some 86)) :: [.inl (xs (x3 + 1).toNatClampNeg).toInt, .inl (xs (x3 + 2).toNatClampNeg).toInt, .inl (xs (x3 + 3).toNatClampNeg).toInt]) h1 (rg_post k o)) C (pr_round (lw_R _) (lw_R _) (lw_R _) hi hk) (by simp only [List.map, List.reverse, List.reverseAux, am_c, Int32.ofInt_toInt]; rfl) (show am_ss 75 = false ∧ 3 = am_np 75 ∧ am_fr 75 + 1 ≤ 11 ∧ 8 + (am_ml 75 + 11) + am_lr 75 ≤ 462 from by decide +kernel) (lw_tb (am_at_mem (w := 3101) (by decide +kernel))) dl_867 hl (Nat.zero_le _) wd (by decide) (fun o h1 H1 locs1 q1 wd1 => ?_)
  refine lv_aload_n hx hb dl_870 rfl (lv_at hl 1 rfl) ?_
  refine lw_push (k := 1) (kk := 1) (i0 := 3) (i3 := 0) hx hb hX hbl hbA wd1.2.2 hl rfl rfl (by decide) (hin 1 (by simp)) dl_871 dl_872 dl_873 dl_874 dl_875 ?_
  refine lw_push (k := 2) (kk := 2) (i0 := 3) (i3 := 0) hx hb hX hbl hbA wd1.2.2 hl rfl rfl (by decide) (hin 2 (by simp)) dl_876 dl_877 dl_878 dl_879 dl_880 ?_
  refine lw_push (k := 3) (kk := 3) (i0 := 3) (i3 := 0) hx hb hX hbl hbA wd1.2.2 hl rfl rfl (by decide) (hin 3 (by simp)) dl_881 dl_882 dl_883 dl_884 dl_885 ?_
  refine lw_call' (a := 138) (c0 := 86) (tl := [.inl (xs (x3 + 1).toNatClampNeg).toInt, .inl (xs (x3 + 2).toNatClampNeg).toInt, .inl (xs (x3 + 3).toNatClampNeg).toInt]) (r := (o.map (am_c ad)).toList) C q1 (by simp only [List.map, List.reverse, List.reverseAux, am_c, Int32.ofInt_toInt, List.append_nil]; rfl) (show am_ss 138 = false ∧ 3 = am_np 138 ∧ am_fr 138 + 1 ≤ 11 ∧ 8 + (am_ml 138 + 11) + am_lr 138 ≤ 462 from by decide +kernel) (lw_tb (am_at_mem (w := 5045) (by decide +kernel))) dl_886 hl (lw_cat o) wd1 (by decide) (fun o2 h2 H2 locs2 q2 wd2 => ?_)
  obtain ⟨e1, ⟨x, e2, _⟩, i2⟩ := q2
  subst e1
  subst e2
  exact lv_icmp_eq (tgt := 1240) hx hb dl_889 (by decide) (fun _ => K h2 H2 locs2 i2 wd2) (fun z => absurd rfl z)
set_option maxHeartbeats 1000000 in
theorem lc_bestBrake {p : Program} {l : Launch} {e : Env} {s : State} {m : MethodId} {below : List Frame} {meth : Method} {c : Code} {H : Heap} {locs : List Loc} {Q : State → Prop} {ls : Array Slot} {ad : Nat → Nat} {cA : Nat → ClassId} {D : va_G} {b L : Nat} {xs : Nat → Int32} {x3 : Int32} {k : Int} {h : am_H} (C : lq p s m #[Value.ref b] c cA D (fun q => s.heap.size ≤ q)) (hX : va_X b L xs s s.heap) (hbl : b < s.heap.size) (hl : lv_has ls 4 [(3, .int x3), (2, .ref (ad 86)), (1, .ref (ad 75)), (0, .ref b)]) (hin : ∀ q : Int32, q = 1 ∨ q = 2 ∨ q = 3 ∨ q = 4 ∨ q = 5 → vp_in (x3 + q) L) (hi : iv h k) (hk : k ≤ 600) (wd : am_wd ad cA D (fun q => s.heap.size ≤ q) s.heap h H locs) (K : ∀ h' H' locs', iv h' (k + 1) → am_wd ad cA D (fun q => s.heap.size ≤ q) s.heap h' H' locs' → W p l e room_1 s m #[Value.ref b] below meth c H' locs' 87 15269 Q (F0 m 1240 ls [])) : W p l e room_1 s m #[Value.ref b] below meth c H locs 87 15269 Q (F0 m 894 ls []) := by
  obtain ⟨hx, hb, hml, hown, hts, hK, hN, hA⟩ := id C
  have hbA : ¬ (fun q : Nat => s.heap.size ≤ q) b := Nat.not_le.mpr hbl
  refine lv_aload_n hx hb dl_894 rfl (lv_at hl 2 rfl) ?_
  refine lw_push (k := 1) (kk := 1) (i0 := 3) (i3 := 0) hx hb hX hbl hbA wd.2.2 hl rfl rfl (by decide) (hin 1 (by simp)) dl_895 dl_896 dl_897 dl_898 dl_899 ?_
  refine lw_push (k := 2) (kk := 2) (i0 := 3) (i3 := 0) hx hb hX hbl hbA wd.2.2 hl rfl rfl (by decide) (hin 2 (by simp)) dl_900 dl_901 dl_902 dl_903 dl_904 ?_
  refine lw_push (k := 3) (kk := 3) (i0 := 3) (i3 := 0) hx hb hX hbl hbA wd.2.2 hl rfl rfl (by decide) (hin 3 (by simp)) dl_905 dl_906 dl_907 dl_908 dl_909 ?_
  refine lw_push (k := 4) (kk := 4) (i0 := 3) (i3 := 0) hx hb hX hbl hbA wd.2.2 hl rfl rfl (by decide) (hin 4 (by simp)) dl_910 dl_911 dl_912 dl_913 dl_914 ?_
  refine lw_push (k := 5) (kk := 5) (i0 := 3) (i3 := 0) hx hb hX hbl hbA wd.2.2 hl rfl rfl (by decide) (hin 5 (by simp)) dl_915 dl_916 dl_917 dl_918 dl_919 ?_
  refine lw_call' (a := 76) (c0 := 75) (tl := [.inl (xs (x3 + 1).toNatClampNeg).toInt, .inl (xs (x3 + 2).toNatClampNeg).toInt, .inl (xs (x3 + 3).toNatClampNeg).toInt, .inl (xs (x3 + 4).toNatClampNeg).toInt, .inl (xs (x3 + 5).toNatClampNeg).toInt]) (r := []) (Qj := fun o h1 => am_Call 140 (.inr (.inr (some 86)) :: [.inl (xs (x3 + 1).toNatClampNeg).toInt, .inl (xs (x3 + 2).toNatClampNeg).toInt, .inl (xs (x3 + 3).toNatClampNeg).toInt, .inl (xs (x3 + 4).toNatClampNeg).toInt, .inl (xs (x3 + 5).toNatClampNeg).toInt]) h1 (rg_post k o)) C (pr_bestBrake (lw_R _) (lw_R _) (lw_R _) (lw_R _) (lw_R _) hi hk) (by simp only [List.map, List.reverse, List.reverseAux, am_c, Int32.ofInt_toInt]; rfl) (show am_ss 76 = false ∧ 5 = am_np 76 ∧ am_fr 76 + 1 ≤ 11 ∧ 8 + (am_ml 76 + 11) + am_lr 76 ≤ 462 from by decide +kernel) (lw_tb (am_at_mem (w := 3113) (by decide +kernel))) dl_920 hl (Nat.zero_le _) wd (by decide) (fun o h1 H1 locs1 q1 wd1 => ?_)
  refine lv_aload_n hx hb dl_923 rfl (lv_at hl 1 rfl) ?_
  refine lw_push (k := 1) (kk := 1) (i0 := 3) (i3 := 0) hx hb hX hbl hbA wd1.2.2 hl rfl rfl (by decide) (hin 1 (by simp)) dl_924 dl_925 dl_926 dl_927 dl_928 ?_
  refine lw_push (k := 2) (kk := 2) (i0 := 3) (i3 := 0) hx hb hX hbl hbA wd1.2.2 hl rfl rfl (by decide) (hin 2 (by simp)) dl_929 dl_930 dl_931 dl_932 dl_933 ?_
  refine lw_push (k := 3) (kk := 3) (i0 := 3) (i3 := 0) hx hb hX hbl hbA wd1.2.2 hl rfl rfl (by decide) (hin 3 (by simp)) dl_934 dl_935 dl_936 dl_937 dl_938 ?_
  refine lw_push (k := 4) (kk := 4) (i0 := 3) (i3 := 0) hx hb hX hbl hbA wd1.2.2 hl rfl rfl (by decide) (hin 4 (by simp)) dl_939 dl_940 dl_941 dl_942 dl_943 ?_
  refine lw_push (k := 5) (kk := 5) (i0 := 3) (i3 := 0) hx hb hX hbl hbA wd1.2.2 hl rfl rfl (by decide) (hin 5 (by simp)) dl_944 dl_945 dl_946 dl_947 dl_948 ?_
  refine lw_call' (a := 140) (c0 := 86) (tl := [.inl (xs (x3 + 1).toNatClampNeg).toInt, .inl (xs (x3 + 2).toNatClampNeg).toInt, .inl (xs (x3 + 3).toNatClampNeg).toInt, .inl (xs (x3 + 4).toNatClampNeg).toInt, .inl (xs (x3 + 5).toNatClampNeg).toInt]) (r := (o.map (am_c ad)).toList) C q1 (by simp only [List.map, List.reverse, List.reverseAux, am_c, Int32.ofInt_toInt, List.append_nil]; rfl) (show am_ss 140 = false ∧ 5 = am_np 140 ∧ am_fr 140 + 1 ≤ 11 ∧ 8 + (am_ml 140 + 11) + am_lr 140 ≤ 462 from by decide +kernel) (lw_tb (am_at_mem (w := 5049) (by decide +kernel))) dl_949 hl (lw_cat o) wd1 (by decide) (fun o2 h2 H2 locs2 q2 wd2 => ?_)
  obtain ⟨e1, ⟨x, e2, _⟩, i2⟩ := q2
  subst e1
  subst e2
  exact lv_icmp_eq (tgt := 1240) hx hb dl_952 (by decide) (fun _ => K h2 H2 locs2 i2 wd2) (fun z => absurd rfl z)
set_option maxHeartbeats 1000000 in
theorem lc_harm {p : Program} {l : Launch} {e : Env} {s : State} {m : MethodId} {below : List Frame} {meth : Method} {c : Code} {H : Heap} {locs : List Loc} {Q : State → Prop} {ls : Array Slot} {ad : Nat → Nat} {cA : Nat → ClassId} {D : va_G} {b L : Nat} {xs : Nat → Int32} {x3 : Int32} {k : Int} {h : am_H} (C : lq p s m #[Value.ref b] c cA D (fun q => s.heap.size ≤ q)) (hX : va_X b L xs s s.heap) (hbl : b < s.heap.size) (hl : lv_has ls 4 [(3, .int x3), (2, .ref (ad 86)), (1, .ref (ad 75)), (0, .ref b)]) (hin : ∀ q : Int32, q = 1 ∨ q = 2 ∨ q = 3 ∨ q = 4 ∨ q = 5 → vp_in (x3 + q) L) (hi : iv h k) (hk : k ≤ 600) (wd : am_wd ad cA D (fun q => s.heap.size ≤ q) s.heap h H locs) (K : ∀ h' H' locs', iv h' (k + 1) → am_wd ad cA D (fun q => s.heap.size ≤ q) s.heap h' H' locs' → W p l e room_1 s m #[Value.ref b] below meth c H' locs' 87 15269 Q (F0 m 1240 ls [])) : W p l e room_1 s m #[Value.ref b] below meth c H locs 87 15269 Q (F0 m 957 ls []) := by
  obtain ⟨hx, hb, hml, hown, hts, hK, hN, hA⟩ := id C
  have hbA : ¬ (fun q : Nat => s.heap.size ≤ q) b := Nat.not_le.mpr hbl
  refine lv_aload_n hx hb dl_957 rfl (lv_at hl 2 rfl) ?_
  refine lw_push (k := 1) (kk := 1) (i0 := 3) (i3 := 0) hx hb hX hbl hbA wd.2.2 hl rfl rfl (by decide) (hin 1 (by simp)) dl_958 dl_959 dl_960 dl_961 dl_962 ?_
  refine lw_push (k := 2) (kk := 2) (i0 := 3) (i3 := 0) hx hb hX hbl hbA wd.2.2 hl rfl rfl (by decide) (hin 2 (by simp)) dl_963 dl_964 dl_965 dl_966 dl_967 ?_
  refine lw_push (k := 3) (kk := 3) (i0 := 3) (i3 := 0) hx hb hX hbl hbA wd.2.2 hl rfl rfl (by decide) (hin 3 (by simp)) dl_968 dl_969 dl_970 dl_971 dl_972 ?_
  refine lw_push (k := 4) (kk := 4) (i0 := 3) (i3 := 0) hx hb hX hbl hbA wd.2.2 hl rfl rfl (by decide) (hin 4 (by simp)) dl_973 dl_974 dl_975 dl_976 dl_977 ?_
  refine lw_push (k := 5) (kk := 5) (i0 := 3) (i3 := 0) hx hb hX hbl hbA wd.2.2 hl rfl rfl (by decide) (hin 5 (by simp)) dl_978 dl_979 dl_980 dl_981 dl_982 ?_
  refine lw_call' (a := 77) (c0 := 75) (tl := [.inl (xs (x3 + 1).toNatClampNeg).toInt, .inl (xs (x3 + 2).toNatClampNeg).toInt, .inl (xs (x3 + 3).toNatClampNeg).toInt, .inl (xs (x3 + 4).toNatClampNeg).toInt, .inl (xs (x3 + 5).toNatClampNeg).toInt]) (r := []) (Qj := fun o h1 => am_Call 141 (.inr (.inr (some 86)) :: [.inl (xs (x3 + 1).toNatClampNeg).toInt, .inl (xs (x3 + 2).toNatClampNeg).toInt, .inl (xs (x3 + 3).toNatClampNeg).toInt, .inl (xs (x3 + 4).toNatClampNeg).toInt, .inl (xs (x3 + 5).toNatClampNeg).toInt]) h1 (rg_post k o)) C (pr_harm (lw_R _) (lw_R _) (lw_R _) (lw_R _) (lw_R _) hi hk) (by simp only [List.map, List.reverse, List.reverseAux, am_c, Int32.ofInt_toInt]; rfl) (show am_ss 77 = false ∧ 5 = am_np 77 ∧ am_fr 77 + 1 ≤ 11 ∧ 8 + (am_ml 77 + 11) + am_lr 77 ≤ 462 from by decide +kernel) (lw_tb (am_at_mem (w := 3129) (by decide +kernel))) dl_983 hl (Nat.zero_le _) wd (by decide) (fun o h1 H1 locs1 q1 wd1 => ?_)
  refine lv_aload_n hx hb dl_986 rfl (lv_at hl 1 rfl) ?_
  refine lw_push (k := 1) (kk := 1) (i0 := 3) (i3 := 0) hx hb hX hbl hbA wd1.2.2 hl rfl rfl (by decide) (hin 1 (by simp)) dl_987 dl_988 dl_989 dl_990 dl_991 ?_
  refine lw_push (k := 2) (kk := 2) (i0 := 3) (i3 := 0) hx hb hX hbl hbA wd1.2.2 hl rfl rfl (by decide) (hin 2 (by simp)) dl_992 dl_993 dl_994 dl_995 dl_996 ?_
  refine lw_push (k := 3) (kk := 3) (i0 := 3) (i3 := 0) hx hb hX hbl hbA wd1.2.2 hl rfl rfl (by decide) (hin 3 (by simp)) dl_997 dl_998 dl_999 dl_1000 dl_1001 ?_
  refine lw_push (k := 4) (kk := 4) (i0 := 3) (i3 := 0) hx hb hX hbl hbA wd1.2.2 hl rfl rfl (by decide) (hin 4 (by simp)) dl_1002 dl_1003 dl_1004 dl_1005 dl_1006 ?_
  refine lw_push (k := 5) (kk := 5) (i0 := 3) (i3 := 0) hx hb hX hbl hbA wd1.2.2 hl rfl rfl (by decide) (hin 5 (by simp)) dl_1007 dl_1008 dl_1009 dl_1010 dl_1011 ?_
  refine lw_call' (a := 141) (c0 := 86) (tl := [.inl (xs (x3 + 1).toNatClampNeg).toInt, .inl (xs (x3 + 2).toNatClampNeg).toInt, .inl (xs (x3 + 3).toNatClampNeg).toInt, .inl (xs (x3 + 4).toNatClampNeg).toInt, .inl (xs (x3 + 5).toNatClampNeg).toInt]) (r := (o.map (am_c ad)).toList) C q1 (by simp only [List.map, List.reverse, List.reverseAux, am_c, Int32.ofInt_toInt, List.append_nil]; rfl) (show am_ss 141 = false ∧ 5 = am_np 141 ∧ am_fr 141 + 1 ≤ 11 ∧ 8 + (am_ml 141 + 11) + am_lr 141 ≤ 462 from by decide +kernel) (lw_tb (am_at_mem (w := 5057) (by decide +kernel))) dl_1012 hl (lw_cat o) wd1 (by decide) (fun o2 h2 H2 locs2 q2 wd2 => ?_)
  obtain ⟨e1, ⟨x, e2, _⟩, i2⟩ := q2
  subst e1
  subst e2
  exact lv_icmp_eq (tgt := 1240) hx hb dl_1015 (by decide) (fun _ => K h2 H2 locs2 i2 wd2) (fun z => absurd rfl z)
set_option maxHeartbeats 1000000 in
theorem lc_worst {p : Program} {l : Launch} {e : Env} {s : State} {m : MethodId} {below : List Frame} {meth : Method} {c : Code} {H : Heap} {locs : List Loc} {Q : State → Prop} {ls : Array Slot} {ad : Nat → Nat} {cA : Nat → ClassId} {D : va_G} {b L : Nat} {xs : Nat → Int32} {x3 : Int32} {k : Int} {h : am_H} (C : lq p s m #[Value.ref b] c cA D (fun q => s.heap.size ≤ q)) (hX : va_X b L xs s s.heap) (hbl : b < s.heap.size) (hl : lv_has ls 4 [(3, .int x3), (2, .ref (ad 86)), (1, .ref (ad 75)), (0, .ref b)]) (hin : ∀ q : Int32, q = 1 ∨ q = 2 ∨ q = 3 ∨ q = 4 ∨ q = 5 → vp_in (x3 + q) L) (hi : iv h k) (hk : k ≤ 600) (wd : am_wd ad cA D (fun q => s.heap.size ≤ q) s.heap h H locs) (K : ∀ h' H' locs', iv h' (k + 1) → am_wd ad cA D (fun q => s.heap.size ≤ q) s.heap h' H' locs' → W p l e room_1 s m #[Value.ref b] below meth c H' locs' 87 15269 Q (F0 m 1240 ls [])) : W p l e room_1 s m #[Value.ref b] below meth c H locs 87 15269 Q (F0 m 1020 ls []) := by
  obtain ⟨hx, hb, hml, hown, hts, hK, hN, hA⟩ := id C
  have hbA : ¬ (fun q : Nat => s.heap.size ≤ q) b := Nat.not_le.mpr hbl
  refine lv_aload_n hx hb dl_1020 rfl (lv_at hl 2 rfl) ?_
  refine lw_push (k := 1) (kk := 1) (i0 := 3) (i3 := 0) hx hb hX hbl hbA wd.2.2 hl rfl rfl (by decide) (hin 1 (by simp)) dl_1021 dl_1022 dl_1023 dl_1024 dl_1025 ?_
  refine lw_push (k := 2) (kk := 2) (i0 := 3) (i3 := 0) hx hb hX hbl hbA wd.2.2 hl rfl rfl (by decide) (hin 2 (by simp)) dl_1026 dl_1027 dl_1028 dl_1029 dl_1030 ?_
  refine lw_call' (a := 78) (c0 := 75) (tl := [.inl (xs (x3 + 1).toNatClampNeg).toInt, .inl (xs (x3 + 2).toNatClampNeg).toInt]) (r := []) (Qj := fun o h1 => am_Call 143 (.inr (.inr (some 86)) :: [.inl (xs (x3 + 1).toNatClampNeg).toInt, .inl (xs (x3 + 2).toNatClampNeg).toInt]) h1 (rg_post k o)) C (pr_worst (lw_R _) (lw_R _) hi hk) (by simp only [List.map, List.reverse, List.reverseAux, am_c, Int32.ofInt_toInt]; rfl) (show am_ss 78 = false ∧ 2 = am_np 78 ∧ am_fr 78 + 1 ≤ 11 ∧ 8 + (am_ml 78 + 11) + am_lr 78 ≤ 462 from by decide +kernel) (lw_tb (am_at_mem (w := 3141) (by decide +kernel))) dl_1031 hl (Nat.zero_le _) wd (by decide) (fun o h1 H1 locs1 q1 wd1 => ?_)
  refine lv_aload_n hx hb dl_1034 rfl (lv_at hl 1 rfl) ?_
  refine lw_push (k := 1) (kk := 1) (i0 := 3) (i3 := 0) hx hb hX hbl hbA wd1.2.2 hl rfl rfl (by decide) (hin 1 (by simp)) dl_1035 dl_1036 dl_1037 dl_1038 dl_1039 ?_
  refine lw_push (k := 2) (kk := 2) (i0 := 3) (i3 := 0) hx hb hX hbl hbA wd1.2.2 hl rfl rfl (by decide) (hin 2 (by simp)) dl_1040 dl_1041 dl_1042 dl_1043 dl_1044 ?_
  refine lw_call' (a := 143) (c0 := 86) (tl := [.inl (xs (x3 + 1).toNatClampNeg).toInt, .inl (xs (x3 + 2).toNatClampNeg).toInt]) (r := (o.map (am_c ad)).toList) C q1 (by simp only [List.map, List.reverse, List.reverseAux, am_c, Int32.ofInt_toInt, List.append_nil]; rfl) (show am_ss 143 = false ∧ 2 = am_np 143 ∧ am_fr 143 + 1 ≤ 11 ∧ 8 + (am_ml 143 + 11) + am_lr 143 ≤ 462 from by decide +kernel) (lw_tb (am_at_mem (w := 5061) (by decide +kernel))) dl_1045 hl (lw_cat o) wd1 (by decide) (fun o2 h2 H2 locs2 q2 wd2 => ?_)
  obtain ⟨e1, ⟨x, e2, _⟩, i2⟩ := q2
  subst e1
  subst e2
  exact lv_icmp_eq (tgt := 1240) hx hb dl_1048 (by decide) (fun _ => K h2 H2 locs2 i2 wd2) (fun z => absurd rfl z)
set_option maxHeartbeats 1000000 in
theorem lc_pumps {p : Program} {l : Launch} {e : Env} {s : State} {m : MethodId} {below : List Frame} {meth : Method} {c : Code} {H : Heap} {locs : List Loc} {Q : State → Prop} {ls : Array Slot} {ad : Nat → Nat} {cA : Nat → ClassId} {D : va_G} {b L : Nat} {xs : Nat → Int32} {x3 : Int32} {k : Int} {h : am_H} (C : lq p s m #[Value.ref b] c cA D (fun q => s.heap.size ≤ q)) (hX : va_X b L xs s s.heap) (hbl : b < s.heap.size) (hl : lv_has ls 4 [(3, .int x3), (2, .ref (ad 86)), (1, .ref (ad 75)), (0, .ref b)]) (hin : ∀ q : Int32, q = 1 ∨ q = 2 ∨ q = 3 ∨ q = 4 ∨ q = 5 → vp_in (x3 + q) L) (hi : iv h k) (hk : k ≤ 600) (wd : am_wd ad cA D (fun q => s.heap.size ≤ q) s.heap h H locs) (K : ∀ h' H' locs', iv h' (k + 1) → am_wd ad cA D (fun q => s.heap.size ≤ q) s.heap h' H' locs' → W p l e room_1 s m #[Value.ref b] below meth c H' locs' 87 15269 Q (F0 m 1240 ls [])) : W p l e room_1 s m #[Value.ref b] below meth c H locs 87 15269 Q (F0 m 1053 ls []) := by
  obtain ⟨hx, hb, hml, hown, hts, hK, hN, hA⟩ := id C
  have hbA : ¬ (fun q : Nat => s.heap.size ≤ q) b := Nat.not_le.mpr hbl
  refine lv_aload_n hx hb dl_1053 rfl (lv_at hl 2 rfl) ?_
  refine lw_push (k := 1) (kk := 1) (i0 := 3) (i3 := 0) hx hb hX hbl hbA wd.2.2 hl rfl rfl (by decide) (hin 1 (by simp)) dl_1054 dl_1055 dl_1056 dl_1057 dl_1058 ?_
  refine lw_call' (a := 79) (c0 := 75) (tl := [.inl (xs (x3 + 1).toNatClampNeg).toInt]) (r := []) (Qj := fun o h1 => am_Call 144 (.inr (.inr (some 86)) :: [.inl (xs (x3 + 1).toNatClampNeg).toInt]) h1 (rg_post k o)) C (pr_pumps (lw_R _) hi hk) (by simp only [List.map, List.reverse, List.reverseAux, am_c, Int32.ofInt_toInt]; rfl) (show am_ss 79 = false ∧ 1 = am_np 79 ∧ am_fr 79 + 1 ≤ 11 ∧ 8 + (am_ml 79 + 11) + am_lr 79 ≤ 462 from by decide +kernel) (lw_tb (am_at_mem (w := 3150) (by decide +kernel))) dl_1059 hl (Nat.zero_le _) wd (by decide) (fun o h1 H1 locs1 q1 wd1 => ?_)
  refine lv_aload_n hx hb dl_1062 rfl (lv_at hl 1 rfl) ?_
  refine lw_push (k := 1) (kk := 1) (i0 := 3) (i3 := 0) hx hb hX hbl hbA wd1.2.2 hl rfl rfl (by decide) (hin 1 (by simp)) dl_1063 dl_1064 dl_1065 dl_1066 dl_1067 ?_
  refine lw_call' (a := 144) (c0 := 86) (tl := [.inl (xs (x3 + 1).toNatClampNeg).toInt]) (r := (o.map (am_c ad)).toList) C q1 (by simp only [List.map, List.reverse, List.reverseAux, am_c, Int32.ofInt_toInt, List.append_nil]; rfl) (show am_ss 144 = false ∧ 1 = am_np 144 ∧ am_fr 144 + 1 ≤ 11 ∧ 8 + (am_ml 144 + 11) + am_lr 144 ≤ 462 from by decide +kernel) (lw_tb (am_at_mem (w := 5069) (by decide +kernel))) dl_1068 hl (lw_cat o) wd1 (by decide) (fun o2 h2 H2 locs2 q2 wd2 => ?_)
  obtain ⟨e1, ⟨x, e2, _⟩, i2⟩ := q2
  subst e1
  subst e2
  exact lv_icmp_eq (tgt := 1240) hx hb dl_1071 (by decide) (fun _ => K h2 H2 locs2 i2 wd2) (fun z => absurd rfl z)
set_option maxHeartbeats 1000000 in
theorem lc_see {p : Program} {l : Launch} {e : Env} {s : State} {m : MethodId} {below : List Frame} {meth : Method} {c : Code} {H : Heap} {locs : List Loc} {Q : State → Prop} {ls : Array Slot} {ad : Nat → Nat} {cA : Nat → ClassId} {D : va_G} {b L : Nat} {xs : Nat → Int32} {x3 : Int32} {k : Int} {h : am_H} (C : lq p s m #[Value.ref b] c cA D (fun q => s.heap.size ≤ q)) (hX : va_X b L xs s s.heap) (hbl : b < s.heap.size) (hl : lv_has ls 4 [(3, .int x3), (2, .ref (ad 86)), (1, .ref (ad 75)), (0, .ref b)]) (hin : ∀ q : Int32, q = 1 ∨ q = 2 ∨ q = 3 ∨ q = 4 ∨ q = 5 → vp_in (x3 + q) L) (hi : iv h k) (hk : k ≤ 600) (wd : am_wd ad cA D (fun q => s.heap.size ≤ q) s.heap h H locs) (K : ∀ h' H' locs', iv h' (k + 1) → am_wd ad cA D (fun q => s.heap.size ≤ q) s.heap h' H' locs' → W p l e room_1 s m #[Value.ref b] below meth c H' locs' 87 15269 Q (F0 m 1240 ls [])) : W p l e room_1 s m #[Value.ref b] below meth c H locs 87 15269 Q (F0 m 1076 ls []) := by
  obtain ⟨hx, hb, hml, hown, hts, hK, hN, hA⟩ := id C
  have hbA : ¬ (fun q : Nat => s.heap.size ≤ q) b := Nat.not_le.mpr hbl
  refine lv_aload_n hx hb dl_1076 rfl (lv_at hl 2 rfl) ?_
  refine lw_push (k := 1) (kk := 1) (i0 := 3) (i3 := 0) hx hb hX hbl hbA wd.2.2 hl rfl rfl (by decide) (hin 1 (by simp)) dl_1077 dl_1078 dl_1079 dl_1080 dl_1081 ?_
  refine lw_push (k := 2) (kk := 2) (i0 := 3) (i3 := 0) hx hb hX hbl hbA wd.2.2 hl rfl rfl (by decide) (hin 2 (by simp)) dl_1082 dl_1083 dl_1084 dl_1085 dl_1086 ?_
  refine lw_push (k := 3) (kk := 3) (i0 := 3) (i3 := 0) hx hb hX hbl hbA wd.2.2 hl rfl rfl (by decide) (hin 3 (by simp)) dl_1087 dl_1088 dl_1089 dl_1090 dl_1091 ?_
  refine lw_call' (a := 80) (c0 := 75) (tl := [.inl (xs (x3 + 1).toNatClampNeg).toInt, .inl (xs (x3 + 2).toNatClampNeg).toInt, .inl (xs (x3 + 3).toNatClampNeg).toInt]) (r := []) (Qj := fun o h1 => am_Call 146 (.inr (.inr (some 86)) :: [.inl (xs (x3 + 1).toNatClampNeg).toInt, .inl (xs (x3 + 2).toNatClampNeg).toInt, .inl (xs (x3 + 3).toNatClampNeg).toInt]) h1 (rg_post k o)) C (pr_see (lw_R _) (lw_R _) (lw_R _) hi) (by simp only [List.map, List.reverse, List.reverseAux, am_c, Int32.ofInt_toInt]; rfl) (show am_ss 80 = false ∧ 3 = am_np 80 ∧ am_fr 80 + 1 ≤ 11 ∧ 8 + (am_ml 80 + 11) + am_lr 80 ≤ 462 from by decide +kernel) (lw_tb (am_at_mem (w := 3176) (by decide +kernel))) dl_1092 hl (Nat.zero_le _) wd (by decide) (fun o h1 H1 locs1 q1 wd1 => ?_)
  refine lv_aload_n hx hb dl_1095 rfl (lv_at hl 1 rfl) ?_
  refine lw_push (k := 1) (kk := 1) (i0 := 3) (i3 := 0) hx hb hX hbl hbA wd1.2.2 hl rfl rfl (by decide) (hin 1 (by simp)) dl_1096 dl_1097 dl_1098 dl_1099 dl_1100 ?_
  refine lw_push (k := 2) (kk := 2) (i0 := 3) (i3 := 0) hx hb hX hbl hbA wd1.2.2 hl rfl rfl (by decide) (hin 2 (by simp)) dl_1101 dl_1102 dl_1103 dl_1104 dl_1105 ?_
  refine lw_push (k := 3) (kk := 3) (i0 := 3) (i3 := 0) hx hb hX hbl hbA wd1.2.2 hl rfl rfl (by decide) (hin 3 (by simp)) dl_1106 dl_1107 dl_1108 dl_1109 dl_1110 ?_
  refine lw_call' (a := 146) (c0 := 86) (tl := [.inl (xs (x3 + 1).toNatClampNeg).toInt, .inl (xs (x3 + 2).toNatClampNeg).toInt, .inl (xs (x3 + 3).toNatClampNeg).toInt]) (r := (o.map (am_c ad)).toList) C q1 (by simp only [List.map, List.reverse, List.reverseAux, am_c, Int32.ofInt_toInt, List.append_nil]; rfl) (show am_ss 146 = false ∧ 3 = am_np 146 ∧ am_fr 146 + 1 ≤ 11 ∧ 8 + (am_ml 146 + 11) + am_lr 146 ≤ 462 from by decide +kernel) (lw_tb (am_at_mem (w := 5077) (by decide +kernel))) dl_1111 hl (lw_cat o) wd1 (by decide) (fun o2 h2 H2 locs2 q2 wd2 => ?_)
  obtain ⟨e1, ⟨x, e2, _⟩, i2⟩ := q2
  subst e1
  subst e2
  exact lv_icmp_eq (tgt := 1240) hx hb dl_1114 (by decide) (fun _ => K h2 H2 locs2 i2 wd2) (fun z => absurd rfl z)
set_option maxHeartbeats 1000000 in
theorem lc_unsee {p : Program} {l : Launch} {e : Env} {s : State} {m : MethodId} {below : List Frame} {meth : Method} {c : Code} {H : Heap} {locs : List Loc} {Q : State → Prop} {ls : Array Slot} {ad : Nat → Nat} {cA : Nat → ClassId} {D : va_G} {b L : Nat} {xs : Nat → Int32} {x3 : Int32} {k : Int} {h : am_H} (C : lq p s m #[Value.ref b] c cA D (fun q => s.heap.size ≤ q)) (hX : va_X b L xs s s.heap) (hbl : b < s.heap.size) (hl : lv_has ls 4 [(3, .int x3), (2, .ref (ad 86)), (1, .ref (ad 75)), (0, .ref b)]) (hin : ∀ q : Int32, q = 1 ∨ q = 2 ∨ q = 3 ∨ q = 4 ∨ q = 5 → vp_in (x3 + q) L) (hi : iv h k) (hk : k ≤ 600) (wd : am_wd ad cA D (fun q => s.heap.size ≤ q) s.heap h H locs) (K : ∀ h' H' locs', iv h' (k + 1) → am_wd ad cA D (fun q => s.heap.size ≤ q) s.heap h' H' locs' → W p l e room_1 s m #[Value.ref b] below meth c H' locs' 87 15269 Q (F0 m 1240 ls [])) : W p l e room_1 s m #[Value.ref b] below meth c H locs 87 15269 Q (F0 m 1119 ls []) := by
  obtain ⟨hx, hb, hml, hown, hts, hK, hN, hA⟩ := id C
  have hbA : ¬ (fun q : Nat => s.heap.size ≤ q) b := Nat.not_le.mpr hbl
  refine lv_aload_n hx hb dl_1119 rfl (lv_at hl 2 rfl) ?_
  refine lw_call' (a := 81) (c0 := 75) (tl := []) (r := []) (Qj := fun o h1 => am_Call 147 (.inr (.inr (some 86)) :: []) h1 (rg_post k o)) C (pr_unsee hi) (by simp only [List.map, List.reverse, List.reverseAux, am_c, Int32.ofInt_toInt]; rfl) (show am_ss 81 = false ∧ 0 = am_np 81 ∧ am_fr 81 + 1 ≤ 11 ∧ 8 + (am_ml 81 + 11) + am_lr 81 ≤ 462 from by decide +kernel) (lw_tb (am_at_mem (w := 3184) (by decide +kernel))) dl_1120 hl (Nat.zero_le _) wd (by decide) (fun o h1 H1 locs1 q1 wd1 => ?_)
  refine lv_aload_n hx hb dl_1123 rfl (lv_at hl 1 rfl) ?_
  refine lw_call' (a := 147) (c0 := 86) (tl := []) (r := (o.map (am_c ad)).toList) C q1 (by simp only [List.map, List.reverse, List.reverseAux, am_c, Int32.ofInt_toInt, List.append_nil]; rfl) (show am_ss 147 = false ∧ 0 = am_np 147 ∧ am_fr 147 + 1 ≤ 11 ∧ 8 + (am_ml 147 + 11) + am_lr 147 ≤ 462 from by decide +kernel) (lw_tb (am_at_mem (w := 5081) (by decide +kernel))) dl_1124 hl (lw_cat o) wd1 (by decide) (fun o2 h2 H2 locs2 q2 wd2 => ?_)
  obtain ⟨e1, ⟨x, e2, _⟩, i2⟩ := q2
  subst e1
  subst e2
  exact lv_icmp_eq (tgt := 1240) hx hb dl_1127 (by decide) (fun _ => K h2 H2 locs2 i2 wd2) (fun z => absurd rfl z)
set_option maxHeartbeats 1000000 in
theorem lc_rows {p : Program} {l : Launch} {e : Env} {s : State} {m : MethodId} {below : List Frame} {meth : Method} {c : Code} {H : Heap} {locs : List Loc} {Q : State → Prop} {ls : Array Slot} {ad : Nat → Nat} {cA : Nat → ClassId} {D : va_G} {b L : Nat} {xs : Nat → Int32} {x3 : Int32} {k : Int} {h : am_H} (C : lq p s m #[Value.ref b] c cA D (fun q => s.heap.size ≤ q)) (hX : va_X b L xs s s.heap) (hbl : b < s.heap.size) (hl : lv_has ls 4 [(3, .int x3), (2, .ref (ad 86)), (1, .ref (ad 75)), (0, .ref b)]) (hin : ∀ q : Int32, q = 1 ∨ q = 2 ∨ q = 3 ∨ q = 4 ∨ q = 5 → vp_in (x3 + q) L) (hi : iv h k) (hk : k ≤ 600) (wd : am_wd ad cA D (fun q => s.heap.size ≤ q) s.heap h H locs) (K : ∀ h' H' locs', iv h' (k + 1) → am_wd ad cA D (fun q => s.heap.size ≤ q) s.heap h' H' locs' → W p l e room_1 s m #[Value.ref b] below meth c H' locs' 87 15269 Q (F0 m 1240 ls [])) : W p l e room_1 s m #[Value.ref b] below meth c H locs 87 15269 Q (F0 m 1132 ls []) := by
  obtain ⟨hx, hb, hml, hown, hts, hK, hN, hA⟩ := id C
  have hbA : ¬ (fun q : Nat => s.heap.size ≤ q) b := Nat.not_le.mpr hbl
  refine lv_aload_n hx hb dl_1132 rfl (lv_at hl 2 rfl) ?_
  refine lw_call' (a := 82) (c0 := 75) (tl := []) (r := []) (Qj := fun o h1 => am_Call 151 (.inr (.inr (some 86)) :: []) h1 (rg_post k o)) C (pr_rows hi) (by simp only [List.map, List.reverse, List.reverseAux, am_c, Int32.ofInt_toInt]; rfl) (show am_ss 82 = false ∧ 0 = am_np 82 ∧ am_fr 82 + 1 ≤ 11 ∧ 8 + (am_ml 82 + 11) + am_lr 82 ≤ 462 from by decide +kernel) (lw_tb (am_at_mem (w := 3188) (by decide +kernel))) dl_1133 hl (Nat.zero_le _) wd (by decide) (fun o h1 H1 locs1 q1 wd1 => ?_)
  refine lv_aload_n hx hb dl_1136 rfl (lv_at hl 1 rfl) ?_
  refine lw_call' (a := 151) (c0 := 86) (tl := []) (r := (o.map (am_c ad)).toList) C q1 (by simp only [List.map, List.reverse, List.reverseAux, am_c, Int32.ofInt_toInt, List.append_nil]; rfl) (show am_ss 151 = false ∧ 0 = am_np 151 ∧ am_fr 151 + 1 ≤ 11 ∧ 8 + (am_ml 151 + 11) + am_lr 151 ≤ 462 from by decide +kernel) (lw_tb (am_at_mem (w := 5085) (by decide +kernel))) dl_1137 hl (lw_cat o) wd1 (by decide) (fun o2 h2 H2 locs2 q2 wd2 => ?_)
  obtain ⟨e1, ⟨x, e2, _⟩, i2⟩ := q2
  subst e1
  subst e2
  exact lv_icmp_eq (tgt := 1240) hx hb dl_1140 (by decide) (fun _ => K h2 H2 locs2 i2 wd2) (fun z => absurd rfl z)
set_option maxHeartbeats 1000000 in
theorem lc_likely {p : Program} {l : Launch} {e : Env} {s : State} {m : MethodId} {below : List Frame} {meth : Method} {c : Code} {H : Heap} {locs : List Loc} {Q : State → Prop} {ls : Array Slot} {ad : Nat → Nat} {cA : Nat → ClassId} {D : va_G} {b L : Nat} {xs : Nat → Int32} {x3 : Int32} {k : Int} {h : am_H} (C : lq p s m #[Value.ref b] c cA D (fun q => s.heap.size ≤ q)) (hX : va_X b L xs s s.heap) (hbl : b < s.heap.size) (hl : lv_has ls 4 [(3, .int x3), (2, .ref (ad 86)), (1, .ref (ad 75)), (0, .ref b)]) (hin : ∀ q : Int32, q = 1 ∨ q = 2 ∨ q = 3 ∨ q = 4 ∨ q = 5 → vp_in (x3 + q) L) (hi : iv h k) (hk : k ≤ 600) (wd : am_wd ad cA D (fun q => s.heap.size ≤ q) s.heap h H locs) (K : ∀ h' H' locs', iv h' (k + 1) → am_wd ad cA D (fun q => s.heap.size ≤ q) s.heap h' H' locs' → W p l e room_1 s m #[Value.ref b] below meth c H' locs' 87 15269 Q (F0 m 1240 ls [])) : W p l e room_1 s m #[Value.ref b] below meth c H locs 87 15269 Q (F0 m 1145 ls []) := by
  obtain ⟨hx, hb, hml, hown, hts, hK, hN, hA⟩ := id C
  have hbA : ¬ (fun q : Nat => s.heap.size ≤ q) b := Nat.not_le.mpr hbl
  refine lv_aload_n hx hb dl_1145 rfl (lv_at hl 2 rfl) ?_
  refine lw_push (k := 1) (kk := 1) (i0 := 3) (i3 := 0) hx hb hX hbl hbA wd.2.2 hl rfl rfl (by decide) (hin 1 (by simp)) dl_1146 dl_1147 dl_1148 dl_1149 dl_1150 ?_
  refine lw_push (k := 2) (kk := 2) (i0 := 3) (i3 := 0) hx hb hX hbl hbA wd.2.2 hl rfl rfl (by decide) (hin 2 (by simp)) dl_1151 dl_1152 dl_1153 dl_1154 dl_1155 ?_
  refine lw_bool (tgt := 1163) (en := 1164) hx hb dl_1156 (by decide) dl_1159 dl_1160 (by decide) dl_1163 rfl ?_
  refine lw_call' (a := 83) (c0 := 75) (tl := [.inl (xs (x3 + 1).toNatClampNeg).toInt, .inl (if (xs (x3 + 2).toNatClampNeg) = 0 then (0 : Int32) else 1).toInt]) (r := []) (Qj := fun o h1 => am_Call 152 (.inr (.inr (some 86)) :: [.inl (xs (x3 + 1).toNatClampNeg).toInt, .inl (if (xs (x3 + 2).toNatClampNeg) = 0 then (0 : Int32) else 1).toInt]) h1 (rg_post k o)) C (pr_likely (lw_R _) (lw_R _) hi) (by simp only [List.map, List.reverse, List.reverseAux, am_c, Int32.ofInt_toInt]; rfl) (show am_ss 83 = false ∧ 2 = am_np 83 ∧ am_fr 83 + 1 ≤ 11 ∧ 8 + (am_ml 83 + 11) + am_lr 83 ≤ 462 from by decide +kernel) (lw_tb (am_at_mem (w := 3220) (by decide +kernel))) dl_1164 hl (Nat.zero_le _) wd (by decide) (fun o h1 H1 locs1 q1 wd1 => ?_)
  refine lv_aload_n hx hb dl_1167 rfl (lv_at hl 1 rfl) ?_
  refine lw_push (k := 1) (kk := 1) (i0 := 3) (i3 := 0) hx hb hX hbl hbA wd1.2.2 hl rfl rfl (by decide) (hin 1 (by simp)) dl_1168 dl_1169 dl_1170 dl_1171 dl_1172 ?_
  refine lw_push (k := 2) (kk := 2) (i0 := 3) (i3 := 0) hx hb hX hbl hbA wd1.2.2 hl rfl rfl (by decide) (hin 2 (by simp)) dl_1173 dl_1174 dl_1175 dl_1176 dl_1177 ?_
  refine lw_bool (tgt := 1185) (en := 1186) hx hb dl_1178 (by decide) dl_1181 dl_1182 (by decide) dl_1185 rfl ?_
  refine lw_call' (a := 152) (c0 := 86) (tl := [.inl (xs (x3 + 1).toNatClampNeg).toInt, .inl (if (xs (x3 + 2).toNatClampNeg) = 0 then (0 : Int32) else 1).toInt]) (r := (o.map (am_c ad)).toList) C q1 (by simp only [List.map, List.reverse, List.reverseAux, am_c, Int32.ofInt_toInt, List.append_nil]; rfl) (show am_ss 152 = false ∧ 2 = am_np 152 ∧ am_fr 152 + 1 ≤ 11 ∧ 8 + (am_ml 152 + 11) + am_lr 152 ≤ 462 from by decide +kernel) (lw_tb (am_at_mem (w := 5100) (by decide +kernel))) dl_1186 hl (lw_cat o) wd1 (by decide) (fun o2 h2 H2 locs2 q2 wd2 => ?_)
  obtain ⟨e1, ⟨x, e2, _⟩, i2⟩ := q2
  subst e1
  subst e2
  exact lv_icmp_eq (tgt := 1240) hx hb dl_1189 (by decide) (fun _ => K h2 H2 locs2 i2 wd2) (fun z => absurd rfl z)
set_option maxHeartbeats 1000000 in
theorem lc_keep {p : Program} {l : Launch} {e : Env} {s : State} {m : MethodId} {below : List Frame} {meth : Method} {c : Code} {H : Heap} {locs : List Loc} {Q : State → Prop} {ls : Array Slot} {ad : Nat → Nat} {cA : Nat → ClassId} {D : va_G} {b L : Nat} {xs : Nat → Int32} {x3 : Int32} {k : Int} {h : am_H} (C : lq p s m #[Value.ref b] c cA D (fun q => s.heap.size ≤ q)) (hX : va_X b L xs s s.heap) (hbl : b < s.heap.size) (hl : lv_has ls 4 [(3, .int x3), (2, .ref (ad 86)), (1, .ref (ad 75)), (0, .ref b)]) (hin : ∀ q : Int32, q = 1 ∨ q = 2 ∨ q = 3 ∨ q = 4 ∨ q = 5 → vp_in (x3 + q) L) (hi : iv h k) (hk : k ≤ 600) (wd : am_wd ad cA D (fun q => s.heap.size ≤ q) s.heap h H locs) (K : ∀ h' H' locs', iv h' (k + 1) → am_wd ad cA D (fun q => s.heap.size ≤ q) s.heap h' H' locs' → W p l e room_1 s m #[Value.ref b] below meth c H' locs' 87 15269 Q (F0 m 1240 ls [])) : W p l e room_1 s m #[Value.ref b] below meth c H locs 87 15269 Q (F0 m 1194 ls []) := by
  obtain ⟨hx, hb, hml, hown, hts, hK, hN, hA⟩ := id C
  have hbA : ¬ (fun q : Nat => s.heap.size ≤ q) b := Nat.not_le.mpr hbl
  refine lv_aload_n hx hb dl_1194 rfl (lv_at hl 2 rfl) ?_
  refine lw_push (k := 1) (kk := 1) (i0 := 3) (i3 := 0) hx hb hX hbl hbA wd.2.2 hl rfl rfl (by decide) (hin 1 (by simp)) dl_1195 dl_1196 dl_1197 dl_1198 dl_1199 ?_
  refine lw_call' (a := 84) (c0 := 75) (tl := [.inl (xs (x3 + 1).toNatClampNeg).toInt]) (r := []) (Qj := fun o h1 => am_Call 154 (.inr (.inr (some 86)) :: [.inl (xs (x3 + 1).toNatClampNeg).toInt]) h1 (rg_post k o)) C (pr_keep (lw_R _) hi) (by simp only [List.map, List.reverse, List.reverseAux, am_c, Int32.ofInt_toInt]; rfl) (show am_ss 84 = false ∧ 1 = am_np 84 ∧ am_fr 84 + 1 ≤ 11 ∧ 8 + (am_ml 84 + 11) + am_lr 84 ≤ 462 from by decide +kernel) (lw_tb (am_at_mem (w := 3224) (by decide +kernel))) dl_1200 hl (Nat.zero_le _) wd (by decide) (fun o h1 H1 locs1 q1 wd1 => ?_)
  refine lv_aload_n hx hb dl_1203 rfl (lv_at hl 1 rfl) ?_
  refine lw_push (k := 1) (kk := 1) (i0 := 3) (i3 := 0) hx hb hX hbl hbA wd1.2.2 hl rfl rfl (by decide) (hin 1 (by simp)) dl_1204 dl_1205 dl_1206 dl_1207 dl_1208 ?_
  refine lw_call' (a := 154) (c0 := 86) (tl := [.inl (xs (x3 + 1).toNatClampNeg).toInt]) (r := (o.map (am_c ad)).toList) C q1 (by simp only [List.map, List.reverse, List.reverseAux, am_c, Int32.ofInt_toInt, List.append_nil]; rfl) (show am_ss 154 = false ∧ 1 = am_np 154 ∧ am_fr 154 + 1 ≤ 11 ∧ 8 + (am_ml 154 + 11) + am_lr 154 ≤ 462 from by decide +kernel) (lw_tb (am_at_mem (w := 5104) (by decide +kernel))) dl_1209 hl (lw_cat o) wd1 (by decide) (fun o2 h2 H2 locs2 q2 wd2 => ?_)
  obtain ⟨e1, ⟨x, e2, _⟩, i2⟩ := q2
  subst e1
  subst e2
  exact lv_icmp_eq (tgt := 1240) hx hb dl_1212 (by decide) (fun _ => K h2 H2 locs2 i2 wd2) (fun z => absurd rfl z)
set_option maxHeartbeats 1000000 in
theorem lc_again {p : Program} {l : Launch} {e : Env} {s : State} {m : MethodId} {below : List Frame} {meth : Method} {c : Code} {H : Heap} {locs : List Loc} {Q : State → Prop} {ls : Array Slot} {ad : Nat → Nat} {cA : Nat → ClassId} {D : va_G} {b L : Nat} {xs : Nat → Int32} {x3 : Int32} {k : Int} {h : am_H} (C : lq p s m #[Value.ref b] c cA D (fun q => s.heap.size ≤ q)) (hX : va_X b L xs s s.heap) (hbl : b < s.heap.size) (hl : lv_has ls 4 [(3, .int x3), (2, .ref (ad 86)), (1, .ref (ad 75)), (0, .ref b)]) (hin : ∀ q : Int32, q = 1 ∨ q = 2 ∨ q = 3 ∨ q = 4 ∨ q = 5 → vp_in (x3 + q) L) (hi : iv h k) (hk : k ≤ 600) (wd : am_wd ad cA D (fun q => s.heap.size ≤ q) s.heap h H locs) (K : ∀ h' H' locs', iv h' (k + 1) → am_wd ad cA D (fun q => s.heap.size ≤ q) s.heap h' H' locs' → W p l e room_1 s m #[Value.ref b] below meth c H' locs' 87 15269 Q (F0 m 1240 ls [])) : W p l e room_1 s m #[Value.ref b] below meth c H locs 87 15269 Q (F0 m 1217 ls []) := by
  obtain ⟨hx, hb, hml, hown, hts, hK, hN, hA⟩ := id C
  have hbA : ¬ (fun q : Nat => s.heap.size ≤ q) b := Nat.not_le.mpr hbl
  refine lv_aload_n hx hb dl_1217 rfl (lv_at hl 2 rfl) ?_
  refine lw_push (k := 1) (kk := 1) (i0 := 3) (i3 := 0) hx hb hX hbl hbA wd.2.2 hl rfl rfl (by decide) (hin 1 (by simp)) dl_1218 dl_1219 dl_1220 dl_1221 dl_1222 ?_
  refine lw_call' (a := 85) (c0 := 75) (tl := [.inl (xs (x3 + 1).toNatClampNeg).toInt]) (r := []) (Qj := fun o h1 => am_Call 155 (.inr (.inr (some 86)) :: [.inl (xs (x3 + 1).toNatClampNeg).toInt]) h1 (rg_post k o)) C (pr_again (lw_R _) hi) (by simp only [List.map, List.reverse, List.reverseAux, am_c, Int32.ofInt_toInt]; rfl) (show am_ss 85 = false ∧ 1 = am_np 85 ∧ am_fr 85 + 1 ≤ 11 ∧ 8 + (am_ml 85 + 11) + am_lr 85 ≤ 462 from by decide +kernel) (lw_tb (am_at_mem (w := 3236) (by decide +kernel))) dl_1223 hl (Nat.zero_le _) wd (by decide) (fun o h1 H1 locs1 q1 wd1 => ?_)
  refine lv_aload_n hx hb dl_1226 rfl (lv_at hl 1 rfl) ?_
  refine lw_push (k := 1) (kk := 1) (i0 := 3) (i3 := 0) hx hb hX hbl hbA wd1.2.2 hl rfl rfl (by decide) (hin 1 (by simp)) dl_1227 dl_1228 dl_1229 dl_1230 dl_1231 ?_
  refine lw_call' (a := 155) (c0 := 86) (tl := [.inl (xs (x3 + 1).toNatClampNeg).toInt]) (r := (o.map (am_c ad)).toList) C q1 (by simp only [List.map, List.reverse, List.reverseAux, am_c, Int32.ofInt_toInt, List.append_nil]; rfl) (show am_ss 155 = false ∧ 1 = am_np 155 ∧ am_fr 155 + 1 ≤ 11 ∧ 8 + (am_ml 155 + 11) + am_lr 155 ≤ 462 from by decide +kernel) (lw_tb (am_at_mem (w := 5112) (by decide +kernel))) dl_1232 hl (lw_cat o) wd1 (by decide) (fun o2 h2 H2 locs2 q2 wd2 => ?_)
  obtain ⟨e1, ⟨x, e2, _⟩, i2⟩ := q2
  subst e1
  subst e2
  exact lv_icmp_eq (tgt := 1240) hx hb dl_1235 (by decide) (fun _ => K h2 H2 locs2 i2 wd2) (fun z => absurd rfl z)
