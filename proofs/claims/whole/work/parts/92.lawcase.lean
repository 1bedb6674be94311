/-! the law: its cases -/
theorem lw_R (v : Int32) : am_R v.toInt := ⟨by have := Int32.le_toInt v; omega, by have := Int32.toInt_lt v; omega⟩

set_option maxHeartbeats 1000000 in
theorem lc_wipe {p : Program} {l : Launch} {e : Env} {s : State} {m : MethodId} {below : List Frame} {meth : Method} {c : Code} {H : Heap} {locs : List Loc} {Q : State → Prop} {ls : Array Slot} {ad : Nat → Nat} {cA : Nat → ClassId} {D : va_G} {b L : Nat} {xs : Nat → Int32} {x3 : Int32} {k : Int} {h : am_H} (C : lq p s m #[Value.ref b] c cA D (fun q => s.heap.size ≤ q)) (hX : va_X b L xs s s.heap) (hbl : b < s.heap.size) (hl : lv_has ls 4 [(3, .int x3), (2, .ref (ad 86)), (1, .ref (ad 75)), (0, .ref b)]) (hin : ∀ q : Int32, q = 1 ∨ q = 2 ∨ q = 3 ∨ q = 4 ∨ q = 5 → vp_in (x3 + q) L) (hi : iv h k) (hk : k ≤ 600) (wd : am_wd ad cA D (fun q => s.heap.size ≤ q) s.heap h H locs) (K : ∀ h' H' locs', iv h' (k + 1) → am_wd ad cA D (fun q => s.heap.size ≤ q) s.heap h' H' locs' → W p l e room_1 s m #[Value.ref b] below meth c H' locs' 87 15269 Q (F0 m 1240 ls [])) : W p l e room_1 s m #[Value.ref b] below meth c H locs 87 15269 Q (F0 m 231 ls []) := by
  obtain ⟨hx, hb, hml, hown, hts, hK, hN, hA⟩ := id C
  have hbA : ¬ (fun q : Nat => s.heap.size ≤ q) b := Nat.not_le.mpr hbl
  refine lv_aload_n hx hb dl_231 rfl (lv_at hl 2 rfl) ?_
  refine lw_call' (a := 57) (c0 := 75) (tl := []) (r := []) (Qj := fun o h1 => am_Call 102 (.inr (.inr (some 86)) :: []) h1 (rg_post k o)) C (pr_wipe hi) (by simp only [List.map, List.reverse, List.reverseAux, am_c, Int32.ofInt_toInt]; rfl) (by decide +kernel) (lw_tb (am_at_mem (w := 2051) (by decide +kernel))) dl_232 hl (Nat.zero_le _) wd (by decide) (fun o h1 H1 locs1 q1 wd1 => ?_)
  refine lv_aload_n hx hb dl_235 rfl (lv_at hl 1 rfl) ?_
  refine lw_call' (a := 102) (c0 := 86) (tl := []) (r := (o.map (am_c ad)).toList) C q1 (by simp only [List.map, List.reverse, List.reverseAux, am_c, Int32.ofInt_toInt, List.append_nil]; rfl) (by decide +kernel) (lw_tb (am_at_mem (w := 4120) (by decide +kernel))) dl_236 hl (lw_cat o) wd1 (by decide) (fun o2 h2 H2 locs2 q2 wd2 => ?_)
  obtain ⟨e1, ⟨x, e2, _⟩, i2⟩ := q2
  subst e1
  subst e2
  exact lv_icmp_eq (tgt := 1240) hx hb dl_239 (by decide) (fun _ => K h2 H2 locs2 i2 wd2) (fun z => absurd rfl z)
set_option maxHeartbeats 1000000 in
theorem lc_fault {p : Program} {l : Launch} {e : Env} {s : State} {m : MethodId} {below : List Frame} {meth : Method} {c : Code} {H : Heap} {locs : List Loc} {Q : State → Prop} {ls : Array Slot} {ad : Nat → Nat} {cA : Nat → ClassId} {D : va_G} {b L : Nat} {xs : Nat → Int32} {x3 : Int32} {k : Int} {h : am_H} (C : lq p s m #[Value.ref b] c cA D (fun q => s.heap.size ≤ q)) (hX : va_X b L xs s s.heap) (hbl : b < s.heap.size) (hl : lv_has ls 4 [(3, .int x3), (2, .ref (ad 86)), (1, .ref (ad 75)), (0, .ref b)]) (hin : ∀ q : Int32, q = 1 ∨ q = 2 ∨ q = 3 ∨ q = 4 ∨ q = 5 → vp_in (x3 + q) L) (hi : iv h k) (hk : k ≤ 600) (wd : am_wd ad cA D (fun q => s.heap.size ≤ q) s.heap h H locs) (K : ∀ h' H' locs', iv h' (k + 1) → am_wd ad cA D (fun q => s.heap.size ≤ q) s.heap h' H' locs' → W p l e room_1 s m #[Value.ref b] below meth c H' locs' 87 15269 Q (F0 m 1240 ls [])) : W p l e room_1 s m #[Value.ref b] below meth c H locs 87 15269 Q (F0 m 244 ls []) := by
  obtain ⟨hx, hb, hml, hown, hts, hK, hN, hA⟩ := id C
  have hbA : ¬ (fun q : Nat => s.heap.size ≤ q) b := Nat.not_le.mpr hbl
  refine lv_aload_n hx hb dl_244 rfl (lv_at hl 2 rfl) ?_
  refine lw_call' (a := 58) (c0 := 75) (tl := []) (r := []) (Qj := fun o h1 => am_Call 108 (.inr (.inr (some 86)) :: []) h1 (rg_post k o)) C (pr_fault hi) (by simp only [List.map, List.reverse, List.reverseAux, am_c, Int32.ofInt_toInt]; rfl) (by decide +kernel) (lw_tb (am_at_mem (w := 2055) (by decide +kernel))) dl_245 hl (Nat.zero_le _) wd (by decide) (fun o h1 H1 locs1 q1 wd1 => ?_)
  refine lv_aload_n hx hb dl_248 rfl (lv_at hl 1 rfl) ?_
  refine lw_call' (a := 108) (c0 := 86) (tl := []) (r := (o.map (am_c ad)).toList) C q1 (by simp only [List.map, List.reverse, List.reverseAux, am_c, Int32.ofInt_toInt, List.append_nil]; rfl) (by decide +kernel) (lw_tb (am_at_mem (w := 4124) (by decide +kernel))) dl_249 hl (lw_cat o) wd1 (by decide) (fun o2 h2 H2 locs2 q2 wd2 => ?_)
  obtain ⟨e1, ⟨x, e2, _⟩, i2⟩ := q2
  subst e1
  subst e2
  exact lv_icmp_eq (tgt := 1240) hx hb dl_252 (by decide) (fun _ => K h2 H2 locs2 i2 wd2) (fun z => absurd rfl z)
