/-! the law's loop -/
theorem nI_sub6 {L : Nat} (h : L ≤ 3072) : (nI L - 6).toInt = (L : Int) - 6 := by
  have e : nI L - 6 = Int32.ofInt ((L : Int) - 6) := by
    rw [Int32.ofInt_sub, am_cast]
    rfl
  rw [e, am_toI ⟨by omega, by omega⟩]
theorem nI_addq {i : Nat} (q : Nat) : nI i + nI q = nI (i + q) := (Int32.ofNat_add i q).symm
theorem iv_more {h : am_H} {k : Int} (hi : iv h k) : iv h (k + 1) := by
  obtain ⟨a, b, c, d, e, f, g, i, j⟩ := hi
  exact ⟨a, b, c, d, e, f, g, i, iv_w_up j⟩
set_option maxHeartbeats 4000000 in
set_option maxRecDepth 100000 in
theorem law_loop {p : Program} {l : Launch} {e : Env} {s : State} {m : MethodId} {below : List Frame} {meth : Method} {c : Code} {ad : Nat → Nat} {cA : Nat → ClassId} {D : va_G} {b L : Nat} {xs : Nat → Int32} (hL : L ≤ 3072) (C : lq p s m #[Value.ref b] c cA D (fun q => s.heap.size ≤ q)) (hX : va_X b L xs s s.heap) (hbl : b < s.heap.size) (hr : meth.sig.returnType = ret) (hlocks : meth.locks = false) :
    ∀ (n k : Nat) (h : am_H) (H : Heap) (locs : List Loc) (ls : Array Slot), L ≤ 6 * k + 6 * n → 6 * k ≤ L → iv h (k : Int) → am_wd ad cA D (fun q => s.heap.size ≤ q) s.heap h H locs → lv_has ls 4 [(3, .int (nI (6 * k))), (2, .ref (ad 86)), (1, .ref (ad 75)), (0, .ref b)] → W p l e room_1 s m #[Value.ref b] below meth c H locs 87 15269 (lw_Z below #[Value.ref b] s) (F0 m 18 ls []) := by
  obtain ⟨hx, hb, hml, hown, hts, hK, hN, hA⟩ := id C
  have hbA : ¬ (fun q : Nat => s.heap.size ≤ q) b := Nat.not_le.mpr hbl
  intro n
  induction n with
  | zero =>
    intro k h H locs ls h1 h2 hi wd hl
    refine lv_iload_n hx hb dl_18 rfl (lv_at hl 0 rfl) ?_
    refine lv_aload_n hx hb dl_19 rfl (lv_at hl 3 rfl) ?_
    refine va_slen hx hb hX hbl hbA wd.2.2 dl_20 ?_
    refine lv_bipush (v := 6) hx hb dl_21 (by decide) ?_
    refine lv_isub hx hb dl_23 ?_
    refine lv_icmp_gt (tgt := 1246) hx hb dl_24 (by decide) (fun z => ?_) (fun z => ?_)
    · refine lv_iconst (v := 1) hx hb dl_1246 (by decide) ?_
      refine va_forget (fun q hq => wd.2.2.2.2 q hq) ?_
      exact lw_ret hx hb hr hlocks dl_1247
    · exfalso
      apply z
      rw [Int32.lt_iff_toInt_lt, show Int32.ofNat L = nI L from rfl, nI_sub6 hL, nI_toInt (by omega)]
      omega
  | succ n ih =>
    intro k h H locs ls h1 h2 hi wd hl
    refine lv_iload_n hx hb dl_18 rfl (lv_at hl 0 rfl) ?_
    refine lv_aload_n hx hb dl_19 rfl (lv_at hl 3 rfl) ?_
    refine va_slen hx hb hX hbl hbA wd.2.2 dl_20 ?_
    refine lv_bipush (v := 6) hx hb dl_21 (by decide) ?_
    refine lv_isub hx hb dl_23 ?_
    refine lv_icmp_gt (tgt := 1246) hx hb dl_24 (by decide) (fun z => ?_) (fun z => ?_)
    · refine lv_iconst (v := 1) hx hb dl_1246 (by decide) ?_
      refine va_forget (fun q hq => wd.2.2.2.2 q hq) ?_
      exact lw_ret hx hb hr hlocks dl_1247
    · have hlt : 6 * k + 6 ≤ L := by
        rw [Int32.lt_iff_toInt_lt, show Int32.ofNat L = nI L from rfl, nI_sub6 hL, nI_toInt (by omega)] at z
        omega
      have hk : (k : Int) ≤ 600 := by omega
      have hin : ∀ q : Int32, q = 1 ∨ q = 2 ∨ q = 3 ∨ q = 4 ∨ q = 5 → vp_in (nI (6 * k) + q) L := by
        intro q hq
        rcases hq with e | e | e | e | e <;> subst e
        · rw [show (1 : Int32) = nI 1 from rfl, nI_addq]; exact vp_in_nI (by omega) (by omega)
        · rw [show (2 : Int32) = nI 2 from rfl, nI_addq]; exact vp_in_nI (by omega) (by omega)
        · rw [show (3 : Int32) = nI 3 from rfl, nI_addq]; exact vp_in_nI (by omega) (by omega)
        · rw [show (4 : Int32) = nI 4 from rfl, nI_addq]; exact vp_in_nI (by omega) (by omega)
        · rw [show (5 : Int32) = nI 5 from rfl, nI_addq]; exact vp_in_nI (by omega) (by omega)
      have go0 : ∀ {h' : am_H} {H' : Heap} {locs' : List Loc}, iv h' ((k : Int) + 1) → am_wd ad cA D (fun q => s.heap.size ≤ q) s.heap h' H' locs' → W p l e room_1 s m #[Value.ref b] below meth c H' locs' 87 15269 (lw_Z below #[Value.ref b] s) (F0 m 1240 ls []) := by
        intro h' H' locs' i' wd'
        refine lv_iinc (v := nI (6 * (k + 1))) (lv' := [(3, .int (nI (6 * (k + 1)))), (2, .ref (ad 86)), (1, .ref (ad 75)), (0, .ref b)]) hx hb dl_1240 hl (k := 0) rfl (by rw [show Int32.ofInt 6 = nI 6 from rfl, nI_addq]; rfl) (by decide) rfl (fun ls2 hl2 => ?_)
        refine lv_goto (tgt := 18) hx hb dl_1243 (by decide) ?_
        exact ih (k + 1) h' H' locs' ls2 (by omega) (by omega) (by rw [show ((k + 1 : Nat) : Int) = (k : Int) + 1 by omega]; exact i') wd' hl2
      have go := fun h' H' locs' i' wd' => go0 (h' := h') (H' := H') (locs' := locs') i' wd'
      refine lv_aload_n hx hb dl_27 rfl (lv_at hl 3 rfl) ?_
      refine lv_iload_n hx hb dl_28 rfl (lv_at hl 0 rfl) ?_
      refine va_sld hx hb hX hbl hbA wd.2.2 (vp_in_nI (by omega) (by omega)) dl_29 ?_
      refine lv_bipush (v := 31) hx hb dl_30 (by decide) ?_
      refine lv_iand hx hb dl_32 ?_
      obtain ⟨j, hj, ej⟩ := pk_andE (xs (nI (6 * k)).toNatClampNeg) (m := 31) 5 (by decide)
      rw [ej]
      have hj32 : j < 32 := hj
      have cs : j = 0 ∨ j = 1 ∨ j = 2 ∨ j = 3 ∨ j = 4 ∨ j = 5 ∨ j = 6 ∨ j = 7 ∨ j = 8 ∨ j = 9 ∨ j = 10 ∨ j = 11 ∨ j = 12 ∨ j = 13 ∨ j = 14 ∨ j = 15 ∨ j = 16 ∨ j = 17 ∨ j = 18 ∨ j = 19 ∨ j = 20 ∨ j = 21 ∨ j = 22 ∨ j = 23 ∨ j = 24 ∨ j = 25 ∨ j = 26 ∨ j = 27 ∨ j = 28 ∨ j = 29 ∨ j = 30 ∨ j = 31 := by omega
      rcases cs with rfl | rfl | rfl | rfl | rfl | rfl | rfl | rfl | rfl | rfl | rfl | rfl | rfl | rfl | rfl | rfl | rfl | rfl | rfl | rfl | rfl | rfl | rfl | rfl | rfl | rfl | rfl | rfl | rfl | rfl | rfl | rfl
      · exact lv_tableIn (tgt := 168) hx hb dl_33 (by decide) (by decide) rfl (by decide) (lc_write C hX hbl hl hin hi hk wd go)
      · exact lv_tableIn (tgt := 231) hx hb dl_33 (by decide) (by decide) rfl (by decide) (lc_wipe C hX hbl hl hin hi hk wd go)
      · exact lv_tableIn (tgt := 244) hx hb dl_33 (by decide) (by decide) rfl (by decide) (lc_fault C hX hbl hl hin hi hk wd go)
      · exact lv_tableIn (tgt := 257) hx hb dl_33 (by decide) (by decide) rfl (by decide) (lc_city C hX hbl hl hin hi hk wd go)
      · exact lv_tableIn (tgt := 270) hx hb dl_33 (by decide) (by decide) rfl (by decide) (lc_about C hX hbl hl hin hi hk wd go)
      · exact lv_tableIn (tgt := 293) hx hb dl_33 (by decide) (by decide) rfl (by decide) (lc_gate C hX hbl hl hin hi hk wd go)
      · exact lv_tableIn (tgt := 326) hx hb dl_33 (by decide) (by decide) rfl (by decide) (lc_pace C hX hbl hl hin hi hk wd go)
      · exact lv_tableIn (tgt := 349) hx hb dl_33 (by decide) (by decide) rfl (by decide) (lc_turn C hX hbl hl hin hi hk wd go)
      · exact lv_tableIn (tgt := 382) hx hb dl_33 (by decide) (by decide) rfl (by decide) (lc_brake C hX hbl hl hin hi hk wd go)
      · exact lv_tableIn (tgt := 425) hx hb dl_33 (by decide) (by decide) rfl (by decide) (lc_dry C hX hbl hl hin hi hk wd go)
      · exact lv_tableIn (tgt := 448) hx hb dl_33 (by decide) (by decide) rfl (by decide) (lc_where C hX hbl hl hin hi hk wd go)
      · exact lv_tableIn (tgt := 481) hx hb dl_33 (by decide) (by decide) rfl (by decide) (lc_open C hX hbl hl hin hi hk wd go)
      · exact lv_tableIn (tgt := 524) hx hb dl_33 (by decide) (by decide) rfl (by decide) (lc_next C hX hbl hl hin hi hk wd go)
      · exact lv_tableIn (tgt := 567) hx hb dl_33 (by decide) (by decide) rfl (by decide) (lc_stays C hX hbl hl hin hi hk wd go)
      · exact lv_tableIn (tgt := 610) hx hb dl_33 (by decide) (by decide) rfl (by decide) (lc_share C hX hbl hl hin hi hk wd go)
      · exact lv_tableIn (tgt := 669) hx hb dl_33 (by decide) (by decide) rfl (by decide) (lc_meet C hX hbl hl hin hi hk wd go)
      · exact lv_tableIn (tgt := 702) hx hb dl_33 (by decide) (by decide) rfl (by decide) (lc_soonest C hX hbl hl hin hi hk wd go)
      · exact lv_tableIn (tgt := 745) hx hb dl_33 (by decide) (by decide) rfl (by decide) (lc_step C hX hbl hl hin hi hk wd go)
      · exact lv_tableIn (tgt := 808) hx hb dl_33 (by decide) (by decide) rfl (by decide) (lc_latest C hX hbl hl hin hi hk wd go)
      · exact lv_tableIn (tgt := 851) hx hb dl_33 (by decide) (by decide) rfl (by decide) (lc_round C hX hbl hl hin hi hk wd go)
      · exact lv_tableIn (tgt := 894) hx hb dl_33 (by decide) (by decide) rfl (by decide) (lc_bestBrake C hX hbl hl hin hi hk wd go)
      · exact lv_tableIn (tgt := 957) hx hb dl_33 (by decide) (by decide) rfl (by decide) (lc_harm C hX hbl hl hin hi hk wd go)
      · exact lv_tableIn (tgt := 1020) hx hb dl_33 (by decide) (by decide) rfl (by decide) (lc_worst C hX hbl hl hin hi hk wd go)
      · exact lv_tableIn (tgt := 1053) hx hb dl_33 (by decide) (by decide) rfl (by decide) (lc_pumps C hX hbl hl hin hi hk wd go)
      · exact lv_tableIn (tgt := 1076) hx hb dl_33 (by decide) (by decide) rfl (by decide) (lc_see C hX hbl hl hin hi hk wd go)
      · exact lv_tableIn (tgt := 1119) hx hb dl_33 (by decide) (by decide) rfl (by decide) (lc_unsee C hX hbl hl hin hi hk wd go)
      · exact lv_tableIn (tgt := 1132) hx hb dl_33 (by decide) (by decide) rfl (by decide) (lc_rows C hX hbl hl hin hi hk wd go)
      · exact lv_tableIn (tgt := 1145) hx hb dl_33 (by decide) (by decide) rfl (by decide) (lc_likely C hX hbl hl hin hi hk wd go)
      · exact lv_tableIn (tgt := 1194) hx hb dl_33 (by decide) (by decide) rfl (by decide) (lc_keep C hX hbl hl hin hi hk wd go)
      · exact lv_tableIn (tgt := 1217) hx hb dl_33 (by decide) (by decide) rfl (by decide) (lc_again C hX hbl hl hin hi hk wd go)
      · exact lv_tableOut (tgt := 1240) hx hb dl_33 (by decide) (by decide) (go0 (iv_more hi) wd)
      · exact lv_tableOut (tgt := 1240) hx hb dl_33 (by decide) (by decide) (go0 (iv_more hi) wd)
