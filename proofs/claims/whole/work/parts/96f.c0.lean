/-! the constructor of class 0 (written by wip/whole/mkctor.py) -/
theorem dk_0_0 : decode cX0_init 0 = .ok (.aload_n 0, 1) := by decide +kernel
theorem dk_0_1 : decode cX0_init 1 = .ok (.invokespecial 3, 3) := by decide +kernel
theorem dk_0_4 : decode cX0_init 4 = .ok (.aload_n 0, 1) := by decide +kernel
theorem dk_0_5 : decode cX0_init 5 = .ok (.bipush 9, 2) := by decide +kernel
theorem dk_0_7 : decode cX0_init 7 = .ok (.newarray .long, 2) := by decide +kernel
theorem dk_0_9 : decode cX0_init 9 = .ok (.putfield 9, 3) := by decide +kernel
theorem dk_0_12 : decode cX0_init 12 = .ok (.aload_n 0, 1) := by decide +kernel
theorem dk_0_13 : decode cX0_init 13 = .ok (.iconst 3, 1) := by decide +kernel
theorem dk_0_14 : decode cX0_init 14 = .ok (.newarray .int, 2) := by decide +kernel
theorem dk_0_16 : decode cX0_init 16 = .ok (.putfield 15, 3) := by decide +kernel
theorem dk_0_19 : decode cX0_init 19 = .ok (.aload_n 0, 1) := by decide +kernel
theorem dk_0_20 : decode cX0_init 20 = .ok (.iconst 3, 1) := by decide +kernel
theorem dk_0_21 : decode cX0_init 21 = .ok (.newarray .int, 2) := by decide +kernel
theorem dk_0_23 : decode cX0_init 23 = .ok (.putfield 19, 3) := by decide +kernel
theorem dk_0_26 : decode cX0_init 26 = .ok (.aload_n 0, 1) := by decide +kernel
theorem dk_0_27 : decode cX0_init 27 = .ok (.iconst 0, 1) := by decide +kernel
theorem dk_0_28 : decode cX0_init 28 = .ok (.putfield 22, 3) := by decide +kernel
theorem dk_0_31 : decode cX0_init 31 = .ok (.aload_n 0, 1) := by decide +kernel
theorem dk_0_32 : decode cX0_init 32 = .ok (.aload_n 1, 1) := by decide +kernel
theorem dk_0_33 : decode cX0_init 33 = .ok (.putfield 26, 3) := by decide +kernel
theorem dk_0_36 : decode cX0_init 36 = .ok (.return_, 1) := by decide +kernel
set_option maxRecDepth 100000 in
theorem kk_0 : ([(1232, Jvm.Cond.methodLink RX0 3 objectInit),
  (1019, Jvm.Cond.instanceMethod objectInit),
  (1020, Jvm.Cond.code objectInit ⟨#[0xb1]⟩ 1 none),
  (1234, Jvm.Cond.fieldLink RX0 9 RX0 (TX0 1).2.1 (TX0 1).2.2.1),
  (2012, Jvm.Cond.arrayClass .long),
  (1235, Jvm.Cond.fieldLink RX0 15 RX0 (TX0 2).2.1 (TX0 2).2.2.1),
  (1080, Jvm.Cond.arrayClass .int),
  (1237, Jvm.Cond.fieldLink RX0 19 RX0 (TX0 3).2.1 (TX0 3).2.2.1),
  (1239, Jvm.Cond.fieldLink RX0 22 RX0 (TX0 4).2.1 (TX0 4).2.2.1),
  (1233, Jvm.Cond.fieldLink RX0 26 RX0 (TX0 0).2.1 (TX0 0).2.2.1)] : List (Nat × Jvm.Cond)).all (fun q => am_at q.1 q.2) = true := by decide +kernel
def sh_0 (b h1 : Nat) (w : va_W) (t : List (ClassId × FieldType)) : Prop := ∃ (q1 : Nat) (c1 : ClassId) (q2 : Nat) (c2 : ClassId) (q3 : Nat) (c3 : ClassId), w = [(b, .inr (0, [.ref h1, .ref q1, .ref q2, .ref q3, .int 0])), (q1, kL c1 9), (q2, kI c2 3), (q3, kI c3 3)] ∧ t = [(c1, .long), (c2, .int), (c3, .int)]
set_option maxHeartbeats 4000000 in
set_option maxRecDepth 100000 in
theorem kc_0 (l : Launch) (D : va_G) (b h1 : Nat) : kM l yX0_init cX0_init 2 { frames := 1, cells := 3, slots := 15, locals := 12 } D [.ref b, .ref h1] [(b, .inr (0, [.null, .null, .null, .null, .int 0]))] (sh_0 b h1) := by
  refine kM_of (by decide +kernel) rfl (Nat.le_of_ble_eq_true rfl) ?_
  intro p e s m args below meth c A ls C hin hr hlk K hl
  have C : kx p s m args c cX0_init 2 RX0 A := C
  have hl : lv_has ls 2 [(0, .ref b), (1, .ref h1)] := hl
  refine lv_aload_n C.1 C.2.1 dk_0_0 rfl (lv_at hl 0 rfl) ?_
  refine ks_obj C hl (kk_mem kk_0 (i := 0) rfl) ⟨(kk_mem kk_0 (i := 1) rfl), (kk_mem kk_0 (i := 2) rfl)⟩ dk_0_1 ⟨Nat.le_of_ble_eq_true rfl, Nat.le_of_ble_eq_true rfl⟩ ?_
  refine lv_aload_n C.1 C.2.1 dk_0_4 rfl (lv_at hl 0 rfl) ?_
  refine lv_bipush (v := 9) C.1 C.2.1 dk_0_5 (by decide) ?_
  refine ks_na (a0 := (9, .inr (.inl (fun _ => 0)))) (N' := 9) (k1 := 1) (n1 := 9) (T := TX0) (N := 5) C hin K 0 (fun _ => rfl) rfl 1 .long rfl ⟨by decide, rfl, rfl, tyX0_ok 1 (by decide)⟩ (Nat.le_of_ble_eq_true rfl) (kk_mem kk_0 (i := 3) rfl) (kk_mem kk_0 (i := 4) rfl) (fun _ => rfl) (by decide) (by decide) (by decide) ⟨rfl, Nat.le_of_ble_eq_true rfl⟩ ⟨rfl, Nat.le_of_ble_eq_true rfl⟩ dk_0_7 dk_0_9 (fun q1 c1 H locs K => ?_)
  have K : kw D A [(c1, .long)] [(b, .inr (0, [.null, .ref q1, .null, .null, .int 0])), (q1, kL c1 9)] s H locs := K
  refine lv_aload_n C.1 C.2.1 dk_0_12 rfl (lv_at hl 0 rfl) ?_
  refine lv_iconst (v := 3) C.1 C.2.1 dk_0_13 (by decide) ?_
  refine ks_na (a0 := (3, .inl (fun _ => 0))) (N' := 3) (k1 := 2) (n1 := 12) (T := TX0) (N := 5) C hin K 0 (fun _ => rfl) rfl 2 .int rfl ⟨by decide, rfl, rfl, tyX0_ok 2 (by decide)⟩ (Nat.le_of_ble_eq_true rfl) (kk_mem kk_0 (i := 5) rfl) (kk_mem kk_0 (i := 6) rfl) (fun _ => rfl) (by decide) (by decide) (by decide) ⟨rfl, Nat.le_of_ble_eq_true rfl⟩ ⟨rfl, Nat.le_of_ble_eq_true rfl⟩ dk_0_14 dk_0_16 (fun q2 c2 H locs K => ?_)
  have K : kw D A [(c1, .long), (c2, .int)] [(b, .inr (0, [.null, .ref q1, .ref q2, .null, .int 0])), (q1, kL c1 9), (q2, kI c2 3)] s H locs := K
  refine lv_aload_n C.1 C.2.1 dk_0_19 rfl (lv_at hl 0 rfl) ?_
  refine lv_iconst (v := 3) C.1 C.2.1 dk_0_20 (by decide) ?_
  refine ks_na (a0 := (3, .inl (fun _ => 0))) (N' := 3) (k1 := 3) (n1 := 15) (T := TX0) (N := 5) C hin K 0 (fun _ => rfl) rfl 3 .int rfl ⟨by decide, rfl, rfl, tyX0_ok 3 (by decide)⟩ (Nat.le_of_ble_eq_true rfl) (kk_mem kk_0 (i := 7) rfl) (kk_mem kk_0 (i := 6) rfl) (fun _ => rfl) (by decide) (by decide) (by decide) ⟨rfl, Nat.le_of_ble_eq_true rfl⟩ ⟨rfl, Nat.le_of_ble_eq_true rfl⟩ dk_0_21 dk_0_23 (fun q3 c3 H locs K => ?_)
  have K : kw D A [(c1, .long), (c2, .int), (c3, .int)] [(b, .inr (0, [.null, .ref q1, .ref q2, .ref q3, .int 0])), (q1, kL c1 9), (q2, kI c2 3), (q3, kI c3 3)] s H locs := K
  refine lv_aload_n C.1 C.2.1 dk_0_26 rfl (lv_at hl 0 rfl) ?_
  refine lv_iconst (v := 0) C.1 C.2.1 dk_0_27 (by decide) ?_
  refine ks_put (v := .int 0) (T := TX0) (N := 5) C K 0 rfl rfl 4 .int ⟨by decide, rfl, rfl, tyX0_ok 4 (by decide)⟩ ⟨rfl, rfl⟩ (Nat.le_of_ble_eq_true rfl) (kk_mem kk_0 (i := 8) rfl) dk_0_28 (fun H locs K => ?_)
  have K : kw D A [(c1, .long), (c2, .int), (c3, .int)] [(b, .inr (0, [.null, .ref q1, .ref q2, .ref q3, .int 0])), (q1, kL c1 9), (q2, kI c2 3), (q3, kI c3 3)] s H locs := K
  refine lv_aload_n C.1 C.2.1 dk_0_31 rfl (lv_at hl 0 rfl) ?_
  refine lv_aload_n C.1 C.2.1 dk_0_32 rfl (lv_at hl 1 rfl) ?_
  refine ks_putF (v := .ref h1) (T := TX0) (N := 5) C hin K 0 rfl rfl 0 (.object "ThreeRings$Plan") ⟨by decide, rfl, rfl, tyX0_ok 0 (by decide)⟩ ⟨rfl, rfl⟩ (Nat.le_of_ble_eq_true rfl) (kk_mem kk_0 (i := 9) rfl) dk_0_33 (fun H locs K => ?_)
  have K : kw D A [(c1, .long), (c2, .int), (c3, .int)] [(b, .inr (0, [.ref h1, .ref q1, .ref q2, .ref q3, .int 0])), (q1, kL c1 9), (q2, kI c2 3), (q3, kI c3 3)] s H locs := K
  exact ks_ret C hr hlk K ⟨q1, c1, q2, c2, q3, c3, rfl, rfl⟩ dk_0_36
