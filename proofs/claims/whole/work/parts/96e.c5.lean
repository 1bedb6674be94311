/-! the constructor of class 5 (written by wip/whole/mkctor.py) -/
theorem dk_5_0 : decode cX5_init 0 = .ok (.aload_n 0, 1) := by decide +kernel
theorem dk_5_1 : decode cX5_init 1 = .ok (.invokespecial 3, 3) := by decide +kernel
theorem dk_5_4 : decode cX5_init 4 = .ok (.aload_n 0, 1) := by decide +kernel
theorem dk_5_5 : decode cX5_init 5 = .ok (.bipush 8, 2) := by decide +kernel
theorem dk_5_7 : decode cX5_init 7 = .ok (.newarray .int, 2) := by decide +kernel
theorem dk_5_9 : decode cX5_init 9 = .ok (.putfield 9, 3) := by decide +kernel
theorem dk_5_12 : decode cX5_init 12 = .ok (.aload_n 0, 1) := by decide +kernel
theorem dk_5_13 : decode cX5_init 13 = .ok (.bipush 64, 2) := by decide +kernel
theorem dk_5_15 : decode cX5_init 15 = .ok (.newarray .int, 2) := by decide +kernel
theorem dk_5_17 : decode cX5_init 17 = .ok (.putfield 15, 3) := by decide +kernel
theorem dk_5_20 : decode cX5_init 20 = .ok (.aload_n 0, 1) := by decide +kernel
theorem dk_5_21 : decode cX5_init 21 = .ok (.sipush 2048, 3) := by decide +kernel
theorem dk_5_24 : decode cX5_init 24 = .ok (.newarray .int, 2) := by decide +kernel
theorem dk_5_26 : decode cX5_init 26 = .ok (.putfield 18, 3) := by decide +kernel
theorem dk_5_29 : decode cX5_init 29 = .ok (.aload_n 0, 1) := by decide +kernel
theorem dk_5_30 : decode cX5_init 30 = .ok (.sipush 256, 3) := by decide +kernel
theorem dk_5_33 : decode cX5_init 33 = .ok (.newarray .int, 2) := by decide +kernel
theorem dk_5_35 : decode cX5_init 35 = .ok (.putfield 21, 3) := by decide +kernel
theorem dk_5_38 : decode cX5_init 38 = .ok (.aload_n 0, 1) := by decide +kernel
theorem dk_5_39 : decode cX5_init 39 = .ok (.iconst 0, 1) := by decide +kernel
theorem dk_5_40 : decode cX5_init 40 = .ok (.putfield 24, 3) := by decide +kernel
theorem dk_5_43 : decode cX5_init 43 = .ok (.aload_n 0, 1) := by decide +kernel
theorem dk_5_44 : decode cX5_init 44 = .ok (.aload_n 1, 1) := by decide +kernel
theorem dk_5_45 : decode cX5_init 45 = .ok (.putfield 28, 3) := by decide +kernel
theorem dk_5_48 : decode cX5_init 48 = .ok (.aload_n 0, 1) := by decide +kernel
theorem dk_5_49 : decode cX5_init 49 = .ok (.aload_n 2, 1) := by decide +kernel
theorem dk_5_50 : decode cX5_init 50 = .ok (.putfield 32, 3) := by decide +kernel
theorem dk_5_53 : decode cX5_init 53 = .ok (.return_, 1) := by decide +kernel
set_option maxRecDepth 100000 in
theorem kk_5 : ([(1203, Jvm.Cond.methodLink RX5 3 objectInit),
  (1019, Jvm.Cond.instanceMethod objectInit),
  (1020, Jvm.Cond.code objectInit ⟨#[0xb1]⟩ 1 none),
  (1206, Jvm.Cond.fieldLink RX5 9 RX5 (TX5 2).2.1 (TX5 2).2.2.1),
  (1080, Jvm.Cond.arrayClass .int),
  (1208, Jvm.Cond.fieldLink RX5 15 RX5 (TX5 3).2.1 (TX5 3).2.2.1),
  (1209, Jvm.Cond.fieldLink RX5 18 RX5 (TX5 4).2.1 (TX5 4).2.2.1),
  (1210, Jvm.Cond.fieldLink RX5 21 RX5 (TX5 5).2.1 (TX5 5).2.2.1),
  (1211, Jvm.Cond.fieldLink RX5 24 RX5 (TX5 6).2.1 (TX5 6).2.2.1),
  (1204, Jvm.Cond.fieldLink RX5 28 RX5 (TX5 0).2.1 (TX5 0).2.2.1),
  (1205, Jvm.Cond.fieldLink RX5 32 RX5 (TX5 1).2.1 (TX5 1).2.2.1)] : List (Nat × Jvm.Cond)).all (fun q => am_at q.1 q.2) = true := by decide +kernel
def sh_5 (b h1 h2 : Nat) (w : va_W) (t : List (ClassId × FieldType)) : Prop := ∃ (q1 : Nat) (c1 : ClassId) (q2 : Nat) (c2 : ClassId) (q3 : Nat) (c3 : ClassId) (q4 : Nat) (c4 : ClassId), w = [(b, .inr (5, [.ref h1, .ref h2, .ref q1, .ref q2, .ref q3, .ref q4, .int 0])), (q1, kI c1 8), (q2, kI c2 64), (q3, kI c3 2048), (q4, kI c4 256)] ∧ t = [(c1, .int), (c2, .int), (c3, .int), (c4, .int)]
set_option maxHeartbeats 4000000 in
set_option maxRecDepth 100000 in
theorem kc_5 (l : Launch) (D : va_G) (b h1 h2 : Nat) : kM l yX5_init cX5_init 3 { frames := 1, cells := 4, slots := 2376, locals := 12 } D [.ref b, .ref h1, .ref h2] [(b, .inr (5, [.null, .null, .null, .null, .null, .null, .int 0]))] (sh_5 b h1 h2) := by
  refine kM_of (by decide +kernel) rfl (Nat.le_of_ble_eq_true rfl) ?_
  intro p e s m args below meth c A ls C hin hr hlk K hl
  have C : kx p s m args c cX5_init 3 RX5 A := C
  have hl : lv_has ls 3 [(0, .ref b), (1, .ref h1), (2, .ref h2)] := hl
  refine lv_aload_n C.1 C.2.1 dk_5_0 rfl (lv_at hl 0 rfl) ?_
  refine ks_obj C hl (kk_mem kk_5 (i := 0) rfl) ⟨(kk_mem kk_5 (i := 1) rfl), (kk_mem kk_5 (i := 2) rfl)⟩ dk_5_1 ⟨Nat.le_of_ble_eq_true rfl, Nat.le_of_ble_eq_true rfl⟩ ?_
  refine lv_aload_n C.1 C.2.1 dk_5_4 rfl (lv_at hl 0 rfl) ?_
  refine lv_bipush (v := 8) C.1 C.2.1 dk_5_5 (by decide) ?_
  refine ks_na (a0 := (8, .inl (fun _ => 0))) (N' := 8) (k1 := 1) (n1 := 8) (T := TX5) (N := 7) C hin K 0 (fun _ => rfl) rfl 2 .int rfl ⟨by decide, rfl, rfl, tyX5_ok 2 (by decide)⟩ (Nat.le_of_ble_eq_true rfl) (kk_mem kk_5 (i := 3) rfl) (kk_mem kk_5 (i := 4) rfl) (fun _ => rfl) (by decide) (by decide) (by decide) ⟨rfl, Nat.le_of_ble_eq_true rfl⟩ ⟨rfl, Nat.le_of_ble_eq_true rfl⟩ dk_5_7 dk_5_9 (fun q1 c1 H locs K => ?_)
  have K : kw D A [(c1, .int)] [(b, .inr (5, [.null, .null, .ref q1, .null, .null, .null, .int 0])), (q1, kI c1 8)] s H locs := K
  refine lv_aload_n C.1 C.2.1 dk_5_12 rfl (lv_at hl 0 rfl) ?_
  refine lv_bipush (v := 64) C.1 C.2.1 dk_5_13 (by decide) ?_
  refine ks_na (a0 := (64, .inl (fun _ => 0))) (N' := 64) (k1 := 2) (n1 := 72) (T := TX5) (N := 7) C hin K 0 (fun _ => rfl) rfl 3 .int rfl ⟨by decide, rfl, rfl, tyX5_ok 3 (by decide)⟩ (Nat.le_of_ble_eq_true rfl) (kk_mem kk_5 (i := 5) rfl) (kk_mem kk_5 (i := 4) rfl) (fun _ => rfl) (by decide) (by decide) (by decide) ⟨rfl, Nat.le_of_ble_eq_true rfl⟩ ⟨rfl, Nat.le_of_ble_eq_true rfl⟩ dk_5_15 dk_5_17 (fun q2 c2 H locs K => ?_)
  have K : kw D A [(c1, .int), (c2, .int)] [(b, .inr (5, [.null, .null, .ref q1, .ref q2, .null, .null, .int 0])), (q1, kI c1 8), (q2, kI c2 64)] s H locs := K
  refine lv_aload_n C.1 C.2.1 dk_5_20 rfl (lv_at hl 0 rfl) ?_
  refine lv_sipush (v := 2048) C.1 C.2.1 dk_5_21 (by decide) ?_
  refine ks_na (a0 := (2048, .inl (fun _ => 0))) (N' := 2048) (k1 := 3) (n1 := 2120) (T := TX5) (N := 7) C hin K 0 (fun _ => rfl) rfl 4 .int rfl ⟨by decide, rfl, rfl, tyX5_ok 4 (by decide)⟩ (Nat.le_of_ble_eq_true rfl) (kk_mem kk_5 (i := 6) rfl) (kk_mem kk_5 (i := 4) rfl) (fun _ => rfl) (by decide) (by decide) (by decide) ⟨rfl, Nat.le_of_ble_eq_true rfl⟩ ⟨rfl, Nat.le_of_ble_eq_true rfl⟩ dk_5_24 dk_5_26 (fun q3 c3 H locs K => ?_)
  have K : kw D A [(c1, .int), (c2, .int), (c3, .int)] [(b, .inr (5, [.null, .null, .ref q1, .ref q2, .ref q3, .null, .int 0])), (q1, kI c1 8), (q2, kI c2 64), (q3, kI c3 2048)] s H locs := K
  refine lv_aload_n C.1 C.2.1 dk_5_29 rfl (lv_at hl 0 rfl) ?_
  refine lv_sipush (v := 256) C.1 C.2.1 dk_5_30 (by decide) ?_
  refine ks_na (a0 := (256, .inl (fun _ => 0))) (N' := 256) (k1 := 4) (n1 := 2376) (T := TX5) (N := 7) C hin K 0 (fun _ => rfl) rfl 5 .int rfl ⟨by decide, rfl, rfl, tyX5_ok 5 (by decide)⟩ (Nat.le_of_ble_eq_true rfl) (kk_mem kk_5 (i := 7) rfl) (kk_mem kk_5 (i := 4) rfl) (fun _ => rfl) (by decide) (by decide) (by decide) ⟨rfl, Nat.le_of_ble_eq_true rfl⟩ ⟨rfl, Nat.le_of_ble_eq_true rfl⟩ dk_5_33 dk_5_35 (fun q4 c4 H locs K => ?_)
  have K : kw D A [(c1, .int), (c2, .int), (c3, .int), (c4, .int)] [(b, .inr (5, [.null, .null, .ref q1, .ref q2, .ref q3, .ref q4, .int 0])), (q1, kI c1 8), (q2, kI c2 64), (q3, kI c3 2048), (q4, kI c4 256)] s H locs := K
  refine lv_aload_n C.1 C.2.1 dk_5_38 rfl (lv_at hl 0 rfl) ?_
  refine lv_iconst (v := 0) C.1 C.2.1 dk_5_39 (by decide) ?_
  refine ks_put (v := .int 0) (T := TX5) (N := 7) C K 0 rfl rfl 6 .int ⟨by decide, rfl, rfl, tyX5_ok 6 (by decide)⟩ ⟨rfl, rfl⟩ (Nat.le_of_ble_eq_true rfl) (kk_mem kk_5 (i := 8) rfl) dk_5_40 (fun H locs K => ?_)
  have K : kw D A [(c1, .int), (c2, .int), (c3, .int), (c4, .int)] [(b, .inr (5, [.null, .null, .ref q1, .ref q2, .ref q3, .ref q4, .int 0])), (q1, kI c1 8), (q2, kI c2 64), (q3, kI c3 2048), (q4, kI c4 256)] s H locs := K
  refine lv_aload_n C.1 C.2.1 dk_5_43 rfl (lv_at hl 0 rfl) ?_
  refine lv_aload_n C.1 C.2.1 dk_5_44 rfl (lv_at hl 1 rfl) ?_
  refine ks_putF (v := .ref h1) (T := TX5) (N := 7) C hin K 0 rfl rfl 0 (.object "ThreeRings$Plan") ⟨by decide, rfl, rfl, tyX5_ok 0 (by decide)⟩ ⟨rfl, rfl⟩ (Nat.le_of_ble_eq_true rfl) (kk_mem kk_5 (i := 9) rfl) dk_5_45 (fun H locs K => ?_)
  have K : kw D A [(c1, .int), (c2, .int), (c3, .int), (c4, .int)] [(b, .inr (5, [.ref h1, .null, .ref q1, .ref q2, .ref q3, .ref q4, .int 0])), (q1, kI c1 8), (q2, kI c2 64), (q3, kI c3 2048), (q4, kI c4 256)] s H locs := K
  refine lv_aload_n C.1 C.2.1 dk_5_48 rfl (lv_at hl 0 rfl) ?_
  refine lv_aload_n C.1 C.2.1 dk_5_49 rfl (lv_at hl 2 rfl) ?_
  refine ks_putF (v := .ref h2) (T := TX5) (N := 7) C hin K 0 rfl rfl 1 (.object "ThreeRings$Timetable") ⟨by decide, rfl, rfl, tyX5_ok 1 (by decide)⟩ ⟨rfl, rfl⟩ (Nat.le_of_ble_eq_true rfl) (kk_mem kk_5 (i := 10) rfl) dk_5_50 (fun H locs K => ?_)
  have K : kw D A [(c1, .int), (c2, .int), (c3, .int), (c4, .int)] [(b, .inr (5, [.ref h1, .ref h2, .ref q1, .ref q2, .ref q3, .ref q4, .int 0])), (q1, kI c1 8), (q2, kI c2 64), (q3, kI c3 2048), (q4, kI c4 256)] s H locs := K
  exact ks_ret C hr hlk K ⟨q1, c1, q2, c2, q3, c3, q4, c4, rfl, rfl⟩ dk_5_53
