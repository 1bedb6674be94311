/-! the constructor of class 3 (written by wip/whole/mkctor.py) -/
theorem dk_3_0 : decode cX3_init 0 = .ok (.aload_n 0, 1) := by decide +kernel
theorem dk_3_1 : decode cX3_init 1 = .ok (.invokespecial 3, 3) := by decide +kernel
theorem dk_3_4 : decode cX3_init 4 = .ok (.aload_n 0, 1) := by decide +kernel
theorem dk_3_5 : decode cX3_init 5 = .ok (.new 9, 3) := by decide +kernel
theorem dk_3_8 : decode cX3_init 8 = .ok (.dup, 1) := by decide +kernel
theorem dk_3_9 : decode cX3_init 9 = .ok (.invokespecial 11, 3) := by decide +kernel
theorem dk_3_12 : decode cX3_init 12 = .ok (.putfield 12, 3) := by decide +kernel
theorem dk_3_15 : decode cX3_init 15 = .ok (.aload_n 0, 1) := by decide +kernel
theorem dk_3_16 : decode cX3_init 16 = .ok (.iconst 0, 1) := by decide +kernel
theorem dk_3_17 : decode cX3_init 17 = .ok (.putfield 18, 3) := by decide +kernel
theorem dk_3_20 : decode cX3_init 20 = .ok (.aload_n 0, 1) := by decide +kernel
theorem dk_3_21 : decode cX3_init 21 = .ok (.iconst 0, 1) := by decide +kernel
theorem dk_3_22 : decode cX3_init 22 = .ok (.putfield 22, 3) := by decide +kernel
theorem dk_3_25 : decode cX3_init 25 = .ok (.aload_n 0, 1) := by decide +kernel
theorem dk_3_26 : decode cX3_init 26 = .ok (.iconst 0, 1) := by decide +kernel
theorem dk_3_27 : decode cX3_init 27 = .ok (.putfield 25, 3) := by decide +kernel
theorem dk_3_30 : decode cX3_init 30 = .ok (.aload_n 0, 1) := by decide +kernel
theorem dk_3_31 : decode cX3_init 31 = .ok (.iconst 0, 1) := by decide +kernel
theorem dk_3_32 : decode cX3_init 32 = .ok (.putfield 29, 3) := by decide +kernel
theorem dk_3_35 : decode cX3_init 35 = .ok (.aload_n 0, 1) := by decide +kernel
theorem dk_3_36 : decode cX3_init 36 = .ok (.iconst 0, 1) := by decide +kernel
theorem dk_3_37 : decode cX3_init 37 = .ok (.putfield 32, 3) := by decide +kernel
theorem dk_3_40 : decode cX3_init 40 = .ok (.aload_n 0, 1) := by decide +kernel
theorem dk_3_41 : decode cX3_init 41 = .ok (.iconst 0, 1) := by decide +kernel
theorem dk_3_42 : decode cX3_init 42 = .ok (.putfield 35, 3) := by decide +kernel
theorem dk_3_45 : decode cX3_init 45 = .ok (.aload_n 0, 1) := by decide +kernel
theorem dk_3_46 : decode cX3_init 46 = .ok (.iconst 0, 1) := by decide +kernel
theorem dk_3_47 : decode cX3_init 47 = .ok (.putfield 38, 3) := by decide +kernel
theorem dk_3_50 : decode cX3_init 50 = .ok (.return_, 1) := by decide +kernel
set_option maxRecDepth 100000 in
theorem kk_3 : ([(1026, Jvm.Cond.methodLink RX3 3 objectInit),
  (1019, Jvm.Cond.instanceMethod objectInit),
  (1020, Jvm.Cond.code objectInit ⟨#[0xb1]⟩ 1 none),
  (1027, Jvm.Cond.classLink RX3 9 RX2),
  (1028, Jvm.Cond.instantiable RX2 7),
  (1003, Jvm.Cond.initialized RX2),
  (1031, Jvm.Cond.code yX2_init cX2_init 1 none),
  (1003, Jvm.Cond.initialized yX2_init.cls),
  (1030, Jvm.Cond.instanceMethod yX2_init),
  (1081, Jvm.Cond.fieldLink RX3 12 RX3 (TX3 0).2.1 (TX3 0).2.2.1),
  (1083, Jvm.Cond.fieldLink RX3 18 RX3 (TX3 1).2.1 (TX3 1).2.2.1),
  (1084, Jvm.Cond.fieldLink RX3 22 RX3 (TX3 2).2.1 (TX3 2).2.2.1),
  (1085, Jvm.Cond.fieldLink RX3 25 RX3 (TX3 3).2.1 (TX3 3).2.2.1),
  (1086, Jvm.Cond.fieldLink RX3 29 RX3 (TX3 4).2.1 (TX3 4).2.2.1),
  (1087, Jvm.Cond.fieldLink RX3 32 RX3 (TX3 5).2.1 (TX3 5).2.2.1),
  (1088, Jvm.Cond.fieldLink RX3 35 RX3 (TX3 6).2.1 (TX3 6).2.2.1),
  (1089, Jvm.Cond.fieldLink RX3 38 RX3 (TX3 7).2.1 (TX3 7).2.2.1)] : List (Nat × Jvm.Cond)).all (fun q => am_at q.1 q.2) = true := by decide +kernel
def sh_3 (b : Nat) (w : va_W) (t : List (ClassId × FieldType)) : Prop := ∃ (q1 : Nat) (q2 : Nat) (c2 : ClassId) (q3 : Nat) (c3 : ClassId) (q4 : Nat) (c4 : ClassId) (q5 : Nat) (c5 : ClassId) (q6 : Nat) (c6 : ClassId), w = [(b, .inr (3, [.ref q1, .int 0, .int 0, .int 0, .int 0, .int 0, .int 0, .int 0])), (q1, .inr (2, [.int 12, .int 0, .ref q2, .ref q3, .ref q4, .ref q5, .ref q6])), (q2, kI c2 8), (q3, kI c3 8), (q4, kI c4 8), (q5, kI c5 8), (q6, kI c6 3)] ∧ t = [(c2, .int), (c3, .int), (c4, .int), (c5, .int), (c6, .int)]
set_option maxHeartbeats 4000000 in
set_option maxRecDepth 100000 in
theorem kc_3 (l : Launch) (D : va_G) (b : Nat) : kM l yX3_init cX3_init 1 { frames := 2, cells := 6, slots := 42, locals := 32 } D [.ref b] [(b, .inr (3, [.null, .int 0, .int 0, .int 0, .int 0, .int 0, .int 0, .int 0]))] (sh_3 b) := by
  refine kM_of (by decide +kernel) rfl (Nat.le_of_ble_eq_true rfl) ?_
  intro p e s m args below meth c A ls C hin hr hlk K hl
  have C : kx p s m args c cX3_init 1 RX3 A := C
  have hl : lv_has ls 1 [(0, .ref b)] := hl
  refine lv_aload_n C.1 C.2.1 dk_3_0 rfl (lv_at hl 0 rfl) ?_
  refine ks_obj C hl (kk_mem kk_3 (i := 0) rfl) ⟨(kk_mem kk_3 (i := 1) rfl), (kk_mem kk_3 (i := 2) rfl)⟩ dk_3_1 ⟨Nat.le_of_ble_eq_true rfl, Nat.le_of_ble_eq_true rfl⟩ ?_
  refine lv_aload_n C.1 C.2.1 dk_3_4 rfl (lv_at hl 0 rfl) ?_
  refine ks_new (fs := [.int 0, .int 0, .null, .null, .null, .null, .null]) (k1 := 1) (n1 := 7) C K (ci := 2) rfl tyX2 tyX2_ok rfl ⟨(kk_mem kk_3 (i := 3) rfl), (kk_mem kk_3 (i := 4) rfl), (kk_mem kk_3 (i := 5) rfl)⟩ ⟨rfl, Nat.le_of_ble_eq_true rfl⟩ ⟨rfl, Nat.le_of_ble_eq_true rfl⟩ dk_3_5 dk_3_8 (fun q1 H K => ?_)
  have K : kw D A [] [(b, .inr (3, [.null, .int 0, .int 0, .int 0, .int 0, .int 0, .int 0, .int 0])), (q1, .inr (2, [.int 0, .int 0, .null, .null, .null, .null, .null]))] s H [] := K
  refine ks_call (As := []) (rest := [.ref q1, .ref b]) (k1 := 6) (n1 := 42) C K hl (kc_2 l D q1) 1 rfl [0] [(b, .inr (3, [.null, .int 0, .int 0, .int 0, .int 0, .int 0, .int 0, .int 0]))] rfl rfl (by decide) ⟨rfl, by decide, by decide, by show _ = some 0; decide +kernel⟩ ⟨(kk_mem kk_3 (i := 6) rfl), (kk_mem kk_3 (i := 7) rfl), (kk_mem kk_3 (i := 8) rfl)⟩ (Or.inr C.2.2.2.2.2.2.2.1) ⟨Nat.le_of_ble_eq_true rfl, Nat.le_of_ble_eq_true rfl⟩ ⟨rfl, Nat.le_of_ble_eq_true rfl⟩ ⟨rfl, Nat.le_of_ble_eq_true rfl⟩ rfl (Nat.le_of_ble_eq_true rfl) dk_3_9 (fun w1 t1 H locs hsh K => ?_)
  obtain ⟨q2, c2, q3, c3, q4, c4, q5, c5, q6, c6, rfl, rfl⟩ := hsh
  have K : kw D A [(c2, .int), (c3, .int), (c4, .int), (c5, .int), (c6, .int)] [(b, .inr (3, [.null, .int 0, .int 0, .int 0, .int 0, .int 0, .int 0, .int 0])), (q1, .inr (2, [.int 12, .int 0, .ref q2, .ref q3, .ref q4, .ref q5, .ref q6])), (q2, kI c2 8), (q3, kI c3 8), (q4, kI c4 8), (q5, kI c5 8), (q6, kI c6 3)] s H locs := K
  refine ks_putF (v := .ref q1) (T := TX3) (N := 8) C hin K 0 rfl rfl 0 (.object "ThreeRings$Plan") ⟨by decide, rfl, rfl, tyX3_ok 0 (by decide)⟩ ⟨rfl, rfl⟩ (Nat.le_of_ble_eq_true rfl) (kk_mem kk_3 (i := 9) rfl) dk_3_12 (fun H locs K => ?_)
  have K : kw D A [(c2, .int), (c3, .int), (c4, .int), (c5, .int), (c6, .int)] [(b, .inr (3, [.ref q1, .int 0, .int 0, .int 0, .int 0, .int 0, .int 0, .int 0])), (q1, .inr (2, [.int 12, .int 0, .ref q2, .ref q3, .ref q4, .ref q5, .ref q6])), (q2, kI c2 8), (q3, kI c3 8), (q4, kI c4 8), (q5, kI c5 8), (q6, kI c6 3)] s H locs := K
  refine lv_aload_n C.1 C.2.1 dk_3_15 rfl (lv_at hl 0 rfl) ?_
  refine lv_iconst (v := 0) C.1 C.2.1 dk_3_16 (by decide) ?_
  refine ks_put (v := .int 0) (T := TX3) (N := 8) C K 0 rfl rfl 1 .int ⟨by decide, rfl, rfl, tyX3_ok 1 (by decide)⟩ ⟨rfl, rfl⟩ (Nat.le_of_ble_eq_true rfl) (kk_mem kk_3 (i := 10) rfl) dk_3_17 (fun H locs K => ?_)
  have K : kw D A [(c2, .int), (c3, .int), (c4, .int), (c5, .int), (c6, .int)] [(b, .inr (3, [.ref q1, .int 0, .int 0, .int 0, .int 0, .int 0, .int 0, .int 0])), (q1, .inr (2, [.int 12, .int 0, .ref q2, .ref q3, .ref q4, .ref q5, .ref q6])), (q2, kI c2 8), (q3, kI c3 8), (q4, kI c4 8), (q5, kI c5 8), (q6, kI c6 3)] s H locs := K
  refine lv_aload_n C.1 C.2.1 dk_3_20 rfl (lv_at hl 0 rfl) ?_
  refine lv_iconst (v := 0) C.1 C.2.1 dk_3_21 (by decide) ?_
  refine ks_put (v := .int 0) (T := TX3) (N := 8) C K 0 rfl rfl 2 .int ⟨by decide, rfl, rfl, tyX3_ok 2 (by decide)⟩ ⟨rfl, rfl⟩ (Nat.le_of_ble_eq_true rfl) (kk_mem kk_3 (i := 11) rfl) dk_3_22 (fun H locs K => ?_)
  have K : kw D A [(c2, .int), (c3, .int), (c4, .int), (c5, .int), (c6, .int)] [(b, .inr (3, [.ref q1, .int 0, .int 0, .int 0, .int 0, .int 0, .int 0, .int 0])), (q1, .inr (2, [.int 12, .int 0, .ref q2, .ref q3, .ref q4, .ref q5, .ref q6])), (q2, kI c2 8), (q3, kI c3 8), (q4, kI c4 8), (q5, kI c5 8), (q6, kI c6 3)] s H locs := K
  refine lv_aload_n C.1 C.2.1 dk_3_25 rfl (lv_at hl 0 rfl) ?_
  refine lv_iconst (v := 0) C.1 C.2.1 dk_3_26 (by decide) ?_
  refine ks_put (v := .int 0) (T := TX3) (N := 8) C K 0 rfl rfl 3 .boolean ⟨by decide, rfl, rfl, tyX3_ok 3 (by decide)⟩ ⟨rfl, rfl⟩ (Nat.le_of_ble_eq_true rfl) (kk_mem kk_3 (i := 12) rfl) dk_3_27 (fun H locs K => ?_)
  have K : kw D A [(c2, .int), (c3, .int), (c4, .int), (c5, .int), (c6, .int)] [(b, .inr (3, [.ref q1, .int 0, .int 0, .int 0, .int 0, .int 0, .int 0, .int 0])), (q1, .inr (2, [.int 12, .int 0, .ref q2, .ref q3, .ref q4, .ref q5, .ref q6])), (q2, kI c2 8), (q3, kI c3 8), (q4, kI c4 8), (q5, kI c5 8), (q6, kI c6 3)] s H locs := K
  refine lv_aload_n C.1 C.2.1 dk_3_30 rfl (lv_at hl 0 rfl) ?_
  refine lv_iconst (v := 0) C.1 C.2.1 dk_3_31 (by decide) ?_
  refine ks_put (v := .int 0) (T := TX3) (N := 8) C K 0 rfl rfl 4 .int ⟨by decide, rfl, rfl, tyX3_ok 4 (by decide)⟩ ⟨rfl, rfl⟩ (Nat.le_of_ble_eq_true rfl) (kk_mem kk_3 (i := 13) rfl) dk_3_32 (fun H locs K => ?_)
  have K : kw D A [(c2, .int), (c3, .int), (c4, .int), (c5, .int), (c6, .int)] [(b, .inr (3, [.ref q1, .int 0, .int 0, .int 0, .int 0, .int 0, .int 0, .int 0])), (q1, .inr (2, [.int 12, .int 0, .ref q2, .ref q3, .ref q4, .ref q5, .ref q6])), (q2, kI c2 8), (q3, kI c3 8), (q4, kI c4 8), (q5, kI c5 8), (q6, kI c6 3)] s H locs := K
  refine lv_aload_n C.1 C.2.1 dk_3_35 rfl (lv_at hl 0 rfl) ?_
  refine lv_iconst (v := 0) C.1 C.2.1 dk_3_36 (by decide) ?_
  refine ks_put (v := .int 0) (T := TX3) (N := 8) C K 0 rfl rfl 5 .int ⟨by decide, rfl, rfl, tyX3_ok 5 (by decide)⟩ ⟨rfl, rfl⟩ (Nat.le_of_ble_eq_true rfl) (kk_mem kk_3 (i := 14) rfl) dk_3_37 (fun H locs K => ?_)
  have K : kw D A [(c2, .int), (c3, .int), (c4, .int), (c5, .int), (c6, .int)] [(b, .inr (3, [.ref q1, .int 0, .int 0, .int 0, .int 0, .int 0, .int 0, .int 0])), (q1, .inr (2, [.int 12, .int 0, .ref q2, .ref q3, .ref q4, .ref q5, .ref q6])), (q2, kI c2 8), (q3, kI c3 8), (q4, kI c4 8), (q5, kI c5 8), (q6, kI c6 3)] s H locs := K
  refine lv_aload_n C.1 C.2.1 dk_3_40 rfl (lv_at hl 0 rfl) ?_
  refine lv_iconst (v := 0) C.1 C.2.1 dk_3_41 (by decide) ?_
  refine ks_put (v := .int 0) (T := TX3) (N := 8) C K 0 rfl rfl 6 .int ⟨by decide, rfl, rfl, tyX3_ok 6 (by decide)⟩ ⟨rfl, rfl⟩ (Nat.le_of_ble_eq_true rfl) (kk_mem kk_3 (i := 15) rfl) dk_3_42 (fun H locs K => ?_)
  have K : kw D A [(c2, .int), (c3, .int), (c4, .int), (c5, .int), (c6, .int)] [(b, .inr (3, [.ref q1, .int 0, .int 0, .int 0, .int 0, .int 0, .int 0, .int 0])), (q1, .inr (2, [.int 12, .int 0, .ref q2, .ref q3, .ref q4, .ref q5, .ref q6])), (q2, kI c2 8), (q3, kI c3 8), (q4, kI c4 8), (q5, kI c5 8), (q6, kI c6 3)] s H locs := K
  refine lv_aload_n C.1 C.2.1 dk_3_45 rfl (lv_at hl 0 rfl) ?_
  refine lv_iconst (v := 0) C.1 C.2.1 dk_3_46 (by decide) ?_
  refine ks_put (v := .int 0) (T := TX3) (N := 8) C K 0 rfl rfl 7 .int ⟨by decide, rfl, rfl, tyX3_ok 7 (by decide)⟩ ⟨rfl, rfl⟩ (Nat.le_of_ble_eq_true rfl) (kk_mem kk_3 (i := 16) rfl) dk_3_47 (fun H locs K => ?_)
  have K : kw D A [(c2, .int), (c3, .int), (c4, .int), (c5, .int), (c6, .int)] [(b, .inr (3, [.ref q1, .int 0, .int 0, .int 0, .int 0, .int 0, .int 0, .int 0])), (q1, .inr (2, [.int 12, .int 0, .ref q2, .ref q3, .ref q4, .ref q5, .ref q6])), (q2, kI c2 8), (q3, kI c3 8), (q4, kI c4 8), (q5, kI c5 8), (q6, kI c6 3)] s H locs := K
  exact ks_ret C hr hlk K ⟨q1, q2, c2, q3, c3, q4, c4, q5, c5, q6, c6, rfl, rfl⟩ dk_3_50
