/-! the constructor of class 1 (written by wip/whole/mkctor.py) -/
theorem dk_1_0 : decode cX1_init 0 = .ok (.aload_n 0, 1) := by decide +kernel
theorem dk_1_1 : decode cX1_init 1 = .ok (.invokespecial 3, 3) := by decide +kernel
theorem dk_1_4 : decode cX1_init 4 = .ok (.aload_n 0, 1) := by decide +kernel
theorem dk_1_5 : decode cX1_init 5 = .ok (.iconst 3, 1) := by decide +kernel
theorem dk_1_6 : decode cX1_init 6 = .ok (.newarray .int, 2) := by decide +kernel
theorem dk_1_8 : decode cX1_init 8 = .ok (.putfield 9, 3) := by decide +kernel
theorem dk_1_11 : decode cX1_init 11 = .ok (.aload_n 0, 1) := by decide +kernel
theorem dk_1_12 : decode cX1_init 12 = .ok (.iconst 3, 1) := by decide +kernel
theorem dk_1_13 : decode cX1_init 13 = .ok (.newarray .int, 2) := by decide +kernel
theorem dk_1_15 : decode cX1_init 15 = .ok (.putfield 15, 3) := by decide +kernel
theorem dk_1_18 : decode cX1_init 18 = .ok (.aload_n 0, 1) := by decide +kernel
theorem dk_1_19 : decode cX1_init 19 = .ok (.iconst 3, 1) := by decide +kernel
theorem dk_1_20 : decode cX1_init 20 = .ok (.newarray .int, 2) := by decide +kernel
theorem dk_1_22 : decode cX1_init 22 = .ok (.putfield 18, 3) := by decide +kernel
theorem dk_1_25 : decode cX1_init 25 = .ok (.aload_n 0, 1) := by decide +kernel
theorem dk_1_26 : decode cX1_init 26 = .ok (.bipush 8, 2) := by decide +kernel
theorem dk_1_28 : decode cX1_init 28 = .ok (.newarray .int, 2) := by decide +kernel
theorem dk_1_30 : decode cX1_init 30 = .ok (.putfield 21, 3) := by decide +kernel
theorem dk_1_33 : decode cX1_init 33 = .ok (.aload_n 0, 1) := by decide +kernel
theorem dk_1_34 : decode cX1_init 34 = .ok (.bipush 8, 2) := by decide +kernel
theorem dk_1_36 : decode cX1_init 36 = .ok (.newarray .int, 2) := by decide +kernel
theorem dk_1_38 : decode cX1_init 38 = .ok (.putfield 24, 3) := by decide +kernel
theorem dk_1_41 : decode cX1_init 41 = .ok (.aload_n 0, 1) := by decide +kernel
theorem dk_1_42 : decode cX1_init 42 = .ok (.bipush 8, 2) := by decide +kernel
theorem dk_1_44 : decode cX1_init 44 = .ok (.newarray .int, 2) := by decide +kernel
theorem dk_1_46 : decode cX1_init 46 = .ok (.putfield 27, 3) := by decide +kernel
theorem dk_1_49 : decode cX1_init 49 = .ok (.aload_n 0, 1) := by decide +kernel
theorem dk_1_50 : decode cX1_init 50 = .ok (.iconst 0, 1) := by decide +kernel
theorem dk_1_51 : decode cX1_init 51 = .ok (.putfield 30, 3) := by decide +kernel
theorem dk_1_54 : decode cX1_init 54 = .ok (.aload_n 0, 1) := by decide +kernel
theorem dk_1_55 : decode cX1_init 55 = .ok (.iconst 0, 1) := by decide +kernel
theorem dk_1_56 : decode cX1_init 56 = .ok (.putfield 34, 3) := by decide +kernel
theorem dk_1_59 : decode cX1_init 59 = .ok (.return_, 1) := by decide +kernel
set_option maxRecDepth 100000 in
theorem kk_1 : ([(1114, Jvm.Cond.methodLink RX1 3 objectInit),
  (1019, Jvm.Cond.instanceMethod objectInit),
  (1020, Jvm.Cond.code objectInit ⟨#[0xb1]⟩ 1 none),
  (1115, Jvm.Cond.fieldLink RX1 9 RX1 (TX1 0).2.1 (TX1 0).2.2.1),
  (1080, Jvm.Cond.arrayClass .int),
  (1118, Jvm.Cond.fieldLink RX1 15 RX1 (TX1 1).2.1 (TX1 1).2.2.1),
  (1120, Jvm.Cond.fieldLink RX1 18 RX1 (TX1 2).2.1 (TX1 2).2.2.1),
  (1123, Jvm.Cond.fieldLink RX1 21 RX1 (TX1 3).2.1 (TX1 3).2.2.1),
  (1125, Jvm.Cond.fieldLink RX1 24 RX1 (TX1 4).2.1 (TX1 4).2.2.1),
  (1127, Jvm.Cond.fieldLink RX1 27 RX1 (TX1 5).2.1 (TX1 5).2.2.1),
  (1129, Jvm.Cond.fieldLink RX1 30 RX1 (TX1 6).2.1 (TX1 6).2.2.1),
  (1132, Jvm.Cond.fieldLink RX1 34 RX1 (TX1 7).2.1 (TX1 7).2.2.1)] : List (Nat × Jvm.Cond)).all (fun q => am_at q.1 q.2) = true := by decide +kernel
def sh_1 (b : Nat) (w : va_W) (t : List (ClassId × FieldType)) : Prop := ∃ (q1 : Nat) (c1 : ClassId) (q2 : Nat) (c2 : ClassId) (q3 : Nat) (c3 : ClassId) (q4 : Nat) (c4 : ClassId) (q5 : Nat) (c5 : ClassId) (q6 : Nat) (c6 : ClassId), w = [(b, .inr (1, [.ref q1, .ref q2, .ref q3, .ref q4, .ref q5, .ref q6, .int 0, .int 0])), (q1, kI c1 3), (q2, kI c2 3), (q3, kI c3 3), (q4, kI c4 8), (q5, kI c5 8), (q6, kI c6 8)] ∧ t = [(c1, .int), (c2, .int), (c3, .int), (c4, .int), (c5, .int), (c6, .int)]
set_option maxHeartbeats 4000000 in
set_option maxRecDepth 100000 in
theorem kc_1 (l : Launch) (D : va_G) (b : Nat) : kM l yX1_init cX1_init 1 { frames := 1, cells := 6, slots := 33, locals := 12 } D [.ref b] [(b, .inr (1, [.null, .null, .null, .null, .null, .null, .int 0, .int 0]))] (sh_1 b) := by
  refine kM_of (by decide +kernel) rfl (Nat.le_of_ble_eq_true rfl) ?_
  intro p e s m args below meth c A ls C hin hr hlk K hl
  have C : kx p s m args c cX1_init 1 RX1 A := C
  have hl : lv_has ls 1 [(0, .ref b)] := hl
  refine lv_aload_n C.1 C.2.1 dk_1_0 rfl (lv_at hl 0 rfl) ?_
  refine ks_obj C hl (kk_mem kk_1 (i := 0) rfl) ⟨(kk_mem kk_1 (i := 1) rfl), (kk_mem kk_1 (i := 2) rfl)⟩ dk_1_1 ⟨Nat.le_of_ble_eq_true rfl, Nat.le_of_ble_eq_true rfl⟩ ?_
  refine lv_aload_n C.1 C.2.1 dk_1_4 rfl (lv_at hl 0 rfl) ?_
  refine lv_iconst (v := 3) C.1 C.2.1 dk_1_5 (by decide) ?_
  refine ks_na (a0 := (3, .inl (fun _ => 0))) (N' := 3) (k1 := 1) (n1 := 3) (T := TX1) (N := 8) C hin K 0 (fun _ => rfl) rfl 0 .int rfl ⟨by decide, rfl, rfl, tyX1_ok 0 (by decide)⟩ (Nat.le_of_ble_eq_true rfl) (kk_mem kk_1 (i := 3) rfl) (kk_mem kk_1 (i := 4) rfl) (fun _ => rfl) (by decide) (by decide) (by decide) ⟨rfl, Nat.le_of_ble_eq_true rfl⟩ ⟨rfl, Nat.le_of_ble_eq_true rfl⟩ dk_1_6 dk_1_8 (fun q1 c1 H locs K => ?_)
  have K : kw D A [(c1, .int)] [(b, .inr (1, [.ref q1, .null, .null, .null, .null, .null, .int 0, .int 0])), (q1, kI c1 3)] s H locs := K
  refine lv_aload_n C.1 C.2.1 dk_1_11 rfl (lv_at hl 0 rfl) ?_
  refine lv_iconst (v := 3) C.1 C.2.1 dk_1_12 (by decide) ?_
  refine ks_na (a0 := (3, .inl (fun _ => 0))) (N' := 3) (k1 := 2) (n1 := 6) (T := TX1) (N := 8) C hin K 0 (fun _ => rfl) rfl 1 .int rfl ⟨by decide, rfl, rfl, tyX1_ok 1 (by decide)⟩ (Nat.le_of_ble_eq_true rfl) (kk_mem kk_1 (i := 5) rfl) (kk_mem kk_1 (i := 4) rfl) (fun _ => rfl) (by decide) (by decide) (by decide) ⟨rfl, Nat.le_of_ble_eq_true rfl⟩ ⟨rfl, Nat.le_of_ble_eq_true rfl⟩ dk_1_13 dk_1_15 (fun q2 c2 H locs K => ?_)
  have K : kw D A [(c1, .int), (c2, .int)] [(b, .inr (1, [.ref q1, .ref q2, .null, .null, .null, .null, .int 0, .int 0])), (q1, kI c1 3), (q2, kI c2 3)] s H locs := K
  refine lv_aload_n C.1 C.2.1 dk_1_18 rfl (lv_at hl 0 rfl) ?_
  refine lv_iconst (v := 3) C.1 C.2.1 dk_1_19 (by decide) ?_
  refine ks_na (a0 := (3, .inl (fun _ => 0))) (N' := 3) (k1 := 3) (n1 := 9) (T := TX1) (N := 8) C hin K 0 (fun _ => rfl) rfl 2 .int rfl ⟨by decide, rfl, rfl, tyX1_ok 2 (by decide)⟩ (Nat.le_of_ble_eq_true rfl) (kk_mem kk_1 (i := 6) rfl) (kk_mem kk_1 (i := 4) rfl) (fun _ => rfl) (by decide) (by decide) (by decide) ⟨rfl, Nat.le_of_ble_eq_true rfl⟩ ⟨rfl, Nat.le_of_ble_eq_true rfl⟩ dk_1_20 dk_1_22 (fun q3 c3 H locs K => ?_)
  have K : kw D A [(c1, .int), (c2, .int), (c3, .int)] [(b, .inr (1, [.ref q1, .ref q2, .ref q3, .null, .null, .null, .int 0, .int 0])), (q1, kI c1 3), (q2, kI c2 3), (q3, kI c3 3)] s H locs := K
  refine lv_aload_n C.1 C.2.1 dk_1_25 rfl (lv_at hl 0 rfl) ?_
  refine lv_bipush (v := 8) C.1 C.2.1 dk_1_26 (by decide) ?_
  refine ks_na (a0 := (8, .inl (fun _ => 0))) (N' := 8) (k1 := 4) (n1 := 17) (T := TX1) (N := 8) C hin K 0 (fun _ => rfl) rfl 3 .int rfl ⟨by decide, rfl, rfl, tyX1_ok 3 (by decide)⟩ (Nat.le_of_ble_eq_true rfl) (kk_mem kk_1 (i := 7) rfl) (kk_mem kk_1 (i := 4) rfl) (fun _ => rfl) (by decide) (by decide) (by decide) ⟨rfl, Nat.le_of_ble_eq_true rfl⟩ ⟨rfl, Nat.le_of_ble_eq_true rfl⟩ dk_1_28 dk_1_30 (fun q4 c4 H locs K => ?_)
  have K : kw D A [(c1, .int), (c2, .int), (c3, .int), (c4, .int)] [(b, .inr (1, [.ref q1, .ref q2, .ref q3, .ref q4, .null, .null, .int 0, .int 0])), (q1, kI c1 3), (q2, kI c2 3), (q3, kI c3 3), (q4, kI c4 8)] s H locs := K
  refine lv_aload_n C.1 C.2.1 dk_1_33 rfl (lv_at hl 0 rfl) ?_
  refine lv_bipush (v := 8) C.1 C.2.1 dk_1_34 (by decide) ?_
  refine ks_na (a0 := (8, .inl (fun _ => 0))) (N' := 8) (k1 := 5) (n1 := 25) (T := TX1) (N := 8) C hin K 0 (fun _ => rfl) rfl 4 .int rfl ⟨by decide, rfl, rfl, tyX1_ok 4 (by decide)⟩ (Nat.le_of_ble_eq_true rfl) (kk_mem kk_1 (i := 8) rfl) (kk_mem kk_1 (i := 4) rfl) (fun _ => rfl) (by decide) (by decide) (by decide) ⟨rfl, Nat.le_of_ble_eq_true rfl⟩ ⟨rfl, Nat.le_of_ble_eq_true rfl⟩ dk_1_36 dk_1_38 (fun q5 c5 H locs K => ?_)
  have K : kw D A [(c1, .int), (c2, .int), (c3, .int), (c4, .int), (c5, .int)] [(b, .inr (1, [.ref q1, .ref q2, .ref q3, .ref q4, .ref q5, .null, .int 0, .int 0])), (q1, kI c1 3), (q2, kI c2 3), (q3, kI c3 3), (q4, kI c4 8), (q5, kI c5 8)] s H locs := K
  refine lv_aload_n C.1 C.2.1 dk_1_41 rfl (lv_at hl 0 rfl) ?_
  refine lv_bipush (v := 8) C.1 C.2.1 dk_1_42 (by decide) ?_
  refine ks_na (a0 := (8, .inl (fun _ => 0))) (N' := 8) (k1 := 6) (n1 := 33) (T := TX1) (N := 8) C hin K 0 (fun _ => rfl) rfl 5 .int rfl ⟨by decide, rfl, rfl, tyX1_ok 5 (by decide)⟩ (Nat.le_of_ble_eq_true rfl) (kk_mem kk_1 (i := 9) rfl) (kk_mem kk_1 (i := 4) rfl) (fun _ => rfl) (by decide) (by decide) (by decide) ⟨rfl, Nat.le_of_ble_eq_true rfl⟩ ⟨rfl, Nat.le_of_ble_eq_true rfl⟩ dk_1_44 dk_1_46 (fun q6 c6 H locs K => ?_)
  have K : kw D A [(c1, .int), (c2, .int), (c3, .int), (c4, .int), (c5, .int), (c6, .int)] [(b, .inr (1, [.ref q1, .ref q2, .ref q3, .ref q4, .ref q5, .ref q6, .int 0, .int 0])), (q1, kI c1 3), (q2, kI c2 3), (q3, kI c3 3), (q4, kI c4 8), (q5, kI c5 8), (q6, kI c6 8)] s H locs := K
  refine lv_aload_n C.1 C.2.1 dk_1_49 rfl (lv_at hl 0 rfl) ?_
  refine lv_iconst (v := 0) C.1 C.2.1 dk_1_50 (by decide) ?_
  refine ks_put (v := .int 0) (T := TX1) (N := 8) C K 0 rfl rfl 6 .int ⟨by decide, rfl, rfl, tyX1_ok 6 (by decide)⟩ ⟨rfl, rfl⟩ (Nat.le_of_ble_eq_true rfl) (kk_mem kk_1 (i := 10) rfl) dk_1_51 (fun H locs K => ?_)
  have K : kw D A [(c1, .int), (c2, .int), (c3, .int), (c4, .int), (c5, .int), (c6, .int)] [(b, .inr (1, [.ref q1, .ref q2, .ref q3, .ref q4, .ref q5, .ref q6, .int 0, .int 0])), (q1, kI c1 3), (q2, kI c2 3), (q3, kI c3 3), (q4, kI c4 8), (q5, kI c5 8), (q6, kI c6 8)] s H locs := K
  refine lv_aload_n C.1 C.2.1 dk_1_54 rfl (lv_at hl 0 rfl) ?_
  refine lv_iconst (v := 0) C.1 C.2.1 dk_1_55 (by decide) ?_
  refine ks_put (v := .int 0) (T := TX1) (N := 8) C K 0 rfl rfl 7 .boolean ⟨by decide, rfl, rfl, tyX1_ok 7 (by decide)⟩ ⟨rfl, rfl⟩ (Nat.le_of_ble_eq_true rfl) (kk_mem kk_1 (i := 11) rfl) dk_1_56 (fun H locs K => ?_)
  have K : kw D A [(c1, .int), (c2, .int), (c3, .int), (c4, .int), (c5, .int), (c6, .int)] [(b, .inr (1, [.ref q1, .ref q2, .ref q3, .ref q4, .ref q5, .ref q6, .int 0, .int 0])), (q1, kI c1 3), (q2, kI c2 3), (q3, kI c3 3), (q4, kI c4 8), (q5, kI c5 8), (q6, kI c6 8)] s H locs := K
  exact ks_ret C hr hlk K ⟨q1, c1, q2, c2, q3, c3, q4, c4, q5, c5, q6, c6, rfl, rfl⟩ dk_1_59
