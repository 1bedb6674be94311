/-! the constructor of class 2 (written by wip/whole/mkctor.py) -/
theorem dk_2_0 : decode cX2_init 0 = .ok (.aload_n 0, 1) := by decide +kernel
theorem dk_2_1 : decode cX2_init 1 = .ok (.invokespecial 3, 3) := by decide +kernel
theorem dk_2_4 : decode cX2_init 4 = .ok (.aload_n 0, 1) := by decide +kernel
theorem dk_2_5 : decode cX2_init 5 = .ok (.bipush 12, 2) := by decide +kernel
theorem dk_2_7 : decode cX2_init 7 = .ok (.putfield 9, 3) := by decide +kernel
theorem dk_2_10 : decode cX2_init 10 = .ok (.aload_n 0, 1) := by decide +kernel
theorem dk_2_11 : decode cX2_init 11 = .ok (.iconst 0, 1) := by decide +kernel
theorem dk_2_12 : decode cX2_init 12 = .ok (.putfield 15, 3) := by decide +kernel
theorem dk_2_15 : decode cX2_init 15 = .ok (.aload_n 0, 1) := by decide +kernel
theorem dk_2_16 : decode cX2_init 16 = .ok (.bipush 8, 2) := by decide +kernel
theorem dk_2_18 : decode cX2_init 18 = .ok (.newarray .int, 2) := by decide +kernel
theorem dk_2_20 : decode cX2_init 20 = .ok (.putfield 18, 3) := by decide +kernel
theorem dk_2_23 : decode cX2_init 23 = .ok (.aload_n 0, 1) := by decide +kernel
theorem dk_2_24 : decode cX2_init 24 = .ok (.bipush 8, 2) := by decide +kernel
theorem dk_2_26 : decode cX2_init 26 = .ok (.newarray .int, 2) := by decide +kernel
theorem dk_2_28 : decode cX2_init 28 = .ok (.putfield 22, 3) := by decide +kernel
theorem dk_2_31 : decode cX2_init 31 = .ok (.aload_n 0, 1) := by decide +kernel
theorem dk_2_32 : decode cX2_init 32 = .ok (.bipush 8, 2) := by decide +kernel
theorem dk_2_34 : decode cX2_init 34 = .ok (.newarray .int, 2) := by decide +kernel
theorem dk_2_36 : decode cX2_init 36 = .ok (.putfield 25, 3) := by decide +kernel
theorem dk_2_39 : decode cX2_init 39 = .ok (.aload_n 0, 1) := by decide +kernel
theorem dk_2_40 : decode cX2_init 40 = .ok (.bipush 8, 2) := by decide +kernel
theorem dk_2_42 : decode cX2_init 42 = .ok (.newarray .int, 2) := by decide +kernel
theorem dk_2_44 : decode cX2_init 44 = .ok (.putfield 28, 3) := by decide +kernel
theorem dk_2_47 : decode cX2_init 47 = .ok (.aload_n 0, 1) := by decide +kernel
theorem dk_2_48 : decode cX2_init 48 = .ok (.iconst 3, 1) := by decide +kernel
theorem dk_2_49 : decode cX2_init 49 = .ok (.newarray .int, 2) := by decide +kernel
theorem dk_2_51 : decode cX2_init 51 = .ok (.putfield 31, 3) := by decide +kernel
theorem dk_2_54 : decode cX2_init 54 = .ok (.return_, 1) := by decide +kernel
set_option maxRecDepth 100000 in
theorem kk_2 : ([(1032, Jvm.Cond.methodLink RX2 3 objectInit),
  (1019, Jvm.Cond.instanceMethod objectInit),
  (1020, Jvm.Cond.code objectInit ⟨#[0xb1]⟩ 1 none),
  (1033, Jvm.Cond.fieldLink RX2 9 RX2 (TX2 0).2.1 (TX2 0).2.2.1),
  (1038, Jvm.Cond.fieldLink RX2 15 RX2 (TX2 1).2.1 (TX2 1).2.2.1),
  (1043, Jvm.Cond.fieldLink RX2 18 RX2 (TX2 2).2.1 (TX2 2).2.2.1),
  (1080, Jvm.Cond.arrayClass .int),
  (1049, Jvm.Cond.fieldLink RX2 22 RX2 (TX2 3).2.1 (TX2 3).2.2.1),
  (1053, Jvm.Cond.fieldLink RX2 25 RX2 (TX2 4).2.1 (TX2 4).2.2.1),
  (1058, Jvm.Cond.fieldLink RX2 28 RX2 (TX2 5).2.1 (TX2 5).2.2.1),
  (1062, Jvm.Cond.fieldLink RX2 31 RX2 (TX2 6).2.1 (TX2 6).2.2.1)] : List (Nat × Jvm.Cond)).all (fun q => am_at q.1 q.2) = true := by decide +kernel
def sh_2 (b : Nat) (w : va_W) (t : List (ClassId × FieldType)) : Prop := ∃ (q1 : Nat) (c1 : ClassId) (q2 : Nat) (c2 : ClassId) (q3 : Nat) (c3 : ClassId) (q4 : Nat) (c4 : ClassId) (q5 : Nat) (c5 : ClassId), w = [(b, .inr (2, [.int 12, .int 0, .ref q1, .ref q2, .ref q3, .ref q4, .ref q5])), (q1, kI c1 8), (q2, kI c2 8), (q3, kI c3 8), (q4, kI c4 8), (q5, kI c5 3)] ∧ t = [(c1, .int), (c2, .int), (c3, .int), (c4, .int), (c5, .int)]
set_option maxHeartbeats 4000000 in
set_option maxRecDepth 100000 in
theorem kc_2 (l : Launch) (D : va_G) (b : Nat) : kM l yX2_init cX2_init 1 { frames := 1, cells := 5, slots := 35, locals := 12 } D [.ref b] [(b, .inr (2, [.int 0, .int 0, .null, .null, .null, .null, .null]))] (sh_2 b) := by
  refine kM_of (by decide +kernel) rfl (Nat.le_of_ble_eq_true rfl) ?_
  intro p e s m args below meth c A ls C hin hr hlk K hl
  have C : kx p s m args c cX2_init 1 RX2 A := C
  have hl : lv_has ls 1 [(0, .ref b)] := hl
  refine lv_aload_n C.1 C.2.1 dk_2_0 rfl (lv_at hl 0 rfl) ?_
  refine ks_obj C hl (kk_mem kk_2 (i := 0) rfl) ⟨(kk_mem kk_2 (i := 1) rfl), (kk_mem kk_2 (i := 2) rfl)⟩ dk_2_1 ⟨Nat.le_of_ble_eq_true rfl, Nat.le_of_ble_eq_true rfl⟩ ?_
  refine lv_aload_n C.1 C.2.1 dk_2_4 rfl (lv_at hl 0 rfl) ?_
  refine lv_bipush (v := 12) C.1 C.2.1 dk_2_5 (by decide) ?_
  refine ks_put (v := .int 12) (T := TX2) (N := 7) C K 0 rfl rfl 0 .int ⟨by decide, rfl, rfl, tyX2_ok 0 (by decide)⟩ ⟨rfl, rfl⟩ (Nat.le_of_ble_eq_true rfl) (kk_mem kk_2 (i := 3) rfl) dk_2_7 (fun H locs K => ?_)
  have K : kw D A [] [(b, .inr (2, [.int 12, .int 0, .null, .null, .null, .null, .null]))] s H locs := K
  refine lv_aload_n C.1 C.2.1 dk_2_10 rfl (lv_at hl 0 rfl) ?_
  refine lv_iconst (v := 0) C.1 C.2.1 dk_2_11 (by decide) ?_
  refine ks_put (v := .int 0) (T := TX2) (N := 7) C K 0 rfl rfl 1 .int ⟨by decide, rfl, rfl, tyX2_ok 1 (by decide)⟩ ⟨rfl, rfl⟩ (Nat.le_of_ble_eq_true rfl) (kk_mem kk_2 (i := 4) rfl) dk_2_12 (fun H locs K => ?_)
  have K : kw D A [] [(b, .inr (2, [.int 12, .int 0, .null, .null, .null, .null, .null]))] s H locs := K
  refine lv_aload_n C.1 C.2.1 dk_2_15 rfl (lv_at hl 0 rfl) ?_
  refine lv_bipush (v := 8) C.1 C.2.1 dk_2_16 (by decide) ?_
  refine ks_na (a0 := (8, .inl (fun _ => 0))) (N' := 8) (k1 := 1) (n1 := 8) (T := TX2) (N := 7) C hin K 0 (fun _ => rfl) rfl 2 .int rfl ⟨by decide, rfl, rfl, tyX2_ok 2 (by decide)⟩ (Nat.le_of_ble_eq_true rfl) (kk_mem kk_2 (i := 5) rfl) (kk_mem kk_2 (i := 6) rfl) (fun _ => rfl) (by decide) (by decide) (by decide) ⟨rfl, Nat.le_of_ble_eq_true rfl⟩ ⟨rfl, Nat.le_of_ble_eq_true rfl⟩ dk_2_18 dk_2_20 (fun q1 c1 H locs K => ?_)
  have K : kw D A [(c1, .int)] [(b, .inr (2, [.int 12, .int 0, .ref q1, .null, .null, .null, .null])), (q1, kI c1 8)] s H locs := K
  refine lv_aload_n C.1 C.2.1 dk_2_23 rfl (lv_at hl 0 rfl) ?_
  refine lv_bipush (v := 8) C.1 C.2.1 dk_2_24 (by decide) ?_
  refine ks_na (a0 := (8, .inl (fun _ => 0))) (N' := 8) (k1 := 2) (n1 := 16) (T := TX2) (N := 7) C hin K 0 (fun _ => rfl) rfl 3 .int rfl ⟨by decide, rfl, rfl, tyX2_ok 3 (by decide)⟩ (Nat.le_of_ble_eq_true rfl) (kk_mem kk_2 (i := 7) rfl) (kk_mem kk_2 (i := 6) rfl) (fun _ => rfl) (by decide) (by decide) (by decide) ⟨rfl, Nat.le_of_ble_eq_true rfl⟩ ⟨rfl, Nat.le_of_ble_eq_true rfl⟩ dk_2_26 dk_2_28 (fun q2 c2 H locs K => ?_)
  have K : kw D A [(c1, .int), (c2, .int)] [(b, .inr (2, [.int 12, .int 0, .ref q1, .ref q2, .null, .null, .null])), (q1, kI c1 8), (q2, kI c2 8)] s H locs := K
  refine lv_aload_n C.1 C.2.1 dk_2_31 rfl (lv_at hl 0 rfl) ?_
  refine lv_bipush (v := 8) C.1 C.2.1 dk_2_32 (by decide) ?_
  refine ks_na (a0 := (8, .inl (fun _ => 0))) (N' := 8) (k1 := 3) (n1 := 24) (T := TX2) (N := 7) C hin K 0 (fun _ => rfl) rfl 4 .int rfl ⟨by decide, rfl, rfl, tyX2_ok 4 (by decide)⟩ (Nat.le_of_ble_eq_true rfl) (kk_mem kk_2 (i := 8) rfl) (kk_mem kk_2 (i := 6) rfl) (fun _ => rfl) (by decide) (by decide) (by decide) ⟨rfl, Nat.le_of_ble_eq_true rfl⟩ ⟨rfl, Nat.le_of_ble_eq_true rfl⟩ dk_2_34 dk_2_36 (fun q3 c3 H locs K => ?_)
  have K : kw D A [(c1, .int), (c2, .int), (c3, .int)] [(b, .inr (2, [.int 12, .int 0, .ref q1, .ref q2, .ref q3, .null, .null])), (q1, kI c1 8), (q2, kI c2 8), (q3, kI c3 8)] s H locs := K
  refine lv_aload_n C.1 C.2.1 dk_2_39 rfl (lv_at hl 0 rfl) ?_
  refine lv_bipush (v := 8) C.1 C.2.1 dk_2_40 (by decide) ?_
  refine ks_na (a0 := (8, .inl (fun _ => 0))) (N' := 8) (k1 := 4) (n1 := 32) (T := TX2) (N := 7) C hin K 0 (fun _ => rfl) rfl 5 .int rfl ⟨by decide, rfl, rfl, tyX2_ok 5 (by decide)⟩ (Nat.le_of_ble_eq_true rfl) (kk_mem kk_2 (i := 9) rfl) (kk_mem kk_2 (i := 6) rfl) (fun _ => rfl) (by decide) (by decide) (by decide) ⟨rfl, Nat.le_of_ble_eq_true rfl⟩ ⟨rfl, Nat.le_of_ble_eq_true rfl⟩ dk_2_42 dk_2_44 (fun q4 c4 H locs K => ?_)
  have K : kw D A [(c1, .int), (c2, .int), (c3, .int), (c4, .int)] [(b, .inr (2, [.int 12, .int 0, .ref q1, .ref q2, .ref q3, .ref q4, .null])), (q1, kI c1 8), (q2, kI c2 8), (q3, kI c3 8), (q4, kI c4 8)] s H locs := K
  refine lv_aload_n C.1 C.2.1 dk_2_47 rfl (lv_at hl 0 rfl) ?_
  refine lv_iconst (v := 3) C.1 C.2.1 dk_2_48 (by decide) ?_
  refine ks_na (a0 := (3, .inl (fun _ => 0))) (N' := 3) (k1 := 5) (n1 := 35) (T := TX2) (N := 7) C hin K 0 (fun _ => rfl) rfl 6 .int rfl ⟨by decide, rfl, rfl, tyX2_ok 6 (by decide)⟩ (Nat.le_of_ble_eq_true rfl) (kk_mem kk_2 (i := 10) rfl) (kk_mem kk_2 (i := 6) rfl) (fun _ => rfl) (by decide) (by decide) (by decide) ⟨rfl, Nat.le_of_ble_eq_true rfl⟩ ⟨rfl, Nat.le_of_ble_eq_true rfl⟩ dk_2_49 dk_2_51 (fun q5 c5 H locs K => ?_)
  have K : kw D A [(c1, .int), (c2, .int), (c3, .int), (c4, .int), (c5, .int)] [(b, .inr (2, [.int 12, .int 0, .ref q1, .ref q2, .ref q3, .ref q4, .ref q5])), (q1, kI c1 8), (q2, kI c2 8), (q3, kI c3 8), (q4, kI c4 8), (q5, kI c5 3)] s H locs := K
  exact ks_ret C hr hlk K ⟨q1, c1, q2, c2, q3, c3, q4, c4, q5, c5, rfl, rfl⟩ dk_2_54
