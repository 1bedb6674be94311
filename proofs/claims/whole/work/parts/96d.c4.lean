/-! the constructor of class 4 (written by wip/whole/mkctor.py) -/
theorem dk_4_0 : decode cX4_init 0 = .ok (.aload_n 0, 1) := by decide +kernel
theorem dk_4_1 : decode cX4_init 1 = .ok (.invokespecial 5, 3) := by decide +kernel
theorem dk_4_4 : decode cX4_init 4 = .ok (.aload_n 0, 1) := by decide +kernel
theorem dk_4_5 : decode cX4_init 5 = .ok (.sipush 1515, 3) := by decide +kernel
theorem dk_4_8 : decode cX4_init 8 = .ok (.newarray .int, 2) := by decide +kernel
theorem dk_4_10 : decode cX4_init 10 = .ok (.putfield 11, 3) := by decide +kernel
theorem dk_4_13 : decode cX4_init 13 = .ok (.aload_n 0, 1) := by decide +kernel
theorem dk_4_14 : decode cX4_init 14 = .ok (.bipush 64, 2) := by decide +kernel
theorem dk_4_16 : decode cX4_init 16 = .ok (.newarray .int, 2) := by decide +kernel
theorem dk_4_18 : decode cX4_init 18 = .ok (.putfield 15, 3) := by decide +kernel
theorem dk_4_21 : decode cX4_init 21 = .ok (.aload_n 0, 1) := by decide +kernel
theorem dk_4_22 : decode cX4_init 22 = .ok (.bipush 16, 2) := by decide +kernel
theorem dk_4_24 : decode cX4_init 24 = .ok (.newarray .int, 2) := by decide +kernel
theorem dk_4_26 : decode cX4_init 26 = .ok (.putfield 18, 3) := by decide +kernel
theorem dk_4_29 : decode cX4_init 29 = .ok (.aload_n 0, 1) := by decide +kernel
theorem dk_4_30 : decode cX4_init 30 = .ok (.bipush 16, 2) := by decide +kernel
theorem dk_4_32 : decode cX4_init 32 = .ok (.newarray .int, 2) := by decide +kernel
theorem dk_4_34 : decode cX4_init 34 = .ok (.putfield 21, 3) := by decide +kernel
theorem dk_4_37 : decode cX4_init 37 = .ok (.aload_n 0, 1) := by decide +kernel
theorem dk_4_38 : decode cX4_init 38 = .ok (.bipush 16, 2) := by decide +kernel
theorem dk_4_40 : decode cX4_init 40 = .ok (.newarray .int, 2) := by decide +kernel
theorem dk_4_42 : decode cX4_init 42 = .ok (.putfield 24, 3) := by decide +kernel
theorem dk_4_45 : decode cX4_init 45 = .ok (.aload_n 0, 1) := by decide +kernel
theorem dk_4_46 : decode cX4_init 46 = .ok (.bipush 16, 2) := by decide +kernel
theorem dk_4_48 : decode cX4_init 48 = .ok (.newarray .boolean, 2) := by decide +kernel
theorem dk_4_50 : decode cX4_init 50 = .ok (.putfield 27, 3) := by decide +kernel
theorem dk_4_53 : decode cX4_init 53 = .ok (.aload_n 0, 1) := by decide +kernel
theorem dk_4_54 : decode cX4_init 54 = .ok (.bipush 16, 2) := by decide +kernel
theorem dk_4_56 : decode cX4_init 56 = .ok (.newarray .int, 2) := by decide +kernel
theorem dk_4_58 : decode cX4_init 58 = .ok (.putfield 31, 3) := by decide +kernel
theorem dk_4_61 : decode cX4_init 61 = .ok (.aload_n 0, 1) := by decide +kernel
theorem dk_4_62 : decode cX4_init 62 = .ok (.sipush 8080, 3) := by decide +kernel
theorem dk_4_65 : decode cX4_init 65 = .ok (.newarray .int, 2) := by decide +kernel
theorem dk_4_67 : decode cX4_init 67 = .ok (.putfield 34, 3) := by decide +kernel
theorem dk_4_70 : decode cX4_init 70 = .ok (.aload_n 0, 1) := by decide +kernel
theorem dk_4_71 : decode cX4_init 71 = .ok (.iconst 0, 1) := by decide +kernel
theorem dk_4_72 : decode cX4_init 72 = .ok (.putfield 37, 3) := by decide +kernel
theorem dk_4_75 : decode cX4_init 75 = .ok (.aload_n 0, 1) := by decide +kernel
theorem dk_4_76 : decode cX4_init 76 = .ok (.iconst 0, 1) := by decide +kernel
theorem dk_4_77 : decode cX4_init 77 = .ok (.putfield 41, 3) := by decide +kernel
theorem dk_4_80 : decode cX4_init 80 = .ok (.aload_n 0, 1) := by decide +kernel
theorem dk_4_81 : decode cX4_init 81 = .ok (.iconst 0, 1) := by decide +kernel
theorem dk_4_82 : decode cX4_init 82 = .ok (.putfield 44, 3) := by decide +kernel
theorem dk_4_85 : decode cX4_init 85 = .ok (.aload_n 0, 1) := by decide +kernel
theorem dk_4_86 : decode cX4_init 86 = .ok (.bipush 12, 2) := by decide +kernel
theorem dk_4_88 : decode cX4_init 88 = .ok (.putfield 47, 3) := by decide +kernel
theorem dk_4_91 : decode cX4_init 91 = .ok (.aload_n 0, 1) := by decide +kernel
theorem dk_4_92 : decode cX4_init 92 = .ok (.aload_n 1, 1) := by decide +kernel
theorem dk_4_93 : decode cX4_init 93 = .ok (.putfield 50, 3) := by decide +kernel
theorem dk_4_96 : decode cX4_init 96 = .ok (.return_, 1) := by decide +kernel
set_option maxRecDepth 100000 in
theorem kk_4 : ([(1156, Jvm.Cond.methodLink RX4 5 objectInit),
  (1019, Jvm.Cond.instanceMethod objectInit),
  (1020, Jvm.Cond.code objectInit ⟨#[0xb1]⟩ 1 none),
  (1158, Jvm.Cond.fieldLink RX4 11 RX4 (TX4 1).2.1 (TX4 1).2.2.1),
  (1080, Jvm.Cond.arrayClass .int),
  (1159, Jvm.Cond.fieldLink RX4 15 RX4 (TX4 2).2.1 (TX4 2).2.2.1),
  (1160, Jvm.Cond.fieldLink RX4 18 RX4 (TX4 3).2.1 (TX4 3).2.2.1),
  (1161, Jvm.Cond.fieldLink RX4 21 RX4 (TX4 4).2.1 (TX4 4).2.2.1),
  (1162, Jvm.Cond.fieldLink RX4 24 RX4 (TX4 5).2.1 (TX4 5).2.2.1),
  (1163, Jvm.Cond.fieldLink RX4 27 RX4 (TX4 6).2.1 (TX4 6).2.2.1),
  (1197, Jvm.Cond.arrayClass .boolean),
  (1164, Jvm.Cond.fieldLink RX4 31 RX4 (TX4 7).2.1 (TX4 7).2.2.1),
  (1165, Jvm.Cond.fieldLink RX4 34 RX4 (TX4 8).2.1 (TX4 8).2.2.1),
  (1166, Jvm.Cond.fieldLink RX4 37 RX4 (TX4 9).2.1 (TX4 9).2.2.1),
  (1167, Jvm.Cond.fieldLink RX4 41 RX4 (TX4 10).2.1 (TX4 10).2.2.1),
  (1168, Jvm.Cond.fieldLink RX4 44 RX4 (TX4 11).2.1 (TX4 11).2.2.1),
  (1169, Jvm.Cond.fieldLink RX4 47 RX4 (TX4 12).2.1 (TX4 12).2.2.1),
  (1157, Jvm.Cond.fieldLink RX4 50 RX4 (TX4 0).2.1 (TX4 0).2.2.1)] : List (Nat × Jvm.Cond)).all (fun q => am_at q.1 q.2) = true := by decide +kernel
def sh_4 (b h1 : Nat) (w : va_W) (t : List (ClassId × FieldType)) : Prop := ∃ (q1 : Nat) (c1 : ClassId) (q2 : Nat) (c2 : ClassId) (q3 : Nat) (c3 : ClassId) (q4 : Nat) (c4 : ClassId) (q5 : Nat) (c5 : ClassId) (q6 : Nat) (c6 : ClassId) (q7 : Nat) (c7 : ClassId) (q8 : Nat) (c8 : ClassId), w = [(b, .inr (4, [.ref h1, .ref q1, .ref q2, .ref q3, .ref q4, .ref q5, .ref q6, .ref q7, .ref q8, .int 0, .int 0, .int 0, .int 12])), (q1, kI c1 1515), (q2, kI c2 64), (q3, kI c3 16), (q4, kI c4 16), (q5, kI c5 16), (q6, kI c6 16), (q7, kI c7 16), (q8, kI c8 8080)] ∧ t = [(c1, .int), (c2, .int), (c3, .int), (c4, .int), (c5, .int), (c6, .boolean), (c7, .int), (c8, .int)]
set_option maxHeartbeats 4000000 in
set_option maxRecDepth 100000 in
theorem kc_4 (l : Launch) (D : va_G) (b h1 : Nat) : kM l yX4_init cX4_init 2 { frames := 1, cells := 8, slots := 9739, locals := 12 } D [.ref b, .ref h1] [(b, .inr (4, [.null, .null, .null, .null, .null, .null, .null, .null, .null, .int 0, .int 0, .int 0, .int 0]))] (sh_4 b h1) := by
  refine kM_of (by decide +kernel) rfl (Nat.le_of_ble_eq_true rfl) ?_
  intro p e s m args below meth c A ls C hin hr hlk K hl
  have C : kx p s m args c cX4_init 2 RX4 A := C
  have hl : lv_has ls 2 [(0, .ref b), (1, .ref h1)] := hl
  refine lv_aload_n C.1 C.2.1 dk_4_0 rfl (lv_at hl 0 rfl) ?_
  refine ks_obj C hl (kk_mem kk_4 (i := 0) rfl) ⟨(kk_mem kk_4 (i := 1) rfl), (kk_mem kk_4 (i := 2) rfl)⟩ dk_4_1 ⟨Nat.le_of_ble_eq_true rfl, Nat.le_of_ble_eq_true rfl⟩ ?_
  refine lv_aload_n C.1 C.2.1 dk_4_4 rfl (lv_at hl 0 rfl) ?_
  refine lv_sipush (v := 1515) C.1 C.2.1 dk_4_5 (by decide) ?_
  refine ks_na (a0 := (1515, .inl (fun _ => 0))) (N' := 1515) (k1 := 1) (n1 := 1515) (T := TX4) (N := 13) C hin K 0 (fun _ => rfl) rfl 1 .int rfl ⟨by decide, rfl, rfl, tyX4_ok 1 (by decide)⟩ (Nat.le_of_ble_eq_true rfl) (kk_mem kk_4 (i := 3) rfl) (kk_mem kk_4 (i := 4) rfl) (fun _ => rfl) (by decide) (by decide) (by decide) ⟨rfl, Nat.le_of_ble_eq_true rfl⟩ ⟨rfl, Nat.le_of_ble_eq_true rfl⟩ dk_4_8 dk_4_10 (fun q1 c1 H locs K => ?_)
  have K : kw D A [(c1, .int)] [(b, .inr (4, [.null, .ref q1, .null, .null, .null, .null, .null, .null, .null, .int 0, .int 0, .int 0, .int 0])), (q1, kI c1 1515)] s H locs := K
  refine lv_aload_n C.1 C.2.1 dk_4_13 rfl (lv_at hl 0 rfl) ?_
  refine lv_bipush (v := 64) C.1 C.2.1 dk_4_14 (by decide) ?_
  refine ks_na (a0 := (64, .inl (fun _ => 0))) (N' := 64) (k1 := 2) (n1 := 1579) (T := TX4) (N := 13) C hin K 0 (fun _ => rfl) rfl 2 .int rfl ⟨by decide, rfl, rfl, tyX4_ok 2 (by decide)⟩ (Nat.le_of_ble_eq_true rfl) (kk_mem kk_4 (i := 5) rfl) (kk_mem kk_4 (i := 4) rfl) (fun _ => rfl) (by decide) (by decide) (by decide) ⟨rfl, Nat.le_of_ble_eq_true rfl⟩ ⟨rfl, Nat.le_of_ble_eq_true rfl⟩ dk_4_16 dk_4_18 (fun q2 c2 H locs K => ?_)
  have K : kw D A [(c1, .int), (c2, .int)] [(b, .inr (4, [.null, .ref q1, .ref q2, .null, .null, .null, .null, .null, .null, .int 0, .int 0, .int 0, .int 0])), (q1, kI c1 1515), (q2, kI c2 64)] s H locs := K
  refine lv_aload_n C.1 C.2.1 dk_4_21 rfl (lv_at hl 0 rfl) ?_
  refine lv_bipush (v := 16) C.1 C.2.1 dk_4_22 (by decide) ?_
  refine ks_na (a0 := (16, .inl (fun _ => 0))) (N' := 16) (k1 := 3) (n1 := 1595) (T := TX4) (N := 13) C hin K 0 (fun _ => rfl) rfl 3 .int rfl ⟨by decide, rfl, rfl, tyX4_ok 3 (by decide)⟩ (Nat.le_of_ble_eq_true rfl) (kk_mem kk_4 (i := 6) rfl) (kk_mem kk_4 (i := 4) rfl) (fun _ => rfl) (by decide) (by decide) (by decide) ⟨rfl, Nat.le_of_ble_eq_true rfl⟩ ⟨rfl, Nat.le_of_ble_eq_true rfl⟩ dk_4_24 dk_4_26 (fun q3 c3 H locs K => ?_)
  have K : kw D A [(c1, .int), (c2, .int), (c3, .int)] [(b, .inr (4, [.null, .ref q1, .ref q2, .ref q3, .null, .null, .null, .null, .null, .int 0, .int 0, .int 0, .int 0])), (q1, kI c1 1515), (q2, kI c2 64), (q3, kI c3 16)] s H locs := K
  refine lv_aload_n C.1 C.2.1 dk_4_29 rfl (lv_at hl 0 rfl) ?_
  refine lv_bipush (v := 16) C.1 C.2.1 dk_4_30 (by decide) ?_
  refine ks_na (a0 := (16, .inl (fun _ => 0))) (N' := 16) (k1 := 4) (n1 := 1611) (T := TX4) (N := 13) C hin K 0 (fun _ => rfl) rfl 4 .int rfl ⟨by decide, rfl, rfl, tyX4_ok 4 (by decide)⟩ (Nat.le_of_ble_eq_true rfl) (kk_mem kk_4 (i := 7) rfl) (kk_mem kk_4 (i := 4) rfl) (fun _ => rfl) (by decide) (by decide) (by decide) ⟨rfl, Nat.le_of_ble_eq_true rfl⟩ ⟨rfl, Nat.le_of_ble_eq_true rfl⟩ dk_4_32 dk_4_34 (fun q4 c4 H locs K => ?_)
  have K : kw D A [(c1, .int), (c2, .int), (c3, .int), (c4, .int)] [(b, .inr (4, [.null, .ref q1, .ref q2, .ref q3, .ref q4, .null, .null, .null, .null, .int 0, .int 0, .int 0, .int 0])), (q1, kI c1 1515), (q2, kI c2 64), (q3, kI c3 16), (q4, kI c4 16)] s H locs := K
  refine lv_aload_n C.1 C.2.1 dk_4_37 rfl (lv_at hl 0 rfl) ?_
  refine lv_bipush (v := 16) C.1 C.2.1 dk_4_38 (by decide) ?_
  refine ks_na (a0 := (16, .inl (fun _ => 0))) (N' := 16) (k1 := 5) (n1 := 1627) (T := TX4) (N := 13) C hin K 0 (fun _ => rfl) rfl 5 .int rfl ⟨by decide, rfl, rfl, tyX4_ok 5 (by decide)⟩ (Nat.le_of_ble_eq_true rfl) (kk_mem kk_4 (i := 8) rfl) (kk_mem kk_4 (i := 4) rfl) (fun _ => rfl) (by decide) (by decide) (by decide) ⟨rfl, Nat.le_of_ble_eq_true rfl⟩ ⟨rfl, Nat.le_of_ble_eq_true rfl⟩ dk_4_40 dk_4_42 (fun q5 c5 H locs K => ?_)
  have K : kw D A [(c1, .int), (c2, .int), (c3, .int), (c4, .int), (c5, .int)] [(b, .inr (4, [.null, .ref q1, .ref q2, .ref q3, .ref q4, .ref q5, .null, .null, .null, .int 0, .int 0, .int 0, .int 0])), (q1, kI c1 1515), (q2, kI c2 64), (q3, kI c3 16), (q4, kI c4 16), (q5, kI c5 16)] s H locs := K
  refine lv_aload_n C.1 C.2.1 dk_4_45 rfl (lv_at hl 0 rfl) ?_
  refine lv_bipush (v := 16) C.1 C.2.1 dk_4_46 (by decide) ?_
  refine ks_na (a0 := (16, .inl (fun _ => 0))) (N' := 16) (k1 := 6) (n1 := 1643) (T := TX4) (N := 13) C hin K 0 (fun _ => rfl) rfl 6 .boolean rfl ⟨by decide, rfl, rfl, tyX4_ok 6 (by decide)⟩ (Nat.le_of_ble_eq_true rfl) (kk_mem kk_4 (i := 9) rfl) (kk_mem kk_4 (i := 10) rfl) (fun _ => rfl) (by decide) (by decide) (by decide) ⟨rfl, Nat.le_of_ble_eq_true rfl⟩ ⟨rfl, Nat.le_of_ble_eq_true rfl⟩ dk_4_48 dk_4_50 (fun q6 c6 H locs K => ?_)
  have K : kw D A [(c1, .int), (c2, .int), (c3, .int), (c4, .int), (c5, .int), (c6, .boolean)] [(b, .inr (4, [.null, .ref q1, .ref q2, .ref q3, .ref q4, .ref q5, .ref q6, .null, .null, .int 0, .int 0, .int 0, .int 0])), (q1, kI c1 1515), (q2, kI c2 64), (q3, kI c3 16), (q4, kI c4 16), (q5, kI c5 16), (q6, kI c6 16)] s H locs := K
  refine lv_aload_n C.1 C.2.1 dk_4_53 rfl (lv_at hl 0 rfl) ?_
  refine lv_bipush (v := 16) C.1 C.2.1 dk_4_54 (by decide) ?_
  refine ks_na (a0 := (16, .inl (fun _ => 0))) (N' := 16) (k1 := 7) (n1 := 1659) (T := TX4) (N := 13) C hin K 0 (fun _ => rfl) rfl 7 .int rfl ⟨by decide, rfl, rfl, tyX4_ok 7 (by decide)⟩ (Nat.le_of_ble_eq_true rfl) (kk_mem kk_4 (i := 11) rfl) (kk_mem kk_4 (i := 4) rfl) (fun _ => rfl) (by decide) (by decide) (by decide) ⟨rfl, Nat.le_of_ble_eq_true rfl⟩ ⟨rfl, Nat.le_of_ble_eq_true rfl⟩ dk_4_56 dk_4_58 (fun q7 c7 H locs K => ?_)
  have K : kw D A [(c1, .int), (c2, .int), (c3, .int), (c4, .int), (c5, .int), (c6, .boolean), (c7, .int)] [(b, .inr (4, [.null, .ref q1, .ref q2, .ref q3, .ref q4, .ref q5, .ref q6, .ref q7, .null, .int 0, .int 0, .int 0, .int 0])), (q1, kI c1 1515), (q2, kI c2 64), (q3, kI c3 16), (q4, kI c4 16), (q5, kI c5 16), (q6, kI c6 16), (q7, kI c7 16)] s H locs := K
  refine lv_aload_n C.1 C.2.1 dk_4_61 rfl (lv_at hl 0 rfl) ?_
  refine lv_sipush (v := 8080) C.1 C.2.1 dk_4_62 (by decide) ?_
  refine ks_na (a0 := (8080, .inl (fun _ => 0))) (N' := 8080) (k1 := 8) (n1 := 9739) (T := TX4) (N := 13) C hin K 0 (fun _ => rfl) rfl 8 .int rfl ⟨by decide, rfl, rfl, tyX4_ok 8 (by decide)⟩ (Nat.le_of_ble_eq_true rfl) (kk_mem kk_4 (i := 12) rfl) (kk_mem kk_4 (i := 4) rfl) (fun _ => rfl) (by decide) (by decide) (by decide) ⟨rfl, Nat.le_of_ble_eq_true rfl⟩ ⟨rfl, Nat.le_of_ble_eq_true rfl⟩ dk_4_65 dk_4_67 (fun q8 c8 H locs K => ?_)
  have K : kw D A [(c1, .int), (c2, .int), (c3, .int), (c4, .int), (c5, .int), (c6, .boolean), (c7, .int), (c8, .int)] [(b, .inr (4, [.null, .ref q1, .ref q2, .ref q3, .ref q4, .ref q5, .ref q6, .ref q7, .ref q8, .int 0, .int 0, .int 0, .int 0])), (q1, kI c1 1515), (q2, kI c2 64), (q3, kI c3 16), (q4, kI c4 16), (q5, kI c5 16), (q6, kI c6 16), (q7, kI c7 16), (q8, kI c8 8080)] s H locs := K
  refine lv_aload_n C.1 C.2.1 dk_4_70 rfl (lv_at hl 0 rfl) ?_
  refine lv_iconst (v := 0) C.1 C.2.1 dk_4_71 (by decide) ?_
  refine ks_put (v := .int 0) (T := TX4) (N := 13) C K 0 rfl rfl 9 .int ⟨by decide, rfl, rfl, tyX4_ok 9 (by decide)⟩ ⟨rfl, rfl⟩ (Nat.le_of_ble_eq_true rfl) (kk_mem kk_4 (i := 13) rfl) dk_4_72 (fun H locs K => ?_)
  have K : kw D A [(c1, .int), (c2, .int), (c3, .int), (c4, .int), (c5, .int), (c6, .boolean), (c7, .int), (c8, .int)] [(b, .inr (4, [.null, .ref q1, .ref q2, .ref q3, .ref q4, .ref q5, .ref q6, .ref q7, .ref q8, .int 0, .int 0, .int 0, .int 0])), (q1, kI c1 1515), (q2, kI c2 64), (q3, kI c3 16), (q4, kI c4 16), (q5, kI c5 16), (q6, kI c6 16), (q7, kI c7 16), (q8, kI c8 8080)] s H locs := K
  refine lv_aload_n C.1 C.2.1 dk_4_75 rfl (lv_at hl 0 rfl) ?_
  refine lv_iconst (v := 0) C.1 C.2.1 dk_4_76 (by decide) ?_
  refine ks_put (v := .int 0) (T := TX4) (N := 13) C K 0 rfl rfl 10 .int ⟨by decide, rfl, rfl, tyX4_ok 10 (by decide)⟩ ⟨rfl, rfl⟩ (Nat.le_of_ble_eq_true rfl) (kk_mem kk_4 (i := 14) rfl) dk_4_77 (fun H locs K => ?_)
  have K : kw D A [(c1, .int), (c2, .int), (c3, .int), (c4, .int), (c5, .int), (c6, .boolean), (c7, .int), (c8, .int)] [(b, .inr (4, [.null, .ref q1, .ref q2, .ref q3, .ref q4, .ref q5, .ref q6, .ref q7, .ref q8, .int 0, .int 0, .int 0, .int 0])), (q1, kI c1 1515), (q2, kI c2 64), (q3, kI c3 16), (q4, kI c4 16), (q5, kI c5 16), (q6, kI c6 16), (q7, kI c7 16), (q8, kI c8 8080)] s H locs := K
  refine lv_aload_n C.1 C.2.1 dk_4_80 rfl (lv_at hl 0 rfl) ?_
  refine lv_iconst (v := 0) C.1 C.2.1 dk_4_81 (by decide) ?_
  refine ks_put (v := .int 0) (T := TX4) (N := 13) C K 0 rfl rfl 11 .int ⟨by decide, rfl, rfl, tyX4_ok 11 (by decide)⟩ ⟨rfl, rfl⟩ (Nat.le_of_ble_eq_true rfl) (kk_mem kk_4 (i := 15) rfl) dk_4_82 (fun H locs K => ?_)
  have K : kw D A [(c1, .int), (c2, .int), (c3, .int), (c4, .int), (c5, .int), (c6, .boolean), (c7, .int), (c8, .int)] [(b, .inr (4, [.null, .ref q1, .ref q2, .ref q3, .ref q4, .ref q5, .ref q6, .ref q7, .ref q8, .int 0, .int 0, .int 0, .int 0])), (q1, kI c1 1515), (q2, kI c2 64), (q3, kI c3 16), (q4, kI c4 16), (q5, kI c5 16), (q6, kI c6 16), (q7, kI c7 16), (q8, kI c8 8080)] s H locs := K
  refine lv_aload_n C.1 C.2.1 dk_4_85 rfl (lv_at hl 0 rfl) ?_
  refine lv_bipush (v := 12) C.1 C.2.1 dk_4_86 (by decide) ?_
  refine ks_put (v := .int 12) (T := TX4) (N := 13) C K 0 rfl rfl 12 .int ⟨by decide, rfl, rfl, tyX4_ok 12 (by decide)⟩ ⟨rfl, rfl⟩ (Nat.le_of_ble_eq_true rfl) (kk_mem kk_4 (i := 16) rfl) dk_4_88 (fun H locs K => ?_)
  have K : kw D A [(c1, .int), (c2, .int), (c3, .int), (c4, .int), (c5, .int), (c6, .boolean), (c7, .int), (c8, .int)] [(b, .inr (4, [.null, .ref q1, .ref q2, .ref q3, .ref q4, .ref q5, .ref q6, .ref q7, .ref q8, .int 0, .int 0, .int 0, .int 12])), (q1, kI c1 1515), (q2, kI c2 64), (q3, kI c3 16), (q4, kI c4 16), (q5, kI c5 16), (q6, kI c6 16), (q7, kI c7 16), (q8, kI c8 8080)] s H locs := K
  refine lv_aload_n C.1 C.2.1 dk_4_91 rfl (lv_at hl 0 rfl) ?_
  refine lv_aload_n C.1 C.2.1 dk_4_92 rfl (lv_at hl 1 rfl) ?_
  refine ks_putF (v := .ref h1) (T := TX4) (N := 13) C hin K 0 rfl rfl 0 (.object "ThreeRings$Plan") ⟨by decide, rfl, rfl, tyX4_ok 0 (by decide)⟩ ⟨rfl, rfl⟩ (Nat.le_of_ble_eq_true rfl) (kk_mem kk_4 (i := 17) rfl) dk_4_93 (fun H locs K => ?_)
  have K : kw D A [(c1, .int), (c2, .int), (c3, .int), (c4, .int), (c5, .int), (c6, .boolean), (c7, .int), (c8, .int)] [(b, .inr (4, [.ref h1, .ref q1, .ref q2, .ref q3, .ref q4, .ref q5, .ref q6, .ref q7, .ref q8, .int 0, .int 0, .int 0, .int 12])), (q1, kI c1 1515), (q2, kI c2 64), (q3, kI c3 16), (q4, kI c4 16), (q5, kI c5 16), (q6, kI c6 16), (q7, kI c7 16), (q8, kI c8 8080)] s H locs := K
  exact ks_ret C hr hlk K ⟨q1, c1, q2, c2, q3, c3, q4, c4, q5, c5, q6, c6, q7, c7, q8, c8, rfl, rfl⟩ dk_4_96
