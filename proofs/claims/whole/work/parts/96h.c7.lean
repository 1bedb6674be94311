/-! the constructor of class 7 (written by wip/whole/mkctor.py) -/
theorem dk_7_0 : decode cX7_init 0 = .ok (.aload_n 0, 1) := by decide +kernel
theorem dk_7_1 : decode cX7_init 1 = .ok (.invokespecial 1, 3) := by decide +kernel
theorem dk_7_4 : decode cX7_init 4 = .ok (.aload_n 0, 1) := by decide +kernel
theorem dk_7_5 : decode cX7_init 5 = .ok (.bipush 60, 2) := by decide +kernel
theorem dk_7_7 : decode cX7_init 7 = .ok (.newarray .int, 2) := by decide +kernel
theorem dk_7_9 : decode cX7_init 9 = .ok (.putfield 7, 3) := by decide +kernel
theorem dk_7_12 : decode cX7_init 12 = .ok (.aload_n 0, 1) := by decide +kernel
theorem dk_7_13 : decode cX7_init 13 = .ok (.bipush 12, 2) := by decide +kernel
theorem dk_7_15 : decode cX7_init 15 = .ok (.putfield 13, 3) := by decide +kernel
theorem dk_7_18 : decode cX7_init 18 = .ok (.aload_n 0, 1) := by decide +kernel
theorem dk_7_19 : decode cX7_init 19 = .ok (.bipush 8, 2) := by decide +kernel
theorem dk_7_21 : decode cX7_init 21 = .ok (.newarray .int, 2) := by decide +kernel
theorem dk_7_23 : decode cX7_init 23 = .ok (.putfield 17, 3) := by decide +kernel
theorem dk_7_26 : decode cX7_init 26 = .ok (.aload_n 0, 1) := by decide +kernel
theorem dk_7_27 : decode cX7_init 27 = .ok (.bipush 8, 2) := by decide +kernel
theorem dk_7_29 : decode cX7_init 29 = .ok (.newarray .int, 2) := by decide +kernel
theorem dk_7_31 : decode cX7_init 31 = .ok (.putfield 20, 3) := by decide +kernel
theorem dk_7_34 : decode cX7_init 34 = .ok (.aload_n 0, 1) := by decide +kernel
theorem dk_7_35 : decode cX7_init 35 = .ok (.bipush 8, 2) := by decide +kernel
theorem dk_7_37 : decode cX7_init 37 = .ok (.newarray .int, 2) := by decide +kernel
theorem dk_7_39 : decode cX7_init 39 = .ok (.putfield 23, 3) := by decide +kernel
theorem dk_7_42 : decode cX7_init 42 = .ok (.aload_n 0, 1) := by decide +kernel
theorem dk_7_43 : decode cX7_init 43 = .ok (.bipush 8, 2) := by decide +kernel
theorem dk_7_45 : decode cX7_init 45 = .ok (.newarray .int, 2) := by decide +kernel
theorem dk_7_47 : decode cX7_init 47 = .ok (.putfield 26, 3) := by decide +kernel
theorem dk_7_50 : decode cX7_init 50 = .ok (.aload_n 0, 1) := by decide +kernel
theorem dk_7_51 : decode cX7_init 51 = .ok (.iconst 3, 1) := by decide +kernel
theorem dk_7_52 : decode cX7_init 52 = .ok (.newarray .int, 2) := by decide +kernel
theorem dk_7_54 : decode cX7_init 54 = .ok (.putfield 29, 3) := by decide +kernel
theorem dk_7_57 : decode cX7_init 57 = .ok (.aload_n 0, 1) := by decide +kernel
theorem dk_7_58 : decode cX7_init 58 = .ok (.iconst 3, 1) := by decide +kernel
theorem dk_7_59 : decode cX7_init 59 = .ok (.newarray .int, 2) := by decide +kernel
theorem dk_7_61 : decode cX7_init 61 = .ok (.putfield 32, 3) := by decide +kernel
theorem dk_7_64 : decode cX7_init 64 = .ok (.aload_n 0, 1) := by decide +kernel
theorem dk_7_65 : decode cX7_init 65 = .ok (.iconst 3, 1) := by decide +kernel
theorem dk_7_66 : decode cX7_init 66 = .ok (.newarray .int, 2) := by decide +kernel
theorem dk_7_68 : decode cX7_init 68 = .ok (.putfield 35, 3) := by decide +kernel
theorem dk_7_71 : decode cX7_init 71 = .ok (.aload_n 0, 1) := by decide +kernel
theorem dk_7_72 : decode cX7_init 72 = .ok (.bipush 8, 2) := by decide +kernel
theorem dk_7_74 : decode cX7_init 74 = .ok (.newarray .int, 2) := by decide +kernel
theorem dk_7_76 : decode cX7_init 76 = .ok (.putfield 38, 3) := by decide +kernel
theorem dk_7_79 : decode cX7_init 79 = .ok (.aload_n 0, 1) := by decide +kernel
theorem dk_7_80 : decode cX7_init 80 = .ok (.bipush 8, 2) := by decide +kernel
theorem dk_7_82 : decode cX7_init 82 = .ok (.newarray .int, 2) := by decide +kernel
theorem dk_7_84 : decode cX7_init 84 = .ok (.putfield 41, 3) := by decide +kernel
theorem dk_7_87 : decode cX7_init 87 = .ok (.aload_n 0, 1) := by decide +kernel
theorem dk_7_88 : decode cX7_init 88 = .ok (.bipush 8, 2) := by decide +kernel
theorem dk_7_90 : decode cX7_init 90 = .ok (.newarray .int, 2) := by decide +kernel
theorem dk_7_92 : decode cX7_init 92 = .ok (.putfield 44, 3) := by decide +kernel
theorem dk_7_95 : decode cX7_init 95 = .ok (.aload_n 0, 1) := by decide +kernel
theorem dk_7_96 : decode cX7_init 96 = .ok (.bipush 8, 2) := by decide +kernel
theorem dk_7_98 : decode cX7_init 98 = .ok (.newarray .int, 2) := by decide +kernel
theorem dk_7_100 : decode cX7_init 100 = .ok (.putfield 47, 3) := by decide +kernel
theorem dk_7_103 : decode cX7_init 103 = .ok (.aload_n 0, 1) := by decide +kernel
theorem dk_7_104 : decode cX7_init 104 = .ok (.iconst 3, 1) := by decide +kernel
theorem dk_7_105 : decode cX7_init 105 = .ok (.newarray .int, 2) := by decide +kernel
theorem dk_7_107 : decode cX7_init 107 = .ok (.putfield 50, 3) := by decide +kernel
theorem dk_7_110 : decode cX7_init 110 = .ok (.aload_n 0, 1) := by decide +kernel
theorem dk_7_111 : decode cX7_init 111 = .ok (.bipush 8, 2) := by decide +kernel
theorem dk_7_113 : decode cX7_init 113 = .ok (.newarray .int, 2) := by decide +kernel
theorem dk_7_115 : decode cX7_init 115 = .ok (.putfield 53, 3) := by decide +kernel
theorem dk_7_118 : decode cX7_init 118 = .ok (.aload_n 0, 1) := by decide +kernel
theorem dk_7_119 : decode cX7_init 119 = .ok (.bipush 8, 2) := by decide +kernel
theorem dk_7_121 : decode cX7_init 121 = .ok (.newarray .int, 2) := by decide +kernel
theorem dk_7_123 : decode cX7_init 123 = .ok (.putfield 56, 3) := by decide +kernel
theorem dk_7_126 : decode cX7_init 126 = .ok (.aload_n 0, 1) := by decide +kernel
theorem dk_7_127 : decode cX7_init 127 = .ok (.bipush 8, 2) := by decide +kernel
theorem dk_7_129 : decode cX7_init 129 = .ok (.newarray .int, 2) := by decide +kernel
theorem dk_7_131 : decode cX7_init 131 = .ok (.putfield 59, 3) := by decide +kernel
theorem dk_7_134 : decode cX7_init 134 = .ok (.aload_n 0, 1) := by decide +kernel
theorem dk_7_135 : decode cX7_init 135 = .ok (.bipush 80, 2) := by decide +kernel
theorem dk_7_137 : decode cX7_init 137 = .ok (.newarray .int, 2) := by decide +kernel
theorem dk_7_139 : decode cX7_init 139 = .ok (.putfield 62, 3) := by decide +kernel
theorem dk_7_142 : decode cX7_init 142 = .ok (.aload_n 0, 1) := by decide +kernel
theorem dk_7_143 : decode cX7_init 143 = .ok (.iconst 2, 1) := by decide +kernel
theorem dk_7_144 : decode cX7_init 144 = .ok (.newarray .boolean, 2) := by decide +kernel
theorem dk_7_146 : decode cX7_init 146 = .ok (.putfield 65, 3) := by decide +kernel
theorem dk_7_149 : decode cX7_init 149 = .ok (.aload_n 0, 1) := by decide +kernel
theorem dk_7_150 : decode cX7_init 150 = .ok (.bipush 8, 2) := by decide +kernel
theorem dk_7_152 : decode cX7_init 152 = .ok (.newarray .int, 2) := by decide +kernel
theorem dk_7_154 : decode cX7_init 154 = .ok (.putfield 69, 3) := by decide +kernel
theorem dk_7_157 : decode cX7_init 157 = .ok (.aload_n 0, 1) := by decide +kernel
theorem dk_7_158 : decode cX7_init 158 = .ok (.bipush 8, 2) := by decide +kernel
theorem dk_7_160 : decode cX7_init 160 = .ok (.newarray .boolean, 2) := by decide +kernel
theorem dk_7_162 : decode cX7_init 162 = .ok (.putfield 72, 3) := by decide +kernel
theorem dk_7_165 : decode cX7_init 165 = .ok (.aload_n 0, 1) := by decide +kernel
theorem dk_7_166 : decode cX7_init 166 = .ok (.bipush 8, 2) := by decide +kernel
theorem dk_7_168 : decode cX7_init 168 = .ok (.newarray .int, 2) := by decide +kernel
theorem dk_7_170 : decode cX7_init 170 = .ok (.putfield 75, 3) := by decide +kernel
theorem dk_7_173 : decode cX7_init 173 = .ok (.aload_n 0, 1) := by decide +kernel
theorem dk_7_174 : decode cX7_init 174 = .ok (.sipush 2048, 3) := by decide +kernel
theorem dk_7_177 : decode cX7_init 177 = .ok (.newarray .int, 2) := by decide +kernel
theorem dk_7_179 : decode cX7_init 179 = .ok (.putfield 78, 3) := by decide +kernel
theorem dk_7_182 : decode cX7_init 182 = .ok (.aload_n 0, 1) := by decide +kernel
theorem dk_7_183 : decode cX7_init 183 = .ok (.sipush 432, 3) := by decide +kernel
theorem dk_7_186 : decode cX7_init 186 = .ok (.newarray .int, 2) := by decide +kernel
theorem dk_7_188 : decode cX7_init 188 = .ok (.putfield 81, 3) := by decide +kernel
theorem dk_7_191 : decode cX7_init 191 = .ok (.aload_n 0, 1) := by decide +kernel
theorem dk_7_192 : decode cX7_init 192 = .ok (.iconst 3, 1) := by decide +kernel
theorem dk_7_193 : decode cX7_init 193 = .ok (.newarray .int, 2) := by decide +kernel
theorem dk_7_195 : decode cX7_init 195 = .ok (.putfield 84, 3) := by decide +kernel
theorem dk_7_198 : decode cX7_init 198 = .ok (.aload_n 0, 1) := by decide +kernel
theorem dk_7_199 : decode cX7_init 199 = .ok (.iconst 3, 1) := by decide +kernel
theorem dk_7_200 : decode cX7_init 200 = .ok (.newarray .int, 2) := by decide +kernel
theorem dk_7_202 : decode cX7_init 202 = .ok (.putfield 87, 3) := by decide +kernel
theorem dk_7_205 : decode cX7_init 205 = .ok (.return_, 1) := by decide +kernel
set_option maxRecDepth 100000 in
theorem kk_7 : ([(4005, Jvm.Cond.methodLink RX7 1 objectInit),
  (1019, Jvm.Cond.instanceMethod objectInit),
  (1020, Jvm.Cond.code objectInit ⟨#[0xb1]⟩ 1 none),
  (4007, Jvm.Cond.fieldLink RX7 7 RX7 (TX7 1).2.1 (TX7 1).2.2.1),
  (1080, Jvm.Cond.arrayClass .int),
  (4010, Jvm.Cond.fieldLink RX7 13 RX7 (TX7 4).2.1 (TX7 4).2.2.1),
  (4012, Jvm.Cond.fieldLink RX7 17 RX7 (TX7 6).2.1 (TX7 6).2.2.1),
  (4013, Jvm.Cond.fieldLink RX7 20 RX7 (TX7 7).2.1 (TX7 7).2.2.1),
  (4014, Jvm.Cond.fieldLink RX7 23 RX7 (TX7 8).2.1 (TX7 8).2.2.1),
  (4015, Jvm.Cond.fieldLink RX7 26 RX7 (TX7 9).2.1 (TX7 9).2.2.1),
  (4016, Jvm.Cond.fieldLink RX7 29 RX7 (TX7 10).2.1 (TX7 10).2.2.1),
  (4017, Jvm.Cond.fieldLink RX7 32 RX7 (TX7 11).2.1 (TX7 11).2.2.1),
  (4018, Jvm.Cond.fieldLink RX7 35 RX7 (TX7 12).2.1 (TX7 12).2.2.1),
  (4021, Jvm.Cond.fieldLink RX7 38 RX7 (TX7 15).2.1 (TX7 15).2.2.1),
  (4022, Jvm.Cond.fieldLink RX7 41 RX7 (TX7 16).2.1 (TX7 16).2.2.1),
  (4023, Jvm.Cond.fieldLink RX7 44 RX7 (TX7 17).2.1 (TX7 17).2.2.1),
  (4024, Jvm.Cond.fieldLink RX7 47 RX7 (TX7 18).2.1 (TX7 18).2.2.1),
  (4025, Jvm.Cond.fieldLink RX7 50 RX7 (TX7 19).2.1 (TX7 19).2.2.1),
  (4028, Jvm.Cond.fieldLink RX7 53 RX7 (TX7 22).2.1 (TX7 22).2.2.1),
  (4029, Jvm.Cond.fieldLink RX7 56 RX7 (TX7 23).2.1 (TX7 23).2.2.1),
  (4030, Jvm.Cond.fieldLink RX7 59 RX7 (TX7 24).2.1 (TX7 24).2.2.1),
  (4031, Jvm.Cond.fieldLink RX7 62 RX7 (TX7 25).2.1 (TX7 25).2.2.1),
  (4032, Jvm.Cond.fieldLink RX7 65 RX7 (TX7 26).2.1 (TX7 26).2.2.1),
  (1197, Jvm.Cond.arrayClass .boolean),
  (4033, Jvm.Cond.fieldLink RX7 69 RX7 (TX7 27).2.1 (TX7 27).2.2.1),
  (4034, Jvm.Cond.fieldLink RX7 72 RX7 (TX7 28).2.1 (TX7 28).2.2.1),
  (4035, Jvm.Cond.fieldLink RX7 75 RX7 (TX7 29).2.1 (TX7 29).2.2.1),
  (4036, Jvm.Cond.fieldLink RX7 78 RX7 (TX7 30).2.1 (TX7 30).2.2.1),
  (4037, Jvm.Cond.fieldLink RX7 81 RX7 (TX7 31).2.1 (TX7 31).2.2.1),
  (4038, Jvm.Cond.fieldLink RX7 84 RX7 (TX7 32).2.1 (TX7 32).2.2.1),
  (4039, Jvm.Cond.fieldLink RX7 87 RX7 (TX7 33).2.1 (TX7 33).2.2.1)] : List (Nat × Jvm.Cond)).all (fun q => am_at q.1 q.2) = true := by decide +kernel
def sh_7 (b : Nat) (w : va_W) (t : List (ClassId × FieldType)) : Prop := ∃ (q1 : Nat) (c1 : ClassId) (q2 : Nat) (c2 : ClassId) (q3 : Nat) (c3 : ClassId) (q4 : Nat) (c4 : ClassId) (q5 : Nat) (c5 : ClassId) (q6 : Nat) (c6 : ClassId) (q7 : Nat) (c7 : ClassId) (q8 : Nat) (c8 : ClassId) (q9 : Nat) (c9 : ClassId) (q10 : Nat) (c10 : ClassId) (q11 : Nat) (c11 : ClassId) (q12 : Nat) (c12 : ClassId) (q13 : Nat) (c13 : ClassId) (q14 : Nat) (c14 : ClassId) (q15 : Nat) (c15 : ClassId) (q16 : Nat) (c16 : ClassId) (q17 : Nat) (c17 : ClassId) (q18 : Nat) (c18 : ClassId) (q19 : Nat) (c19 : ClassId) (q20 : Nat) (c20 : ClassId) (q21 : Nat) (c21 : ClassId) (q22 : Nat) (c22 : ClassId) (q23 : Nat) (c23 : ClassId) (q24 : Nat) (c24 : ClassId) (q25 : Nat) (c25 : ClassId), w = [(b, .inr (7, [.int 0, .ref q1, .int 0, .int 0, .int 12, .int 0, .ref q2, .ref q3, .ref q4, .ref q5, .ref q6, .ref q7, .ref q8, .int 0, .int 0, .ref q9, .ref q10, .ref q11, .ref q12, .ref q13, .int 0, .int 0, .ref q14, .ref q15, .ref q16, .ref q17, .ref q18, .ref q19, .ref q20, .ref q21, .ref q22, .ref q23, .ref q24, .ref q25, .int 0])), (q1, kI c1 60), (q2, kI c2 8), (q3, kI c3 8), (q4, kI c4 8), (q5, kI c5 8), (q6, kI c6 3), (q7, kI c7 3), (q8, kI c8 3), (q9, kI c9 8), (q10, kI c10 8), (q11, kI c11 8), (q12, kI c12 8), (q13, kI c13 3), (q14, kI c14 8), (q15, kI c15 8), (q16, kI c16 8), (q17, kI c17 80), (q18, kI c18 2), (q19, kI c19 8), (q20, kI c20 8), (q21, kI c21 8), (q22, kI c22 2048), (q23, kI c23 432), (q24, kI c24 3), (q25, kI c25 3)] ∧ t = [(c1, .int), (c2, .int), (c3, .int), (c4, .int), (c5, .int), (c6, .int), (c7, .int), (c8, .int), (c9, .int), (c10, .int), (c11, .int), (c12, .int), (c13, .int), (c14, .int), (c15, .int), (c16, .int), (c17, .int), (c18, .boolean), (c19, .int), (c20, .boolean), (c21, .int), (c22, .int), (c23, .int), (c24, .int), (c25, .int)]
set_option maxHeartbeats 4000000 in
set_option maxRecDepth 100000 in
theorem kc_7 (l : Launch) (D : va_G) (b : Nat) : kM l yX7_init cX7_init 1 { frames := 1, cells := 25, slots := 2752, locals := 12 } D [.ref b] [(b, .inr (7, [.int 0, .null, .int 0, .int 0, .int 0, .int 0, .null, .null, .null, .null, .null, .null, .null, .int 0, .int 0, .null, .null, .null, .null, .null, .int 0, .int 0, .null, .null, .null, .null, .null, .null, .null, .null, .null, .null, .null, .null, .int 0]))] (sh_7 b) := by
  refine kM_of (by decide +kernel) rfl (Nat.le_of_ble_eq_true rfl) ?_
  intro p e s m args below meth c A ls C hin hr hlk K hl
  have C : kx p s m args c cX7_init 1 RX7 A := C
  have hl : lv_has ls 1 [(0, .ref b)] := hl
  refine lv_aload_n C.1 C.2.1 dk_7_0 rfl (lv_at hl 0 rfl) ?_
  refine ks_obj C hl (kk_mem kk_7 (i := 0) rfl) ⟨(kk_mem kk_7 (i := 1) rfl), (kk_mem kk_7 (i := 2) rfl)⟩ dk_7_1 ⟨Nat.le_of_ble_eq_true rfl, Nat.le_of_ble_eq_true rfl⟩ ?_
  refine lv_aload_n C.1 C.2.1 dk_7_4 rfl (lv_at hl 0 rfl) ?_
  refine lv_bipush (v := 60) C.1 C.2.1 dk_7_5 (by decide) ?_
  refine ks_na (a0 := (60, .inl (fun _ => 0))) (N' := 60) (k1 := 1) (n1 := 60) (T := TX7) (N := 35) C hin K 0 (fun _ => rfl) rfl 1 .int rfl ⟨by decide, rfl, rfl, tyX7_ok 1 (by decide)⟩ (Nat.le_of_ble_eq_true rfl) (kk_mem kk_7 (i := 3) rfl) (kk_mem kk_7 (i := 4) rfl) (fun _ => rfl) (by decide) (by decide) (by decide) ⟨rfl, Nat.le_of_ble_eq_true rfl⟩ ⟨rfl, Nat.le_of_ble_eq_true rfl⟩ dk_7_7 dk_7_9 (fun q1 c1 H locs K => ?_)
  have K : kw D A [(c1, .int)] [(b, .inr (7, [.int 0, .ref q1, .int 0, .int 0, .int 0, .int 0, .null, .null, .null, .null, .null, .null, .null, .int 0, .int 0, .null, .null, .null, .null, .null, .int 0, .int 0, .null, .null, .null, .null, .null, .null, .null, .null, .null, .null, .null, .null, .int 0])), (q1, kI c1 60)] s H locs := K
  refine lv_aload_n C.1 C.2.1 dk_7_12 rfl (lv_at hl 0 rfl) ?_
  refine lv_bipush (v := 12) C.1 C.2.1 dk_7_13 (by decide) ?_
  refine ks_put (v := .int 12) (T := TX7) (N := 35) C K 0 rfl rfl 4 .int ⟨by decide, rfl, rfl, tyX7_ok 4 (by decide)⟩ ⟨rfl, rfl⟩ (Nat.le_of_ble_eq_true rfl) (kk_mem kk_7 (i := 5) rfl) dk_7_15 (fun H locs K => ?_)
  have K : kw D A [(c1, .int)] [(b, .inr (7, [.int 0, .ref q1, .int 0, .int 0, .int 12, .int 0, .null, .null, .null, .null, .null, .null, .null, .int 0, .int 0, .null, .null, .null, .null, .null, .int 0, .int 0, .null, .null, .null, .null, .null, .null, .null, .null, .null, .null, .null, .null, .int 0])), (q1, kI c1 60)] s H locs := K
  refine lv_aload_n C.1 C.2.1 dk_7_18 rfl (lv_at hl 0 rfl) ?_
  refine lv_bipush (v := 8) C.1 C.2.1 dk_7_19 (by decide) ?_
  refine ks_na (a0 := (8, .inl (fun _ => 0))) (N' := 8) (k1 := 2) (n1 := 68) (T := TX7) (N := 35) C hin K 0 (fun _ => rfl) rfl 6 .int rfl ⟨by decide, rfl, rfl, tyX7_ok 6 (by decide)⟩ (Nat.le_of_ble_eq_true rfl) (kk_mem kk_7 (i := 6) rfl) (kk_mem kk_7 (i := 4) rfl) (fun _ => rfl) (by decide) (by decide) (by decide) ⟨rfl, Nat.le_of_ble_eq_true rfl⟩ ⟨rfl, Nat.le_of_ble_eq_true rfl⟩ dk_7_21 dk_7_23 (fun q2 c2 H locs K => ?_)
  have K : kw D A [(c1, .int), (c2, .int)] [(b, .inr (7, [.int 0, .ref q1, .int 0, .int 0, .int 12, .int 0, .ref q2, .null, .null, .null, .null, .null, .null, .int 0, .int 0, .null, .null, .null, .null, .null, .int 0, .int 0, .null, .null, .null, .null, .null, .null, .null, .null, .null, .null, .null, .null, .int 0])), (q1, kI c1 60), (q2, kI c2 8)] s H locs := K
  refine lv_aload_n C.1 C.2.1 dk_7_26 rfl (lv_at hl 0 rfl) ?_
  refine lv_bipush (v := 8) C.1 C.2.1 dk_7_27 (by decide) ?_
  refine ks_na (a0 := (8, .inl (fun _ => 0))) (N' := 8) (k1 := 3) (n1 := 76) (T := TX7) (N := 35) C hin K 0 (fun _ => rfl) rfl 7 .int rfl ⟨by decide, rfl, rfl, tyX7_ok 7 (by decide)⟩ (Nat.le_of_ble_eq_true rfl) (kk_mem kk_7 (i := 7) rfl) (kk_mem kk_7 (i := 4) rfl) (fun _ => rfl) (by decide) (by decide) (by decide) ⟨rfl, Nat.le_of_ble_eq_true rfl⟩ ⟨rfl, Nat.le_of_ble_eq_true rfl⟩ dk_7_29 dk_7_31 (fun q3 c3 H locs K => ?_)
  have K : kw D A [(c1, .int), (c2, .int), (c3, .int)] [(b, .inr (7, [.int 0, .ref q1, .int 0, .int 0, .int 12, .int 0, .ref q2, .ref q3, .null, .null, .null, .null, .null, .int 0, .int 0, .null, .null, .null, .null, .null, .int 0, .int 0, .null, .null, .null, .null, .null, .null, .null, .null, .null, .null, .null, .null, .int 0])), (q1, kI c1 60), (q2, kI c2 8), (q3, kI c3 8)] s H locs := K
  refine lv_aload_n C.1 C.2.1 dk_7_34 rfl (lv_at hl 0 rfl) ?_
  refine lv_bipush (v := 8) C.1 C.2.1 dk_7_35 (by decide) ?_
  refine ks_na (a0 := (8, .inl (fun _ => 0))) (N' := 8) (k1 := 4) (n1 := 84) (T := TX7) (N := 35) C hin K 0 (fun _ => rfl) rfl 8 .int rfl ⟨by decide, rfl, rfl, tyX7_ok 8 (by decide)⟩ (Nat.le_of_ble_eq_true rfl) (kk_mem kk_7 (i := 8) rfl) (kk_mem kk_7 (i := 4) rfl) (fun _ => rfl) (by decide) (by decide) (by decide) ⟨rfl, Nat.le_of_ble_eq_true rfl⟩ ⟨rfl, Nat.le_of_ble_eq_true rfl⟩ dk_7_37 dk_7_39 (fun q4 c4 H locs K => ?_)
  have K : kw D A [(c1, .int), (c2, .int), (c3, .int), (c4, .int)] [(b, .inr (7, [.int 0, .ref q1, .int 0, .int 0, .int 12, .int 0, .ref q2, .ref q3, .ref q4, .null, .null, .null, .null, .int 0, .int 0, .null, .null, .null, .null, .null, .int 0, .int 0, .null, .null, .null, .null, .null, .null, .null, .null, .null, .null, .null, .null, .int 0])), (q1, kI c1 60), (q2, kI c2 8), (q3, kI c3 8), (q4, kI c4 8)] s H locs := K
  refine lv_aload_n C.1 C.2.1 dk_7_42 rfl (lv_at hl 0 rfl) ?_
  refine lv_bipush (v := 8) C.1 C.2.1 dk_7_43 (by decide) ?_
  refine ks_na (a0 := (8, .inl (fun _ => 0))) (N' := 8) (k1 := 5) (n1 := 92) (T := TX7) (N := 35) C hin K 0 (fun _ => rfl) rfl 9 .int rfl ⟨by decide, rfl, rfl, tyX7_ok 9 (by decide)⟩ (Nat.le_of_ble_eq_true rfl) (kk_mem kk_7 (i := 9) rfl) (kk_mem kk_7 (i := 4) rfl) (fun _ => rfl) (by decide) (by decide) (by decide) ⟨rfl, Nat.le_of_ble_eq_true rfl⟩ ⟨rfl, Nat.le_of_ble_eq_true rfl⟩ dk_7_45 dk_7_47 (fun q5 c5 H locs K => ?_)
  have K : kw D A [(c1, .int), (c2, .int), (c3, .int), (c4, .int), (c5, .int)] [(b, .inr (7, [.int 0, .ref q1, .int 0, .int 0, .int 12, .int 0, .ref q2, .ref q3, .ref q4, .ref q5, .null, .null, .null, .int 0, .int 0, .null, .null, .null, .null, .null, .int 0, .int 0, .null, .null, .null, .null, .null, .null, .null, .null, .null, .null, .null, .null, .int 0])), (q1, kI c1 60), (q2, kI c2 8), (q3, kI c3 8), (q4, kI c4 8), (q5, kI c5 8)] s H locs := K
  refine lv_aload_n C.1 C.2.1 dk_7_50 rfl (lv_at hl 0 rfl) ?_
  refine lv_iconst (v := 3) C.1 C.2.1 dk_7_51 (by decide) ?_
  refine ks_na (a0 := (3, .inl (fun _ => 0))) (N' := 3) (k1 := 6) (n1 := 95) (T := TX7) (N := 35) C hin K 0 (fun _ => rfl) rfl 10 .int rfl ⟨by decide, rfl, rfl, tyX7_ok 10 (by decide)⟩ (Nat.le_of_ble_eq_true rfl) (kk_mem kk_7 (i := 10) rfl) (kk_mem kk_7 (i := 4) rfl) (fun _ => rfl) (by decide) (by decide) (by decide) ⟨rfl, Nat.le_of_ble_eq_true rfl⟩ ⟨rfl, Nat.le_of_ble_eq_true rfl⟩ dk_7_52 dk_7_54 (fun q6 c6 H locs K => ?_)
  have K : kw D A [(c1, .int), (c2, .int), (c3, .int), (c4, .int), (c5, .int), (c6, .int)] [(b, .inr (7, [.int 0, .ref q1, .int 0, .int 0, .int 12, .int 0, .ref q2, .ref q3, .ref q4, .ref q5, .ref q6, .null, .null, .int 0, .int 0, .null, .null, .null, .null, .null, .int 0, .int 0, .null, .null, .null, .null, .null, .null, .null, .null, .null, .null, .null, .null, .int 0])), (q1, kI c1 60), (q2, kI c2 8), (q3, kI c3 8), (q4, kI c4 8), (q5, kI c5 8), (q6, kI c6 3)] s H locs := K
  refine lv_aload_n C.1 C.2.1 dk_7_57 rfl (lv_at hl 0 rfl) ?_
  refine lv_iconst (v := 3) C.1 C.2.1 dk_7_58 (by decide) ?_
  refine ks_na (a0 := (3, .inl (fun _ => 0))) (N' := 3) (k1 := 7) (n1 := 98) (T := TX7) (N := 35) C hin K 0 (fun _ => rfl) rfl 11 .int rfl ⟨by decide, rfl, rfl, tyX7_ok 11 (by decide)⟩ (Nat.le_of_ble_eq_true rfl) (kk_mem kk_7 (i := 11) rfl) (kk_mem kk_7 (i := 4) rfl) (fun _ => rfl) (by decide) (by decide) (by decide) ⟨rfl, Nat.le_of_ble_eq_true rfl⟩ ⟨rfl, Nat.le_of_ble_eq_true rfl⟩ dk_7_59 dk_7_61 (fun q7 c7 H locs K => ?_)
  have K : kw D A [(c1, .int), (c2, .int), (c3, .int), (c4, .int), (c5, .int), (c6, .int), (c7, .int)] [(b, .inr (7, [.int 0, .ref q1, .int 0, .int 0, .int 12, .int 0, .ref q2, .ref q3, .ref q4, .ref q5, .ref q6, .ref q7, .null, .int 0, .int 0, .null, .null, .null, .null, .null, .int 0, .int 0, .null, .null, .null, .null, .null, .null, .null, .null, .null, .null, .null, .null, .int 0])), (q1, kI c1 60), (q2, kI c2 8), (q3, kI c3 8), (q4, kI c4 8), (q5, kI c5 8), (q6, kI c6 3), (q7, kI c7 3)] s H locs := K
  refine lv_aload_n C.1 C.2.1 dk_7_64 rfl (lv_at hl 0 rfl) ?_
  refine lv_iconst (v := 3) C.1 C.2.1 dk_7_65 (by decide) ?_
  refine ks_na (a0 := (3, .inl (fun _ => 0))) (N' := 3) (k1 := 8) (n1 := 101) (T := TX7) (N := 35) C hin K 0 (fun _ => rfl) rfl 12 .int rfl ⟨by decide, rfl, rfl, tyX7_ok 12 (by decide)⟩ (Nat.le_of_ble_eq_true rfl) (kk_mem kk_7 (i := 12) rfl) (kk_mem kk_7 (i := 4) rfl) (fun _ => rfl) (by decide) (by decide) (by decide) ⟨rfl, Nat.le_of_ble_eq_true rfl⟩ ⟨rfl, Nat.le_of_ble_eq_true rfl⟩ dk_7_66 dk_7_68 (fun q8 c8 H locs K => ?_)
  have K : kw D A [(c1, .int), (c2, .int), (c3, .int), (c4, .int), (c5, .int), (c6, .int), (c7, .int), (c8, .int)] [(b, .inr (7, [.int 0, .ref q1, .int 0, .int 0, .int 12, .int 0, .ref q2, .ref q3, .ref q4, .ref q5, .ref q6, .ref q7, .ref q8, .int 0, .int 0, .null, .null, .null, .null, .null, .int 0, .int 0, .null, .null, .null, .null, .null, .null, .null, .null, .null, .null, .null, .null, .int 0])), (q1, kI c1 60), (q2, kI c2 8), (q3, kI c3 8), (q4, kI c4 8), (q5, kI c5 8), (q6, kI c6 3), (q7, kI c7 3), (q8, kI c8 3)] s H locs := K
  refine lv_aload_n C.1 C.2.1 dk_7_71 rfl (lv_at hl 0 rfl) ?_
  refine lv_bipush (v := 8) C.1 C.2.1 dk_7_72 (by decide) ?_
  refine ks_na (a0 := (8, .inl (fun _ => 0))) (N' := 8) (k1 := 9) (n1 := 109) (T := TX7) (N := 35) C hin K 0 (fun _ => rfl) rfl 15 .int rfl ⟨by decide, rfl, rfl, tyX7_ok 15 (by decide)⟩ (Nat.le_of_ble_eq_true rfl) (kk_mem kk_7 (i := 13) rfl) (kk_mem kk_7 (i := 4) rfl) (fun _ => rfl) (by decide) (by decide) (by decide) ⟨rfl, Nat.le_of_ble_eq_true rfl⟩ ⟨rfl, Nat.le_of_ble_eq_true rfl⟩ dk_7_74 dk_7_76 (fun q9 c9 H locs K => ?_)
  have K : kw D A [(c1, .int), (c2, .int), (c3, .int), (c4, .int), (c5, .int), (c6, .int), (c7, .int), (c8, .int), (c9, .int)] [(b, .inr (7, [.int 0, .ref q1, .int 0, .int 0, .int 12, .int 0, .ref q2, .ref q3, .ref q4, .ref q5, .ref q6, .ref q7, .ref q8, .int 0, .int 0, .ref q9, .null, .null, .null, .null, .int 0, .int 0, .null, .null, .null, .null, .null, .null, .null, .null, .null, .null, .null, .null, .int 0])), (q1, kI c1 60), (q2, kI c2 8), (q3, kI c3 8), (q4, kI c4 8), (q5, kI c5 8), (q6, kI c6 3), (q7, kI c7 3), (q8, kI c8 3), (q9, kI c9 8)] s H locs := K
  refine lv_aload_n C.1 C.2.1 dk_7_79 rfl (lv_at hl 0 rfl) ?_
  refine lv_bipush (v := 8) C.1 C.2.1 dk_7_80 (by decide) ?_
  refine ks_na (a0 := (8, .inl (fun _ => 0))) (N' := 8) (k1 := 10) (n1 := 117) (T := TX7) (N := 35) C hin K 0 (fun _ => rfl) rfl 16 .int rfl ⟨by decide, rfl, rfl, tyX7_ok 16 (by decide)⟩ (Nat.le_of_ble_eq_true rfl) (kk_mem kk_7 (i := 14) rfl) (kk_mem kk_7 (i := 4) rfl) (fun _ => rfl) (by decide) (by decide) (by decide) ⟨rfl, Nat.le_of_ble_eq_true rfl⟩ ⟨rfl, Nat.le_of_ble_eq_true rfl⟩ dk_7_82 dk_7_84 (fun q10 c10 H locs K => ?_)
  have K : kw D A [(c1, .int), (c2, .int), (c3, .int), (c4, .int), (c5, .int), (c6, .int), (c7, .int), (c8, .int), (c9, .int), (c10, .int)] [(b, .inr (7, [.int 0, .ref q1, .int 0, .int 0, .int 12, .int 0, .ref q2, .ref q3, .ref q4, .ref q5, .ref q6, .ref q7, .ref q8, .int 0, .int 0, .ref q9, .ref q10, .null, .null, .null, .int 0, .int 0, .null, .null, .null, .null, .null, .null, .null, .null, .null, .null, .null, .null, .int 0])), (q1, kI c1 60), (q2, kI c2 8), (q3, kI c3 8), (q4, kI c4 8), (q5, kI c5 8), (q6, kI c6 3), (q7, kI c7 3), (q8, kI c8 3), (q9, kI c9 8), (q10, kI c10 8)] s H locs := K
  refine lv_aload_n C.1 C.2.1 dk_7_87 rfl (lv_at hl 0 rfl) ?_
  refine lv_bipush (v := 8) C.1 C.2.1 dk_7_88 (by decide) ?_
  refine ks_na (a0 := (8, .inl (fun _ => 0))) (N' := 8) (k1 := 11) (n1 := 125) (T := TX7) (N := 35) C hin K 0 (fun _ => rfl) rfl 17 .int rfl ⟨by decide, rfl, rfl, tyX7_ok 17 (by decide)⟩ (Nat.le_of_ble_eq_true rfl) (kk_mem kk_7 (i := 15) rfl) (kk_mem kk_7 (i := 4) rfl) (fun _ => rfl) (by decide) (by decide) (by decide) ⟨rfl, Nat.le_of_ble_eq_true rfl⟩ ⟨rfl, Nat.le_of_ble_eq_true rfl⟩ dk_7_90 dk_7_92 (fun q11 c11 H locs K => ?_)
  have K : kw D A [(c1, .int), (c2, .int), (c3, .int), (c4, .int), (c5, .int), (c6, .int), (c7, .int), (c8, .int), (c9, .int), (c10, .int), (c11, .int)] [(b, .inr (7, [.int 0, .ref q1, .int 0, .int 0, .int 12, .int 0, .ref q2, .ref q3, .ref q4, .ref q5, .ref q6, .ref q7, .ref q8, .int 0, .int 0, .ref q9, .ref q10, .ref q11, .null, .null, .int 0, .int 0, .null, .null, .null, .null, .null, .null, .null, .null, .null, .null, .null, .null, .int 0])), (q1, kI c1 60), (q2, kI c2 8), (q3, kI c3 8), (q4, kI c4 8), (q5, kI c5 8), (q6, kI c6 3), (q7, kI c7 3), (q8, kI c8 3), (q9, kI c9 8), (q10, kI c10 8), (q11, kI c11 8)] s H locs := K
  refine lv_aload_n C.1 C.2.1 dk_7_95 rfl (lv_at hl 0 rfl) ?_
  refine lv_bipush (v := 8) C.1 C.2.1 dk_7_96 (by decide) ?_
  refine ks_na (a0 := (8, .inl (fun _ => 0))) (N' := 8) (k1 := 12) (n1 := 133) (T := TX7) (N := 35) C hin K 0 (fun _ => rfl) rfl 18 .int rfl ⟨by decide, rfl, rfl, tyX7_ok 18 (by decide)⟩ (Nat.le_of_ble_eq_true rfl) (kk_mem kk_7 (i := 16) rfl) (kk_mem kk_7 (i := 4) rfl) (fun _ => rfl) (by decide) (by decide) (by decide) ⟨rfl, Nat.le_of_ble_eq_true rfl⟩ ⟨rfl, Nat.le_of_ble_eq_true rfl⟩ dk_7_98 dk_7_100 (fun q12 c12 H locs K => ?_)
  have K : kw D A [(c1, .int), (c2, .int), (c3, .int), (c4, .int), (c5, .int), (c6, .int), (c7, .int), (c8, .int), (c9, .int), (c10, .int), (c11, .int), (c12, .int)] [(b, .inr (7, [.int 0, .ref q1, .int 0, .int 0, .int 12, .int 0, .ref q2, .ref q3, .ref q4, .ref q5, .ref q6, .ref q7, .ref q8, .int 0, .int 0, .ref q9, .ref q10, .ref q11, .ref q12, .null, .int 0, .int 0, .null, .null, .null, .null, .null, .null, .null, .null, .null, .null, .null, .null, .int 0])), (q1, kI c1 60), (q2, kI c2 8), (q3, kI c3 8), (q4, kI c4 8), (q5, kI c5 8), (q6, kI c6 3), (q7, kI c7 3), (q8, kI c8 3), (q9, kI c9 8), (q10, kI c10 8), (q11, kI c11 8), (q12, kI c12 8)] s H locs := K
  refine lv_aload_n C.1 C.2.1 dk_7_103 rfl (lv_at hl 0 rfl) ?_
  refine lv_iconst (v := 3) C.1 C.2.1 dk_7_104 (by decide) ?_
  refine ks_na (a0 := (3, .inl (fun _ => 0))) (N' := 3) (k1 := 13) (n1 := 136) (T := TX7) (N := 35) C hin K 0 (fun _ => rfl) rfl 19 .int rfl ⟨by decide, rfl, rfl, tyX7_ok 19 (by decide)⟩ (Nat.le_of_ble_eq_true rfl) (kk_mem kk_7 (i := 17) rfl) (kk_mem kk_7 (i := 4) rfl) (fun _ => rfl) (by decide) (by decide) (by decide) ⟨rfl, Nat.le_of_ble_eq_true rfl⟩ ⟨rfl, Nat.le_of_ble_eq_true rfl⟩ dk_7_105 dk_7_107 (fun q13 c13 H locs K => ?_)
  have K : kw D A [(c1, .int), (c2, .int), (c3, .int), (c4, .int), (c5, .int), (c6, .int), (c7, .int), (c8, .int), (c9, .int), (c10, .int), (c11, .int), (c12, .int), (c13, .int)] [(b, .inr (7, [.int 0, .ref q1, .int 0, .int 0, .int 12, .int 0, .ref q2, .ref q3, .ref q4, .ref q5, .ref q6, .ref q7, .ref q8, .int 0, .int 0, .ref q9, .ref q10, .ref q11, .ref q12, .ref q13, .int 0, .int 0, .null, .null, .null, .null, .null, .null, .null, .null, .null, .null, .null, .null, .int 0])), (q1, kI c1 60), (q2, kI c2 8), (q3, kI c3 8), (q4, kI c4 8), (q5, kI c5 8), (q6, kI c6 3), (q7, kI c7 3), (q8, kI c8 3), (q9, kI c9 8), (q10, kI c10 8), (q11, kI c11 8), (q12, kI c12 8), (q13, kI c13 3)] s H locs := K
  refine lv_aload_n C.1 C.2.1 dk_7_110 rfl (lv_at hl 0 rfl) ?_
  refine lv_bipush (v := 8) C.1 C.2.1 dk_7_111 (by decide) ?_
  refine ks_na (a0 := (8, .inl (fun _ => 0))) (N' := 8) (k1 := 14) (n1 := 144) (T := TX7) (N := 35) C hin K 0 (fun _ => rfl) rfl 22 .int rfl ⟨by decide, rfl, rfl, tyX7_ok 22 (by decide)⟩ (Nat.le_of_ble_eq_true rfl) (kk_mem kk_7 (i := 18) rfl) (kk_mem kk_7 (i := 4) rfl) (fun _ => rfl) (by decide) (by decide) (by decide) ⟨rfl, Nat.le_of_ble_eq_true rfl⟩ ⟨rfl, Nat.le_of_ble_eq_true rfl⟩ dk_7_113 dk_7_115 (fun q14 c14 H locs K => ?_)
  have K : kw D A [(c1, .int), (c2, .int), (c3, .int), (c4, .int), (c5, .int), (c6, .int), (c7, .int), (c8, .int), (c9, .int), (c10, .int), (c11, .int), (c12, .int), (c13, .int), (c14, .int)] [(b, .inr (7, [.int 0, .ref q1, .int 0, .int 0, .int 12, .int 0, .ref q2, .ref q3, .ref q4, .ref q5, .ref q6, .ref q7, .ref q8, .int 0, .int 0, .ref q9, .ref q10, .ref q11, .ref q12, .ref q13, .int 0, .int 0, .ref q14, .null, .null, .null, .null, .null, .null, .null, .null, .null, .null, .null, .int 0])), (q1, kI c1 60), (q2, kI c2 8), (q3, kI c3 8), (q4, kI c4 8), (q5, kI c5 8), (q6, kI c6 3), (q7, kI c7 3), (q8, kI c8 3), (q9, kI c9 8), (q10, kI c10 8), (q11, kI c11 8), (q12, kI c12 8), (q13, kI c13 3), (q14, kI c14 8)] s H locs := K
  refine lv_aload_n C.1 C.2.1 dk_7_118 rfl (lv_at hl 0 rfl) ?_
  refine lv_bipush (v := 8) C.1 C.2.1 dk_7_119 (by decide) ?_
  refine ks_na (a0 := (8, .inl (fun _ => 0))) (N' := 8) (k1 := 15) (n1 := 152) (T := TX7) (N := 35) C hin K 0 (fun _ => rfl) rfl 23 .int rfl ⟨by decide, rfl, rfl, tyX7_ok 23 (by decide)⟩ (Nat.le_of_ble_eq_true rfl) (kk_mem kk_7 (i := 19) rfl) (kk_mem kk_7 (i := 4) rfl) (fun _ => rfl) (by decide) (by decide) (by decide) ⟨rfl, Nat.le_of_ble_eq_true rfl⟩ ⟨rfl, Nat.le_of_ble_eq_true rfl⟩ dk_7_121 dk_7_123 (fun q15 c15 H locs K => ?_)
  have K : kw D A [(c1, .int), (c2, .int), (c3, .int), (c4, .int), (c5, .int), (c6, .int), (c7, .int), (c8, .int), (c9, .int), (c10, .int), (c11, .int), (c12, .int), (c13, .int), (c14, .int), (c15, .int)] [(b, .inr (7, [.int 0, .ref q1, .int 0, .int 0, .int 12, .int 0, .ref q2, .ref q3, .ref q4, .ref q5, .ref q6, .ref q7, .ref q8, .int 0, .int 0, .ref q9, .ref q10, .ref q11, .ref q12, .ref q13, .int 0, .int 0, .ref q14, .ref q15, .null, .null, .null, .null, .null, .null, .null, .null, .null, .null, .int 0])), (q1, kI c1 60), (q2, kI c2 8), (q3, kI c3 8), (q4, kI c4 8), (q5, kI c5 8), (q6, kI c6 3), (q7, kI c7 3), (q8, kI c8 3), (q9, kI c9 8), (q10, kI c10 8), (q11, kI c11 8), (q12, kI c12 8), (q13, kI c13 3), (q14, kI c14 8), (q15, kI c15 8)] s H locs := K
  refine lv_aload_n C.1 C.2.1 dk_7_126 rfl (lv_at hl 0 rfl) ?_
  refine lv_bipush (v := 8) C.1 C.2.1 dk_7_127 (by decide) ?_
  refine ks_na (a0 := (8, .inl (fun _ => 0))) (N' := 8) (k1 := 16) (n1 := 160) (T := TX7) (N := 35) C hin K 0 (fun _ => rfl) rfl 24 .int rfl ⟨by decide, rfl, rfl, tyX7_ok 24 (by decide)⟩ (Nat.le_of_ble_eq_true rfl) (kk_mem kk_7 (i := 20) rfl) (kk_mem kk_7 (i := 4) rfl) (fun _ => rfl) (by decide) (by decide) (by decide) ⟨rfl, Nat.le_of_ble_eq_true rfl⟩ ⟨rfl, Nat.le_of_ble_eq_true rfl⟩ dk_7_129 dk_7_131 (fun q16 c16 H locs K => ?_)
  have K : kw D A [(c1, .int), (c2, .int), (c3, .int), (c4, .int), (c5, .int), (c6, .int), (c7, .int), (c8, .int), (c9, .int), (c10, .int), (c11, .int), (c12, .int), (c13, .int), (c14, .int), (c15, .int), (c16, .int)] [(b, .inr (7, [.int 0, .ref q1, .int 0, .int 0, .int 12, .int 0, .ref q2, .ref q3, .ref q4, .ref q5, .ref q6, .ref q7, .ref q8, .int 0, .int 0, .ref q9, .ref q10, .ref q11, .ref q12, .ref q13, .int 0, .int 0, .ref q14, .ref q15, .ref q16, .null, .null, .null, .null, .null, .null, .null, .null, .null, .int 0])), (q1, kI c1 60), (q2, kI c2 8), (q3, kI c3 8), (q4, kI c4 8), (q5, kI c5 8), (q6, kI c6 3), (q7, kI c7 3), (q8, kI c8 3), (q9, kI c9 8), (q10, kI c10 8), (q11, kI c11 8), (q12, kI c12 8), (q13, kI c13 3), (q14, kI c14 8), (q15, kI c15 8), (q16, kI c16 8)] s H locs := K
  refine lv_aload_n C.1 C.2.1 dk_7_134 rfl (lv_at hl 0 rfl) ?_
  refine lv_bipush (v := 80) C.1 C.2.1 dk_7_135 (by decide) ?_
  refine ks_na (a0 := (80, .inl (fun _ => 0))) (N' := 80) (k1 := 17) (n1 := 240) (T := TX7) (N := 35) C hin K 0 (fun _ => rfl) rfl 25 .int rfl ⟨by decide, rfl, rfl, tyX7_ok 25 (by decide)⟩ (Nat.le_of_ble_eq_true rfl) (kk_mem kk_7 (i := 21) rfl) (kk_mem kk_7 (i := 4) rfl) (fun _ => rfl) (by decide) (by decide) (by decide) ⟨rfl, Nat.le_of_ble_eq_true rfl⟩ ⟨rfl, Nat.le_of_ble_eq_true rfl⟩ dk_7_137 dk_7_139 (fun q17 c17 H locs K => ?_)
  have K : kw D A [(c1, .int), (c2, .int), (c3, .int), (c4, .int), (c5, .int), (c6, .int), (c7, .int), (c8, .int), (c9, .int), (c10, .int), (c11, .int), (c12, .int), (c13, .int), (c14, .int), (c15, .int), (c16, .int), (c17, .int)] [(b, .inr (7, [.int 0, .ref q1, .int 0, .int 0, .int 12, .int 0, .ref q2, .ref q3, .ref q4, .ref q5, .ref q6, .ref q7, .ref q8, .int 0, .int 0, .ref q9, .ref q10, .ref q11, .ref q12, .ref q13, .int 0, .int 0, .ref q14, .ref q15, .ref q16, .ref q17, .null, .null, .null, .null, .null, .null, .null, .null, .int 0])), (q1, kI c1 60), (q2, kI c2 8), (q3, kI c3 8), (q4, kI c4 8), (q5, kI c5 8), (q6, kI c6 3), (q7, kI c7 3), (q8, kI c8 3), (q9, kI c9 8), (q10, kI c10 8), (q11, kI c11 8), (q12, kI c12 8), (q13, kI c13 3), (q14, kI c14 8), (q15, kI c15 8), (q16, kI c16 8), (q17, kI c17 80)] s H locs := K
  refine lv_aload_n C.1 C.2.1 dk_7_142 rfl (lv_at hl 0 rfl) ?_
  refine lv_iconst (v := 2) C.1 C.2.1 dk_7_143 (by decide) ?_
  refine ks_na (a0 := (2, .inl (fun _ => 0))) (N' := 2) (k1 := 18) (n1 := 242) (T := TX7) (N := 35) C hin K 0 (fun _ => rfl) rfl 26 .boolean rfl ⟨by decide, rfl, rfl, tyX7_ok 26 (by decide)⟩ (Nat.le_of_ble_eq_true rfl) (kk_mem kk_7 (i := 22) rfl) (kk_mem kk_7 (i := 23) rfl) (fun _ => rfl) (by decide) (by decide) (by decide) ⟨rfl, Nat.le_of_ble_eq_true rfl⟩ ⟨rfl, Nat.le_of_ble_eq_true rfl⟩ dk_7_144 dk_7_146 (fun q18 c18 H locs K => ?_)
  have K : kw D A [(c1, .int), (c2, .int), (c3, .int), (c4, .int), (c5, .int), (c6, .int), (c7, .int), (c8, .int), (c9, .int), (c10, .int), (c11, .int), (c12, .int), (c13, .int), (c14, .int), (c15, .int), (c16, .int), (c17, .int), (c18, .boolean)] [(b, .inr (7, [.int 0, .ref q1, .int 0, .int 0, .int 12, .int 0, .ref q2, .ref q3, .ref q4, .ref q5, .ref q6, .ref q7, .ref q8, .int 0, .int 0, .ref q9, .ref q10, .ref q11, .ref q12, .ref q13, .int 0, .int 0, .ref q14, .ref q15, .ref q16, .ref q17, .ref q18, .null, .null, .null, .null, .null, .null, .null, .int 0])), (q1, kI c1 60), (q2, kI c2 8), (q3, kI c3 8), (q4, kI c4 8), (q5, kI c5 8), (q6, kI c6 3), (q7, kI c7 3), (q8, kI c8 3), (q9, kI c9 8), (q10, kI c10 8), (q11, kI c11 8), (q12, kI c12 8), (q13, kI c13 3), (q14, kI c14 8), (q15, kI c15 8), (q16, kI c16 8), (q17, kI c17 80), (q18, kI c18 2)] s H locs := K
  refine lv_aload_n C.1 C.2.1 dk_7_149 rfl (lv_at hl 0 rfl) ?_
  refine lv_bipush (v := 8) C.1 C.2.1 dk_7_150 (by decide) ?_
  refine ks_na (a0 := (8, .inl (fun _ => 0))) (N' := 8) (k1 := 19) (n1 := 250) (T := TX7) (N := 35) C hin K 0 (fun _ => rfl) rfl 27 .int rfl ⟨by decide, rfl, rfl, tyX7_ok 27 (by decide)⟩ (Nat.le_of_ble_eq_true rfl) (kk_mem kk_7 (i := 24) rfl) (kk_mem kk_7 (i := 4) rfl) (fun _ => rfl) (by decide) (by decide) (by decide) ⟨rfl, Nat.le_of_ble_eq_true rfl⟩ ⟨rfl, Nat.le_of_ble_eq_true rfl⟩ dk_7_152 dk_7_154 (fun q19 c19 H locs K => ?_)
  have K : kw D A [(c1, .int), (c2, .int), (c3, .int), (c4, .int), (c5, .int), (c6, .int), (c7, .int), (c8, .int), (c9, .int), (c10, .int), (c11, .int), (c12, .int), (c13, .int), (c14, .int), (c15, .int), (c16, .int), (c17, .int), (c18, .boolean), (c19, .int)] [(b, .inr (7, [.int 0, .ref q1, .int 0, .int 0, .int 12, .int 0, .ref q2, .ref q3, .ref q4, .ref q5, .ref q6, .ref q7, .ref q8, .int 0, .int 0, .ref q9, .ref q10, .ref q11, .ref q12, .ref q13, .int 0, .int 0, .ref q14, .ref q15, .ref q16, .ref q17, .ref q18, .ref q19, .null, .null, .null, .null, .null, .null, .int 0])), (q1, kI c1 60), (q2, kI c2 8), (q3, kI c3 8), (q4, kI c4 8), (q5, kI c5 8), (q6, kI c6 3), (q7, kI c7 3), (q8, kI c8 3), (q9, kI c9 8), (q10, kI c10 8), (q11, kI c11 8), (q12, kI c12 8), (q13, kI c13 3), (q14, kI c14 8), (q15, kI c15 8), (q16, kI c16 8), (q17, kI c17 80), (q18, kI c18 2), (q19, kI c19 8)] s H locs := K
  refine lv_aload_n C.1 C.2.1 dk_7_157 rfl (lv_at hl 0 rfl) ?_
  refine lv_bipush (v := 8) C.1 C.2.1 dk_7_158 (by decide) ?_
  refine ks_na (a0 := (8, .inl (fun _ => 0))) (N' := 8) (k1 := 20) (n1 := 258) (T := TX7) (N := 35) C hin K 0 (fun _ => rfl) rfl 28 .boolean rfl ⟨by decide, rfl, rfl, tyX7_ok 28 (by decide)⟩ (Nat.le_of_ble_eq_true rfl) (kk_mem kk_7 (i := 25) rfl) (kk_mem kk_7 (i := 23) rfl) (fun _ => rfl) (by decide) (by decide) (by decide) ⟨rfl, Nat.le_of_ble_eq_true rfl⟩ ⟨rfl, Nat.le_of_ble_eq_true rfl⟩ dk_7_160 dk_7_162 (fun q20 c20 H locs K => ?_)
  have K : kw D A [(c1, .int), (c2, .int), (c3, .int), (c4, .int), (c5, .int), (c6, .int), (c7, .int), (c8, .int), (c9, .int), (c10, .int), (c11, .int), (c12, .int), (c13, .int), (c14, .int), (c15, .int), (c16, .int), (c17, .int), (c18, .boolean), (c19, .int), (c20, .boolean)] [(b, .inr (7, [.int 0, .ref q1, .int 0, .int 0, .int 12, .int 0, .ref q2, .ref q3, .ref q4, .ref q5, .ref q6, .ref q7, .ref q8, .int 0, .int 0, .ref q9, .ref q10, .ref q11, .ref q12, .ref q13, .int 0, .int 0, .ref q14, .ref q15, .ref q16, .ref q17, .ref q18, .ref q19, .ref q20, .null, .null, .null, .null, .null, .int 0])), (q1, kI c1 60), (q2, kI c2 8), (q3, kI c3 8), (q4, kI c4 8), (q5, kI c5 8), (q6, kI c6 3), (q7, kI c7 3), (q8, kI c8 3), (q9, kI c9 8), (q10, kI c10 8), (q11, kI c11 8), (q12, kI c12 8), (q13, kI c13 3), (q14, kI c14 8), (q15, kI c15 8), (q16, kI c16 8), (q17, kI c17 80), (q18, kI c18 2), (q19, kI c19 8), (q20, kI c20 8)] s H locs := K
  refine lv_aload_n C.1 C.2.1 dk_7_165 rfl (lv_at hl 0 rfl) ?_
  refine lv_bipush (v := 8) C.1 C.2.1 dk_7_166 (by decide) ?_
  refine ks_na (a0 := (8, .inl (fun _ => 0))) (N' := 8) (k1 := 21) (n1 := 266) (T := TX7) (N := 35) C hin K 0 (fun _ => rfl) rfl 29 .int rfl ⟨by decide, rfl, rfl, tyX7_ok 29 (by decide)⟩ (Nat.le_of_ble_eq_true rfl) (kk_mem kk_7 (i := 26) rfl) (kk_mem kk_7 (i := 4) rfl) (fun _ => rfl) (by decide) (by decide) (by decide) ⟨rfl, Nat.le_of_ble_eq_true rfl⟩ ⟨rfl, Nat.le_of_ble_eq_true rfl⟩ dk_7_168 dk_7_170 (fun q21 c21 H locs K => ?_)
  have K : kw D A [(c1, .int), (c2, .int), (c3, .int), (c4, .int), (c5, .int), (c6, .int), (c7, .int), (c8, .int), (c9, .int), (c10, .int), (c11, .int), (c12, .int), (c13, .int), (c14, .int), (c15, .int), (c16, .int), (c17, .int), (c18, .boolean), (c19, .int), (c20, .boolean), (c21, .int)] [(b, .inr (7, [.int 0, .ref q1, .int 0, .int 0, .int 12, .int 0, .ref q2, .ref q3, .ref q4, .ref q5, .ref q6, .ref q7, .ref q8, .int 0, .int 0, .ref q9, .ref q10, .ref q11, .ref q12, .ref q13, .int 0, .int 0, .ref q14, .ref q15, .ref q16, .ref q17, .ref q18, .ref q19, .ref q20, .ref q21, .null, .null, .null, .null, .int 0])), (q1, kI c1 60), (q2, kI c2 8), (q3, kI c3 8), (q4, kI c4 8), (q5, kI c5 8), (q6, kI c6 3), (q7, kI c7 3), (q8, kI c8 3), (q9, kI c9 8), (q10, kI c10 8), (q11, kI c11 8), (q12, kI c12 8), (q13, kI c13 3), (q14, kI c14 8), (q15, kI c15 8), (q16, kI c16 8), (q17, kI c17 80), (q18, kI c18 2), (q19, kI c19 8), (q20, kI c20 8), (q21, kI c21 8)] s H locs := K
  refine lv_aload_n C.1 C.2.1 dk_7_173 rfl (lv_at hl 0 rfl) ?_
  refine lv_sipush (v := 2048) C.1 C.2.1 dk_7_174 (by decide) ?_
  refine ks_na (a0 := (2048, .inl (fun _ => 0))) (N' := 2048) (k1 := 22) (n1 := 2314) (T := TX7) (N := 35) C hin K 0 (fun _ => rfl) rfl 30 .int rfl ⟨by decide, rfl, rfl, tyX7_ok 30 (by decide)⟩ (Nat.le_of_ble_eq_true rfl) (kk_mem kk_7 (i := 27) rfl) (kk_mem kk_7 (i := 4) rfl) (fun _ => rfl) (by decide) (by decide) (by decide) ⟨rfl, Nat.le_of_ble_eq_true rfl⟩ ⟨rfl, Nat.le_of_ble_eq_true rfl⟩ dk_7_177 dk_7_179 (fun q22 c22 H locs K => ?_)
  have K : kw D A [(c1, .int), (c2, .int), (c3, .int), (c4, .int), (c5, .int), (c6, .int), (c7, .int), (c8, .int), (c9, .int), (c10, .int), (c11, .int), (c12, .int), (c13, .int), (c14, .int), (c15, .int), (c16, .int), (c17, .int), (c18, .boolean), (c19, .int), (c20, .boolean), (c21, .int), (c22, .int)] [(b, .inr (7, [.int 0, .ref q1, .int 0, .int 0, .int 12, .int 0, .ref q2, .ref q3, .ref q4, .ref q5, .ref q6, .ref q7, .ref q8, .int 0, .int 0, .ref q9, .ref q10, .ref q11, .ref q12, .ref q13, .int 0, .int 0, .ref q14, .ref q15, .ref q16, .ref q17, .ref q18, .ref q19, .ref q20, .ref q21, .ref q22, .null, .null, .null, .int 0])), (q1, kI c1 60), (q2, kI c2 8), (q3, kI c3 8), (q4, kI c4 8), (q5, kI c5 8), (q6, kI c6 3), (q7, kI c7 3), (q8, kI c8 3), (q9, kI c9 8), (q10, kI c10 8), (q11, kI c11 8), (q12, kI c12 8), (q13, kI c13 3), (q14, kI c14 8), (q15, kI c15 8), (q16, kI c16 8), (q17, kI c17 80), (q18, kI c18 2), (q19, kI c19 8), (q20, kI c20 8), (q21, kI c21 8), (q22, kI c22 2048)] s H locs := K
  refine lv_aload_n C.1 C.2.1 dk_7_182 rfl (lv_at hl 0 rfl) ?_
  refine lv_sipush (v := 432) C.1 C.2.1 dk_7_183 (by decide) ?_
  refine ks_na (a0 := (432, .inl (fun _ => 0))) (N' := 432) (k1 := 23) (n1 := 2746) (T := TX7) (N := 35) C hin K 0 (fun _ => rfl) rfl 31 .int rfl ⟨by decide, rfl, rfl, tyX7_ok 31 (by decide)⟩ (Nat.le_of_ble_eq_true rfl) (kk_mem kk_7 (i := 28) rfl) (kk_mem kk_7 (i := 4) rfl) (fun _ => rfl) (by decide) (by decide) (by decide) ⟨rfl, Nat.le_of_ble_eq_true rfl⟩ ⟨rfl, Nat.le_of_ble_eq_true rfl⟩ dk_7_186 dk_7_188 (fun q23 c23 H locs K => ?_)
  have K : kw D A [(c1, .int), (c2, .int), (c3, .int), (c4, .int), (c5, .int), (c6, .int), (c7, .int), (c8, .int), (c9, .int), (c10, .int), (c11, .int), (c12, .int), (c13, .int), (c14, .int), (c15, .int), (c16, .int), (c17, .int), (c18, .boolean), (c19, .int), (c20, .boolean), (c21, .int), (c22, .int), (c23, .int)] [(b, .inr (7, [.int 0, .ref q1, .int 0, .int 0, .int 12, .int 0, .ref q2, .ref q3, .ref q4, .ref q5, .ref q6, .ref q7, .ref q8, .int 0, .int 0, .ref q9, .ref q10, .ref q11, .ref q12, .ref q13, .int 0, .int 0, .ref q14, .ref q15, .ref q16, .ref q17, .ref q18, .ref q19, .ref q20, .ref q21, .ref q22, .ref q23, .null, .null, .int 0])), (q1, kI c1 60), (q2, kI c2 8), (q3, kI c3 8), (q4, kI c4 8), (q5, kI c5 8), (q6, kI c6 3), (q7, kI c7 3), (q8, kI c8 3), (q9, kI c9 8), (q10, kI c10 8), (q11, kI c11 8), (q12, kI c12 8), (q13, kI c13 3), (q14, kI c14 8), (q15, kI c15 8), (q16, kI c16 8), (q17, kI c17 80), (q18, kI c18 2), (q19, kI c19 8), (q20, kI c20 8), (q21, kI c21 8), (q22, kI c22 2048), (q23, kI c23 432)] s H locs := K
  refine lv_aload_n C.1 C.2.1 dk_7_191 rfl (lv_at hl 0 rfl) ?_
  refine lv_iconst (v := 3) C.1 C.2.1 dk_7_192 (by decide) ?_
  refine ks_na (a0 := (3, .inl (fun _ => 0))) (N' := 3) (k1 := 24) (n1 := 2749) (T := TX7) (N := 35) C hin K 0 (fun _ => rfl) rfl 32 .int rfl ⟨by decide, rfl, rfl, tyX7_ok 32 (by decide)⟩ (Nat.le_of_ble_eq_true rfl) (kk_mem kk_7 (i := 29) rfl) (kk_mem kk_7 (i := 4) rfl) (fun _ => rfl) (by decide) (by decide) (by decide) ⟨rfl, Nat.le_of_ble_eq_true rfl⟩ ⟨rfl, Nat.le_of_ble_eq_true rfl⟩ dk_7_193 dk_7_195 (fun q24 c24 H locs K => ?_)
  have K : kw D A [(c1, .int), (c2, .int), (c3, .int), (c4, .int), (c5, .int), (c6, .int), (c7, .int), (c8, .int), (c9, .int), (c10, .int), (c11, .int), (c12, .int), (c13, .int), (c14, .int), (c15, .int), (c16, .int), (c17, .int), (c18, .boolean), (c19, .int), (c20, .boolean), (c21, .int), (c22, .int), (c23, .int), (c24, .int)] [(b, .inr (7, [.int 0, .ref q1, .int 0, .int 0, .int 12, .int 0, .ref q2, .ref q3, .ref q4, .ref q5, .ref q6, .ref q7, .ref q8, .int 0, .int 0, .ref q9, .ref q10, .ref q11, .ref q12, .ref q13, .int 0, .int 0, .ref q14, .ref q15, .ref q16, .ref q17, .ref q18, .ref q19, .ref q20, .ref q21, .ref q22, .ref q23, .ref q24, .null, .int 0])), (q1, kI c1 60), (q2, kI c2 8), (q3, kI c3 8), (q4, kI c4 8), (q5, kI c5 8), (q6, kI c6 3), (q7, kI c7 3), (q8, kI c8 3), (q9, kI c9 8), (q10, kI c10 8), (q11, kI c11 8), (q12, kI c12 8), (q13, kI c13 3), (q14, kI c14 8), (q15, kI c15 8), (q16, kI c16 8), (q17, kI c17 80), (q18, kI c18 2), (q19, kI c19 8), (q20, kI c20 8), (q21, kI c21 8), (q22, kI c22 2048), (q23, kI c23 432), (q24, kI c24 3)] s H locs := K
  refine lv_aload_n C.1 C.2.1 dk_7_198 rfl (lv_at hl 0 rfl) ?_
  refine lv_iconst (v := 3) C.1 C.2.1 dk_7_199 (by decide) ?_
  refine ks_na (a0 := (3, .inl (fun _ => 0))) (N' := 3) (k1 := 25) (n1 := 2752) (T := TX7) (N := 35) C hin K 0 (fun _ => rfl) rfl 33 .int rfl ⟨by decide, rfl, rfl, tyX7_ok 33 (by decide)⟩ (Nat.le_of_ble_eq_true rfl) (kk_mem kk_7 (i := 30) rfl) (kk_mem kk_7 (i := 4) rfl) (fun _ => rfl) (by decide) (by decide) (by decide) ⟨rfl, Nat.le_of_ble_eq_true rfl⟩ ⟨rfl, Nat.le_of_ble_eq_true rfl⟩ dk_7_200 dk_7_202 (fun q25 c25 H locs K => ?_)
  have K : kw D A [(c1, .int), (c2, .int), (c3, .int), (c4, .int), (c5, .int), (c6, .int), (c7, .int), (c8, .int), (c9, .int), (c10, .int), (c11, .int), (c12, .int), (c13, .int), (c14, .int), (c15, .int), (c16, .int), (c17, .int), (c18, .boolean), (c19, .int), (c20, .boolean), (c21, .int), (c22, .int), (c23, .int), (c24, .int), (c25, .int)] [(b, .inr (7, [.int 0, .ref q1, .int 0, .int 0, .int 12, .int 0, .ref q2, .ref q3, .ref q4, .ref q5, .ref q6, .ref q7, .ref q8, .int 0, .int 0, .ref q9, .ref q10, .ref q11, .ref q12, .ref q13, .int 0, .int 0, .ref q14, .ref q15, .ref q16, .ref q17, .ref q18, .ref q19, .ref q20, .ref q21, .ref q22, .ref q23, .ref q24, .ref q25, .int 0])), (q1, kI c1 60), (q2, kI c2 8), (q3, kI c3 8), (q4, kI c4 8), (q5, kI c5 8), (q6, kI c6 3), (q7, kI c7 3), (q8, kI c8 3), (q9, kI c9 8), (q10, kI c10 8), (q11, kI c11 8), (q12, kI c12 8), (q13, kI c13 3), (q14, kI c14 8), (q15, kI c15 8), (q16, kI c16 8), (q17, kI c17 80), (q18, kI c18 2), (q19, kI c19 8), (q20, kI c20 8), (q21, kI c21 8), (q22, kI c22 2048), (q23, kI c23 432), (q24, kI c24 3), (q25, kI c25 3)] s H locs := K
  exact ks_ret C hr hlk K ⟨q1, c1, q2, c2, q3, c3, q4, c4, q5, c5, q6, c6, q7, c7, q8, c8, q9, c9, q10, c10, q11, c11, q12, c12, q13, c13, q14, c14, q15, c15, q16, c16, q17, c17, q18, c18, q19, c19, q20, c20, q21, c21, q22, c22, q23, c23, q24, c24, q25, c25, rfl, rfl⟩ dk_7_205
