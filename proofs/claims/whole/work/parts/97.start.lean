/-! the start: the world after both constructors, by cells (written by wip/whole/mkstart.py) -/
def h0 : am_H := fun c i => if c < 77 then 0 else if (c = 77 ∧ i = 0) ∨ (c = 78 ∧ i = 0) ∨ (c = 83 ∧ i = 12) ∨ (c = 86 ∧ i = 4) then 12 else 0
theorem st_0 (ad : Nat → Nat) (cA : Nat → ClassId) : am_en ad cA h0 0 = kI (cA 0) 60 := rfl
theorem st_1 (ad : Nat → Nat) (cA : Nat → ClassId) : am_en ad cA h0 1 = kI (cA 1) 8 := rfl
theorem st_2 (ad : Nat → Nat) (cA : Nat → ClassId) : am_en ad cA h0 2 = kI (cA 2) 8 := rfl
theorem st_3 (ad : Nat → Nat) (cA : Nat → ClassId) : am_en ad cA h0 3 = kI (cA 3) 8 := rfl
theorem st_4 (ad : Nat → Nat) (cA : Nat → ClassId) : am_en ad cA h0 4 = kI (cA 4) 8 := rfl
theorem st_5 (ad : Nat → Nat) (cA : Nat → ClassId) : am_en ad cA h0 5 = kI (cA 5) 3 := rfl
theorem st_6 (ad : Nat → Nat) (cA : Nat → ClassId) : am_en ad cA h0 6 = kI (cA 6) 8 := rfl
theorem st_7 (ad : Nat → Nat) (cA : Nat → ClassId) : am_en ad cA h0 7 = kI (cA 7) 8 := rfl
theorem st_8 (ad : Nat → Nat) (cA : Nat → ClassId) : am_en ad cA h0 8 = kI (cA 8) 8 := rfl
theorem st_9 (ad : Nat → Nat) (cA : Nat → ClassId) : am_en ad cA h0 9 = kI (cA 9) 8 := rfl
theorem st_10 (ad : Nat → Nat) (cA : Nat → ClassId) : am_en ad cA h0 10 = kI (cA 10) 3 := rfl
theorem st_11 (ad : Nat → Nat) (cA : Nat → ClassId) : am_en ad cA h0 11 = kI (cA 11) 3 := rfl
theorem st_12 (ad : Nat → Nat) (cA : Nat → ClassId) : am_en ad cA h0 12 = kI (cA 12) 3 := rfl
theorem st_13 (ad : Nat → Nat) (cA : Nat → ClassId) : am_en ad cA h0 13 = kI (cA 13) 3 := rfl
theorem st_14 (ad : Nat → Nat) (cA : Nat → ClassId) : am_en ad cA h0 14 = kI (cA 14) 8 := rfl
theorem st_15 (ad : Nat → Nat) (cA : Nat → ClassId) : am_en ad cA h0 15 = kI (cA 15) 8 := rfl
theorem st_16 (ad : Nat → Nat) (cA : Nat → ClassId) : am_en ad cA h0 16 = kI (cA 16) 8 := rfl
theorem st_17 (ad : Nat → Nat) (cA : Nat → ClassId) : am_en ad cA h0 17 = kI (cA 17) 3 := rfl
theorem st_18 (ad : Nat → Nat) (cA : Nat → ClassId) : am_en ad cA h0 18 = kI (cA 18) 3 := rfl
theorem st_19 (ad : Nat → Nat) (cA : Nat → ClassId) : am_en ad cA h0 19 = kI (cA 19) 3 := rfl
theorem st_20 (ad : Nat → Nat) (cA : Nat → ClassId) : am_en ad cA h0 20 = kI (cA 20) 8 := rfl
theorem st_21 (ad : Nat → Nat) (cA : Nat → ClassId) : am_en ad cA h0 21 = kI (cA 21) 8 := rfl
theorem st_22 (ad : Nat → Nat) (cA : Nat → ClassId) : am_en ad cA h0 22 = kI (cA 22) 8 := rfl
theorem st_23 (ad : Nat → Nat) (cA : Nat → ClassId) : am_en ad cA h0 23 = kI (cA 23) 3 := rfl
theorem st_24 (ad : Nat → Nat) (cA : Nat → ClassId) : am_en ad cA h0 24 = kI (cA 24) 3 := rfl
theorem st_25 (ad : Nat → Nat) (cA : Nat → ClassId) : am_en ad cA h0 25 = kI (cA 25) 3 := rfl
theorem st_26 (ad : Nat → Nat) (cA : Nat → ClassId) : am_en ad cA h0 26 = kI (cA 26) 8 := rfl
theorem st_27 (ad : Nat → Nat) (cA : Nat → ClassId) : am_en ad cA h0 27 = kI (cA 27) 8 := rfl
theorem st_28 (ad : Nat → Nat) (cA : Nat → ClassId) : am_en ad cA h0 28 = kI (cA 28) 8 := rfl
theorem st_29 (ad : Nat → Nat) (cA : Nat → ClassId) : am_en ad cA h0 29 = kI (cA 29) 3 := rfl
theorem st_30 (ad : Nat → Nat) (cA : Nat → ClassId) : am_en ad cA h0 30 = kI (cA 30) 3 := rfl
theorem st_31 (ad : Nat → Nat) (cA : Nat → ClassId) : am_en ad cA h0 31 = kI (cA 31) 3 := rfl
theorem st_32 (ad : Nat → Nat) (cA : Nat → ClassId) : am_en ad cA h0 32 = kI (cA 32) 8 := rfl
theorem st_33 (ad : Nat → Nat) (cA : Nat → ClassId) : am_en ad cA h0 33 = kI (cA 33) 8 := rfl
theorem st_34 (ad : Nat → Nat) (cA : Nat → ClassId) : am_en ad cA h0 34 = kI (cA 34) 8 := rfl
theorem st_35 (ad : Nat → Nat) (cA : Nat → ClassId) : am_en ad cA h0 35 = kI (cA 35) 1515 := rfl
theorem st_36 (ad : Nat → Nat) (cA : Nat → ClassId) : am_en ad cA h0 36 = kI (cA 36) 64 := rfl
theorem st_37 (ad : Nat → Nat) (cA : Nat → ClassId) : am_en ad cA h0 37 = kI (cA 37) 16 := rfl
theorem st_38 (ad : Nat → Nat) (cA : Nat → ClassId) : am_en ad cA h0 38 = kI (cA 38) 16 := rfl
theorem st_39 (ad : Nat → Nat) (cA : Nat → ClassId) : am_en ad cA h0 39 = kI (cA 39) 16 := rfl
theorem st_40 (ad : Nat → Nat) (cA : Nat → ClassId) : am_en ad cA h0 40 = kI (cA 40) 16 := rfl
theorem st_41 (ad : Nat → Nat) (cA : Nat → ClassId) : am_en ad cA h0 41 = kI (cA 41) 16 := rfl
theorem st_42 (ad : Nat → Nat) (cA : Nat → ClassId) : am_en ad cA h0 42 = kI (cA 42) 8080 := rfl
theorem st_43 (ad : Nat → Nat) (cA : Nat → ClassId) : am_en ad cA h0 43 = kI (cA 43) 8 := rfl
theorem st_44 (ad : Nat → Nat) (cA : Nat → ClassId) : am_en ad cA h0 44 = kI (cA 44) 64 := rfl
theorem st_45 (ad : Nat → Nat) (cA : Nat → ClassId) : am_en ad cA h0 45 = kI (cA 45) 2048 := rfl
theorem st_46 (ad : Nat → Nat) (cA : Nat → ClassId) : am_en ad cA h0 46 = kI (cA 46) 256 := rfl
theorem st_47 (ad : Nat → Nat) (cA : Nat → ClassId) : am_en ad cA h0 47 = kL (cA 47) 9 := rfl
theorem st_48 (ad : Nat → Nat) (cA : Nat → ClassId) : am_en ad cA h0 48 = kI (cA 48) 3 := rfl
theorem st_49 (ad : Nat → Nat) (cA : Nat → ClassId) : am_en ad cA h0 49 = kI (cA 49) 3 := rfl
theorem st_50 (ad : Nat → Nat) (cA : Nat → ClassId) : am_en ad cA h0 50 = kI (cA 50) 60 := rfl
theorem st_51 (ad : Nat → Nat) (cA : Nat → ClassId) : am_en ad cA h0 51 = kI (cA 51) 8 := rfl
theorem st_52 (ad : Nat → Nat) (cA : Nat → ClassId) : am_en ad cA h0 52 = kI (cA 52) 8 := rfl
theorem st_53 (ad : Nat → Nat) (cA : Nat → ClassId) : am_en ad cA h0 53 = kI (cA 53) 8 := rfl
theorem st_54 (ad : Nat → Nat) (cA : Nat → ClassId) : am_en ad cA h0 54 = kI (cA 54) 8 := rfl
theorem st_55 (ad : Nat → Nat) (cA : Nat → ClassId) : am_en ad cA h0 55 = kI (cA 55) 3 := rfl
theorem st_56 (ad : Nat → Nat) (cA : Nat → ClassId) : am_en ad cA h0 56 = kI (cA 56) 3 := rfl
theorem st_57 (ad : Nat → Nat) (cA : Nat → ClassId) : am_en ad cA h0 57 = kI (cA 57) 3 := rfl
theorem st_58 (ad : Nat → Nat) (cA : Nat → ClassId) : am_en ad cA h0 58 = kI (cA 58) 8 := rfl
theorem st_59 (ad : Nat → Nat) (cA : Nat → ClassId) : am_en ad cA h0 59 = kI (cA 59) 8 := rfl
theorem st_60 (ad : Nat → Nat) (cA : Nat → ClassId) : am_en ad cA h0 60 = kI (cA 60) 8 := rfl
theorem st_61 (ad : Nat → Nat) (cA : Nat → ClassId) : am_en ad cA h0 61 = kI (cA 61) 8 := rfl
theorem st_62 (ad : Nat → Nat) (cA : Nat → ClassId) : am_en ad cA h0 62 = kI (cA 62) 3 := rfl
theorem st_63 (ad : Nat → Nat) (cA : Nat → ClassId) : am_en ad cA h0 63 = kI (cA 63) 8 := rfl
theorem st_64 (ad : Nat → Nat) (cA : Nat → ClassId) : am_en ad cA h0 64 = kI (cA 64) 8 := rfl
theorem st_65 (ad : Nat → Nat) (cA : Nat → ClassId) : am_en ad cA h0 65 = kI (cA 65) 8 := rfl
theorem st_66 (ad : Nat → Nat) (cA : Nat → ClassId) : am_en ad cA h0 66 = kI (cA 66) 80 := rfl
theorem st_67 (ad : Nat → Nat) (cA : Nat → ClassId) : am_en ad cA h0 67 = kI (cA 67) 2 := rfl
theorem st_68 (ad : Nat → Nat) (cA : Nat → ClassId) : am_en ad cA h0 68 = kI (cA 68) 8 := rfl
theorem st_69 (ad : Nat → Nat) (cA : Nat → ClassId) : am_en ad cA h0 69 = kI (cA 69) 8 := rfl
theorem st_70 (ad : Nat → Nat) (cA : Nat → ClassId) : am_en ad cA h0 70 = kI (cA 70) 8 := rfl
theorem st_71 (ad : Nat → Nat) (cA : Nat → ClassId) : am_en ad cA h0 71 = kI (cA 71) 2048 := rfl
theorem st_72 (ad : Nat → Nat) (cA : Nat → ClassId) : am_en ad cA h0 72 = kI (cA 72) 432 := rfl
theorem st_73 (ad : Nat → Nat) (cA : Nat → ClassId) : am_en ad cA h0 73 = kI (cA 73) 3 := rfl
theorem st_74 (ad : Nat → Nat) (cA : Nat → ClassId) : am_en ad cA h0 74 = kI (cA 74) 3 := rfl
theorem st_75 (ad : Nat → Nat) (cA : Nat → ClassId) : am_en ad cA h0 75 = .inr (6, [.ref (ad 0), .int 0, .ref (ad 76), .ref (ad 78), .ref (ad 79), .ref (ad 80), .ref (ad 81), .ref (ad 82), .ref (ad 83), .ref (ad 84), .ref (ad 85)]) := rfl
theorem st_76 (ad : Nat → Nat) (cA : Nat → ClassId) : am_en ad cA h0 76 = .inr (3, [.ref (ad 77), .int 0, .int 0, .int 0, .int 0, .int 0, .int 0, .int 0]) := rfl
theorem st_77 (ad : Nat → Nat) (cA : Nat → ClassId) : am_en ad cA h0 77 = .inr (2, [.int 12, .int 0, .ref (ad 1), .ref (ad 2), .ref (ad 3), .ref (ad 4), .ref (ad 5)]) := rfl
theorem st_78 (ad : Nat → Nat) (cA : Nat → ClassId) : am_en ad cA h0 78 = .inr (2, [.int 12, .int 0, .ref (ad 6), .ref (ad 7), .ref (ad 8), .ref (ad 9), .ref (ad 10)]) := rfl
theorem st_79 (ad : Nat → Nat) (cA : Nat → ClassId) : am_en ad cA h0 79 = .inr (1, [.ref (ad 11), .ref (ad 12), .ref (ad 13), .ref (ad 14), .ref (ad 15), .ref (ad 16), .int 0, .int 0]) := rfl
theorem st_80 (ad : Nat → Nat) (cA : Nat → ClassId) : am_en ad cA h0 80 = .inr (1, [.ref (ad 17), .ref (ad 18), .ref (ad 19), .ref (ad 20), .ref (ad 21), .ref (ad 22), .int 0, .int 0]) := rfl
theorem st_81 (ad : Nat → Nat) (cA : Nat → ClassId) : am_en ad cA h0 81 = .inr (1, [.ref (ad 23), .ref (ad 24), .ref (ad 25), .ref (ad 26), .ref (ad 27), .ref (ad 28), .int 0, .int 0]) := rfl
theorem st_82 (ad : Nat → Nat) (cA : Nat → ClassId) : am_en ad cA h0 82 = .inr (1, [.ref (ad 29), .ref (ad 30), .ref (ad 31), .ref (ad 32), .ref (ad 33), .ref (ad 34), .int 0, .int 0]) := rfl
theorem st_83 (ad : Nat → Nat) (cA : Nat → ClassId) : am_en ad cA h0 83 = .inr (4, [.ref (ad 78), .ref (ad 35), .ref (ad 36), .ref (ad 37), .ref (ad 38), .ref (ad 39), .ref (ad 40), .ref (ad 41), .ref (ad 42), .int 0, .int 0, .int 0, .int 12]) := rfl
theorem st_84 (ad : Nat → Nat) (cA : Nat → ClassId) : am_en ad cA h0 84 = .inr (5, [.ref (ad 78), .ref (ad 83), .ref (ad 43), .ref (ad 44), .ref (ad 45), .ref (ad 46), .int 0]) := rfl
theorem st_85 (ad : Nat → Nat) (cA : Nat → ClassId) : am_en ad cA h0 85 = .inr (0, [.ref (ad 78), .ref (ad 47), .ref (ad 48), .ref (ad 49), .int 0]) := rfl
theorem st_86 (ad : Nat → Nat) (cA : Nat → ClassId) : am_en ad cA h0 86 = .inr (7, [.int 0, .ref (ad 50), .int 0, .int 0, .int 12, .int 0, .ref (ad 51), .ref (ad 52), .ref (ad 53), .ref (ad 54), .ref (ad 55), .ref (ad 56), .ref (ad 57), .int 0, .int 0, .ref (ad 58), .ref (ad 59), .ref (ad 60), .ref (ad 61), .ref (ad 62), .int 0, .int 0, .ref (ad 63), .ref (ad 64), .ref (ad 65), .ref (ad 66), .ref (ad 67), .ref (ad 68), .ref (ad 69), .ref (ad 70), .ref (ad 71), .ref (ad 72), .ref (ad 73), .ref (ad 74), .int 0]) := rfl
theorem st_r : List.range 87 = [0, 1, 2, 3, 4, 5, 6, 7, 8, 9, 10, 11, 12, 13, 14, 15, 16, 17, 18, 19, 20, 21, 22, 23, 24, 25, 26, 27, 28, 29, 30, 31, 32, 33, 34, 35, 36, 37, 38, 39, 40, 41, 42, 43, 44, 45, 46, 47, 48, 49, 50, 51, 52, 53, 54, 55, 56, 57, 58, 59, 60, 61, 62, 63, 64, 65, 66, 67, 68, 69, 70, 71, 72, 73, 74, 75, 76, 77, 78, 79, 80, 81, 82, 83, 84, 85, 86] := by decide +kernel
theorem st_w (ad : Nat → Nat) (cA : Nat → ClassId) : am_w ad cA h0 = [(ad 0, kI (cA 0) 60), (ad 1, kI (cA 1) 8), (ad 2, kI (cA 2) 8), (ad 3, kI (cA 3) 8), (ad 4, kI (cA 4) 8), (ad 5, kI (cA 5) 3), (ad 6, kI (cA 6) 8), (ad 7, kI (cA 7) 8), (ad 8, kI (cA 8) 8), (ad 9, kI (cA 9) 8), (ad 10, kI (cA 10) 3), (ad 11, kI (cA 11) 3), (ad 12, kI (cA 12) 3), (ad 13, kI (cA 13) 3), (ad 14, kI (cA 14) 8), (ad 15, kI (cA 15) 8), (ad 16, kI (cA 16) 8), (ad 17, kI (cA 17) 3), (ad 18, kI (cA 18) 3), (ad 19, kI (cA 19) 3), (ad 20, kI (cA 20) 8), (ad 21, kI (cA 21) 8), (ad 22, kI (cA 22) 8), (ad 23, kI (cA 23) 3), (ad 24, kI (cA 24) 3), (ad 25, kI (cA 25) 3), (ad 26, kI (cA 26) 8), (ad 27, kI (cA 27) 8), (ad 28, kI (cA 28) 8), (ad 29, kI (cA 29) 3), (ad 30, kI (cA 30) 3), (ad 31, kI (cA 31) 3), (ad 32, kI (cA 32) 8), (ad 33, kI (cA 33) 8), (ad 34, kI (cA 34) 8), (ad 35, kI (cA 35) 1515), (ad 36, kI (cA 36) 64), (ad 37, kI (cA 37) 16), (ad 38, kI (cA 38) 16), (ad 39, kI (cA 39) 16), (ad 40, kI (cA 40) 16), (ad 41, kI (cA 41) 16), (ad 42, kI (cA 42) 8080), (ad 43, kI (cA 43) 8), (ad 44, kI (cA 44) 64), (ad 45, kI (cA 45) 2048), (ad 46, kI (cA 46) 256), (ad 47, kL (cA 47) 9), (ad 48, kI (cA 48) 3), (ad 49, kI (cA 49) 3), (ad 50, kI (cA 50) 60), (ad 51, kI (cA 51) 8), (ad 52, kI (cA 52) 8), (ad 53, kI (cA 53) 8), (ad 54, kI (cA 54) 8), (ad 55, kI (cA 55) 3), (ad 56, kI (cA 56) 3), (ad 57, kI (cA 57) 3), (ad 58, kI (cA 58) 8), (ad 59, kI (cA 59) 8), (ad 60, kI (cA 60) 8), (ad 61, kI (cA 61) 8), (ad 62, kI (cA 62) 3), (ad 63, kI (cA 63) 8), (ad 64, kI (cA 64) 8), (ad 65, kI (cA 65) 8), (ad 66, kI (cA 66) 80), (ad 67, kI (cA 67) 2), (ad 68, kI (cA 68) 8), (ad 69, kI (cA 69) 8), (ad 70, kI (cA 70) 8), (ad 71, kI (cA 71) 2048), (ad 72, kI (cA 72) 432), (ad 73, kI (cA 73) 3), (ad 74, kI (cA 74) 3), (ad 75, .inr (6, [.ref (ad 0), .int 0, .ref (ad 76), .ref (ad 78), .ref (ad 79), .ref (ad 80), .ref (ad 81), .ref (ad 82), .ref (ad 83), .ref (ad 84), .ref (ad 85)])), (ad 76, .inr (3, [.ref (ad 77), .int 0, .int 0, .int 0, .int 0, .int 0, .int 0, .int 0])), (ad 77, .inr (2, [.int 12, .int 0, .ref (ad 1), .ref (ad 2), .ref (ad 3), .ref (ad 4), .ref (ad 5)])), (ad 78, .inr (2, [.int 12, .int 0, .ref (ad 6), .ref (ad 7), .ref (ad 8), .ref (ad 9), .ref (ad 10)])), (ad 79, .inr (1, [.ref (ad 11), .ref (ad 12), .ref (ad 13), .ref (ad 14), .ref (ad 15), .ref (ad 16), .int 0, .int 0])), (ad 80, .inr (1, [.ref (ad 17), .ref (ad 18), .ref (ad 19), .ref (ad 20), .ref (ad 21), .ref (ad 22), .int 0, .int 0])), (ad 81, .inr (1, [.ref (ad 23), .ref (ad 24), .ref (ad 25), .ref (ad 26), .ref (ad 27), .ref (ad 28), .int 0, .int 0])), (ad 82, .inr (1, [.ref (ad 29), .ref (ad 30), .ref (ad 31), .ref (ad 32), .ref (ad 33), .ref (ad 34), .int 0, .int 0])), (ad 83, .inr (4, [.ref (ad 78), .ref (ad 35), .ref (ad 36), .ref (ad 37), .ref (ad 38), .ref (ad 39), .ref (ad 40), .ref (ad 41), .ref (ad 42), .int 0, .int 0, .int 0, .int 12])), (ad 84, .inr (5, [.ref (ad 78), .ref (ad 83), .ref (ad 43), .ref (ad 44), .ref (ad 45), .ref (ad 46), .int 0])), (ad 85, .inr (0, [.ref (ad 78), .ref (ad 47), .ref (ad 48), .ref (ad 49), .int 0])), (ad 86, .inr (7, [.int 0, .ref (ad 50), .int 0, .int 0, .int 12, .int 0, .ref (ad 51), .ref (ad 52), .ref (ad 53), .ref (ad 54), .ref (ad 55), .ref (ad 56), .ref (ad 57), .int 0, .int 0, .ref (ad 58), .ref (ad 59), .ref (ad 60), .ref (ad 61), .ref (ad 62), .int 0, .int 0, .ref (ad 63), .ref (ad 64), .ref (ad 65), .ref (ad 66), .ref (ad 67), .ref (ad 68), .ref (ad 69), .ref (ad 70), .ref (ad 71), .ref (ad 72), .ref (ad 73), .ref (ad 74), .int 0]))] := by
  simp only [am_w, st_r, List.map_cons, List.map_nil, st_0, st_1, st_2, st_3, st_4, st_5, st_6, st_7, st_8, st_9, st_10, st_11, st_12, st_13, st_14, st_15, st_16, st_17, st_18, st_19, st_20, st_21, st_22, st_23, st_24, st_25, st_26, st_27, st_28, st_29, st_30, st_31, st_32, st_33, st_34, st_35, st_36, st_37, st_38, st_39, st_40, st_41, st_42, st_43, st_44, st_45, st_46, st_47, st_48, st_49, st_50, st_51, st_52, st_53, st_54, st_55, st_56, st_57, st_58, st_59, st_60, st_61, st_62, st_63, st_64, st_65, st_66, st_67, st_68, st_69, st_70, st_71, st_72, st_73, st_74, st_75, st_76, st_77, st_78, st_79, st_80, st_81, st_82, st_83, st_84, st_85, st_86]
theorem st_ty (cA : Nat → ClassId) : am_ty cA = [(cA 0, .int), (cA 1, .int), (cA 2, .int), (cA 3, .int), (cA 4, .int), (cA 5, .int), (cA 6, .int), (cA 7, .int), (cA 8, .int), (cA 9, .int), (cA 10, .int), (cA 11, .int), (cA 12, .int), (cA 13, .int), (cA 14, .int), (cA 15, .int), (cA 16, .int), (cA 17, .int), (cA 18, .int), (cA 19, .int), (cA 20, .int), (cA 21, .int), (cA 22, .int), (cA 23, .int), (cA 24, .int), (cA 25, .int), (cA 26, .int), (cA 27, .int), (cA 28, .int), (cA 29, .int), (cA 30, .int), (cA 31, .int), (cA 32, .int), (cA 33, .int), (cA 34, .int), (cA 35, .int), (cA 36, .int), (cA 37, .int), (cA 38, .int), (cA 39, .int), (cA 40, .boolean), (cA 41, .int), (cA 42, .int), (cA 43, .int), (cA 44, .int), (cA 45, .int), (cA 46, .int), (cA 47, .long), (cA 48, .int), (cA 49, .int), (cA 50, .int), (cA 51, .int), (cA 52, .int), (cA 53, .int), (cA 54, .int), (cA 55, .int), (cA 56, .int), (cA 57, .int), (cA 58, .int), (cA 59, .int), (cA 60, .int), (cA 61, .int), (cA 62, .int), (cA 63, .int), (cA 64, .int), (cA 65, .int), (cA 66, .int), (cA 67, .boolean), (cA 68, .int), (cA 69, .boolean), (cA 70, .int), (cA 71, .int), (cA 72, .int), (cA 73, .int), (cA 74, .int)] := rfl
