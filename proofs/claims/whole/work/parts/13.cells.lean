theorem ly_75 : am_lay 75 = .inr (6, [some 0, none, some 76, some 78, some 79, some 80, some 81, some 82, some 83, some 84, some 85]) := rfl
theorem gf_75_0 (h : am_H) (K : am_V → Prop) : am_gf (am_lay 75) 6 0 75 h K = K (.inr (.inr (some 0))) := rfl
theorem gf_75_1 (h : am_H) (K : am_V → Prop) : am_gf (am_lay 75) 6 1 75 h K = K (.inl (h 75 1)) := rfl
theorem pf_75_1 (K : Prop) : am_pf (am_lay 75) 6 1 K = K := rfl
theorem gf_75_2 (h : am_H) (K : am_V → Prop) : am_gf (am_lay 75) 6 2 75 h K = K (.inr (.inr (some 76))) := rfl
theorem gf_75_3 (h : am_H) (K : am_V → Prop) : am_gf (am_lay 75) 6 3 75 h K = K (.inr (.inr (some 78))) := rfl
theorem gf_75_4 (h : am_H) (K : am_V → Prop) : am_gf (am_lay 75) 6 4 75 h K = K (.inr (.inr (some 79))) := rfl
theorem gf_75_5 (h : am_H) (K : am_V → Prop) : am_gf (am_lay 75) 6 5 75 h K = K (.inr (.inr (some 80))) := rfl
theorem gf_75_6 (h : am_H) (K : am_V → Prop) : am_gf (am_lay 75) 6 6 75 h K = K (.inr (.inr (some 81))) := rfl
theorem gf_75_7 (h : am_H) (K : am_V → Prop) : am_gf (am_lay 75) 6 7 75 h K = K (.inr (.inr (some 82))) := rfl
theorem gf_75_8 (h : am_H) (K : am_V → Prop) : am_gf (am_lay 75) 6 8 75 h K = K (.inr (.inr (some 83))) := rfl
theorem gf_75_9 (h : am_H) (K : am_V → Prop) : am_gf (am_lay 75) 6 9 75 h K = K (.inr (.inr (some 84))) := rfl
theorem gf_75_10 (h : am_H) (K : am_V → Prop) : am_gf (am_lay 75) 6 10 75 h K = K (.inr (.inr (some 85))) := rfl
theorem ly_76 : am_lay 76 = .inr (3, [some 77, none, none, none, none, none, none, none]) := rfl
theorem gf_76_0 (h : am_H) (K : am_V → Prop) : am_gf (am_lay 76) 3 0 76 h K = K (.inr (.inr (some 77))) := rfl
theorem gf_76_1 (h : am_H) (K : am_V → Prop) : am_gf (am_lay 76) 3 1 76 h K = K (.inl (h 76 1)) := rfl
theorem pf_76_1 (K : Prop) : am_pf (am_lay 76) 3 1 K = K := rfl
theorem gf_76_2 (h : am_H) (K : am_V → Prop) : am_gf (am_lay 76) 3 2 76 h K = K (.inl (h 76 2)) := rfl
theorem pf_76_2 (K : Prop) : am_pf (am_lay 76) 3 2 K = K := rfl
theorem gf_76_3 (h : am_H) (K : am_V → Prop) : am_gf (am_lay 76) 3 3 76 h K = K (.inl (h 76 3)) := rfl
theorem pf_76_3 (K : Prop) : am_pf (am_lay 76) 3 3 K = K := rfl
theorem gf_76_4 (h : am_H) (K : am_V → Prop) : am_gf (am_lay 76) 3 4 76 h K = K (.inl (h 76 4)) := rfl
theorem pf_76_4 (K : Prop) : am_pf (am_lay 76) 3 4 K = K := rfl
theorem gf_76_5 (h : am_H) (K : am_V → Prop) : am_gf (am_lay 76) 3 5 76 h K = K (.inl (h 76 5)) := rfl
theorem pf_76_5 (K : Prop) : am_pf (am_lay 76) 3 5 K = K := rfl
theorem gf_76_6 (h : am_H) (K : am_V → Prop) : am_gf (am_lay 76) 3 6 76 h K = K (.inl (h 76 6)) := rfl
theorem pf_76_6 (K : Prop) : am_pf (am_lay 76) 3 6 K = K := rfl
theorem gf_76_7 (h : am_H) (K : am_V → Prop) : am_gf (am_lay 76) 3 7 76 h K = K (.inl (h 76 7)) := rfl
theorem pf_76_7 (K : Prop) : am_pf (am_lay 76) 3 7 K = K := rfl
theorem ly_77 : am_lay 77 = .inr (2, [none, none, some 1, some 2, some 3, some 4, some 5]) := rfl
theorem gf_77_0 (h : am_H) (K : am_V → Prop) : am_gf (am_lay 77) 2 0 77 h K = K (.inl (h 77 0)) := rfl
theorem pf_77_0 (K : Prop) : am_pf (am_lay 77) 2 0 K = K := rfl
theorem gf_77_1 (h : am_H) (K : am_V → Prop) : am_gf (am_lay 77) 2 1 77 h K = K (.inl (h 77 1)) := rfl
theorem pf_77_1 (K : Prop) : am_pf (am_lay 77) 2 1 K = K := rfl
theorem gf_77_2 (h : am_H) (K : am_V → Prop) : am_gf (am_lay 77) 2 2 77 h K = K (.inr (.inr (some 1))) := rfl
theorem gf_77_3 (h : am_H) (K : am_V → Prop) : am_gf (am_lay 77) 2 3 77 h K = K (.inr (.inr (some 2))) := rfl
theorem gf_77_4 (h : am_H) (K : am_V → Prop) : am_gf (am_lay 77) 2 4 77 h K = K (.inr (.inr (some 3))) := rfl
theorem gf_77_5 (h : am_H) (K : am_V → Prop) : am_gf (am_lay 77) 2 5 77 h K = K (.inr (.inr (some 4))) := rfl
theorem gf_77_6 (h : am_H) (K : am_V → Prop) : am_gf (am_lay 77) 2 6 77 h K = K (.inr (.inr (some 5))) := rfl
theorem ly_78 : am_lay 78 = .inr (2, [none, none, some 6, some 7, some 8, some 9, some 10]) := rfl
theorem gf_78_0 (h : am_H) (K : am_V → Prop) : am_gf (am_lay 78) 2 0 78 h K = K (.inl (h 78 0)) := rfl
theorem pf_78_0 (K : Prop) : am_pf (am_lay 78) 2 0 K = K := rfl
theorem gf_78_1 (h : am_H) (K : am_V → Prop) : am_gf (am_lay 78) 2 1 78 h K = K (.inl (h 78 1)) := rfl
theorem pf_78_1 (K : Prop) : am_pf (am_lay 78) 2 1 K = K := rfl
theorem gf_78_2 (h : am_H) (K : am_V → Prop) : am_gf (am_lay 78) 2 2 78 h K = K (.inr (.inr (some 6))) := rfl
theorem gf_78_3 (h : am_H) (K : am_V → Prop) : am_gf (am_lay 78) 2 3 78 h K = K (.inr (.inr (some 7))) := rfl
theorem gf_78_4 (h : am_H) (K : am_V → Prop) : am_gf (am_lay 78) 2 4 78 h K = K (.inr (.inr (some 8))) := rfl
theorem gf_78_5 (h : am_H) (K : am_V → Prop) : am_gf (am_lay 78) 2 5 78 h K = K (.inr (.inr (some 9))) := rfl
theorem gf_78_6 (h : am_H) (K : am_V → Prop) : am_gf (am_lay 78) 2 6 78 h K = K (.inr (.inr (some 10))) := rfl
theorem ly_79 : am_lay 79 = .inr (1, [some 11, some 12, some 13, some 14, some 15, some 16, none, none]) := rfl
theorem gf_79_0 (h : am_H) (K : am_V → Prop) : am_gf (am_lay 79) 1 0 79 h K = K (.inr (.inr (some 11))) := rfl
theorem gf_79_1 (h : am_H) (K : am_V → Prop) : am_gf (am_lay 79) 1 1 79 h K = K (.inr (.inr (some 12))) := rfl
theorem gf_79_2 (h : am_H) (K : am_V → Prop) : am_gf (am_lay 79) 1 2 79 h K = K (.inr (.inr (some 13))) := rfl
theorem gf_79_3 (h : am_H) (K : am_V → Prop) : am_gf (am_lay 79) 1 3 79 h K = K (.inr (.inr (some 14))) := rfl
theorem gf_79_4 (h : am_H) (K : am_V → Prop) : am_gf (am_lay 79) 1 4 79 h K = K (.inr (.inr (some 15))) := rfl
theorem gf_79_5 (h : am_H) (K : am_V → Prop) : am_gf (am_lay 79) 1 5 79 h K = K (.inr (.inr (some 16))) := rfl
theorem gf_79_6 (h : am_H) (K : am_V → Prop) : am_gf (am_lay 79) 1 6 79 h K = K (.inl (h 79 6)) := rfl
theorem pf_79_6 (K : Prop) : am_pf (am_lay 79) 1 6 K = K := rfl
theorem gf_79_7 (h : am_H) (K : am_V → Prop) : am_gf (am_lay 79) 1 7 79 h K = K (.inl (h 79 7)) := rfl
theorem pf_79_7 (K : Prop) : am_pf (am_lay 79) 1 7 K = K := rfl
theorem ly_80 : am_lay 80 = .inr (1, [some 17, some 18, some 19, some 20, some 21, some 22, none, none]) := rfl
theorem gf_80_0 (h : am_H) (K : am_V → Prop) : am_gf (am_lay 80) 1 0 80 h K = K (.inr (.inr (some 17))) := rfl
theorem gf_80_1 (h : am_H) (K : am_V → Prop) : am_gf (am_lay 80) 1 1 80 h K = K (.inr (.inr (some 18))) := rfl
theorem gf_80_2 (h : am_H) (K : am_V → Prop) : am_gf (am_lay 80) 1 2 80 h K = K (.inr (.inr (some 19))) := rfl
theorem gf_80_3 (h : am_H) (K : am_V → Prop) : am_gf (am_lay 80) 1 3 80 h K = K (.inr (.inr (some 20))) := rfl
theorem gf_80_4 (h : am_H) (K : am_V → Prop) : am_gf (am_lay 80) 1 4 80 h K = K (.inr (.inr (some 21))) := rfl
theorem gf_80_5 (h : am_H) (K : am_V → Prop) : am_gf (am_lay 80) 1 5 80 h K = K (.inr (.inr (some 22))) := rfl
theorem gf_80_6 (h : am_H) (K : am_V → Prop) : am_gf (am_lay 80) 1 6 80 h K = K (.inl (h 80 6)) := rfl
theorem pf_80_6 (K : Prop) : am_pf (am_lay 80) 1 6 K = K := rfl
theorem gf_80_7 (h : am_H) (K : am_V → Prop) : am_gf (am_lay 80) 1 7 80 h K = K (.inl (h 80 7)) := rfl
theorem pf_80_7 (K : Prop) : am_pf (am_lay 80) 1 7 K = K := rfl
theorem ly_81 : am_lay 81 = .inr (1, [some 23, some 24, some 25, some 26, some 27, some 28, none, none]) := rfl
theorem gf_81_0 (h : am_H) (K : am_V → Prop) : am_gf (am_lay 81) 1 0 81 h K = K (.inr (.inr (some 23))) := rfl
theorem gf_81_1 (h : am_H) (K : am_V → Prop) : am_gf (am_lay 81) 1 1 81 h K = K (.inr (.inr (some 24))) := rfl
theorem gf_81_2 (h : am_H) (K : am_V → Prop) : am_gf (am_lay 81) 1 2 81 h K = K (.inr (.inr (some 25))) := rfl
theorem gf_81_3 (h : am_H) (K : am_V → Prop) : am_gf (am_lay 81) 1 3 81 h K = K (.inr (.inr (some 26))) := rfl
theorem gf_81_4 (h : am_H) (K : am_V → Prop) : am_gf (am_lay 81) 1 4 81 h K = K (.inr (.inr (some 27))) := rfl
theorem gf_81_5 (h : am_H) (K : am_V → Prop) : am_gf (am_lay 81) 1 5 81 h K = K (.inr (.inr (some 28))) := rfl
theorem gf_81_6 (h : am_H) (K : am_V → Prop) : am_gf (am_lay 81) 1 6 81 h K = K (.inl (h 81 6)) := rfl
theorem pf_81_6 (K : Prop) : am_pf (am_lay 81) 1 6 K = K := rfl
theorem gf_81_7 (h : am_H) (K : am_V → Prop) : am_gf (am_lay 81) 1 7 81 h K = K (.inl (h 81 7)) := rfl
theorem pf_81_7 (K : Prop) : am_pf (am_lay 81) 1 7 K = K := rfl
theorem ly_82 : am_lay 82 = .inr (1, [some 29, some 30, some 31, some 32, some 33, some 34, none, none]) := rfl
theorem gf_82_0 (h : am_H) (K : am_V → Prop) : am_gf (am_lay 82) 1 0 82 h K = K (.inr (.inr (some 29))) := rfl
theorem gf_82_1 (h : am_H) (K : am_V → Prop) : am_gf (am_lay 82) 1 1 82 h K = K (.inr (.inr (some 30))) := rfl
theorem gf_82_2 (h : am_H) (K : am_V → Prop) : am_gf (am_lay 82) 1 2 82 h K = K (.inr (.inr (some 31))) := rfl
theorem gf_82_3 (h : am_H) (K : am_V → Prop) : am_gf (am_lay 82) 1 3 82 h K = K (.inr (.inr (some 32))) := rfl
theorem gf_82_4 (h : am_H) (K : am_V → Prop) : am_gf (am_lay 82) 1 4 82 h K = K (.inr (.inr (some 33))) := rfl
theorem gf_82_5 (h : am_H) (K : am_V → Prop) : am_gf (am_lay 82) 1 5 82 h K = K (.inr (.inr (some 34))) := rfl
theorem gf_82_6 (h : am_H) (K : am_V → Prop) : am_gf (am_lay 82) 1 6 82 h K = K (.inl (h 82 6)) := rfl
theorem pf_82_6 (K : Prop) : am_pf (am_lay 82) 1 6 K = K := rfl
theorem gf_82_7 (h : am_H) (K : am_V → Prop) : am_gf (am_lay 82) 1 7 82 h K = K (.inl (h 82 7)) := rfl
theorem pf_82_7 (K : Prop) : am_pf (am_lay 82) 1 7 K = K := rfl
theorem ly_83 : am_lay 83 = .inr (4, [some 78, some 35, some 36, some 37, some 38, some 39, some 40, some 41, some 42, none, none, none, none]) := rfl
theorem gf_83_0 (h : am_H) (K : am_V → Prop) : am_gf (am_lay 83) 4 0 83 h K = K (.inr (.inr (some 78))) := rfl
theorem gf_83_1 (h : am_H) (K : am_V → Prop) : am_gf (am_lay 83) 4 1 83 h K = K (.inr (.inr (some 35))) := rfl
theorem gf_83_2 (h : am_H) (K : am_V → Prop) : am_gf (am_lay 83) 4 2 83 h K = K (.inr (.inr (some 36))) := rfl
theorem gf_83_3 (h : am_H) (K : am_V → Prop) : am_gf (am_lay 83) 4 3 83 h K = K (.inr (.inr (some 37))) := rfl
theorem gf_83_4 (h : am_H) (K : am_V → Prop) : am_gf (am_lay 83) 4 4 83 h K = K (.inr (.inr (some 38))) := rfl
theorem gf_83_5 (h : am_H) (K : am_V → Prop) : am_gf (am_lay 83) 4 5 83 h K = K (.inr (.inr (some 39))) := rfl
theorem gf_83_6 (h : am_H) (K : am_V → Prop) : am_gf (am_lay 83) 4 6 83 h K = K (.inr (.inr (some 40))) := rfl
theorem gf_83_7 (h : am_H) (K : am_V → Prop) : am_gf (am_lay 83) 4 7 83 h K = K (.inr (.inr (some 41))) := rfl
theorem gf_83_8 (h : am_H) (K : am_V → Prop) : am_gf (am_lay 83) 4 8 83 h K = K (.inr (.inr (some 42))) := rfl
theorem gf_83_9 (h : am_H) (K : am_V → Prop) : am_gf (am_lay 83) 4 9 83 h K = K (.inl (h 83 9)) := rfl
theorem pf_83_9 (K : Prop) : am_pf (am_lay 83) 4 9 K = K := rfl
theorem gf_83_10 (h : am_H) (K : am_V → Prop) : am_gf (am_lay 83) 4 10 83 h K = K (.inl (h 83 10)) := rfl
theorem pf_83_10 (K : Prop) : am_pf (am_lay 83) 4 10 K = K := rfl
theorem gf_83_11 (h : am_H) (K : am_V → Prop) : am_gf (am_lay 83) 4 11 83 h K = K (.inl (h 83 11)) := rfl
theorem pf_83_11 (K : Prop) : am_pf (am_lay 83) 4 11 K = K := rfl
theorem gf_83_12 (h : am_H) (K : am_V → Prop) : am_gf (am_lay 83) 4 12 83 h K = K (.inl (h 83 12)) := rfl
theorem pf_83_12 (K : Prop) : am_pf (am_lay 83) 4 12 K = K := rfl
theorem ly_84 : am_lay 84 = .inr (5, [some 78, some 83, some 43, some 44, some 45, some 46, none]) := rfl
theorem gf_84_0 (h : am_H) (K : am_V → Prop) : am_gf (am_lay 84) 5 0 84 h K = K (.inr (.inr (some 78))) := rfl
theorem gf_84_1 (h : am_H) (K : am_V → Prop) : am_gf (am_lay 84) 5 1 84 h K = K (.inr (.inr (some 83))) := rfl
theorem gf_84_2 (h : am_H) (K : am_V → Prop) : am_gf (am_lay 84) 5 2 84 h K = K (.inr (.inr (some 43))) := rfl
theorem gf_84_3 (h : am_H) (K : am_V → Prop) : am_gf (am_lay 84) 5 3 84 h K = K (.inr (.inr (some 44))) := rfl
theorem gf_84_4 (h : am_H) (K : am_V → Prop) : am_gf (am_lay 84) 5 4 84 h K = K (.inr (.inr (some 45))) := rfl
theorem gf_84_5 (h : am_H) (K : am_V → Prop) : am_gf (am_lay 84) 5 5 84 h K = K (.inr (.inr (some 46))) := rfl
theorem gf_84_6 (h : am_H) (K : am_V → Prop) : am_gf (am_lay 84) 5 6 84 h K = K (.inl (h 84 6)) := rfl
theorem pf_84_6 (K : Prop) : am_pf (am_lay 84) 5 6 K = K := rfl
theorem ly_85 : am_lay 85 = .inr (0, [some 78, some 47, some 48, some 49, none]) := rfl
theorem gf_85_0 (h : am_H) (K : am_V → Prop) : am_gf (am_lay 85) 0 0 85 h K = K (.inr (.inr (some 78))) := rfl
theorem gf_85_1 (h : am_H) (K : am_V → Prop) : am_gf (am_lay 85) 0 1 85 h K = K (.inr (.inr (some 47))) := rfl
theorem gf_85_2 (h : am_H) (K : am_V → Prop) : am_gf (am_lay 85) 0 2 85 h K = K (.inr (.inr (some 48))) := rfl
theorem gf_85_3 (h : am_H) (K : am_V → Prop) : am_gf (am_lay 85) 0 3 85 h K = K (.inr (.inr (some 49))) := rfl
theorem gf_85_4 (h : am_H) (K : am_V → Prop) : am_gf (am_lay 85) 0 4 85 h K = K (.inl (h 85 4)) := rfl
theorem pf_85_4 (K : Prop) : am_pf (am_lay 85) 0 4 K = K := rfl
theorem ly_86 : am_lay 86 = .inr (7, [none, some 50, none, none, none, none, some 51, some 52, some 53, some 54, some 55, some 56, some 57, none, none, some 58, some 59, some 60, some 61, some 62, none, none, some 63, some 64, some 65, some 66, some 67, some 68, some 69, some 70, some 71, some 72, some 73, some 74, none]) := rfl
theorem gf_86_0 (h : am_H) (K : am_V → Prop) : am_gf (am_lay 86) 7 0 86 h K = K (.inl (h 86 0)) := rfl
theorem pf_86_0 (K : Prop) : am_pf (am_lay 86) 7 0 K = K := rfl
theorem gf_86_1 (h : am_H) (K : am_V → Prop) : am_gf (am_lay 86) 7 1 86 h K = K (.inr (.inr (some 50))) := rfl
theorem gf_86_2 (h : am_H) (K : am_V → Prop) : am_gf (am_lay 86) 7 2 86 h K = K (.inl (h 86 2)) := rfl
theorem pf_86_2 (K : Prop) : am_pf (am_lay 86) 7 2 K = K := rfl
theorem gf_86_3 (h : am_H) (K : am_V → Prop) : am_gf (am_lay 86) 7 3 86 h K = K (.inl (h 86 3)) := rfl
theorem pf_86_3 (K : Prop) : am_pf (am_lay 86) 7 3 K = K := rfl
theorem gf_86_4 (h : am_H) (K : am_V → Prop) : am_gf (am_lay 86) 7 4 86 h K = K (.inl (h 86 4)) := rfl
theorem pf_86_4 (K : Prop) : am_pf (am_lay 86) 7 4 K = K := rfl
theorem gf_86_5 (h : am_H) (K : am_V → Prop) : am_gf (am_lay 86) 7 5 86 h K = K (.inl (h 86 5)) := rfl
theorem pf_86_5 (K : Prop) : am_pf (am_lay 86) 7 5 K = K := rfl
theorem gf_86_6 (h : am_H) (K : am_V → Prop) : am_gf (am_lay 86) 7 6 86 h K = K (.inr (.inr (some 51))) := rfl
theorem gf_86_7 (h : am_H) (K : am_V → Prop) : am_gf (am_lay 86) 7 7 86 h K = K (.inr (.inr (some 52))) := rfl
theorem gf_86_8 (h : am_H) (K : am_V → Prop) : am_gf (am_lay 86) 7 8 86 h K = K (.inr (.inr (some 53))) := rfl
theorem gf_86_9 (h : am_H) (K : am_V → Prop) : am_gf (am_lay 86) 7 9 86 h K = K (.inr (.inr (some 54))) := rfl
theorem gf_86_10 (h : am_H) (K : am_V → Prop) : am_gf (am_lay 86) 7 10 86 h K = K (.inr (.inr (some 55))) := rfl
theorem gf_86_11 (h : am_H) (K : am_V → Prop) : am_gf (am_lay 86) 7 11 86 h K = K (.inr (.inr (some 56))) := rfl
theorem gf_86_12 (h : am_H) (K : am_V → Prop) : am_gf (am_lay 86) 7 12 86 h K = K (.inr (.inr (some 57))) := rfl
theorem gf_86_13 (h : am_H) (K : am_V → Prop) : am_gf (am_lay 86) 7 13 86 h K = K (.inl (h 86 13)) := rfl
theorem pf_86_13 (K : Prop) : am_pf (am_lay 86) 7 13 K = K := rfl
theorem gf_86_14 (h : am_H) (K : am_V → Prop) : am_gf (am_lay 86) 7 14 86 h K = K (.inl (h 86 14)) := rfl
theorem pf_86_14 (K : Prop) : am_pf (am_lay 86) 7 14 K = K := rfl
theorem gf_86_15 (h : am_H) (K : am_V → Prop) : am_gf (am_lay 86) 7 15 86 h K = K (.inr (.inr (some 58))) := rfl
theorem gf_86_16 (h : am_H) (K : am_V → Prop) : am_gf (am_lay 86) 7 16 86 h K = K (.inr (.inr (some 59))) := rfl
theorem gf_86_17 (h : am_H) (K : am_V → Prop) : am_gf (am_lay 86) 7 17 86 h K = K (.inr (.inr (some 60))) := rfl
theorem gf_86_18 (h : am_H) (K : am_V → Prop) : am_gf (am_lay 86) 7 18 86 h K = K (.inr (.inr (some 61))) := rfl
theorem gf_86_19 (h : am_H) (K : am_V → Prop) : am_gf (am_lay 86) 7 19 86 h K = K (.inr (.inr (some 62))) := rfl
theorem gf_86_20 (h : am_H) (K : am_V → Prop) : am_gf (am_lay 86) 7 20 86 h K = K (.inl (h 86 20)) := rfl
theorem pf_86_20 (K : Prop) : am_pf (am_lay 86) 7 20 K = K := rfl
theorem gf_86_21 (h : am_H) (K : am_V → Prop) : am_gf (am_lay 86) 7 21 86 h K = K (.inl (h 86 21)) := rfl
theorem pf_86_21 (K : Prop) : am_pf (am_lay 86) 7 21 K = K := rfl
theorem gf_86_22 (h : am_H) (K : am_V → Prop) : am_gf (am_lay 86) 7 22 86 h K = K (.inr (.inr (some 63))) := rfl
theorem gf_86_23 (h : am_H) (K : am_V → Prop) : am_gf (am_lay 86) 7 23 86 h K = K (.inr (.inr (some 64))) := rfl
theorem gf_86_24 (h : am_H) (K : am_V → Prop) : am_gf (am_lay 86) 7 24 86 h K = K (.inr (.inr (some 65))) := rfl
theorem gf_86_25 (h : am_H) (K : am_V → Prop) : am_gf (am_lay 86) 7 25 86 h K = K (.inr (.inr (some 66))) := rfl
theorem gf_86_26 (h : am_H) (K : am_V → Prop) : am_gf (am_lay 86) 7 26 86 h K = K (.inr (.inr (some 67))) := rfl
theorem gf_86_27 (h : am_H) (K : am_V → Prop) : am_gf (am_lay 86) 7 27 86 h K = K (.inr (.inr (some 68))) := rfl
theorem gf_86_28 (h : am_H) (K : am_V → Prop) : am_gf (am_lay 86) 7 28 86 h K = K (.inr (.inr (some 69))) := rfl
theorem gf_86_29 (h : am_H) (K : am_V → Prop) : am_gf (am_lay 86) 7 29 86 h K = K (.inr (.inr (some 70))) := rfl
theorem gf_86_30 (h : am_H) (K : am_V → Prop) : am_gf (am_lay 86) 7 30 86 h K = K (.inr (.inr (some 71))) := rfl
theorem gf_86_31 (h : am_H) (K : am_V → Prop) : am_gf (am_lay 86) 7 31 86 h K = K (.inr (.inr (some 72))) := rfl
theorem gf_86_32 (h : am_H) (K : am_V → Prop) : am_gf (am_lay 86) 7 32 86 h K = K (.inr (.inr (some 73))) := rfl
theorem gf_86_33 (h : am_H) (K : am_V → Prop) : am_gf (am_lay 86) 7 33 86 h K = K (.inr (.inr (some 74))) := rfl
theorem gf_86_34 (h : am_H) (K : am_V → Prop) : am_gf (am_lay 86) 7 34 86 h K = K (.inl (h 86 34)) := rfl
theorem pf_86_34 (K : Prop) : am_pf (am_lay 86) 7 34 K = K := rfl
theorem ar_0 (K : Nat → Prop) : am_ar (am_lay 0) .int K = K 60 := rfl
theorem al_0 (K : Nat → Prop) : am_al0 (am_lay 0) K = K 60 := rfl
theorem ar_1 (K : Nat → Prop) : am_ar (am_lay 1) .int K = K 8 := rfl
theorem al_1 (K : Nat → Prop) : am_al0 (am_lay 1) K = K 8 := rfl
theorem ar_2 (K : Nat → Prop) : am_ar (am_lay 2) .int K = K 8 := rfl
theorem al_2 (K : Nat → Prop) : am_al0 (am_lay 2) K = K 8 := rfl
theorem ar_3 (K : Nat → Prop) : am_ar (am_lay 3) .int K = K 8 := rfl
theorem al_3 (K : Nat → Prop) : am_al0 (am_lay 3) K = K 8 := rfl
theorem ar_4 (K : Nat → Prop) : am_ar (am_lay 4) .int K = K 8 := rfl
theorem al_4 (K : Nat → Prop) : am_al0 (am_lay 4) K = K 8 := rfl
theorem ar_5 (K : Nat → Prop) : am_ar (am_lay 5) .int K = K 3 := rfl
theorem al_5 (K : Nat → Prop) : am_al0 (am_lay 5) K = K 3 := rfl
theorem ar_6 (K : Nat → Prop) : am_ar (am_lay 6) .int K = K 8 := rfl
theorem al_6 (K : Nat → Prop) : am_al0 (am_lay 6) K = K 8 := rfl
theorem ar_7 (K : Nat → Prop) : am_ar (am_lay 7) .int K = K 8 := rfl
theorem al_7 (K : Nat → Prop) : am_al0 (am_lay 7) K = K 8 := rfl
theorem ar_8 (K : Nat → Prop) : am_ar (am_lay 8) .int K = K 8 := rfl
theorem al_8 (K : Nat → Prop) : am_al0 (am_lay 8) K = K 8 := rfl
theorem ar_9 (K : Nat → Prop) : am_ar (am_lay 9) .int K = K 8 := rfl
theorem al_9 (K : Nat → Prop) : am_al0 (am_lay 9) K = K 8 := rfl
theorem ar_10 (K : Nat → Prop) : am_ar (am_lay 10) .int K = K 3 := rfl
theorem al_10 (K : Nat → Prop) : am_al0 (am_lay 10) K = K 3 := rfl
theorem ar_11 (K : Nat → Prop) : am_ar (am_lay 11) .int K = K 3 := rfl
theorem al_11 (K : Nat → Prop) : am_al0 (am_lay 11) K = K 3 := rfl
theorem ar_12 (K : Nat → Prop) : am_ar (am_lay 12) .int K = K 3 := rfl
theorem al_12 (K : Nat → Prop) : am_al0 (am_lay 12) K = K 3 := rfl
theorem ar_13 (K : Nat → Prop) : am_ar (am_lay 13) .int K = K 3 := rfl
theorem al_13 (K : Nat → Prop) : am_al0 (am_lay 13) K = K 3 := rfl
theorem ar_14 (K : Nat → Prop) : am_ar (am_lay 14) .int K = K 8 := rfl
theorem al_14 (K : Nat → Prop) : am_al0 (am_lay 14) K = K 8 := rfl
theorem ar_15 (K : Nat → Prop) : am_ar (am_lay 15) .int K = K 8 := rfl
theorem al_15 (K : Nat → Prop) : am_al0 (am_lay 15) K = K 8 := rfl
theorem ar_16 (K : Nat → Prop) : am_ar (am_lay 16) .int K = K 8 := rfl
theorem al_16 (K : Nat → Prop) : am_al0 (am_lay 16) K = K 8 := rfl
theorem ar_17 (K : Nat → Prop) : am_ar (am_lay 17) .int K = K 3 := rfl
theorem al_17 (K : Nat → Prop) : am_al0 (am_lay 17) K = K 3 := rfl
theorem ar_18 (K : Nat → Prop) : am_ar (am_lay 18) .int K = K 3 := rfl
theorem al_18 (K : Nat → Prop) : am_al0 (am_lay 18) K = K 3 := rfl
theorem ar_19 (K : Nat → Prop) : am_ar (am_lay 19) .int K = K 3 := rfl
theorem al_19 (K : Nat → Prop) : am_al0 (am_lay 19) K = K 3 := rfl
theorem ar_20 (K : Nat → Prop) : am_ar (am_lay 20) .int K = K 8 := rfl
theorem al_20 (K : Nat → Prop) : am_al0 (am_lay 20) K = K 8 := rfl
theorem ar_21 (K : Nat → Prop) : am_ar (am_lay 21) .int K = K 8 := rfl
theorem al_21 (K : Nat → Prop) : am_al0 (am_lay 21) K = K 8 := rfl
theorem ar_22 (K : Nat → Prop) : am_ar (am_lay 22) .int K = K 8 := rfl
theorem al_22 (K : Nat → Prop) : am_al0 (am_lay 22) K = K 8 := rfl
theorem ar_23 (K : Nat → Prop) : am_ar (am_lay 23) .int K = K 3 := rfl
theorem al_23 (K : Nat → Prop) : am_al0 (am_lay 23) K = K 3 := rfl
theorem ar_24 (K : Nat → Prop) : am_ar (am_lay 24) .int K = K 3 := rfl
theorem al_24 (K : Nat → Prop) : am_al0 (am_lay 24) K = K 3 := rfl
theorem ar_25 (K : Nat → Prop) : am_ar (am_lay 25) .int K = K 3 := rfl
theorem al_25 (K : Nat → Prop) : am_al0 (am_lay 25) K = K 3 := rfl
theorem ar_26 (K : Nat → Prop) : am_ar (am_lay 26) .int K = K 8 := rfl
theorem al_26 (K : Nat → Prop) : am_al0 (am_lay 26) K = K 8 := rfl
theorem ar_27 (K : Nat → Prop) : am_ar (am_lay 27) .int K = K 8 := rfl
theorem al_27 (K : Nat → Prop) : am_al0 (am_lay 27) K = K 8 := rfl
theorem ar_28 (K : Nat → Prop) : am_ar (am_lay 28) .int K = K 8 := rfl
theorem al_28 (K : Nat → Prop) : am_al0 (am_lay 28) K = K 8 := rfl
theorem ar_29 (K : Nat → Prop) : am_ar (am_lay 29) .int K = K 3 := rfl
theorem al_29 (K : Nat → Prop) : am_al0 (am_lay 29) K = K 3 := rfl
theorem ar_30 (K : Nat → Prop) : am_ar (am_lay 30) .int K = K 3 := rfl
theorem al_30 (K : Nat → Prop) : am_al0 (am_lay 30) K = K 3 := rfl
theorem ar_31 (K : Nat → Prop) : am_ar (am_lay 31) .int K = K 3 := rfl
theorem al_31 (K : Nat → Prop) : am_al0 (am_lay 31) K = K 3 := rfl
theorem ar_32 (K : Nat → Prop) : am_ar (am_lay 32) .int K = K 8 := rfl
theorem al_32 (K : Nat → Prop) : am_al0 (am_lay 32) K = K 8 := rfl
theorem ar_33 (K : Nat → Prop) : am_ar (am_lay 33) .int K = K 8 := rfl
theorem al_33 (K : Nat → Prop) : am_al0 (am_lay 33) K = K 8 := rfl
theorem ar_34 (K : Nat → Prop) : am_ar (am_lay 34) .int K = K 8 := rfl
theorem al_34 (K : Nat → Prop) : am_al0 (am_lay 34) K = K 8 := rfl
theorem ar_35 (K : Nat → Prop) : am_ar (am_lay 35) .int K = K 1515 := rfl
theorem al_35 (K : Nat → Prop) : am_al0 (am_lay 35) K = K 1515 := rfl
theorem ar_36 (K : Nat → Prop) : am_ar (am_lay 36) .int K = K 64 := rfl
theorem al_36 (K : Nat → Prop) : am_al0 (am_lay 36) K = K 64 := rfl
theorem ar_37 (K : Nat → Prop) : am_ar (am_lay 37) .int K = K 16 := rfl
theorem al_37 (K : Nat → Prop) : am_al0 (am_lay 37) K = K 16 := rfl
theorem ar_38 (K : Nat → Prop) : am_ar (am_lay 38) .int K = K 16 := rfl
theorem al_38 (K : Nat → Prop) : am_al0 (am_lay 38) K = K 16 := rfl
theorem ar_39 (K : Nat → Prop) : am_ar (am_lay 39) .int K = K 16 := rfl
theorem al_39 (K : Nat → Prop) : am_al0 (am_lay 39) K = K 16 := rfl
theorem ar_40 (K : Nat → Prop) : am_ar (am_lay 40) .boolean K = K 16 := rfl
theorem al_40 (K : Nat → Prop) : am_al0 (am_lay 40) K = K 16 := rfl
theorem ar_41 (K : Nat → Prop) : am_ar (am_lay 41) .int K = K 16 := rfl
theorem al_41 (K : Nat → Prop) : am_al0 (am_lay 41) K = K 16 := rfl
theorem ar_42 (K : Nat → Prop) : am_ar (am_lay 42) .int K = K 8080 := rfl
theorem al_42 (K : Nat → Prop) : am_al0 (am_lay 42) K = K 8080 := rfl
theorem ar_43 (K : Nat → Prop) : am_ar (am_lay 43) .int K = K 8 := rfl
theorem al_43 (K : Nat → Prop) : am_al0 (am_lay 43) K = K 8 := rfl
theorem ar_44 (K : Nat → Prop) : am_ar (am_lay 44) .int K = K 64 := rfl
theorem al_44 (K : Nat → Prop) : am_al0 (am_lay 44) K = K 64 := rfl
theorem ar_45 (K : Nat → Prop) : am_ar (am_lay 45) .int K = K 2048 := rfl
theorem al_45 (K : Nat → Prop) : am_al0 (am_lay 45) K = K 2048 := rfl
theorem ar_46 (K : Nat → Prop) : am_ar (am_lay 46) .int K = K 256 := rfl
theorem al_46 (K : Nat → Prop) : am_al0 (am_lay 46) K = K 256 := rfl
theorem ar_47 (K : Nat → Prop) : am_ar (am_lay 47) .long K = K 9 := rfl
theorem al_47 (K : Nat → Prop) : am_al0 (am_lay 47) K = K 9 := rfl
theorem ar_48 (K : Nat → Prop) : am_ar (am_lay 48) .int K = K 3 := rfl
theorem al_48 (K : Nat → Prop) : am_al0 (am_lay 48) K = K 3 := rfl
theorem ar_49 (K : Nat → Prop) : am_ar (am_lay 49) .int K = K 3 := rfl
theorem al_49 (K : Nat → Prop) : am_al0 (am_lay 49) K = K 3 := rfl
theorem ar_50 (K : Nat → Prop) : am_ar (am_lay 50) .int K = K 60 := rfl
theorem al_50 (K : Nat → Prop) : am_al0 (am_lay 50) K = K 60 := rfl
theorem ar_51 (K : Nat → Prop) : am_ar (am_lay 51) .int K = K 8 := rfl
theorem al_51 (K : Nat → Prop) : am_al0 (am_lay 51) K = K 8 := rfl
theorem ar_52 (K : Nat → Prop) : am_ar (am_lay 52) .int K = K 8 := rfl
theorem al_52 (K : Nat → Prop) : am_al0 (am_lay 52) K = K 8 := rfl
theorem ar_53 (K : Nat → Prop) : am_ar (am_lay 53) .int K = K 8 := rfl
theorem al_53 (K : Nat → Prop) : am_al0 (am_lay 53) K = K 8 := rfl
theorem ar_54 (K : Nat → Prop) : am_ar (am_lay 54) .int K = K 8 := rfl
theorem al_54 (K : Nat → Prop) : am_al0 (am_lay 54) K = K 8 := rfl
theorem ar_55 (K : Nat → Prop) : am_ar (am_lay 55) .int K = K 3 := rfl
theorem al_55 (K : Nat → Prop) : am_al0 (am_lay 55) K = K 3 := rfl
theorem ar_56 (K : Nat → Prop) : am_ar (am_lay 56) .int K = K 3 := rfl
theorem al_56 (K : Nat → Prop) : am_al0 (am_lay 56) K = K 3 := rfl
theorem ar_57 (K : Nat → Prop) : am_ar (am_lay 57) .int K = K 3 := rfl
theorem al_57 (K : Nat → Prop) : am_al0 (am_lay 57) K = K 3 := rfl
theorem ar_58 (K : Nat → Prop) : am_ar (am_lay 58) .int K = K 8 := rfl
theorem al_58 (K : Nat → Prop) : am_al0 (am_lay 58) K = K 8 := rfl
theorem ar_59 (K : Nat → Prop) : am_ar (am_lay 59) .int K = K 8 := rfl
theorem al_59 (K : Nat → Prop) : am_al0 (am_lay 59) K = K 8 := rfl
theorem ar_60 (K : Nat → Prop) : am_ar (am_lay 60) .int K = K 8 := rfl
theorem al_60 (K : Nat → Prop) : am_al0 (am_lay 60) K = K 8 := rfl
theorem ar_61 (K : Nat → Prop) : am_ar (am_lay 61) .int K = K 8 := rfl
theorem al_61 (K : Nat → Prop) : am_al0 (am_lay 61) K = K 8 := rfl
theorem ar_62 (K : Nat → Prop) : am_ar (am_lay 62) .int K = K 3 := rfl
theorem al_62 (K : Nat → Prop) : am_al0 (am_lay 62) K = K 3 := rfl
theorem ar_63 (K : Nat → Prop) : am_ar (am_lay 63) .int K = K 8 := rfl
theorem al_63 (K : Nat → Prop) : am_al0 (am_lay 63) K = K 8 := rfl
theorem ar_64 (K : Nat → Prop) : am_ar (am_lay 64) .int K = K 8 := rfl
theorem al_64 (K : Nat → Prop) : am_al0 (am_lay 64) K = K 8 := rfl
theorem ar_65 (K : Nat → Prop) : am_ar (am_lay 65) .int K = K 8 := rfl
theorem al_65 (K : Nat → Prop) : am_al0 (am_lay 65) K = K 8 := rfl
theorem ar_66 (K : Nat → Prop) : am_ar (am_lay 66) .int K = K 80 := rfl
theorem al_66 (K : Nat → Prop) : am_al0 (am_lay 66) K = K 80 := rfl
theorem ar_67 (K : Nat → Prop) : am_ar (am_lay 67) .boolean K = K 2 := rfl
theorem al_67 (K : Nat → Prop) : am_al0 (am_lay 67) K = K 2 := rfl
theorem ar_68 (K : Nat → Prop) : am_ar (am_lay 68) .int K = K 8 := rfl
theorem al_68 (K : Nat → Prop) : am_al0 (am_lay 68) K = K 8 := rfl
theorem ar_69 (K : Nat → Prop) : am_ar (am_lay 69) .boolean K = K 8 := rfl
theorem al_69 (K : Nat → Prop) : am_al0 (am_lay 69) K = K 8 := rfl
theorem ar_70 (K : Nat → Prop) : am_ar (am_lay 70) .int K = K 8 := rfl
theorem al_70 (K : Nat → Prop) : am_al0 (am_lay 70) K = K 8 := rfl
theorem ar_71 (K : Nat → Prop) : am_ar (am_lay 71) .int K = K 2048 := rfl
theorem al_71 (K : Nat → Prop) : am_al0 (am_lay 71) K = K 2048 := rfl
theorem ar_72 (K : Nat → Prop) : am_ar (am_lay 72) .int K = K 432 := rfl
theorem al_72 (K : Nat → Prop) : am_al0 (am_lay 72) K = K 432 := rfl
theorem ar_73 (K : Nat → Prop) : am_ar (am_lay 73) .int K = K 3 := rfl
theorem al_73 (K : Nat → Prop) : am_al0 (am_lay 73) K = K 3 := rfl
theorem ar_74 (K : Nat → Prop) : am_ar (am_lay 74) .int K = K 3 := rfl
theorem al_74 (K : Nat → Prop) : am_al0 (am_lay 74) K = K 3 := rfl
