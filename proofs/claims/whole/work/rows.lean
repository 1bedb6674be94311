section
-- ===== PART A: goes FIRST, ahead of the names: the tables' words, and 'selects' of the private methods out of them =====
/-- a private method of a class that the tables say can be made, by its rows of tables_1 -/
def lw_okq (q : MethodName × Nat) : Prop := (q.1.cls ≠ "java/lang/invoke/MethodHandle" ∧ q.1.cls ≠ "java/lang/invoke/VarHandle") ∧ Cond.instantiable q.1.cls q.2 ∈ tables_1 ∧ Cond.privateMethod q.1 ∈ tables_1 ∧ Cond.instanceMethod q.1 ∈ tables_1
theorem lw_p0 : lw_okq (⟨"ThreeRings$Reader", "takes", "(I)Z"⟩, 8) := ⟨⟨by decide +kernel, by decide +kernel⟩, List.mem_of_getElem? (i := 22) (by decide +kernel), List.mem_of_getElem? (i := 311) (by decide +kernel), List.mem_of_getElem? (i := 312) (by decide +kernel)⟩
theorem lw_p1 : lw_okq (⟨"ThreeRings$Reader", "takesLetter", "(I)Z"⟩, 8) := ⟨⟨by decide +kernel, by decide +kernel⟩, List.mem_of_getElem? (i := 22) (by decide +kernel), List.mem_of_getElem? (i := 315) (by decide +kernel), List.mem_of_getElem? (i := 316) (by decide +kernel)⟩
theorem lw_p2 : lw_okq (⟨"ThreeRings$Reader", "takesParts", "(I)Z"⟩, 8) := ⟨⟨by decide +kernel, by decide +kernel⟩, List.mem_of_getElem? (i := 22) (by decide +kernel), List.mem_of_getElem? (i := 319) (by decide +kernel), List.mem_of_getElem? (i := 320) (by decide +kernel)⟩
theorem lw_p3 : lw_okq (⟨"ThreeRings$Reader", "takesGate", "(I)Z"⟩, 8) := ⟨⟨by decide +kernel, by decide +kernel⟩, List.mem_of_getElem? (i := 22) (by decide +kernel), List.mem_of_getElem? (i := 323) (by decide +kernel), List.mem_of_getElem? (i := 324) (by decide +kernel)⟩
theorem lw_p4 : lw_okq (⟨"ThreeRings$Reader", "addsGate", "(I)Z"⟩, 8) := ⟨⟨by decide +kernel, by decide +kernel⟩, List.mem_of_getElem? (i := 22) (by decide +kernel), List.mem_of_getElem? (i := 330) (by decide +kernel), List.mem_of_getElem? (i := 331) (by decide +kernel)⟩
theorem lw_p5 : lw_okq (⟨"ThreeRings$Reader", "takesPace", "(I)Z"⟩, 8) := ⟨⟨by decide +kernel, by decide +kernel⟩, List.mem_of_getElem? (i := 22) (by decide +kernel), List.mem_of_getElem? (i := 334) (by decide +kernel), List.mem_of_getElem? (i := 335) (by decide +kernel)⟩
theorem lw_p6 : lw_okq (⟨"ThreeRings$Timetable", "addPair", "(II)V"⟩, 13) := ⟨⟨by decide +kernel, by decide +kernel⟩, List.mem_of_getElem? (i := 152) (by decide +kernel), List.mem_of_getElem? (i := 363) (by decide +kernel), List.mem_of_getElem? (i := 364) (by decide +kernel)⟩
theorem lw_p7 : lw_okq (⟨"ThreeRings$Timetable", "layRing", "(IIII)V"⟩, 13) := ⟨⟨by decide +kernel, by decide +kernel⟩, List.mem_of_getElem? (i := 152) (by decide +kernel), List.mem_of_getElem? (i := 430) (by decide +kernel), List.mem_of_getElem? (i := 431) (by decide +kernel)⟩
theorem lw_p8 : lw_okq (⟨"ThreeRings", "areGates", "(II)Z"⟩, 11) := ⟨⟨by decide +kernel, by decide +kernel⟩, List.mem_of_getElem? (i := 14) (by decide +kernel), List.mem_of_getElem? (i := 446) (by decide +kernel), List.mem_of_getElem? (i := 447) (by decide +kernel)⟩
theorem lw_p9 : lw_okq (⟨"ThreeRings$Timetable", "isPair", "(I)Z"⟩, 13) := ⟨⟨by decide +kernel, by decide +kernel⟩, List.mem_of_getElem? (i := 152) (by decide +kernel), List.mem_of_getElem? (i := 459) (by decide +kernel), List.mem_of_getElem? (i := 460) (by decide +kernel)⟩
theorem lw_p10 : lw_okq (⟨"ThreeRings$Timetable", "openAt", "(II)Z"⟩, 13) := ⟨⟨by decide +kernel, by decide +kernel⟩, List.mem_of_getElem? (i := 152) (by decide +kernel), List.mem_of_getElem? (i := 464) (by decide +kernel), List.mem_of_getElem? (i := 465) (by decide +kernel)⟩
theorem lw_p11 : lw_okq (⟨"ThreeRings$Timetable", "rememberWaits", "(IIII)V"⟩, 13) := ⟨⟨by decide +kernel, by decide +kernel⟩, List.mem_of_getElem? (i := 152) (by decide +kernel), List.mem_of_getElem? (i := 481) (by decide +kernel), List.mem_of_getElem? (i := 482) (by decide +kernel)⟩
theorem lw_p12 : lw_okq (⟨"ThreeRings$Ways", "soonestOf", "(I)I"⟩, 7) := ⟨⟨by decide +kernel, by decide +kernel⟩, List.mem_of_getElem? (i := 199) (by decide +kernel), List.mem_of_getElem? (i := 534) (by decide +kernel), List.mem_of_getElem? (i := 535) (by decide +kernel)⟩
theorem lw_p13 : lw_okq (⟨"ThreeRings$Ways", "reach", "(III)I"⟩, 7) := ⟨⟨by decide +kernel, by decide +kernel⟩, List.mem_of_getElem? (i := 199) (by decide +kernel), List.mem_of_getElem? (i := 538) (by decide +kernel), List.mem_of_getElem? (i := 539) (by decide +kernel)⟩
theorem lw_p14 : lw_okq (⟨"ThreeRings$Ways", "stepsTo", "(II)I"⟩, 7) := ⟨⟨by decide +kernel, by decide +kernel⟩, List.mem_of_getElem? (i := 199) (by decide +kernel), List.mem_of_getElem? (i := 565) (by decide +kernel), List.mem_of_getElem? (i := 566) (by decide +kernel)⟩
theorem lw_p15 : lw_okq (⟨"ThreeRings$Ways", "gateAhead", "(I)I"⟩, 7) := ⟨⟨by decide +kernel, by decide +kernel⟩, List.mem_of_getElem? (i := 199) (by decide +kernel), List.mem_of_getElem? (i := 569) (by decide +kernel), List.mem_of_getElem? (i := 570) (by decide +kernel)⟩
def lw_privs_1 : List (MethodName × Nat) := [(⟨"ThreeRings$Reader", "takes", "(I)Z"⟩, 8), (⟨"ThreeRings$Reader", "takesLetter", "(I)Z"⟩, 8), (⟨"ThreeRings$Reader", "takesParts", "(I)Z"⟩, 8), (⟨"ThreeRings$Reader", "takesGate", "(I)Z"⟩, 8), (⟨"ThreeRings$Reader", "addsGate", "(I)Z"⟩, 8), (⟨"ThreeRings$Reader", "takesPace", "(I)Z"⟩, 8), (⟨"ThreeRings$Timetable", "addPair", "(II)V"⟩, 13), (⟨"ThreeRings$Timetable", "layRing", "(IIII)V"⟩, 13), (⟨"ThreeRings", "areGates", "(II)Z"⟩, 11), (⟨"ThreeRings$Timetable", "isPair", "(I)Z"⟩, 13), (⟨"ThreeRings$Timetable", "openAt", "(II)Z"⟩, 13), (⟨"ThreeRings$Timetable", "rememberWaits", "(IIII)V"⟩, 13), (⟨"ThreeRings$Ways", "soonestOf", "(I)I"⟩, 7), (⟨"ThreeRings$Ways", "reach", "(III)I"⟩, 7), (⟨"ThreeRings$Ways", "stepsTo", "(II)I"⟩, 7), (⟨"ThreeRings$Ways", "gateAhead", "(I)I"⟩, 7)]
theorem lw_r1 : ∀ q ∈ lw_privs_1, lw_okq q := List.forall_mem_cons.mpr ⟨lw_p0, List.forall_mem_cons.mpr ⟨lw_p1, List.forall_mem_cons.mpr ⟨lw_p2, List.forall_mem_cons.mpr ⟨lw_p3, List.forall_mem_cons.mpr ⟨lw_p4, List.forall_mem_cons.mpr ⟨lw_p5, List.forall_mem_cons.mpr ⟨lw_p6, List.forall_mem_cons.mpr ⟨lw_p7, List.forall_mem_cons.mpr ⟨lw_p8, List.forall_mem_cons.mpr ⟨lw_p9, List.forall_mem_cons.mpr ⟨lw_p10, List.forall_mem_cons.mpr ⟨lw_p11, List.forall_mem_cons.mpr ⟨lw_p12, List.forall_mem_cons.mpr ⟨lw_p13, List.forall_mem_cons.mpr ⟨lw_p14, List.forall_mem_cons.mpr ⟨lw_p15, fun _ h => absurd h List.not_mem_nil⟩⟩⟩⟩⟩⟩⟩⟩⟩⟩⟩⟩⟩⟩⟩⟩
theorem lw_p16 : lw_okq (⟨"ThreeRings$Ways", "addStops", "(II)V"⟩, 7) := ⟨⟨by decide +kernel, by decide +kernel⟩, List.mem_of_getElem? (i := 199) (by decide +kernel), List.mem_of_getElem? (i := 590) (by decide +kernel), List.mem_of_getElem? (i := 591) (by decide +kernel)⟩
theorem lw_p17 : lw_okq (⟨"ThreeRings", "refuseBestBrake", "(IIIII)I"⟩, 11) := ⟨⟨by decide +kernel, by decide +kernel⟩, List.mem_of_getElem? (i := 14) (by decide +kernel), List.mem_of_getElem? (i := 598) (by decide +kernel), List.mem_of_getElem? (i := 599) (by decide +kernel)⟩
theorem lw_p18 : lw_okq (⟨"ThreeRings", "bestBrakeStart", "(IIIII)I"⟩, 11) := ⟨⟨by decide +kernel, by decide +kernel⟩, List.mem_of_getElem? (i := 14) (by decide +kernel), List.mem_of_getElem? (i := 602) (by decide +kernel), List.mem_of_getElem? (i := 603) (by decide +kernel)⟩
theorem lw_p19 : lw_okq (⟨"ThreeRings", "layTrial", "(III)V"⟩, 11) := ⟨⟨by decide +kernel, by decide +kernel⟩, List.mem_of_getElem? (i := 14) (by decide +kernel), List.mem_of_getElem? (i := 606) (by decide +kernel), List.mem_of_getElem? (i := 607) (by decide +kernel)⟩
theorem lw_p20 : lw_okq (⟨"ThreeRings$Ways", "gatesInTime", "(II)I"⟩, 7) := ⟨⟨by decide +kernel, by decide +kernel⟩, List.mem_of_getElem? (i := 199) (by decide +kernel), List.mem_of_getElem? (i := 640) (by decide +kernel), List.mem_of_getElem? (i := 641) (by decide +kernel)⟩
theorem lw_p21 : lw_okq (⟨"ThreeRings$Ways", "addPumpSet", "(I)V"⟩, 7) := ⟨⟨by decide +kernel, by decide +kernel⟩, List.mem_of_getElem? (i := 199) (by decide +kernel), List.mem_of_getElem? (i := 644) (by decide +kernel), List.mem_of_getElem? (i := 645) (by decide +kernel)⟩
theorem lw_p22 : lw_okq (⟨"ThreeRings$Ways", "servesAll", "(I)Z"⟩, 7) := ⟨⟨by decide +kernel, by decide +kernel⟩, List.mem_of_getElem? (i := 199) (by decide +kernel), List.mem_of_getElem? (i := 653) (by decide +kernel), List.mem_of_getElem? (i := 654) (by decide +kernel)⟩
theorem lw_p23 : lw_okq (⟨"ThreeRings$Guess", "ruleOut", "(III)V"⟩, 5) := ⟨⟨by decide +kernel, by decide +kernel⟩, List.mem_of_getElem? (i := 228) (by decide +kernel), List.mem_of_getElem? (i := 681) (by decide +kernel), List.mem_of_getElem? (i := 682) (by decide +kernel)⟩
theorem lw_p24 : lw_okq (⟨"ThreeRings$Guess", "fits", "(III)Z"⟩, 5) := ⟨⟨by decide +kernel, by decide +kernel⟩, List.mem_of_getElem? (i := 228) (by decide +kernel), List.mem_of_getElem? (i := 687) (by decide +kernel), List.mem_of_getElem? (i := 688) (by decide +kernel)⟩
theorem lw_p25 : lw_okq (⟨"ThreeRings$Guess", "tryInmost", "(II)V"⟩, 5) := ⟨⟨by decide +kernel, by decide +kernel⟩, List.mem_of_getElem? (i := 228) (by decide +kernel), List.mem_of_getElem? (i := 691) (by decide +kernel), List.mem_of_getElem? (i := 692) (by decide +kernel)⟩
theorem lw_p26 : lw_okq (⟨"ThreeRings$Guess", "widen", "(II)V"⟩, 5) := ⟨⟨by decide +kernel, by decide +kernel⟩, List.mem_of_getElem? (i := 228) (by decide +kernel), List.mem_of_getElem? (i := 695) (by decide +kernel), List.mem_of_getElem? (i := 696) (by decide +kernel)⟩
theorem lw_p27 : lw_okq (⟨"ThreeRings", "slotAt", "(I)LThreeRings$Motion;"⟩, 11) := ⟨⟨by decide +kernel, by decide +kernel⟩, List.mem_of_getElem? (i := 14) (by decide +kernel), List.mem_of_getElem? (i := 709) (by decide +kernel), List.mem_of_getElem? (i := 710) (by decide +kernel)⟩
theorem lw_p28 : lw_okq (⟨"ThreeRingsModel", "readCity", "()I"⟩, 35) := ⟨⟨by decide +kernel, by decide +kernel⟩, List.mem_of_getElem? (i := 721) (by decide +kernel), List.mem_of_getElem? (i := 849) (by decide +kernel), List.mem_of_getElem? (i := 850) (by decide +kernel)⟩
theorem lw_p29 : lw_okq (⟨"ThreeRingsModel", "figure", "(II)I"⟩, 35) := ⟨⟨by decide +kernel, by decide +kernel⟩, List.mem_of_getElem? (i := 721) (by decide +kernel), List.mem_of_getElem? (i := 853) (by decide +kernel), List.mem_of_getElem? (i := 854) (by decide +kernel)⟩
theorem lw_p30 : lw_okq (⟨"ThreeRingsModel", "readPart", "()Z"⟩, 35) := ⟨⟨by decide +kernel, by decide +kernel⟩, List.mem_of_getElem? (i := 721) (by decide +kernel), List.mem_of_getElem? (i := 857) (by decide +kernel), List.mem_of_getElem? (i := 858) (by decide +kernel)⟩
theorem lw_p31 : lw_okq (⟨"ThreeRingsModel", "readRingPart", "(I)Z"⟩, 35) := ⟨⟨by decide +kernel, by decide +kernel⟩, List.mem_of_getElem? (i := 721) (by decide +kernel), List.mem_of_getElem? (i := 861) (by decide +kernel), List.mem_of_getElem? (i := 862) (by decide +kernel)⟩
def lw_privs_2 : List (MethodName × Nat) := [(⟨"ThreeRings$Ways", "addStops", "(II)V"⟩, 7), (⟨"ThreeRings", "refuseBestBrake", "(IIIII)I"⟩, 11), (⟨"ThreeRings", "bestBrakeStart", "(IIIII)I"⟩, 11), (⟨"ThreeRings", "layTrial", "(III)V"⟩, 11), (⟨"ThreeRings$Ways", "gatesInTime", "(II)I"⟩, 7), (⟨"ThreeRings$Ways", "addPumpSet", "(I)V"⟩, 7), (⟨"ThreeRings$Ways", "servesAll", "(I)Z"⟩, 7), (⟨"ThreeRings$Guess", "ruleOut", "(III)V"⟩, 5), (⟨"ThreeRings$Guess", "fits", "(III)Z"⟩, 5), (⟨"ThreeRings$Guess", "tryInmost", "(II)V"⟩, 5), (⟨"ThreeRings$Guess", "widen", "(II)V"⟩, 5), (⟨"ThreeRings", "slotAt", "(I)LThreeRings$Motion;"⟩, 11), (⟨"ThreeRingsModel", "readCity", "()I"⟩, 35), (⟨"ThreeRingsModel", "figure", "(II)I"⟩, 35), (⟨"ThreeRingsModel", "readPart", "()Z"⟩, 35), (⟨"ThreeRingsModel", "readRingPart", "(I)Z"⟩, 35)]
theorem lw_r2 : ∀ q ∈ lw_privs_2, lw_okq q := List.forall_mem_cons.mpr ⟨lw_p16, List.forall_mem_cons.mpr ⟨lw_p17, List.forall_mem_cons.mpr ⟨lw_p18, List.forall_mem_cons.mpr ⟨lw_p19, List.forall_mem_cons.mpr ⟨lw_p20, List.forall_mem_cons.mpr ⟨lw_p21, List.forall_mem_cons.mpr ⟨lw_p22, List.forall_mem_cons.mpr ⟨lw_p23, List.forall_mem_cons.mpr ⟨lw_p24, List.forall_mem_cons.mpr ⟨lw_p25, List.forall_mem_cons.mpr ⟨lw_p26, List.forall_mem_cons.mpr ⟨lw_p27, List.forall_mem_cons.mpr ⟨lw_p28, List.forall_mem_cons.mpr ⟨lw_p29, List.forall_mem_cons.mpr ⟨lw_p30, List.forall_mem_cons.mpr ⟨lw_p31, fun _ h => absurd h List.not_mem_nil⟩⟩⟩⟩⟩⟩⟩⟩⟩⟩⟩⟩⟩⟩⟩⟩
theorem lw_p32 : lw_okq (⟨"ThreeRingsModel", "readGate", "()Z"⟩, 35) := ⟨⟨by decide +kernel, by decide +kernel⟩, List.mem_of_getElem? (i := 721) (by decide +kernel), List.mem_of_getElem? (i := 872) (by decide +kernel), List.mem_of_getElem? (i := 873) (by decide +kernel)⟩
theorem lw_p33 : lw_okq (⟨"ThreeRingsModel", "noGate", "(I)Z"⟩, 35) := ⟨⟨by decide +kernel, by decide +kernel⟩, List.mem_of_getElem? (i := 721) (by decide +kernel), List.mem_of_getElem? (i := 888) (by decide +kernel), List.mem_of_getElem? (i := 889) (by decide +kernel)⟩
theorem lw_p34 : lw_okq (⟨"ThreeRingsModel", "spotAt", "(II)I"⟩, 35) := ⟨⟨by decide +kernel, by decide +kernel⟩, List.mem_of_getElem? (i := 721) (by decide +kernel), List.mem_of_getElem? (i := 919) (by decide +kernel), List.mem_of_getElem? (i := 920) (by decide +kernel)⟩
theorem lw_p35 : lw_okq (⟨"ThreeRingsModel", "turned", "(II)I"⟩, 35) := ⟨⟨by decide +kernel, by decide +kernel⟩, List.mem_of_getElem? (i := 721) (by decide +kernel), List.mem_of_getElem? (i := 923) (by decide +kernel), List.mem_of_getElem? (i := 924) (by decide +kernel)⟩
theorem lw_p36 : lw_okq (⟨"ThreeRingsModel", "spotBy", "(III)I"⟩, 35) := ⟨⟨by decide +kernel, by decide +kernel⟩, List.mem_of_getElem? (i := 721) (by decide +kernel), List.mem_of_getElem? (i := 927) (by decide +kernel), List.mem_of_getElem? (i := 928) (by decide +kernel)⟩
theorem lw_p37 : lw_okq (⟨"ThreeRingsModel", "isOpen", "(III)Z"⟩, 35) := ⟨⟨by decide +kernel, by decide +kernel⟩, List.mem_of_getElem? (i := 721) (by decide +kernel), List.mem_of_getElem? (i := 935) (by decide +kernel), List.mem_of_getElem? (i := 936) (by decide +kernel)⟩
theorem lw_p38 : lw_okq (⟨"ThreeRingsModel", "areBeside", "(II)Z"⟩, 35) := ⟨⟨by decide +kernel, by decide +kernel⟩, List.mem_of_getElem? (i := 721) (by decide +kernel), List.mem_of_getElem? (i := 939) (by decide +kernel), List.mem_of_getElem? (i := 940) (by decide +kernel)⟩
theorem lw_p39 : lw_okq (⟨"ThreeRingsModel", "isOpenAt", "(IIIII)Z"⟩, 35) := ⟨⟨by decide +kernel, by decide +kernel⟩, List.mem_of_getElem? (i := 721) (by decide +kernel), List.mem_of_getElem? (i := 943) (by decide +kernel), List.mem_of_getElem? (i := 944) (by decide +kernel)⟩
theorem lw_p40 : lw_okq (⟨"ThreeRingsModel", "nextOf", "(III)I"⟩, 35) := ⟨⟨by decide +kernel, by decide +kernel⟩, List.mem_of_getElem? (i := 721) (by decide +kernel), List.mem_of_getElem? (i := 951) (by decide +kernel), List.mem_of_getElem? (i := 952) (by decide +kernel)⟩
theorem lw_p41 : lw_okq (⟨"ThreeRingsModel", "calm", "(I)I"⟩, 35) := ⟨⟨by decide +kernel, by decide +kernel⟩, List.mem_of_getElem? (i := 721) (by decide +kernel), List.mem_of_getElem? (i := 956) (by decide +kernel), List.mem_of_getElem? (i := 957) (by decide +kernel)⟩
theorem lw_p42 : lw_okq (⟨"ThreeRingsModel", "meets", "(II)Z"⟩, 35) := ⟨⟨by decide +kernel, by decide +kernel⟩, List.mem_of_getElem? (i := 721) (by decide +kernel), List.mem_of_getElem? (i := 978) (by decide +kernel), List.mem_of_getElem? (i := 979) (by decide +kernel)⟩
theorem lw_p43 : lw_okq (⟨"ThreeRingsModel", "soonestOf", "(III)I"⟩, 35) := ⟨⟨by decide +kernel, by decide +kernel⟩, List.mem_of_getElem? (i := 721) (by decide +kernel), List.mem_of_getElem? (i := 986) (by decide +kernel), List.mem_of_getElem? (i := 987) (by decide +kernel)⟩
theorem lw_p44 : lw_okq (⟨"ThreeRingsModel", "goFrom", "(II)V"⟩, 35) := ⟨⟨by decide +kernel, by decide +kernel⟩, List.mem_of_getElem? (i := 721) (by decide +kernel), List.mem_of_getElem? (i := 990) (by decide +kernel), List.mem_of_getElem? (i := 991) (by decide +kernel)⟩
theorem lw_p45 : lw_okq (⟨"ThreeRingsModel", "by", "(III)I"⟩, 35) := ⟨⟨by decide +kernel, by decide +kernel⟩, List.mem_of_getElem? (i := 721) (by decide +kernel), List.mem_of_getElem? (i := 994) (by decide +kernel), List.mem_of_getElem? (i := 995) (by decide +kernel)⟩
theorem lw_p46 : lw_okq (⟨"ThreeRingsModel", "findBrake", "(IIIII)I"⟩, 35) := ⟨⟨by decide +kernel, by decide +kernel⟩, List.mem_of_getElem? (i := 721) (by decide +kernel), List.mem_of_getElem? (i := 1014) (by decide +kernel), List.mem_of_getElem? (i := 1015) (by decide +kernel)⟩
theorem lw_p47 : lw_okq (⟨"ThreeRingsModel", "layWorst", "(I)V"⟩, 35) := ⟨⟨by decide +kernel, by decide +kernel⟩, List.mem_of_getElem? (i := 721) (by decide +kernel), List.mem_of_getElem? (i := 1026) (by decide +kernel), List.mem_of_getElem? (i := 1027) (by decide +kernel)⟩
def lw_privs_3 : List (MethodName × Nat) := [(⟨"ThreeRingsModel", "readGate", "()Z"⟩, 35), (⟨"ThreeRingsModel", "noGate", "(I)Z"⟩, 35), (⟨"ThreeRingsModel", "spotAt", "(II)I"⟩, 35), (⟨"ThreeRingsModel", "turned", "(II)I"⟩, 35), (⟨"ThreeRingsModel", "spotBy", "(III)I"⟩, 35), (⟨"ThreeRingsModel", "isOpen", "(III)Z"⟩, 35), (⟨"ThreeRingsModel", "areBeside", "(II)Z"⟩, 35), (⟨"ThreeRingsModel", "isOpenAt", "(IIIII)Z"⟩, 35), (⟨"ThreeRingsModel", "nextOf", "(III)I"⟩, 35), (⟨"ThreeRingsModel", "calm", "(I)I"⟩, 35), (⟨"ThreeRingsModel", "meets", "(II)Z"⟩, 35), (⟨"ThreeRingsModel", "soonestOf", "(III)I"⟩, 35), (⟨"ThreeRingsModel", "goFrom", "(II)V"⟩, 35), (⟨"ThreeRingsModel", "by", "(III)I"⟩, 35), (⟨"ThreeRingsModel", "findBrake", "(IIIII)I"⟩, 35), (⟨"ThreeRingsModel", "layWorst", "(I)V"⟩, 35)]
theorem lw_r3 : ∀ q ∈ lw_privs_3, lw_okq q := List.forall_mem_cons.mpr ⟨lw_p32, List.forall_mem_cons.mpr ⟨lw_p33, List.forall_mem_cons.mpr ⟨lw_p34, List.forall_mem_cons.mpr ⟨lw_p35, List.forall_mem_cons.mpr ⟨lw_p36, List.forall_mem_cons.mpr ⟨lw_p37, List.forall_mem_cons.mpr ⟨lw_p38, List.forall_mem_cons.mpr ⟨lw_p39, List.forall_mem_cons.mpr ⟨lw_p40, List.forall_mem_cons.mpr ⟨lw_p41, List.forall_mem_cons.mpr ⟨lw_p42, List.forall_mem_cons.mpr ⟨lw_p43, List.forall_mem_cons.mpr ⟨lw_p44, List.forall_mem_cons.mpr ⟨lw_p45, List.forall_mem_cons.mpr ⟨lw_p46, List.forall_mem_cons.mpr ⟨lw_p47, fun _ h => absurd h List.not_mem_nil⟩⟩⟩⟩⟩⟩⟩⟩⟩⟩⟩⟩⟩⟩⟩⟩
theorem lw_p48 : lw_okq (⟨"ThreeRingsModel", "reachAll", "(I)Z"⟩, 35) := ⟨⟨by decide +kernel, by decide +kernel⟩, List.mem_of_getElem? (i := 721) (by decide +kernel), List.mem_of_getElem? (i := 1034) (by decide +kernel), List.mem_of_getElem? (i := 1035) (by decide +kernel)⟩
theorem lw_p49 : lw_okq (⟨"ThreeRingsModel", "layRows", "()I"⟩, 35) := ⟨⟨by decide +kernel, by decide +kernel⟩, List.mem_of_getElem? (i := 721) (by decide +kernel), List.mem_of_getElem? (i := 1050) (by decide +kernel), List.mem_of_getElem? (i := 1051) (by decide +kernel)⟩
theorem lw_p50 : lw_okq (⟨"ThreeRingsModel", "fitsAll", "(I)Z"⟩, 35) := ⟨⟨by decide +kernel, by decide +kernel⟩, List.mem_of_getElem? (i := 721) (by decide +kernel), List.mem_of_getElem? (i := 1054) (by decide +kernel), List.mem_of_getElem? (i := 1055) (by decide +kernel)⟩
theorem lw_p51 : lw_okq (⟨"ThreeRingsModel", "brakes", "()I"⟩, 35) := ⟨⟨by decide +kernel, by decide +kernel⟩, List.mem_of_getElem? (i := 721) (by decide +kernel), List.mem_of_getElem? (i := 1069) (by decide +kernel), List.mem_of_getElem? (i := 1070) (by decide +kernel)⟩
def lw_privs_4 : List (MethodName × Nat) := [(⟨"ThreeRingsModel", "reachAll", "(I)Z"⟩, 35), (⟨"ThreeRingsModel", "layRows", "()I"⟩, 35), (⟨"ThreeRingsModel", "fitsAll", "(I)Z"⟩, 35), (⟨"ThreeRingsModel", "brakes", "()I"⟩, 35)]
theorem lw_r4 : ∀ q ∈ lw_privs_4, lw_okq q := List.forall_mem_cons.mpr ⟨lw_p48, List.forall_mem_cons.mpr ⟨lw_p49, List.forall_mem_cons.mpr ⟨lw_p50, List.forall_mem_cons.mpr ⟨lw_p51, fun _ h => absurd h List.not_mem_nil⟩⟩⟩⟩
def lw_privs : List (MethodName × Nat) := lw_privs_1 ++ (lw_privs_2 ++ (lw_privs_3 ++ (lw_privs_4)))
def lw_tbl : List Cond := k2_sels lw_privs ++ tables_1
theorem lw_privs_ok : ∀ q ∈ lw_privs, lw_okq q := by
  show ∀ q ∈ lw_privs_1 ++ (lw_privs_2 ++ (lw_privs_3 ++ (lw_privs_4))), lw_okq q
  exact List.forall_mem_append.mpr ⟨lw_r1, List.forall_mem_append.mpr ⟨lw_r2, List.forall_mem_append.mpr ⟨lw_r3, lw_r4⟩⟩⟩
end
section
def RX0 : String := "ThreeRings$Guess"
def TX0 : u_T := fun k => match k with
  | 0 => ("ThreeRings$Guess", "plan", "LThreeRings$Plan;", true)
  | 1 => ("ThreeRings$Guess", "differences", "[J", true)
  | 2 => ("ThreeRings$Guess", "least", "[I", true)
  | 3 => ("ThreeRings$Guess", "greatest", "[I", true)
  | _ => ("ThreeRings$Guess", "fitting", "I", false)
def tyX0 : Nat → FieldType := fun k => match k with
  | 0 => .object "ThreeRings$Plan"
  | 1 => .array .long
  | 2 => .array .int
  | 3 => .array .int
  | _ => .int
abbrev wsX00 : List Cond := u_ws RX0 TX0 5
theorem nmX0 : ∀ a, a < 5 → ∀ b, b < 5 → a ≠ b → (TX0 a).2.1 ≠ (TX0 b).2.1 := by decide +kernel
theorem tyX0_ok : ∀ k, k < 5 → parseFieldDescriptor (TX0 k).2.2.1 = some (tyX0 k) := by decide +kernel
abbrev cX0_init : ByteArray := prog_2_method_1_code
def yX0_init : MethodName := ⟨RX0, "<init>", "(LThreeRings$Plan;)V"⟩
abbrev cX0_tryAll : ByteArray := prog_2_method_2_code
def yX0_tryAll : MethodName := ⟨RX0, "tryAll", "(LThreeRings$Motion;)V"⟩
abbrev cX0_tryInmost : ByteArray := prog_2_method_3_code
def yX0_tryInmost : MethodName := ⟨RX0, "tryInmost", "(II)V"⟩
abbrev cX0_widen : ByteArray := prog_2_method_4_code
def yX0_widen : MethodName := ⟨RX0, "widen", "(II)V"⟩
abbrev cX0_fits : ByteArray := prog_2_method_5_code
def yX0_fits : MethodName := ⟨RX0, "fits", "(III)Z"⟩
abbrev cX0_ruleOut : ByteArray := prog_2_method_6_code
def yX0_ruleOut : MethodName := ⟨RX0, "ruleOut", "(III)V"⟩
def RX1 : String := "ThreeRings$Motion"
def TX1 : u_T := fun k => match k with
  | 0 => ("ThreeRings$Motion", "pace", "[I", true)
  | 1 => ("ThreeRings$Motion", "brakeFrom", "[I", true)
  | 2 => ("ThreeRings$Motion", "brakeLong", "[I", true)
  | 3 => ("ThreeRings$Motion", "seenGate", "[I", true)
  | 4 => ("ThreeRings$Motion", "seenOther", "[I", true)
  | 5 => ("ThreeRings$Motion", "seenAt", "[I", true)
  | 6 => ("ThreeRings$Motion", "seen", "I", false)
  | _ => ("ThreeRings$Motion", "kept", "Z", false)
def tyX1 : Nat → FieldType := fun k => match k with
  | 0 => .array .int
  | 1 => .array .int
  | 2 => .array .int
  | 3 => .array .int
  | 4 => .array .int
  | 5 => .array .int
  | 6 => .int
  | _ => .boolean
abbrev wsX10 : List Cond := u_ws RX1 TX1 8
theorem nmX1 : ∀ a, a < 8 → ∀ b, b < 8 → a ≠ b → (TX1 a).2.1 ≠ (TX1 b).2.1 := by decide +kernel
theorem tyX1_ok : ∀ k, k < 8 → parseFieldDescriptor (TX1 k).2.2.1 = some (tyX1 k) := by decide +kernel
abbrev cX1_init : ByteArray := prog_3_method_1_code
def yX1_init : MethodName := ⟨RX1, "<init>", "()V"⟩
abbrev cX1_startWith : ByteArray := prog_3_method_2_code
def yX1_startWith : MethodName := ⟨RX1, "startWith", "([I)V"⟩
abbrev cX1_takeFrom : ByteArray := prog_3_method_3_code
def yX1_takeFrom : MethodName := ⟨RX1, "takeFrom", "(LThreeRings$Motion;)V"⟩
abbrev cX1_clearBrakes : ByteArray := prog_3_method_4_code
def yX1_clearBrakes : MethodName := ⟨RX1, "clearBrakes", "()V"⟩
abbrev cX1_setBrake : ByteArray := prog_3_method_5_code
def yX1_setBrake : MethodName := ⟨RX1, "setBrake", "(III)V"⟩
abbrev cX1_slow : ByteArray := prog_3_method_6_code
def yX1_slow : MethodName := ⟨RX1, "slow", "(II)V"⟩
abbrev cX1_braked : ByteArray := prog_3_method_7_code
def yX1_braked : MethodName := ⟨RX1, "braked", "()I"⟩
abbrev cX1_addSeen : ByteArray := prog_3_method_8_code
def yX1_addSeen : MethodName := ⟨RX1, "addSeen", "(III)V"⟩
def RX2 : String := "ThreeRings$Plan"
def TX2 : u_T := fun k => match k with
  | 0 => ("ThreeRings$Plan", "parts", "I", false)
  | 1 => ("ThreeRings$Plan", "gates", "I", false)
  | 2 => ("ThreeRings$Plan", "ring", "[I", true)
  | 3 => ("ThreeRings$Plan", "rim", "[I", true)
  | 4 => ("ThreeRings$Plan", "place", "[I", true)
  | 5 => ("ThreeRings$Plan", "kind", "[I", true)
  | _ => ("ThreeRings$Plan", "firstPace", "[I", true)
def tyX2 : Nat → FieldType := fun k => match k with
  | 0 => .int
  | 1 => .int
  | 2 => .array .int
  | 3 => .array .int
  | 4 => .array .int
  | 5 => .array .int
  | _ => .array .int
abbrev wsX20 : List Cond := u_ws RX2 TX2 7
theorem nmX2 : ∀ a, a < 7 → ∀ b, b < 7 → a ≠ b → (TX2 a).2.1 ≠ (TX2 b).2.1 := by decide +kernel
theorem tyX2_ok : ∀ k, k < 7 → parseFieldDescriptor (TX2 k).2.2.1 = some (tyX2 k) := by decide +kernel
abbrev cX2_init : ByteArray := prog_4_method_1_code
def yX2_init : MethodName := ⟨RX2, "<init>", "()V"⟩
abbrev cX2_clear : ByteArray := prog_4_method_2_code
def yX2_clear : MethodName := ⟨RX2, "clear", "()V"⟩
abbrev cX2_takeFrom : ByteArray := prog_4_method_3_code
def yX2_takeFrom : MethodName := ⟨RX2, "takeFrom", "(LThreeRings$Plan;)V"⟩
abbrev cX2_hasGate : ByteArray := prog_4_method_4_code
def yX2_hasGate : MethodName := ⟨RX2, "hasGate", "(I)Z"⟩
abbrev cX2_hasGates : ByteArray := prog_4_method_5_code
def yX2_hasGates : MethodName := ⟨RX2, "hasGates", "(I)Z"⟩
abbrev cX2_wrap : ByteArray := prog_4_method_6_code
def yX2_wrap : MethodName := ⟨RX2, "wrap", "(I)I"⟩
abbrev cX2_walk : ByteArray := prog_4_method_7_code
def yX2_walk : MethodName := ⟨RX2, "walk", "(II)I"⟩
def RX3 : String := "ThreeRings$Reader"
def TX3 : u_T := fun k => match k with
  | 0 => ("ThreeRings$Reader", "draft", "LThreeRings$Plan;", true)
  | 1 => ("ThreeRings$Reader", "letter", "I", false)
  | 2 => ("ThreeRings$Reader", "figures", "I", false)
  | 3 => ("ThreeRings$Reader", "partsTold", "Z", false)
  | 4 => ("ThreeRings$Reader", "ringsTold", "I", false)
  | 5 => ("ThreeRings$Reader", "ring", "I", false)
  | 6 => ("ThreeRings$Reader", "rim", "I", false)
  | _ => ("ThreeRings$Reader", "place", "I", false)
def tyX3 : Nat → FieldType := fun k => match k with
  | 0 => .object "ThreeRings$Plan"
  | 1 => .int
  | 2 => .int
  | 3 => .boolean
  | 4 => .int
  | 5 => .int
  | 6 => .int
  | _ => .int
abbrev wsX30 : List Cond := u_ws RX3 TX3 8
theorem nmX3 : ∀ a, a < 8 → ∀ b, b < 8 → a ≠ b → (TX3 a).2.1 ≠ (TX3 b).2.1 := by decide +kernel
theorem tyX3_ok : ∀ k, k < 8 → parseFieldDescriptor (TX3 k).2.2.1 = some (tyX3 k) := by decide +kernel
abbrev cX3_init : ByteArray := prog_5_method_1_code
def yX3_init : MethodName := ⟨RX3, "<init>", "()V"⟩
abbrev cX3_firstFault : ByteArray := prog_5_method_2_code
def yX3_firstFault : MethodName := ⟨RX3, "firstFault", "([II)I"⟩
abbrev cX3_takes : ByteArray := prog_5_method_3_code
def yX3_takes : MethodName := ⟨RX3, "takes", "(I)Z"⟩
abbrev cX3_takesLetter : ByteArray := prog_5_method_4_code
def yX3_takesLetter : MethodName := ⟨RX3, "takesLetter", "(I)Z"⟩
abbrev cX3_takesParts : ByteArray := prog_5_method_5_code
def yX3_takesParts : MethodName := ⟨RX3, "takesParts", "(I)Z"⟩
abbrev cX3_takesPace : ByteArray := prog_5_method_6_code
def yX3_takesPace : MethodName := ⟨RX3, "takesPace", "(I)Z"⟩
abbrev cX3_takesGate : ByteArray := prog_5_method_7_code
def yX3_takesGate : MethodName := ⟨RX3, "takesGate", "(I)Z"⟩
abbrev cX3_addsGate : ByteArray := prog_5_method_8_code
def yX3_addsGate : MethodName := ⟨RX3, "addsGate", "(I)Z"⟩
def RX4 : String := "ThreeRings$Timetable"
def TX4 : u_T := fun k => match k with
  | 0 => ("ThreeRings$Timetable", "plan", "LThreeRings$Plan;", true)
  | 1 => ("ThreeRings$Timetable", "turned", "[I", true)
  | 2 => ("ThreeRings$Timetable", "pairOf", "[I", true)
  | 3 => ("ThreeRings$Timetable", "slack", "[I", true)
  | 4 => ("ThreeRings$Timetable", "ahead", "[I", true)
  | 5 => ("ThreeRings$Timetable", "oddAhead", "[I", true)
  | 6 => ("ThreeRings$Timetable", "onlyThirds", "[Z", true)
  | 7 => ("ThreeRings$Timetable", "outerRing", "[I", true)
  | 8 => ("ThreeRings$Timetable", "waits", "[I", true)
  | 9 => ("ThreeRings$Timetable", "pairs", "I", false)
  | 10 => ("ThreeRings$Timetable", "laying", "I", false)
  | 11 => ("ThreeRings$Timetable", "steady", "I", false)
  | _ => ("ThreeRings$Timetable", "span", "I", false)
def tyX4 : Nat → FieldType := fun k => match k with
  | 0 => .object "ThreeRings$Plan"
  | 1 => .array .int
  | 2 => .array .int
  | 3 => .array .int
  | 4 => .array .int
  | 5 => .array .int
  | 6 => .array .boolean
  | 7 => .array .int
  | 8 => .array .int
  | 9 => .int
  | 10 => .int
  | 11 => .int
  | _ => .int
abbrev wsX40 : List Cond := u_ws RX4 TX4 13
theorem nmX4 : ∀ a, a < 13 → ∀ b, b < 13 → a ≠ b → (TX4 a).2.1 ≠ (TX4 b).2.1 := by decide +kernel
theorem tyX4_ok : ∀ k, k < 13 → parseFieldDescriptor (TX4 k).2.2.1 = some (tyX4 k) := by decide +kernel
abbrev cX4_init : ByteArray := prog_6_method_1_code
def yX4_init : MethodName := ⟨RX4, "<init>", "(LThreeRings$Plan;)V"⟩
abbrev cX4_pairUp : ByteArray := prog_6_method_2_code
def yX4_pairUp : MethodName := ⟨RX4, "pairUp", "()V"⟩
abbrev cX4_addPair : ByteArray := prog_6_method_3_code
def yX4_addPair : MethodName := ⟨RX4, "addPair", "(II)V"⟩
abbrev cX4_lay : ByteArray := prog_6_method_4_code
def yX4_lay : MethodName := ⟨RX4, "lay", "(LThreeRings$Motion;)V"⟩
abbrev cX4_layRing : ByteArray := prog_6_method_5_code
def yX4_layRing : MethodName := ⟨RX4, "layRing", "(IIII)V"⟩
abbrev cX4_fold : ByteArray := prog_6_method_6_code
def yX4_fold : MethodName := ⟨RX4, "fold", "(I)I"⟩
abbrev cX4_horizonFrom : ByteArray := prog_6_method_7_code
def yX4_horizonFrom : MethodName := ⟨RX4, "horizonFrom", "(I)I"⟩
abbrev cX4_placeAt : ByteArray := prog_6_method_8_code
def yX4_placeAt : MethodName := ⟨RX4, "placeAt", "(II)I"⟩
abbrev cX4_atOnePlace : ByteArray := prog_6_method_9_code
def yX4_atOnePlace : MethodName := ⟨RX4, "atOnePlace", "(II)Z"⟩
abbrev cX4_joinOf : ByteArray := prog_6_method_10_code
def yX4_joinOf : MethodName := ⟨RX4, "joinOf", "(II)I"⟩
abbrev cX4_isOpen : ByteArray := prog_6_method_11_code
def yX4_isOpen : MethodName := ⟨RX4, "isOpen", "(II)Z"⟩
abbrev cX4_isPair : ByteArray := prog_6_method_12_code
def yX4_isPair : MethodName := ⟨RX4, "isPair", "(I)Z"⟩
abbrev cX4_openAt : ByteArray := prog_6_method_13_code
def yX4_openAt : MethodName := ⟨RX4, "openAt", "(II)Z"⟩
abbrev cX4_waitFor : ByteArray := prog_6_method_14_code
def yX4_waitFor : MethodName := ⟨RX4, "waitFor", "(II)I"⟩
abbrev cX4_rememberWaits : ByteArray := prog_6_method_15_code
def yX4_rememberWaits : MethodName := ⟨RX4, "rememberWaits", "(IIII)V"⟩
def RX5 : String := "ThreeRings$Ways"
def TX5 : u_T := fun k => match k with
  | 0 => ("ThreeRings$Ways", "plan", "LThreeRings$Plan;", true)
  | 1 => ("ThreeRings$Ways", "table", "LThreeRings$Timetable;", true)
  | 2 => ("ThreeRings$Ways", "arrive", "[I", true)
  | 3 => ("ThreeRings$Ways", "before", "[I", true)
  | 4 => ("ThreeRings$Ways", "soonestWith", "[I", true)
  | 5 => ("ThreeRings$Ways", "pumpSets", "[I", true)
  | _ => ("ThreeRings$Ways", "pumpSetCount", "I", false)
def tyX5 : Nat → FieldType := fun k => match k with
  | 0 => .object "ThreeRings$Plan"
  | 1 => .object "ThreeRings$Timetable"
  | 2 => .array .int
  | 3 => .array .int
  | 4 => .array .int
  | 5 => .array .int
  | _ => .int
abbrev wsX50 : List Cond := u_ws RX5 TX5 7
theorem nmX5 : ∀ a, a < 7 → ∀ b, b < 7 → a ≠ b → (TX5 a).2.1 ≠ (TX5 b).2.1 := by decide +kernel
theorem tyX5_ok : ∀ k, k < 7 → parseFieldDescriptor (TX5 k).2.2.1 = some (tyX5 k) := by decide +kernel
abbrev cX5_init : ByteArray := prog_7_method_1_code
def yX5_init : MethodName := ⟨RX5, "<init>", "(LThreeRings$Plan;LThreeRings$Timetable;)V"⟩
abbrev cX5_spread : ByteArray := prog_7_method_2_code
def yX5_spread : MethodName := ⟨RX5, "spread", "(II)V"⟩
abbrev cX5_soonestOf : ByteArray := prog_7_method_3_code
def yX5_soonestOf : MethodName := ⟨RX5, "soonestOf", "(I)I"⟩
abbrev cX5_reach : ByteArray := prog_7_method_4_code
def yX5_reach : MethodName := ⟨RX5, "reach", "(III)I"⟩
abbrev cX5_gateOfStep : ByteArray := prog_7_method_5_code
def yX5_gateOfStep : MethodName := ⟨RX5, "gateOfStep", "(III)I"⟩
abbrev cX5_stepsTo : ByteArray := prog_7_method_6_code
def yX5_stepsTo : MethodName := ⟨RX5, "stepsTo", "(II)I"⟩
abbrev cX5_gateAhead : ByteArray := prog_7_method_7_code
def yX5_gateAhead : MethodName := ⟨RX5, "gateAhead", "(I)I"⟩
abbrev cX5_lastStart : ByteArray := prog_7_method_8_code
def yX5_lastStart : MethodName := ⟨RX5, "lastStart", "(III)I"⟩
abbrev cX5_endOfRound : ByteArray := prog_7_method_9_code
def yX5_endOfRound : MethodName := ⟨RX5, "endOfRound", "(III)I"⟩
abbrev cX5_addStops : ByteArray := prog_7_method_10_code
def yX5_addStops : MethodName := ⟨RX5, "addStops", "(II)V"⟩
abbrev cX5_longest : ByteArray := prog_7_method_11_code
def yX5_longest : MethodName := ⟨RX5, "longest", "(II)I"⟩
abbrev cX5_rememberAll : ByteArray := prog_7_method_12_code
def yX5_rememberAll : MethodName := ⟨RX5, "rememberAll", "(I)V"⟩
abbrev cX5_countLater : ByteArray := prog_7_method_13_code
def yX5_countLater : MethodName := ⟨RX5, "countLater", "(I)I"⟩
abbrev cX5_fewestPumps : ByteArray := prog_7_method_14_code
def yX5_fewestPumps : MethodName := ⟨RX5, "fewestPumps", "()I"⟩
abbrev cX5_collectPumpSets : ByteArray := prog_7_method_15_code
def yX5_collectPumpSets : MethodName := ⟨RX5, "collectPumpSets", "(I)V"⟩
abbrev cX5_gatesInTime : ByteArray := prog_7_method_16_code
def yX5_gatesInTime : MethodName := ⟨RX5, "gatesInTime", "(II)I"⟩
abbrev cX5_addPumpSet : ByteArray := prog_7_method_17_code
def yX5_addPumpSet : MethodName := ⟨RX5, "addPumpSet", "(I)V"⟩
abbrev cX5_servesAll : ByteArray := prog_7_method_18_code
def yX5_servesAll : MethodName := ⟨RX5, "servesAll", "(I)Z"⟩
def RX6 : String := "ThreeRings"
def TX6 : u_T := fun k => match k with
  | 0 => ("ThreeRings", "text", "[I", true)
  | 1 => ("ThreeRings", "textLength", "I", false)
  | 2 => ("ThreeRings", "reader", "LThreeRings$Reader;", true)
  | 3 => ("ThreeRings", "plan", "LThreeRings$Plan;", true)
  | 4 => ("ThreeRings", "now", "LThreeRings$Motion;", true)
  | 5 => ("ThreeRings", "trial", "LThreeRings$Motion;", true)
  | 6 => ("ThreeRings", "slot0", "LThreeRings$Motion;", true)
  | 7 => ("ThreeRings", "slot1", "LThreeRings$Motion;", true)
  | 8 => ("ThreeRings", "table", "LThreeRings$Timetable;", true)
  | 9 => ("ThreeRings", "ways", "LThreeRings$Ways;", true)
  | _ => ("ThreeRings", "guess", "LThreeRings$Guess;", true)
def tyX6 : Nat → FieldType := fun k => match k with
  | 0 => .array .int
  | 1 => .int
  | 2 => .object "ThreeRings$Reader"
  | 3 => .object "ThreeRings$Plan"
  | 4 => .object "ThreeRings$Motion"
  | 5 => .object "ThreeRings$Motion"
  | 6 => .object "ThreeRings$Motion"
  | 7 => .object "ThreeRings$Motion"
  | 8 => .object "ThreeRings$Timetable"
  | 9 => .object "ThreeRings$Ways"
  | _ => .object "ThreeRings$Guess"
abbrev wsX60 : List Cond := u_ws RX6 TX6 11
theorem nmX6 : ∀ a, a < 11 → ∀ b, b < 11 → a ≠ b → (TX6 a).2.1 ≠ (TX6 b).2.1 := by decide +kernel
theorem tyX6_ok : ∀ k, k < 11 → parseFieldDescriptor (TX6 k).2.2.1 = some (tyX6 k) := by decide +kernel
abbrev cX6_init : ByteArray := prog_1_method_1_code
def yX6_init : MethodName := ⟨RX6, "<init>", "()V"⟩
abbrev cX6_write : ByteArray := prog_1_method_2_code
def yX6_write : MethodName := ⟨RX6, "write", "(IJ)I"⟩
abbrev cX6_wipe : ByteArray := prog_1_method_3_code
def yX6_wipe : MethodName := ⟨RX6, "wipe", "()I"⟩
abbrev cX6_fault : ByteArray := prog_1_method_4_code
def yX6_fault : MethodName := ⟨RX6, "fault", "()I"⟩
abbrev cX6_city : ByteArray := prog_1_method_5_code
def yX6_city : MethodName := ⟨RX6, "city", "()I"⟩
abbrev cX6_about : ByteArray := prog_1_method_6_code
def yX6_about : MethodName := ⟨RX6, "about", "(I)I"⟩
abbrev cX6_gate : ByteArray := prog_1_method_7_code
def yX6_gate : MethodName := ⟨RX6, "gate", "(II)I"⟩
abbrev cX6_pace : ByteArray := prog_1_method_8_code
def yX6_pace : MethodName := ⟨RX6, "pace", "(I)I"⟩
abbrev cX6_turn : ByteArray := prog_1_method_9_code
def yX6_turn : MethodName := ⟨RX6, "turn", "(II)I"⟩
abbrev cX6_brake : ByteArray := prog_1_method_10_code
def yX6_brake : MethodName := ⟨RX6, "brake", "(III)I"⟩
abbrev cX6_dry : ByteArray := prog_1_method_11_code
def yX6_dry : MethodName := ⟨RX6, "dry", "(I)I"⟩
abbrev cX6_where : ByteArray := prog_1_method_12_code
def yX6_where : MethodName := ⟨RX6, "where", "(II)I"⟩
abbrev cX6_open : ByteArray := prog_1_method_13_code
def yX6_open : MethodName := ⟨RX6, "open", "(III)I"⟩
abbrev cX6_next : ByteArray := prog_1_method_14_code
def yX6_next : MethodName := ⟨RX6, "next", "(III)I"⟩
abbrev cX6_stays : ByteArray := prog_1_method_15_code
def yX6_stays : MethodName := ⟨RX6, "stays", "(III)I"⟩
abbrev cX6_share : ByteArray := prog_1_method_16_code
def yX6_share : MethodName := ⟨RX6, "share", "(IIZ)I"⟩
abbrev cX6_meet : ByteArray := prog_1_method_17_code
def yX6_meet : MethodName := ⟨RX6, "meet", "(II)I"⟩
abbrev cX6_soonest : ByteArray := prog_1_method_18_code
def yX6_soonest : MethodName := ⟨RX6, "soonest", "(III)I"⟩
abbrev cX6_step : ByteArray := prog_1_method_19_code
def yX6_step : MethodName := ⟨RX6, "step", "(IIIII)I"⟩
abbrev cX6_latest : ByteArray := prog_1_method_20_code
def yX6_latest : MethodName := ⟨RX6, "latest", "(III)I"⟩
abbrev cX6_round : ByteArray := prog_1_method_21_code
def yX6_round : MethodName := ⟨RX6, "round", "(III)I"⟩
abbrev cX6_bestBrake : ByteArray := prog_1_method_22_code
def yX6_bestBrake : MethodName := ⟨RX6, "bestBrake", "(IIIII)I"⟩
abbrev cX6_harm : ByteArray := prog_1_method_23_code
def yX6_harm : MethodName := ⟨RX6, "harm", "(IIIII)I"⟩
abbrev cX6_worst : ByteArray := prog_1_method_24_code
def yX6_worst : MethodName := ⟨RX6, "worst", "(II)I"⟩
abbrev cX6_pumps : ByteArray := prog_1_method_25_code
def yX6_pumps : MethodName := ⟨RX6, "pumps", "(I)I"⟩
abbrev cX6_see : ByteArray := prog_1_method_26_code
def yX6_see : MethodName := ⟨RX6, "see", "(III)I"⟩
abbrev cX6_unsee : ByteArray := prog_1_method_27_code
def yX6_unsee : MethodName := ⟨RX6, "unsee", "()I"⟩
abbrev cX6_rows : ByteArray := prog_1_method_28_code
def yX6_rows : MethodName := ⟨RX6, "rows", "()I"⟩
abbrev cX6_likely : ByteArray := prog_1_method_29_code
def yX6_likely : MethodName := ⟨RX6, "likely", "(IZ)I"⟩
abbrev cX6_keep : ByteArray := prog_1_method_30_code
def yX6_keep : MethodName := ⟨RX6, "keep", "(I)I"⟩
abbrev cX6_again : ByteArray := prog_1_method_31_code
def yX6_again : MethodName := ⟨RX6, "again", "(I)I"⟩
abbrev cX6_isRing : ByteArray := prog_1_method_32_code
def yX6_isRing : MethodName := ⟨RX6, "isRing", "(I)Z"⟩
abbrev cX6_isSecond : ByteArray := prog_1_method_33_code
def yX6_isSecond : MethodName := ⟨RX6, "isSecond", "(I)Z"⟩
abbrev cX6_slotAt : ByteArray := prog_1_method_34_code
def yX6_slotAt : MethodName := ⟨RX6, "slotAt", "(I)LThreeRings$Motion;"⟩
abbrev cX6_areGates : ByteArray := prog_1_method_35_code
def yX6_areGates : MethodName := ⟨RX6, "areGates", "(II)Z"⟩
abbrev cX6_orNone : ByteArray := prog_1_method_36_code
def yX6_orNone : MethodName := ⟨RX6, "orNone", "(I)I"⟩
abbrev cX6_commonDivisor : ByteArray := prog_1_method_37_code
def yX6_commonDivisor : MethodName := ⟨RX6, "commonDivisor", "(II)I"⟩
abbrev cX6_refuseBestBrake : ByteArray := prog_1_method_38_code
def yX6_refuseBestBrake : MethodName := ⟨RX6, "refuseBestBrake", "(IIIII)I"⟩
abbrev cX6_layTrial : ByteArray := prog_1_method_39_code
def yX6_layTrial : MethodName := ⟨RX6, "layTrial", "(III)V"⟩
abbrev cX6_bestBrakeStart : ByteArray := prog_1_method_40_code
def yX6_bestBrakeStart : MethodName := ⟨RX6, "bestBrakeStart", "(IIIII)I"⟩
def RX7 : String := "ThreeRingsModel"
def TX7 : u_T := fun k => match k with
  | 0 => ("ThreeRingsModel", "thrown", "I", false)
  | 1 => ("ThreeRingsModel", "text", "[I", true)
  | 2 => ("ThreeRingsModel", "textSize", "I", false)
  | 3 => ("ThreeRingsModel", "place", "I", false)
  | 4 => ("ThreeRingsModel", "u", "I", false)
  | 5 => ("ThreeRingsModel", "gates", "I", false)
  | 6 => ("ThreeRingsModel", "ring", "[I", true)
  | 7 => ("ThreeRingsModel", "rim", "[I", true)
  | 8 => ("ThreeRingsModel", "spot", "[I", true)
  | 9 => ("ThreeRingsModel", "kind", "[I", true)
  | 10 => ("ThreeRingsModel", "pace", "[I", true)
  | 11 => ("ThreeRingsModel", "from", "[I", true)
  | 12 => ("ThreeRingsModel", "lasts", "[I", true)
  | 13 => ("ThreeRingsModel", "readU", "I", false)
  | 14 => ("ThreeRingsModel", "readGates", "I", false)
  | 15 => ("ThreeRingsModel", "readRing", "[I", true)
  | 16 => ("ThreeRingsModel", "readRim", "[I", true)
  | 17 => ("ThreeRingsModel", "readSpot", "[I", true)
  | 18 => ("ThreeRingsModel", "readKind", "[I", true)
  | 19 => ("ThreeRingsModel", "readPace", "[I", true)
  | 20 => ("ThreeRingsModel", "readRings", "I", false)
  | 21 => ("ThreeRingsModel", "seen", "I", false)
  | 22 => ("ThreeRingsModel", "seenA", "[I", true)
  | 23 => ("ThreeRingsModel", "seenB", "[I", true)
  | 24 => ("ThreeRingsModel", "seenT", "[I", true)
  | 25 => ("ThreeRingsModel", "kept", "[I", true)
  | 26 => ("ThreeRingsModel", "isKept", "[Z", true)
  | 27 => ("ThreeRingsModel", "soon", "[I", true)
  | 28 => ("ThreeRingsModel", "settled", "[Z", true)
  | 29 => ("ThreeRingsModel", "before", "[I", true)
  | 30 => ("ThreeRingsModel", "ends", "[I", true)
  | 31 => ("ThreeRingsModel", "reaches", "[I", true)
  | 32 => ("ThreeRingsModel", "low", "[I", true)
  | 33 => ("ThreeRingsModel", "high", "[I", true)
  | _ => ("ThreeRingsModel", "braked", "I", false)
def tyX7 : Nat → FieldType := fun k => match k with
  | 0 => .int
  | 1 => .array .int
  | 2 => .int
  | 3 => .int
  | 4 => .int
  | 5 => .int
  | 6 => .array .int
  | 7 => .array .int
  | 8 => .array .int
  | 9 => .array .int
  | 10 => .array .int
  | 11 => .array .int
  | 12 => .array .int
  | 13 => .int
  | 14 => .int
  | 15 => .array .int
  | 16 => .array .int
  | 17 => .array .int
  | 18 => .array .int
  | 19 => .array .int
  | 20 => .int
  | 21 => .int
  | 22 => .array .int
  | 23 => .array .int
  | 24 => .array .int
  | 25 => .array .int
  | 26 => .array .boolean
  | 27 => .array .int
  | 28 => .array .boolean
  | 29 => .array .int
  | 30 => .array .int
  | 31 => .array .int
  | 32 => .array .int
  | 33 => .array .int
  | _ => .int
abbrev wsX70 : List Cond := u_ws RX7 TX7 35
theorem nmX7 : ∀ a, a < 35 → ∀ b, b < 35 → a ≠ b → (TX7 a).2.1 ≠ (TX7 b).2.1 := by decide +kernel
theorem tyX7_ok : ∀ k, k < 35 → parseFieldDescriptor (TX7 k).2.2.1 = some (tyX7 k) := by decide +kernel
abbrev cX7_init : ByteArray := prog_9_method_1_code
def yX7_init : MethodName := ⟨RX7, "<init>", "()V"⟩
abbrev cX7_in : ByteArray := prog_9_method_3_code
def yX7_in : MethodName := ⟨RX7, "in", "(JJJ)Z"⟩
abbrev cX7_has : ByteArray := prog_9_method_4_code
def yX7_has : MethodName := ⟨RX7, "has", "(II)Z"⟩
abbrev cX7_many : ByteArray := prog_9_method_5_code
def yX7_many : MethodName := ⟨RX7, "many", "(I)I"⟩
abbrev cX7_noGate : ByteArray := prog_9_method_6_code
def yX7_noGate : MethodName := ⟨RX7, "noGate", "(I)Z"⟩
abbrev cX7_noSecond : ByteArray := prog_9_method_7_code
def yX7_noSecond : MethodName := ⟨RX7, "noSecond", "(I)Z"⟩
abbrev cX7_noRing : ByteArray := prog_9_method_8_code
def yX7_noRing : MethodName := ⟨RX7, "noRing", "(I)Z"⟩
abbrev cX7_write : ByteArray := prog_9_method_9_code
def yX7_write : MethodName := ⟨RX7, "write", "(IJ)I"⟩
abbrev cX7_wipe : ByteArray := prog_9_method_10_code
def yX7_wipe : MethodName := ⟨RX7, "wipe", "()I"⟩
abbrev cX7_figure : ByteArray := prog_9_method_11_code
def yX7_figure : MethodName := ⟨RX7, "figure", "(II)I"⟩
abbrev cX7_readRingPart : ByteArray := prog_9_method_12_code
def yX7_readRingPart : MethodName := ⟨RX7, "readRingPart", "(I)Z"⟩
abbrev cX7_readGate : ByteArray := prog_9_method_13_code
def yX7_readGate : MethodName := ⟨RX7, "readGate", "()Z"⟩
abbrev cX7_readPart : ByteArray := prog_9_method_14_code
def yX7_readPart : MethodName := ⟨RX7, "readPart", "()Z"⟩
abbrev cX7_readCity : ByteArray := prog_9_method_15_code
def yX7_readCity : MethodName := ⟨RX7, "readCity", "()I"⟩
abbrev cX7_fault : ByteArray := prog_9_method_16_code
def yX7_fault : MethodName := ⟨RX7, "fault", "()I"⟩
abbrev cX7_city : ByteArray := prog_9_method_17_code
def yX7_city : MethodName := ⟨RX7, "city", "()I"⟩
abbrev cX7_about : ByteArray := prog_9_method_18_code
def yX7_about : MethodName := ⟨RX7, "about", "(I)I"⟩
abbrev cX7_gate : ByteArray := prog_9_method_19_code
def yX7_gate : MethodName := ⟨RX7, "gate", "(II)I"⟩
abbrev cX7_pace : ByteArray := prog_9_method_20_code
def yX7_pace : MethodName := ⟨RX7, "pace", "(I)I"⟩
abbrev cX7_turn : ByteArray := prog_9_method_21_code
def yX7_turn : MethodName := ⟨RX7, "turn", "(II)I"⟩
abbrev cX7_brake : ByteArray := prog_9_method_22_code
def yX7_brake : MethodName := ⟨RX7, "brake", "(III)I"⟩
abbrev cX7_dry : ByteArray := prog_9_method_23_code
def yX7_dry : MethodName := ⟨RX7, "dry", "(I)I"⟩
abbrev cX7_turned : ByteArray := prog_9_method_24_code
def yX7_turned : MethodName := ⟨RX7, "turned", "(II)I"⟩
abbrev cX7_spotBy : ByteArray := prog_9_method_25_code
def yX7_spotBy : MethodName := ⟨RX7, "spotBy", "(III)I"⟩
abbrev cX7_spotAt : ByteArray := prog_9_method_26_code
def yX7_spotAt : MethodName := ⟨RX7, "spotAt", "(II)I"⟩
abbrev cX7_where : ByteArray := prog_9_method_27_code
def yX7_where : MethodName := ⟨RX7, "where", "(II)I"⟩
abbrev cX7_areBeside : ByteArray := prog_9_method_28_code
def yX7_areBeside : MethodName := ⟨RX7, "areBeside", "(II)Z"⟩
abbrev cX7_isOpenAt : ByteArray := prog_9_method_29_code
def yX7_isOpenAt : MethodName := ⟨RX7, "isOpenAt", "(IIIII)Z"⟩
abbrev cX7_isOpen : ByteArray := prog_9_method_30_code
def yX7_isOpen : MethodName := ⟨RX7, "isOpen", "(III)Z"⟩
abbrev cX7_open : ByteArray := prog_9_method_31_code
def yX7_open : MethodName := ⟨RX7, "open", "(III)I"⟩
abbrev cX7_calm : ByteArray := prog_9_method_32_code
def yX7_calm : MethodName := ⟨RX7, "calm", "(I)I"⟩
abbrev cX7_nextOf : ByteArray := prog_9_method_33_code
def yX7_nextOf : MethodName := ⟨RX7, "nextOf", "(III)I"⟩
abbrev cX7_next : ByteArray := prog_9_method_34_code
def yX7_next : MethodName := ⟨RX7, "next", "(III)I"⟩
abbrev cX7_stays : ByteArray := prog_9_method_35_code
def yX7_stays : MethodName := ⟨RX7, "stays", "(III)I"⟩
abbrev cX7_told : ByteArray := prog_9_method_36_code
def yX7_told : MethodName := ⟨RX7, "told", "(IIZ)I"⟩
abbrev cX7_share : ByteArray := prog_9_method_37_code
def yX7_share : MethodName := ⟨RX7, "share", "(IIZ)I"⟩
abbrev cX7_meets : ByteArray := prog_9_method_38_code
def yX7_meets : MethodName := ⟨RX7, "meets", "(II)Z"⟩
abbrev cX7_meet : ByteArray := prog_9_method_39_code
def yX7_meet : MethodName := ⟨RX7, "meet", "(II)I"⟩
abbrev cX7_by : ByteArray := prog_9_method_40_code
def yX7_by : MethodName := ⟨RX7, "by", "(III)I"⟩
abbrev cX7_goFrom : ByteArray := prog_9_method_41_code
def yX7_goFrom : MethodName := ⟨RX7, "goFrom", "(II)V"⟩
abbrev cX7_soonestOf : ByteArray := prog_9_method_42_code
def yX7_soonestOf : MethodName := ⟨RX7, "soonestOf", "(III)I"⟩
abbrev cX7_soonest : ByteArray := prog_9_method_43_code
def yX7_soonest : MethodName := ⟨RX7, "soonest", "(III)I"⟩
abbrev cX7_step : ByteArray := prog_9_method_44_code
def yX7_step : MethodName := ⟨RX7, "step", "(IIIII)I"⟩
abbrev cX7_latest : ByteArray := prog_9_method_45_code
def yX7_latest : MethodName := ⟨RX7, "latest", "(III)I"⟩
abbrev cX7_round : ByteArray := prog_9_method_46_code
def yX7_round : MethodName := ⟨RX7, "round", "(III)I"⟩
abbrev cX7_findBrake : ByteArray := prog_9_method_47_code
def yX7_findBrake : MethodName := ⟨RX7, "findBrake", "(IIIII)I"⟩
abbrev cX7_bestBrake : ByteArray := prog_9_method_48_code
def yX7_bestBrake : MethodName := ⟨RX7, "bestBrake", "(IIIII)I"⟩
abbrev cX7_harm : ByteArray := prog_9_method_49_code
def yX7_harm : MethodName := ⟨RX7, "harm", "(IIIII)I"⟩
abbrev cX7_layWorst : ByteArray := prog_9_method_50_code
def yX7_layWorst : MethodName := ⟨RX7, "layWorst", "(I)V"⟩
abbrev cX7_worst : ByteArray := prog_9_method_51_code
def yX7_worst : MethodName := ⟨RX7, "worst", "(II)I"⟩
abbrev cX7_pumps : ByteArray := prog_9_method_52_code
def yX7_pumps : MethodName := ⟨RX7, "pumps", "(I)I"⟩
abbrev cX7_reachAll : ByteArray := prog_9_method_53_code
def yX7_reachAll : MethodName := ⟨RX7, "reachAll", "(I)Z"⟩
abbrev cX7_see : ByteArray := prog_9_method_54_code
def yX7_see : MethodName := ⟨RX7, "see", "(III)I"⟩
abbrev cX7_unsee : ByteArray := prog_9_method_55_code
def yX7_unsee : MethodName := ⟨RX7, "unsee", "()I"⟩
abbrev cX7_paceOf : ByteArray := prog_9_method_56_code
def yX7_paceOf : MethodName := ⟨RX7, "paceOf", "(II)I"⟩
abbrev cX7_fitsAll : ByteArray := prog_9_method_57_code
def yX7_fitsAll : MethodName := ⟨RX7, "fitsAll", "(I)Z"⟩
abbrev cX7_layRows : ByteArray := prog_9_method_58_code
def yX7_layRows : MethodName := ⟨RX7, "layRows", "()I"⟩
abbrev cX7_rows : ByteArray := prog_9_method_59_code
def yX7_rows : MethodName := ⟨RX7, "rows", "()I"⟩
abbrev cX7_likely : ByteArray := prog_9_method_60_code
def yX7_likely : MethodName := ⟨RX7, "likely", "(IZ)I"⟩
abbrev cX7_brakes : ByteArray := prog_9_method_61_code
def yX7_brakes : MethodName := ⟨RX7, "brakes", "()I"⟩
abbrev cX7_keep : ByteArray := prog_9_method_62_code
def yX7_keep : MethodName := ⟨RX7, "keep", "(I)I"⟩
abbrev cX7_again : ByteArray := prog_9_method_63_code
def yX7_again : MethodName := ⟨RX7, "again", "(I)I"⟩
def RJ6 : String := "java/lang/Integer"
def TJ6 : u_T := fun k => match k with
  | _ => ("", "", "", false)
def tyJ6 : Nat → FieldType := fun k => match k with
  | _ => .int
abbrev wsJ60 : List Cond := u_ws RJ6 TJ6 0
theorem nmJ6 : ∀ a, a < 0 → ∀ b, b < 0 → a ≠ b → (TJ6 a).2.1 ≠ (TJ6 b).2.1 := by decide +kernel
theorem tyJ6_ok : ∀ k, k < 0 → parseFieldDescriptor (TJ6 k).2.2.1 = some (tyJ6 k) := by decide +kernel
abbrev cJ6_bitCount_0f7a4 : ByteArray := prog_10_method_49_code
def yJ6_bitCount_0f7a4 : MethodName := ⟨RJ6, "bitCount", "(I)I"⟩
def RJ9 : String := "java/lang/Math"
def TJ9 : u_T := fun k => match k with
  | _ => ("", "", "", false)
def tyJ9 : Nat → FieldType := fun k => match k with
  | _ => .int
abbrev wsJ90 : List Cond := u_ws RJ9 TJ9 0
theorem nmJ9 : ∀ a, a < 0 → ∀ b, b < 0 → a ≠ b → (TJ9 a).2.1 ≠ (TJ9 b).2.1 := by decide +kernel
theorem tyJ9_ok : ∀ k, k < 0 → parseFieldDescriptor (TJ9 k).2.2.1 = some (tyJ9 k) := by decide +kernel
abbrev cJ9_floorMod_7cf53 : ByteArray := prog_11_method_50_code
def yJ9_floorMod_7cf53 : MethodName := ⟨RJ9, "floorMod", "(II)I"⟩
abbrev cJ9_abs_0f7a4 : ByteArray := prog_11_method_59_code
def yJ9_abs_0f7a4 : MethodName := ⟨RJ9, "abs", "(I)I"⟩
abbrev cJ9_max_7cf53 : ByteArray := prog_11_method_65_code
def yJ9_max_7cf53 : MethodName := ⟨RJ9, "max", "(II)I"⟩
abbrev cJ9_min_7cf53 : ByteArray := prog_11_method_69_code
def yJ9_min_7cf53 : MethodName := ⟨RJ9, "min", "(II)I"⟩
def RJ10 : String := "java/lang/System"
def TJ10 : u_T := fun k => match k with
  | _ => ("", "", "", false)
def tyJ10 : Nat → FieldType := fun k => match k with
  | _ => .int
abbrev wsJ100 : List Cond := u_ws RJ10 TJ10 0
theorem nmJ10 : ∀ a, a < 0 → ∀ b, b < 0 → a ≠ b → (TJ10 a).2.1 ≠ (TJ10 b).2.1 := by decide +kernel
theorem tyJ10_ok : ∀ k, k < 0 → parseFieldDescriptor (TJ10 k).2.2.1 = some (tyJ10 k) := by decide +kernel
def RJ7 : String := "java/util/Arrays"
def TJ7 : u_T := fun k => match k with
  | _ => ("", "", "", false)
def tyJ7 : Nat → FieldType := fun k => match k with
  | _ => .int
abbrev wsJ70 : List Cond := u_ws RJ7 TJ7 0
theorem nmJ7 : ∀ a, a < 0 → ∀ b, b < 0 → a ≠ b → (TJ7 a).2.1 ≠ (TJ7 b).2.1 := by decide +kernel
theorem tyJ7_ok : ∀ k, k < 0 → parseFieldDescriptor (TJ7 k).2.2.1 = some (tyJ7 k) := by decide +kernel
abbrev cJ7_fill_d0a16 : ByteArray := prog_13_method_101_code
def yJ7_fill_d0a16 : MethodName := ⟨RJ7, "fill", "([JJ)V"⟩
abbrev cJ7_fill_53178 : ByteArray := prog_13_method_103_code
def yJ7_fill_53178 : MethodName := ⟨RJ7, "fill", "([II)V"⟩
def RL : String := "ThreeRingsLaw"
abbrev cL_law : ByteArray := code
def yL_law : MethodName := ⟨RL, "law", "([I)Z"⟩
end
section
/-! the program as data: cells, methods, code (written by wip/whole/gen.py) -/
abbrev am_K : Type := (FieldType × Nat) ⊕ (Nat × List (Option Nat))
abbrev am_E : Type := Nat × Nat × Instr × Nat × Nat × Int × Nat × List Nat
abbrev am_M : Type := MethodName × ByteArray × Nat × Option FieldType × Nat × Bool × Nat × Nat × Nat × List am_E × List Nat
def am_nth {α : Type} : List α → Nat → Option α
  | [], _ => none
  | x :: _, 0 => some x
  | _ :: r, n + 1 => am_nth r n
def am_lays : List am_K := [.inl (.int, 60),
  .inl (.int, 8),
  .inl (.int, 8),
  .inl (.int, 8),
  .inl (.int, 8),
  .inl (.int, 3),
  .inl (.int, 8),
  .inl (.int, 8),
  .inl (.int, 8),
  .inl (.int, 8),
  .inl (.int, 3),
  .inl (.int, 3),
  .inl (.int, 3),
  .inl (.int, 3),
  .inl (.int, 8),
  .inl (.int, 8),
  .inl (.int, 8),
  .inl (.int, 3),
  .inl (.int, 3),
  .inl (.int, 3),
  .inl (.int, 8),
  .inl (.int, 8),
  .inl (.int, 8),
  .inl (.int, 3),
  .inl (.int, 3),
  .inl (.int, 3),
  .inl (.int, 8),
  .inl (.int, 8),
  .inl (.int, 8),
  .inl (.int, 3),
  .inl (.int, 3),
  .inl (.int, 3),
  .inl (.int, 8),
  .inl (.int, 8),
  .inl (.int, 8),
  .inl (.int, 1515),
  .inl (.int, 64),
  .inl (.int, 16),
  .inl (.int, 16),
  .inl (.int, 16),
  .inl (.boolean, 16),
  .inl (.int, 16),
  .inl (.int, 8080),
  .inl (.int, 8),
  .inl (.int, 64),
  .inl (.int, 2048),
  .inl (.int, 256),
  .inl (.long, 9),
  .inl (.int, 3),
  .inl (.int, 3),
  .inl (.int, 60),
  .inl (.int, 8),
  .inl (.int, 8),
  .inl (.int, 8),
  .inl (.int, 8),
  .inl (.int, 3),
  .inl (.int, 3),
  .inl (.int, 3),
  .inl (.int, 8),
  .inl (.int, 8),
  .inl (.int, 8),
  .inl (.int, 8),
  .inl (.int, 3),
  .inl (.int, 8),
  .inl (.int, 8),
  .inl (.int, 8),
  .inl (.int, 80),
  .inl (.boolean, 2),
  .inl (.int, 8),
  .inl (.boolean, 8),
  .inl (.int, 8),
  .inl (.int, 2048),
  .inl (.int, 432),
  .inl (.int, 3),
  .inl (.int, 3),
  .inr (6, [some 0, none, some 76, some 78, some 79, some 80, some 81, some 82, some 83, some 84, some 85]),
  .inr (3, [some 77, none, none, none, none, none, none, none]),
  .inr (2, [none, none, some 1, some 2, some 3, some 4, some 5]),
  .inr (2, [none, none, some 6, some 7, some 8, some 9, some 10]),
  .inr (1, [some 11, some 12, some 13, some 14, some 15, some 16, none, none]),
  .inr (1, [some 17, some 18, some 19, some 20, some 21, some 22, none, none]),
  .inr (1, [some 23, some 24, some 25, some 26, some 27, some 28, none, none]),
  .inr (1, [some 29, some 30, some 31, some 32, some 33, some 34, none, none]),
  .inr (4, [some 78, some 35, some 36, some 37, some 38, some 39, some 40, some 41, some 42, none, none, none, none]),
  .inr (5, [some 78, some 83, some 43, some 44, some 45, some 46, none]),
  .inr (0, [some 78, some 47, some 48, some 49, none]),
  .inr (7, [none, some 50, none, none, none, none, some 51, some 52, some 53, some 54, some 55, some 56, some 57, none, none, some 58, some 59, some 60, some 61, some 62, none, none, some 63, some 64, some 65, some 66, some 67, some 68, some 69, some 70, some 71, some 72, some 73, some 74, none])]
def am_lay (c : Nat) : am_K := (am_nth am_lays c).getD (.inr (99, []))
def am_c0_0 : List am_E := [(0, 1, .aload_n 0, 0, 0, 0, 0, []),
  (1, 3, .getfield 9, 0, 1, 0, 1234, []),
  (4, 3, .ldc2_w 30, 0, 0, -1, 3196, []),
  (7, 3, .invokestatic 32, 161, 2, 0, 3197, []),
  (10, 1, .iconst 0, 0, 0, 0, 0, []),
  (11, 1, .istore_n 2, 0, 0, 0, 0, []),
  (12, 1, .iload_n 2, 0, 0, 0, 0, []),
  (13, 1, .aload_n 1, 0, 0, 0, 0, []),
  (14, 3, .getfield 38, 1, 6, 0, 1130, []),
  (17, 3, .if_icmp .ge 37, 0, 0, 0, 0, [29]),
  (20, 1, .iload_n 2, 0, 0, 0, 0, []),
  (21, 2, .bipush 8, 0, 0, 8, 0, []),
  (23, 3, .if_icmp .ge 31, 0, 0, 0, 0, [29]),
  (26, 1, .aload_n 0, 0, 0, 0, 0, []),
  (27, 1, .aload_n 1, 0, 0, 0, 0, []),
  (28, 3, .getfield 43, 1, 3, 0, 1124, []),
  (31, 1, .iload_n 2, 0, 0, 0, 0, []),
  (32, 1, .iaload, 0, 0, 0, 0, []),
  (33, 1, .aload_n 1, 0, 0, 0, 0, []),
  (34, 3, .getfield 46, 1, 4, 0, 1126, []),
  (37, 1, .iload_n 2, 0, 0, 0, 0, []),
  (38, 1, .iaload, 0, 0, 0, 0, []),
  (39, 1, .aload_n 1, 0, 0, 0, 0, []),
  (40, 3, .getfield 49, 1, 5, 0, 1128, []),
  (43, 1, .iload_n 2, 0, 0, 0, 0, []),
  (44, 1, .iaload, 0, 0, 0, 0, []),
  (45, 3, .invokevirtual 52, 4, 4, 0, 3200, []),
  (48, 3, .iinc 2 1, 0, 0, 0, 0, []),
  (51, 3, .goto (-39), 0, 0, 0, 0, [6]),
  (54, 1, .aload_n 0, 0, 0, 0, 0, []),
  (55, 1, .iconst 0, 0, 0, 0, 0, []),
  (56, 3, .putfield 22, 0, 4, 0, 1239, []),
  (59, 1, .aload_n 0, 0, 0, 0, 0, []),
  (60, 3, .getfield 15, 0, 2, 0, 1235, []),
  (63, 2, .bipush 9, 0, 0, 9, 0, []),
  (65, 3, .invokestatic 56, 162, 2, 0, 3205, []),
  (68, 1, .aload_n 0, 0, 0, 0, 0, []),
  (69, 3, .getfield 19, 0, 3, 0, 1237, []),
  (72, 2, .bipush (-9), 0, 0, -9, 0, []),
  (74, 3, .invokestatic 56, 162, 2, 0, 3205, [])]
def am_c0_1 : List am_E := [(77, 2, .bipush (-9), 0, 0, -9, 0, []),
  (79, 1, .istore_n 2, 0, 0, 0, 0, []),
  (80, 1, .iload_n 2, 0, 0, 0, 0, []),
  (81, 2, .bipush 9, 0, 0, 9, 0, []),
  (83, 3, .if_icmp .gt 42, 0, 0, 0, 0, [66]),
  (86, 2, .bipush (-9), 0, 0, -9, 0, []),
  (88, 1, .istore_n 3, 0, 0, 0, 0, []),
  (89, 1, .iload_n 3, 0, 0, 0, 0, []),
  (90, 2, .bipush 9, 0, 0, 9, 0, []),
  (92, 3, .if_icmp .gt 27, 0, 0, 0, 0, [64]),
  (95, 1, .aload_n 0, 0, 0, 0, 0, []),
  (96, 1, .iconst 0, 0, 0, 0, 0, []),
  (97, 1, .iconst 1, 0, 0, 1, 0, []),
  (98, 1, .iload_n 2, 0, 0, 0, 0, []),
  (99, 1, .iload_n 3, 0, 0, 0, 0, []),
  (100, 1, .isub, 0, 0, 0, 0, []),
  (101, 3, .invokevirtual 59, 3, 4, 0, 3206, []),
  (104, 3, .ifCond .eq 9, 0, 0, 0, 0, [62]),
  (107, 1, .aload_n 0, 0, 0, 0, 0, []),
  (108, 1, .iload_n 2, 0, 0, 0, 0, []),
  (109, 1, .iload_n 3, 0, 0, 0, 0, []),
  (110, 3, .invokevirtual 63, 1, 3, 0, 3210, []),
  (113, 3, .iinc 3 1, 0, 0, 0, 0, []),
  (116, 3, .goto (-27), 0, 0, 0, 0, [47]),
  (119, 3, .iinc 2 1, 0, 0, 0, 0, []),
  (122, 3, .goto (-42), 0, 0, 0, 0, [42]),
  (125, 1, .return_, 0, 0, 0, 0, [])]
def am_c0 : List am_E := am_c0_0 ++ am_c0_1
def am_c1_0 : List am_E := [(0, 2, .bipush (-9), 0, 0, -9, 0, []),
  (2, 1, .istore_n 3, 0, 0, 0, 0, []),
  (3, 1, .iload_n 3, 0, 0, 0, 0, []),
  (4, 2, .bipush 9, 0, 0, 9, 0, []),
  (6, 3, .if_icmp .gt 61, 0, 0, 0, 0, [41]),
  (9, 1, .aload_n 0, 0, 0, 0, 0, []),
  (10, 1, .iconst 0, 0, 0, 0, 0, []),
  (11, 1, .iconst 2, 0, 0, 2, 0, []),
  (12, 1, .iload_n 1, 0, 0, 0, 0, []),
  (13, 1, .iload_n 3, 0, 0, 0, 0, []),
  (14, 1, .isub, 0, 0, 0, 0, []),
  (15, 3, .invokevirtual 59, 3, 4, 0, 3206, []),
  (18, 3, .ifCond .eq 43, 0, 0, 0, 0, [39]),
  (21, 1, .aload_n 0, 0, 0, 0, 0, []),
  (22, 1, .iconst 1, 0, 0, 1, 0, []),
  (23, 1, .iconst 2, 0, 0, 2, 0, []),
  (24, 1, .iload_n 2, 0, 0, 0, 0, []),
  (25, 1, .iload_n 3, 0, 0, 0, 0, []),
  (26, 1, .isub, 0, 0, 0, 0, []),
  (27, 3, .invokevirtual 59, 3, 4, 0, 3206, []),
  (30, 3, .ifCond .eq 31, 0, 0, 0, 0, [39]),
  (33, 1, .aload_n 0, 0, 0, 0, 0, []),
  (34, 1, .dup, 0, 0, 0, 0, []),
  (35, 3, .getfield 22, 0, 4, 0, 1239, []),
  (38, 1, .iconst 1, 0, 0, 1, 0, []),
  (39, 1, .iadd, 0, 0, 0, 0, []),
  (40, 3, .putfield 22, 0, 4, 0, 1239, []),
  (43, 1, .aload_n 0, 0, 0, 0, 0, []),
  (44, 1, .iconst 0, 0, 0, 0, 0, []),
  (45, 1, .iload_n 1, 0, 0, 0, 0, []),
  (46, 3, .invokevirtual 67, 2, 3, 0, 3214, []),
  (49, 1, .aload_n 0, 0, 0, 0, 0, []),
  (50, 1, .iconst 1, 0, 0, 1, 0, []),
  (51, 1, .iload_n 2, 0, 0, 0, 0, []),
  (52, 3, .invokevirtual 67, 2, 3, 0, 3214, []),
  (55, 1, .aload_n 0, 0, 0, 0, 0, []),
  (56, 1, .iconst 2, 0, 0, 2, 0, []),
  (57, 1, .iload_n 3, 0, 0, 0, 0, []),
  (58, 3, .invokevirtual 67, 2, 3, 0, 3214, []),
  (61, 3, .iinc 3 1, 0, 0, 0, 0, [])]
def am_c1_1 : List am_E := [(64, 3, .goto (-61), 0, 0, 0, 0, [2]),
  (67, 1, .return_, 0, 0, 0, 0, [])]
def am_c1 : List am_E := am_c1_0 ++ am_c1_1
def am_c2 : List am_E := [(0, 1, .aload_n 0, 0, 0, 0, 0, []),
  (1, 3, .getfield 15, 0, 2, 0, 1235, []),
  (4, 1, .iload_n 1, 0, 0, 0, 0, []),
  (5, 1, .aload_n 0, 0, 0, 0, 0, []),
  (6, 3, .getfield 15, 0, 2, 0, 1235, []),
  (9, 1, .iload_n 1, 0, 0, 0, 0, []),
  (10, 1, .iaload, 0, 0, 0, 0, []),
  (11, 1, .iload_n 2, 0, 0, 0, 0, []),
  (12, 3, .invokestatic 70, 160, 2, 0, 3218, []),
  (15, 1, .iastore, 0, 0, 0, 0, []),
  (16, 1, .aload_n 0, 0, 0, 0, 0, []),
  (17, 3, .getfield 19, 0, 3, 0, 1237, []),
  (20, 1, .iload_n 1, 0, 0, 0, 0, []),
  (21, 1, .aload_n 0, 0, 0, 0, 0, []),
  (22, 3, .getfield 19, 0, 3, 0, 1237, []),
  (25, 1, .iload_n 1, 0, 0, 0, 0, []),
  (26, 1, .iaload, 0, 0, 0, 0, []),
  (27, 1, .iload_n 2, 0, 0, 0, 0, []),
  (28, 3, .invokestatic 76, 159, 2, 0, 3219, []),
  (31, 1, .iastore, 0, 0, 0, 0, []),
  (32, 1, .return_, 0, 0, 0, 0, [])]
def am_c3 : List am_E := [(0, 1, .aload_n 0, 0, 0, 0, 0, []),
  (1, 3, .getfield 9, 0, 1, 0, 1234, []),
  (4, 1, .iconst 3, 0, 0, 3, 0, []),
  (5, 1, .iload_n 1, 0, 0, 0, 0, []),
  (6, 1, .imul, 0, 0, 0, 0, []),
  (7, 1, .iload_n 2, 0, 0, 0, 0, []),
  (8, 1, .iadd, 0, 0, 0, 0, []),
  (9, 1, .laload, 0, 0, 0, 0, []),
  (10, 2, .bipush 18, 0, 0, 18, 0, []),
  (12, 1, .iload_n 3, 0, 0, 0, 0, []),
  (13, 1, .iadd, 0, 0, 0, 0, []),
  (14, 1, .lshr, 0, 0, 0, 0, []),
  (15, 1, .lconst 1, 0, 0, 1, 0, []),
  (16, 1, .land, 0, 0, 0, 0, []),
  (17, 1, .lconst 0, 0, 0, 0, 0, []),
  (18, 1, .lcmp, 0, 0, 0, 0, []),
  (19, 3, .ifCond .eq 7, 0, 0, 0, 0, [19]),
  (22, 1, .iconst 1, 0, 0, 1, 0, []),
  (23, 3, .goto 4, 0, 0, 0, 0, [20]),
  (26, 1, .iconst 0, 0, 0, 0, 0, []),
  (27, 1, .ireturn, 1, 0, 0, 0, [])]
def am_c4_0 : List am_E := [(0, 1, .aload_n 0, 0, 0, 0, 0, []),
  (1, 3, .getfield 26, 0, 0, 0, 1233, []),
  (4, 3, .getfield 79, 2, 2, 0, 1046, []),
  (7, 1, .iload_n 1, 0, 0, 0, 0, []),
  (8, 1, .iaload, 0, 0, 0, 0, []),
  (9, 1, .aload_n 0, 0, 0, 0, 0, []),
  (10, 3, .getfield 26, 0, 0, 0, 1233, []),
  (13, 3, .getfield 79, 2, 2, 0, 1046, []),
  (16, 1, .iload_n 2, 0, 0, 0, 0, []),
  (17, 1, .iaload, 0, 0, 0, 0, []),
  (18, 3, .if_icmp .ge 7, 0, 0, 0, 0, [13]),
  (21, 1, .iconst 1, 0, 0, 1, 0, []),
  (22, 3, .goto 4, 0, 0, 0, 0, [14]),
  (25, 1, .iconst 0, 0, 0, 0, 0, []),
  (26, 2, .istore 4, 0, 0, 0, 0, []),
  (28, 2, .iload 4, 0, 0, 0, 0, []),
  (30, 3, .ifCond .eq 7, 0, 0, 0, 0, [19]),
  (33, 1, .iload_n 1, 0, 0, 0, 0, []),
  (34, 3, .goto 4, 0, 0, 0, 0, [20]),
  (37, 1, .iload_n 2, 0, 0, 0, 0, []),
  (38, 2, .istore 5, 0, 0, 0, 0, []),
  (40, 2, .iload 4, 0, 0, 0, 0, []),
  (42, 3, .ifCond .eq 7, 0, 0, 0, 0, [25]),
  (45, 1, .iload_n 2, 0, 0, 0, 0, []),
  (46, 3, .goto 4, 0, 0, 0, 0, [26]),
  (49, 1, .iload_n 1, 0, 0, 0, 0, []),
  (50, 2, .istore 6, 0, 0, 0, 0, []),
  (52, 2, .bipush (-18), 0, 0, -18, 0, []),
  (54, 2, .istore 7, 0, 0, 0, 0, []),
  (56, 2, .iload 7, 0, 0, 0, 0, []),
  (58, 2, .bipush 18, 0, 0, 18, 0, []),
  (60, 3, .if_icmp .gt 87, 0, 0, 0, 0, [79]),
  (63, 1, .aload_n 0, 0, 0, 0, 0, []),
  (64, 3, .getfield 26, 0, 0, 0, 1233, []),
  (67, 1, .aload_n 0, 0, 0, 0, 0, []),
  (68, 3, .getfield 26, 0, 0, 0, 1233, []),
  (71, 3, .getfield 84, 2, 4, 0, 1055, []),
  (74, 2, .iload 5, 0, 0, 0, 0, []),
  (76, 1, .iaload, 0, 0, 0, 0, []),
  (77, 1, .aload_n 0, 0, 0, 0, 0, [])]
def am_c4_1 : List am_E := [(78, 3, .getfield 26, 0, 0, 0, 1233, []),
  (81, 3, .getfield 84, 2, 4, 0, 1055, []),
  (84, 2, .iload 6, 0, 0, 0, 0, []),
  (86, 1, .iaload, 0, 0, 0, 0, []),
  (87, 1, .isub, 0, 0, 0, 0, []),
  (88, 2, .iload 7, 0, 0, 0, 0, []),
  (90, 1, .iload_n 3, 0, 0, 0, 0, []),
  (91, 1, .imul, 0, 0, 0, 0, []),
  (92, 1, .iadd, 0, 0, 0, 0, []),
  (93, 3, .invokevirtual 87, 16, 2, 0, 3204, []),
  (96, 3, .ifCond .eq 45, 0, 0, 0, 0, [77]),
  (99, 1, .aload_n 0, 0, 0, 0, 0, []),
  (100, 3, .getfield 9, 0, 1, 0, 1234, []),
  (103, 1, .iconst 3, 0, 0, 3, 0, []),
  (104, 1, .aload_n 0, 0, 0, 0, 0, []),
  (105, 3, .getfield 26, 0, 0, 0, 1233, []),
  (108, 3, .getfield 79, 2, 2, 0, 1046, []),
  (111, 2, .iload 5, 0, 0, 0, 0, []),
  (113, 1, .iaload, 0, 0, 0, 0, []),
  (114, 1, .imul, 0, 0, 0, 0, []),
  (115, 1, .aload_n 0, 0, 0, 0, 0, []),
  (116, 3, .getfield 26, 0, 0, 0, 1233, []),
  (119, 3, .getfield 79, 2, 2, 0, 1046, []),
  (122, 2, .iload 6, 0, 0, 0, 0, []),
  (124, 1, .iaload, 0, 0, 0, 0, []),
  (125, 1, .iadd, 0, 0, 0, 0, []),
  (126, 1, .dup2, 0, 0, 0, 0, []),
  (127, 1, .laload, 0, 0, 0, 0, []),
  (128, 1, .lconst 1, 0, 0, 1, 0, []),
  (129, 2, .bipush 18, 0, 0, 18, 0, []),
  (131, 2, .iload 7, 0, 0, 0, 0, []),
  (133, 1, .iadd, 0, 0, 0, 0, []),
  (134, 1, .lshl, 0, 0, 0, 0, []),
  (135, 3, .ldc2_w 30, 0, 0, -1, 3196, []),
  (138, 1, .lxor, 0, 0, 0, 0, []),
  (139, 1, .land, 0, 0, 0, 0, []),
  (140, 1, .lastore, 0, 0, 0, 0, []),
  (141, 3, .iinc 7 1, 0, 0, 0, 0, []),
  (144, 3, .goto (-88), 0, 0, 0, 0, [29]),
  (147, 1, .return_, 0, 0, 0, 0, [])]
def am_c4 : List am_E := am_c4_0 ++ am_c4_1
def am_c5 : List am_E := [(0, 1, .iconst 0, 0, 0, 0, 0, []),
  (1, 1, .istore_n 2, 0, 0, 0, 0, []),
  (2, 1, .iload_n 2, 0, 0, 0, 0, []),
  (3, 1, .iconst 3, 0, 0, 3, 0, []),
  (4, 3, .if_icmp .ge 24, 0, 0, 0, 0, [18]),
  (7, 1, .iload_n 2, 0, 0, 0, 0, []),
  (8, 1, .aload_n 1, 0, 0, 0, 0, []),
  (9, 1, .arraylength, 0, 0, 0, 0, []),
  (10, 3, .if_icmp .ge 18, 0, 0, 0, 0, [18]),
  (13, 1, .aload_n 0, 0, 0, 0, 0, []),
  (14, 3, .getfield 9, 1, 0, 0, 1115, []),
  (17, 1, .iload_n 2, 0, 0, 0, 0, []),
  (18, 1, .aload_n 1, 0, 0, 0, 0, []),
  (19, 1, .iload_n 2, 0, 0, 0, 0, []),
  (20, 1, .iaload, 0, 0, 0, 0, []),
  (21, 1, .iastore, 0, 0, 0, 0, []),
  (22, 3, .iinc 2 1, 0, 0, 0, 0, []),
  (25, 3, .goto (-23), 0, 0, 0, 0, [2]),
  (28, 1, .aload_n 0, 0, 0, 0, 0, []),
  (29, 3, .invokevirtual 38, 7, 1, 0, 2112, []),
  (32, 1, .aload_n 0, 0, 0, 0, 0, []),
  (33, 1, .iconst 0, 0, 0, 0, 0, []),
  (34, 3, .putfield 30, 1, 6, 0, 1129, []),
  (37, 1, .return_, 0, 0, 0, 0, [])]
def am_c6_0 : List am_E := [(0, 1, .aload_n 1, 0, 0, 0, 0, []),
  (1, 3, .getfield 9, 1, 0, 0, 1115, []),
  (4, 1, .iconst 0, 0, 0, 0, 0, []),
  (5, 1, .aload_n 0, 0, 0, 0, 0, []),
  (6, 3, .getfield 9, 1, 0, 0, 1115, []),
  (9, 1, .iconst 0, 0, 0, 0, 0, []),
  (10, 1, .iconst 3, 0, 0, 3, 0, []),
  (11, 3, .invokestatic 41, 999, 5, 0, 3018, []),
  (14, 1, .aload_n 1, 0, 0, 0, 0, []),
  (15, 3, .getfield 15, 1, 1, 0, 1118, []),
  (18, 1, .iconst 0, 0, 0, 0, 0, []),
  (19, 1, .aload_n 0, 0, 0, 0, 0, []),
  (20, 3, .getfield 15, 1, 1, 0, 1118, []),
  (23, 1, .iconst 0, 0, 0, 0, 0, []),
  (24, 1, .iconst 3, 0, 0, 3, 0, []),
  (25, 3, .invokestatic 41, 999, 5, 0, 3018, []),
  (28, 1, .aload_n 1, 0, 0, 0, 0, []),
  (29, 3, .getfield 18, 1, 2, 0, 1120, []),
  (32, 1, .iconst 0, 0, 0, 0, 0, []),
  (33, 1, .aload_n 0, 0, 0, 0, 0, []),
  (34, 3, .getfield 18, 1, 2, 0, 1120, []),
  (37, 1, .iconst 0, 0, 0, 0, 0, []),
  (38, 1, .iconst 3, 0, 0, 3, 0, []),
  (39, 3, .invokestatic 41, 999, 5, 0, 3018, []),
  (42, 1, .aload_n 1, 0, 0, 0, 0, []),
  (43, 3, .getfield 21, 1, 3, 0, 1123, []),
  (46, 1, .iconst 0, 0, 0, 0, 0, []),
  (47, 1, .aload_n 0, 0, 0, 0, 0, []),
  (48, 3, .getfield 21, 1, 3, 0, 1123, []),
  (51, 1, .iconst 0, 0, 0, 0, 0, []),
  (52, 2, .bipush 8, 0, 0, 8, 0, []),
  (54, 3, .invokestatic 41, 999, 5, 0, 3018, []),
  (57, 1, .aload_n 1, 0, 0, 0, 0, []),
  (58, 3, .getfield 24, 1, 4, 0, 1125, []),
  (61, 1, .iconst 0, 0, 0, 0, 0, []),
  (62, 1, .aload_n 0, 0, 0, 0, 0, []),
  (63, 3, .getfield 24, 1, 4, 0, 1125, []),
  (66, 1, .iconst 0, 0, 0, 0, 0, []),
  (67, 2, .bipush 8, 0, 0, 8, 0, []),
  (69, 3, .invokestatic 41, 999, 5, 0, 3018, [])]
def am_c6_1 : List am_E := [(72, 1, .aload_n 1, 0, 0, 0, 0, []),
  (73, 3, .getfield 27, 1, 5, 0, 1127, []),
  (76, 1, .iconst 0, 0, 0, 0, 0, []),
  (77, 1, .aload_n 0, 0, 0, 0, 0, []),
  (78, 3, .getfield 27, 1, 5, 0, 1127, []),
  (81, 1, .iconst 0, 0, 0, 0, 0, []),
  (82, 2, .bipush 8, 0, 0, 8, 0, []),
  (84, 3, .invokestatic 41, 999, 5, 0, 3018, []),
  (87, 1, .aload_n 0, 0, 0, 0, 0, []),
  (88, 1, .aload_n 1, 0, 0, 0, 0, []),
  (89, 3, .getfield 30, 1, 6, 0, 1129, []),
  (92, 3, .putfield 30, 1, 6, 0, 1129, []),
  (95, 1, .return_, 0, 0, 0, 0, [])]
def am_c6 : List am_E := am_c6_0 ++ am_c6_1
def am_c7 : List am_E := [(0, 1, .aload_n 0, 0, 0, 0, 0, []),
  (1, 3, .getfield 15, 1, 1, 0, 1118, []),
  (4, 1, .iconst 0, 0, 0, 0, 0, []),
  (5, 3, .invokestatic 47, 162, 2, 0, 2116, []),
  (8, 1, .aload_n 0, 0, 0, 0, 0, []),
  (9, 3, .getfield 18, 1, 2, 0, 1120, []),
  (12, 1, .iconst 0, 0, 0, 0, 0, []),
  (13, 3, .invokestatic 47, 162, 2, 0, 2116, []),
  (16, 1, .return_, 0, 0, 0, 0, [])]
def am_c8 : List am_E := [(0, 1, .aload_n 0, 0, 0, 0, 0, []),
  (1, 3, .getfield 15, 1, 1, 0, 1118, []),
  (4, 1, .iload_n 1, 0, 0, 0, 0, []),
  (5, 1, .iload_n 2, 0, 0, 0, 0, []),
  (6, 1, .iastore, 0, 0, 0, 0, []),
  (7, 1, .aload_n 0, 0, 0, 0, 0, []),
  (8, 3, .getfield 18, 1, 2, 0, 1120, []),
  (11, 1, .iload_n 1, 0, 0, 0, 0, []),
  (12, 1, .iload_n 3, 0, 0, 0, 0, []),
  (13, 1, .iastore, 0, 0, 0, 0, []),
  (14, 1, .return_, 0, 0, 0, 0, [])]
def am_c9 : List am_E := [(0, 1, .aload_n 0, 0, 0, 0, 0, []),
  (1, 3, .getfield 9, 1, 0, 0, 1115, []),
  (4, 1, .iload_n 1, 0, 0, 0, 0, []),
  (5, 1, .iaload, 0, 0, 0, 0, []),
  (6, 1, .istore_n 3, 0, 0, 0, 0, []),
  (7, 1, .aload_n 0, 0, 0, 0, 0, []),
  (8, 3, .getfield 9, 1, 0, 0, 1115, []),
  (11, 1, .iload_n 1, 0, 0, 0, 0, []),
  (12, 1, .iload_n 3, 0, 0, 0, 0, []),
  (13, 3, .ifCond .le 13, 0, 0, 0, 0, [16]),
  (16, 1, .iconst 0, 0, 0, 0, 0, []),
  (17, 1, .iload_n 3, 0, 0, 0, 0, []),
  (18, 1, .iload_n 2, 0, 0, 0, 0, []),
  (19, 1, .isub, 0, 0, 0, 0, []),
  (20, 3, .invokestatic 53, 159, 2, 0, 2170, []),
  (23, 3, .goto 10, 0, 0, 0, 0, [21]),
  (26, 1, .iconst 0, 0, 0, 0, 0, []),
  (27, 1, .iload_n 3, 0, 0, 0, 0, []),
  (28, 1, .iload_n 2, 0, 0, 0, 0, []),
  (29, 1, .iadd, 0, 0, 0, 0, []),
  (30, 3, .invokestatic 59, 160, 2, 0, 2173, []),
  (33, 1, .iastore, 0, 0, 0, 0, []),
  (34, 1, .return_, 0, 0, 0, 0, [])]
def am_c10 : List am_E := [(0, 1, .iconst 0, 0, 0, 0, 0, []),
  (1, 1, .istore_n 1, 0, 0, 0, 0, []),
  (2, 1, .iconst 0, 0, 0, 0, 0, []),
  (3, 1, .istore_n 2, 0, 0, 0, 0, []),
  (4, 1, .iload_n 2, 0, 0, 0, 0, []),
  (5, 1, .iconst 3, 0, 0, 3, 0, []),
  (6, 3, .if_icmp .ge 21, 0, 0, 0, 0, [15]),
  (9, 1, .aload_n 0, 0, 0, 0, 0, []),
  (10, 3, .getfield 18, 1, 2, 0, 1120, []),
  (13, 1, .iload_n 2, 0, 0, 0, 0, []),
  (14, 1, .iaload, 0, 0, 0, 0, []),
  (15, 3, .ifCond .le 6, 0, 0, 0, 0, [13]),
  (18, 3, .iinc 1 1, 0, 0, 0, 0, []),
  (21, 3, .iinc 2 1, 0, 0, 0, 0, []),
  (24, 3, .goto (-20), 0, 0, 0, 0, [4]),
  (27, 1, .iload_n 1, 0, 0, 0, 0, []),
  (28, 1, .ireturn, 0, 0, 0, 0, [])]
def am_c11 : List am_E := [(0, 1, .aload_n 0, 0, 0, 0, 0, []),
  (1, 3, .getfield 30, 1, 6, 0, 1129, []),
  (4, 3, .ifCond .lt 12, 0, 0, 0, 0, [7]),
  (7, 1, .aload_n 0, 0, 0, 0, 0, []),
  (8, 3, .getfield 30, 1, 6, 0, 1129, []),
  (11, 2, .bipush 8, 0, 0, 8, 0, []),
  (13, 3, .if_icmp .lt 4, 0, 0, 0, 0, [8]),
  (16, 1, .return_, 0, 0, 0, 0, []),
  (17, 1, .aload_n 0, 0, 0, 0, 0, []),
  (18, 3, .getfield 21, 1, 3, 0, 1123, []),
  (21, 1, .aload_n 0, 0, 0, 0, 0, []),
  (22, 3, .getfield 30, 1, 6, 0, 1129, []),
  (25, 1, .iload_n 1, 0, 0, 0, 0, []),
  (26, 1, .iastore, 0, 0, 0, 0, []),
  (27, 1, .aload_n 0, 0, 0, 0, 0, []),
  (28, 3, .getfield 24, 1, 4, 0, 1125, []),
  (31, 1, .aload_n 0, 0, 0, 0, 0, []),
  (32, 3, .getfield 30, 1, 6, 0, 1129, []),
  (35, 1, .iload_n 2, 0, 0, 0, 0, []),
  (36, 1, .iastore, 0, 0, 0, 0, []),
  (37, 1, .aload_n 0, 0, 0, 0, 0, []),
  (38, 3, .getfield 27, 1, 5, 0, 1127, []),
  (41, 1, .aload_n 0, 0, 0, 0, 0, []),
  (42, 3, .getfield 30, 1, 6, 0, 1129, []),
  (45, 1, .iload_n 3, 0, 0, 0, 0, []),
  (46, 1, .iastore, 0, 0, 0, 0, []),
  (47, 1, .aload_n 0, 0, 0, 0, 0, []),
  (48, 1, .dup, 0, 0, 0, 0, []),
  (49, 3, .getfield 30, 1, 6, 0, 1129, []),
  (52, 1, .iconst 1, 0, 0, 1, 0, []),
  (53, 1, .iadd, 0, 0, 0, 0, []),
  (54, 3, .putfield 30, 1, 6, 0, 1129, []),
  (57, 1, .return_, 0, 0, 0, 0, [])]
def am_c12 : List am_E := [(0, 1, .aload_n 0, 0, 0, 0, 0, []),
  (1, 2, .bipush 12, 0, 0, 12, 0, []),
  (3, 3, .putfield 9, 2, 0, 0, 1033, []),
  (6, 1, .aload_n 0, 0, 0, 0, 0, []),
  (7, 1, .iconst 0, 0, 0, 0, 0, []),
  (8, 3, .putfield 15, 2, 1, 0, 1038, []),
  (11, 1, .aload_n 0, 0, 0, 0, 0, []),
  (12, 3, .getfield 31, 2, 6, 0, 1062, []),
  (15, 1, .iconst 0, 0, 0, 0, 0, []),
  (16, 3, .invokestatic 34, 162, 2, 0, 2067, []),
  (19, 1, .return_, 0, 0, 0, 0, [])]
def am_c13_0 : List am_E := [(0, 1, .aload_n 0, 0, 0, 0, 0, []),
  (1, 1, .aload_n 1, 0, 0, 0, 0, []),
  (2, 3, .getfield 9, 2, 0, 0, 1033, []),
  (5, 3, .putfield 9, 2, 0, 0, 1033, []),
  (8, 1, .aload_n 0, 0, 0, 0, 0, []),
  (9, 1, .aload_n 1, 0, 0, 0, 0, []),
  (10, 3, .getfield 15, 2, 1, 0, 1038, []),
  (13, 3, .putfield 15, 2, 1, 0, 1038, []),
  (16, 1, .aload_n 1, 0, 0, 0, 0, []),
  (17, 3, .getfield 18, 2, 2, 0, 1043, []),
  (20, 1, .iconst 0, 0, 0, 0, 0, []),
  (21, 1, .aload_n 0, 0, 0, 0, 0, []),
  (22, 3, .getfield 18, 2, 2, 0, 1043, []),
  (25, 1, .iconst 0, 0, 0, 0, 0, []),
  (26, 2, .bipush 8, 0, 0, 8, 0, []),
  (28, 3, .invokestatic 40, 999, 5, 0, 2105, []),
  (31, 1, .aload_n 1, 0, 0, 0, 0, []),
  (32, 3, .getfield 22, 2, 3, 0, 1049, []),
  (35, 1, .iconst 0, 0, 0, 0, 0, []),
  (36, 1, .aload_n 0, 0, 0, 0, 0, []),
  (37, 3, .getfield 22, 2, 3, 0, 1049, []),
  (40, 1, .iconst 0, 0, 0, 0, 0, []),
  (41, 2, .bipush 8, 0, 0, 8, 0, []),
  (43, 3, .invokestatic 40, 999, 5, 0, 2105, []),
  (46, 1, .aload_n 1, 0, 0, 0, 0, []),
  (47, 3, .getfield 25, 2, 4, 0, 1053, []),
  (50, 1, .iconst 0, 0, 0, 0, 0, []),
  (51, 1, .aload_n 0, 0, 0, 0, 0, []),
  (52, 3, .getfield 25, 2, 4, 0, 1053, []),
  (55, 1, .iconst 0, 0, 0, 0, 0, []),
  (56, 2, .bipush 8, 0, 0, 8, 0, []),
  (58, 3, .invokestatic 40, 999, 5, 0, 2105, []),
  (61, 1, .aload_n 1, 0, 0, 0, 0, []),
  (62, 3, .getfield 28, 2, 5, 0, 1058, []),
  (65, 1, .iconst 0, 0, 0, 0, 0, []),
  (66, 1, .aload_n 0, 0, 0, 0, 0, []),
  (67, 3, .getfield 28, 2, 5, 0, 1058, []),
  (70, 1, .iconst 0, 0, 0, 0, 0, []),
  (71, 2, .bipush 8, 0, 0, 8, 0, []),
  (73, 3, .invokestatic 40, 999, 5, 0, 2105, [])]
def am_c13_1 : List am_E := [(76, 1, .aload_n 1, 0, 0, 0, 0, []),
  (77, 3, .getfield 31, 2, 6, 0, 1062, []),
  (80, 1, .iconst 0, 0, 0, 0, 0, []),
  (81, 1, .aload_n 0, 0, 0, 0, 0, []),
  (82, 3, .getfield 31, 2, 6, 0, 1062, []),
  (85, 1, .iconst 0, 0, 0, 0, 0, []),
  (86, 1, .iconst 3, 0, 0, 3, 0, []),
  (87, 3, .invokestatic 40, 999, 5, 0, 2105, []),
  (90, 1, .return_, 0, 0, 0, 0, [])]
def am_c13 : List am_E := am_c13_0 ++ am_c13_1
def am_c14 : List am_E := [(0, 1, .iload_n 1, 0, 0, 0, 0, []),
  (1, 3, .ifCond .lt 15, 0, 0, 0, 0, [8]),
  (4, 1, .iload_n 1, 0, 0, 0, 0, []),
  (5, 1, .aload_n 0, 0, 0, 0, 0, []),
  (6, 3, .getfield 15, 2, 1, 0, 1038, []),
  (9, 3, .if_icmp .ge 7, 0, 0, 0, 0, [8]),
  (12, 1, .iconst 1, 0, 0, 1, 0, []),
  (13, 3, .goto 4, 0, 0, 0, 0, [9]),
  (16, 1, .iconst 0, 0, 0, 0, 0, []),
  (17, 1, .ireturn, 1, 0, 0, 0, [])]
def am_c15 : List am_E := [(0, 1, .iload_n 1, 0, 0, 0, 0, []),
  (1, 3, .ifCond .lt 17, 0, 0, 0, 0, [10]),
  (4, 1, .iload_n 1, 0, 0, 0, 0, []),
  (5, 1, .iconst 1, 0, 0, 1, 0, []),
  (6, 1, .aload_n 0, 0, 0, 0, 0, []),
  (7, 3, .getfield 15, 2, 1, 0, 1038, []),
  (10, 1, .ishl, 0, 0, 0, 0, []),
  (11, 3, .if_icmp .ge 7, 0, 0, 0, 0, [10]),
  (14, 1, .iconst 1, 0, 0, 1, 0, []),
  (15, 3, .goto 4, 0, 0, 0, 0, [11]),
  (18, 1, .iconst 0, 0, 0, 0, 0, []),
  (19, 1, .ireturn, 1, 0, 0, 0, [])]
def am_c16 : List am_E := [(0, 1, .aload_n 0, 0, 0, 0, 0, []),
  (1, 3, .getfield 9, 2, 0, 0, 1033, []),
  (4, 1, .iconst 1, 0, 0, 1, 0, []),
  (5, 3, .if_icmp .ge 7, 0, 0, 0, 0, [6]),
  (8, 1, .iconst 0, 0, 0, 0, 0, []),
  (9, 3, .goto 11, 0, 0, 0, 0, [10]),
  (12, 1, .iload_n 1, 0, 0, 0, 0, []),
  (13, 1, .aload_n 0, 0, 0, 0, 0, []),
  (14, 3, .getfield 9, 2, 0, 0, 1033, []),
  (17, 3, .invokestatic 46, 157, 2, 0, 2130, []),
  (20, 1, .ireturn, 0, 0, 0, 0, [])]
def am_c17 : List am_E := [(0, 1, .aload_n 0, 0, 0, 0, 0, []),
  (1, 3, .getfield 25, 2, 4, 0, 1053, []),
  (4, 1, .iload_n 1, 0, 0, 0, 0, []),
  (5, 1, .iaload, 0, 0, 0, 0, []),
  (6, 1, .aload_n 0, 0, 0, 0, 0, []),
  (7, 3, .getfield 25, 2, 4, 0, 1053, []),
  (10, 1, .iload_n 2, 0, 0, 0, 0, []),
  (11, 1, .iaload, 0, 0, 0, 0, []),
  (12, 1, .isub, 0, 0, 0, 0, []),
  (13, 3, .invokestatic 52, 158, 1, 0, 3065, []),
  (16, 1, .istore_n 3, 0, 0, 0, 0, []),
  (17, 1, .iconst 1, 0, 0, 1, 0, []),
  (18, 1, .iload_n 3, 0, 0, 0, 0, []),
  (19, 1, .aload_n 0, 0, 0, 0, 0, []),
  (20, 3, .getfield 9, 2, 0, 0, 1033, []),
  (23, 1, .iload_n 3, 0, 0, 0, 0, []),
  (24, 1, .isub, 0, 0, 0, 0, []),
  (25, 3, .invokestatic 56, 160, 2, 0, 3068, []),
  (28, 3, .invokestatic 59, 159, 2, 0, 3069, []),
  (31, 1, .ireturn, 0, 0, 0, 0, [])]
def am_c18_0 : List am_E := [(0, 1, .aload_n 0, 0, 0, 0, 0, []),
  (1, 3, .getfield 12, 3, 0, 0, 1081, []),
  (4, 3, .invokevirtual 41, 12, 1, 0, 2063, []),
  (7, 1, .aload_n 0, 0, 0, 0, 0, []),
  (8, 1, .iconst 0, 0, 0, 0, 0, []),
  (9, 3, .putfield 18, 3, 1, 0, 1083, []),
  (12, 1, .aload_n 0, 0, 0, 0, 0, []),
  (13, 1, .iconst 0, 0, 0, 0, 0, []),
  (14, 3, .putfield 25, 3, 3, 1, 1085, []),
  (17, 1, .aload_n 0, 0, 0, 0, 0, []),
  (18, 1, .iconst 0, 0, 0, 0, 0, []),
  (19, 3, .putfield 29, 3, 4, 0, 1086, []),
  (22, 1, .iconst 0, 0, 0, 0, 0, []),
  (23, 1, .istore_n 3, 0, 0, 0, 0, []),
  (24, 1, .iload_n 3, 0, 0, 0, 0, []),
  (25, 1, .iload_n 2, 0, 0, 0, 0, []),
  (26, 3, .if_icmp .ge 27, 0, 0, 0, 0, [31]),
  (29, 1, .iload_n 3, 0, 0, 0, 0, []),
  (30, 1, .aload_n 1, 0, 0, 0, 0, []),
  (31, 1, .arraylength, 0, 0, 0, 0, []),
  (32, 3, .if_icmp .ge 21, 0, 0, 0, 0, [31]),
  (35, 1, .aload_n 0, 0, 0, 0, 0, []),
  (36, 1, .aload_n 1, 0, 0, 0, 0, []),
  (37, 1, .iload_n 3, 0, 0, 0, 0, []),
  (38, 1, .iaload, 0, 0, 0, 0, []),
  (39, 3, .invokevirtual 44, 19, 2, 0, 2070, []),
  (42, 3, .ifCond .ne 5, 0, 0, 0, 0, [29]),
  (45, 1, .iload_n 3, 0, 0, 0, 0, []),
  (46, 1, .ireturn, 0, 0, 0, 0, []),
  (47, 3, .iinc 3 1, 0, 0, 0, 0, []),
  (50, 3, .goto (-26), 0, 0, 0, 0, [14]),
  (53, 1, .aload_n 0, 0, 0, 0, 0, []),
  (54, 3, .getfield 25, 3, 3, 1, 1085, []),
  (57, 3, .ifCond .eq 15, 0, 0, 0, 0, [39]),
  (60, 1, .aload_n 0, 0, 0, 0, 0, []),
  (61, 3, .getfield 18, 3, 1, 0, 1083, []),
  (64, 3, .ifCond .ne 8, 0, 0, 0, 0, [39]),
  (67, 2, .bipush (-9), 0, 0, -9, 0, []),
  (69, 3, .goto 4, 0, 0, 0, 0, [40]),
  (72, 1, .iload_n 2, 0, 0, 0, 0, [])]
def am_c18_1 : List am_E := [(73, 1, .ireturn, 0, 0, 0, 0, [])]
def am_c18 : List am_E := am_c18_0 ++ am_c18_1
def am_c19_0 : List am_E := [(0, 1, .aload_n 0, 0, 0, 0, 0, []),
  (1, 3, .getfield 18, 3, 1, 0, 1083, []),
  (4, 3, .ifCond .ne 9, 0, 0, 0, 0, [7]),
  (7, 1, .aload_n 0, 0, 0, 0, 0, []),
  (8, 1, .iload_n 1, 0, 0, 0, 0, []),
  (9, 3, .invokevirtual 48, 20, 2, 0, 2074, []),
  (12, 1, .ireturn, 1, 0, 0, 0, []),
  (13, 1, .iload_n 1, 0, 0, 0, 0, []),
  (14, 2, .bipush 48, 0, 0, 48, 0, []),
  (16, 1, .isub, 0, 0, 0, 0, []),
  (17, 1, .istore_n 2, 0, 0, 0, 0, []),
  (18, 1, .iload_n 2, 0, 0, 0, 0, []),
  (19, 3, .ifCond .lt 9, 0, 0, 0, 0, [16]),
  (22, 1, .iload_n 2, 0, 0, 0, 0, []),
  (23, 2, .bipush 9, 0, 0, 9, 0, []),
  (25, 3, .if_icmp .le 5, 0, 0, 0, 0, [18]),
  (28, 1, .iconst 0, 0, 0, 0, 0, []),
  (29, 1, .ireturn, 1, 0, 0, 0, []),
  (30, 1, .aload_n 0, 0, 0, 0, 0, []),
  (31, 1, .dup, 0, 0, 0, 0, []),
  (32, 3, .getfield 22, 3, 2, 0, 1084, []),
  (35, 1, .iconst 1, 0, 0, 1, 0, []),
  (36, 1, .iadd, 0, 0, 0, 0, []),
  (37, 3, .putfield 22, 3, 2, 0, 1084, []),
  (40, 1, .aload_n 0, 0, 0, 0, 0, []),
  (41, 3, .getfield 18, 3, 1, 0, 1083, []),
  (44, 2, .bipush 85, 0, 0, 85, 0, []),
  (46, 3, .if_icmp .ne 9, 0, 0, 0, 0, [32]),
  (49, 1, .aload_n 0, 0, 0, 0, 0, []),
  (50, 1, .iload_n 2, 0, 0, 0, 0, []),
  (51, 3, .invokevirtual 51, 21, 2, 0, 2078, []),
  (54, 1, .ireturn, 1, 0, 0, 0, []),
  (55, 1, .aload_n 0, 0, 0, 0, 0, []),
  (56, 3, .getfield 18, 3, 1, 0, 1083, []),
  (59, 2, .bipush 71, 0, 0, 71, 0, []),
  (61, 3, .if_icmp .ne 11, 0, 0, 0, 0, [40]),
  (64, 1, .aload_n 0, 0, 0, 0, 0, []),
  (65, 1, .iload_n 2, 0, 0, 0, 0, []),
  (66, 3, .invokevirtual 54, 23, 2, 0, 2082, []),
  (69, 3, .goto 8, 0, 0, 0, 0, [43])]
def am_c19_1 : List am_E := [(72, 1, .aload_n 0, 0, 0, 0, 0, []),
  (73, 1, .iload_n 2, 0, 0, 0, 0, []),
  (74, 3, .invokevirtual 57, 22, 2, 0, 2093, []),
  (77, 1, .ireturn, 1, 0, 0, 0, [])]
def am_c19 : List am_E := am_c19_0 ++ am_c19_1
def am_c20_0 : List am_E := [(0, 1, .aload_n 0, 0, 0, 0, 0, []),
  (1, 1, .iload_n 1, 0, 0, 0, 0, []),
  (2, 3, .putfield 18, 3, 1, 0, 1083, []),
  (5, 1, .aload_n 0, 0, 0, 0, 0, []),
  (6, 1, .iconst 0, 0, 0, 0, 0, []),
  (7, 3, .putfield 22, 3, 2, 0, 1084, []),
  (10, 1, .aload_n 0, 0, 0, 0, 0, []),
  (11, 3, .getfield 25, 3, 3, 1, 1085, []),
  (14, 3, .ifCond .ne 15, 0, 0, 0, 0, [16]),
  (17, 1, .iload_n 1, 0, 0, 0, 0, []),
  (18, 2, .bipush 85, 0, 0, 85, 0, []),
  (20, 3, .if_icmp .ne 7, 0, 0, 0, 0, [14]),
  (23, 1, .iconst 1, 0, 0, 1, 0, []),
  (24, 3, .goto 4, 0, 0, 0, 0, [15]),
  (27, 1, .iconst 0, 0, 0, 0, 0, []),
  (28, 1, .ireturn, 1, 0, 0, 0, []),
  (29, 1, .iload_n 1, 0, 0, 0, 0, []),
  (30, 2, .bipush 82, 0, 0, 82, 0, []),
  (32, 3, .if_icmp .eq 9, 0, 0, 0, 0, [22]),
  (35, 1, .iload_n 1, 0, 0, 0, 0, []),
  (36, 2, .bipush 114, 0, 0, 114, 0, []),
  (38, 3, .if_icmp .ne 18, 0, 0, 0, 0, [30]),
  (41, 1, .aload_n 0, 0, 0, 0, 0, []),
  (42, 3, .getfield 29, 3, 4, 0, 1086, []),
  (45, 2, .bipush 7, 0, 0, 7, 0, []),
  (47, 3, .if_icmp .eq 7, 0, 0, 0, 0, [28]),
  (50, 1, .iconst 1, 0, 0, 1, 0, []),
  (51, 3, .goto 4, 0, 0, 0, 0, [29]),
  (54, 1, .iconst 0, 0, 0, 0, 0, []),
  (55, 1, .ireturn, 1, 0, 0, 0, []),
  (56, 1, .iload_n 1, 0, 0, 0, 0, []),
  (57, 2, .bipush 71, 0, 0, 71, 0, []),
  (59, 3, .if_icmp .ne 19, 0, 0, 0, 0, [40]),
  (62, 1, .aload_n 0, 0, 0, 0, 0, []),
  (63, 3, .getfield 12, 3, 0, 0, 1081, []),
  (66, 3, .getfield 60, 2, 1, 0, 1041, []),
  (69, 2, .bipush 8, 0, 0, 8, 0, []),
  (71, 3, .if_icmp .ge 7, 0, 0, 0, 0, [40]),
  (74, 1, .iconst 1, 0, 0, 1, 0, []),
  (75, 3, .goto 4, 0, 0, 0, 0, [41])]
def am_c20_1 : List am_E := [(78, 1, .iconst 0, 0, 0, 0, 0, []),
  (79, 1, .ireturn, 1, 0, 0, 0, [])]
def am_c20 : List am_E := am_c20_0 ++ am_c20_1
def am_c21 : List am_E := [(0, 1, .aload_n 0, 0, 0, 0, 0, []),
  (1, 3, .getfield 12, 3, 0, 0, 1081, []),
  (4, 2, .bipush 6, 0, 0, 6, 0, []),
  (6, 1, .iload_n 1, 0, 0, 0, 0, []),
  (7, 1, .imul, 0, 0, 0, 0, []),
  (8, 3, .putfield 63, 2, 0, 0, 1035, []),
  (11, 1, .aload_n 0, 0, 0, 0, 0, []),
  (12, 1, .iconst 1, 0, 0, 1, 0, []),
  (13, 3, .putfield 25, 3, 3, 1, 1085, []),
  (16, 1, .aload_n 0, 0, 0, 0, 0, []),
  (17, 1, .iconst 0, 0, 0, 0, 0, []),
  (18, 3, .putfield 18, 3, 1, 0, 1083, []),
  (21, 1, .iload_n 1, 0, 0, 0, 0, []),
  (22, 1, .iconst 2, 0, 0, 2, 0, []),
  (23, 3, .if_icmp .lt 7, 0, 0, 0, 0, [17]),
  (26, 1, .iconst 1, 0, 0, 1, 0, []),
  (27, 3, .goto 4, 0, 0, 0, 0, [18]),
  (30, 1, .iconst 0, 0, 0, 0, 0, []),
  (31, 1, .ireturn, 1, 0, 0, 0, [])]
def am_c22_0 : List am_E := [(0, 1, .aload_n 0, 0, 0, 0, 0, []),
  (1, 3, .getfield 22, 3, 2, 0, 1084, []),
  (4, 1, .iconst 1, 0, 0, 1, 0, []),
  (5, 3, .if_icmp .ne 32, 0, 0, 0, 0, [21]),
  (8, 1, .aload_n 0, 0, 0, 0, 0, []),
  (9, 1, .iload_n 1, 0, 0, 0, 0, []),
  (10, 3, .putfield 32, 3, 5, 0, 1087, []),
  (13, 1, .iload_n 1, 0, 0, 0, 0, []),
  (14, 3, .invokestatic 66, 86, 1, 1, 2086, []),
  (17, 3, .ifCond .eq 18, 0, 0, 0, 0, [19]),
  (20, 1, .aload_n 0, 0, 0, 0, 0, []),
  (21, 3, .getfield 29, 3, 4, 0, 1086, []),
  (24, 1, .iload_n 1, 0, 0, 0, 0, []),
  (25, 1, .ishr, 0, 0, 0, 0, []),
  (26, 1, .iconst 1, 0, 0, 1, 0, []),
  (27, 1, .iand, 0, 0, 0, 0, []),
  (28, 3, .ifCond .ne 7, 0, 0, 0, 0, [19]),
  (31, 1, .iconst 1, 0, 0, 1, 0, []),
  (32, 3, .goto 4, 0, 0, 0, 0, [20]),
  (35, 1, .iconst 0, 0, 0, 0, 0, []),
  (36, 1, .ireturn, 1, 0, 0, 0, []),
  (37, 1, .aload_n 0, 0, 0, 0, 0, []),
  (38, 3, .getfield 32, 3, 5, 0, 1087, []),
  (41, 3, .invokestatic 66, 86, 1, 1, 2086, []),
  (44, 3, .ifCond .eq 45, 0, 0, 0, 0, [48]),
  (47, 1, .aload_n 0, 0, 0, 0, 0, []),
  (48, 3, .getfield 12, 3, 0, 0, 1081, []),
  (51, 3, .getfield 69, 2, 6, 0, 1064, []),
  (54, 1, .aload_n 0, 0, 0, 0, 0, []),
  (55, 3, .getfield 32, 3, 5, 0, 1087, []),
  (58, 1, .aload_n 0, 0, 0, 0, 0, []),
  (59, 3, .getfield 18, 3, 1, 0, 1083, []),
  (62, 2, .bipush 114, 0, 0, 114, 0, []),
  (64, 3, .if_icmp .ne 8, 0, 0, 0, 0, [37]),
  (67, 1, .iload_n 1, 0, 0, 0, 0, []),
  (68, 1, .ineg, 0, 0, 0, 0, []),
  (69, 3, .goto 4, 0, 0, 0, 0, [38]),
  (72, 1, .iload_n 1, 0, 0, 0, 0, []),
  (73, 1, .iastore, 0, 0, 0, 0, []),
  (74, 1, .aload_n 0, 0, 0, 0, 0, [])]
def am_c22_1 : List am_E := [(75, 1, .dup, 0, 0, 0, 0, []),
  (76, 3, .getfield 29, 3, 4, 0, 1086, []),
  (79, 1, .iconst 1, 0, 0, 1, 0, []),
  (80, 1, .aload_n 0, 0, 0, 0, 0, []),
  (81, 3, .getfield 32, 3, 5, 0, 1087, []),
  (84, 1, .ishl, 0, 0, 0, 0, []),
  (85, 1, .ior, 0, 0, 0, 0, []),
  (86, 3, .putfield 29, 3, 4, 0, 1086, []),
  (89, 1, .aload_n 0, 0, 0, 0, 0, []),
  (90, 1, .iconst 0, 0, 0, 0, 0, []),
  (91, 3, .putfield 18, 3, 1, 0, 1083, []),
  (94, 1, .iconst 1, 0, 0, 1, 0, []),
  (95, 1, .ireturn, 1, 0, 0, 0, [])]
def am_c22 : List am_E := am_c22_0 ++ am_c22_1
def am_c23_0 : List am_E := [(0, 1, .aload_n 0, 0, 0, 0, 0, []),
  (1, 3, .getfield 22, 3, 2, 0, 1084, []),
  (4, 32, .tableswitch 143 1 4 #[32, 42, 85, 113], 0, 0, 1, 0, [63, 3, 9, 32, 47]),
  (36, 1, .aload_n 0, 0, 0, 0, 0, []),
  (37, 1, .iload_n 1, 0, 0, 0, 0, []),
  (38, 3, .putfield 32, 3, 5, 0, 1087, []),
  (41, 1, .iload_n 1, 0, 0, 0, 0, []),
  (42, 3, .invokestatic 66, 86, 1, 1, 2086, []),
  (45, 1, .ireturn, 1, 0, 0, 0, []),
  (46, 1, .aload_n 0, 0, 0, 0, 0, []),
  (47, 1, .iload_n 1, 0, 0, 0, 0, []),
  (48, 3, .putfield 35, 3, 6, 0, 1088, []),
  (51, 1, .iload_n 1, 0, 0, 0, 0, []),
  (52, 3, .ifCond .ne 19, 0, 0, 0, 0, [22]),
  (55, 1, .aload_n 0, 0, 0, 0, 0, []),
  (56, 3, .getfield 32, 3, 5, 0, 1087, []),
  (59, 1, .iconst 2, 0, 0, 2, 0, []),
  (60, 3, .if_icmp .ge 7, 0, 0, 0, 0, [20]),
  (63, 1, .iconst 1, 0, 0, 1, 0, []),
  (64, 3, .goto 24, 0, 0, 0, 0, [31]),
  (67, 1, .iconst 0, 0, 0, 0, 0, []),
  (68, 3, .goto 20, 0, 0, 0, 0, [31]),
  (71, 1, .iload_n 1, 0, 0, 0, 0, []),
  (72, 1, .iconst 1, 0, 0, 1, 0, []),
  (73, 3, .if_icmp .ne 14, 0, 0, 0, 0, [30]),
  (76, 1, .aload_n 0, 0, 0, 0, 0, []),
  (77, 3, .getfield 32, 3, 5, 0, 1087, []),
  (80, 3, .ifCond .le 7, 0, 0, 0, 0, [30]),
  (83, 1, .iconst 1, 0, 0, 1, 0, []),
  (84, 3, .goto 4, 0, 0, 0, 0, [31]),
  (87, 1, .iconst 0, 0, 0, 0, 0, []),
  (88, 1, .ireturn, 1, 0, 0, 0, []),
  (89, 1, .aload_n 0, 0, 0, 0, 0, []),
  (90, 2, .bipush 10, 0, 0, 10, 0, []),
  (92, 1, .iload_n 1, 0, 0, 0, 0, []),
  (93, 1, .imul, 0, 0, 0, 0, []),
  (94, 3, .putfield 38, 3, 7, 0, 1089, []),
  (97, 1, .aload_n 0, 0, 0, 0, 0, []),
  (98, 3, .getfield 38, 3, 7, 0, 1089, []),
  (101, 1, .aload_n 0, 0, 0, 0, 0, [])]
def am_c23_1 : List am_E := [(102, 3, .getfield 12, 3, 0, 0, 1081, []),
  (105, 3, .getfield 63, 2, 0, 0, 1035, []),
  (108, 3, .if_icmp .ge 7, 0, 0, 0, 0, [45]),
  (111, 1, .iconst 1, 0, 0, 1, 0, []),
  (112, 3, .goto 4, 0, 0, 0, 0, [46]),
  (115, 1, .iconst 0, 0, 0, 0, 0, []),
  (116, 1, .ireturn, 1, 0, 0, 0, []),
  (117, 1, .aload_n 0, 0, 0, 0, 0, []),
  (118, 1, .dup, 0, 0, 0, 0, []),
  (119, 3, .getfield 38, 3, 7, 0, 1089, []),
  (122, 1, .iload_n 1, 0, 0, 0, 0, []),
  (123, 1, .iadd, 0, 0, 0, 0, []),
  (124, 3, .putfield 38, 3, 7, 0, 1089, []),
  (127, 1, .aload_n 0, 0, 0, 0, 0, []),
  (128, 3, .getfield 38, 3, 7, 0, 1089, []),
  (131, 1, .aload_n 0, 0, 0, 0, 0, []),
  (132, 3, .getfield 12, 3, 0, 0, 1081, []),
  (135, 3, .getfield 63, 2, 0, 0, 1035, []),
  (138, 3, .if_icmp .ge 7, 0, 0, 0, 0, [61]),
  (141, 1, .iconst 1, 0, 0, 1, 0, []),
  (142, 3, .goto 4, 0, 0, 0, 0, [62]),
  (145, 1, .iconst 0, 0, 0, 0, 0, []),
  (146, 1, .ireturn, 1, 0, 0, 0, []),
  (147, 1, .aload_n 0, 0, 0, 0, 0, []),
  (148, 1, .iconst 0, 0, 0, 0, 0, []),
  (149, 3, .putfield 18, 3, 1, 0, 1083, []),
  (152, 1, .iload_n 1, 0, 0, 0, 0, []),
  (153, 1, .iconst 4, 0, 0, 4, 0, []),
  (154, 3, .if_icmp .gt 15, 0, 0, 0, 0, [75]),
  (157, 1, .aload_n 0, 0, 0, 0, 0, []),
  (158, 1, .iload_n 1, 0, 0, 0, 0, []),
  (159, 3, .invokevirtual 73, 24, 2, 0, 2089, []),
  (162, 3, .ifCond .eq 7, 0, 0, 0, 0, [75]),
  (165, 1, .iconst 1, 0, 0, 1, 0, []),
  (166, 3, .goto 4, 0, 0, 0, 0, [76]),
  (169, 1, .iconst 0, 0, 0, 0, 0, []),
  (170, 1, .ireturn, 1, 0, 0, 0, [])]
def am_c23 : List am_E := am_c23_0 ++ am_c23_1
def am_c24_0 : List am_E := [(0, 1, .aload_n 0, 0, 0, 0, 0, []),
  (1, 3, .getfield 12, 3, 0, 0, 1081, []),
  (4, 3, .getfield 60, 2, 1, 0, 1041, []),
  (7, 1, .istore_n 2, 0, 0, 0, 0, []),
  (8, 1, .iload_n 2, 0, 0, 0, 0, []),
  (9, 3, .ifCond .lt 9, 0, 0, 0, 0, [9]),
  (12, 1, .iload_n 2, 0, 0, 0, 0, []),
  (13, 2, .bipush 8, 0, 0, 8, 0, []),
  (15, 3, .if_icmp .lt 5, 0, 0, 0, 0, [11]),
  (18, 1, .iconst 0, 0, 0, 0, 0, []),
  (19, 1, .ireturn, 1, 0, 0, 0, []),
  (20, 1, .aload_n 0, 0, 0, 0, 0, []),
  (21, 3, .getfield 12, 3, 0, 0, 1081, []),
  (24, 3, .getfield 76, 2, 2, 0, 1048, []),
  (27, 1, .iload_n 2, 0, 0, 0, 0, []),
  (28, 1, .aload_n 0, 0, 0, 0, 0, []),
  (29, 3, .getfield 32, 3, 5, 0, 1087, []),
  (32, 1, .iastore, 0, 0, 0, 0, []),
  (33, 1, .aload_n 0, 0, 0, 0, 0, []),
  (34, 3, .getfield 12, 3, 0, 0, 1081, []),
  (37, 3, .getfield 78, 2, 3, 0, 1052, []),
  (40, 1, .iload_n 2, 0, 0, 0, 0, []),
  (41, 1, .aload_n 0, 0, 0, 0, 0, []),
  (42, 3, .getfield 35, 3, 6, 0, 1088, []),
  (45, 1, .iastore, 0, 0, 0, 0, []),
  (46, 1, .aload_n 0, 0, 0, 0, 0, []),
  (47, 3, .getfield 12, 3, 0, 0, 1081, []),
  (50, 3, .getfield 80, 2, 4, 0, 1057, []),
  (53, 1, .iload_n 2, 0, 0, 0, 0, []),
  (54, 1, .aload_n 0, 0, 0, 0, 0, []),
  (55, 3, .getfield 38, 3, 7, 0, 1089, []),
  (58, 1, .iastore, 0, 0, 0, 0, []),
  (59, 1, .aload_n 0, 0, 0, 0, 0, []),
  (60, 3, .getfield 12, 3, 0, 0, 1081, []),
  (63, 3, .getfield 82, 2, 5, 0, 1061, []),
  (66, 1, .iload_n 2, 0, 0, 0, 0, []),
  (67, 1, .iload_n 1, 0, 0, 0, 0, []),
  (68, 1, .iastore, 0, 0, 0, 0, []),
  (69, 1, .aload_n 0, 0, 0, 0, 0, []),
  (70, 3, .getfield 12, 3, 0, 0, 1081, [])]
def am_c24_1 : List am_E := [(73, 1, .dup, 0, 0, 0, 0, []),
  (74, 3, .getfield 60, 2, 1, 0, 1041, []),
  (77, 1, .iconst 1, 0, 0, 1, 0, []),
  (78, 1, .iadd, 0, 0, 0, 0, []),
  (79, 3, .putfield 60, 2, 1, 0, 1041, []),
  (82, 1, .iconst 1, 0, 0, 1, 0, []),
  (83, 1, .ireturn, 1, 0, 0, 0, [])]
def am_c24 : List am_E := am_c24_0 ++ am_c24_1
def am_c25_0 : List am_E := [(0, 1, .aload_n 0, 0, 0, 0, 0, []),
  (1, 3, .getfield 15, 4, 2, 0, 1159, []),
  (4, 1, .iconst (-1), 0, 0, -1, 0, []),
  (5, 3, .invokestatic 54, 162, 2, 0, 2121, []),
  (8, 1, .aload_n 0, 0, 0, 0, 0, []),
  (9, 1, .iconst 0, 0, 0, 0, 0, []),
  (10, 3, .putfield 37, 4, 9, 0, 1166, []),
  (13, 1, .iconst 0, 0, 0, 0, 0, []),
  (14, 1, .istore_n 1, 0, 0, 0, 0, []),
  (15, 1, .iload_n 1, 0, 0, 0, 0, []),
  (16, 1, .aload_n 0, 0, 0, 0, 0, []),
  (17, 3, .getfield 50, 4, 0, 0, 1157, []),
  (20, 3, .getfield 60, 2, 1, 0, 1039, []),
  (23, 3, .if_icmp .ge 101, 0, 0, 0, 0, [65]),
  (26, 1, .iconst 0, 0, 0, 0, 0, []),
  (27, 1, .istore_n 2, 0, 0, 0, 0, []),
  (28, 1, .iload_n 2, 0, 0, 0, 0, []),
  (29, 1, .aload_n 0, 0, 0, 0, 0, []),
  (30, 3, .getfield 50, 4, 0, 0, 1157, []),
  (33, 3, .getfield 60, 2, 1, 0, 1039, []),
  (36, 3, .if_icmp .ge 82, 0, 0, 0, 0, [63]),
  (39, 1, .aload_n 0, 0, 0, 0, 0, []),
  (40, 3, .getfield 50, 4, 0, 0, 1157, []),
  (43, 3, .getfield 65, 2, 2, 0, 1044, []),
  (46, 1, .iload_n 1, 0, 0, 0, 0, []),
  (47, 1, .iaload, 0, 0, 0, 0, []),
  (48, 1, .iconst 1, 0, 0, 1, 0, []),
  (49, 1, .iadd, 0, 0, 0, 0, []),
  (50, 1, .aload_n 0, 0, 0, 0, 0, []),
  (51, 3, .getfield 50, 4, 0, 0, 1157, []),
  (54, 3, .getfield 65, 2, 2, 0, 1044, []),
  (57, 1, .iload_n 2, 0, 0, 0, 0, []),
  (58, 1, .iaload, 0, 0, 0, 0, []),
  (59, 3, .if_icmp .ne 32, 0, 0, 0, 0, [49]),
  (62, 1, .aload_n 0, 0, 0, 0, 0, []),
  (63, 3, .getfield 50, 4, 0, 0, 1157, []),
  (66, 3, .getfield 68, 2, 3, 0, 1050, []),
  (69, 1, .iload_n 1, 0, 0, 0, 0, []),
  (70, 1, .iaload, 0, 0, 0, 0, []),
  (71, 3, .ifCond .ne 20, 0, 0, 0, 0, [49])]
def am_c25_1 : List am_E := [(74, 1, .aload_n 0, 0, 0, 0, 0, []),
  (75, 3, .getfield 50, 4, 0, 0, 1157, []),
  (78, 3, .getfield 68, 2, 3, 0, 1050, []),
  (81, 1, .iload_n 2, 0, 0, 0, 0, []),
  (82, 1, .iaload, 0, 0, 0, 0, []),
  (83, 1, .iconst 1, 0, 0, 1, 0, []),
  (84, 3, .if_icmp .ne 7, 0, 0, 0, 0, [49]),
  (87, 1, .iconst 1, 0, 0, 1, 0, []),
  (88, 3, .goto 4, 0, 0, 0, 0, [50]),
  (91, 1, .iconst 0, 0, 0, 0, 0, []),
  (92, 1, .istore_n 3, 0, 0, 0, 0, []),
  (93, 1, .iload_n 3, 0, 0, 0, 0, []),
  (94, 3, .ifCond .eq 18, 0, 0, 0, 0, [61]),
  (97, 1, .aload_n 0, 0, 0, 0, 0, []),
  (98, 3, .getfield 37, 4, 9, 0, 1166, []),
  (101, 2, .bipush 16, 0, 0, 16, 0, []),
  (103, 3, .if_icmp .ge 9, 0, 0, 0, 0, [61]),
  (106, 1, .aload_n 0, 0, 0, 0, 0, []),
  (107, 1, .iload_n 1, 0, 0, 0, 0, []),
  (108, 1, .iload_n 2, 0, 0, 0, 0, []),
  (109, 3, .invokevirtual 71, 26, 3, 0, 2122, []),
  (112, 3, .iinc 2 1, 0, 0, 0, 0, []),
  (115, 3, .goto (-87), 0, 0, 0, 0, [16]),
  (118, 3, .iinc 1 1, 0, 0, 0, 0, []),
  (121, 3, .goto (-106), 0, 0, 0, 0, [9]),
  (124, 1, .return_, 0, 0, 0, 0, [])]
def am_c25 : List am_E := am_c25_0 ++ am_c25_1
def am_c26_0 : List am_E := [(0, 1, .aload_n 0, 0, 0, 0, 0, []),
  (1, 3, .getfield 15, 4, 2, 0, 1159, []),
  (4, 2, .bipush 8, 0, 0, 8, 0, []),
  (6, 1, .iload_n 1, 0, 0, 0, 0, []),
  (7, 1, .imul, 0, 0, 0, 0, []),
  (8, 1, .iload_n 2, 0, 0, 0, 0, []),
  (9, 1, .iadd, 0, 0, 0, 0, []),
  (10, 1, .aload_n 0, 0, 0, 0, 0, []),
  (11, 3, .getfield 37, 4, 9, 0, 1166, []),
  (14, 1, .iastore, 0, 0, 0, 0, []),
  (15, 1, .aload_n 0, 0, 0, 0, 0, []),
  (16, 3, .getfield 15, 4, 2, 0, 1159, []),
  (19, 2, .bipush 8, 0, 0, 8, 0, []),
  (21, 1, .iload_n 2, 0, 0, 0, 0, []),
  (22, 1, .imul, 0, 0, 0, 0, []),
  (23, 1, .iload_n 1, 0, 0, 0, 0, []),
  (24, 1, .iadd, 0, 0, 0, 0, []),
  (25, 1, .aload_n 0, 0, 0, 0, 0, []),
  (26, 3, .getfield 37, 4, 9, 0, 1166, []),
  (29, 1, .iastore, 0, 0, 0, 0, []),
  (30, 1, .aload_n 0, 0, 0, 0, 0, []),
  (31, 3, .getfield 18, 4, 3, 0, 1160, []),
  (34, 1, .aload_n 0, 0, 0, 0, 0, []),
  (35, 3, .getfield 37, 4, 9, 0, 1166, []),
  (38, 1, .aload_n 0, 0, 0, 0, 0, []),
  (39, 3, .getfield 50, 4, 0, 0, 1157, []),
  (42, 3, .getfield 75, 2, 5, 0, 1059, []),
  (45, 1, .iload_n 1, 0, 0, 0, 0, []),
  (46, 1, .iaload, 0, 0, 0, 0, []),
  (47, 1, .iconst 1, 0, 0, 1, 0, []),
  (48, 3, .if_icmp .eq 16, 0, 0, 0, 0, [38]),
  (51, 1, .aload_n 0, 0, 0, 0, 0, []),
  (52, 3, .getfield 50, 4, 0, 0, 1157, []),
  (55, 3, .getfield 75, 2, 5, 0, 1059, []),
  (58, 1, .iload_n 2, 0, 0, 0, 0, []),
  (59, 1, .iaload, 0, 0, 0, 0, []),
  (60, 1, .iconst 1, 0, 0, 1, 0, []),
  (61, 3, .if_icmp .ne 7, 0, 0, 0, 0, [40]),
  (64, 1, .iconst 1, 0, 0, 1, 0, []),
  (65, 3, .goto 4, 0, 0, 0, 0, [41])]
def am_c26_1 : List am_E := [(68, 1, .iconst 0, 0, 0, 0, 0, []),
  (69, 1, .iastore, 0, 0, 0, 0, []),
  (70, 1, .aload_n 0, 0, 0, 0, 0, []),
  (71, 3, .getfield 21, 4, 4, 0, 1161, []),
  (74, 1, .aload_n 0, 0, 0, 0, 0, []),
  (75, 3, .getfield 37, 4, 9, 0, 1166, []),
  (78, 1, .aload_n 0, 0, 0, 0, 0, []),
  (79, 3, .getfield 50, 4, 0, 0, 1157, []),
  (82, 1, .aload_n 0, 0, 0, 0, 0, []),
  (83, 3, .getfield 50, 4, 0, 0, 1157, []),
  (86, 3, .getfield 78, 2, 4, 0, 1054, []),
  (89, 1, .iload_n 1, 0, 0, 0, 0, []),
  (90, 1, .iaload, 0, 0, 0, 0, []),
  (91, 1, .aload_n 0, 0, 0, 0, 0, []),
  (92, 3, .getfield 50, 4, 0, 0, 1157, []),
  (95, 3, .getfield 78, 2, 4, 0, 1054, []),
  (98, 1, .iload_n 2, 0, 0, 0, 0, []),
  (99, 1, .iaload, 0, 0, 0, 0, []),
  (100, 1, .isub, 0, 0, 0, 0, []),
  (101, 1, .aload_n 0, 0, 0, 0, 0, []),
  (102, 3, .getfield 18, 4, 3, 0, 1160, []),
  (105, 1, .aload_n 0, 0, 0, 0, 0, []),
  (106, 3, .getfield 37, 4, 9, 0, 1166, []),
  (109, 1, .iaload, 0, 0, 0, 0, []),
  (110, 1, .iadd, 0, 0, 0, 0, []),
  (111, 3, .invokevirtual 81, 16, 2, 0, 2126, []),
  (114, 1, .iastore, 0, 0, 0, 0, []),
  (115, 1, .aload_n 0, 0, 0, 0, 0, []),
  (116, 3, .getfield 24, 4, 5, 0, 1162, []),
  (119, 1, .aload_n 0, 0, 0, 0, 0, []),
  (120, 3, .getfield 37, 4, 9, 0, 1166, []),
  (123, 1, .aload_n 0, 0, 0, 0, 0, []),
  (124, 3, .getfield 50, 4, 0, 0, 1157, []),
  (127, 3, .getfield 75, 2, 5, 0, 1059, []),
  (130, 1, .iload_n 1, 0, 0, 0, 0, []),
  (131, 1, .iaload, 0, 0, 0, 0, []),
  (132, 1, .iconst 3, 0, 0, 3, 0, []),
  (133, 3, .if_icmp .ne 7, 0, 0, 0, 0, [80]),
  (136, 1, .iconst 1, 0, 0, 1, 0, []),
  (137, 3, .goto 4, 0, 0, 0, 0, [81])]
def am_c26_2 : List am_E := [(140, 1, .iconst 0, 0, 0, 0, 0, []),
  (141, 1, .aload_n 0, 0, 0, 0, 0, []),
  (142, 3, .getfield 50, 4, 0, 0, 1157, []),
  (145, 3, .getfield 75, 2, 5, 0, 1059, []),
  (148, 1, .iload_n 2, 0, 0, 0, 0, []),
  (149, 1, .iaload, 0, 0, 0, 0, []),
  (150, 1, .iconst 3, 0, 0, 3, 0, []),
  (151, 3, .if_icmp .ne 7, 0, 0, 0, 0, [90]),
  (154, 1, .iconst 1, 0, 0, 1, 0, []),
  (155, 3, .goto 4, 0, 0, 0, 0, [91]),
  (158, 1, .iconst 0, 0, 0, 0, 0, []),
  (159, 1, .isub, 0, 0, 0, 0, []),
  (160, 1, .iastore, 0, 0, 0, 0, []),
  (161, 1, .aload_n 0, 0, 0, 0, 0, []),
  (162, 3, .getfield 27, 4, 6, 0, 1163, []),
  (165, 1, .aload_n 0, 0, 0, 0, 0, []),
  (166, 3, .getfield 37, 4, 9, 0, 1166, []),
  (169, 1, .aload_n 0, 0, 0, 0, 0, []),
  (170, 3, .getfield 50, 4, 0, 0, 1157, []),
  (173, 3, .getfield 75, 2, 5, 0, 1059, []),
  (176, 1, .iload_n 1, 0, 0, 0, 0, []),
  (177, 1, .iaload, 0, 0, 0, 0, []),
  (178, 1, .iconst 4, 0, 0, 4, 0, []),
  (179, 3, .if_icmp .eq 16, 0, 0, 0, 0, [111]),
  (182, 1, .aload_n 0, 0, 0, 0, 0, []),
  (183, 3, .getfield 50, 4, 0, 0, 1157, []),
  (186, 3, .getfield 75, 2, 5, 0, 1059, []),
  (189, 1, .iload_n 2, 0, 0, 0, 0, []),
  (190, 1, .iaload, 0, 0, 0, 0, []),
  (191, 1, .iconst 4, 0, 0, 4, 0, []),
  (192, 3, .if_icmp .ne 7, 0, 0, 0, 0, [113]),
  (195, 1, .iconst 1, 0, 0, 1, 0, []),
  (196, 3, .goto 4, 0, 0, 0, 0, [114]),
  (199, 1, .iconst 0, 0, 0, 0, 0, []),
  (200, 1, .bastore, 0, 0, 0, 0, []),
  (201, 1, .aload_n 0, 0, 0, 0, 0, []),
  (202, 3, .getfield 31, 4, 7, 0, 1164, []),
  (205, 1, .aload_n 0, 0, 0, 0, 0, []),
  (206, 3, .getfield 37, 4, 9, 0, 1166, []),
  (209, 1, .aload_n 0, 0, 0, 0, 0, [])]
def am_c26_3 : List am_E := [(210, 3, .getfield 50, 4, 0, 0, 1157, []),
  (213, 3, .getfield 65, 2, 2, 0, 1044, []),
  (216, 1, .iload_n 1, 0, 0, 0, 0, []),
  (217, 1, .iaload, 0, 0, 0, 0, []),
  (218, 1, .iastore, 0, 0, 0, 0, []),
  (219, 1, .aload_n 0, 0, 0, 0, 0, []),
  (220, 1, .dup, 0, 0, 0, 0, []),
  (221, 3, .getfield 37, 4, 9, 0, 1166, []),
  (224, 1, .iconst 1, 0, 0, 1, 0, []),
  (225, 1, .iadd, 0, 0, 0, 0, []),
  (226, 3, .putfield 37, 4, 9, 0, 1166, []),
  (229, 1, .return_, 0, 0, 0, 0, [])]
def am_c26 : List am_E := am_c26_0 ++ am_c26_1 ++ am_c26_2 ++ am_c26_3
def am_c27_0 : List am_E := [(0, 1, .aload_n 0, 0, 0, 0, 0, []),
  (1, 1, .iconst 0, 0, 0, 0, 0, []),
  (2, 3, .putfield 44, 4, 11, 0, 1168, []),
  (5, 1, .iconst 0, 0, 0, 0, 0, []),
  (6, 1, .istore_n 2, 0, 0, 0, 0, []),
  (7, 1, .iload_n 2, 0, 0, 0, 0, []),
  (8, 1, .iconst 3, 0, 0, 3, 0, []),
  (9, 3, .if_icmp .ge 42, 0, 0, 0, 0, [29]),
  (12, 1, .aload_n 1, 0, 0, 0, 0, []),
  (13, 3, .getfield 85, 1, 2, 0, 1121, []),
  (16, 1, .iload_n 2, 0, 0, 0, 0, []),
  (17, 1, .iaload, 0, 0, 0, 0, []),
  (18, 3, .ifCond .le 27, 0, 0, 0, 0, [27]),
  (21, 1, .aload_n 0, 0, 0, 0, 0, []),
  (22, 1, .aload_n 0, 0, 0, 0, 0, []),
  (23, 3, .getfield 44, 4, 11, 0, 1168, []),
  (26, 1, .aload_n 1, 0, 0, 0, 0, []),
  (27, 3, .getfield 90, 1, 1, 0, 1119, []),
  (30, 1, .iload_n 2, 0, 0, 0, 0, []),
  (31, 1, .iaload, 0, 0, 0, 0, []),
  (32, 1, .aload_n 1, 0, 0, 0, 0, []),
  (33, 3, .getfield 85, 1, 2, 0, 1121, []),
  (36, 1, .iload_n 2, 0, 0, 0, 0, []),
  (37, 1, .iaload, 0, 0, 0, 0, []),
  (38, 1, .iadd, 0, 0, 0, 0, []),
  (39, 3, .invokestatic 93, 159, 2, 0, 2187, []),
  (42, 3, .putfield 44, 4, 11, 0, 1168, []),
  (45, 3, .iinc 2 1, 0, 0, 0, 0, []),
  (48, 3, .goto (-41), 0, 0, 0, 0, [5]),
  (51, 1, .aload_n 0, 0, 0, 0, 0, []),
  (52, 3, .sipush 505, 0, 0, 505, 0, []),
  (55, 1, .aload_n 0, 0, 0, 0, 0, []),
  (56, 3, .getfield 44, 4, 11, 0, 1168, []),
  (59, 1, .aload_n 0, 0, 0, 0, 0, []),
  (60, 3, .getfield 50, 4, 0, 0, 1157, []),
  (63, 3, .getfield 99, 2, 0, 0, 1034, []),
  (66, 1, .iadd, 0, 0, 0, 0, []),
  (67, 3, .invokestatic 102, 160, 2, 0, 2188, []),
  (70, 3, .putfield 47, 4, 12, 0, 1169, []),
  (73, 1, .aload_n 0, 0, 0, 0, 0, [])]
def am_c27_1 : List am_E := [(74, 1, .dup, 0, 0, 0, 0, []),
  (75, 3, .getfield 41, 4, 10, 0, 1167, []),
  (78, 1, .iconst 1, 0, 0, 1, 0, []),
  (79, 1, .iadd, 0, 0, 0, 0, []),
  (80, 3, .putfield 41, 4, 10, 0, 1167, []),
  (83, 1, .iconst 0, 0, 0, 0, 0, []),
  (84, 1, .istore_n 2, 0, 0, 0, 0, []),
  (85, 1, .iload_n 2, 0, 0, 0, 0, []),
  (86, 1, .iconst 3, 0, 0, 3, 0, []),
  (87, 3, .if_icmp .ge 39, 0, 0, 0, 0, [70]),
  (90, 1, .aload_n 0, 0, 0, 0, 0, []),
  (91, 1, .iload_n 2, 0, 0, 0, 0, []),
  (92, 1, .aload_n 0, 0, 0, 0, 0, []),
  (93, 3, .getfield 50, 4, 0, 0, 1157, []),
  (96, 1, .aload_n 1, 0, 0, 0, 0, []),
  (97, 3, .getfield 105, 1, 0, 0, 1116, []),
  (100, 1, .iload_n 2, 0, 0, 0, 0, []),
  (101, 1, .iaload, 0, 0, 0, 0, []),
  (102, 3, .invokevirtual 81, 16, 2, 0, 2126, []),
  (105, 1, .aload_n 1, 0, 0, 0, 0, []),
  (106, 3, .getfield 90, 1, 1, 0, 1119, []),
  (109, 1, .iload_n 2, 0, 0, 0, 0, []),
  (110, 1, .iaload, 0, 0, 0, 0, []),
  (111, 1, .aload_n 1, 0, 0, 0, 0, []),
  (112, 3, .getfield 85, 1, 2, 0, 1121, []),
  (115, 1, .iload_n 2, 0, 0, 0, 0, []),
  (116, 1, .iaload, 0, 0, 0, 0, []),
  (117, 3, .invokevirtual 108, 28, 5, 0, 2189, []),
  (120, 3, .iinc 2 1, 0, 0, 0, 0, []),
  (123, 3, .goto (-38), 0, 0, 0, 0, [47]),
  (126, 1, .return_, 0, 0, 0, 0, [])]
def am_c27 : List am_E := am_c27_0 ++ am_c27_1
def am_c28_0 : List am_E := [(0, 1, .iconst 0, 0, 0, 0, 0, []),
  (1, 2, .istore 5, 0, 0, 0, 0, []),
  (3, 1, .iconst 0, 0, 0, 0, 0, []),
  (4, 2, .istore 6, 0, 0, 0, 0, []),
  (6, 2, .iload 6, 0, 0, 0, 0, []),
  (8, 1, .aload_n 0, 0, 0, 0, 0, []),
  (9, 3, .getfield 47, 4, 12, 0, 1169, []),
  (12, 3, .if_icmp .ge 69, 0, 0, 0, 0, [42]),
  (15, 1, .aload_n 0, 0, 0, 0, 0, []),
  (16, 3, .getfield 11, 4, 1, 0, 1158, []),
  (19, 3, .sipush 505, 0, 0, 505, 0, []),
  (22, 1, .iload_n 1, 0, 0, 0, 0, []),
  (23, 1, .imul, 0, 0, 0, 0, []),
  (24, 2, .iload 6, 0, 0, 0, 0, []),
  (26, 1, .iadd, 0, 0, 0, 0, []),
  (27, 2, .iload 5, 0, 0, 0, 0, []),
  (29, 1, .iastore, 0, 0, 0, 0, []),
  (30, 2, .iload 6, 0, 0, 0, 0, []),
  (32, 1, .iload_n 3, 0, 0, 0, 0, []),
  (33, 3, .if_icmp .lt 12, 0, 0, 0, 0, [25]),
  (36, 2, .iload 6, 0, 0, 0, 0, []),
  (38, 1, .iload_n 3, 0, 0, 0, 0, []),
  (39, 2, .iload 4, 0, 0, 0, 0, []),
  (41, 1, .iadd, 0, 0, 0, 0, []),
  (42, 3, .if_icmp .lt 33, 0, 0, 0, 0, [40]),
  (45, 2, .iload 5, 0, 0, 0, 0, []),
  (47, 1, .iload_n 2, 0, 0, 0, 0, []),
  (48, 1, .iadd, 0, 0, 0, 0, []),
  (49, 2, .istore 5, 0, 0, 0, 0, []),
  (51, 2, .iload 5, 0, 0, 0, 0, []),
  (53, 1, .aload_n 0, 0, 0, 0, 0, []),
  (54, 3, .getfield 50, 4, 0, 0, 1157, []),
  (57, 3, .getfield 99, 2, 0, 0, 1034, []),
  (60, 3, .if_icmp .lt 15, 0, 0, 0, 0, [40]),
  (63, 2, .iload 5, 0, 0, 0, 0, []),
  (65, 1, .aload_n 0, 0, 0, 0, 0, []),
  (66, 3, .getfield 50, 4, 0, 0, 1157, []),
  (69, 3, .getfield 99, 2, 0, 0, 1034, []),
  (72, 1, .isub, 0, 0, 0, 0, []),
  (73, 2, .istore 5, 0, 0, 0, 0, [])]
def am_c28_1 : List am_E := [(75, 3, .iinc 6 1, 0, 0, 0, 0, []),
  (78, 3, .goto (-72), 0, 0, 0, 0, [4]),
  (81, 1, .return_, 0, 0, 0, 0, [])]
def am_c28 : List am_E := am_c28_0 ++ am_c28_1
def am_c29 : List am_E := [(0, 1, .aload_n 0, 0, 0, 0, 0, []),
  (1, 3, .getfield 47, 4, 12, 0, 1169, []),
  (4, 1, .aload_n 0, 0, 0, 0, 0, []),
  (5, 3, .getfield 44, 4, 11, 0, 1168, []),
  (8, 1, .isub, 0, 0, 0, 0, []),
  (9, 1, .istore_n 2, 0, 0, 0, 0, []),
  (10, 1, .iload_n 1, 0, 0, 0, 0, []),
  (11, 1, .aload_n 0, 0, 0, 0, 0, []),
  (12, 3, .getfield 47, 4, 12, 0, 1169, []),
  (15, 3, .if_icmp .lt 8, 0, 0, 0, 0, [13]),
  (18, 1, .iload_n 2, 0, 0, 0, 0, []),
  (19, 1, .iconst 1, 0, 0, 1, 0, []),
  (20, 3, .if_icmp .ge 18, 0, 0, 0, 0, [22]),
  (23, 1, .iconst 0, 0, 0, 0, 0, []),
  (24, 1, .iload_n 1, 0, 0, 0, 0, []),
  (25, 1, .aload_n 0, 0, 0, 0, 0, []),
  (26, 3, .getfield 47, 4, 12, 0, 1169, []),
  (29, 1, .iconst 1, 0, 0, 1, 0, []),
  (30, 1, .isub, 0, 0, 0, 0, []),
  (31, 3, .invokestatic 102, 160, 2, 0, 2188, []),
  (34, 3, .invokestatic 93, 159, 2, 0, 2187, []),
  (37, 1, .ireturn, 0, 0, 0, 0, []),
  (38, 1, .aload_n 0, 0, 0, 0, 0, []),
  (39, 3, .getfield 44, 4, 11, 0, 1168, []),
  (42, 1, .iload_n 1, 0, 0, 0, 0, []),
  (43, 1, .aload_n 0, 0, 0, 0, 0, []),
  (44, 3, .getfield 44, 4, 11, 0, 1168, []),
  (47, 1, .isub, 0, 0, 0, 0, []),
  (48, 1, .iload_n 2, 0, 0, 0, 0, []),
  (49, 1, .irem, 0, 0, 0, 0, []),
  (50, 1, .iadd, 0, 0, 0, 0, []),
  (51, 1, .ireturn, 0, 0, 0, 0, [])]
def am_c30 : List am_E := [(0, 1, .iconst 0, 0, 0, 0, 0, []),
  (1, 1, .aload_n 0, 0, 0, 0, 0, []),
  (2, 3, .getfield 44, 4, 11, 0, 1168, []),
  (5, 1, .iload_n 1, 0, 0, 0, 0, []),
  (6, 1, .isub, 0, 0, 0, 0, []),
  (7, 3, .invokestatic 93, 159, 2, 0, 2187, []),
  (10, 1, .aload_n 0, 0, 0, 0, 0, []),
  (11, 3, .getfield 50, 4, 0, 0, 1157, []),
  (14, 3, .getfield 99, 2, 0, 0, 1034, []),
  (17, 1, .iadd, 0, 0, 0, 0, []),
  (18, 1, .ireturn, 0, 0, 0, 0, [])]
def am_c31 : List am_E := [(0, 1, .aload_n 0, 0, 0, 0, 0, []),
  (1, 3, .getfield 50, 4, 0, 0, 1157, []),
  (4, 3, .getfield 75, 2, 5, 0, 1059, []),
  (7, 1, .iload_n 1, 0, 0, 0, 0, []),
  (8, 1, .iaload, 0, 0, 0, 0, []),
  (9, 1, .iconst 3, 0, 0, 3, 0, []),
  (10, 3, .if_icmp .ne 9, 0, 0, 0, 0, [11]),
  (13, 1, .iload_n 2, 0, 0, 0, 0, []),
  (14, 1, .iconst 1, 0, 0, 1, 0, []),
  (15, 1, .iand, 0, 0, 0, 0, []),
  (16, 3, .goto 4, 0, 0, 0, 0, [12]),
  (19, 1, .iconst 0, 0, 0, 0, 0, []),
  (20, 1, .istore_n 3, 0, 0, 0, 0, []),
  (21, 1, .aload_n 0, 0, 0, 0, 0, []),
  (22, 3, .getfield 50, 4, 0, 0, 1157, []),
  (25, 1, .aload_n 0, 0, 0, 0, 0, []),
  (26, 3, .getfield 50, 4, 0, 0, 1157, []),
  (29, 3, .getfield 78, 2, 4, 0, 1054, []),
  (32, 1, .iload_n 1, 0, 0, 0, 0, []),
  (33, 1, .iaload, 0, 0, 0, 0, []),
  (34, 1, .aload_n 0, 0, 0, 0, 0, []),
  (35, 3, .getfield 11, 4, 1, 0, 1158, []),
  (38, 3, .sipush 505, 0, 0, 505, 0, []),
  (41, 1, .aload_n 0, 0, 0, 0, 0, []),
  (42, 3, .getfield 50, 4, 0, 0, 1157, []),
  (45, 3, .getfield 65, 2, 2, 0, 1044, []),
  (48, 1, .iload_n 1, 0, 0, 0, 0, []),
  (49, 1, .iaload, 0, 0, 0, 0, []),
  (50, 1, .imul, 0, 0, 0, 0, []),
  (51, 1, .iload_n 2, 0, 0, 0, 0, []),
  (52, 1, .iadd, 0, 0, 0, 0, []),
  (53, 1, .iaload, 0, 0, 0, 0, []),
  (54, 1, .iadd, 0, 0, 0, 0, []),
  (55, 1, .iload_n 3, 0, 0, 0, 0, []),
  (56, 1, .iadd, 0, 0, 0, 0, []),
  (57, 3, .invokevirtual 81, 16, 2, 0, 2126, []),
  (60, 1, .ireturn, 0, 0, 0, 0, [])]
def am_c32 : List am_E := [(0, 1, .aload_n 0, 0, 0, 0, 0, []),
  (1, 1, .iload_n 2, 0, 0, 0, 0, []),
  (2, 3, .invokevirtual 112, 29, 2, 0, 2222, []),
  (5, 1, .istore_n 3, 0, 0, 0, 0, []),
  (6, 1, .iconst (-1), 0, 0, -1, 0, []),
  (7, 2, .istore 4, 0, 0, 0, 0, []),
  (9, 1, .iconst 0, 0, 0, 0, 0, []),
  (10, 2, .istore 5, 0, 0, 0, 0, []),
  (12, 2, .iload 5, 0, 0, 0, 0, []),
  (14, 1, .aload_n 0, 0, 0, 0, 0, []),
  (15, 3, .getfield 50, 4, 0, 0, 1157, []),
  (18, 3, .getfield 60, 2, 1, 0, 1039, []),
  (21, 3, .if_icmp .ge 45, 0, 0, 0, 0, [35]),
  (24, 1, .iload_n 1, 0, 0, 0, 0, []),
  (25, 2, .iload 5, 0, 0, 0, 0, []),
  (27, 1, .ishr, 0, 0, 0, 0, []),
  (28, 1, .iconst 1, 0, 0, 1, 0, []),
  (29, 1, .iand, 0, 0, 0, 0, []),
  (30, 3, .ifCond .eq 30, 0, 0, 0, 0, [33]),
  (33, 1, .aload_n 0, 0, 0, 0, 0, []),
  (34, 2, .iload 5, 0, 0, 0, 0, []),
  (36, 1, .iload_n 3, 0, 0, 0, 0, []),
  (37, 3, .invokevirtual 115, 31, 3, 0, 3042, []),
  (40, 2, .istore 6, 0, 0, 0, 0, []),
  (42, 2, .iload 4, 0, 0, 0, 0, []),
  (44, 3, .ifCond .lt 12, 0, 0, 0, 0, [31]),
  (47, 2, .iload 6, 0, 0, 0, 0, []),
  (49, 2, .iload 4, 0, 0, 0, 0, []),
  (51, 3, .if_icmp .eq 5, 0, 0, 0, 0, [31]),
  (54, 1, .iconst 0, 0, 0, 0, 0, []),
  (55, 1, .ireturn, 1, 0, 0, 0, []),
  (56, 2, .iload 6, 0, 0, 0, 0, []),
  (58, 2, .istore 4, 0, 0, 0, 0, []),
  (60, 3, .iinc 5 1, 0, 0, 0, 0, []),
  (63, 3, .goto (-51), 0, 0, 0, 0, [8]),
  (66, 1, .iconst 1, 0, 0, 1, 0, []),
  (67, 1, .ireturn, 1, 0, 0, 0, [])]
def am_c33_0 : List am_E := [(0, 1, .aload_n 0, 0, 0, 0, 0, []),
  (1, 3, .getfield 50, 4, 0, 0, 1157, []),
  (4, 1, .iload_n 1, 0, 0, 0, 0, []),
  (5, 3, .invokevirtual 118, 14, 2, 0, 2213, []),
  (8, 3, .ifCond .eq 14, 0, 0, 0, 0, [10]),
  (11, 1, .aload_n 0, 0, 0, 0, 0, []),
  (12, 3, .getfield 50, 4, 0, 0, 1157, []),
  (15, 1, .iload_n 2, 0, 0, 0, 0, []),
  (16, 3, .invokevirtual 118, 14, 2, 0, 2213, []),
  (19, 3, .ifCond .ne 5, 0, 0, 0, 0, [12]),
  (22, 1, .iconst (-1), 0, 0, -1, 0, []),
  (23, 1, .ireturn, 0, 0, 0, 0, []),
  (24, 1, .aload_n 0, 0, 0, 0, 0, []),
  (25, 3, .getfield 50, 4, 0, 0, 1157, []),
  (28, 3, .getfield 65, 2, 2, 0, 1044, []),
  (31, 1, .iload_n 2, 0, 0, 0, 0, []),
  (32, 1, .iaload, 0, 0, 0, 0, []),
  (33, 1, .aload_n 0, 0, 0, 0, 0, []),
  (34, 3, .getfield 50, 4, 0, 0, 1157, []),
  (37, 3, .getfield 65, 2, 2, 0, 1044, []),
  (40, 1, .iload_n 1, 0, 0, 0, 0, []),
  (41, 1, .iaload, 0, 0, 0, 0, []),
  (42, 3, .if_icmp .ge 7, 0, 0, 0, 0, [25]),
  (45, 1, .iconst 1, 0, 0, 1, 0, []),
  (46, 3, .goto 4, 0, 0, 0, 0, [26]),
  (49, 1, .iconst 0, 0, 0, 0, 0, []),
  (50, 1, .istore_n 3, 0, 0, 0, 0, []),
  (51, 1, .iload_n 3, 0, 0, 0, 0, []),
  (52, 3, .ifCond .eq 31, 0, 0, 0, 0, [45]),
  (55, 1, .aload_n 0, 0, 0, 0, 0, []),
  (56, 3, .getfield 50, 4, 0, 0, 1157, []),
  (59, 3, .getfield 75, 2, 5, 0, 1059, []),
  (62, 1, .iload_n 1, 0, 0, 0, 0, []),
  (63, 1, .iaload, 0, 0, 0, 0, []),
  (64, 1, .iconst 2, 0, 0, 2, 0, []),
  (65, 3, .if_icmp .eq 16, 0, 0, 0, 0, [43]),
  (68, 1, .aload_n 0, 0, 0, 0, 0, []),
  (69, 3, .getfield 50, 4, 0, 0, 1157, []),
  (72, 3, .getfield 75, 2, 5, 0, 1059, []),
  (75, 1, .iload_n 2, 0, 0, 0, 0, [])]
def am_c33_1 : List am_E := [(76, 1, .iaload, 0, 0, 0, 0, []),
  (77, 1, .iconst 2, 0, 0, 2, 0, []),
  (78, 3, .if_icmp .ne 5, 0, 0, 0, 0, [45]),
  (81, 1, .iconst (-1), 0, 0, -1, 0, []),
  (82, 1, .ireturn, 0, 0, 0, 0, []),
  (83, 1, .aload_n 0, 0, 0, 0, 0, []),
  (84, 3, .getfield 15, 4, 2, 0, 1159, []),
  (87, 2, .bipush 8, 0, 0, 8, 0, []),
  (89, 1, .iload_n 1, 0, 0, 0, 0, []),
  (90, 1, .imul, 0, 0, 0, 0, []),
  (91, 1, .iload_n 2, 0, 0, 0, 0, []),
  (92, 1, .iadd, 0, 0, 0, 0, []),
  (93, 1, .iaload, 0, 0, 0, 0, []),
  (94, 1, .ireturn, 0, 0, 0, 0, [])]
def am_c33 : List am_E := am_c33_0 ++ am_c33_1
def am_c34 : List am_E := [(0, 1, .aload_n 0, 0, 0, 0, 0, []),
  (1, 1, .iload_n 1, 0, 0, 0, 0, []),
  (2, 3, .invokevirtual 122, 35, 2, 0, 2218, []),
  (5, 3, .ifCond .eq 20, 0, 0, 0, 0, [13]),
  (8, 1, .aload_n 0, 0, 0, 0, 0, []),
  (9, 1, .iload_n 1, 0, 0, 0, 0, []),
  (10, 1, .aload_n 0, 0, 0, 0, 0, []),
  (11, 1, .iload_n 2, 0, 0, 0, 0, []),
  (12, 3, .invokevirtual 112, 29, 2, 0, 2222, []),
  (15, 3, .invokevirtual 125, 36, 3, 0, 2223, []),
  (18, 3, .ifCond .eq 7, 0, 0, 0, 0, [13]),
  (21, 1, .iconst 1, 0, 0, 1, 0, []),
  (22, 3, .goto 4, 0, 0, 0, 0, [14]),
  (25, 1, .iconst 0, 0, 0, 0, 0, []),
  (26, 1, .ireturn, 1, 0, 0, 0, [])]
def am_c35 : List am_E := [(0, 1, .iload_n 1, 0, 0, 0, 0, []),
  (1, 3, .ifCond .lt 15, 0, 0, 0, 0, [8]),
  (4, 1, .iload_n 1, 0, 0, 0, 0, []),
  (5, 1, .aload_n 0, 0, 0, 0, 0, []),
  (6, 3, .getfield 37, 4, 9, 0, 1166, []),
  (9, 3, .if_icmp .ge 7, 0, 0, 0, 0, [8]),
  (12, 1, .iconst 1, 0, 0, 1, 0, []),
  (13, 3, .goto 4, 0, 0, 0, 0, [9]),
  (16, 1, .iconst 0, 0, 0, 0, 0, []),
  (17, 1, .ireturn, 1, 0, 0, 0, [])]
def am_c36_0 : List am_E := [(0, 1, .aload_n 0, 0, 0, 0, 0, []),
  (1, 3, .getfield 27, 4, 6, 0, 1163, []),
  (4, 1, .iload_n 1, 0, 0, 0, 0, []),
  (5, 1, .baload, 0, 0, 0, 0, []),
  (6, 3, .ifCond .eq 11, 0, 0, 0, 0, [11]),
  (9, 1, .iload_n 2, 0, 0, 0, 0, []),
  (10, 1, .iconst 3, 0, 0, 3, 0, []),
  (11, 1, .irem, 0, 0, 0, 0, []),
  (12, 3, .ifCond .eq 5, 0, 0, 0, 0, [11]),
  (15, 1, .iconst 0, 0, 0, 0, 0, []),
  (16, 1, .ireturn, 1, 0, 0, 0, []),
  (17, 3, .sipush 505, 0, 0, 505, 0, []),
  (20, 1, .aload_n 0, 0, 0, 0, 0, []),
  (21, 3, .getfield 31, 4, 7, 0, 1164, []),
  (24, 1, .iload_n 1, 0, 0, 0, 0, []),
  (25, 1, .iaload, 0, 0, 0, 0, []),
  (26, 1, .imul, 0, 0, 0, 0, []),
  (27, 1, .iload_n 2, 0, 0, 0, 0, []),
  (28, 1, .iadd, 0, 0, 0, 0, []),
  (29, 1, .istore_n 3, 0, 0, 0, 0, []),
  (30, 1, .aload_n 0, 0, 0, 0, 0, []),
  (31, 3, .getfield 21, 4, 4, 0, 1161, []),
  (34, 1, .iload_n 1, 0, 0, 0, 0, []),
  (35, 1, .iaload, 0, 0, 0, 0, []),
  (36, 1, .aload_n 0, 0, 0, 0, 0, []),
  (37, 3, .getfield 11, 4, 1, 0, 1158, []),
  (40, 1, .iload_n 3, 0, 0, 0, 0, []),
  (41, 1, .iaload, 0, 0, 0, 0, []),
  (42, 1, .iadd, 0, 0, 0, 0, []),
  (43, 1, .aload_n 0, 0, 0, 0, 0, []),
  (44, 3, .getfield 11, 4, 1, 0, 1158, []),
  (47, 1, .iload_n 3, 0, 0, 0, 0, []),
  (48, 3, .sipush 505, 0, 0, 505, 0, []),
  (51, 1, .iadd, 0, 0, 0, 0, []),
  (52, 1, .iaload, 0, 0, 0, 0, []),
  (53, 1, .isub, 0, 0, 0, 0, []),
  (54, 2, .istore 4, 0, 0, 0, 0, []),
  (56, 1, .iload_n 2, 0, 0, 0, 0, []),
  (57, 1, .iconst 1, 0, 0, 1, 0, []),
  (58, 1, .iand, 0, 0, 0, 0, [])]
def am_c36_1 : List am_E := [(59, 3, .ifCond .eq 14, 0, 0, 0, 0, [48]),
  (62, 2, .iload 4, 0, 0, 0, 0, []),
  (64, 1, .aload_n 0, 0, 0, 0, 0, []),
  (65, 3, .getfield 24, 4, 5, 0, 1162, []),
  (68, 1, .iload_n 1, 0, 0, 0, 0, []),
  (69, 1, .iaload, 0, 0, 0, 0, []),
  (70, 1, .iadd, 0, 0, 0, 0, []),
  (71, 2, .istore 4, 0, 0, 0, 0, []),
  (73, 2, .iload 4, 0, 0, 0, 0, []),
  (75, 3, .ifCond .ge 18, 0, 0, 0, 0, [57]),
  (78, 2, .iload 4, 0, 0, 0, 0, []),
  (80, 1, .aload_n 0, 0, 0, 0, 0, []),
  (81, 3, .getfield 50, 4, 0, 0, 1157, []),
  (84, 3, .getfield 99, 2, 0, 0, 1034, []),
  (87, 1, .iadd, 0, 0, 0, 0, []),
  (88, 2, .istore 4, 0, 0, 0, 0, []),
  (90, 3, .goto 27, 0, 0, 0, 0, [68]),
  (93, 2, .iload 4, 0, 0, 0, 0, []),
  (95, 1, .aload_n 0, 0, 0, 0, 0, []),
  (96, 3, .getfield 50, 4, 0, 0, 1157, []),
  (99, 3, .getfield 99, 2, 0, 0, 1034, []),
  (102, 3, .if_icmp .lt 15, 0, 0, 0, 0, [68]),
  (105, 2, .iload 4, 0, 0, 0, 0, []),
  (107, 1, .aload_n 0, 0, 0, 0, 0, []),
  (108, 3, .getfield 50, 4, 0, 0, 1157, []),
  (111, 3, .getfield 99, 2, 0, 0, 1034, []),
  (114, 1, .isub, 0, 0, 0, 0, []),
  (115, 2, .istore 4, 0, 0, 0, 0, []),
  (117, 2, .iload 4, 0, 0, 0, 0, []),
  (119, 1, .iconst 2, 0, 0, 2, 0, []),
  (120, 1, .aload_n 0, 0, 0, 0, 0, []),
  (121, 3, .getfield 18, 4, 3, 0, 1160, []),
  (124, 1, .iload_n 1, 0, 0, 0, 0, []),
  (125, 1, .iaload, 0, 0, 0, 0, []),
  (126, 1, .imul, 0, 0, 0, 0, []),
  (127, 3, .if_icmp .gt 7, 0, 0, 0, 0, [78]),
  (130, 1, .iconst 1, 0, 0, 1, 0, []),
  (131, 3, .goto 4, 0, 0, 0, 0, [79]),
  (134, 1, .iconst 0, 0, 0, 0, 0, []),
  (135, 1, .ireturn, 1, 0, 0, 0, [])]
def am_c36 : List am_E := am_c36_0 ++ am_c36_1
def am_c37_0 : List am_E := [(0, 1, .aload_n 0, 0, 0, 0, 0, []),
  (1, 1, .iload_n 1, 0, 0, 0, 0, []),
  (2, 3, .invokevirtual 122, 35, 2, 0, 2218, []),
  (5, 3, .ifCond .ne 6, 0, 0, 0, 0, [6]),
  (8, 2, .ldc 129, 0, 0, 1000000, 2235, []),
  (10, 1, .ireturn, 0, 0, 0, 0, []),
  (11, 1, .aload_n 0, 0, 0, 0, 0, []),
  (12, 1, .iload_n 2, 0, 0, 0, 0, []),
  (13, 3, .invokevirtual 112, 29, 2, 0, 2222, []),
  (16, 1, .istore_n 3, 0, 0, 0, 0, []),
  (17, 1, .aload_n 0, 0, 0, 0, 0, []),
  (18, 1, .iload_n 3, 0, 0, 0, 0, []),
  (19, 3, .invokevirtual 130, 30, 2, 0, 2236, []),
  (22, 2, .istore 4, 0, 0, 0, 0, []),
  (24, 2, .ldc 129, 0, 0, 1000000, 2235, []),
  (26, 2, .istore 5, 0, 0, 0, 0, []),
  (28, 1, .iconst 0, 0, 0, 0, 0, []),
  (29, 2, .istore 6, 0, 0, 0, 0, []),
  (31, 1, .iload_n 3, 0, 0, 0, 0, []),
  (32, 2, .istore 7, 0, 0, 0, 0, []),
  (34, 2, .iload 6, 0, 0, 0, 0, []),
  (36, 2, .iload 4, 0, 0, 0, 0, []),
  (38, 3, .if_icmp .ge 87, 0, 0, 0, 0, [66]),
  (41, 1, .aload_n 0, 0, 0, 0, 0, []),
  (42, 3, .getfield 34, 4, 8, 0, 1165, []),
  (45, 3, .sipush 505, 0, 0, 505, 0, []),
  (48, 1, .iload_n 1, 0, 0, 0, 0, []),
  (49, 1, .imul, 0, 0, 0, 0, []),
  (50, 2, .iload 7, 0, 0, 0, 0, []),
  (52, 1, .iadd, 0, 0, 0, 0, []),
  (53, 1, .iaload, 0, 0, 0, 0, []),
  (54, 2, .istore 8, 0, 0, 0, 0, []),
  (56, 2, .iload 8, 0, 0, 0, 0, []),
  (58, 2, .bipush 10, 0, 0, 10, 0, []),
  (60, 1, .ishr, 0, 0, 0, 0, []),
  (61, 1, .aload_n 0, 0, 0, 0, 0, []),
  (62, 3, .getfield 41, 4, 10, 0, 1167, []),
  (65, 3, .if_icmp .ne 14, 0, 0, 0, 0, [43]),
  (68, 2, .iload 8, 0, 0, 0, 0, []),
  (70, 3, .sipush 1023, 0, 0, 1023, 0, [])]
def am_c37_1 : List am_E := [(73, 1, .iand, 0, 0, 0, 0, []),
  (74, 2, .istore 5, 0, 0, 0, 0, []),
  (76, 3, .goto 49, 0, 0, 0, 0, [66]),
  (79, 1, .aload_n 0, 0, 0, 0, 0, []),
  (80, 1, .iload_n 1, 0, 0, 0, 0, []),
  (81, 2, .iload 7, 0, 0, 0, 0, []),
  (83, 3, .invokevirtual 125, 36, 3, 0, 2223, []),
  (86, 3, .ifCond .eq 9, 0, 0, 0, 0, [51]),
  (89, 1, .iconst 0, 0, 0, 0, 0, []),
  (90, 2, .istore 5, 0, 0, 0, 0, []),
  (92, 3, .goto 33, 0, 0, 0, 0, [66]),
  (95, 2, .iload 7, 0, 0, 0, 0, []),
  (97, 1, .iconst 1, 0, 0, 1, 0, []),
  (98, 1, .iadd, 0, 0, 0, 0, []),
  (99, 1, .aload_n 0, 0, 0, 0, 0, []),
  (100, 3, .getfield 47, 4, 12, 0, 1169, []),
  (103, 3, .if_icmp .ge 10, 0, 0, 0, 0, [61]),
  (106, 2, .iload 7, 0, 0, 0, 0, []),
  (108, 1, .iconst 1, 0, 0, 1, 0, []),
  (109, 1, .iadd, 0, 0, 0, 0, []),
  (110, 3, .goto 7, 0, 0, 0, 0, [63]),
  (113, 1, .aload_n 0, 0, 0, 0, 0, []),
  (114, 3, .getfield 44, 4, 11, 0, 1168, []),
  (117, 2, .istore 7, 0, 0, 0, 0, []),
  (119, 3, .iinc 6 1, 0, 0, 0, 0, []),
  (122, 3, .goto (-88), 0, 0, 0, 0, [20]),
  (125, 2, .iload 5, 0, 0, 0, 0, []),
  (127, 3, .sipush 1023, 0, 0, 1023, 0, []),
  (130, 3, .if_icmp .lt 7, 0, 0, 0, 0, [71]),
  (133, 2, .ldc 129, 0, 0, 1000000, 2235, []),
  (135, 2, .istore 5, 0, 0, 0, 0, []),
  (137, 1, .aload_n 0, 0, 0, 0, 0, []),
  (138, 1, .iload_n 1, 0, 0, 0, 0, []),
  (139, 1, .iload_n 3, 0, 0, 0, 0, []),
  (140, 2, .iload 6, 0, 0, 0, 0, []),
  (142, 2, .iload 5, 0, 0, 0, 0, []),
  (144, 3, .invokevirtual 133, 38, 5, 0, 3000, []),
  (147, 2, .iload 5, 0, 0, 0, 0, []),
  (149, 2, .ldc 129, 0, 0, 1000000, 2235, []),
  (151, 3, .if_icmp .ne 8, 0, 0, 0, 0, [82])]
def am_c37_2 : List am_E := [(154, 2, .ldc 129, 0, 0, 1000000, 2235, []),
  (156, 3, .goto 8, 0, 0, 0, 0, [85]),
  (159, 2, .iload 6, 0, 0, 0, 0, []),
  (161, 2, .iload 5, 0, 0, 0, 0, []),
  (163, 1, .iadd, 0, 0, 0, 0, []),
  (164, 1, .ireturn, 0, 0, 0, 0, [])]
def am_c37 : List am_E := am_c37_0 ++ am_c37_1 ++ am_c37_2
def am_c38_0 : List am_E := [(0, 1, .iload_n 2, 0, 0, 0, 0, []),
  (1, 2, .istore 5, 0, 0, 0, 0, []),
  (3, 1, .iconst 0, 0, 0, 0, 0, []),
  (4, 2, .istore 6, 0, 0, 0, 0, []),
  (6, 2, .iload 6, 0, 0, 0, 0, []),
  (8, 1, .iload_n 3, 0, 0, 0, 0, []),
  (9, 3, .if_icmp .ge 78, 0, 0, 0, 0, [47]),
  (12, 2, .iload 4, 0, 0, 0, 0, []),
  (14, 2, .ldc 129, 0, 0, 1000000, 2235, []),
  (16, 3, .if_icmp .ne 9, 0, 0, 0, 0, [12]),
  (19, 3, .sipush 1023, 0, 0, 1023, 0, []),
  (22, 3, .goto 10, 0, 0, 0, 0, [17]),
  (25, 1, .iload_n 3, 0, 0, 0, 0, []),
  (26, 2, .iload 6, 0, 0, 0, 0, []),
  (28, 1, .isub, 0, 0, 0, 0, []),
  (29, 2, .iload 4, 0, 0, 0, 0, []),
  (31, 1, .iadd, 0, 0, 0, 0, []),
  (32, 2, .istore 7, 0, 0, 0, 0, []),
  (34, 1, .aload_n 0, 0, 0, 0, 0, []),
  (35, 3, .getfield 34, 4, 8, 0, 1165, []),
  (38, 3, .sipush 505, 0, 0, 505, 0, []),
  (41, 1, .iload_n 1, 0, 0, 0, 0, []),
  (42, 1, .imul, 0, 0, 0, 0, []),
  (43, 2, .iload 5, 0, 0, 0, 0, []),
  (45, 1, .iadd, 0, 0, 0, 0, []),
  (46, 1, .aload_n 0, 0, 0, 0, 0, []),
  (47, 3, .getfield 41, 4, 10, 0, 1167, []),
  (50, 2, .bipush 10, 0, 0, 10, 0, []),
  (52, 1, .ishl, 0, 0, 0, 0, []),
  (53, 2, .iload 7, 0, 0, 0, 0, []),
  (55, 1, .ior, 0, 0, 0, 0, []),
  (56, 1, .iastore, 0, 0, 0, 0, []),
  (57, 2, .iload 5, 0, 0, 0, 0, []),
  (59, 1, .iconst 1, 0, 0, 1, 0, []),
  (60, 1, .iadd, 0, 0, 0, 0, []),
  (61, 1, .aload_n 0, 0, 0, 0, 0, []),
  (62, 3, .getfield 47, 4, 12, 0, 1169, []),
  (65, 3, .if_icmp .ge 10, 0, 0, 0, 0, [42]),
  (68, 2, .iload 5, 0, 0, 0, 0, []),
  (70, 1, .iconst 1, 0, 0, 1, 0, [])]
def am_c38_1 : List am_E := [(71, 1, .iadd, 0, 0, 0, 0, []),
  (72, 3, .goto 7, 0, 0, 0, 0, [44]),
  (75, 1, .aload_n 0, 0, 0, 0, 0, []),
  (76, 3, .getfield 44, 4, 11, 0, 1168, []),
  (79, 2, .istore 5, 0, 0, 0, 0, []),
  (81, 3, .iinc 6 1, 0, 0, 0, 0, []),
  (84, 3, .goto (-78), 0, 0, 0, 0, [4]),
  (87, 1, .return_, 0, 0, 0, 0, [])]
def am_c38 : List am_E := am_c38_0 ++ am_c38_1
def am_c39_0 : List am_E := [(0, 1, .aload_n 0, 0, 0, 0, 0, []),
  (1, 3, .getfield 9, 5, 2, 0, 1206, []),
  (4, 2, .ldc 36, 0, 0, 1000000, 3051, []),
  (6, 3, .invokestatic 37, 162, 2, 0, 3052, []),
  (9, 1, .aload_n 0, 0, 0, 0, 0, []),
  (10, 3, .getfield 9, 5, 2, 0, 1206, []),
  (13, 1, .iload_n 1, 0, 0, 0, 0, []),
  (14, 1, .iload_n 2, 0, 0, 0, 0, []),
  (15, 1, .iastore, 0, 0, 0, 0, []),
  (16, 1, .iconst 1, 0, 0, 1, 0, []),
  (17, 1, .aload_n 0, 0, 0, 0, 0, []),
  (18, 3, .getfield 28, 5, 0, 0, 1204, []),
  (21, 3, .getfield 43, 2, 1, 0, 1040, []),
  (24, 1, .ishl, 0, 0, 0, 0, []),
  (25, 1, .iconst 1, 0, 0, 1, 0, []),
  (26, 1, .isub, 0, 0, 0, 0, []),
  (27, 1, .istore_n 3, 0, 0, 0, 0, []),
  (28, 1, .iconst 0, 0, 0, 0, 0, []),
  (29, 2, .istore 4, 0, 0, 0, 0, []),
  (31, 2, .iload 4, 0, 0, 0, 0, []),
  (33, 1, .aload_n 0, 0, 0, 0, 0, []),
  (34, 3, .getfield 28, 5, 0, 0, 1204, []),
  (37, 3, .getfield 43, 2, 1, 0, 1040, []),
  (40, 3, .if_icmp .ge 93, 0, 0, 0, 0, [73]),
  (43, 1, .aload_n 0, 0, 0, 0, 0, []),
  (44, 1, .iload_n 3, 0, 0, 0, 0, []),
  (45, 3, .invokevirtual 48, 40, 2, 0, 3053, []),
  (48, 2, .istore 5, 0, 0, 0, 0, []),
  (50, 2, .iload 5, 0, 0, 0, 0, []),
  (52, 3, .ifCond .ge 4, 0, 0, 0, 0, [31]),
  (55, 1, .return_, 0, 0, 0, 0, []),
  (56, 1, .iload_n 3, 0, 0, 0, 0, []),
  (57, 1, .iconst 1, 0, 0, 1, 0, []),
  (58, 2, .iload 5, 0, 0, 0, 0, []),
  (60, 1, .ishl, 0, 0, 0, 0, []),
  (61, 1, .iconst (-1), 0, 0, -1, 0, []),
  (62, 1, .ixor, 0, 0, 0, 0, []),
  (63, 1, .iand, 0, 0, 0, 0, []),
  (64, 1, .istore_n 3, 0, 0, 0, 0, []),
  (65, 1, .iconst 0, 0, 0, 0, 0, [])]
def am_c39_1 : List am_E := [(66, 2, .istore 6, 0, 0, 0, 0, []),
  (68, 2, .iload 6, 0, 0, 0, 0, []),
  (70, 1, .aload_n 0, 0, 0, 0, 0, []),
  (71, 3, .getfield 28, 5, 0, 0, 1204, []),
  (74, 3, .getfield 43, 2, 1, 0, 1040, []),
  (77, 3, .if_icmp .ge 50, 0, 0, 0, 0, [71]),
  (80, 1, .iload_n 3, 0, 0, 0, 0, []),
  (81, 2, .iload 6, 0, 0, 0, 0, []),
  (83, 1, .ishr, 0, 0, 0, 0, []),
  (84, 1, .iconst 1, 0, 0, 1, 0, []),
  (85, 1, .iand, 0, 0, 0, 0, []),
  (86, 3, .ifCond .eq 35, 0, 0, 0, 0, [69]),
  (89, 1, .aload_n 0, 0, 0, 0, 0, []),
  (90, 3, .getfield 9, 5, 2, 0, 1206, []),
  (93, 2, .iload 6, 0, 0, 0, 0, []),
  (95, 1, .aload_n 0, 0, 0, 0, 0, []),
  (96, 3, .getfield 9, 5, 2, 0, 1206, []),
  (99, 2, .iload 6, 0, 0, 0, 0, []),
  (101, 1, .iaload, 0, 0, 0, 0, []),
  (102, 1, .aload_n 0, 0, 0, 0, 0, []),
  (103, 2, .iload 5, 0, 0, 0, 0, []),
  (105, 2, .iload 6, 0, 0, 0, 0, []),
  (107, 1, .aload_n 0, 0, 0, 0, 0, []),
  (108, 3, .getfield 9, 5, 2, 0, 1206, []),
  (111, 2, .iload 5, 0, 0, 0, 0, []),
  (113, 1, .iaload, 0, 0, 0, 0, []),
  (114, 3, .invokevirtual 52, 41, 4, 0, 3057, []),
  (117, 3, .invokestatic 56, 160, 2, 0, 3072, []),
  (120, 1, .iastore, 0, 0, 0, 0, []),
  (121, 3, .iinc 6 1, 0, 0, 0, 0, []),
  (124, 3, .goto (-56), 0, 0, 0, 0, [41]),
  (127, 3, .iinc 4 1, 0, 0, 0, 0, []),
  (130, 3, .goto (-99), 0, 0, 0, 0, [19]),
  (133, 1, .return_, 0, 0, 0, 0, [])]
def am_c39 : List am_E := am_c39_0 ++ am_c39_1
def am_c40 : List am_E := [(0, 1, .iconst (-1), 0, 0, -1, 0, []),
  (1, 1, .istore_n 2, 0, 0, 0, 0, []),
  (2, 2, .ldc 36, 0, 0, 1000000, 3051, []),
  (4, 1, .istore_n 3, 0, 0, 0, 0, []),
  (5, 1, .iconst 0, 0, 0, 0, 0, []),
  (6, 2, .istore 4, 0, 0, 0, 0, []),
  (8, 2, .iload 4, 0, 0, 0, 0, []),
  (10, 1, .aload_n 0, 0, 0, 0, 0, []),
  (11, 3, .getfield 28, 5, 0, 0, 1204, []),
  (14, 3, .getfield 43, 2, 1, 0, 1040, []),
  (17, 3, .if_icmp .ge 40, 0, 0, 0, 0, [32]),
  (20, 1, .iload_n 1, 0, 0, 0, 0, []),
  (21, 2, .iload 4, 0, 0, 0, 0, []),
  (23, 1, .ishr, 0, 0, 0, 0, []),
  (24, 1, .iconst 1, 0, 0, 1, 0, []),
  (25, 1, .iand, 0, 0, 0, 0, []),
  (26, 3, .ifCond .eq 25, 0, 0, 0, 0, [30]),
  (29, 1, .aload_n 0, 0, 0, 0, 0, []),
  (30, 3, .getfield 9, 5, 2, 0, 1206, []),
  (33, 2, .iload 4, 0, 0, 0, 0, []),
  (35, 1, .iaload, 0, 0, 0, 0, []),
  (36, 1, .iload_n 3, 0, 0, 0, 0, []),
  (37, 3, .if_icmp .ge 14, 0, 0, 0, 0, [30]),
  (40, 1, .aload_n 0, 0, 0, 0, 0, []),
  (41, 3, .getfield 9, 5, 2, 0, 1206, []),
  (44, 2, .iload 4, 0, 0, 0, 0, []),
  (46, 1, .iaload, 0, 0, 0, 0, []),
  (47, 1, .istore_n 3, 0, 0, 0, 0, []),
  (48, 2, .iload 4, 0, 0, 0, 0, []),
  (50, 1, .istore_n 2, 0, 0, 0, 0, []),
  (51, 3, .iinc 4 1, 0, 0, 0, 0, []),
  (54, 3, .goto (-46), 0, 0, 0, 0, [6]),
  (57, 1, .iload_n 2, 0, 0, 0, 0, []),
  (58, 1, .ireturn, 0, 0, 0, 0, [])]
def am_c41 : List am_E := [(0, 1, .aload_n 0, 0, 0, 0, 0, []),
  (1, 3, .getfield 28, 5, 0, 0, 1204, []),
  (4, 3, .getfield 62, 2, 2, 0, 1045, []),
  (7, 1, .iload_n 1, 0, 0, 0, 0, []),
  (8, 1, .iaload, 0, 0, 0, 0, []),
  (9, 1, .aload_n 0, 0, 0, 0, 0, []),
  (10, 3, .getfield 28, 5, 0, 0, 1204, []),
  (13, 3, .getfield 62, 2, 2, 0, 1045, []),
  (16, 1, .iload_n 2, 0, 0, 0, 0, []),
  (17, 1, .iaload, 0, 0, 0, 0, []),
  (18, 3, .if_icmp .ne 15, 0, 0, 0, 0, [19]),
  (21, 1, .iload_n 3, 0, 0, 0, 0, []),
  (22, 1, .aload_n 0, 0, 0, 0, 0, []),
  (23, 3, .getfield 28, 5, 0, 0, 1204, []),
  (26, 1, .iload_n 1, 0, 0, 0, 0, []),
  (27, 1, .iload_n 2, 0, 0, 0, 0, []),
  (28, 3, .invokevirtual 65, 17, 3, 0, 3061, []),
  (31, 1, .iadd, 0, 0, 0, 0, []),
  (32, 1, .ireturn, 0, 0, 0, 0, []),
  (33, 1, .aload_n 0, 0, 0, 0, 0, []),
  (34, 3, .getfield 32, 5, 1, 0, 1205, []),
  (37, 1, .aload_n 0, 0, 0, 0, 0, []),
  (38, 3, .getfield 32, 5, 1, 0, 1205, []),
  (41, 1, .iload_n 1, 0, 0, 0, 0, []),
  (42, 1, .iload_n 2, 0, 0, 0, 0, []),
  (43, 3, .invokevirtual 68, 33, 3, 0, 3070, []),
  (46, 1, .iload_n 3, 0, 0, 0, 0, []),
  (47, 3, .invokevirtual 73, 37, 3, 0, 3071, []),
  (50, 2, .istore 4, 0, 0, 0, 0, []),
  (52, 2, .iload 4, 0, 0, 0, 0, []),
  (54, 2, .ldc 36, 0, 0, 1000000, 3051, []),
  (56, 3, .if_icmp .ne 8, 0, 0, 0, 0, [34]),
  (59, 2, .ldc 36, 0, 0, 1000000, 3051, []),
  (61, 3, .goto 9, 0, 0, 0, 0, [39]),
  (64, 1, .iload_n 3, 0, 0, 0, 0, []),
  (65, 2, .iload 4, 0, 0, 0, 0, []),
  (67, 1, .iadd, 0, 0, 0, 0, []),
  (68, 1, .iconst 1, 0, 0, 1, 0, []),
  (69, 1, .iadd, 0, 0, 0, 0, []),
  (70, 1, .ireturn, 0, 0, 0, 0, [])]
def am_c42 : List am_E := [(0, 1, .aload_n 0, 0, 0, 0, 0, []),
  (1, 1, .iload_n 1, 0, 0, 0, 0, []),
  (2, 1, .iload_n 2, 0, 0, 0, 0, []),
  (3, 3, .invokevirtual 76, 43, 3, 0, 3084, []),
  (6, 2, .istore 4, 0, 0, 0, 0, []),
  (8, 1, .iload_n 3, 0, 0, 0, 0, []),
  (9, 3, .ifCond .lt 9, 0, 0, 0, 0, [10]),
  (12, 1, .iload_n 3, 0, 0, 0, 0, []),
  (13, 2, .iload 4, 0, 0, 0, 0, []),
  (15, 3, .if_icmp .le 5, 0, 0, 0, 0, [12]),
  (18, 1, .iconst (-1), 0, 0, -1, 0, []),
  (19, 1, .ireturn, 0, 0, 0, 0, []),
  (20, 1, .iload_n 2, 0, 0, 0, 0, []),
  (21, 2, .istore 5, 0, 0, 0, 0, []),
  (23, 2, .iload 4, 0, 0, 0, 0, []),
  (25, 2, .istore 6, 0, 0, 0, 0, []),
  (27, 2, .iload 6, 0, 0, 0, 0, []),
  (29, 1, .iload_n 3, 0, 0, 0, 0, []),
  (30, 3, .if_icmp .le 24, 0, 0, 0, 0, [29]),
  (33, 1, .aload_n 0, 0, 0, 0, 0, []),
  (34, 2, .iload 5, 0, 0, 0, 0, []),
  (36, 3, .invokevirtual 79, 44, 2, 0, 3088, []),
  (39, 2, .istore 5, 0, 0, 0, 0, []),
  (41, 2, .iload 5, 0, 0, 0, 0, []),
  (43, 3, .ifCond .ge 5, 0, 0, 0, 0, [27]),
  (46, 1, .iconst (-1), 0, 0, -1, 0, []),
  (47, 1, .ireturn, 0, 0, 0, 0, []),
  (48, 3, .iinc 6 (-1), 0, 0, 0, 0, []),
  (51, 3, .goto (-24), 0, 0, 0, 0, [16]),
  (54, 2, .iload 5, 0, 0, 0, 0, []),
  (56, 1, .ireturn, 0, 0, 0, 0, [])]
def am_c43 : List am_E := [(0, 1, .aload_n 0, 0, 0, 0, 0, []),
  (1, 3, .getfield 9, 5, 2, 0, 1206, []),
  (4, 1, .iload_n 2, 0, 0, 0, 0, []),
  (5, 1, .iaload, 0, 0, 0, 0, []),
  (6, 2, .ldc 36, 0, 0, 1000000, 3051, []),
  (8, 3, .if_icmp .lt 5, 0, 0, 0, 0, [8]),
  (11, 1, .iconst (-1), 0, 0, -1, 0, []),
  (12, 1, .ireturn, 0, 0, 0, 0, []),
  (13, 1, .iload_n 2, 0, 0, 0, 0, []),
  (14, 1, .istore_n 3, 0, 0, 0, 0, []),
  (15, 1, .iconst 0, 0, 0, 0, 0, []),
  (16, 2, .istore 4, 0, 0, 0, 0, []),
  (18, 2, .iload 4, 0, 0, 0, 0, []),
  (20, 2, .bipush 8, 0, 0, 8, 0, []),
  (22, 3, .if_icmp .ge 29, 0, 0, 0, 0, [30]),
  (25, 1, .iload_n 3, 0, 0, 0, 0, []),
  (26, 1, .iload_n 1, 0, 0, 0, 0, []),
  (27, 3, .if_icmp .ne 6, 0, 0, 0, 0, [20]),
  (30, 2, .iload 4, 0, 0, 0, 0, []),
  (32, 1, .ireturn, 0, 0, 0, 0, []),
  (33, 1, .aload_n 0, 0, 0, 0, 0, []),
  (34, 1, .iload_n 3, 0, 0, 0, 0, []),
  (35, 3, .invokevirtual 79, 44, 2, 0, 3088, []),
  (38, 1, .istore_n 3, 0, 0, 0, 0, []),
  (39, 1, .iload_n 3, 0, 0, 0, 0, []),
  (40, 3, .ifCond .ge 5, 0, 0, 0, 0, [28]),
  (43, 1, .iconst (-1), 0, 0, -1, 0, []),
  (44, 1, .ireturn, 0, 0, 0, 0, []),
  (45, 3, .iinc 4 1, 0, 0, 0, 0, []),
  (48, 3, .goto (-30), 0, 0, 0, 0, [12]),
  (51, 1, .iconst (-1), 0, 0, -1, 0, []),
  (52, 1, .ireturn, 0, 0, 0, 0, [])]
def am_c44 : List am_E := [(0, 1, .iconst 0, 0, 0, 0, 0, []),
  (1, 1, .istore_n 2, 0, 0, 0, 0, []),
  (2, 1, .iload_n 2, 0, 0, 0, 0, []),
  (3, 1, .aload_n 0, 0, 0, 0, 0, []),
  (4, 3, .getfield 28, 5, 0, 0, 1204, []),
  (7, 3, .getfield 43, 2, 1, 0, 1040, []),
  (10, 3, .if_icmp .ge 52, 0, 0, 0, 0, [36]),
  (13, 1, .iload_n 2, 0, 0, 0, 0, []),
  (14, 1, .iload_n 1, 0, 0, 0, 0, []),
  (15, 3, .if_icmp .eq 41, 0, 0, 0, 0, [34]),
  (18, 1, .aload_n 0, 0, 0, 0, 0, []),
  (19, 3, .getfield 9, 5, 2, 0, 1206, []),
  (22, 1, .iload_n 2, 0, 0, 0, 0, []),
  (23, 1, .iaload, 0, 0, 0, 0, []),
  (24, 1, .aload_n 0, 0, 0, 0, 0, []),
  (25, 3, .getfield 9, 5, 2, 0, 1206, []),
  (28, 1, .iload_n 1, 0, 0, 0, 0, []),
  (29, 1, .iaload, 0, 0, 0, 0, []),
  (30, 3, .if_icmp .ge 26, 0, 0, 0, 0, [34]),
  (33, 1, .aload_n 0, 0, 0, 0, 0, []),
  (34, 1, .iload_n 2, 0, 0, 0, 0, []),
  (35, 1, .iload_n 1, 0, 0, 0, 0, []),
  (36, 1, .aload_n 0, 0, 0, 0, 0, []),
  (37, 3, .getfield 9, 5, 2, 0, 1206, []),
  (40, 1, .iload_n 2, 0, 0, 0, 0, []),
  (41, 1, .iaload, 0, 0, 0, 0, []),
  (42, 3, .invokevirtual 52, 41, 4, 0, 3057, []),
  (45, 1, .aload_n 0, 0, 0, 0, 0, []),
  (46, 3, .getfield 9, 5, 2, 0, 1206, []),
  (49, 1, .iload_n 1, 0, 0, 0, 0, []),
  (50, 1, .iaload, 0, 0, 0, 0, []),
  (51, 3, .if_icmp .ne 5, 0, 0, 0, 0, [34]),
  (54, 1, .iload_n 2, 0, 0, 0, 0, []),
  (55, 1, .ireturn, 0, 0, 0, 0, []),
  (56, 3, .iinc 2 1, 0, 0, 0, 0, []),
  (59, 3, .goto (-57), 0, 0, 0, 0, [2]),
  (62, 1, .iconst (-1), 0, 0, -1, 0, []),
  (63, 1, .ireturn, 0, 0, 0, 0, [])]
def am_c45_0 : List am_E := [(0, 2, .bipush (-9), 0, 0, -9, 0, []),
  (2, 2, .istore 4, 0, 0, 0, 0, []),
  (4, 1, .iconst 0, 0, 0, 0, 0, []),
  (5, 2, .istore 5, 0, 0, 0, 0, []),
  (7, 1, .iload_n 3, 0, 0, 0, 0, []),
  (8, 2, .istore 6, 0, 0, 0, 0, []),
  (10, 1, .iconst 0, 0, 0, 0, 0, []),
  (11, 2, .istore 7, 0, 0, 0, 0, []),
  (13, 2, .iload 7, 0, 0, 0, 0, []),
  (15, 3, .sipush 300, 0, 0, 300, 0, []),
  (18, 3, .if_icmp .ge 61, 0, 0, 0, 0, [43]),
  (21, 2, .iload 5, 0, 0, 0, 0, []),
  (23, 2, .iload 6, 0, 0, 0, 0, []),
  (25, 3, .if_icmp .gt 54, 0, 0, 0, 0, [43]),
  (28, 2, .iload 5, 0, 0, 0, 0, []),
  (30, 2, .iload 6, 0, 0, 0, 0, []),
  (32, 1, .iadd, 0, 0, 0, 0, []),
  (33, 1, .iconst 2, 0, 0, 2, 0, []),
  (34, 1, .idiv, 0, 0, 0, 0, []),
  (35, 2, .istore 8, 0, 0, 0, 0, []),
  (37, 1, .aload_n 0, 0, 0, 0, 0, []),
  (38, 1, .iload_n 1, 0, 0, 0, 0, []),
  (39, 2, .iload 8, 0, 0, 0, 0, []),
  (41, 3, .invokevirtual 82, 39, 3, 0, 3100, []),
  (44, 1, .aload_n 0, 0, 0, 0, 0, []),
  (45, 3, .getfield 9, 5, 2, 0, 1206, []),
  (48, 1, .iload_n 2, 0, 0, 0, 0, []),
  (49, 1, .iaload, 0, 0, 0, 0, []),
  (50, 1, .iload_n 3, 0, 0, 0, 0, []),
  (51, 3, .if_icmp .gt 16, 0, 0, 0, 0, [37]),
  (54, 2, .iload 8, 0, 0, 0, 0, []),
  (56, 2, .istore 4, 0, 0, 0, 0, []),
  (58, 2, .iload 8, 0, 0, 0, 0, []),
  (60, 1, .iconst 1, 0, 0, 1, 0, []),
  (61, 1, .iadd, 0, 0, 0, 0, []),
  (62, 2, .istore 5, 0, 0, 0, 0, []),
  (64, 3, .goto 9, 0, 0, 0, 0, [41]),
  (67, 2, .iload 8, 0, 0, 0, 0, []),
  (69, 1, .iconst 1, 0, 0, 1, 0, []),
  (70, 1, .isub, 0, 0, 0, 0, [])]
def am_c45_1 : List am_E := [(71, 2, .istore 6, 0, 0, 0, 0, []),
  (73, 3, .iinc 7 1, 0, 0, 0, 0, []),
  (76, 3, .goto (-63), 0, 0, 0, 0, [8]),
  (79, 2, .iload 4, 0, 0, 0, 0, []),
  (81, 1, .ireturn, 0, 0, 0, 0, [])]
def am_c45 : List am_E := am_c45_0 ++ am_c45_1
def am_c46_0 : List am_E := [(0, 1, .iload_n 3, 0, 0, 0, 0, []),
  (1, 1, .iconst 1, 0, 0, 1, 0, []),
  (2, 1, .iload_n 1, 0, 0, 0, 0, []),
  (3, 1, .ishl, 0, 0, 0, 0, []),
  (4, 1, .iconst (-1), 0, 0, -1, 0, []),
  (5, 1, .ixor, 0, 0, 0, 0, []),
  (6, 1, .iand, 0, 0, 0, 0, []),
  (7, 2, .istore 4, 0, 0, 0, 0, []),
  (9, 1, .aload_n 0, 0, 0, 0, 0, []),
  (10, 3, .getfield 18, 5, 4, 0, 1209, []),
  (13, 2, .ldc 36, 0, 0, 1000000, 3051, []),
  (15, 3, .invokestatic 37, 162, 2, 0, 3052, []),
  (18, 1, .aload_n 0, 0, 0, 0, 0, []),
  (19, 3, .getfield 18, 5, 4, 0, 1209, []),
  (22, 1, .iload_n 1, 0, 0, 0, 0, []),
  (23, 1, .iload_n 2, 0, 0, 0, 0, []),
  (24, 1, .iastore, 0, 0, 0, 0, []),
  (25, 1, .iconst 0, 0, 0, 0, 0, []),
  (26, 2, .istore 5, 0, 0, 0, 0, []),
  (28, 2, .iload 5, 0, 0, 0, 0, []),
  (30, 2, .iload 4, 0, 0, 0, 0, []),
  (32, 3, .if_icmp .ge 27, 0, 0, 0, 0, [34]),
  (35, 2, .iload 5, 0, 0, 0, 0, []),
  (37, 2, .iload 4, 0, 0, 0, 0, []),
  (39, 1, .iconst (-1), 0, 0, -1, 0, []),
  (40, 1, .ixor, 0, 0, 0, 0, []),
  (41, 1, .iand, 0, 0, 0, 0, []),
  (42, 3, .ifCond .ne 11, 0, 0, 0, 0, [32]),
  (45, 1, .aload_n 0, 0, 0, 0, 0, []),
  (46, 2, .iload 5, 0, 0, 0, 0, []),
  (48, 2, .iload 4, 0, 0, 0, 0, []),
  (50, 3, .invokevirtual 86, 47, 3, 0, 3109, []),
  (53, 3, .iinc 5 1, 0, 0, 0, 0, []),
  (56, 3, .goto (-28), 0, 0, 0, 0, [19]),
  (59, 2, .ldc 36, 0, 0, 1000000, 3051, []),
  (61, 2, .istore 5, 0, 0, 0, 0, []),
  (63, 1, .iconst 0, 0, 0, 0, 0, []),
  (64, 2, .istore 6, 0, 0, 0, 0, []),
  (66, 2, .iload 6, 0, 0, 0, 0, []),
  (68, 1, .aload_n 0, 0, 0, 0, 0, [])]
def am_c46_1 : List am_E := [(69, 3, .getfield 28, 5, 0, 0, 1204, []),
  (72, 3, .getfield 43, 2, 1, 0, 1040, []),
  (75, 3, .if_icmp .ge 52, 0, 0, 0, 0, [68]),
  (78, 1, .aload_n 0, 0, 0, 0, 0, []),
  (79, 3, .getfield 18, 5, 4, 0, 1209, []),
  (82, 2, .bipush 8, 0, 0, 8, 0, []),
  (84, 2, .iload 4, 0, 0, 0, 0, []),
  (86, 1, .imul, 0, 0, 0, 0, []),
  (87, 2, .iload 6, 0, 0, 0, 0, []),
  (89, 1, .iadd, 0, 0, 0, 0, []),
  (90, 1, .iaload, 0, 0, 0, 0, []),
  (91, 2, .istore 7, 0, 0, 0, 0, []),
  (93, 2, .iload 7, 0, 0, 0, 0, []),
  (95, 2, .ldc 36, 0, 0, 1000000, 3051, []),
  (97, 3, .if_icmp .ge 24, 0, 0, 0, 0, [66]),
  (100, 1, .aload_n 0, 0, 0, 0, 0, []),
  (101, 2, .iload 6, 0, 0, 0, 0, []),
  (103, 2, .iload 7, 0, 0, 0, 0, []),
  (105, 3, .invokevirtual 82, 39, 3, 0, 3100, []),
  (108, 2, .iload 5, 0, 0, 0, 0, []),
  (110, 1, .aload_n 0, 0, 0, 0, 0, []),
  (111, 3, .getfield 9, 5, 2, 0, 1206, []),
  (114, 1, .iload_n 1, 0, 0, 0, 0, []),
  (115, 1, .iaload, 0, 0, 0, 0, []),
  (116, 3, .invokestatic 56, 160, 2, 0, 3072, []),
  (119, 2, .istore 5, 0, 0, 0, 0, []),
  (121, 3, .iinc 6 1, 0, 0, 0, 0, []),
  (124, 3, .goto (-58), 0, 0, 0, 0, [38]),
  (127, 2, .iload 5, 0, 0, 0, 0, []),
  (129, 1, .ireturn, 0, 0, 0, 0, [])]
def am_c46 : List am_E := am_c46_0 ++ am_c46_1
def am_c47_0 : List am_E := [(0, 1, .iconst 0, 0, 0, 0, 0, []),
  (1, 1, .istore_n 3, 0, 0, 0, 0, []),
  (2, 1, .iload_n 3, 0, 0, 0, 0, []),
  (3, 1, .aload_n 0, 0, 0, 0, 0, []),
  (4, 3, .getfield 28, 5, 0, 0, 1204, []),
  (7, 3, .getfield 43, 2, 1, 0, 1040, []),
  (10, 3, .if_icmp .ge 111, 0, 0, 0, 0, [68]),
  (13, 1, .aload_n 0, 0, 0, 0, 0, []),
  (14, 3, .getfield 18, 5, 4, 0, 1209, []),
  (17, 2, .bipush 8, 0, 0, 8, 0, []),
  (19, 1, .iload_n 1, 0, 0, 0, 0, []),
  (20, 1, .imul, 0, 0, 0, 0, []),
  (21, 1, .iload_n 3, 0, 0, 0, 0, []),
  (22, 1, .iadd, 0, 0, 0, 0, []),
  (23, 1, .iaload, 0, 0, 0, 0, []),
  (24, 2, .istore 4, 0, 0, 0, 0, []),
  (26, 2, .iload 4, 0, 0, 0, 0, []),
  (28, 2, .ldc 36, 0, 0, 1000000, 3051, []),
  (30, 3, .if_icmp .lt 6, 0, 0, 0, 0, [20]),
  (33, 3, .goto 82, 0, 0, 0, 0, [66]),
  (36, 1, .aload_n 0, 0, 0, 0, 0, []),
  (37, 1, .iload_n 3, 0, 0, 0, 0, []),
  (38, 2, .iload 4, 0, 0, 0, 0, []),
  (40, 3, .invokevirtual 82, 39, 3, 0, 3100, []),
  (43, 1, .iconst 0, 0, 0, 0, 0, []),
  (44, 2, .istore 5, 0, 0, 0, 0, []),
  (46, 2, .iload 5, 0, 0, 0, 0, []),
  (48, 1, .aload_n 0, 0, 0, 0, 0, []),
  (49, 3, .getfield 28, 5, 0, 0, 1204, []),
  (52, 3, .getfield 43, 2, 1, 0, 1040, []),
  (55, 3, .if_icmp .ge 60, 0, 0, 0, 0, [66]),
  (58, 1, .iload_n 2, 0, 0, 0, 0, []),
  (59, 1, .iload_n 1, 0, 0, 0, 0, []),
  (60, 1, .iconst (-1), 0, 0, -1, 0, []),
  (61, 1, .ixor, 0, 0, 0, 0, []),
  (62, 1, .iand, 0, 0, 0, 0, []),
  (63, 2, .iload 5, 0, 0, 0, 0, []),
  (65, 1, .ishr, 0, 0, 0, 0, []),
  (66, 1, .iconst 1, 0, 0, 1, 0, []),
  (67, 1, .iand, 0, 0, 0, 0, [])]
def am_c47_1 : List am_E := [(68, 3, .ifCond .eq 41, 0, 0, 0, 0, [64]),
  (71, 2, .bipush 8, 0, 0, 8, 0, []),
  (73, 1, .iload_n 1, 0, 0, 0, 0, []),
  (74, 1, .iconst 1, 0, 0, 1, 0, []),
  (75, 2, .iload 5, 0, 0, 0, 0, []),
  (77, 1, .ishl, 0, 0, 0, 0, []),
  (78, 1, .ior, 0, 0, 0, 0, []),
  (79, 1, .imul, 0, 0, 0, 0, []),
  (80, 2, .iload 5, 0, 0, 0, 0, []),
  (82, 1, .iadd, 0, 0, 0, 0, []),
  (83, 2, .istore 6, 0, 0, 0, 0, []),
  (85, 1, .aload_n 0, 0, 0, 0, 0, []),
  (86, 3, .getfield 18, 5, 4, 0, 1209, []),
  (89, 2, .iload 6, 0, 0, 0, 0, []),
  (91, 1, .aload_n 0, 0, 0, 0, 0, []),
  (92, 3, .getfield 18, 5, 4, 0, 1209, []),
  (95, 2, .iload 6, 0, 0, 0, 0, []),
  (97, 1, .iaload, 0, 0, 0, 0, []),
  (98, 1, .aload_n 0, 0, 0, 0, 0, []),
  (99, 3, .getfield 9, 5, 2, 0, 1206, []),
  (102, 2, .iload 5, 0, 0, 0, 0, []),
  (104, 1, .iaload, 0, 0, 0, 0, []),
  (105, 3, .invokestatic 56, 160, 2, 0, 3072, []),
  (108, 1, .iastore, 0, 0, 0, 0, []),
  (109, 3, .iinc 5 1, 0, 0, 0, 0, []),
  (112, 3, .goto (-66), 0, 0, 0, 0, [26]),
  (115, 3, .iinc 3 1, 0, 0, 0, 0, []),
  (118, 3, .goto (-116), 0, 0, 0, 0, [2]),
  (121, 1, .return_, 0, 0, 0, 0, [])]
def am_c47 : List am_E := am_c47_0 ++ am_c47_1
def am_c48 : List am_E := [(0, 1, .iconst 0, 0, 0, 0, 0, []),
  (1, 1, .istore_n 3, 0, 0, 0, 0, []),
  (2, 1, .iconst 0, 0, 0, 0, 0, []),
  (3, 2, .istore 4, 0, 0, 0, 0, []),
  (5, 2, .iload 4, 0, 0, 0, 0, []),
  (7, 1, .aload_n 0, 0, 0, 0, 0, []),
  (8, 3, .getfield 28, 5, 0, 0, 1204, []),
  (11, 3, .getfield 89, 2, 0, 0, 1037, []),
  (14, 3, .if_icmp .ge 44, 0, 0, 0, 0, [32]),
  (17, 1, .aload_n 0, 0, 0, 0, 0, []),
  (18, 1, .iload_n 1, 0, 0, 0, 0, []),
  (19, 2, .iload 4, 0, 0, 0, 0, []),
  (21, 3, .invokevirtual 82, 39, 3, 0, 3100, []),
  (24, 1, .aload_n 0, 0, 0, 0, 0, []),
  (25, 3, .getfield 9, 5, 2, 0, 1206, []),
  (28, 1, .iload_n 2, 0, 0, 0, 0, []),
  (29, 1, .iaload, 0, 0, 0, 0, []),
  (30, 2, .ldc 36, 0, 0, 1000000, 3051, []),
  (32, 3, .if_icmp .lt 6, 0, 0, 0, 0, [21]),
  (35, 2, .ldc 36, 0, 0, 1000000, 3051, []),
  (37, 1, .ireturn, 0, 0, 0, 0, []),
  (38, 1, .iload_n 3, 0, 0, 0, 0, []),
  (39, 1, .aload_n 0, 0, 0, 0, 0, []),
  (40, 3, .getfield 9, 5, 2, 0, 1206, []),
  (43, 1, .iload_n 2, 0, 0, 0, 0, []),
  (44, 1, .iaload, 0, 0, 0, 0, []),
  (45, 2, .iload 4, 0, 0, 0, 0, []),
  (47, 1, .isub, 0, 0, 0, 0, []),
  (48, 3, .invokestatic 92, 159, 2, 0, 3149, []),
  (51, 1, .istore_n 3, 0, 0, 0, 0, []),
  (52, 3, .iinc 4 1, 0, 0, 0, 0, []),
  (55, 3, .goto (-50), 0, 0, 0, 0, [4]),
  (58, 1, .iload_n 3, 0, 0, 0, 0, []),
  (59, 1, .ireturn, 0, 0, 0, 0, [])]
def am_c49 : List am_E := [(0, 1, .iconst 0, 0, 0, 0, 0, []),
  (1, 1, .istore_n 2, 0, 0, 0, 0, []),
  (2, 1, .iload_n 2, 0, 0, 0, 0, []),
  (3, 1, .aload_n 0, 0, 0, 0, 0, []),
  (4, 3, .getfield 28, 5, 0, 0, 1204, []),
  (7, 3, .getfield 43, 2, 1, 0, 1040, []),
  (10, 3, .if_icmp .ge 51, 0, 0, 0, 0, [34]),
  (13, 1, .aload_n 0, 0, 0, 0, 0, []),
  (14, 1, .iload_n 2, 0, 0, 0, 0, []),
  (15, 1, .iload_n 1, 0, 0, 0, 0, []),
  (16, 3, .invokevirtual 82, 39, 3, 0, 3100, []),
  (19, 1, .iconst 0, 0, 0, 0, 0, []),
  (20, 1, .istore_n 3, 0, 0, 0, 0, []),
  (21, 1, .iload_n 3, 0, 0, 0, 0, []),
  (22, 1, .aload_n 0, 0, 0, 0, 0, []),
  (23, 3, .getfield 28, 5, 0, 0, 1204, []),
  (26, 3, .getfield 43, 2, 1, 0, 1040, []),
  (29, 3, .if_icmp .ge 26, 0, 0, 0, 0, [32]),
  (32, 1, .aload_n 0, 0, 0, 0, 0, []),
  (33, 3, .getfield 15, 5, 3, 0, 1208, []),
  (36, 2, .bipush 8, 0, 0, 8, 0, []),
  (38, 1, .iload_n 2, 0, 0, 0, 0, []),
  (39, 1, .imul, 0, 0, 0, 0, []),
  (40, 1, .iload_n 3, 0, 0, 0, 0, []),
  (41, 1, .iadd, 0, 0, 0, 0, []),
  (42, 1, .aload_n 0, 0, 0, 0, 0, []),
  (43, 3, .getfield 9, 5, 2, 0, 1206, []),
  (46, 1, .iload_n 3, 0, 0, 0, 0, []),
  (47, 1, .iaload, 0, 0, 0, 0, []),
  (48, 1, .iastore, 0, 0, 0, 0, []),
  (49, 3, .iinc 3 1, 0, 0, 0, 0, []),
  (52, 3, .goto (-31), 0, 0, 0, 0, [13]),
  (55, 3, .iinc 2 1, 0, 0, 0, 0, []),
  (58, 3, .goto (-56), 0, 0, 0, 0, [2]),
  (61, 1, .return_, 0, 0, 0, 0, [])]
def am_c50 : List am_E := [(0, 1, .iconst 0, 0, 0, 0, 0, []),
  (1, 1, .istore_n 2, 0, 0, 0, 0, []),
  (2, 1, .iconst 0, 0, 0, 0, 0, []),
  (3, 1, .istore_n 3, 0, 0, 0, 0, []),
  (4, 1, .iload_n 3, 0, 0, 0, 0, []),
  (5, 1, .aload_n 0, 0, 0, 0, 0, []),
  (6, 3, .getfield 28, 5, 0, 0, 1204, []),
  (9, 3, .getfield 43, 2, 1, 0, 1040, []),
  (12, 3, .if_icmp .ge 61, 0, 0, 0, 0, [38]),
  (15, 1, .aload_n 0, 0, 0, 0, 0, []),
  (16, 1, .iload_n 3, 0, 0, 0, 0, []),
  (17, 1, .iload_n 1, 0, 0, 0, 0, []),
  (18, 3, .invokevirtual 82, 39, 3, 0, 3100, []),
  (21, 1, .iconst 0, 0, 0, 0, 0, []),
  (22, 2, .istore 4, 0, 0, 0, 0, []),
  (24, 2, .iload 4, 0, 0, 0, 0, []),
  (26, 1, .aload_n 0, 0, 0, 0, 0, []),
  (27, 3, .getfield 28, 5, 0, 0, 1204, []),
  (30, 3, .getfield 43, 2, 1, 0, 1040, []),
  (33, 3, .if_icmp .ge 34, 0, 0, 0, 0, [36]),
  (36, 1, .aload_n 0, 0, 0, 0, 0, []),
  (37, 3, .getfield 9, 5, 2, 0, 1206, []),
  (40, 2, .iload 4, 0, 0, 0, 0, []),
  (42, 1, .iaload, 0, 0, 0, 0, []),
  (43, 1, .aload_n 0, 0, 0, 0, 0, []),
  (44, 3, .getfield 15, 5, 3, 0, 1208, []),
  (47, 2, .bipush 8, 0, 0, 8, 0, []),
  (49, 1, .iload_n 3, 0, 0, 0, 0, []),
  (50, 1, .imul, 0, 0, 0, 0, []),
  (51, 2, .iload 4, 0, 0, 0, 0, []),
  (53, 1, .iadd, 0, 0, 0, 0, []),
  (54, 1, .iaload, 0, 0, 0, 0, []),
  (55, 3, .if_icmp .le 6, 0, 0, 0, 0, [34]),
  (58, 3, .iinc 2 1, 0, 0, 0, 0, []),
  (61, 3, .iinc 4 1, 0, 0, 0, 0, []),
  (64, 3, .goto (-40), 0, 0, 0, 0, [15]),
  (67, 3, .iinc 3 1, 0, 0, 0, 0, []),
  (70, 3, .goto (-66), 0, 0, 0, 0, [4]),
  (73, 1, .iload_n 2, 0, 0, 0, 0, []),
  (74, 1, .ireturn, 0, 0, 0, 0, [])]
def am_c51 : List am_E := [(0, 2, .bipush (-9), 0, 0, -9, 0, []),
  (2, 1, .istore_n 1, 0, 0, 0, 0, []),
  (3, 2, .bipush 9, 0, 0, 9, 0, []),
  (5, 1, .istore_n 2, 0, 0, 0, 0, []),
  (6, 1, .iconst 1, 0, 0, 1, 0, []),
  (7, 1, .istore_n 3, 0, 0, 0, 0, []),
  (8, 1, .iload_n 3, 0, 0, 0, 0, []),
  (9, 1, .iconst 1, 0, 0, 1, 0, []),
  (10, 1, .aload_n 0, 0, 0, 0, 0, []),
  (11, 3, .getfield 28, 5, 0, 0, 1204, []),
  (14, 3, .getfield 43, 2, 1, 0, 1040, []),
  (17, 1, .ishl, 0, 0, 0, 0, []),
  (18, 3, .if_icmp .ge 32, 0, 0, 0, 0, [28]),
  (21, 1, .iload_n 3, 0, 0, 0, 0, []),
  (22, 3, .invokestatic 95, 156, 1, 0, 3171, []),
  (25, 1, .iload_n 2, 0, 0, 0, 0, []),
  (26, 3, .if_icmp .ge 18, 0, 0, 0, 0, [26]),
  (29, 1, .aload_n 0, 0, 0, 0, 0, []),
  (30, 1, .iload_n 3, 0, 0, 0, 0, []),
  (31, 3, .invokevirtual 100, 55, 2, 0, 3172, []),
  (34, 3, .ifCond .eq 10, 0, 0, 0, 0, [26]),
  (37, 1, .iload_n 3, 0, 0, 0, 0, []),
  (38, 1, .istore_n 1, 0, 0, 0, 0, []),
  (39, 1, .iload_n 3, 0, 0, 0, 0, []),
  (40, 3, .invokestatic 95, 156, 1, 0, 3171, []),
  (43, 1, .istore_n 2, 0, 0, 0, 0, []),
  (44, 3, .iinc 3 1, 0, 0, 0, 0, []),
  (47, 3, .goto (-39), 0, 0, 0, 0, [6]),
  (50, 1, .iload_n 1, 0, 0, 0, 0, []),
  (51, 1, .ireturn, 0, 0, 0, 0, [])]
def am_c52 : List am_E := [(0, 1, .aload_n 0, 0, 0, 0, 0, []),
  (1, 1, .iconst 0, 0, 0, 0, 0, []),
  (2, 3, .putfield 24, 5, 6, 0, 1211, []),
  (5, 1, .iconst 0, 0, 0, 0, 0, []),
  (6, 1, .istore_n 2, 0, 0, 0, 0, []),
  (7, 1, .iload_n 2, 0, 0, 0, 0, []),
  (8, 1, .aload_n 0, 0, 0, 0, 0, []),
  (9, 3, .getfield 28, 5, 0, 0, 1204, []),
  (12, 3, .getfield 89, 2, 0, 0, 1037, []),
  (15, 3, .if_icmp .ge 45, 0, 0, 0, 0, [32]),
  (18, 1, .aload_n 0, 0, 0, 0, 0, []),
  (19, 1, .iload_n 2, 0, 0, 0, 0, []),
  (20, 3, .invokevirtual 104, 49, 2, 0, 3158, []),
  (23, 1, .iconst 0, 0, 0, 0, 0, []),
  (24, 1, .istore_n 3, 0, 0, 0, 0, []),
  (25, 1, .iload_n 3, 0, 0, 0, 0, []),
  (26, 1, .aload_n 0, 0, 0, 0, 0, []),
  (27, 3, .getfield 28, 5, 0, 0, 1204, []),
  (30, 3, .getfield 43, 2, 1, 0, 1040, []),
  (33, 3, .if_icmp .ge 21, 0, 0, 0, 0, [30]),
  (36, 1, .aload_n 0, 0, 0, 0, 0, []),
  (37, 1, .aload_n 0, 0, 0, 0, 0, []),
  (38, 1, .iload_n 3, 0, 0, 0, 0, []),
  (39, 1, .iload_n 2, 0, 0, 0, 0, []),
  (40, 1, .iload_n 1, 0, 0, 0, 0, []),
  (41, 1, .iadd, 0, 0, 0, 0, []),
  (42, 3, .invokevirtual 108, 53, 3, 0, 3159, []),
  (45, 3, .invokevirtual 111, 54, 2, 0, 3163, []),
  (48, 3, .iinc 3 1, 0, 0, 0, 0, []),
  (51, 3, .goto (-26), 0, 0, 0, 0, [15]),
  (54, 3, .iinc 2 1, 0, 0, 0, 0, []),
  (57, 3, .goto (-50), 0, 0, 0, 0, [5]),
  (60, 1, .return_, 0, 0, 0, 0, [])]
def am_c53 : List am_E := [(0, 1, .iconst 0, 0, 0, 0, 0, []),
  (1, 1, .istore_n 3, 0, 0, 0, 0, []),
  (2, 1, .iconst 0, 0, 0, 0, 0, []),
  (3, 2, .istore 4, 0, 0, 0, 0, []),
  (5, 2, .iload 4, 0, 0, 0, 0, []),
  (7, 1, .aload_n 0, 0, 0, 0, 0, []),
  (8, 3, .getfield 28, 5, 0, 0, 1204, []),
  (11, 3, .getfield 43, 2, 1, 0, 1040, []),
  (14, 3, .if_icmp .ge 32, 0, 0, 0, 0, [27]),
  (17, 1, .aload_n 0, 0, 0, 0, 0, []),
  (18, 3, .getfield 15, 5, 3, 0, 1208, []),
  (21, 2, .bipush 8, 0, 0, 8, 0, []),
  (23, 2, .iload 4, 0, 0, 0, 0, []),
  (25, 1, .imul, 0, 0, 0, 0, []),
  (26, 1, .iload_n 1, 0, 0, 0, 0, []),
  (27, 1, .iadd, 0, 0, 0, 0, []),
  (28, 1, .iaload, 0, 0, 0, 0, []),
  (29, 1, .iload_n 2, 0, 0, 0, 0, []),
  (30, 3, .if_icmp .gt 10, 0, 0, 0, 0, [25]),
  (33, 1, .iload_n 3, 0, 0, 0, 0, []),
  (34, 1, .iconst 1, 0, 0, 1, 0, []),
  (35, 2, .iload 4, 0, 0, 0, 0, []),
  (37, 1, .ishl, 0, 0, 0, 0, []),
  (38, 1, .ior, 0, 0, 0, 0, []),
  (39, 1, .istore_n 3, 0, 0, 0, 0, []),
  (40, 3, .iinc 4 1, 0, 0, 0, 0, []),
  (43, 3, .goto (-38), 0, 0, 0, 0, [4]),
  (46, 1, .iload_n 3, 0, 0, 0, 0, []),
  (47, 1, .ireturn, 0, 0, 0, 0, [])]
def am_c54 : List am_E := [(0, 1, .iconst 0, 0, 0, 0, 0, []),
  (1, 1, .istore_n 2, 0, 0, 0, 0, []),
  (2, 1, .iload_n 2, 0, 0, 0, 0, []),
  (3, 1, .aload_n 0, 0, 0, 0, 0, []),
  (4, 3, .getfield 24, 5, 6, 0, 1211, []),
  (7, 3, .if_icmp .ge 20, 0, 0, 0, 0, [15]),
  (10, 1, .aload_n 0, 0, 0, 0, 0, []),
  (11, 3, .getfield 21, 5, 5, 0, 1210, []),
  (14, 1, .iload_n 2, 0, 0, 0, 0, []),
  (15, 1, .iaload, 0, 0, 0, 0, []),
  (16, 1, .iload_n 1, 0, 0, 0, 0, []),
  (17, 3, .if_icmp .ne 4, 0, 0, 0, 0, [13]),
  (20, 1, .return_, 0, 0, 0, 0, []),
  (21, 3, .iinc 2 1, 0, 0, 0, 0, []),
  (24, 3, .goto (-22), 0, 0, 0, 0, [2]),
  (27, 1, .aload_n 0, 0, 0, 0, 0, []),
  (28, 3, .getfield 24, 5, 6, 0, 1211, []),
  (31, 1, .aload_n 0, 0, 0, 0, 0, []),
  (32, 3, .getfield 21, 5, 5, 0, 1210, []),
  (35, 1, .arraylength, 0, 0, 0, 0, []),
  (36, 3, .if_icmp .ge 23, 0, 0, 0, 0, [33]),
  (39, 1, .aload_n 0, 0, 0, 0, 0, []),
  (40, 3, .getfield 21, 5, 5, 0, 1210, []),
  (43, 1, .aload_n 0, 0, 0, 0, 0, []),
  (44, 3, .getfield 24, 5, 6, 0, 1211, []),
  (47, 1, .iload_n 1, 0, 0, 0, 0, []),
  (48, 1, .iastore, 0, 0, 0, 0, []),
  (49, 1, .aload_n 0, 0, 0, 0, 0, []),
  (50, 1, .dup, 0, 0, 0, 0, []),
  (51, 3, .getfield 24, 5, 6, 0, 1211, []),
  (54, 1, .iconst 1, 0, 0, 1, 0, []),
  (55, 1, .iadd, 0, 0, 0, 0, []),
  (56, 3, .putfield 24, 5, 6, 0, 1211, []),
  (59, 1, .return_, 0, 0, 0, 0, [])]
def am_c55 : List am_E := [(0, 1, .iconst 0, 0, 0, 0, 0, []),
  (1, 1, .istore_n 2, 0, 0, 0, 0, []),
  (2, 1, .iload_n 2, 0, 0, 0, 0, []),
  (3, 1, .aload_n 0, 0, 0, 0, 0, []),
  (4, 3, .getfield 24, 5, 6, 0, 1211, []),
  (7, 3, .if_icmp .ge 22, 0, 0, 0, 0, [17]),
  (10, 1, .aload_n 0, 0, 0, 0, 0, []),
  (11, 3, .getfield 21, 5, 5, 0, 1210, []),
  (14, 1, .iload_n 2, 0, 0, 0, 0, []),
  (15, 1, .iaload, 0, 0, 0, 0, []),
  (16, 1, .iload_n 1, 0, 0, 0, 0, []),
  (17, 1, .iand, 0, 0, 0, 0, []),
  (18, 3, .ifCond .ne 5, 0, 0, 0, 0, [15]),
  (21, 1, .iconst 0, 0, 0, 0, 0, []),
  (22, 1, .ireturn, 1, 0, 0, 0, []),
  (23, 3, .iinc 2 1, 0, 0, 0, 0, []),
  (26, 3, .goto (-24), 0, 0, 0, 0, [2]),
  (29, 1, .iconst 1, 0, 0, 1, 0, []),
  (30, 1, .ireturn, 1, 0, 0, 0, [])]
def am_c56_0 : List am_E := [(0, 1, .iload_n 1, 0, 0, 0, 0, []),
  (1, 1, .iconst 1, 0, 0, 1, 0, []),
  (2, 3, .if_icmp .lt 9, 0, 0, 0, 0, [6]),
  (5, 1, .iload_n 1, 0, 0, 0, 0, []),
  (6, 2, .bipush 8, 0, 0, 8, 0, []),
  (8, 3, .if_icmp .le 6, 0, 0, 0, 0, [8]),
  (11, 2, .bipush (-2), 0, 0, -2, 0, []),
  (13, 1, .ireturn, 0, 0, 0, 0, []),
  (14, 1, .aload_n 0, 0, 0, 0, 0, []),
  (15, 3, .getfield 13, 6, 1, 0, 2014, []),
  (18, 1, .iload_n 1, 0, 0, 0, 0, []),
  (19, 1, .iadd, 0, 0, 0, 0, []),
  (20, 2, .bipush 60, 0, 0, 60, 0, []),
  (22, 3, .if_icmp .le 6, 0, 0, 0, 0, [16]),
  (25, 2, .bipush (-4), 0, 0, -4, 0, []),
  (27, 1, .ireturn, 0, 0, 0, 0, []),
  (28, 1, .iload_n 1, 0, 0, 0, 0, []),
  (29, 1, .iconst 1, 0, 0, 1, 0, []),
  (30, 1, .isub, 0, 0, 0, 0, []),
  (31, 2, .istore 4, 0, 0, 0, 0, []),
  (33, 2, .iload 4, 0, 0, 0, 0, []),
  (35, 3, .ifCond .lt 40, 0, 0, 0, 0, [43]),
  (38, 1, .aload_n 0, 0, 0, 0, 0, []),
  (39, 3, .getfield 9, 6, 0, 0, 2013, []),
  (42, 1, .aload_n 0, 0, 0, 0, 0, []),
  (43, 3, .getfield 13, 6, 1, 0, 2014, []),
  (46, 1, .lload_n 2, 0, 0, 0, 0, []),
  (47, 2, .bipush 8, 0, 0, 8, 0, []),
  (49, 2, .iload 4, 0, 0, 0, 0, []),
  (51, 1, .imul, 0, 0, 0, 0, []),
  (52, 1, .lushr, 0, 0, 0, 0, []),
  (53, 1, .l2i, 0, 0, 0, 0, []),
  (54, 3, .sipush 255, 0, 0, 255, 0, []),
  (57, 1, .iand, 0, 0, 0, 0, []),
  (58, 1, .iastore, 0, 0, 0, 0, []),
  (59, 1, .aload_n 0, 0, 0, 0, 0, []),
  (60, 1, .dup, 0, 0, 0, 0, []),
  (61, 3, .getfield 13, 6, 1, 0, 2014, []),
  (64, 1, .iconst 1, 0, 0, 1, 0, []),
  (65, 1, .iadd, 0, 0, 0, 0, [])]
def am_c56_1 : List am_E := [(66, 3, .putfield 13, 6, 1, 0, 2014, []),
  (69, 3, .iinc 4 (-1), 0, 0, 0, 0, []),
  (72, 3, .goto (-39), 0, 0, 0, 0, [20]),
  (75, 1, .aload_n 0, 0, 0, 0, 0, []),
  (76, 3, .getfield 13, 6, 1, 0, 2014, []),
  (79, 1, .ireturn, 0, 0, 0, 0, [])]
def am_c56 : List am_E := am_c56_0 ++ am_c56_1
def am_c57 : List am_E := [(0, 1, .aload_n 0, 0, 0, 0, 0, []),
  (1, 3, .getfield 13, 6, 1, 0, 2014, []),
  (4, 1, .istore_n 1, 0, 0, 0, 0, []),
  (5, 1, .aload_n 0, 0, 0, 0, 0, []),
  (6, 1, .iconst 0, 0, 0, 0, 0, []),
  (7, 3, .putfield 13, 6, 1, 0, 2014, []),
  (10, 1, .iload_n 1, 0, 0, 0, 0, []),
  (11, 1, .ireturn, 0, 0, 0, 0, [])]
def am_c58 : List am_E := [(0, 1, .aload_n 0, 0, 0, 0, 0, []),
  (1, 3, .getfield 20, 6, 2, 0, 2015, []),
  (4, 1, .aload_n 0, 0, 0, 0, 0, []),
  (5, 3, .getfield 9, 6, 0, 0, 2013, []),
  (8, 1, .aload_n 0, 0, 0, 0, 0, []),
  (9, 3, .getfield 13, 6, 1, 0, 2014, []),
  (12, 3, .invokevirtual 72, 18, 3, 0, 2059, []),
  (15, 1, .ireturn, 0, 0, 0, 0, [])]
def am_c59 : List am_E := [(0, 1, .aload_n 0, 0, 0, 0, 0, []),
  (1, 3, .getfield 20, 6, 2, 0, 2015, []),
  (4, 1, .aload_n 0, 0, 0, 0, 0, []),
  (5, 3, .getfield 9, 6, 0, 0, 2013, []),
  (8, 1, .aload_n 0, 0, 0, 0, 0, []),
  (9, 3, .getfield 13, 6, 1, 0, 2014, []),
  (12, 3, .invokevirtual 72, 18, 3, 0, 2059, []),
  (15, 2, .bipush (-9), 0, 0, -9, 0, []),
  (17, 3, .if_icmp .eq 6, 0, 0, 0, 0, [11]),
  (20, 2, .bipush (-3), 0, 0, -3, 0, []),
  (22, 1, .ireturn, 0, 0, 0, 0, []),
  (23, 1, .aload_n 0, 0, 0, 0, 0, []),
  (24, 3, .getfield 27, 6, 3, 0, 2016, []),
  (27, 1, .aload_n 0, 0, 0, 0, 0, []),
  (28, 3, .getfield 20, 6, 2, 0, 2015, []),
  (31, 3, .getfield 76, 3, 0, 0, 1082, []),
  (34, 3, .invokevirtual 79, 13, 2, 0, 2101, []),
  (37, 1, .aload_n 0, 0, 0, 0, 0, []),
  (38, 3, .getfield 34, 6, 4, 0, 2017, []),
  (41, 1, .aload_n 0, 0, 0, 0, 0, []),
  (42, 3, .getfield 27, 6, 3, 0, 2016, []),
  (45, 3, .getfield 82, 2, 6, 0, 1063, []),
  (48, 3, .invokevirtual 85, 5, 2, 0, 2108, []),
  (51, 1, .aload_n 0, 0, 0, 0, 0, []),
  (52, 3, .getfield 41, 6, 6, 0, 2019, []),
  (55, 1, .iconst 0, 0, 0, 0, 0, []),
  (56, 3, .putfield 89, 1, 7, 1, 1133, []),
  (59, 1, .aload_n 0, 0, 0, 0, 0, []),
  (60, 3, .getfield 44, 6, 7, 0, 2020, []),
  (63, 1, .iconst 0, 0, 0, 0, 0, []),
  (64, 3, .putfield 89, 1, 7, 1, 1133, []),
  (67, 1, .aload_n 0, 0, 0, 0, 0, []),
  (68, 3, .getfield 52, 6, 8, 0, 2021, []),
  (71, 3, .invokevirtual 93, 25, 1, 0, 2117, []),
  (74, 1, .aload_n 0, 0, 0, 0, 0, []),
  (75, 3, .getfield 27, 6, 3, 0, 2016, []),
  (78, 3, .getfield 96, 2, 1, 0, 1042, []),
  (81, 1, .ireturn, 0, 0, 0, 0, [])]
def am_c60 : List am_E := [(0, 1, .iload_n 1, 0, 0, 0, 0, []),
  (1, 31, .tableswitch 60 0 3 #[31, 39, 47, 55], 0, 0, 0, 0, [17, 2, 6, 10, 14]),
  (32, 1, .aload_n 0, 0, 0, 0, 0, []),
  (33, 3, .getfield 27, 6, 3, 0, 2016, []),
  (36, 3, .getfield 99, 2, 0, 0, 1036, []),
  (39, 1, .ireturn, 0, 0, 0, 0, []),
  (40, 1, .aload_n 0, 0, 0, 0, 0, []),
  (41, 3, .getfield 27, 6, 3, 0, 2016, []),
  (44, 3, .getfield 96, 2, 1, 0, 1042, []),
  (47, 1, .ireturn, 0, 0, 0, 0, []),
  (48, 1, .aload_n 0, 0, 0, 0, 0, []),
  (49, 3, .getfield 34, 6, 4, 0, 2017, []),
  (52, 3, .getfield 102, 1, 6, 0, 1131, []),
  (55, 1, .ireturn, 0, 0, 0, 0, []),
  (56, 1, .aload_n 0, 0, 0, 0, 0, []),
  (57, 3, .getfield 13, 6, 1, 0, 2014, []),
  (60, 1, .ireturn, 0, 0, 0, 0, []),
  (61, 2, .bipush (-2), 0, 0, -2, 0, []),
  (63, 1, .ireturn, 0, 0, 0, 0, [])]
def am_c61 : List am_E := [(0, 1, .aload_n 0, 0, 0, 0, 0, []),
  (1, 3, .getfield 27, 6, 3, 0, 2016, []),
  (4, 1, .iload_n 1, 0, 0, 0, 0, []),
  (5, 3, .invokevirtual 105, 14, 2, 0, 2141, []),
  (8, 3, .ifCond .ne 5, 0, 0, 0, 0, [7]),
  (11, 1, .iconst (-1), 0, 0, -1, 0, []),
  (12, 1, .ireturn, 0, 0, 0, 0, []),
  (13, 1, .iload_n 2, 0, 0, 0, 0, []),
  (14, 30, .tableswitch 70 0 3 #[30, 40, 50, 60], 0, 0, 0, 0, [33, 9, 15, 21, 27]),
  (44, 1, .aload_n 0, 0, 0, 0, 0, []),
  (45, 3, .getfield 27, 6, 3, 0, 2016, []),
  (48, 3, .getfield 109, 2, 2, 0, 1047, []),
  (51, 1, .iload_n 1, 0, 0, 0, 0, []),
  (52, 1, .iaload, 0, 0, 0, 0, []),
  (53, 1, .ireturn, 0, 0, 0, 0, []),
  (54, 1, .aload_n 0, 0, 0, 0, 0, []),
  (55, 3, .getfield 27, 6, 3, 0, 2016, []),
  (58, 3, .getfield 112, 2, 3, 0, 1051, []),
  (61, 1, .iload_n 1, 0, 0, 0, 0, []),
  (62, 1, .iaload, 0, 0, 0, 0, []),
  (63, 1, .ireturn, 0, 0, 0, 0, []),
  (64, 1, .aload_n 0, 0, 0, 0, 0, []),
  (65, 3, .getfield 27, 6, 3, 0, 2016, []),
  (68, 3, .getfield 115, 2, 4, 0, 1056, []),
  (71, 1, .iload_n 1, 0, 0, 0, 0, []),
  (72, 1, .iaload, 0, 0, 0, 0, []),
  (73, 1, .ireturn, 0, 0, 0, 0, []),
  (74, 1, .aload_n 0, 0, 0, 0, 0, []),
  (75, 3, .getfield 27, 6, 3, 0, 2016, []),
  (78, 3, .getfield 118, 2, 5, 0, 1060, []),
  (81, 1, .iload_n 1, 0, 0, 0, 0, []),
  (82, 1, .iaload, 0, 0, 0, 0, []),
  (83, 1, .ireturn, 0, 0, 0, 0, []),
  (84, 2, .bipush (-2), 0, 0, -2, 0, []),
  (86, 1, .ireturn, 0, 0, 0, 0, [])]
def am_c62 : List am_E := [(0, 1, .iload_n 1, 0, 0, 0, 0, []),
  (1, 3, .invokestatic 121, 86, 1, 0, 2149, []),
  (4, 3, .ifCond .eq 18, 0, 0, 0, 0, [11]),
  (7, 1, .aload_n 0, 0, 0, 0, 0, []),
  (8, 3, .getfield 34, 6, 4, 0, 2017, []),
  (11, 3, .getfield 124, 1, 0, 0, 1117, []),
  (14, 1, .iload_n 1, 0, 0, 0, 0, []),
  (15, 1, .iaload, 0, 0, 0, 0, []),
  (16, 2, .bipush 10, 0, 0, 10, 0, []),
  (18, 1, .iadd, 0, 0, 0, 0, []),
  (19, 3, .goto 4, 0, 0, 0, 0, [12]),
  (22, 1, .iconst (-1), 0, 0, -1, 0, []),
  (23, 1, .ireturn, 0, 0, 0, 0, [])]
def am_c63 : List am_E := [(0, 1, .iload_n 1, 0, 0, 0, 0, []),
  (1, 3, .invokestatic 121, 86, 1, 0, 2149, []),
  (4, 3, .ifCond .ne 5, 0, 0, 0, 0, [5]),
  (7, 1, .iconst (-1), 0, 0, -1, 0, []),
  (8, 1, .ireturn, 0, 0, 0, 0, []),
  (9, 1, .iload_n 2, 0, 0, 0, 0, []),
  (10, 2, .bipush (-9), 0, 0, -9, 0, []),
  (12, 3, .if_icmp .lt 9, 0, 0, 0, 0, [11]),
  (15, 1, .iload_n 2, 0, 0, 0, 0, []),
  (16, 2, .bipush 9, 0, 0, 9, 0, []),
  (18, 3, .if_icmp .le 6, 0, 0, 0, 0, [13]),
  (21, 2, .bipush (-2), 0, 0, -2, 0, []),
  (23, 1, .ireturn, 0, 0, 0, 0, []),
  (24, 1, .aload_n 0, 0, 0, 0, 0, []),
  (25, 3, .getfield 34, 6, 4, 0, 2017, []),
  (28, 3, .getfield 124, 1, 0, 0, 1117, []),
  (31, 1, .iload_n 1, 0, 0, 0, 0, []),
  (32, 1, .iaload, 0, 0, 0, 0, []),
  (33, 1, .istore_n 3, 0, 0, 0, 0, []),
  (34, 1, .aload_n 0, 0, 0, 0, 0, []),
  (35, 3, .getfield 34, 6, 4, 0, 2017, []),
  (38, 3, .getfield 124, 1, 0, 0, 1117, []),
  (41, 1, .iload_n 1, 0, 0, 0, 0, []),
  (42, 1, .iload_n 2, 0, 0, 0, 0, []),
  (43, 1, .iastore, 0, 0, 0, 0, []),
  (44, 1, .iload_n 3, 0, 0, 0, 0, []),
  (45, 2, .bipush 10, 0, 0, 10, 0, []),
  (47, 1, .iadd, 0, 0, 0, 0, []),
  (48, 1, .ireturn, 0, 0, 0, 0, [])]
def am_c64 : List am_E := [(0, 1, .iload_n 1, 0, 0, 0, 0, []),
  (1, 3, .invokestatic 121, 86, 1, 0, 2149, []),
  (4, 3, .ifCond .ne 5, 0, 0, 0, 0, [5]),
  (7, 1, .iconst (-1), 0, 0, -1, 0, []),
  (8, 1, .ireturn, 0, 0, 0, 0, []),
  (9, 1, .iload_n 2, 0, 0, 0, 0, []),
  (10, 3, .ifCond .lt 19, 0, 0, 0, 0, [15]),
  (13, 1, .iload_n 2, 0, 0, 0, 0, []),
  (14, 2, .bipush 99, 0, 0, 99, 0, []),
  (16, 3, .if_icmp .gt 13, 0, 0, 0, 0, [15]),
  (19, 1, .iload_n 3, 0, 0, 0, 0, []),
  (20, 3, .ifCond .lt 9, 0, 0, 0, 0, [15]),
  (23, 1, .iload_n 3, 0, 0, 0, 0, []),
  (24, 2, .bipush 99, 0, 0, 99, 0, []),
  (26, 3, .if_icmp .le 6, 0, 0, 0, 0, [17]),
  (29, 2, .bipush (-2), 0, 0, -2, 0, []),
  (31, 1, .ireturn, 0, 0, 0, 0, []),
  (32, 1, .aload_n 0, 0, 0, 0, 0, []),
  (33, 3, .getfield 34, 6, 4, 0, 2017, []),
  (36, 3, .getfield 127, 1, 2, 0, 1122, []),
  (39, 1, .iload_n 1, 0, 0, 0, 0, []),
  (40, 1, .iaload, 0, 0, 0, 0, []),
  (41, 2, .istore 4, 0, 0, 0, 0, []),
  (43, 1, .aload_n 0, 0, 0, 0, 0, []),
  (44, 3, .getfield 34, 6, 4, 0, 2017, []),
  (47, 1, .iload_n 1, 0, 0, 0, 0, []),
  (48, 1, .iload_n 2, 0, 0, 0, 0, []),
  (49, 1, .iload_n 3, 0, 0, 0, 0, []),
  (50, 3, .invokevirtual 130, 8, 4, 0, 2158, []),
  (53, 2, .iload 4, 0, 0, 0, 0, []),
  (55, 1, .ireturn, 0, 0, 0, 0, [])]
def am_c65 : List am_E := [(0, 1, .iload_n 1, 0, 0, 0, 0, []),
  (1, 3, .ifCond .lt 9, 0, 0, 0, 0, [5]),
  (4, 1, .iload_n 1, 0, 0, 0, 0, []),
  (5, 2, .bipush 9, 0, 0, 9, 0, []),
  (7, 3, .if_icmp .le 6, 0, 0, 0, 0, [7]),
  (10, 2, .bipush (-2), 0, 0, -2, 0, []),
  (12, 1, .ireturn, 0, 0, 0, 0, []),
  (13, 1, .iconst 0, 0, 0, 0, 0, []),
  (14, 1, .istore_n 2, 0, 0, 0, 0, []),
  (15, 1, .iconst 0, 0, 0, 0, 0, []),
  (16, 1, .istore_n 3, 0, 0, 0, 0, []),
  (17, 1, .iload_n 3, 0, 0, 0, 0, []),
  (18, 1, .iconst 3, 0, 0, 3, 0, []),
  (19, 3, .if_icmp .ge 33, 0, 0, 0, 0, [28]),
  (22, 1, .aload_n 0, 0, 0, 0, 0, []),
  (23, 3, .getfield 34, 6, 4, 0, 2017, []),
  (26, 1, .iload_n 3, 0, 0, 0, 0, []),
  (27, 1, .iload_n 1, 0, 0, 0, 0, []),
  (28, 3, .invokevirtual 134, 9, 3, 0, 2166, []),
  (31, 1, .aload_n 0, 0, 0, 0, 0, []),
  (32, 3, .getfield 34, 6, 4, 0, 2017, []),
  (35, 3, .getfield 124, 1, 0, 0, 1117, []),
  (38, 1, .iload_n 3, 0, 0, 0, 0, []),
  (39, 1, .iaload, 0, 0, 0, 0, []),
  (40, 3, .ifCond .ne 6, 0, 0, 0, 0, [26]),
  (43, 3, .iinc 2 1, 0, 0, 0, 0, []),
  (46, 3, .iinc 3 1, 0, 0, 0, 0, []),
  (49, 3, .goto (-32), 0, 0, 0, 0, [11]),
  (52, 1, .iload_n 2, 0, 0, 0, 0, []),
  (53, 1, .ireturn, 0, 0, 0, 0, [])]
def am_c66 : List am_E := [(0, 1, .aload_n 0, 0, 0, 0, 0, []),
  (1, 3, .getfield 27, 6, 3, 0, 2016, []),
  (4, 1, .iload_n 1, 0, 0, 0, 0, []),
  (5, 3, .invokevirtual 105, 14, 2, 0, 2141, []),
  (8, 3, .ifCond .eq 10, 0, 0, 0, 0, [8]),
  (11, 1, .iload_n 2, 0, 0, 0, 0, []),
  (12, 3, .invokestatic 138, 87, 1, 0, 2180, []),
  (15, 3, .ifCond .ne 5, 0, 0, 0, 0, [10]),
  (18, 1, .iconst (-1), 0, 0, -1, 0, []),
  (19, 1, .ireturn, 0, 0, 0, 0, []),
  (20, 1, .aload_n 0, 0, 0, 0, 0, []),
  (21, 3, .getfield 52, 6, 8, 0, 2021, []),
  (24, 1, .aload_n 0, 0, 0, 0, 0, []),
  (25, 3, .getfield 34, 6, 4, 0, 2017, []),
  (28, 3, .invokevirtual 141, 27, 2, 0, 2183, []),
  (31, 1, .aload_n 0, 0, 0, 0, 0, []),
  (32, 3, .getfield 52, 6, 8, 0, 2021, []),
  (35, 1, .iload_n 1, 0, 0, 0, 0, []),
  (36, 1, .aload_n 0, 0, 0, 0, 0, []),
  (37, 3, .getfield 52, 6, 8, 0, 2021, []),
  (40, 1, .iload_n 2, 0, 0, 0, 0, []),
  (41, 3, .invokevirtual 145, 29, 2, 0, 2193, []),
  (44, 3, .invokevirtual 149, 31, 3, 0, 2197, []),
  (47, 1, .ireturn, 0, 0, 0, 0, [])]
def am_c67 : List am_E := [(0, 1, .aload_n 0, 0, 0, 0, 0, []),
  (1, 1, .iload_n 1, 0, 0, 0, 0, []),
  (2, 1, .iload_n 2, 0, 0, 0, 0, []),
  (3, 3, .invokevirtual 153, 89, 3, 0, 2205, []),
  (6, 3, .ifCond .eq 10, 0, 0, 0, 0, [8]),
  (9, 1, .iload_n 3, 0, 0, 0, 0, []),
  (10, 3, .invokestatic 138, 87, 1, 0, 2180, []),
  (13, 3, .ifCond .ne 5, 0, 0, 0, 0, [10]),
  (16, 1, .iconst (-1), 0, 0, -1, 0, []),
  (17, 1, .ireturn, 0, 0, 0, 0, []),
  (18, 1, .aload_n 0, 0, 0, 0, 0, []),
  (19, 3, .getfield 52, 6, 8, 0, 2021, []),
  (22, 1, .aload_n 0, 0, 0, 0, 0, []),
  (23, 3, .getfield 34, 6, 4, 0, 2017, []),
  (26, 3, .invokevirtual 141, 27, 2, 0, 2183, []),
  (29, 1, .aload_n 0, 0, 0, 0, 0, []),
  (30, 3, .getfield 52, 6, 8, 0, 2021, []),
  (33, 1, .aload_n 0, 0, 0, 0, 0, []),
  (34, 3, .getfield 52, 6, 8, 0, 2021, []),
  (37, 1, .iload_n 1, 0, 0, 0, 0, []),
  (38, 1, .iload_n 2, 0, 0, 0, 0, []),
  (39, 3, .invokevirtual 157, 33, 3, 0, 2209, []),
  (42, 1, .iload_n 3, 0, 0, 0, 0, []),
  (43, 3, .invokevirtual 160, 34, 3, 0, 2214, []),
  (46, 3, .ifCond .eq 7, 0, 0, 0, 0, [27]),
  (49, 1, .iconst 1, 0, 0, 1, 0, []),
  (50, 3, .goto 4, 0, 0, 0, 0, [28]),
  (53, 1, .iconst 0, 0, 0, 0, 0, []),
  (54, 1, .ireturn, 0, 0, 0, 0, [])]
def am_c68 : List am_E := [(0, 1, .aload_n 0, 0, 0, 0, 0, []),
  (1, 1, .iload_n 1, 0, 0, 0, 0, []),
  (2, 1, .iload_n 2, 0, 0, 0, 0, []),
  (3, 3, .invokevirtual 153, 89, 3, 0, 2205, []),
  (6, 3, .ifCond .eq 10, 0, 0, 0, 0, [8]),
  (9, 1, .iload_n 3, 0, 0, 0, 0, []),
  (10, 3, .invokestatic 138, 87, 1, 0, 2180, []),
  (13, 3, .ifCond .ne 5, 0, 0, 0, 0, [10]),
  (16, 1, .iconst (-1), 0, 0, -1, 0, []),
  (17, 1, .ireturn, 0, 0, 0, 0, []),
  (18, 1, .aload_n 0, 0, 0, 0, 0, []),
  (19, 3, .getfield 52, 6, 8, 0, 2021, []),
  (22, 1, .aload_n 0, 0, 0, 0, 0, []),
  (23, 3, .getfield 34, 6, 4, 0, 2017, []),
  (26, 3, .invokevirtual 141, 27, 2, 0, 2183, []),
  (29, 1, .aload_n 0, 0, 0, 0, 0, []),
  (30, 3, .getfield 52, 6, 8, 0, 2021, []),
  (33, 1, .aload_n 0, 0, 0, 0, 0, []),
  (34, 3, .getfield 52, 6, 8, 0, 2021, []),
  (37, 1, .iload_n 1, 0, 0, 0, 0, []),
  (38, 1, .iload_n 2, 0, 0, 0, 0, []),
  (39, 3, .invokevirtual 157, 33, 3, 0, 2209, []),
  (42, 1, .iload_n 3, 0, 0, 0, 0, []),
  (43, 3, .invokevirtual 163, 37, 3, 0, 2231, []),
  (46, 2, .istore 4, 0, 0, 0, 0, []),
  (48, 2, .iload 4, 0, 0, 0, 0, []),
  (50, 2, .ldc 166, 0, 0, 1000000, 3004, []),
  (52, 3, .if_icmp .ne 8, 0, 0, 0, 0, [30]),
  (55, 2, .bipush (-9), 0, 0, -9, 0, []),
  (57, 3, .goto 7, 0, 0, 0, 0, [33]),
  (60, 1, .iload_n 3, 0, 0, 0, 0, []),
  (61, 2, .iload 4, 0, 0, 0, 0, []),
  (63, 1, .iadd, 0, 0, 0, 0, []),
  (64, 1, .ireturn, 0, 0, 0, 0, [])]
def am_c69_0 : List am_E := [(0, 1, .aload_n 0, 0, 0, 0, 0, []),
  (1, 1, .iload_n 1, 0, 0, 0, 0, []),
  (2, 1, .iload_n 2, 0, 0, 0, 0, []),
  (3, 3, .invokevirtual 153, 89, 3, 0, 2205, []),
  (6, 3, .ifCond .eq 10, 0, 0, 0, 0, [8]),
  (9, 1, .iload_n 3, 0, 0, 0, 0, []),
  (10, 3, .invokestatic 138, 87, 1, 0, 2180, []),
  (13, 3, .ifCond .ne 5, 0, 0, 0, 0, [10]),
  (16, 1, .iconst (-1), 0, 0, -1, 0, []),
  (17, 1, .ireturn, 0, 0, 0, 0, []),
  (18, 1, .aload_n 0, 0, 0, 0, 0, []),
  (19, 3, .getfield 52, 6, 8, 0, 2021, []),
  (22, 1, .aload_n 0, 0, 0, 0, 0, []),
  (23, 3, .getfield 34, 6, 4, 0, 2017, []),
  (26, 3, .invokevirtual 141, 27, 2, 0, 2183, []),
  (29, 1, .aload_n 0, 0, 0, 0, 0, []),
  (30, 3, .getfield 52, 6, 8, 0, 2021, []),
  (33, 1, .iload_n 1, 0, 0, 0, 0, []),
  (34, 1, .iload_n 2, 0, 0, 0, 0, []),
  (35, 3, .invokevirtual 157, 33, 3, 0, 2209, []),
  (38, 2, .istore 4, 0, 0, 0, 0, []),
  (40, 1, .aload_n 0, 0, 0, 0, 0, []),
  (41, 3, .getfield 52, 6, 8, 0, 2021, []),
  (44, 1, .iload_n 3, 0, 0, 0, 0, []),
  (45, 3, .invokevirtual 167, 30, 2, 0, 3009, []),
  (48, 2, .istore 5, 0, 0, 0, 0, []),
  (50, 1, .iconst 0, 0, 0, 0, 0, []),
  (51, 2, .istore 6, 0, 0, 0, 0, []),
  (53, 2, .iload 6, 0, 0, 0, 0, []),
  (55, 2, .iload 5, 0, 0, 0, 0, []),
  (57, 3, .if_icmp .ge 28, 0, 0, 0, 0, [43]),
  (60, 1, .aload_n 0, 0, 0, 0, 0, []),
  (61, 3, .getfield 52, 6, 8, 0, 2021, []),
  (64, 2, .iload 4, 0, 0, 0, 0, []),
  (66, 1, .iload_n 3, 0, 0, 0, 0, []),
  (67, 2, .iload 6, 0, 0, 0, 0, []),
  (69, 1, .iadd, 0, 0, 0, 0, []),
  (70, 3, .invokevirtual 160, 34, 3, 0, 2214, []),
  (73, 3, .ifCond .ne 6, 0, 0, 0, 0, [41]),
  (76, 2, .iload 6, 0, 0, 0, 0, [])]
def am_c69_1 : List am_E := [(78, 1, .ireturn, 0, 0, 0, 0, []),
  (79, 3, .iinc 6 1, 0, 0, 0, 0, []),
  (82, 3, .goto (-29), 0, 0, 0, 0, [28]),
  (85, 3, .sipush 999, 0, 0, 999, 0, []),
  (88, 1, .ireturn, 0, 0, 0, 0, [])]
def am_c69 : List am_E := am_c69_0 ++ am_c69_1
def am_c70_0 : List am_E := [(0, 1, .aload_n 0, 0, 0, 0, 0, []),
  (1, 1, .iload_n 1, 0, 0, 0, 0, []),
  (2, 1, .iload_n 2, 0, 0, 0, 0, []),
  (3, 3, .invokevirtual 153, 89, 3, 0, 2205, []),
  (6, 3, .ifCond .ne 5, 0, 0, 0, 0, [7]),
  (9, 1, .iconst (-1), 0, 0, -1, 0, []),
  (10, 1, .ireturn, 0, 0, 0, 0, []),
  (11, 1, .aload_n 0, 0, 0, 0, 0, []),
  (12, 3, .getfield 38, 6, 5, 0, 2018, []),
  (15, 1, .aload_n 0, 0, 0, 0, 0, []),
  (16, 3, .getfield 34, 6, 4, 0, 2017, []),
  (19, 3, .invokevirtual 170, 6, 2, 0, 3014, []),
  (22, 1, .aload_n 0, 0, 0, 0, 0, []),
  (23, 3, .getfield 38, 6, 5, 0, 2018, []),
  (26, 3, .invokevirtual 172, 7, 1, 0, 3019, []),
  (29, 1, .aload_n 0, 0, 0, 0, 0, []),
  (30, 3, .getfield 52, 6, 8, 0, 2021, []),
  (33, 1, .aload_n 0, 0, 0, 0, 0, []),
  (34, 3, .getfield 38, 6, 5, 0, 2018, []),
  (37, 3, .invokevirtual 141, 27, 2, 0, 2183, []),
  (40, 1, .aload_n 0, 0, 0, 0, 0, []),
  (41, 3, .getfield 52, 6, 8, 0, 2021, []),
  (44, 1, .iload_n 1, 0, 0, 0, 0, []),
  (45, 1, .iload_n 2, 0, 0, 0, 0, []),
  (46, 3, .invokevirtual 157, 33, 3, 0, 2209, []),
  (49, 2, .istore 4, 0, 0, 0, 0, []),
  (51, 1, .iconst 0, 0, 0, 0, 0, []),
  (52, 2, .istore 5, 0, 0, 0, 0, []),
  (54, 1, .iconst 0, 0, 0, 0, 0, []),
  (55, 2, .istore 6, 0, 0, 0, 0, []),
  (57, 2, .iload 6, 0, 0, 0, 0, []),
  (59, 1, .aload_n 0, 0, 0, 0, 0, []),
  (60, 3, .getfield 27, 6, 3, 0, 2016, []),
  (63, 3, .getfield 99, 2, 0, 0, 1036, []),
  (66, 3, .if_icmp .ge 26, 0, 0, 0, 0, [44]),
  (69, 1, .aload_n 0, 0, 0, 0, 0, []),
  (70, 3, .getfield 52, 6, 8, 0, 2021, []),
  (73, 2, .iload 4, 0, 0, 0, 0, []),
  (75, 2, .iload 6, 0, 0, 0, 0, []),
  (77, 3, .invokevirtual 160, 34, 3, 0, 2214, [])]
def am_c70_1 : List am_E := [(80, 3, .ifCond .eq 6, 0, 0, 0, 0, [42]),
  (83, 3, .iinc 5 1, 0, 0, 0, 0, []),
  (86, 3, .iinc 6 1, 0, 0, 0, 0, []),
  (89, 3, .goto (-32), 0, 0, 0, 0, [30]),
  (92, 2, .iload 5, 0, 0, 0, 0, []),
  (94, 1, .aload_n 0, 0, 0, 0, 0, []),
  (95, 3, .getfield 27, 6, 3, 0, 2016, []),
  (98, 3, .getfield 99, 2, 0, 0, 1036, []),
  (101, 3, .invokestatic 175, 91, 2, 0, 3020, []),
  (104, 2, .istore 6, 0, 0, 0, 0, []),
  (106, 1, .iload_n 3, 0, 0, 0, 0, []),
  (107, 3, .ifCond .eq 8, 0, 0, 0, 0, [54]),
  (110, 2, .iload 5, 0, 0, 0, 0, []),
  (112, 3, .goto 10, 0, 0, 0, 0, [57]),
  (115, 1, .aload_n 0, 0, 0, 0, 0, []),
  (116, 3, .getfield 27, 6, 3, 0, 2016, []),
  (119, 3, .getfield 99, 2, 0, 0, 1036, []),
  (122, 2, .iload 6, 0, 0, 0, 0, []),
  (124, 1, .idiv, 0, 0, 0, 0, []),
  (125, 1, .ireturn, 0, 0, 0, 0, [])]
def am_c70 : List am_E := am_c70_0 ++ am_c70_1
def am_c71_0 : List am_E := [(0, 1, .iload_n 2, 0, 0, 0, 0, []),
  (1, 3, .invokestatic 138, 87, 1, 0, 2180, []),
  (4, 3, .ifCond .ne 5, 0, 0, 0, 0, [5]),
  (7, 1, .iconst (-1), 0, 0, -1, 0, []),
  (8, 1, .ireturn, 0, 0, 0, 0, []),
  (9, 1, .aload_n 0, 0, 0, 0, 0, []),
  (10, 3, .getfield 27, 6, 3, 0, 2016, []),
  (13, 1, .iload_n 1, 0, 0, 0, 0, []),
  (14, 3, .invokevirtual 178, 15, 2, 0, 3028, []),
  (17, 3, .ifCond .eq 11, 0, 0, 0, 0, [14]),
  (20, 1, .iload_n 1, 0, 0, 0, 0, []),
  (21, 3, .invokestatic 181, 156, 1, 0, 3032, []),
  (24, 1, .iconst 2, 0, 0, 2, 0, []),
  (25, 3, .if_icmp .ge 6, 0, 0, 0, 0, [16]),
  (28, 2, .bipush (-2), 0, 0, -2, 0, []),
  (30, 1, .ireturn, 0, 0, 0, 0, []),
  (31, 1, .aload_n 0, 0, 0, 0, 0, []),
  (32, 3, .getfield 52, 6, 8, 0, 2021, []),
  (35, 1, .aload_n 0, 0, 0, 0, 0, []),
  (36, 3, .getfield 34, 6, 4, 0, 2017, []),
  (39, 3, .invokevirtual 141, 27, 2, 0, 2183, []),
  (42, 1, .aload_n 0, 0, 0, 0, 0, []),
  (43, 3, .getfield 52, 6, 8, 0, 2021, []),
  (46, 1, .iload_n 2, 0, 0, 0, 0, []),
  (47, 3, .invokevirtual 167, 30, 2, 0, 3009, []),
  (50, 1, .istore_n 3, 0, 0, 0, 0, []),
  (51, 1, .iconst 0, 0, 0, 0, 0, []),
  (52, 2, .istore 4, 0, 0, 0, 0, []),
  (54, 2, .iload 4, 0, 0, 0, 0, []),
  (56, 1, .iload_n 3, 0, 0, 0, 0, []),
  (57, 3, .if_icmp .ge 29, 0, 0, 0, 0, [45]),
  (60, 1, .aload_n 0, 0, 0, 0, 0, []),
  (61, 3, .getfield 52, 6, 8, 0, 2021, []),
  (64, 1, .iload_n 1, 0, 0, 0, 0, []),
  (65, 1, .iload_n 2, 0, 0, 0, 0, []),
  (66, 2, .iload 4, 0, 0, 0, 0, []),
  (68, 1, .iadd, 0, 0, 0, 0, []),
  (69, 3, .invokevirtual 186, 32, 3, 0, 3038, []),
  (72, 3, .ifCond .eq 8, 0, 0, 0, 0, [43]),
  (75, 1, .iload_n 2, 0, 0, 0, 0, [])]
def am_c71_1 : List am_E := [(76, 2, .iload 4, 0, 0, 0, 0, []),
  (78, 1, .iadd, 0, 0, 0, 0, []),
  (79, 1, .ireturn, 0, 0, 0, 0, []),
  (80, 3, .iinc 4 1, 0, 0, 0, 0, []),
  (83, 3, .goto (-29), 0, 0, 0, 0, [28]),
  (86, 2, .bipush (-9), 0, 0, -9, 0, []),
  (88, 1, .ireturn, 0, 0, 0, 0, [])]
def am_c71 : List am_E := am_c71_0 ++ am_c71_1
def am_c72 : List am_E := [(0, 1, .aload_n 0, 0, 0, 0, 0, []),
  (1, 1, .iload_n 1, 0, 0, 0, 0, []),
  (2, 1, .iload_n 3, 0, 0, 0, 0, []),
  (3, 3, .invokevirtual 153, 89, 3, 0, 2205, []),
  (6, 3, .ifCond .eq 10, 0, 0, 0, 0, [8]),
  (9, 1, .iload_n 2, 0, 0, 0, 0, []),
  (10, 3, .invokestatic 138, 87, 1, 0, 2180, []),
  (13, 3, .ifCond .ne 5, 0, 0, 0, 0, [10]),
  (16, 1, .iconst (-1), 0, 0, -1, 0, []),
  (17, 1, .ireturn, 0, 0, 0, 0, []),
  (18, 1, .aload_n 0, 0, 0, 0, 0, []),
  (19, 3, .getfield 52, 6, 8, 0, 2021, []),
  (22, 1, .aload_n 0, 0, 0, 0, 0, []),
  (23, 3, .getfield 34, 6, 4, 0, 2017, []),
  (26, 3, .invokevirtual 141, 27, 2, 0, 2183, []),
  (29, 1, .aload_n 0, 0, 0, 0, 0, []),
  (30, 3, .getfield 61, 6, 9, 0, 2022, []),
  (33, 1, .iload_n 1, 0, 0, 0, 0, []),
  (34, 1, .iload_n 2, 0, 0, 0, 0, []),
  (35, 3, .invokevirtual 189, 39, 3, 0, 3047, []),
  (38, 1, .aload_n 0, 0, 0, 0, 0, []),
  (39, 3, .getfield 61, 6, 9, 0, 2022, []),
  (42, 3, .getfield 192, 5, 2, 0, 1207, []),
  (45, 1, .iload_n 3, 0, 0, 0, 0, []),
  (46, 1, .iaload, 0, 0, 0, 0, []),
  (47, 3, .invokestatic 195, 90, 1, 0, 3073, []),
  (50, 1, .ireturn, 0, 0, 0, 0, [])]
def am_c73_0 : List am_E := [(0, 1, .aload_n 0, 0, 0, 0, 0, []),
  (1, 1, .iload_n 1, 0, 0, 0, 0, []),
  (2, 1, .iload_n 3, 0, 0, 0, 0, []),
  (3, 3, .invokevirtual 153, 89, 3, 0, 2205, []),
  (6, 3, .ifCond .eq 10, 0, 0, 0, 0, [8]),
  (9, 1, .iload_n 2, 0, 0, 0, 0, []),
  (10, 3, .invokestatic 138, 87, 1, 0, 2180, []),
  (13, 3, .ifCond .ne 5, 0, 0, 0, 0, [10]),
  (16, 1, .iconst (-1), 0, 0, -1, 0, []),
  (17, 1, .ireturn, 0, 0, 0, 0, []),
  (18, 2, .iload 5, 0, 0, 0, 0, []),
  (20, 3, .ifCond .lt 9, 0, 0, 0, 0, [15]),
  (23, 2, .iload 5, 0, 0, 0, 0, []),
  (25, 1, .iconst 1, 0, 0, 1, 0, []),
  (26, 3, .if_icmp .le 6, 0, 0, 0, 0, [17]),
  (29, 2, .bipush (-2), 0, 0, -2, 0, []),
  (31, 1, .ireturn, 0, 0, 0, 0, []),
  (32, 1, .aload_n 0, 0, 0, 0, 0, []),
  (33, 3, .getfield 52, 6, 8, 0, 2021, []),
  (36, 1, .aload_n 0, 0, 0, 0, 0, []),
  (37, 3, .getfield 34, 6, 4, 0, 2017, []),
  (40, 3, .invokevirtual 141, 27, 2, 0, 2183, []),
  (43, 1, .aload_n 0, 0, 0, 0, 0, []),
  (44, 3, .getfield 61, 6, 9, 0, 2022, []),
  (47, 1, .iload_n 1, 0, 0, 0, 0, []),
  (48, 1, .iload_n 2, 0, 0, 0, 0, []),
  (49, 3, .invokevirtual 189, 39, 3, 0, 3047, []),
  (52, 1, .aload_n 0, 0, 0, 0, 0, []),
  (53, 3, .getfield 61, 6, 9, 0, 2022, []),
  (56, 1, .iload_n 1, 0, 0, 0, 0, []),
  (57, 1, .iload_n 3, 0, 0, 0, 0, []),
  (58, 2, .iload 4, 0, 0, 0, 0, []),
  (60, 3, .invokevirtual 198, 42, 4, 0, 3080, []),
  (63, 2, .istore 6, 0, 0, 0, 0, []),
  (65, 2, .iload 6, 0, 0, 0, 0, []),
  (67, 3, .ifCond .ge 6, 0, 0, 0, 0, [38]),
  (70, 2, .bipush (-9), 0, 0, -9, 0, []),
  (72, 1, .ireturn, 0, 0, 0, 0, []),
  (73, 2, .iload 5, 0, 0, 0, 0, []),
  (75, 3, .ifCond .ne 8, 0, 0, 0, 0, [42])]
def am_c73_1 : List am_E := [(78, 2, .iload 6, 0, 0, 0, 0, []),
  (80, 3, .goto 13, 0, 0, 0, 0, [47]),
  (83, 1, .aload_n 0, 0, 0, 0, 0, []),
  (84, 3, .getfield 61, 6, 9, 0, 2022, []),
  (87, 3, .getfield 192, 5, 2, 0, 1207, []),
  (90, 2, .iload 6, 0, 0, 0, 0, []),
  (92, 1, .iaload, 0, 0, 0, 0, []),
  (93, 1, .ireturn, 0, 0, 0, 0, [])]
def am_c73 : List am_E := am_c73_0 ++ am_c73_1
def am_c74 : List am_E := [(0, 1, .aload_n 0, 0, 0, 0, 0, []),
  (1, 1, .iload_n 1, 0, 0, 0, 0, []),
  (2, 1, .iload_n 2, 0, 0, 0, 0, []),
  (3, 3, .invokevirtual 153, 89, 3, 0, 2205, []),
  (6, 3, .ifCond .eq 10, 0, 0, 0, 0, [8]),
  (9, 1, .iload_n 3, 0, 0, 0, 0, []),
  (10, 3, .invokestatic 138, 87, 1, 0, 2180, []),
  (13, 3, .ifCond .ne 5, 0, 0, 0, 0, [10]),
  (16, 1, .iconst (-1), 0, 0, -1, 0, []),
  (17, 1, .ireturn, 0, 0, 0, 0, []),
  (18, 1, .aload_n 0, 0, 0, 0, 0, []),
  (19, 3, .getfield 52, 6, 8, 0, 2021, []),
  (22, 1, .aload_n 0, 0, 0, 0, 0, []),
  (23, 3, .getfield 34, 6, 4, 0, 2017, []),
  (26, 3, .invokevirtual 141, 27, 2, 0, 2183, []),
  (29, 1, .aload_n 0, 0, 0, 0, 0, []),
  (30, 3, .getfield 61, 6, 9, 0, 2022, []),
  (33, 1, .iload_n 1, 0, 0, 0, 0, []),
  (34, 1, .iload_n 2, 0, 0, 0, 0, []),
  (35, 1, .iload_n 3, 0, 0, 0, 0, []),
  (36, 3, .invokevirtual 202, 45, 4, 0, 3096, []),
  (39, 1, .ireturn, 0, 0, 0, 0, [])]
def am_c75 : List am_E := [(0, 1, .aload_n 0, 0, 0, 0, 0, []),
  (1, 3, .getfield 27, 6, 3, 0, 2016, []),
  (4, 1, .iload_n 1, 0, 0, 0, 0, []),
  (5, 3, .invokevirtual 105, 14, 2, 0, 2141, []),
  (8, 3, .ifCond .eq 10, 0, 0, 0, 0, [8]),
  (11, 1, .iload_n 2, 0, 0, 0, 0, []),
  (12, 3, .invokestatic 138, 87, 1, 0, 2180, []),
  (15, 3, .ifCond .ne 5, 0, 0, 0, 0, [10]),
  (18, 1, .iconst (-1), 0, 0, -1, 0, []),
  (19, 1, .ireturn, 0, 0, 0, 0, []),
  (20, 1, .aload_n 0, 0, 0, 0, 0, []),
  (21, 3, .getfield 27, 6, 3, 0, 2016, []),
  (24, 1, .iload_n 3, 0, 0, 0, 0, []),
  (25, 3, .invokevirtual 178, 15, 2, 0, 3028, []),
  (28, 3, .ifCond .ne 6, 0, 0, 0, 0, [17]),
  (31, 2, .bipush (-2), 0, 0, -2, 0, []),
  (33, 1, .ireturn, 0, 0, 0, 0, []),
  (34, 1, .aload_n 0, 0, 0, 0, 0, []),
  (35, 3, .getfield 52, 6, 8, 0, 2021, []),
  (38, 1, .aload_n 0, 0, 0, 0, 0, []),
  (39, 3, .getfield 34, 6, 4, 0, 2017, []),
  (42, 3, .invokevirtual 141, 27, 2, 0, 2183, []),
  (45, 1, .aload_n 0, 0, 0, 0, 0, []),
  (46, 3, .getfield 61, 6, 9, 0, 2022, []),
  (49, 1, .iload_n 1, 0, 0, 0, 0, []),
  (50, 1, .iload_n 2, 0, 0, 0, 0, []),
  (51, 1, .iload_n 3, 0, 0, 0, 0, []),
  (52, 3, .invokevirtual 205, 46, 4, 0, 3105, []),
  (55, 3, .invokestatic 195, 90, 1, 0, 3073, []),
  (58, 1, .ireturn, 0, 0, 0, 0, [])]
def am_c76 : List am_E := [(0, 1, .aload_n 0, 0, 0, 0, 0, []),
  (1, 1, .iload_n 1, 0, 0, 0, 0, []),
  (2, 1, .iload_n 2, 0, 0, 0, 0, []),
  (3, 1, .iload_n 3, 0, 0, 0, 0, []),
  (4, 2, .iload 4, 0, 0, 0, 0, []),
  (6, 2, .iload 5, 0, 0, 0, 0, []),
  (8, 3, .invokevirtual 208, 92, 6, 0, 3117, []),
  (11, 2, .istore 6, 0, 0, 0, 0, []),
  (13, 2, .iload 6, 0, 0, 0, 0, []),
  (15, 3, .ifCond .eq 8, 0, 0, 0, 0, [12]),
  (18, 2, .iload 6, 0, 0, 0, 0, []),
  (20, 3, .goto 14, 0, 0, 0, 0, [19]),
  (23, 1, .aload_n 0, 0, 0, 0, 0, []),
  (24, 1, .iload_n 1, 0, 0, 0, 0, []),
  (25, 1, .iload_n 2, 0, 0, 0, 0, []),
  (26, 1, .iload_n 3, 0, 0, 0, 0, []),
  (27, 2, .iload 4, 0, 0, 0, 0, []),
  (29, 2, .iload 5, 0, 0, 0, 0, []),
  (31, 3, .invokevirtual 212, 94, 6, 0, 3121, []),
  (34, 1, .ireturn, 0, 0, 0, 0, [])]
def am_c77_0 : List am_E := [(0, 1, .aload_n 0, 0, 0, 0, 0, []),
  (1, 1, .iload_n 1, 0, 0, 0, 0, []),
  (2, 1, .iload_n 2, 0, 0, 0, 0, []),
  (3, 1, .iload_n 3, 0, 0, 0, 0, []),
  (4, 2, .iload 4, 0, 0, 0, 0, []),
  (6, 2, .iload 5, 0, 0, 0, 0, []),
  (8, 3, .invokevirtual 208, 92, 6, 0, 3117, []),
  (11, 2, .istore 6, 0, 0, 0, 0, []),
  (13, 2, .iload 6, 0, 0, 0, 0, []),
  (15, 3, .ifCond .eq 6, 0, 0, 0, 0, [12]),
  (18, 2, .iload 6, 0, 0, 0, 0, []),
  (20, 1, .ireturn, 0, 0, 0, 0, []),
  (21, 1, .aload_n 0, 0, 0, 0, 0, []),
  (22, 1, .iload_n 1, 0, 0, 0, 0, []),
  (23, 1, .iload_n 2, 0, 0, 0, 0, []),
  (24, 1, .iload_n 3, 0, 0, 0, 0, []),
  (25, 2, .iload 4, 0, 0, 0, 0, []),
  (27, 2, .iload 5, 0, 0, 0, 0, []),
  (29, 3, .invokevirtual 212, 94, 6, 0, 3121, []),
  (32, 2, .istore 7, 0, 0, 0, 0, []),
  (34, 2, .iload 7, 0, 0, 0, 0, []),
  (36, 2, .bipush (-9), 0, 0, -9, 0, []),
  (38, 3, .if_icmp .ne 6, 0, 0, 0, 0, [25]),
  (41, 2, .bipush (-9), 0, 0, -9, 0, []),
  (43, 1, .ireturn, 0, 0, 0, 0, []),
  (44, 1, .aload_n 0, 0, 0, 0, 0, []),
  (45, 3, .getfield 52, 6, 8, 0, 2021, []),
  (48, 1, .aload_n 0, 0, 0, 0, 0, []),
  (49, 3, .getfield 34, 6, 4, 0, 2017, []),
  (52, 3, .invokevirtual 141, 27, 2, 0, 2183, []),
  (55, 1, .aload_n 0, 0, 0, 0, 0, []),
  (56, 3, .getfield 61, 6, 9, 0, 2022, []),
  (59, 2, .iload 4, 0, 0, 0, 0, []),
  (61, 3, .invokevirtual 215, 49, 2, 0, 3133, []),
  (64, 1, .aload_n 0, 0, 0, 0, 0, []),
  (65, 1, .iload_n 1, 0, 0, 0, 0, []),
  (66, 2, .iload 7, 0, 0, 0, 0, []),
  (68, 1, .iload_n 2, 0, 0, 0, 0, []),
  (69, 3, .invokevirtual 219, 93, 4, 0, 3125, []),
  (72, 1, .aload_n 0, 0, 0, 0, 0, [])]
def am_c77_1 : List am_E := [(73, 3, .getfield 61, 6, 9, 0, 2022, []),
  (76, 2, .iload 4, 0, 0, 0, 0, []),
  (78, 3, .invokevirtual 222, 50, 2, 0, 3137, []),
  (81, 1, .ireturn, 0, 0, 0, 0, [])]
def am_c77 : List am_E := am_c77_0 ++ am_c77_1
def am_c78 : List am_E := [(0, 1, .aload_n 0, 0, 0, 0, 0, []),
  (1, 1, .iload_n 1, 0, 0, 0, 0, []),
  (2, 1, .iload_n 2, 0, 0, 0, 0, []),
  (3, 3, .invokevirtual 153, 89, 3, 0, 2205, []),
  (6, 3, .ifCond .ne 5, 0, 0, 0, 0, [7]),
  (9, 1, .iconst (-1), 0, 0, -1, 0, []),
  (10, 1, .ireturn, 0, 0, 0, 0, []),
  (11, 1, .aload_n 0, 0, 0, 0, 0, []),
  (12, 3, .getfield 52, 6, 8, 0, 2021, []),
  (15, 1, .aload_n 0, 0, 0, 0, 0, []),
  (16, 3, .getfield 34, 6, 4, 0, 2017, []),
  (19, 3, .invokevirtual 141, 27, 2, 0, 2183, []),
  (22, 1, .aload_n 0, 0, 0, 0, 0, []),
  (23, 3, .getfield 61, 6, 9, 0, 2022, []),
  (26, 1, .iload_n 1, 0, 0, 0, 0, []),
  (27, 1, .iload_n 2, 0, 0, 0, 0, []),
  (28, 3, .invokevirtual 225, 48, 3, 0, 3145, []),
  (31, 3, .invokestatic 195, 90, 1, 0, 3073, []),
  (34, 1, .ireturn, 0, 0, 0, 0, [])]
def am_c79 : List am_E := [(0, 1, .iload_n 1, 0, 0, 0, 0, []),
  (1, 3, .ifCond .lt 9, 0, 0, 0, 0, [5]),
  (4, 1, .iload_n 1, 0, 0, 0, 0, []),
  (5, 2, .bipush 99, 0, 0, 99, 0, []),
  (7, 3, .if_icmp .le 6, 0, 0, 0, 0, [7]),
  (10, 2, .bipush (-2), 0, 0, -2, 0, []),
  (12, 1, .ireturn, 0, 0, 0, 0, []),
  (13, 1, .aload_n 0, 0, 0, 0, 0, []),
  (14, 3, .getfield 27, 6, 3, 0, 2016, []),
  (17, 3, .getfield 96, 2, 1, 0, 1042, []),
  (20, 3, .ifCond .ne 6, 0, 0, 0, 0, [13]),
  (23, 2, .bipush (-9), 0, 0, -9, 0, []),
  (25, 1, .ireturn, 0, 0, 0, 0, []),
  (26, 1, .aload_n 0, 0, 0, 0, 0, []),
  (27, 3, .getfield 52, 6, 8, 0, 2021, []),
  (30, 1, .aload_n 0, 0, 0, 0, 0, []),
  (31, 3, .getfield 34, 6, 4, 0, 2017, []),
  (34, 3, .invokevirtual 141, 27, 2, 0, 2183, []),
  (37, 1, .aload_n 0, 0, 0, 0, 0, []),
  (38, 3, .getfield 61, 6, 9, 0, 2022, []),
  (41, 1, .iload_n 1, 0, 0, 0, 0, []),
  (42, 3, .invokevirtual 228, 52, 2, 0, 3154, []),
  (45, 1, .aload_n 0, 0, 0, 0, 0, []),
  (46, 3, .getfield 61, 6, 9, 0, 2022, []),
  (49, 3, .invokevirtual 231, 51, 1, 0, 3167, []),
  (52, 1, .ireturn, 0, 0, 0, 0, [])]
def am_c80 : List am_E := [(0, 1, .aload_n 0, 0, 0, 0, 0, []),
  (1, 1, .iload_n 1, 0, 0, 0, 0, []),
  (2, 1, .iload_n 2, 0, 0, 0, 0, []),
  (3, 3, .invokevirtual 153, 89, 3, 0, 2205, []),
  (6, 3, .ifCond .eq 10, 0, 0, 0, 0, [8]),
  (9, 1, .iload_n 3, 0, 0, 0, 0, []),
  (10, 3, .invokestatic 138, 87, 1, 0, 2180, []),
  (13, 3, .ifCond .ne 5, 0, 0, 0, 0, [10]),
  (16, 1, .iconst (-1), 0, 0, -1, 0, []),
  (17, 1, .ireturn, 0, 0, 0, 0, []),
  (18, 1, .aload_n 0, 0, 0, 0, 0, []),
  (19, 3, .getfield 27, 6, 3, 0, 2016, []),
  (22, 3, .getfield 109, 2, 2, 0, 1047, []),
  (25, 1, .iload_n 1, 0, 0, 0, 0, []),
  (26, 1, .iaload, 0, 0, 0, 0, []),
  (27, 1, .aload_n 0, 0, 0, 0, 0, []),
  (28, 3, .getfield 27, 6, 3, 0, 2016, []),
  (31, 3, .getfield 109, 2, 2, 0, 1047, []),
  (34, 1, .iload_n 2, 0, 0, 0, 0, []),
  (35, 1, .iaload, 0, 0, 0, 0, []),
  (36, 3, .if_icmp .ne 6, 0, 0, 0, 0, [23]),
  (39, 2, .bipush (-2), 0, 0, -2, 0, []),
  (41, 1, .ireturn, 0, 0, 0, 0, []),
  (42, 1, .aload_n 0, 0, 0, 0, 0, []),
  (43, 3, .getfield 34, 6, 4, 0, 2017, []),
  (46, 3, .getfield 102, 1, 6, 0, 1131, []),
  (49, 2, .bipush 8, 0, 0, 8, 0, []),
  (51, 3, .if_icmp .lt 6, 0, 0, 0, 0, [30]),
  (54, 2, .bipush (-4), 0, 0, -4, 0, []),
  (56, 1, .ireturn, 0, 0, 0, 0, []),
  (57, 1, .aload_n 0, 0, 0, 0, 0, []),
  (58, 3, .getfield 34, 6, 4, 0, 2017, []),
  (61, 1, .iload_n 1, 0, 0, 0, 0, []),
  (62, 1, .iload_n 2, 0, 0, 0, 0, []),
  (63, 1, .iload_n 3, 0, 0, 0, 0, []),
  (64, 3, .invokevirtual 235, 11, 4, 0, 3180, []),
  (67, 1, .aload_n 0, 0, 0, 0, 0, []),
  (68, 3, .getfield 34, 6, 4, 0, 2017, []),
  (71, 3, .getfield 102, 1, 6, 0, 1131, []),
  (74, 1, .ireturn, 0, 0, 0, 0, [])]
def am_c81 : List am_E := [(0, 1, .aload_n 0, 0, 0, 0, 0, []),
  (1, 3, .getfield 34, 6, 4, 0, 2017, []),
  (4, 3, .getfield 102, 1, 6, 0, 1131, []),
  (7, 1, .istore_n 1, 0, 0, 0, 0, []),
  (8, 1, .aload_n 0, 0, 0, 0, 0, []),
  (9, 3, .getfield 34, 6, 4, 0, 2017, []),
  (12, 1, .iconst 0, 0, 0, 0, 0, []),
  (13, 3, .putfield 102, 1, 6, 0, 1131, []),
  (16, 1, .iload_n 1, 0, 0, 0, 0, []),
  (17, 1, .ireturn, 0, 0, 0, 0, [])]
def am_c82 : List am_E := [(0, 1, .aload_n 0, 0, 0, 0, 0, []),
  (1, 3, .getfield 68, 6, 10, 0, 2023, []),
  (4, 1, .aload_n 0, 0, 0, 0, 0, []),
  (5, 3, .getfield 34, 6, 4, 0, 2017, []),
  (8, 3, .invokevirtual 238, 0, 2, 0, 3192, []),
  (11, 1, .aload_n 0, 0, 0, 0, 0, []),
  (12, 3, .getfield 68, 6, 10, 0, 2023, []),
  (15, 3, .getfield 241, 0, 4, 0, 2000, []),
  (18, 1, .ireturn, 0, 0, 0, 0, [])]
def am_c83 : List am_E := [(0, 1, .iload_n 1, 0, 0, 0, 0, []),
  (1, 3, .invokestatic 121, 86, 1, 0, 2149, []),
  (4, 3, .ifCond .ne 5, 0, 0, 0, 0, [5]),
  (7, 1, .iconst (-1), 0, 0, -1, 0, []),
  (8, 1, .ireturn, 0, 0, 0, 0, []),
  (9, 1, .aload_n 0, 0, 0, 0, 0, []),
  (10, 3, .getfield 68, 6, 10, 0, 2023, []),
  (13, 1, .aload_n 0, 0, 0, 0, 0, []),
  (14, 3, .getfield 34, 6, 4, 0, 2017, []),
  (17, 3, .invokevirtual 238, 0, 2, 0, 3192, []),
  (20, 1, .aload_n 0, 0, 0, 0, 0, []),
  (21, 3, .getfield 68, 6, 10, 0, 2023, []),
  (24, 3, .getfield 241, 0, 4, 0, 2000, []),
  (27, 3, .ifCond .ne 6, 0, 0, 0, 0, [16]),
  (30, 2, .bipush (-9), 0, 0, -9, 0, []),
  (32, 1, .ireturn, 0, 0, 0, 0, []),
  (33, 1, .iload_n 2, 0, 0, 0, 0, []),
  (34, 3, .ifCond .eq 15, 0, 0, 0, 0, [24]),
  (37, 1, .aload_n 0, 0, 0, 0, 0, []),
  (38, 3, .getfield 68, 6, 10, 0, 2023, []),
  (41, 3, .getfield 244, 0, 3, 0, 1238, []),
  (44, 1, .iload_n 1, 0, 0, 0, 0, []),
  (45, 1, .iaload, 0, 0, 0, 0, []),
  (46, 3, .goto 12, 0, 0, 0, 0, [29]),
  (49, 1, .aload_n 0, 0, 0, 0, 0, []),
  (50, 3, .getfield 68, 6, 10, 0, 2023, []),
  (53, 3, .getfield 247, 0, 2, 0, 1236, []),
  (56, 1, .iload_n 1, 0, 0, 0, 0, []),
  (57, 1, .iaload, 0, 0, 0, 0, []),
  (58, 2, .bipush 10, 0, 0, 10, 0, []),
  (60, 1, .iadd, 0, 0, 0, 0, []),
  (61, 1, .ireturn, 0, 0, 0, 0, [])]
def am_c84 : List am_E := [(0, 1, .aload_n 0, 0, 0, 0, 0, []),
  (1, 1, .iload_n 1, 0, 0, 0, 0, []),
  (2, 3, .invokevirtual 250, 88, 2, 0, 3228, []),
  (5, 1, .astore_n 2, 0, 0, 0, 0, []),
  (6, 1, .aload_n 2, 0, 0, 0, 0, []),
  (7, 3, .ifnonnull 5, 0, 0, 0, 0, [8]),
  (10, 1, .iconst (-1), 0, 0, -1, 0, []),
  (11, 1, .ireturn, 0, 0, 0, 0, []),
  (12, 1, .aload_n 2, 0, 0, 0, 0, []),
  (13, 1, .aload_n 0, 0, 0, 0, 0, []),
  (14, 3, .getfield 34, 6, 4, 0, 2017, []),
  (17, 3, .invokevirtual 170, 6, 2, 0, 3014, []),
  (20, 1, .aload_n 2, 0, 0, 0, 0, []),
  (21, 1, .iconst 1, 0, 0, 1, 0, []),
  (22, 3, .putfield 89, 1, 7, 1, 1133, []),
  (25, 1, .aload_n 0, 0, 0, 0, 0, []),
  (26, 3, .getfield 34, 6, 4, 0, 2017, []),
  (29, 3, .invokevirtual 254, 10, 1, 0, 3232, []),
  (32, 1, .ireturn, 0, 0, 0, 0, [])]
def am_c85 : List am_E := [(0, 1, .aload_n 0, 0, 0, 0, 0, []),
  (1, 1, .iload_n 1, 0, 0, 0, 0, []),
  (2, 3, .invokevirtual 250, 88, 2, 0, 3228, []),
  (5, 1, .astore_n 2, 0, 0, 0, 0, []),
  (6, 1, .aload_n 2, 0, 0, 0, 0, []),
  (7, 3, .ifnonnull 5, 0, 0, 0, 0, [8]),
  (10, 1, .iconst (-1), 0, 0, -1, 0, []),
  (11, 1, .ireturn, 0, 0, 0, 0, []),
  (12, 1, .aload_n 2, 0, 0, 0, 0, []),
  (13, 3, .getfield 89, 1, 7, 1, 1133, []),
  (16, 3, .ifCond .ne 6, 0, 0, 0, 0, [13]),
  (19, 2, .bipush (-3), 0, 0, -3, 0, []),
  (21, 1, .ireturn, 0, 0, 0, 0, []),
  (22, 1, .aload_n 0, 0, 0, 0, 0, []),
  (23, 3, .getfield 34, 6, 4, 0, 2017, []),
  (26, 1, .aload_n 2, 0, 0, 0, 0, []),
  (27, 3, .invokevirtual 170, 6, 2, 0, 3014, []),
  (30, 1, .aload_n 0, 0, 0, 0, 0, []),
  (31, 3, .getfield 34, 6, 4, 0, 2017, []),
  (34, 3, .invokevirtual 254, 10, 1, 0, 3232, []),
  (37, 1, .ireturn, 0, 0, 0, 0, [])]
def am_c86 : List am_E := [(0, 1, .iload_n 0, 0, 0, 0, 0, []),
  (1, 3, .ifCond .lt 12, 0, 0, 0, 0, [7]),
  (4, 1, .iload_n 0, 0, 0, 0, 0, []),
  (5, 1, .iconst 3, 0, 0, 3, 0, []),
  (6, 3, .if_icmp .ge 7, 0, 0, 0, 0, [7]),
  (9, 1, .iconst 1, 0, 0, 1, 0, []),
  (10, 3, .goto 4, 0, 0, 0, 0, [8]),
  (13, 1, .iconst 0, 0, 0, 0, 0, []),
  (14, 1, .ireturn, 1, 0, 0, 0, [])]
def am_c87 : List am_E := [(0, 1, .iload_n 0, 0, 0, 0, 0, []),
  (1, 3, .ifCond .lt 14, 0, 0, 0, 0, [7]),
  (4, 1, .iload_n 0, 0, 0, 0, 0, []),
  (5, 3, .sipush 300, 0, 0, 300, 0, []),
  (8, 3, .if_icmp .ge 7, 0, 0, 0, 0, [7]),
  (11, 1, .iconst 1, 0, 0, 1, 0, []),
  (12, 3, .goto 4, 0, 0, 0, 0, [8]),
  (15, 1, .iconst 0, 0, 0, 0, 0, []),
  (16, 1, .ireturn, 1, 0, 0, 0, [])]
def am_c88 : List am_E := [(0, 1, .iload_n 1, 0, 0, 0, 0, []),
  (1, 3, .ifCond .ne 8, 0, 0, 0, 0, [5]),
  (4, 1, .aload_n 0, 0, 0, 0, 0, []),
  (5, 3, .getfield 41, 6, 6, 0, 2019, []),
  (8, 1, .areturn, 0, 0, 0, 0, []),
  (9, 1, .iload_n 1, 0, 0, 0, 0, []),
  (10, 1, .iconst 1, 0, 0, 1, 0, []),
  (11, 3, .if_icmp .ne 10, 0, 0, 0, 0, [11]),
  (14, 1, .aload_n 0, 0, 0, 0, 0, []),
  (15, 3, .getfield 44, 6, 7, 0, 2020, []),
  (18, 3, .goto 4, 0, 0, 0, 0, [12]),
  (21, 1, .aconst_null, 0, 0, 0, 0, []),
  (22, 1, .areturn, 0, 0, 0, 0, [])]
def am_c89 : List am_E := [(0, 1, .aload_n 0, 0, 0, 0, 0, []),
  (1, 3, .getfield 27, 6, 3, 0, 2016, []),
  (4, 1, .iload_n 1, 0, 0, 0, 0, []),
  (5, 3, .invokevirtual 105, 14, 2, 0, 2141, []),
  (8, 3, .ifCond .eq 18, 0, 0, 0, 0, [12]),
  (11, 1, .aload_n 0, 0, 0, 0, 0, []),
  (12, 3, .getfield 27, 6, 3, 0, 2016, []),
  (15, 1, .iload_n 2, 0, 0, 0, 0, []),
  (16, 3, .invokevirtual 105, 14, 2, 0, 2141, []),
  (19, 3, .ifCond .eq 7, 0, 0, 0, 0, [12]),
  (22, 1, .iconst 1, 0, 0, 1, 0, []),
  (23, 3, .goto 4, 0, 0, 0, 0, [13]),
  (26, 1, .iconst 0, 0, 0, 0, 0, []),
  (27, 1, .ireturn, 1, 0, 0, 0, [])]
def am_c90 : List am_E := [(0, 1, .iload_n 0, 0, 0, 0, 0, []),
  (1, 2, .ldc 166, 0, 0, 1000000, 3004, []),
  (3, 3, .if_icmp .lt 8, 0, 0, 0, 0, [5]),
  (6, 2, .bipush (-9), 0, 0, -9, 0, []),
  (8, 3, .goto 4, 0, 0, 0, 0, [6]),
  (11, 1, .iload_n 0, 0, 0, 0, 0, []),
  (12, 1, .ireturn, 0, 0, 0, 0, [])]
def am_c91 : List am_E := [(0, 1, .iload_n 0, 0, 0, 0, 0, []),
  (1, 1, .iload_n 1, 0, 0, 0, 0, []),
  (2, 3, .invokestatic 257, 159, 2, 0, 3023, []),
  (5, 1, .istore_n 2, 0, 0, 0, 0, []),
  (6, 1, .iload_n 2, 0, 0, 0, 0, []),
  (7, 1, .iconst 1, 0, 0, 1, 0, []),
  (8, 3, .if_icmp .le 23, 0, 0, 0, 0, [19]),
  (11, 1, .iload_n 0, 0, 0, 0, 0, []),
  (12, 1, .iload_n 2, 0, 0, 0, 0, []),
  (13, 1, .irem, 0, 0, 0, 0, []),
  (14, 3, .ifCond .ne 11, 0, 0, 0, 0, [17]),
  (17, 1, .iload_n 1, 0, 0, 0, 0, []),
  (18, 1, .iload_n 2, 0, 0, 0, 0, []),
  (19, 1, .irem, 0, 0, 0, 0, []),
  (20, 3, .ifCond .ne 5, 0, 0, 0, 0, [17]),
  (23, 1, .iload_n 2, 0, 0, 0, 0, []),
  (24, 1, .ireturn, 0, 0, 0, 0, []),
  (25, 3, .iinc 2 (-1), 0, 0, 0, 0, []),
  (28, 3, .goto (-22), 0, 0, 0, 0, [4]),
  (31, 1, .iconst 1, 0, 0, 1, 0, []),
  (32, 1, .ireturn, 0, 0, 0, 0, [])]
def am_c92 : List am_E := [(0, 1, .iload_n 1, 0, 0, 0, 0, []),
  (1, 3, .invokestatic 121, 86, 1, 0, 2149, []),
  (4, 3, .ifCond .eq 21, 0, 0, 0, 0, [11]),
  (7, 1, .aload_n 0, 0, 0, 0, 0, []),
  (8, 1, .iload_n 3, 0, 0, 0, 0, []),
  (9, 2, .iload 5, 0, 0, 0, 0, []),
  (11, 3, .invokevirtual 153, 89, 3, 0, 2205, []),
  (14, 3, .ifCond .eq 11, 0, 0, 0, 0, [11]),
  (17, 2, .iload 4, 0, 0, 0, 0, []),
  (19, 3, .invokestatic 138, 87, 1, 0, 2180, []),
  (22, 3, .ifCond .ne 5, 0, 0, 0, 0, [13]),
  (25, 1, .iconst (-1), 0, 0, -1, 0, []),
  (26, 1, .ireturn, 0, 0, 0, 0, []),
  (27, 1, .iload_n 2, 0, 0, 0, 0, []),
  (28, 1, .iconst 1, 0, 0, 1, 0, []),
  (29, 3, .if_icmp .lt 9, 0, 0, 0, 0, [19]),
  (32, 1, .iload_n 2, 0, 0, 0, 0, []),
  (33, 2, .bipush 99, 0, 0, 99, 0, []),
  (35, 3, .if_icmp .le 8, 0, 0, 0, 0, [21]),
  (38, 2, .bipush (-2), 0, 0, -2, 0, []),
  (40, 3, .goto 4, 0, 0, 0, 0, [22]),
  (43, 1, .iconst 0, 0, 0, 0, 0, []),
  (44, 1, .ireturn, 0, 0, 0, 0, [])]
def am_c93 : List am_E := [(0, 1, .aload_n 0, 0, 0, 0, 0, []),
  (1, 3, .getfield 38, 6, 5, 0, 2018, []),
  (4, 1, .aload_n 0, 0, 0, 0, 0, []),
  (5, 3, .getfield 34, 6, 4, 0, 2017, []),
  (8, 3, .invokevirtual 170, 6, 2, 0, 3014, []),
  (11, 1, .aload_n 0, 0, 0, 0, 0, []),
  (12, 3, .getfield 38, 6, 5, 0, 2018, []),
  (15, 1, .iload_n 1, 0, 0, 0, 0, []),
  (16, 1, .iload_n 2, 0, 0, 0, 0, []),
  (17, 1, .iload_n 3, 0, 0, 0, 0, []),
  (18, 3, .invokevirtual 130, 8, 4, 0, 2158, []),
  (21, 1, .aload_n 0, 0, 0, 0, 0, []),
  (22, 3, .getfield 52, 6, 8, 0, 2021, []),
  (25, 1, .aload_n 0, 0, 0, 0, 0, []),
  (26, 3, .getfield 38, 6, 5, 0, 2018, []),
  (29, 3, .invokevirtual 141, 27, 2, 0, 2183, []),
  (32, 1, .return_, 0, 0, 0, 0, [])]
def am_c94_0 : List am_E := [(0, 2, .ldc 166, 0, 0, 1000000, 3004, []),
  (2, 2, .istore 6, 0, 0, 0, 0, []),
  (4, 2, .bipush (-9), 0, 0, -9, 0, []),
  (6, 2, .istore 7, 0, 0, 0, 0, []),
  (8, 2, .iload 4, 0, 0, 0, 0, []),
  (10, 2, .istore 8, 0, 0, 0, 0, []),
  (12, 2, .iload 8, 0, 0, 0, 0, []),
  (14, 2, .iload 4, 0, 0, 0, 0, []),
  (16, 1, .aload_n 0, 0, 0, 0, 0, []),
  (17, 3, .getfield 27, 6, 3, 0, 2016, []),
  (20, 3, .getfield 99, 2, 0, 0, 1036, []),
  (23, 1, .iadd, 0, 0, 0, 0, []),
  (24, 3, .if_icmp .ge 64, 0, 0, 0, 0, [42]),
  (27, 1, .aload_n 0, 0, 0, 0, 0, []),
  (28, 1, .iload_n 1, 0, 0, 0, 0, []),
  (29, 2, .iload 8, 0, 0, 0, 0, []),
  (31, 1, .iload_n 2, 0, 0, 0, 0, []),
  (32, 3, .invokevirtual 219, 93, 4, 0, 3125, []),
  (35, 1, .aload_n 0, 0, 0, 0, 0, []),
  (36, 3, .getfield 61, 6, 9, 0, 2022, []),
  (39, 1, .iload_n 3, 0, 0, 0, 0, []),
  (40, 2, .iload 4, 0, 0, 0, 0, []),
  (42, 3, .invokevirtual 189, 39, 3, 0, 3047, []),
  (45, 1, .aload_n 0, 0, 0, 0, 0, []),
  (46, 3, .getfield 61, 6, 9, 0, 2022, []),
  (49, 3, .getfield 192, 5, 2, 0, 1207, []),
  (52, 2, .iload 5, 0, 0, 0, 0, []),
  (54, 1, .iaload, 0, 0, 0, 0, []),
  (55, 2, .istore 9, 0, 0, 0, 0, []),
  (57, 2, .iload 9, 0, 0, 0, 0, []),
  (59, 2, .iload 6, 0, 0, 0, 0, []),
  (61, 3, .if_icmp .ge 11, 0, 0, 0, 0, [36]),
  (64, 2, .iload 9, 0, 0, 0, 0, []),
  (66, 2, .istore 6, 0, 0, 0, 0, []),
  (68, 2, .iload 8, 0, 0, 0, 0, []),
  (70, 2, .istore 7, 0, 0, 0, 0, []),
  (72, 2, .iload 9, 0, 0, 0, 0, []),
  (74, 2, .iload 8, 0, 0, 0, 0, []),
  (76, 3, .if_icmp .gt 6, 0, 0, 0, 0, [40]),
  (79, 3, .goto 9, 0, 0, 0, 0, [42])]
def am_c94_1 : List am_E := [(82, 3, .iinc 8 1, 0, 0, 0, 0, []),
  (85, 3, .goto (-73), 0, 0, 0, 0, [6]),
  (88, 2, .iload 7, 0, 0, 0, 0, []),
  (90, 1, .ireturn, 0, 0, 0, 0, [])]
def am_c94 : List am_E := am_c94_0 ++ am_c94_1
def am_c95 : List am_E := [(0, 1, .lload_n 0, 0, 0, 0, 0, []),
  (1, 1, .lload_n 2, 0, 0, 0, 0, []),
  (2, 1, .lcmp, 0, 0, 0, 0, []),
  (3, 3, .ifCond .lt 14, 0, 0, 0, 0, [10]),
  (6, 1, .lload_n 0, 0, 0, 0, 0, []),
  (7, 2, .lload 4, 0, 0, 0, 0, []),
  (9, 1, .lcmp, 0, 0, 0, 0, []),
  (10, 3, .ifCond .gt 7, 0, 0, 0, 0, [10]),
  (13, 1, .iconst 1, 0, 0, 1, 0, []),
  (14, 3, .goto 4, 0, 0, 0, 0, [11]),
  (17, 1, .iconst 0, 0, 0, 0, 0, []),
  (18, 1, .ireturn, 1, 0, 0, 0, [])]
def am_c96 : List am_E := [(0, 1, .iload_n 0, 0, 0, 0, 0, []),
  (1, 1, .iload_n 1, 0, 0, 0, 0, []),
  (2, 1, .ishr, 0, 0, 0, 0, []),
  (3, 1, .iconst 1, 0, 0, 1, 0, []),
  (4, 1, .iand, 0, 0, 0, 0, []),
  (5, 1, .iconst 1, 0, 0, 1, 0, []),
  (6, 3, .if_icmp .ne 7, 0, 0, 0, 0, [9]),
  (9, 1, .iconst 1, 0, 0, 1, 0, []),
  (10, 3, .goto 4, 0, 0, 0, 0, [10]),
  (13, 1, .iconst 0, 0, 0, 0, 0, []),
  (14, 1, .ireturn, 1, 0, 0, 0, [])]
def am_c97 : List am_E := [(0, 1, .iconst 0, 0, 0, 0, 0, []),
  (1, 1, .istore_n 1, 0, 0, 0, 0, []),
  (2, 1, .iconst 0, 0, 0, 0, 0, []),
  (3, 1, .istore_n 2, 0, 0, 0, 0, []),
  (4, 1, .iload_n 2, 0, 0, 0, 0, []),
  (5, 2, .bipush 8, 0, 0, 8, 0, []),
  (7, 3, .if_icmp .ge 17, 0, 0, 0, 0, [17]),
  (10, 1, .iload_n 1, 0, 0, 0, 0, []),
  (11, 1, .iload_n 0, 0, 0, 0, 0, []),
  (12, 1, .iload_n 2, 0, 0, 0, 0, []),
  (13, 1, .ishr, 0, 0, 0, 0, []),
  (14, 1, .iconst 1, 0, 0, 1, 0, []),
  (15, 1, .iand, 0, 0, 0, 0, []),
  (16, 1, .iadd, 0, 0, 0, 0, []),
  (17, 1, .istore_n 1, 0, 0, 0, 0, []),
  (18, 3, .iinc 2 1, 0, 0, 0, 0, []),
  (21, 3, .goto (-17), 0, 0, 0, 0, [4]),
  (24, 1, .iload_n 1, 0, 0, 0, 0, []),
  (25, 1, .ireturn, 0, 0, 0, 0, [])]
def am_c98 : List am_E := [(0, 1, .iload_n 1, 0, 0, 0, 0, []),
  (1, 1, .i2l, 0, 0, 0, 0, []),
  (2, 1, .lconst 0, 0, 0, 0, 0, []),
  (3, 1, .aload_n 0, 0, 0, 0, 0, []),
  (4, 3, .getfield 93, 7, 5, 0, 4011, []),
  (7, 1, .iconst 1, 0, 0, 1, 0, []),
  (8, 1, .isub, 0, 0, 0, 0, []),
  (9, 1, .i2l, 0, 0, 0, 0, []),
  (10, 3, .invokestatic 96, 95, 3, 0, 4117, []),
  (13, 3, .ifCond .ne 7, 0, 0, 0, 0, [12]),
  (16, 1, .iconst 1, 0, 0, 1, 0, []),
  (17, 3, .goto 4, 0, 0, 0, 0, [13]),
  (20, 1, .iconst 0, 0, 0, 0, 0, []),
  (21, 1, .ireturn, 1, 0, 0, 0, [])]
def am_c99 : List am_E := [(0, 1, .iload_n 0, 0, 0, 0, 0, []),
  (1, 1, .i2l, 0, 0, 0, 0, []),
  (2, 1, .lconst 0, 0, 0, 0, 0, []),
  (3, 3, .ldc2_w 100, 0, 0, 299, 4197, []),
  (6, 3, .invokestatic 96, 95, 3, 0, 4117, []),
  (9, 3, .ifCond .ne 7, 0, 0, 0, 0, [8]),
  (12, 1, .iconst 1, 0, 0, 1, 0, []),
  (13, 3, .goto 4, 0, 0, 0, 0, [9]),
  (16, 1, .iconst 0, 0, 0, 0, 0, []),
  (17, 1, .ireturn, 1, 0, 0, 0, [])]
def am_c100 : List am_E := [(0, 1, .iload_n 0, 0, 0, 0, 0, []),
  (1, 1, .i2l, 0, 0, 0, 0, []),
  (2, 1, .lconst 0, 0, 0, 0, 0, []),
  (3, 3, .ldc2_w 102, 0, 0, 2, 4147, []),
  (6, 3, .invokestatic 96, 95, 3, 0, 4117, []),
  (9, 3, .ifCond .ne 7, 0, 0, 0, 0, [8]),
  (12, 1, .iconst 1, 0, 0, 1, 0, []),
  (13, 3, .goto 4, 0, 0, 0, 0, [9]),
  (16, 1, .iconst 0, 0, 0, 0, 0, []),
  (17, 1, .ireturn, 1, 0, 0, 0, [])]
def am_c101_0 : List am_E := [(0, 1, .aload_n 0, 0, 0, 0, 0, []),
  (1, 1, .iconst 0, 0, 0, 0, 0, []),
  (2, 3, .putfield 90, 7, 0, 0, 4006, []),
  (5, 1, .iload_n 1, 0, 0, 0, 0, []),
  (6, 1, .i2l, 0, 0, 0, 0, []),
  (7, 1, .lconst 1, 0, 0, 1, 0, []),
  (8, 3, .ldc2_w 104, 0, 0, 8, 4116, []),
  (11, 3, .invokestatic 96, 95, 3, 0, 4117, []),
  (14, 3, .ifCond .ne 6, 0, 0, 0, 0, [11]),
  (17, 2, .bipush (-2), 0, 0, -2, 0, []),
  (19, 1, .ireturn, 0, 0, 0, 0, []),
  (20, 1, .aload_n 0, 0, 0, 0, 0, []),
  (21, 3, .getfield 106, 7, 2, 0, 4008, []),
  (24, 1, .iload_n 1, 0, 0, 0, 0, []),
  (25, 1, .iadd, 0, 0, 0, 0, []),
  (26, 2, .bipush 60, 0, 0, 60, 0, []),
  (28, 3, .if_icmp .le 6, 0, 0, 0, 0, [19]),
  (31, 2, .bipush (-4), 0, 0, -4, 0, []),
  (33, 1, .ireturn, 0, 0, 0, 0, []),
  (34, 1, .iload_n 1, 0, 0, 0, 0, []),
  (35, 1, .iconst 1, 0, 0, 1, 0, []),
  (36, 1, .isub, 0, 0, 0, 0, []),
  (37, 2, .istore 4, 0, 0, 0, 0, []),
  (39, 2, .iload 4, 0, 0, 0, 0, []),
  (41, 3, .ifCond .lt 40, 0, 0, 0, 0, [46]),
  (44, 1, .aload_n 0, 0, 0, 0, 0, []),
  (45, 3, .getfield 7, 7, 1, 0, 4007, []),
  (48, 1, .aload_n 0, 0, 0, 0, 0, []),
  (49, 3, .getfield 106, 7, 2, 0, 4008, []),
  (52, 1, .lload_n 2, 0, 0, 0, 0, []),
  (53, 2, .bipush 8, 0, 0, 8, 0, []),
  (55, 2, .iload 4, 0, 0, 0, 0, []),
  (57, 1, .imul, 0, 0, 0, 0, []),
  (58, 1, .lshr, 0, 0, 0, 0, []),
  (59, 1, .l2i, 0, 0, 0, 0, []),
  (60, 3, .sipush 255, 0, 0, 255, 0, []),
  (63, 1, .iand, 0, 0, 0, 0, []),
  (64, 1, .iastore, 0, 0, 0, 0, []),
  (65, 1, .aload_n 0, 0, 0, 0, 0, []),
  (66, 1, .dup, 0, 0, 0, 0, [])]
def am_c101_1 : List am_E := [(67, 3, .getfield 106, 7, 2, 0, 4008, []),
  (70, 1, .iconst 1, 0, 0, 1, 0, []),
  (71, 1, .iadd, 0, 0, 0, 0, []),
  (72, 3, .putfield 106, 7, 2, 0, 4008, []),
  (75, 3, .iinc 4 (-1), 0, 0, 0, 0, []),
  (78, 3, .goto (-39), 0, 0, 0, 0, [23]),
  (81, 1, .aload_n 0, 0, 0, 0, 0, []),
  (82, 3, .getfield 106, 7, 2, 0, 4008, []),
  (85, 1, .ireturn, 0, 0, 0, 0, [])]
def am_c101 : List am_E := am_c101_0 ++ am_c101_1
def am_c102 : List am_E := [(0, 1, .aload_n 0, 0, 0, 0, 0, []),
  (1, 1, .iconst 0, 0, 0, 0, 0, []),
  (2, 3, .putfield 90, 7, 0, 0, 4006, []),
  (5, 1, .aload_n 0, 0, 0, 0, 0, []),
  (6, 3, .getfield 106, 7, 2, 0, 4008, []),
  (9, 1, .istore_n 1, 0, 0, 0, 0, []),
  (10, 1, .aload_n 0, 0, 0, 0, 0, []),
  (11, 1, .iconst 0, 0, 0, 0, 0, []),
  (12, 3, .putfield 106, 7, 2, 0, 4008, []),
  (15, 1, .iload_n 1, 0, 0, 0, 0, []),
  (16, 1, .ireturn, 0, 0, 0, 0, [])]
def am_c103 : List am_E := [(0, 1, .aload_n 0, 0, 0, 0, 0, []),
  (1, 3, .getfield 109, 7, 3, 0, 4009, []),
  (4, 1, .aload_n 0, 0, 0, 0, 0, []),
  (5, 3, .getfield 106, 7, 2, 0, 4008, []),
  (8, 3, .if_icmp .eq 26, 0, 0, 0, 0, [19]),
  (11, 1, .aload_n 0, 0, 0, 0, 0, []),
  (12, 3, .getfield 7, 7, 1, 0, 4007, []),
  (15, 1, .aload_n 0, 0, 0, 0, 0, []),
  (16, 3, .getfield 109, 7, 3, 0, 4009, []),
  (19, 1, .iaload, 0, 0, 0, 0, []),
  (20, 2, .bipush 48, 0, 0, 48, 0, []),
  (22, 1, .isub, 0, 0, 0, 0, []),
  (23, 1, .i2l, 0, 0, 0, 0, []),
  (24, 1, .iload_n 1, 0, 0, 0, 0, []),
  (25, 1, .i2l, 0, 0, 0, 0, []),
  (26, 1, .iload_n 2, 0, 0, 0, 0, []),
  (27, 1, .i2l, 0, 0, 0, 0, []),
  (28, 3, .invokestatic 96, 95, 3, 0, 4117, []),
  (31, 3, .ifCond .ne 6, 0, 0, 0, 0, [21]),
  (34, 2, .bipush (-9), 0, 0, -9, 0, []),
  (36, 1, .ireturn, 0, 0, 0, 0, []),
  (37, 1, .aload_n 0, 0, 0, 0, 0, []),
  (38, 1, .dup, 0, 0, 0, 0, []),
  (39, 3, .getfield 109, 7, 3, 0, 4009, []),
  (42, 1, .iconst 1, 0, 0, 1, 0, []),
  (43, 1, .iadd, 0, 0, 0, 0, []),
  (44, 3, .putfield 109, 7, 3, 0, 4009, []),
  (47, 1, .aload_n 0, 0, 0, 0, 0, []),
  (48, 3, .getfield 7, 7, 1, 0, 4007, []),
  (51, 1, .aload_n 0, 0, 0, 0, 0, []),
  (52, 3, .getfield 109, 7, 3, 0, 4009, []),
  (55, 1, .iconst 1, 0, 0, 1, 0, []),
  (56, 1, .isub, 0, 0, 0, 0, []),
  (57, 1, .iaload, 0, 0, 0, 0, []),
  (58, 2, .bipush 48, 0, 0, 48, 0, []),
  (60, 1, .isub, 0, 0, 0, 0, []),
  (61, 1, .ireturn, 0, 0, 0, 0, [])]
def am_c104_0 : List am_E := [(0, 1, .aload_n 0, 0, 0, 0, 0, []),
  (1, 3, .getfield 109, 7, 3, 0, 4009, []),
  (4, 1, .aload_n 0, 0, 0, 0, 0, []),
  (5, 3, .getfield 106, 7, 2, 0, 4008, []),
  (8, 3, .if_icmp .ge 18, 0, 0, 0, 0, [13]),
  (11, 1, .aload_n 0, 0, 0, 0, 0, []),
  (12, 3, .getfield 7, 7, 1, 0, 4007, []),
  (15, 1, .aload_n 0, 0, 0, 0, 0, []),
  (16, 3, .getfield 109, 7, 3, 0, 4009, []),
  (19, 1, .iaload, 0, 0, 0, 0, []),
  (20, 2, .bipush 48, 0, 0, 48, 0, []),
  (22, 1, .isub, 0, 0, 0, 0, []),
  (23, 3, .goto 5, 0, 0, 0, 0, [14]),
  (26, 2, .bipush (-9), 0, 0, -9, 0, []),
  (28, 1, .istore_n 2, 0, 0, 0, 0, []),
  (29, 1, .iload_n 2, 0, 0, 0, 0, []),
  (30, 3, .invokestatic 112, 100, 1, 0, 4144, []),
  (33, 3, .ifCond .ne 14, 0, 0, 0, 0, [23]),
  (36, 1, .aload_n 0, 0, 0, 0, 0, []),
  (37, 3, .getfield 116, 7, 20, 0, 4026, []),
  (40, 1, .iload_n 2, 0, 0, 0, 0, []),
  (41, 3, .invokestatic 119, 96, 2, 0, 4148, []),
  (44, 3, .ifCond .eq 5, 0, 0, 0, 0, [25]),
  (47, 1, .iconst 0, 0, 0, 0, 0, []),
  (48, 1, .ireturn, 1, 0, 0, 0, []),
  (49, 1, .aload_n 0, 0, 0, 0, 0, []),
  (50, 1, .dup, 0, 0, 0, 0, []),
  (51, 3, .getfield 109, 7, 3, 0, 4009, []),
  (54, 1, .iconst 1, 0, 0, 1, 0, []),
  (55, 1, .iadd, 0, 0, 0, 0, []),
  (56, 3, .putfield 109, 7, 3, 0, 4009, []),
  (59, 1, .aload_n 0, 0, 0, 0, 0, []),
  (60, 1, .iconst 0, 0, 0, 0, 0, []),
  (61, 2, .bipush 9, 0, 0, 9, 0, []),
  (63, 3, .invokevirtual 123, 103, 3, 0, 4132, []),
  (66, 1, .istore_n 3, 0, 0, 0, 0, []),
  (67, 1, .iload_n 3, 0, 0, 0, 0, []),
  (68, 2, .bipush (-9), 0, 0, -9, 0, []),
  (70, 3, .if_icmp .ne 5, 0, 0, 0, 0, [41]),
  (73, 1, .iconst 0, 0, 0, 0, 0, [])]
def am_c104_1 : List am_E := [(74, 1, .ireturn, 1, 0, 0, 0, []),
  (75, 1, .aload_n 0, 0, 0, 0, 0, []),
  (76, 1, .dup, 0, 0, 0, 0, []),
  (77, 3, .getfield 116, 7, 20, 0, 4026, []),
  (80, 1, .iconst 1, 0, 0, 1, 0, []),
  (81, 1, .iload_n 2, 0, 0, 0, 0, []),
  (82, 1, .ishl, 0, 0, 0, 0, []),
  (83, 1, .ior, 0, 0, 0, 0, []),
  (84, 3, .putfield 116, 7, 20, 0, 4026, []),
  (87, 1, .aload_n 0, 0, 0, 0, 0, []),
  (88, 3, .getfield 50, 7, 19, 0, 4025, []),
  (91, 1, .iload_n 2, 0, 0, 0, 0, []),
  (92, 1, .iload_n 1, 0, 0, 0, 0, []),
  (93, 1, .iload_n 3, 0, 0, 0, 0, []),
  (94, 1, .imul, 0, 0, 0, 0, []),
  (95, 1, .iastore, 0, 0, 0, 0, []),
  (96, 1, .iconst 1, 0, 0, 1, 0, []),
  (97, 1, .ireturn, 1, 0, 0, 0, [])]
def am_c104 : List am_E := am_c104_0 ++ am_c104_1
def am_c105_0 : List am_E := [(0, 1, .aload_n 0, 0, 0, 0, 0, []),
  (1, 3, .getfield 127, 7, 13, 0, 4019, []),
  (4, 1, .iconst 1, 0, 0, 1, 0, []),
  (5, 1, .isub, 0, 0, 0, 0, []),
  (6, 1, .istore_n 1, 0, 0, 0, 0, []),
  (7, 1, .aload_n 0, 0, 0, 0, 0, []),
  (8, 1, .iconst 0, 0, 0, 0, 0, []),
  (9, 1, .iconst 2, 0, 0, 2, 0, []),
  (10, 3, .invokevirtual 123, 103, 3, 0, 4132, []),
  (13, 1, .istore_n 2, 0, 0, 0, 0, []),
  (14, 1, .iload_n 2, 0, 0, 0, 0, []),
  (15, 2, .bipush (-9), 0, 0, -9, 0, []),
  (17, 3, .if_icmp .ne 8, 0, 0, 0, 0, [15]),
  (20, 2, .bipush (-9), 0, 0, -9, 0, []),
  (22, 3, .goto 26, 0, 0, 0, 0, [28]),
  (25, 1, .aload_n 0, 0, 0, 0, 0, []),
  (26, 1, .iload_n 2, 0, 0, 0, 0, []),
  (27, 1, .iconst 2, 0, 0, 2, 0, []),
  (28, 3, .if_icmp .ne 7, 0, 0, 0, 0, [21]),
  (31, 1, .iconst 1, 0, 0, 1, 0, []),
  (32, 3, .goto 4, 0, 0, 0, 0, [22]),
  (35, 1, .iconst 0, 0, 0, 0, 0, []),
  (36, 1, .iload_n 2, 0, 0, 0, 0, []),
  (37, 3, .ifCond .ne 7, 0, 0, 0, 0, [26]),
  (40, 1, .iconst 0, 0, 0, 0, 0, []),
  (41, 3, .goto 4, 0, 0, 0, 0, [27]),
  (44, 1, .iconst 1, 0, 0, 1, 0, []),
  (45, 3, .invokevirtual 123, 103, 3, 0, 4132, []),
  (48, 1, .istore_n 3, 0, 0, 0, 0, []),
  (49, 1, .iload_n 3, 0, 0, 0, 0, []),
  (50, 2, .bipush (-9), 0, 0, -9, 0, []),
  (52, 3, .if_icmp .ne 8, 0, 0, 0, 0, [34]),
  (55, 2, .bipush (-9), 0, 0, -9, 0, []),
  (57, 3, .goto 12, 0, 0, 0, 0, [40]),
  (60, 1, .aload_n 0, 0, 0, 0, 0, []),
  (61, 1, .iconst 0, 0, 0, 0, 0, []),
  (62, 1, .iload_n 1, 0, 0, 0, 0, []),
  (63, 2, .bipush 10, 0, 0, 10, 0, []),
  (65, 1, .idiv, 0, 0, 0, 0, []),
  (66, 3, .invokevirtual 123, 103, 3, 0, 4132, [])]
def am_c105_1 : List am_E := [(69, 2, .istore 4, 0, 0, 0, 0, []),
  (71, 2, .iload 4, 0, 0, 0, 0, []),
  (73, 2, .bipush (-9), 0, 0, -9, 0, []),
  (75, 3, .if_icmp .ne 8, 0, 0, 0, 0, [46]),
  (78, 2, .bipush (-9), 0, 0, -9, 0, []),
  (80, 3, .goto 26, 0, 0, 0, 0, [59]),
  (83, 1, .aload_n 0, 0, 0, 0, 0, []),
  (84, 1, .iconst 0, 0, 0, 0, 0, []),
  (85, 2, .iload 4, 0, 0, 0, 0, []),
  (87, 1, .iload_n 1, 0, 0, 0, 0, []),
  (88, 2, .bipush 10, 0, 0, 10, 0, []),
  (90, 1, .idiv, 0, 0, 0, 0, []),
  (91, 3, .if_icmp .ne 10, 0, 0, 0, 0, [57]),
  (94, 1, .iload_n 1, 0, 0, 0, 0, []),
  (95, 2, .bipush 10, 0, 0, 10, 0, []),
  (97, 1, .irem, 0, 0, 0, 0, []),
  (98, 3, .goto 5, 0, 0, 0, 0, [58]),
  (101, 2, .bipush 9, 0, 0, 9, 0, []),
  (103, 3, .invokevirtual 123, 103, 3, 0, 4132, []),
  (106, 2, .istore 5, 0, 0, 0, 0, []),
  (108, 2, .iload 5, 0, 0, 0, 0, []),
  (110, 2, .bipush (-9), 0, 0, -9, 0, []),
  (112, 3, .if_icmp .ne 8, 0, 0, 0, 0, [65]),
  (115, 2, .bipush (-9), 0, 0, -9, 0, []),
  (117, 3, .goto 9, 0, 0, 0, 0, [69]),
  (120, 1, .aload_n 0, 0, 0, 0, 0, []),
  (121, 1, .iconst 0, 0, 0, 0, 0, []),
  (122, 1, .iconst 4, 0, 0, 4, 0, []),
  (123, 3, .invokevirtual 123, 103, 3, 0, 4132, []),
  (126, 2, .istore 6, 0, 0, 0, 0, []),
  (128, 2, .iload 6, 0, 0, 0, 0, []),
  (130, 2, .bipush (-9), 0, 0, -9, 0, []),
  (132, 3, .if_icmp .ne 5, 0, 0, 0, 0, [75]),
  (135, 1, .iconst 0, 0, 0, 0, 0, []),
  (136, 1, .ireturn, 1, 0, 0, 0, []),
  (137, 1, .aload_n 0, 0, 0, 0, 0, []),
  (138, 3, .getfield 38, 7, 15, 0, 4021, []),
  (141, 1, .aload_n 0, 0, 0, 0, 0, []),
  (142, 3, .getfield 130, 7, 14, 0, 4020, []),
  (145, 1, .iload_n 2, 0, 0, 0, 0, [])]
def am_c105_2 : List am_E := [(146, 1, .iastore, 0, 0, 0, 0, []),
  (147, 1, .aload_n 0, 0, 0, 0, 0, []),
  (148, 3, .getfield 41, 7, 16, 0, 4022, []),
  (151, 1, .aload_n 0, 0, 0, 0, 0, []),
  (152, 3, .getfield 130, 7, 14, 0, 4020, []),
  (155, 1, .iload_n 3, 0, 0, 0, 0, []),
  (156, 1, .iastore, 0, 0, 0, 0, []),
  (157, 1, .aload_n 0, 0, 0, 0, 0, []),
  (158, 3, .getfield 44, 7, 17, 0, 4023, []),
  (161, 1, .aload_n 0, 0, 0, 0, 0, []),
  (162, 3, .getfield 130, 7, 14, 0, 4020, []),
  (165, 2, .bipush 10, 0, 0, 10, 0, []),
  (167, 2, .iload 4, 0, 0, 0, 0, []),
  (169, 1, .imul, 0, 0, 0, 0, []),
  (170, 2, .iload 5, 0, 0, 0, 0, []),
  (172, 1, .iadd, 0, 0, 0, 0, []),
  (173, 1, .iastore, 0, 0, 0, 0, []),
  (174, 1, .aload_n 0, 0, 0, 0, 0, []),
  (175, 3, .getfield 47, 7, 18, 0, 4024, []),
  (178, 1, .aload_n 0, 0, 0, 0, 0, []),
  (179, 3, .getfield 130, 7, 14, 0, 4020, []),
  (182, 2, .iload 6, 0, 0, 0, 0, []),
  (184, 1, .iastore, 0, 0, 0, 0, []),
  (185, 1, .aload_n 0, 0, 0, 0, 0, []),
  (186, 1, .dup, 0, 0, 0, 0, []),
  (187, 3, .getfield 130, 7, 14, 0, 4020, []),
  (190, 1, .iconst 1, 0, 0, 1, 0, []),
  (191, 1, .iadd, 0, 0, 0, 0, []),
  (192, 3, .putfield 130, 7, 14, 0, 4020, []),
  (195, 1, .iconst 1, 0, 0, 1, 0, []),
  (196, 1, .ireturn, 1, 0, 0, 0, [])]
def am_c105 : List am_E := am_c105_0 ++ am_c105_1 ++ am_c105_2
def am_c106_0 : List am_E := [(0, 1, .aload_n 0, 0, 0, 0, 0, []),
  (1, 3, .getfield 7, 7, 1, 0, 4007, []),
  (4, 1, .aload_n 0, 0, 0, 0, 0, []),
  (5, 3, .getfield 109, 7, 3, 0, 4009, []),
  (8, 1, .iaload, 0, 0, 0, 0, []),
  (9, 1, .istore_n 1, 0, 0, 0, 0, []),
  (10, 1, .iload_n 1, 0, 0, 0, 0, []),
  (11, 2, .bipush 82, 0, 0, 82, 0, []),
  (13, 3, .if_icmp .eq 9, 0, 0, 0, 0, [12]),
  (16, 1, .iload_n 1, 0, 0, 0, 0, []),
  (17, 2, .bipush 114, 0, 0, 114, 0, []),
  (19, 3, .if_icmp .ne 16, 0, 0, 0, 0, [18]),
  (22, 1, .aload_n 0, 0, 0, 0, 0, []),
  (23, 3, .getfield 116, 7, 20, 0, 4026, []),
  (26, 2, .bipush 7, 0, 0, 7, 0, []),
  (28, 3, .if_icmp .eq 7, 0, 0, 0, 0, [18]),
  (31, 1, .iconst 1, 0, 0, 1, 0, []),
  (32, 3, .goto 4, 0, 0, 0, 0, [19]),
  (35, 1, .iconst 0, 0, 0, 0, 0, []),
  (36, 1, .istore_n 2, 0, 0, 0, 0, []),
  (37, 1, .iload_n 1, 0, 0, 0, 0, []),
  (38, 2, .bipush 71, 0, 0, 71, 0, []),
  (40, 3, .if_icmp .ne 16, 0, 0, 0, 0, [29]),
  (43, 1, .aload_n 0, 0, 0, 0, 0, []),
  (44, 3, .getfield 130, 7, 14, 0, 4020, []),
  (47, 2, .bipush 8, 0, 0, 8, 0, []),
  (49, 3, .if_icmp .ge 7, 0, 0, 0, 0, [29]),
  (52, 1, .iconst 1, 0, 0, 1, 0, []),
  (53, 3, .goto 4, 0, 0, 0, 0, [30]),
  (56, 1, .iconst 0, 0, 0, 0, 0, []),
  (57, 1, .istore_n 3, 0, 0, 0, 0, []),
  (58, 1, .iload_n 2, 0, 0, 0, 0, []),
  (59, 3, .ifCond .ne 9, 0, 0, 0, 0, [37]),
  (62, 1, .iload_n 3, 0, 0, 0, 0, []),
  (63, 3, .ifCond .ne 5, 0, 0, 0, 0, [37]),
  (66, 1, .iconst 0, 0, 0, 0, 0, []),
  (67, 1, .ireturn, 1, 0, 0, 0, []),
  (68, 1, .aload_n 0, 0, 0, 0, 0, []),
  (69, 1, .dup, 0, 0, 0, 0, []),
  (70, 3, .getfield 109, 7, 3, 0, 4009, [])]
def am_c106_1 : List am_E := [(73, 1, .iconst 1, 0, 0, 1, 0, []),
  (74, 1, .iadd, 0, 0, 0, 0, []),
  (75, 3, .putfield 109, 7, 3, 0, 4009, []),
  (78, 1, .iload_n 2, 0, 0, 0, 0, []),
  (79, 3, .ifCond .eq 21, 0, 0, 0, 0, [54]),
  (82, 1, .aload_n 0, 0, 0, 0, 0, []),
  (83, 1, .iload_n 1, 0, 0, 0, 0, []),
  (84, 2, .bipush 82, 0, 0, 82, 0, []),
  (86, 3, .if_icmp .ne 7, 0, 0, 0, 0, [51]),
  (89, 1, .iconst 1, 0, 0, 1, 0, []),
  (90, 3, .goto 4, 0, 0, 0, 0, [52]),
  (93, 1, .iconst (-1), 0, 0, -1, 0, []),
  (94, 3, .invokevirtual 133, 104, 2, 0, 4140, []),
  (97, 3, .goto 7, 0, 0, 0, 0, [56]),
  (100, 1, .aload_n 0, 0, 0, 0, 0, []),
  (101, 3, .invokevirtual 136, 105, 1, 0, 4151, []),
  (104, 1, .ireturn, 1, 0, 0, 0, [])]
def am_c106 : List am_E := am_c106_0 ++ am_c106_1
def am_c107_0 : List am_E := [(0, 1, .aload_n 0, 0, 0, 0, 0, []),
  (1, 1, .iconst 0, 0, 0, 0, 0, []),
  (2, 3, .putfield 109, 7, 3, 0, 4009, []),
  (5, 1, .aload_n 0, 0, 0, 0, 0, []),
  (6, 1, .iconst 0, 0, 0, 0, 0, []),
  (7, 3, .putfield 130, 7, 14, 0, 4020, []),
  (10, 1, .aload_n 0, 0, 0, 0, 0, []),
  (11, 1, .iconst 0, 0, 0, 0, 0, []),
  (12, 3, .putfield 116, 7, 20, 0, 4026, []),
  (15, 1, .iconst 0, 0, 0, 0, 0, []),
  (16, 1, .istore_n 1, 0, 0, 0, 0, []),
  (17, 1, .iload_n 1, 0, 0, 0, 0, []),
  (18, 1, .iconst 3, 0, 0, 3, 0, []),
  (19, 3, .if_icmp .ge 16, 0, 0, 0, 0, [21]),
  (22, 1, .aload_n 0, 0, 0, 0, 0, []),
  (23, 3, .getfield 50, 7, 19, 0, 4025, []),
  (26, 1, .iload_n 1, 0, 0, 0, 0, []),
  (27, 1, .iconst 0, 0, 0, 0, 0, []),
  (28, 1, .iastore, 0, 0, 0, 0, []),
  (29, 3, .iinc 1 1, 0, 0, 0, 0, []),
  (32, 3, .goto (-15), 0, 0, 0, 0, [11]),
  (35, 1, .aload_n 0, 0, 0, 0, 0, []),
  (36, 3, .getfield 106, 7, 2, 0, 4008, []),
  (39, 3, .ifCond .eq 14, 0, 0, 0, 0, [30]),
  (42, 1, .aload_n 0, 0, 0, 0, 0, []),
  (43, 3, .getfield 7, 7, 1, 0, 4007, []),
  (46, 1, .iconst 0, 0, 0, 0, 0, []),
  (47, 1, .iaload, 0, 0, 0, 0, []),
  (48, 2, .bipush 85, 0, 0, 85, 0, []),
  (50, 3, .if_icmp .eq 5, 0, 0, 0, 0, [32]),
  (53, 1, .iconst 0, 0, 0, 0, 0, []),
  (54, 1, .ireturn, 0, 0, 0, 0, []),
  (55, 1, .aload_n 0, 0, 0, 0, 0, []),
  (56, 1, .iconst 1, 0, 0, 1, 0, []),
  (57, 3, .putfield 109, 7, 3, 0, 4009, []),
  (60, 1, .aload_n 0, 0, 0, 0, 0, []),
  (61, 1, .iconst 2, 0, 0, 2, 0, []),
  (62, 2, .bipush 9, 0, 0, 9, 0, []),
  (64, 3, .invokevirtual 123, 103, 3, 0, 4132, []),
  (67, 1, .istore_n 1, 0, 0, 0, 0, [])]
def am_c107_1 : List am_E := [(68, 1, .iload_n 1, 0, 0, 0, 0, []),
  (69, 2, .bipush (-9), 0, 0, -9, 0, []),
  (71, 3, .if_icmp .ne 5, 0, 0, 0, 0, [45]),
  (74, 1, .iconst 1, 0, 0, 1, 0, []),
  (75, 1, .ireturn, 0, 0, 0, 0, []),
  (76, 1, .aload_n 0, 0, 0, 0, 0, []),
  (77, 2, .bipush 6, 0, 0, 6, 0, []),
  (79, 1, .iload_n 1, 0, 0, 0, 0, []),
  (80, 1, .imul, 0, 0, 0, 0, []),
  (81, 3, .putfield 127, 7, 13, 0, 4019, []),
  (84, 1, .aload_n 0, 0, 0, 0, 0, []),
  (85, 3, .getfield 109, 7, 3, 0, 4009, []),
  (88, 1, .aload_n 0, 0, 0, 0, 0, []),
  (89, 3, .getfield 106, 7, 2, 0, 4008, []),
  (92, 3, .if_icmp .ge 15, 0, 0, 0, 0, [61]),
  (95, 1, .aload_n 0, 0, 0, 0, 0, []),
  (96, 3, .invokevirtual 140, 106, 1, 0, 4136, []),
  (99, 3, .ifCond .ne (-15), 0, 0, 0, 0, [50]),
  (102, 1, .aload_n 0, 0, 0, 0, 0, []),
  (103, 3, .getfield 109, 7, 3, 0, 4009, []),
  (106, 1, .ireturn, 0, 0, 0, 0, []),
  (107, 2, .bipush (-9), 0, 0, -9, 0, []),
  (109, 1, .ireturn, 0, 0, 0, 0, [])]
def am_c107 : List am_E := am_c107_0 ++ am_c107_1
def am_c108 : List am_E := [(0, 1, .aload_n 0, 0, 0, 0, 0, []),
  (1, 1, .iconst 0, 0, 0, 0, 0, []),
  (2, 3, .putfield 90, 7, 0, 0, 4006, []),
  (5, 1, .aload_n 0, 0, 0, 0, 0, []),
  (6, 3, .invokevirtual 143, 107, 1, 0, 4128, []),
  (9, 1, .ireturn, 0, 0, 0, 0, [])]
def am_c109_0 : List am_E := [(0, 1, .aload_n 0, 0, 0, 0, 0, []),
  (1, 1, .iconst 0, 0, 0, 0, 0, []),
  (2, 3, .putfield 90, 7, 0, 0, 4006, []),
  (5, 1, .aload_n 0, 0, 0, 0, 0, []),
  (6, 3, .invokevirtual 143, 107, 1, 0, 4128, []),
  (9, 2, .bipush (-9), 0, 0, -9, 0, []),
  (11, 3, .if_icmp .eq 6, 0, 0, 0, 0, [9]),
  (14, 2, .bipush (-3), 0, 0, -3, 0, []),
  (16, 1, .ireturn, 0, 0, 0, 0, []),
  (17, 1, .aload_n 0, 0, 0, 0, 0, []),
  (18, 1, .aload_n 0, 0, 0, 0, 0, []),
  (19, 3, .getfield 127, 7, 13, 0, 4019, []),
  (22, 3, .putfield 13, 7, 4, 0, 4010, []),
  (25, 1, .aload_n 0, 0, 0, 0, 0, []),
  (26, 1, .aload_n 0, 0, 0, 0, 0, []),
  (27, 3, .getfield 130, 7, 14, 0, 4020, []),
  (30, 3, .putfield 93, 7, 5, 0, 4011, []),
  (33, 1, .iconst 0, 0, 0, 0, 0, []),
  (34, 1, .istore_n 1, 0, 0, 0, 0, []),
  (35, 1, .iload_n 1, 0, 0, 0, 0, []),
  (36, 1, .aload_n 0, 0, 0, 0, 0, []),
  (37, 3, .getfield 93, 7, 5, 0, 4011, []),
  (40, 3, .if_icmp .ge 57, 0, 0, 0, 0, [57]),
  (43, 1, .aload_n 0, 0, 0, 0, 0, []),
  (44, 3, .getfield 17, 7, 6, 0, 4012, []),
  (47, 1, .iload_n 1, 0, 0, 0, 0, []),
  (48, 1, .aload_n 0, 0, 0, 0, 0, []),
  (49, 3, .getfield 38, 7, 15, 0, 4021, []),
  (52, 1, .iload_n 1, 0, 0, 0, 0, []),
  (53, 1, .iaload, 0, 0, 0, 0, []),
  (54, 1, .iastore, 0, 0, 0, 0, []),
  (55, 1, .aload_n 0, 0, 0, 0, 0, []),
  (56, 3, .getfield 20, 7, 7, 0, 4013, []),
  (59, 1, .iload_n 1, 0, 0, 0, 0, []),
  (60, 1, .aload_n 0, 0, 0, 0, 0, []),
  (61, 3, .getfield 41, 7, 16, 0, 4022, []),
  (64, 1, .iload_n 1, 0, 0, 0, 0, []),
  (65, 1, .iaload, 0, 0, 0, 0, []),
  (66, 1, .iastore, 0, 0, 0, 0, []),
  (67, 1, .aload_n 0, 0, 0, 0, 0, [])]
def am_c109_1 : List am_E := [(68, 3, .getfield 23, 7, 8, 0, 4014, []),
  (71, 1, .iload_n 1, 0, 0, 0, 0, []),
  (72, 1, .aload_n 0, 0, 0, 0, 0, []),
  (73, 3, .getfield 44, 7, 17, 0, 4023, []),
  (76, 1, .iload_n 1, 0, 0, 0, 0, []),
  (77, 1, .iaload, 0, 0, 0, 0, []),
  (78, 1, .iastore, 0, 0, 0, 0, []),
  (79, 1, .aload_n 0, 0, 0, 0, 0, []),
  (80, 3, .getfield 26, 7, 9, 0, 4015, []),
  (83, 1, .iload_n 1, 0, 0, 0, 0, []),
  (84, 1, .aload_n 0, 0, 0, 0, 0, []),
  (85, 3, .getfield 47, 7, 18, 0, 4024, []),
  (88, 1, .iload_n 1, 0, 0, 0, 0, []),
  (89, 1, .iaload, 0, 0, 0, 0, []),
  (90, 1, .iastore, 0, 0, 0, 0, []),
  (91, 3, .iinc 1 1, 0, 0, 0, 0, []),
  (94, 3, .goto (-59), 0, 0, 0, 0, [19]),
  (97, 1, .iconst 0, 0, 0, 0, 0, []),
  (98, 1, .istore_n 1, 0, 0, 0, 0, []),
  (99, 1, .iload_n 1, 0, 0, 0, 0, []),
  (100, 1, .iconst 3, 0, 0, 3, 0, []),
  (101, 3, .if_icmp .ge 35, 0, 0, 0, 0, [82]),
  (104, 1, .aload_n 0, 0, 0, 0, 0, []),
  (105, 3, .getfield 29, 7, 10, 0, 4016, []),
  (108, 1, .iload_n 1, 0, 0, 0, 0, []),
  (109, 1, .aload_n 0, 0, 0, 0, 0, []),
  (110, 3, .getfield 50, 7, 19, 0, 4025, []),
  (113, 1, .iload_n 1, 0, 0, 0, 0, []),
  (114, 1, .iaload, 0, 0, 0, 0, []),
  (115, 1, .iastore, 0, 0, 0, 0, []),
  (116, 1, .aload_n 0, 0, 0, 0, 0, []),
  (117, 3, .getfield 32, 7, 11, 0, 4017, []),
  (120, 1, .iload_n 1, 0, 0, 0, 0, []),
  (121, 1, .iconst 0, 0, 0, 0, 0, []),
  (122, 1, .iastore, 0, 0, 0, 0, []),
  (123, 1, .aload_n 0, 0, 0, 0, 0, []),
  (124, 3, .getfield 35, 7, 12, 0, 4018, []),
  (127, 1, .iload_n 1, 0, 0, 0, 0, []),
  (128, 1, .iconst 0, 0, 0, 0, 0, []),
  (129, 1, .iastore, 0, 0, 0, 0, [])]
def am_c109_2 : List am_E := [(130, 3, .iinc 1 1, 0, 0, 0, 0, []),
  (133, 3, .goto (-34), 0, 0, 0, 0, [59]),
  (136, 1, .aload_n 0, 0, 0, 0, 0, []),
  (137, 1, .iconst 0, 0, 0, 0, 0, []),
  (138, 3, .putfield 147, 7, 21, 0, 4027, []),
  (141, 1, .aload_n 0, 0, 0, 0, 0, []),
  (142, 3, .getfield 65, 7, 26, 0, 4032, []),
  (145, 1, .iconst 0, 0, 0, 0, 0, []),
  (146, 1, .iconst 0, 0, 0, 0, 0, []),
  (147, 1, .bastore, 0, 0, 0, 0, []),
  (148, 1, .aload_n 0, 0, 0, 0, 0, []),
  (149, 3, .getfield 65, 7, 26, 0, 4032, []),
  (152, 1, .iconst 1, 0, 0, 1, 0, []),
  (153, 1, .iconst 0, 0, 0, 0, 0, []),
  (154, 1, .bastore, 0, 0, 0, 0, []),
  (155, 1, .aload_n 0, 0, 0, 0, 0, []),
  (156, 3, .getfield 93, 7, 5, 0, 4011, []),
  (159, 1, .ireturn, 0, 0, 0, 0, [])]
def am_c109 : List am_E := am_c109_0 ++ am_c109_1 ++ am_c109_2
def am_c110 : List am_E := [(0, 1, .aload_n 0, 0, 0, 0, 0, []),
  (1, 1, .iconst 0, 0, 0, 0, 0, []),
  (2, 3, .putfield 90, 7, 0, 0, 4006, []),
  (5, 1, .iload_n 1, 0, 0, 0, 0, []),
  (6, 3, .ifCond .ne 10, 0, 0, 0, 0, [8]),
  (9, 1, .aload_n 0, 0, 0, 0, 0, []),
  (10, 3, .getfield 13, 7, 4, 0, 4010, []),
  (13, 3, .goto 41, 0, 0, 0, 0, [27]),
  (16, 1, .iload_n 1, 0, 0, 0, 0, []),
  (17, 1, .iconst 1, 0, 0, 1, 0, []),
  (18, 3, .if_icmp .ne 10, 0, 0, 0, 0, [14]),
  (21, 1, .aload_n 0, 0, 0, 0, 0, []),
  (22, 3, .getfield 93, 7, 5, 0, 4011, []),
  (25, 3, .goto 29, 0, 0, 0, 0, [27]),
  (28, 1, .iload_n 1, 0, 0, 0, 0, []),
  (29, 1, .iconst 2, 0, 0, 2, 0, []),
  (30, 3, .if_icmp .ne 10, 0, 0, 0, 0, [20]),
  (33, 1, .aload_n 0, 0, 0, 0, 0, []),
  (34, 3, .getfield 147, 7, 21, 0, 4027, []),
  (37, 3, .goto 17, 0, 0, 0, 0, [27]),
  (40, 1, .iload_n 1, 0, 0, 0, 0, []),
  (41, 1, .iconst 3, 0, 0, 3, 0, []),
  (42, 3, .if_icmp .ne 10, 0, 0, 0, 0, [26]),
  (45, 1, .aload_n 0, 0, 0, 0, 0, []),
  (46, 3, .getfield 106, 7, 2, 0, 4008, []),
  (49, 3, .goto 5, 0, 0, 0, 0, [27]),
  (52, 2, .bipush (-2), 0, 0, -2, 0, []),
  (54, 1, .ireturn, 0, 0, 0, 0, [])]
def am_c111 : List am_E := [(0, 1, .aload_n 0, 0, 0, 0, 0, []),
  (1, 1, .iconst 0, 0, 0, 0, 0, []),
  (2, 3, .putfield 90, 7, 0, 0, 4006, []),
  (5, 1, .aload_n 0, 0, 0, 0, 0, []),
  (6, 1, .iload_n 1, 0, 0, 0, 0, []),
  (7, 3, .invokevirtual 150, 98, 2, 0, 4167, []),
  (10, 3, .ifCond .eq 5, 0, 0, 0, 0, [9]),
  (13, 1, .iconst (-1), 0, 0, -1, 0, []),
  (14, 1, .ireturn, 0, 0, 0, 0, []),
  (15, 1, .iload_n 2, 0, 0, 0, 0, []),
  (16, 32, .tableswitch 60 0 3 #[32, 39, 46, 53], 0, 0, 0, 0, [31, 11, 16, 21, 26]),
  (48, 1, .aload_n 0, 0, 0, 0, 0, []),
  (49, 3, .getfield 17, 7, 6, 0, 4012, []),
  (52, 1, .iload_n 1, 0, 0, 0, 0, []),
  (53, 1, .iaload, 0, 0, 0, 0, []),
  (54, 1, .ireturn, 0, 0, 0, 0, []),
  (55, 1, .aload_n 0, 0, 0, 0, 0, []),
  (56, 3, .getfield 20, 7, 7, 0, 4013, []),
  (59, 1, .iload_n 1, 0, 0, 0, 0, []),
  (60, 1, .iaload, 0, 0, 0, 0, []),
  (61, 1, .ireturn, 0, 0, 0, 0, []),
  (62, 1, .aload_n 0, 0, 0, 0, 0, []),
  (63, 3, .getfield 23, 7, 8, 0, 4014, []),
  (66, 1, .iload_n 1, 0, 0, 0, 0, []),
  (67, 1, .iaload, 0, 0, 0, 0, []),
  (68, 1, .ireturn, 0, 0, 0, 0, []),
  (69, 1, .aload_n 0, 0, 0, 0, 0, []),
  (70, 3, .getfield 26, 7, 9, 0, 4015, []),
  (73, 1, .iload_n 1, 0, 0, 0, 0, []),
  (74, 1, .iaload, 0, 0, 0, 0, []),
  (75, 1, .ireturn, 0, 0, 0, 0, []),
  (76, 2, .bipush (-2), 0, 0, -2, 0, []),
  (78, 1, .ireturn, 0, 0, 0, 0, [])]
def am_c112 : List am_E := [(0, 1, .aload_n 0, 0, 0, 0, 0, []),
  (1, 1, .iconst 0, 0, 0, 0, 0, []),
  (2, 3, .putfield 90, 7, 0, 0, 4006, []),
  (5, 1, .iload_n 1, 0, 0, 0, 0, []),
  (6, 3, .invokestatic 112, 100, 1, 0, 4144, []),
  (9, 3, .ifCond .eq 7, 0, 0, 0, 0, [8]),
  (12, 1, .iconst (-1), 0, 0, -1, 0, []),
  (13, 3, .goto 12, 0, 0, 0, 0, [14]),
  (16, 2, .bipush 10, 0, 0, 10, 0, []),
  (18, 1, .aload_n 0, 0, 0, 0, 0, []),
  (19, 3, .getfield 29, 7, 10, 0, 4016, []),
  (22, 1, .iload_n 1, 0, 0, 0, 0, []),
  (23, 1, .iaload, 0, 0, 0, 0, []),
  (24, 1, .iadd, 0, 0, 0, 0, []),
  (25, 1, .ireturn, 0, 0, 0, 0, [])]
def am_c113 : List am_E := [(0, 1, .aload_n 0, 0, 0, 0, 0, []),
  (1, 1, .iconst 0, 0, 0, 0, 0, []),
  (2, 3, .putfield 90, 7, 0, 0, 4006, []),
  (5, 1, .iload_n 1, 0, 0, 0, 0, []),
  (6, 3, .invokestatic 112, 100, 1, 0, 4144, []),
  (9, 3, .ifCond .eq 5, 0, 0, 0, 0, [8]),
  (12, 1, .iconst (-1), 0, 0, -1, 0, []),
  (13, 1, .ireturn, 0, 0, 0, 0, []),
  (14, 1, .iload_n 2, 0, 0, 0, 0, []),
  (15, 1, .i2l, 0, 0, 0, 0, []),
  (16, 3, .ldc2_w 153, 0, 0, -9, 4179, []),
  (19, 3, .ldc2_w 155, 0, 0, 9, 4180, []),
  (22, 3, .invokestatic 96, 95, 3, 0, 4117, []),
  (25, 3, .ifCond .ne 6, 0, 0, 0, 0, [16]),
  (28, 2, .bipush (-2), 0, 0, -2, 0, []),
  (30, 1, .ireturn, 0, 0, 0, 0, []),
  (31, 1, .aload_n 0, 0, 0, 0, 0, []),
  (32, 3, .getfield 29, 7, 10, 0, 4016, []),
  (35, 1, .iload_n 1, 0, 0, 0, 0, []),
  (36, 1, .iaload, 0, 0, 0, 0, []),
  (37, 1, .istore_n 3, 0, 0, 0, 0, []),
  (38, 1, .aload_n 0, 0, 0, 0, 0, []),
  (39, 3, .getfield 29, 7, 10, 0, 4016, []),
  (42, 1, .iload_n 1, 0, 0, 0, 0, []),
  (43, 1, .iload_n 2, 0, 0, 0, 0, []),
  (44, 1, .iastore, 0, 0, 0, 0, []),
  (45, 2, .bipush 10, 0, 0, 10, 0, []),
  (47, 1, .iload_n 3, 0, 0, 0, 0, []),
  (48, 1, .iadd, 0, 0, 0, 0, []),
  (49, 1, .ireturn, 0, 0, 0, 0, [])]
def am_c114 : List am_E := [(0, 1, .aload_n 0, 0, 0, 0, 0, []),
  (1, 1, .iconst 0, 0, 0, 0, 0, []),
  (2, 3, .putfield 90, 7, 0, 0, 4006, []),
  (5, 1, .iload_n 1, 0, 0, 0, 0, []),
  (6, 3, .invokestatic 112, 100, 1, 0, 4144, []),
  (9, 3, .ifCond .eq 5, 0, 0, 0, 0, [8]),
  (12, 1, .iconst (-1), 0, 0, -1, 0, []),
  (13, 1, .ireturn, 0, 0, 0, 0, []),
  (14, 1, .iload_n 2, 0, 0, 0, 0, []),
  (15, 1, .i2l, 0, 0, 0, 0, []),
  (16, 1, .lconst 0, 0, 0, 0, 0, []),
  (17, 3, .ldc2_w 157, 0, 0, 99, 4185, []),
  (20, 3, .invokestatic 96, 95, 3, 0, 4117, []),
  (23, 3, .ifCond .eq 15, 0, 0, 0, 0, [20]),
  (26, 1, .iload_n 3, 0, 0, 0, 0, []),
  (27, 1, .i2l, 0, 0, 0, 0, []),
  (28, 1, .lconst 0, 0, 0, 0, 0, []),
  (29, 3, .ldc2_w 157, 0, 0, 99, 4185, []),
  (32, 3, .invokestatic 96, 95, 3, 0, 4117, []),
  (35, 3, .ifCond .ne 6, 0, 0, 0, 0, [22]),
  (38, 2, .bipush (-2), 0, 0, -2, 0, []),
  (40, 1, .ireturn, 0, 0, 0, 0, []),
  (41, 1, .aload_n 0, 0, 0, 0, 0, []),
  (42, 3, .getfield 35, 7, 12, 0, 4018, []),
  (45, 1, .iload_n 1, 0, 0, 0, 0, []),
  (46, 1, .iaload, 0, 0, 0, 0, []),
  (47, 2, .istore 4, 0, 0, 0, 0, []),
  (49, 1, .aload_n 0, 0, 0, 0, 0, []),
  (50, 3, .getfield 32, 7, 11, 0, 4017, []),
  (53, 1, .iload_n 1, 0, 0, 0, 0, []),
  (54, 1, .iload_n 2, 0, 0, 0, 0, []),
  (55, 1, .iastore, 0, 0, 0, 0, []),
  (56, 1, .aload_n 0, 0, 0, 0, 0, []),
  (57, 3, .getfield 35, 7, 12, 0, 4018, []),
  (60, 1, .iload_n 1, 0, 0, 0, 0, []),
  (61, 1, .iload_n 3, 0, 0, 0, 0, []),
  (62, 1, .iastore, 0, 0, 0, 0, []),
  (63, 2, .iload 4, 0, 0, 0, 0, []),
  (65, 1, .ireturn, 0, 0, 0, 0, [])]
def am_c115_0 : List am_E := [(0, 1, .aload_n 0, 0, 0, 0, 0, []),
  (1, 1, .iconst 0, 0, 0, 0, 0, []),
  (2, 3, .putfield 90, 7, 0, 0, 4006, []),
  (5, 1, .iload_n 1, 0, 0, 0, 0, []),
  (6, 1, .i2l, 0, 0, 0, 0, []),
  (7, 1, .lconst 0, 0, 0, 0, 0, []),
  (8, 3, .ldc2_w 155, 0, 0, 9, 4180, []),
  (11, 3, .invokestatic 96, 95, 3, 0, 4117, []),
  (14, 3, .ifCond .ne 6, 0, 0, 0, 0, [11]),
  (17, 2, .bipush (-2), 0, 0, -2, 0, []),
  (19, 1, .ireturn, 0, 0, 0, 0, []),
  (20, 1, .iconst 0, 0, 0, 0, 0, []),
  (21, 1, .istore_n 2, 0, 0, 0, 0, []),
  (22, 1, .iconst 0, 0, 0, 0, 0, []),
  (23, 1, .istore_n 3, 0, 0, 0, 0, []),
  (24, 1, .iload_n 3, 0, 0, 0, 0, []),
  (25, 1, .iconst 3, 0, 0, 3, 0, []),
  (26, 3, .if_icmp .ge 88, 0, 0, 0, 0, [66]),
  (29, 1, .aload_n 0, 0, 0, 0, 0, []),
  (30, 3, .getfield 29, 7, 10, 0, 4016, []),
  (33, 1, .iload_n 3, 0, 0, 0, 0, []),
  (34, 1, .iaload, 0, 0, 0, 0, []),
  (35, 3, .ifCond .ge 13, 0, 0, 0, 0, [29]),
  (38, 1, .aload_n 0, 0, 0, 0, 0, []),
  (39, 3, .getfield 29, 7, 10, 0, 4016, []),
  (42, 1, .iload_n 3, 0, 0, 0, 0, []),
  (43, 1, .iaload, 0, 0, 0, 0, []),
  (44, 1, .ineg, 0, 0, 0, 0, []),
  (45, 3, .goto 9, 0, 0, 0, 0, [33]),
  (48, 1, .aload_n 0, 0, 0, 0, 0, []),
  (49, 3, .getfield 29, 7, 10, 0, 4016, []),
  (52, 1, .iload_n 3, 0, 0, 0, 0, []),
  (53, 1, .iaload, 0, 0, 0, 0, []),
  (54, 2, .istore 4, 0, 0, 0, 0, []),
  (56, 2, .iload 4, 0, 0, 0, 0, []),
  (58, 1, .iload_n 1, 0, 0, 0, 0, []),
  (59, 3, .if_icmp .le 10, 0, 0, 0, 0, [41]),
  (62, 2, .iload 4, 0, 0, 0, 0, []),
  (64, 1, .iload_n 1, 0, 0, 0, 0, []),
  (65, 1, .isub, 0, 0, 0, 0, [])]
def am_c115_1 : List am_E := [(66, 3, .goto 4, 0, 0, 0, 0, [42]),
  (69, 1, .iconst 0, 0, 0, 0, 0, []),
  (70, 2, .istore 5, 0, 0, 0, 0, []),
  (72, 1, .aload_n 0, 0, 0, 0, 0, []),
  (73, 3, .getfield 29, 7, 10, 0, 4016, []),
  (76, 1, .iload_n 3, 0, 0, 0, 0, []),
  (77, 1, .aload_n 0, 0, 0, 0, 0, []),
  (78, 3, .getfield 29, 7, 10, 0, 4016, []),
  (81, 1, .iload_n 3, 0, 0, 0, 0, []),
  (82, 1, .iaload, 0, 0, 0, 0, []),
  (83, 3, .ifCond .ge 9, 0, 0, 0, 0, [54]),
  (86, 2, .iload 5, 0, 0, 0, 0, []),
  (88, 1, .ineg, 0, 0, 0, 0, []),
  (89, 3, .goto 5, 0, 0, 0, 0, [55]),
  (92, 2, .iload 5, 0, 0, 0, 0, []),
  (94, 1, .iastore, 0, 0, 0, 0, []),
  (95, 1, .iload_n 2, 0, 0, 0, 0, []),
  (96, 2, .iload 5, 0, 0, 0, 0, []),
  (98, 3, .ifCond .ne 7, 0, 0, 0, 0, [61]),
  (101, 1, .iconst 1, 0, 0, 1, 0, []),
  (102, 3, .goto 4, 0, 0, 0, 0, [62]),
  (105, 1, .iconst 0, 0, 0, 0, 0, []),
  (106, 1, .iadd, 0, 0, 0, 0, []),
  (107, 1, .istore_n 2, 0, 0, 0, 0, []),
  (108, 3, .iinc 3 1, 0, 0, 0, 0, []),
  (111, 3, .goto (-87), 0, 0, 0, 0, [15]),
  (114, 1, .iload_n 2, 0, 0, 0, 0, []),
  (115, 1, .ireturn, 0, 0, 0, 0, [])]
def am_c115 : List am_E := am_c115_0 ++ am_c115_1
def am_c116 : List am_E := [(0, 1, .aload_n 0, 0, 0, 0, 0, []),
  (1, 3, .getfield 32, 7, 11, 0, 4017, []),
  (4, 1, .iload_n 1, 0, 0, 0, 0, []),
  (5, 1, .iaload, 0, 0, 0, 0, []),
  (6, 1, .aload_n 0, 0, 0, 0, 0, []),
  (7, 3, .getfield 35, 7, 12, 0, 4018, []),
  (10, 1, .iload_n 1, 0, 0, 0, 0, []),
  (11, 1, .iaload, 0, 0, 0, 0, []),
  (12, 1, .iadd, 0, 0, 0, 0, []),
  (13, 1, .istore_n 3, 0, 0, 0, 0, []),
  (14, 1, .iload_n 2, 0, 0, 0, 0, []),
  (15, 1, .aload_n 0, 0, 0, 0, 0, []),
  (16, 3, .getfield 32, 7, 11, 0, 4017, []),
  (19, 1, .iload_n 1, 0, 0, 0, 0, []),
  (20, 1, .iaload, 0, 0, 0, 0, []),
  (21, 3, .if_icmp .gt 7, 0, 0, 0, 0, [18]),
  (24, 1, .iconst 0, 0, 0, 0, 0, []),
  (25, 3, .goto 25, 0, 0, 0, 0, [32]),
  (28, 1, .iload_n 2, 0, 0, 0, 0, []),
  (29, 1, .iload_n 3, 0, 0, 0, 0, []),
  (30, 3, .if_icmp .ge 14, 0, 0, 0, 0, [28]),
  (33, 1, .iload_n 2, 0, 0, 0, 0, []),
  (34, 1, .aload_n 0, 0, 0, 0, 0, []),
  (35, 3, .getfield 32, 7, 11, 0, 4017, []),
  (38, 1, .iload_n 1, 0, 0, 0, 0, []),
  (39, 1, .iaload, 0, 0, 0, 0, []),
  (40, 1, .isub, 0, 0, 0, 0, []),
  (41, 3, .goto 9, 0, 0, 0, 0, [32]),
  (44, 1, .aload_n 0, 0, 0, 0, 0, []),
  (45, 3, .getfield 35, 7, 12, 0, 4018, []),
  (48, 1, .iload_n 1, 0, 0, 0, 0, []),
  (49, 1, .iaload, 0, 0, 0, 0, []),
  (50, 2, .istore 4, 0, 0, 0, 0, []),
  (52, 1, .iload_n 2, 0, 0, 0, 0, []),
  (53, 2, .iload 4, 0, 0, 0, 0, []),
  (55, 1, .isub, 0, 0, 0, 0, []),
  (56, 1, .ireturn, 0, 0, 0, 0, [])]
def am_c117_0 : List am_E := [(0, 1, .aload_n 0, 0, 0, 0, 0, []),
  (1, 3, .getfield 26, 7, 9, 0, 4015, []),
  (4, 1, .iload_n 1, 0, 0, 0, 0, []),
  (5, 1, .iaload, 0, 0, 0, 0, []),
  (6, 1, .iconst 3, 0, 0, 3, 0, []),
  (7, 3, .if_icmp .ne 14, 0, 0, 0, 0, [13]),
  (10, 1, .iload_n 3, 0, 0, 0, 0, []),
  (11, 1, .iconst 2, 0, 0, 2, 0, []),
  (12, 1, .irem, 0, 0, 0, 0, []),
  (13, 1, .iconst 1, 0, 0, 1, 0, []),
  (14, 3, .if_icmp .ne 7, 0, 0, 0, 0, [13]),
  (17, 1, .iconst 1, 0, 0, 1, 0, []),
  (18, 3, .goto 4, 0, 0, 0, 0, [14]),
  (21, 1, .iconst 0, 0, 0, 0, 0, []),
  (22, 2, .istore 4, 0, 0, 0, 0, []),
  (24, 1, .aload_n 0, 0, 0, 0, 0, []),
  (25, 3, .getfield 23, 7, 8, 0, 4014, []),
  (28, 1, .iload_n 1, 0, 0, 0, 0, []),
  (29, 1, .iaload, 0, 0, 0, 0, []),
  (30, 2, .iload 4, 0, 0, 0, 0, []),
  (32, 1, .iadd, 0, 0, 0, 0, []),
  (33, 1, .aload_n 0, 0, 0, 0, 0, []),
  (34, 3, .getfield 29, 7, 10, 0, 4016, []),
  (37, 1, .aload_n 0, 0, 0, 0, 0, []),
  (38, 3, .getfield 17, 7, 6, 0, 4012, []),
  (41, 1, .iload_n 1, 0, 0, 0, 0, []),
  (42, 1, .iaload, 0, 0, 0, 0, []),
  (43, 1, .iaload, 0, 0, 0, 0, []),
  (44, 1, .iload_n 2, 0, 0, 0, 0, []),
  (45, 1, .imul, 0, 0, 0, 0, []),
  (46, 1, .iadd, 0, 0, 0, 0, []),
  (47, 1, .aload_n 0, 0, 0, 0, 0, []),
  (48, 3, .getfield 13, 7, 4, 0, 4010, []),
  (51, 1, .irem, 0, 0, 0, 0, []),
  (52, 2, .istore 5, 0, 0, 0, 0, []),
  (54, 2, .iload 5, 0, 0, 0, 0, []),
  (56, 3, .ifCond .ge 13, 0, 0, 0, 0, [42]),
  (59, 2, .iload 5, 0, 0, 0, 0, []),
  (61, 1, .aload_n 0, 0, 0, 0, 0, []),
  (62, 3, .getfield 13, 7, 4, 0, 4010, [])]
def am_c117_1 : List am_E := [(65, 1, .iadd, 0, 0, 0, 0, []),
  (66, 3, .goto 5, 0, 0, 0, 0, [43]),
  (69, 2, .iload 5, 0, 0, 0, 0, []),
  (71, 1, .ireturn, 0, 0, 0, 0, [])]
def am_c117 : List am_E := am_c117_0 ++ am_c117_1
def am_c118 : List am_E := [(0, 1, .aload_n 0, 0, 0, 0, 0, []),
  (1, 1, .iload_n 1, 0, 0, 0, 0, []),
  (2, 1, .aload_n 0, 0, 0, 0, 0, []),
  (3, 1, .aload_n 0, 0, 0, 0, 0, []),
  (4, 3, .getfield 17, 7, 6, 0, 4012, []),
  (7, 1, .iload_n 1, 0, 0, 0, 0, []),
  (8, 1, .iaload, 0, 0, 0, 0, []),
  (9, 1, .iload_n 2, 0, 0, 0, 0, []),
  (10, 3, .invokevirtual 159, 116, 3, 0, 4202, []),
  (13, 1, .iload_n 2, 0, 0, 0, 0, []),
  (14, 3, .invokevirtual 162, 117, 4, 0, 4206, []),
  (17, 1, .ireturn, 0, 0, 0, 0, [])]
def am_c119 : List am_E := [(0, 1, .aload_n 0, 0, 0, 0, 0, []),
  (1, 1, .iconst 0, 0, 0, 0, 0, []),
  (2, 3, .putfield 90, 7, 0, 0, 4006, []),
  (5, 1, .aload_n 0, 0, 0, 0, 0, []),
  (6, 1, .iload_n 1, 0, 0, 0, 0, []),
  (7, 3, .invokevirtual 150, 98, 2, 0, 4167, []),
  (10, 3, .ifCond .ne 10, 0, 0, 0, 0, [10]),
  (13, 1, .iload_n 2, 0, 0, 0, 0, []),
  (14, 3, .invokestatic 166, 99, 1, 0, 4194, []),
  (17, 3, .ifCond .eq 7, 0, 0, 0, 0, [12]),
  (20, 1, .iconst (-1), 0, 0, -1, 0, []),
  (21, 3, .goto 9, 0, 0, 0, 0, [16]),
  (24, 1, .aload_n 0, 0, 0, 0, 0, []),
  (25, 1, .iload_n 1, 0, 0, 0, 0, []),
  (26, 1, .iload_n 2, 0, 0, 0, 0, []),
  (27, 3, .invokevirtual 169, 118, 3, 0, 4198, []),
  (30, 1, .ireturn, 0, 0, 0, 0, [])]
def am_c120_0 : List am_E := [(0, 1, .aload_n 0, 0, 0, 0, 0, []),
  (1, 3, .getfield 17, 7, 6, 0, 4012, []),
  (4, 1, .iload_n 1, 0, 0, 0, 0, []),
  (5, 1, .iaload, 0, 0, 0, 0, []),
  (6, 1, .aload_n 0, 0, 0, 0, 0, []),
  (7, 3, .getfield 17, 7, 6, 0, 4012, []),
  (10, 1, .iload_n 2, 0, 0, 0, 0, []),
  (11, 1, .iaload, 0, 0, 0, 0, []),
  (12, 3, .if_icmp .ge 7, 0, 0, 0, 0, [11]),
  (15, 1, .iload_n 1, 0, 0, 0, 0, []),
  (16, 3, .goto 4, 0, 0, 0, 0, [12]),
  (19, 1, .iload_n 2, 0, 0, 0, 0, []),
  (20, 1, .istore_n 3, 0, 0, 0, 0, []),
  (21, 1, .iload_n 3, 0, 0, 0, 0, []),
  (22, 1, .iload_n 1, 0, 0, 0, 0, []),
  (23, 3, .if_icmp .ne 7, 0, 0, 0, 0, [18]),
  (26, 1, .iload_n 2, 0, 0, 0, 0, []),
  (27, 3, .goto 4, 0, 0, 0, 0, [19]),
  (30, 1, .iload_n 1, 0, 0, 0, 0, []),
  (31, 2, .istore 4, 0, 0, 0, 0, []),
  (33, 1, .aload_n 0, 0, 0, 0, 0, []),
  (34, 3, .getfield 17, 7, 6, 0, 4012, []),
  (37, 2, .iload 4, 0, 0, 0, 0, []),
  (39, 1, .iaload, 0, 0, 0, 0, []),
  (40, 1, .aload_n 0, 0, 0, 0, 0, []),
  (41, 3, .getfield 17, 7, 6, 0, 4012, []),
  (44, 1, .iload_n 3, 0, 0, 0, 0, []),
  (45, 1, .iaload, 0, 0, 0, 0, []),
  (46, 1, .iconst 1, 0, 0, 1, 0, []),
  (47, 1, .iadd, 0, 0, 0, 0, []),
  (48, 3, .if_icmp .ne 27, 0, 0, 0, 0, [44]),
  (51, 1, .aload_n 0, 0, 0, 0, 0, []),
  (52, 3, .getfield 20, 7, 7, 0, 4013, []),
  (55, 1, .iload_n 3, 0, 0, 0, 0, []),
  (56, 1, .iaload, 0, 0, 0, 0, []),
  (57, 3, .ifCond .ne 18, 0, 0, 0, 0, [44]),
  (60, 1, .aload_n 0, 0, 0, 0, 0, []),
  (61, 3, .getfield 20, 7, 7, 0, 4013, []),
  (64, 2, .iload 4, 0, 0, 0, 0, []),
  (66, 1, .iaload, 0, 0, 0, 0, [])]
def am_c120_1 : List am_E := [(67, 1, .iconst 1, 0, 0, 1, 0, []),
  (68, 3, .if_icmp .ne 7, 0, 0, 0, 0, [44]),
  (71, 1, .iconst 1, 0, 0, 1, 0, []),
  (72, 3, .goto 4, 0, 0, 0, 0, [45]),
  (75, 1, .iconst 0, 0, 0, 0, 0, []),
  (76, 1, .ireturn, 1, 0, 0, 0, [])]
def am_c120 : List am_E := am_c120_0 ++ am_c120_1
def am_c121_0 : List am_E := [(0, 1, .iload_n 3, 0, 0, 0, 0, []),
  (1, 2, .iload 4, 0, 0, 0, 0, []),
  (3, 3, .if_icmp .le 10, 0, 0, 0, 0, [7]),
  (6, 1, .iload_n 3, 0, 0, 0, 0, []),
  (7, 2, .iload 4, 0, 0, 0, 0, []),
  (9, 1, .isub, 0, 0, 0, 0, []),
  (10, 3, .goto 7, 0, 0, 0, 0, [10]),
  (13, 2, .iload 4, 0, 0, 0, 0, []),
  (15, 1, .iload_n 3, 0, 0, 0, 0, []),
  (16, 1, .isub, 0, 0, 0, 0, []),
  (17, 2, .istore 6, 0, 0, 0, 0, []),
  (19, 2, .iload 6, 0, 0, 0, 0, []),
  (21, 3, .ifCond .eq 40, 0, 0, 0, 0, [34]),
  (24, 1, .aload_n 0, 0, 0, 0, 0, []),
  (25, 3, .getfield 26, 7, 9, 0, 4015, []),
  (28, 1, .iload_n 1, 0, 0, 0, 0, []),
  (29, 1, .iaload, 0, 0, 0, 0, []),
  (30, 1, .iconst 1, 0, 0, 1, 0, []),
  (31, 3, .if_icmp .eq 13, 0, 0, 0, 0, [25]),
  (34, 1, .aload_n 0, 0, 0, 0, 0, []),
  (35, 3, .getfield 26, 7, 9, 0, 4015, []),
  (38, 1, .iload_n 2, 0, 0, 0, 0, []),
  (39, 1, .iaload, 0, 0, 0, 0, []),
  (40, 1, .iconst 1, 0, 0, 1, 0, []),
  (41, 3, .if_icmp .ne 24, 0, 0, 0, 0, [36]),
  (44, 2, .iload 6, 0, 0, 0, 0, []),
  (46, 1, .iconst 1, 0, 0, 1, 0, []),
  (47, 3, .if_icmp .eq 14, 0, 0, 0, 0, [34]),
  (50, 2, .iload 6, 0, 0, 0, 0, []),
  (52, 1, .aload_n 0, 0, 0, 0, 0, []),
  (53, 3, .getfield 13, 7, 4, 0, 4010, []),
  (56, 1, .iconst 1, 0, 0, 1, 0, []),
  (57, 1, .isub, 0, 0, 0, 0, []),
  (58, 3, .if_icmp .ne 7, 0, 0, 0, 0, [36]),
  (61, 1, .iconst 1, 0, 0, 1, 0, []),
  (62, 3, .goto 4, 0, 0, 0, 0, [37]),
  (65, 1, .iconst 0, 0, 0, 0, 0, []),
  (66, 2, .istore 7, 0, 0, 0, 0, []),
  (68, 1, .aload_n 0, 0, 0, 0, 0, []),
  (69, 3, .getfield 17, 7, 6, 0, 4012, [])]
def am_c121_1 : List am_E := [(72, 1, .iload_n 1, 0, 0, 0, 0, []),
  (73, 1, .iaload, 0, 0, 0, 0, []),
  (74, 1, .aload_n 0, 0, 0, 0, 0, []),
  (75, 3, .getfield 17, 7, 6, 0, 4012, []),
  (78, 1, .iload_n 2, 0, 0, 0, 0, []),
  (79, 1, .iaload, 0, 0, 0, 0, []),
  (80, 3, .if_icmp .le 27, 0, 0, 0, 0, [61]),
  (83, 1, .aload_n 0, 0, 0, 0, 0, []),
  (84, 3, .getfield 26, 7, 9, 0, 4015, []),
  (87, 1, .iload_n 1, 0, 0, 0, 0, []),
  (88, 1, .iaload, 0, 0, 0, 0, []),
  (89, 1, .iconst 2, 0, 0, 2, 0, []),
  (90, 3, .if_icmp .eq 13, 0, 0, 0, 0, [59]),
  (93, 1, .aload_n 0, 0, 0, 0, 0, []),
  (94, 3, .getfield 26, 7, 9, 0, 4015, []),
  (97, 1, .iload_n 2, 0, 0, 0, 0, []),
  (98, 1, .iaload, 0, 0, 0, 0, []),
  (99, 1, .iconst 2, 0, 0, 2, 0, []),
  (100, 3, .if_icmp .ne 7, 0, 0, 0, 0, [61]),
  (103, 1, .iconst 1, 0, 0, 1, 0, []),
  (104, 3, .goto 4, 0, 0, 0, 0, [62]),
  (107, 1, .iconst 0, 0, 0, 0, 0, []),
  (108, 2, .istore 8, 0, 0, 0, 0, []),
  (110, 1, .aload_n 0, 0, 0, 0, 0, []),
  (111, 3, .getfield 26, 7, 9, 0, 4015, []),
  (114, 1, .iload_n 1, 0, 0, 0, 0, []),
  (115, 1, .iaload, 0, 0, 0, 0, []),
  (116, 1, .iconst 4, 0, 0, 4, 0, []),
  (117, 3, .if_icmp .eq 13, 0, 0, 0, 0, [75]),
  (120, 1, .aload_n 0, 0, 0, 0, 0, []),
  (121, 3, .getfield 26, 7, 9, 0, 4015, []),
  (124, 1, .iload_n 2, 0, 0, 0, 0, []),
  (125, 1, .iaload, 0, 0, 0, 0, []),
  (126, 1, .iconst 4, 0, 0, 4, 0, []),
  (127, 3, .if_icmp .ne 14, 0, 0, 0, 0, [81]),
  (130, 2, .iload 5, 0, 0, 0, 0, []),
  (132, 1, .iconst 3, 0, 0, 3, 0, []),
  (133, 1, .irem, 0, 0, 0, 0, []),
  (134, 3, .ifCond .eq 7, 0, 0, 0, 0, [81]),
  (137, 1, .iconst 1, 0, 0, 1, 0, [])]
def am_c121_2 : List am_E := [(138, 3, .goto 4, 0, 0, 0, 0, [82]),
  (141, 1, .iconst 0, 0, 0, 0, 0, []),
  (142, 2, .istore 9, 0, 0, 0, 0, []),
  (144, 2, .iload 7, 0, 0, 0, 0, []),
  (146, 3, .ifCond .eq 17, 0, 0, 0, 0, [91]),
  (149, 2, .iload 8, 0, 0, 0, 0, []),
  (151, 3, .ifCond .ne 12, 0, 0, 0, 0, [91]),
  (154, 2, .iload 9, 0, 0, 0, 0, []),
  (156, 3, .ifCond .ne 7, 0, 0, 0, 0, [91]),
  (159, 1, .iconst 1, 0, 0, 1, 0, []),
  (160, 3, .goto 4, 0, 0, 0, 0, [92]),
  (163, 1, .iconst 0, 0, 0, 0, 0, []),
  (164, 1, .ireturn, 1, 0, 0, 0, [])]
def am_c121 : List am_E := am_c121_0 ++ am_c121_1 ++ am_c121_2
def am_c122 : List am_E := [(0, 1, .aload_n 0, 0, 0, 0, 0, []),
  (1, 1, .iload_n 1, 0, 0, 0, 0, []),
  (2, 1, .iload_n 2, 0, 0, 0, 0, []),
  (3, 3, .invokevirtual 172, 120, 3, 0, 4218, []),
  (6, 3, .ifCond .eq 29, 0, 0, 0, 0, [21]),
  (9, 1, .aload_n 0, 0, 0, 0, 0, []),
  (10, 1, .iload_n 1, 0, 0, 0, 0, []),
  (11, 1, .iload_n 2, 0, 0, 0, 0, []),
  (12, 1, .aload_n 0, 0, 0, 0, 0, []),
  (13, 1, .iload_n 1, 0, 0, 0, 0, []),
  (14, 1, .iload_n 3, 0, 0, 0, 0, []),
  (15, 3, .invokevirtual 169, 118, 3, 0, 4198, []),
  (18, 1, .aload_n 0, 0, 0, 0, 0, []),
  (19, 1, .iload_n 2, 0, 0, 0, 0, []),
  (20, 1, .iload_n 3, 0, 0, 0, 0, []),
  (21, 3, .invokevirtual 169, 118, 3, 0, 4198, []),
  (24, 1, .iload_n 3, 0, 0, 0, 0, []),
  (25, 3, .invokevirtual 175, 121, 6, 0, 4222, []),
  (28, 3, .ifCond .eq 7, 0, 0, 0, 0, [21]),
  (31, 1, .iconst 1, 0, 0, 1, 0, []),
  (32, 3, .goto 4, 0, 0, 0, 0, [22]),
  (35, 1, .iconst 0, 0, 0, 0, 0, []),
  (36, 1, .ireturn, 1, 0, 0, 0, [])]
def am_c123 : List am_E := [(0, 1, .aload_n 0, 0, 0, 0, 0, []),
  (1, 1, .iconst 0, 0, 0, 0, 0, []),
  (2, 3, .putfield 90, 7, 0, 0, 4006, []),
  (5, 1, .aload_n 0, 0, 0, 0, 0, []),
  (6, 1, .iload_n 1, 0, 0, 0, 0, []),
  (7, 3, .invokevirtual 150, 98, 2, 0, 4167, []),
  (10, 3, .ifCond .ne 18, 0, 0, 0, 0, [14]),
  (13, 1, .aload_n 0, 0, 0, 0, 0, []),
  (14, 1, .iload_n 2, 0, 0, 0, 0, []),
  (15, 3, .invokevirtual 150, 98, 2, 0, 4167, []),
  (18, 3, .ifCond .ne 10, 0, 0, 0, 0, [14]),
  (21, 1, .iload_n 3, 0, 0, 0, 0, []),
  (22, 3, .invokestatic 166, 99, 1, 0, 4194, []),
  (25, 3, .ifCond .eq 5, 0, 0, 0, 0, [16]),
  (28, 1, .iconst (-1), 0, 0, -1, 0, []),
  (29, 1, .ireturn, 0, 0, 0, 0, []),
  (30, 1, .aload_n 0, 0, 0, 0, 0, []),
  (31, 1, .iload_n 1, 0, 0, 0, 0, []),
  (32, 1, .iload_n 2, 0, 0, 0, 0, []),
  (33, 1, .iload_n 3, 0, 0, 0, 0, []),
  (34, 3, .invokevirtual 179, 122, 4, 0, 4214, []),
  (37, 3, .ifCond .eq 7, 0, 0, 0, 0, [24]),
  (40, 1, .iconst 1, 0, 0, 1, 0, []),
  (41, 3, .goto 4, 0, 0, 0, 0, [25]),
  (44, 1, .iconst 0, 0, 0, 0, 0, []),
  (45, 1, .ireturn, 0, 0, 0, 0, [])]
def am_c124 : List am_E := [(0, 1, .iload_n 1, 0, 0, 0, 0, []),
  (1, 1, .istore_n 2, 0, 0, 0, 0, []),
  (2, 1, .iconst 0, 0, 0, 0, 0, []),
  (3, 1, .istore_n 3, 0, 0, 0, 0, []),
  (4, 1, .iload_n 3, 0, 0, 0, 0, []),
  (5, 1, .iconst 3, 0, 0, 3, 0, []),
  (6, 3, .if_icmp .ge 37, 0, 0, 0, 0, [26]),
  (9, 1, .aload_n 0, 0, 0, 0, 0, []),
  (10, 3, .getfield 32, 7, 11, 0, 4017, []),
  (13, 1, .iload_n 3, 0, 0, 0, 0, []),
  (14, 1, .iaload, 0, 0, 0, 0, []),
  (15, 1, .aload_n 0, 0, 0, 0, 0, []),
  (16, 3, .getfield 35, 7, 12, 0, 4018, []),
  (19, 1, .iload_n 3, 0, 0, 0, 0, []),
  (20, 1, .iaload, 0, 0, 0, 0, []),
  (21, 1, .iadd, 0, 0, 0, 0, []),
  (22, 2, .istore 4, 0, 0, 0, 0, []),
  (24, 2, .iload 4, 0, 0, 0, 0, []),
  (26, 1, .iload_n 2, 0, 0, 0, 0, []),
  (27, 3, .if_icmp .le 8, 0, 0, 0, 0, [22]),
  (30, 2, .iload 4, 0, 0, 0, 0, []),
  (32, 3, .goto 4, 0, 0, 0, 0, [23]),
  (35, 1, .iload_n 2, 0, 0, 0, 0, []),
  (36, 1, .istore_n 2, 0, 0, 0, 0, []),
  (37, 3, .iinc 3 1, 0, 0, 0, 0, []),
  (40, 3, .goto (-36), 0, 0, 0, 0, [4]),
  (43, 1, .iload_n 2, 0, 0, 0, 0, []),
  (44, 1, .ireturn, 0, 0, 0, 0, [])]
def am_c125 : List am_E := [(0, 1, .aload_n 0, 0, 0, 0, 0, []),
  (1, 1, .iload_n 1, 0, 0, 0, 0, []),
  (2, 1, .iload_n 2, 0, 0, 0, 0, []),
  (3, 3, .invokevirtual 172, 120, 3, 0, 4218, []),
  (6, 3, .ifCond .ne 6, 0, 0, 0, 0, [7]),
  (9, 2, .ldc 183, 0, 0, 99999, 4234, []),
  (11, 1, .ireturn, 0, 0, 0, 0, []),
  (12, 1, .aload_n 0, 0, 0, 0, 0, []),
  (13, 1, .iload_n 3, 0, 0, 0, 0, []),
  (14, 3, .invokevirtual 184, 124, 2, 0, 4235, []),
  (17, 1, .aload_n 0, 0, 0, 0, 0, []),
  (18, 3, .getfield 13, 7, 4, 0, 4010, []),
  (21, 1, .iadd, 0, 0, 0, 0, []),
  (22, 2, .istore 4, 0, 0, 0, 0, []),
  (24, 1, .iload_n 3, 0, 0, 0, 0, []),
  (25, 2, .istore 5, 0, 0, 0, 0, []),
  (27, 2, .iload 5, 0, 0, 0, 0, []),
  (29, 2, .iload 4, 0, 0, 0, 0, []),
  (31, 3, .if_icmp .ge 23, 0, 0, 0, 0, [29]),
  (34, 1, .aload_n 0, 0, 0, 0, 0, []),
  (35, 1, .iload_n 1, 0, 0, 0, 0, []),
  (36, 1, .iload_n 2, 0, 0, 0, 0, []),
  (37, 2, .iload 5, 0, 0, 0, 0, []),
  (39, 3, .invokevirtual 179, 122, 4, 0, 4214, []),
  (42, 3, .ifCond .eq 6, 0, 0, 0, 0, [27]),
  (45, 2, .iload 5, 0, 0, 0, 0, []),
  (47, 1, .ireturn, 0, 0, 0, 0, []),
  (48, 3, .iinc 5 1, 0, 0, 0, 0, []),
  (51, 3, .goto (-24), 0, 0, 0, 0, [16]),
  (54, 2, .ldc 183, 0, 0, 99999, 4234, []),
  (56, 1, .ireturn, 0, 0, 0, 0, [])]
def am_c126 : List am_E := [(0, 1, .aload_n 0, 0, 0, 0, 0, []),
  (1, 1, .iconst 0, 0, 0, 0, 0, []),
  (2, 3, .putfield 90, 7, 0, 0, 4006, []),
  (5, 1, .aload_n 0, 0, 0, 0, 0, []),
  (6, 1, .iload_n 1, 0, 0, 0, 0, []),
  (7, 3, .invokevirtual 150, 98, 2, 0, 4167, []),
  (10, 3, .ifCond .ne 18, 0, 0, 0, 0, [14]),
  (13, 1, .aload_n 0, 0, 0, 0, 0, []),
  (14, 1, .iload_n 2, 0, 0, 0, 0, []),
  (15, 3, .invokevirtual 150, 98, 2, 0, 4167, []),
  (18, 3, .ifCond .ne 10, 0, 0, 0, 0, [14]),
  (21, 1, .iload_n 3, 0, 0, 0, 0, []),
  (22, 3, .invokestatic 166, 99, 1, 0, 4194, []),
  (25, 3, .ifCond .eq 5, 0, 0, 0, 0, [16]),
  (28, 1, .iconst (-1), 0, 0, -1, 0, []),
  (29, 1, .ireturn, 0, 0, 0, 0, []),
  (30, 1, .aload_n 0, 0, 0, 0, 0, []),
  (31, 1, .iload_n 1, 0, 0, 0, 0, []),
  (32, 1, .iload_n 2, 0, 0, 0, 0, []),
  (33, 1, .iload_n 3, 0, 0, 0, 0, []),
  (34, 3, .invokevirtual 188, 125, 4, 0, 4230, []),
  (37, 2, .istore 4, 0, 0, 0, 0, []),
  (39, 2, .iload 4, 0, 0, 0, 0, []),
  (41, 2, .ldc 183, 0, 0, 99999, 4234, []),
  (43, 3, .if_icmp .ne 8, 0, 0, 0, 0, [27]),
  (46, 2, .bipush (-9), 0, 0, -9, 0, []),
  (48, 3, .goto 5, 0, 0, 0, 0, [28]),
  (51, 2, .iload 4, 0, 0, 0, 0, []),
  (53, 1, .ireturn, 0, 0, 0, 0, [])]
def am_c127_0 : List am_E := [(0, 1, .aload_n 0, 0, 0, 0, 0, []),
  (1, 1, .iconst 0, 0, 0, 0, 0, []),
  (2, 3, .putfield 90, 7, 0, 0, 4006, []),
  (5, 1, .aload_n 0, 0, 0, 0, 0, []),
  (6, 1, .iload_n 1, 0, 0, 0, 0, []),
  (7, 3, .invokevirtual 150, 98, 2, 0, 4167, []),
  (10, 3, .ifCond .ne 18, 0, 0, 0, 0, [14]),
  (13, 1, .aload_n 0, 0, 0, 0, 0, []),
  (14, 1, .iload_n 2, 0, 0, 0, 0, []),
  (15, 3, .invokevirtual 150, 98, 2, 0, 4167, []),
  (18, 3, .ifCond .ne 10, 0, 0, 0, 0, [14]),
  (21, 1, .iload_n 3, 0, 0, 0, 0, []),
  (22, 3, .invokestatic 166, 99, 1, 0, 4194, []),
  (25, 3, .ifCond .eq 5, 0, 0, 0, 0, [16]),
  (28, 1, .iconst (-1), 0, 0, -1, 0, []),
  (29, 1, .ireturn, 0, 0, 0, 0, []),
  (30, 1, .aload_n 0, 0, 0, 0, 0, []),
  (31, 1, .iload_n 3, 0, 0, 0, 0, []),
  (32, 3, .invokevirtual 184, 124, 2, 0, 4235, []),
  (35, 1, .aload_n 0, 0, 0, 0, 0, []),
  (36, 3, .getfield 13, 7, 4, 0, 4010, []),
  (39, 1, .iadd, 0, 0, 0, 0, []),
  (40, 2, .istore 4, 0, 0, 0, 0, []),
  (42, 1, .iload_n 3, 0, 0, 0, 0, []),
  (43, 2, .istore 5, 0, 0, 0, 0, []),
  (45, 2, .iload 5, 0, 0, 0, 0, []),
  (47, 2, .iload 4, 0, 0, 0, 0, []),
  (49, 3, .if_icmp .ge 20, 0, 0, 0, 0, [36]),
  (52, 1, .aload_n 0, 0, 0, 0, 0, []),
  (53, 1, .iload_n 1, 0, 0, 0, 0, []),
  (54, 1, .iload_n 2, 0, 0, 0, 0, []),
  (55, 2, .iload 5, 0, 0, 0, 0, []),
  (57, 3, .invokevirtual 179, 122, 4, 0, 4214, []),
  (60, 3, .ifCond .eq 9, 0, 0, 0, 0, [36]),
  (63, 3, .iinc 5 1, 0, 0, 0, 0, []),
  (66, 3, .goto (-21), 0, 0, 0, 0, [25]),
  (69, 2, .iload 5, 0, 0, 0, 0, []),
  (71, 2, .iload 4, 0, 0, 0, 0, []),
  (73, 3, .if_icmp .ne 9, 0, 0, 0, 0, [41]),
  (76, 3, .sipush 999, 0, 0, 999, 0, [])]
def am_c127_1 : List am_E := [(79, 3, .goto 7, 0, 0, 0, 0, [44]),
  (82, 2, .iload 5, 0, 0, 0, 0, []),
  (84, 1, .iload_n 3, 0, 0, 0, 0, []),
  (85, 1, .isub, 0, 0, 0, 0, []),
  (86, 1, .ireturn, 0, 0, 0, 0, [])]
def am_c127 : List am_E := am_c127_0 ++ am_c127_1
def am_c128 : List am_E := [(0, 1, .iload_n 0, 0, 0, 0, 0, []),
  (1, 1, .istore_n 3, 0, 0, 0, 0, []),
  (2, 1, .iload_n 1, 0, 0, 0, 0, []),
  (3, 2, .istore 4, 0, 0, 0, 0, []),
  (5, 2, .iload 4, 0, 0, 0, 0, []),
  (7, 3, .ifCond .eq 19, 0, 0, 0, 0, [15]),
  (10, 1, .iload_n 3, 0, 0, 0, 0, []),
  (11, 2, .iload 4, 0, 0, 0, 0, []),
  (13, 1, .irem, 0, 0, 0, 0, []),
  (14, 2, .istore 5, 0, 0, 0, 0, []),
  (16, 2, .iload 4, 0, 0, 0, 0, []),
  (18, 1, .istore_n 3, 0, 0, 0, 0, []),
  (19, 2, .iload 5, 0, 0, 0, 0, []),
  (21, 2, .istore 4, 0, 0, 0, 0, []),
  (23, 3, .goto (-18), 0, 0, 0, 0, [4]),
  (26, 1, .iload_n 2, 0, 0, 0, 0, []),
  (27, 3, .ifCond .eq 9, 0, 0, 0, 0, [21]),
  (30, 1, .iload_n 0, 0, 0, 0, 0, []),
  (31, 1, .iload_n 3, 0, 0, 0, 0, []),
  (32, 1, .idiv, 0, 0, 0, 0, []),
  (33, 3, .goto 6, 0, 0, 0, 0, [24]),
  (36, 1, .iload_n 1, 0, 0, 0, 0, []),
  (37, 1, .iload_n 3, 0, 0, 0, 0, []),
  (38, 1, .idiv, 0, 0, 0, 0, []),
  (39, 1, .ireturn, 0, 0, 0, 0, [])]
def am_c129_0 : List am_E := [(0, 1, .aload_n 0, 0, 0, 0, 0, []),
  (1, 1, .iconst 0, 0, 0, 0, 0, []),
  (2, 3, .putfield 90, 7, 0, 0, 4006, []),
  (5, 1, .aload_n 0, 0, 0, 0, 0, []),
  (6, 1, .iload_n 1, 0, 0, 0, 0, []),
  (7, 3, .invokevirtual 150, 98, 2, 0, 4167, []),
  (10, 3, .ifCond .ne 11, 0, 0, 0, 0, [11]),
  (13, 1, .aload_n 0, 0, 0, 0, 0, []),
  (14, 1, .iload_n 2, 0, 0, 0, 0, []),
  (15, 3, .invokevirtual 150, 98, 2, 0, 4167, []),
  (18, 3, .ifCond .eq 5, 0, 0, 0, 0, [13]),
  (21, 1, .iconst (-1), 0, 0, -1, 0, []),
  (22, 1, .ireturn, 0, 0, 0, 0, []),
  (23, 1, .iconst 0, 0, 0, 0, 0, []),
  (24, 2, .istore 4, 0, 0, 0, 0, []),
  (26, 1, .iconst 0, 0, 0, 0, 0, []),
  (27, 2, .istore 5, 0, 0, 0, 0, []),
  (29, 2, .iload 5, 0, 0, 0, 0, []),
  (31, 1, .aload_n 0, 0, 0, 0, 0, []),
  (32, 3, .getfield 13, 7, 4, 0, 4010, []),
  (35, 3, .if_icmp .ge 57, 0, 0, 0, 0, [50]),
  (38, 2, .iload 4, 0, 0, 0, 0, []),
  (40, 1, .aload_n 0, 0, 0, 0, 0, []),
  (41, 1, .iload_n 1, 0, 0, 0, 0, []),
  (42, 1, .iload_n 2, 0, 0, 0, 0, []),
  (43, 3, .invokevirtual 172, 120, 3, 0, 4218, []),
  (46, 3, .ifCond .eq 36, 0, 0, 0, 0, [45]),
  (49, 1, .aload_n 0, 0, 0, 0, 0, []),
  (50, 1, .iload_n 1, 0, 0, 0, 0, []),
  (51, 1, .iload_n 2, 0, 0, 0, 0, []),
  (52, 1, .aload_n 0, 0, 0, 0, 0, []),
  (53, 1, .iload_n 1, 0, 0, 0, 0, []),
  (54, 2, .iload 5, 0, 0, 0, 0, []),
  (56, 2, .iload 5, 0, 0, 0, 0, []),
  (58, 3, .invokevirtual 162, 117, 4, 0, 4206, []),
  (61, 1, .aload_n 0, 0, 0, 0, 0, []),
  (62, 1, .iload_n 2, 0, 0, 0, 0, []),
  (63, 2, .iload 5, 0, 0, 0, 0, []),
  (65, 2, .iload 5, 0, 0, 0, 0, []),
  (67, 3, .invokevirtual 162, 117, 4, 0, 4206, [])]
def am_c129_1 : List am_E := [(70, 2, .iload 5, 0, 0, 0, 0, []),
  (72, 3, .invokevirtual 175, 121, 6, 0, 4222, []),
  (75, 3, .ifCond .eq 7, 0, 0, 0, 0, [45]),
  (78, 1, .iconst 1, 0, 0, 1, 0, []),
  (79, 3, .goto 4, 0, 0, 0, 0, [46]),
  (82, 1, .iconst 0, 0, 0, 0, 0, []),
  (83, 1, .iadd, 0, 0, 0, 0, []),
  (84, 2, .istore 4, 0, 0, 0, 0, []),
  (86, 3, .iinc 5 1, 0, 0, 0, 0, []),
  (89, 3, .goto (-60), 0, 0, 0, 0, [17]),
  (92, 2, .iload 4, 0, 0, 0, 0, []),
  (94, 1, .aload_n 0, 0, 0, 0, 0, []),
  (95, 3, .getfield 13, 7, 4, 0, 4010, []),
  (98, 1, .iload_n 3, 0, 0, 0, 0, []),
  (99, 3, .invokestatic 191, 128, 3, 0, 5007, []),
  (102, 1, .ireturn, 0, 0, 0, 0, [])]
def am_c129 : List am_E := am_c129_0 ++ am_c129_1
def am_c130 : List am_E := [(0, 2, .bipush (-9), 0, 0, -9, 0, []),
  (2, 1, .istore_n 3, 0, 0, 0, 0, []),
  (3, 1, .iconst 1, 0, 0, 1, 0, []),
  (4, 2, .istore 4, 0, 0, 0, 0, []),
  (6, 1, .iconst 0, 0, 0, 0, 0, []),
  (7, 2, .istore 5, 0, 0, 0, 0, []),
  (9, 2, .iload 5, 0, 0, 0, 0, []),
  (11, 1, .aload_n 0, 0, 0, 0, 0, []),
  (12, 3, .getfield 93, 7, 5, 0, 4011, []),
  (15, 3, .if_icmp .ge 55, 0, 0, 0, 0, [36]),
  (18, 1, .iload_n 1, 0, 0, 0, 0, []),
  (19, 2, .iload 5, 0, 0, 0, 0, []),
  (21, 3, .invokestatic 119, 96, 2, 0, 4148, []),
  (24, 3, .ifCond .eq 40, 0, 0, 0, 0, [34]),
  (27, 2, .iload 4, 0, 0, 0, 0, []),
  (29, 3, .ifCond .eq 24, 0, 0, 0, 0, [27]),
  (32, 1, .iload_n 3, 0, 0, 0, 0, []),
  (33, 2, .bipush (-9), 0, 0, -9, 0, []),
  (35, 3, .if_icmp .eq 14, 0, 0, 0, 0, [25]),
  (38, 1, .aload_n 0, 0, 0, 0, 0, []),
  (39, 2, .iload 5, 0, 0, 0, 0, []),
  (41, 1, .iload_n 2, 0, 0, 0, 0, []),
  (42, 3, .invokevirtual 169, 118, 3, 0, 4198, []),
  (45, 1, .iload_n 3, 0, 0, 0, 0, []),
  (46, 3, .if_icmp .ne 7, 0, 0, 0, 0, [27]),
  (49, 1, .iconst 1, 0, 0, 1, 0, []),
  (50, 3, .goto 4, 0, 0, 0, 0, [28]),
  (53, 1, .iconst 0, 0, 0, 0, 0, []),
  (54, 2, .istore 4, 0, 0, 0, 0, []),
  (56, 1, .aload_n 0, 0, 0, 0, 0, []),
  (57, 2, .iload 5, 0, 0, 0, 0, []),
  (59, 1, .iload_n 2, 0, 0, 0, 0, []),
  (60, 3, .invokevirtual 169, 118, 3, 0, 4198, []),
  (63, 1, .istore_n 3, 0, 0, 0, 0, []),
  (64, 3, .iinc 5 1, 0, 0, 0, 0, []),
  (67, 3, .goto (-58), 0, 0, 0, 0, [6]),
  (70, 2, .iload 4, 0, 0, 0, 0, []),
  (72, 1, .ireturn, 1, 0, 0, 0, [])]
def am_c131_0 : List am_E := [(0, 1, .aload_n 0, 0, 0, 0, 0, []),
  (1, 1, .iconst 0, 0, 0, 0, 0, []),
  (2, 3, .putfield 90, 7, 0, 0, 4006, []),
  (5, 1, .iload_n 2, 0, 0, 0, 0, []),
  (6, 3, .invokestatic 166, 99, 1, 0, 4194, []),
  (9, 3, .ifCond .eq 5, 0, 0, 0, 0, [8]),
  (12, 1, .iconst (-1), 0, 0, -1, 0, []),
  (13, 1, .ireturn, 0, 0, 0, 0, []),
  (14, 1, .iload_n 1, 0, 0, 0, 0, []),
  (15, 1, .i2l, 0, 0, 0, 0, []),
  (16, 1, .lconst 0, 0, 0, 0, 0, []),
  (17, 1, .iconst 1, 0, 0, 1, 0, []),
  (18, 1, .aload_n 0, 0, 0, 0, 0, []),
  (19, 3, .getfield 93, 7, 5, 0, 4011, []),
  (22, 1, .ishl, 0, 0, 0, 0, []),
  (23, 1, .iconst 1, 0, 0, 1, 0, []),
  (24, 1, .isub, 0, 0, 0, 0, []),
  (25, 1, .i2l, 0, 0, 0, 0, []),
  (26, 3, .invokestatic 96, 95, 3, 0, 4117, []),
  (29, 3, .ifCond .eq 11, 0, 0, 0, 0, [24]),
  (32, 1, .iload_n 1, 0, 0, 0, 0, []),
  (33, 3, .invokestatic 195, 97, 1, 0, 5014, []),
  (36, 1, .iconst 2, 0, 0, 2, 0, []),
  (37, 3, .if_icmp .ge 6, 0, 0, 0, 0, [26]),
  (40, 2, .bipush (-2), 0, 0, -2, 0, []),
  (42, 1, .ireturn, 0, 0, 0, 0, []),
  (43, 1, .aload_n 0, 0, 0, 0, 0, []),
  (44, 1, .iload_n 2, 0, 0, 0, 0, []),
  (45, 3, .invokevirtual 184, 124, 2, 0, 4235, []),
  (48, 1, .aload_n 0, 0, 0, 0, 0, []),
  (49, 3, .getfield 13, 7, 4, 0, 4010, []),
  (52, 1, .iadd, 0, 0, 0, 0, []),
  (53, 1, .istore_n 3, 0, 0, 0, 0, []),
  (54, 1, .iload_n 2, 0, 0, 0, 0, []),
  (55, 2, .istore 4, 0, 0, 0, 0, []),
  (57, 2, .iload 4, 0, 0, 0, 0, []),
  (59, 1, .iload_n 3, 0, 0, 0, 0, []),
  (60, 3, .if_icmp .ge 22, 0, 0, 0, 0, [47]),
  (63, 1, .aload_n 0, 0, 0, 0, 0, []),
  (64, 1, .iload_n 1, 0, 0, 0, 0, [])]
def am_c131_1 : List am_E := [(65, 2, .iload 4, 0, 0, 0, 0, []),
  (67, 3, .invokevirtual 198, 130, 3, 0, 5017, []),
  (70, 3, .ifCond .eq 6, 0, 0, 0, 0, [45]),
  (73, 2, .iload 4, 0, 0, 0, 0, []),
  (75, 1, .ireturn, 0, 0, 0, 0, []),
  (76, 3, .iinc 4 1, 0, 0, 0, 0, []),
  (79, 3, .goto (-22), 0, 0, 0, 0, [35]),
  (82, 2, .bipush (-9), 0, 0, -9, 0, []),
  (84, 1, .ireturn, 0, 0, 0, 0, [])]
def am_c131 : List am_E := am_c131_0 ++ am_c131_1
def am_c132_0 : List am_E := [(0, 1, .aload_n 0, 0, 0, 0, 0, []),
  (1, 3, .getfield 17, 7, 6, 0, 4012, []),
  (4, 1, .iload_n 1, 0, 0, 0, 0, []),
  (5, 1, .iaload, 0, 0, 0, 0, []),
  (6, 1, .aload_n 0, 0, 0, 0, 0, []),
  (7, 3, .getfield 17, 7, 6, 0, 4012, []),
  (10, 1, .iload_n 3, 0, 0, 0, 0, []),
  (11, 1, .iaload, 0, 0, 0, 0, []),
  (12, 3, .if_icmp .ne 89, 0, 0, 0, 0, [59]),
  (15, 1, .aload_n 0, 0, 0, 0, 0, []),
  (16, 3, .getfield 23, 7, 8, 0, 4014, []),
  (19, 1, .iload_n 1, 0, 0, 0, 0, []),
  (20, 1, .iaload, 0, 0, 0, 0, []),
  (21, 1, .aload_n 0, 0, 0, 0, 0, []),
  (22, 3, .getfield 23, 7, 8, 0, 4014, []),
  (25, 1, .iload_n 3, 0, 0, 0, 0, []),
  (26, 1, .iaload, 0, 0, 0, 0, []),
  (27, 3, .if_icmp .le 19, 0, 0, 0, 0, [28]),
  (30, 1, .aload_n 0, 0, 0, 0, 0, []),
  (31, 3, .getfield 23, 7, 8, 0, 4014, []),
  (34, 1, .iload_n 1, 0, 0, 0, 0, []),
  (35, 1, .iaload, 0, 0, 0, 0, []),
  (36, 1, .aload_n 0, 0, 0, 0, 0, []),
  (37, 3, .getfield 23, 7, 8, 0, 4014, []),
  (40, 1, .iload_n 3, 0, 0, 0, 0, []),
  (41, 1, .iaload, 0, 0, 0, 0, []),
  (42, 1, .isub, 0, 0, 0, 0, []),
  (43, 3, .goto 16, 0, 0, 0, 0, [37]),
  (46, 1, .aload_n 0, 0, 0, 0, 0, []),
  (47, 3, .getfield 23, 7, 8, 0, 4014, []),
  (50, 1, .iload_n 3, 0, 0, 0, 0, []),
  (51, 1, .iaload, 0, 0, 0, 0, []),
  (52, 1, .aload_n 0, 0, 0, 0, 0, []),
  (53, 3, .getfield 23, 7, 8, 0, 4014, []),
  (56, 1, .iload_n 1, 0, 0, 0, 0, []),
  (57, 1, .iaload, 0, 0, 0, 0, []),
  (58, 1, .isub, 0, 0, 0, 0, []),
  (59, 2, .istore 4, 0, 0, 0, 0, []),
  (61, 2, .iload 4, 0, 0, 0, 0, []),
  (63, 1, .aload_n 0, 0, 0, 0, 0, [])]
def am_c132_1 : List am_E := [(64, 3, .getfield 13, 7, 4, 0, 4010, []),
  (67, 2, .iload 4, 0, 0, 0, 0, []),
  (69, 1, .isub, 0, 0, 0, 0, []),
  (70, 3, .if_icmp .ge 8, 0, 0, 0, 0, [46]),
  (73, 2, .iload 4, 0, 0, 0, 0, []),
  (75, 3, .goto 10, 0, 0, 0, 0, [50]),
  (78, 1, .aload_n 0, 0, 0, 0, 0, []),
  (79, 3, .getfield 13, 7, 4, 0, 4010, []),
  (82, 2, .iload 4, 0, 0, 0, 0, []),
  (84, 1, .isub, 0, 0, 0, 0, []),
  (85, 2, .istore 5, 0, 0, 0, 0, []),
  (87, 1, .iload_n 2, 0, 0, 0, 0, []),
  (88, 2, .iload 5, 0, 0, 0, 0, []),
  (90, 3, .ifCond .le 8, 0, 0, 0, 0, [56]),
  (93, 2, .iload 5, 0, 0, 0, 0, []),
  (95, 3, .goto 4, 0, 0, 0, 0, [57]),
  (98, 1, .iconst 1, 0, 0, 1, 0, []),
  (99, 1, .iadd, 0, 0, 0, 0, []),
  (100, 1, .ireturn, 0, 0, 0, 0, []),
  (101, 1, .aload_n 0, 0, 0, 0, 0, []),
  (102, 1, .iload_n 1, 0, 0, 0, 0, []),
  (103, 1, .iload_n 3, 0, 0, 0, 0, []),
  (104, 1, .iload_n 2, 0, 0, 0, 0, []),
  (105, 3, .invokevirtual 188, 125, 4, 0, 4230, []),
  (108, 2, .istore 4, 0, 0, 0, 0, []),
  (110, 2, .iload 4, 0, 0, 0, 0, []),
  (112, 2, .ldc 183, 0, 0, 99999, 4234, []),
  (114, 3, .if_icmp .ne 8, 0, 0, 0, 0, [70]),
  (117, 2, .ldc 183, 0, 0, 99999, 4234, []),
  (119, 3, .goto 7, 0, 0, 0, 0, [73]),
  (122, 2, .iload 4, 0, 0, 0, 0, []),
  (124, 1, .iconst 1, 0, 0, 1, 0, []),
  (125, 1, .iadd, 0, 0, 0, 0, []),
  (126, 1, .ireturn, 0, 0, 0, 0, [])]
def am_c132 : List am_E := am_c132_0 ++ am_c132_1
def am_c133_0 : List am_E := [(0, 1, .iconst 0, 0, 0, 0, 0, []),
  (1, 1, .istore_n 3, 0, 0, 0, 0, []),
  (2, 1, .iload_n 3, 0, 0, 0, 0, []),
  (3, 1, .aload_n 0, 0, 0, 0, 0, []),
  (4, 3, .getfield 93, 7, 5, 0, 4011, []),
  (7, 3, .if_icmp .ge 33, 0, 0, 0, 0, [23]),
  (10, 1, .aload_n 0, 0, 0, 0, 0, []),
  (11, 3, .getfield 69, 7, 27, 0, 4033, []),
  (14, 1, .iload_n 3, 0, 0, 0, 0, []),
  (15, 1, .iload_n 3, 0, 0, 0, 0, []),
  (16, 1, .iload_n 1, 0, 0, 0, 0, []),
  (17, 3, .if_icmp .ne 7, 0, 0, 0, 0, [14]),
  (20, 1, .iload_n 2, 0, 0, 0, 0, []),
  (21, 3, .goto 5, 0, 0, 0, 0, [15]),
  (24, 2, .ldc 183, 0, 0, 99999, 4234, []),
  (26, 1, .iastore, 0, 0, 0, 0, []),
  (27, 1, .aload_n 0, 0, 0, 0, 0, []),
  (28, 3, .getfield 72, 7, 28, 0, 4034, []),
  (31, 1, .iload_n 3, 0, 0, 0, 0, []),
  (32, 1, .iconst 0, 0, 0, 0, 0, []),
  (33, 1, .bastore, 0, 0, 0, 0, []),
  (34, 3, .iinc 3 1, 0, 0, 0, 0, []),
  (37, 3, .goto (-35), 0, 0, 0, 0, [2]),
  (40, 1, .iconst 0, 0, 0, 0, 0, []),
  (41, 1, .istore_n 3, 0, 0, 0, 0, []),
  (42, 1, .iload_n 3, 0, 0, 0, 0, []),
  (43, 1, .aload_n 0, 0, 0, 0, 0, []),
  (44, 3, .getfield 93, 7, 5, 0, 4011, []),
  (47, 3, .if_icmp .ge 183, 0, 0, 0, 0, [117]),
  (50, 2, .bipush (-9), 0, 0, -9, 0, []),
  (52, 2, .istore 4, 0, 0, 0, 0, []),
  (54, 1, .iconst 0, 0, 0, 0, 0, []),
  (55, 2, .istore 5, 0, 0, 0, 0, []),
  (57, 2, .iload 5, 0, 0, 0, 0, []),
  (59, 1, .aload_n 0, 0, 0, 0, 0, []),
  (60, 3, .getfield 93, 7, 5, 0, 4011, []),
  (63, 3, .if_icmp .ge 64, 0, 0, 0, 0, [66]),
  (66, 1, .aload_n 0, 0, 0, 0, 0, []),
  (67, 3, .getfield 72, 7, 28, 0, 4034, []),
  (70, 2, .iload 5, 0, 0, 0, 0, [])]
def am_c133_1 : List am_E := [(72, 1, .baload, 0, 0, 0, 0, []),
  (73, 3, .ifCond .ne 44, 0, 0, 0, 0, [62]),
  (76, 1, .aload_n 0, 0, 0, 0, 0, []),
  (77, 3, .getfield 69, 7, 27, 0, 4033, []),
  (80, 2, .iload 5, 0, 0, 0, 0, []),
  (82, 1, .iaload, 0, 0, 0, 0, []),
  (83, 2, .ldc 183, 0, 0, 99999, 4234, []),
  (85, 3, .if_icmp .ge 32, 0, 0, 0, 0, [62]),
  (88, 2, .iload 4, 0, 0, 0, 0, []),
  (90, 2, .bipush (-9), 0, 0, -9, 0, []),
  (92, 3, .if_icmp .eq 20, 0, 0, 0, 0, [60]),
  (95, 1, .aload_n 0, 0, 0, 0, 0, []),
  (96, 3, .getfield 69, 7, 27, 0, 4033, []),
  (99, 2, .iload 5, 0, 0, 0, 0, []),
  (101, 1, .iaload, 0, 0, 0, 0, []),
  (102, 1, .aload_n 0, 0, 0, 0, 0, []),
  (103, 3, .getfield 69, 7, 27, 0, 4033, []),
  (106, 2, .iload 4, 0, 0, 0, 0, []),
  (108, 1, .iaload, 0, 0, 0, 0, []),
  (109, 3, .if_icmp .ge 8, 0, 0, 0, 0, [62]),
  (112, 2, .iload 5, 0, 0, 0, 0, []),
  (114, 3, .goto 5, 0, 0, 0, 0, [63]),
  (117, 2, .iload 4, 0, 0, 0, 0, []),
  (119, 2, .istore 4, 0, 0, 0, 0, []),
  (121, 3, .iinc 5 1, 0, 0, 0, 0, []),
  (124, 3, .goto (-67), 0, 0, 0, 0, [33]),
  (127, 2, .iload 4, 0, 0, 0, 0, []),
  (129, 2, .bipush (-9), 0, 0, -9, 0, []),
  (131, 3, .if_icmp .ne 4, 0, 0, 0, 0, [70]),
  (134, 1, .return_, 0, 0, 0, 0, []),
  (135, 1, .aload_n 0, 0, 0, 0, 0, []),
  (136, 3, .getfield 72, 7, 28, 0, 4034, []),
  (139, 2, .iload 4, 0, 0, 0, 0, []),
  (141, 1, .iconst 1, 0, 0, 1, 0, []),
  (142, 1, .bastore, 0, 0, 0, 0, []),
  (143, 1, .iconst 0, 0, 0, 0, 0, []),
  (144, 2, .istore 5, 0, 0, 0, 0, []),
  (146, 2, .iload 5, 0, 0, 0, 0, []),
  (148, 1, .aload_n 0, 0, 0, 0, 0, []),
  (149, 3, .getfield 93, 7, 5, 0, 4011, [])]
def am_c133_2 : List am_E := [(152, 3, .if_icmp .ge 72, 0, 0, 0, 0, [115]),
  (155, 1, .aload_n 0, 0, 0, 0, 0, []),
  (156, 3, .getfield 72, 7, 28, 0, 4034, []),
  (159, 2, .iload 5, 0, 0, 0, 0, []),
  (161, 1, .baload, 0, 0, 0, 0, []),
  (162, 3, .ifCond .eq 8, 0, 0, 0, 0, [88]),
  (165, 2, .ldc 183, 0, 0, 99999, 4234, []),
  (167, 3, .goto 18, 0, 0, 0, 0, [96]),
  (170, 1, .aload_n 0, 0, 0, 0, 0, []),
  (171, 2, .iload 4, 0, 0, 0, 0, []),
  (173, 1, .aload_n 0, 0, 0, 0, 0, []),
  (174, 3, .getfield 69, 7, 27, 0, 4033, []),
  (177, 2, .iload 4, 0, 0, 0, 0, []),
  (179, 1, .iaload, 0, 0, 0, 0, []),
  (180, 2, .iload 5, 0, 0, 0, 0, []),
  (182, 3, .invokevirtual 201, 132, 4, 0, 5033, []),
  (185, 2, .istore 6, 0, 0, 0, 0, []),
  (187, 1, .aload_n 0, 0, 0, 0, 0, []),
  (188, 3, .getfield 69, 7, 27, 0, 4033, []),
  (191, 2, .iload 5, 0, 0, 0, 0, []),
  (193, 2, .iload 6, 0, 0, 0, 0, []),
  (195, 1, .aload_n 0, 0, 0, 0, 0, []),
  (196, 3, .getfield 69, 7, 27, 0, 4033, []),
  (199, 2, .iload 5, 0, 0, 0, 0, []),
  (201, 1, .iaload, 0, 0, 0, 0, []),
  (202, 3, .if_icmp .ge 8, 0, 0, 0, 0, [108]),
  (205, 2, .iload 6, 0, 0, 0, 0, []),
  (207, 3, .goto 10, 0, 0, 0, 0, [112]),
  (210, 1, .aload_n 0, 0, 0, 0, 0, []),
  (211, 3, .getfield 69, 7, 27, 0, 4033, []),
  (214, 2, .iload 5, 0, 0, 0, 0, []),
  (216, 1, .iaload, 0, 0, 0, 0, []),
  (217, 1, .iastore, 0, 0, 0, 0, []),
  (218, 3, .iinc 5 1, 0, 0, 0, 0, []),
  (221, 3, .goto (-75), 0, 0, 0, 0, [77]),
  (224, 3, .iinc 3 1, 0, 0, 0, 0, []),
  (227, 3, .goto (-185), 0, 0, 0, 0, [25]),
  (230, 1, .return_, 0, 0, 0, 0, [])]
def am_c133 : List am_E := am_c133_0 ++ am_c133_1 ++ am_c133_2
def am_c134 : List am_E := [(0, 1, .aload_n 0, 0, 0, 0, 0, []),
  (1, 1, .iload_n 1, 0, 0, 0, 0, []),
  (2, 1, .iload_n 2, 0, 0, 0, 0, []),
  (3, 3, .invokevirtual 204, 133, 3, 0, 5029, []),
  (6, 1, .aload_n 0, 0, 0, 0, 0, []),
  (7, 3, .getfield 69, 7, 27, 0, 4033, []),
  (10, 1, .iload_n 3, 0, 0, 0, 0, []),
  (11, 1, .iaload, 0, 0, 0, 0, []),
  (12, 1, .ireturn, 0, 0, 0, 0, [])]
def am_c135 : List am_E := [(0, 1, .aload_n 0, 0, 0, 0, 0, []),
  (1, 1, .iconst 0, 0, 0, 0, 0, []),
  (2, 3, .putfield 90, 7, 0, 0, 4006, []),
  (5, 1, .aload_n 0, 0, 0, 0, 0, []),
  (6, 1, .iload_n 1, 0, 0, 0, 0, []),
  (7, 3, .invokevirtual 150, 98, 2, 0, 4167, []),
  (10, 3, .ifCond .ne 18, 0, 0, 0, 0, [14]),
  (13, 1, .aload_n 0, 0, 0, 0, 0, []),
  (14, 1, .iload_n 3, 0, 0, 0, 0, []),
  (15, 3, .invokevirtual 150, 98, 2, 0, 4167, []),
  (18, 3, .ifCond .ne 10, 0, 0, 0, 0, [14]),
  (21, 1, .iload_n 2, 0, 0, 0, 0, []),
  (22, 3, .invokestatic 166, 99, 1, 0, 4194, []),
  (25, 3, .ifCond .eq 5, 0, 0, 0, 0, [16]),
  (28, 1, .iconst (-1), 0, 0, -1, 0, []),
  (29, 1, .ireturn, 0, 0, 0, 0, []),
  (30, 1, .aload_n 0, 0, 0, 0, 0, []),
  (31, 1, .iload_n 1, 0, 0, 0, 0, []),
  (32, 1, .iload_n 2, 0, 0, 0, 0, []),
  (33, 1, .iload_n 3, 0, 0, 0, 0, []),
  (34, 3, .invokevirtual 208, 134, 4, 0, 5025, []),
  (37, 2, .istore 4, 0, 0, 0, 0, []),
  (39, 2, .iload 4, 0, 0, 0, 0, []),
  (41, 2, .ldc 183, 0, 0, 99999, 4234, []),
  (43, 3, .if_icmp .ne 8, 0, 0, 0, 0, [27]),
  (46, 2, .bipush (-9), 0, 0, -9, 0, []),
  (48, 3, .goto 5, 0, 0, 0, 0, [28]),
  (51, 2, .iload 4, 0, 0, 0, 0, []),
  (53, 1, .ireturn, 0, 0, 0, 0, [])]
def am_c136_0 : List am_E := [(0, 1, .aload_n 0, 0, 0, 0, 0, []),
  (1, 1, .iconst 0, 0, 0, 0, 0, []),
  (2, 3, .putfield 90, 7, 0, 0, 4006, []),
  (5, 1, .aload_n 0, 0, 0, 0, 0, []),
  (6, 1, .iload_n 1, 0, 0, 0, 0, []),
  (7, 3, .invokevirtual 150, 98, 2, 0, 4167, []),
  (10, 3, .ifCond .ne 18, 0, 0, 0, 0, [14]),
  (13, 1, .aload_n 0, 0, 0, 0, 0, []),
  (14, 1, .iload_n 3, 0, 0, 0, 0, []),
  (15, 3, .invokevirtual 150, 98, 2, 0, 4167, []),
  (18, 3, .ifCond .ne 10, 0, 0, 0, 0, [14]),
  (21, 1, .iload_n 2, 0, 0, 0, 0, []),
  (22, 3, .invokestatic 166, 99, 1, 0, 4194, []),
  (25, 3, .ifCond .eq 5, 0, 0, 0, 0, [16]),
  (28, 1, .iconst (-1), 0, 0, -1, 0, []),
  (29, 1, .ireturn, 0, 0, 0, 0, []),
  (30, 2, .iload 5, 0, 0, 0, 0, []),
  (32, 1, .i2l, 0, 0, 0, 0, []),
  (33, 1, .lconst 0, 0, 0, 0, 0, []),
  (34, 1, .lconst 1, 0, 0, 1, 0, []),
  (35, 3, .invokestatic 96, 95, 3, 0, 4117, []),
  (38, 3, .ifCond .ne 6, 0, 0, 0, 0, [24]),
  (41, 2, .bipush (-2), 0, 0, -2, 0, []),
  (43, 1, .ireturn, 0, 0, 0, 0, []),
  (44, 1, .aload_n 0, 0, 0, 0, 0, []),
  (45, 1, .iload_n 1, 0, 0, 0, 0, []),
  (46, 1, .iload_n 2, 0, 0, 0, 0, []),
  (47, 1, .iload_n 3, 0, 0, 0, 0, []),
  (48, 3, .invokevirtual 208, 134, 4, 0, 5025, []),
  (51, 2, .ldc 183, 0, 0, 99999, 4234, []),
  (53, 3, .if_icmp .ne 6, 0, 0, 0, 0, [33]),
  (56, 2, .bipush (-9), 0, 0, -9, 0, []),
  (58, 1, .ireturn, 0, 0, 0, 0, []),
  (59, 1, .iconst 1, 0, 0, 1, 0, []),
  (60, 2, .istore 6, 0, 0, 0, 0, []),
  (62, 1, .aload_n 0, 0, 0, 0, 0, []),
  (63, 3, .getfield 75, 7, 29, 0, 4035, []),
  (66, 1, .iconst 0, 0, 0, 0, 0, []),
  (67, 1, .iload_n 3, 0, 0, 0, 0, []),
  (68, 1, .iastore, 0, 0, 0, 0, [])]
def am_c136_1 : List am_E := [(69, 1, .aload_n 0, 0, 0, 0, 0, []),
  (70, 3, .getfield 75, 7, 29, 0, 4035, []),
  (73, 2, .iload 6, 0, 0, 0, 0, []),
  (75, 1, .iconst 1, 0, 0, 1, 0, []),
  (76, 1, .isub, 0, 0, 0, 0, []),
  (77, 1, .iaload, 0, 0, 0, 0, []),
  (78, 1, .iload_n 1, 0, 0, 0, 0, []),
  (79, 3, .if_icmp .eq 82, 0, 0, 0, 0, [88]),
  (82, 1, .aload_n 0, 0, 0, 0, 0, []),
  (83, 3, .getfield 75, 7, 29, 0, 4035, []),
  (86, 2, .iload 6, 0, 0, 0, 0, []),
  (88, 1, .iconst 1, 0, 0, 1, 0, []),
  (89, 1, .isub, 0, 0, 0, 0, []),
  (90, 1, .iaload, 0, 0, 0, 0, []),
  (91, 2, .istore 7, 0, 0, 0, 0, []),
  (93, 1, .iconst 0, 0, 0, 0, 0, []),
  (94, 2, .istore 8, 0, 0, 0, 0, []),
  (96, 2, .iload 8, 0, 0, 0, 0, []),
  (98, 2, .iload 7, 0, 0, 0, 0, []),
  (100, 3, .if_icmp .eq 40, 0, 0, 0, 0, [79]),
  (103, 1, .aload_n 0, 0, 0, 0, 0, []),
  (104, 3, .getfield 69, 7, 27, 0, 4033, []),
  (107, 2, .iload 8, 0, 0, 0, 0, []),
  (109, 1, .iaload, 0, 0, 0, 0, []),
  (110, 2, .ldc 183, 0, 0, 99999, 4234, []),
  (112, 3, .if_icmp .eq 28, 0, 0, 0, 0, [79]),
  (115, 1, .aload_n 0, 0, 0, 0, 0, []),
  (116, 2, .iload 8, 0, 0, 0, 0, []),
  (118, 1, .aload_n 0, 0, 0, 0, 0, []),
  (119, 3, .getfield 69, 7, 27, 0, 4033, []),
  (122, 2, .iload 8, 0, 0, 0, 0, []),
  (124, 1, .iaload, 0, 0, 0, 0, []),
  (125, 2, .iload 7, 0, 0, 0, 0, []),
  (127, 3, .invokevirtual 201, 132, 4, 0, 5033, []),
  (130, 1, .aload_n 0, 0, 0, 0, 0, []),
  (131, 3, .getfield 69, 7, 27, 0, 4033, []),
  (134, 2, .iload 7, 0, 0, 0, 0, []),
  (136, 1, .iaload, 0, 0, 0, 0, []),
  (137, 3, .if_icmp .eq 9, 0, 0, 0, 0, [81]),
  (140, 3, .iinc 8 1, 0, 0, 0, 0, [])]
def am_c136_2 : List am_E := [(143, 3, .goto (-47), 0, 0, 0, 0, [57]),
  (146, 1, .aload_n 0, 0, 0, 0, 0, []),
  (147, 3, .getfield 75, 7, 29, 0, 4035, []),
  (150, 2, .iload 6, 0, 0, 0, 0, []),
  (152, 2, .iload 8, 0, 0, 0, 0, []),
  (154, 1, .iastore, 0, 0, 0, 0, []),
  (155, 3, .iinc 6 1, 0, 0, 0, 0, []),
  (158, 3, .goto (-89), 0, 0, 0, 0, [40]),
  (161, 2, .iload 4, 0, 0, 0, 0, []),
  (163, 1, .i2l, 0, 0, 0, 0, []),
  (164, 1, .lconst 0, 0, 0, 0, 0, []),
  (165, 2, .iload 6, 0, 0, 0, 0, []),
  (167, 1, .iconst 1, 0, 0, 1, 0, []),
  (168, 1, .isub, 0, 0, 0, 0, []),
  (169, 1, .i2l, 0, 0, 0, 0, []),
  (170, 3, .invokestatic 96, 95, 3, 0, 4117, []),
  (173, 3, .ifCond .ne 6, 0, 0, 0, 0, [99]),
  (176, 2, .bipush (-9), 0, 0, -9, 0, []),
  (178, 1, .ireturn, 0, 0, 0, 0, []),
  (179, 1, .aload_n 0, 0, 0, 0, 0, []),
  (180, 3, .getfield 75, 7, 29, 0, 4035, []),
  (183, 2, .iload 6, 0, 0, 0, 0, []),
  (185, 1, .iconst 1, 0, 0, 1, 0, []),
  (186, 1, .isub, 0, 0, 0, 0, []),
  (187, 2, .iload 4, 0, 0, 0, 0, []),
  (189, 1, .isub, 0, 0, 0, 0, []),
  (190, 1, .iaload, 0, 0, 0, 0, []),
  (191, 2, .istore 7, 0, 0, 0, 0, []),
  (193, 2, .iload 5, 0, 0, 0, 0, []),
  (195, 3, .ifCond .ne 8, 0, 0, 0, 0, [112]),
  (198, 2, .iload 7, 0, 0, 0, 0, []),
  (200, 3, .goto 10, 0, 0, 0, 0, [116]),
  (203, 1, .aload_n 0, 0, 0, 0, 0, []),
  (204, 3, .getfield 69, 7, 27, 0, 4033, []),
  (207, 2, .iload 7, 0, 0, 0, 0, []),
  (209, 1, .iaload, 0, 0, 0, 0, []),
  (210, 1, .ireturn, 0, 0, 0, 0, [])]
def am_c136 : List am_E := am_c136_0 ++ am_c136_1 ++ am_c136_2
def am_c137 : List am_E := [(0, 1, .aload_n 0, 0, 0, 0, 0, []),
  (1, 1, .iconst 0, 0, 0, 0, 0, []),
  (2, 3, .putfield 90, 7, 0, 0, 4006, []),
  (5, 1, .aload_n 0, 0, 0, 0, 0, []),
  (6, 1, .iload_n 1, 0, 0, 0, 0, []),
  (7, 3, .invokevirtual 150, 98, 2, 0, 4167, []),
  (10, 3, .ifCond .ne 18, 0, 0, 0, 0, [14]),
  (13, 1, .aload_n 0, 0, 0, 0, 0, []),
  (14, 1, .iload_n 2, 0, 0, 0, 0, []),
  (15, 3, .invokevirtual 150, 98, 2, 0, 4167, []),
  (18, 3, .ifCond .ne 10, 0, 0, 0, 0, [14]),
  (21, 1, .iload_n 3, 0, 0, 0, 0, []),
  (22, 3, .invokestatic 166, 99, 1, 0, 4194, []),
  (25, 3, .ifCond .eq 5, 0, 0, 0, 0, [16]),
  (28, 1, .iconst (-1), 0, 0, -1, 0, []),
  (29, 1, .ireturn, 0, 0, 0, 0, []),
  (30, 1, .iload_n 3, 0, 0, 0, 0, []),
  (31, 2, .istore 4, 0, 0, 0, 0, []),
  (33, 2, .iload 4, 0, 0, 0, 0, []),
  (35, 3, .ifCond .lt 24, 0, 0, 0, 0, [31]),
  (38, 1, .aload_n 0, 0, 0, 0, 0, []),
  (39, 1, .iload_n 1, 0, 0, 0, 0, []),
  (40, 2, .iload 4, 0, 0, 0, 0, []),
  (42, 1, .iload_n 2, 0, 0, 0, 0, []),
  (43, 3, .invokevirtual 208, 134, 4, 0, 5025, []),
  (46, 1, .iload_n 3, 0, 0, 0, 0, []),
  (47, 3, .if_icmp .gt 6, 0, 0, 0, 0, [29]),
  (50, 2, .iload 4, 0, 0, 0, 0, []),
  (52, 1, .ireturn, 0, 0, 0, 0, []),
  (53, 3, .iinc 4 (-1), 0, 0, 0, 0, []),
  (56, 3, .goto (-23), 0, 0, 0, 0, [18]),
  (59, 2, .bipush (-9), 0, 0, -9, 0, []),
  (61, 1, .ireturn, 0, 0, 0, 0, [])]
def am_c138_0 : List am_E := [(0, 1, .aload_n 0, 0, 0, 0, 0, []),
  (1, 1, .iconst 0, 0, 0, 0, 0, []),
  (2, 3, .putfield 90, 7, 0, 0, 4006, []),
  (5, 1, .aload_n 0, 0, 0, 0, 0, []),
  (6, 1, .iload_n 1, 0, 0, 0, 0, []),
  (7, 3, .invokevirtual 150, 98, 2, 0, 4167, []),
  (10, 3, .ifCond .ne 10, 0, 0, 0, 0, [10]),
  (13, 1, .iload_n 2, 0, 0, 0, 0, []),
  (14, 3, .invokestatic 166, 99, 1, 0, 4194, []),
  (17, 3, .ifCond .eq 5, 0, 0, 0, 0, [12]),
  (20, 1, .iconst (-1), 0, 0, -1, 0, []),
  (21, 1, .ireturn, 0, 0, 0, 0, []),
  (22, 1, .iload_n 3, 0, 0, 0, 0, []),
  (23, 1, .i2l, 0, 0, 0, 0, []),
  (24, 1, .lconst 0, 0, 0, 0, 0, []),
  (25, 1, .iconst 1, 0, 0, 1, 0, []),
  (26, 1, .aload_n 0, 0, 0, 0, 0, []),
  (27, 3, .getfield 93, 7, 5, 0, 4011, []),
  (30, 1, .ishl, 0, 0, 0, 0, []),
  (31, 1, .iconst 1, 0, 0, 1, 0, []),
  (32, 1, .isub, 0, 0, 0, 0, []),
  (33, 1, .i2l, 0, 0, 0, 0, []),
  (34, 3, .invokestatic 96, 95, 3, 0, 4117, []),
  (37, 3, .ifCond .ne 6, 0, 0, 0, 0, [26]),
  (40, 2, .bipush (-2), 0, 0, -2, 0, []),
  (42, 1, .ireturn, 0, 0, 0, 0, []),
  (43, 1, .iconst 0, 0, 0, 0, 0, []),
  (44, 2, .istore 4, 0, 0, 0, 0, []),
  (46, 2, .iload 4, 0, 0, 0, 0, []),
  (48, 3, .sipush 2048, 0, 0, 2048, 0, []),
  (51, 3, .if_icmp .ge 18, 0, 0, 0, 0, [38]),
  (54, 1, .aload_n 0, 0, 0, 0, 0, []),
  (55, 3, .getfield 78, 7, 30, 0, 4036, []),
  (58, 2, .iload 4, 0, 0, 0, 0, []),
  (60, 2, .ldc 183, 0, 0, 99999, 4234, []),
  (62, 1, .iastore, 0, 0, 0, 0, []),
  (63, 3, .iinc 4 1, 0, 0, 0, 0, []),
  (66, 3, .goto (-20), 0, 0, 0, 0, [28]),
  (69, 1, .iload_n 3, 0, 0, 0, 0, []),
  (70, 1, .iconst 1, 0, 0, 1, 0, [])]
def am_c138_1 : List am_E := [(71, 1, .iload_n 1, 0, 0, 0, 0, []),
  (72, 1, .ishl, 0, 0, 0, 0, []),
  (73, 1, .iand, 0, 0, 0, 0, []),
  (74, 2, .istore 4, 0, 0, 0, 0, []),
  (76, 1, .aload_n 0, 0, 0, 0, 0, []),
  (77, 3, .getfield 78, 7, 30, 0, 4036, []),
  (80, 2, .bipush 8, 0, 0, 8, 0, []),
  (82, 2, .iload 4, 0, 0, 0, 0, []),
  (84, 1, .imul, 0, 0, 0, 0, []),
  (85, 1, .iload_n 1, 0, 0, 0, 0, []),
  (86, 1, .iadd, 0, 0, 0, 0, []),
  (87, 1, .iload_n 2, 0, 0, 0, 0, []),
  (88, 1, .iastore, 0, 0, 0, 0, []),
  (89, 1, .iconst 0, 0, 0, 0, 0, []),
  (90, 2, .istore 5, 0, 0, 0, 0, []),
  (92, 2, .iload 5, 0, 0, 0, 0, []),
  (94, 1, .iload_n 3, 0, 0, 0, 0, []),
  (95, 3, .if_icmp .gt 178, 0, 0, 0, 0, [149]),
  (98, 1, .iconst 0, 0, 0, 0, 0, []),
  (99, 2, .istore 6, 0, 0, 0, 0, []),
  (101, 2, .iload 6, 0, 0, 0, 0, []),
  (103, 1, .aload_n 0, 0, 0, 0, 0, []),
  (104, 3, .getfield 93, 7, 5, 0, 4011, []),
  (107, 3, .if_icmp .ge 160, 0, 0, 0, 0, [147]),
  (110, 2, .iload 5, 0, 0, 0, 0, []),
  (112, 1, .iload_n 3, 0, 0, 0, 0, []),
  (113, 1, .iconst (-1), 0, 0, -1, 0, []),
  (114, 1, .ixor, 0, 0, 0, 0, []),
  (115, 1, .iand, 0, 0, 0, 0, []),
  (116, 3, .ifCond .ne 151, 0, 0, 0, 0, [147]),
  (119, 1, .aload_n 0, 0, 0, 0, 0, []),
  (120, 3, .getfield 78, 7, 30, 0, 4036, []),
  (123, 2, .bipush 8, 0, 0, 8, 0, []),
  (125, 2, .iload 5, 0, 0, 0, 0, []),
  (127, 1, .imul, 0, 0, 0, 0, []),
  (128, 2, .iload 6, 0, 0, 0, 0, []),
  (130, 1, .iadd, 0, 0, 0, 0, []),
  (131, 1, .iaload, 0, 0, 0, 0, []),
  (132, 2, .ldc 183, 0, 0, 99999, 4234, []),
  (134, 3, .if_icmp .ge 127, 0, 0, 0, 0, [145])]
def am_c138_2 : List am_E := [(137, 1, .aload_n 0, 0, 0, 0, 0, []),
  (138, 2, .iload 6, 0, 0, 0, 0, []),
  (140, 1, .aload_n 0, 0, 0, 0, 0, []),
  (141, 3, .getfield 78, 7, 30, 0, 4036, []),
  (144, 2, .bipush 8, 0, 0, 8, 0, []),
  (146, 2, .iload 5, 0, 0, 0, 0, []),
  (148, 1, .imul, 0, 0, 0, 0, []),
  (149, 2, .iload 6, 0, 0, 0, 0, []),
  (151, 1, .iadd, 0, 0, 0, 0, []),
  (152, 1, .iaload, 0, 0, 0, 0, []),
  (153, 3, .invokevirtual 204, 133, 3, 0, 5029, []),
  (156, 1, .iconst 0, 0, 0, 0, 0, []),
  (157, 2, .istore 7, 0, 0, 0, 0, []),
  (159, 2, .iload 7, 0, 0, 0, 0, []),
  (161, 1, .aload_n 0, 0, 0, 0, 0, []),
  (162, 3, .getfield 93, 7, 5, 0, 4011, []),
  (165, 3, .if_icmp .ge 96, 0, 0, 0, 0, [145]),
  (168, 2, .bipush 8, 0, 0, 8, 0, []),
  (170, 2, .iload 5, 0, 0, 0, 0, []),
  (172, 1, .iconst 1, 0, 0, 1, 0, []),
  (173, 2, .iload 7, 0, 0, 0, 0, []),
  (175, 1, .ishl, 0, 0, 0, 0, []),
  (176, 1, .ior, 0, 0, 0, 0, []),
  (177, 1, .imul, 0, 0, 0, 0, []),
  (178, 2, .iload 7, 0, 0, 0, 0, []),
  (180, 1, .iadd, 0, 0, 0, 0, []),
  (181, 2, .istore 8, 0, 0, 0, 0, []),
  (183, 1, .iload_n 3, 0, 0, 0, 0, []),
  (184, 2, .iload 7, 0, 0, 0, 0, []),
  (186, 3, .invokestatic 119, 96, 2, 0, 4148, []),
  (189, 3, .ifCond .eq 17, 0, 0, 0, 0, [117]),
  (192, 2, .iload 5, 0, 0, 0, 0, []),
  (194, 2, .iload 7, 0, 0, 0, 0, []),
  (196, 3, .invokestatic 119, 96, 2, 0, 4148, []),
  (199, 3, .ifCond .ne 7, 0, 0, 0, 0, [117]),
  (202, 1, .iconst 1, 0, 0, 1, 0, []),
  (203, 3, .goto 4, 0, 0, 0, 0, [118]),
  (206, 1, .iconst 0, 0, 0, 0, 0, []),
  (207, 2, .istore 9, 0, 0, 0, 0, []),
  (209, 1, .aload_n 0, 0, 0, 0, 0, [])]
def am_c138_3 : List am_E := [(210, 3, .getfield 78, 7, 30, 0, 4036, []),
  (213, 2, .iload 8, 0, 0, 0, 0, []),
  (215, 2, .iload 9, 0, 0, 0, 0, []),
  (217, 3, .ifCond .eq 30, 0, 0, 0, 0, [138]),
  (220, 1, .aload_n 0, 0, 0, 0, 0, []),
  (221, 3, .getfield 69, 7, 27, 0, 4033, []),
  (224, 2, .iload 7, 0, 0, 0, 0, []),
  (226, 1, .iaload, 0, 0, 0, 0, []),
  (227, 1, .aload_n 0, 0, 0, 0, 0, []),
  (228, 3, .getfield 78, 7, 30, 0, 4036, []),
  (231, 2, .iload 8, 0, 0, 0, 0, []),
  (233, 1, .iaload, 0, 0, 0, 0, []),
  (234, 3, .if_icmp .ge 13, 0, 0, 0, 0, [138]),
  (237, 1, .aload_n 0, 0, 0, 0, 0, []),
  (238, 3, .getfield 69, 7, 27, 0, 4033, []),
  (241, 2, .iload 7, 0, 0, 0, 0, []),
  (243, 1, .iaload, 0, 0, 0, 0, []),
  (244, 3, .goto 10, 0, 0, 0, 0, [142]),
  (247, 1, .aload_n 0, 0, 0, 0, 0, []),
  (248, 3, .getfield 78, 7, 30, 0, 4036, []),
  (251, 2, .iload 8, 0, 0, 0, 0, []),
  (253, 1, .iaload, 0, 0, 0, 0, []),
  (254, 1, .iastore, 0, 0, 0, 0, []),
  (255, 3, .iinc 7 1, 0, 0, 0, 0, []),
  (258, 3, .goto (-99), 0, 0, 0, 0, [93]),
  (261, 3, .iinc 6 1, 0, 0, 0, 0, []),
  (264, 3, .goto (-163), 0, 0, 0, 0, [60]),
  (267, 3, .iinc 5 1, 0, 0, 0, 0, []),
  (270, 3, .goto (-178), 0, 0, 0, 0, [55]),
  (273, 2, .ldc 183, 0, 0, 99999, 4234, []),
  (275, 2, .istore 5, 0, 0, 0, 0, []),
  (277, 1, .iconst 0, 0, 0, 0, 0, []),
  (278, 2, .istore 6, 0, 0, 0, 0, []),
  (280, 2, .iload 6, 0, 0, 0, 0, []),
  (282, 1, .aload_n 0, 0, 0, 0, 0, []),
  (283, 3, .getfield 93, 7, 5, 0, 4011, []),
  (286, 3, .if_icmp .ge 63, 0, 0, 0, 0, [189]),
  (289, 1, .aload_n 0, 0, 0, 0, 0, []),
  (290, 3, .getfield 78, 7, 30, 0, 4036, []),
  (293, 2, .bipush 8, 0, 0, 8, 0, [])]
def am_c138_4 : List am_E := [(295, 1, .iload_n 3, 0, 0, 0, 0, []),
  (296, 1, .imul, 0, 0, 0, 0, []),
  (297, 2, .iload 6, 0, 0, 0, 0, []),
  (299, 1, .iadd, 0, 0, 0, 0, []),
  (300, 1, .iaload, 0, 0, 0, 0, []),
  (301, 2, .ldc 183, 0, 0, 99999, 4234, []),
  (303, 3, .if_icmp .ge 40, 0, 0, 0, 0, [187]),
  (306, 1, .aload_n 0, 0, 0, 0, 0, []),
  (307, 2, .iload 6, 0, 0, 0, 0, []),
  (309, 1, .aload_n 0, 0, 0, 0, 0, []),
  (310, 3, .getfield 78, 7, 30, 0, 4036, []),
  (313, 2, .bipush 8, 0, 0, 8, 0, []),
  (315, 1, .iload_n 3, 0, 0, 0, 0, []),
  (316, 1, .imul, 0, 0, 0, 0, []),
  (317, 2, .iload 6, 0, 0, 0, 0, []),
  (319, 1, .iadd, 0, 0, 0, 0, []),
  (320, 1, .iaload, 0, 0, 0, 0, []),
  (321, 1, .iload_n 1, 0, 0, 0, 0, []),
  (322, 3, .invokevirtual 208, 134, 4, 0, 5025, []),
  (325, 2, .istore 7, 0, 0, 0, 0, []),
  (327, 2, .iload 7, 0, 0, 0, 0, []),
  (329, 2, .iload 5, 0, 0, 0, 0, []),
  (331, 3, .if_icmp .ge 8, 0, 0, 0, 0, [185]),
  (334, 2, .iload 7, 0, 0, 0, 0, []),
  (336, 3, .goto 5, 0, 0, 0, 0, [186]),
  (339, 2, .iload 5, 0, 0, 0, 0, []),
  (341, 2, .istore 5, 0, 0, 0, 0, []),
  (343, 3, .iinc 6 1, 0, 0, 0, 0, []),
  (346, 3, .goto (-66), 0, 0, 0, 0, [153]),
  (349, 2, .iload 5, 0, 0, 0, 0, []),
  (351, 2, .ldc 183, 0, 0, 99999, 4234, []),
  (353, 3, .if_icmp .ne 8, 0, 0, 0, 0, [194]),
  (356, 2, .bipush (-9), 0, 0, -9, 0, []),
  (358, 3, .goto 5, 0, 0, 0, 0, [195]),
  (361, 2, .iload 5, 0, 0, 0, 0, []),
  (363, 1, .ireturn, 0, 0, 0, 0, [])]
def am_c138 : List am_E := am_c138_0 ++ am_c138_1 ++ am_c138_2 ++ am_c138_3 ++ am_c138_4
def am_c139_0 : List am_E := [(0, 1, .aload_n 0, 0, 0, 0, 0, []),
  (1, 3, .getfield 32, 7, 11, 0, 4017, []),
  (4, 1, .iload_n 1, 0, 0, 0, 0, []),
  (5, 1, .iaload, 0, 0, 0, 0, []),
  (6, 2, .istore 6, 0, 0, 0, 0, []),
  (8, 1, .aload_n 0, 0, 0, 0, 0, []),
  (9, 3, .getfield 35, 7, 12, 0, 4018, []),
  (12, 1, .iload_n 1, 0, 0, 0, 0, []),
  (13, 1, .iaload, 0, 0, 0, 0, []),
  (14, 2, .istore 7, 0, 0, 0, 0, []),
  (16, 1, .aload_n 0, 0, 0, 0, 0, []),
  (17, 3, .getfield 35, 7, 12, 0, 4018, []),
  (20, 1, .iload_n 1, 0, 0, 0, 0, []),
  (21, 1, .iload_n 2, 0, 0, 0, 0, []),
  (22, 1, .iastore, 0, 0, 0, 0, []),
  (23, 2, .ldc 183, 0, 0, 99999, 4234, []),
  (25, 2, .istore 8, 0, 0, 0, 0, []),
  (27, 1, .aload_n 0, 0, 0, 0, 0, []),
  (28, 2, .bipush (-9), 0, 0, -9, 0, []),
  (30, 3, .putfield 211, 7, 34, 0, 4040, []),
  (33, 2, .iload 4, 0, 0, 0, 0, []),
  (35, 2, .istore 9, 0, 0, 0, 0, []),
  (37, 2, .iload 9, 0, 0, 0, 0, []),
  (39, 2, .iload 4, 0, 0, 0, 0, []),
  (41, 1, .aload_n 0, 0, 0, 0, 0, []),
  (42, 3, .getfield 13, 7, 4, 0, 4010, []),
  (45, 1, .iadd, 0, 0, 0, 0, []),
  (46, 3, .if_icmp .ge 64, 0, 0, 0, 0, [57]),
  (49, 1, .aload_n 0, 0, 0, 0, 0, []),
  (50, 3, .getfield 32, 7, 11, 0, 4017, []),
  (53, 1, .iload_n 1, 0, 0, 0, 0, []),
  (54, 2, .iload 9, 0, 0, 0, 0, []),
  (56, 1, .iastore, 0, 0, 0, 0, []),
  (57, 1, .aload_n 0, 0, 0, 0, 0, []),
  (58, 1, .iload_n 3, 0, 0, 0, 0, []),
  (59, 2, .iload 4, 0, 0, 0, 0, []),
  (61, 2, .iload 5, 0, 0, 0, 0, []),
  (63, 3, .invokevirtual 208, 134, 4, 0, 5025, []),
  (66, 2, .istore 10, 0, 0, 0, 0, []),
  (68, 1, .aload_n 0, 0, 0, 0, 0, [])]
def am_c139_1 : List am_E := [(69, 2, .iload 10, 0, 0, 0, 0, []),
  (71, 2, .iload 8, 0, 0, 0, 0, []),
  (73, 3, .if_icmp .ge 8, 0, 0, 0, 0, [45]),
  (76, 2, .iload 9, 0, 0, 0, 0, []),
  (78, 3, .goto 7, 0, 0, 0, 0, [47]),
  (81, 1, .aload_n 0, 0, 0, 0, 0, []),
  (82, 3, .getfield 211, 7, 34, 0, 4040, []),
  (85, 3, .putfield 211, 7, 34, 0, 4040, []),
  (88, 2, .iload 10, 0, 0, 0, 0, []),
  (90, 2, .iload 8, 0, 0, 0, 0, []),
  (92, 3, .if_icmp .ge 8, 0, 0, 0, 0, [53]),
  (95, 2, .iload 10, 0, 0, 0, 0, []),
  (97, 3, .goto 5, 0, 0, 0, 0, [54]),
  (100, 2, .iload 8, 0, 0, 0, 0, []),
  (102, 2, .istore 8, 0, 0, 0, 0, []),
  (104, 3, .iinc 9 1, 0, 0, 0, 0, []),
  (107, 3, .goto (-70), 0, 0, 0, 0, [22]),
  (110, 1, .aload_n 0, 0, 0, 0, 0, []),
  (111, 3, .getfield 32, 7, 11, 0, 4017, []),
  (114, 1, .iload_n 1, 0, 0, 0, 0, []),
  (115, 2, .iload 6, 0, 0, 0, 0, []),
  (117, 1, .iastore, 0, 0, 0, 0, []),
  (118, 1, .aload_n 0, 0, 0, 0, 0, []),
  (119, 3, .getfield 35, 7, 12, 0, 4018, []),
  (122, 1, .iload_n 1, 0, 0, 0, 0, []),
  (123, 2, .iload 7, 0, 0, 0, 0, []),
  (125, 1, .iastore, 0, 0, 0, 0, []),
  (126, 1, .aload_n 0, 0, 0, 0, 0, []),
  (127, 3, .getfield 211, 7, 34, 0, 4040, []),
  (130, 1, .ireturn, 0, 0, 0, 0, [])]
def am_c139 : List am_E := am_c139_0 ++ am_c139_1
def am_c140 : List am_E := [(0, 1, .aload_n 0, 0, 0, 0, 0, []),
  (1, 1, .iconst 0, 0, 0, 0, 0, []),
  (2, 3, .putfield 90, 7, 0, 0, 4006, []),
  (5, 1, .iload_n 1, 0, 0, 0, 0, []),
  (6, 3, .invokestatic 112, 100, 1, 0, 4144, []),
  (9, 3, .ifCond .ne 28, 0, 0, 0, 0, [17]),
  (12, 1, .aload_n 0, 0, 0, 0, 0, []),
  (13, 1, .iload_n 3, 0, 0, 0, 0, []),
  (14, 3, .invokevirtual 150, 98, 2, 0, 4167, []),
  (17, 3, .ifCond .ne 20, 0, 0, 0, 0, [17]),
  (20, 1, .aload_n 0, 0, 0, 0, 0, []),
  (21, 2, .iload 5, 0, 0, 0, 0, []),
  (23, 3, .invokevirtual 150, 98, 2, 0, 4167, []),
  (26, 3, .ifCond .ne 11, 0, 0, 0, 0, [17]),
  (29, 2, .iload 4, 0, 0, 0, 0, []),
  (31, 3, .invokestatic 166, 99, 1, 0, 4194, []),
  (34, 3, .ifCond .eq 5, 0, 0, 0, 0, [19]),
  (37, 1, .iconst (-1), 0, 0, -1, 0, []),
  (38, 1, .ireturn, 0, 0, 0, 0, []),
  (39, 1, .iload_n 2, 0, 0, 0, 0, []),
  (40, 1, .i2l, 0, 0, 0, 0, []),
  (41, 1, .lconst 1, 0, 0, 1, 0, []),
  (42, 3, .ldc2_w 157, 0, 0, 99, 4185, []),
  (45, 3, .invokestatic 96, 95, 3, 0, 4117, []),
  (48, 3, .ifCond .eq 17, 0, 0, 0, 0, [33]),
  (51, 1, .aload_n 0, 0, 0, 0, 0, []),
  (52, 1, .iload_n 1, 0, 0, 0, 0, []),
  (53, 1, .iload_n 2, 0, 0, 0, 0, []),
  (54, 1, .iload_n 3, 0, 0, 0, 0, []),
  (55, 2, .iload 4, 0, 0, 0, 0, []),
  (57, 2, .iload 5, 0, 0, 0, 0, []),
  (59, 3, .invokevirtual 214, 139, 6, 0, 5053, []),
  (62, 3, .goto 5, 0, 0, 0, 0, [34]),
  (65, 2, .bipush (-2), 0, 0, -2, 0, []),
  (67, 1, .ireturn, 0, 0, 0, 0, [])]
def am_c141_0 : List am_E := [(0, 1, .aload_n 0, 0, 0, 0, 0, []),
  (1, 1, .iconst 0, 0, 0, 0, 0, []),
  (2, 3, .putfield 90, 7, 0, 0, 4006, []),
  (5, 1, .iload_n 1, 0, 0, 0, 0, []),
  (6, 3, .invokestatic 112, 100, 1, 0, 4144, []),
  (9, 3, .ifCond .ne 28, 0, 0, 0, 0, [17]),
  (12, 1, .aload_n 0, 0, 0, 0, 0, []),
  (13, 1, .iload_n 3, 0, 0, 0, 0, []),
  (14, 3, .invokevirtual 150, 98, 2, 0, 4167, []),
  (17, 3, .ifCond .ne 20, 0, 0, 0, 0, [17]),
  (20, 1, .aload_n 0, 0, 0, 0, 0, []),
  (21, 2, .iload 5, 0, 0, 0, 0, []),
  (23, 3, .invokevirtual 150, 98, 2, 0, 4167, []),
  (26, 3, .ifCond .ne 11, 0, 0, 0, 0, [17]),
  (29, 2, .iload 4, 0, 0, 0, 0, []),
  (31, 3, .invokestatic 166, 99, 1, 0, 4194, []),
  (34, 3, .ifCond .eq 5, 0, 0, 0, 0, [19]),
  (37, 1, .iconst (-1), 0, 0, -1, 0, []),
  (38, 1, .ireturn, 0, 0, 0, 0, []),
  (39, 1, .iload_n 2, 0, 0, 0, 0, []),
  (40, 1, .i2l, 0, 0, 0, 0, []),
  (41, 1, .lconst 1, 0, 0, 1, 0, []),
  (42, 3, .ldc2_w 157, 0, 0, 99, 4185, []),
  (45, 3, .invokestatic 96, 95, 3, 0, 4117, []),
  (48, 3, .ifCond .ne 6, 0, 0, 0, 0, [27]),
  (51, 2, .bipush (-2), 0, 0, -2, 0, []),
  (53, 1, .ireturn, 0, 0, 0, 0, []),
  (54, 1, .aload_n 0, 0, 0, 0, 0, []),
  (55, 1, .iload_n 1, 0, 0, 0, 0, []),
  (56, 1, .iload_n 2, 0, 0, 0, 0, []),
  (57, 1, .iload_n 3, 0, 0, 0, 0, []),
  (58, 2, .iload 4, 0, 0, 0, 0, []),
  (60, 2, .iload 5, 0, 0, 0, 0, []),
  (62, 3, .invokevirtual 214, 139, 6, 0, 5053, []),
  (65, 2, .istore 6, 0, 0, 0, 0, []),
  (67, 2, .iload 6, 0, 0, 0, 0, []),
  (69, 2, .bipush (-9), 0, 0, -9, 0, []),
  (71, 3, .if_icmp .ne 6, 0, 0, 0, 0, [40]),
  (74, 2, .bipush (-9), 0, 0, -9, 0, []),
  (76, 1, .ireturn, 0, 0, 0, 0, [])]
def am_c141_1 : List am_E := [(77, 1, .iconst 0, 0, 0, 0, 0, []),
  (78, 2, .istore 7, 0, 0, 0, 0, []),
  (80, 1, .iconst 0, 0, 0, 0, 0, []),
  (81, 2, .istore 8, 0, 0, 0, 0, []),
  (83, 2, .iload 8, 0, 0, 0, 0, []),
  (85, 1, .aload_n 0, 0, 0, 0, 0, []),
  (86, 3, .getfield 93, 7, 5, 0, 4011, []),
  (89, 3, .if_icmp .ge 149, 0, 0, 0, 0, [127]),
  (92, 1, .aload_n 0, 0, 0, 0, 0, []),
  (93, 2, .iload 8, 0, 0, 0, 0, []),
  (95, 2, .iload 4, 0, 0, 0, 0, []),
  (97, 3, .invokevirtual 204, 133, 3, 0, 5029, []),
  (100, 1, .iconst 0, 0, 0, 0, 0, []),
  (101, 2, .istore 9, 0, 0, 0, 0, []),
  (103, 2, .iload 9, 0, 0, 0, 0, []),
  (105, 1, .aload_n 0, 0, 0, 0, 0, []),
  (106, 3, .getfield 93, 7, 5, 0, 4011, []),
  (109, 3, .if_icmp .ge 23, 0, 0, 0, 0, [68]),
  (112, 1, .aload_n 0, 0, 0, 0, 0, []),
  (113, 3, .getfield 75, 7, 29, 0, 4035, []),
  (116, 2, .iload 9, 0, 0, 0, 0, []),
  (118, 1, .aload_n 0, 0, 0, 0, 0, []),
  (119, 3, .getfield 69, 7, 27, 0, 4033, []),
  (122, 2, .iload 9, 0, 0, 0, 0, []),
  (124, 1, .iaload, 0, 0, 0, 0, []),
  (125, 1, .iastore, 0, 0, 0, 0, []),
  (126, 3, .iinc 9 1, 0, 0, 0, 0, []),
  (129, 3, .goto (-26), 0, 0, 0, 0, [54]),
  (132, 1, .aload_n 0, 0, 0, 0, 0, []),
  (133, 3, .getfield 32, 7, 11, 0, 4017, []),
  (136, 1, .iload_n 1, 0, 0, 0, 0, []),
  (137, 1, .iaload, 0, 0, 0, 0, []),
  (138, 2, .istore 9, 0, 0, 0, 0, []),
  (140, 1, .aload_n 0, 0, 0, 0, 0, []),
  (141, 3, .getfield 35, 7, 12, 0, 4018, []),
  (144, 1, .iload_n 1, 0, 0, 0, 0, []),
  (145, 1, .iaload, 0, 0, 0, 0, []),
  (146, 2, .istore 10, 0, 0, 0, 0, []),
  (148, 1, .aload_n 0, 0, 0, 0, 0, []),
  (149, 3, .getfield 32, 7, 11, 0, 4017, [])]
def am_c141_2 : List am_E := [(152, 1, .iload_n 1, 0, 0, 0, 0, []),
  (153, 2, .iload 6, 0, 0, 0, 0, []),
  (155, 1, .iastore, 0, 0, 0, 0, []),
  (156, 1, .aload_n 0, 0, 0, 0, 0, []),
  (157, 3, .getfield 35, 7, 12, 0, 4018, []),
  (160, 1, .iload_n 1, 0, 0, 0, 0, []),
  (161, 1, .iload_n 2, 0, 0, 0, 0, []),
  (162, 1, .iastore, 0, 0, 0, 0, []),
  (163, 1, .aload_n 0, 0, 0, 0, 0, []),
  (164, 2, .iload 8, 0, 0, 0, 0, []),
  (166, 2, .iload 4, 0, 0, 0, 0, []),
  (168, 3, .invokevirtual 204, 133, 3, 0, 5029, []),
  (171, 1, .aload_n 0, 0, 0, 0, 0, []),
  (172, 3, .getfield 32, 7, 11, 0, 4017, []),
  (175, 1, .iload_n 1, 0, 0, 0, 0, []),
  (176, 2, .iload 9, 0, 0, 0, 0, []),
  (178, 1, .iastore, 0, 0, 0, 0, []),
  (179, 1, .aload_n 0, 0, 0, 0, 0, []),
  (180, 3, .getfield 35, 7, 12, 0, 4018, []),
  (183, 1, .iload_n 1, 0, 0, 0, 0, []),
  (184, 2, .iload 10, 0, 0, 0, 0, []),
  (186, 1, .iastore, 0, 0, 0, 0, []),
  (187, 1, .iconst 0, 0, 0, 0, 0, []),
  (188, 2, .istore 11, 0, 0, 0, 0, []),
  (190, 2, .iload 11, 0, 0, 0, 0, []),
  (192, 1, .aload_n 0, 0, 0, 0, 0, []),
  (193, 3, .getfield 93, 7, 5, 0, 4011, []),
  (196, 3, .if_icmp .ge 36, 0, 0, 0, 0, [125]),
  (199, 2, .iload 7, 0, 0, 0, 0, []),
  (201, 1, .aload_n 0, 0, 0, 0, 0, []),
  (202, 3, .getfield 69, 7, 27, 0, 4033, []),
  (205, 2, .iload 11, 0, 0, 0, 0, []),
  (207, 1, .iaload, 0, 0, 0, 0, []),
  (208, 1, .aload_n 0, 0, 0, 0, 0, []),
  (209, 3, .getfield 75, 7, 29, 0, 4035, []),
  (212, 2, .iload 11, 0, 0, 0, 0, []),
  (214, 1, .iaload, 0, 0, 0, 0, []),
  (215, 3, .if_icmp .le 7, 0, 0, 0, 0, [120]),
  (218, 1, .iconst 1, 0, 0, 1, 0, []),
  (219, 3, .goto 4, 0, 0, 0, 0, [121])]
def am_c141_3 : List am_E := [(222, 1, .iconst 0, 0, 0, 0, 0, []),
  (223, 1, .iadd, 0, 0, 0, 0, []),
  (224, 2, .istore 7, 0, 0, 0, 0, []),
  (226, 3, .iinc 11 1, 0, 0, 0, 0, []),
  (229, 3, .goto (-39), 0, 0, 0, 0, [104]),
  (232, 3, .iinc 8 1, 0, 0, 0, 0, []),
  (235, 3, .goto (-152), 0, 0, 0, 0, [44]),
  (238, 2, .iload 7, 0, 0, 0, 0, []),
  (240, 1, .ireturn, 0, 0, 0, 0, [])]
def am_c141 : List am_E := am_c141_0 ++ am_c141_1 ++ am_c141_2 ++ am_c141_3
def am_c142_0 : List am_E := [(0, 1, .iconst 0, 0, 0, 0, 0, []),
  (1, 1, .istore_n 2, 0, 0, 0, 0, []),
  (2, 1, .iload_n 2, 0, 0, 0, 0, []),
  (3, 1, .aload_n 0, 0, 0, 0, 0, []),
  (4, 3, .getfield 93, 7, 5, 0, 4011, []),
  (7, 3, .if_icmp .ge 16, 0, 0, 0, 0, [13]),
  (10, 1, .aload_n 0, 0, 0, 0, 0, []),
  (11, 3, .getfield 75, 7, 29, 0, 4035, []),
  (14, 1, .iload_n 2, 0, 0, 0, 0, []),
  (15, 1, .iconst 0, 0, 0, 0, 0, []),
  (16, 1, .iastore, 0, 0, 0, 0, []),
  (17, 3, .iinc 2 1, 0, 0, 0, 0, []),
  (20, 3, .goto (-18), 0, 0, 0, 0, [2]),
  (23, 1, .iconst 0, 0, 0, 0, 0, []),
  (24, 1, .istore_n 2, 0, 0, 0, 0, []),
  (25, 1, .iload_n 2, 0, 0, 0, 0, []),
  (26, 1, .aload_n 0, 0, 0, 0, 0, []),
  (27, 3, .getfield 13, 7, 4, 0, 4010, []),
  (30, 3, .if_icmp .ge 85, 0, 0, 0, 0, [64]),
  (33, 1, .aload_n 0, 0, 0, 0, 0, []),
  (34, 1, .iload_n 1, 0, 0, 0, 0, []),
  (35, 1, .iload_n 2, 0, 0, 0, 0, []),
  (36, 3, .invokevirtual 204, 133, 3, 0, 5029, []),
  (39, 1, .iconst 0, 0, 0, 0, 0, []),
  (40, 1, .istore_n 3, 0, 0, 0, 0, []),
  (41, 1, .iload_n 3, 0, 0, 0, 0, []),
  (42, 1, .aload_n 0, 0, 0, 0, 0, []),
  (43, 3, .getfield 93, 7, 5, 0, 4011, []),
  (46, 3, .if_icmp .ge 63, 0, 0, 0, 0, [62]),
  (49, 1, .aload_n 0, 0, 0, 0, 0, []),
  (50, 3, .getfield 69, 7, 27, 0, 4033, []),
  (53, 1, .iload_n 3, 0, 0, 0, 0, []),
  (54, 1, .iaload, 0, 0, 0, 0, []),
  (55, 2, .ldc 183, 0, 0, 99999, 4234, []),
  (57, 3, .if_icmp .ne 8, 0, 0, 0, 0, [37]),
  (60, 2, .ldc 183, 0, 0, 99999, 4234, []),
  (62, 3, .goto 11, 0, 0, 0, 0, [43]),
  (65, 1, .aload_n 0, 0, 0, 0, 0, []),
  (66, 3, .getfield 69, 7, 27, 0, 4033, []),
  (69, 1, .iload_n 3, 0, 0, 0, 0, [])]
def am_c142_1 : List am_E := [(70, 1, .iaload, 0, 0, 0, 0, []),
  (71, 1, .iload_n 2, 0, 0, 0, 0, []),
  (72, 1, .isub, 0, 0, 0, 0, []),
  (73, 2, .istore 4, 0, 0, 0, 0, []),
  (75, 1, .aload_n 0, 0, 0, 0, 0, []),
  (76, 3, .getfield 75, 7, 29, 0, 4035, []),
  (79, 1, .iload_n 3, 0, 0, 0, 0, []),
  (80, 2, .iload 4, 0, 0, 0, 0, []),
  (82, 1, .aload_n 0, 0, 0, 0, 0, []),
  (83, 3, .getfield 75, 7, 29, 0, 4035, []),
  (86, 1, .iload_n 3, 0, 0, 0, 0, []),
  (87, 1, .iaload, 0, 0, 0, 0, []),
  (88, 3, .if_icmp .le 8, 0, 0, 0, 0, [55]),
  (91, 2, .iload 4, 0, 0, 0, 0, []),
  (93, 3, .goto 9, 0, 0, 0, 0, [59]),
  (96, 1, .aload_n 0, 0, 0, 0, 0, []),
  (97, 3, .getfield 75, 7, 29, 0, 4035, []),
  (100, 1, .iload_n 3, 0, 0, 0, 0, []),
  (101, 1, .iaload, 0, 0, 0, 0, []),
  (102, 1, .iastore, 0, 0, 0, 0, []),
  (103, 3, .iinc 3 1, 0, 0, 0, 0, []),
  (106, 3, .goto (-65), 0, 0, 0, 0, [25]),
  (109, 3, .iinc 2 1, 0, 0, 0, 0, []),
  (112, 3, .goto (-87), 0, 0, 0, 0, [15]),
  (115, 1, .return_, 0, 0, 0, 0, [])]
def am_c142 : List am_E := am_c142_0 ++ am_c142_1
def am_c143 : List am_E := [(0, 1, .aload_n 0, 0, 0, 0, 0, []),
  (1, 1, .iconst 0, 0, 0, 0, 0, []),
  (2, 3, .putfield 90, 7, 0, 0, 4006, []),
  (5, 1, .aload_n 0, 0, 0, 0, 0, []),
  (6, 1, .iload_n 1, 0, 0, 0, 0, []),
  (7, 3, .invokevirtual 150, 98, 2, 0, 4167, []),
  (10, 3, .ifCond .ne 11, 0, 0, 0, 0, [11]),
  (13, 1, .aload_n 0, 0, 0, 0, 0, []),
  (14, 1, .iload_n 2, 0, 0, 0, 0, []),
  (15, 3, .invokevirtual 150, 98, 2, 0, 4167, []),
  (18, 3, .ifCond .eq 5, 0, 0, 0, 0, [13]),
  (21, 1, .iconst (-1), 0, 0, -1, 0, []),
  (22, 1, .ireturn, 0, 0, 0, 0, []),
  (23, 1, .aload_n 0, 0, 0, 0, 0, []),
  (24, 1, .iload_n 1, 0, 0, 0, 0, []),
  (25, 3, .invokevirtual 218, 142, 2, 0, 5065, []),
  (28, 1, .aload_n 0, 0, 0, 0, 0, []),
  (29, 3, .getfield 75, 7, 29, 0, 4035, []),
  (32, 1, .iload_n 2, 0, 0, 0, 0, []),
  (33, 1, .iaload, 0, 0, 0, 0, []),
  (34, 2, .ldc 183, 0, 0, 99999, 4234, []),
  (36, 3, .if_icmp .ne 8, 0, 0, 0, 0, [24]),
  (39, 2, .bipush (-9), 0, 0, -9, 0, []),
  (41, 3, .goto 9, 0, 0, 0, 0, [28]),
  (44, 1, .aload_n 0, 0, 0, 0, 0, []),
  (45, 3, .getfield 75, 7, 29, 0, 4035, []),
  (48, 1, .iload_n 2, 0, 0, 0, 0, []),
  (49, 1, .iaload, 0, 0, 0, 0, []),
  (50, 1, .ireturn, 0, 0, 0, 0, [])]
def am_c144_0 : List am_E := [(0, 1, .aload_n 0, 0, 0, 0, 0, []),
  (1, 1, .iconst 0, 0, 0, 0, 0, []),
  (2, 3, .putfield 90, 7, 0, 0, 4006, []),
  (5, 1, .iload_n 1, 0, 0, 0, 0, []),
  (6, 1, .i2l, 0, 0, 0, 0, []),
  (7, 1, .lconst 0, 0, 0, 0, 0, []),
  (8, 3, .ldc2_w 157, 0, 0, 99, 4185, []),
  (11, 3, .invokestatic 96, 95, 3, 0, 4117, []),
  (14, 3, .ifCond .ne 6, 0, 0, 0, 0, [11]),
  (17, 2, .bipush (-2), 0, 0, -2, 0, []),
  (19, 1, .ireturn, 0, 0, 0, 0, []),
  (20, 1, .iconst 0, 0, 0, 0, 0, []),
  (21, 1, .istore_n 2, 0, 0, 0, 0, []),
  (22, 1, .iload_n 2, 0, 0, 0, 0, []),
  (23, 1, .aload_n 0, 0, 0, 0, 0, []),
  (24, 3, .getfield 13, 7, 4, 0, 4010, []),
  (27, 3, .if_icmp .ge 108, 0, 0, 0, 0, [78]),
  (30, 1, .iconst 0, 0, 0, 0, 0, []),
  (31, 1, .istore_n 3, 0, 0, 0, 0, []),
  (32, 1, .iload_n 3, 0, 0, 0, 0, []),
  (33, 1, .aload_n 0, 0, 0, 0, 0, []),
  (34, 3, .getfield 93, 7, 5, 0, 4011, []),
  (37, 3, .if_icmp .ge 92, 0, 0, 0, 0, [76]),
  (40, 1, .aload_n 0, 0, 0, 0, 0, []),
  (41, 1, .iload_n 3, 0, 0, 0, 0, []),
  (42, 1, .iload_n 2, 0, 0, 0, 0, []),
  (43, 3, .invokevirtual 204, 133, 3, 0, 5029, []),
  (46, 1, .aload_n 0, 0, 0, 0, 0, []),
  (47, 3, .getfield 81, 7, 31, 0, 4037, []),
  (50, 2, .bipush 8, 0, 0, 8, 0, []),
  (52, 1, .iload_n 2, 0, 0, 0, 0, []),
  (53, 1, .imul, 0, 0, 0, 0, []),
  (54, 1, .iload_n 3, 0, 0, 0, 0, []),
  (55, 1, .iadd, 0, 0, 0, 0, []),
  (56, 1, .iconst 0, 0, 0, 0, 0, []),
  (57, 1, .iastore, 0, 0, 0, 0, []),
  (58, 1, .iconst 0, 0, 0, 0, 0, []),
  (59, 2, .istore 4, 0, 0, 0, 0, []),
  (61, 2, .iload 4, 0, 0, 0, 0, []),
  (63, 1, .aload_n 0, 0, 0, 0, 0, [])]
def am_c144_1 : List am_E := [(64, 3, .getfield 93, 7, 5, 0, 4011, []),
  (67, 3, .if_icmp .ge 56, 0, 0, 0, 0, [74]),
  (70, 1, .aload_n 0, 0, 0, 0, 0, []),
  (71, 3, .getfield 81, 7, 31, 0, 4037, []),
  (74, 2, .bipush 8, 0, 0, 8, 0, []),
  (76, 1, .iload_n 2, 0, 0, 0, 0, []),
  (77, 1, .imul, 0, 0, 0, 0, []),
  (78, 1, .iload_n 3, 0, 0, 0, 0, []),
  (79, 1, .iadd, 0, 0, 0, 0, []),
  (80, 1, .dup2, 0, 0, 0, 0, []),
  (81, 1, .iaload, 0, 0, 0, 0, []),
  (82, 1, .aload_n 0, 0, 0, 0, 0, []),
  (83, 3, .getfield 69, 7, 27, 0, 4033, []),
  (86, 2, .iload 4, 0, 0, 0, 0, []),
  (88, 1, .iaload, 0, 0, 0, 0, []),
  (89, 2, .ldc 183, 0, 0, 99999, 4234, []),
  (91, 3, .if_icmp .ge 23, 0, 0, 0, 0, [69]),
  (94, 1, .aload_n 0, 0, 0, 0, 0, []),
  (95, 3, .getfield 69, 7, 27, 0, 4033, []),
  (98, 2, .iload 4, 0, 0, 0, 0, []),
  (100, 1, .iaload, 0, 0, 0, 0, []),
  (101, 1, .iload_n 2, 0, 0, 0, 0, []),
  (102, 1, .isub, 0, 0, 0, 0, []),
  (103, 1, .iload_n 1, 0, 0, 0, 0, []),
  (104, 3, .if_icmp .gt 10, 0, 0, 0, 0, [69]),
  (107, 1, .iconst 1, 0, 0, 1, 0, []),
  (108, 2, .iload 4, 0, 0, 0, 0, []),
  (110, 1, .ishl, 0, 0, 0, 0, []),
  (111, 3, .goto 4, 0, 0, 0, 0, [70]),
  (114, 1, .iconst 0, 0, 0, 0, 0, []),
  (115, 1, .ior, 0, 0, 0, 0, []),
  (116, 1, .iastore, 0, 0, 0, 0, []),
  (117, 3, .iinc 4 1, 0, 0, 0, 0, []),
  (120, 3, .goto (-59), 0, 0, 0, 0, [38]),
  (123, 3, .iinc 3 1, 0, 0, 0, 0, []),
  (126, 3, .goto (-94), 0, 0, 0, 0, [19]),
  (129, 3, .iinc 2 1, 0, 0, 0, 0, []),
  (132, 3, .goto (-110), 0, 0, 0, 0, [13]),
  (135, 2, .bipush (-9), 0, 0, -9, 0, []),
  (137, 1, .istore_n 2, 0, 0, 0, 0, [])]
def am_c144_2 : List am_E := [(138, 1, .iconst 1, 0, 0, 1, 0, []),
  (139, 1, .istore_n 3, 0, 0, 0, 0, []),
  (140, 1, .iload_n 3, 0, 0, 0, 0, []),
  (141, 1, .iconst 1, 0, 0, 1, 0, []),
  (142, 1, .aload_n 0, 0, 0, 0, 0, []),
  (143, 3, .getfield 93, 7, 5, 0, 4011, []),
  (146, 1, .ishl, 0, 0, 0, 0, []),
  (147, 3, .if_icmp .ge 52, 0, 0, 0, 0, [112]),
  (150, 1, .iload_n 2, 0, 0, 0, 0, []),
  (151, 2, .bipush (-9), 0, 0, -9, 0, []),
  (153, 3, .if_icmp .eq 14, 0, 0, 0, 0, [96]),
  (156, 1, .iload_n 3, 0, 0, 0, 0, []),
  (157, 3, .invokestatic 195, 97, 1, 0, 5014, []),
  (160, 1, .iload_n 2, 0, 0, 0, 0, []),
  (161, 3, .invokestatic 195, 97, 1, 0, 5014, []),
  (164, 3, .if_icmp .ge 7, 0, 0, 0, 0, [98]),
  (167, 1, .iconst 1, 0, 0, 1, 0, []),
  (168, 3, .goto 4, 0, 0, 0, 0, [99]),
  (171, 1, .iconst 0, 0, 0, 0, 0, []),
  (172, 2, .istore 4, 0, 0, 0, 0, []),
  (174, 2, .iload 4, 0, 0, 0, 0, []),
  (176, 3, .ifCond .eq 15, 0, 0, 0, 0, [108]),
  (179, 1, .aload_n 0, 0, 0, 0, 0, []),
  (180, 1, .iload_n 3, 0, 0, 0, 0, []),
  (181, 3, .invokevirtual 222, 145, 2, 0, 5073, []),
  (184, 3, .ifCond .eq 7, 0, 0, 0, 0, [108]),
  (187, 1, .iload_n 3, 0, 0, 0, 0, []),
  (188, 3, .goto 4, 0, 0, 0, 0, [109]),
  (191, 1, .iload_n 2, 0, 0, 0, 0, []),
  (192, 1, .istore_n 2, 0, 0, 0, 0, []),
  (193, 3, .iinc 3 1, 0, 0, 0, 0, []),
  (196, 3, .goto (-56), 0, 0, 0, 0, [82]),
  (199, 1, .iload_n 2, 0, 0, 0, 0, []),
  (200, 1, .ireturn, 0, 0, 0, 0, [])]
def am_c144 : List am_E := am_c144_0 ++ am_c144_1 ++ am_c144_2
def am_c145_0 : List am_E := [(0, 1, .iconst 1, 0, 0, 1, 0, []),
  (1, 1, .istore_n 2, 0, 0, 0, 0, []),
  (2, 1, .iconst 0, 0, 0, 0, 0, []),
  (3, 1, .istore_n 3, 0, 0, 0, 0, []),
  (4, 1, .iload_n 3, 0, 0, 0, 0, []),
  (5, 1, .aload_n 0, 0, 0, 0, 0, []),
  (6, 3, .getfield 13, 7, 4, 0, 4010, []),
  (9, 3, .if_icmp .ge 83, 0, 0, 0, 0, [51]),
  (12, 1, .iload_n 2, 0, 0, 0, 0, []),
  (13, 3, .ifCond .eq 79, 0, 0, 0, 0, [51]),
  (16, 1, .iconst 0, 0, 0, 0, 0, []),
  (17, 2, .istore 4, 0, 0, 0, 0, []),
  (19, 1, .iconst 0, 0, 0, 0, 0, []),
  (20, 2, .istore 5, 0, 0, 0, 0, []),
  (22, 2, .iload 5, 0, 0, 0, 0, []),
  (24, 1, .aload_n 0, 0, 0, 0, 0, []),
  (25, 3, .getfield 93, 7, 5, 0, 4011, []),
  (28, 3, .if_icmp .ge 39, 0, 0, 0, 0, [37]),
  (31, 2, .iload 4, 0, 0, 0, 0, []),
  (33, 1, .iload_n 1, 0, 0, 0, 0, []),
  (34, 2, .iload 5, 0, 0, 0, 0, []),
  (36, 3, .invokestatic 119, 96, 2, 0, 4148, []),
  (39, 3, .ifCond .eq 18, 0, 0, 0, 0, [32]),
  (42, 1, .aload_n 0, 0, 0, 0, 0, []),
  (43, 3, .getfield 81, 7, 31, 0, 4037, []),
  (46, 2, .bipush 8, 0, 0, 8, 0, []),
  (48, 1, .iload_n 3, 0, 0, 0, 0, []),
  (49, 1, .imul, 0, 0, 0, 0, []),
  (50, 2, .iload 5, 0, 0, 0, 0, []),
  (52, 1, .iadd, 0, 0, 0, 0, []),
  (53, 1, .iaload, 0, 0, 0, 0, []),
  (54, 3, .goto 4, 0, 0, 0, 0, [33]),
  (57, 1, .iconst 0, 0, 0, 0, 0, []),
  (58, 1, .ior, 0, 0, 0, 0, []),
  (59, 2, .istore 4, 0, 0, 0, 0, []),
  (61, 3, .iinc 5 1, 0, 0, 0, 0, []),
  (64, 3, .goto (-42), 0, 0, 0, 0, [14]),
  (67, 2, .iload 4, 0, 0, 0, 0, []),
  (69, 1, .iconst 1, 0, 0, 1, 0, []),
  (70, 1, .aload_n 0, 0, 0, 0, 0, [])]
def am_c145_1 : List am_E := [(71, 3, .getfield 93, 7, 5, 0, 4011, []),
  (74, 1, .ishl, 0, 0, 0, 0, []),
  (75, 1, .iconst 1, 0, 0, 1, 0, []),
  (76, 1, .isub, 0, 0, 0, 0, []),
  (77, 3, .if_icmp .ne 7, 0, 0, 0, 0, [47]),
  (80, 1, .iconst 1, 0, 0, 1, 0, []),
  (81, 3, .goto 4, 0, 0, 0, 0, [48]),
  (84, 1, .iconst 0, 0, 0, 0, 0, []),
  (85, 1, .istore_n 2, 0, 0, 0, 0, []),
  (86, 3, .iinc 3 1, 0, 0, 0, 0, []),
  (89, 3, .goto (-85), 0, 0, 0, 0, [4]),
  (92, 1, .iload_n 2, 0, 0, 0, 0, []),
  (93, 1, .ireturn, 1, 0, 0, 0, [])]
def am_c145 : List am_E := am_c145_0 ++ am_c145_1
def am_c146_0 : List am_E := [(0, 1, .aload_n 0, 0, 0, 0, 0, []),
  (1, 1, .iconst 0, 0, 0, 0, 0, []),
  (2, 3, .putfield 90, 7, 0, 0, 4006, []),
  (5, 1, .aload_n 0, 0, 0, 0, 0, []),
  (6, 1, .iload_n 1, 0, 0, 0, 0, []),
  (7, 3, .invokevirtual 150, 98, 2, 0, 4167, []),
  (10, 3, .ifCond .ne 18, 0, 0, 0, 0, [14]),
  (13, 1, .aload_n 0, 0, 0, 0, 0, []),
  (14, 1, .iload_n 2, 0, 0, 0, 0, []),
  (15, 3, .invokevirtual 150, 98, 2, 0, 4167, []),
  (18, 3, .ifCond .ne 10, 0, 0, 0, 0, [14]),
  (21, 1, .iload_n 3, 0, 0, 0, 0, []),
  (22, 3, .invokestatic 166, 99, 1, 0, 4194, []),
  (25, 3, .ifCond .eq 5, 0, 0, 0, 0, [16]),
  (28, 1, .iconst (-1), 0, 0, -1, 0, []),
  (29, 1, .ireturn, 0, 0, 0, 0, []),
  (30, 1, .aload_n 0, 0, 0, 0, 0, []),
  (31, 3, .getfield 17, 7, 6, 0, 4012, []),
  (34, 1, .iload_n 1, 0, 0, 0, 0, []),
  (35, 1, .iaload, 0, 0, 0, 0, []),
  (36, 1, .aload_n 0, 0, 0, 0, 0, []),
  (37, 3, .getfield 17, 7, 6, 0, 4012, []),
  (40, 1, .iload_n 2, 0, 0, 0, 0, []),
  (41, 1, .iaload, 0, 0, 0, 0, []),
  (42, 3, .if_icmp .ne 6, 0, 0, 0, 0, [27]),
  (45, 2, .bipush (-2), 0, 0, -2, 0, []),
  (47, 1, .ireturn, 0, 0, 0, 0, []),
  (48, 1, .aload_n 0, 0, 0, 0, 0, []),
  (49, 3, .getfield 147, 7, 21, 0, 4027, []),
  (52, 2, .bipush 8, 0, 0, 8, 0, []),
  (54, 3, .if_icmp .ne 6, 0, 0, 0, 0, [33]),
  (57, 2, .bipush (-4), 0, 0, -4, 0, []),
  (59, 1, .ireturn, 0, 0, 0, 0, []),
  (60, 1, .aload_n 0, 0, 0, 0, 0, []),
  (61, 3, .getfield 53, 7, 22, 0, 4028, []),
  (64, 1, .aload_n 0, 0, 0, 0, 0, []),
  (65, 3, .getfield 147, 7, 21, 0, 4027, []),
  (68, 1, .iload_n 1, 0, 0, 0, 0, []),
  (69, 1, .iastore, 0, 0, 0, 0, []),
  (70, 1, .aload_n 0, 0, 0, 0, 0, [])]
def am_c146_1 : List am_E := [(71, 3, .getfield 56, 7, 23, 0, 4029, []),
  (74, 1, .aload_n 0, 0, 0, 0, 0, []),
  (75, 3, .getfield 147, 7, 21, 0, 4027, []),
  (78, 1, .iload_n 2, 0, 0, 0, 0, []),
  (79, 1, .iastore, 0, 0, 0, 0, []),
  (80, 1, .aload_n 0, 0, 0, 0, 0, []),
  (81, 3, .getfield 59, 7, 24, 0, 4030, []),
  (84, 1, .aload_n 0, 0, 0, 0, 0, []),
  (85, 3, .getfield 147, 7, 21, 0, 4027, []),
  (88, 1, .iload_n 3, 0, 0, 0, 0, []),
  (89, 1, .iastore, 0, 0, 0, 0, []),
  (90, 1, .aload_n 0, 0, 0, 0, 0, []),
  (91, 1, .dup, 0, 0, 0, 0, []),
  (92, 3, .getfield 147, 7, 21, 0, 4027, []),
  (95, 1, .iconst 1, 0, 0, 1, 0, []),
  (96, 1, .iadd, 0, 0, 0, 0, []),
  (97, 3, .putfield 147, 7, 21, 0, 4027, []),
  (100, 1, .aload_n 0, 0, 0, 0, 0, []),
  (101, 3, .getfield 147, 7, 21, 0, 4027, []),
  (104, 1, .ireturn, 0, 0, 0, 0, [])]
def am_c146 : List am_E := am_c146_0 ++ am_c146_1
def am_c147 : List am_E := [(0, 1, .aload_n 0, 0, 0, 0, 0, []),
  (1, 1, .iconst 0, 0, 0, 0, 0, []),
  (2, 3, .putfield 90, 7, 0, 0, 4006, []),
  (5, 1, .aload_n 0, 0, 0, 0, 0, []),
  (6, 3, .getfield 147, 7, 21, 0, 4027, []),
  (9, 1, .istore_n 1, 0, 0, 0, 0, []),
  (10, 1, .aload_n 0, 0, 0, 0, 0, []),
  (11, 1, .iconst 0, 0, 0, 0, 0, []),
  (12, 3, .putfield 147, 7, 21, 0, 4027, []),
  (15, 1, .iload_n 1, 0, 0, 0, 0, []),
  (16, 1, .ireturn, 0, 0, 0, 0, [])]
def am_c148 : List am_E := [(0, 1, .iload_n 1, 0, 0, 0, 0, []),
  (1, 3, .ifCond .ne 11, 0, 0, 0, 0, [6]),
  (4, 1, .iload_n 0, 0, 0, 0, 0, []),
  (5, 3, .sipush 361, 0, 0, 361, 0, []),
  (8, 1, .idiv, 0, 0, 0, 0, []),
  (9, 3, .goto 22, 0, 0, 0, 0, [18]),
  (12, 1, .iload_n 1, 0, 0, 0, 0, []),
  (13, 1, .iconst 1, 0, 0, 1, 0, []),
  (14, 3, .if_icmp .ne 13, 0, 0, 0, 0, [15]),
  (17, 1, .iload_n 0, 0, 0, 0, 0, []),
  (18, 2, .bipush 19, 0, 0, 19, 0, []),
  (20, 1, .idiv, 0, 0, 0, 0, []),
  (21, 2, .bipush 19, 0, 0, 19, 0, []),
  (23, 1, .irem, 0, 0, 0, 0, []),
  (24, 3, .goto 7, 0, 0, 0, 0, [18]),
  (27, 1, .iload_n 0, 0, 0, 0, 0, []),
  (28, 2, .bipush 19, 0, 0, 19, 0, []),
  (30, 1, .irem, 0, 0, 0, 0, []),
  (31, 2, .bipush 9, 0, 0, 9, 0, []),
  (33, 1, .isub, 0, 0, 0, 0, []),
  (34, 1, .ireturn, 0, 0, 0, 0, [])]
def am_c149_0 : List am_E := [(0, 1, .iconst 1, 0, 0, 1, 0, []),
  (1, 1, .istore_n 2, 0, 0, 0, 0, []),
  (2, 1, .iconst 0, 0, 0, 0, 0, []),
  (3, 1, .istore_n 3, 0, 0, 0, 0, []),
  (4, 1, .iload_n 3, 0, 0, 0, 0, []),
  (5, 1, .aload_n 0, 0, 0, 0, 0, []),
  (6, 3, .getfield 147, 7, 21, 0, 4027, []),
  (9, 3, .if_icmp .ge 93, 0, 0, 0, 0, [62]),
  (12, 1, .iload_n 1, 0, 0, 0, 0, []),
  (13, 1, .aload_n 0, 0, 0, 0, 0, []),
  (14, 3, .getfield 17, 7, 6, 0, 4012, []),
  (17, 1, .aload_n 0, 0, 0, 0, 0, []),
  (18, 3, .getfield 53, 7, 22, 0, 4028, []),
  (21, 1, .iload_n 3, 0, 0, 0, 0, []),
  (22, 1, .iaload, 0, 0, 0, 0, []),
  (23, 1, .iaload, 0, 0, 0, 0, []),
  (24, 3, .invokestatic 225, 148, 2, 0, 5097, []),
  (27, 1, .iload_n 1, 0, 0, 0, 0, []),
  (28, 1, .aload_n 0, 0, 0, 0, 0, []),
  (29, 3, .getfield 17, 7, 6, 0, 4012, []),
  (32, 1, .aload_n 0, 0, 0, 0, 0, []),
  (33, 3, .getfield 56, 7, 23, 0, 4029, []),
  (36, 1, .iload_n 3, 0, 0, 0, 0, []),
  (37, 1, .iaload, 0, 0, 0, 0, []),
  (38, 1, .iaload, 0, 0, 0, 0, []),
  (39, 3, .invokestatic 225, 148, 2, 0, 5097, []),
  (42, 1, .isub, 0, 0, 0, 0, []),
  (43, 2, .istore 4, 0, 0, 0, 0, []),
  (45, 1, .iload_n 2, 0, 0, 0, 0, []),
  (46, 3, .ifCond .eq 48, 0, 0, 0, 0, [58]),
  (49, 1, .aload_n 0, 0, 0, 0, 0, []),
  (50, 3, .getfield 23, 7, 8, 0, 4014, []),
  (53, 1, .aload_n 0, 0, 0, 0, 0, []),
  (54, 3, .getfield 53, 7, 22, 0, 4028, []),
  (57, 1, .iload_n 3, 0, 0, 0, 0, []),
  (58, 1, .iaload, 0, 0, 0, 0, []),
  (59, 1, .iaload, 0, 0, 0, 0, []),
  (60, 1, .aload_n 0, 0, 0, 0, 0, []),
  (61, 3, .getfield 23, 7, 8, 0, 4014, []),
  (64, 1, .aload_n 0, 0, 0, 0, 0, [])]
def am_c149_1 : List am_E := [(65, 3, .getfield 56, 7, 23, 0, 4029, []),
  (68, 1, .iload_n 3, 0, 0, 0, 0, []),
  (69, 1, .iaload, 0, 0, 0, 0, []),
  (70, 1, .iaload, 0, 0, 0, 0, []),
  (71, 1, .isub, 0, 0, 0, 0, []),
  (72, 2, .iload 4, 0, 0, 0, 0, []),
  (74, 1, .aload_n 0, 0, 0, 0, 0, []),
  (75, 3, .getfield 59, 7, 24, 0, 4030, []),
  (78, 1, .iload_n 3, 0, 0, 0, 0, []),
  (79, 1, .iaload, 0, 0, 0, 0, []),
  (80, 1, .imul, 0, 0, 0, 0, []),
  (81, 1, .iadd, 0, 0, 0, 0, []),
  (82, 1, .aload_n 0, 0, 0, 0, 0, []),
  (83, 3, .getfield 13, 7, 4, 0, 4010, []),
  (86, 1, .irem, 0, 0, 0, 0, []),
  (87, 3, .ifCond .ne 7, 0, 0, 0, 0, [58]),
  (90, 1, .iconst 1, 0, 0, 1, 0, []),
  (91, 3, .goto 4, 0, 0, 0, 0, [59]),
  (94, 1, .iconst 0, 0, 0, 0, 0, []),
  (95, 1, .istore_n 2, 0, 0, 0, 0, []),
  (96, 3, .iinc 3 1, 0, 0, 0, 0, []),
  (99, 3, .goto (-95), 0, 0, 0, 0, [4]),
  (102, 1, .iload_n 2, 0, 0, 0, 0, []),
  (103, 1, .ireturn, 1, 0, 0, 0, [])]
def am_c149 : List am_E := am_c149_0 ++ am_c149_1
def am_c150_0 : List am_E := [(0, 1, .iconst 0, 0, 0, 0, 0, []),
  (1, 1, .istore_n 1, 0, 0, 0, 0, []),
  (2, 1, .iconst 0, 0, 0, 0, 0, []),
  (3, 1, .istore_n 2, 0, 0, 0, 0, []),
  (4, 1, .iload_n 2, 0, 0, 0, 0, []),
  (5, 1, .iconst 3, 0, 0, 3, 0, []),
  (6, 3, .if_icmp .ge 25, 0, 0, 0, 0, [19]),
  (9, 1, .aload_n 0, 0, 0, 0, 0, []),
  (10, 3, .getfield 84, 7, 32, 0, 4038, []),
  (13, 1, .iload_n 2, 0, 0, 0, 0, []),
  (14, 2, .bipush 10, 0, 0, 10, 0, []),
  (16, 1, .iastore, 0, 0, 0, 0, []),
  (17, 1, .aload_n 0, 0, 0, 0, 0, []),
  (18, 3, .getfield 87, 7, 33, 0, 4039, []),
  (21, 1, .iload_n 2, 0, 0, 0, 0, []),
  (22, 2, .bipush (-10), 0, 0, -10, 0, []),
  (24, 1, .iastore, 0, 0, 0, 0, []),
  (25, 3, .iinc 2 1, 0, 0, 0, 0, []),
  (28, 3, .goto (-24), 0, 0, 0, 0, [4]),
  (31, 1, .iconst 0, 0, 0, 0, 0, []),
  (32, 1, .istore_n 2, 0, 0, 0, 0, []),
  (33, 1, .iload_n 2, 0, 0, 0, 0, []),
  (34, 3, .sipush 6859, 0, 0, 6859, 0, []),
  (37, 3, .if_icmp .ge 96, 0, 0, 0, 0, [74]),
  (40, 1, .aload_n 0, 0, 0, 0, 0, []),
  (41, 1, .iload_n 2, 0, 0, 0, 0, []),
  (42, 3, .invokevirtual 228, 149, 2, 0, 5093, []),
  (45, 3, .ifCond .eq 82, 0, 0, 0, 0, [72]),
  (48, 3, .iinc 1 1, 0, 0, 0, 0, []),
  (51, 1, .iconst 0, 0, 0, 0, 0, []),
  (52, 1, .istore_n 3, 0, 0, 0, 0, []),
  (53, 1, .iload_n 3, 0, 0, 0, 0, []),
  (54, 1, .iconst 3, 0, 0, 3, 0, []),
  (55, 3, .if_icmp .ge 72, 0, 0, 0, 0, [72]),
  (58, 1, .iload_n 2, 0, 0, 0, 0, []),
  (59, 1, .iload_n 3, 0, 0, 0, 0, []),
  (60, 3, .invokestatic 225, 148, 2, 0, 5097, []),
  (63, 2, .istore 4, 0, 0, 0, 0, []),
  (65, 1, .aload_n 0, 0, 0, 0, 0, []),
  (66, 3, .getfield 84, 7, 32, 0, 4038, [])]
def am_c150_1 : List am_E := [(69, 1, .iload_n 3, 0, 0, 0, 0, []),
  (70, 2, .iload 4, 0, 0, 0, 0, []),
  (72, 1, .aload_n 0, 0, 0, 0, 0, []),
  (73, 3, .getfield 84, 7, 32, 0, 4038, []),
  (76, 1, .iload_n 3, 0, 0, 0, 0, []),
  (77, 1, .iaload, 0, 0, 0, 0, []),
  (78, 3, .if_icmp .ge 8, 0, 0, 0, 0, [49]),
  (81, 2, .iload 4, 0, 0, 0, 0, []),
  (83, 3, .goto 9, 0, 0, 0, 0, [53]),
  (86, 1, .aload_n 0, 0, 0, 0, 0, []),
  (87, 3, .getfield 84, 7, 32, 0, 4038, []),
  (90, 1, .iload_n 3, 0, 0, 0, 0, []),
  (91, 1, .iaload, 0, 0, 0, 0, []),
  (92, 1, .iastore, 0, 0, 0, 0, []),
  (93, 1, .aload_n 0, 0, 0, 0, 0, []),
  (94, 3, .getfield 87, 7, 33, 0, 4039, []),
  (97, 1, .iload_n 3, 0, 0, 0, 0, []),
  (98, 2, .iload 4, 0, 0, 0, 0, []),
  (100, 1, .aload_n 0, 0, 0, 0, 0, []),
  (101, 3, .getfield 87, 7, 33, 0, 4039, []),
  (104, 1, .iload_n 3, 0, 0, 0, 0, []),
  (105, 1, .iaload, 0, 0, 0, 0, []),
  (106, 3, .if_icmp .le 8, 0, 0, 0, 0, [65]),
  (109, 2, .iload 4, 0, 0, 0, 0, []),
  (111, 3, .goto 9, 0, 0, 0, 0, [69]),
  (114, 1, .aload_n 0, 0, 0, 0, 0, []),
  (115, 3, .getfield 87, 7, 33, 0, 4039, []),
  (118, 1, .iload_n 3, 0, 0, 0, 0, []),
  (119, 1, .iaload, 0, 0, 0, 0, []),
  (120, 1, .iastore, 0, 0, 0, 0, []),
  (121, 3, .iinc 3 1, 0, 0, 0, 0, []),
  (124, 3, .goto (-71), 0, 0, 0, 0, [31]),
  (127, 3, .iinc 2 1, 0, 0, 0, 0, []),
  (130, 3, .goto (-97), 0, 0, 0, 0, [21]),
  (133, 1, .iload_n 1, 0, 0, 0, 0, []),
  (134, 1, .ireturn, 0, 0, 0, 0, [])]
def am_c150 : List am_E := am_c150_0 ++ am_c150_1
def am_c151 : List am_E := [(0, 1, .aload_n 0, 0, 0, 0, 0, []),
  (1, 1, .iconst 0, 0, 0, 0, 0, []),
  (2, 3, .putfield 90, 7, 0, 0, 4006, []),
  (5, 1, .aload_n 0, 0, 0, 0, 0, []),
  (6, 3, .invokevirtual 231, 150, 1, 0, 5089, []),
  (9, 1, .ireturn, 0, 0, 0, 0, [])]
def am_c152 : List am_E := [(0, 1, .aload_n 0, 0, 0, 0, 0, []),
  (1, 1, .iconst 0, 0, 0, 0, 0, []),
  (2, 3, .putfield 90, 7, 0, 0, 4006, []),
  (5, 1, .iload_n 1, 0, 0, 0, 0, []),
  (6, 3, .invokestatic 112, 100, 1, 0, 4144, []),
  (9, 3, .ifCond .eq 5, 0, 0, 0, 0, [8]),
  (12, 1, .iconst (-1), 0, 0, -1, 0, []),
  (13, 1, .ireturn, 0, 0, 0, 0, []),
  (14, 1, .aload_n 0, 0, 0, 0, 0, []),
  (15, 3, .invokevirtual 231, 150, 1, 0, 5089, []),
  (18, 1, .istore_n 3, 0, 0, 0, 0, []),
  (19, 1, .iload_n 3, 0, 0, 0, 0, []),
  (20, 3, .ifCond .ne 8, 0, 0, 0, 0, [15]),
  (23, 2, .bipush (-9), 0, 0, -9, 0, []),
  (25, 3, .goto 25, 0, 0, 0, 0, [28]),
  (28, 2, .bipush 10, 0, 0, 10, 0, []),
  (30, 1, .iload_n 2, 0, 0, 0, 0, []),
  (31, 3, .ifCond .eq 12, 0, 0, 0, 0, [23]),
  (34, 1, .aload_n 0, 0, 0, 0, 0, []),
  (35, 3, .getfield 87, 7, 33, 0, 4039, []),
  (38, 1, .iload_n 1, 0, 0, 0, 0, []),
  (39, 1, .iaload, 0, 0, 0, 0, []),
  (40, 3, .goto 9, 0, 0, 0, 0, [27]),
  (43, 1, .aload_n 0, 0, 0, 0, 0, []),
  (44, 3, .getfield 84, 7, 32, 0, 4038, []),
  (47, 1, .iload_n 1, 0, 0, 0, 0, []),
  (48, 1, .iaload, 0, 0, 0, 0, []),
  (49, 1, .iadd, 0, 0, 0, 0, []),
  (50, 1, .ireturn, 0, 0, 0, 0, [])]
def am_c153 : List am_E := [(0, 1, .iconst 0, 0, 0, 0, 0, []),
  (1, 1, .istore_n 1, 0, 0, 0, 0, []),
  (2, 1, .iconst 0, 0, 0, 0, 0, []),
  (3, 1, .istore_n 2, 0, 0, 0, 0, []),
  (4, 1, .iload_n 2, 0, 0, 0, 0, []),
  (5, 1, .iconst 3, 0, 0, 3, 0, []),
  (6, 3, .if_icmp .ge 26, 0, 0, 0, 0, [20]),
  (9, 1, .iload_n 1, 0, 0, 0, 0, []),
  (10, 1, .aload_n 0, 0, 0, 0, 0, []),
  (11, 3, .getfield 35, 7, 12, 0, 4018, []),
  (14, 1, .iload_n 2, 0, 0, 0, 0, []),
  (15, 1, .iaload, 0, 0, 0, 0, []),
  (16, 3, .ifCond .le 7, 0, 0, 0, 0, [15]),
  (19, 1, .iconst 1, 0, 0, 1, 0, []),
  (20, 3, .goto 4, 0, 0, 0, 0, [16]),
  (23, 1, .iconst 0, 0, 0, 0, 0, []),
  (24, 1, .iadd, 0, 0, 0, 0, []),
  (25, 1, .istore_n 1, 0, 0, 0, 0, []),
  (26, 3, .iinc 2 1, 0, 0, 0, 0, []),
  (29, 3, .goto (-25), 0, 0, 0, 0, [4]),
  (32, 1, .iload_n 1, 0, 0, 0, 0, []),
  (33, 1, .ireturn, 0, 0, 0, 0, [])]
def am_c154_0 : List am_E := [(0, 1, .aload_n 0, 0, 0, 0, 0, []),
  (1, 1, .iconst 0, 0, 0, 0, 0, []),
  (2, 3, .putfield 90, 7, 0, 0, 4006, []),
  (5, 1, .iload_n 1, 0, 0, 0, 0, []),
  (6, 1, .i2l, 0, 0, 0, 0, []),
  (7, 1, .lconst 0, 0, 0, 0, 0, []),
  (8, 1, .lconst 1, 0, 0, 1, 0, []),
  (9, 3, .invokestatic 96, 95, 3, 0, 4117, []),
  (12, 3, .ifCond .ne 5, 0, 0, 0, 0, [11]),
  (15, 1, .iconst (-1), 0, 0, -1, 0, []),
  (16, 1, .ireturn, 0, 0, 0, 0, []),
  (17, 1, .aload_n 0, 0, 0, 0, 0, []),
  (18, 3, .getfield 65, 7, 26, 0, 4032, []),
  (21, 1, .iload_n 1, 0, 0, 0, 0, []),
  (22, 1, .iconst 1, 0, 0, 1, 0, []),
  (23, 1, .bastore, 0, 0, 0, 0, []),
  (24, 1, .iconst 0, 0, 0, 0, 0, []),
  (25, 1, .istore_n 2, 0, 0, 0, 0, []),
  (26, 1, .iload_n 2, 0, 0, 0, 0, []),
  (27, 1, .iconst 3, 0, 0, 3, 0, []),
  (28, 3, .if_icmp .ge 65, 0, 0, 0, 0, [63]),
  (31, 1, .aload_n 0, 0, 0, 0, 0, []),
  (32, 3, .getfield 62, 7, 25, 0, 4031, []),
  (35, 2, .bipush 40, 0, 0, 40, 0, []),
  (37, 1, .iload_n 1, 0, 0, 0, 0, []),
  (38, 1, .imul, 0, 0, 0, 0, []),
  (39, 1, .iload_n 2, 0, 0, 0, 0, []),
  (40, 1, .iadd, 0, 0, 0, 0, []),
  (41, 1, .aload_n 0, 0, 0, 0, 0, []),
  (42, 3, .getfield 29, 7, 10, 0, 4016, []),
  (45, 1, .iload_n 2, 0, 0, 0, 0, []),
  (46, 1, .iaload, 0, 0, 0, 0, []),
  (47, 1, .iastore, 0, 0, 0, 0, []),
  (48, 1, .aload_n 0, 0, 0, 0, 0, []),
  (49, 3, .getfield 62, 7, 25, 0, 4031, []),
  (52, 2, .bipush 40, 0, 0, 40, 0, []),
  (54, 1, .iload_n 1, 0, 0, 0, 0, []),
  (55, 1, .imul, 0, 0, 0, 0, []),
  (56, 1, .iconst 3, 0, 0, 3, 0, []),
  (57, 1, .iadd, 0, 0, 0, 0, [])]
def am_c154_1 : List am_E := [(58, 1, .iload_n 2, 0, 0, 0, 0, []),
  (59, 1, .iadd, 0, 0, 0, 0, []),
  (60, 1, .aload_n 0, 0, 0, 0, 0, []),
  (61, 3, .getfield 32, 7, 11, 0, 4017, []),
  (64, 1, .iload_n 2, 0, 0, 0, 0, []),
  (65, 1, .iaload, 0, 0, 0, 0, []),
  (66, 1, .iastore, 0, 0, 0, 0, []),
  (67, 1, .aload_n 0, 0, 0, 0, 0, []),
  (68, 3, .getfield 62, 7, 25, 0, 4031, []),
  (71, 2, .bipush 40, 0, 0, 40, 0, []),
  (73, 1, .iload_n 1, 0, 0, 0, 0, []),
  (74, 1, .imul, 0, 0, 0, 0, []),
  (75, 2, .bipush 6, 0, 0, 6, 0, []),
  (77, 1, .iadd, 0, 0, 0, 0, []),
  (78, 1, .iload_n 2, 0, 0, 0, 0, []),
  (79, 1, .iadd, 0, 0, 0, 0, []),
  (80, 1, .aload_n 0, 0, 0, 0, 0, []),
  (81, 3, .getfield 35, 7, 12, 0, 4018, []),
  (84, 1, .iload_n 2, 0, 0, 0, 0, []),
  (85, 1, .iaload, 0, 0, 0, 0, []),
  (86, 1, .iastore, 0, 0, 0, 0, []),
  (87, 3, .iinc 2 1, 0, 0, 0, 0, []),
  (90, 3, .goto (-64), 0, 0, 0, 0, [18]),
  (93, 1, .iconst 0, 0, 0, 0, 0, []),
  (94, 1, .istore_n 2, 0, 0, 0, 0, []),
  (95, 1, .iload_n 2, 0, 0, 0, 0, []),
  (96, 2, .bipush 8, 0, 0, 8, 0, []),
  (98, 3, .if_icmp .ge 69, 0, 0, 0, 0, [112]),
  (101, 1, .aload_n 0, 0, 0, 0, 0, []),
  (102, 3, .getfield 62, 7, 25, 0, 4031, []),
  (105, 2, .bipush 40, 0, 0, 40, 0, []),
  (107, 1, .iload_n 1, 0, 0, 0, 0, []),
  (108, 1, .imul, 0, 0, 0, 0, []),
  (109, 2, .bipush 9, 0, 0, 9, 0, []),
  (111, 1, .iadd, 0, 0, 0, 0, []),
  (112, 1, .iload_n 2, 0, 0, 0, 0, []),
  (113, 1, .iadd, 0, 0, 0, 0, []),
  (114, 1, .aload_n 0, 0, 0, 0, 0, []),
  (115, 3, .getfield 53, 7, 22, 0, 4028, []),
  (118, 1, .iload_n 2, 0, 0, 0, 0, [])]
def am_c154_2 : List am_E := [(119, 1, .iaload, 0, 0, 0, 0, []),
  (120, 1, .iastore, 0, 0, 0, 0, []),
  (121, 1, .aload_n 0, 0, 0, 0, 0, []),
  (122, 3, .getfield 62, 7, 25, 0, 4031, []),
  (125, 2, .bipush 40, 0, 0, 40, 0, []),
  (127, 1, .iload_n 1, 0, 0, 0, 0, []),
  (128, 1, .imul, 0, 0, 0, 0, []),
  (129, 2, .bipush 17, 0, 0, 17, 0, []),
  (131, 1, .iadd, 0, 0, 0, 0, []),
  (132, 1, .iload_n 2, 0, 0, 0, 0, []),
  (133, 1, .iadd, 0, 0, 0, 0, []),
  (134, 1, .aload_n 0, 0, 0, 0, 0, []),
  (135, 3, .getfield 56, 7, 23, 0, 4029, []),
  (138, 1, .iload_n 2, 0, 0, 0, 0, []),
  (139, 1, .iaload, 0, 0, 0, 0, []),
  (140, 1, .iastore, 0, 0, 0, 0, []),
  (141, 1, .aload_n 0, 0, 0, 0, 0, []),
  (142, 3, .getfield 62, 7, 25, 0, 4031, []),
  (145, 2, .bipush 40, 0, 0, 40, 0, []),
  (147, 1, .iload_n 1, 0, 0, 0, 0, []),
  (148, 1, .imul, 0, 0, 0, 0, []),
  (149, 2, .bipush 25, 0, 0, 25, 0, []),
  (151, 1, .iadd, 0, 0, 0, 0, []),
  (152, 1, .iload_n 2, 0, 0, 0, 0, []),
  (153, 1, .iadd, 0, 0, 0, 0, []),
  (154, 1, .aload_n 0, 0, 0, 0, 0, []),
  (155, 3, .getfield 59, 7, 24, 0, 4030, []),
  (158, 1, .iload_n 2, 0, 0, 0, 0, []),
  (159, 1, .iaload, 0, 0, 0, 0, []),
  (160, 1, .iastore, 0, 0, 0, 0, []),
  (161, 3, .iinc 2 1, 0, 0, 0, 0, []),
  (164, 3, .goto (-69), 0, 0, 0, 0, [65]),
  (167, 1, .aload_n 0, 0, 0, 0, 0, []),
  (168, 3, .getfield 62, 7, 25, 0, 4031, []),
  (171, 2, .bipush 40, 0, 0, 40, 0, []),
  (173, 1, .iload_n 1, 0, 0, 0, 0, []),
  (174, 1, .imul, 0, 0, 0, 0, []),
  (175, 2, .bipush 33, 0, 0, 33, 0, []),
  (177, 1, .iadd, 0, 0, 0, 0, []),
  (178, 1, .aload_n 0, 0, 0, 0, 0, [])]
def am_c154_3 : List am_E := [(179, 3, .getfield 147, 7, 21, 0, 4027, []),
  (182, 1, .iastore, 0, 0, 0, 0, []),
  (183, 1, .aload_n 0, 0, 0, 0, 0, []),
  (184, 3, .invokevirtual 234, 153, 1, 0, 5108, []),
  (187, 1, .ireturn, 0, 0, 0, 0, [])]
def am_c154 : List am_E := am_c154_0 ++ am_c154_1 ++ am_c154_2 ++ am_c154_3
def am_c155_0 : List am_E := [(0, 1, .aload_n 0, 0, 0, 0, 0, []),
  (1, 1, .iconst 0, 0, 0, 0, 0, []),
  (2, 3, .putfield 90, 7, 0, 0, 4006, []),
  (5, 1, .iload_n 1, 0, 0, 0, 0, []),
  (6, 1, .i2l, 0, 0, 0, 0, []),
  (7, 1, .lconst 0, 0, 0, 0, 0, []),
  (8, 1, .lconst 1, 0, 0, 1, 0, []),
  (9, 3, .invokestatic 96, 95, 3, 0, 4117, []),
  (12, 3, .ifCond .ne 5, 0, 0, 0, 0, [11]),
  (15, 1, .iconst (-1), 0, 0, -1, 0, []),
  (16, 1, .ireturn, 0, 0, 0, 0, []),
  (17, 1, .aload_n 0, 0, 0, 0, 0, []),
  (18, 3, .getfield 65, 7, 26, 0, 4032, []),
  (21, 1, .iload_n 1, 0, 0, 0, 0, []),
  (22, 1, .baload, 0, 0, 0, 0, []),
  (23, 3, .ifCond .ne 6, 0, 0, 0, 0, [18]),
  (26, 2, .bipush (-3), 0, 0, -3, 0, []),
  (28, 1, .ireturn, 0, 0, 0, 0, []),
  (29, 1, .iconst 0, 0, 0, 0, 0, []),
  (30, 1, .istore_n 2, 0, 0, 0, 0, []),
  (31, 1, .iload_n 2, 0, 0, 0, 0, []),
  (32, 1, .iconst 3, 0, 0, 3, 0, []),
  (33, 3, .if_icmp .ge 65, 0, 0, 0, 0, [65]),
  (36, 1, .aload_n 0, 0, 0, 0, 0, []),
  (37, 3, .getfield 29, 7, 10, 0, 4016, []),
  (40, 1, .iload_n 2, 0, 0, 0, 0, []),
  (41, 1, .aload_n 0, 0, 0, 0, 0, []),
  (42, 3, .getfield 62, 7, 25, 0, 4031, []),
  (45, 2, .bipush 40, 0, 0, 40, 0, []),
  (47, 1, .iload_n 1, 0, 0, 0, 0, []),
  (48, 1, .imul, 0, 0, 0, 0, []),
  (49, 1, .iload_n 2, 0, 0, 0, 0, []),
  (50, 1, .iadd, 0, 0, 0, 0, []),
  (51, 1, .iaload, 0, 0, 0, 0, []),
  (52, 1, .iastore, 0, 0, 0, 0, []),
  (53, 1, .aload_n 0, 0, 0, 0, 0, []),
  (54, 3, .getfield 32, 7, 11, 0, 4017, []),
  (57, 1, .iload_n 2, 0, 0, 0, 0, []),
  (58, 1, .aload_n 0, 0, 0, 0, 0, []),
  (59, 3, .getfield 62, 7, 25, 0, 4031, [])]
def am_c155_1 : List am_E := [(62, 2, .bipush 40, 0, 0, 40, 0, []),
  (64, 1, .iload_n 1, 0, 0, 0, 0, []),
  (65, 1, .imul, 0, 0, 0, 0, []),
  (66, 1, .iconst 3, 0, 0, 3, 0, []),
  (67, 1, .iadd, 0, 0, 0, 0, []),
  (68, 1, .iload_n 2, 0, 0, 0, 0, []),
  (69, 1, .iadd, 0, 0, 0, 0, []),
  (70, 1, .iaload, 0, 0, 0, 0, []),
  (71, 1, .iastore, 0, 0, 0, 0, []),
  (72, 1, .aload_n 0, 0, 0, 0, 0, []),
  (73, 3, .getfield 35, 7, 12, 0, 4018, []),
  (76, 1, .iload_n 2, 0, 0, 0, 0, []),
  (77, 1, .aload_n 0, 0, 0, 0, 0, []),
  (78, 3, .getfield 62, 7, 25, 0, 4031, []),
  (81, 2, .bipush 40, 0, 0, 40, 0, []),
  (83, 1, .iload_n 1, 0, 0, 0, 0, []),
  (84, 1, .imul, 0, 0, 0, 0, []),
  (85, 2, .bipush 6, 0, 0, 6, 0, []),
  (87, 1, .iadd, 0, 0, 0, 0, []),
  (88, 1, .iload_n 2, 0, 0, 0, 0, []),
  (89, 1, .iadd, 0, 0, 0, 0, []),
  (90, 1, .iaload, 0, 0, 0, 0, []),
  (91, 1, .iastore, 0, 0, 0, 0, []),
  (92, 3, .iinc 2 1, 0, 0, 0, 0, []),
  (95, 3, .goto (-64), 0, 0, 0, 0, [20]),
  (98, 1, .iconst 0, 0, 0, 0, 0, []),
  (99, 1, .istore_n 2, 0, 0, 0, 0, []),
  (100, 1, .iload_n 2, 0, 0, 0, 0, []),
  (101, 2, .bipush 8, 0, 0, 8, 0, []),
  (103, 3, .if_icmp .ge 69, 0, 0, 0, 0, [114]),
  (106, 1, .aload_n 0, 0, 0, 0, 0, []),
  (107, 3, .getfield 53, 7, 22, 0, 4028, []),
  (110, 1, .iload_n 2, 0, 0, 0, 0, []),
  (111, 1, .aload_n 0, 0, 0, 0, 0, []),
  (112, 3, .getfield 62, 7, 25, 0, 4031, []),
  (115, 2, .bipush 40, 0, 0, 40, 0, []),
  (117, 1, .iload_n 1, 0, 0, 0, 0, []),
  (118, 1, .imul, 0, 0, 0, 0, []),
  (119, 2, .bipush 9, 0, 0, 9, 0, []),
  (121, 1, .iadd, 0, 0, 0, 0, [])]
def am_c155_2 : List am_E := [(122, 1, .iload_n 2, 0, 0, 0, 0, []),
  (123, 1, .iadd, 0, 0, 0, 0, []),
  (124, 1, .iaload, 0, 0, 0, 0, []),
  (125, 1, .iastore, 0, 0, 0, 0, []),
  (126, 1, .aload_n 0, 0, 0, 0, 0, []),
  (127, 3, .getfield 56, 7, 23, 0, 4029, []),
  (130, 1, .iload_n 2, 0, 0, 0, 0, []),
  (131, 1, .aload_n 0, 0, 0, 0, 0, []),
  (132, 3, .getfield 62, 7, 25, 0, 4031, []),
  (135, 2, .bipush 40, 0, 0, 40, 0, []),
  (137, 1, .iload_n 1, 0, 0, 0, 0, []),
  (138, 1, .imul, 0, 0, 0, 0, []),
  (139, 2, .bipush 17, 0, 0, 17, 0, []),
  (141, 1, .iadd, 0, 0, 0, 0, []),
  (142, 1, .iload_n 2, 0, 0, 0, 0, []),
  (143, 1, .iadd, 0, 0, 0, 0, []),
  (144, 1, .iaload, 0, 0, 0, 0, []),
  (145, 1, .iastore, 0, 0, 0, 0, []),
  (146, 1, .aload_n 0, 0, 0, 0, 0, []),
  (147, 3, .getfield 59, 7, 24, 0, 4030, []),
  (150, 1, .iload_n 2, 0, 0, 0, 0, []),
  (151, 1, .aload_n 0, 0, 0, 0, 0, []),
  (152, 3, .getfield 62, 7, 25, 0, 4031, []),
  (155, 2, .bipush 40, 0, 0, 40, 0, []),
  (157, 1, .iload_n 1, 0, 0, 0, 0, []),
  (158, 1, .imul, 0, 0, 0, 0, []),
  (159, 2, .bipush 25, 0, 0, 25, 0, []),
  (161, 1, .iadd, 0, 0, 0, 0, []),
  (162, 1, .iload_n 2, 0, 0, 0, 0, []),
  (163, 1, .iadd, 0, 0, 0, 0, []),
  (164, 1, .iaload, 0, 0, 0, 0, []),
  (165, 1, .iastore, 0, 0, 0, 0, []),
  (166, 3, .iinc 2 1, 0, 0, 0, 0, []),
  (169, 3, .goto (-69), 0, 0, 0, 0, [67]),
  (172, 1, .aload_n 0, 0, 0, 0, 0, []),
  (173, 1, .aload_n 0, 0, 0, 0, 0, []),
  (174, 3, .getfield 62, 7, 25, 0, 4031, []),
  (177, 2, .bipush 40, 0, 0, 40, 0, []),
  (179, 1, .iload_n 1, 0, 0, 0, 0, []),
  (180, 1, .imul, 0, 0, 0, 0, [])]
def am_c155_3 : List am_E := [(181, 2, .bipush 33, 0, 0, 33, 0, []),
  (183, 1, .iadd, 0, 0, 0, 0, []),
  (184, 1, .iaload, 0, 0, 0, 0, []),
  (185, 3, .putfield 147, 7, 21, 0, 4027, []),
  (188, 1, .aload_n 0, 0, 0, 0, 0, []),
  (189, 3, .invokevirtual 234, 153, 1, 0, 5108, []),
  (192, 1, .ireturn, 0, 0, 0, 0, [])]
def am_c155 : List am_E := am_c155_0 ++ am_c155_1 ++ am_c155_2 ++ am_c155_3
def am_c156_0 : List am_E := [(0, 1, .iload_n 0, 0, 0, 0, 0, []),
  (1, 1, .iload_n 0, 0, 0, 0, 0, []),
  (2, 1, .iconst 1, 0, 0, 1, 0, []),
  (3, 1, .iushr, 0, 0, 0, 0, []),
  (4, 3, .ldc_w 265, 0, 0, 1431655765, 3035, []),
  (7, 1, .iand, 0, 0, 0, 0, []),
  (8, 1, .isub, 0, 0, 0, 0, []),
  (9, 1, .istore_n 0, 0, 0, 0, 0, []),
  (10, 1, .iload_n 0, 0, 0, 0, 0, []),
  (11, 3, .ldc_w 266, 0, 0, 858993459, 3036, []),
  (14, 1, .iand, 0, 0, 0, 0, []),
  (15, 1, .iload_n 0, 0, 0, 0, 0, []),
  (16, 1, .iconst 2, 0, 0, 2, 0, []),
  (17, 1, .iushr, 0, 0, 0, 0, []),
  (18, 3, .ldc_w 266, 0, 0, 858993459, 3036, []),
  (21, 1, .iand, 0, 0, 0, 0, []),
  (22, 1, .iadd, 0, 0, 0, 0, []),
  (23, 1, .istore_n 0, 0, 0, 0, 0, []),
  (24, 1, .iload_n 0, 0, 0, 0, 0, []),
  (25, 1, .iload_n 0, 0, 0, 0, 0, []),
  (26, 1, .iconst 4, 0, 0, 4, 0, []),
  (27, 1, .iushr, 0, 0, 0, 0, []),
  (28, 1, .iadd, 0, 0, 0, 0, []),
  (29, 3, .ldc_w 267, 0, 0, 252645135, 3037, []),
  (32, 1, .iand, 0, 0, 0, 0, []),
  (33, 1, .istore_n 0, 0, 0, 0, 0, []),
  (34, 1, .iload_n 0, 0, 0, 0, 0, []),
  (35, 1, .iload_n 0, 0, 0, 0, 0, []),
  (36, 2, .bipush 8, 0, 0, 8, 0, []),
  (38, 1, .iushr, 0, 0, 0, 0, []),
  (39, 1, .iadd, 0, 0, 0, 0, []),
  (40, 1, .istore_n 0, 0, 0, 0, 0, []),
  (41, 1, .iload_n 0, 0, 0, 0, 0, []),
  (42, 1, .iload_n 0, 0, 0, 0, 0, []),
  (43, 2, .bipush 16, 0, 0, 16, 0, []),
  (45, 1, .iushr, 0, 0, 0, 0, []),
  (46, 1, .iadd, 0, 0, 0, 0, []),
  (47, 1, .istore_n 0, 0, 0, 0, 0, []),
  (48, 1, .iload_n 0, 0, 0, 0, 0, []),
  (49, 2, .bipush 63, 0, 0, 63, 0, [])]
def am_c156_1 : List am_E := [(51, 1, .iand, 0, 0, 0, 0, []),
  (52, 1, .ireturn, 0, 0, 0, 0, [])]
def am_c156 : List am_E := am_c156_0 ++ am_c156_1
def am_c157 : List am_E := [(0, 1, .iload_n 0, 0, 0, 0, 0, []),
  (1, 1, .iload_n 1, 0, 0, 0, 0, []),
  (2, 1, .irem, 0, 0, 0, 0, []),
  (3, 1, .istore_n 2, 0, 0, 0, 0, []),
  (4, 1, .iload_n 0, 0, 0, 0, 0, []),
  (5, 1, .iload_n 1, 0, 0, 0, 0, []),
  (6, 1, .ixor, 0, 0, 0, 0, []),
  (7, 3, .ifCond .ge 11, 0, 0, 0, 0, [14]),
  (10, 1, .iload_n 2, 0, 0, 0, 0, []),
  (11, 3, .ifCond .eq 7, 0, 0, 0, 0, [14]),
  (14, 1, .iload_n 2, 0, 0, 0, 0, []),
  (15, 1, .iload_n 1, 0, 0, 0, 0, []),
  (16, 1, .iadd, 0, 0, 0, 0, []),
  (17, 1, .ireturn, 0, 0, 0, 0, []),
  (18, 1, .iload_n 2, 0, 0, 0, 0, []),
  (19, 1, .ireturn, 0, 0, 0, 0, [])]
def am_c158 : List am_E := [(0, 1, .iload_n 0, 0, 0, 0, 0, []),
  (1, 3, .ifCond .ge 8, 0, 0, 0, 0, [5]),
  (4, 1, .iload_n 0, 0, 0, 0, 0, []),
  (5, 1, .ineg, 0, 0, 0, 0, []),
  (6, 3, .goto 4, 0, 0, 0, 0, [6]),
  (9, 1, .iload_n 0, 0, 0, 0, 0, []),
  (10, 1, .ireturn, 0, 0, 0, 0, [])]
def am_c159 : List am_E := [(0, 1, .iload_n 0, 0, 0, 0, 0, []),
  (1, 1, .iload_n 1, 0, 0, 0, 0, []),
  (2, 3, .if_icmp .lt 7, 0, 0, 0, 0, [5]),
  (5, 1, .iload_n 0, 0, 0, 0, 0, []),
  (6, 3, .goto 4, 0, 0, 0, 0, [6]),
  (9, 1, .iload_n 1, 0, 0, 0, 0, []),
  (10, 1, .ireturn, 0, 0, 0, 0, [])]
def am_c160 : List am_E := [(0, 1, .iload_n 0, 0, 0, 0, 0, []),
  (1, 1, .iload_n 1, 0, 0, 0, 0, []),
  (2, 3, .if_icmp .gt 7, 0, 0, 0, 0, [5]),
  (5, 1, .iload_n 0, 0, 0, 0, 0, []),
  (6, 3, .goto 4, 0, 0, 0, 0, [6]),
  (9, 1, .iload_n 1, 0, 0, 0, 0, []),
  (10, 1, .ireturn, 0, 0, 0, 0, [])]
def am_c161 : List am_E := [(0, 1, .iconst 0, 0, 0, 0, 0, []),
  (1, 1, .istore_n 3, 0, 0, 0, 0, []),
  (2, 1, .aload_n 0, 0, 0, 0, 0, []),
  (3, 1, .arraylength, 0, 0, 0, 0, []),
  (4, 2, .istore 4, 0, 0, 0, 0, []),
  (6, 1, .iload_n 3, 0, 0, 0, 0, []),
  (7, 2, .iload 4, 0, 0, 0, 0, []),
  (9, 3, .if_icmp .ge 13, 0, 0, 0, 0, [14]),
  (12, 1, .aload_n 0, 0, 0, 0, 0, []),
  (13, 1, .iload_n 3, 0, 0, 0, 0, []),
  (14, 1, .lload_n 1, 0, 0, 0, 0, []),
  (15, 1, .lastore, 0, 0, 0, 0, []),
  (16, 3, .iinc 3 1, 0, 0, 0, 0, []),
  (19, 3, .goto (-13), 0, 0, 0, 0, [5]),
  (22, 1, .return_, 0, 0, 0, 0, [])]
def am_c162 : List am_E := [(0, 1, .iconst 0, 0, 0, 0, 0, []),
  (1, 1, .istore_n 2, 0, 0, 0, 0, []),
  (2, 1, .aload_n 0, 0, 0, 0, 0, []),
  (3, 1, .arraylength, 0, 0, 0, 0, []),
  (4, 1, .istore_n 3, 0, 0, 0, 0, []),
  (5, 1, .iload_n 2, 0, 0, 0, 0, []),
  (6, 1, .iload_n 3, 0, 0, 0, 0, []),
  (7, 3, .if_icmp .ge 13, 0, 0, 0, 0, [14]),
  (10, 1, .aload_n 0, 0, 0, 0, 0, []),
  (11, 1, .iload_n 2, 0, 0, 0, 0, []),
  (12, 1, .iload_n 1, 0, 0, 0, 0, []),
  (13, 1, .iastore, 0, 0, 0, 0, []),
  (14, 3, .iinc 2 1, 0, 0, 0, 0, []),
  (17, 3, .goto (-12), 0, 0, 0, 0, [5]),
  (20, 1, .return_, 0, 0, 0, 0, [])]
/-- a method: name, bytes, locals, answer, its class, static, parameters, frames, locals' room, code, the places of its words -/
def am_ms0 : List am_M := [(yX0_tryAll, cX0_tryAll, 4, none, 0, false, 1, 3, 70, am_c0, [3195, 1007, 3193, 3194]),
  (yX0_tryInmost, cX0_tryInmost, 4, none, 0, false, 2, 2, 43, am_c1, [3213, 1007, 3212, 25]),
  (yX0_widen, cX0_widen, 3, none, 0, false, 2, 1, 21, am_c2, [3217, 1007, 3216, 26]),
  (yX0_fits, cX0_fits, 4, some .boolean, 0, false, 3, 0, 0, am_c3, [3209, 1007, 3208, 24])]
def am_ms1 : List am_M := [(yX0_ruleOut, cX0_ruleOut, 8, none, 0, false, 3, 2, 43, am_c4, [3203, 1007, 3202, 23]),
  (yX1_startWith, cX1_startWith, 3, none, 1, false, 1, 2, 43, am_c5, [2111, 1004, 2109, 2110]),
  (yX1_takeFrom, cX1_takeFrom, 2, none, 1, false, 1, 1, 48, am_c6, [3017, 1004, 3015, 3016]),
  (yX1_clearBrakes, cX1_clearBrakes, 1, none, 1, false, 0, 1, 23, am_c7, [2115, 1004, 2113, 2114])]
def am_ms2 : List am_M := [(yX1_setBrake, cX1_setBrake, 4, none, 1, false, 3, 0, 0, am_c8, [2161, 1004, 2159, 2160]),
  (yX1_slow, cX1_slow, 4, none, 1, false, 2, 1, 21, am_c9, [2169, 1004, 2167, 2168]),
  (yX1_braked, cX1_braked, 3, some .int, 1, false, 0, 0, 0, am_c10, [3235, 1004, 3233, 3234]),
  (yX1_addSeen, cX1_addSeen, 4, none, 1, false, 3, 0, 0, am_c11, [3183, 1004, 3181, 3182])]
def am_ms3 : List am_M := [(yX2_clear, cX2_clear, 1, none, 2, false, 0, 1, 23, am_c12, [2066, 1003, 2064, 2065]),
  (yX2_takeFrom, cX2_takeFrom, 2, none, 2, false, 1, 1, 48, am_c13, [2104, 1003, 2102, 2103]),
  (yX2_hasGate, cX2_hasGate, 2, some .boolean, 2, false, 1, 0, 0, am_c14, [2144, 1003, 2142, 2143]),
  (yX2_hasGates, cX2_hasGates, 2, some .boolean, 2, false, 1, 0, 0, am_c15, [3031, 1003, 3029, 3030])]
def am_ms4 : List am_M := [(yX2_wrap, cX2_wrap, 2, some .int, 2, false, 1, 1, 22, am_c16, [2129, 1003, 2127, 2128]),
  (yX2_walk, cX2_walk, 4, some .int, 2, false, 2, 1, 21, am_c17, [3064, 1003, 3062, 3063]),
  (yX3_firstFault, cX3_firstFault, 4, some .int, 3, false, 2, 3, 65, am_c18, [2062, 1002, 2060, 2061]),
  (yX3_takes, cX3_takes, 3, some .boolean, 3, false, 1, 2, 43, am_c19, [2073, 1002, 2072, 0])]
def am_ms5 : List am_M := [(yX3_takesLetter, cX3_takesLetter, 2, some .boolean, 3, false, 1, 0, 0, am_c20, [2077, 1002, 2076, 1]),
  (yX3_takesParts, cX3_takesParts, 2, some .boolean, 3, false, 1, 0, 0, am_c21, [2081, 1002, 2080, 2]),
  (yX3_takesPace, cX3_takesPace, 2, some .boolean, 3, false, 1, 1, 20, am_c22, [2096, 1002, 2095, 5]),
  (yX3_takesGate, cX3_takesGate, 2, some .boolean, 3, false, 1, 1, 22, am_c23, [2085, 1002, 2084, 3])]
def am_ms6 : List am_M := [(yX3_addsGate, cX3_addsGate, 3, some .boolean, 3, false, 1, 0, 0, am_c24, [2092, 1002, 2091, 4]),
  (yX4_pairUp, cX4_pairUp, 4, none, 4, false, 0, 3, 65, am_c25, [2120, 1005, 2118, 2119]),
  (yX4_addPair, cX4_addPair, 3, none, 4, false, 2, 2, 43, am_c26, [2125, 1005, 2124, 6]),
  (yX4_lay, cX4_lay, 3, none, 4, false, 1, 2, 43, am_c27, [2186, 1005, 2184, 2185])]
def am_ms7 : List am_M := [(yX4_layRing, cX4_layRing, 7, none, 4, false, 4, 0, 0, am_c28, [2192, 1005, 2191, 7]),
  (yX4_fold, cX4_fold, 3, some .int, 4, false, 1, 1, 21, am_c29, [2196, 1005, 2194, 2195]),
  (yX4_horizonFrom, cX4_horizonFrom, 2, some .int, 4, false, 1, 1, 21, am_c30, [2239, 1005, 2237, 2238]),
  (yX4_placeAt, cX4_placeAt, 4, some .int, 4, false, 2, 2, 43, am_c31, [2200, 1005, 2198, 2199])]
def am_ms8 : List am_M := [(yX4_atOnePlace, cX4_atOnePlace, 7, some .boolean, 4, false, 2, 3, 66, am_c32, [3041, 1005, 3039, 3040]),
  (yX4_joinOf, cX4_joinOf, 4, some .int, 4, false, 2, 1, 21, am_c33, [2212, 1005, 2210, 2211]),
  (yX4_isOpen, cX4_isOpen, 3, some .boolean, 4, false, 2, 2, 43, am_c34, [2217, 1005, 2215, 2216]),
  (yX4_isPair, cX4_isPair, 2, some .boolean, 4, false, 1, 0, 0, am_c35, [2221, 1005, 2220, 9])]
def am_ms9 : List am_M := [(yX4_openAt, cX4_openAt, 5, some .boolean, 4, false, 2, 0, 0, am_c36, [2226, 1005, 2225, 10]),
  (yX4_waitFor, cX4_waitFor, 9, some .int, 4, false, 2, 2, 43, am_c37, [2234, 1005, 2232, 2233]),
  (yX4_rememberWaits, cX4_rememberWaits, 8, none, 4, false, 4, 0, 0, am_c38, [3003, 1005, 3002, 11]),
  (yX5_spread, cX5_spread, 7, none, 5, false, 2, 4, 95, am_c39, [3050, 1006, 3048, 3049])]
def am_ms10 : List am_M := [(yX5_soonestOf, cX5_soonestOf, 5, some .int, 5, false, 1, 0, 0, am_c40, [3056, 1006, 3055, 12]),
  (yX5_reach, cX5_reach, 5, some .int, 5, false, 3, 3, 71, am_c41, [3060, 1006, 3059, 13]),
  (yX5_gateOfStep, cX5_gateOfStep, 7, some .int, 5, false, 3, 6, 141, am_c42, [3083, 1006, 3081, 3082]),
  (yX5_stepsTo, cX5_stepsTo, 5, some .int, 5, false, 2, 5, 117, am_c43, [3087, 1006, 3086, 14])]
def am_ms11 : List am_M := [(yX5_gateAhead, cX5_gateAhead, 3, some .int, 5, false, 1, 4, 95, am_c44, [3091, 1006, 3090, 15]),
  (yX5_lastStart, cX5_lastStart, 9, some .int, 5, false, 3, 5, 121, am_c45, [3099, 1006, 3097, 3098]),
  (yX5_endOfRound, cX5_endOfRound, 8, some .int, 5, false, 3, 6, 147, am_c46, [3108, 1006, 3106, 3107]),
  (yX5_addStops, cX5_addStops, 7, none, 5, false, 2, 5, 121, am_c47, [3112, 1006, 3111, 16])]
def am_ms12 : List am_M := [(yX5_longest, cX5_longest, 5, some .int, 5, false, 2, 5, 121, am_c48, [3148, 1006, 3146, 3147]),
  (yX5_rememberAll, cX5_rememberAll, 4, none, 5, false, 1, 5, 121, am_c49, [3136, 1006, 3134, 3135]),
  (yX5_countLater, cX5_countLater, 5, some .int, 5, false, 1, 5, 121, am_c50, [3140, 1006, 3138, 3139]),
  (yX5_fewestPumps, cX5_fewestPumps, 4, some .int, 5, false, 0, 1, 22, am_c51, [3170, 1006, 3168, 3169])]
def am_ms13 : List am_M := [(yX5_collectPumpSets, cX5_collectPumpSets, 4, none, 5, false, 1, 6, 144, am_c52, [3157, 1006, 3155, 3156]),
  (yX5_gatesInTime, cX5_gatesInTime, 5, some .int, 5, false, 2, 0, 0, am_c53, [3162, 1006, 3161, 20]),
  (yX5_addPumpSet, cX5_addPumpSet, 3, none, 5, false, 1, 0, 0, am_c54, [3166, 1006, 3165, 21]),
  (yX5_servesAll, cX5_servesAll, 3, some .boolean, 5, false, 1, 0, 0, am_c55, [3175, 1006, 3174, 22])]
def am_ms14 : List am_M := [(yX6_write, cX6_write, 5, some .int, 6, false, 2, 0, 0, am_c56, [2050, 1001, 2048, 2049]),
  (yX6_wipe, cX6_wipe, 2, some .int, 6, false, 0, 0, 0, am_c57, [2054, 1001, 2052, 2053]),
  (yX6_fault, cX6_fault, 1, some .int, 6, false, 0, 4, 88, am_c58, [2058, 1001, 2056, 2057]),
  (yX6_city, cX6_city, 1, some .int, 6, false, 0, 4, 88, am_c59, [2100, 1001, 2098, 2099])]
def am_ms15 : List am_M := [(yX6_about, cX6_about, 2, some .int, 6, false, 1, 0, 0, am_c60, [2136, 1001, 2134, 2135]),
  (yX6_gate, cX6_gate, 3, some .int, 6, false, 2, 1, 21, am_c61, [2140, 1001, 2138, 2139]),
  (yX6_pace, cX6_pace, 2, some .int, 6, false, 1, 1, 20, am_c62, [2148, 1001, 2146, 2147]),
  (yX6_turn, cX6_turn, 4, some .int, 6, false, 2, 1, 20, am_c63, [2153, 1001, 2151, 2152])]
def am_ms16 : List am_M := [(yX6_brake, cX6_brake, 5, some .int, 6, false, 3, 1, 23, am_c64, [2157, 1001, 2155, 2156]),
  (yX6_dry, cX6_dry, 4, some .int, 6, false, 1, 2, 44, am_c65, [2165, 1001, 2163, 2164]),
  (yX6_where, cX6_where, 3, some .int, 6, false, 2, 3, 66, am_c66, [2179, 1001, 2177, 2178]),
  (yX6_open, cX6_open, 4, some .int, 6, false, 3, 3, 65, am_c67, [2204, 1001, 2202, 2203])]
def am_ms17 : List am_M := [(yX6_next, cX6_next, 5, some .int, 6, false, 3, 3, 71, am_c68, [2230, 1001, 2228, 2229]),
  (yX6_stays, cX6_stays, 7, some .int, 6, false, 3, 3, 65, am_c69, [3008, 1001, 3006, 3007]),
  (yX6_share, cX6_share, 7, some .int, 6, false, 3, 3, 69, am_c70, [3013, 1001, 3011, 3012]),
  (yX6_meet, cX6_meet, 5, some .int, 6, false, 2, 4, 92, am_c71, [3027, 1001, 3025, 3026])]
def am_ms18 : List am_M := [(yX6_soonest, cX6_soonest, 4, some .int, 6, false, 3, 5, 121, am_c72, [3046, 1001, 3044, 3045]),
  (yX6_step, cX6_step, 7, some .int, 6, false, 5, 7, 167, am_c73, [3079, 1001, 3077, 3078]),
  (yX6_latest, cX6_latest, 4, some .int, 6, false, 3, 6, 149, am_c74, [3095, 1001, 3093, 3094]),
  (yX6_round, cX6_round, 4, some .int, 6, false, 3, 7, 174, am_c75, [3104, 1001, 3102, 3103])]
def am_ms19 : List am_M := [(yX6_bestBrake, cX6_bestBrake, 7, some .int, 6, false, 5, 6, 150, am_c76, [3116, 1001, 3114, 3115]),
  (yX6_harm, cX6_harm, 8, some .int, 6, false, 5, 6, 150, am_c77, [3132, 1001, 3130, 3131]),
  (yX6_worst, cX6_worst, 3, some .int, 6, false, 2, 6, 145, am_c78, [3144, 1001, 3142, 3143]),
  (yX6_pumps, cX6_pumps, 2, some .int, 6, false, 1, 7, 167, am_c79, [3153, 1001, 3151, 3152])]
def am_ms20 : List am_M := [(yX6_see, cX6_see, 4, some .int, 6, false, 3, 2, 43, am_c80, [3179, 1001, 3177, 3178]),
  (yX6_unsee, cX6_unsee, 2, some .int, 6, false, 0, 0, 0, am_c81, [3187, 1001, 3185, 3186]),
  (yX6_rows, cX6_rows, 1, some .int, 6, false, 0, 4, 93, am_c82, [3191, 1001, 3189, 3190]),
  (yX6_likely, cX6_likely, 3, some .int, 6, false, 2, 4, 93, am_c83, [3223, 1001, 3221, 3222])]
def am_ms21 : List am_M := [(yX6_keep, cX6_keep, 3, some .int, 6, false, 1, 2, 69, am_c84, [3227, 1001, 3225, 3226]),
  (yX6_again, cX6_again, 3, some .int, 6, false, 1, 2, 69, am_c85, [3239, 1001, 3237, 3238]),
  (yX6_isRing, cX6_isRing, 1, some .boolean, 6, true, 1, 0, 0, am_c86, [2088, 1001, 2087, 0]),
  (yX6_isSecond, cX6_isSecond, 1, some .boolean, 6, true, 1, 0, 0, am_c87, [2182, 1001, 2181, 0])]
def am_ms22 : List am_M := [(yX6_slotAt, cX6_slotAt, 2, some (.object "ThreeRings$Motion"), 6, false, 1, 0, 0, am_c88, [3231, 1001, 3230, 27]),
  (yX6_areGates, cX6_areGates, 3, some .boolean, 6, false, 2, 1, 21, am_c89, [2208, 1001, 2207, 8]),
  (yX6_orNone, cX6_orNone, 1, some .int, 6, true, 1, 0, 0, am_c90, [3075, 1001, 3074, 0]),
  (yX6_commonDivisor, cX6_commonDivisor, 3, some .int, 6, true, 2, 1, 21, am_c91, [3022, 1001, 3021, 0])]
def am_ms23 : List am_M := [(yX6_refuseBestBrake, cX6_refuseBestBrake, 6, some .int, 6, false, 5, 2, 43, am_c92, [3120, 1001, 3119, 17]),
  (yX6_layTrial, cX6_layTrial, 4, none, 6, false, 3, 3, 69, am_c93, [3128, 1001, 3127, 19]),
  (yX6_bestBrakeStart, cX6_bestBrakeStart, 10, some .int, 6, false, 5, 5, 121, am_c94, [3124, 1001, 3123, 18]),
  (yX7_in, cX7_in, 6, some .boolean, 7, true, 3, 0, 0, am_c95, [4119, 1008, 4118, 0])]
def am_ms24 : List am_M := [(yX7_has, cX7_has, 2, some .boolean, 7, true, 2, 0, 0, am_c96, [4150, 1008, 4149, 0]),
  (yX7_many, cX7_many, 3, some .int, 7, true, 1, 0, 0, am_c97, [5016, 1008, 5015, 0]),
  (yX7_noGate, cX7_noGate, 2, some .boolean, 7, false, 1, 1, 25, am_c98, [4170, 1008, 4169, 33]),
  (yX7_noSecond, cX7_noSecond, 1, some .boolean, 7, true, 1, 1, 25, am_c99, [4196, 1008, 4195, 0])]
def am_ms25 : List am_M := [(yX7_noRing, cX7_noRing, 1, some .boolean, 7, true, 1, 1, 25, am_c100, [4146, 1008, 4145, 0]),
  (yX7_write, cX7_write, 5, some .int, 7, false, 2, 1, 25, am_c101, [4115, 1008, 4113, 4114]),
  (yX7_wipe, cX7_wipe, 2, some .int, 7, false, 0, 0, 0, am_c102, [4123, 1008, 4121, 4122]),
  (yX7_figure, cX7_figure, 3, some .int, 7, false, 2, 1, 25, am_c103, [4135, 1008, 4134, 29])]
def am_ms26 : List am_M := [(yX7_readRingPart, cX7_readRingPart, 4, some .boolean, 7, false, 1, 2, 47, am_c104, [4143, 1008, 4142, 31]),
  (yX7_readGate, cX7_readGate, 7, some .boolean, 7, false, 0, 2, 47, am_c105, [4154, 1008, 4153, 32]),
  (yX7_readPart, cX7_readPart, 4, some .boolean, 7, false, 0, 3, 73, am_c106, [4139, 1008, 4138, 30]),
  (yX7_readCity, cX7_readCity, 2, some .int, 7, false, 0, 4, 96, am_c107, [4131, 1008, 4130, 28])]
def am_ms27 : List am_M := [(yX7_fault, cX7_fault, 1, some .int, 7, false, 0, 5, 117, am_c108, [4127, 1008, 4125, 4126]),
  (yX7_city, cX7_city, 2, some .int, 7, false, 0, 5, 117, am_c109, [4158, 1008, 4156, 4157]),
  (yX7_about, cX7_about, 2, some .int, 7, false, 1, 0, 0, am_c110, [4162, 1008, 4160, 4161]),
  (yX7_gate, cX7_gate, 3, some .int, 7, false, 2, 2, 46, am_c111, [4166, 1008, 4164, 4165])]
def am_ms28 : List am_M := [(yX7_pace, cX7_pace, 2, some .int, 7, false, 1, 2, 45, am_c112, [4174, 1008, 4172, 4173]),
  (yX7_turn, cX7_turn, 4, some .int, 7, false, 2, 2, 45, am_c113, [4178, 1008, 4176, 4177]),
  (yX7_brake, cX7_brake, 5, some .int, 7, false, 3, 2, 45, am_c114, [4184, 1008, 4182, 4183]),
  (yX7_dry, cX7_dry, 6, some .int, 7, false, 1, 1, 25, am_c115, [4189, 1008, 4187, 4188])]
def am_ms29 : List am_M := [(yX7_turned, cX7_turned, 5, some .int, 7, false, 2, 0, 0, am_c116, [4205, 1008, 4204, 35]),
  (yX7_spotBy, cX7_spotBy, 6, some .int, 7, false, 3, 0, 0, am_c117, [4209, 1008, 4208, 36]),
  (yX7_spotAt, cX7_spotAt, 3, some .int, 7, false, 2, 1, 25, am_c118, [4201, 1008, 4200, 34]),
  (yX7_where, cX7_where, 3, some .int, 7, false, 2, 2, 47, am_c119, [4193, 1008, 4191, 4192])]
def am_ms30 : List am_M := [(yX7_areBeside, cX7_areBeside, 5, some .boolean, 7, false, 2, 0, 0, am_c120, [4221, 1008, 4220, 38]),
  (yX7_isOpenAt, cX7_isOpenAt, 10, some .boolean, 7, false, 5, 0, 0, am_c121, [4225, 1008, 4224, 39]),
  (yX7_isOpen, cX7_isOpen, 4, some .boolean, 7, false, 3, 2, 47, am_c122, [4217, 1008, 4216, 37]),
  (yX7_open, cX7_open, 4, some .int, 7, false, 3, 3, 70, am_c123, [4213, 1008, 4211, 4212])]
def am_ms31 : List am_M := [(yX7_calm, cX7_calm, 5, some .int, 7, false, 1, 0, 0, am_c124, [4238, 1008, 4237, 41]),
  (yX7_nextOf, cX7_nextOf, 6, some .int, 7, false, 3, 3, 70, am_c125, [4233, 1008, 4232, 40]),
  (yX7_next, cX7_next, 5, some .int, 7, false, 3, 4, 95, am_c126, [4229, 1008, 4227, 4228]),
  (yX7_stays, cX7_stays, 6, some .int, 7, false, 3, 3, 70, am_c127, [5002, 1008, 5000, 5001])]
def am_ms32 : List am_M := [(yX7_told, cX7_told, 6, some .int, 7, true, 3, 0, 0, am_c128, [5009, 1008, 5008, 0]),
  (yX7_share, cX7_share, 6, some .int, 7, false, 3, 2, 46, am_c129, [5006, 1008, 5004, 5005]),
  (yX7_meets, cX7_meets, 6, some .boolean, 7, false, 2, 2, 47, am_c130, [5020, 1008, 5019, 42]),
  (yX7_meet, cX7_meet, 5, some .int, 7, false, 2, 3, 72, am_c131, [5013, 1008, 5011, 5012])]
def am_ms33 : List am_M := [(yX7_by, cX7_by, 6, some .int, 7, false, 3, 4, 95, am_c132, [5036, 1008, 5035, 45]),
  (yX7_goFrom, cX7_goFrom, 7, none, 7, false, 2, 5, 120, am_c133, [5032, 1008, 5031, 44]),
  (yX7_soonestOf, cX7_soonestOf, 4, some .int, 7, false, 3, 6, 146, am_c134, [5028, 1008, 5027, 43]),
  (yX7_soonest, cX7_soonest, 5, some .int, 7, false, 3, 7, 169, am_c135, [5024, 1008, 5022, 5023])]
def am_ms34 : List am_M := [(yX7_step, cX7_step, 9, some .int, 7, false, 5, 7, 169, am_c136, [5040, 1008, 5038, 5039]),
  (yX7_latest, cX7_latest, 5, some .int, 7, false, 3, 7, 169, am_c137, [5044, 1008, 5042, 5043]),
  (yX7_round, cX7_round, 10, some .int, 7, false, 3, 7, 169, am_c138, [5048, 1008, 5046, 5047]),
  (yX7_findBrake, cX7_findBrake, 11, some .int, 7, false, 5, 7, 169, am_c139, [5056, 1008, 5055, 46])]
def am_ms35 : List am_M := [(yX7_bestBrake, cX7_bestBrake, 6, some .int, 7, false, 5, 8, 199, am_c140, [5052, 1008, 5050, 5051]),
  (yX7_harm, cX7_harm, 12, some .int, 7, false, 5, 8, 199, am_c141, [5060, 1008, 5058, 5059]),
  (yX7_layWorst, cX7_layWorst, 5, none, 7, false, 1, 6, 146, am_c142, [5068, 1008, 5067, 47]),
  (yX7_worst, cX7_worst, 3, some .int, 7, false, 2, 7, 170, am_c143, [5064, 1008, 5062, 5063])]
def am_ms36 : List am_M := [(yX7_pumps, cX7_pumps, 5, some .int, 7, false, 1, 6, 146, am_c144, [5072, 1008, 5070, 5071]),
  (yX7_reachAll, cX7_reachAll, 6, some .boolean, 7, false, 1, 1, 21, am_c145, [5076, 1008, 5075, 48]),
  (yX7_see, cX7_see, 4, some .int, 7, false, 3, 2, 46, am_c146, [5080, 1008, 5078, 5079]),
  (yX7_unsee, cX7_unsee, 2, some .int, 7, false, 0, 0, 0, am_c147, [5084, 1008, 5082, 5083])]
def am_ms37 : List am_M := [(yX7_paceOf, cX7_paceOf, 2, some .int, 7, true, 2, 0, 0, am_c148, [5099, 1008, 5098, 0]),
  (yX7_fitsAll, cX7_fitsAll, 5, some .boolean, 7, false, 1, 1, 21, am_c149, [5096, 1008, 5095, 50]),
  (yX7_layRows, cX7_layRows, 5, some .int, 7, false, 0, 2, 45, am_c150, [5092, 1008, 5091, 49]),
  (yX7_rows, cX7_rows, 1, some .int, 7, false, 0, 3, 69, am_c151, [5088, 1008, 5086, 5087])]
def am_ms38 : List am_M := [(yX7_likely, cX7_likely, 4, some .int, 7, false, 2, 3, 69, am_c152, [5103, 1008, 5101, 5102]),
  (yX7_brakes, cX7_brakes, 3, some .int, 7, false, 0, 0, 0, am_c153, [5111, 1008, 5110, 51]),
  (yX7_keep, cX7_keep, 3, some .int, 7, false, 1, 1, 25, am_c154, [5107, 1008, 5105, 5106]),
  (yX7_again, cX7_again, 3, some .int, 7, false, 1, 1, 25, am_c155, [5115, 1008, 5113, 5114])]
def am_ms39 : List am_M := [(yJ6_bitCount_0f7a4, cJ6_bitCount_0f7a4, 1, some .int, 99, true, 1, 0, 0, am_c156, [3034, 1012, 3033, 0]),
  (yJ9_floorMod_7cf53, cJ9_floorMod_7cf53, 3, some .int, 99, true, 2, 0, 0, am_c157, [2132, 1011, 2131, 0]),
  (yJ9_abs_0f7a4, cJ9_abs_0f7a4, 1, some .int, 99, true, 1, 0, 0, am_c158, [3067, 1011, 3066, 0]),
  (yJ9_max_7cf53, cJ9_max_7cf53, 2, some .int, 99, true, 2, 0, 0, am_c159, [2172, 1011, 2171, 0])]
def am_ms40 : List am_M := [(yJ9_min_7cf53, cJ9_min_7cf53, 2, some .int, 99, true, 2, 0, 0, am_c160, [2175, 1011, 2174, 0]),
  (yJ7_fill_d0a16, cJ7_fill_d0a16, 5, none, 99, true, 2, 0, 0, am_c161, [3199, 1009, 3198, 0]),
  (yJ7_fill_53178, cJ7_fill_53178, 4, none, 99, true, 2, 0, 0, am_c162, [2069, 1009, 2068, 0])]
def am_ms : List am_M := am_ms0 ++ am_ms1 ++ am_ms2 ++ am_ms3 ++ am_ms4 ++ am_ms5 ++ am_ms6 ++ am_ms7 ++ am_ms8 ++ am_ms9 ++ am_ms10 ++ am_ms11 ++ am_ms12 ++ am_ms13 ++ am_ms14 ++ am_ms15 ++ am_ms16 ++ am_ms17 ++ am_ms18 ++ am_ms19 ++ am_ms20 ++ am_ms21 ++ am_ms22 ++ am_ms23 ++ am_ms24 ++ am_ms25 ++ am_ms26 ++ am_ms27 ++ am_ms28 ++ am_ms29 ++ am_ms30 ++ am_ms31 ++ am_ms32 ++ am_ms33 ++ am_ms34 ++ am_ms35 ++ am_ms36 ++ am_ms37 ++ am_ms38 ++ am_ms39 ++ am_ms40
end
section
/-! the abstract machine: ints are Int (standing for their Int32), longs are Int64, references are numbers of cells; the heap is a table of numbers -/
abbrev am_V : Type := Int ⊕ (Int64 ⊕ Option Nat)
abbrev am_H : Type := Nat → Int → Int
abbrev am_L : Type := List (Option am_V)
abbrev am_S : Type := List am_V
abbrev am_P : Type := Option am_V → am_H → Prop
def am_up (h : am_H) (c : Nat) (i v : Int) : am_H := fun c' i' => if c' = c ∧ i' = i then v else h c' i'
def am_cp (h : am_H) (s : Nat) (sp : Int) (d : Nat) (dp n : Int) : am_H := fun c i => if c = d ∧ dp ≤ i ∧ i < dp + n then h s (sp + (i - dp)) else h c i
def am_R (x : Int) : Prop := -2147483648 ≤ x ∧ x ≤ 2147483647
def am_lcmp (x y : Int64) : Int := if x > y then 1 else if x = y then 0 else -1
def am_and (x y : Int) : Int := (Int32.ofInt x &&& Int32.ofInt y).toInt
def am_or (x y : Int) : Int := (Int32.ofInt x ||| Int32.ofInt y).toInt
def am_xor (x y : Int) : Int := (Int32.ofInt x ^^^ Int32.ofInt y).toInt
def am_shl (x y : Int) : Int := (Int32.ofInt x <<< (Int32.ofInt y &&& 31)).toInt
def am_shr (x y : Int) : Int := (Int32.ofInt x >>> (Int32.ofInt y &&& 31)).toInt
def am_ushr (x y : Int) : Int := ((Int32.ofInt x).toUInt32 >>> ((Int32.ofInt y).toUInt32 &&& Int32.toUInt32 31)).toInt32.toInt
def am_i2l (x : Int) : Int64 := (Int32.ofInt x).toInt64
def am_l2i (x : Int64) : Int := x.toInt32.toInt
def am_lshl (x : Int64) (y : Int) : Int64 := x <<< ((Int32.ofInt y).toInt64 &&& 63)
def am_lshr (x : Int64) (y : Int) : Int64 := x >>> ((Int32.ofInt y).toInt64 &&& 63)
def am_lushr (x : Int64) (y : Int) : Int64 := (x.toUInt64 >>> ((Int32.ofInt y).toInt64.toUInt64 &&& Int64.toUInt64 63)).toInt64
def am_stw : am_L → Nat → am_V → Option am_L
  | [], _, _ => none
  | _ :: r, 0, v => some (some v :: r)
  | some (.inr (.inl _)) :: _, 1, _ => none
  | x :: r, n + 1, v => match am_stw r n v with
    | some r' => some (x :: r')
    | none => none
def am_ldI (ls : am_L) (i : Nat) (K : Int → Prop) : Prop := match am_nth ls i with
  | some (some (.inl x)) => K x
  | _ => False
def am_ldL (ls : am_L) (i : Nat) (K : Int64 → Prop) : Prop := match am_nth ls i with
  | some (some (.inr (.inl x))) => K x
  | _ => False
def am_ldA (ls : am_L) (i : Nat) (K : Option Nat → Prop) : Prop := match am_nth ls i with
  | some (some (.inr (.inr x))) => K x
  | _ => False
def am_sto (ls : am_L) (i : Nat) (v : am_V) (K : am_L → Prop) : Prop := match am_stw ls i v with
  | some ls' => K ls'
  | none => False
def am_cmp (c : Jvm.ClassFile.Cond) (x y : Int) : Prop := match c with
  | .eq => x = y
  | .ne => x ≠ y
  | .lt => x < y
  | .ge => y ≤ x
  | .gt => y < x
  | .le => x ≤ y
def am_sw (x lo : Int) (ts : List Nat) (d : Nat) (K : Nat → Prop) : Prop := match ts with
  | [] => K d
  | t :: r => (x = lo → K t) ∧ (x ≠ lo → am_sw x (lo + 1) r d K)
def am_br (js : List Nat) (K : Nat → Prop) : Prop := match js with
  | [t] => K t
  | _ => False
def am_gf (k : am_K) (ci b c : Nat) (h : am_H) (K : am_V → Prop) : Prop := match k with
  | .inr (ci', fks) => if ci' = ci then (match am_nth fks b with
    | some none => K (.inl (h c b))
    | some (some t) => K (.inr (.inr (some t)))
    | none => False) else False
  | .inl _ => False
def am_pf (k : am_K) (ci b : Nat) (K : Prop) : Prop := match k with
  | .inr (ci', fks) => if ci' = ci then (match am_nth fks b with
    | some none => K
    | _ => False) else False
  | .inl _ => False
def am_ar (k : am_K) (ty : FieldType) (K : Nat → Prop) : Prop := match k with
  | .inl (ty', n) => if ty' = ty then K n else False
  | .inr _ => False
def am_al0 (k : am_K) (K : Nat → Prop) : Prop := match k with
  | .inl (_, n) => K n
  | .inr _ => False
def am_rc (st : Bool) (ci : Nat) (args : List am_V) (K : Prop) : Prop := if st then K else match args with
  | .inr (.inr (some c)) :: _ => (match am_lay c with
    | .inr (ci', _) => if ci' = ci then K else False
    | .inl _ => False)
  | _ => False
def am_cat : am_S → Nat
  | [] => 0
  | .inr (.inl _) :: r => 2 + am_cat r
  | _ :: r => 1 + am_cat r
/-- the uppermost n of the stack, the lowest of them first, and the rest -/
def am_tk : Nat → am_S → List am_V → Option (List am_V × am_S)
  | 0, st, acc => some (acc, st)
  | _ + 1, [], _ => none
  | n + 1, v :: st, acc => am_tk n st (v :: acc)
def am_copy (st : am_S) (ls : am_L) (h : am_H) (N : am_L → am_S → am_H → Prop) : Prop := match st with
  | .inl n :: .inl dp :: .inr (.inr (some d)) :: .inl sp :: .inr (.inr (some s)) :: r =>
    am_ar (am_lay s) .int fun ns => am_ar (am_lay d) .int fun nd => (0 ≤ sp ∧ 0 ≤ dp ∧ 0 ≤ n ∧ sp + n ≤ ns ∧ dp + n ≤ nd) ∧ am_cat r ≤ 8 ∧ N ls r (am_cp h s sp d dp n)
  | _ => False
/-- one instruction: what must hold so that it, and what comes behind it, go well -/
def am_step (e : am_E) (ls : am_L) (st : am_S) (h : am_H) (N : am_L → am_S → am_H → Prop) (J : Nat → am_L → am_S → am_H → Prop) (R : am_P) (X : Nat → List am_V → am_H → am_P → Prop) : Prop :=
  match e with
  | (_, _, i, a, b, v, _, js) =>
  match i with
  | .iconst _ => N ls (.inl v :: st) h
  | .bipush _ => N ls (.inl v :: st) h
  | .sipush _ => N ls (.inl v :: st) h
  | .ldc _ => N ls (.inl v :: st) h
  | .ldc_w _ => N ls (.inl v :: st) h
  | .lconst _ => N ls (.inr (.inl (Int64.ofInt v)) :: st) h
  | .ldc2_w _ => N ls (.inr (.inl (Int64.ofInt v)) :: st) h
  | .aconst_null => N ls (.inr (.inr none) :: st) h
  | .iload_n k => am_ldI ls k fun x => N ls (.inl x :: st) h
  | .iload k => am_ldI ls k fun x => N ls (.inl x :: st) h
  | .lload_n k => am_ldL ls k fun x => N ls (.inr (.inl x) :: st) h
  | .lload k => am_ldL ls k fun x => N ls (.inr (.inl x) :: st) h
  | .aload_n k => am_ldA ls k fun x => N ls (.inr (.inr x) :: st) h
  | .aload k => am_ldA ls k fun x => N ls (.inr (.inr x) :: st) h
  | .istore_n k => (match st with
    | .inl x :: r => am_sto ls k (.inl x) fun ls' => N ls' r h
    | _ => False)
  | .istore k => (match st with
    | .inl x :: r => am_sto ls k (.inl x) fun ls' => N ls' r h
    | _ => False)
  | .astore_n k => (match st with
    | .inr (.inr x) :: r => am_sto ls k (.inr (.inr x)) fun ls' => N ls' r h
    | _ => False)
  | .iinc k n => am_ldI ls k fun x => am_sto ls k (.inl (x + n)) fun ls' => N ls' st h
  | .iadd => (match st with
    | .inl y :: .inl x :: r => N ls (.inl (x + y) :: r) h
    | _ => False)
  | .isub => (match st with
    | .inl y :: .inl x :: r => N ls (.inl (x - y) :: r) h
    | _ => False)
  | .imul => (match st with
    | .inl y :: .inl x :: r => N ls (.inl (x * y) :: r) h
    | _ => False)
  | .ineg => (match st with
    | .inl x :: r => N ls (.inl (-x) :: r) h
    | _ => False)
  | .idiv => (match st with
    | .inl y :: .inl x :: r => (am_R x ∧ 0 < y ∧ y ≤ 2147483647) ∧ N ls (.inl (x.tdiv y) :: r) h
    | _ => False)
  | .irem => (match st with
    | .inl y :: .inl x :: r => (am_R x ∧ 0 < y ∧ y ≤ 2147483647) ∧ N ls (.inl (x.tmod y) :: r) h
    | _ => False)
  | .iand => (match st with
    | .inl y :: .inl x :: r => N ls (.inl (am_and x y) :: r) h
    | _ => False)
  | .ior => (match st with
    | .inl y :: .inl x :: r => N ls (.inl (am_or x y) :: r) h
    | _ => False)
  | .ixor => (match st with
    | .inl y :: .inl x :: r => N ls (.inl (am_xor x y) :: r) h
    | _ => False)
  | .ishl => (match st with
    | .inl y :: .inl x :: r => N ls (.inl (am_shl x y) :: r) h
    | _ => False)
  | .ishr => (match st with
    | .inl y :: .inl x :: r => N ls (.inl (am_shr x y) :: r) h
    | _ => False)
  | .iushr => (match st with
    | .inl y :: .inl x :: r => N ls (.inl (am_ushr x y) :: r) h
    | _ => False)
  | .i2l => (match st with
    | .inl x :: r => N ls (.inr (.inl (am_i2l x)) :: r) h
    | _ => False)
  | .l2i => (match st with
    | .inr (.inl x) :: r => N ls (.inl (am_l2i x) :: r) h
    | _ => False)
  | .lcmp => (match st with
    | .inr (.inl y) :: .inr (.inl x) :: r => N ls (.inl (am_lcmp x y) :: r) h
    | _ => False)
  | .land => (match st with
    | .inr (.inl y) :: .inr (.inl x) :: r => N ls (.inr (.inl (x &&& y)) :: r) h
    | _ => False)
  | .lor => (match st with
    | .inr (.inl y) :: .inr (.inl x) :: r => N ls (.inr (.inl (x ||| y)) :: r) h
    | _ => False)
  | .lxor => (match st with
    | .inr (.inl y) :: .inr (.inl x) :: r => N ls (.inr (.inl (x ^^^ y)) :: r) h
    | _ => False)
  | .lshl => (match st with
    | .inl y :: .inr (.inl x) :: r => N ls (.inr (.inl (am_lshl x y)) :: r) h
    | _ => False)
  | .lshr => (match st with
    | .inl y :: .inr (.inl x) :: r => N ls (.inr (.inl (am_lshr x y)) :: r) h
    | _ => False)
  | .lushr => (match st with
    | .inl y :: .inr (.inl x) :: r => N ls (.inr (.inl (am_lushr x y)) :: r) h
    | _ => False)
  | .dup => (match st with
    | .inl x :: r => N ls (.inl x :: .inl x :: r) h
    | .inr (.inr x) :: r => N ls (.inr (.inr x) :: .inr (.inr x) :: r) h
    | _ => False)
  | .dup2 => (match st with
    | .inl y :: .inr (.inr x) :: r => N ls (.inl y :: .inr (.inr x) :: .inl y :: .inr (.inr x) :: r) h
    | _ => False)
  | .getfield _ => (match st with
    | .inr (.inr (some c)) :: r => am_gf (am_lay c) a b c h fun x => N ls (x :: r) h
    | _ => False)
  | .putfield _ => (match st with
    | .inl x :: .inr (.inr (some c)) :: r => am_pf (am_lay c) a b ((v = 1 → x = 0 ∨ x = 1) ∧ N ls r (am_up h c b x))
    | _ => False)
  | .iaload => (match st with
    | .inl i :: .inr (.inr (some c)) :: r => am_ar (am_lay c) .int fun n => (0 ≤ i ∧ i < n) ∧ N ls (.inl (h c i) :: r) h
    | _ => False)
  | .baload => (match st with
    | .inl i :: .inr (.inr (some c)) :: r => am_ar (am_lay c) .boolean fun n => (0 ≤ i ∧ i < n) ∧ N ls (.inl (h c i) :: r) h
    | _ => False)
  | .laload => (match st with
    | .inl i :: .inr (.inr (some c)) :: r => am_ar (am_lay c) .long fun n => (0 ≤ i ∧ i < n) ∧ N ls (.inr (.inl (Int64.ofInt (h c i))) :: r) h
    | _ => False)
  | .iastore => (match st with
    | .inl x :: .inl i :: .inr (.inr (some c)) :: r => am_ar (am_lay c) .int fun n => (0 ≤ i ∧ i < n) ∧ N ls r (am_up h c i x)
    | _ => False)
  | .bastore => (match st with
    | .inl x :: .inl i :: .inr (.inr (some c)) :: r => am_ar (am_lay c) .boolean fun n => (0 ≤ i ∧ i < n ∧ (x = 0 ∨ x = 1)) ∧ N ls r (am_up h c i x)
    | _ => False)
  | .lastore => (match st with
    | .inr (.inl x) :: .inl i :: .inr (.inr (some c)) :: r => am_ar (am_lay c) .long fun n => (0 ≤ i ∧ i < n) ∧ N ls r (am_up h c i x.toInt)
    | _ => False)
  | .arraylength => (match st with
    | .inr (.inr (some c)) :: r => am_al0 (am_lay c) fun n => N ls (.inl n :: r) h
    | _ => False)
  | .ifCond cd _ => (match st with
    | .inl x :: r => am_R x ∧ am_br js fun t => (am_cmp cd x 0 → J t ls r h) ∧ (¬ am_cmp cd x 0 → N ls r h)
    | _ => False)
  | .if_icmp cd _ => (match st with
    | .inl y :: .inl x :: r => (am_R x ∧ am_R y) ∧ am_br js fun t => (am_cmp cd x y → J t ls r h) ∧ (¬ am_cmp cd x y → N ls r h)
    | _ => False)
  | .ifnonnull _ => (match st with
    | .inr (.inr (some _)) :: r => am_br js fun t => J t ls r h
    | .inr (.inr none) :: r => N ls r h
    | _ => False)
  | .goto _ => am_br js fun t => J t ls st h
  | .tableswitch _ _ _ _ => (match st, js with
    | .inl x :: r, d :: ts => am_R x ∧ am_sw x v ts d fun t => J t ls r h
    | _, _ => False)
  | .invokestatic _ => if a = 999 then am_copy st ls h N else (match am_tk b st [] with
    | some (args, r) => am_cat r ≤ 8 ∧ X a args h fun o h' => match o with
      | some x => N ls (x :: r) h'
      | none => N ls r h'
    | none => False)
  | .invokevirtual _ => (match am_tk b st [] with
    | some (args, r) => am_cat r ≤ 8 ∧ X a args h fun o h' => match o with
      | some x => N ls (x :: r) h'
      | none => N ls r h'
    | none => False)
  | .ireturn => (match st with
    | [.inl x] => (a = 1 → x = 0 ∨ x = 1) ∧ R (some (.inl x)) h
    | _ => False)
  | .areturn => (match st with
    | [.inr (.inr x)] => R (some (.inr (.inr x))) h
    | _ => False)
  | .return_ => (match st with
    | [] => R none h
    | _ => False)
  | _ => False
def am_m (m : Nat) : am_M := (am_nth am_ms m).getD (⟨"", "", ""⟩, ⟨#[]⟩, 0, none, 99, true, 0, 0, 0, [], [])
def am_y (m : Nat) : MethodName := (am_m m).1
def am_by (m : Nat) : ByteArray := (am_m m).2.1
def am_ml (m : Nat) : Nat := (am_m m).2.2.1
def am_rt (m : Nat) : Option FieldType := (am_m m).2.2.2.1
def am_oc (m : Nat) : Nat := (am_m m).2.2.2.2.1
def am_ss (m : Nat) : Bool := (am_m m).2.2.2.2.2.1
def am_np (m : Nat) : Nat := (am_m m).2.2.2.2.2.2.1
def am_fr (m : Nat) : Nat := (am_m m).2.2.2.2.2.2.2.1
def am_lr (m : Nat) : Nat := (am_m m).2.2.2.2.2.2.2.2.1
def am_code (m : Nat) : List am_E := (am_m m).2.2.2.2.2.2.2.2.2.1
def am_wp0 (m : Nat) : List Nat := (am_m m).2.2.2.2.2.2.2.2.2.2
def am_pad : Nat → List am_V → am_L
  | 0, _ => []
  | n + 1, [] => none :: am_pad n []
  | n + 1, .inr (.inl x) :: r => (match n with
    | 0 => [some (.inr (.inl x))]
    | n' + 1 => some (.inr (.inl x)) :: none :: am_pad n' r)
  | n + 1, v :: r => some v :: am_pad n r
/-- the method m, from its k-th instruction, within n steps: it returns, and Q holds of the answer and the heap -/
def am_wp : Nat → Nat → Nat → am_L → am_S → am_H → am_P → Prop
  | 0, _, _, _, _, _, _ => False
  | n + 1, m, k, ls, st, h, Q => match am_nth (am_code m) k with
    | none => False
    | some e => am_step e ls st h (fun ls st h => am_wp n m (k + 1) ls st h Q) (fun t ls st h => am_wp n m t ls st h Q) Q (fun j args h Q' => am_rc (am_ss j) (am_oc j) args (if am_cat args ≤ am_ml j then am_wp n j 0 (am_pad (am_ml j) args) [] h Q' else False))
end
section
/-! every entry of the code lists says what the class files say: checked by the kernel -/
def am_tb : List Jvm.Cond := lw_tbl.filter goodWord
def am_cl : List vw_C := [(RX0, TX0, 5), (RX1, TX1, 8), (RX2, TX2, 7), (RX3, TX3, 8), (RX4, TX4, 13), (RX5, TX5, 7), (RX6, TX6, 11), (RX7, TX7, 35)]
def am_nest : Jvm.Cond := .methodLinkNest RX3 66 yX6_isRing RX6
def am_pcl (C : List am_E) (k : Nat) : Nat := match am_nth C k with
  | some e => e.1
  | none => 1000000
/-- the words of the tables by their places: the list's number times 1000, and the place in it -/
def am_ats (w : Nat) : Option Jvm.Cond := match w / 1000 with
  | 0 => am_nth (k2_sels lw_privs) (w % 1000)
  | 1 => am_nth tables_1_1 (w % 1000)
  | 2 => am_nth tables_1_2 (w % 1000)
  | 3 => am_nth tables_1_3 (w % 1000)
  | 4 => am_nth tables_1_4 (w % 1000)
  | _ => am_nth tables_1_5 (w % 1000)
def am_at (w : Nat) (c : Jvm.Cond) : Bool := decide (am_ats w = some c) && goodWord c
def am_nx (r : List am_E) (pc len : Nat) : Bool := match r with
  | e :: _ => e.1 == pc + len
  | [] => false
def am_jt (C : List am_E) (pc : Nat) (off : Int) (t : Nat) : Bool := decide ((pc : Int) + off = (am_pcl C t : Int))
def am_jts (C : List am_E) (pc : Nat) : List Int → List Nat → Bool
  | [], [] => true
  | o :: os, t :: ts => am_jt C pc o t && am_jts C pc os ts
  | _, _ => false
def am_rmk (F L : Nat) (j : am_M) : Bool := decide (j.2.2.2.2.2.2.2.1 + 1 ≤ F) && decide (8 + (j.2.2.1 + 11) + j.2.2.2.2.2.2.2.2.1 ≤ L)
def am_chk (own : String) (B : ByteArray) (rt : Option FieldType) (F L : Nat) (C r : List am_E) (e : am_E) : Bool := match e with
  | (pc, len, i, a, b, v, w, js) => decide (decode B pc = .ok (i, len)) && (match i with
    | .iconst n => decide (len = 1) && decide (Int32.ofInt n = Int32.ofInt v) && am_nx r pc len
    | .bipush n => decide (len = 2) && decide ((Int8.ofInt n).toInt32 = Int32.ofInt v) && am_nx r pc len
    | .sipush n => decide (len = 3) && decide ((Int16.ofInt n).toInt32 = Int32.ofInt v) && am_nx r pc len
    | .ldc x => decide (len = 2) && am_at w (.constant own x (Int32.ofInt v)) && am_nx r pc len
    | .ldc_w x => decide (len = 3) && am_at w (.constant own x (Int32.ofInt v)) && am_nx r pc len
    | .ldc2_w x => decide (len = 3) && am_at w (.constantLong own x (Int64.ofInt v)) && am_nx r pc len
    | .lconst n => decide (len = 1) && decide (Int64.ofNat (n : Nat) = Int64.ofInt v) && am_nx r pc len
    | .iload _ => decide (len = 2) && am_nx r pc len
    | .lload _ => decide (len = 2) && am_nx r pc len
    | .aload _ => decide (len = 2) && am_nx r pc len
    | .istore _ => decide (len = 2) && am_nx r pc len
    | .iinc _ _ => decide (len = 3) && am_nx r pc len
    | .getfield x => decide (len = 3) && am_nx r pc len && (match am_cl[a]? with
      | some (C, T, N) => decide (b < N) && decide ((T b).1 = C) && am_at w (.fieldLink own x C (T b).2.1 (T b).2.2.1)
      | none => false)
    | .putfield x => decide (len = 3) && am_nx r pc len && (match am_cl[a]? with
      | some (C, T, N) => decide (b < N) && decide ((T b).1 = C) && am_at w (.fieldLink own x C (T b).2.1 (T b).2.2.1) && decide ((T b).2.2.2 = false) && decide (parseFieldDescriptor (T b).2.2.1 = some (if v = 1 then .boolean else .int))
      | none => false)
    | .ifCond _ off => decide (len = 3) && am_nx r pc len && (match js with
      | [t] => am_jt C pc off t
      | _ => false)
    | .if_icmp _ off => decide (len = 3) && am_nx r pc len && (match js with
      | [t] => am_jt C pc off t
      | _ => false)
    | .ifnonnull off => decide (len = 3) && am_nx r pc len && (match js with
      | [t] => am_jt C pc off t
      | _ => false)
    | .goto off => decide (len = 3) && (match js with
      | [t] => am_jt C pc off t
      | _ => false)
    | .tableswitch d lo hi offs => decide (lo = v) && decide (hi = v + (offs.size : Int) - 1) && (match js with
      | dt :: ts => am_jt C pc d dt && am_jts C pc offs.toList ts
      | _ => false)
    | .invokestatic x => decide (len = 3) && am_nx r pc len && (if a = 999 then am_at w (.methodLink own x arraycopyName) && decide (1 ≤ F) && decide (26 ≤ L)
      else am_ss a && decide (b = am_np a) && am_rmk F L (am_m a) && (if v = 1 then decide (own = RX3) && decide (x = 66) && decide (am_y a = yX6_isRing) else am_at w (.methodLink own x (am_y a))))
    | .invokevirtual x => decide (len = 3) && am_nx r pc len && (!(am_ss a)) && decide (b = am_np a + 1) && am_rmk F L (am_m a) && am_at w (.methodLink own x (am_y a))
    | .ireturn => decide (len = 1) && decide (rt = if a = 1 then some .boolean else some .int)
    | .areturn => decide (len = 1) && decide (rt = some (.object RX1))
    | .return_ => decide (len = 1) && decide (rt = none)
    | _ => decide (len = 1) && am_nx r pc len)
def am_chks (own : String) (B : ByteArray) (rt : Option FieldType) (F L : Nat) (C : List am_E) : List am_E → Bool
  | [] => true
  | e :: r => am_chk own B rt F L C r e && am_chks own B rt F L C r
def am_mok (M : am_M) : Bool := match M with
  | (y, B, ml, rt, oc, ss, np, F, L, C, [w0, w1, w2, w3]) => am_at w0 (.code y B ml rt) && am_at w1 (.initialized y.cls) && (if ss then am_at w2 (.static y) else am_at w2 (.instanceMethod y) && am_at w3 (.selects y.cls y y) && decide ((am_cl[oc]?).map (fun q => q.1) = some y.cls))
    && plainFor y && decide (y.cls ≠ "java/lang/invoke/MethodHandle") && decide (y.cls ≠ "java/lang/invoke/VarHandle") && decide ((parseMethodDescriptor y.desc).map (fun d => d.parameters.length) = some np) && decide (am_pcl C 0 = 0) && am_chks y.cls B rt F L C C
  | _ => false
end
section
set_option maxRecDepth 100000 in
theorem am_ok_0 : am_ms0.all am_mok = true := by decide +kernel
set_option maxRecDepth 100000 in
theorem am_ok_1 : am_ms1.all am_mok = true := by decide +kernel
set_option maxRecDepth 100000 in
theorem am_ok_2 : am_ms2.all am_mok = true := by decide +kernel
set_option maxRecDepth 100000 in
theorem am_ok_3 : am_ms3.all am_mok = true := by decide +kernel
set_option maxRecDepth 100000 in
theorem am_ok_4 : am_ms4.all am_mok = true := by decide +kernel
set_option maxRecDepth 100000 in
theorem am_ok_5 : am_ms5.all am_mok = true := by decide +kernel
end
section
set_option maxRecDepth 100000 in
theorem am_ok_6 : am_ms6.all am_mok = true := by decide +kernel
set_option maxRecDepth 100000 in
theorem am_ok_7 : am_ms7.all am_mok = true := by decide +kernel
set_option maxRecDepth 100000 in
theorem am_ok_8 : am_ms8.all am_mok = true := by decide +kernel
set_option maxRecDepth 100000 in
theorem am_ok_9 : am_ms9.all am_mok = true := by decide +kernel
end
section
set_option maxRecDepth 100000 in
theorem am_ok_10 : am_ms10.all am_mok = true := by decide +kernel
set_option maxRecDepth 100000 in
theorem am_ok_11 : am_ms11.all am_mok = true := by decide +kernel
set_option maxRecDepth 100000 in
theorem am_ok_12 : am_ms12.all am_mok = true := by decide +kernel
set_option maxRecDepth 100000 in
theorem am_ok_13 : am_ms13.all am_mok = true := by decide +kernel
set_option maxRecDepth 100000 in
theorem am_ok_14 : am_ms14.all am_mok = true := by decide +kernel
set_option maxRecDepth 100000 in
theorem am_ok_15 : am_ms15.all am_mok = true := by decide +kernel
end
section
set_option maxRecDepth 100000 in
theorem am_ok_16 : am_ms16.all am_mok = true := by decide +kernel
set_option maxRecDepth 100000 in
theorem am_ok_17 : am_ms17.all am_mok = true := by decide +kernel
set_option maxRecDepth 100000 in
theorem am_ok_18 : am_ms18.all am_mok = true := by decide +kernel
set_option maxRecDepth 100000 in
theorem am_ok_19 : am_ms19.all am_mok = true := by decide +kernel
set_option maxRecDepth 100000 in
theorem am_ok_20 : am_ms20.all am_mok = true := by decide +kernel
set_option maxRecDepth 100000 in
theorem am_ok_21 : am_ms21.all am_mok = true := by decide +kernel
set_option maxRecDepth 100000 in
theorem am_ok_22 : am_ms22.all am_mok = true := by decide +kernel
set_option maxRecDepth 100000 in
theorem am_ok_23 : am_ms23.all am_mok = true := by decide +kernel
set_option maxRecDepth 100000 in
theorem am_ok_24 : am_ms24.all am_mok = true := by decide +kernel
end
section
set_option maxRecDepth 100000 in
theorem am_ok_25 : am_ms25.all am_mok = true := by decide +kernel
set_option maxRecDepth 100000 in
theorem am_ok_26 : am_ms26.all am_mok = true := by decide +kernel
set_option maxRecDepth 100000 in
theorem am_ok_27 : am_ms27.all am_mok = true := by decide +kernel
set_option maxRecDepth 100000 in
theorem am_ok_28 : am_ms28.all am_mok = true := by decide +kernel
set_option maxRecDepth 100000 in
theorem am_ok_29 : am_ms29.all am_mok = true := by decide +kernel
end
section
set_option maxRecDepth 100000 in
theorem am_ok_30 : am_ms30.all am_mok = true := by decide +kernel
set_option maxRecDepth 100000 in
theorem am_ok_31 : am_ms31.all am_mok = true := by decide +kernel
set_option maxRecDepth 100000 in
theorem am_ok_32 : am_ms32.all am_mok = true := by decide +kernel
set_option maxRecDepth 100000 in
theorem am_ok_33 : am_ms33.all am_mok = true := by decide +kernel
end
section
set_option maxRecDepth 100000 in
theorem am_ok_34 : am_ms34.all am_mok = true := by decide +kernel
set_option maxRecDepth 100000 in
theorem am_ok_35 : am_ms35.all am_mok = true := by decide +kernel
end
section
set_option maxRecDepth 100000 in
theorem am_ok_36 : am_ms36.all am_mok = true := by decide +kernel
set_option maxRecDepth 100000 in
theorem am_ok_37 : am_ms37.all am_mok = true := by decide +kernel
set_option maxRecDepth 100000 in
theorem am_ok_38 : am_ms38.all am_mok = true := by decide +kernel
set_option maxRecDepth 100000 in
theorem am_ok_39 : am_ms39.all am_mok = true := by decide +kernel
set_option maxRecDepth 100000 in
theorem am_ok_40 : am_ms40.all am_mok = true := by decide +kernel
end
section
theorem am_okb : am_ms.all am_mok = true := by
  unfold am_ms
  simp only [List.all_append, am_ok_0, am_ok_1, am_ok_2, am_ok_3, am_ok_4, am_ok_5, am_ok_6, am_ok_7, am_ok_8, am_ok_9, am_ok_10, am_ok_11, am_ok_12, am_ok_13, am_ok_14, am_ok_15, am_ok_16, am_ok_17, am_ok_18, am_ok_19, am_ok_20, am_ok_21, am_ok_22, am_ok_23, am_ok_24, am_ok_25, am_ok_26, am_ok_27, am_ok_28, am_ok_29, am_ok_30, am_ok_31, am_ok_32, am_ok_33, am_ok_34, am_ok_35, am_ok_36, am_ok_37, am_ok_38, am_ok_39, am_ok_40, Bool.and_self]
theorem am_okAll : ∀ M ∈ am_ms, am_mok M = true := List.all_eq_true.mp am_okb
end
section
/-! numbers: an Int and the Int32 that it stands for -/
theorem am_toI {x : Int} (h : am_R x) : (Int32.ofInt x).toInt = x := Int32.toInt_ofInt_of_le (by have := h.1; omega) (by have := h.2; omega)
theorem am_clamp {x : Int} (h : am_R x) : (Int32.ofInt x).toNatClampNeg = x.toNat := by
  show (Int32.ofInt x).toInt.toNat = x.toNat
  rw [am_toI h]
theorem am_ofI (x : Int32) : Int32.ofInt x.toInt = x := Int32.ofInt_toInt x
theorem am_vpin {i : Int} {n : Nat} (h : 0 ≤ i ∧ i < n) (hn : n < 2147483648) : vp_in (Int32.ofInt i) n := by
  rw [vp_in_iff, am_toI ⟨by omega, by omega⟩]
  exact h
theorem am_lt {x y : Int} (hx : am_R x) (hy : am_R y) : (Int32.ofInt x < Int32.ofInt y) ↔ x < y := by rw [Int32.lt_iff_toInt_lt, am_toI hx, am_toI hy]
theorem am_le {x y : Int} (hx : am_R x) (hy : am_R y) : (Int32.ofInt x ≤ Int32.ofInt y) ↔ x ≤ y := by rw [Int32.le_iff_toInt_le, am_toI hx, am_toI hy]
theorem am_eq {x y : Int} (hx : am_R x) (hy : am_R y) : (Int32.ofInt x = Int32.ofInt y) ↔ x = y := by rw [← Int32.toInt_inj, am_toI hx, am_toI hy]
theorem am_R0 : am_R 0 := ⟨by decide, by decide⟩
theorem am_of0 : Int32.ofInt 0 = 0 := by decide
theorem am_add (x y : Int) : Int32.ofInt x + Int32.ofInt y = Int32.ofInt (x + y) := (Int32.ofInt_add x y).symm
theorem am_sub (x y : Int) : Int32.ofInt x - Int32.ofInt y = Int32.ofInt (x - y) := (Int32.ofInt_sub x y).symm
theorem am_mul (x y : Int) : Int32.ofInt x * Int32.ofInt y = Int32.ofInt (x * y) := (Int32.ofInt_mul x y).symm
theorem am_neg (x : Int) : -Int32.ofInt x = Int32.ofInt (-x) := (Int32.ofInt_neg x).symm
theorem am_div {x y : Int} (hx : am_R x) (hy : 0 < y ∧ y ≤ 2147483647) : Int32.ofInt x / Int32.ofInt y = Int32.ofInt (x.tdiv y) := by
  rw [← Int32.toInt_inj, Int32.toInt_div, am_toI hx, am_toI ⟨by omega, by omega⟩, Int32.toInt_ofInt]
theorem am_rem {x y : Int} (hx : am_R x) (hy : 0 < y ∧ y ≤ 2147483647) : Int32.ofInt x - Int32.ofInt x / Int32.ofInt y * Int32.ofInt y = Int32.ofInt (x.tmod y) := by
  rw [am_div hx hy, am_mul, am_sub, Int.tmod_def, Int.mul_comm]
theorem am_ne0 {y : Int} (hy : 0 < y ∧ y ≤ 2147483647) : ¬ Int32.ofInt y = 0 := by
  rw [← am_of0, am_eq ⟨by omega, by omega⟩ am_R0]; omega
theorem am_lcmp_eq (x y : Int64) : Int32.ofInt (am_lcmp x y) = lg_cmp x y := by
  unfold am_lcmp lg_cmp
  split
  · decide
  · split <;> decide
theorem am_cast (n : Nat) : Int32.ofInt (n : Int) = Int32.ofNat n := Int32.ofInt_eq_ofNat
theorem am_lofI (x : Int64) : Int64.ofInt x.toInt = x := Int64.ofInt_toInt x
theorem am_zb {x : Int} (h : x = 0 ∨ x = 1) : narrow .boolean (.int (Int32.ofInt x)) = .int (Int32.ofInt x) ∧ fits .boolean (.int (Int32.ofInt x)) = true ∧ vp_nar .boolean (Int32.ofInt x) = Int32.ofInt x := by
  rcases h with rfl | rfl <;> exact ⟨by decide +kernel, by decide +kernel, by decide +kernel⟩
theorem am_ib (x : Int32) : narrow .int (.int x) = .int x ∧ fits .int (.int x) = true := ⟨rfl, rfl⟩
/-! lists -/
theorem am_nth_eq {α : Type} : ∀ (l : List α) (i : Nat), am_nth l i = l[i]?
  | [], _ => rfl
  | _ :: _, 0 => rfl
  | _ :: r, n + 1 => by rw [am_nth, am_nth_eq r n]; rfl
theorem am_nth_lt {α : Type} {l : List α} {i : Nat} {x : α} (h : am_nth l i = some x) : i < l.length := by
  rw [am_nth_eq] at h
  exact (List.getElem?_eq_some_iff.mp h).1
theorem am_stw_spec : ∀ (ls : am_L) (i : Nat) (v : am_V) (ls' : am_L), am_stw ls i v = some ls' →
    (∀ j, am_nth ls' j = if j = i then some (some v) else am_nth ls j) ∧ i < ls.length ∧ ls'.length = ls.length ∧ ∀ j x, j + 1 = i → am_nth ls j ≠ some (some (.inr (.inl x)))
  | [], i, v, ls', h => by cases i <;> simp [am_stw] at h
  | x :: r, 0, v, ls', h => by
    rw [am_stw] at h
    cases h
    refine ⟨fun j => ?_, Nat.succ_pos _, rfl, fun j x h => by omega⟩
    cases j with
    | zero => rfl
    | succ j => rw [if_neg (by omega)]; rfl
  | x :: r, n + 1, v, ls', h => by
    have key : ∃ r', am_stw r n v = some r' ∧ ls' = x :: r' ∧ ∀ y, n = 0 → x ≠ some (.inr (.inl y)) := by
      cases n with
      | zero =>
        rcases x with _ | x | x | x
        · rw [am_stw] at h
          · cases hr : am_stw r 0 v with
            | none => rw [hr] at h; cases h
            | some r' => rw [hr] at h; cases h; exact ⟨r', rfl, rfl, fun y _ e => by cases e⟩
          · intro a b e; cases b
        · rw [am_stw] at h
          · cases hr : am_stw r 0 v with
            | none => rw [hr] at h; cases h
            | some r' => rw [hr] at h; cases h; exact ⟨r', rfl, rfl, fun y _ e => by cases e⟩
          · intro a b e; cases b
        · rw [am_stw] at h; cases h
        · rw [am_stw] at h
          · cases hr : am_stw r 0 v with
            | none => rw [hr] at h; cases h
            | some r' => rw [hr] at h; cases h; exact ⟨r', rfl, rfl, fun y _ e => by cases e⟩
          · intro a b e; cases b
      | succ n =>
        rw [am_stw] at h
        · cases hr : am_stw r (n + 1) v with
          | none => rw [hr] at h; cases h
          | some r' => rw [hr] at h; cases h; exact ⟨r', rfl, rfl, fun y e => by omega⟩
        · intro a b e; omega
    obtain ⟨r', h1, rfl, h3⟩ := key
    obtain ⟨g1, g2, g3, g4⟩ := am_stw_spec r n v r' h1
    refine ⟨fun j => ?_, by simp only [List.length_cons]; omega, by simp only [List.length_cons]; omega, fun j y hj => ?_⟩
    · cases j with
      | zero => rw [if_neg (by omega)]; rfl
      | succ j =>
        show am_nth r' j = _
        rw [g1 j]
        by_cases hj : j = n
        · rw [if_pos hj, if_pos (by omega)]
        · rw [if_neg hj, if_neg (by omega)]; rfl
    · cases j with
      | zero =>
        intro e
        exact h3 y (by omega) (Option.some.inj e)
      | succ j => exact g4 j y (by omega)
def am_c (ad : Nat → Nat) : am_V → Value
  | .inl x => .int (Int32.ofInt x)
  | .inr (.inl y) => .long y
  | .inr (.inr (some k)) => .ref (ad k)
  | .inr (.inr none) => .null
theorem am_c_cat (ad : Nat → Nat) (v : am_V) : (am_c ad v).category = 2 ↔ ∃ x, v = .inr (.inl x) := by
  rcases v with x | x | _ | x <;> simp [am_c, Value.category]
def am_al (ad : Nat → Nat) : Nat → am_L → List (Nat × Value)
  | _, [] => []
  | i, none :: r => am_al ad (i + 1) r
  | i, some v :: r => (i, am_c ad v) :: am_al ad (i + 1) r
theorem am_al_mem {ad : Nat → Nat} : ∀ (ls : am_L) (i0 i : Nat) (v : am_V), am_nth ls i = some (some v) → (i0 + i, am_c ad v) ∈ am_al ad i0 ls
  | [], _, i, _, h => by cases i <;> cases h
  | x :: r, i0, 0, v, h => by
    cases h
    exact List.mem_cons_self
  | x :: r, i0, i + 1, v, h => by
    have := am_al_mem (ad := ad) r (i0 + 1) i v h
    rw [show i0 + (i + 1) = i0 + 1 + i by omega]
    cases x with
    | none => exact this
    | some x => exact List.mem_cons_of_mem _ this
theorem am_al_inv {ad : Nat → Nat} : ∀ (ls : am_L) (i0 : Nat) (q : Nat × Value), q ∈ am_al ad i0 ls → ∃ i v, am_nth ls i = some (some v) ∧ q = (i0 + i, am_c ad v)
  | [], _, q, h => by cases h
  | none :: r, i0, q, h => by
    obtain ⟨i, v, h1, h2⟩ := am_al_inv r (i0 + 1) q h
    exact ⟨i + 1, v, h1, by rw [h2, show i0 + 1 + i = i0 + (i + 1) by omega]⟩
  | some x :: r, i0, q, h => by
    rcases List.mem_cons.mp h with h | h
    · exact ⟨0, x, rfl, h⟩
    · obtain ⟨i, v, h1, h2⟩ := am_al_inv r (i0 + 1) q h
      exact ⟨i + 1, v, h1, by rw [h2, show i0 + 1 + i = i0 + (i + 1) by omega]⟩
def am_lv (ad : Nat → Nat) (lsC : Array Slot) (nL : Nat) (ls : am_L) : Prop := lv_has lsC nL (am_al ad 0 ls) ∧ ls.length ≤ nL
theorem am_lv_at {ad : Nat → Nat} {lsC : Array Slot} {nL : Nat} {ls : am_L} (h : am_lv ad lsC nL ls) {i : Nat} {v : am_V} (hi : am_nth ls i = some (some v)) : lsC[i]? = some (.val (am_c ad v)) := by
  have := h.1.2.2 _ (am_al_mem (ad := ad) ls 0 i v hi)
  rwa [Nat.zero_add] at this
theorem am_lv_st {ad : Nat → Nat} {lsC : Array Slot} {nL : Nat} {ls ls' : am_L} {i : Nat} {v : am_V} (h : am_lv ad lsC nL ls) (hs : am_stw ls i v = some ls') : i < nL ∧ ∀ lsC' : Array Slot,
    lv_has lsC' nL ((i, am_c ad v) :: (am_al ad 0 ls).filter (fun q => !(q.1 == i) && !(q.1 + 1 == i && q.2.category == 2))) → am_lv ad lsC' nL ls' := by
  obtain ⟨g1, g2, g3, g4⟩ := am_stw_spec ls i v ls' hs
  refine ⟨by have := h.2; omega, fun lsC' h' => ⟨⟨h'.1, h'.2.1, fun q hq => ?_⟩, by have := h.2; omega⟩⟩
  obtain ⟨j, w, h1, rfl⟩ := am_al_inv ls' 0 q hq
  apply h'.2.2
  rw [g1 j] at h1
  by_cases hj : j = i
  · rw [if_pos hj] at h1
    cases h1
    rw [hj, Nat.zero_add]
    exact List.mem_cons_self
  · rw [if_neg hj] at h1
    refine List.mem_cons_of_mem _ (List.mem_filter.mpr ⟨am_al_mem ls 0 j w h1, ?_⟩)
    simp only [Nat.zero_add, Bool.and_eq_true, Bool.not_eq_true', beq_eq_false_iff_ne, Bool.and_eq_false_iff]
    refine ⟨hj, ?_⟩
    by_cases hj1 : j + 1 = i
    · right
      intro hc
      obtain ⟨x, rfl⟩ := (am_c_cat ad w).mp hc
      exact g4 j x hj1 h1
    · exact Or.inl hj1
theorem am_cat_eq (ad : Nat → Nat) : ∀ st : am_S, ((st.map (am_c ad)).map fun v => v.category).sum = am_cat st
  | [] => rfl
  | v :: r => by
    have := am_cat_eq ad r
    rcases v with x | x | _ | x <;> simp [am_c, Value.category, am_cat] at this ⊢ <;> omega
theorem am_sl_len (ad : Nat → Nat) : ∀ vs : List am_V, (lg_sl (vs.map (am_c ad))).length = am_cat vs
  | [] => rfl
  | v :: r => by
    have := am_sl_len ad r
    rcases v with x | x | _ | x <;> simp [lg_sl, am_c, Value.category, am_cat] at this ⊢ <;> omega
theorem am_pad_len : ∀ (n : Nat) (vs : List am_V), (am_pad n vs).length = n
  | 0, vs => by cases vs <;> rfl
  | n + 1, [] => by simp [am_pad, am_pad_len n []]
  | n + 1, .inl x :: r => by simp [am_pad, am_pad_len n r]
  | n + 1, .inr (.inr x) :: r => by simp [am_pad, am_pad_len n r]
  | 1, .inr (.inl x) :: r => by simp [am_pad]
  | n + 2, .inr (.inl x) :: r => by simp [am_pad, am_pad_len n r]
theorem am_pad_mem (ad : Nat → Nat) : ∀ (n i0 : Nat) (vs : List am_V) (q : Nat × Value), q ∈ am_al ad i0 (am_pad n vs) → q ∈ lv_args i0 (vs.map (am_c ad))
  | 0, i0, vs, q, h => by cases vs <;> cases h
  | n + 1, i0, [], q, h => by
    have := am_pad_mem ad n (i0 + 1) [] q (by simpa [am_pad, am_al] using h)
    cases this
  | n + 1, i0, .inl x :: r, q, h => by
    simp only [am_pad, am_al, List.mem_cons] at h
    simp only [List.map_cons, lv_args, List.mem_cons]
    rcases h with h | h
    · exact Or.inl h
    · exact Or.inr (by simpa [am_c, Value.category] using am_pad_mem ad n (i0 + 1) r q h)
  | n + 1, i0, .inr (.inr x) :: r, q, h => by
    simp only [am_pad, am_al, List.mem_cons] at h
    simp only [List.map_cons, lv_args, List.mem_cons]
    rcases h with h | h
    · exact Or.inl h
    · refine Or.inr ?_
      have := am_pad_mem ad n (i0 + 1) r q h
      rcases x with _ | x <;> simpa [am_c, Value.category] using this
  | 1, i0, .inr (.inl x) :: r, q, h => by
    simp only [am_pad, am_al, List.mem_cons] at h
    simp only [List.map_cons, lv_args, List.mem_cons]
    rcases h with h | h
    · exact Or.inl h
    · cases h
  | n + 2, i0, .inr (.inl x) :: r, q, h => by
    simp only [am_pad, am_al, List.mem_cons] at h
    simp only [List.map_cons, lv_args, List.mem_cons]
    rcases h with h | h
    · exact Or.inl h
    · refine Or.inr ?_
      have := am_pad_mem ad n (i0 + 1 + 1) r q h
      simpa [am_c, Value.category] using this
end
section
/-! the world of all cells, by their numbers -/
def am_fv (ad : Nat → Nat) (h : am_H) (c : Nat) : Nat → List (Option Nat) → List Value
  | _, [] => []
  | i, none :: r => .int (Int32.ofInt (h c i)) :: am_fv ad h c (i + 1) r
  | i, some t :: r => .ref (ad t) :: am_fv ad h c (i + 1) r
def am_en (ad : Nat → Nat) (cA : Nat → ClassId) (h : am_H) (c : Nat) : va_E := match am_lay c with
  | .inl (.long, n) => .inl (cA c, n, .inr (.inl (fun j => Int64.ofInt (h c j))))
  | .inl (_, n) => .inl (cA c, n, .inl (fun j => Int32.ofInt (h c j)))
  | .inr (ci, fks) => .inr (ci, am_fv ad h c 0 fks)
def am_w (ad : Nat → Nat) (cA : Nat → ClassId) (h : am_H) : va_W := (List.range 87).map (fun c => (ad c, am_en ad cA h c))
def am_ety (c : Nat) : FieldType := match am_lay c with
  | .inl (ty, _) => ty
  | .inr _ => .int
def am_ty (cA : Nat → ClassId) : List (ClassId × FieldType) := (List.range 75).map (fun c => (cA c, am_ety c))
theorem am_w_at (ad : Nat → Nat) (cA : Nat → ClassId) (h : am_H) {c : Nat} (hc : c < 87) : (am_w ad cA h)[c]? = some (ad c, am_en ad cA h c) := by
  simp [am_w, hc]
theorem am_ty_at (cA : Nat → ClassId) {c : Nat} (hc : c < 75) : (am_ty cA)[c]? = some (cA c, am_ety c) := by
  simp [am_ty, hc]
theorem am_lay_big {c : Nat} (hc : 87 ≤ c) : am_lay c = .inr (99, []) := by
  have : am_nth am_lays c = none := by
    rw [am_nth_eq, List.getElem?_eq_none]
    exact Nat.le_trans (by decide) hc
  simp [am_lay, this]
def am_layok (c : Nat) : Bool := match am_lay c with
  | .inl (ty, n) => decide (c < 75) && decide (n < 100000) && (decide (ty = .int) || decide (ty = .boolean) || decide (ty = .long))
  | .inr _ => true
theorem am_lays_ok : ∀ c, c < 87 → am_layok c = true := by decide +kernel
theorem am_lay_arr {c n : Nat} {ty : FieldType} (h : am_lay c = .inl (ty, n)) : c < 75 ∧ n < 100000 := by
  by_cases hc : c < 87
  · have h2 := am_lays_ok c hc
    simp [am_layok, h] at h2
    exact h2.1
  · rw [am_lay_big (by omega)] at h
    cases h
theorem am_lay_obj {c ci : Nat} {fks : List (Option Nat)} (h : am_lay c = .inr (ci, fks)) (hci : ci < 8) : c < 87 := by
  by_cases hc : c < 87
  · exact hc
  · rw [am_lay_big (by omega)] at h
    simp at h
    omega
theorem am_fv_len (ad : Nat → Nat) (h : am_H) (c : Nat) : ∀ (i : Nat) (fks : List (Option Nat)), (am_fv ad h c i fks).length = fks.length
  | _, [] => rfl
  | i, none :: r => by simp [am_fv, am_fv_len ad h c (i + 1) r]
  | i, some t :: r => by simp [am_fv, am_fv_len ad h c (i + 1) r]
theorem am_fv_n (ad : Nat → Nat) (h : am_H) (c : Nat) : ∀ (fks : List (Option Nat)) (i0 b : Nat), am_nth fks b = some none → (am_fv ad h c i0 fks)[b]? = some (.int (Int32.ofInt (h c ((i0 + b : Nat) : Int))))
  | [], _, b, e => by cases b <;> cases e
  | x :: r, i0, 0, e => by cases e; rfl
  | x :: r, i0, b + 1, e => by
    have := am_fv_n ad h c r (i0 + 1) b e
    rw [show i0 + (b + 1) = i0 + 1 + b by omega]
    cases x <;> exact this
theorem am_fv_s (ad : Nat → Nat) (h : am_H) (c t : Nat) : ∀ (fks : List (Option Nat)) (i0 b : Nat), am_nth fks b = some (some t) → (am_fv ad h c i0 fks)[b]? = some (.ref (ad t))
  | [], _, b, e => by cases b <;> cases e
  | x :: r, i0, 0, e => by cases e; rfl
  | x :: r, i0, b + 1, e => by
    have := am_fv_s ad h c t r (i0 + 1) b e
    cases x <;> exact this
theorem am_fv_off (ad : Nat → Nat) (h : am_H) (c : Nat) (x : Int) (b : Nat) : ∀ (fks : List (Option Nat)) (i0 : Nat), b < i0 → am_fv ad (am_up h c b x) c i0 fks = am_fv ad h c i0 fks
  | [], _, _ => rfl
  | none :: r, i0, hb => by
    simp only [am_fv, am_fv_off ad h c x b r (i0 + 1) (by omega)]
    rw [show am_up h c b x c i0 = h c i0 from if_neg (by omega)]
  | some t :: r, i0, hb => by
    simp only [am_fv, am_fv_off ad h c x b r (i0 + 1) (by omega)]
theorem am_fv_set (ad : Nat → Nat) (h : am_H) (c : Nat) (x : Int) : ∀ (fks : List (Option Nat)) (i0 b : Nat), am_nth fks b = some none → (am_fv ad h c i0 fks).set b (.int (Int32.ofInt x)) = am_fv ad (am_up h c ((i0 + b : Nat) : Int) x) c i0 fks
  | [], _, b, e => by cases b <;> cases e
  | y :: r, i0, 0, e => by
    cases e
    simp only [am_fv, List.set_cons_zero, Nat.add_zero]
    rw [am_fv_off ad h c x i0 r (i0 + 1) (by omega), show am_up h c i0 x c i0 = x from if_pos ⟨rfl, rfl⟩]
  | y :: r, i0, b + 1, e => by
    have := am_fv_set ad h c x r (i0 + 1) b e
    rw [show i0 + 1 + b = i0 + (b + 1) by omega] at this
    cases y with
    | none =>
      simp only [am_fv, List.set_cons_succ]
      rw [this, show am_up h c ((i0 + (b + 1) : Nat) : Int) x c i0 = h c i0 from if_neg (by omega)]
    | some t =>
      simp only [am_fv, List.set_cons_succ]
      rw [this]
theorem am_w_set {ad : Nat → Nat} {cA : Nat → ClassId} {h h' : am_H} {c : Nat} (hc : c < 87) (hh : ∀ c', c' ≠ c → ∀ i, h' c' i = h c' i) : (am_w ad cA h).set c (ad c, am_en ad cA h' c) = am_w ad cA h' := by
  have hen : ∀ c', c' ≠ c → am_en ad cA h c' = am_en ad cA h' c' := by
    intro c' hne
    have h2 : h c' = h' c' := funext fun i => (hh c' hne i).symm
    have h3 : ∀ (fks : List (Option Nat)) (i : Nat), am_fv ad h c' i fks = am_fv ad h' c' i fks := by
      intro fks
      induction fks with
      | nil => intro i; rfl
      | cons x r ih => intro i; cases x <;> simp only [am_fv, ih, h2]
    unfold am_en
    split <;> simp only [h2, h3]
  apply List.ext_getElem?
  intro i
  by_cases hi : i < 87
  · rw [am_w_at _ _ _ hi]
    by_cases hic : i = c
    · subst hic
      rw [List.getElem?_set_self (by simp [am_w, hi])]
    · rw [List.getElem?_set_ne (Ne.symm hic), am_w_at _ _ _ hi, hen i hic]
  · rw [List.getElem?_eq_none (by simp [am_w]; omega), List.getElem?_eq_none (by simp [am_w]; omega)]
theorem am_w_inv {ad : Nat → Nat} {cA : Nat → ClassId} {h : am_H} {i : Nat} {q : Nat × va_E} (e : (am_w ad cA h)[i]? = some q) : i < 87 ∧ q = (ad i, am_en ad cA h i) := by
  have hi : i < 87 := by
    have := (List.getElem?_eq_some_iff.mp e).1
    simpa [am_w] using this
  rw [am_w_at _ _ _ hi] at e
  exact ⟨hi, (Option.some.inj e).symm⟩
theorem am_D_any {ad : Nat → Nat} {cA : Nat → ClassId} {h h' : am_H} {A A' : Nat → Prop} (hD : va_D A (am_w ad cA h)) (hA : ∀ c, c < 87 → A (ad c) → A' (ad c)) : va_D A' (am_w ad cA h') := by
  refine ⟨fun i j p q hp hq e => ?_, fun k q hq => ?_⟩
  · obtain ⟨h1, rfl⟩ := am_w_inv hp
    obtain ⟨h2, rfl⟩ := am_w_inv hq
    exact hD.1 i j _ _ (am_w_at ad cA h h1) (am_w_at ad cA h h2) e
  · obtain ⟨h1, rfl⟩ := am_w_inv hq
    exact hA k h1 (hD.2 k _ (am_w_at ad cA h h1))
def am_A (ad : Nat → Nat) (sz : Nat) : Nat → Prop := fun q => (∃ c, c < 87 ∧ q = ad c) ∨ sz ≤ q
def am_wd (ad : Nat → Nat) (cA : Nat → ClassId) (D : va_G) (A : Nat → Prop) (H0 : Heap) (h : am_H) (H : Heap) (locs : List Loc) : Prop := va_P D am_cl (am_w ad cA h) H ∧ va_D A (am_w ad cA h) ∧ va_S A H0 H locs
def am_Q (ad : Nat → Nat) (cA : Nat → ClassId) (D : va_G) (Q : am_P) (A : Nat → Prop) : Array Value → State → Outcome → State → Prop := fun _ st oc t =>
  (∃ (r : Option am_V) (h' : am_H), oc = .returned (r.map (am_c ad)) ∧ Q r h' ∧ va_P D am_cl (am_w ad cA h') t.heap ∧ va_K D am_cl (am_ty cA) t ∧ va_Nw am_nest t) ∧ va_F A st t
def am_Pc (ad : Nat → Nat) (cA : Nat → ClassId) (D : va_G) (args : List am_V) (h : am_H) (sz : Nat) : Array Value → State → Prop :=
  va_Pc (args.map (am_c ad)) (fun U => U.heap.size = sz ∧ va_P D am_cl (am_w ad cA h) U.heap ∧ va_K D am_cl (am_ty cA) U ∧ va_D (fun _ => True) (am_w ad cA h) ∧ va_Nw am_nest U)
theorem am_Pc_blind {ad : Nat → Nat} {cA : Nat → ClassId} {D : va_G} {args : List am_V} {h : am_H} {sz : Nat} : FrameBlind (am_Pc ad cA D args h sz) := by
  intro a U g mk q
  obtain ⟨q0, q1, qP, qK, qD, qN⟩ := q
  exact ⟨q0, q1, qP, va_K.moved (u := U) (U := U.calling g mk a) (Vm.Alike.refl U.vm) qK, qD, va_Nw.same (u := U) (U := U.calling g mk a) rfl rfl qN⟩
theorem am_mem_of_nth {α : Type} {l : List α} {i : Nat} {x : α} (h : am_nth l i = some x) : x ∈ l := by
  rw [am_nth_eq] at h
  exact List.mem_of_getElem? h
theorem am_at_mem {w : Nat} {c : Jvm.Cond} (h : am_at w c = true) : c ∈ am_tb := by
  simp only [am_at, Bool.and_eq_true, decide_eq_true_eq] at h
  refine List.mem_filter.mpr ⟨?_, h.2⟩
  have h1 := h.1
  unfold am_ats at h1
  have m1 : ∀ {x : Jvm.Cond}, x ∈ tables_1 → x ∈ lw_tbl := fun hx => List.mem_append_right _ hx
  split at h1
  · exact List.mem_append_left _ (am_mem_of_nth h1)
  · exact m1 (List.mem_append_left _ (am_mem_of_nth h1))
  · exact m1 (List.mem_append_right _ (List.mem_append_left _ (am_mem_of_nth h1)))
  · exact m1 (List.mem_append_right _ (List.mem_append_right _ (List.mem_append_left _ (am_mem_of_nth h1))))
  · exact m1 (List.mem_append_right _ (List.mem_append_right _ (List.mem_append_right _ (List.mem_append_left _ (am_mem_of_nth h1)))))
  · exact m1 (List.mem_append_right _ (List.mem_append_right _ (List.mem_append_right _ (List.mem_append_right _ (am_mem_of_nth h1)))))
theorem am_tb_good {c : Jvm.Cond} (h : c ∈ am_tb) : c ∈ am_tb ∧ ((c.onTables && c.keeps) = true ∨ ∃ ty, c = .arrayClass ty) := ⟨h, good_of_word (List.mem_filter.mp h).2⟩
set_option maxRecDepth 100000 in
theorem am_cl0 : ∀ w ∈ u_ws RX0 TX0 5 ++ u_ws RX1 TX1 8 ++ u_ws RX2 TX2 7 ++ u_ws RX3 TX3 8, w ∈ am_tb := by decide +kernel
set_option maxRecDepth 100000 in
theorem am_cl1 : ∀ w ∈ u_ws RX4 TX4 13 ++ u_ws RX5 TX5 7 ++ u_ws RX6 TX6 11, w ∈ am_tb := by decide +kernel
set_option maxRecDepth 100000 in
theorem am_cl2 : ∀ w ∈ u_ws RX7 TX7 35, w ∈ am_tb := by decide +kernel
theorem am_cls {ci N : Nat} {C : String} {T : u_T} (h : am_cl[ci]? = some (C, T, N)) : ci < 8 ∧ (∀ w ∈ u_ws C T N, w ∈ am_tb) ∧ (∃ ty0 : Nat → FieldType, ∀ k, k < N → parseFieldDescriptor (T k).2.2.1 = some (ty0 k)) ∧ ∀ a, a < N → ∀ b, b < N → a ≠ b → (T a).2.1 ≠ (T b).2.1 := by
  match ci, h with
  | 0, h => cases h; exact ⟨by decide, fun w hw => am_cl0 w (by simp only [List.mem_append]; exact Or.inl (Or.inl (Or.inl hw))), ⟨_, tyX0_ok⟩, nmX0⟩
  | 1, h => cases h; exact ⟨by decide, fun w hw => am_cl0 w (by simp only [List.mem_append]; exact Or.inl (Or.inl (Or.inr hw))), ⟨_, tyX1_ok⟩, nmX1⟩
  | 2, h => cases h; exact ⟨by decide, fun w hw => am_cl0 w (by simp only [List.mem_append]; exact Or.inl (Or.inr hw)), ⟨_, tyX2_ok⟩, nmX2⟩
  | 3, h => cases h; exact ⟨by decide, fun w hw => am_cl0 w (by simp only [List.mem_append]; exact Or.inr hw), ⟨_, tyX3_ok⟩, nmX3⟩
  | 4, h => cases h; exact ⟨by decide, fun w hw => am_cl1 w (by simp only [List.mem_append]; exact Or.inl (Or.inl hw)), ⟨_, tyX4_ok⟩, nmX4⟩
  | 5, h => cases h; exact ⟨by decide, fun w hw => am_cl1 w (by simp only [List.mem_append]; exact Or.inl (Or.inr hw)), ⟨_, tyX5_ok⟩, nmX5⟩
  | 6, h => cases h; exact ⟨by decide, fun w hw => am_cl1 w (by simp only [List.mem_append]; exact Or.inr hw), ⟨_, tyX6_ok⟩, nmX6⟩
  | 7, h => cases h; exact ⟨by decide, fun w hw => am_cl2 w hw, ⟨_, tyX7_ok⟩, nmX7⟩
  | k + 8, h => simp [am_cl] at h
end
section
/-! what the abstract machine says holds of the machine itself -/
theorem am_ofW {l : Launch} {y : MethodName} {ws ws' : List Jvm.Cond} {rm : Room} {Pc : Array Value → State → Prop} {Qc : Array Value → State → Outcome → State → Prop} {mc ms : Nat} {free : Addr → Prop} {cc : ByteArray} {maxL : Nat} {ret : Option FieldType}
    (hy : plainFor y = true) (hw : ws = Jvm.Cond.code y cc maxL ret :: ws')
    (body : ∀ p e s m args below meth c s₁, BodyLoose p l y (headSpec ws rm) cc maxL ret e s m args below meth c s₁ → c.maxLocals = maxL → Pc args s →
      W p l e (headSpec ws rm).room s m args below meth c s.heap [] 0 0 (MQ below Qc args s mc ms free) (entryFrame m args maxL)) : Met l y ws rm Pc Qc mc ms free := by
  refine MetFree.of_bodySF (code := cc) (maxLocals := maxL) (ret := ret) hy ?_ ?_
  · intro args s m h hn
    obtain ⟨meth, c, h1, h2, h3, h4, h5, h6, -, -⟩ := Cond.code_spec hn (atoms_spec (ws := ws) h _ (by rw [hw]; exact List.mem_cons_self))
    exact ⟨meth, c, h1, h2, h3, h4, h5, h6⟩
  · intro p e s m args below meth c s₁ B hml hP _
    have hh0 : s₁.heap = s.heap := by rw [B.state]; rfl
    obtain ⟨t, a1, o, b1, b2, b3⟩ := body p e s m args below meth c s₁ B hml hP s₁ hh0 (Stand.of_body B)
    exact ⟨t, o, a1, b1, b2, ⟨b3.1, b3.2⟩⟩
/-- what is known in a frame of the method m -/
def am_cx (m : Nat) (p : Program) (R : Room) (s : State) (mm : MethodId) (args : Array Value) (meth : Method) (c : Code) (cA : Nat → ClassId) (D : va_G) (A : Nat → Prop) : Prop :=
  p.tables.exec = Jvm.exec ∧ c.code = am_by m ∧ meth.sig.returnType = am_rt m ∧ c.maxLocals = am_ml m ∧ s.vm.findClass (am_y m).cls = some mm.cls ∧ (∀ w ∈ am_tb, w.before args s = true) ∧ meth.locks = false ∧
  va_K D am_cl (am_ty cA) s ∧ va_Nw am_nest s ∧ (∀ q, s.heap.size ≤ q → A q) ∧ am_fr m ≤ R.frames ∧ am_lr m ≤ R.locals
def am_pcs (m k : Nat) : Nat := am_pcl (am_code m) k
def am_ws (m : Nat) : List Jvm.Cond := Jvm.Cond.code (am_y m) (am_by m) (am_ml m) (am_rt m) :: am_tb
def am_rm (m : Nat) : Room := { frames := am_fr m, cells := 0, slots := 0, locals := am_lr m }
def am_SND (l : Launch) (n : Nat) : Prop := ∀ (m k : Nat) (ls : am_L) (st : am_S) (h : am_H) (Q : am_P) (p : Program) (e : Env) (R : Room) (s : State) (mm : MethodId) (args : Array Value) (below : List Frame) (meth : Method) (c : Code) (H : Heap) (locs : List Loc) (ad : Nat → Nat) (cA : Nat → ClassId) (D : va_G) (A : Nat → Prop) (lsC : Array Slot),
  am_cx m p R s mm args meth c cA D A → am_wp n m k ls st h Q → am_wd ad cA D A s.heap h H locs → am_lv ad lsC (am_ml m) ls →
  W p l e R s mm args below meth c H locs 0 0 (MQ below (am_Q ad cA D Q A) args s 0 0 A) (F0 mm (am_pcs m k) lsC (st.map (am_c ad)))
/-- what is known of a method that has code -/
def am_mk (m : Nat) : Prop := Jvm.Cond.code (am_y m) (am_by m) (am_ml m) (am_rt m) ∈ am_tb ∧ Jvm.Cond.initialized (am_y m).cls ∈ am_tb ∧ (if am_ss m then Jvm.Cond.static (am_y m) ∈ am_tb else Jvm.Cond.instanceMethod (am_y m) ∈ am_tb ∧ Jvm.Cond.selects (am_y m).cls (am_y m) (am_y m) ∈ am_tb ∧ (am_cl[am_oc m]?).map (fun q => q.1) = some (am_y m).cls)
  ∧ plainFor (am_y m) = true ∧ (am_y m).cls ≠ "java/lang/invoke/MethodHandle" ∧ (am_y m).cls ≠ "java/lang/invoke/VarHandle" ∧ (parseMethodDescriptor (am_y m).desc).map (fun d => d.parameters.length) = some (am_np m) ∧ am_pcs m 0 = 0 ∧ am_chks (am_y m).cls (am_by m) (am_rt m) (am_fr m) (am_lr m) (am_code m) (am_code m) = true
theorem am_mk_of {m : Nat} {k : Nat} {e : am_E} (h : am_nth (am_code m) k = some e) : am_mk m := by
  have hm : ∃ M, am_nth am_ms m = some M := by
    cases hM : am_nth am_ms m with
    | some M => exact ⟨M, rfl⟩
    | none =>
      simp [am_code, am_m, hM, am_nth] at h
  obtain ⟨M, hM⟩ := hm
  have hok := am_okAll M (am_mem_of_nth hM)
  have hmm : am_m m = M := by simp [am_m, hM]
  unfold am_mk am_pcs
  simp only [am_y, am_by, am_ml, am_rt, am_oc, am_ss, am_np, am_fr, am_lr, am_code, hmm]
  obtain ⟨y, B, ml, rt, oc, ss, np, F, L, C, ws⟩ := M
  unfold am_mok at hok
  split at hok
  · rename_i heq
    cases heq
    simp only [Bool.and_eq_true, decide_eq_true_eq] at hok
    obtain ⟨⟨⟨⟨⟨⟨⟨⟨h1, h2⟩, h3⟩, h4⟩, h5⟩, h6⟩, h7⟩, h8⟩, h9⟩ := hok
    refine ⟨am_at_mem h1, am_at_mem h2, ?_, h4, h5, h6, h7, h8, h9⟩
    cases ss with
    | true =>
      simp only [if_true] at h3 ⊢
      exact am_at_mem h3
    | false =>
      simp only [Bool.false_eq_true, if_false, Bool.and_eq_true, decide_eq_true_eq] at h3 ⊢
      exact ⟨am_at_mem h3.1.1, am_at_mem h3.1.2, h3.2⟩
  · cases hok
theorem am_chks_at {own : String} {B : ByteArray} {rt : Option FieldType} {F L : Nat} {C : List am_E} : ∀ (r : List am_E) (k : Nat) (e : am_E), am_chks own B rt F L C r = true → am_nth r k = some e → am_chk own B rt F L C (r.drop (k + 1)) e = true
  | [], k, e, _, h => by cases k <;> cases h
  | x :: r, 0, e, hc, h => by
    cases h
    simp only [am_chks, Bool.and_eq_true] at hc
    exact hc.1
  | x :: r, k + 1, e, hc, h => by
    simp only [am_chks, Bool.and_eq_true] at hc
    exact am_chks_at r k e hc.2 h
theorem am_nx_pc {C : List am_E} {k pc len : Nat} (h : am_nx (C.drop (k + 1)) pc len = true) : am_pcl C (k + 1) = pc + len := by
  have e1 : C[k + 1]? = (C.drop (k + 1))[0]? := by simp
  unfold am_pcl
  rw [am_nth_eq, e1]
  cases hd : C.drop (k + 1) with
  | nil => rw [hd] at h; cases h
  | cons x r =>
    rw [hd] at h
    simpa [am_nx] using h
theorem am_tk_spec : ∀ (n : Nat) (st acc a r), am_tk n st acc = some (a, r) → ∃ b, a = b.reverse ++ acc ∧ st = b ++ r ∧ b.length = n
  | 0, st, acc, a, r, h => by cases st <;> (cases h; exact ⟨[], rfl, rfl, rfl⟩)
  | n + 1, [], acc, a, r, h => by cases h
  | n + 1, v :: st, acc, a, r, h => by
    obtain ⟨b, h1, h2, h3⟩ := am_tk_spec n st (v :: acc) a r h
    exact ⟨v :: b, by rw [h1]; simp, by rw [h2]; rfl, by simp [h3]⟩
theorem am_met_of {l : Launch} {n : Nat} (hn : am_SND l n) {j : Nat} {args : List am_V} {h : am_H} {Q : am_P} (ad : Nat → Nat) (cA : Nat → ClassId) (D : va_G) (sz : Nat) (hM : am_mk j) (hc : am_cat args ≤ am_ml j) (hw : am_wp n j 0 (am_pad (am_ml j) args) [] h Q) :
    Met l (am_y j) (am_ws j) (am_rm j) (am_Pc ad cA D args h sz) (am_Q ad cA D Q (am_A ad sz)) 0 0 (am_A ad sz) := by
  refine am_ofW (cc := am_by j) (maxL := am_ml j) (ret := am_rt j) hM.2.2.2.1 rfl ?_
  intro p e s m args' below meth c s₁ B hml hv
  obtain ⟨rfl, hsz, hP, hK, hD0, hN⟩ := hv
  have hts := atoms_spec (ws := am_ws j) B.pre
  have hown : s.vm.findClass (am_y j).cls = some m.cls := findClass_of_methodNamed B.named
  subst hsz
  have hl := lv_entry (args.map (am_c ad)) (n := am_ml j) (by rw [am_sl_len]; exact hc)
  rw [lg_entry_eq]
  generalize (lg_sl (args.map (am_c ad)) ++ List.replicate (am_ml j - (lg_sl (args.map (am_c ad))).length) Slot.unset).toArray = ls at hl ⊢
  have key := hn j 0 (am_pad (am_ml j) args) [] h Q p e (am_rm j) s m (args.map (am_c ad)).toArray below meth c s.heap [] ad cA D (am_A ad s.heap.size) ls
    ⟨B.exec, B.bytes, B.returns, hml, hown, fun w hw => hts w (List.mem_cons_of_mem _ hw), B.notSynchronized, hK, hN, fun q h => Or.inr h, Nat.le_refl _, Nat.le_refl _⟩ hw
    ⟨hP, am_D_any hD0 (fun c hc _ => Or.inl ⟨c, hc, rfl⟩), va_S.rf⟩ ⟨⟨hl.1, hl.2.1, fun q hq => hl.2.2 q (am_pad_mem ad _ 0 args q hq)⟩, by rw [am_pad_len]; exact Nat.le_refl _⟩
  rw [hM.2.2.2.2.2.2.2.1] at key
  exact key
theorem am_callc {p : Program} {l : Launch} {e : Env} {R : Room} {s : State} {m : MethodId} {args : Array Value} {below : List Frame} {meth : Method} {c : Code} {H : Heap} {locs : List Loc} {Q : State → Prop} {pc : Nat} {ls : Array Slot} {rest st0 : List Value} {a : Array Value} {ad : Nat → Nat} {cA : Nat → ClassId} {D : va_G} {A : Nat → Prop} {h : am_H} {Qj : am_P}
    (hr : va_Run p l e R s m args below meth c H locs 0 0 0 0 (F0 m pc ls st0) rest (am_Q ad cA D Qj (am_A ad H.size) a) (am_A ad H.size)) (wd : am_wd ad cA D A s.heap h H locs) (hA : ∀ q, s.heap.size ≤ q → A q)
    (kk : ∀ (o : Option am_V) (h' : am_H) (H' : Heap) (locs' : List Loc), Qj o h' → am_wd ad cA D A s.heap h' H' locs' → W p l e R s m args below meth c H' locs' 0 0 Q (F0 m (pc + 3) ls ((o.map (am_c ad)).toList ++ rest))) : W p l e R s m args below meth c H locs 0 0 Q (F0 m pc ls st0) := by
  intro T hT X
  obtain ⟨v, st₀, t, T', L, h0, X', hL, e1, e2, ⟨⟨r, h', hv, hp, hP', hK', hN'⟩, hz, hk⟩, st⟩ := hr T hT X
  cases hv
  rw [h0] at hz hk
  obtain ⟨hP, hD, hS⟩ := wd
  have hA1 : ∀ q, am_A ad H.size q → A q := by
    intro q hq
    rcases hq with ⟨c', hc', rfl⟩ | hq
    · exact hD.2 c' _ (am_w_at ad cA h hc')
    · exact hA q (Nat.le_trans hS.1 hq)
  obtain ⟨t2, a1, b1⟩ := kk r h' T'.heap (locs ++ L) hp ⟨by rw [e1]; exact hP', am_D_any hD (fun _ _ h => h), ⟨Nat.le_trans hS.1 (by rw [e1]; exact hz), fun q h1 h2 => by rw [e1, hk q (Nat.lt_of_lt_of_le h1 hS.1) (fun z => h2 (hA1 q z))]; exact hS.2.1 q h1 h2, fun q hq => by
      rcases List.mem_append.mp hq with h | h
      · exact hS.2.2 q h
      · exact hA1 _ (hL q h)⟩⟩ T' rfl X'
  exact ⟨t2, st t2 a1, b1⟩
end
section
set_option maxRecDepth 100000 in
theorem am_copyW : Jvm.Cond.native arraycopyName ∈ am_tb ∧ Jvm.Cond.static arraycopyName ∈ am_tb ∧ Jvm.Cond.initialized "java/lang/System" ∈ am_tb := by decide +kernel
theorem am_sw_spec {x : Int} {d : Nat} {K : Nat → Prop} : ∀ (ts : List Nat) (lo : Int), am_sw x lo ts d K → (∀ (j t : Nat), am_nth ts j = some t → x = lo + j → K t) ∧ ((x < lo ∨ lo + ts.length ≤ x) → K d)
  | [], lo, h => ⟨fun j t e => (by cases j <;> cases e), fun _ => h⟩
  | t0 :: r, lo, h => by
    obtain ⟨h1, h2⟩ := h
    refine ⟨fun j t e hx => ?_, fun hx => ?_⟩
    · cases j with
      | zero => cases e; exact h1 (by omega)
      | succ j => exact (am_sw_spec r (lo + 1) (h2 (by omega))).1 j t e (by omega)
    · simp only [List.length_cons] at hx
      exact (am_sw_spec r (lo + 1) (h2 (by omega))).2 (by omega)
theorem am_jts_spec {C : List am_E} {pc : Nat} : ∀ (os : List Int) (ts : List Nat), am_jts C pc os ts = true → os.length = ts.length ∧ ∀ (j : Nat) (off : Int), os[j]? = some off → ∃ t, am_nth ts j = some t ∧ (pc : Int) + off = (am_pcl C t : Int)
  | [], [], _ => ⟨rfl, fun j off h => by simp at h⟩
  | o :: os, t :: ts, h => by
    simp only [am_jts, Bool.and_eq_true, am_jt, decide_eq_true_eq] at h
    obtain ⟨h1, h2⟩ := am_jts_spec os ts h.2
    refine ⟨by simp [h1], fun j off e => ?_⟩
    cases j with
    | zero => cases e; exact ⟨t, rfl, h.1⟩
    | succ j => exact h2 j off e
  | [], _ :: _, h => by cases h
  | _ :: _, [], h => by cases h
theorem am_en_obj {ad : Nat → Nat} {cA : Nat → ClassId} {h : am_H} {c ci : Nat} {fks : List (Option Nat)} (e : am_lay c = .inr (ci, fks)) : am_en ad cA h c = .inr (ci, am_fv ad h c 0 fks) := by simp [am_en, e]
theorem am_en_int {ad : Nat → Nat} {cA : Nat → ClassId} {h : am_H} {c n : Nat} (e : am_lay c = .inl (.int, n)) : am_en ad cA h c = .inl (cA c, n, .inl (fun j => Int32.ofInt (h c j))) := by simp [am_en, e]
theorem am_en_bool {ad : Nat → Nat} {cA : Nat → ClassId} {h : am_H} {c n : Nat} (e : am_lay c = .inl (.boolean, n)) : am_en ad cA h c = .inl (cA c, n, .inl (fun j => Int32.ofInt (h c j))) := by simp [am_en, e]
theorem am_en_long {ad : Nat → Nat} {cA : Nat → ClassId} {h : am_H} {c n : Nat} (e : am_lay c = .inl (.long, n)) : am_en ad cA h c = .inl (cA c, n, .inr (.inl (fun j => Int64.ofInt (h c j)))) := by simp [am_en, e]
theorem am_up_off {h : am_H} {c : Nat} {i x : Int} : ∀ c', c' ≠ c → ∀ i', am_up h c i x c' i' = h c' i' := fun c' hc i' => if_neg (fun q => hc q.1)
theorem am_up_f {h : am_H} {c : Nat} {i x : Int} (hi : 0 ≤ i) : (fun j : Nat => Int32.ofInt (am_up h c i x c j)) = upd (fun j : Nat => Int32.ofInt (h c j)) i.toNat (Int32.ofInt x) := by
  funext j
  unfold am_up upd
  by_cases e : j = i.toNat
  · rw [if_pos e, if_pos ⟨rfl, by omega⟩]
  · rw [if_neg e, if_neg (fun q => e (by omega))]
theorem am_up_l {h : am_H} {c : Nat} {i : Int} {x : Int64} (hi : 0 ≤ i) : (fun j : Nat => Int64.ofInt (am_up h c i x.toInt c j)) = vp_updL (fun j : Nat => Int64.ofInt (h c j)) i.toNat x := by
  funext j
  unfold am_up vp_updL
  by_cases e : j = i.toNat
  · rw [if_pos e, if_pos ⟨rfl, by omega⟩, am_lofI]
  · rw [if_neg e, if_neg (fun q => e (by omega))]
theorem am_ety_of {c n : Nat} {ty : FieldType} (e : am_lay c = .inl (ty, n)) : am_ety c = ty := by simp [am_ety, e]
set_option maxHeartbeats 4000000 in
theorem am_snd (l : Launch) : ∀ n, am_SND l n := by
  intro n
  induction n with
  | zero => intro m k ls st h Q p e R s mm args below meth c H locs ad cA D A lsC cx hw; exact hw.elim
  | succ n ih =>
    intro m k ls st h Q p e R s mm args below meth c H locs ad cA D A lsC cx hw wd hl
    obtain ⟨hx, hb, hr, hml, hown, hts, hlk, hK, hN, hA, hRf, hRl⟩ := id cx
    rw [am_wp] at hw
    cases he : am_nth (am_code m) k with
    | none => rw [he] at hw; exact hw.elim
    | some e0 =>
      rw [he] at hw
      have hM := am_mk_of he
      have hck := am_chks_at _ k e0 hM.2.2.2.2.2.2.2.2 he
      obtain ⟨pc, len, i, a, b, v, w, js⟩ := e0
      have hpc : am_pcs m k = pc := by simp [am_pcs, am_pcl, he]
      rw [hpc]
      have goN : ∀ {ls' : am_L} {st' : am_S} {h' : am_H} {H' : Heap} {locs' : List Loc} {lsC' : Array Slot} {len' : Nat}, am_nx ((am_code m).drop (k + 1)) pc len' = true → am_wp n m (k + 1) ls' st' h' Q → am_wd ad cA D A s.heap h' H' locs' → am_lv ad lsC' (am_ml m) ls' →
          W p l e R s mm args below meth c H' locs' 0 0 (MQ below (am_Q ad cA D Q A) args s 0 0 A) (F0 mm (pc + len') lsC' (st'.map (am_c ad))) := by
        intro ls' st' h' H' locs' lsC' len' hnx hw' wd' hl'
        rw [← am_nx_pc hnx]
        exact ih m (k + 1) ls' st' h' Q p e R s mm args below meth c H' locs' ad cA D A lsC' cx hw' wd' hl'
      have goJ : ∀ {t : Nat} {ls' : am_L} {st' : am_S} {h' : am_H} {H' : Heap} {locs' : List Loc} {lsC' : Array Slot}, am_wp n m t ls' st' h' Q → am_wd ad cA D A s.heap h' H' locs' → am_lv ad lsC' (am_ml m) ls' →
          W p l e R s mm args below meth c H' locs' 0 0 (MQ below (am_Q ad cA D Q A) args s 0 0 A) (F0 mm (am_pcl (am_code m) t) lsC' (st'.map (am_c ad))) := by
        intro t ls' st' h' H' locs' lsC' hw' wd' hl'
        exact ih m t ls' st' h' Q p e R s mm args below meth c H' locs' ad cA D A lsC' cx hw' wd' hl'
      have hq : ∀ {o : Option am_V} {h' : am_H} {H' : Heap} {locs' : List Loc}, Q o h' → am_wd ad cA D A s.heap h' H' locs' → ∀ t : State, t.heap = H' → s.WarmedH t.vm → am_Q ad cA D Q A args s (.returned (o.map (am_c ad))) t := by
        intro o h' H' locs' hQ wd' t ht hW
        exact ⟨⟨o, h', rfl, hQ, by rw [ht]; exact wd'.1, va_K.moved hW.alike hK, va_Nw.warmM hW hN⟩, wd'.2.2.F ht⟩
      cases i with
      | iconst x0 =>
        simp only [am_chk, Bool.and_eq_true, decide_eq_true_eq] at hck
        dsimp only [am_step] at hw
        obtain ⟨hdg, ⟨rfl, hv⟩, hnx⟩ := hck
        exact lv_iconst hx hb hdg hv (goN hnx hw wd hl)
      | bipush x0 =>
        simp only [am_chk, Bool.and_eq_true, decide_eq_true_eq] at hck
        dsimp only [am_step] at hw
        obtain ⟨hdg, ⟨rfl, hv⟩, hnx⟩ := hck
        exact lv_bipush hx hb hdg hv (goN hnx hw wd hl)
      | sipush x0 =>
        simp only [am_chk, Bool.and_eq_true, decide_eq_true_eq] at hck
        dsimp only [am_step] at hw
        obtain ⟨hdg, ⟨rfl, hv⟩, hnx⟩ := hck
        exact lv_sipush hx hb hdg hv (goN hnx hw wd hl)
      | lconst x0 =>
        simp only [am_chk, Bool.and_eq_true, decide_eq_true_eq] at hck
        dsimp only [am_step] at hw
        obtain ⟨hdg, ⟨rfl, hv⟩, hnx⟩ := hck
        exact lv_lconst hx hb hdg hv (goN hnx hw wd hl)
      | ldc x0 =>
        simp only [am_chk, Bool.and_eq_true, decide_eq_true_eq] at hck
        dsimp only [am_step] at hw
        obtain ⟨hdg, ⟨rfl, hv⟩, hnx⟩ := hck
        exact lv_ldc hx hb hown (hts _ (am_at_mem hv)) hdg (goN hnx hw wd hl)
      | ldc_w x0 =>
        simp only [am_chk, Bool.and_eq_true, decide_eq_true_eq] at hck
        dsimp only [am_step] at hw
        obtain ⟨hdg, ⟨rfl, hv⟩, hnx⟩ := hck
        exact lv_ldcw hx hb hown (hts _ (am_at_mem hv)) hdg (goN hnx hw wd hl)
      | ldc2_w x0 =>
        simp only [am_chk, Bool.and_eq_true, decide_eq_true_eq] at hck
        dsimp only [am_step] at hw
        obtain ⟨hdg, ⟨rfl, hv⟩, hnx⟩ := hck
        exact lv_ldc2 hx hb hown (hts _ (am_at_mem hv)) hdg (goN hnx hw wd hl)
      | aconst_null =>
        simp only [am_chk, Bool.and_eq_true, decide_eq_true_eq] at hck
        dsimp only [am_step] at hw
        obtain ⟨hdg, rfl, hnx⟩ := hck
        exact lv_null hx hb hdg (goN hnx hw wd hl)
      | iload_n x0 =>
        simp only [am_chk, Bool.and_eq_true, decide_eq_true_eq] at hck
        dsimp only [am_step] at hw
        obtain ⟨hdg, rfl, hnx⟩ := hck
        unfold am_ldI at hw
        split at hw
        · rename_i y hy
          exact lv_iload_n hx hb hdg rfl (am_lv_at hl hy) (goN hnx hw wd hl)
        · exact hw.elim
      | iload x0 =>
        simp only [am_chk, Bool.and_eq_true, decide_eq_true_eq] at hck
        dsimp only [am_step] at hw
        obtain ⟨hdg, rfl, hnx⟩ := hck
        unfold am_ldI at hw
        split at hw
        · rename_i y hy
          exact lv_iload hx hb hdg (am_lv_at hl hy) (goN hnx hw wd hl)
        · exact hw.elim
      | lload_n x0 =>
        simp only [am_chk, Bool.and_eq_true, decide_eq_true_eq] at hck
        dsimp only [am_step] at hw
        obtain ⟨hdg, rfl, hnx⟩ := hck
        unfold am_ldL at hw
        split at hw
        · rename_i y hy
          exact lv_lload_n hx hb hdg rfl (am_lv_at hl hy) (goN hnx hw wd hl)
        · exact hw.elim
      | lload x0 =>
        simp only [am_chk, Bool.and_eq_true, decide_eq_true_eq] at hck
        dsimp only [am_step] at hw
        obtain ⟨hdg, rfl, hnx⟩ := hck
        unfold am_ldL at hw
        split at hw
        · rename_i y hy
          exact lv_lload hx hb hdg (am_lv_at hl hy) (goN hnx hw wd hl)
        · exact hw.elim
      | aload_n x0 =>
        simp only [am_chk, Bool.and_eq_true, decide_eq_true_eq] at hck
        dsimp only [am_step] at hw
        obtain ⟨hdg, rfl, hnx⟩ := hck
        unfold am_ldA at hw
        split at hw
        · rename_i y hy
          cases y with
          | none => exact lv_aload_nN hx hb hdg rfl (am_lv_at hl hy) (goN hnx hw wd hl)
          | some y => exact lv_aload_n hx hb hdg rfl (am_lv_at hl hy) (goN hnx hw wd hl)
        · exact hw.elim
      | aload x0 =>
        simp only [am_chk, Bool.and_eq_true, decide_eq_true_eq] at hck
        dsimp only [am_step] at hw
        obtain ⟨hdg, rfl, hnx⟩ := hck
        unfold am_ldA at hw
        split at hw
        · rename_i y hy
          cases y with
          | none => exact lv_aloadN hx hb hdg (am_lv_at hl hy) (goN hnx hw wd hl)
          | some y => exact lv_aload hx hb hdg (am_lv_at hl hy) (goN hnx hw wd hl)
        · exact hw.elim
      | istore_n x0 =>
        simp only [am_chk, Bool.and_eq_true, decide_eq_true_eq] at hck
        dsimp only [am_step] at hw
        obtain ⟨hdg, rfl, hnx⟩ := hck
        split at hw
        · unfold am_sto at hw
          split at hw
          · rename_i ls' hy
            exact lv_istore_n hx hb hdg rfl hl.1 (am_lv_st hl hy).1 rfl (fun lsC' hl' => goN hnx hw wd ((am_lv_st hl hy).2 lsC' hl'))
          · exact hw.elim
        · exact hw.elim
      | istore x0 =>
        simp only [am_chk, Bool.and_eq_true, decide_eq_true_eq] at hck
        dsimp only [am_step] at hw
        obtain ⟨hdg, rfl, hnx⟩ := hck
        split at hw
        · unfold am_sto at hw
          split at hw
          · rename_i ls' hy
            exact lv_istore hx hb hdg hl.1 (am_lv_st hl hy).1 rfl (fun lsC' hl' => goN hnx hw wd ((am_lv_st hl hy).2 lsC' hl'))
          · exact hw.elim
        · exact hw.elim
      | astore_n x0 =>
        simp only [am_chk, Bool.and_eq_true, decide_eq_true_eq] at hck
        dsimp only [am_step] at hw
        obtain ⟨hdg, rfl, hnx⟩ := hck
        split at hw
        · rename_i y r
          unfold am_sto at hw
          split at hw
          · rename_i ls' hy
            cases y with
            | none => exact lv_astore_nN hx hb hdg rfl hl.1 (am_lv_st hl hy).1 rfl (fun lsC' hl' => goN hnx hw wd ((am_lv_st hl hy).2 lsC' hl'))
            | some y => exact lv_astore_n hx hb hdg rfl hl.1 (am_lv_st hl hy).1 rfl (fun lsC' hl' => goN hnx hw wd ((am_lv_st hl hy).2 lsC' hl'))
          · exact hw.elim
        · exact hw.elim
      | iinc x0 n0 =>
        simp only [am_chk, Bool.and_eq_true, decide_eq_true_eq] at hck
        dsimp only [am_step] at hw
        obtain ⟨hdg, rfl, hnx⟩ := hck
        unfold am_ldI at hw
        split at hw
        · rename_i y hy
          unfold am_sto at hw
          split at hw
          · rename_i ls' hy2
            have hm := am_al_mem (ad := ad) ls 0 x0 _ hy
            rw [Nat.zero_add] at hm
            obtain ⟨kk, hkk⟩ := List.getElem?_of_mem hm
            exact lv_iinc hx hb hdg hl.1 hkk (am_add y n0) (am_lv_st hl hy2).1 rfl (fun lsC' hl' => goN hnx hw wd ((am_lv_st hl hy2).2 lsC' hl'))
          · exact hw.elim
        · exact hw.elim
      | iadd =>
        simp only [am_chk, Bool.and_eq_true, decide_eq_true_eq] at hck
        dsimp only [am_step] at hw
        obtain ⟨hdg, rfl, hnx⟩ := hck
        split at hw
        · refine lv_iadd hx hb hdg ?_
          rw [am_add]
          exact goN hnx hw wd hl
        · exact hw.elim
      | isub =>
        simp only [am_chk, Bool.and_eq_true, decide_eq_true_eq] at hck
        dsimp only [am_step] at hw
        obtain ⟨hdg, rfl, hnx⟩ := hck
        split at hw
        · refine lv_isub hx hb hdg ?_
          rw [am_sub]
          exact goN hnx hw wd hl
        · exact hw.elim
      | imul =>
        simp only [am_chk, Bool.and_eq_true, decide_eq_true_eq] at hck
        dsimp only [am_step] at hw
        obtain ⟨hdg, rfl, hnx⟩ := hck
        split at hw
        · refine lv_imul hx hb hdg ?_
          rw [am_mul]
          exact goN hnx hw wd hl
        · exact hw.elim
      | ineg =>
        simp only [am_chk, Bool.and_eq_true, decide_eq_true_eq] at hck
        dsimp only [am_step] at hw
        obtain ⟨hdg, rfl, hnx⟩ := hck
        split at hw
        · refine lv_ineg hx hb hdg ?_
          rw [am_neg]
          exact goN hnx hw wd hl
        · exact hw.elim
      | idiv =>
        simp only [am_chk, Bool.and_eq_true, decide_eq_true_eq] at hck
        dsimp only [am_step] at hw
        obtain ⟨hdg, rfl, hnx⟩ := hck
        split at hw
        · obtain ⟨⟨h1, h2⟩, hw⟩ := hw
          refine lv_idiv hx hb hdg (am_ne0 h2) ?_
          rw [am_div h1 h2]
          exact goN hnx hw wd hl
        · exact hw.elim
      | irem =>
        simp only [am_chk, Bool.and_eq_true, decide_eq_true_eq] at hck
        dsimp only [am_step] at hw
        obtain ⟨hdg, rfl, hnx⟩ := hck
        split at hw
        · obtain ⟨⟨h1, h2⟩, hw⟩ := hw
          refine lv_irem hx hb hdg (am_ne0 h2) ?_
          rw [am_rem h1 h2]
          exact goN hnx hw wd hl
        · exact hw.elim
      | iand =>
        simp only [am_chk, Bool.and_eq_true, decide_eq_true_eq] at hck
        dsimp only [am_step] at hw
        obtain ⟨hdg, rfl, hnx⟩ := hck
        split at hw
        · refine lv_iand hx hb hdg ?_
          have := goN hnx hw wd hl
          simp only [List.map_cons, am_c, am_and, am_ofI] at this
          exact this
        · exact hw.elim
      | ior =>
        simp only [am_chk, Bool.and_eq_true, decide_eq_true_eq] at hck
        dsimp only [am_step] at hw
        obtain ⟨hdg, rfl, hnx⟩ := hck
        split at hw
        · refine lv_ior hx hb hdg ?_
          have := goN hnx hw wd hl
          simp only [List.map_cons, am_c, am_or, am_ofI] at this
          exact this
        · exact hw.elim
      | ixor =>
        simp only [am_chk, Bool.and_eq_true, decide_eq_true_eq] at hck
        dsimp only [am_step] at hw
        obtain ⟨hdg, rfl, hnx⟩ := hck
        split at hw
        · refine lv_ixor hx hb hdg ?_
          have := goN hnx hw wd hl
          simp only [List.map_cons, am_c, am_xor, am_ofI] at this
          exact this
        · exact hw.elim
      | ishl =>
        simp only [am_chk, Bool.and_eq_true, decide_eq_true_eq] at hck
        dsimp only [am_step] at hw
        obtain ⟨hdg, rfl, hnx⟩ := hck
        split at hw
        · refine lv_ishl hx hb hdg ?_
          have := goN hnx hw wd hl
          simp only [List.map_cons, am_c, am_shl, am_ofI] at this
          exact this
        · exact hw.elim
      | ishr =>
        simp only [am_chk, Bool.and_eq_true, decide_eq_true_eq] at hck
        dsimp only [am_step] at hw
        obtain ⟨hdg, rfl, hnx⟩ := hck
        split at hw
        · refine lv_ishr hx hb hdg ?_
          have := goN hnx hw wd hl
          simp only [List.map_cons, am_c, am_shr, am_ofI] at this
          exact this
        · exact hw.elim
      | iushr =>
        simp only [am_chk, Bool.and_eq_true, decide_eq_true_eq] at hck
        dsimp only [am_step] at hw
        obtain ⟨hdg, rfl, hnx⟩ := hck
        split at hw
        · refine lv_iushr hx hb hdg rfl ?_
          have := goN hnx hw wd hl
          simp only [List.map_cons, am_c, am_ushr, am_ofI] at this
          exact this
        · exact hw.elim
      | i2l =>
        simp only [am_chk, Bool.and_eq_true, decide_eq_true_eq] at hck
        dsimp only [am_step] at hw
        obtain ⟨hdg, rfl, hnx⟩ := hck
        split at hw
        · exact lv_i2l hx hb hdg rfl (goN hnx hw wd hl)
        · exact hw.elim
      | l2i =>
        simp only [am_chk, Bool.and_eq_true, decide_eq_true_eq] at hck
        dsimp only [am_step] at hw
        obtain ⟨hdg, rfl, hnx⟩ := hck
        split at hw
        · refine lv_l2i hx hb hdg rfl ?_
          have := goN hnx hw wd hl
          simp only [List.map_cons, am_c, am_l2i, am_ofI] at this
          exact this
        · exact hw.elim
      | lcmp =>
        simp only [am_chk, Bool.and_eq_true, decide_eq_true_eq] at hck
        dsimp only [am_step] at hw
        obtain ⟨hdg, rfl, hnx⟩ := hck
        split at hw
        · refine W.lcmp hx hb hdg ?_
          rw [← am_lcmp_eq]
          exact goN hnx hw wd hl
        · exact hw.elim
      | land =>
        simp only [am_chk, Bool.and_eq_true, decide_eq_true_eq] at hck
        dsimp only [am_step] at hw
        obtain ⟨hdg, rfl, hnx⟩ := hck
        split at hw
        · exact lv_land hx hb hdg (goN hnx hw wd hl)
        · exact hw.elim
      | lor =>
        simp only [am_chk, Bool.and_eq_true, decide_eq_true_eq] at hck
        dsimp only [am_step] at hw
        obtain ⟨hdg, rfl, hnx⟩ := hck
        split at hw
        · exact lv_lor hx hb hdg (goN hnx hw wd hl)
        · exact hw.elim
      | lxor =>
        simp only [am_chk, Bool.and_eq_true, decide_eq_true_eq] at hck
        dsimp only [am_step] at hw
        obtain ⟨hdg, rfl, hnx⟩ := hck
        split at hw
        · exact lv_lxor hx hb hdg (goN hnx hw wd hl)
        · exact hw.elim
      | lshl =>
        simp only [am_chk, Bool.and_eq_true, decide_eq_true_eq] at hck
        dsimp only [am_step] at hw
        obtain ⟨hdg, rfl, hnx⟩ := hck
        split at hw
        · exact lv_lshl hx hb hdg rfl (goN hnx hw wd hl)
        · exact hw.elim
      | lshr =>
        simp only [am_chk, Bool.and_eq_true, decide_eq_true_eq] at hck
        dsimp only [am_step] at hw
        obtain ⟨hdg, rfl, hnx⟩ := hck
        split at hw
        · exact lv_lshr hx hb hdg rfl (goN hnx hw wd hl)
        · exact hw.elim
      | lushr =>
        simp only [am_chk, Bool.and_eq_true, decide_eq_true_eq] at hck
        dsimp only [am_step] at hw
        obtain ⟨hdg, rfl, hnx⟩ := hck
        split at hw
        · exact lv_lushr hx hb hdg rfl (goN hnx hw wd hl)
        · exact hw.elim
      | dup =>
        simp only [am_chk, Bool.and_eq_true, decide_eq_true_eq] at hck
        dsimp only [am_step] at hw
        obtain ⟨hdg, rfl, hnx⟩ := hck
        split at hw
        · exact lv_dup hx hb hdg rfl (goN hnx hw wd hl)
        · rename_i y r
          cases y with
          | none => exact lv_dup hx hb hdg rfl (goN hnx hw wd hl)
          | some y => exact lv_dup hx hb hdg rfl (goN hnx hw wd hl)
        · exact hw.elim
      | dup2 =>
        simp only [am_chk, Bool.and_eq_true, decide_eq_true_eq] at hck
        dsimp only [am_step] at hw
        obtain ⟨hdg, rfl, hnx⟩ := hck
        split at hw
        · rename_i y z r
          cases z with
          | none => exact lv_dup2_11 hx hb hdg rfl rfl (goN hnx hw wd hl)
          | some z => exact lv_dup2_11 hx hb hdg rfl rfl (goN hnx hw wd hl)
        · exact hw.elim
      | getfield x0 =>
        simp only [am_chk, Bool.and_eq_true, decide_eq_true_eq] at hck
        dsimp only [am_step] at hw
        obtain ⟨hdg, ⟨rfl, hnx⟩, hck⟩ := hck
        split at hck
        · rename_i C T N hcl
          simp only [Bool.and_eq_true, decide_eq_true_eq] at hck
          obtain ⟨⟨hk, hC⟩, hlink⟩ := hck
          obtain ⟨hci, hin, -, -⟩ := am_cls hcl
          split at hw
          · rename_i c0 r
            unfold am_gf at hw
            split at hw
            · rename_i ci fks hlay
              by_cases hcc : ci = a
              · subst hcc
                rw [if_pos rfl] at hw
                have he0 := am_w_at ad cA h (am_lay_obj hlay hci)
                rw [am_en_obj hlay] at he0
                split at hw
                · rename_i hf
                  have hv0 := am_fv_n ad h c0 fks 0 b hf
                  rw [Nat.zero_add] at hv0
                  exact va_get hx hb hts hin hown hK wd.1 c0 he0 hcl b hk (hts _ (am_at_mem hlink)) (fun y h9 => by rw [hC] at h9; exact h9) hv0 hdg (goN hnx hw wd hl)
                · rename_i t hf
                  have hv0 := am_fv_s ad h c0 t fks 0 b hf
                  exact va_get hx hb hts hin hown hK wd.1 c0 he0 hcl b hk (hts _ (am_at_mem hlink)) (fun y h9 => by rw [hC] at h9; exact h9) hv0 hdg (goN hnx hw wd hl)
                · exact hw.elim
              · rw [if_neg hcc] at hw; exact hw.elim
            · exact hw.elim
          · exact hw.elim
        · cases hck
      | putfield x0 =>
        simp only [am_chk, Bool.and_eq_true, decide_eq_true_eq] at hck
        dsimp only [am_step] at hw
        obtain ⟨hdg, ⟨rfl, hnx⟩, hck⟩ := hck
        split at hck
        · rename_i C T N hcl
          simp only [Bool.and_eq_true, decide_eq_true_eq] at hck
          obtain ⟨⟨⟨⟨hk, hC⟩, hlink⟩, hfin⟩, hty⟩ := hck
          obtain ⟨hci, hin, ⟨ty0, hty0⟩, hnm⟩ := am_cls hcl
          split at hw
          · rename_i y c0 r
            unfold am_pf at hw
            split at hw
            · rename_i ci fks hlay
              by_cases hcc : ci = a
              · subst hcc
                rw [if_pos rfl] at hw
                have hc0 := am_lay_obj hlay hci
                have he0 := am_w_at ad cA h hc0
                rw [am_en_obj hlay] at he0
                split at hw
                · rename_i hf
                  obtain ⟨hz, hw⟩ := hw
                  have hnf : narrow (if v = 1 then .boolean else .int) (.int (Int32.ofInt y)) = .int (Int32.ofInt y) ∧ fits (if v = 1 then .boolean else .int) (.int (Int32.ofInt y)) = true := by
                    by_cases hv : v = 1
                    · rw [if_pos hv]; exact ⟨(am_zb (hz hv)).1, (am_zb (hz hv)).2.1⟩
                    · rw [if_neg hv]; exact am_ib _
                  have hset : (am_w ad cA h).set c0 (ad c0, .inr (ci, (am_fv ad h c0 0 fks).set b (.int (Int32.ofInt y)))) = am_w ad cA (am_up h c0 b y) := by
                    rw [am_fv_set ad h c0 y fks 0 b hf, Nat.zero_add, ← am_en_obj (cA := cA) hlay]
                    exact am_w_set hc0 am_up_off
                  refine va_put (v := .int (Int32.ofInt y)) hx hb hts hin ty0 hty0 hnm hown hK wd.1 wd.2.1 wd.2.2 c0 he0 hcl b hk (hts _ (am_at_mem hlink)) (fun y h9 => by rw [hC] at h9; exact h9) hfin hty hnf.1 hnf.2 (by rw [am_fv_len]; exact am_nth_lt hf) hdg (fun H1 locs1 hP1 hD1 hS1 => ?_)
                  rw [hset] at hP1 hD1
                  exact goN hnx hw ⟨hP1, hD1, hS1⟩ hl
                · exact hw.elim
              · rw [if_neg hcc] at hw; exact hw.elim
            · exact hw.elim
          · exact hw.elim
        · cases hck
      | iaload =>
        simp only [am_chk, Bool.and_eq_true, decide_eq_true_eq] at hck
        dsimp only [am_step] at hw
        obtain ⟨hdg, rfl, hnx⟩ := hck
        split at hw
        · rename_i y c0 r
          unfold am_ar at hw
          split at hw
          · rename_i ty' n0 hlay
            by_cases ht : ty' = .int
            · subst ht
              rw [if_pos rfl] at hw
              obtain ⟨hi, hw⟩ := hw
              obtain ⟨hc0, hn0⟩ := am_lay_arr hlay
              have he0 := am_w_at ad cA h (show c0 < 87 by omega)
              rw [am_en_int hlay] at he0
              have ht0 := am_ty_at cA hc0
              rw [am_ety_of hlay] at ht0
              have e1 : (((Int32.ofInt y).toNatClampNeg : Nat) : Int) = y := by rw [am_clamp ⟨by omega, by omega⟩]; omega
              refine va_iald hx hb hK wd.1 c0 c0 he0 ht0 (am_vpin hi (by omega)) hdg ?_
              show W p l e R s mm args below meth c H locs 0 0 _ (F0 mm (pc + 1) lsC (.int (Int32.ofInt (h c0 (((Int32.ofInt y).toNatClampNeg : Nat) : Int))) :: _))
              rw [e1]
              exact goN hnx hw wd hl
            · rw [if_neg ht] at hw; exact hw.elim
          · exact hw.elim
        · exact hw.elim
      | baload =>
        simp only [am_chk, Bool.and_eq_true, decide_eq_true_eq] at hck
        dsimp only [am_step] at hw
        obtain ⟨hdg, rfl, hnx⟩ := hck
        split at hw
        · rename_i y c0 r
          unfold am_ar at hw
          split at hw
          · rename_i ty' n0 hlay
            by_cases ht : ty' = .boolean
            · subst ht
              rw [if_pos rfl] at hw
              obtain ⟨hi, hw⟩ := hw
              obtain ⟨hc0, hn0⟩ := am_lay_arr hlay
              have he0 := am_w_at ad cA h (show c0 < 87 by omega)
              rw [am_en_bool hlay] at he0
              have ht0 := am_ty_at cA hc0
              rw [am_ety_of hlay] at ht0
              have e1 : (((Int32.ofInt y).toNatClampNeg : Nat) : Int) = y := by rw [am_clamp ⟨by omega, by omega⟩]; omega
              refine va_zald hx hb hK wd.1 c0 c0 he0 ht0 (am_vpin hi (by omega)) hdg ?_
              show W p l e R s mm args below meth c H locs 0 0 _ (F0 mm (pc + 1) lsC (.int (Int32.ofInt (h c0 (((Int32.ofInt y).toNatClampNeg : Nat) : Int))) :: _))
              rw [e1]
              exact goN hnx hw wd hl
            · rw [if_neg ht] at hw; exact hw.elim
          · exact hw.elim
        · exact hw.elim
      | laload =>
        simp only [am_chk, Bool.and_eq_true, decide_eq_true_eq] at hck
        dsimp only [am_step] at hw
        obtain ⟨hdg, rfl, hnx⟩ := hck
        split at hw
        · rename_i y c0 r
          unfold am_ar at hw
          split at hw
          · rename_i ty' n0 hlay
            by_cases ht : ty' = .long
            · subst ht
              rw [if_pos rfl] at hw
              obtain ⟨hi, hw⟩ := hw
              obtain ⟨hc0, hn0⟩ := am_lay_arr hlay
              have he0 := am_w_at ad cA h (show c0 < 87 by omega)
              rw [am_en_long hlay] at he0
              have ht0 := am_ty_at cA hc0
              rw [am_ety_of hlay] at ht0
              have e1 : (((Int32.ofInt y).toNatClampNeg : Nat) : Int) = y := by rw [am_clamp ⟨by omega, by omega⟩]; omega
              refine va_lald hx hb hK wd.1 c0 c0 he0 ht0 (am_vpin hi (by omega)) hdg ?_
              show W p l e R s mm args below meth c H locs 0 0 _ (F0 mm (pc + 1) lsC (.long (Int64.ofInt (h c0 (((Int32.ofInt y).toNatClampNeg : Nat) : Int))) :: _))
              rw [e1]
              exact goN hnx hw wd hl
            · rw [if_neg ht] at hw; exact hw.elim
          · exact hw.elim
        · exact hw.elim
      | iastore =>
        simp only [am_chk, Bool.and_eq_true, decide_eq_true_eq] at hck
        dsimp only [am_step] at hw
        obtain ⟨hdg, rfl, hnx⟩ := hck
        split at hw
        · rename_i z y c0 r
          unfold am_ar at hw
          split at hw
          · rename_i ty' n0 hlay
            by_cases ht : ty' = .int
            · subst ht
              rw [if_pos rfl] at hw
              obtain ⟨hi, hw⟩ := hw
              obtain ⟨hc0, hn0⟩ := am_lay_arr hlay
              have he0 := am_w_at ad cA h (show c0 < 87 by omega)
              rw [am_en_int hlay] at he0
              have ht0 := am_ty_at cA hc0
              rw [am_ety_of hlay] at ht0
              have hu := am_up_f (h := h) (c := c0) (x := z) hi.1
              have hset : (am_w ad cA h).set c0 (ad c0, .inl (cA c0, n0, .inl (upd (fun j : Nat => Int32.ofInt (h c0 j)) (Int32.ofInt y).toNatClampNeg (Int32.ofInt z)))) = am_w ad cA (am_up h c0 y z) := by
                rw [am_clamp (show am_R y from ⟨by omega, by omega⟩), ← hu, ← am_en_int (ad := ad) (cA := cA) hlay]
                exact am_w_set (by omega) am_up_off
              refine va_iast hx hb hK wd.1 wd.2.1 wd.2.2 c0 c0 he0 ht0 (am_vpin hi (by omega)) hdg (fun H1 locs1 hP1 hD1 hS1 => ?_)
              rw [hset] at hP1 hD1
              exact goN hnx hw ⟨hP1, hD1, hS1⟩ hl
            · rw [if_neg ht] at hw; exact hw.elim
          · exact hw.elim
        · exact hw.elim
      | bastore =>
        simp only [am_chk, Bool.and_eq_true, decide_eq_true_eq] at hck
        dsimp only [am_step] at hw
        obtain ⟨hdg, rfl, hnx⟩ := hck
        split at hw
        · rename_i z y c0 r
          unfold am_ar at hw
          split at hw
          · rename_i ty' n0 hlay
            by_cases ht : ty' = .boolean
            · subst ht
              rw [if_pos rfl] at hw
              obtain ⟨hi, hw⟩ := hw
              obtain ⟨hc0, hn0⟩ := am_lay_arr hlay
              have he0 := am_w_at ad cA h (show c0 < 87 by omega)
              rw [am_en_bool hlay] at he0
              have ht0 := am_ty_at cA hc0
              rw [am_ety_of hlay] at ht0
              have hu := am_up_f (h := h) (c := c0) (x := z) hi.1
              have hset : (am_w ad cA h).set c0 (ad c0, .inl (cA c0, n0, .inl (upd (fun j : Nat => Int32.ofInt (h c0 j)) (Int32.ofInt y).toNatClampNeg (vp_nar .boolean (Int32.ofInt z))))) = am_w ad cA (am_up h c0 y z) := by
                rw [am_clamp (show am_R y from ⟨by omega, by omega⟩), (am_zb hi.2.2).2.2, ← hu, ← am_en_bool (ad := ad) (cA := cA) hlay]
                exact am_w_set (by omega) am_up_off
              refine va_zast hx hb hK wd.1 wd.2.1 wd.2.2 c0 c0 he0 ht0 (am_vpin ⟨hi.1, hi.2.1⟩ (by omega)) hdg (fun H1 locs1 hP1 hD1 hS1 => ?_)
              rw [hset] at hP1 hD1
              exact goN hnx hw ⟨hP1, hD1, hS1⟩ hl
            · rw [if_neg ht] at hw; exact hw.elim
          · exact hw.elim
        · exact hw.elim
      | lastore =>
        simp only [am_chk, Bool.and_eq_true, decide_eq_true_eq] at hck
        dsimp only [am_step] at hw
        obtain ⟨hdg, rfl, hnx⟩ := hck
        split at hw
        · rename_i z y c0 r
          unfold am_ar at hw
          split at hw
          · rename_i ty' n0 hlay
            by_cases ht : ty' = .long
            · subst ht
              rw [if_pos rfl] at hw
              obtain ⟨hi, hw⟩ := hw
              obtain ⟨hc0, hn0⟩ := am_lay_arr hlay
              have he0 := am_w_at ad cA h (show c0 < 87 by omega)
              rw [am_en_long hlay] at he0
              have ht0 := am_ty_at cA hc0
              rw [am_ety_of hlay] at ht0
              have hu := am_up_l (h := h) (c := c0) (x := z) hi.1
              have hset : (am_w ad cA h).set c0 (ad c0, .inl (cA c0, n0, .inr (.inl (vp_updL (fun j : Nat => Int64.ofInt (h c0 j)) (Int32.ofInt y).toNatClampNeg z)))) = am_w ad cA (am_up h c0 y z.toInt) := by
                rw [am_clamp (show am_R y from ⟨by omega, by omega⟩), ← hu, ← am_en_long (ad := ad) (cA := cA) hlay]
                exact am_w_set (by omega) am_up_off
              refine va_last hx hb hK wd.1 wd.2.1 wd.2.2 c0 c0 he0 ht0 (am_vpin hi (by omega)) hdg (fun H1 locs1 hP1 hD1 hS1 => ?_)
              rw [hset] at hP1 hD1
              exact goN hnx hw ⟨hP1, hD1, hS1⟩ hl
            · rw [if_neg ht] at hw; exact hw.elim
          · exact hw.elim
        · exact hw.elim
      | arraylength =>
        simp only [am_chk, Bool.and_eq_true, decide_eq_true_eq] at hck
        dsimp only [am_step] at hw
        obtain ⟨hdg, rfl, hnx⟩ := hck
        split at hw
        · rename_i c0 r
          unfold am_al0 at hw
          split at hw
          · rename_i ty' n0 hlay
            obtain ⟨hc0, hn0⟩ := am_lay_arr hlay
            have he0 := am_w_at ad cA h (show c0 < 87 by omega)
            have ht0 := am_ty_at cA hc0
            have hen : ∃ f, am_en ad cA h c0 = .inl (cA c0, n0, f) := by
              unfold am_en
              rw [hlay]
              split
              · rename_i heq; cases heq; exact ⟨_, rfl⟩
              · rename_i heq; cases heq; exact ⟨_, rfl⟩
              · rename_i heq; cases heq
            obtain ⟨f, hf⟩ := hen
            rw [hf] at he0
            exact va_alen hx hb hK wd.1 c0 c0 he0 ht0 (am_cast n0).symm hdg (goN hnx hw wd hl)
          · exact hw.elim
        · exact hw.elim
      | ifCond cd x0 =>
        simp only [am_chk, Bool.and_eq_true, decide_eq_true_eq] at hck
        dsimp only [am_step] at hw
        obtain ⟨hdg, ⟨rfl, hnx⟩, hck⟩ := hck
        split at hck
        · rename_i t
          simp only [am_jt, decide_eq_true_eq] at hck
          split at hw
          · obtain ⟨hRx, hw⟩ := hw
            obtain ⟨hwt, hwf⟩ := (show _ ∧ _ from hw)
            cases cd with
            | eq => exact lv_if_eq hx hb hdg hck (fun q => goJ (hwt ((am_eq hRx am_R0).mp (by rw [am_of0]; exact q))) wd hl) (fun q => goN hnx (hwf (fun z => q (by rw [← am_of0]; exact (am_eq hRx am_R0).mpr z))) wd hl)
            | ne => exact lv_if_ne hx hb hdg hck (fun q => goJ (hwt (fun z => q (by rw [← am_of0]; exact (am_eq hRx am_R0).mpr z))) wd hl) (fun q => goN hnx (hwf (fun z => z ((am_eq hRx am_R0).mp (by rw [am_of0]; exact q)))) wd hl)
            | lt => exact lv_if_lt hx hb hdg hck (fun q => goJ (hwt ((am_lt hRx am_R0).mp (by rw [am_of0]; exact q))) wd hl) (fun q => goN hnx (hwf (fun z => q (by rw [← am_of0]; exact (am_lt hRx am_R0).mpr z))) wd hl)
            | ge => exact lv_if_ge hx hb hdg hck (fun q => goJ (hwt ((am_le am_R0 hRx).mp (by rw [am_of0]; exact q))) wd hl) (fun q => goN hnx (hwf (fun z => q (by rw [← am_of0]; exact (am_le am_R0 hRx).mpr z))) wd hl)
            | gt => exact lv_if_gt hx hb hdg hck (fun q => goJ (hwt ((am_lt am_R0 hRx).mp (by rw [am_of0]; exact q))) wd hl) (fun q => goN hnx (hwf (fun z => q (by rw [← am_of0]; exact (am_lt am_R0 hRx).mpr z))) wd hl)
            | le => exact lv_if_le hx hb hdg hck (fun q => goJ (hwt ((am_le hRx am_R0).mp (by rw [am_of0]; exact q))) wd hl) (fun q => goN hnx (hwf (fun z => q (by rw [← am_of0]; exact (am_le hRx am_R0).mpr z))) wd hl)
          · exact hw.elim
        · cases hck
      | if_icmp cd x0 =>
        simp only [am_chk, Bool.and_eq_true, decide_eq_true_eq] at hck
        dsimp only [am_step] at hw
        obtain ⟨hdg, ⟨rfl, hnx⟩, hck⟩ := hck
        split at hck
        · rename_i t
          simp only [am_jt, decide_eq_true_eq] at hck
          split at hw
          · obtain ⟨⟨hRx, hRy⟩, hw⟩ := hw
            obtain ⟨hwt, hwf⟩ := (show _ ∧ _ from hw)
            cases cd with
            | eq => exact lv_icmp_eq hx hb hdg hck (fun q => goJ (hwt ((am_eq hRx hRy).mp q)) wd hl) (fun q => goN hnx (hwf (fun z => q ((am_eq hRx hRy).mpr z))) wd hl)
            | ne => exact lv_icmp_ne hx hb hdg hck (fun q => goJ (hwt (fun z => q ((am_eq hRx hRy).mpr z))) wd hl) (fun q => goN hnx (hwf (fun z => z ((am_eq hRx hRy).mp q))) wd hl)
            | lt => exact lv_icmp_lt hx hb hdg hck (fun q => goJ (hwt ((am_lt hRx hRy).mp q)) wd hl) (fun q => goN hnx (hwf (fun z => q ((am_lt hRx hRy).mpr z))) wd hl)
            | ge => exact lv_icmp_ge hx hb hdg hck (fun q => goJ (hwt ((am_le hRy hRx).mp q)) wd hl) (fun q => goN hnx (hwf (fun z => q ((am_le hRy hRx).mpr z))) wd hl)
            | gt => exact lv_icmp_gt hx hb hdg hck (fun q => goJ (hwt ((am_lt hRy hRx).mp q)) wd hl) (fun q => goN hnx (hwf (fun z => q ((am_lt hRy hRx).mpr z))) wd hl)
            | le => exact lv_icmp_le hx hb hdg hck (fun q => goJ (hwt ((am_le hRx hRy).mp q)) wd hl) (fun q => goN hnx (hwf (fun z => q ((am_le hRx hRy).mpr z))) wd hl)
          · exact hw.elim
        · cases hck
      | ifnonnull x0 =>
        simp only [am_chk, Bool.and_eq_true, decide_eq_true_eq] at hck
        dsimp only [am_step] at hw
        obtain ⟨hdg, ⟨rfl, hnx⟩, hck⟩ := hck
        split at hck
        · rename_i t
          simp only [am_jt, decide_eq_true_eq] at hck
          split at hw
          · exact lv_ifnonnull hx hb hdg hck (goJ hw wd hl)
          · exact lv_ifnonnullN hx hb hdg (goN hnx hw wd hl)
          · exact hw.elim
        · cases hck
      | goto x0 =>
        simp only [am_chk, Bool.and_eq_true, decide_eq_true_eq] at hck
        dsimp only [am_step] at hw
        obtain ⟨hdg, rfl, hck⟩ := hck
        split at hck
        · rename_i t
          simp only [am_jt, decide_eq_true_eq] at hck
          exact lv_goto hx hb hdg hck (goJ hw wd hl)
        · cases hck
      | tableswitch d0 lo hi offs =>
        simp only [am_chk, Bool.and_eq_true, decide_eq_true_eq] at hck
        dsimp only [am_step] at hw
        obtain ⟨hdg, ⟨rfl, rfl⟩, hck⟩ := hck
        split at hck
        · rename_i dt ts
          simp only [Bool.and_eq_true, am_jt, decide_eq_true_eq] at hck
          rcases st with _ | ⟨y | y, r⟩
          · exact (show False from hw).elim
          · obtain ⟨hRx, hw⟩ := (show am_R y ∧ am_sw y lo ts dt _ from hw)
            obtain ⟨g1, g2⟩ := am_sw_spec _ _ hw
            obtain ⟨g3, g4⟩ := am_jts_spec _ _ hck.2
            have hyI := am_toI hRx
            rw [Array.length_toList] at g3
            by_cases hin : y < lo ∨ lo + (offs.size : Int) - 1 < y
            · exact lv_tableOut hx hb hdg (by rw [hyI]; exact hin) hck.1 (goJ (g2 (by omega)) wd hl)
            · have hj : (y - lo).toNat < offs.size := by omega
              obtain ⟨t, ht1, ht2⟩ := g4 (y - lo).toNat (offs[(y - lo).toNat]) (by rw [Array.getElem?_toList]; exact Array.getElem?_eq_getElem hj)
              exact lv_tableIn hx hb hdg (by rw [hyI]; omega) (by rw [hyI]; omega) (by rw [hyI]; exact Array.getElem?_eq_getElem hj) ht2 (goJ (g1 _ t ht1 (by omega)) wd hl)
          · exact (show False from hw).elim
        · cases hck
      | ireturn =>
        simp only [am_chk, Bool.and_eq_true, decide_eq_true_eq] at hck
        dsimp only [am_step] at hw
        obtain ⟨hdg, rfl, hrt⟩ := hck
        split at hw
        · rename_i y
          obtain ⟨hz, hw⟩ := hw
          by_cases ha : a = 1
          · rw [if_pos ha] at hrt
            exact W.zret hx hb (hr.trans hrt) (am_zb (hz ha)).1 (hq (o := some (.inl y)) hw wd) wd.2.2.2.2 hdg hlk
          · rw [if_neg ha] at hrt
            exact W.iret hx hb (hr.trans hrt) (hq (o := some (.inl y)) hw wd) wd.2.2.2.2 hdg hlk
        · exact hw.elim
      | areturn =>
        simp only [am_chk, Bool.and_eq_true, decide_eq_true_eq] at hck
        dsimp only [am_step] at hw
        obtain ⟨hdg, rfl, hrt⟩ := hck
        split at hw
        · rename_i y
          exact W.aret hx hb (hr.trans hrt) (Or.inl ⟨_, rfl⟩) (by cases y with | none => exact Or.inl rfl | some y => exact Or.inr ⟨_, rfl⟩) (hq (o := some (.inr (.inr y))) hw wd) wd.2.2.2.2 hdg hlk
        · exact hw.elim
      | return_ =>
        simp only [am_chk, Bool.and_eq_true, decide_eq_true_eq] at hck
        dsimp only [am_step] at hw
        obtain ⟨hdg, rfl, hrt⟩ := hck
        split at hw
        · exact W.vret hx hb (hr.trans hrt) (hq (o := none) hw wd) wd.2.2.2.2 hdg hlk
        · exact hw.elim
      | invokevirtual x0 =>
        simp only [am_chk, Bool.and_eq_true, decide_eq_true_eq] at hck
        dsimp only [am_step] at hw
        obtain ⟨hdg, ⟨⟨⟨⟨⟨rfl, hnx⟩, hss⟩, hbn⟩, hrmk⟩, hlink⟩⟩ := hck
        split at hw
        · rename_i as r htk
          obtain ⟨hcat, hw⟩ := hw
          obtain ⟨bs, hb1, rfl, hb2⟩ := am_tk_spec _ _ _ _ _ htk
          rw [List.append_nil] at hb1
          have hss' : am_ss a = false := by simpa using hss
          unfold am_rc at hw
          rw [hss'] at hw
          simp only [Bool.false_eq_true, if_false] at hw
          split at hw
          · rename_i c0 tl
            split at hw
            · rename_i ci fks hlay
              by_cases hcc : ci = am_oc a
              · rw [if_pos hcc] at hw
                by_cases hca : am_cat (.inr (.inr (some c0)) :: tl) ≤ am_ml a
                · rw [if_pos hca] at hw
                  have hMj : am_mk a := by
                    cases n with
                    | zero => exact hw.elim
                    | succ n' =>
                      rw [am_wp] at hw
                      cases he' : am_nth (am_code a) 0 with
                      | none => rw [he'] at hw; exact hw.elim
                      | some e' => exact am_mk_of he'
                  have hMet := am_met_of ih ad cA D H.size hMj hca hw
                  obtain ⟨k1, k2, k3, k4, k5, k6, k7, -, -⟩ := hMj
                  rw [hss'] at k3
                  simp only [Bool.false_eq_true, if_false] at k3
                  simp only [am_rmk, Bool.and_eq_true, decide_eq_true_eq] at hrmk
                  have hst : List.map (am_c ad) (bs ++ r) = (tl.map (am_c ad)).reverse ++ .ref (ad c0) :: r.map (am_c ad) := by
                    have : bs = tl.reverse ++ [.inr (.inr (some c0))] := by
                      rw [← List.reverse_reverse bs, ← hb1]; simp
                    rw [this]; simp [am_c]
                  rw [hst]
                  have hcl : ∃ q, am_cl[am_oc a]? = some q ∧ q.1 = (am_y a).cls := by
                    cases hq0 : am_cl[am_oc a]? with
                    | none => rw [hq0] at k3; simp at k3
                    | some q => rw [hq0] at k3; exact ⟨q, rfl, by simpa using k3.2.2⟩
                  obtain ⟨⟨qC, qT, qN⟩, hq1, hq2⟩ := hcl
                  have hci8 := (am_cls hq1).1
                  have he0 := am_w_at ad cA h (am_lay_obj hlay (by rw [hcc]; exact hci8))
                  rw [am_en_obj hlay, hcc] at he0
                  have hlen : tl.length = am_np a := by
                    have : bs.length = (tl.reverse ++ [Sum.inr (Sum.inr (some c0))] : List am_V).length := by
                      rw [← List.length_reverse (as := bs), ← hb1]; simp
                    simp at this
                    omega
                  have hrc := va_recv hK wd.1 hq1 he0
                  rw [hq2] at hrc
                  refine am_callc (h := h) (va_runV (As := tl.map (am_c ad)) (rest := r.map (am_c ad)) (nL := am_ml m) (Ts := am_tb) (own := (am_y m).cls) ⟨hx, hb, hml, hown, hts⟩ hMet
                    ⟨⟨rfl, rfl, Nat.le_trans hrmk.1 hRf, Nat.le_trans hrmk.2 hRl, pay_in hts (fun w hw => am_tb_good (by rcases List.mem_cons.mp hw with rfl | hw; exact k1; exact hw)), List.mem_cons_self, hts _ k1, hts _ k2, ⟨k5, k6⟩, fun sig hsg => by rw [hsg] at k7; exact (Option.some.inj k7).symm, hts _ (am_at_mem hlink)⟩, hts _ k3.1, hts _ k3.2.1⟩
                    ⟨am_Pc_blind, hrc, fun U hU hW => ⟨rfl, by rw [hU], by rw [hU]; exact wd.1, va_K.moved hW.alike hK, am_D_any wd.2.1 (fun _ _ _ => trivial), va_Nw.warmM hW hN⟩⟩
                    rfl (by rw [List.length_map]; exact hlen) hl.1.1 rfl (lv_room (by rw [am_cat_eq]; exact hcat)) hdg ⟨Nat.zero_le _, Nat.zero_le _⟩) wd hA (fun o h' H' locs' hQ wd' => ?_)
                  cases o with
                  | none => exact goN hnx hQ wd' hl
                  | some y => exact goN hnx hQ wd' hl
                · rw [if_neg hca] at hw; exact hw.elim
              · rw [if_neg hcc] at hw; exact hw.elim
            · exact hw.elim
          · exact hw.elim
        · exact hw.elim
      | invokestatic x0 =>
        simp only [am_chk, Bool.and_eq_true, decide_eq_true_eq] at hck
        dsimp only [am_step] at hw
        obtain ⟨hdg, ⟨rfl, hnx⟩, hck⟩ := hck
        by_cases ha9 : a = 999
        · rw [if_pos ha9] at hck hw
          simp only [Bool.and_eq_true, decide_eq_true_eq] at hck
          obtain ⟨⟨hlink, hF1⟩, hL1⟩ := hck
          unfold am_copy at hw
          split at hw
          · rename_i n0 dp d0 sp s0 r
            unfold am_ar at hw
            split at hw
            · rename_i ty1 ns hlay1
              by_cases ht1 : ty1 = .int
              · subst ht1
                rw [if_pos rfl] at hw
                split at hw
                · rename_i ty2 nd hlay2
                  by_cases ht2 : ty2 = .int
                  · subst ht2
                    rw [if_pos rfl] at hw
                    obtain ⟨⟨i1, i2, i3, i4, i5⟩, hcat, hw⟩ := hw
                    obtain ⟨hs0, hns⟩ := am_lay_arr hlay1
                    obtain ⟨hd0, hnd⟩ := am_lay_arr hlay2
                    have he1 := am_w_at ad cA h (show s0 < 87 by omega)
                    rw [am_en_int hlay1] at he1
                    have he2 := am_w_at ad cA h (show d0 < 87 by omega)
                    rw [am_en_int hlay2] at he2
                    have t1 := am_ty_at cA hs0
                    rw [am_ety_of hlay1] at t1
                    have t2 := am_ty_at cA hd0
                    rw [am_ety_of hlay2] at t2
                    have R1 : am_R sp := ⟨by omega, by omega⟩
                    have R2 : am_R dp := ⟨by omega, by omega⟩
                    have R3 : am_R n0 := ⟨by omega, by omega⟩
                    have neg : ∀ {x : Int}, am_R x → 0 ≤ x → ¬ Int32.ofInt x < 0 := fun hR h0 q => by rw [← am_of0, am_lt hR am_R0] at q; omega
                    have hset : (am_w ad cA h).set d0 (ad d0, .inl (cA d0, nd, .inl (va_cpy (fun j : Nat => Int32.ofInt (h s0 j)) (fun j : Nat => Int32.ofInt (h d0 j)) (Int32.ofInt sp).toNatClampNeg (Int32.ofInt dp).toNatClampNeg (Int32.ofInt n0).toNatClampNeg))) = am_w ad cA (am_cp h s0 sp d0 dp n0) := by
                      have hf : (fun j : Nat => Int32.ofInt (am_cp h s0 sp d0 dp n0 d0 j)) = va_cpy (fun j : Nat => Int32.ofInt (h s0 j)) (fun j : Nat => Int32.ofInt (h d0 j)) (Int32.ofInt sp).toNatClampNeg (Int32.ofInt dp).toNatClampNeg (Int32.ofInt n0).toNatClampNeg := by
                        funext j
                        rw [am_clamp R1, am_clamp R2, am_clamp R3]
                        unfold am_cp va_cpy
                        by_cases hj : dp ≤ j ∧ (j : Int) < dp + n0
                        · rw [if_pos ⟨rfl, hj⟩, if_pos ⟨by omega, by omega⟩]
                          congr 2
                          omega
                        · rw [if_neg (fun q => hj q.2), if_neg (fun q => hj ⟨by omega, by omega⟩)]
                      rw [← hf, ← am_en_int (ad := ad) (cA := cA) hlay2]
                      exact am_w_set (by omega) (fun c' hc' i' => if_neg (fun q => hc' q.1))
                    refine va_copyi hx hb (hml.trans hl.1.1.symm) hown (hts _ (am_at_mem hlink)) (hts _ am_copyW.1) (hts _ am_copyW.2.1) (hts _ am_copyW.2.2) hK wd.1 wd.2.1 wd.2.2 s0 d0 s0 d0 he1 he2 t1 t2 rfl (neg R1 i1) (neg R2 i2) (neg R3 i3)
                      (by rw [am_clamp R1, am_clamp R3]; omega) (by rw [am_clamp R2, am_clamp R3]; omega) (fun _ _ => rfl) (Nat.le_trans hF1 hRf) (by rw [am_cat_eq]; show am_cat r + (7 + 11) ≤ _; omega) hdg (fun H1 locs1 hP1 hD1 hS1 => ?_)
                    rw [hset] at hP1 hD1
                    exact goN hnx hw ⟨hP1, hD1, hS1⟩ hl
                  · rw [if_neg ht2] at hw; exact hw.elim
                · exact hw.elim
              · rw [if_neg ht1] at hw; exact hw.elim
            · exact hw.elim
          · exact hw.elim
        · rw [if_neg ha9] at hck hw
          simp only [Bool.and_eq_true, decide_eq_true_eq] at hck
          obtain ⟨⟨⟨hss, hbn⟩, hrmk⟩, hlink⟩ := hck
          split at hw
          · rename_i as r htk
            obtain ⟨hcat, hw⟩ := hw
            obtain ⟨bs, hb1, rfl, hb2⟩ := am_tk_spec _ _ _ _ _ htk
            rw [List.append_nil] at hb1
            unfold am_rc at hw
            rw [if_pos hss] at hw
            by_cases hca : am_cat as ≤ am_ml a
            · rw [if_pos hca] at hw
              have hMj : am_mk a := by
                cases n with
                | zero => exact hw.elim
                | succ n' =>
                  rw [am_wp] at hw
                  cases he' : am_nth (am_code a) 0 with
                  | none => rw [he'] at hw; exact hw.elim
                  | some e' => exact am_mk_of he'
              have hMet := am_met_of ih ad cA D H.size hMj hca hw
              obtain ⟨k1, k2, k3, k4, k5, k6, k7, -, -⟩ := hMj
              rw [if_pos hss] at k3
              simp only [am_rmk, Bool.and_eq_true, decide_eq_true_eq] at hrmk
              have hst : List.map (am_c ad) (bs ++ r) = (as.map (am_c ad)).reverse ++ r.map (am_c ad) := by
                rw [hb1]; simp
              rw [hst]
              have hlen : as.length = am_np a := by rw [hb1, List.length_reverse, hb2, hbn]
              by_cases hv : v = 1
              · rw [if_pos hv] at hlink
                simp only [Bool.and_eq_true, decide_eq_true_eq] at hlink
                obtain ⟨⟨l1, l2⟩, l3⟩ := hlink
                refine am_callc (h := h) (va_runSN (host := RX6) (As := as.map (am_c ad)) (rest := r.map (am_c ad)) (nL := am_ml m) (Ts := am_tb) (own := (am_y m).cls) ⟨hx, hb, hml, hown, hts⟩ hMet
                  ⟨⟨⟨rfl, rfl, Nat.le_trans hrmk.1 hRf, Nat.le_trans hrmk.2 hRl, pay_in hts (fun w hw => am_tb_good (by rcases List.mem_cons.mp hw with rfl | hw; exact k1; exact hw)), List.mem_cons_self⟩, hts _ k1, hts _ k2, ⟨k5, k6⟩, fun sig hsg => by rw [hsg] at k7; exact (Option.some.inj k7).symm, by rw [l1, l2, l3]; exact va_Nw.use rfl hN⟩, hts _ k3, trivial⟩
                  ⟨am_Pc_blind, fun U hU hW => ⟨rfl, by rw [hU], by rw [hU]; exact wd.1, va_K.moved hW.alike hK, am_D_any wd.2.1 (fun _ _ _ => trivial), va_Nw.warmM hW hN⟩⟩
                  rfl (by rw [List.length_map]; exact hlen) hl.1.1 rfl (lv_room (by rw [am_cat_eq]; exact hcat)) hdg ⟨Nat.zero_le _, Nat.zero_le _⟩) wd hA (fun o h' H' locs' hQ wd' => ?_)
                cases o with
                | none => exact goN hnx hQ wd' hl
                | some y => exact goN hnx hQ wd' hl
              · rw [if_neg hv] at hlink
                refine am_callc (h := h) (va_runS (As := as.map (am_c ad)) (rest := r.map (am_c ad)) (nL := am_ml m) (Ts := am_tb) (own := (am_y m).cls) ⟨hx, hb, hml, hown, hts⟩ hMet
                  ⟨⟨rfl, rfl, Nat.le_trans hrmk.1 hRf, Nat.le_trans hrmk.2 hRl, pay_in hts (fun w hw => am_tb_good (by rcases List.mem_cons.mp hw with rfl | hw; exact k1; exact hw)), List.mem_cons_self, hts _ k1, hts _ k2, ⟨k5, k6⟩, fun sig hsg => by rw [hsg] at k7; exact (Option.some.inj k7).symm, hts _ (am_at_mem hlink)⟩, hts _ k3⟩
                  ⟨am_Pc_blind, fun U hU hW => ⟨rfl, by rw [hU], by rw [hU]; exact wd.1, va_K.moved hW.alike hK, am_D_any wd.2.1 (fun _ _ _ => trivial), va_Nw.warmM hW hN⟩⟩
                  rfl (by rw [List.length_map]; exact hlen) hl.1.1 rfl (lv_room (by rw [am_cat_eq]; exact hcat)) hdg ⟨Nat.zero_le _, Nat.zero_le _⟩) wd hA (fun o h' H' locs' hQ wd' => ?_)
                cases o with
                | none => exact goN hnx hQ wd' hl
                | some y => exact goN hnx hQ wd' hl
            · rw [if_neg hca] at hw; exact hw.elim
          · exact hw.elim
      | _ => exact (show False from hw).elim
end
section
/-! one continuation is taken: so the machine is monotone, and its end is one -/
def am_pu (o : Option am_V) (r : am_S) : am_S := match o with
  | some x => x :: r
  | none => r
theorem am_pu_eq (N : am_L → am_S → am_H → Prop) (ls : am_L) (r : am_S) : (fun (o : Option am_V) (h' : am_H) => match o with
      | some x => N ls (x :: r) h'
      | none => N ls r h') = fun o h' => N ls (am_pu o r) h' := by
  funext o h'
  cases o <;> rfl
def am_NF (e : am_E) (ls : am_L) (st : am_S) (h : am_H) (N : am_L → am_S → am_H → Prop) (J : Nat → am_L → am_S → am_H → Prop) (R : am_P) (X : Nat → List am_V → am_H → am_P → Prop) : Prop :=
  (∃ ls' st' h', N ls' st' h' ∧ ∀ N' J' R' X', N' ls' st' h' → am_step e ls st h N' J' R' X') ∨
  (∃ t ls' st' h', J t ls' st' h' ∧ ∀ N' J' R' X', J' t ls' st' h' → am_step e ls st h N' J' R' X') ∨
  (∃ o h', R o h' ∧ ∀ N' J' R' X', R' o h' → am_step e ls st h N' J' R' X') ∨
  (∃ j args r, X j args h (fun o h' => N ls (am_pu o r) h') ∧ ∀ N' J' R' (X' : Nat → List am_V → am_H → am_P → Prop), X' j args h (fun o h' => N' ls (am_pu o r) h') → am_step e ls st h N' J' R' X')
theorem am_sw_one {x : Int} {d : Nat} {K : Nat → Prop} : ∀ (ts : List Nat) (lo : Int), am_sw x lo ts d K → ∃ t, K t ∧ ∀ K' : Nat → Prop, K' t → am_sw x lo ts d K'
  | [], lo, h => ⟨d, h, fun _ q => q⟩
  | t0 :: r, lo, h => by
    by_cases hx : x = lo
    · exact ⟨t0, h.1 hx, fun K' q => ⟨fun _ => q, fun z => absurd hx z⟩⟩
    · obtain ⟨t, h1, h2⟩ := am_sw_one r (lo + 1) (h.2 hx)
      exact ⟨t, h1, fun K' q => ⟨fun z => absurd z hx, fun _ => h2 K' q⟩⟩
set_option maxHeartbeats 2000000 in
theorem am_nf {e : am_E} {ls : am_L} {st : am_S} {h : am_H} {N : am_L → am_S → am_H → Prop} {J : Nat → am_L → am_S → am_H → Prop} {R : am_P} {X : Nat → List am_V → am_H → am_P → Prop} (H : am_step e ls st h N J R X) : am_NF e ls st h N J R X := by
  obtain ⟨pc, len, i, a, b, v, w, js⟩ := e
  cases i with
  | iconst x0 =>
    exact Or.inl ⟨_, _, _, H, fun _ _ _ _ q => q⟩
  | bipush x0 =>
    exact Or.inl ⟨_, _, _, H, fun _ _ _ _ q => q⟩
  | sipush x0 =>
    exact Or.inl ⟨_, _, _, H, fun _ _ _ _ q => q⟩
  | ldc x0 =>
    exact Or.inl ⟨_, _, _, H, fun _ _ _ _ q => q⟩
  | ldc_w x0 =>
    exact Or.inl ⟨_, _, _, H, fun _ _ _ _ q => q⟩
  | lconst x0 =>
    exact Or.inl ⟨_, _, _, H, fun _ _ _ _ q => q⟩
  | ldc2_w x0 =>
    exact Or.inl ⟨_, _, _, H, fun _ _ _ _ q => q⟩
  | aconst_null =>
    exact Or.inl ⟨_, _, _, H, fun _ _ _ _ q => q⟩
  | iload_n x0 =>
    dsimp only [am_step] at H
    unfold am_ldI at H
    split at H
    · rename_i y hy
      exact Or.inl ⟨_, _, _, H, fun _ _ _ _ q => by dsimp only [am_step]; unfold am_ldI; rw [hy]; exact q⟩
    · exact H.elim
  | iload x0 =>
    dsimp only [am_step] at H
    unfold am_ldI at H
    split at H
    · rename_i y hy
      exact Or.inl ⟨_, _, _, H, fun _ _ _ _ q => by dsimp only [am_step]; unfold am_ldI; rw [hy]; exact q⟩
    · exact H.elim
  | lload_n x0 =>
    dsimp only [am_step] at H
    unfold am_ldL at H
    split at H
    · rename_i y hy
      exact Or.inl ⟨_, _, _, H, fun _ _ _ _ q => by dsimp only [am_step]; unfold am_ldL; rw [hy]; exact q⟩
    · exact H.elim
  | lload x0 =>
    dsimp only [am_step] at H
    unfold am_ldL at H
    split at H
    · rename_i y hy
      exact Or.inl ⟨_, _, _, H, fun _ _ _ _ q => by dsimp only [am_step]; unfold am_ldL; rw [hy]; exact q⟩
    · exact H.elim
  | aload_n x0 =>
    dsimp only [am_step] at H
    unfold am_ldA at H
    split at H
    · rename_i y hy
      exact Or.inl ⟨_, _, _, H, fun _ _ _ _ q => by dsimp only [am_step]; unfold am_ldA; rw [hy]; exact q⟩
    · exact H.elim
  | aload x0 =>
    dsimp only [am_step] at H
    unfold am_ldA at H
    split at H
    · rename_i y hy
      exact Or.inl ⟨_, _, _, H, fun _ _ _ _ q => by dsimp only [am_step]; unfold am_ldA; rw [hy]; exact q⟩
    · exact H.elim
  | istore_n x0 =>
    dsimp only [am_step] at H
    split at H
    · unfold am_sto at H
      split at H
      · rename_i ls' hy
        exact Or.inl ⟨_, _, _, H, fun _ _ _ _ q => by dsimp only [am_step]; unfold am_sto; rw [hy]; exact q⟩
      · exact H.elim
    · exact H.elim
  | istore x0 =>
    dsimp only [am_step] at H
    split at H
    · unfold am_sto at H
      split at H
      · rename_i ls' hy
        exact Or.inl ⟨_, _, _, H, fun _ _ _ _ q => by dsimp only [am_step]; unfold am_sto; rw [hy]; exact q⟩
      · exact H.elim
    · exact H.elim
  | astore_n x0 =>
    dsimp only [am_step] at H
    split at H
    · unfold am_sto at H
      split at H
      · rename_i ls' hy
        exact Or.inl ⟨_, _, _, H, fun _ _ _ _ q => by dsimp only [am_step]; unfold am_sto; rw [hy]; exact q⟩
      · exact H.elim
    · exact H.elim
  | iinc x0 n0 =>
    dsimp only [am_step] at H
    unfold am_ldI at H
    split at H
    · rename_i y hy0
      unfold am_sto at H
      split at H
      · rename_i ls' hy
        exact Or.inl ⟨_, _, _, H, fun _ _ _ _ q => by dsimp only [am_step]; unfold am_ldI; rw [hy0]; dsimp only; unfold am_sto; rw [hy]; exact q⟩
      · exact H.elim
    · exact H.elim
  | iadd =>
    dsimp only [am_step] at H
    split at H
    · exact Or.inl ⟨_, _, _, H, fun _ _ _ _ q => q⟩
    · exact H.elim
  | isub =>
    dsimp only [am_step] at H
    split at H
    · exact Or.inl ⟨_, _, _, H, fun _ _ _ _ q => q⟩
    · exact H.elim
  | imul =>
    dsimp only [am_step] at H
    split at H
    · exact Or.inl ⟨_, _, _, H, fun _ _ _ _ q => q⟩
    · exact H.elim
  | ineg =>
    dsimp only [am_step] at H
    split at H
    · exact Or.inl ⟨_, _, _, H, fun _ _ _ _ q => q⟩
    · exact H.elim
  | iand =>
    dsimp only [am_step] at H
    split at H
    · exact Or.inl ⟨_, _, _, H, fun _ _ _ _ q => q⟩
    · exact H.elim
  | ior =>
    dsimp only [am_step] at H
    split at H
    · exact Or.inl ⟨_, _, _, H, fun _ _ _ _ q => q⟩
    · exact H.elim
  | ixor =>
    dsimp only [am_step] at H
    split at H
    · exact Or.inl ⟨_, _, _, H, fun _ _ _ _ q => q⟩
    · exact H.elim
  | ishl =>
    dsimp only [am_step] at H
    split at H
    · exact Or.inl ⟨_, _, _, H, fun _ _ _ _ q => q⟩
    · exact H.elim
  | ishr =>
    dsimp only [am_step] at H
    split at H
    · exact Or.inl ⟨_, _, _, H, fun _ _ _ _ q => q⟩
    · exact H.elim
  | iushr =>
    dsimp only [am_step] at H
    split at H
    · exact Or.inl ⟨_, _, _, H, fun _ _ _ _ q => q⟩
    · exact H.elim
  | i2l =>
    dsimp only [am_step] at H
    split at H
    · exact Or.inl ⟨_, _, _, H, fun _ _ _ _ q => q⟩
    · exact H.elim
  | l2i =>
    dsimp only [am_step] at H
    split at H
    · exact Or.inl ⟨_, _, _, H, fun _ _ _ _ q => q⟩
    · exact H.elim
  | lcmp =>
    dsimp only [am_step] at H
    split at H
    · exact Or.inl ⟨_, _, _, H, fun _ _ _ _ q => q⟩
    · exact H.elim
  | land =>
    dsimp only [am_step] at H
    split at H
    · exact Or.inl ⟨_, _, _, H, fun _ _ _ _ q => q⟩
    · exact H.elim
  | lor =>
    dsimp only [am_step] at H
    split at H
    · exact Or.inl ⟨_, _, _, H, fun _ _ _ _ q => q⟩
    · exact H.elim
  | lxor =>
    dsimp only [am_step] at H
    split at H
    · exact Or.inl ⟨_, _, _, H, fun _ _ _ _ q => q⟩
    · exact H.elim
  | lshl =>
    dsimp only [am_step] at H
    split at H
    · exact Or.inl ⟨_, _, _, H, fun _ _ _ _ q => q⟩
    · exact H.elim
  | lshr =>
    dsimp only [am_step] at H
    split at H
    · exact Or.inl ⟨_, _, _, H, fun _ _ _ _ q => q⟩
    · exact H.elim
  | lushr =>
    dsimp only [am_step] at H
    split at H
    · exact Or.inl ⟨_, _, _, H, fun _ _ _ _ q => q⟩
    · exact H.elim
  | dup2 =>
    dsimp only [am_step] at H
    split at H
    · exact Or.inl ⟨_, _, _, H, fun _ _ _ _ q => q⟩
    · exact H.elim
  | dup =>
    dsimp only [am_step] at H
    split at H
    · exact Or.inl ⟨_, _, _, H, fun _ _ _ _ q => q⟩
    · exact Or.inl ⟨_, _, _, H, fun _ _ _ _ q => q⟩
    · exact H.elim
  | idiv =>
    dsimp only [am_step] at H
    split at H
    · exact Or.inl ⟨_, _, _, H.2, fun _ _ _ _ q => ⟨H.1, q⟩⟩
    · exact H.elim
  | irem =>
    dsimp only [am_step] at H
    split at H
    · exact Or.inl ⟨_, _, _, H.2, fun _ _ _ _ q => ⟨H.1, q⟩⟩
    · exact H.elim
  | getfield x0 =>
    dsimp only [am_step] at H
    split at H
    · unfold am_gf at H
      split at H
      · rename_i ci fks hlay
        by_cases hcc : ci = a
        · rw [if_pos hcc] at H
          split at H
          · rename_i hf
            exact Or.inl ⟨_, _, _, H, fun _ _ _ _ q => by dsimp only [am_step]; unfold am_gf; rw [hlay]; dsimp only; rw [if_pos hcc, hf]; exact q⟩
          · rename_i t hf
            exact Or.inl ⟨_, _, _, H, fun _ _ _ _ q => by dsimp only [am_step]; unfold am_gf; rw [hlay]; dsimp only; rw [if_pos hcc, hf]; exact q⟩
          · exact H.elim
        · rw [if_neg hcc] at H; exact H.elim
      · exact H.elim
    · exact H.elim
  | putfield x0 =>
    dsimp only [am_step] at H
    split at H
    · unfold am_pf at H
      split at H
      · rename_i ci fks hlay
        by_cases hcc : ci = a
        · rw [if_pos hcc] at H
          split at H
          · rename_i hf
            exact Or.inl ⟨_, _, _, H.2, fun _ _ _ _ q => by dsimp only [am_step]; unfold am_pf; rw [hlay]; dsimp only; rw [if_pos hcc, hf]; exact ⟨H.1, q⟩⟩
          · exact H.elim
        · rw [if_neg hcc] at H; exact H.elim
      · exact H.elim
    · exact H.elim
  | iaload =>
    dsimp only [am_step] at H
    split at H
    · unfold am_ar at H
      split at H
      · rename_i ty' n0 hlay
        by_cases ht : ty' = .int
        · rw [if_pos ht] at H
          exact Or.inl ⟨_, _, _, H.2, fun _ _ _ _ q => by dsimp only [am_step]; unfold am_ar; rw [hlay]; dsimp only; rw [if_pos ht]; exact ⟨H.1, q⟩⟩
        · rw [if_neg ht] at H; exact H.elim
      · exact H.elim
    · exact H.elim
  | baload =>
    dsimp only [am_step] at H
    split at H
    · unfold am_ar at H
      split at H
      · rename_i ty' n0 hlay
        by_cases ht : ty' = .boolean
        · rw [if_pos ht] at H
          exact Or.inl ⟨_, _, _, H.2, fun _ _ _ _ q => by dsimp only [am_step]; unfold am_ar; rw [hlay]; dsimp only; rw [if_pos ht]; exact ⟨H.1, q⟩⟩
        · rw [if_neg ht] at H; exact H.elim
      · exact H.elim
    · exact H.elim
  | laload =>
    dsimp only [am_step] at H
    split at H
    · unfold am_ar at H
      split at H
      · rename_i ty' n0 hlay
        by_cases ht : ty' = .long
        · rw [if_pos ht] at H
          exact Or.inl ⟨_, _, _, H.2, fun _ _ _ _ q => by dsimp only [am_step]; unfold am_ar; rw [hlay]; dsimp only; rw [if_pos ht]; exact ⟨H.1, q⟩⟩
        · rw [if_neg ht] at H; exact H.elim
      · exact H.elim
    · exact H.elim
  | iastore =>
    dsimp only [am_step] at H
    split at H
    · unfold am_ar at H
      split at H
      · rename_i ty' n0 hlay
        by_cases ht : ty' = .int
        · rw [if_pos ht] at H
          exact Or.inl ⟨_, _, _, H.2, fun _ _ _ _ q => by dsimp only [am_step]; unfold am_ar; rw [hlay]; dsimp only; rw [if_pos ht]; exact ⟨H.1, q⟩⟩
        · rw [if_neg ht] at H; exact H.elim
      · exact H.elim
    · exact H.elim
  | bastore =>
    dsimp only [am_step] at H
    split at H
    · unfold am_ar at H
      split at H
      · rename_i ty' n0 hlay
        by_cases ht : ty' = .boolean
        · rw [if_pos ht] at H
          exact Or.inl ⟨_, _, _, H.2, fun _ _ _ _ q => by dsimp only [am_step]; unfold am_ar; rw [hlay]; dsimp only; rw [if_pos ht]; exact ⟨H.1, q⟩⟩
        · rw [if_neg ht] at H; exact H.elim
      · exact H.elim
    · exact H.elim
  | lastore =>
    dsimp only [am_step] at H
    split at H
    · unfold am_ar at H
      split at H
      · rename_i ty' n0 hlay
        by_cases ht : ty' = .long
        · rw [if_pos ht] at H
          exact Or.inl ⟨_, _, _, H.2, fun _ _ _ _ q => by dsimp only [am_step]; unfold am_ar; rw [hlay]; dsimp only; rw [if_pos ht]; exact ⟨H.1, q⟩⟩
        · rw [if_neg ht] at H; exact H.elim
      · exact H.elim
    · exact H.elim
  | arraylength =>
    dsimp only [am_step] at H
    split at H
    · unfold am_al0 at H
      split at H
      · rename_i ty' n0 hlay
        exact Or.inl ⟨_, _, _, H, fun _ _ _ _ q => by dsimp only [am_step]; unfold am_al0; rw [hlay]; exact q⟩
      · exact H.elim
    · exact H.elim
  | ifCond cd x0 =>
    dsimp only [am_step] at H
    split at H
    · rename_i x r
      obtain ⟨hR, H⟩ := H
      unfold am_br at H
      split at H
      · rename_i t
        by_cases hc : am_cmp cd x 0
        · exact Or.inr (Or.inl ⟨_, _, _, _, H.1 hc, fun _ _ _ _ q => ⟨hR, fun _ => q, fun z => absurd hc z⟩⟩)
        · exact Or.inl ⟨_, _, _, H.2 hc, fun _ _ _ _ q => ⟨hR, fun z => absurd z hc, fun _ => q⟩⟩
      · exact H.elim
    · exact H.elim
  | if_icmp cd x0 =>
    dsimp only [am_step] at H
    split at H
    · rename_i y x r
      obtain ⟨hR, H⟩ := H
      unfold am_br at H
      split at H
      · rename_i t
        by_cases hc : am_cmp cd x y
        · exact Or.inr (Or.inl ⟨_, _, _, _, H.1 hc, fun _ _ _ _ q => ⟨hR, fun _ => q, fun z => absurd hc z⟩⟩)
        · exact Or.inl ⟨_, _, _, H.2 hc, fun _ _ _ _ q => ⟨hR, fun z => absurd z hc, fun _ => q⟩⟩
      · exact H.elim
    · exact H.elim
  | ifnonnull x0 =>
    dsimp only [am_step] at H
    split at H
    · unfold am_br at H
      split at H
      · exact Or.inr (Or.inl ⟨_, _, _, _, H, fun _ _ _ _ q => q⟩)
      · exact H.elim
    · exact Or.inl ⟨_, _, _, H, fun _ _ _ _ q => q⟩
    · exact H.elim
  | goto x0 =>
    dsimp only [am_step] at H
    unfold am_br at H
    split at H
    · exact Or.inr (Or.inl ⟨_, _, _, _, H, fun _ _ _ _ q => q⟩)
    · exact H.elim
  | tableswitch d0 lo hi offs =>
    rcases st with _ | ⟨y | y, r⟩
    · exact (show False from H).elim
    · rcases js with _ | ⟨dt, ts⟩
      · exact (show False from H).elim
      · obtain ⟨hR, H⟩ := (show am_R y ∧ am_sw y v ts dt _ from H)
        obtain ⟨t, h1, h2⟩ := am_sw_one _ _ H
        exact Or.inr (Or.inl ⟨_, _, _, _, h1, fun N' J' R' X' q => ⟨hR, h2 (fun t => J' t ls r h) q⟩⟩)
    · exact (show False from H).elim
  | ireturn =>
    dsimp only [am_step] at H
    split at H
    · exact Or.inr (Or.inr (Or.inl ⟨_, _, H.2, fun _ _ _ _ q => ⟨H.1, q⟩⟩))
    · exact H.elim
  | areturn =>
    dsimp only [am_step] at H
    split at H
    · exact Or.inr (Or.inr (Or.inl ⟨_, _, H, fun _ _ _ _ q => q⟩))
    · exact H.elim
  | return_ =>
    dsimp only [am_step] at H
    split at H
    · exact Or.inr (Or.inr (Or.inl ⟨_, _, H, fun _ _ _ _ q => q⟩))
    · exact H.elim
  | invokevirtual x0 =>
    dsimp only [am_step] at H
    split at H
    · rename_i as r htk
      refine Or.inr (Or.inr (Or.inr ⟨a, as, r, ?_, fun N' J' R' X' q => ?_⟩))
      · rw [← am_pu_eq]; exact H.2
      · dsimp only [am_step]
        rw [htk]
        rw [← am_pu_eq] at q
        exact ⟨H.1, q⟩
    · exact H.elim
  | invokestatic x0 =>
    dsimp only [am_step] at H
    by_cases ha9 : a = 999
    · rw [if_pos ha9] at H
      unfold am_copy at H
      split at H
      · rename_i n0 dp d0 sp s0 r
        unfold am_ar at H
        split at H
        · rename_i ty1 ns hlay1
          by_cases ht1 : ty1 = .int
          · rw [if_pos ht1] at H
            split at H
            · rename_i ty2 nd hlay2
              by_cases ht2 : ty2 = .int
              · rw [if_pos ht2] at H
                exact Or.inl ⟨_, _, _, H.2.2, fun _ _ _ _ q => by dsimp only [am_step]; rw [if_pos ha9]; unfold am_copy; dsimp only; unfold am_ar; rw [hlay1]; dsimp only; rw [if_pos ht1, hlay2]; dsimp only; rw [if_pos ht2]; exact ⟨H.1, H.2.1, q⟩⟩
              · rw [if_neg ht2] at H; exact H.elim
            · exact H.elim
          · rw [if_neg ht1] at H; exact H.elim
        · exact H.elim
      · exact H.elim
    · rw [if_neg ha9] at H
      split at H
      · rename_i as r htk
        refine Or.inr (Or.inr (Or.inr ⟨a, as, r, ?_, fun N' J' R' X' q => ?_⟩))
        · rw [← am_pu_eq]; exact H.2
        · dsimp only [am_step]
          rw [if_neg ha9, htk]
          rw [← am_pu_eq] at q
          exact ⟨H.1, q⟩
      · exact H.elim
  | _ => exact (show False from H).elim
theorem am_rc_iff {s : Bool} {c : Nat} {as : List am_V} {P : Prop} : am_rc s c as P ↔ am_rc s c as True ∧ P := by
  unfold am_rc
  cases s with
  | true => simp
  | false =>
    simp only [Bool.false_eq_true, if_false]
    split
    · split
      · split <;> simp
      · simp
    · simp
theorem am_wp_det : ∀ (n m k : Nat) (ls : am_L) (st : am_S) (h : am_H) (Q : am_P), am_wp n m k ls st h Q → ∃ o h', Q o h' ∧ ∀ Q' : am_P, Q' o h' → ∀ n', n ≤ n' → am_wp n' m k ls st h Q' := by
  intro n
  induction n with
  | zero => intro m k ls st h Q H; exact H.elim
  | succ n ih =>
    intro m k ls st h Q H
    rw [am_wp] at H
    cases he : am_nth (am_code m) k with
    | none => rw [he] at H; exact H.elim
    | some e =>
      rw [he] at H
      have fin : ∀ {n' : Nat} {Q' : am_P}, am_step e ls st h (fun ls st h => am_wp n' m (k + 1) ls st h Q') (fun t ls st h => am_wp n' m t ls st h Q') Q' (fun j args h Q'' => am_rc (am_ss j) (am_oc j) args (if am_cat args ≤ am_ml j then am_wp n' j 0 (am_pad (am_ml j) args) [] h Q'' else False)) → am_wp (n' + 1) m k ls st h Q' := by
        intro n' Q' q
        rw [am_wp, he]
        exact q
      rcases am_nf H with ⟨ls', st', h', h1, h2⟩ | ⟨t, ls', st', h', h1, h2⟩ | ⟨o, h', h1, h2⟩ | ⟨j, as, r, h1, h2⟩
      · obtain ⟨o, h2', g1, g2⟩ := ih _ _ _ _ _ _ h1
        refine ⟨o, h2', g1, fun Q' q n' hn => ?_⟩
        obtain ⟨n'', rfl⟩ : ∃ n'', n' = n'' + 1 := ⟨n' - 1, by omega⟩
        exact fin (h2 _ _ _ _ (g2 Q' q n'' (by omega)))
      · obtain ⟨o, h2', g1, g2⟩ := ih _ _ _ _ _ _ h1
        refine ⟨o, h2', g1, fun Q' q n' hn => ?_⟩
        obtain ⟨n'', rfl⟩ : ∃ n'', n' = n'' + 1 := ⟨n' - 1, by omega⟩
        exact fin (h2 _ _ _ _ (g2 Q' q n'' (by omega)))
      · refine ⟨o, h', h1, fun Q' q n' hn => ?_⟩
        obtain ⟨n'', rfl⟩ : ∃ n'', n' = n'' + 1 := ⟨n' - 1, by omega⟩
        exact fin (h2 _ _ _ _ q)
      · obtain ⟨c1, c2⟩ := am_rc_iff.mp h1
        by_cases hc : am_cat as ≤ am_ml j
        · rw [if_pos hc] at c2
          obtain ⟨o1, h1', g1, g2⟩ := ih _ _ _ _ _ _ c2
          obtain ⟨o, h2', g3, g4⟩ := ih _ _ _ _ _ _ g1
          refine ⟨o, h2', g3, fun Q' q n' hn => ?_⟩
          obtain ⟨n'', rfl⟩ : ∃ n'', n' = n'' + 1 := ⟨n' - 1, by omega⟩
          refine fin (h2 _ _ _ _ (am_rc_iff.mpr ⟨c1, ?_⟩))
          rw [if_pos hc]
          exact g2 _ (g4 Q' q n'' (by omega)) n'' (by omega)
        · rw [if_neg hc] at c2; exact c2.elim
def am_Ex (m k : Nat) (ls : am_L) (st : am_S) (h : am_H) (Q : am_P) : Prop := ∃ n, am_wp n m k ls st h Q
def am_Call (j : Nat) (as : List am_V) (h : am_H) (Q : am_P) : Prop := ∃ n, am_rc (am_ss j) (am_oc j) as (if am_cat as ≤ am_ml j then am_wp n j 0 (am_pad (am_ml j) as) [] h Q else False)
theorem am_Call_mono {j : Nat} {as : List am_V} {h : am_H} {Q Q' : am_P} (H : am_Call j as h Q) (hq : ∀ o h', Q o h' → Q' o h') : am_Call j as h Q' := by
  obtain ⟨n, H⟩ := H
  obtain ⟨c1, c2⟩ := am_rc_iff.mp H
  by_cases hc : am_cat as ≤ am_ml j
  · rw [if_pos hc] at c2
    obtain ⟨o, h', g1, g2⟩ := am_wp_det _ _ _ _ _ _ _ c2
    exact ⟨n, am_rc_iff.mpr ⟨c1, by rw [if_pos hc]; exact g2 Q' (hq _ _ g1) n (Nat.le_refl _)⟩⟩
  · rw [if_neg hc] at c2; exact c2.elim
theorem am_Ex_mono {m k : Nat} {ls : am_L} {st : am_S} {h : am_H} {Q Q' : am_P} (H : am_Ex m k ls st h Q) (hq : ∀ o h', Q o h' → Q' o h') : am_Ex m k ls st h Q' := by
  obtain ⟨n, H⟩ := H
  obtain ⟨o, h', g1, g2⟩ := am_wp_det _ _ _ _ _ _ _ H
  exact ⟨n, g2 Q' (hq _ _ g1) n (Nat.le_refl _)⟩
/-- a run of entries: jumps and calls, and what comes behind it, are left to the reader -/
def am_bk (m : Nat) (Q : am_P) (kend : Nat) : List am_E → am_L → am_S → am_H → Prop
  | [], ls, st, h => am_Ex m kend ls st h Q
  | e :: r, ls, st, h => am_step e ls st h (fun ls st h => am_bk m Q kend r ls st h) (fun t ls st h => am_Ex m t ls st h Q) Q am_Call
theorem am_bk_ok' {m : Nat} {Q : am_P} {kend : Nat} : ∀ (r : List am_E) (k : Nat) (ls : am_L) (st : am_S) (h : am_H), ((am_code m).drop k).take r.length = r → kend = k + r.length → am_bk m Q kend r ls st h → am_Ex m k ls st h Q
  | [], k, ls, st, h, _, hk, H => by
    rw [List.length_nil, Nat.add_zero] at hk
    rw [← hk]; exact H
  | e :: r, k, ls, st, h, hr, hk, H => by
    have he : am_nth (am_code m) k = some e := by
      have : (((am_code m).drop k).take (e :: r).length)[0]? = some e := by rw [hr]; rfl
      rw [am_nth_eq]
      simpa using this
    have hr' : ((am_code m).drop (k + 1)).take r.length = r := by
      have h2 : ((am_code m).drop k) = e :: (am_code m).drop (k + 1) := by
        rw [am_nth_eq] at he
        obtain ⟨hlt, hget⟩ := List.getElem?_eq_some_iff.mp he
        rw [List.drop_eq_getElem_cons hlt, hget]
      rw [h2, List.length_cons, List.take_succ_cons] at hr
      exact (List.cons.inj hr).2
    have hk' : kend = k + 1 + r.length := by rw [hk, List.length_cons]; omega
    have fin : ∀ {n' : Nat}, am_step e ls st h (fun ls st h => am_wp n' m (k + 1) ls st h Q) (fun t ls st h => am_wp n' m t ls st h Q) Q (fun j args h Q'' => am_rc (am_ss j) (am_oc j) args (if am_cat args ≤ am_ml j then am_wp n' j 0 (am_pad (am_ml j) args) [] h Q'' else False)) → am_Ex m k ls st h Q := by
      intro n' q
      refine ⟨n' + 1, ?_⟩
      rw [am_wp, he]
      exact q
    rcases am_nf H with ⟨ls', st', h', h1, h2⟩ | ⟨t, ls', st', h', ⟨n, h1⟩, h2⟩ | ⟨o, h', h1, h2⟩ | ⟨j, as, rr, ⟨n, h1⟩, h2⟩
    · obtain ⟨n, hn⟩ := am_bk_ok' r (k + 1) ls' st' h' hr' hk' h1
      exact fin (h2 _ _ _ _ hn)
    · exact fin (h2 _ _ _ _ h1)
    · exact fin (n' := 0) (h2 _ _ _ _ h1)
    · obtain ⟨c1, c2⟩ := am_rc_iff.mp h1
      by_cases hc : am_cat as ≤ am_ml j
      · rw [if_pos hc] at c2
        obtain ⟨o1, h1', g1, g2⟩ := am_wp_det _ _ _ _ _ _ _ c2
        obtain ⟨n2, g3⟩ := am_bk_ok' r (k + 1) _ _ _ hr' hk' g1
        obtain ⟨o, h2', g4, g5⟩ := am_wp_det _ _ _ _ _ _ _ g3
        refine fin (n' := n + n2) (h2 _ _ _ _ (am_rc_iff.mpr ⟨c1, ?_⟩))
        rw [if_pos hc]
        exact g2 _ (g5 Q g4 _ (by omega)) _ (by omega)
      · rw [if_neg hc] at c2; exact c2.elim
theorem am_bk_ok {m : Nat} {Q : am_P} {kend k : Nat} {r : List am_E} {ls : am_L} {st : am_S} {h : am_H} (hr : ((am_code m).drop k).take r.length = r) (hk : kend = k + r.length) (H : am_bk m Q kend r ls st h) : am_Ex m k ls st h Q := am_bk_ok' r k ls st h hr hk H
/-- a call, from the callee's first instruction -/
theorem am_call_S {j : Nat} {as : List am_V} {h : am_H} {Q : am_P} (ls : am_L) (hs : am_ss j = true) (hc : Nat.ble (am_cat as) (am_ml j) = true) (hl : am_pad (am_ml j) as = ls) (H : am_Ex j 0 ls [] h Q) : am_Call j as h Q := by
  obtain ⟨n, H⟩ := H
  refine ⟨n, ?_⟩
  unfold am_rc
  rw [hs, if_pos rfl, if_pos (Nat.le_of_ble_eq_true hc), hl]
  exact H
theorem am_call_V {j c ci : Nat} {as : List am_V} {h : am_H} {Q : am_P} {fks : List (Option Nat)} (ls : am_L) (hs : am_ss j = false) (hy : am_lay c = .inr (ci, fks)) (ho : am_oc j = ci) (hc : Nat.ble (am_cat (.inr (.inr (some c)) :: as)) (am_ml j) = true) (hl : am_pad (am_ml j) (.inr (.inr (some c)) :: as) = ls) (H : am_Ex j 0 ls [] h Q) : am_Call j (.inr (.inr (some c)) :: as) h Q := by
  obtain ⟨n, H⟩ := H
  refine ⟨n, ?_⟩
  unfold am_rc
  rw [hs]
  simp only [Bool.false_eq_true, if_false]
  rw [hy]
  simp only
  rw [if_pos ho.symm, if_pos (Nat.le_of_ble_eq_true hc), hl]
  exact H
end
section
/-! locals that nobody reads any more may be forgotten -/
def am_lq : am_L → am_L → Prop
  | [], [] => True
  | x :: r, y :: s => (x = y ∨ (x = none ∧ ((∃ z : Int, y = some (.inl z)) ∨ ∃ z : Option Nat, y = some (.inr (.inr z))))) ∧ am_lq r s
  | _, _ => False
theorem am_lq_nth : ∀ {ls ls' : am_L} {i : Nat} {v : am_V}, am_lq ls ls' → am_nth ls i = some (some v) → am_nth ls' i = some (some v)
  | [], [], i, v, _, h => h
  | x :: r, y :: s, 0, v, hle, h => by
    cases h
    rcases hle.1 with e | ⟨e, -⟩
    · rw [← e]; rfl
    · cases e
  | x :: r, y :: s, i + 1, v, hle, h => am_lq_nth (ls := r) (ls' := s) (i := i) hle.2 h
  | [], _ :: _, _, _, hle, _ => hle.elim
  | _ :: _, [], _, _, hle, _ => hle.elim
theorem am_lq_stw : ∀ {ls ls' r : am_L} {i : Nat} {v : am_V}, am_lq ls ls' → am_stw ls i v = some r → ∃ r', am_stw ls' i v = some r' ∧ am_lq r r'
  | [], [], r, i, v, _, h => by cases i <;> simp [am_stw] at h
  | x :: ls, y :: ls', r, 0, v, hle, h => by
    rw [am_stw] at h
    cases h
    exact ⟨some v :: ls', rfl, Or.inl rfl, hle.2⟩
  | x :: ls, y :: ls', r, i + 1, v, hle, h => by
    have nl : ∀ {z : Option am_V} {l r : am_L}, am_stw (z :: l) (i + 1) v = some r → (i = 0 → ∀ q, z ≠ some (.inr (.inl q))) := by
      intro z l r hz hi q e
      subst hi
      subst e
      simp [am_stw] at hz
    have st : ∀ {z : Option am_V} {l : am_L}, (i = 0 → ∀ q, z ≠ some (.inr (.inl q))) → am_stw (z :: l) (i + 1) v = (match am_stw l i v with
      | some r' => some (z :: r')
      | none => none) := by
      intro z l hz
      rw [am_stw]
      · cases am_stw l i v <;> rfl
      · intro q e1 e2
        exact hz (by omega) q e1
    have hx := nl h
    rw [st hx] at h
    cases hr : am_stw ls i v with
    | none => rw [hr] at h; cases h
    | some r1 =>
      rw [hr] at h
      cases h
      obtain ⟨r2, g1, g2⟩ := am_lq_stw hle.2 hr
      refine ⟨y :: r2, ?_, hle.1, g2⟩
      rw [st ?_, g1]
      intro hi q e
      rcases hle.1 with e1 | ⟨-, ⟨z, e1⟩ | ⟨z, e1⟩⟩
      · exact hx hi q (e1.trans e)
      · rw [e1] at e; cases e
      · rw [e1] at e; cases e
  | [], _ :: _, _, _, _, hle, _ => hle.elim
  | _ :: _, [], _, _, _, hle, _ => hle.elim
set_option maxHeartbeats 2000000 in
theorem am_step_le {e : am_E} {ls ls2 : am_L} {st : am_S} {h : am_H} {N N' : am_L → am_S → am_H → Prop} {J J' : Nat → am_L → am_S → am_H → Prop} {R : am_P} {X X' : Nat → List am_V → am_H → am_P → Prop} (hle : am_lq ls ls2)
    (hN : ∀ l l' st h, am_lq l l' → N l st h → N' l' st h) (hJ : ∀ t l l' st h, am_lq l l' → J t l st h → J' t l' st h) (hX : ∀ j as h (K K' : am_P), (∀ o h', K o h' → K' o h') → X j as h K → X' j as h K')
    (H : am_step e ls st h N J R X) : am_step e ls2 st h N' J' R X' := by
  obtain ⟨pc, len, i, a, b, v, w, js⟩ := e
  cases i with
  | iconst x0 =>
    exact hN _ _ _ _ hle H
  | bipush x0 =>
    exact hN _ _ _ _ hle H
  | sipush x0 =>
    exact hN _ _ _ _ hle H
  | ldc x0 =>
    exact hN _ _ _ _ hle H
  | ldc_w x0 =>
    exact hN _ _ _ _ hle H
  | lconst x0 =>
    exact hN _ _ _ _ hle H
  | ldc2_w x0 =>
    exact hN _ _ _ _ hle H
  | aconst_null =>
    exact hN _ _ _ _ hle H
  | iload_n x0 =>
    dsimp only [am_step] at H ⊢
    unfold am_ldI at H ⊢
    split at H
    · rename_i y hy
      rw [am_lq_nth hle hy]
      exact hN _ _ _ _ hle H
    · exact H.elim
  | iload x0 =>
    dsimp only [am_step] at H ⊢
    unfold am_ldI at H ⊢
    split at H
    · rename_i y hy
      rw [am_lq_nth hle hy]
      exact hN _ _ _ _ hle H
    · exact H.elim
  | lload_n x0 =>
    dsimp only [am_step] at H ⊢
    unfold am_ldL at H ⊢
    split at H
    · rename_i y hy
      rw [am_lq_nth hle hy]
      exact hN _ _ _ _ hle H
    · exact H.elim
  | lload x0 =>
    dsimp only [am_step] at H ⊢
    unfold am_ldL at H ⊢
    split at H
    · rename_i y hy
      rw [am_lq_nth hle hy]
      exact hN _ _ _ _ hle H
    · exact H.elim
  | aload_n x0 =>
    dsimp only [am_step] at H ⊢
    unfold am_ldA at H ⊢
    split at H
    · rename_i y hy
      rw [am_lq_nth hle hy]
      exact hN _ _ _ _ hle H
    · exact H.elim
  | aload x0 =>
    dsimp only [am_step] at H ⊢
    unfold am_ldA at H ⊢
    split at H
    · rename_i y hy
      rw [am_lq_nth hle hy]
      exact hN _ _ _ _ hle H
    · exact H.elim
  | istore_n x0 =>
    dsimp only [am_step] at H ⊢
    split at H
    · unfold am_sto at H ⊢
      split at H
      · rename_i ls' hy
        obtain ⟨r', g1, g2⟩ := am_lq_stw hle hy
        try dsimp only
        try dsimp only
        rw [g1]
        exact hN _ _ _ _ g2 H
      · exact H.elim
    · exact H.elim
  | istore x0 =>
    dsimp only [am_step] at H ⊢
    split at H
    · unfold am_sto at H ⊢
      split at H
      · rename_i ls' hy
        obtain ⟨r', g1, g2⟩ := am_lq_stw hle hy
        try dsimp only
        try dsimp only
        rw [g1]
        exact hN _ _ _ _ g2 H
      · exact H.elim
    · exact H.elim
  | astore_n x0 =>
    dsimp only [am_step] at H ⊢
    split at H
    · unfold am_sto at H ⊢
      split at H
      · rename_i ls' hy
        obtain ⟨r', g1, g2⟩ := am_lq_stw hle hy
        try dsimp only
        try dsimp only
        rw [g1]
        exact hN _ _ _ _ g2 H
      · exact H.elim
    · exact H.elim
  | iinc x0 n0 =>
    dsimp only [am_step] at H ⊢
    unfold am_ldI at H ⊢
    split at H
    · rename_i y hy0
      rw [am_lq_nth hle hy0]
      try dsimp only
      unfold am_sto at H ⊢
      split at H
      · rename_i ls' hy
        obtain ⟨r', g1, g2⟩ := am_lq_stw hle hy
        try dsimp only
        rw [g1]
        exact hN _ _ _ _ g2 H
      · exact H.elim
    · exact H.elim
  | iadd =>
    dsimp only [am_step] at H ⊢
    split at H
    · exact hN _ _ _ _ hle H
    · exact H.elim
  | isub =>
    dsimp only [am_step] at H ⊢
    split at H
    · exact hN _ _ _ _ hle H
    · exact H.elim
  | imul =>
    dsimp only [am_step] at H ⊢
    split at H
    · exact hN _ _ _ _ hle H
    · exact H.elim
  | ineg =>
    dsimp only [am_step] at H ⊢
    split at H
    · exact hN _ _ _ _ hle H
    · exact H.elim
  | iand =>
    dsimp only [am_step] at H ⊢
    split at H
    · exact hN _ _ _ _ hle H
    · exact H.elim
  | ior =>
    dsimp only [am_step] at H ⊢
    split at H
    · exact hN _ _ _ _ hle H
    · exact H.elim
  | ixor =>
    dsimp only [am_step] at H ⊢
    split at H
    · exact hN _ _ _ _ hle H
    · exact H.elim
  | ishl =>
    dsimp only [am_step] at H ⊢
    split at H
    · exact hN _ _ _ _ hle H
    · exact H.elim
  | ishr =>
    dsimp only [am_step] at H ⊢
    split at H
    · exact hN _ _ _ _ hle H
    · exact H.elim
  | iushr =>
    dsimp only [am_step] at H ⊢
    split at H
    · exact hN _ _ _ _ hle H
    · exact H.elim
  | i2l =>
    dsimp only [am_step] at H ⊢
    split at H
    · exact hN _ _ _ _ hle H
    · exact H.elim
  | l2i =>
    dsimp only [am_step] at H ⊢
    split at H
    · exact hN _ _ _ _ hle H
    · exact H.elim
  | lcmp =>
    dsimp only [am_step] at H ⊢
    split at H
    · exact hN _ _ _ _ hle H
    · exact H.elim
  | land =>
    dsimp only [am_step] at H ⊢
    split at H
    · exact hN _ _ _ _ hle H
    · exact H.elim
  | lor =>
    dsimp only [am_step] at H ⊢
    split at H
    · exact hN _ _ _ _ hle H
    · exact H.elim
  | lxor =>
    dsimp only [am_step] at H ⊢
    split at H
    · exact hN _ _ _ _ hle H
    · exact H.elim
  | lshl =>
    dsimp only [am_step] at H ⊢
    split at H
    · exact hN _ _ _ _ hle H
    · exact H.elim
  | lshr =>
    dsimp only [am_step] at H ⊢
    split at H
    · exact hN _ _ _ _ hle H
    · exact H.elim
  | lushr =>
    dsimp only [am_step] at H ⊢
    split at H
    · exact hN _ _ _ _ hle H
    · exact H.elim
  | dup2 =>
    dsimp only [am_step] at H ⊢
    split at H
    · exact hN _ _ _ _ hle H
    · exact H.elim
  | dup =>
    dsimp only [am_step] at H ⊢
    split at H
    · exact hN _ _ _ _ hle H
    · exact hN _ _ _ _ hle H
    · exact H.elim
  | idiv =>
    dsimp only [am_step] at H ⊢
    split at H
    · exact ⟨H.1, hN _ _ _ _ hle H.2⟩
    · exact H.elim
  | irem =>
    dsimp only [am_step] at H ⊢
    split at H
    · exact ⟨H.1, hN _ _ _ _ hle H.2⟩
    · exact H.elim
  | getfield x0 =>
    dsimp only [am_step] at H ⊢
    split at H
    · unfold am_gf at H ⊢
      try dsimp only
      split at H
      · rename_i ci fks hlay
        try rw [hlay]
        try dsimp only
        by_cases hcc : ci = a
        · rw [if_pos hcc] at H ⊢
          split at H
          · rename_i hf
            try rw [hf]
            exact hN _ _ _ _ hle H
          · rename_i t hf
            try rw [hf]
            exact hN _ _ _ _ hle H
          · exact H.elim
        · rw [if_neg hcc] at H; exact H.elim
      · exact H.elim
    · exact H.elim
  | putfield x0 =>
    dsimp only [am_step] at H ⊢
    split at H
    · unfold am_pf at H ⊢
      try dsimp only
      split at H
      · rename_i ci fks hlay
        try rw [hlay]
        try dsimp only
        by_cases hcc : ci = a
        · rw [if_pos hcc] at H ⊢
          split at H
          · rename_i hf
            try rw [hf]
            exact ⟨H.1, hN _ _ _ _ hle H.2⟩
          · exact H.elim
        · rw [if_neg hcc] at H; exact H.elim
      · exact H.elim
    · exact H.elim
  | iaload =>
    dsimp only [am_step] at H ⊢
    split at H
    · unfold am_ar at H ⊢
      try dsimp only
      split at H
      · rename_i ty' n0 hlay
        try rw [hlay]
        try dsimp only
        by_cases ht : ty' = .int
        · rw [if_pos ht] at H ⊢
          exact ⟨H.1, hN _ _ _ _ hle H.2⟩
        · rw [if_neg ht] at H; exact H.elim
      · exact H.elim
    · exact H.elim
  | baload =>
    dsimp only [am_step] at H ⊢
    split at H
    · unfold am_ar at H ⊢
      try dsimp only
      split at H
      · rename_i ty' n0 hlay
        try rw [hlay]
        try dsimp only
        by_cases ht : ty' = .boolean
        · rw [if_pos ht] at H ⊢
          exact ⟨H.1, hN _ _ _ _ hle H.2⟩
        · rw [if_neg ht] at H; exact H.elim
      · exact H.elim
    · exact H.elim
  | laload =>
    dsimp only [am_step] at H ⊢
    split at H
    · unfold am_ar at H ⊢
      try dsimp only
      split at H
      · rename_i ty' n0 hlay
        try rw [hlay]
        try dsimp only
        by_cases ht : ty' = .long
        · rw [if_pos ht] at H ⊢
          exact ⟨H.1, hN _ _ _ _ hle H.2⟩
        · rw [if_neg ht] at H; exact H.elim
      · exact H.elim
    · exact H.elim
  | iastore =>
    dsimp only [am_step] at H ⊢
    split at H
    · unfold am_ar at H ⊢
      try dsimp only
      split at H
      · rename_i ty' n0 hlay
        try rw [hlay]
        try dsimp only
        by_cases ht : ty' = .int
        · rw [if_pos ht] at H ⊢
          exact ⟨H.1, hN _ _ _ _ hle H.2⟩
        · rw [if_neg ht] at H; exact H.elim
      · exact H.elim
    · exact H.elim
  | bastore =>
    dsimp only [am_step] at H ⊢
    split at H
    · unfold am_ar at H ⊢
      try dsimp only
      split at H
      · rename_i ty' n0 hlay
        try rw [hlay]
        try dsimp only
        by_cases ht : ty' = .boolean
        · rw [if_pos ht] at H ⊢
          exact ⟨H.1, hN _ _ _ _ hle H.2⟩
        · rw [if_neg ht] at H; exact H.elim
      · exact H.elim
    · exact H.elim
  | lastore =>
    dsimp only [am_step] at H ⊢
    split at H
    · unfold am_ar at H ⊢
      try dsimp only
      split at H
      · rename_i ty' n0 hlay
        try rw [hlay]
        try dsimp only
        by_cases ht : ty' = .long
        · rw [if_pos ht] at H ⊢
          exact ⟨H.1, hN _ _ _ _ hle H.2⟩
        · rw [if_neg ht] at H; exact H.elim
      · exact H.elim
    · exact H.elim
  | arraylength =>
    dsimp only [am_step] at H ⊢
    split at H
    · unfold am_al0 at H ⊢
      try dsimp only
      split at H
      · rename_i ty' n0 hlay
        try rw [hlay]
        exact hN _ _ _ _ hle H
      · exact H.elim
    · exact H.elim
  | ifCond cd x0 =>
    dsimp only [am_step] at H ⊢
    split at H
    · obtain ⟨hR, H⟩ := H
      refine ⟨hR, ?_⟩
      unfold am_br at H ⊢
      split at H
      · exact ⟨fun q => hJ _ _ _ _ _ hle (H.1 q), fun q => hN _ _ _ _ hle (H.2 q)⟩
      · exact H.elim
    · exact H.elim
  | if_icmp cd x0 =>
    dsimp only [am_step] at H ⊢
    split at H
    · obtain ⟨hR, H⟩ := H
      refine ⟨hR, ?_⟩
      unfold am_br at H ⊢
      split at H
      · exact ⟨fun q => hJ _ _ _ _ _ hle (H.1 q), fun q => hN _ _ _ _ hle (H.2 q)⟩
      · exact H.elim
    · exact H.elim
  | ifnonnull x0 =>
    dsimp only [am_step] at H ⊢
    split at H
    · unfold am_br at H ⊢
      split at H
      · exact hJ _ _ _ _ _ hle H
      · exact H.elim
    · exact hN _ _ _ _ hle H
    · exact H.elim
  | goto x0 =>
    dsimp only [am_step] at H ⊢
    unfold am_br at H ⊢
    split at H
    · exact hJ _ _ _ _ _ hle H
    · exact H.elim
  | tableswitch d0 lo hi offs =>
    rcases st with _ | ⟨y | y, r⟩
    · exact (show False from H).elim
    · rcases js with _ | ⟨dt, ts⟩
      · exact (show False from H).elim
      · obtain ⟨hR, H⟩ := (show am_R y ∧ am_sw y v ts dt _ from H)
        obtain ⟨t, h1, h2⟩ := am_sw_one _ _ H
        exact ⟨hR, h2 (fun t => J' t ls2 r h) (hJ _ _ _ _ _ hle h1)⟩
    · exact (show False from H).elim
  | ireturn =>
    exact H
  | areturn =>
    exact H
  | return_ =>
    exact H
  | invokevirtual x0 =>
    dsimp only [am_step] at H ⊢
    split at H
    · rename_i as r htk
      refine ⟨H.1, hX _ _ _ _ _ (fun o h' q => ?_) H.2⟩
      cases o <;> exact hN _ _ _ _ hle q
    · exact H.elim
  | invokestatic x0 =>
    dsimp only [am_step] at H ⊢
    by_cases ha9 : a = 999
    · rw [if_pos ha9] at H ⊢
      unfold am_copy at H ⊢
      split at H
      · rename_i n0 dp d0 sp s0 r
        try dsimp only
        unfold am_ar at H ⊢
        split at H
        · rename_i ty1 ns hlay1
          try rw [hlay1]
          try dsimp only
          by_cases ht1 : ty1 = .int
          · rw [if_pos ht1] at H ⊢
            split at H
            · rename_i ty2 nd hlay2
              try rw [hlay2]
              try dsimp only
              by_cases ht2 : ty2 = .int
              · rw [if_pos ht2] at H ⊢
                exact ⟨H.1, H.2.1, hN _ _ _ _ hle H.2.2⟩
              · rw [if_neg ht2] at H; exact H.elim
            · exact H.elim
          · rw [if_neg ht1] at H; exact H.elim
        · exact H.elim
      · exact H.elim
    · rw [if_neg ha9] at H ⊢
      split at H
      · rename_i as r htk
        refine ⟨H.1, hX _ _ _ _ _ (fun o h' q => ?_) H.2⟩
        cases o <;> exact hN _ _ _ _ hle q
      · exact H.elim
  | _ => exact (show False from H).elim
theorem am_wp_le : ∀ (n m k : Nat) (ls ls2 : am_L) (st : am_S) (h : am_H) (Q : am_P), am_lq ls ls2 → am_wp n m k ls st h Q → am_wp n m k ls2 st h Q := by
  intro n
  induction n with
  | zero => intro m k ls ls2 st h Q _ H; exact H.elim
  | succ n ih =>
    intro m k ls ls2 st h Q hle H
    rw [am_wp] at H ⊢
    cases he : am_nth (am_code m) k with
    | none => rw [he] at H; exact H.elim
    | some e =>
      rw [he] at H
      dsimp only at H ⊢
      refine am_step_le hle (fun l l' st h hl q => ih _ _ _ _ _ _ _ hl q) (fun t l l' st h hl q => ih _ _ _ _ _ _ _ hl q) ?_ H
      intro j as h K K' hK q
      obtain ⟨c1, c2⟩ := am_rc_iff.mp q
      refine am_rc_iff.mpr ⟨c1, ?_⟩
      by_cases hc : am_cat as ≤ am_ml j
      · rw [if_pos hc] at c2 ⊢
        obtain ⟨o, h', g1, g2⟩ := am_wp_det _ _ _ _ _ _ _ c2
        exact g2 K' (hK _ _ g1) n (Nat.le_refl _)
      · rw [if_neg hc] at c2; exact c2.elim
theorem am_forget {m k : Nat} {ls ls2 : am_L} {st : am_S} {h : am_H} {Q : am_P} (H : am_Ex m k ls st h Q) (hle : am_lq ls ls2) : am_Ex m k ls2 st h Q := by
  obtain ⟨n, H⟩ := H
  exact ⟨n, am_wp_le _ _ _ _ _ _ _ _ hle H⟩
theorem am_lq_rf : ∀ (ls : am_L), am_lq ls ls
  | [] => trivial
  | _ :: r => ⟨Or.inl rfl, am_lq_rf r⟩
theorem am_step_mono {e : am_E} {ls : am_L} {st : am_S} {h : am_H} {N N' : am_L → am_S → am_H → Prop} {J J' : Nat → am_L → am_S → am_H → Prop} {R : am_P} {X X' : Nat → List am_V → am_H → am_P → Prop}
    (hN : ∀ l st h, N l st h → N' l st h) (hJ : ∀ t l st h, J t l st h → J' t l st h) (hX : ∀ j as h (K K' : am_P), (∀ o h', K o h' → K' o h') → X j as h K → X' j as h K') (H : am_step e ls st h N J R X) : am_step e ls st h N' J' R X' := by
  obtain ⟨ls', st', h', h1, h2⟩ | ⟨t, ls', st', h', h1, h2⟩ | ⟨o, h', h1, h2⟩ | ⟨j, as, r, h1, h2⟩ := am_nf H
  · exact h2 _ _ _ _ (hN _ _ _ h1)
  · exact h2 _ _ _ _ (hJ _ _ _ _ h1)
  · exact h2 _ _ _ _ h1
  · exact h2 _ _ _ _ (hX _ _ _ _ _ (fun o h' q => hN _ _ _ q) h1)
theorem am_bk_iff' {m : Nat} {Q : am_P} {kend : Nat} : ∀ (r : List am_E) (k : Nat) (ls : am_L) (st : am_S) (h : am_H), ((am_code m).drop k).take r.length = r → kend = k + r.length → am_Ex m k ls st h Q → am_bk m Q kend r ls st h
  | [], k, ls, st, h, _, hk, H => by
    rw [List.length_nil, Nat.add_zero] at hk
    rw [am_bk, hk]; exact H
  | e :: r, k, ls, st, h, hr, hk, H => by
    have he : am_nth (am_code m) k = some e := by
      have : (((am_code m).drop k).take (e :: r).length)[0]? = some e := by rw [hr]; rfl
      rw [am_nth_eq]
      simpa using this
    have hr' : ((am_code m).drop (k + 1)).take r.length = r := by
      have h2 : ((am_code m).drop k) = e :: (am_code m).drop (k + 1) := by
        rw [am_nth_eq] at he
        obtain ⟨hlt, hget⟩ := List.getElem?_eq_some_iff.mp he
        rw [List.drop_eq_getElem_cons hlt, hget]
      rw [h2, List.length_cons, List.take_succ_cons] at hr
      exact (List.cons.inj hr).2
    have hk' : kend = k + 1 + r.length := by rw [hk, List.length_cons]; omega
    obtain ⟨n, H⟩ := H
    cases n with
    | zero => exact H.elim
    | succ n =>
      rw [am_wp, he] at H
      dsimp only at H
      rw [am_bk]
      refine am_step_mono (fun l st h q => am_bk_iff' r (k + 1) l st h hr' hk' ⟨n, q⟩) (fun t l st h q => ⟨n, q⟩) ?_ H
      intro j as h K K' hK q
      exact am_Call_mono ⟨n, q⟩ hK
theorem am_bk_eq {m : Nat} {Q : am_P} {kend k : Nat} {r : List am_E} {ls : am_L} {st : am_S} {h : am_H} (hr : ((am_code m).drop k).take r.length = r) (hk : kend = k + r.length) : am_Ex m k ls st h Q = am_bk m Q kend r ls st h :=
  propext ⟨am_bk_iff' r k ls st h hr hk, am_bk_ok hr hk⟩
theorem am_call_Se {j : Nat} {as : List am_V} {h : am_H} {Q : am_P} {ls : am_L} {n : Nat} (hs : am_ss j = true) (hm : am_ml j = n) (hc : Nat.ble (am_cat as) n = true) (hl : am_pad n as = ls) : am_Call j as h Q = am_Ex j 0 ls [] h Q := by
  subst hm
  refine propext ⟨fun H => ?_, am_call_S ls hs hc hl⟩
  obtain ⟨n, H⟩ := H
  unfold am_rc at H
  rw [hs, if_pos rfl, if_pos (Nat.le_of_ble_eq_true hc), hl] at H
  exact ⟨n, H⟩
theorem am_call_Ve {j c ci : Nat} {as : List am_V} {h : am_H} {Q : am_P} {fks : List (Option Nat)} {ls : am_L} {n : Nat} (hs : am_ss j = false) (hm : am_ml j = n) (hy : am_lay c = .inr (ci, fks)) (ho : am_oc j = ci) (hc : Nat.ble (am_cat (.inr (.inr (some c)) :: as)) n = true) (hl : am_pad n (.inr (.inr (some c)) :: as) = ls) : am_Call j (.inr (.inr (some c)) :: as) h Q = am_Ex j 0 ls [] h Q := by
  subst hm
  refine propext ⟨fun H => ?_, am_call_V ls hs hy ho hc hl⟩
  obtain ⟨n, H⟩ := H
  unfold am_rc at H
  rw [hs] at H
  simp only [Bool.false_eq_true, if_false] at H
  rw [hy] at H
  simp only at H
  rw [if_pos ho.symm, if_pos (Nat.le_of_ble_eq_true hc), hl] at H
  exact ⟨n, H⟩
end
section
theorem ly_75 : am_lay 75 = .inr (6, [some 0, none, some 76, some 78, some 79, some 80, some 81, some 82, some 83, some 84, some 85]) := rfl
theorem gf_75_0 (h : am_H) (K : am_V → Prop) : am_gf (am_lay 75) 6 0 75 h K = K (.inr (.inr (some 0))) := rfl
theorem gf_75_1 (h : am_H) (K : am_V → Prop) : am_gf (am_lay 75) 6 1 75 h K = K (.inl (h 75 1)) := rfl
theorem pf_75_1 (K : Prop) : am_pf (am_lay 75) 6 1 K = K := rfl
theorem gf_75_2 (h : am_H) (K : am_V → Prop) : am_gf (am_lay 75) 6 2 75 h K = K (.inr (.inr (some 76))) := rfl
theorem gf_75_3 (h : am_H) (K : am_V → Prop) : am_gf (am_lay 75) 6 3 75 h K = K (.inr (.inr (some 78))) := rfl
theorem gf_75_4 (h : am_H) (K : am_V → Prop) : am_gf (am_lay 75) 6 4 75 h K = K (.inr (.inr (some 79))) := rfl
theorem gf_75_5 (h : am_H) (K : am_V → Prop) : am_gf (am_lay 75) 6 5 75 h K = K (.inr (.inr (some 80))) := rfl
theorem gf_75_6 (h : am_H) (K : am_V → Prop) : am_gf (am_lay 75) 6 6 75 h K = K (.inr (.inr (some 81))) := rfl
theorem gf_75_7 (h : am_H) (K : am_V → Prop) : am_gf (am_lay 75) 6 7 75 h K = K (.inr (.inr (some 82))) := rfl
theorem gf_75_8 (h : am_H) (K : am_V → Prop) : am_gf (am_lay 75) 6 8 75 h K = K (.inr (.inr (some 83))) := rfl
theorem gf_75_9 (h : am_H) (K : am_V → Prop) : am_gf (am_lay 75) 6 9 75 h K = K (.inr (.inr (some 84))) := rfl
theorem gf_75_10 (h : am_H) (K : am_V → Prop) : am_gf (am_lay 75) 6 10 75 h K = K (.inr (.inr (some 85))) := rfl
theorem ly_76 : am_lay 76 = .inr (3, [some 77, none, none, none, none, none, none, none]) := rfl
theorem gf_76_0 (h : am_H) (K : am_V → Prop) : am_gf (am_lay 76) 3 0 76 h K = K (.inr (.inr (some 77))) := rfl
theorem gf_76_1 (h : am_H) (K : am_V → Prop) : am_gf (am_lay 76) 3 1 76 h K = K (.inl (h 76 1)) := rfl
theorem pf_76_1 (K : Prop) : am_pf (am_lay 76) 3 1 K = K := rfl
theorem gf_76_2 (h : am_H) (K : am_V → Prop) : am_gf (am_lay 76) 3 2 76 h K = K (.inl (h 76 2)) := rfl
theorem pf_76_2 (K : Prop) : am_pf (am_lay 76) 3 2 K = K := rfl
theorem gf_76_3 (h : am_H) (K : am_V → Prop) : am_gf (am_lay 76) 3 3 76 h K = K (.inl (h 76 3)) := rfl
theorem pf_76_3 (K : Prop) : am_pf (am_lay 76) 3 3 K = K := rfl
theorem gf_76_4 (h : am_H) (K : am_V → Prop) : am_gf (am_lay 76) 3 4 76 h K = K (.inl (h 76 4)) := rfl
theorem pf_76_4 (K : Prop) : am_pf (am_lay 76) 3 4 K = K := rfl
theorem gf_76_5 (h : am_H) (K : am_V → Prop) : am_gf (am_lay 76) 3 5 76 h K = K (.inl (h 76 5)) := rfl
theorem pf_76_5 (K : Prop) : am_pf (am_lay 76) 3 5 K = K := rfl
theorem gf_76_6 (h : am_H) (K : am_V → Prop) : am_gf (am_lay 76) 3 6 76 h K = K (.inl (h 76 6)) := rfl
theorem pf_76_6 (K : Prop) : am_pf (am_lay 76) 3 6 K = K := rfl
theorem gf_76_7 (h : am_H) (K : am_V → Prop) : am_gf (am_lay 76) 3 7 76 h K = K (.inl (h 76 7)) := rfl
theorem pf_76_7 (K : Prop) : am_pf (am_lay 76) 3 7 K = K := rfl
theorem ly_77 : am_lay 77 = .inr (2, [none, none, some 1, some 2, some 3, some 4, some 5]) := rfl
theorem gf_77_0 (h : am_H) (K : am_V → Prop) : am_gf (am_lay 77) 2 0 77 h K = K (.inl (h 77 0)) := rfl
theorem pf_77_0 (K : Prop) : am_pf (am_lay 77) 2 0 K = K := rfl
theorem gf_77_1 (h : am_H) (K : am_V → Prop) : am_gf (am_lay 77) 2 1 77 h K = K (.inl (h 77 1)) := rfl
theorem pf_77_1 (K : Prop) : am_pf (am_lay 77) 2 1 K = K := rfl
theorem gf_77_2 (h : am_H) (K : am_V → Prop) : am_gf (am_lay 77) 2 2 77 h K = K (.inr (.inr (some 1))) := rfl
theorem gf_77_3 (h : am_H) (K : am_V → Prop) : am_gf (am_lay 77) 2 3 77 h K = K (.inr (.inr (some 2))) := rfl
theorem gf_77_4 (h : am_H) (K : am_V → Prop) : am_gf (am_lay 77) 2 4 77 h K = K (.inr (.inr (some 3))) := rfl
theorem gf_77_5 (h : am_H) (K : am_V → Prop) : am_gf (am_lay 77) 2 5 77 h K = K (.inr (.inr (some 4))) := rfl
theorem gf_77_6 (h : am_H) (K : am_V → Prop) : am_gf (am_lay 77) 2 6 77 h K = K (.inr (.inr (some 5))) := rfl
theorem ly_78 : am_lay 78 = .inr (2, [none, none, some 6, some 7, some 8, some 9, some 10]) := rfl
theorem gf_78_0 (h : am_H) (K : am_V → Prop) : am_gf (am_lay 78) 2 0 78 h K = K (.inl (h 78 0)) := rfl
theorem pf_78_0 (K : Prop) : am_pf (am_lay 78) 2 0 K = K := rfl
theorem gf_78_1 (h : am_H) (K : am_V → Prop) : am_gf (am_lay 78) 2 1 78 h K = K (.inl (h 78 1)) := rfl
theorem pf_78_1 (K : Prop) : am_pf (am_lay 78) 2 1 K = K := rfl
theorem gf_78_2 (h : am_H) (K : am_V → Prop) : am_gf (am_lay 78) 2 2 78 h K = K (.inr (.inr (some 6))) := rfl
theorem gf_78_3 (h : am_H) (K : am_V → Prop) : am_gf (am_lay 78) 2 3 78 h K = K (.inr (.inr (some 7))) := rfl
theorem gf_78_4 (h : am_H) (K : am_V → Prop) : am_gf (am_lay 78) 2 4 78 h K = K (.inr (.inr (some 8))) := rfl
theorem gf_78_5 (h : am_H) (K : am_V → Prop) : am_gf (am_lay 78) 2 5 78 h K = K (.inr (.inr (some 9))) := rfl
theorem gf_78_6 (h : am_H) (K : am_V → Prop) : am_gf (am_lay 78) 2 6 78 h K = K (.inr (.inr (some 10))) := rfl
theorem ly_79 : am_lay 79 = .inr (1, [some 11, some 12, some 13, some 14, some 15, some 16, none, none]) := rfl
theorem gf_79_0 (h : am_H) (K : am_V → Prop) : am_gf (am_lay 79) 1 0 79 h K = K (.inr (.inr (some 11))) := rfl
theorem gf_79_1 (h : am_H) (K : am_V → Prop) : am_gf (am_lay 79) 1 1 79 h K = K (.inr (.inr (some 12))) := rfl
theorem gf_79_2 (h : am_H) (K : am_V → Prop) : am_gf (am_lay 79) 1 2 79 h K = K (.inr (.inr (some 13))) := rfl
theorem gf_79_3 (h : am_H) (K : am_V → Prop) : am_gf (am_lay 79) 1 3 79 h K = K (.inr (.inr (some 14))) := rfl
theorem gf_79_4 (h : am_H) (K : am_V → Prop) : am_gf (am_lay 79) 1 4 79 h K = K (.inr (.inr (some 15))) := rfl
theorem gf_79_5 (h : am_H) (K : am_V → Prop) : am_gf (am_lay 79) 1 5 79 h K = K (.inr (.inr (some 16))) := rfl
theorem gf_79_6 (h : am_H) (K : am_V → Prop) : am_gf (am_lay 79) 1 6 79 h K = K (.inl (h 79 6)) := rfl
theorem pf_79_6 (K : Prop) : am_pf (am_lay 79) 1 6 K = K := rfl
theorem gf_79_7 (h : am_H) (K : am_V → Prop) : am_gf (am_lay 79) 1 7 79 h K = K (.inl (h 79 7)) := rfl
theorem pf_79_7 (K : Prop) : am_pf (am_lay 79) 1 7 K = K := rfl
theorem ly_80 : am_lay 80 = .inr (1, [some 17, some 18, some 19, some 20, some 21, some 22, none, none]) := rfl
theorem gf_80_0 (h : am_H) (K : am_V → Prop) : am_gf (am_lay 80) 1 0 80 h K = K (.inr (.inr (some 17))) := rfl
theorem gf_80_1 (h : am_H) (K : am_V → Prop) : am_gf (am_lay 80) 1 1 80 h K = K (.inr (.inr (some 18))) := rfl
theorem gf_80_2 (h : am_H) (K : am_V → Prop) : am_gf (am_lay 80) 1 2 80 h K = K (.inr (.inr (some 19))) := rfl
theorem gf_80_3 (h : am_H) (K : am_V → Prop) : am_gf (am_lay 80) 1 3 80 h K = K (.inr (.inr (some 20))) := rfl
theorem gf_80_4 (h : am_H) (K : am_V → Prop) : am_gf (am_lay 80) 1 4 80 h K = K (.inr (.inr (some 21))) := rfl
theorem gf_80_5 (h : am_H) (K : am_V → Prop) : am_gf (am_lay 80) 1 5 80 h K = K (.inr (.inr (some 22))) := rfl
theorem gf_80_6 (h : am_H) (K : am_V → Prop) : am_gf (am_lay 80) 1 6 80 h K = K (.inl (h 80 6)) := rfl
theorem pf_80_6 (K : Prop) : am_pf (am_lay 80) 1 6 K = K := rfl
theorem gf_80_7 (h : am_H) (K : am_V → Prop) : am_gf (am_lay 80) 1 7 80 h K = K (.inl (h 80 7)) := rfl
theorem pf_80_7 (K : Prop) : am_pf (am_lay 80) 1 7 K = K := rfl
theorem ly_81 : am_lay 81 = .inr (1, [some 23, some 24, some 25, some 26, some 27, some 28, none, none]) := rfl
theorem gf_81_0 (h : am_H) (K : am_V → Prop) : am_gf (am_lay 81) 1 0 81 h K = K (.inr (.inr (some 23))) := rfl
theorem gf_81_1 (h : am_H) (K : am_V → Prop) : am_gf (am_lay 81) 1 1 81 h K = K (.inr (.inr (some 24))) := rfl
theorem gf_81_2 (h : am_H) (K : am_V → Prop) : am_gf (am_lay 81) 1 2 81 h K = K (.inr (.inr (some 25))) := rfl
theorem gf_81_3 (h : am_H) (K : am_V → Prop) : am_gf (am_lay 81) 1 3 81 h K = K (.inr (.inr (some 26))) := rfl
theorem gf_81_4 (h : am_H) (K : am_V → Prop) : am_gf (am_lay 81) 1 4 81 h K = K (.inr (.inr (some 27))) := rfl
theorem gf_81_5 (h : am_H) (K : am_V → Prop) : am_gf (am_lay 81) 1 5 81 h K = K (.inr (.inr (some 28))) := rfl
theorem gf_81_6 (h : am_H) (K : am_V → Prop) : am_gf (am_lay 81) 1 6 81 h K = K (.inl (h 81 6)) := rfl
theorem pf_81_6 (K : Prop) : am_pf (am_lay 81) 1 6 K = K := rfl
theorem gf_81_7 (h : am_H) (K : am_V → Prop) : am_gf (am_lay 81) 1 7 81 h K = K (.inl (h 81 7)) := rfl
theorem pf_81_7 (K : Prop) : am_pf (am_lay 81) 1 7 K = K := rfl
theorem ly_82 : am_lay 82 = .inr (1, [some 29, some 30, some 31, some 32, some 33, some 34, none, none]) := rfl
theorem gf_82_0 (h : am_H) (K : am_V → Prop) : am_gf (am_lay 82) 1 0 82 h K = K (.inr (.inr (some 29))) := rfl
theorem gf_82_1 (h : am_H) (K : am_V → Prop) : am_gf (am_lay 82) 1 1 82 h K = K (.inr (.inr (some 30))) := rfl
theorem gf_82_2 (h : am_H) (K : am_V → Prop) : am_gf (am_lay 82) 1 2 82 h K = K (.inr (.inr (some 31))) := rfl
theorem gf_82_3 (h : am_H) (K : am_V → Prop) : am_gf (am_lay 82) 1 3 82 h K = K (.inr (.inr (some 32))) := rfl
theorem gf_82_4 (h : am_H) (K : am_V → Prop) : am_gf (am_lay 82) 1 4 82 h K = K (.inr (.inr (some 33))) := rfl
theorem gf_82_5 (h : am_H) (K : am_V → Prop) : am_gf (am_lay 82) 1 5 82 h K = K (.inr (.inr (some 34))) := rfl
theorem gf_82_6 (h : am_H) (K : am_V → Prop) : am_gf (am_lay 82) 1 6 82 h K = K (.inl (h 82 6)) := rfl
theorem pf_82_6 (K : Prop) : am_pf (am_lay 82) 1 6 K = K := rfl
theorem gf_82_7 (h : am_H) (K : am_V → Prop) : am_gf (am_lay 82) 1 7 82 h K = K (.inl (h 82 7)) := rfl
theorem pf_82_7 (K : Prop) : am_pf (am_lay 82) 1 7 K = K := rfl
theorem ly_83 : am_lay 83 = .inr (4, [some 78, some 35, some 36, some 37, some 38, some 39, some 40, some 41, some 42, none, none, none, none]) := rfl
theorem gf_83_0 (h : am_H) (K : am_V → Prop) : am_gf (am_lay 83) 4 0 83 h K = K (.inr (.inr (some 78))) := rfl
theorem gf_83_1 (h : am_H) (K : am_V → Prop) : am_gf (am_lay 83) 4 1 83 h K = K (.inr (.inr (some 35))) := rfl
theorem gf_83_2 (h : am_H) (K : am_V → Prop) : am_gf (am_lay 83) 4 2 83 h K = K (.inr (.inr (some 36))) := rfl
theorem gf_83_3 (h : am_H) (K : am_V → Prop) : am_gf (am_lay 83) 4 3 83 h K = K (.inr (.inr (some 37))) := rfl
theorem gf_83_4 (h : am_H) (K : am_V → Prop) : am_gf (am_lay 83) 4 4 83 h K = K (.inr (.inr (some 38))) := rfl
theorem gf_83_5 (h : am_H) (K : am_V → Prop) : am_gf (am_lay 83) 4 5 83 h K = K (.inr (.inr (some 39))) := rfl
theorem gf_83_6 (h : am_H) (K : am_V → Prop) : am_gf (am_lay 83) 4 6 83 h K = K (.inr (.inr (some 40))) := rfl
theorem gf_83_7 (h : am_H) (K : am_V → Prop) : am_gf (am_lay 83) 4 7 83 h K = K (.inr (.inr (some 41))) := rfl
theorem gf_83_8 (h : am_H) (K : am_V → Prop) : am_gf (am_lay 83) 4 8 83 h K = K (.inr (.inr (some 42))) := rfl
theorem gf_83_9 (h : am_H) (K : am_V → Prop) : am_gf (am_lay 83) 4 9 83 h K = K (.inl (h 83 9)) := rfl
theorem pf_83_9 (K : Prop) : am_pf (am_lay 83) 4 9 K = K := rfl
theorem gf_83_10 (h : am_H) (K : am_V → Prop) : am_gf (am_lay 83) 4 10 83 h K = K (.inl (h 83 10)) := rfl
theorem pf_83_10 (K : Prop) : am_pf (am_lay 83) 4 10 K = K := rfl
theorem gf_83_11 (h : am_H) (K : am_V → Prop) : am_gf (am_lay 83) 4 11 83 h K = K (.inl (h 83 11)) := rfl
theorem pf_83_11 (K : Prop) : am_pf (am_lay 83) 4 11 K = K := rfl
theorem gf_83_12 (h : am_H) (K : am_V → Prop) : am_gf (am_lay 83) 4 12 83 h K = K (.inl (h 83 12)) := rfl
theorem pf_83_12 (K : Prop) : am_pf (am_lay 83) 4 12 K = K := rfl
theorem ly_84 : am_lay 84 = .inr (5, [some 78, some 83, some 43, some 44, some 45, some 46, none]) := rfl
theorem gf_84_0 (h : am_H) (K : am_V → Prop) : am_gf (am_lay 84) 5 0 84 h K = K (.inr (.inr (some 78))) := rfl
theorem gf_84_1 (h : am_H) (K : am_V → Prop) : am_gf (am_lay 84) 5 1 84 h K = K (.inr (.inr (some 83))) := rfl
theorem gf_84_2 (h : am_H) (K : am_V → Prop) : am_gf (am_lay 84) 5 2 84 h K = K (.inr (.inr (some 43))) := rfl
theorem gf_84_3 (h : am_H) (K : am_V → Prop) : am_gf (am_lay 84) 5 3 84 h K = K (.inr (.inr (some 44))) := rfl
theorem gf_84_4 (h : am_H) (K : am_V → Prop) : am_gf (am_lay 84) 5 4 84 h K = K (.inr (.inr (some 45))) := rfl
theorem gf_84_5 (h : am_H) (K : am_V → Prop) : am_gf (am_lay 84) 5 5 84 h K = K (.inr (.inr (some 46))) := rfl
theorem gf_84_6 (h : am_H) (K : am_V → Prop) : am_gf (am_lay 84) 5 6 84 h K = K (.inl (h 84 6)) := rfl
theorem pf_84_6 (K : Prop) : am_pf (am_lay 84) 5 6 K = K := rfl
theorem ly_85 : am_lay 85 = .inr (0, [some 78, some 47, some 48, some 49, none]) := rfl
theorem gf_85_0 (h : am_H) (K : am_V → Prop) : am_gf (am_lay 85) 0 0 85 h K = K (.inr (.inr (some 78))) := rfl
theorem gf_85_1 (h : am_H) (K : am_V → Prop) : am_gf (am_lay 85) 0 1 85 h K = K (.inr (.inr (some 47))) := rfl
theorem gf_85_2 (h : am_H) (K : am_V → Prop) : am_gf (am_lay 85) 0 2 85 h K = K (.inr (.inr (some 48))) := rfl
theorem gf_85_3 (h : am_H) (K : am_V → Prop) : am_gf (am_lay 85) 0 3 85 h K = K (.inr (.inr (some 49))) := rfl
theorem gf_85_4 (h : am_H) (K : am_V → Prop) : am_gf (am_lay 85) 0 4 85 h K = K (.inl (h 85 4)) := rfl
theorem pf_85_4 (K : Prop) : am_pf (am_lay 85) 0 4 K = K := rfl
theorem ly_86 : am_lay 86 = .inr (7, [none, some 50, none, none, none, none, some 51, some 52, some 53, some 54, some 55, some 56, some 57, none, none, some 58, some 59, some 60, some 61, some 62, none, none, some 63, some 64, some 65, some 66, some 67, some 68, some 69, some 70, some 71, some 72, some 73, some 74, none]) := rfl
theorem gf_86_0 (h : am_H) (K : am_V → Prop) : am_gf (am_lay 86) 7 0 86 h K = K (.inl (h 86 0)) := rfl
theorem pf_86_0 (K : Prop) : am_pf (am_lay 86) 7 0 K = K := rfl
theorem gf_86_1 (h : am_H) (K : am_V → Prop) : am_gf (am_lay 86) 7 1 86 h K = K (.inr (.inr (some 50))) := rfl
theorem gf_86_2 (h : am_H) (K : am_V → Prop) : am_gf (am_lay 86) 7 2 86 h K = K (.inl (h 86 2)) := rfl
theorem pf_86_2 (K : Prop) : am_pf (am_lay 86) 7 2 K = K := rfl
theorem gf_86_3 (h : am_H) (K : am_V → Prop) : am_gf (am_lay 86) 7 3 86 h K = K (.inl (h 86 3)) := rfl
theorem pf_86_3 (K : Prop) : am_pf (am_lay 86) 7 3 K = K := rfl
theorem gf_86_4 (h : am_H) (K : am_V → Prop) : am_gf (am_lay 86) 7 4 86 h K = K (.inl (h 86 4)) := rfl
theorem pf_86_4 (K : Prop) : am_pf (am_lay 86) 7 4 K = K := rfl
theorem gf_86_5 (h : am_H) (K : am_V → Prop) : am_gf (am_lay 86) 7 5 86 h K = K (.inl (h 86 5)) := rfl
theorem pf_86_5 (K : Prop) : am_pf (am_lay 86) 7 5 K = K := rfl
theorem gf_86_6 (h : am_H) (K : am_V → Prop) : am_gf (am_lay 86) 7 6 86 h K = K (.inr (.inr (some 51))) := rfl
theorem gf_86_7 (h : am_H) (K : am_V → Prop) : am_gf (am_lay 86) 7 7 86 h K = K (.inr (.inr (some 52))) := rfl
theorem gf_86_8 (h : am_H) (K : am_V → Prop) : am_gf (am_lay 86) 7 8 86 h K = K (.inr (.inr (some 53))) := rfl
theorem gf_86_9 (h : am_H) (K : am_V → Prop) : am_gf (am_lay 86) 7 9 86 h K = K (.inr (.inr (some 54))) := rfl
theorem gf_86_10 (h : am_H) (K : am_V → Prop) : am_gf (am_lay 86) 7 10 86 h K = K (.inr (.inr (some 55))) := rfl
theorem gf_86_11 (h : am_H) (K : am_V → Prop) : am_gf (am_lay 86) 7 11 86 h K = K (.inr (.inr (some 56))) := rfl
theorem gf_86_12 (h : am_H) (K : am_V → Prop) : am_gf (am_lay 86) 7 12 86 h K = K (.inr (.inr (some 57))) := rfl
theorem gf_86_13 (h : am_H) (K : am_V → Prop) : am_gf (am_lay 86) 7 13 86 h K = K (.inl (h 86 13)) := rfl
theorem pf_86_13 (K : Prop) : am_pf (am_lay 86) 7 13 K = K := rfl
theorem gf_86_14 (h : am_H) (K : am_V → Prop) : am_gf (am_lay 86) 7 14 86 h K = K (.inl (h 86 14)) := rfl
theorem pf_86_14 (K : Prop) : am_pf (am_lay 86) 7 14 K = K := rfl
theorem gf_86_15 (h : am_H) (K : am_V → Prop) : am_gf (am_lay 86) 7 15 86 h K = K (.inr (.inr (some 58))) := rfl
theorem gf_86_16 (h : am_H) (K : am_V → Prop) : am_gf (am_lay 86) 7 16 86 h K = K (.inr (.inr (some 59))) := rfl
theorem gf_86_17 (h : am_H) (K : am_V → Prop) : am_gf (am_lay 86) 7 17 86 h K = K (.inr (.inr (some 60))) := rfl
theorem gf_86_18 (h : am_H) (K : am_V → Prop) : am_gf (am_lay 86) 7 18 86 h K = K (.inr (.inr (some 61))) := rfl
theorem gf_86_19 (h : am_H) (K : am_V → Prop) : am_gf (am_lay 86) 7 19 86 h K = K (.inr (.inr (some 62))) := rfl
theorem gf_86_20 (h : am_H) (K : am_V → Prop) : am_gf (am_lay 86) 7 20 86 h K = K (.inl (h 86 20)) := rfl
theorem pf_86_20 (K : Prop) : am_pf (am_lay 86) 7 20 K = K := rfl
theorem gf_86_21 (h : am_H) (K : am_V → Prop) : am_gf (am_lay 86) 7 21 86 h K = K (.inl (h 86 21)) := rfl
theorem pf_86_21 (K : Prop) : am_pf (am_lay 86) 7 21 K = K := rfl
theorem gf_86_22 (h : am_H) (K : am_V → Prop) : am_gf (am_lay 86) 7 22 86 h K = K (.inr (.inr (some 63))) := rfl
theorem gf_86_23 (h : am_H) (K : am_V → Prop) : am_gf (am_lay 86) 7 23 86 h K = K (.inr (.inr (some 64))) := rfl
theorem gf_86_24 (h : am_H) (K : am_V → Prop) : am_gf (am_lay 86) 7 24 86 h K = K (.inr (.inr (some 65))) := rfl
theorem gf_86_25 (h : am_H) (K : am_V → Prop) : am_gf (am_lay 86) 7 25 86 h K = K (.inr (.inr (some 66))) := rfl
theorem gf_86_26 (h : am_H) (K : am_V → Prop) : am_gf (am_lay 86) 7 26 86 h K = K (.inr (.inr (some 67))) := rfl
theorem gf_86_27 (h : am_H) (K : am_V → Prop) : am_gf (am_lay 86) 7 27 86 h K = K (.inr (.inr (some 68))) := rfl
theorem gf_86_28 (h : am_H) (K : am_V → Prop) : am_gf (am_lay 86) 7 28 86 h K = K (.inr (.inr (some 69))) := rfl
theorem gf_86_29 (h : am_H) (K : am_V → Prop) : am_gf (am_lay 86) 7 29 86 h K = K (.inr (.inr (some 70))) := rfl
theorem gf_86_30 (h : am_H) (K : am_V → Prop) : am_gf (am_lay 86) 7 30 86 h K = K (.inr (.inr (some 71))) := rfl
theorem gf_86_31 (h : am_H) (K : am_V → Prop) : am_gf (am_lay 86) 7 31 86 h K = K (.inr (.inr (some 72))) := rfl
theorem gf_86_32 (h : am_H) (K : am_V → Prop) : am_gf (am_lay 86) 7 32 86 h K = K (.inr (.inr (some 73))) := rfl
theorem gf_86_33 (h : am_H) (K : am_V → Prop) : am_gf (am_lay 86) 7 33 86 h K = K (.inr (.inr (some 74))) := rfl
theorem gf_86_34 (h : am_H) (K : am_V → Prop) : am_gf (am_lay 86) 7 34 86 h K = K (.inl (h 86 34)) := rfl
theorem pf_86_34 (K : Prop) : am_pf (am_lay 86) 7 34 K = K := rfl
theorem ar_0 (K : Nat → Prop) : am_ar (am_lay 0) .int K = K 60 := rfl
theorem al_0 (K : Nat → Prop) : am_al0 (am_lay 0) K = K 60 := rfl
theorem ar_1 (K : Nat → Prop) : am_ar (am_lay 1) .int K = K 8 := rfl
theorem al_1 (K : Nat → Prop) : am_al0 (am_lay 1) K = K 8 := rfl
theorem ar_2 (K : Nat → Prop) : am_ar (am_lay 2) .int K = K 8 := rfl
theorem al_2 (K : Nat → Prop) : am_al0 (am_lay 2) K = K 8 := rfl
theorem ar_3 (K : Nat → Prop) : am_ar (am_lay 3) .int K = K 8 := rfl
theorem al_3 (K : Nat → Prop) : am_al0 (am_lay 3) K = K 8 := rfl
theorem ar_4 (K : Nat → Prop) : am_ar (am_lay 4) .int K = K 8 := rfl
theorem al_4 (K : Nat → Prop) : am_al0 (am_lay 4) K = K 8 := rfl
theorem ar_5 (K : Nat → Prop) : am_ar (am_lay 5) .int K = K 3 := rfl
theorem al_5 (K : Nat → Prop) : am_al0 (am_lay 5) K = K 3 := rfl
theorem ar_6 (K : Nat → Prop) : am_ar (am_lay 6) .int K = K 8 := rfl
theorem al_6 (K : Nat → Prop) : am_al0 (am_lay 6) K = K 8 := rfl
theorem ar_7 (K : Nat → Prop) : am_ar (am_lay 7) .int K = K 8 := rfl
theorem al_7 (K : Nat → Prop) : am_al0 (am_lay 7) K = K 8 := rfl
theorem ar_8 (K : Nat → Prop) : am_ar (am_lay 8) .int K = K 8 := rfl
theorem al_8 (K : Nat → Prop) : am_al0 (am_lay 8) K = K 8 := rfl
theorem ar_9 (K : Nat → Prop) : am_ar (am_lay 9) .int K = K 8 := rfl
theorem al_9 (K : Nat → Prop) : am_al0 (am_lay 9) K = K 8 := rfl
theorem ar_10 (K : Nat → Prop) : am_ar (am_lay 10) .int K = K 3 := rfl
theorem al_10 (K : Nat → Prop) : am_al0 (am_lay 10) K = K 3 := rfl
theorem ar_11 (K : Nat → Prop) : am_ar (am_lay 11) .int K = K 3 := rfl
theorem al_11 (K : Nat → Prop) : am_al0 (am_lay 11) K = K 3 := rfl
theorem ar_12 (K : Nat → Prop) : am_ar (am_lay 12) .int K = K 3 := rfl
theorem al_12 (K : Nat → Prop) : am_al0 (am_lay 12) K = K 3 := rfl
theorem ar_13 (K : Nat → Prop) : am_ar (am_lay 13) .int K = K 3 := rfl
theorem al_13 (K : Nat → Prop) : am_al0 (am_lay 13) K = K 3 := rfl
theorem ar_14 (K : Nat → Prop) : am_ar (am_lay 14) .int K = K 8 := rfl
theorem al_14 (K : Nat → Prop) : am_al0 (am_lay 14) K = K 8 := rfl
theorem ar_15 (K : Nat → Prop) : am_ar (am_lay 15) .int K = K 8 := rfl
theorem al_15 (K : Nat → Prop) : am_al0 (am_lay 15) K = K 8 := rfl
theorem ar_16 (K : Nat → Prop) : am_ar (am_lay 16) .int K = K 8 := rfl
theorem al_16 (K : Nat → Prop) : am_al0 (am_lay 16) K = K 8 := rfl
theorem ar_17 (K : Nat → Prop) : am_ar (am_lay 17) .int K = K 3 := rfl
theorem al_17 (K : Nat → Prop) : am_al0 (am_lay 17) K = K 3 := rfl
theorem ar_18 (K : Nat → Prop) : am_ar (am_lay 18) .int K = K 3 := rfl
theorem al_18 (K : Nat → Prop) : am_al0 (am_lay 18) K = K 3 := rfl
theorem ar_19 (K : Nat → Prop) : am_ar (am_lay 19) .int K = K 3 := rfl
theorem al_19 (K : Nat → Prop) : am_al0 (am_lay 19) K = K 3 := rfl
theorem ar_20 (K : Nat → Prop) : am_ar (am_lay 20) .int K = K 8 := rfl
theorem al_20 (K : Nat → Prop) : am_al0 (am_lay 20) K = K 8 := rfl
theorem ar_21 (K : Nat → Prop) : am_ar (am_lay 21) .int K = K 8 := rfl
theorem al_21 (K : Nat → Prop) : am_al0 (am_lay 21) K = K 8 := rfl
theorem ar_22 (K : Nat → Prop) : am_ar (am_lay 22) .int K = K 8 := rfl
theorem al_22 (K : Nat → Prop) : am_al0 (am_lay 22) K = K 8 := rfl
theorem ar_23 (K : Nat → Prop) : am_ar (am_lay 23) .int K = K 3 := rfl
theorem al_23 (K : Nat → Prop) : am_al0 (am_lay 23) K = K 3 := rfl
theorem ar_24 (K : Nat → Prop) : am_ar (am_lay 24) .int K = K 3 := rfl
theorem al_24 (K : Nat → Prop) : am_al0 (am_lay 24) K = K 3 := rfl
theorem ar_25 (K : Nat → Prop) : am_ar (am_lay 25) .int K = K 3 := rfl
theorem al_25 (K : Nat → Prop) : am_al0 (am_lay 25) K = K 3 := rfl
theorem ar_26 (K : Nat → Prop) : am_ar (am_lay 26) .int K = K 8 := rfl
theorem al_26 (K : Nat → Prop) : am_al0 (am_lay 26) K = K 8 := rfl
theorem ar_27 (K : Nat → Prop) : am_ar (am_lay 27) .int K = K 8 := rfl
theorem al_27 (K : Nat → Prop) : am_al0 (am_lay 27) K = K 8 := rfl
theorem ar_28 (K : Nat → Prop) : am_ar (am_lay 28) .int K = K 8 := rfl
theorem al_28 (K : Nat → Prop) : am_al0 (am_lay 28) K = K 8 := rfl
theorem ar_29 (K : Nat → Prop) : am_ar (am_lay 29) .int K = K 3 := rfl
theorem al_29 (K : Nat → Prop) : am_al0 (am_lay 29) K = K 3 := rfl
theorem ar_30 (K : Nat → Prop) : am_ar (am_lay 30) .int K = K 3 := rfl
theorem al_30 (K : Nat → Prop) : am_al0 (am_lay 30) K = K 3 := rfl
theorem ar_31 (K : Nat → Prop) : am_ar (am_lay 31) .int K = K 3 := rfl
theorem al_31 (K : Nat → Prop) : am_al0 (am_lay 31) K = K 3 := rfl
theorem ar_32 (K : Nat → Prop) : am_ar (am_lay 32) .int K = K 8 := rfl
theorem al_32 (K : Nat → Prop) : am_al0 (am_lay 32) K = K 8 := rfl
theorem ar_33 (K : Nat → Prop) : am_ar (am_lay 33) .int K = K 8 := rfl
theorem al_33 (K : Nat → Prop) : am_al0 (am_lay 33) K = K 8 := rfl
theorem ar_34 (K : Nat → Prop) : am_ar (am_lay 34) .int K = K 8 := rfl
theorem al_34 (K : Nat → Prop) : am_al0 (am_lay 34) K = K 8 := rfl
theorem ar_35 (K : Nat → Prop) : am_ar (am_lay 35) .int K = K 1515 := rfl
theorem al_35 (K : Nat → Prop) : am_al0 (am_lay 35) K = K 1515 := rfl
theorem ar_36 (K : Nat → Prop) : am_ar (am_lay 36) .int K = K 64 := rfl
theorem al_36 (K : Nat → Prop) : am_al0 (am_lay 36) K = K 64 := rfl
theorem ar_37 (K : Nat → Prop) : am_ar (am_lay 37) .int K = K 16 := rfl
theorem al_37 (K : Nat → Prop) : am_al0 (am_lay 37) K = K 16 := rfl
theorem ar_38 (K : Nat → Prop) : am_ar (am_lay 38) .int K = K 16 := rfl
theorem al_38 (K : Nat → Prop) : am_al0 (am_lay 38) K = K 16 := rfl
theorem ar_39 (K : Nat → Prop) : am_ar (am_lay 39) .int K = K 16 := rfl
theorem al_39 (K : Nat → Prop) : am_al0 (am_lay 39) K = K 16 := rfl
theorem ar_40 (K : Nat → Prop) : am_ar (am_lay 40) .boolean K = K 16 := rfl
theorem al_40 (K : Nat → Prop) : am_al0 (am_lay 40) K = K 16 := rfl
theorem ar_41 (K : Nat → Prop) : am_ar (am_lay 41) .int K = K 16 := rfl
theorem al_41 (K : Nat → Prop) : am_al0 (am_lay 41) K = K 16 := rfl
theorem ar_42 (K : Nat → Prop) : am_ar (am_lay 42) .int K = K 8080 := rfl
theorem al_42 (K : Nat → Prop) : am_al0 (am_lay 42) K = K 8080 := rfl
theorem ar_43 (K : Nat → Prop) : am_ar (am_lay 43) .int K = K 8 := rfl
theorem al_43 (K : Nat → Prop) : am_al0 (am_lay 43) K = K 8 := rfl
theorem ar_44 (K : Nat → Prop) : am_ar (am_lay 44) .int K = K 64 := rfl
theorem al_44 (K : Nat → Prop) : am_al0 (am_lay 44) K = K 64 := rfl
theorem ar_45 (K : Nat → Prop) : am_ar (am_lay 45) .int K = K 2048 := rfl
theorem al_45 (K : Nat → Prop) : am_al0 (am_lay 45) K = K 2048 := rfl
theorem ar_46 (K : Nat → Prop) : am_ar (am_lay 46) .int K = K 256 := rfl
theorem al_46 (K : Nat → Prop) : am_al0 (am_lay 46) K = K 256 := rfl
theorem ar_47 (K : Nat → Prop) : am_ar (am_lay 47) .long K = K 9 := rfl
theorem al_47 (K : Nat → Prop) : am_al0 (am_lay 47) K = K 9 := rfl
theorem ar_48 (K : Nat → Prop) : am_ar (am_lay 48) .int K = K 3 := rfl
theorem al_48 (K : Nat → Prop) : am_al0 (am_lay 48) K = K 3 := rfl
theorem ar_49 (K : Nat → Prop) : am_ar (am_lay 49) .int K = K 3 := rfl
theorem al_49 (K : Nat → Prop) : am_al0 (am_lay 49) K = K 3 := rfl
theorem ar_50 (K : Nat → Prop) : am_ar (am_lay 50) .int K = K 60 := rfl
theorem al_50 (K : Nat → Prop) : am_al0 (am_lay 50) K = K 60 := rfl
theorem ar_51 (K : Nat → Prop) : am_ar (am_lay 51) .int K = K 8 := rfl
theorem al_51 (K : Nat → Prop) : am_al0 (am_lay 51) K = K 8 := rfl
theorem ar_52 (K : Nat → Prop) : am_ar (am_lay 52) .int K = K 8 := rfl
theorem al_52 (K : Nat → Prop) : am_al0 (am_lay 52) K = K 8 := rfl
theorem ar_53 (K : Nat → Prop) : am_ar (am_lay 53) .int K = K 8 := rfl
theorem al_53 (K : Nat → Prop) : am_al0 (am_lay 53) K = K 8 := rfl
theorem ar_54 (K : Nat → Prop) : am_ar (am_lay 54) .int K = K 8 := rfl
theorem al_54 (K : Nat → Prop) : am_al0 (am_lay 54) K = K 8 := rfl
theorem ar_55 (K : Nat → Prop) : am_ar (am_lay 55) .int K = K 3 := rfl
theorem al_55 (K : Nat → Prop) : am_al0 (am_lay 55) K = K 3 := rfl
theorem ar_56 (K : Nat → Prop) : am_ar (am_lay 56) .int K = K 3 := rfl
theorem al_56 (K : Nat → Prop) : am_al0 (am_lay 56) K = K 3 := rfl
theorem ar_57 (K : Nat → Prop) : am_ar (am_lay 57) .int K = K 3 := rfl
theorem al_57 (K : Nat → Prop) : am_al0 (am_lay 57) K = K 3 := rfl
theorem ar_58 (K : Nat → Prop) : am_ar (am_lay 58) .int K = K 8 := rfl
theorem al_58 (K : Nat → Prop) : am_al0 (am_lay 58) K = K 8 := rfl
theorem ar_59 (K : Nat → Prop) : am_ar (am_lay 59) .int K = K 8 := rfl
theorem al_59 (K : Nat → Prop) : am_al0 (am_lay 59) K = K 8 := rfl
theorem ar_60 (K : Nat → Prop) : am_ar (am_lay 60) .int K = K 8 := rfl
theorem al_60 (K : Nat → Prop) : am_al0 (am_lay 60) K = K 8 := rfl
theorem ar_61 (K : Nat → Prop) : am_ar (am_lay 61) .int K = K 8 := rfl
theorem al_61 (K : Nat → Prop) : am_al0 (am_lay 61) K = K 8 := rfl
theorem ar_62 (K : Nat → Prop) : am_ar (am_lay 62) .int K = K 3 := rfl
theorem al_62 (K : Nat → Prop) : am_al0 (am_lay 62) K = K 3 := rfl
theorem ar_63 (K : Nat → Prop) : am_ar (am_lay 63) .int K = K 8 := rfl
theorem al_63 (K : Nat → Prop) : am_al0 (am_lay 63) K = K 8 := rfl
theorem ar_64 (K : Nat → Prop) : am_ar (am_lay 64) .int K = K 8 := rfl
theorem al_64 (K : Nat → Prop) : am_al0 (am_lay 64) K = K 8 := rfl
theorem ar_65 (K : Nat → Prop) : am_ar (am_lay 65) .int K = K 8 := rfl
theorem al_65 (K : Nat → Prop) : am_al0 (am_lay 65) K = K 8 := rfl
theorem ar_66 (K : Nat → Prop) : am_ar (am_lay 66) .int K = K 80 := rfl
theorem al_66 (K : Nat → Prop) : am_al0 (am_lay 66) K = K 80 := rfl
theorem ar_67 (K : Nat → Prop) : am_ar (am_lay 67) .boolean K = K 2 := rfl
theorem al_67 (K : Nat → Prop) : am_al0 (am_lay 67) K = K 2 := rfl
theorem ar_68 (K : Nat → Prop) : am_ar (am_lay 68) .int K = K 8 := rfl
theorem al_68 (K : Nat → Prop) : am_al0 (am_lay 68) K = K 8 := rfl
theorem ar_69 (K : Nat → Prop) : am_ar (am_lay 69) .boolean K = K 8 := rfl
theorem al_69 (K : Nat → Prop) : am_al0 (am_lay 69) K = K 8 := rfl
theorem ar_70 (K : Nat → Prop) : am_ar (am_lay 70) .int K = K 8 := rfl
theorem al_70 (K : Nat → Prop) : am_al0 (am_lay 70) K = K 8 := rfl
theorem ar_71 (K : Nat → Prop) : am_ar (am_lay 71) .int K = K 2048 := rfl
theorem al_71 (K : Nat → Prop) : am_al0 (am_lay 71) K = K 2048 := rfl
theorem ar_72 (K : Nat → Prop) : am_ar (am_lay 72) .int K = K 432 := rfl
theorem al_72 (K : Nat → Prop) : am_al0 (am_lay 72) K = K 432 := rfl
theorem ar_73 (K : Nat → Prop) : am_ar (am_lay 73) .int K = K 3 := rfl
theorem al_73 (K : Nat → Prop) : am_al0 (am_lay 73) K = K 3 := rfl
theorem ar_74 (K : Nat → Prop) : am_ar (am_lay 74) .int K = K 3 := rfl
theorem al_74 (K : Nat → Prop) : am_al0 (am_lay 74) K = K 3 := rfl
end
section
theorem mm_0 : am_m 0 = (yX0_tryAll, cX0_tryAll, 4, none, 0, false, 1, 3, 70, am_c0, [3195, 1007, 3193, 3194]) := rfl
theorem ss_0 : am_ss 0 = false := by rw [am_ss, mm_0]
theorem ml_0 : am_ml 0 = 4 := by rw [am_ml, mm_0]
theorem oc_0 : am_oc 0 = 0 := by rw [am_oc, mm_0]
theorem cd_0 : am_code 0 = am_c0 := by rw [am_code, mm_0]
theorem mm_1 : am_m 1 = (yX0_tryInmost, cX0_tryInmost, 4, none, 0, false, 2, 2, 43, am_c1, [3213, 1007, 3212, 25]) := rfl
theorem ss_1 : am_ss 1 = false := by rw [am_ss, mm_1]
theorem ml_1 : am_ml 1 = 4 := by rw [am_ml, mm_1]
theorem oc_1 : am_oc 1 = 0 := by rw [am_oc, mm_1]
theorem cd_1 : am_code 1 = am_c1 := by rw [am_code, mm_1]
theorem mm_2 : am_m 2 = (yX0_widen, cX0_widen, 3, none, 0, false, 2, 1, 21, am_c2, [3217, 1007, 3216, 26]) := rfl
theorem ss_2 : am_ss 2 = false := by rw [am_ss, mm_2]
theorem ml_2 : am_ml 2 = 3 := by rw [am_ml, mm_2]
theorem oc_2 : am_oc 2 = 0 := by rw [am_oc, mm_2]
theorem cd_2 : am_code 2 = am_c2 := by rw [am_code, mm_2]
theorem mm_3 : am_m 3 = (yX0_fits, cX0_fits, 4, some .boolean, 0, false, 3, 0, 0, am_c3, [3209, 1007, 3208, 24]) := rfl
theorem ss_3 : am_ss 3 = false := by rw [am_ss, mm_3]
theorem ml_3 : am_ml 3 = 4 := by rw [am_ml, mm_3]
theorem oc_3 : am_oc 3 = 0 := by rw [am_oc, mm_3]
theorem cd_3 : am_code 3 = am_c3 := by rw [am_code, mm_3]
theorem mm_4 : am_m 4 = (yX0_ruleOut, cX0_ruleOut, 8, none, 0, false, 3, 2, 43, am_c4, [3203, 1007, 3202, 23]) := rfl
theorem ss_4 : am_ss 4 = false := by rw [am_ss, mm_4]
theorem ml_4 : am_ml 4 = 8 := by rw [am_ml, mm_4]
theorem oc_4 : am_oc 4 = 0 := by rw [am_oc, mm_4]
theorem cd_4 : am_code 4 = am_c4 := by rw [am_code, mm_4]
theorem mm_5 : am_m 5 = (yX1_startWith, cX1_startWith, 3, none, 1, false, 1, 2, 43, am_c5, [2111, 1004, 2109, 2110]) := rfl
theorem ss_5 : am_ss 5 = false := by rw [am_ss, mm_5]
theorem ml_5 : am_ml 5 = 3 := by rw [am_ml, mm_5]
theorem oc_5 : am_oc 5 = 1 := by rw [am_oc, mm_5]
theorem cd_5 : am_code 5 = am_c5 := by rw [am_code, mm_5]
theorem mm_6 : am_m 6 = (yX1_takeFrom, cX1_takeFrom, 2, none, 1, false, 1, 1, 48, am_c6, [3017, 1004, 3015, 3016]) := rfl
theorem ss_6 : am_ss 6 = false := by rw [am_ss, mm_6]
theorem ml_6 : am_ml 6 = 2 := by rw [am_ml, mm_6]
theorem oc_6 : am_oc 6 = 1 := by rw [am_oc, mm_6]
theorem cd_6 : am_code 6 = am_c6 := by rw [am_code, mm_6]
theorem mm_7 : am_m 7 = (yX1_clearBrakes, cX1_clearBrakes, 1, none, 1, false, 0, 1, 23, am_c7, [2115, 1004, 2113, 2114]) := rfl
theorem ss_7 : am_ss 7 = false := by rw [am_ss, mm_7]
theorem ml_7 : am_ml 7 = 1 := by rw [am_ml, mm_7]
theorem oc_7 : am_oc 7 = 1 := by rw [am_oc, mm_7]
theorem cd_7 : am_code 7 = am_c7 := by rw [am_code, mm_7]
theorem mm_8 : am_m 8 = (yX1_setBrake, cX1_setBrake, 4, none, 1, false, 3, 0, 0, am_c8, [2161, 1004, 2159, 2160]) := rfl
theorem ss_8 : am_ss 8 = false := by rw [am_ss, mm_8]
theorem ml_8 : am_ml 8 = 4 := by rw [am_ml, mm_8]
theorem oc_8 : am_oc 8 = 1 := by rw [am_oc, mm_8]
theorem cd_8 : am_code 8 = am_c8 := by rw [am_code, mm_8]
theorem mm_9 : am_m 9 = (yX1_slow, cX1_slow, 4, none, 1, false, 2, 1, 21, am_c9, [2169, 1004, 2167, 2168]) := rfl
theorem ss_9 : am_ss 9 = false := by rw [am_ss, mm_9]
theorem ml_9 : am_ml 9 = 4 := by rw [am_ml, mm_9]
theorem oc_9 : am_oc 9 = 1 := by rw [am_oc, mm_9]
theorem cd_9 : am_code 9 = am_c9 := by rw [am_code, mm_9]
theorem mm_10 : am_m 10 = (yX1_braked, cX1_braked, 3, some .int, 1, false, 0, 0, 0, am_c10, [3235, 1004, 3233, 3234]) := rfl
theorem ss_10 : am_ss 10 = false := by rw [am_ss, mm_10]
theorem ml_10 : am_ml 10 = 3 := by rw [am_ml, mm_10]
theorem oc_10 : am_oc 10 = 1 := by rw [am_oc, mm_10]
theorem cd_10 : am_code 10 = am_c10 := by rw [am_code, mm_10]
theorem mm_11 : am_m 11 = (yX1_addSeen, cX1_addSeen, 4, none, 1, false, 3, 0, 0, am_c11, [3183, 1004, 3181, 3182]) := rfl
theorem ss_11 : am_ss 11 = false := by rw [am_ss, mm_11]
theorem ml_11 : am_ml 11 = 4 := by rw [am_ml, mm_11]
theorem oc_11 : am_oc 11 = 1 := by rw [am_oc, mm_11]
theorem cd_11 : am_code 11 = am_c11 := by rw [am_code, mm_11]
theorem mm_12 : am_m 12 = (yX2_clear, cX2_clear, 1, none, 2, false, 0, 1, 23, am_c12, [2066, 1003, 2064, 2065]) := rfl
theorem ss_12 : am_ss 12 = false := by rw [am_ss, mm_12]
theorem ml_12 : am_ml 12 = 1 := by rw [am_ml, mm_12]
theorem oc_12 : am_oc 12 = 2 := by rw [am_oc, mm_12]
theorem cd_12 : am_code 12 = am_c12 := by rw [am_code, mm_12]
theorem mm_13 : am_m 13 = (yX2_takeFrom, cX2_takeFrom, 2, none, 2, false, 1, 1, 48, am_c13, [2104, 1003, 2102, 2103]) := rfl
theorem ss_13 : am_ss 13 = false := by rw [am_ss, mm_13]
theorem ml_13 : am_ml 13 = 2 := by rw [am_ml, mm_13]
theorem oc_13 : am_oc 13 = 2 := by rw [am_oc, mm_13]
theorem cd_13 : am_code 13 = am_c13 := by rw [am_code, mm_13]
theorem mm_14 : am_m 14 = (yX2_hasGate, cX2_hasGate, 2, some .boolean, 2, false, 1, 0, 0, am_c14, [2144, 1003, 2142, 2143]) := rfl
theorem ss_14 : am_ss 14 = false := by rw [am_ss, mm_14]
theorem ml_14 : am_ml 14 = 2 := by rw [am_ml, mm_14]
theorem oc_14 : am_oc 14 = 2 := by rw [am_oc, mm_14]
theorem cd_14 : am_code 14 = am_c14 := by rw [am_code, mm_14]
theorem mm_15 : am_m 15 = (yX2_hasGates, cX2_hasGates, 2, some .boolean, 2, false, 1, 0, 0, am_c15, [3031, 1003, 3029, 3030]) := rfl
theorem ss_15 : am_ss 15 = false := by rw [am_ss, mm_15]
theorem ml_15 : am_ml 15 = 2 := by rw [am_ml, mm_15]
theorem oc_15 : am_oc 15 = 2 := by rw [am_oc, mm_15]
theorem cd_15 : am_code 15 = am_c15 := by rw [am_code, mm_15]
theorem mm_16 : am_m 16 = (yX2_wrap, cX2_wrap, 2, some .int, 2, false, 1, 1, 22, am_c16, [2129, 1003, 2127, 2128]) := rfl
theorem ss_16 : am_ss 16 = false := by rw [am_ss, mm_16]
theorem ml_16 : am_ml 16 = 2 := by rw [am_ml, mm_16]
theorem oc_16 : am_oc 16 = 2 := by rw [am_oc, mm_16]
theorem cd_16 : am_code 16 = am_c16 := by rw [am_code, mm_16]
theorem mm_17 : am_m 17 = (yX2_walk, cX2_walk, 4, some .int, 2, false, 2, 1, 21, am_c17, [3064, 1003, 3062, 3063]) := rfl
theorem ss_17 : am_ss 17 = false := by rw [am_ss, mm_17]
theorem ml_17 : am_ml 17 = 4 := by rw [am_ml, mm_17]
theorem oc_17 : am_oc 17 = 2 := by rw [am_oc, mm_17]
theorem cd_17 : am_code 17 = am_c17 := by rw [am_code, mm_17]
theorem mm_18 : am_m 18 = (yX3_firstFault, cX3_firstFault, 4, some .int, 3, false, 2, 3, 65, am_c18, [2062, 1002, 2060, 2061]) := rfl
theorem ss_18 : am_ss 18 = false := by rw [am_ss, mm_18]
theorem ml_18 : am_ml 18 = 4 := by rw [am_ml, mm_18]
theorem oc_18 : am_oc 18 = 3 := by rw [am_oc, mm_18]
theorem cd_18 : am_code 18 = am_c18 := by rw [am_code, mm_18]
theorem mm_19 : am_m 19 = (yX3_takes, cX3_takes, 3, some .boolean, 3, false, 1, 2, 43, am_c19, [2073, 1002, 2072, 0]) := rfl
theorem ss_19 : am_ss 19 = false := by rw [am_ss, mm_19]
theorem ml_19 : am_ml 19 = 3 := by rw [am_ml, mm_19]
theorem oc_19 : am_oc 19 = 3 := by rw [am_oc, mm_19]
theorem cd_19 : am_code 19 = am_c19 := by rw [am_code, mm_19]
theorem mm_20 : am_m 20 = (yX3_takesLetter, cX3_takesLetter, 2, some .boolean, 3, false, 1, 0, 0, am_c20, [2077, 1002, 2076, 1]) := rfl
theorem ss_20 : am_ss 20 = false := by rw [am_ss, mm_20]
theorem ml_20 : am_ml 20 = 2 := by rw [am_ml, mm_20]
theorem oc_20 : am_oc 20 = 3 := by rw [am_oc, mm_20]
theorem cd_20 : am_code 20 = am_c20 := by rw [am_code, mm_20]
theorem mm_21 : am_m 21 = (yX3_takesParts, cX3_takesParts, 2, some .boolean, 3, false, 1, 0, 0, am_c21, [2081, 1002, 2080, 2]) := rfl
theorem ss_21 : am_ss 21 = false := by rw [am_ss, mm_21]
theorem ml_21 : am_ml 21 = 2 := by rw [am_ml, mm_21]
theorem oc_21 : am_oc 21 = 3 := by rw [am_oc, mm_21]
theorem cd_21 : am_code 21 = am_c21 := by rw [am_code, mm_21]
theorem mm_22 : am_m 22 = (yX3_takesPace, cX3_takesPace, 2, some .boolean, 3, false, 1, 1, 20, am_c22, [2096, 1002, 2095, 5]) := rfl
theorem ss_22 : am_ss 22 = false := by rw [am_ss, mm_22]
theorem ml_22 : am_ml 22 = 2 := by rw [am_ml, mm_22]
theorem oc_22 : am_oc 22 = 3 := by rw [am_oc, mm_22]
theorem cd_22 : am_code 22 = am_c22 := by rw [am_code, mm_22]
theorem mm_23 : am_m 23 = (yX3_takesGate, cX3_takesGate, 2, some .boolean, 3, false, 1, 1, 22, am_c23, [2085, 1002, 2084, 3]) := rfl
theorem ss_23 : am_ss 23 = false := by rw [am_ss, mm_23]
theorem ml_23 : am_ml 23 = 2 := by rw [am_ml, mm_23]
theorem oc_23 : am_oc 23 = 3 := by rw [am_oc, mm_23]
theorem cd_23 : am_code 23 = am_c23 := by rw [am_code, mm_23]
theorem mm_24 : am_m 24 = (yX3_addsGate, cX3_addsGate, 3, some .boolean, 3, false, 1, 0, 0, am_c24, [2092, 1002, 2091, 4]) := rfl
theorem ss_24 : am_ss 24 = false := by rw [am_ss, mm_24]
theorem ml_24 : am_ml 24 = 3 := by rw [am_ml, mm_24]
theorem oc_24 : am_oc 24 = 3 := by rw [am_oc, mm_24]
theorem cd_24 : am_code 24 = am_c24 := by rw [am_code, mm_24]
theorem mm_25 : am_m 25 = (yX4_pairUp, cX4_pairUp, 4, none, 4, false, 0, 3, 65, am_c25, [2120, 1005, 2118, 2119]) := rfl
theorem ss_25 : am_ss 25 = false := by rw [am_ss, mm_25]
theorem ml_25 : am_ml 25 = 4 := by rw [am_ml, mm_25]
theorem oc_25 : am_oc 25 = 4 := by rw [am_oc, mm_25]
theorem cd_25 : am_code 25 = am_c25 := by rw [am_code, mm_25]
theorem mm_26 : am_m 26 = (yX4_addPair, cX4_addPair, 3, none, 4, false, 2, 2, 43, am_c26, [2125, 1005, 2124, 6]) := rfl
theorem ss_26 : am_ss 26 = false := by rw [am_ss, mm_26]
theorem ml_26 : am_ml 26 = 3 := by rw [am_ml, mm_26]
theorem oc_26 : am_oc 26 = 4 := by rw [am_oc, mm_26]
theorem cd_26 : am_code 26 = am_c26 := by rw [am_code, mm_26]
theorem mm_27 : am_m 27 = (yX4_lay, cX4_lay, 3, none, 4, false, 1, 2, 43, am_c27, [2186, 1005, 2184, 2185]) := rfl
theorem ss_27 : am_ss 27 = false := by rw [am_ss, mm_27]
theorem ml_27 : am_ml 27 = 3 := by rw [am_ml, mm_27]
theorem oc_27 : am_oc 27 = 4 := by rw [am_oc, mm_27]
theorem cd_27 : am_code 27 = am_c27 := by rw [am_code, mm_27]
theorem mm_28 : am_m 28 = (yX4_layRing, cX4_layRing, 7, none, 4, false, 4, 0, 0, am_c28, [2192, 1005, 2191, 7]) := rfl
theorem ss_28 : am_ss 28 = false := by rw [am_ss, mm_28]
theorem ml_28 : am_ml 28 = 7 := by rw [am_ml, mm_28]
theorem oc_28 : am_oc 28 = 4 := by rw [am_oc, mm_28]
theorem cd_28 : am_code 28 = am_c28 := by rw [am_code, mm_28]
theorem mm_29 : am_m 29 = (yX4_fold, cX4_fold, 3, some .int, 4, false, 1, 1, 21, am_c29, [2196, 1005, 2194, 2195]) := rfl
theorem ss_29 : am_ss 29 = false := by rw [am_ss, mm_29]
theorem ml_29 : am_ml 29 = 3 := by rw [am_ml, mm_29]
theorem oc_29 : am_oc 29 = 4 := by rw [am_oc, mm_29]
theorem cd_29 : am_code 29 = am_c29 := by rw [am_code, mm_29]
theorem mm_30 : am_m 30 = (yX4_horizonFrom, cX4_horizonFrom, 2, some .int, 4, false, 1, 1, 21, am_c30, [2239, 1005, 2237, 2238]) := rfl
theorem ss_30 : am_ss 30 = false := by rw [am_ss, mm_30]
theorem ml_30 : am_ml 30 = 2 := by rw [am_ml, mm_30]
theorem oc_30 : am_oc 30 = 4 := by rw [am_oc, mm_30]
theorem cd_30 : am_code 30 = am_c30 := by rw [am_code, mm_30]
theorem mm_31 : am_m 31 = (yX4_placeAt, cX4_placeAt, 4, some .int, 4, false, 2, 2, 43, am_c31, [2200, 1005, 2198, 2199]) := rfl
theorem ss_31 : am_ss 31 = false := by rw [am_ss, mm_31]
theorem ml_31 : am_ml 31 = 4 := by rw [am_ml, mm_31]
theorem oc_31 : am_oc 31 = 4 := by rw [am_oc, mm_31]
theorem cd_31 : am_code 31 = am_c31 := by rw [am_code, mm_31]
theorem mm_32 : am_m 32 = (yX4_atOnePlace, cX4_atOnePlace, 7, some .boolean, 4, false, 2, 3, 66, am_c32, [3041, 1005, 3039, 3040]) := rfl
theorem ss_32 : am_ss 32 = false := by rw [am_ss, mm_32]
theorem ml_32 : am_ml 32 = 7 := by rw [am_ml, mm_32]
theorem oc_32 : am_oc 32 = 4 := by rw [am_oc, mm_32]
theorem cd_32 : am_code 32 = am_c32 := by rw [am_code, mm_32]
theorem mm_33 : am_m 33 = (yX4_joinOf, cX4_joinOf, 4, some .int, 4, false, 2, 1, 21, am_c33, [2212, 1005, 2210, 2211]) := rfl
theorem ss_33 : am_ss 33 = false := by rw [am_ss, mm_33]
theorem ml_33 : am_ml 33 = 4 := by rw [am_ml, mm_33]
theorem oc_33 : am_oc 33 = 4 := by rw [am_oc, mm_33]
theorem cd_33 : am_code 33 = am_c33 := by rw [am_code, mm_33]
theorem mm_34 : am_m 34 = (yX4_isOpen, cX4_isOpen, 3, some .boolean, 4, false, 2, 2, 43, am_c34, [2217, 1005, 2215, 2216]) := rfl
theorem ss_34 : am_ss 34 = false := by rw [am_ss, mm_34]
theorem ml_34 : am_ml 34 = 3 := by rw [am_ml, mm_34]
theorem oc_34 : am_oc 34 = 4 := by rw [am_oc, mm_34]
theorem cd_34 : am_code 34 = am_c34 := by rw [am_code, mm_34]
theorem mm_35 : am_m 35 = (yX4_isPair, cX4_isPair, 2, some .boolean, 4, false, 1, 0, 0, am_c35, [2221, 1005, 2220, 9]) := rfl
theorem ss_35 : am_ss 35 = false := by rw [am_ss, mm_35]
theorem ml_35 : am_ml 35 = 2 := by rw [am_ml, mm_35]
theorem oc_35 : am_oc 35 = 4 := by rw [am_oc, mm_35]
theorem cd_35 : am_code 35 = am_c35 := by rw [am_code, mm_35]
theorem mm_36 : am_m 36 = (yX4_openAt, cX4_openAt, 5, some .boolean, 4, false, 2, 0, 0, am_c36, [2226, 1005, 2225, 10]) := rfl
theorem ss_36 : am_ss 36 = false := by rw [am_ss, mm_36]
theorem ml_36 : am_ml 36 = 5 := by rw [am_ml, mm_36]
theorem oc_36 : am_oc 36 = 4 := by rw [am_oc, mm_36]
theorem cd_36 : am_code 36 = am_c36 := by rw [am_code, mm_36]
theorem mm_37 : am_m 37 = (yX4_waitFor, cX4_waitFor, 9, some .int, 4, false, 2, 2, 43, am_c37, [2234, 1005, 2232, 2233]) := rfl
theorem ss_37 : am_ss 37 = false := by rw [am_ss, mm_37]
theorem ml_37 : am_ml 37 = 9 := by rw [am_ml, mm_37]
theorem oc_37 : am_oc 37 = 4 := by rw [am_oc, mm_37]
theorem cd_37 : am_code 37 = am_c37 := by rw [am_code, mm_37]
theorem mm_38 : am_m 38 = (yX4_rememberWaits, cX4_rememberWaits, 8, none, 4, false, 4, 0, 0, am_c38, [3003, 1005, 3002, 11]) := rfl
theorem ss_38 : am_ss 38 = false := by rw [am_ss, mm_38]
theorem ml_38 : am_ml 38 = 8 := by rw [am_ml, mm_38]
theorem oc_38 : am_oc 38 = 4 := by rw [am_oc, mm_38]
theorem cd_38 : am_code 38 = am_c38 := by rw [am_code, mm_38]
theorem mm_39 : am_m 39 = (yX5_spread, cX5_spread, 7, none, 5, false, 2, 4, 95, am_c39, [3050, 1006, 3048, 3049]) := rfl
theorem ss_39 : am_ss 39 = false := by rw [am_ss, mm_39]
theorem ml_39 : am_ml 39 = 7 := by rw [am_ml, mm_39]
theorem oc_39 : am_oc 39 = 5 := by rw [am_oc, mm_39]
theorem cd_39 : am_code 39 = am_c39 := by rw [am_code, mm_39]
theorem mm_40 : am_m 40 = (yX5_soonestOf, cX5_soonestOf, 5, some .int, 5, false, 1, 0, 0, am_c40, [3056, 1006, 3055, 12]) := rfl
theorem ss_40 : am_ss 40 = false := by rw [am_ss, mm_40]
theorem ml_40 : am_ml 40 = 5 := by rw [am_ml, mm_40]
theorem oc_40 : am_oc 40 = 5 := by rw [am_oc, mm_40]
theorem cd_40 : am_code 40 = am_c40 := by rw [am_code, mm_40]
theorem mm_41 : am_m 41 = (yX5_reach, cX5_reach, 5, some .int, 5, false, 3, 3, 71, am_c41, [3060, 1006, 3059, 13]) := rfl
theorem ss_41 : am_ss 41 = false := by rw [am_ss, mm_41]
theorem ml_41 : am_ml 41 = 5 := by rw [am_ml, mm_41]
theorem oc_41 : am_oc 41 = 5 := by rw [am_oc, mm_41]
theorem cd_41 : am_code 41 = am_c41 := by rw [am_code, mm_41]
theorem mm_42 : am_m 42 = (yX5_gateOfStep, cX5_gateOfStep, 7, some .int, 5, false, 3, 6, 141, am_c42, [3083, 1006, 3081, 3082]) := rfl
theorem ss_42 : am_ss 42 = false := by rw [am_ss, mm_42]
theorem ml_42 : am_ml 42 = 7 := by rw [am_ml, mm_42]
theorem oc_42 : am_oc 42 = 5 := by rw [am_oc, mm_42]
theorem cd_42 : am_code 42 = am_c42 := by rw [am_code, mm_42]
theorem mm_43 : am_m 43 = (yX5_stepsTo, cX5_stepsTo, 5, some .int, 5, false, 2, 5, 117, am_c43, [3087, 1006, 3086, 14]) := rfl
theorem ss_43 : am_ss 43 = false := by rw [am_ss, mm_43]
theorem ml_43 : am_ml 43 = 5 := by rw [am_ml, mm_43]
theorem oc_43 : am_oc 43 = 5 := by rw [am_oc, mm_43]
theorem cd_43 : am_code 43 = am_c43 := by rw [am_code, mm_43]
theorem mm_44 : am_m 44 = (yX5_gateAhead, cX5_gateAhead, 3, some .int, 5, false, 1, 4, 95, am_c44, [3091, 1006, 3090, 15]) := rfl
theorem ss_44 : am_ss 44 = false := by rw [am_ss, mm_44]
theorem ml_44 : am_ml 44 = 3 := by rw [am_ml, mm_44]
theorem oc_44 : am_oc 44 = 5 := by rw [am_oc, mm_44]
theorem cd_44 : am_code 44 = am_c44 := by rw [am_code, mm_44]
theorem mm_45 : am_m 45 = (yX5_lastStart, cX5_lastStart, 9, some .int, 5, false, 3, 5, 121, am_c45, [3099, 1006, 3097, 3098]) := rfl
theorem ss_45 : am_ss 45 = false := by rw [am_ss, mm_45]
theorem ml_45 : am_ml 45 = 9 := by rw [am_ml, mm_45]
theorem oc_45 : am_oc 45 = 5 := by rw [am_oc, mm_45]
theorem cd_45 : am_code 45 = am_c45 := by rw [am_code, mm_45]
theorem mm_46 : am_m 46 = (yX5_endOfRound, cX5_endOfRound, 8, some .int, 5, false, 3, 6, 147, am_c46, [3108, 1006, 3106, 3107]) := rfl
theorem ss_46 : am_ss 46 = false := by rw [am_ss, mm_46]
theorem ml_46 : am_ml 46 = 8 := by rw [am_ml, mm_46]
theorem oc_46 : am_oc 46 = 5 := by rw [am_oc, mm_46]
theorem cd_46 : am_code 46 = am_c46 := by rw [am_code, mm_46]
theorem mm_47 : am_m 47 = (yX5_addStops, cX5_addStops, 7, none, 5, false, 2, 5, 121, am_c47, [3112, 1006, 3111, 16]) := rfl
theorem ss_47 : am_ss 47 = false := by rw [am_ss, mm_47]
theorem ml_47 : am_ml 47 = 7 := by rw [am_ml, mm_47]
theorem oc_47 : am_oc 47 = 5 := by rw [am_oc, mm_47]
theorem cd_47 : am_code 47 = am_c47 := by rw [am_code, mm_47]
theorem mm_48 : am_m 48 = (yX5_longest, cX5_longest, 5, some .int, 5, false, 2, 5, 121, am_c48, [3148, 1006, 3146, 3147]) := rfl
theorem ss_48 : am_ss 48 = false := by rw [am_ss, mm_48]
theorem ml_48 : am_ml 48 = 5 := by rw [am_ml, mm_48]
theorem oc_48 : am_oc 48 = 5 := by rw [am_oc, mm_48]
theorem cd_48 : am_code 48 = am_c48 := by rw [am_code, mm_48]
theorem mm_49 : am_m 49 = (yX5_rememberAll, cX5_rememberAll, 4, none, 5, false, 1, 5, 121, am_c49, [3136, 1006, 3134, 3135]) := rfl
theorem ss_49 : am_ss 49 = false := by rw [am_ss, mm_49]
theorem ml_49 : am_ml 49 = 4 := by rw [am_ml, mm_49]
theorem oc_49 : am_oc 49 = 5 := by rw [am_oc, mm_49]
theorem cd_49 : am_code 49 = am_c49 := by rw [am_code, mm_49]
theorem mm_50 : am_m 50 = (yX5_countLater, cX5_countLater, 5, some .int, 5, false, 1, 5, 121, am_c50, [3140, 1006, 3138, 3139]) := rfl
theorem ss_50 : am_ss 50 = false := by rw [am_ss, mm_50]
theorem ml_50 : am_ml 50 = 5 := by rw [am_ml, mm_50]
theorem oc_50 : am_oc 50 = 5 := by rw [am_oc, mm_50]
theorem cd_50 : am_code 50 = am_c50 := by rw [am_code, mm_50]
theorem mm_51 : am_m 51 = (yX5_fewestPumps, cX5_fewestPumps, 4, some .int, 5, false, 0, 1, 22, am_c51, [3170, 1006, 3168, 3169]) := rfl
theorem ss_51 : am_ss 51 = false := by rw [am_ss, mm_51]
theorem ml_51 : am_ml 51 = 4 := by rw [am_ml, mm_51]
theorem oc_51 : am_oc 51 = 5 := by rw [am_oc, mm_51]
theorem cd_51 : am_code 51 = am_c51 := by rw [am_code, mm_51]
theorem mm_52 : am_m 52 = (yX5_collectPumpSets, cX5_collectPumpSets, 4, none, 5, false, 1, 6, 144, am_c52, [3157, 1006, 3155, 3156]) := rfl
theorem ss_52 : am_ss 52 = false := by rw [am_ss, mm_52]
theorem ml_52 : am_ml 52 = 4 := by rw [am_ml, mm_52]
theorem oc_52 : am_oc 52 = 5 := by rw [am_oc, mm_52]
theorem cd_52 : am_code 52 = am_c52 := by rw [am_code, mm_52]
theorem mm_53 : am_m 53 = (yX5_gatesInTime, cX5_gatesInTime, 5, some .int, 5, false, 2, 0, 0, am_c53, [3162, 1006, 3161, 20]) := rfl
theorem ss_53 : am_ss 53 = false := by rw [am_ss, mm_53]
theorem ml_53 : am_ml 53 = 5 := by rw [am_ml, mm_53]
theorem oc_53 : am_oc 53 = 5 := by rw [am_oc, mm_53]
theorem cd_53 : am_code 53 = am_c53 := by rw [am_code, mm_53]
theorem mm_54 : am_m 54 = (yX5_addPumpSet, cX5_addPumpSet, 3, none, 5, false, 1, 0, 0, am_c54, [3166, 1006, 3165, 21]) := rfl
theorem ss_54 : am_ss 54 = false := by rw [am_ss, mm_54]
theorem ml_54 : am_ml 54 = 3 := by rw [am_ml, mm_54]
theorem oc_54 : am_oc 54 = 5 := by rw [am_oc, mm_54]
theorem cd_54 : am_code 54 = am_c54 := by rw [am_code, mm_54]
theorem mm_55 : am_m 55 = (yX5_servesAll, cX5_servesAll, 3, some .boolean, 5, false, 1, 0, 0, am_c55, [3175, 1006, 3174, 22]) := rfl
theorem ss_55 : am_ss 55 = false := by rw [am_ss, mm_55]
theorem ml_55 : am_ml 55 = 3 := by rw [am_ml, mm_55]
theorem oc_55 : am_oc 55 = 5 := by rw [am_oc, mm_55]
theorem cd_55 : am_code 55 = am_c55 := by rw [am_code, mm_55]
theorem mm_56 : am_m 56 = (yX6_write, cX6_write, 5, some .int, 6, false, 2, 0, 0, am_c56, [2050, 1001, 2048, 2049]) := rfl
theorem ss_56 : am_ss 56 = false := by rw [am_ss, mm_56]
theorem ml_56 : am_ml 56 = 5 := by rw [am_ml, mm_56]
theorem oc_56 : am_oc 56 = 6 := by rw [am_oc, mm_56]
theorem cd_56 : am_code 56 = am_c56 := by rw [am_code, mm_56]
theorem mm_57 : am_m 57 = (yX6_wipe, cX6_wipe, 2, some .int, 6, false, 0, 0, 0, am_c57, [2054, 1001, 2052, 2053]) := rfl
theorem ss_57 : am_ss 57 = false := by rw [am_ss, mm_57]
theorem ml_57 : am_ml 57 = 2 := by rw [am_ml, mm_57]
theorem oc_57 : am_oc 57 = 6 := by rw [am_oc, mm_57]
theorem cd_57 : am_code 57 = am_c57 := by rw [am_code, mm_57]
theorem mm_58 : am_m 58 = (yX6_fault, cX6_fault, 1, some .int, 6, false, 0, 4, 88, am_c58, [2058, 1001, 2056, 2057]) := rfl
theorem ss_58 : am_ss 58 = false := by rw [am_ss, mm_58]
theorem ml_58 : am_ml 58 = 1 := by rw [am_ml, mm_58]
theorem oc_58 : am_oc 58 = 6 := by rw [am_oc, mm_58]
theorem cd_58 : am_code 58 = am_c58 := by rw [am_code, mm_58]
theorem mm_59 : am_m 59 = (yX6_city, cX6_city, 1, some .int, 6, false, 0, 4, 88, am_c59, [2100, 1001, 2098, 2099]) := rfl
theorem ss_59 : am_ss 59 = false := by rw [am_ss, mm_59]
theorem ml_59 : am_ml 59 = 1 := by rw [am_ml, mm_59]
theorem oc_59 : am_oc 59 = 6 := by rw [am_oc, mm_59]
theorem cd_59 : am_code 59 = am_c59 := by rw [am_code, mm_59]
theorem mm_60 : am_m 60 = (yX6_about, cX6_about, 2, some .int, 6, false, 1, 0, 0, am_c60, [2136, 1001, 2134, 2135]) := rfl
theorem ss_60 : am_ss 60 = false := by rw [am_ss, mm_60]
theorem ml_60 : am_ml 60 = 2 := by rw [am_ml, mm_60]
theorem oc_60 : am_oc 60 = 6 := by rw [am_oc, mm_60]
theorem cd_60 : am_code 60 = am_c60 := by rw [am_code, mm_60]
theorem mm_61 : am_m 61 = (yX6_gate, cX6_gate, 3, some .int, 6, false, 2, 1, 21, am_c61, [2140, 1001, 2138, 2139]) := rfl
theorem ss_61 : am_ss 61 = false := by rw [am_ss, mm_61]
theorem ml_61 : am_ml 61 = 3 := by rw [am_ml, mm_61]
theorem oc_61 : am_oc 61 = 6 := by rw [am_oc, mm_61]
theorem cd_61 : am_code 61 = am_c61 := by rw [am_code, mm_61]
theorem mm_62 : am_m 62 = (yX6_pace, cX6_pace, 2, some .int, 6, false, 1, 1, 20, am_c62, [2148, 1001, 2146, 2147]) := rfl
theorem ss_62 : am_ss 62 = false := by rw [am_ss, mm_62]
theorem ml_62 : am_ml 62 = 2 := by rw [am_ml, mm_62]
theorem oc_62 : am_oc 62 = 6 := by rw [am_oc, mm_62]
theorem cd_62 : am_code 62 = am_c62 := by rw [am_code, mm_62]
theorem mm_63 : am_m 63 = (yX6_turn, cX6_turn, 4, some .int, 6, false, 2, 1, 20, am_c63, [2153, 1001, 2151, 2152]) := rfl
theorem ss_63 : am_ss 63 = false := by rw [am_ss, mm_63]
theorem ml_63 : am_ml 63 = 4 := by rw [am_ml, mm_63]
theorem oc_63 : am_oc 63 = 6 := by rw [am_oc, mm_63]
theorem cd_63 : am_code 63 = am_c63 := by rw [am_code, mm_63]
theorem mm_64 : am_m 64 = (yX6_brake, cX6_brake, 5, some .int, 6, false, 3, 1, 23, am_c64, [2157, 1001, 2155, 2156]) := rfl
theorem ss_64 : am_ss 64 = false := by rw [am_ss, mm_64]
theorem ml_64 : am_ml 64 = 5 := by rw [am_ml, mm_64]
theorem oc_64 : am_oc 64 = 6 := by rw [am_oc, mm_64]
theorem cd_64 : am_code 64 = am_c64 := by rw [am_code, mm_64]
theorem mm_65 : am_m 65 = (yX6_dry, cX6_dry, 4, some .int, 6, false, 1, 2, 44, am_c65, [2165, 1001, 2163, 2164]) := rfl
theorem ss_65 : am_ss 65 = false := by rw [am_ss, mm_65]
theorem ml_65 : am_ml 65 = 4 := by rw [am_ml, mm_65]
theorem oc_65 : am_oc 65 = 6 := by rw [am_oc, mm_65]
theorem cd_65 : am_code 65 = am_c65 := by rw [am_code, mm_65]
theorem mm_66 : am_m 66 = (yX6_where, cX6_where, 3, some .int, 6, false, 2, 3, 66, am_c66, [2179, 1001, 2177, 2178]) := rfl
theorem ss_66 : am_ss 66 = false := by rw [am_ss, mm_66]
theorem ml_66 : am_ml 66 = 3 := by rw [am_ml, mm_66]
theorem oc_66 : am_oc 66 = 6 := by rw [am_oc, mm_66]
theorem cd_66 : am_code 66 = am_c66 := by rw [am_code, mm_66]
theorem mm_67 : am_m 67 = (yX6_open, cX6_open, 4, some .int, 6, false, 3, 3, 65, am_c67, [2204, 1001, 2202, 2203]) := rfl
theorem ss_67 : am_ss 67 = false := by rw [am_ss, mm_67]
theorem ml_67 : am_ml 67 = 4 := by rw [am_ml, mm_67]
theorem oc_67 : am_oc 67 = 6 := by rw [am_oc, mm_67]
theorem cd_67 : am_code 67 = am_c67 := by rw [am_code, mm_67]
theorem mm_68 : am_m 68 = (yX6_next, cX6_next, 5, some .int, 6, false, 3, 3, 71, am_c68, [2230, 1001, 2228, 2229]) := rfl
theorem ss_68 : am_ss 68 = false := by rw [am_ss, mm_68]
theorem ml_68 : am_ml 68 = 5 := by rw [am_ml, mm_68]
theorem oc_68 : am_oc 68 = 6 := by rw [am_oc, mm_68]
theorem cd_68 : am_code 68 = am_c68 := by rw [am_code, mm_68]
theorem mm_69 : am_m 69 = (yX6_stays, cX6_stays, 7, some .int, 6, false, 3, 3, 65, am_c69, [3008, 1001, 3006, 3007]) := rfl
theorem ss_69 : am_ss 69 = false := by rw [am_ss, mm_69]
theorem ml_69 : am_ml 69 = 7 := by rw [am_ml, mm_69]
theorem oc_69 : am_oc 69 = 6 := by rw [am_oc, mm_69]
theorem cd_69 : am_code 69 = am_c69 := by rw [am_code, mm_69]
theorem mm_70 : am_m 70 = (yX6_share, cX6_share, 7, some .int, 6, false, 3, 3, 69, am_c70, [3013, 1001, 3011, 3012]) := rfl
theorem ss_70 : am_ss 70 = false := by rw [am_ss, mm_70]
theorem ml_70 : am_ml 70 = 7 := by rw [am_ml, mm_70]
theorem oc_70 : am_oc 70 = 6 := by rw [am_oc, mm_70]
theorem cd_70 : am_code 70 = am_c70 := by rw [am_code, mm_70]
theorem mm_71 : am_m 71 = (yX6_meet, cX6_meet, 5, some .int, 6, false, 2, 4, 92, am_c71, [3027, 1001, 3025, 3026]) := rfl
theorem ss_71 : am_ss 71 = false := by rw [am_ss, mm_71]
theorem ml_71 : am_ml 71 = 5 := by rw [am_ml, mm_71]
theorem oc_71 : am_oc 71 = 6 := by rw [am_oc, mm_71]
theorem cd_71 : am_code 71 = am_c71 := by rw [am_code, mm_71]
theorem mm_72 : am_m 72 = (yX6_soonest, cX6_soonest, 4, some .int, 6, false, 3, 5, 121, am_c72, [3046, 1001, 3044, 3045]) := rfl
theorem ss_72 : am_ss 72 = false := by rw [am_ss, mm_72]
theorem ml_72 : am_ml 72 = 4 := by rw [am_ml, mm_72]
theorem oc_72 : am_oc 72 = 6 := by rw [am_oc, mm_72]
theorem cd_72 : am_code 72 = am_c72 := by rw [am_code, mm_72]
theorem mm_73 : am_m 73 = (yX6_step, cX6_step, 7, some .int, 6, false, 5, 7, 167, am_c73, [3079, 1001, 3077, 3078]) := rfl
theorem ss_73 : am_ss 73 = false := by rw [am_ss, mm_73]
theorem ml_73 : am_ml 73 = 7 := by rw [am_ml, mm_73]
theorem oc_73 : am_oc 73 = 6 := by rw [am_oc, mm_73]
theorem cd_73 : am_code 73 = am_c73 := by rw [am_code, mm_73]
theorem mm_74 : am_m 74 = (yX6_latest, cX6_latest, 4, some .int, 6, false, 3, 6, 149, am_c74, [3095, 1001, 3093, 3094]) := rfl
theorem ss_74 : am_ss 74 = false := by rw [am_ss, mm_74]
theorem ml_74 : am_ml 74 = 4 := by rw [am_ml, mm_74]
theorem oc_74 : am_oc 74 = 6 := by rw [am_oc, mm_74]
theorem cd_74 : am_code 74 = am_c74 := by rw [am_code, mm_74]
theorem mm_75 : am_m 75 = (yX6_round, cX6_round, 4, some .int, 6, false, 3, 7, 174, am_c75, [3104, 1001, 3102, 3103]) := rfl
theorem ss_75 : am_ss 75 = false := by rw [am_ss, mm_75]
theorem ml_75 : am_ml 75 = 4 := by rw [am_ml, mm_75]
theorem oc_75 : am_oc 75 = 6 := by rw [am_oc, mm_75]
theorem cd_75 : am_code 75 = am_c75 := by rw [am_code, mm_75]
theorem mm_76 : am_m 76 = (yX6_bestBrake, cX6_bestBrake, 7, some .int, 6, false, 5, 6, 150, am_c76, [3116, 1001, 3114, 3115]) := rfl
theorem ss_76 : am_ss 76 = false := by rw [am_ss, mm_76]
theorem ml_76 : am_ml 76 = 7 := by rw [am_ml, mm_76]
theorem oc_76 : am_oc 76 = 6 := by rw [am_oc, mm_76]
theorem cd_76 : am_code 76 = am_c76 := by rw [am_code, mm_76]
theorem mm_77 : am_m 77 = (yX6_harm, cX6_harm, 8, some .int, 6, false, 5, 6, 150, am_c77, [3132, 1001, 3130, 3131]) := rfl
theorem ss_77 : am_ss 77 = false := by rw [am_ss, mm_77]
theorem ml_77 : am_ml 77 = 8 := by rw [am_ml, mm_77]
theorem oc_77 : am_oc 77 = 6 := by rw [am_oc, mm_77]
theorem cd_77 : am_code 77 = am_c77 := by rw [am_code, mm_77]
theorem mm_78 : am_m 78 = (yX6_worst, cX6_worst, 3, some .int, 6, false, 2, 6, 145, am_c78, [3144, 1001, 3142, 3143]) := rfl
theorem ss_78 : am_ss 78 = false := by rw [am_ss, mm_78]
theorem ml_78 : am_ml 78 = 3 := by rw [am_ml, mm_78]
theorem oc_78 : am_oc 78 = 6 := by rw [am_oc, mm_78]
theorem cd_78 : am_code 78 = am_c78 := by rw [am_code, mm_78]
theorem mm_79 : am_m 79 = (yX6_pumps, cX6_pumps, 2, some .int, 6, false, 1, 7, 167, am_c79, [3153, 1001, 3151, 3152]) := rfl
theorem ss_79 : am_ss 79 = false := by rw [am_ss, mm_79]
theorem ml_79 : am_ml 79 = 2 := by rw [am_ml, mm_79]
theorem oc_79 : am_oc 79 = 6 := by rw [am_oc, mm_79]
theorem cd_79 : am_code 79 = am_c79 := by rw [am_code, mm_79]
theorem mm_80 : am_m 80 = (yX6_see, cX6_see, 4, some .int, 6, false, 3, 2, 43, am_c80, [3179, 1001, 3177, 3178]) := rfl
theorem ss_80 : am_ss 80 = false := by rw [am_ss, mm_80]
theorem ml_80 : am_ml 80 = 4 := by rw [am_ml, mm_80]
theorem oc_80 : am_oc 80 = 6 := by rw [am_oc, mm_80]
theorem cd_80 : am_code 80 = am_c80 := by rw [am_code, mm_80]
theorem mm_81 : am_m 81 = (yX6_unsee, cX6_unsee, 2, some .int, 6, false, 0, 0, 0, am_c81, [3187, 1001, 3185, 3186]) := rfl
theorem ss_81 : am_ss 81 = false := by rw [am_ss, mm_81]
theorem ml_81 : am_ml 81 = 2 := by rw [am_ml, mm_81]
theorem oc_81 : am_oc 81 = 6 := by rw [am_oc, mm_81]
theorem cd_81 : am_code 81 = am_c81 := by rw [am_code, mm_81]
theorem mm_82 : am_m 82 = (yX6_rows, cX6_rows, 1, some .int, 6, false, 0, 4, 93, am_c82, [3191, 1001, 3189, 3190]) := rfl
theorem ss_82 : am_ss 82 = false := by rw [am_ss, mm_82]
theorem ml_82 : am_ml 82 = 1 := by rw [am_ml, mm_82]
theorem oc_82 : am_oc 82 = 6 := by rw [am_oc, mm_82]
theorem cd_82 : am_code 82 = am_c82 := by rw [am_code, mm_82]
theorem mm_83 : am_m 83 = (yX6_likely, cX6_likely, 3, some .int, 6, false, 2, 4, 93, am_c83, [3223, 1001, 3221, 3222]) := rfl
theorem ss_83 : am_ss 83 = false := by rw [am_ss, mm_83]
theorem ml_83 : am_ml 83 = 3 := by rw [am_ml, mm_83]
theorem oc_83 : am_oc 83 = 6 := by rw [am_oc, mm_83]
theorem cd_83 : am_code 83 = am_c83 := by rw [am_code, mm_83]
theorem mm_84 : am_m 84 = (yX6_keep, cX6_keep, 3, some .int, 6, false, 1, 2, 69, am_c84, [3227, 1001, 3225, 3226]) := rfl
theorem ss_84 : am_ss 84 = false := by rw [am_ss, mm_84]
theorem ml_84 : am_ml 84 = 3 := by rw [am_ml, mm_84]
theorem oc_84 : am_oc 84 = 6 := by rw [am_oc, mm_84]
theorem cd_84 : am_code 84 = am_c84 := by rw [am_code, mm_84]
theorem mm_85 : am_m 85 = (yX6_again, cX6_again, 3, some .int, 6, false, 1, 2, 69, am_c85, [3239, 1001, 3237, 3238]) := rfl
theorem ss_85 : am_ss 85 = false := by rw [am_ss, mm_85]
theorem ml_85 : am_ml 85 = 3 := by rw [am_ml, mm_85]
theorem oc_85 : am_oc 85 = 6 := by rw [am_oc, mm_85]
theorem cd_85 : am_code 85 = am_c85 := by rw [am_code, mm_85]
theorem mm_86 : am_m 86 = (yX6_isRing, cX6_isRing, 1, some .boolean, 6, true, 1, 0, 0, am_c86, [2088, 1001, 2087, 0]) := rfl
theorem ss_86 : am_ss 86 = true := by rw [am_ss, mm_86]
theorem ml_86 : am_ml 86 = 1 := by rw [am_ml, mm_86]
theorem oc_86 : am_oc 86 = 6 := by rw [am_oc, mm_86]
theorem cd_86 : am_code 86 = am_c86 := by rw [am_code, mm_86]
theorem mm_87 : am_m 87 = (yX6_isSecond, cX6_isSecond, 1, some .boolean, 6, true, 1, 0, 0, am_c87, [2182, 1001, 2181, 0]) := rfl
theorem ss_87 : am_ss 87 = true := by rw [am_ss, mm_87]
theorem ml_87 : am_ml 87 = 1 := by rw [am_ml, mm_87]
theorem oc_87 : am_oc 87 = 6 := by rw [am_oc, mm_87]
theorem cd_87 : am_code 87 = am_c87 := by rw [am_code, mm_87]
theorem mm_88 : am_m 88 = (yX6_slotAt, cX6_slotAt, 2, some (.object "ThreeRings$Motion"), 6, false, 1, 0, 0, am_c88, [3231, 1001, 3230, 27]) := rfl
theorem ss_88 : am_ss 88 = false := by rw [am_ss, mm_88]
theorem ml_88 : am_ml 88 = 2 := by rw [am_ml, mm_88]
theorem oc_88 : am_oc 88 = 6 := by rw [am_oc, mm_88]
theorem cd_88 : am_code 88 = am_c88 := by rw [am_code, mm_88]
theorem mm_89 : am_m 89 = (yX6_areGates, cX6_areGates, 3, some .boolean, 6, false, 2, 1, 21, am_c89, [2208, 1001, 2207, 8]) := rfl
theorem ss_89 : am_ss 89 = false := by rw [am_ss, mm_89]
theorem ml_89 : am_ml 89 = 3 := by rw [am_ml, mm_89]
theorem oc_89 : am_oc 89 = 6 := by rw [am_oc, mm_89]
theorem cd_89 : am_code 89 = am_c89 := by rw [am_code, mm_89]
theorem mm_90 : am_m 90 = (yX6_orNone, cX6_orNone, 1, some .int, 6, true, 1, 0, 0, am_c90, [3075, 1001, 3074, 0]) := rfl
theorem ss_90 : am_ss 90 = true := by rw [am_ss, mm_90]
theorem ml_90 : am_ml 90 = 1 := by rw [am_ml, mm_90]
theorem oc_90 : am_oc 90 = 6 := by rw [am_oc, mm_90]
theorem cd_90 : am_code 90 = am_c90 := by rw [am_code, mm_90]
theorem mm_91 : am_m 91 = (yX6_commonDivisor, cX6_commonDivisor, 3, some .int, 6, true, 2, 1, 21, am_c91, [3022, 1001, 3021, 0]) := rfl
theorem ss_91 : am_ss 91 = true := by rw [am_ss, mm_91]
theorem ml_91 : am_ml 91 = 3 := by rw [am_ml, mm_91]
theorem oc_91 : am_oc 91 = 6 := by rw [am_oc, mm_91]
theorem cd_91 : am_code 91 = am_c91 := by rw [am_code, mm_91]
theorem mm_92 : am_m 92 = (yX6_refuseBestBrake, cX6_refuseBestBrake, 6, some .int, 6, false, 5, 2, 43, am_c92, [3120, 1001, 3119, 17]) := rfl
theorem ss_92 : am_ss 92 = false := by rw [am_ss, mm_92]
theorem ml_92 : am_ml 92 = 6 := by rw [am_ml, mm_92]
theorem oc_92 : am_oc 92 = 6 := by rw [am_oc, mm_92]
theorem cd_92 : am_code 92 = am_c92 := by rw [am_code, mm_92]
theorem mm_93 : am_m 93 = (yX6_layTrial, cX6_layTrial, 4, none, 6, false, 3, 3, 69, am_c93, [3128, 1001, 3127, 19]) := rfl
theorem ss_93 : am_ss 93 = false := by rw [am_ss, mm_93]
theorem ml_93 : am_ml 93 = 4 := by rw [am_ml, mm_93]
theorem oc_93 : am_oc 93 = 6 := by rw [am_oc, mm_93]
theorem cd_93 : am_code 93 = am_c93 := by rw [am_code, mm_93]
theorem mm_94 : am_m 94 = (yX6_bestBrakeStart, cX6_bestBrakeStart, 10, some .int, 6, false, 5, 5, 121, am_c94, [3124, 1001, 3123, 18]) := rfl
theorem ss_94 : am_ss 94 = false := by rw [am_ss, mm_94]
theorem ml_94 : am_ml 94 = 10 := by rw [am_ml, mm_94]
theorem oc_94 : am_oc 94 = 6 := by rw [am_oc, mm_94]
theorem cd_94 : am_code 94 = am_c94 := by rw [am_code, mm_94]
theorem mm_95 : am_m 95 = (yX7_in, cX7_in, 6, some .boolean, 7, true, 3, 0, 0, am_c95, [4119, 1008, 4118, 0]) := rfl
theorem ss_95 : am_ss 95 = true := by rw [am_ss, mm_95]
theorem ml_95 : am_ml 95 = 6 := by rw [am_ml, mm_95]
theorem oc_95 : am_oc 95 = 7 := by rw [am_oc, mm_95]
theorem cd_95 : am_code 95 = am_c95 := by rw [am_code, mm_95]
theorem mm_96 : am_m 96 = (yX7_has, cX7_has, 2, some .boolean, 7, true, 2, 0, 0, am_c96, [4150, 1008, 4149, 0]) := rfl
theorem ss_96 : am_ss 96 = true := by rw [am_ss, mm_96]
theorem ml_96 : am_ml 96 = 2 := by rw [am_ml, mm_96]
theorem oc_96 : am_oc 96 = 7 := by rw [am_oc, mm_96]
theorem cd_96 : am_code 96 = am_c96 := by rw [am_code, mm_96]
theorem mm_97 : am_m 97 = (yX7_many, cX7_many, 3, some .int, 7, true, 1, 0, 0, am_c97, [5016, 1008, 5015, 0]) := rfl
theorem ss_97 : am_ss 97 = true := by rw [am_ss, mm_97]
theorem ml_97 : am_ml 97 = 3 := by rw [am_ml, mm_97]
theorem oc_97 : am_oc 97 = 7 := by rw [am_oc, mm_97]
theorem cd_97 : am_code 97 = am_c97 := by rw [am_code, mm_97]
theorem mm_98 : am_m 98 = (yX7_noGate, cX7_noGate, 2, some .boolean, 7, false, 1, 1, 25, am_c98, [4170, 1008, 4169, 33]) := rfl
theorem ss_98 : am_ss 98 = false := by rw [am_ss, mm_98]
theorem ml_98 : am_ml 98 = 2 := by rw [am_ml, mm_98]
theorem oc_98 : am_oc 98 = 7 := by rw [am_oc, mm_98]
theorem cd_98 : am_code 98 = am_c98 := by rw [am_code, mm_98]
theorem mm_99 : am_m 99 = (yX7_noSecond, cX7_noSecond, 1, some .boolean, 7, true, 1, 1, 25, am_c99, [4196, 1008, 4195, 0]) := rfl
theorem ss_99 : am_ss 99 = true := by rw [am_ss, mm_99]
theorem ml_99 : am_ml 99 = 1 := by rw [am_ml, mm_99]
theorem oc_99 : am_oc 99 = 7 := by rw [am_oc, mm_99]
theorem cd_99 : am_code 99 = am_c99 := by rw [am_code, mm_99]
theorem mm_100 : am_m 100 = (yX7_noRing, cX7_noRing, 1, some .boolean, 7, true, 1, 1, 25, am_c100, [4146, 1008, 4145, 0]) := rfl
theorem ss_100 : am_ss 100 = true := by rw [am_ss, mm_100]
theorem ml_100 : am_ml 100 = 1 := by rw [am_ml, mm_100]
theorem oc_100 : am_oc 100 = 7 := by rw [am_oc, mm_100]
theorem cd_100 : am_code 100 = am_c100 := by rw [am_code, mm_100]
theorem mm_101 : am_m 101 = (yX7_write, cX7_write, 5, some .int, 7, false, 2, 1, 25, am_c101, [4115, 1008, 4113, 4114]) := rfl
theorem ss_101 : am_ss 101 = false := by rw [am_ss, mm_101]
theorem ml_101 : am_ml 101 = 5 := by rw [am_ml, mm_101]
theorem oc_101 : am_oc 101 = 7 := by rw [am_oc, mm_101]
theorem cd_101 : am_code 101 = am_c101 := by rw [am_code, mm_101]
theorem mm_102 : am_m 102 = (yX7_wipe, cX7_wipe, 2, some .int, 7, false, 0, 0, 0, am_c102, [4123, 1008, 4121, 4122]) := rfl
theorem ss_102 : am_ss 102 = false := by rw [am_ss, mm_102]
theorem ml_102 : am_ml 102 = 2 := by rw [am_ml, mm_102]
theorem oc_102 : am_oc 102 = 7 := by rw [am_oc, mm_102]
theorem cd_102 : am_code 102 = am_c102 := by rw [am_code, mm_102]
theorem mm_103 : am_m 103 = (yX7_figure, cX7_figure, 3, some .int, 7, false, 2, 1, 25, am_c103, [4135, 1008, 4134, 29]) := rfl
theorem ss_103 : am_ss 103 = false := by rw [am_ss, mm_103]
theorem ml_103 : am_ml 103 = 3 := by rw [am_ml, mm_103]
theorem oc_103 : am_oc 103 = 7 := by rw [am_oc, mm_103]
theorem cd_103 : am_code 103 = am_c103 := by rw [am_code, mm_103]
theorem mm_104 : am_m 104 = (yX7_readRingPart, cX7_readRingPart, 4, some .boolean, 7, false, 1, 2, 47, am_c104, [4143, 1008, 4142, 31]) := rfl
theorem ss_104 : am_ss 104 = false := by rw [am_ss, mm_104]
theorem ml_104 : am_ml 104 = 4 := by rw [am_ml, mm_104]
theorem oc_104 : am_oc 104 = 7 := by rw [am_oc, mm_104]
theorem cd_104 : am_code 104 = am_c104 := by rw [am_code, mm_104]
theorem mm_105 : am_m 105 = (yX7_readGate, cX7_readGate, 7, some .boolean, 7, false, 0, 2, 47, am_c105, [4154, 1008, 4153, 32]) := rfl
theorem ss_105 : am_ss 105 = false := by rw [am_ss, mm_105]
theorem ml_105 : am_ml 105 = 7 := by rw [am_ml, mm_105]
theorem oc_105 : am_oc 105 = 7 := by rw [am_oc, mm_105]
theorem cd_105 : am_code 105 = am_c105 := by rw [am_code, mm_105]
theorem mm_106 : am_m 106 = (yX7_readPart, cX7_readPart, 4, some .boolean, 7, false, 0, 3, 73, am_c106, [4139, 1008, 4138, 30]) := rfl
theorem ss_106 : am_ss 106 = false := by rw [am_ss, mm_106]
theorem ml_106 : am_ml 106 = 4 := by rw [am_ml, mm_106]
theorem oc_106 : am_oc 106 = 7 := by rw [am_oc, mm_106]
theorem cd_106 : am_code 106 = am_c106 := by rw [am_code, mm_106]
theorem mm_107 : am_m 107 = (yX7_readCity, cX7_readCity, 2, some .int, 7, false, 0, 4, 96, am_c107, [4131, 1008, 4130, 28]) := rfl
theorem ss_107 : am_ss 107 = false := by rw [am_ss, mm_107]
theorem ml_107 : am_ml 107 = 2 := by rw [am_ml, mm_107]
theorem oc_107 : am_oc 107 = 7 := by rw [am_oc, mm_107]
theorem cd_107 : am_code 107 = am_c107 := by rw [am_code, mm_107]
theorem mm_108 : am_m 108 = (yX7_fault, cX7_fault, 1, some .int, 7, false, 0, 5, 117, am_c108, [4127, 1008, 4125, 4126]) := rfl
theorem ss_108 : am_ss 108 = false := by rw [am_ss, mm_108]
theorem ml_108 : am_ml 108 = 1 := by rw [am_ml, mm_108]
theorem oc_108 : am_oc 108 = 7 := by rw [am_oc, mm_108]
theorem cd_108 : am_code 108 = am_c108 := by rw [am_code, mm_108]
theorem mm_109 : am_m 109 = (yX7_city, cX7_city, 2, some .int, 7, false, 0, 5, 117, am_c109, [4158, 1008, 4156, 4157]) := rfl
theorem ss_109 : am_ss 109 = false := by rw [am_ss, mm_109]
theorem ml_109 : am_ml 109 = 2 := by rw [am_ml, mm_109]
theorem oc_109 : am_oc 109 = 7 := by rw [am_oc, mm_109]
theorem cd_109 : am_code 109 = am_c109 := by rw [am_code, mm_109]
theorem mm_110 : am_m 110 = (yX7_about, cX7_about, 2, some .int, 7, false, 1, 0, 0, am_c110, [4162, 1008, 4160, 4161]) := rfl
theorem ss_110 : am_ss 110 = false := by rw [am_ss, mm_110]
theorem ml_110 : am_ml 110 = 2 := by rw [am_ml, mm_110]
theorem oc_110 : am_oc 110 = 7 := by rw [am_oc, mm_110]
theorem cd_110 : am_code 110 = am_c110 := by rw [am_code, mm_110]
theorem mm_111 : am_m 111 = (yX7_gate, cX7_gate, 3, some .int, 7, false, 2, 2, 46, am_c111, [4166, 1008, 4164, 4165]) := rfl
theorem ss_111 : am_ss 111 = false := by rw [am_ss, mm_111]
theorem ml_111 : am_ml 111 = 3 := by rw [am_ml, mm_111]
theorem oc_111 : am_oc 111 = 7 := by rw [am_oc, mm_111]
theorem cd_111 : am_code 111 = am_c111 := by rw [am_code, mm_111]
theorem mm_112 : am_m 112 = (yX7_pace, cX7_pace, 2, some .int, 7, false, 1, 2, 45, am_c112, [4174, 1008, 4172, 4173]) := rfl
theorem ss_112 : am_ss 112 = false := by rw [am_ss, mm_112]
theorem ml_112 : am_ml 112 = 2 := by rw [am_ml, mm_112]
theorem oc_112 : am_oc 112 = 7 := by rw [am_oc, mm_112]
theorem cd_112 : am_code 112 = am_c112 := by rw [am_code, mm_112]
theorem mm_113 : am_m 113 = (yX7_turn, cX7_turn, 4, some .int, 7, false, 2, 2, 45, am_c113, [4178, 1008, 4176, 4177]) := rfl
theorem ss_113 : am_ss 113 = false := by rw [am_ss, mm_113]
theorem ml_113 : am_ml 113 = 4 := by rw [am_ml, mm_113]
theorem oc_113 : am_oc 113 = 7 := by rw [am_oc, mm_113]
theorem cd_113 : am_code 113 = am_c113 := by rw [am_code, mm_113]
theorem mm_114 : am_m 114 = (yX7_brake, cX7_brake, 5, some .int, 7, false, 3, 2, 45, am_c114, [4184, 1008, 4182, 4183]) := rfl
theorem ss_114 : am_ss 114 = false := by rw [am_ss, mm_114]
theorem ml_114 : am_ml 114 = 5 := by rw [am_ml, mm_114]
theorem oc_114 : am_oc 114 = 7 := by rw [am_oc, mm_114]
theorem cd_114 : am_code 114 = am_c114 := by rw [am_code, mm_114]
theorem mm_115 : am_m 115 = (yX7_dry, cX7_dry, 6, some .int, 7, false, 1, 1, 25, am_c115, [4189, 1008, 4187, 4188]) := rfl
theorem ss_115 : am_ss 115 = false := by rw [am_ss, mm_115]
theorem ml_115 : am_ml 115 = 6 := by rw [am_ml, mm_115]
theorem oc_115 : am_oc 115 = 7 := by rw [am_oc, mm_115]
theorem cd_115 : am_code 115 = am_c115 := by rw [am_code, mm_115]
theorem mm_116 : am_m 116 = (yX7_turned, cX7_turned, 5, some .int, 7, false, 2, 0, 0, am_c116, [4205, 1008, 4204, 35]) := rfl
theorem ss_116 : am_ss 116 = false := by rw [am_ss, mm_116]
theorem ml_116 : am_ml 116 = 5 := by rw [am_ml, mm_116]
theorem oc_116 : am_oc 116 = 7 := by rw [am_oc, mm_116]
theorem cd_116 : am_code 116 = am_c116 := by rw [am_code, mm_116]
theorem mm_117 : am_m 117 = (yX7_spotBy, cX7_spotBy, 6, some .int, 7, false, 3, 0, 0, am_c117, [4209, 1008, 4208, 36]) := rfl
theorem ss_117 : am_ss 117 = false := by rw [am_ss, mm_117]
theorem ml_117 : am_ml 117 = 6 := by rw [am_ml, mm_117]
theorem oc_117 : am_oc 117 = 7 := by rw [am_oc, mm_117]
theorem cd_117 : am_code 117 = am_c117 := by rw [am_code, mm_117]
theorem mm_118 : am_m 118 = (yX7_spotAt, cX7_spotAt, 3, some .int, 7, false, 2, 1, 25, am_c118, [4201, 1008, 4200, 34]) := rfl
theorem ss_118 : am_ss 118 = false := by rw [am_ss, mm_118]
theorem ml_118 : am_ml 118 = 3 := by rw [am_ml, mm_118]
theorem oc_118 : am_oc 118 = 7 := by rw [am_oc, mm_118]
theorem cd_118 : am_code 118 = am_c118 := by rw [am_code, mm_118]
theorem mm_119 : am_m 119 = (yX7_where, cX7_where, 3, some .int, 7, false, 2, 2, 47, am_c119, [4193, 1008, 4191, 4192]) := rfl
theorem ss_119 : am_ss 119 = false := by rw [am_ss, mm_119]
theorem ml_119 : am_ml 119 = 3 := by rw [am_ml, mm_119]
theorem oc_119 : am_oc 119 = 7 := by rw [am_oc, mm_119]
theorem cd_119 : am_code 119 = am_c119 := by rw [am_code, mm_119]
theorem mm_120 : am_m 120 = (yX7_areBeside, cX7_areBeside, 5, some .boolean, 7, false, 2, 0, 0, am_c120, [4221, 1008, 4220, 38]) := rfl
theorem ss_120 : am_ss 120 = false := by rw [am_ss, mm_120]
theorem ml_120 : am_ml 120 = 5 := by rw [am_ml, mm_120]
theorem oc_120 : am_oc 120 = 7 := by rw [am_oc, mm_120]
theorem cd_120 : am_code 120 = am_c120 := by rw [am_code, mm_120]
theorem mm_121 : am_m 121 = (yX7_isOpenAt, cX7_isOpenAt, 10, some .boolean, 7, false, 5, 0, 0, am_c121, [4225, 1008, 4224, 39]) := rfl
theorem ss_121 : am_ss 121 = false := by rw [am_ss, mm_121]
theorem ml_121 : am_ml 121 = 10 := by rw [am_ml, mm_121]
theorem oc_121 : am_oc 121 = 7 := by rw [am_oc, mm_121]
theorem cd_121 : am_code 121 = am_c121 := by rw [am_code, mm_121]
theorem mm_122 : am_m 122 = (yX7_isOpen, cX7_isOpen, 4, some .boolean, 7, false, 3, 2, 47, am_c122, [4217, 1008, 4216, 37]) := rfl
theorem ss_122 : am_ss 122 = false := by rw [am_ss, mm_122]
theorem ml_122 : am_ml 122 = 4 := by rw [am_ml, mm_122]
theorem oc_122 : am_oc 122 = 7 := by rw [am_oc, mm_122]
theorem cd_122 : am_code 122 = am_c122 := by rw [am_code, mm_122]
theorem mm_123 : am_m 123 = (yX7_open, cX7_open, 4, some .int, 7, false, 3, 3, 70, am_c123, [4213, 1008, 4211, 4212]) := rfl
theorem ss_123 : am_ss 123 = false := by rw [am_ss, mm_123]
theorem ml_123 : am_ml 123 = 4 := by rw [am_ml, mm_123]
theorem oc_123 : am_oc 123 = 7 := by rw [am_oc, mm_123]
theorem cd_123 : am_code 123 = am_c123 := by rw [am_code, mm_123]
theorem mm_124 : am_m 124 = (yX7_calm, cX7_calm, 5, some .int, 7, false, 1, 0, 0, am_c124, [4238, 1008, 4237, 41]) := rfl
theorem ss_124 : am_ss 124 = false := by rw [am_ss, mm_124]
theorem ml_124 : am_ml 124 = 5 := by rw [am_ml, mm_124]
theorem oc_124 : am_oc 124 = 7 := by rw [am_oc, mm_124]
theorem cd_124 : am_code 124 = am_c124 := by rw [am_code, mm_124]
theorem mm_125 : am_m 125 = (yX7_nextOf, cX7_nextOf, 6, some .int, 7, false, 3, 3, 70, am_c125, [4233, 1008, 4232, 40]) := rfl
theorem ss_125 : am_ss 125 = false := by rw [am_ss, mm_125]
theorem ml_125 : am_ml 125 = 6 := by rw [am_ml, mm_125]
theorem oc_125 : am_oc 125 = 7 := by rw [am_oc, mm_125]
theorem cd_125 : am_code 125 = am_c125 := by rw [am_code, mm_125]
theorem mm_126 : am_m 126 = (yX7_next, cX7_next, 5, some .int, 7, false, 3, 4, 95, am_c126, [4229, 1008, 4227, 4228]) := rfl
theorem ss_126 : am_ss 126 = false := by rw [am_ss, mm_126]
theorem ml_126 : am_ml 126 = 5 := by rw [am_ml, mm_126]
theorem oc_126 : am_oc 126 = 7 := by rw [am_oc, mm_126]
theorem cd_126 : am_code 126 = am_c126 := by rw [am_code, mm_126]
theorem mm_127 : am_m 127 = (yX7_stays, cX7_stays, 6, some .int, 7, false, 3, 3, 70, am_c127, [5002, 1008, 5000, 5001]) := rfl
theorem ss_127 : am_ss 127 = false := by rw [am_ss, mm_127]
theorem ml_127 : am_ml 127 = 6 := by rw [am_ml, mm_127]
theorem oc_127 : am_oc 127 = 7 := by rw [am_oc, mm_127]
theorem cd_127 : am_code 127 = am_c127 := by rw [am_code, mm_127]
theorem mm_128 : am_m 128 = (yX7_told, cX7_told, 6, some .int, 7, true, 3, 0, 0, am_c128, [5009, 1008, 5008, 0]) := rfl
theorem ss_128 : am_ss 128 = true := by rw [am_ss, mm_128]
theorem ml_128 : am_ml 128 = 6 := by rw [am_ml, mm_128]
theorem oc_128 : am_oc 128 = 7 := by rw [am_oc, mm_128]
theorem cd_128 : am_code 128 = am_c128 := by rw [am_code, mm_128]
theorem mm_129 : am_m 129 = (yX7_share, cX7_share, 6, some .int, 7, false, 3, 2, 46, am_c129, [5006, 1008, 5004, 5005]) := rfl
theorem ss_129 : am_ss 129 = false := by rw [am_ss, mm_129]
theorem ml_129 : am_ml 129 = 6 := by rw [am_ml, mm_129]
theorem oc_129 : am_oc 129 = 7 := by rw [am_oc, mm_129]
theorem cd_129 : am_code 129 = am_c129 := by rw [am_code, mm_129]
theorem mm_130 : am_m 130 = (yX7_meets, cX7_meets, 6, some .boolean, 7, false, 2, 2, 47, am_c130, [5020, 1008, 5019, 42]) := rfl
theorem ss_130 : am_ss 130 = false := by rw [am_ss, mm_130]
theorem ml_130 : am_ml 130 = 6 := by rw [am_ml, mm_130]
theorem oc_130 : am_oc 130 = 7 := by rw [am_oc, mm_130]
theorem cd_130 : am_code 130 = am_c130 := by rw [am_code, mm_130]
theorem mm_131 : am_m 131 = (yX7_meet, cX7_meet, 5, some .int, 7, false, 2, 3, 72, am_c131, [5013, 1008, 5011, 5012]) := rfl
theorem ss_131 : am_ss 131 = false := by rw [am_ss, mm_131]
theorem ml_131 : am_ml 131 = 5 := by rw [am_ml, mm_131]
theorem oc_131 : am_oc 131 = 7 := by rw [am_oc, mm_131]
theorem cd_131 : am_code 131 = am_c131 := by rw [am_code, mm_131]
theorem mm_132 : am_m 132 = (yX7_by, cX7_by, 6, some .int, 7, false, 3, 4, 95, am_c132, [5036, 1008, 5035, 45]) := rfl
theorem ss_132 : am_ss 132 = false := by rw [am_ss, mm_132]
theorem ml_132 : am_ml 132 = 6 := by rw [am_ml, mm_132]
theorem oc_132 : am_oc 132 = 7 := by rw [am_oc, mm_132]
theorem cd_132 : am_code 132 = am_c132 := by rw [am_code, mm_132]
theorem mm_133 : am_m 133 = (yX7_goFrom, cX7_goFrom, 7, none, 7, false, 2, 5, 120, am_c133, [5032, 1008, 5031, 44]) := rfl
theorem ss_133 : am_ss 133 = false := by rw [am_ss, mm_133]
theorem ml_133 : am_ml 133 = 7 := by rw [am_ml, mm_133]
theorem oc_133 : am_oc 133 = 7 := by rw [am_oc, mm_133]
theorem cd_133 : am_code 133 = am_c133 := by rw [am_code, mm_133]
theorem mm_134 : am_m 134 = (yX7_soonestOf, cX7_soonestOf, 4, some .int, 7, false, 3, 6, 146, am_c134, [5028, 1008, 5027, 43]) := rfl
theorem ss_134 : am_ss 134 = false := by rw [am_ss, mm_134]
theorem ml_134 : am_ml 134 = 4 := by rw [am_ml, mm_134]
theorem oc_134 : am_oc 134 = 7 := by rw [am_oc, mm_134]
theorem cd_134 : am_code 134 = am_c134 := by rw [am_code, mm_134]
theorem mm_135 : am_m 135 = (yX7_soonest, cX7_soonest, 5, some .int, 7, false, 3, 7, 169, am_c135, [5024, 1008, 5022, 5023]) := rfl
theorem ss_135 : am_ss 135 = false := by rw [am_ss, mm_135]
theorem ml_135 : am_ml 135 = 5 := by rw [am_ml, mm_135]
theorem oc_135 : am_oc 135 = 7 := by rw [am_oc, mm_135]
theorem cd_135 : am_code 135 = am_c135 := by rw [am_code, mm_135]
theorem mm_136 : am_m 136 = (yX7_step, cX7_step, 9, some .int, 7, false, 5, 7, 169, am_c136, [5040, 1008, 5038, 5039]) := rfl
theorem ss_136 : am_ss 136 = false := by rw [am_ss, mm_136]
theorem ml_136 : am_ml 136 = 9 := by rw [am_ml, mm_136]
theorem oc_136 : am_oc 136 = 7 := by rw [am_oc, mm_136]
theorem cd_136 : am_code 136 = am_c136 := by rw [am_code, mm_136]
theorem mm_137 : am_m 137 = (yX7_latest, cX7_latest, 5, some .int, 7, false, 3, 7, 169, am_c137, [5044, 1008, 5042, 5043]) := rfl
theorem ss_137 : am_ss 137 = false := by rw [am_ss, mm_137]
theorem ml_137 : am_ml 137 = 5 := by rw [am_ml, mm_137]
theorem oc_137 : am_oc 137 = 7 := by rw [am_oc, mm_137]
theorem cd_137 : am_code 137 = am_c137 := by rw [am_code, mm_137]
theorem mm_138 : am_m 138 = (yX7_round, cX7_round, 10, some .int, 7, false, 3, 7, 169, am_c138, [5048, 1008, 5046, 5047]) := rfl
theorem ss_138 : am_ss 138 = false := by rw [am_ss, mm_138]
theorem ml_138 : am_ml 138 = 10 := by rw [am_ml, mm_138]
theorem oc_138 : am_oc 138 = 7 := by rw [am_oc, mm_138]
theorem cd_138 : am_code 138 = am_c138 := by rw [am_code, mm_138]
theorem mm_139 : am_m 139 = (yX7_findBrake, cX7_findBrake, 11, some .int, 7, false, 5, 7, 169, am_c139, [5056, 1008, 5055, 46]) := rfl
theorem ss_139 : am_ss 139 = false := by rw [am_ss, mm_139]
theorem ml_139 : am_ml 139 = 11 := by rw [am_ml, mm_139]
theorem oc_139 : am_oc 139 = 7 := by rw [am_oc, mm_139]
theorem cd_139 : am_code 139 = am_c139 := by rw [am_code, mm_139]
theorem mm_140 : am_m 140 = (yX7_bestBrake, cX7_bestBrake, 6, some .int, 7, false, 5, 8, 199, am_c140, [5052, 1008, 5050, 5051]) := rfl
theorem ss_140 : am_ss 140 = false := by rw [am_ss, mm_140]
theorem ml_140 : am_ml 140 = 6 := by rw [am_ml, mm_140]
theorem oc_140 : am_oc 140 = 7 := by rw [am_oc, mm_140]
theorem cd_140 : am_code 140 = am_c140 := by rw [am_code, mm_140]
theorem mm_141 : am_m 141 = (yX7_harm, cX7_harm, 12, some .int, 7, false, 5, 8, 199, am_c141, [5060, 1008, 5058, 5059]) := rfl
theorem ss_141 : am_ss 141 = false := by rw [am_ss, mm_141]
theorem ml_141 : am_ml 141 = 12 := by rw [am_ml, mm_141]
theorem oc_141 : am_oc 141 = 7 := by rw [am_oc, mm_141]
theorem cd_141 : am_code 141 = am_c141 := by rw [am_code, mm_141]
theorem mm_142 : am_m 142 = (yX7_layWorst, cX7_layWorst, 5, none, 7, false, 1, 6, 146, am_c142, [5068, 1008, 5067, 47]) := rfl
theorem ss_142 : am_ss 142 = false := by rw [am_ss, mm_142]
theorem ml_142 : am_ml 142 = 5 := by rw [am_ml, mm_142]
theorem oc_142 : am_oc 142 = 7 := by rw [am_oc, mm_142]
theorem cd_142 : am_code 142 = am_c142 := by rw [am_code, mm_142]
theorem mm_143 : am_m 143 = (yX7_worst, cX7_worst, 3, some .int, 7, false, 2, 7, 170, am_c143, [5064, 1008, 5062, 5063]) := rfl
theorem ss_143 : am_ss 143 = false := by rw [am_ss, mm_143]
theorem ml_143 : am_ml 143 = 3 := by rw [am_ml, mm_143]
theorem oc_143 : am_oc 143 = 7 := by rw [am_oc, mm_143]
theorem cd_143 : am_code 143 = am_c143 := by rw [am_code, mm_143]
theorem mm_144 : am_m 144 = (yX7_pumps, cX7_pumps, 5, some .int, 7, false, 1, 6, 146, am_c144, [5072, 1008, 5070, 5071]) := rfl
theorem ss_144 : am_ss 144 = false := by rw [am_ss, mm_144]
theorem ml_144 : am_ml 144 = 5 := by rw [am_ml, mm_144]
theorem oc_144 : am_oc 144 = 7 := by rw [am_oc, mm_144]
theorem cd_144 : am_code 144 = am_c144 := by rw [am_code, mm_144]
theorem mm_145 : am_m 145 = (yX7_reachAll, cX7_reachAll, 6, some .boolean, 7, false, 1, 1, 21, am_c145, [5076, 1008, 5075, 48]) := rfl
theorem ss_145 : am_ss 145 = false := by rw [am_ss, mm_145]
theorem ml_145 : am_ml 145 = 6 := by rw [am_ml, mm_145]
theorem oc_145 : am_oc 145 = 7 := by rw [am_oc, mm_145]
theorem cd_145 : am_code 145 = am_c145 := by rw [am_code, mm_145]
theorem mm_146 : am_m 146 = (yX7_see, cX7_see, 4, some .int, 7, false, 3, 2, 46, am_c146, [5080, 1008, 5078, 5079]) := rfl
theorem ss_146 : am_ss 146 = false := by rw [am_ss, mm_146]
theorem ml_146 : am_ml 146 = 4 := by rw [am_ml, mm_146]
theorem oc_146 : am_oc 146 = 7 := by rw [am_oc, mm_146]
theorem cd_146 : am_code 146 = am_c146 := by rw [am_code, mm_146]
theorem mm_147 : am_m 147 = (yX7_unsee, cX7_unsee, 2, some .int, 7, false, 0, 0, 0, am_c147, [5084, 1008, 5082, 5083]) := rfl
theorem ss_147 : am_ss 147 = false := by rw [am_ss, mm_147]
theorem ml_147 : am_ml 147 = 2 := by rw [am_ml, mm_147]
theorem oc_147 : am_oc 147 = 7 := by rw [am_oc, mm_147]
theorem cd_147 : am_code 147 = am_c147 := by rw [am_code, mm_147]
theorem mm_148 : am_m 148 = (yX7_paceOf, cX7_paceOf, 2, some .int, 7, true, 2, 0, 0, am_c148, [5099, 1008, 5098, 0]) := rfl
theorem ss_148 : am_ss 148 = true := by rw [am_ss, mm_148]
theorem ml_148 : am_ml 148 = 2 := by rw [am_ml, mm_148]
theorem oc_148 : am_oc 148 = 7 := by rw [am_oc, mm_148]
theorem cd_148 : am_code 148 = am_c148 := by rw [am_code, mm_148]
theorem mm_149 : am_m 149 = (yX7_fitsAll, cX7_fitsAll, 5, some .boolean, 7, false, 1, 1, 21, am_c149, [5096, 1008, 5095, 50]) := rfl
theorem ss_149 : am_ss 149 = false := by rw [am_ss, mm_149]
theorem ml_149 : am_ml 149 = 5 := by rw [am_ml, mm_149]
theorem oc_149 : am_oc 149 = 7 := by rw [am_oc, mm_149]
theorem cd_149 : am_code 149 = am_c149 := by rw [am_code, mm_149]
theorem mm_150 : am_m 150 = (yX7_layRows, cX7_layRows, 5, some .int, 7, false, 0, 2, 45, am_c150, [5092, 1008, 5091, 49]) := rfl
theorem ss_150 : am_ss 150 = false := by rw [am_ss, mm_150]
theorem ml_150 : am_ml 150 = 5 := by rw [am_ml, mm_150]
theorem oc_150 : am_oc 150 = 7 := by rw [am_oc, mm_150]
theorem cd_150 : am_code 150 = am_c150 := by rw [am_code, mm_150]
theorem mm_151 : am_m 151 = (yX7_rows, cX7_rows, 1, some .int, 7, false, 0, 3, 69, am_c151, [5088, 1008, 5086, 5087]) := rfl
theorem ss_151 : am_ss 151 = false := by rw [am_ss, mm_151]
theorem ml_151 : am_ml 151 = 1 := by rw [am_ml, mm_151]
theorem oc_151 : am_oc 151 = 7 := by rw [am_oc, mm_151]
theorem cd_151 : am_code 151 = am_c151 := by rw [am_code, mm_151]
theorem mm_152 : am_m 152 = (yX7_likely, cX7_likely, 4, some .int, 7, false, 2, 3, 69, am_c152, [5103, 1008, 5101, 5102]) := rfl
theorem ss_152 : am_ss 152 = false := by rw [am_ss, mm_152]
theorem ml_152 : am_ml 152 = 4 := by rw [am_ml, mm_152]
theorem oc_152 : am_oc 152 = 7 := by rw [am_oc, mm_152]
theorem cd_152 : am_code 152 = am_c152 := by rw [am_code, mm_152]
theorem mm_153 : am_m 153 = (yX7_brakes, cX7_brakes, 3, some .int, 7, false, 0, 0, 0, am_c153, [5111, 1008, 5110, 51]) := rfl
theorem ss_153 : am_ss 153 = false := by rw [am_ss, mm_153]
theorem ml_153 : am_ml 153 = 3 := by rw [am_ml, mm_153]
theorem oc_153 : am_oc 153 = 7 := by rw [am_oc, mm_153]
theorem cd_153 : am_code 153 = am_c153 := by rw [am_code, mm_153]
theorem mm_154 : am_m 154 = (yX7_keep, cX7_keep, 3, some .int, 7, false, 1, 1, 25, am_c154, [5107, 1008, 5105, 5106]) := rfl
theorem ss_154 : am_ss 154 = false := by rw [am_ss, mm_154]
theorem ml_154 : am_ml 154 = 3 := by rw [am_ml, mm_154]
theorem oc_154 : am_oc 154 = 7 := by rw [am_oc, mm_154]
theorem cd_154 : am_code 154 = am_c154 := by rw [am_code, mm_154]
theorem mm_155 : am_m 155 = (yX7_again, cX7_again, 3, some .int, 7, false, 1, 1, 25, am_c155, [5115, 1008, 5113, 5114]) := rfl
theorem ss_155 : am_ss 155 = false := by rw [am_ss, mm_155]
theorem ml_155 : am_ml 155 = 3 := by rw [am_ml, mm_155]
theorem oc_155 : am_oc 155 = 7 := by rw [am_oc, mm_155]
theorem cd_155 : am_code 155 = am_c155 := by rw [am_code, mm_155]
theorem mm_156 : am_m 156 = (yJ6_bitCount_0f7a4, cJ6_bitCount_0f7a4, 1, some .int, 99, true, 1, 0, 0, am_c156, [3034, 1012, 3033, 0]) := rfl
theorem ss_156 : am_ss 156 = true := by rw [am_ss, mm_156]
theorem ml_156 : am_ml 156 = 1 := by rw [am_ml, mm_156]
theorem oc_156 : am_oc 156 = 99 := by rw [am_oc, mm_156]
theorem cd_156 : am_code 156 = am_c156 := by rw [am_code, mm_156]
theorem mm_157 : am_m 157 = (yJ9_floorMod_7cf53, cJ9_floorMod_7cf53, 3, some .int, 99, true, 2, 0, 0, am_c157, [2132, 1011, 2131, 0]) := rfl
theorem ss_157 : am_ss 157 = true := by rw [am_ss, mm_157]
theorem ml_157 : am_ml 157 = 3 := by rw [am_ml, mm_157]
theorem oc_157 : am_oc 157 = 99 := by rw [am_oc, mm_157]
theorem cd_157 : am_code 157 = am_c157 := by rw [am_code, mm_157]
theorem mm_158 : am_m 158 = (yJ9_abs_0f7a4, cJ9_abs_0f7a4, 1, some .int, 99, true, 1, 0, 0, am_c158, [3067, 1011, 3066, 0]) := rfl
theorem ss_158 : am_ss 158 = true := by rw [am_ss, mm_158]
theorem ml_158 : am_ml 158 = 1 := by rw [am_ml, mm_158]
theorem oc_158 : am_oc 158 = 99 := by rw [am_oc, mm_158]
theorem cd_158 : am_code 158 = am_c158 := by rw [am_code, mm_158]
theorem mm_159 : am_m 159 = (yJ9_max_7cf53, cJ9_max_7cf53, 2, some .int, 99, true, 2, 0, 0, am_c159, [2172, 1011, 2171, 0]) := rfl
theorem ss_159 : am_ss 159 = true := by rw [am_ss, mm_159]
theorem ml_159 : am_ml 159 = 2 := by rw [am_ml, mm_159]
theorem oc_159 : am_oc 159 = 99 := by rw [am_oc, mm_159]
theorem cd_159 : am_code 159 = am_c159 := by rw [am_code, mm_159]
theorem mm_160 : am_m 160 = (yJ9_min_7cf53, cJ9_min_7cf53, 2, some .int, 99, true, 2, 0, 0, am_c160, [2175, 1011, 2174, 0]) := rfl
theorem ss_160 : am_ss 160 = true := by rw [am_ss, mm_160]
theorem ml_160 : am_ml 160 = 2 := by rw [am_ml, mm_160]
theorem oc_160 : am_oc 160 = 99 := by rw [am_oc, mm_160]
theorem cd_160 : am_code 160 = am_c160 := by rw [am_code, mm_160]
theorem mm_161 : am_m 161 = (yJ7_fill_d0a16, cJ7_fill_d0a16, 5, none, 99, true, 2, 0, 0, am_c161, [3199, 1009, 3198, 0]) := rfl
theorem ss_161 : am_ss 161 = true := by rw [am_ss, mm_161]
theorem ml_161 : am_ml 161 = 5 := by rw [am_ml, mm_161]
theorem oc_161 : am_oc 161 = 99 := by rw [am_oc, mm_161]
theorem cd_161 : am_code 161 = am_c161 := by rw [am_code, mm_161]
theorem mm_162 : am_m 162 = (yJ7_fill_53178, cJ7_fill_53178, 4, none, 99, true, 2, 0, 0, am_c162, [2069, 1009, 2068, 0]) := rfl
theorem ss_162 : am_ss 162 = true := by rw [am_ss, mm_162]
theorem ml_162 : am_ml 162 = 4 := by rw [am_ml, mm_162]
theorem oc_162 : am_oc 162 = 99 := by rw [am_oc, mm_162]
theorem cd_162 : am_code 162 = am_c162 := by rw [am_code, mm_162]
theorem ca_0_85 (x0 : Option Nat) (h : am_H) (Q : am_P) : am_Call 0 [.inr (.inr (some 85)), .inr (.inr x0)] h Q = am_Ex 0 0 [some (.inr (.inr (some 85))), some (.inr (.inr x0)), none, none] [] h Q := am_call_Ve ss_0 ml_0 ly_85 oc_0 rfl rfl
theorem ca_1_85 (x0 : Int) (x1 : Int) (h : am_H) (Q : am_P) : am_Call 1 [.inr (.inr (some 85)), .inl x0, .inl x1] h Q = am_Ex 1 0 [some (.inr (.inr (some 85))), some (.inl x0), some (.inl x1), none] [] h Q := am_call_Ve ss_1 ml_1 ly_85 oc_1 rfl rfl
theorem ca_2_85 (x0 : Int) (x1 : Int) (h : am_H) (Q : am_P) : am_Call 2 [.inr (.inr (some 85)), .inl x0, .inl x1] h Q = am_Ex 2 0 [some (.inr (.inr (some 85))), some (.inl x0), some (.inl x1)] [] h Q := am_call_Ve ss_2 ml_2 ly_85 oc_2 rfl rfl
theorem ca_3_85 (x0 : Int) (x1 : Int) (x2 : Int) (h : am_H) (Q : am_P) : am_Call 3 [.inr (.inr (some 85)), .inl x0, .inl x1, .inl x2] h Q = am_Ex 3 0 [some (.inr (.inr (some 85))), some (.inl x0), some (.inl x1), some (.inl x2)] [] h Q := am_call_Ve ss_3 ml_3 ly_85 oc_3 rfl rfl
theorem ca_4_85 (x0 : Int) (x1 : Int) (x2 : Int) (h : am_H) (Q : am_P) : am_Call 4 [.inr (.inr (some 85)), .inl x0, .inl x1, .inl x2] h Q = am_Ex 4 0 [some (.inr (.inr (some 85))), some (.inl x0), some (.inl x1), some (.inl x2), none, none, none, none] [] h Q := am_call_Ve ss_4 ml_4 ly_85 oc_4 rfl rfl
theorem ca_5_79 (x0 : Option Nat) (h : am_H) (Q : am_P) : am_Call 5 [.inr (.inr (some 79)), .inr (.inr x0)] h Q = am_Ex 5 0 [some (.inr (.inr (some 79))), some (.inr (.inr x0)), none] [] h Q := am_call_Ve ss_5 ml_5 ly_79 oc_5 rfl rfl
theorem ca_5_80 (x0 : Option Nat) (h : am_H) (Q : am_P) : am_Call 5 [.inr (.inr (some 80)), .inr (.inr x0)] h Q = am_Ex 5 0 [some (.inr (.inr (some 80))), some (.inr (.inr x0)), none] [] h Q := am_call_Ve ss_5 ml_5 ly_80 oc_5 rfl rfl
theorem ca_5_81 (x0 : Option Nat) (h : am_H) (Q : am_P) : am_Call 5 [.inr (.inr (some 81)), .inr (.inr x0)] h Q = am_Ex 5 0 [some (.inr (.inr (some 81))), some (.inr (.inr x0)), none] [] h Q := am_call_Ve ss_5 ml_5 ly_81 oc_5 rfl rfl
theorem ca_5_82 (x0 : Option Nat) (h : am_H) (Q : am_P) : am_Call 5 [.inr (.inr (some 82)), .inr (.inr x0)] h Q = am_Ex 5 0 [some (.inr (.inr (some 82))), some (.inr (.inr x0)), none] [] h Q := am_call_Ve ss_5 ml_5 ly_82 oc_5 rfl rfl
theorem ca_6_79 (x0 : Option Nat) (h : am_H) (Q : am_P) : am_Call 6 [.inr (.inr (some 79)), .inr (.inr x0)] h Q = am_Ex 6 0 [some (.inr (.inr (some 79))), some (.inr (.inr x0))] [] h Q := am_call_Ve ss_6 ml_6 ly_79 oc_6 rfl rfl
theorem ca_6_80 (x0 : Option Nat) (h : am_H) (Q : am_P) : am_Call 6 [.inr (.inr (some 80)), .inr (.inr x0)] h Q = am_Ex 6 0 [some (.inr (.inr (some 80))), some (.inr (.inr x0))] [] h Q := am_call_Ve ss_6 ml_6 ly_80 oc_6 rfl rfl
theorem ca_6_81 (x0 : Option Nat) (h : am_H) (Q : am_P) : am_Call 6 [.inr (.inr (some 81)), .inr (.inr x0)] h Q = am_Ex 6 0 [some (.inr (.inr (some 81))), some (.inr (.inr x0))] [] h Q := am_call_Ve ss_6 ml_6 ly_81 oc_6 rfl rfl
theorem ca_6_82 (x0 : Option Nat) (h : am_H) (Q : am_P) : am_Call 6 [.inr (.inr (some 82)), .inr (.inr x0)] h Q = am_Ex 6 0 [some (.inr (.inr (some 82))), some (.inr (.inr x0))] [] h Q := am_call_Ve ss_6 ml_6 ly_82 oc_6 rfl rfl
theorem ca_7_79  (h : am_H) (Q : am_P) : am_Call 7 [.inr (.inr (some 79))] h Q = am_Ex 7 0 [some (.inr (.inr (some 79)))] [] h Q := am_call_Ve ss_7 ml_7 ly_79 oc_7 rfl rfl
theorem ca_7_80  (h : am_H) (Q : am_P) : am_Call 7 [.inr (.inr (some 80))] h Q = am_Ex 7 0 [some (.inr (.inr (some 80)))] [] h Q := am_call_Ve ss_7 ml_7 ly_80 oc_7 rfl rfl
theorem ca_7_81  (h : am_H) (Q : am_P) : am_Call 7 [.inr (.inr (some 81))] h Q = am_Ex 7 0 [some (.inr (.inr (some 81)))] [] h Q := am_call_Ve ss_7 ml_7 ly_81 oc_7 rfl rfl
theorem ca_7_82  (h : am_H) (Q : am_P) : am_Call 7 [.inr (.inr (some 82))] h Q = am_Ex 7 0 [some (.inr (.inr (some 82)))] [] h Q := am_call_Ve ss_7 ml_7 ly_82 oc_7 rfl rfl
theorem ca_8_79 (x0 : Int) (x1 : Int) (x2 : Int) (h : am_H) (Q : am_P) : am_Call 8 [.inr (.inr (some 79)), .inl x0, .inl x1, .inl x2] h Q = am_Ex 8 0 [some (.inr (.inr (some 79))), some (.inl x0), some (.inl x1), some (.inl x2)] [] h Q := am_call_Ve ss_8 ml_8 ly_79 oc_8 rfl rfl
theorem ca_8_80 (x0 : Int) (x1 : Int) (x2 : Int) (h : am_H) (Q : am_P) : am_Call 8 [.inr (.inr (some 80)), .inl x0, .inl x1, .inl x2] h Q = am_Ex 8 0 [some (.inr (.inr (some 80))), some (.inl x0), some (.inl x1), some (.inl x2)] [] h Q := am_call_Ve ss_8 ml_8 ly_80 oc_8 rfl rfl
theorem ca_8_81 (x0 : Int) (x1 : Int) (x2 : Int) (h : am_H) (Q : am_P) : am_Call 8 [.inr (.inr (some 81)), .inl x0, .inl x1, .inl x2] h Q = am_Ex 8 0 [some (.inr (.inr (some 81))), some (.inl x0), some (.inl x1), some (.inl x2)] [] h Q := am_call_Ve ss_8 ml_8 ly_81 oc_8 rfl rfl
theorem ca_8_82 (x0 : Int) (x1 : Int) (x2 : Int) (h : am_H) (Q : am_P) : am_Call 8 [.inr (.inr (some 82)), .inl x0, .inl x1, .inl x2] h Q = am_Ex 8 0 [some (.inr (.inr (some 82))), some (.inl x0), some (.inl x1), some (.inl x2)] [] h Q := am_call_Ve ss_8 ml_8 ly_82 oc_8 rfl rfl
theorem ca_9_79 (x0 : Int) (x1 : Int) (h : am_H) (Q : am_P) : am_Call 9 [.inr (.inr (some 79)), .inl x0, .inl x1] h Q = am_Ex 9 0 [some (.inr (.inr (some 79))), some (.inl x0), some (.inl x1), none] [] h Q := am_call_Ve ss_9 ml_9 ly_79 oc_9 rfl rfl
theorem ca_9_80 (x0 : Int) (x1 : Int) (h : am_H) (Q : am_P) : am_Call 9 [.inr (.inr (some 80)), .inl x0, .inl x1] h Q = am_Ex 9 0 [some (.inr (.inr (some 80))), some (.inl x0), some (.inl x1), none] [] h Q := am_call_Ve ss_9 ml_9 ly_80 oc_9 rfl rfl
theorem ca_9_81 (x0 : Int) (x1 : Int) (h : am_H) (Q : am_P) : am_Call 9 [.inr (.inr (some 81)), .inl x0, .inl x1] h Q = am_Ex 9 0 [some (.inr (.inr (some 81))), some (.inl x0), some (.inl x1), none] [] h Q := am_call_Ve ss_9 ml_9 ly_81 oc_9 rfl rfl
theorem ca_9_82 (x0 : Int) (x1 : Int) (h : am_H) (Q : am_P) : am_Call 9 [.inr (.inr (some 82)), .inl x0, .inl x1] h Q = am_Ex 9 0 [some (.inr (.inr (some 82))), some (.inl x0), some (.inl x1), none] [] h Q := am_call_Ve ss_9 ml_9 ly_82 oc_9 rfl rfl
theorem ca_10_79  (h : am_H) (Q : am_P) : am_Call 10 [.inr (.inr (some 79))] h Q = am_Ex 10 0 [some (.inr (.inr (some 79))), none, none] [] h Q := am_call_Ve ss_10 ml_10 ly_79 oc_10 rfl rfl
theorem ca_10_80  (h : am_H) (Q : am_P) : am_Call 10 [.inr (.inr (some 80))] h Q = am_Ex 10 0 [some (.inr (.inr (some 80))), none, none] [] h Q := am_call_Ve ss_10 ml_10 ly_80 oc_10 rfl rfl
theorem ca_10_81  (h : am_H) (Q : am_P) : am_Call 10 [.inr (.inr (some 81))] h Q = am_Ex 10 0 [some (.inr (.inr (some 81))), none, none] [] h Q := am_call_Ve ss_10 ml_10 ly_81 oc_10 rfl rfl
theorem ca_10_82  (h : am_H) (Q : am_P) : am_Call 10 [.inr (.inr (some 82))] h Q = am_Ex 10 0 [some (.inr (.inr (some 82))), none, none] [] h Q := am_call_Ve ss_10 ml_10 ly_82 oc_10 rfl rfl
theorem ca_11_79 (x0 : Int) (x1 : Int) (x2 : Int) (h : am_H) (Q : am_P) : am_Call 11 [.inr (.inr (some 79)), .inl x0, .inl x1, .inl x2] h Q = am_Ex 11 0 [some (.inr (.inr (some 79))), some (.inl x0), some (.inl x1), some (.inl x2)] [] h Q := am_call_Ve ss_11 ml_11 ly_79 oc_11 rfl rfl
theorem ca_11_80 (x0 : Int) (x1 : Int) (x2 : Int) (h : am_H) (Q : am_P) : am_Call 11 [.inr (.inr (some 80)), .inl x0, .inl x1, .inl x2] h Q = am_Ex 11 0 [some (.inr (.inr (some 80))), some (.inl x0), some (.inl x1), some (.inl x2)] [] h Q := am_call_Ve ss_11 ml_11 ly_80 oc_11 rfl rfl
theorem ca_11_81 (x0 : Int) (x1 : Int) (x2 : Int) (h : am_H) (Q : am_P) : am_Call 11 [.inr (.inr (some 81)), .inl x0, .inl x1, .inl x2] h Q = am_Ex 11 0 [some (.inr (.inr (some 81))), some (.inl x0), some (.inl x1), some (.inl x2)] [] h Q := am_call_Ve ss_11 ml_11 ly_81 oc_11 rfl rfl
theorem ca_11_82 (x0 : Int) (x1 : Int) (x2 : Int) (h : am_H) (Q : am_P) : am_Call 11 [.inr (.inr (some 82)), .inl x0, .inl x1, .inl x2] h Q = am_Ex 11 0 [some (.inr (.inr (some 82))), some (.inl x0), some (.inl x1), some (.inl x2)] [] h Q := am_call_Ve ss_11 ml_11 ly_82 oc_11 rfl rfl
theorem ca_12_77  (h : am_H) (Q : am_P) : am_Call 12 [.inr (.inr (some 77))] h Q = am_Ex 12 0 [some (.inr (.inr (some 77)))] [] h Q := am_call_Ve ss_12 ml_12 ly_77 oc_12 rfl rfl
theorem ca_12_78  (h : am_H) (Q : am_P) : am_Call 12 [.inr (.inr (some 78))] h Q = am_Ex 12 0 [some (.inr (.inr (some 78)))] [] h Q := am_call_Ve ss_12 ml_12 ly_78 oc_12 rfl rfl
theorem ca_13_77 (x0 : Option Nat) (h : am_H) (Q : am_P) : am_Call 13 [.inr (.inr (some 77)), .inr (.inr x0)] h Q = am_Ex 13 0 [some (.inr (.inr (some 77))), some (.inr (.inr x0))] [] h Q := am_call_Ve ss_13 ml_13 ly_77 oc_13 rfl rfl
theorem ca_13_78 (x0 : Option Nat) (h : am_H) (Q : am_P) : am_Call 13 [.inr (.inr (some 78)), .inr (.inr x0)] h Q = am_Ex 13 0 [some (.inr (.inr (some 78))), some (.inr (.inr x0))] [] h Q := am_call_Ve ss_13 ml_13 ly_78 oc_13 rfl rfl
theorem ca_14_77 (x0 : Int) (h : am_H) (Q : am_P) : am_Call 14 [.inr (.inr (some 77)), .inl x0] h Q = am_Ex 14 0 [some (.inr (.inr (some 77))), some (.inl x0)] [] h Q := am_call_Ve ss_14 ml_14 ly_77 oc_14 rfl rfl
theorem ca_14_78 (x0 : Int) (h : am_H) (Q : am_P) : am_Call 14 [.inr (.inr (some 78)), .inl x0] h Q = am_Ex 14 0 [some (.inr (.inr (some 78))), some (.inl x0)] [] h Q := am_call_Ve ss_14 ml_14 ly_78 oc_14 rfl rfl
theorem ca_15_77 (x0 : Int) (h : am_H) (Q : am_P) : am_Call 15 [.inr (.inr (some 77)), .inl x0] h Q = am_Ex 15 0 [some (.inr (.inr (some 77))), some (.inl x0)] [] h Q := am_call_Ve ss_15 ml_15 ly_77 oc_15 rfl rfl
theorem ca_15_78 (x0 : Int) (h : am_H) (Q : am_P) : am_Call 15 [.inr (.inr (some 78)), .inl x0] h Q = am_Ex 15 0 [some (.inr (.inr (some 78))), some (.inl x0)] [] h Q := am_call_Ve ss_15 ml_15 ly_78 oc_15 rfl rfl
theorem ca_16_77 (x0 : Int) (h : am_H) (Q : am_P) : am_Call 16 [.inr (.inr (some 77)), .inl x0] h Q = am_Ex 16 0 [some (.inr (.inr (some 77))), some (.inl x0)] [] h Q := am_call_Ve ss_16 ml_16 ly_77 oc_16 rfl rfl
theorem ca_16_78 (x0 : Int) (h : am_H) (Q : am_P) : am_Call 16 [.inr (.inr (some 78)), .inl x0] h Q = am_Ex 16 0 [some (.inr (.inr (some 78))), some (.inl x0)] [] h Q := am_call_Ve ss_16 ml_16 ly_78 oc_16 rfl rfl
theorem ca_17_77 (x0 : Int) (x1 : Int) (h : am_H) (Q : am_P) : am_Call 17 [.inr (.inr (some 77)), .inl x0, .inl x1] h Q = am_Ex 17 0 [some (.inr (.inr (some 77))), some (.inl x0), some (.inl x1), none] [] h Q := am_call_Ve ss_17 ml_17 ly_77 oc_17 rfl rfl
theorem ca_17_78 (x0 : Int) (x1 : Int) (h : am_H) (Q : am_P) : am_Call 17 [.inr (.inr (some 78)), .inl x0, .inl x1] h Q = am_Ex 17 0 [some (.inr (.inr (some 78))), some (.inl x0), some (.inl x1), none] [] h Q := am_call_Ve ss_17 ml_17 ly_78 oc_17 rfl rfl
theorem ca_18_76 (x0 : Option Nat) (x1 : Int) (h : am_H) (Q : am_P) : am_Call 18 [.inr (.inr (some 76)), .inr (.inr x0), .inl x1] h Q = am_Ex 18 0 [some (.inr (.inr (some 76))), some (.inr (.inr x0)), some (.inl x1), none] [] h Q := am_call_Ve ss_18 ml_18 ly_76 oc_18 rfl rfl
theorem ca_19_76 (x0 : Int) (h : am_H) (Q : am_P) : am_Call 19 [.inr (.inr (some 76)), .inl x0] h Q = am_Ex 19 0 [some (.inr (.inr (some 76))), some (.inl x0), none] [] h Q := am_call_Ve ss_19 ml_19 ly_76 oc_19 rfl rfl
theorem ca_20_76 (x0 : Int) (h : am_H) (Q : am_P) : am_Call 20 [.inr (.inr (some 76)), .inl x0] h Q = am_Ex 20 0 [some (.inr (.inr (some 76))), some (.inl x0)] [] h Q := am_call_Ve ss_20 ml_20 ly_76 oc_20 rfl rfl
theorem ca_21_76 (x0 : Int) (h : am_H) (Q : am_P) : am_Call 21 [.inr (.inr (some 76)), .inl x0] h Q = am_Ex 21 0 [some (.inr (.inr (some 76))), some (.inl x0)] [] h Q := am_call_Ve ss_21 ml_21 ly_76 oc_21 rfl rfl
theorem ca_22_76 (x0 : Int) (h : am_H) (Q : am_P) : am_Call 22 [.inr (.inr (some 76)), .inl x0] h Q = am_Ex 22 0 [some (.inr (.inr (some 76))), some (.inl x0)] [] h Q := am_call_Ve ss_22 ml_22 ly_76 oc_22 rfl rfl
theorem ca_23_76 (x0 : Int) (h : am_H) (Q : am_P) : am_Call 23 [.inr (.inr (some 76)), .inl x0] h Q = am_Ex 23 0 [some (.inr (.inr (some 76))), some (.inl x0)] [] h Q := am_call_Ve ss_23 ml_23 ly_76 oc_23 rfl rfl
theorem ca_24_76 (x0 : Int) (h : am_H) (Q : am_P) : am_Call 24 [.inr (.inr (some 76)), .inl x0] h Q = am_Ex 24 0 [some (.inr (.inr (some 76))), some (.inl x0), none] [] h Q := am_call_Ve ss_24 ml_24 ly_76 oc_24 rfl rfl
theorem ca_25_83  (h : am_H) (Q : am_P) : am_Call 25 [.inr (.inr (some 83))] h Q = am_Ex 25 0 [some (.inr (.inr (some 83))), none, none, none] [] h Q := am_call_Ve ss_25 ml_25 ly_83 oc_25 rfl rfl
theorem ca_26_83 (x0 : Int) (x1 : Int) (h : am_H) (Q : am_P) : am_Call 26 [.inr (.inr (some 83)), .inl x0, .inl x1] h Q = am_Ex 26 0 [some (.inr (.inr (some 83))), some (.inl x0), some (.inl x1)] [] h Q := am_call_Ve ss_26 ml_26 ly_83 oc_26 rfl rfl
theorem ca_27_83 (x0 : Option Nat) (h : am_H) (Q : am_P) : am_Call 27 [.inr (.inr (some 83)), .inr (.inr x0)] h Q = am_Ex 27 0 [some (.inr (.inr (some 83))), some (.inr (.inr x0)), none] [] h Q := am_call_Ve ss_27 ml_27 ly_83 oc_27 rfl rfl
theorem ca_28_83 (x0 : Int) (x1 : Int) (x2 : Int) (x3 : Int) (h : am_H) (Q : am_P) : am_Call 28 [.inr (.inr (some 83)), .inl x0, .inl x1, .inl x2, .inl x3] h Q = am_Ex 28 0 [some (.inr (.inr (some 83))), some (.inl x0), some (.inl x1), some (.inl x2), some (.inl x3), none, none] [] h Q := am_call_Ve ss_28 ml_28 ly_83 oc_28 rfl rfl
theorem ca_29_83 (x0 : Int) (h : am_H) (Q : am_P) : am_Call 29 [.inr (.inr (some 83)), .inl x0] h Q = am_Ex 29 0 [some (.inr (.inr (some 83))), some (.inl x0), none] [] h Q := am_call_Ve ss_29 ml_29 ly_83 oc_29 rfl rfl
theorem ca_30_83 (x0 : Int) (h : am_H) (Q : am_P) : am_Call 30 [.inr (.inr (some 83)), .inl x0] h Q = am_Ex 30 0 [some (.inr (.inr (some 83))), some (.inl x0)] [] h Q := am_call_Ve ss_30 ml_30 ly_83 oc_30 rfl rfl
theorem ca_31_83 (x0 : Int) (x1 : Int) (h : am_H) (Q : am_P) : am_Call 31 [.inr (.inr (some 83)), .inl x0, .inl x1] h Q = am_Ex 31 0 [some (.inr (.inr (some 83))), some (.inl x0), some (.inl x1), none] [] h Q := am_call_Ve ss_31 ml_31 ly_83 oc_31 rfl rfl
theorem ca_32_83 (x0 : Int) (x1 : Int) (h : am_H) (Q : am_P) : am_Call 32 [.inr (.inr (some 83)), .inl x0, .inl x1] h Q = am_Ex 32 0 [some (.inr (.inr (some 83))), some (.inl x0), some (.inl x1), none, none, none, none] [] h Q := am_call_Ve ss_32 ml_32 ly_83 oc_32 rfl rfl
theorem ca_33_83 (x0 : Int) (x1 : Int) (h : am_H) (Q : am_P) : am_Call 33 [.inr (.inr (some 83)), .inl x0, .inl x1] h Q = am_Ex 33 0 [some (.inr (.inr (some 83))), some (.inl x0), some (.inl x1), none] [] h Q := am_call_Ve ss_33 ml_33 ly_83 oc_33 rfl rfl
theorem ca_34_83 (x0 : Int) (x1 : Int) (h : am_H) (Q : am_P) : am_Call 34 [.inr (.inr (some 83)), .inl x0, .inl x1] h Q = am_Ex 34 0 [some (.inr (.inr (some 83))), some (.inl x0), some (.inl x1)] [] h Q := am_call_Ve ss_34 ml_34 ly_83 oc_34 rfl rfl
theorem ca_35_83 (x0 : Int) (h : am_H) (Q : am_P) : am_Call 35 [.inr (.inr (some 83)), .inl x0] h Q = am_Ex 35 0 [some (.inr (.inr (some 83))), some (.inl x0)] [] h Q := am_call_Ve ss_35 ml_35 ly_83 oc_35 rfl rfl
theorem ca_36_83 (x0 : Int) (x1 : Int) (h : am_H) (Q : am_P) : am_Call 36 [.inr (.inr (some 83)), .inl x0, .inl x1] h Q = am_Ex 36 0 [some (.inr (.inr (some 83))), some (.inl x0), some (.inl x1), none, none] [] h Q := am_call_Ve ss_36 ml_36 ly_83 oc_36 rfl rfl
theorem ca_37_83 (x0 : Int) (x1 : Int) (h : am_H) (Q : am_P) : am_Call 37 [.inr (.inr (some 83)), .inl x0, .inl x1] h Q = am_Ex 37 0 [some (.inr (.inr (some 83))), some (.inl x0), some (.inl x1), none, none, none, none, none, none] [] h Q := am_call_Ve ss_37 ml_37 ly_83 oc_37 rfl rfl
theorem ca_38_83 (x0 : Int) (x1 : Int) (x2 : Int) (x3 : Int) (h : am_H) (Q : am_P) : am_Call 38 [.inr (.inr (some 83)), .inl x0, .inl x1, .inl x2, .inl x3] h Q = am_Ex 38 0 [some (.inr (.inr (some 83))), some (.inl x0), some (.inl x1), some (.inl x2), some (.inl x3), none, none, none] [] h Q := am_call_Ve ss_38 ml_38 ly_83 oc_38 rfl rfl
theorem ca_39_84 (x0 : Int) (x1 : Int) (h : am_H) (Q : am_P) : am_Call 39 [.inr (.inr (some 84)), .inl x0, .inl x1] h Q = am_Ex 39 0 [some (.inr (.inr (some 84))), some (.inl x0), some (.inl x1), none, none, none, none] [] h Q := am_call_Ve ss_39 ml_39 ly_84 oc_39 rfl rfl
theorem ca_40_84 (x0 : Int) (h : am_H) (Q : am_P) : am_Call 40 [.inr (.inr (some 84)), .inl x0] h Q = am_Ex 40 0 [some (.inr (.inr (some 84))), some (.inl x0), none, none, none] [] h Q := am_call_Ve ss_40 ml_40 ly_84 oc_40 rfl rfl
theorem ca_41_84 (x0 : Int) (x1 : Int) (x2 : Int) (h : am_H) (Q : am_P) : am_Call 41 [.inr (.inr (some 84)), .inl x0, .inl x1, .inl x2] h Q = am_Ex 41 0 [some (.inr (.inr (some 84))), some (.inl x0), some (.inl x1), some (.inl x2), none] [] h Q := am_call_Ve ss_41 ml_41 ly_84 oc_41 rfl rfl
theorem ca_42_84 (x0 : Int) (x1 : Int) (x2 : Int) (h : am_H) (Q : am_P) : am_Call 42 [.inr (.inr (some 84)), .inl x0, .inl x1, .inl x2] h Q = am_Ex 42 0 [some (.inr (.inr (some 84))), some (.inl x0), some (.inl x1), some (.inl x2), none, none, none] [] h Q := am_call_Ve ss_42 ml_42 ly_84 oc_42 rfl rfl
theorem ca_43_84 (x0 : Int) (x1 : Int) (h : am_H) (Q : am_P) : am_Call 43 [.inr (.inr (some 84)), .inl x0, .inl x1] h Q = am_Ex 43 0 [some (.inr (.inr (some 84))), some (.inl x0), some (.inl x1), none, none] [] h Q := am_call_Ve ss_43 ml_43 ly_84 oc_43 rfl rfl
theorem ca_44_84 (x0 : Int) (h : am_H) (Q : am_P) : am_Call 44 [.inr (.inr (some 84)), .inl x0] h Q = am_Ex 44 0 [some (.inr (.inr (some 84))), some (.inl x0), none] [] h Q := am_call_Ve ss_44 ml_44 ly_84 oc_44 rfl rfl
theorem ca_45_84 (x0 : Int) (x1 : Int) (x2 : Int) (h : am_H) (Q : am_P) : am_Call 45 [.inr (.inr (some 84)), .inl x0, .inl x1, .inl x2] h Q = am_Ex 45 0 [some (.inr (.inr (some 84))), some (.inl x0), some (.inl x1), some (.inl x2), none, none, none, none, none] [] h Q := am_call_Ve ss_45 ml_45 ly_84 oc_45 rfl rfl
theorem ca_46_84 (x0 : Int) (x1 : Int) (x2 : Int) (h : am_H) (Q : am_P) : am_Call 46 [.inr (.inr (some 84)), .inl x0, .inl x1, .inl x2] h Q = am_Ex 46 0 [some (.inr (.inr (some 84))), some (.inl x0), some (.inl x1), some (.inl x2), none, none, none, none] [] h Q := am_call_Ve ss_46 ml_46 ly_84 oc_46 rfl rfl
theorem ca_47_84 (x0 : Int) (x1 : Int) (h : am_H) (Q : am_P) : am_Call 47 [.inr (.inr (some 84)), .inl x0, .inl x1] h Q = am_Ex 47 0 [some (.inr (.inr (some 84))), some (.inl x0), some (.inl x1), none, none, none, none] [] h Q := am_call_Ve ss_47 ml_47 ly_84 oc_47 rfl rfl
theorem ca_48_84 (x0 : Int) (x1 : Int) (h : am_H) (Q : am_P) : am_Call 48 [.inr (.inr (some 84)), .inl x0, .inl x1] h Q = am_Ex 48 0 [some (.inr (.inr (some 84))), some (.inl x0), some (.inl x1), none, none] [] h Q := am_call_Ve ss_48 ml_48 ly_84 oc_48 rfl rfl
theorem ca_49_84 (x0 : Int) (h : am_H) (Q : am_P) : am_Call 49 [.inr (.inr (some 84)), .inl x0] h Q = am_Ex 49 0 [some (.inr (.inr (some 84))), some (.inl x0), none, none] [] h Q := am_call_Ve ss_49 ml_49 ly_84 oc_49 rfl rfl
theorem ca_50_84 (x0 : Int) (h : am_H) (Q : am_P) : am_Call 50 [.inr (.inr (some 84)), .inl x0] h Q = am_Ex 50 0 [some (.inr (.inr (some 84))), some (.inl x0), none, none, none] [] h Q := am_call_Ve ss_50 ml_50 ly_84 oc_50 rfl rfl
theorem ca_51_84  (h : am_H) (Q : am_P) : am_Call 51 [.inr (.inr (some 84))] h Q = am_Ex 51 0 [some (.inr (.inr (some 84))), none, none, none] [] h Q := am_call_Ve ss_51 ml_51 ly_84 oc_51 rfl rfl
theorem ca_52_84 (x0 : Int) (h : am_H) (Q : am_P) : am_Call 52 [.inr (.inr (some 84)), .inl x0] h Q = am_Ex 52 0 [some (.inr (.inr (some 84))), some (.inl x0), none, none] [] h Q := am_call_Ve ss_52 ml_52 ly_84 oc_52 rfl rfl
theorem ca_53_84 (x0 : Int) (x1 : Int) (h : am_H) (Q : am_P) : am_Call 53 [.inr (.inr (some 84)), .inl x0, .inl x1] h Q = am_Ex 53 0 [some (.inr (.inr (some 84))), some (.inl x0), some (.inl x1), none, none] [] h Q := am_call_Ve ss_53 ml_53 ly_84 oc_53 rfl rfl
theorem ca_54_84 (x0 : Int) (h : am_H) (Q : am_P) : am_Call 54 [.inr (.inr (some 84)), .inl x0] h Q = am_Ex 54 0 [some (.inr (.inr (some 84))), some (.inl x0), none] [] h Q := am_call_Ve ss_54 ml_54 ly_84 oc_54 rfl rfl
theorem ca_55_84 (x0 : Int) (h : am_H) (Q : am_P) : am_Call 55 [.inr (.inr (some 84)), .inl x0] h Q = am_Ex 55 0 [some (.inr (.inr (some 84))), some (.inl x0), none] [] h Q := am_call_Ve ss_55 ml_55 ly_84 oc_55 rfl rfl
theorem ca_56_75 (x0 : Int) (x1 : Int64) (h : am_H) (Q : am_P) : am_Call 56 [.inr (.inr (some 75)), .inl x0, .inr (.inl x1)] h Q = am_Ex 56 0 [some (.inr (.inr (some 75))), some (.inl x0), some (.inr (.inl x1)), none, none] [] h Q := am_call_Ve ss_56 ml_56 ly_75 oc_56 rfl rfl
theorem ca_57_75  (h : am_H) (Q : am_P) : am_Call 57 [.inr (.inr (some 75))] h Q = am_Ex 57 0 [some (.inr (.inr (some 75))), none] [] h Q := am_call_Ve ss_57 ml_57 ly_75 oc_57 rfl rfl
theorem ca_58_75  (h : am_H) (Q : am_P) : am_Call 58 [.inr (.inr (some 75))] h Q = am_Ex 58 0 [some (.inr (.inr (some 75)))] [] h Q := am_call_Ve ss_58 ml_58 ly_75 oc_58 rfl rfl
theorem ca_59_75  (h : am_H) (Q : am_P) : am_Call 59 [.inr (.inr (some 75))] h Q = am_Ex 59 0 [some (.inr (.inr (some 75)))] [] h Q := am_call_Ve ss_59 ml_59 ly_75 oc_59 rfl rfl
theorem ca_60_75 (x0 : Int) (h : am_H) (Q : am_P) : am_Call 60 [.inr (.inr (some 75)), .inl x0] h Q = am_Ex 60 0 [some (.inr (.inr (some 75))), some (.inl x0)] [] h Q := am_call_Ve ss_60 ml_60 ly_75 oc_60 rfl rfl
theorem ca_61_75 (x0 : Int) (x1 : Int) (h : am_H) (Q : am_P) : am_Call 61 [.inr (.inr (some 75)), .inl x0, .inl x1] h Q = am_Ex 61 0 [some (.inr (.inr (some 75))), some (.inl x0), some (.inl x1)] [] h Q := am_call_Ve ss_61 ml_61 ly_75 oc_61 rfl rfl
theorem ca_62_75 (x0 : Int) (h : am_H) (Q : am_P) : am_Call 62 [.inr (.inr (some 75)), .inl x0] h Q = am_Ex 62 0 [some (.inr (.inr (some 75))), some (.inl x0)] [] h Q := am_call_Ve ss_62 ml_62 ly_75 oc_62 rfl rfl
theorem ca_63_75 (x0 : Int) (x1 : Int) (h : am_H) (Q : am_P) : am_Call 63 [.inr (.inr (some 75)), .inl x0, .inl x1] h Q = am_Ex 63 0 [some (.inr (.inr (some 75))), some (.inl x0), some (.inl x1), none] [] h Q := am_call_Ve ss_63 ml_63 ly_75 oc_63 rfl rfl
theorem ca_64_75 (x0 : Int) (x1 : Int) (x2 : Int) (h : am_H) (Q : am_P) : am_Call 64 [.inr (.inr (some 75)), .inl x0, .inl x1, .inl x2] h Q = am_Ex 64 0 [some (.inr (.inr (some 75))), some (.inl x0), some (.inl x1), some (.inl x2), none] [] h Q := am_call_Ve ss_64 ml_64 ly_75 oc_64 rfl rfl
theorem ca_65_75 (x0 : Int) (h : am_H) (Q : am_P) : am_Call 65 [.inr (.inr (some 75)), .inl x0] h Q = am_Ex 65 0 [some (.inr (.inr (some 75))), some (.inl x0), none, none] [] h Q := am_call_Ve ss_65 ml_65 ly_75 oc_65 rfl rfl
theorem ca_66_75 (x0 : Int) (x1 : Int) (h : am_H) (Q : am_P) : am_Call 66 [.inr (.inr (some 75)), .inl x0, .inl x1] h Q = am_Ex 66 0 [some (.inr (.inr (some 75))), some (.inl x0), some (.inl x1)] [] h Q := am_call_Ve ss_66 ml_66 ly_75 oc_66 rfl rfl
theorem ca_67_75 (x0 : Int) (x1 : Int) (x2 : Int) (h : am_H) (Q : am_P) : am_Call 67 [.inr (.inr (some 75)), .inl x0, .inl x1, .inl x2] h Q = am_Ex 67 0 [some (.inr (.inr (some 75))), some (.inl x0), some (.inl x1), some (.inl x2)] [] h Q := am_call_Ve ss_67 ml_67 ly_75 oc_67 rfl rfl
theorem ca_68_75 (x0 : Int) (x1 : Int) (x2 : Int) (h : am_H) (Q : am_P) : am_Call 68 [.inr (.inr (some 75)), .inl x0, .inl x1, .inl x2] h Q = am_Ex 68 0 [some (.inr (.inr (some 75))), some (.inl x0), some (.inl x1), some (.inl x2), none] [] h Q := am_call_Ve ss_68 ml_68 ly_75 oc_68 rfl rfl
theorem ca_69_75 (x0 : Int) (x1 : Int) (x2 : Int) (h : am_H) (Q : am_P) : am_Call 69 [.inr (.inr (some 75)), .inl x0, .inl x1, .inl x2] h Q = am_Ex 69 0 [some (.inr (.inr (some 75))), some (.inl x0), some (.inl x1), some (.inl x2), none, none, none] [] h Q := am_call_Ve ss_69 ml_69 ly_75 oc_69 rfl rfl
theorem ca_70_75 (x0 : Int) (x1 : Int) (x2 : Int) (h : am_H) (Q : am_P) : am_Call 70 [.inr (.inr (some 75)), .inl x0, .inl x1, .inl x2] h Q = am_Ex 70 0 [some (.inr (.inr (some 75))), some (.inl x0), some (.inl x1), some (.inl x2), none, none, none] [] h Q := am_call_Ve ss_70 ml_70 ly_75 oc_70 rfl rfl
theorem ca_71_75 (x0 : Int) (x1 : Int) (h : am_H) (Q : am_P) : am_Call 71 [.inr (.inr (some 75)), .inl x0, .inl x1] h Q = am_Ex 71 0 [some (.inr (.inr (some 75))), some (.inl x0), some (.inl x1), none, none] [] h Q := am_call_Ve ss_71 ml_71 ly_75 oc_71 rfl rfl
theorem ca_72_75 (x0 : Int) (x1 : Int) (x2 : Int) (h : am_H) (Q : am_P) : am_Call 72 [.inr (.inr (some 75)), .inl x0, .inl x1, .inl x2] h Q = am_Ex 72 0 [some (.inr (.inr (some 75))), some (.inl x0), some (.inl x1), some (.inl x2)] [] h Q := am_call_Ve ss_72 ml_72 ly_75 oc_72 rfl rfl
theorem ca_73_75 (x0 : Int) (x1 : Int) (x2 : Int) (x3 : Int) (x4 : Int) (h : am_H) (Q : am_P) : am_Call 73 [.inr (.inr (some 75)), .inl x0, .inl x1, .inl x2, .inl x3, .inl x4] h Q = am_Ex 73 0 [some (.inr (.inr (some 75))), some (.inl x0), some (.inl x1), some (.inl x2), some (.inl x3), some (.inl x4), none] [] h Q := am_call_Ve ss_73 ml_73 ly_75 oc_73 rfl rfl
theorem ca_74_75 (x0 : Int) (x1 : Int) (x2 : Int) (h : am_H) (Q : am_P) : am_Call 74 [.inr (.inr (some 75)), .inl x0, .inl x1, .inl x2] h Q = am_Ex 74 0 [some (.inr (.inr (some 75))), some (.inl x0), some (.inl x1), some (.inl x2)] [] h Q := am_call_Ve ss_74 ml_74 ly_75 oc_74 rfl rfl
theorem ca_75_75 (x0 : Int) (x1 : Int) (x2 : Int) (h : am_H) (Q : am_P) : am_Call 75 [.inr (.inr (some 75)), .inl x0, .inl x1, .inl x2] h Q = am_Ex 75 0 [some (.inr (.inr (some 75))), some (.inl x0), some (.inl x1), some (.inl x2)] [] h Q := am_call_Ve ss_75 ml_75 ly_75 oc_75 rfl rfl
theorem ca_76_75 (x0 : Int) (x1 : Int) (x2 : Int) (x3 : Int) (x4 : Int) (h : am_H) (Q : am_P) : am_Call 76 [.inr (.inr (some 75)), .inl x0, .inl x1, .inl x2, .inl x3, .inl x4] h Q = am_Ex 76 0 [some (.inr (.inr (some 75))), some (.inl x0), some (.inl x1), some (.inl x2), some (.inl x3), some (.inl x4), none] [] h Q := am_call_Ve ss_76 ml_76 ly_75 oc_76 rfl rfl
theorem ca_77_75 (x0 : Int) (x1 : Int) (x2 : Int) (x3 : Int) (x4 : Int) (h : am_H) (Q : am_P) : am_Call 77 [.inr (.inr (some 75)), .inl x0, .inl x1, .inl x2, .inl x3, .inl x4] h Q = am_Ex 77 0 [some (.inr (.inr (some 75))), some (.inl x0), some (.inl x1), some (.inl x2), some (.inl x3), some (.inl x4), none, none] [] h Q := am_call_Ve ss_77 ml_77 ly_75 oc_77 rfl rfl
theorem ca_78_75 (x0 : Int) (x1 : Int) (h : am_H) (Q : am_P) : am_Call 78 [.inr (.inr (some 75)), .inl x0, .inl x1] h Q = am_Ex 78 0 [some (.inr (.inr (some 75))), some (.inl x0), some (.inl x1)] [] h Q := am_call_Ve ss_78 ml_78 ly_75 oc_78 rfl rfl
theorem ca_79_75 (x0 : Int) (h : am_H) (Q : am_P) : am_Call 79 [.inr (.inr (some 75)), .inl x0] h Q = am_Ex 79 0 [some (.inr (.inr (some 75))), some (.inl x0)] [] h Q := am_call_Ve ss_79 ml_79 ly_75 oc_79 rfl rfl
theorem ca_80_75 (x0 : Int) (x1 : Int) (x2 : Int) (h : am_H) (Q : am_P) : am_Call 80 [.inr (.inr (some 75)), .inl x0, .inl x1, .inl x2] h Q = am_Ex 80 0 [some (.inr (.inr (some 75))), some (.inl x0), some (.inl x1), some (.inl x2)] [] h Q := am_call_Ve ss_80 ml_80 ly_75 oc_80 rfl rfl
theorem ca_81_75  (h : am_H) (Q : am_P) : am_Call 81 [.inr (.inr (some 75))] h Q = am_Ex 81 0 [some (.inr (.inr (some 75))), none] [] h Q := am_call_Ve ss_81 ml_81 ly_75 oc_81 rfl rfl
theorem ca_82_75  (h : am_H) (Q : am_P) : am_Call 82 [.inr (.inr (some 75))] h Q = am_Ex 82 0 [some (.inr (.inr (some 75)))] [] h Q := am_call_Ve ss_82 ml_82 ly_75 oc_82 rfl rfl
theorem ca_83_75 (x0 : Int) (x1 : Int) (h : am_H) (Q : am_P) : am_Call 83 [.inr (.inr (some 75)), .inl x0, .inl x1] h Q = am_Ex 83 0 [some (.inr (.inr (some 75))), some (.inl x0), some (.inl x1)] [] h Q := am_call_Ve ss_83 ml_83 ly_75 oc_83 rfl rfl
theorem ca_84_75 (x0 : Int) (h : am_H) (Q : am_P) : am_Call 84 [.inr (.inr (some 75)), .inl x0] h Q = am_Ex 84 0 [some (.inr (.inr (some 75))), some (.inl x0), none] [] h Q := am_call_Ve ss_84 ml_84 ly_75 oc_84 rfl rfl
theorem ca_85_75 (x0 : Int) (h : am_H) (Q : am_P) : am_Call 85 [.inr (.inr (some 75)), .inl x0] h Q = am_Ex 85 0 [some (.inr (.inr (some 75))), some (.inl x0), none] [] h Q := am_call_Ve ss_85 ml_85 ly_75 oc_85 rfl rfl
theorem ca_86 (x0 : Int) (h : am_H) (Q : am_P) : am_Call 86 [.inl x0] h Q = am_Ex 86 0 [some (.inl x0)] [] h Q := am_call_Se ss_86 ml_86 rfl rfl
theorem ca_87 (x0 : Int) (h : am_H) (Q : am_P) : am_Call 87 [.inl x0] h Q = am_Ex 87 0 [some (.inl x0)] [] h Q := am_call_Se ss_87 ml_87 rfl rfl
theorem ca_88_75 (x0 : Int) (h : am_H) (Q : am_P) : am_Call 88 [.inr (.inr (some 75)), .inl x0] h Q = am_Ex 88 0 [some (.inr (.inr (some 75))), some (.inl x0)] [] h Q := am_call_Ve ss_88 ml_88 ly_75 oc_88 rfl rfl
theorem ca_89_75 (x0 : Int) (x1 : Int) (h : am_H) (Q : am_P) : am_Call 89 [.inr (.inr (some 75)), .inl x0, .inl x1] h Q = am_Ex 89 0 [some (.inr (.inr (some 75))), some (.inl x0), some (.inl x1)] [] h Q := am_call_Ve ss_89 ml_89 ly_75 oc_89 rfl rfl
theorem ca_90 (x0 : Int) (h : am_H) (Q : am_P) : am_Call 90 [.inl x0] h Q = am_Ex 90 0 [some (.inl x0)] [] h Q := am_call_Se ss_90 ml_90 rfl rfl
theorem ca_91 (x0 : Int) (x1 : Int) (h : am_H) (Q : am_P) : am_Call 91 [.inl x0, .inl x1] h Q = am_Ex 91 0 [some (.inl x0), some (.inl x1), none] [] h Q := am_call_Se ss_91 ml_91 rfl rfl
theorem ca_92_75 (x0 : Int) (x1 : Int) (x2 : Int) (x3 : Int) (x4 : Int) (h : am_H) (Q : am_P) : am_Call 92 [.inr (.inr (some 75)), .inl x0, .inl x1, .inl x2, .inl x3, .inl x4] h Q = am_Ex 92 0 [some (.inr (.inr (some 75))), some (.inl x0), some (.inl x1), some (.inl x2), some (.inl x3), some (.inl x4)] [] h Q := am_call_Ve ss_92 ml_92 ly_75 oc_92 rfl rfl
theorem ca_93_75 (x0 : Int) (x1 : Int) (x2 : Int) (h : am_H) (Q : am_P) : am_Call 93 [.inr (.inr (some 75)), .inl x0, .inl x1, .inl x2] h Q = am_Ex 93 0 [some (.inr (.inr (some 75))), some (.inl x0), some (.inl x1), some (.inl x2)] [] h Q := am_call_Ve ss_93 ml_93 ly_75 oc_93 rfl rfl
theorem ca_94_75 (x0 : Int) (x1 : Int) (x2 : Int) (x3 : Int) (x4 : Int) (h : am_H) (Q : am_P) : am_Call 94 [.inr (.inr (some 75)), .inl x0, .inl x1, .inl x2, .inl x3, .inl x4] h Q = am_Ex 94 0 [some (.inr (.inr (some 75))), some (.inl x0), some (.inl x1), some (.inl x2), some (.inl x3), some (.inl x4), none, none, none, none] [] h Q := am_call_Ve ss_94 ml_94 ly_75 oc_94 rfl rfl
theorem ca_95 (x0 : Int64) (x1 : Int64) (x2 : Int64) (h : am_H) (Q : am_P) : am_Call 95 [.inr (.inl x0), .inr (.inl x1), .inr (.inl x2)] h Q = am_Ex 95 0 [some (.inr (.inl x0)), none, some (.inr (.inl x1)), none, some (.inr (.inl x2)), none] [] h Q := am_call_Se ss_95 ml_95 rfl rfl
theorem ca_96 (x0 : Int) (x1 : Int) (h : am_H) (Q : am_P) : am_Call 96 [.inl x0, .inl x1] h Q = am_Ex 96 0 [some (.inl x0), some (.inl x1)] [] h Q := am_call_Se ss_96 ml_96 rfl rfl
theorem ca_97 (x0 : Int) (h : am_H) (Q : am_P) : am_Call 97 [.inl x0] h Q = am_Ex 97 0 [some (.inl x0), none, none] [] h Q := am_call_Se ss_97 ml_97 rfl rfl
theorem ca_98_86 (x0 : Int) (h : am_H) (Q : am_P) : am_Call 98 [.inr (.inr (some 86)), .inl x0] h Q = am_Ex 98 0 [some (.inr (.inr (some 86))), some (.inl x0)] [] h Q := am_call_Ve ss_98 ml_98 ly_86 oc_98 rfl rfl
theorem ca_99 (x0 : Int) (h : am_H) (Q : am_P) : am_Call 99 [.inl x0] h Q = am_Ex 99 0 [some (.inl x0)] [] h Q := am_call_Se ss_99 ml_99 rfl rfl
theorem ca_100 (x0 : Int) (h : am_H) (Q : am_P) : am_Call 100 [.inl x0] h Q = am_Ex 100 0 [some (.inl x0)] [] h Q := am_call_Se ss_100 ml_100 rfl rfl
theorem ca_101_86 (x0 : Int) (x1 : Int64) (h : am_H) (Q : am_P) : am_Call 101 [.inr (.inr (some 86)), .inl x0, .inr (.inl x1)] h Q = am_Ex 101 0 [some (.inr (.inr (some 86))), some (.inl x0), some (.inr (.inl x1)), none, none] [] h Q := am_call_Ve ss_101 ml_101 ly_86 oc_101 rfl rfl
theorem ca_102_86  (h : am_H) (Q : am_P) : am_Call 102 [.inr (.inr (some 86))] h Q = am_Ex 102 0 [some (.inr (.inr (some 86))), none] [] h Q := am_call_Ve ss_102 ml_102 ly_86 oc_102 rfl rfl
theorem ca_103_86 (x0 : Int) (x1 : Int) (h : am_H) (Q : am_P) : am_Call 103 [.inr (.inr (some 86)), .inl x0, .inl x1] h Q = am_Ex 103 0 [some (.inr (.inr (some 86))), some (.inl x0), some (.inl x1)] [] h Q := am_call_Ve ss_103 ml_103 ly_86 oc_103 rfl rfl
theorem ca_104_86 (x0 : Int) (h : am_H) (Q : am_P) : am_Call 104 [.inr (.inr (some 86)), .inl x0] h Q = am_Ex 104 0 [some (.inr (.inr (some 86))), some (.inl x0), none, none] [] h Q := am_call_Ve ss_104 ml_104 ly_86 oc_104 rfl rfl
theorem ca_105_86  (h : am_H) (Q : am_P) : am_Call 105 [.inr (.inr (some 86))] h Q = am_Ex 105 0 [some (.inr (.inr (some 86))), none, none, none, none, none, none] [] h Q := am_call_Ve ss_105 ml_105 ly_86 oc_105 rfl rfl
theorem ca_106_86  (h : am_H) (Q : am_P) : am_Call 106 [.inr (.inr (some 86))] h Q = am_Ex 106 0 [some (.inr (.inr (some 86))), none, none, none] [] h Q := am_call_Ve ss_106 ml_106 ly_86 oc_106 rfl rfl
theorem ca_107_86  (h : am_H) (Q : am_P) : am_Call 107 [.inr (.inr (some 86))] h Q = am_Ex 107 0 [some (.inr (.inr (some 86))), none] [] h Q := am_call_Ve ss_107 ml_107 ly_86 oc_107 rfl rfl
theorem ca_108_86  (h : am_H) (Q : am_P) : am_Call 108 [.inr (.inr (some 86))] h Q = am_Ex 108 0 [some (.inr (.inr (some 86)))] [] h Q := am_call_Ve ss_108 ml_108 ly_86 oc_108 rfl rfl
theorem ca_109_86  (h : am_H) (Q : am_P) : am_Call 109 [.inr (.inr (some 86))] h Q = am_Ex 109 0 [some (.inr (.inr (some 86))), none] [] h Q := am_call_Ve ss_109 ml_109 ly_86 oc_109 rfl rfl
theorem ca_110_86 (x0 : Int) (h : am_H) (Q : am_P) : am_Call 110 [.inr (.inr (some 86)), .inl x0] h Q = am_Ex 110 0 [some (.inr (.inr (some 86))), some (.inl x0)] [] h Q := am_call_Ve ss_110 ml_110 ly_86 oc_110 rfl rfl
theorem ca_111_86 (x0 : Int) (x1 : Int) (h : am_H) (Q : am_P) : am_Call 111 [.inr (.inr (some 86)), .inl x0, .inl x1] h Q = am_Ex 111 0 [some (.inr (.inr (some 86))), some (.inl x0), some (.inl x1)] [] h Q := am_call_Ve ss_111 ml_111 ly_86 oc_111 rfl rfl
theorem ca_112_86 (x0 : Int) (h : am_H) (Q : am_P) : am_Call 112 [.inr (.inr (some 86)), .inl x0] h Q = am_Ex 112 0 [some (.inr (.inr (some 86))), some (.inl x0)] [] h Q := am_call_Ve ss_112 ml_112 ly_86 oc_112 rfl rfl
theorem ca_113_86 (x0 : Int) (x1 : Int) (h : am_H) (Q : am_P) : am_Call 113 [.inr (.inr (some 86)), .inl x0, .inl x1] h Q = am_Ex 113 0 [some (.inr (.inr (some 86))), some (.inl x0), some (.inl x1), none] [] h Q := am_call_Ve ss_113 ml_113 ly_86 oc_113 rfl rfl
theorem ca_114_86 (x0 : Int) (x1 : Int) (x2 : Int) (h : am_H) (Q : am_P) : am_Call 114 [.inr (.inr (some 86)), .inl x0, .inl x1, .inl x2] h Q = am_Ex 114 0 [some (.inr (.inr (some 86))), some (.inl x0), some (.inl x1), some (.inl x2), none] [] h Q := am_call_Ve ss_114 ml_114 ly_86 oc_114 rfl rfl
theorem ca_115_86 (x0 : Int) (h : am_H) (Q : am_P) : am_Call 115 [.inr (.inr (some 86)), .inl x0] h Q = am_Ex 115 0 [some (.inr (.inr (some 86))), some (.inl x0), none, none, none, none] [] h Q := am_call_Ve ss_115 ml_115 ly_86 oc_115 rfl rfl
theorem ca_116_86 (x0 : Int) (x1 : Int) (h : am_H) (Q : am_P) : am_Call 116 [.inr (.inr (some 86)), .inl x0, .inl x1] h Q = am_Ex 116 0 [some (.inr (.inr (some 86))), some (.inl x0), some (.inl x1), none, none] [] h Q := am_call_Ve ss_116 ml_116 ly_86 oc_116 rfl rfl
theorem ca_117_86 (x0 : Int) (x1 : Int) (x2 : Int) (h : am_H) (Q : am_P) : am_Call 117 [.inr (.inr (some 86)), .inl x0, .inl x1, .inl x2] h Q = am_Ex 117 0 [some (.inr (.inr (some 86))), some (.inl x0), some (.inl x1), some (.inl x2), none, none] [] h Q := am_call_Ve ss_117 ml_117 ly_86 oc_117 rfl rfl
theorem ca_118_86 (x0 : Int) (x1 : Int) (h : am_H) (Q : am_P) : am_Call 118 [.inr (.inr (some 86)), .inl x0, .inl x1] h Q = am_Ex 118 0 [some (.inr (.inr (some 86))), some (.inl x0), some (.inl x1)] [] h Q := am_call_Ve ss_118 ml_118 ly_86 oc_118 rfl rfl
theorem ca_119_86 (x0 : Int) (x1 : Int) (h : am_H) (Q : am_P) : am_Call 119 [.inr (.inr (some 86)), .inl x0, .inl x1] h Q = am_Ex 119 0 [some (.inr (.inr (some 86))), some (.inl x0), some (.inl x1)] [] h Q := am_call_Ve ss_119 ml_119 ly_86 oc_119 rfl rfl
theorem ca_120_86 (x0 : Int) (x1 : Int) (h : am_H) (Q : am_P) : am_Call 120 [.inr (.inr (some 86)), .inl x0, .inl x1] h Q = am_Ex 120 0 [some (.inr (.inr (some 86))), some (.inl x0), some (.inl x1), none, none] [] h Q := am_call_Ve ss_120 ml_120 ly_86 oc_120 rfl rfl
theorem ca_121_86 (x0 : Int) (x1 : Int) (x2 : Int) (x3 : Int) (x4 : Int) (h : am_H) (Q : am_P) : am_Call 121 [.inr (.inr (some 86)), .inl x0, .inl x1, .inl x2, .inl x3, .inl x4] h Q = am_Ex 121 0 [some (.inr (.inr (some 86))), some (.inl x0), some (.inl x1), some (.inl x2), some (.inl x3), some (.inl x4), none, none, none, none] [] h Q := am_call_Ve ss_121 ml_121 ly_86 oc_121 rfl rfl
theorem ca_122_86 (x0 : Int) (x1 : Int) (x2 : Int) (h : am_H) (Q : am_P) : am_Call 122 [.inr (.inr (some 86)), .inl x0, .inl x1, .inl x2] h Q = am_Ex 122 0 [some (.inr (.inr (some 86))), some (.inl x0), some (.inl x1), some (.inl x2)] [] h Q := am_call_Ve ss_122 ml_122 ly_86 oc_122 rfl rfl
theorem ca_123_86 (x0 : Int) (x1 : Int) (x2 : Int) (h : am_H) (Q : am_P) : am_Call 123 [.inr (.inr (some 86)), .inl x0, .inl x1, .inl x2] h Q = am_Ex 123 0 [some (.inr (.inr (some 86))), some (.inl x0), some (.inl x1), some (.inl x2)] [] h Q := am_call_Ve ss_123 ml_123 ly_86 oc_123 rfl rfl
theorem ca_124_86 (x0 : Int) (h : am_H) (Q : am_P) : am_Call 124 [.inr (.inr (some 86)), .inl x0] h Q = am_Ex 124 0 [some (.inr (.inr (some 86))), some (.inl x0), none, none, none] [] h Q := am_call_Ve ss_124 ml_124 ly_86 oc_124 rfl rfl
theorem ca_125_86 (x0 : Int) (x1 : Int) (x2 : Int) (h : am_H) (Q : am_P) : am_Call 125 [.inr (.inr (some 86)), .inl x0, .inl x1, .inl x2] h Q = am_Ex 125 0 [some (.inr (.inr (some 86))), some (.inl x0), some (.inl x1), some (.inl x2), none, none] [] h Q := am_call_Ve ss_125 ml_125 ly_86 oc_125 rfl rfl
theorem ca_126_86 (x0 : Int) (x1 : Int) (x2 : Int) (h : am_H) (Q : am_P) : am_Call 126 [.inr (.inr (some 86)), .inl x0, .inl x1, .inl x2] h Q = am_Ex 126 0 [some (.inr (.inr (some 86))), some (.inl x0), some (.inl x1), some (.inl x2), none] [] h Q := am_call_Ve ss_126 ml_126 ly_86 oc_126 rfl rfl
theorem ca_127_86 (x0 : Int) (x1 : Int) (x2 : Int) (h : am_H) (Q : am_P) : am_Call 127 [.inr (.inr (some 86)), .inl x0, .inl x1, .inl x2] h Q = am_Ex 127 0 [some (.inr (.inr (some 86))), some (.inl x0), some (.inl x1), some (.inl x2), none, none] [] h Q := am_call_Ve ss_127 ml_127 ly_86 oc_127 rfl rfl
theorem ca_128 (x0 : Int) (x1 : Int) (x2 : Int) (h : am_H) (Q : am_P) : am_Call 128 [.inl x0, .inl x1, .inl x2] h Q = am_Ex 128 0 [some (.inl x0), some (.inl x1), some (.inl x2), none, none, none] [] h Q := am_call_Se ss_128 ml_128 rfl rfl
theorem ca_129_86 (x0 : Int) (x1 : Int) (x2 : Int) (h : am_H) (Q : am_P) : am_Call 129 [.inr (.inr (some 86)), .inl x0, .inl x1, .inl x2] h Q = am_Ex 129 0 [some (.inr (.inr (some 86))), some (.inl x0), some (.inl x1), some (.inl x2), none, none] [] h Q := am_call_Ve ss_129 ml_129 ly_86 oc_129 rfl rfl
theorem ca_130_86 (x0 : Int) (x1 : Int) (h : am_H) (Q : am_P) : am_Call 130 [.inr (.inr (some 86)), .inl x0, .inl x1] h Q = am_Ex 130 0 [some (.inr (.inr (some 86))), some (.inl x0), some (.inl x1), none, none, none] [] h Q := am_call_Ve ss_130 ml_130 ly_86 oc_130 rfl rfl
theorem ca_131_86 (x0 : Int) (x1 : Int) (h : am_H) (Q : am_P) : am_Call 131 [.inr (.inr (some 86)), .inl x0, .inl x1] h Q = am_Ex 131 0 [some (.inr (.inr (some 86))), some (.inl x0), some (.inl x1), none, none] [] h Q := am_call_Ve ss_131 ml_131 ly_86 oc_131 rfl rfl
theorem ca_132_86 (x0 : Int) (x1 : Int) (x2 : Int) (h : am_H) (Q : am_P) : am_Call 132 [.inr (.inr (some 86)), .inl x0, .inl x1, .inl x2] h Q = am_Ex 132 0 [some (.inr (.inr (some 86))), some (.inl x0), some (.inl x1), some (.inl x2), none, none] [] h Q := am_call_Ve ss_132 ml_132 ly_86 oc_132 rfl rfl
theorem ca_133_86 (x0 : Int) (x1 : Int) (h : am_H) (Q : am_P) : am_Call 133 [.inr (.inr (some 86)), .inl x0, .inl x1] h Q = am_Ex 133 0 [some (.inr (.inr (some 86))), some (.inl x0), some (.inl x1), none, none, none, none] [] h Q := am_call_Ve ss_133 ml_133 ly_86 oc_133 rfl rfl
theorem ca_134_86 (x0 : Int) (x1 : Int) (x2 : Int) (h : am_H) (Q : am_P) : am_Call 134 [.inr (.inr (some 86)), .inl x0, .inl x1, .inl x2] h Q = am_Ex 134 0 [some (.inr (.inr (some 86))), some (.inl x0), some (.inl x1), some (.inl x2)] [] h Q := am_call_Ve ss_134 ml_134 ly_86 oc_134 rfl rfl
theorem ca_135_86 (x0 : Int) (x1 : Int) (x2 : Int) (h : am_H) (Q : am_P) : am_Call 135 [.inr (.inr (some 86)), .inl x0, .inl x1, .inl x2] h Q = am_Ex 135 0 [some (.inr (.inr (some 86))), some (.inl x0), some (.inl x1), some (.inl x2), none] [] h Q := am_call_Ve ss_135 ml_135 ly_86 oc_135 rfl rfl
theorem ca_136_86 (x0 : Int) (x1 : Int) (x2 : Int) (x3 : Int) (x4 : Int) (h : am_H) (Q : am_P) : am_Call 136 [.inr (.inr (some 86)), .inl x0, .inl x1, .inl x2, .inl x3, .inl x4] h Q = am_Ex 136 0 [some (.inr (.inr (some 86))), some (.inl x0), some (.inl x1), some (.inl x2), some (.inl x3), some (.inl x4), none, none, none] [] h Q := am_call_Ve ss_136 ml_136 ly_86 oc_136 rfl rfl
theorem ca_137_86 (x0 : Int) (x1 : Int) (x2 : Int) (h : am_H) (Q : am_P) : am_Call 137 [.inr (.inr (some 86)), .inl x0, .inl x1, .inl x2] h Q = am_Ex 137 0 [some (.inr (.inr (some 86))), some (.inl x0), some (.inl x1), some (.inl x2), none] [] h Q := am_call_Ve ss_137 ml_137 ly_86 oc_137 rfl rfl
theorem ca_138_86 (x0 : Int) (x1 : Int) (x2 : Int) (h : am_H) (Q : am_P) : am_Call 138 [.inr (.inr (some 86)), .inl x0, .inl x1, .inl x2] h Q = am_Ex 138 0 [some (.inr (.inr (some 86))), some (.inl x0), some (.inl x1), some (.inl x2), none, none, none, none, none, none] [] h Q := am_call_Ve ss_138 ml_138 ly_86 oc_138 rfl rfl
theorem ca_139_86 (x0 : Int) (x1 : Int) (x2 : Int) (x3 : Int) (x4 : Int) (h : am_H) (Q : am_P) : am_Call 139 [.inr (.inr (some 86)), .inl x0, .inl x1, .inl x2, .inl x3, .inl x4] h Q = am_Ex 139 0 [some (.inr (.inr (some 86))), some (.inl x0), some (.inl x1), some (.inl x2), some (.inl x3), some (.inl x4), none, none, none, none, none] [] h Q := am_call_Ve ss_139 ml_139 ly_86 oc_139 rfl rfl
theorem ca_140_86 (x0 : Int) (x1 : Int) (x2 : Int) (x3 : Int) (x4 : Int) (h : am_H) (Q : am_P) : am_Call 140 [.inr (.inr (some 86)), .inl x0, .inl x1, .inl x2, .inl x3, .inl x4] h Q = am_Ex 140 0 [some (.inr (.inr (some 86))), some (.inl x0), some (.inl x1), some (.inl x2), some (.inl x3), some (.inl x4)] [] h Q := am_call_Ve ss_140 ml_140 ly_86 oc_140 rfl rfl
theorem ca_141_86 (x0 : Int) (x1 : Int) (x2 : Int) (x3 : Int) (x4 : Int) (h : am_H) (Q : am_P) : am_Call 141 [.inr (.inr (some 86)), .inl x0, .inl x1, .inl x2, .inl x3, .inl x4] h Q = am_Ex 141 0 [some (.inr (.inr (some 86))), some (.inl x0), some (.inl x1), some (.inl x2), some (.inl x3), some (.inl x4), none, none, none, none, none, none] [] h Q := am_call_Ve ss_141 ml_141 ly_86 oc_141 rfl rfl
theorem ca_142_86 (x0 : Int) (h : am_H) (Q : am_P) : am_Call 142 [.inr (.inr (some 86)), .inl x0] h Q = am_Ex 142 0 [some (.inr (.inr (some 86))), some (.inl x0), none, none, none] [] h Q := am_call_Ve ss_142 ml_142 ly_86 oc_142 rfl rfl
theorem ca_143_86 (x0 : Int) (x1 : Int) (h : am_H) (Q : am_P) : am_Call 143 [.inr (.inr (some 86)), .inl x0, .inl x1] h Q = am_Ex 143 0 [some (.inr (.inr (some 86))), some (.inl x0), some (.inl x1)] [] h Q := am_call_Ve ss_143 ml_143 ly_86 oc_143 rfl rfl
theorem ca_144_86 (x0 : Int) (h : am_H) (Q : am_P) : am_Call 144 [.inr (.inr (some 86)), .inl x0] h Q = am_Ex 144 0 [some (.inr (.inr (some 86))), some (.inl x0), none, none, none] [] h Q := am_call_Ve ss_144 ml_144 ly_86 oc_144 rfl rfl
theorem ca_145_86 (x0 : Int) (h : am_H) (Q : am_P) : am_Call 145 [.inr (.inr (some 86)), .inl x0] h Q = am_Ex 145 0 [some (.inr (.inr (some 86))), some (.inl x0), none, none, none, none] [] h Q := am_call_Ve ss_145 ml_145 ly_86 oc_145 rfl rfl
theorem ca_146_86 (x0 : Int) (x1 : Int) (x2 : Int) (h : am_H) (Q : am_P) : am_Call 146 [.inr (.inr (some 86)), .inl x0, .inl x1, .inl x2] h Q = am_Ex 146 0 [some (.inr (.inr (some 86))), some (.inl x0), some (.inl x1), some (.inl x2)] [] h Q := am_call_Ve ss_146 ml_146 ly_86 oc_146 rfl rfl
theorem ca_147_86  (h : am_H) (Q : am_P) : am_Call 147 [.inr (.inr (some 86))] h Q = am_Ex 147 0 [some (.inr (.inr (some 86))), none] [] h Q := am_call_Ve ss_147 ml_147 ly_86 oc_147 rfl rfl
theorem ca_148 (x0 : Int) (x1 : Int) (h : am_H) (Q : am_P) : am_Call 148 [.inl x0, .inl x1] h Q = am_Ex 148 0 [some (.inl x0), some (.inl x1)] [] h Q := am_call_Se ss_148 ml_148 rfl rfl
theorem ca_149_86 (x0 : Int) (h : am_H) (Q : am_P) : am_Call 149 [.inr (.inr (some 86)), .inl x0] h Q = am_Ex 149 0 [some (.inr (.inr (some 86))), some (.inl x0), none, none, none] [] h Q := am_call_Ve ss_149 ml_149 ly_86 oc_149 rfl rfl
theorem ca_150_86  (h : am_H) (Q : am_P) : am_Call 150 [.inr (.inr (some 86))] h Q = am_Ex 150 0 [some (.inr (.inr (some 86))), none, none, none, none] [] h Q := am_call_Ve ss_150 ml_150 ly_86 oc_150 rfl rfl
theorem ca_151_86  (h : am_H) (Q : am_P) : am_Call 151 [.inr (.inr (some 86))] h Q = am_Ex 151 0 [some (.inr (.inr (some 86)))] [] h Q := am_call_Ve ss_151 ml_151 ly_86 oc_151 rfl rfl
theorem ca_152_86 (x0 : Int) (x1 : Int) (h : am_H) (Q : am_P) : am_Call 152 [.inr (.inr (some 86)), .inl x0, .inl x1] h Q = am_Ex 152 0 [some (.inr (.inr (some 86))), some (.inl x0), some (.inl x1), none] [] h Q := am_call_Ve ss_152 ml_152 ly_86 oc_152 rfl rfl
theorem ca_153_86  (h : am_H) (Q : am_P) : am_Call 153 [.inr (.inr (some 86))] h Q = am_Ex 153 0 [some (.inr (.inr (some 86))), none, none] [] h Q := am_call_Ve ss_153 ml_153 ly_86 oc_153 rfl rfl
theorem ca_154_86 (x0 : Int) (h : am_H) (Q : am_P) : am_Call 154 [.inr (.inr (some 86)), .inl x0] h Q = am_Ex 154 0 [some (.inr (.inr (some 86))), some (.inl x0), none] [] h Q := am_call_Ve ss_154 ml_154 ly_86 oc_154 rfl rfl
theorem ca_155_86 (x0 : Int) (h : am_H) (Q : am_P) : am_Call 155 [.inr (.inr (some 86)), .inl x0] h Q = am_Ex 155 0 [some (.inr (.inr (some 86))), some (.inl x0), none] [] h Q := am_call_Ve ss_155 ml_155 ly_86 oc_155 rfl rfl
theorem ca_156 (x0 : Int) (h : am_H) (Q : am_P) : am_Call 156 [.inl x0] h Q = am_Ex 156 0 [some (.inl x0)] [] h Q := am_call_Se ss_156 ml_156 rfl rfl
theorem ca_157 (x0 : Int) (x1 : Int) (h : am_H) (Q : am_P) : am_Call 157 [.inl x0, .inl x1] h Q = am_Ex 157 0 [some (.inl x0), some (.inl x1), none] [] h Q := am_call_Se ss_157 ml_157 rfl rfl
theorem ca_158 (x0 : Int) (h : am_H) (Q : am_P) : am_Call 158 [.inl x0] h Q = am_Ex 158 0 [some (.inl x0)] [] h Q := am_call_Se ss_158 ml_158 rfl rfl
theorem ca_159 (x0 : Int) (x1 : Int) (h : am_H) (Q : am_P) : am_Call 159 [.inl x0, .inl x1] h Q = am_Ex 159 0 [some (.inl x0), some (.inl x1)] [] h Q := am_call_Se ss_159 ml_159 rfl rfl
theorem ca_160 (x0 : Int) (x1 : Int) (h : am_H) (Q : am_P) : am_Call 160 [.inl x0, .inl x1] h Q = am_Ex 160 0 [some (.inl x0), some (.inl x1)] [] h Q := am_call_Se ss_160 ml_160 rfl rfl
theorem ca_161 (x0 : Option Nat) (x1 : Int64) (h : am_H) (Q : am_P) : am_Call 161 [.inr (.inr x0), .inr (.inl x1)] h Q = am_Ex 161 0 [some (.inr (.inr x0)), some (.inr (.inl x1)), none, none, none] [] h Q := am_call_Se ss_161 ml_161 rfl rfl
theorem ca_162 (x0 : Option Nat) (x1 : Int) (h : am_H) (Q : am_P) : am_Call 162 [.inr (.inr x0), .inl x1] h Q = am_Ex 162 0 [some (.inr (.inr x0)), some (.inl x1), none, none] [] h Q := am_call_Se ss_162 ml_162 rfl rfl
end
