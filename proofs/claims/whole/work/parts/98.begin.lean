/-! the law from its entry (written by wip/whole/mkstart.py) -/
set_option maxRecDepth 100000 in
theorem kk_s : ([(1228, .instantiable RX0 5),
  (1110, .instantiable RX1 8),
  (1028, .instantiable RX2 7),
  (1022, .instantiable RX3 8),
  (1152, .instantiable RX4 13),
  (1199, .instantiable RX5 7),
  (1014, .instantiable RX6 11),
  (4001, .instantiable RX7 35),
  (1013, .classLink "ThreeRingsLaw" 7 RX6),
  (4000, .classLink "ThreeRingsLaw" 10 RX7),
  (1015, .methodLink "ThreeRingsLaw" 9 yX6_init),
  (4002, .methodLink "ThreeRingsLaw" 12 yX7_init),
  (1001, .initialized RX6),
  (1017, .code yX6_init cX6_init 1 none),
  (1016, .instanceMethod yX6_init),
  (1008, .initialized RX7),
  (4004, .code yX7_init cX7_init 1 none),
  (4003, .instanceMethod yX7_init)] : List (Nat × Jvm.Cond)).all (fun q => am_at q.1 q.2) = true := by decide +kernel
theorem st_mem {w : Nat} {c : Jvm.Cond} (h1 : am_ats w = some c) : c ∈ lw_tbl := by
  unfold am_ats at h1
  have m1 : ∀ {x : Jvm.Cond}, x ∈ tables_1 → x ∈ lw_tbl := fun hx => List.mem_append_right _ hx
  split at h1
  · exact List.mem_append_left _ (am_mem_of_nth h1)
  · exact m1 (List.mem_append_left _ (am_mem_of_nth h1))
  · exact m1 (List.mem_append_right _ (List.mem_append_left _ (am_mem_of_nth h1)))
  · exact m1 (List.mem_append_right _ (List.mem_append_right _ (List.mem_append_left _ (am_mem_of_nth h1))))
  · exact m1 (List.mem_append_right _ (List.mem_append_right _ (List.mem_append_right _ (List.mem_append_left _ (am_mem_of_nth h1)))))
  · exact m1 (List.mem_append_right _ (List.mem_append_right _ (List.mem_append_right _ (List.mem_append_right _ (am_mem_of_nth h1)))))
theorem st_n0 : am_ats 1023 = some (.methodLinkNest RX6 19 yX3_init RX6) := by decide +kernel
theorem st_n1 : am_ats 1029 = some (.methodLinkNest RX3 11 yX2_init RX6) := by decide +kernel
theorem st_n2 : am_ats 1108 = some (.methodLinkNest RX6 26 yX2_init RX6) := by decide +kernel
theorem st_n3 : am_ats 1111 = some (.methodLinkNest RX6 33 yX1_init RX6) := by decide +kernel
theorem st_n4 : am_ats 2086 = some (am_nest) := by decide +kernel
theorem dl_0 : decode code 0 = .ok (.new 7, 3) := by decide +kernel
theorem dl_8 : decode code 8 = .ok (.new 10, 3) := by decide +kernel
theorem st_D {s : State} {args : Array Value} (hts : ∀ w ∈ am_tb, w.before args s = true) : ∃ D : va_G, va_K D am_cl [] s := by
  have h : ∀ k : Nat, ∃ p : ClassId × (Nat → Nat), ∀ q : vw_C, am_cl[k]? = some q → u_Kn s q.1 q.2.1 q.2.2 p.1 p.2 := by
    intro k
    cases hq : am_cl[k]? with
    | none => exact ⟨(0, fun _ => 0), fun q e => by cases e⟩
    | some q =>
      obtain ⟨C, T, N⟩ := q
      have hi : Jvm.Cond.instantiable C N ∈ am_tb := by
        match k, hq with
        | 0, hq => cases hq; exact kk_mem kk_s (i := 0) rfl
        | 1, hq => cases hq; exact kk_mem kk_s (i := 1) rfl
        | 2, hq => cases hq; exact kk_mem kk_s (i := 2) rfl
        | 3, hq => cases hq; exact kk_mem kk_s (i := 3) rfl
        | 4, hq => cases hq; exact kk_mem kk_s (i := 4) rfl
        | 5, hq => cases hq; exact kk_mem kk_s (i := 5) rfl
        | 6, hq => cases hq; exact kk_mem kk_s (i := 6) rfl
        | 7, hq => cases hq; exact kk_mem kk_s (i := 7) rfl
        | k + 8, hq => simp [am_cl] at hq
      obtain ⟨cC, iS, hk⟩ := u_known (C := C) (T := T) (N := N) (n := N) hts (am_cls hq).2.1 (hts _ hi)
      exact ⟨(cC, iS), fun q e => by cases e; exact hk⟩
  obtain ⟨f, hf⟩ := Classical.axiomOfChoice h
  exact ⟨(fun k => (f k).1, fun k => (f k).2), fun k q hq => hf k q hq, fun k q h => by simp at h⟩
set_option maxHeartbeats 4000000 in
set_option maxRecDepth 100000 in
theorem whole_start {p : Program} {e : Env} {s : State} {m : MethodId} {below : List Frame} {meth : Method} {c : Code} (l : Launch) (hflags : l.flags = flags0) {b L : Nat} {xs : Nat → Int32} (hL : L ≤ 3072) (C0 : lw_At p s m meth c b L xs) : W p l e room_1 s m #[Value.ref b] below meth c s.heap [] 0 0 (lw_Z below #[Value.ref b] s) (entryFrame m ([Value.ref b] : List Value).toArray 4) := by
  obtain ⟨hx, hb, hr, hml, hown, hts, hX, hbl, hlocks, hgv⟩ := id C0
  have hA : ∀ q : Nat, s.heap.size ≤ q → (fun q : Nat => s.heap.size ≤ q) q := fun _ h => h
  have hN : kn s := ⟨va_Nw.of rfl (hts _ (st_mem st_n0)), va_Nw.of rfl (hts _ (st_mem st_n1)), va_Nw.of rfl (hts _ (st_mem st_n2)), va_Nw.of rfl (hts _ (st_mem st_n3))⟩
  have hN5 : va_Nw am_nest s := va_Nw.of rfl (hts _ (st_mem st_n4))
  have C : kx p s m #[Value.ref b] c code 4 "ThreeRingsLaw" (fun q : Nat => s.heap.size ≤ q) := ⟨hx, hb, hml, hown, fun w hw => hts w (lw_tb hw), hA, hN⟩
  obtain ⟨D, hK0⟩ := st_D (s := s) (args := #[Value.ref b]) (fun w hw => hts w (lw_tb hw))
  have K : kw D (fun q : Nat => s.heap.size ≤ q) [] [] s s.heap [] := ⟨hK0, fun k q h => by simp at h, ⟨fun i j p q h => by simp at h, fun k q h => by simp at h⟩, va_S.rf⟩
  have hl := lv_entry ([.ref b]) (n := 4) (Nat.le_of_ble_eq_true rfl)
  rw [lg_entry_eq]
  generalize (lg_sl ([.ref b]) ++ List.replicate (4 - (lg_sl ([.ref b])).length) Slot.unset).toArray = ls at hl ⊢
  have hl : lv_has ls 4 [(0, .ref b)] := hl
  refine ks_new (fs := [.null, .int 0, .null, .null, .null, .null, .null, .null, .null, .null, .null]) (k1 := 1) (n1 := 11) C K (ci := 6) rfl tyX6 tyX6_ok rfl ⟨(kk_mem kk_s (i := 8) rfl), (kk_mem kk_s (i := 6) rfl), (kk_mem kk_s (i := 12) rfl)⟩ ⟨rfl, Nat.le_of_ble_eq_true rfl⟩ ⟨rfl, Nat.le_of_ble_eq_true rfl⟩ dl_0 dl_3 (fun tr H K => ?_)
  have K : kw D (fun q : Nat => s.heap.size ≤ q) [] [(tr, .inr (6, [.null, .int 0, .null, .null, .null, .null, .null, .null, .null, .null, .null]))] s H [] := K
  refine ks_call (As := []) (rest := [.ref tr]) (k1 := 61) (n1 := 12482) C K hl (kc_6 l D tr) 0 rfl [] [] rfl rfl (by decide) ⟨rfl, by decide, by decide, by decide +kernel⟩ ⟨(kk_mem kk_s (i := 13) rfl), (kk_mem kk_s (i := 12) rfl), (kk_mem kk_s (i := 14) rfl)⟩ (Or.inl (kk_mem kk_s (i := 10) rfl)) ⟨Nat.le_of_ble_eq_true rfl, Nat.le_of_ble_eq_true rfl⟩ ⟨rfl, Nat.le_of_ble_eq_true rfl⟩ ⟨rfl, Nat.le_of_ble_eq_true rfl⟩ rfl (Nat.le_of_ble_eq_true rfl) dl_4 (fun w1 t1 H locs hsh K => ?_)
  obtain ⟨tq1, tc1, tq2, tq3, tq4, tc4, tq5, tc5, tq6, tc6, tq7, tc7, tq8, tc8, tq9, tq10, tc10, tq11, tc11, tq12, tc12, tq13, tc13, tq14, tc14, tq15, tq16, tc16, tq17, tc17, tq18, tc18, tq19, tc19, tq20, tc20, tq21, tc21, tq22, tq23, tc23, tq24, tc24, tq25, tc25, tq26, tc26, tq27, tc27, tq28, tc28, tq29, tq30, tc30, tq31, tc31, tq32, tc32, tq33, tc33, tq34, tc34, tq35, tc35, tq36, tq37, tc37, tq38, tc38, tq39, tc39, tq40, tc40, tq41, tc41, tq42, tc42, tq43, tq44, tc44, tq45, tc45, tq46, tc46, tq47, tc47, tq48, tc48, tq49, tc49, tq50, tc50, tq51, tc51, tq52, tq53, tc53, tq54, tc54, tq55, tc55, tq56, tc56, tq57, tq58, tc58, tq59, tc59, tq60, tc60, rfl, rfl⟩ := hsh
  have K : kw D (fun q : Nat => s.heap.size ≤ q) [(tc1, .int), (tc4, .int), (tc5, .int), (tc6, .int), (tc7, .int), (tc8, .int), (tc10, .int), (tc11, .int), (tc12, .int), (tc13, .int), (tc14, .int), (tc16, .int), (tc17, .int), (tc18, .int), (tc19, .int), (tc20, .int), (tc21, .int), (tc23, .int), (tc24, .int), (tc25, .int), (tc26, .int), (tc27, .int), (tc28, .int), (tc30, .int), (tc31, .int), (tc32, .int), (tc33, .int), (tc34, .int), (tc35, .int), (tc37, .int), (tc38, .int), (tc39, .int), (tc40, .int), (tc41, .int), (tc42, .int), (tc44, .int), (tc45, .int), (tc46, .int), (tc47, .int), (tc48, .int), (tc49, .boolean), (tc50, .int), (tc51, .int), (tc53, .int), (tc54, .int), (tc55, .int), (tc56, .int), (tc58, .long), (tc59, .int), (tc60, .int)]
    [(tr, .inr (6, [.ref tq1, .int 0, .ref tq2, .ref tq9, .ref tq15, .ref tq22, .ref tq29, .ref tq36, .ref tq43, .ref tq52, .ref tq57])), (tq1, kI tc1 60), (tq2, .inr (3, [.ref tq3, .int 0, .int 0, .int 0, .int 0, .int 0, .int 0, .int 0])), (tq3, .inr (2, [.int 12, .int 0, .ref tq4, .ref tq5, .ref tq6, .ref tq7, .ref tq8])), (tq4, kI tc4 8), (tq5, kI tc5 8), (tq6, kI tc6 8), (tq7, kI tc7 8), (tq8, kI tc8 3), (tq9, .inr (2, [.int 12, .int 0, .ref tq10, .ref tq11, .ref tq12, .ref tq13, .ref tq14])), (tq10, kI tc10 8), (tq11, kI tc11 8), (tq12, kI tc12 8), (tq13, kI tc13 8), (tq14, kI tc14 3), (tq15, .inr (1, [.ref tq16, .ref tq17, .ref tq18, .ref tq19, .ref tq20, .ref tq21, .int 0, .int 0])), (tq16, kI tc16 3), (tq17, kI tc17 3), (tq18, kI tc18 3), (tq19, kI tc19 8), (tq20, kI tc20 8), (tq21, kI tc21 8), (tq22, .inr (1, [.ref tq23, .ref tq24, .ref tq25, .ref tq26, .ref tq27, .ref tq28, .int 0, .int 0])), (tq23, kI tc23 3), (tq24, kI tc24 3), (tq25, kI tc25 3), (tq26, kI tc26 8), (tq27, kI tc27 8), (tq28, kI tc28 8), (tq29, .inr (1, [.ref tq30, .ref tq31, .ref tq32, .ref tq33, .ref tq34, .ref tq35, .int 0, .int 0])), (tq30, kI tc30 3), (tq31, kI tc31 3), (tq32, kI tc32 3), (tq33, kI tc33 8), (tq34, kI tc34 8), (tq35, kI tc35 8), (tq36, .inr (1, [.ref tq37, .ref tq38, .ref tq39, .ref tq40, .ref tq41, .ref tq42, .int 0, .int 0])), (tq37, kI tc37 3), (tq38, kI tc38 3), (tq39, kI tc39 3), (tq40, kI tc40 8), (tq41, kI tc41 8), (tq42, kI tc42 8), (tq43, .inr (4, [.ref tq9, .ref tq44, .ref tq45, .ref tq46, .ref tq47, .ref tq48, .ref tq49, .ref tq50, .ref tq51, .int 0, .int 0, .int 0, .int 12])), (tq44, kI tc44 1515), (tq45, kI tc45 64), (tq46, kI tc46 16), (tq47, kI tc47 16), (tq48, kI tc48 16), (tq49, kI tc49 16), (tq50, kI tc50 16), (tq51, kI tc51 8080), (tq52, .inr (5, [.ref tq9, .ref tq43, .ref tq53, .ref tq54, .ref tq55, .ref tq56, .int 0])), (tq53, kI tc53 8), (tq54, kI tc54 64), (tq55, kI tc55 2048), (tq56, kI tc56 256), (tq57, .inr (0, [.ref tq9, .ref tq58, .ref tq59, .ref tq60, .int 0])), (tq58, kL tc58 9), (tq59, kI tc59 3), (tq60, kI tc60 3)] s H locs := K
  refine lv_astore_n (lv' := [(1, .ref tr), (0, .ref b)]) hx hb dl_7 rfl hl (by decide) rfl (fun ls hl => ?_)
  refine ks_new (fs := [.int 0, .null, .int 0, .int 0, .int 0, .int 0, .null, .null, .null, .null, .null, .null, .null, .int 0, .int 0, .null, .null, .null, .null, .null, .int 0, .int 0, .null, .null, .null, .null, .null, .null, .null, .null, .null, .null, .null, .null, .int 0]) (k1 := 62) (n1 := 12517) C K (ci := 7) rfl tyX7 tyX7_ok rfl ⟨(kk_mem kk_s (i := 9) rfl), (kk_mem kk_s (i := 7) rfl), (kk_mem kk_s (i := 15) rfl)⟩ ⟨rfl, Nat.le_of_ble_eq_true rfl⟩ ⟨rfl, Nat.le_of_ble_eq_true rfl⟩ dl_8 dl_11 (fun mo H K => ?_)
  have K : kw D (fun q : Nat => s.heap.size ≤ q) [(tc1, .int), (tc4, .int), (tc5, .int), (tc6, .int), (tc7, .int), (tc8, .int), (tc10, .int), (tc11, .int), (tc12, .int), (tc13, .int), (tc14, .int), (tc16, .int), (tc17, .int), (tc18, .int), (tc19, .int), (tc20, .int), (tc21, .int), (tc23, .int), (tc24, .int), (tc25, .int), (tc26, .int), (tc27, .int), (tc28, .int), (tc30, .int), (tc31, .int), (tc32, .int), (tc33, .int), (tc34, .int), (tc35, .int), (tc37, .int), (tc38, .int), (tc39, .int), (tc40, .int), (tc41, .int), (tc42, .int), (tc44, .int), (tc45, .int), (tc46, .int), (tc47, .int), (tc48, .int), (tc49, .boolean), (tc50, .int), (tc51, .int), (tc53, .int), (tc54, .int), (tc55, .int), (tc56, .int), (tc58, .long), (tc59, .int), (tc60, .int)]
    [(tr, .inr (6, [.ref tq1, .int 0, .ref tq2, .ref tq9, .ref tq15, .ref tq22, .ref tq29, .ref tq36, .ref tq43, .ref tq52, .ref tq57])), (tq1, kI tc1 60), (tq2, .inr (3, [.ref tq3, .int 0, .int 0, .int 0, .int 0, .int 0, .int 0, .int 0])), (tq3, .inr (2, [.int 12, .int 0, .ref tq4, .ref tq5, .ref tq6, .ref tq7, .ref tq8])), (tq4, kI tc4 8), (tq5, kI tc5 8), (tq6, kI tc6 8), (tq7, kI tc7 8), (tq8, kI tc8 3), (tq9, .inr (2, [.int 12, .int 0, .ref tq10, .ref tq11, .ref tq12, .ref tq13, .ref tq14])), (tq10, kI tc10 8), (tq11, kI tc11 8), (tq12, kI tc12 8), (tq13, kI tc13 8), (tq14, kI tc14 3), (tq15, .inr (1, [.ref tq16, .ref tq17, .ref tq18, .ref tq19, .ref tq20, .ref tq21, .int 0, .int 0])), (tq16, kI tc16 3), (tq17, kI tc17 3), (tq18, kI tc18 3), (tq19, kI tc19 8), (tq20, kI tc20 8), (tq21, kI tc21 8), (tq22, .inr (1, [.ref tq23, .ref tq24, .ref tq25, .ref tq26, .ref tq27, .ref tq28, .int 0, .int 0])), (tq23, kI tc23 3), (tq24, kI tc24 3), (tq25, kI tc25 3), (tq26, kI tc26 8), (tq27, kI tc27 8), (tq28, kI tc28 8), (tq29, .inr (1, [.ref tq30, .ref tq31, .ref tq32, .ref tq33, .ref tq34, .ref tq35, .int 0, .int 0])), (tq30, kI tc30 3), (tq31, kI tc31 3), (tq32, kI tc32 3), (tq33, kI tc33 8), (tq34, kI tc34 8), (tq35, kI tc35 8), (tq36, .inr (1, [.ref tq37, .ref tq38, .ref tq39, .ref tq40, .ref tq41, .ref tq42, .int 0, .int 0])), (tq37, kI tc37 3), (tq38, kI tc38 3), (tq39, kI tc39 3), (tq40, kI tc40 8), (tq41, kI tc41 8), (tq42, kI tc42 8), (tq43, .inr (4, [.ref tq9, .ref tq44, .ref tq45, .ref tq46, .ref tq47, .ref tq48, .ref tq49, .ref tq50, .ref tq51, .int 0, .int 0, .int 0, .int 12])), (tq44, kI tc44 1515), (tq45, kI tc45 64), (tq46, kI tc46 16), (tq47, kI tc47 16), (tq48, kI tc48 16), (tq49, kI tc49 16), (tq50, kI tc50 16), (tq51, kI tc51 8080), (tq52, .inr (5, [.ref tq9, .ref tq43, .ref tq53, .ref tq54, .ref tq55, .ref tq56, .int 0])), (tq53, kI tc53 8), (tq54, kI tc54 64), (tq55, kI tc55 2048), (tq56, kI tc56 256), (tq57, .inr (0, [.ref tq9, .ref tq58, .ref tq59, .ref tq60, .int 0])), (tq58, kL tc58 9), (tq59, kI tc59 3), (tq60, kI tc60 3), (mo, .inr (7, [.int 0, .null, .int 0, .int 0, .int 0, .int 0, .null, .null, .null, .null, .null, .null, .null, .int 0, .int 0, .null, .null, .null, .null, .null, .int 0, .int 0, .null, .null, .null, .null, .null, .null, .null, .null, .null, .null, .null, .null, .int 0]))] s H locs := K
  refine ks_call (As := []) (rest := [.ref mo]) (k1 := 87) (n1 := 15269) C K hl (kc_7 l D mo) 61 rfl [0, 1, 2, 3, 4, 5, 6, 7, 8, 9, 10, 11, 12, 13, 14, 15, 16, 17, 18, 19, 20, 21, 22, 23, 24, 25, 26, 27, 28, 29, 30, 31, 32, 33, 34, 35, 36, 37, 38, 39, 40, 41, 42, 43, 44, 45, 46, 47, 48, 49, 50, 51, 52, 53, 54, 55, 56, 57, 58, 59, 60] [(tr, .inr (6, [.ref tq1, .int 0, .ref tq2, .ref tq9, .ref tq15, .ref tq22, .ref tq29, .ref tq36, .ref tq43, .ref tq52, .ref tq57])), (tq1, kI tc1 60), (tq2, .inr (3, [.ref tq3, .int 0, .int 0, .int 0, .int 0, .int 0, .int 0, .int 0])), (tq3, .inr (2, [.int 12, .int 0, .ref tq4, .ref tq5, .ref tq6, .ref tq7, .ref tq8])), (tq4, kI tc4 8), (tq5, kI tc5 8), (tq6, kI tc6 8), (tq7, kI tc7 8), (tq8, kI tc8 3), (tq9, .inr (2, [.int 12, .int 0, .ref tq10, .ref tq11, .ref tq12, .ref tq13, .ref tq14])), (tq10, kI tc10 8), (tq11, kI tc11 8), (tq12, kI tc12 8), (tq13, kI tc13 8), (tq14, kI tc14 3), (tq15, .inr (1, [.ref tq16, .ref tq17, .ref tq18, .ref tq19, .ref tq20, .ref tq21, .int 0, .int 0])), (tq16, kI tc16 3), (tq17, kI tc17 3), (tq18, kI tc18 3), (tq19, kI tc19 8), (tq20, kI tc20 8), (tq21, kI tc21 8), (tq22, .inr (1, [.ref tq23, .ref tq24, .ref tq25, .ref tq26, .ref tq27, .ref tq28, .int 0, .int 0])), (tq23, kI tc23 3), (tq24, kI tc24 3), (tq25, kI tc25 3), (tq26, kI tc26 8), (tq27, kI tc27 8), (tq28, kI tc28 8), (tq29, .inr (1, [.ref tq30, .ref tq31, .ref tq32, .ref tq33, .ref tq34, .ref tq35, .int 0, .int 0])), (tq30, kI tc30 3), (tq31, kI tc31 3), (tq32, kI tc32 3), (tq33, kI tc33 8), (tq34, kI tc34 8), (tq35, kI tc35 8), (tq36, .inr (1, [.ref tq37, .ref tq38, .ref tq39, .ref tq40, .ref tq41, .ref tq42, .int 0, .int 0])), (tq37, kI tc37 3), (tq38, kI tc38 3), (tq39, kI tc39 3), (tq40, kI tc40 8), (tq41, kI tc41 8), (tq42, kI tc42 8), (tq43, .inr (4, [.ref tq9, .ref tq44, .ref tq45, .ref tq46, .ref tq47, .ref tq48, .ref tq49, .ref tq50, .ref tq51, .int 0, .int 0, .int 0, .int 12])), (tq44, kI tc44 1515), (tq45, kI tc45 64), (tq46, kI tc46 16), (tq47, kI tc47 16), (tq48, kI tc48 16), (tq49, kI tc49 16), (tq50, kI tc50 16), (tq51, kI tc51 8080), (tq52, .inr (5, [.ref tq9, .ref tq43, .ref tq53, .ref tq54, .ref tq55, .ref tq56, .int 0])), (tq53, kI tc53 8), (tq54, kI tc54 64), (tq55, kI tc55 2048), (tq56, kI tc56 256), (tq57, .inr (0, [.ref tq9, .ref tq58, .ref tq59, .ref tq60, .int 0])), (tq58, kL tc58 9), (tq59, kI tc59 3), (tq60, kI tc60 3)] rfl rfl (by decide) ⟨rfl, by decide, by decide, by decide +kernel⟩ ⟨(kk_mem kk_s (i := 16) rfl), (kk_mem kk_s (i := 15) rfl), (kk_mem kk_s (i := 17) rfl)⟩ (Or.inl (kk_mem kk_s (i := 11) rfl)) ⟨Nat.le_of_ble_eq_true rfl, Nat.le_of_ble_eq_true rfl⟩ ⟨rfl, Nat.le_of_ble_eq_true rfl⟩ ⟨rfl, Nat.le_of_ble_eq_true rfl⟩ rfl (Nat.le_of_ble_eq_true rfl) dl_12 (fun w1 t1 H locs hsh K => ?_)
  obtain ⟨mq1, mc1, mq2, mc2, mq3, mc3, mq4, mc4, mq5, mc5, mq6, mc6, mq7, mc7, mq8, mc8, mq9, mc9, mq10, mc10, mq11, mc11, mq12, mc12, mq13, mc13, mq14, mc14, mq15, mc15, mq16, mc16, mq17, mc17, mq18, mc18, mq19, mc19, mq20, mc20, mq21, mc21, mq22, mc22, mq23, mc23, mq24, mc24, mq25, mc25, rfl, rfl⟩ := hsh
  obtain ⟨ad, cA, wd, hK, e1, e2⟩ := st_go K
  refine lv_astore_n (lv' := [(2, .ref mo), (1, .ref tr), (0, .ref b)]) hx hb dl_15 rfl hl (by decide) rfl (fun ls hl => ?_)
  refine lv_iconst (v := 0) hx hb dl_16 (by decide) ?_
  refine lv_istore_n (lv' := [(3, .int 0), (2, .ref mo), (1, .ref tr), (0, .ref b)]) hx hb dl_17 rfl hl (by decide) rfl (fun ls hl => ?_)
  exact law_loop (ad := ad) (cA := cA) (D := D) hL ⟨hx, hb, hml, hown, hts, hK, hN5, hA⟩ hX hbl hr hlocks L 0 h0 H locs ls (by omega) (by omega) iv_start wd (by rw [e1, e2]; exact hl)
