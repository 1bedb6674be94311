theorem am_okb : am_ms.all am_mok = true := by
  unfold am_ms
  simp only [List.all_append, am_ok_0, am_ok_1, am_ok_2, am_ok_3, am_ok_4, am_ok_5, am_ok_6, am_ok_7, am_ok_8, am_ok_9, am_ok_10, am_ok_11, am_ok_12, am_ok_13, am_ok_14, am_ok_15, am_ok_16, am_ok_17, am_ok_18, am_ok_19, am_ok_20, am_ok_21, am_ok_22, am_ok_23, am_ok_24, am_ok_25, am_ok_26, am_ok_27, am_ok_28, am_ok_29, am_ok_30, am_ok_31, am_ok_32, am_ok_33, am_ok_34, am_ok_35, am_ok_36, am_ok_37, am_ok_38, am_ok_39, am_ok_40, Bool.and_self]
theorem am_okAll : ∀ M ∈ am_ms, am_mok M = true := List.all_eq_true.mp am_okb
