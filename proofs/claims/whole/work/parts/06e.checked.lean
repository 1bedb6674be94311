set_option maxRecDepth 100000 in
theorem am_ok_25 : am_ms25.all am_mok = true := by decide +kernel
set_option maxRecDepth 100000 in
theorem am_ok_26 : am_ms26.all am_mok = true := by decide +kernel
set_option maxRecDepth 100000 in
theorem am_ok_27 : am_ms27.all am_mok = true := by decide +kernel
set_option maxRecDepth 100000 in
theorem am_ok_28 : am_ms28.all am_mok = true := by decide +kernel
set_option maxRecDepth 100000 in
theorem am_ok_29 : am_ms29.all am_mok = true := by decide +kernel
