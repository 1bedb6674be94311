set_option maxRecDepth 100000 in
theorem am_ok_6 : am_ms6.all am_mok = true := by decide +kernel
set_option maxRecDepth 100000 in
theorem am_ok_7 : am_ms7.all am_mok = true := by decide +kernel
set_option maxRecDepth 100000 in
theorem am_ok_8 : am_ms8.all am_mok = true := by decide +kernel
set_option maxRecDepth 100000 in
theorem am_ok_9 : am_ms9.all am_mok = true := by decide +kernel
