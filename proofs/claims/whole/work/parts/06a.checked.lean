set_option maxRecDepth 100000 in
theorem am_ok_0 : am_ms0.all am_mok = true := by decide +kernel
set_option maxRecDepth 100000 in
theorem am_ok_1 : am_ms1.all am_mok = true := by decide +kernel
set_option maxRecDepth 100000 in
theorem am_ok_2 : am_ms2.all am_mok = true := by decide +kernel
set_option maxRecDepth 100000 in
theorem am_ok_3 : am_ms3.all am_mok = true := by decide +kernel
set_option maxRecDepth 100000 in
theorem am_ok_4 : am_ms4.all am_mok = true := by decide +kernel
set_option maxRecDepth 100000 in
theorem am_ok_5 : am_ms5.all am_mok = true := by decide +kernel
