set_option maxRecDepth 100000 in
theorem am_ok_10 : am_ms10.all am_mok = true := by decide +kernel
set_option maxRecDepth 100000 in
theorem am_ok_11 : am_ms11.all am_mok = true := by decide +kernel
set_option maxRecDepth 100000 in
theorem am_ok_12 : am_ms12.all am_mok = true := by decide +kernel
set_option maxRecDepth 100000 in
theorem am_ok_13 : am_ms13.all am_mok = true := by decide +kernel
set_option maxRecDepth 100000 in
theorem am_ok_14 : am_ms14.all am_mok = true := by decide +kernel
set_option maxRecDepth 100000 in
theorem am_ok_15 : am_ms15.all am_mok = true := by decide +kernel
