set_option maxRecDepth 100000 in
theorem am_ok_16 : am_ms16.all am_mok = true := by decide +kernel
set_option maxRecDepth 100000 in
theorem am_ok_17 : am_ms17.all am_mok = true := by decide +kernel
set_option maxRecDepth 100000 in
theorem am_ok_18 : am_ms18.all am_mok = true := by decide +kernel
set_option maxRecDepth 100000 in
theorem am_ok_19 : am_ms19.all am_mok = true := by decide +kernel
set_option maxRecDepth 100000 in
theorem am_ok_20 : am_ms20.all am_mok = true := by decide +kernel
set_option maxRecDepth 100000 in
theorem am_ok_21 : am_ms21.all am_mok = true := by decide +kernel
set_option maxRecDepth 100000 in
theorem am_ok_22 : am_ms22.all am_mok = true := by decide +kernel
set_option maxRecDepth 100000 in
theorem am_ok_23 : am_ms23.all am_mok = true := by decide +kernel
set_option maxRecDepth 100000 in
theorem am_ok_24 : am_ms24.all am_mok = true := by decide +kernel
