set_option maxRecDepth 100000 in
theorem am_ok_36 : am_ms36.all am_mok = true := by decide +kernel
set_option maxRecDepth 100000 in
theorem am_ok_37 : am_ms37.all am_mok = true := by decide +kernel
set_option maxRecDepth 100000 in
theorem am_ok_38 : am_ms38.all am_mok = true := by decide +kernel
set_option maxRecDepth 100000 in
theorem am_ok_39 : am_ms39.all am_mok = true := by decide +kernel
set_option maxRecDepth 100000 in
theorem am_ok_40 : am_ms40.all am_mok = true := by decide +kernel
