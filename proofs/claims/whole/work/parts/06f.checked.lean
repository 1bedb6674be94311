set_option maxRecDepth 100000 in
theorem am_ok_30 : am_ms30.all am_mok = true := by decide +kernel
set_option maxRecDepth 100000 in
theorem am_ok_31 : am_ms31.all am_mok = true := by decide +kernel
set_option maxRecDepth 100000 in
theorem am_ok_32 : am_ms32.all am_mok = true := by decide +kernel
set_option maxRecDepth 100000 in
theorem am_ok_33 : am_ms33.all am_mok = true := by decide +kernel
