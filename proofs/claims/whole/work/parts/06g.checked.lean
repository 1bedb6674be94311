set_option maxRecDepth 100000 in
theorem am_ok_34 : am_ms34.all am_mok = true := by decide +kernel
set_option maxRecDepth 100000 in
theorem am_ok_35 : am_ms35.all am_mok = true := by decide +kernel
