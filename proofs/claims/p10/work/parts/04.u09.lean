set_option maxRecDepth 100000 in
theorem xd_186 : xdk 186 = true := by decide +kernel
set_option maxRecDepth 100000 in
theorem xd_187 : xdk 187 = true := by decide +kernel
set_option maxRecDepth 100000 in
theorem xd_188 : xdk 188 = true := by decide +kernel
set_option maxRecDepth 100000 in
theorem xd_189 : xdk 189 = true := by decide +kernel
set_option maxRecDepth 100000 in
theorem xd_190 : xdk 190 = true := by decide +kernel
