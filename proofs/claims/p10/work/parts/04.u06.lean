set_option maxRecDepth 100000 in
theorem xd_138 : xdk 138 = true := by decide +kernel
set_option maxRecDepth 100000 in
theorem xd_139 : xdk 139 = true := by decide +kernel
set_option maxRecDepth 100000 in
theorem xd_140 : xdk 140 = true := by decide +kernel
set_option maxRecDepth 100000 in
theorem xd_141 : xdk 141 = true := by decide +kernel
set_option maxRecDepth 100000 in
theorem xd_142 : xdk 142 = true := by decide +kernel
set_option maxRecDepth 100000 in
theorem xd_143 : xdk 143 = true := by decide +kernel
set_option maxRecDepth 100000 in
theorem xd_144 : xdk 144 = true := by decide +kernel
