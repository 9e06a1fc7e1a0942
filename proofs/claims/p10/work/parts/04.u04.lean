set_option maxRecDepth 100000 in
theorem xd_113 : xdk 113 = true := by decide +kernel
set_option maxRecDepth 100000 in
theorem xd_114 : xdk 114 = true := by decide +kernel
set_option maxRecDepth 100000 in
theorem xd_115 : xdk 115 = true := by decide +kernel
set_option maxRecDepth 100000 in
theorem xd_116 : xdk 116 = true := by decide +kernel
set_option maxRecDepth 100000 in
theorem xd_117 : xdk 117 = true := by decide +kernel
set_option maxRecDepth 100000 in
theorem xd_118 : xdk 118 = true := by decide +kernel
