set_option maxRecDepth 100000 in
theorem xd_119 : xdk 119 = true := by decide +kernel
set_option maxRecDepth 100000 in
theorem xd_120 : xdk 120 = true := by decide +kernel
set_option maxRecDepth 100000 in
theorem xd_121 : xdk 121 = true := by decide +kernel
set_option maxRecDepth 100000 in
theorem xd_122 : xdk 122 = true := by decide +kernel
set_option maxRecDepth 100000 in
theorem xd_123 : xdk 123 = true := by decide +kernel
set_option maxRecDepth 100000 in
theorem xd_124 : xdk 124 = true := by decide +kernel
set_option maxRecDepth 100000 in
theorem xd_125 : xdk 125 = true := by decide +kernel
set_option maxRecDepth 100000 in
theorem xd_126 : xdk 126 = true := by decide +kernel
set_option maxRecDepth 100000 in
theorem xd_127 : xdk 127 = true := by decide +kernel
set_option maxRecDepth 100000 in
theorem xd_128 : xdk 128 = true := by decide +kernel
set_option maxRecDepth 100000 in
theorem xd_129 : xdk 129 = true := by decide +kernel
set_option maxRecDepth 100000 in
theorem xd_130 : xdk 130 = true := by decide +kernel
set_option maxRecDepth 100000 in
theorem xd_131 : xdk 131 = true := by decide +kernel
set_option maxRecDepth 100000 in
theorem xd_132 : xdk 132 = true := by decide +kernel
set_option maxRecDepth 100000 in
theorem xd_133 : xdk 133 = true := by decide +kernel
set_option maxRecDepth 100000 in
theorem xd_134 : xdk 134 = true := by decide +kernel
set_option maxRecDepth 100000 in
theorem xd_135 : xdk 135 = true := by decide +kernel
set_option maxRecDepth 100000 in
theorem xd_136 : xdk 136 = true := by decide +kernel
set_option maxRecDepth 100000 in
theorem xd_137 : xdk 137 = true := by decide +kernel
