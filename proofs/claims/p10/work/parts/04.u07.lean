set_option maxRecDepth 100000 in
theorem xd_145 : xdk 145 = true := by decide +kernel
set_option maxRecDepth 100000 in
theorem xd_146 : xdk 146 = true := by decide +kernel
set_option maxRecDepth 100000 in
theorem xd_147 : xdk 147 = true := by decide +kernel
set_option maxRecDepth 100000 in
theorem xd_148 : xdk 148 = true := by decide +kernel
set_option maxRecDepth 100000 in
theorem xd_149 : xdk 149 = true := by decide +kernel
set_option maxRecDepth 100000 in
theorem xd_150 : xdk 150 = true := by decide +kernel
set_option maxRecDepth 100000 in
theorem xd_151 : xdk 151 = true := by decide +kernel
set_option maxRecDepth 100000 in
theorem xd_152 : xdk 152 = true := by decide +kernel
set_option maxRecDepth 100000 in
theorem xd_153 : xdk 153 = true := by decide +kernel
set_option maxRecDepth 100000 in
theorem xd_154 : xdk 154 = true := by decide +kernel
set_option maxRecDepth 100000 in
theorem xd_155 : xdk 155 = true := by decide +kernel
set_option maxRecDepth 100000 in
theorem xd_156 : xdk 156 = true := by decide +kernel
set_option maxRecDepth 100000 in
theorem xd_157 : xdk 157 = true := by decide +kernel
set_option maxRecDepth 100000 in
theorem xd_158 : xdk 158 = true := by decide +kernel
