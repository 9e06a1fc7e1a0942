set_option maxRecDepth 100000 in
theorem xd_159 : xdk 159 = true := by decide +kernel
set_option maxRecDepth 100000 in
theorem xd_160 : xdk 160 = true := by decide +kernel
set_option maxRecDepth 100000 in
theorem xd_161 : xdk 161 = true := by decide +kernel
set_option maxRecDepth 100000 in
theorem xd_162 : xdk 162 = true := by decide +kernel
set_option maxRecDepth 100000 in
theorem xd_163 : xdk 163 = true := by decide +kernel
set_option maxRecDepth 100000 in
theorem xd_164 : xdk 164 = true := by decide +kernel
set_option maxRecDepth 100000 in
theorem xd_165 : xdk 165 = true := by decide +kernel
set_option maxRecDepth 100000 in
theorem xd_166 : xdk 166 = true := by decide +kernel
set_option maxRecDepth 100000 in
theorem xd_167 : xdk 167 = true := by decide +kernel
set_option maxRecDepth 100000 in
theorem xd_168 : xdk 168 = true := by decide +kernel
set_option maxRecDepth 100000 in
theorem xd_169 : xdk 169 = true := by decide +kernel
set_option maxRecDepth 100000 in
theorem xd_170 : xdk 170 = true := by decide +kernel
set_option maxRecDepth 100000 in
theorem xd_171 : xdk 171 = true := by decide +kernel
set_option maxRecDepth 100000 in
theorem xd_172 : xdk 172 = true := by decide +kernel
set_option maxRecDepth 100000 in
theorem xd_173 : xdk 173 = true := by decide +kernel
set_option maxRecDepth 100000 in
theorem xd_174 : xdk 174 = true := by decide +kernel
set_option maxRecDepth 100000 in
theorem xd_175 : xdk 175 = true := by decide +kernel
set_option maxRecDepth 100000 in
theorem xd_176 : xdk 176 = true := by decide +kernel
set_option maxRecDepth 100000 in
theorem xd_177 : xdk 177 = true := by decide +kernel
set_option maxRecDepth 100000 in
theorem xd_178 : xdk 178 = true := by decide +kernel
set_option maxRecDepth 100000 in
theorem xd_179 : xdk 179 = true := by decide +kernel
set_option maxRecDepth 100000 in
theorem xd_180 : xdk 180 = true := by decide +kernel
set_option maxRecDepth 100000 in
theorem xd_181 : xdk 181 = true := by decide +kernel
set_option maxRecDepth 100000 in
theorem xd_182 : xdk 182 = true := by decide +kernel
set_option maxRecDepth 100000 in
theorem xd_183 : xdk 183 = true := by decide +kernel
set_option maxRecDepth 100000 in
theorem xd_184 : xdk 184 = true := by decide +kernel
set_option maxRecDepth 100000 in
theorem xd_185 : xdk 185 = true := by decide +kernel
