set_option maxRecDepth 100000 in
theorem xd_56 : xdk 56 = true := by decide +kernel
set_option maxRecDepth 100000 in
theorem xd_57 : xdk 57 = true := by decide +kernel
set_option maxRecDepth 100000 in
theorem xd_58 : xdk 58 = true := by decide +kernel
set_option maxRecDepth 100000 in
theorem xd_59 : xdk 59 = true := by decide +kernel
set_option maxRecDepth 100000 in
theorem xd_60 : xdk 60 = true := by decide +kernel
set_option maxRecDepth 100000 in
theorem xd_61 : xdk 61 = true := by decide +kernel
set_option maxRecDepth 100000 in
theorem xd_62 : xdk 62 = true := by decide +kernel
set_option maxRecDepth 100000 in
theorem xd_63 : xdk 63 = true := by decide +kernel
set_option maxRecDepth 100000 in
theorem xd_64 : xdk 64 = true := by decide +kernel
set_option maxRecDepth 100000 in
theorem xd_65 : xdk 65 = true := by decide +kernel
set_option maxRecDepth 100000 in
theorem xd_66 : xdk 66 = true := by decide +kernel
set_option maxRecDepth 100000 in
theorem xd_67 : xdk 67 = true := by decide +kernel
set_option maxRecDepth 100000 in
theorem xd_68 : xdk 68 = true := by decide +kernel
set_option maxRecDepth 100000 in
theorem xd_69 : xdk 69 = true := by decide +kernel
set_option maxRecDepth 100000 in
theorem xd_70 : xdk 70 = true := by decide +kernel
set_option maxRecDepth 100000 in
theorem xd_71 : xdk 71 = true := by decide +kernel
set_option maxRecDepth 100000 in
theorem xd_72 : xdk 72 = true := by decide +kernel
set_option maxRecDepth 100000 in
theorem xd_73 : xdk 73 = true := by decide +kernel
set_option maxRecDepth 100000 in
theorem xd_74 : xdk 74 = true := by decide +kernel
set_option maxRecDepth 100000 in
theorem xd_75 : xdk 75 = true := by decide +kernel
set_option maxRecDepth 100000 in
theorem xd_76 : xdk 76 = true := by decide +kernel
set_option maxRecDepth 100000 in
theorem xd_77 : xdk 77 = true := by decide +kernel
set_option maxRecDepth 100000 in
theorem xd_78 : xdk 78 = true := by decide +kernel
set_option maxRecDepth 100000 in
theorem xd_79 : xdk 79 = true := by decide +kernel
set_option maxRecDepth 100000 in
theorem xd_80 : xdk 80 = true := by decide +kernel
set_option maxRecDepth 100000 in
theorem xd_81 : xdk 81 = true := by decide +kernel
