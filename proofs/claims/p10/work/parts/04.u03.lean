set_option maxRecDepth 100000 in
theorem xd_82 : xdk 82 = true := by decide +kernel
set_option maxRecDepth 100000 in
theorem xd_83 : xdk 83 = true := by decide +kernel
set_option maxRecDepth 100000 in
theorem xd_84 : xdk 84 = true := by decide +kernel
set_option maxRecDepth 100000 in
theorem xd_85 : xdk 85 = true := by decide +kernel
set_option maxRecDepth 100000 in
theorem xd_86 : xdk 86 = true := by decide +kernel
set_option maxRecDepth 100000 in
theorem xd_87 : xdk 87 = true := by decide +kernel
set_option maxRecDepth 100000 in
theorem xd_88 : xdk 88 = true := by decide +kernel
set_option maxRecDepth 100000 in
theorem xd_89 : xdk 89 = true := by decide +kernel
set_option maxRecDepth 100000 in
theorem xd_90 : xdk 90 = true := by decide +kernel
set_option maxRecDepth 100000 in
theorem xd_91 : xdk 91 = true := by decide +kernel
set_option maxRecDepth 100000 in
theorem xd_92 : xdk 92 = true := by decide +kernel
set_option maxRecDepth 100000 in
theorem xd_93 : xdk 93 = true := by decide +kernel
set_option maxRecDepth 100000 in
theorem xd_94 : xdk 94 = true := by decide +kernel
set_option maxRecDepth 100000 in
theorem xd_95 : xdk 95 = true := by decide +kernel
set_option maxRecDepth 100000 in
theorem xd_96 : xdk 96 = true := by decide +kernel
set_option maxRecDepth 100000 in
theorem xd_97 : xdk 97 = true := by decide +kernel
set_option maxRecDepth 100000 in
theorem xd_98 : xdk 98 = true := by decide +kernel
set_option maxRecDepth 100000 in
theorem xd_99 : xdk 99 = true := by decide +kernel
set_option maxRecDepth 100000 in
theorem xd_100 : xdk 100 = true := by decide +kernel
set_option maxRecDepth 100000 in
theorem xd_101 : xdk 101 = true := by decide +kernel
set_option maxRecDepth 100000 in
theorem xd_102 : xdk 102 = true := by decide +kernel
set_option maxRecDepth 100000 in
theorem xd_103 : xdk 103 = true := by decide +kernel
set_option maxRecDepth 100000 in
theorem xd_104 : xdk 104 = true := by decide +kernel
set_option maxRecDepth 100000 in
theorem xd_105 : xdk 105 = true := by decide +kernel
set_option maxRecDepth 100000 in
theorem xd_106 : xdk 106 = true := by decide +kernel
set_option maxRecDepth 100000 in
theorem xd_107 : xdk 107 = true := by decide +kernel
set_option maxRecDepth 100000 in
theorem xd_108 : xdk 108 = true := by decide +kernel
set_option maxRecDepth 100000 in
theorem xd_109 : xdk 109 = true := by decide +kernel
set_option maxRecDepth 100000 in
theorem xd_110 : xdk 110 = true := by decide +kernel
set_option maxRecDepth 100000 in
theorem xd_111 : xdk 111 = true := by decide +kernel
set_option maxRecDepth 100000 in
theorem xd_112 : xdk 112 = true := by decide +kernel
