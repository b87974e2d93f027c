-- ===== runs, 3 =====
set_option maxRecDepth 100000 in
theorem kq3 : ck1 4294967296 (vI 2) pt2 pt0 pt1 pt1 = true := by decide +kernel
set_option maxRecDepth 100000 in
theorem kq9 : ck1 4294967296 (vI 8) pt0 pt0 pt1 pt1 = true := by decide +kernel
set_option maxRecDepth 100000 in
theorem kq15 : ck1 4294967296 (vX 14 2147483647) pt0 pt0 pt1 pt1 = true := by decide +kernel
set_option maxRecDepth 100000 in
theorem kq21 : ck1 4294967327 (vI 4) pt0 pt0 pt1 pt1 = true := by decide +kernel
set_option maxRecDepth 100000 in
theorem kq27 : ck1 4294967327 (vI 10) pt0 pt0 pt1 pt1 = true := by decide +kernel
set_option maxRecDepth 100000 in
theorem kq33 : ck1 4294967297 (vI 0) pt3 pt1 pt1 pt1 = true := by decide +kernel
set_option maxRecDepth 100000 in
theorem kq39 : ck1 4294967298 (vX 2 2147483647) pt4 pt2 pt1 pt1 = true := by decide +kernel
set_option maxRecDepth 100000 in
theorem kq45 : ck1 4294967300 (vI 0) pt6 pt1 pt1 pt1 = true := by decide +kernel
set_option maxRecDepth 100000 in
theorem kq51 : ck1 4294967301 (vX 2 2147483647) pt0 pt1 pt1 pt1 = true := by decide +kernel
set_option maxRecDepth 100000 in
theorem kq57 : ck1 4294967305 (vX 2147483648 4294967295) pt1 pt1 pt1 pt1 = true := by decide +kernel
set_option maxRecDepth 100000 in
theorem kq63 : ck1 4294967308 (vX 2147483648 4294967295) pt1 pt1 pt1 pt1 = true := by decide +kernel
set_option maxRecDepth 100000 in
theorem kq69 : ck1 4294967309 (vI 3) pt0 pt7 pt1 pt1 = true := by decide +kernel
set_option maxRecDepth 100000 in
theorem kq75 : ck1 4294967313 (vX 2147483648 4294967295) pt1 pt1 pt1 pt1 = true := by decide +kernel
set_option maxRecDepth 100000 in
theorem kq81 : ck1 4294967314 (vX 0 4294967295) pt1 pt1 pt1 pt1 = true := by decide +kernel
set_option maxRecDepth 100000 in
theorem kq87 : ck1 4294967317 (vX 0 2147483647) pt2 pt1 pt1 pt1 = true := by decide +kernel
set_option maxRecDepth 100000 in
theorem kq93 : ck1 4294967320 (vX 0 2147483647) pt1 pt1 pt1 pt1 = true := by decide +kernel
set_option maxRecDepth 100000 in
theorem kq99 : ck1 4294967321 (vI 4) pt7 pt7 pt8 pt1 = true := by decide +kernel
set_option maxRecDepth 100000 in
theorem kq105 : ck1 4294967323 (vI 0) pt7 pt2 pt1 pt1 = true := by decide +kernel
set_option maxRecDepth 100000 in
theorem kq111 : ck1 4294967323 (vI 6) pt7 pt2 pt1 pt1 = true := by decide +kernel
set_option maxRecDepth 100000 in
theorem kq117 : ck1 4294967324 (vX 2147483648 4294967295) pt1 pt1 pt1 pt1 = true := by decide +kernel
set_option maxRecDepth 100000 in
theorem kq123 : ck1 4294967325 (vI 3) pt1 pt1 pt1 pt1 = true := by decide +kernel
set_option maxRecDepth 100000 in
theorem kq129 : ck1 4294967325 (vI 9) pt1 pt1 pt1 pt1 = true := by decide +kernel
set_option maxRecDepth 100000 in
theorem kq135 : ck1 4294967328 (vI 2) pt7 pt1 pt1 pt1 = true := by decide +kernel
set_option maxRecDepth 100000 in
theorem kq141 : ck1 4294967332 (vX 0 4294967295) pt1 pt1 pt1 pt1 = true := by decide +kernel
set_option maxRecDepth 100000 in
theorem kq147 : ck1 4294967338 (vX 0 4294967295) pt1 pt1 pt1 pt1 = true := by decide +kernel
set_option maxRecDepth 100000 in
theorem kq153 : ck1 4294967344 (vX 0 4294967295) pt1 pt1 pt1 pt1 = true := by decide +kernel
set_option maxRecDepth 100000 in
theorem kq159 : ck1 4294967350 (vX 0 4294967295) pt1 pt1 pt1 pt1 = true := by decide +kernel
set_option maxRecDepth 100000 in
theorem kq165 : ck1 4294967356 (vX 0 4294967295) pt1 pt1 pt1 pt1 = true := by decide +kernel
