-- ===== runs, 5 =====
set_option maxRecDepth 100000 in
theorem kq5 : ck1 4294967296 (vI 4) pt0 pt0 pt1 pt1 = true := by decide +kernel
set_option maxRecDepth 100000 in
theorem kq11 : ck1 4294967296 (vI 10) pt0 pt0 pt1 pt1 = true := by decide +kernel
set_option maxRecDepth 100000 in
theorem kq17 : ck1 4294967327 (vI 0) pt0 pt0 pt1 pt1 = true := by decide +kernel
set_option maxRecDepth 100000 in
theorem kq23 : ck1 4294967327 (vI 6) pt0 pt0 pt1 pt1 = true := by decide +kernel
set_option maxRecDepth 100000 in
theorem kq29 : ck1 4294967327 (vI 12) pt0 pt0 pt1 pt1 = true := by decide +kernel
set_option maxRecDepth 100000 in
theorem kq35 : ck1 4294967297 (vX 2 2147483647) pt3 pt1 pt1 pt1 = true := by decide +kernel
set_option maxRecDepth 100000 in
theorem kq41 : ck1 4294967299 (vI 0) pt5 pt1 pt1 pt1 = true := by decide +kernel
set_option maxRecDepth 100000 in
theorem kq47 : ck1 4294967300 (vX 2 2147483647) pt6 pt1 pt1 pt1 = true := by decide +kernel
set_option maxRecDepth 100000 in
theorem kq53 : ck1 4294967303 (vX 2147483648 4294967295) pt1 pt1 pt1 pt1 = true := by decide +kernel
set_option maxRecDepth 100000 in
theorem kq59 : ck1 4294967306 (vX 2147483648 4294967295) pt1 pt1 pt1 pt1 = true := by decide +kernel
set_option maxRecDepth 100000 in
theorem kq65 : ck1 4294967309 (vX 2147483648 4294967295) pt0 pt7 pt1 pt1 = true := by decide +kernel
set_option maxRecDepth 100000 in
theorem kq71 : ck1 4294967310 (vX 0 4294967295) pt1 pt1 pt1 pt1 = true := by decide +kernel
set_option maxRecDepth 100000 in
theorem kq77 : ck1 4294967313 (vI 1) pt1 pt1 pt1 pt1 = true := by decide +kernel
set_option maxRecDepth 100000 in
theorem kq83 : ck1 4294967316 (vX 2147483648 4294967295) pt1 pt1 pt1 pt1 = true := by decide +kernel
set_option maxRecDepth 100000 in
theorem kq89 : ck1 4294967318 (vX 0 2147483647) pt1 pt1 pt1 pt1 = true := by decide +kernel
set_option maxRecDepth 100000 in
theorem kq95 : ck1 4294967321 (vI 0) pt7 pt7 pt8 pt1 = true := by decide +kernel
set_option maxRecDepth 100000 in
theorem kq101 : ck1 4294967321 (vI 6) pt7 pt7 pt8 pt1 = true := by decide +kernel
set_option maxRecDepth 100000 in
theorem kq107 : ck1 4294967323 (vI 2) pt7 pt2 pt1 pt1 = true := by decide +kernel
set_option maxRecDepth 100000 in
theorem kq113 : ck1 4294967323 (vI 8) pt7 pt2 pt1 pt1 = true := by decide +kernel
set_option maxRecDepth 100000 in
theorem kq119 : ck1 4294967325 (vX 2147483648 4294967295) pt1 pt1 pt1 pt1 = true := by decide +kernel
set_option maxRecDepth 100000 in
theorem kq125 : ck1 4294967325 (vI 5) pt1 pt1 pt1 pt1 = true := by decide +kernel
set_option maxRecDepth 100000 in
theorem kq131 : ck1 4294967326 (vX 0 4294967295) pt1 pt1 pt1 pt1 = true := by decide +kernel
set_option maxRecDepth 100000 in
theorem kq137 : ck1 4294967328 (vX 4 2147483647) pt7 pt1 pt1 pt1 = true := by decide +kernel
set_option maxRecDepth 100000 in
theorem kq143 : ck1 4294967334 (vX 0 4294967295) pt1 pt1 pt1 pt1 = true := by decide +kernel
set_option maxRecDepth 100000 in
theorem kq149 : ck1 4294967340 (vX 0 4294967295) pt1 pt1 pt1 pt1 = true := by decide +kernel
set_option maxRecDepth 100000 in
theorem kq155 : ck1 4294967346 (vX 0 4294967295) pt1 pt1 pt1 pt1 = true := by decide +kernel
set_option maxRecDepth 100000 in
theorem kq161 : ck1 4294967352 (vX 0 4294967295) pt1 pt1 pt1 pt1 = true := by decide +kernel
set_option maxRecDepth 100000 in
theorem kq167 : ck1 4294967358 (vX 0 4294967295) pt1 pt1 pt1 pt1 = true := by decide +kernel
