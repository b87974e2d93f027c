-- ===== runs, 0 =====
set_option maxRecDepth 100000 in
theorem kq0 : ck1 4294967296 (vX 2147483648 4294967295) pt0 pt0 pt1 pt1 = true := by decide +kernel
set_option maxRecDepth 100000 in
theorem kq6 : ck1 4294967296 (vI 5) pt0 pt0 pt1 pt1 = true := by decide +kernel
set_option maxRecDepth 100000 in
theorem kq12 : ck1 4294967296 (vI 11) pt0 pt0 pt1 pt1 = true := by decide +kernel
set_option maxRecDepth 100000 in
theorem kq18 : ck1 4294967327 (vI 1) pt0 pt0 pt1 pt1 = true := by decide +kernel
set_option maxRecDepth 100000 in
theorem kq24 : ck1 4294967327 (vI 7) pt0 pt0 pt1 pt1 = true := by decide +kernel
set_option maxRecDepth 100000 in
theorem kq30 : ck1 4294967327 (vI 13) pt0 pt0 pt1 pt1 = true := by decide +kernel
set_option maxRecDepth 100000 in
theorem kq36 : ck1 4294967298 (vX 2147483648 4294967295) pt4 pt2 pt1 pt1 = true := by decide +kernel
set_option maxRecDepth 100000 in
theorem kq42 : ck1 4294967299 (vI 1) pt5 pt1 pt1 pt1 = true := by decide +kernel
set_option maxRecDepth 100000 in
theorem kq48 : ck1 4294967301 (vX 2147483648 4294967295) pt0 pt1 pt1 pt1 = true := by decide +kernel
set_option maxRecDepth 100000 in
theorem kq54 : ck1 4294967303 (vX 0 2147483647) pt1 pt1 pt1 pt1 = true := by decide +kernel
set_option maxRecDepth 100000 in
theorem kq60 : ck1 4294967306 (vX 0 2147483647) pt1 pt1 pt1 pt1 = true := by decide +kernel
set_option maxRecDepth 100000 in
theorem kq66 : ck1 4294967309 (vI 0) pt0 pt7 pt1 pt1 = true := by decide +kernel
set_option maxRecDepth 100000 in
theorem kq72 : ck1 4294967311 (vX 2147483648 4294967295) pt1 pt1 pt1 pt1 = true := by decide +kernel
set_option maxRecDepth 100000 in
theorem kq78 : ck1 4294967313 (vI 2) pt1 pt1 pt1 pt1 = true := by decide +kernel
set_option maxRecDepth 100000 in
theorem kq84 : ck1 4294967316 (vX 0 2147483647) pt1 pt1 pt1 pt1 = true := by decide +kernel
set_option maxRecDepth 100000 in
theorem kq90 : ck1 4294967319 (vX 2147483648 4294967295) pt1 pt1 pt1 pt1 = true := by decide +kernel
set_option maxRecDepth 100000 in
theorem kq96 : ck1 4294967321 (vI 1) pt7 pt7 pt8 pt1 = true := by decide +kernel
set_option maxRecDepth 100000 in
theorem kq102 : ck1 4294967321 (vX 7 2147483647) pt7 pt7 pt8 pt1 = true := by decide +kernel
set_option maxRecDepth 100000 in
theorem kq108 : ck1 4294967323 (vI 3) pt7 pt2 pt1 pt1 = true := by decide +kernel
set_option maxRecDepth 100000 in
theorem kq114 : ck1 4294967323 (vI 9) pt7 pt2 pt1 pt1 = true := by decide +kernel
set_option maxRecDepth 100000 in
theorem kq120 : ck1 4294967325 (vI 0) pt1 pt1 pt1 pt1 = true := by decide +kernel
set_option maxRecDepth 100000 in
theorem kq126 : ck1 4294967325 (vI 6) pt1 pt1 pt1 pt1 = true := by decide +kernel
set_option maxRecDepth 100000 in
theorem kq132 : ck1 4294967328 (vX 2147483648 4294967295) pt7 pt1 pt1 pt1 = true := by decide +kernel
set_option maxRecDepth 100000 in
theorem kq138 : ck1 4294967329 (vX 0 4294967295) pt1 pt1 pt1 pt1 = true := by decide +kernel
set_option maxRecDepth 100000 in
theorem kq144 : ck1 4294967335 (vX 0 4294967295) pt1 pt1 pt1 pt1 = true := by decide +kernel
set_option maxRecDepth 100000 in
theorem kq150 : ck1 4294967341 (vX 0 4294967295) pt1 pt1 pt1 pt1 = true := by decide +kernel
set_option maxRecDepth 100000 in
theorem kq156 : ck1 4294967347 (vX 0 4294967295) pt1 pt1 pt1 pt1 = true := by decide +kernel
set_option maxRecDepth 100000 in
theorem kq162 : ck1 4294967353 (vX 0 4294967295) pt1 pt1 pt1 pt1 = true := by decide +kernel
set_option maxRecDepth 100000 in
theorem kq168 : ck1 4294967359 (vX 0 4294967295) pt1 pt1 pt1 pt1 = true := by decide +kernel
