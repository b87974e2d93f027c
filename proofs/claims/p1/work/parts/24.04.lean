-- ===== runs, 4 =====
set_option maxRecDepth 100000 in
theorem kq4 : ck1 4294967296 (vI 3) pt0 pt0 pt1 pt1 = true := by decide +kernel
set_option maxRecDepth 100000 in
theorem kq10 : ck1 4294967296 (vI 9) pt0 pt0 pt1 pt1 = true := by decide +kernel
set_option maxRecDepth 100000 in
theorem kq16 : ck1 4294967327 (vX 2147483648 4294967295) pt0 pt0 pt1 pt1 = true := by decide +kernel
set_option maxRecDepth 100000 in
theorem kq22 : ck1 4294967327 (vI 5) pt0 pt0 pt1 pt1 = true := by decide +kernel
set_option maxRecDepth 100000 in
theorem kq28 : ck1 4294967327 (vI 11) pt0 pt0 pt1 pt1 = true := by decide +kernel
set_option maxRecDepth 100000 in
theorem kq34 : ck1 4294967297 (vI 1) pt3 pt1 pt1 pt1 = true := by decide +kernel
set_option maxRecDepth 100000 in
theorem kq40 : ck1 4294967299 (vX 2147483648 4294967295) pt5 pt1 pt1 pt1 = true := by decide +kernel
set_option maxRecDepth 100000 in
theorem kq46 : ck1 4294967300 (vI 1) pt6 pt1 pt1 pt1 = true := by decide +kernel
set_option maxRecDepth 100000 in
theorem kq52 : ck1 4294967302 (vX 0 4294967295) pt1 pt1 pt1 pt1 = true := by decide +kernel
set_option maxRecDepth 100000 in
theorem kq58 : ck1 4294967305 (vX 0 2147483647) pt1 pt1 pt1 pt1 = true := by decide +kernel
set_option maxRecDepth 100000 in
theorem kq64 : ck1 4294967308 (vX 0 2147483647) pt1 pt1 pt1 pt1 = true := by decide +kernel
set_option maxRecDepth 100000 in
theorem kq70 : ck1 4294967309 (vX 4 2147483647) pt0 pt7 pt1 pt1 = true := by decide +kernel
set_option maxRecDepth 100000 in
theorem kq76 : ck1 4294967313 (vI 0) pt1 pt1 pt1 pt1 = true := by decide +kernel
set_option maxRecDepth 100000 in
theorem kq82 : ck1 4294967315 (vX 0 4294967295) pt1 pt1 pt1 pt1 = true := by decide +kernel
set_option maxRecDepth 100000 in
theorem kq88 : ck1 4294967318 (vX 2147483648 4294967295) pt1 pt1 pt1 pt1 = true := by decide +kernel
set_option maxRecDepth 100000 in
theorem kq94 : ck1 4294967321 (vX 2147483648 4294967295) pt7 pt7 pt8 pt1 = true := by decide +kernel
set_option maxRecDepth 100000 in
theorem kq100 : ck1 4294967321 (vI 5) pt7 pt7 pt8 pt1 = true := by decide +kernel
set_option maxRecDepth 100000 in
theorem kq106 : ck1 4294967323 (vI 1) pt7 pt2 pt1 pt1 = true := by decide +kernel
set_option maxRecDepth 100000 in
theorem kq112 : ck1 4294967323 (vI 7) pt7 pt2 pt1 pt1 = true := by decide +kernel
set_option maxRecDepth 100000 in
theorem kq118 : ck1 4294967324 (vX 0 2147483647) pt1 pt1 pt1 pt1 = true := by decide +kernel
set_option maxRecDepth 100000 in
theorem kq124 : ck1 4294967325 (vI 4) pt1 pt1 pt1 pt1 = true := by decide +kernel
set_option maxRecDepth 100000 in
theorem kq130 : ck1 4294967325 (vX 10 2147483647) pt1 pt1 pt1 pt1 = true := by decide +kernel
set_option maxRecDepth 100000 in
theorem kq136 : ck1 4294967328 (vI 3) pt7 pt1 pt1 pt1 = true := by decide +kernel
set_option maxRecDepth 100000 in
theorem kq142 : ck1 4294967333 (vX 0 4294967295) pt1 pt1 pt1 pt1 = true := by decide +kernel
set_option maxRecDepth 100000 in
theorem kq148 : ck1 4294967339 (vX 0 4294967295) pt1 pt1 pt1 pt1 = true := by decide +kernel
set_option maxRecDepth 100000 in
theorem kq154 : ck1 4294967345 (vX 0 4294967295) pt1 pt1 pt1 pt1 = true := by decide +kernel
set_option maxRecDepth 100000 in
theorem kq160 : ck1 4294967351 (vX 0 4294967295) pt1 pt1 pt1 pt1 = true := by decide +kernel
set_option maxRecDepth 100000 in
theorem kq166 : ck1 4294967357 (vX 0 4294967295) pt1 pt1 pt1 pt1 = true := by decide +kernel
