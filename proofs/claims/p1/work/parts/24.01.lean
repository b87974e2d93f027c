-- ===== runs, 1 =====
set_option maxRecDepth 100000 in
theorem kq1 : ck1 4294967296 (vI 0) pt0 pt0 pt1 pt1 = true := by decide +kernel
set_option maxRecDepth 100000 in
theorem kq7 : ck1 4294967296 (vI 6) pt0 pt0 pt1 pt1 = true := by decide +kernel
set_option maxRecDepth 100000 in
theorem kq13 : ck1 4294967296 (vI 12) pt0 pt0 pt1 pt1 = true := by decide +kernel
set_option maxRecDepth 100000 in
theorem kq19 : ck1 4294967327 (vI 2) pt2 pt0 pt1 pt1 = true := by decide +kernel
set_option maxRecDepth 100000 in
theorem kq25 : ck1 4294967327 (vI 8) pt0 pt0 pt1 pt1 = true := by decide +kernel
set_option maxRecDepth 100000 in
theorem kq31 : ck1 4294967327 (vX 14 2147483647) pt0 pt0 pt1 pt1 = true := by decide +kernel
set_option maxRecDepth 100000 in
theorem kq37 : ck1 4294967298 (vI 0) pt4 pt2 pt1 pt1 = true := by decide +kernel
set_option maxRecDepth 100000 in
theorem kq43 : ck1 4294967299 (vX 2 2147483647) pt5 pt1 pt1 pt1 = true := by decide +kernel
set_option maxRecDepth 100000 in
theorem kq49 : ck1 4294967301 (vI 0) pt0 pt1 pt1 pt1 = true := by decide +kernel
set_option maxRecDepth 100000 in
theorem kq55 : ck1 4294967304 (vX 2147483648 4294967295) pt1 pt1 pt1 pt1 = true := by decide +kernel
set_option maxRecDepth 100000 in
theorem kq61 : ck1 4294967307 (vX 2147483648 4294967295) pt1 pt1 pt1 pt1 = true := by decide +kernel
set_option maxRecDepth 100000 in
theorem kq67 : ck1 4294967309 (vI 1) pt0 pt7 pt1 pt1 = true := by decide +kernel
set_option maxRecDepth 100000 in
theorem kq73 : ck1 4294967311 (vX 0 2147483647) pt1 pt1 pt1 pt1 = true := by decide +kernel
set_option maxRecDepth 100000 in
theorem kq79 : ck1 4294967313 (vI 3) pt1 pt1 pt1 pt1 = true := by decide +kernel
set_option maxRecDepth 100000 in
theorem kq85 : ck1 4294967317 (vX 2147483648 4294967294) pt2 pt1 pt1 pt1 = true := by decide +kernel
set_option maxRecDepth 100000 in
theorem kq91 : ck1 4294967319 (vX 0 2147483647) pt1 pt1 pt1 pt1 = true := by decide +kernel
set_option maxRecDepth 100000 in
theorem kq97 : ck1 4294967321 (vI 2) pt7 pt7 pt8 pt1 = true := by decide +kernel
set_option maxRecDepth 100000 in
theorem kq103 : ck1 4294967322 (vX 0 4294967295) pt1 pt1 pt1 pt1 = true := by decide +kernel
set_option maxRecDepth 100000 in
theorem kq109 : ck1 4294967323 (vI 4) pt7 pt2 pt1 pt1 = true := by decide +kernel
set_option maxRecDepth 100000 in
theorem kq115 : ck1 4294967323 (vI 10) pt7 pt2 pt1 pt1 = true := by decide +kernel
set_option maxRecDepth 100000 in
theorem kq121 : ck1 4294967325 (vI 1) pt1 pt1 pt1 pt1 = true := by decide +kernel
set_option maxRecDepth 100000 in
theorem kq127 : ck1 4294967325 (vI 7) pt1 pt1 pt1 pt1 = true := by decide +kernel
set_option maxRecDepth 100000 in
theorem kq133 : ck1 4294967328 (vI 0) pt7 pt1 pt1 pt1 = true := by decide +kernel
set_option maxRecDepth 100000 in
theorem kq139 : ck1 4294967330 (vX 0 4294967295) pt1 pt1 pt1 pt1 = true := by decide +kernel
set_option maxRecDepth 100000 in
theorem kq145 : ck1 4294967336 (vX 0 4294967295) pt1 pt1 pt1 pt1 = true := by decide +kernel
set_option maxRecDepth 100000 in
theorem kq151 : ck1 4294967342 (vX 0 4294967295) pt1 pt1 pt1 pt1 = true := by decide +kernel
set_option maxRecDepth 100000 in
theorem kq157 : ck1 4294967348 (vX 0 4294967295) pt1 pt1 pt1 pt1 = true := by decide +kernel
set_option maxRecDepth 100000 in
theorem kq163 : ck1 4294967354 (vX 0 4294967295) pt1 pt1 pt1 pt1 = true := by decide +kernel
