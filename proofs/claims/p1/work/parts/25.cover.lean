-- ===== every script =====
set_option maxRecDepth 16384 in
theorem cq0 : rC0 4294967296 := ⟨pt9, cv9, List.forall_mem_cons.mpr ⟨⟨pt0, pt0, pt1, pt1, cv0, cv0, cv1, cv1, kq0⟩, List.forall_mem_cons.mpr ⟨⟨pt0, pt0, pt1, pt1, cv0, cv0, cv1, cv1, kq1⟩, List.forall_mem_cons.mpr ⟨⟨pt0, pt0, pt1, pt1, cv0, cv0, cv1, cv1, kq2⟩, List.forall_mem_cons.mpr ⟨⟨pt2, pt0, pt1, pt1, cv2, cv0, cv1, cv1, kq3⟩, List.forall_mem_cons.mpr ⟨⟨pt0, pt0, pt1, pt1, cv0, cv0, cv1, cv1, kq4⟩, List.forall_mem_cons.mpr ⟨⟨pt0, pt0, pt1, pt1, cv0, cv0, cv1, cv1, kq5⟩, List.forall_mem_cons.mpr ⟨⟨pt0, pt0, pt1, pt1, cv0, cv0, cv1, cv1, kq6⟩, List.forall_mem_cons.mpr ⟨⟨pt0, pt0, pt1, pt1, cv0, cv0, cv1, cv1, kq7⟩, List.forall_mem_cons.mpr ⟨⟨pt0, pt0, pt1, pt1, cv0, cv0, cv1, cv1, kq8⟩, List.forall_mem_cons.mpr ⟨⟨pt0, pt0, pt1, pt1, cv0, cv0, cv1, cv1, kq9⟩, List.forall_mem_cons.mpr ⟨⟨pt0, pt0, pt1, pt1, cv0, cv0, cv1, cv1, kq10⟩, List.forall_mem_cons.mpr ⟨⟨pt0, pt0, pt1, pt1, cv0, cv0, cv1, cv1, kq11⟩, List.forall_mem_cons.mpr ⟨⟨pt0, pt0, pt1, pt1, cv0, cv0, cv1, cv1, kq12⟩, List.forall_mem_cons.mpr ⟨⟨pt0, pt0, pt1, pt1, cv0, cv0, cv1, cv1, kq13⟩, List.forall_mem_cons.mpr ⟨⟨pt0, pt0, pt1, pt1, cv0, cv0, cv1, cv1, kq14⟩, List.forall_mem_cons.mpr ⟨⟨pt0, pt0, pt1, pt1, cv0, cv0, cv1, cv1, kq15⟩, fun _ h => absurd h List.not_mem_nil⟩⟩⟩⟩⟩⟩⟩⟩⟩⟩⟩⟩⟩⟩⟩⟩⟩
set_option maxRecDepth 16384 in
theorem cq31 : rC0 4294967327 := ⟨pt9, cv9, List.forall_mem_cons.mpr ⟨⟨pt0, pt0, pt1, pt1, cv0, cv0, cv1, cv1, kq16⟩, List.forall_mem_cons.mpr ⟨⟨pt0, pt0, pt1, pt1, cv0, cv0, cv1, cv1, kq17⟩, List.forall_mem_cons.mpr ⟨⟨pt0, pt0, pt1, pt1, cv0, cv0, cv1, cv1, kq18⟩, List.forall_mem_cons.mpr ⟨⟨pt2, pt0, pt1, pt1, cv2, cv0, cv1, cv1, kq19⟩, List.forall_mem_cons.mpr ⟨⟨pt0, pt0, pt1, pt1, cv0, cv0, cv1, cv1, kq20⟩, List.forall_mem_cons.mpr ⟨⟨pt0, pt0, pt1, pt1, cv0, cv0, cv1, cv1, kq21⟩, List.forall_mem_cons.mpr ⟨⟨pt0, pt0, pt1, pt1, cv0, cv0, cv1, cv1, kq22⟩, List.forall_mem_cons.mpr ⟨⟨pt0, pt0, pt1, pt1, cv0, cv0, cv1, cv1, kq23⟩, List.forall_mem_cons.mpr ⟨⟨pt0, pt0, pt1, pt1, cv0, cv0, cv1, cv1, kq24⟩, List.forall_mem_cons.mpr ⟨⟨pt0, pt0, pt1, pt1, cv0, cv0, cv1, cv1, kq25⟩, List.forall_mem_cons.mpr ⟨⟨pt0, pt0, pt1, pt1, cv0, cv0, cv1, cv1, kq26⟩, List.forall_mem_cons.mpr ⟨⟨pt0, pt0, pt1, pt1, cv0, cv0, cv1, cv1, kq27⟩, List.forall_mem_cons.mpr ⟨⟨pt0, pt0, pt1, pt1, cv0, cv0, cv1, cv1, kq28⟩, List.forall_mem_cons.mpr ⟨⟨pt0, pt0, pt1, pt1, cv0, cv0, cv1, cv1, kq29⟩, List.forall_mem_cons.mpr ⟨⟨pt0, pt0, pt1, pt1, cv0, cv0, cv1, cv1, kq30⟩, List.forall_mem_cons.mpr ⟨⟨pt0, pt0, pt1, pt1, cv0, cv0, cv1, cv1, kq31⟩, fun _ h => absurd h List.not_mem_nil⟩⟩⟩⟩⟩⟩⟩⟩⟩⟩⟩⟩⟩⟩⟩⟩⟩
set_option maxRecDepth 16384 in
theorem cq1 : rC0 4294967297 := ⟨pt0, cv0, List.forall_mem_cons.mpr ⟨⟨pt3, pt1, pt1, pt1, cv3, cv1, cv1, cv1, kq32⟩, List.forall_mem_cons.mpr ⟨⟨pt3, pt1, pt1, pt1, cv3, cv1, cv1, cv1, kq33⟩, List.forall_mem_cons.mpr ⟨⟨pt3, pt1, pt1, pt1, cv3, cv1, cv1, cv1, kq34⟩, List.forall_mem_cons.mpr ⟨⟨pt3, pt1, pt1, pt1, cv3, cv1, cv1, cv1, kq35⟩, fun _ h => absurd h List.not_mem_nil⟩⟩⟩⟩⟩
set_option maxRecDepth 16384 in
theorem cq2 : rC0 4294967298 := ⟨pt0, cv0, List.forall_mem_cons.mpr ⟨⟨pt4, pt2, pt1, pt1, cv4, cv2, cv1, cv1, kq36⟩, List.forall_mem_cons.mpr ⟨⟨pt4, pt2, pt1, pt1, cv4, cv2, cv1, cv1, kq37⟩, List.forall_mem_cons.mpr ⟨⟨pt4, pt2, pt1, pt1, cv4, cv2, cv1, cv1, kq38⟩, List.forall_mem_cons.mpr ⟨⟨pt4, pt2, pt1, pt1, cv4, cv2, cv1, cv1, kq39⟩, fun _ h => absurd h List.not_mem_nil⟩⟩⟩⟩⟩
set_option maxRecDepth 16384 in
theorem cq3 : rC0 4294967299 := ⟨pt0, cv0, List.forall_mem_cons.mpr ⟨⟨pt5, pt1, pt1, pt1, cv5, cv1, cv1, cv1, kq40⟩, List.forall_mem_cons.mpr ⟨⟨pt5, pt1, pt1, pt1, cv5, cv1, cv1, cv1, kq41⟩, List.forall_mem_cons.mpr ⟨⟨pt5, pt1, pt1, pt1, cv5, cv1, cv1, cv1, kq42⟩, List.forall_mem_cons.mpr ⟨⟨pt5, pt1, pt1, pt1, cv5, cv1, cv1, cv1, kq43⟩, fun _ h => absurd h List.not_mem_nil⟩⟩⟩⟩⟩
set_option maxRecDepth 16384 in
theorem cq4 : rC0 4294967300 := ⟨pt0, cv0, List.forall_mem_cons.mpr ⟨⟨pt6, pt1, pt1, pt1, cv6, cv1, cv1, cv1, kq44⟩, List.forall_mem_cons.mpr ⟨⟨pt6, pt1, pt1, pt1, cv6, cv1, cv1, cv1, kq45⟩, List.forall_mem_cons.mpr ⟨⟨pt6, pt1, pt1, pt1, cv6, cv1, cv1, cv1, kq46⟩, List.forall_mem_cons.mpr ⟨⟨pt6, pt1, pt1, pt1, cv6, cv1, cv1, cv1, kq47⟩, fun _ h => absurd h List.not_mem_nil⟩⟩⟩⟩⟩
set_option maxRecDepth 16384 in
theorem cq5 : rC0 4294967301 := ⟨pt0, cv0, List.forall_mem_cons.mpr ⟨⟨pt0, pt1, pt1, pt1, cv0, cv1, cv1, cv1, kq48⟩, List.forall_mem_cons.mpr ⟨⟨pt0, pt1, pt1, pt1, cv0, cv1, cv1, cv1, kq49⟩, List.forall_mem_cons.mpr ⟨⟨pt0, pt1, pt1, pt1, cv0, cv1, cv1, cv1, kq50⟩, List.forall_mem_cons.mpr ⟨⟨pt0, pt1, pt1, pt1, cv0, cv1, cv1, cv1, kq51⟩, fun _ h => absurd h List.not_mem_nil⟩⟩⟩⟩⟩
set_option maxRecDepth 16384 in
theorem cq6 : rC0 4294967302 := ⟨pt1, cv1, List.forall_mem_cons.mpr ⟨⟨pt1, pt1, pt1, pt1, cv1, cv1, cv1, cv1, kq52⟩, fun _ h => absurd h List.not_mem_nil⟩⟩
set_option maxRecDepth 16384 in
theorem cq7 : rC0 4294967303 := ⟨pt10, cv10, List.forall_mem_cons.mpr ⟨⟨pt1, pt1, pt1, pt1, cv1, cv1, cv1, cv1, kq53⟩, List.forall_mem_cons.mpr ⟨⟨pt1, pt1, pt1, pt1, cv1, cv1, cv1, cv1, kq54⟩, fun _ h => absurd h List.not_mem_nil⟩⟩⟩
set_option maxRecDepth 16384 in
theorem cq8 : rC0 4294967304 := ⟨pt10, cv10, List.forall_mem_cons.mpr ⟨⟨pt1, pt1, pt1, pt1, cv1, cv1, cv1, cv1, kq55⟩, List.forall_mem_cons.mpr ⟨⟨pt1, pt1, pt1, pt1, cv1, cv1, cv1, cv1, kq56⟩, fun _ h => absurd h List.not_mem_nil⟩⟩⟩
set_option maxRecDepth 16384 in
theorem cq9 : rC0 4294967305 := ⟨pt10, cv10, List.forall_mem_cons.mpr ⟨⟨pt1, pt1, pt1, pt1, cv1, cv1, cv1, cv1, kq57⟩, List.forall_mem_cons.mpr ⟨⟨pt1, pt1, pt1, pt1, cv1, cv1, cv1, cv1, kq58⟩, fun _ h => absurd h List.not_mem_nil⟩⟩⟩
set_option maxRecDepth 16384 in
theorem cq10 : rC0 4294967306 := ⟨pt10, cv10, List.forall_mem_cons.mpr ⟨⟨pt1, pt1, pt1, pt1, cv1, cv1, cv1, cv1, kq59⟩, List.forall_mem_cons.mpr ⟨⟨pt1, pt1, pt1, pt1, cv1, cv1, cv1, cv1, kq60⟩, fun _ h => absurd h List.not_mem_nil⟩⟩⟩
set_option maxRecDepth 16384 in
theorem cq11 : rC0 4294967307 := ⟨pt10, cv10, List.forall_mem_cons.mpr ⟨⟨pt1, pt1, pt1, pt1, cv1, cv1, cv1, cv1, kq61⟩, List.forall_mem_cons.mpr ⟨⟨pt1, pt1, pt1, pt1, cv1, cv1, cv1, cv1, kq62⟩, fun _ h => absurd h List.not_mem_nil⟩⟩⟩
set_option maxRecDepth 16384 in
theorem cq12 : rC0 4294967308 := ⟨pt10, cv10, List.forall_mem_cons.mpr ⟨⟨pt1, pt1, pt1, pt1, cv1, cv1, cv1, cv1, kq63⟩, List.forall_mem_cons.mpr ⟨⟨pt1, pt1, pt1, pt1, cv1, cv1, cv1, cv1, kq64⟩, fun _ h => absurd h List.not_mem_nil⟩⟩⟩
set_option maxRecDepth 16384 in
theorem cq13 : rC0 4294967309 := ⟨pt2, cv2, List.forall_mem_cons.mpr ⟨⟨pt0, pt7, pt1, pt1, cv0, cv7, cv1, cv1, kq65⟩, List.forall_mem_cons.mpr ⟨⟨pt0, pt7, pt1, pt1, cv0, cv7, cv1, cv1, kq66⟩, List.forall_mem_cons.mpr ⟨⟨pt0, pt7, pt1, pt1, cv0, cv7, cv1, cv1, kq67⟩, List.forall_mem_cons.mpr ⟨⟨pt0, pt7, pt1, pt1, cv0, cv7, cv1, cv1, kq68⟩, List.forall_mem_cons.mpr ⟨⟨pt0, pt7, pt1, pt1, cv0, cv7, cv1, cv1, kq69⟩, List.forall_mem_cons.mpr ⟨⟨pt0, pt7, pt1, pt1, cv0, cv7, cv1, cv1, kq70⟩, fun _ h => absurd h List.not_mem_nil⟩⟩⟩⟩⟩⟩⟩
set_option maxRecDepth 16384 in
theorem cq14 : rC0 4294967310 := ⟨pt1, cv1, List.forall_mem_cons.mpr ⟨⟨pt1, pt1, pt1, pt1, cv1, cv1, cv1, cv1, kq71⟩, fun _ h => absurd h List.not_mem_nil⟩⟩
set_option maxRecDepth 16384 in
theorem cq15 : rC0 4294967311 := ⟨pt10, cv10, List.forall_mem_cons.mpr ⟨⟨pt1, pt1, pt1, pt1, cv1, cv1, cv1, cv1, kq72⟩, List.forall_mem_cons.mpr ⟨⟨pt1, pt1, pt1, pt1, cv1, cv1, cv1, cv1, kq73⟩, fun _ h => absurd h List.not_mem_nil⟩⟩⟩
set_option maxRecDepth 16384 in
theorem cq16 : rC0 4294967312 := ⟨pt1, cv1, List.forall_mem_cons.mpr ⟨⟨pt1, pt1, pt1, pt1, cv1, cv1, cv1, cv1, kq74⟩, fun _ h => absurd h List.not_mem_nil⟩⟩
set_option maxRecDepth 16384 in
theorem cq17 : rC0 4294967313 := ⟨pt2, cv2, List.forall_mem_cons.mpr ⟨⟨pt1, pt1, pt1, pt1, cv1, cv1, cv1, cv1, kq75⟩, List.forall_mem_cons.mpr ⟨⟨pt1, pt1, pt1, pt1, cv1, cv1, cv1, cv1, kq76⟩, List.forall_mem_cons.mpr ⟨⟨pt1, pt1, pt1, pt1, cv1, cv1, cv1, cv1, kq77⟩, List.forall_mem_cons.mpr ⟨⟨pt1, pt1, pt1, pt1, cv1, cv1, cv1, cv1, kq78⟩, List.forall_mem_cons.mpr ⟨⟨pt1, pt1, pt1, pt1, cv1, cv1, cv1, cv1, kq79⟩, List.forall_mem_cons.mpr ⟨⟨pt1, pt1, pt1, pt1, cv1, cv1, cv1, cv1, kq80⟩, fun _ h => absurd h List.not_mem_nil⟩⟩⟩⟩⟩⟩⟩
set_option maxRecDepth 16384 in
theorem cq18 : rC0 4294967314 := ⟨pt1, cv1, List.forall_mem_cons.mpr ⟨⟨pt1, pt1, pt1, pt1, cv1, cv1, cv1, cv1, kq81⟩, fun _ h => absurd h List.not_mem_nil⟩⟩
set_option maxRecDepth 16384 in
theorem cq19 : rC0 4294967315 := ⟨pt1, cv1, List.forall_mem_cons.mpr ⟨⟨pt1, pt1, pt1, pt1, cv1, cv1, cv1, cv1, kq82⟩, fun _ h => absurd h List.not_mem_nil⟩⟩
set_option maxRecDepth 16384 in
theorem cq20 : rC0 4294967316 := ⟨pt10, cv10, List.forall_mem_cons.mpr ⟨⟨pt1, pt1, pt1, pt1, cv1, cv1, cv1, cv1, kq83⟩, List.forall_mem_cons.mpr ⟨⟨pt1, pt1, pt1, pt1, cv1, cv1, cv1, cv1, kq84⟩, fun _ h => absurd h List.not_mem_nil⟩⟩⟩
set_option maxRecDepth 16384 in
theorem cq21 : rC0 4294967317 := ⟨pt11, cv11, List.forall_mem_cons.mpr ⟨⟨pt2, pt1, pt1, pt1, cv2, cv1, cv1, cv1, kq85⟩, List.forall_mem_cons.mpr ⟨⟨pt2, pt1, pt1, pt1, cv2, cv1, cv1, cv1, kq86⟩, List.forall_mem_cons.mpr ⟨⟨pt2, pt1, pt1, pt1, cv2, cv1, cv1, cv1, kq87⟩, fun _ h => absurd h List.not_mem_nil⟩⟩⟩⟩
set_option maxRecDepth 16384 in
theorem cq22 : rC0 4294967318 := ⟨pt10, cv10, List.forall_mem_cons.mpr ⟨⟨pt1, pt1, pt1, pt1, cv1, cv1, cv1, cv1, kq88⟩, List.forall_mem_cons.mpr ⟨⟨pt1, pt1, pt1, pt1, cv1, cv1, cv1, cv1, kq89⟩, fun _ h => absurd h List.not_mem_nil⟩⟩⟩
set_option maxRecDepth 16384 in
theorem cq23 : rC0 4294967319 := ⟨pt10, cv10, List.forall_mem_cons.mpr ⟨⟨pt1, pt1, pt1, pt1, cv1, cv1, cv1, cv1, kq90⟩, List.forall_mem_cons.mpr ⟨⟨pt1, pt1, pt1, pt1, cv1, cv1, cv1, cv1, kq91⟩, fun _ h => absurd h List.not_mem_nil⟩⟩⟩
set_option maxRecDepth 16384 in
theorem cq24 : rC0 4294967320 := ⟨pt10, cv10, List.forall_mem_cons.mpr ⟨⟨pt1, pt1, pt1, pt1, cv1, cv1, cv1, cv1, kq92⟩, List.forall_mem_cons.mpr ⟨⟨pt1, pt1, pt1, pt1, cv1, cv1, cv1, cv1, kq93⟩, fun _ h => absurd h List.not_mem_nil⟩⟩⟩
set_option maxRecDepth 16384 in
theorem cq25 : rC0 4294967321 := ⟨pt12, cv12, List.forall_mem_cons.mpr ⟨⟨pt7, pt7, pt8, pt1, cv7, cv7, cv8, cv1, kq94⟩, List.forall_mem_cons.mpr ⟨⟨pt7, pt7, pt8, pt1, cv7, cv7, cv8, cv1, kq95⟩, List.forall_mem_cons.mpr ⟨⟨pt7, pt7, pt8, pt1, cv7, cv7, cv8, cv1, kq96⟩, List.forall_mem_cons.mpr ⟨⟨pt7, pt7, pt8, pt1, cv7, cv7, cv8, cv1, kq97⟩, List.forall_mem_cons.mpr ⟨⟨pt7, pt7, pt8, pt1, cv7, cv7, cv8, cv1, kq98⟩, List.forall_mem_cons.mpr ⟨⟨pt7, pt7, pt8, pt1, cv7, cv7, cv8, cv1, kq99⟩, List.forall_mem_cons.mpr ⟨⟨pt7, pt7, pt8, pt1, cv7, cv7, cv8, cv1, kq100⟩, List.forall_mem_cons.mpr ⟨⟨pt7, pt7, pt8, pt1, cv7, cv7, cv8, cv1, kq101⟩, List.forall_mem_cons.mpr ⟨⟨pt7, pt7, pt8, pt1, cv7, cv7, cv8, cv1, kq102⟩, fun _ h => absurd h List.not_mem_nil⟩⟩⟩⟩⟩⟩⟩⟩⟩⟩
set_option maxRecDepth 16384 in
theorem cq26 : rC0 4294967322 := ⟨pt1, cv1, List.forall_mem_cons.mpr ⟨⟨pt1, pt1, pt1, pt1, cv1, cv1, cv1, cv1, kq103⟩, fun _ h => absurd h List.not_mem_nil⟩⟩
set_option maxRecDepth 16384 in
theorem cq27 : rC0 4294967323 := ⟨pt8, cv8, List.forall_mem_cons.mpr ⟨⟨pt7, pt2, pt1, pt1, cv7, cv2, cv1, cv1, kq104⟩, List.forall_mem_cons.mpr ⟨⟨pt7, pt2, pt1, pt1, cv7, cv2, cv1, cv1, kq105⟩, List.forall_mem_cons.mpr ⟨⟨pt7, pt2, pt1, pt1, cv7, cv2, cv1, cv1, kq106⟩, List.forall_mem_cons.mpr ⟨⟨pt7, pt2, pt1, pt1, cv7, cv2, cv1, cv1, kq107⟩, List.forall_mem_cons.mpr ⟨⟨pt7, pt2, pt1, pt1, cv7, cv2, cv1, cv1, kq108⟩, List.forall_mem_cons.mpr ⟨⟨pt7, pt2, pt1, pt1, cv7, cv2, cv1, cv1, kq109⟩, List.forall_mem_cons.mpr ⟨⟨pt7, pt2, pt1, pt1, cv7, cv2, cv1, cv1, kq110⟩, List.forall_mem_cons.mpr ⟨⟨pt7, pt2, pt1, pt1, cv7, cv2, cv1, cv1, kq111⟩, List.forall_mem_cons.mpr ⟨⟨pt7, pt2, pt1, pt1, cv7, cv2, cv1, cv1, kq112⟩, List.forall_mem_cons.mpr ⟨⟨pt7, pt2, pt1, pt1, cv7, cv2, cv1, cv1, kq113⟩, List.forall_mem_cons.mpr ⟨⟨pt7, pt2, pt1, pt1, cv7, cv2, cv1, cv1, kq114⟩, List.forall_mem_cons.mpr ⟨⟨pt7, pt2, pt1, pt1, cv7, cv2, cv1, cv1, kq115⟩, List.forall_mem_cons.mpr ⟨⟨pt7, pt2, pt1, pt1, cv7, cv2, cv1, cv1, kq116⟩, fun _ h => absurd h List.not_mem_nil⟩⟩⟩⟩⟩⟩⟩⟩⟩⟩⟩⟩⟩⟩
set_option maxRecDepth 16384 in
theorem cq28 : rC0 4294967324 := ⟨pt10, cv10, List.forall_mem_cons.mpr ⟨⟨pt1, pt1, pt1, pt1, cv1, cv1, cv1, cv1, kq117⟩, List.forall_mem_cons.mpr ⟨⟨pt1, pt1, pt1, pt1, cv1, cv1, cv1, cv1, kq118⟩, fun _ h => absurd h List.not_mem_nil⟩⟩⟩
set_option maxRecDepth 16384 in
theorem cq29 : rC0 4294967325 := ⟨pt13, cv13, List.forall_mem_cons.mpr ⟨⟨pt1, pt1, pt1, pt1, cv1, cv1, cv1, cv1, kq119⟩, List.forall_mem_cons.mpr ⟨⟨pt1, pt1, pt1, pt1, cv1, cv1, cv1, cv1, kq120⟩, List.forall_mem_cons.mpr ⟨⟨pt1, pt1, pt1, pt1, cv1, cv1, cv1, cv1, kq121⟩, List.forall_mem_cons.mpr ⟨⟨pt1, pt1, pt1, pt1, cv1, cv1, cv1, cv1, kq122⟩, List.forall_mem_cons.mpr ⟨⟨pt1, pt1, pt1, pt1, cv1, cv1, cv1, cv1, kq123⟩, List.forall_mem_cons.mpr ⟨⟨pt1, pt1, pt1, pt1, cv1, cv1, cv1, cv1, kq124⟩, List.forall_mem_cons.mpr ⟨⟨pt1, pt1, pt1, pt1, cv1, cv1, cv1, cv1, kq125⟩, List.forall_mem_cons.mpr ⟨⟨pt1, pt1, pt1, pt1, cv1, cv1, cv1, cv1, kq126⟩, List.forall_mem_cons.mpr ⟨⟨pt1, pt1, pt1, pt1, cv1, cv1, cv1, cv1, kq127⟩, List.forall_mem_cons.mpr ⟨⟨pt1, pt1, pt1, pt1, cv1, cv1, cv1, cv1, kq128⟩, List.forall_mem_cons.mpr ⟨⟨pt1, pt1, pt1, pt1, cv1, cv1, cv1, cv1, kq129⟩, List.forall_mem_cons.mpr ⟨⟨pt1, pt1, pt1, pt1, cv1, cv1, cv1, cv1, kq130⟩, fun _ h => absurd h List.not_mem_nil⟩⟩⟩⟩⟩⟩⟩⟩⟩⟩⟩⟩⟩
set_option maxRecDepth 16384 in
theorem cq30 : rC0 4294967326 := ⟨pt1, cv1, List.forall_mem_cons.mpr ⟨⟨pt1, pt1, pt1, pt1, cv1, cv1, cv1, cv1, kq131⟩, fun _ h => absurd h List.not_mem_nil⟩⟩
set_option maxRecDepth 16384 in
theorem cq32 : rC0 4294967328 := ⟨pt2, cv2, List.forall_mem_cons.mpr ⟨⟨pt7, pt1, pt1, pt1, cv7, cv1, cv1, cv1, kq132⟩, List.forall_mem_cons.mpr ⟨⟨pt7, pt1, pt1, pt1, cv7, cv1, cv1, cv1, kq133⟩, List.forall_mem_cons.mpr ⟨⟨pt7, pt1, pt1, pt1, cv7, cv1, cv1, cv1, kq134⟩, List.forall_mem_cons.mpr ⟨⟨pt7, pt1, pt1, pt1, cv7, cv1, cv1, cv1, kq135⟩, List.forall_mem_cons.mpr ⟨⟨pt7, pt1, pt1, pt1, cv7, cv1, cv1, cv1, kq136⟩, List.forall_mem_cons.mpr ⟨⟨pt7, pt1, pt1, pt1, cv7, cv1, cv1, cv1, kq137⟩, fun _ h => absurd h List.not_mem_nil⟩⟩⟩⟩⟩⟩⟩
set_option maxRecDepth 16384 in
theorem cq33 : rC0 4294967329 := ⟨pt1, cv1, List.forall_mem_cons.mpr ⟨⟨pt1, pt1, pt1, pt1, cv1, cv1, cv1, cv1, kq138⟩, fun _ h => absurd h List.not_mem_nil⟩⟩
set_option maxRecDepth 16384 in
theorem cq34 : rC0 4294967330 := ⟨pt1, cv1, List.forall_mem_cons.mpr ⟨⟨pt1, pt1, pt1, pt1, cv1, cv1, cv1, cv1, kq139⟩, fun _ h => absurd h List.not_mem_nil⟩⟩
set_option maxRecDepth 16384 in
theorem cq35 : rC0 4294967331 := ⟨pt1, cv1, List.forall_mem_cons.mpr ⟨⟨pt1, pt1, pt1, pt1, cv1, cv1, cv1, cv1, kq140⟩, fun _ h => absurd h List.not_mem_nil⟩⟩
set_option maxRecDepth 16384 in
theorem cq36 : rC0 4294967332 := ⟨pt1, cv1, List.forall_mem_cons.mpr ⟨⟨pt1, pt1, pt1, pt1, cv1, cv1, cv1, cv1, kq141⟩, fun _ h => absurd h List.not_mem_nil⟩⟩
set_option maxRecDepth 16384 in
theorem cq37 : rC0 4294967333 := ⟨pt1, cv1, List.forall_mem_cons.mpr ⟨⟨pt1, pt1, pt1, pt1, cv1, cv1, cv1, cv1, kq142⟩, fun _ h => absurd h List.not_mem_nil⟩⟩
set_option maxRecDepth 16384 in
theorem cq38 : rC0 4294967334 := ⟨pt1, cv1, List.forall_mem_cons.mpr ⟨⟨pt1, pt1, pt1, pt1, cv1, cv1, cv1, cv1, kq143⟩, fun _ h => absurd h List.not_mem_nil⟩⟩
set_option maxRecDepth 16384 in
theorem cq39 : rC0 4294967335 := ⟨pt1, cv1, List.forall_mem_cons.mpr ⟨⟨pt1, pt1, pt1, pt1, cv1, cv1, cv1, cv1, kq144⟩, fun _ h => absurd h List.not_mem_nil⟩⟩
set_option maxRecDepth 16384 in
theorem cq40 : rC0 4294967336 := ⟨pt1, cv1, List.forall_mem_cons.mpr ⟨⟨pt1, pt1, pt1, pt1, cv1, cv1, cv1, cv1, kq145⟩, fun _ h => absurd h List.not_mem_nil⟩⟩
set_option maxRecDepth 16384 in
theorem cq41 : rC0 4294967337 := ⟨pt1, cv1, List.forall_mem_cons.mpr ⟨⟨pt1, pt1, pt1, pt1, cv1, cv1, cv1, cv1, kq146⟩, fun _ h => absurd h List.not_mem_nil⟩⟩
set_option maxRecDepth 16384 in
theorem cq42 : rC0 4294967338 := ⟨pt1, cv1, List.forall_mem_cons.mpr ⟨⟨pt1, pt1, pt1, pt1, cv1, cv1, cv1, cv1, kq147⟩, fun _ h => absurd h List.not_mem_nil⟩⟩
set_option maxRecDepth 16384 in
theorem cq43 : rC0 4294967339 := ⟨pt1, cv1, List.forall_mem_cons.mpr ⟨⟨pt1, pt1, pt1, pt1, cv1, cv1, cv1, cv1, kq148⟩, fun _ h => absurd h List.not_mem_nil⟩⟩
set_option maxRecDepth 16384 in
theorem cq44 : rC0 4294967340 := ⟨pt1, cv1, List.forall_mem_cons.mpr ⟨⟨pt1, pt1, pt1, pt1, cv1, cv1, cv1, cv1, kq149⟩, fun _ h => absurd h List.not_mem_nil⟩⟩
set_option maxRecDepth 16384 in
theorem cq45 : rC0 4294967341 := ⟨pt1, cv1, List.forall_mem_cons.mpr ⟨⟨pt1, pt1, pt1, pt1, cv1, cv1, cv1, cv1, kq150⟩, fun _ h => absurd h List.not_mem_nil⟩⟩
set_option maxRecDepth 16384 in
theorem cq46 : rC0 4294967342 := ⟨pt1, cv1, List.forall_mem_cons.mpr ⟨⟨pt1, pt1, pt1, pt1, cv1, cv1, cv1, cv1, kq151⟩, fun _ h => absurd h List.not_mem_nil⟩⟩
set_option maxRecDepth 16384 in
theorem cq47 : rC0 4294967343 := ⟨pt1, cv1, List.forall_mem_cons.mpr ⟨⟨pt1, pt1, pt1, pt1, cv1, cv1, cv1, cv1, kq152⟩, fun _ h => absurd h List.not_mem_nil⟩⟩
set_option maxRecDepth 16384 in
theorem cq48 : rC0 4294967344 := ⟨pt1, cv1, List.forall_mem_cons.mpr ⟨⟨pt1, pt1, pt1, pt1, cv1, cv1, cv1, cv1, kq153⟩, fun _ h => absurd h List.not_mem_nil⟩⟩
set_option maxRecDepth 16384 in
theorem cq49 : rC0 4294967345 := ⟨pt1, cv1, List.forall_mem_cons.mpr ⟨⟨pt1, pt1, pt1, pt1, cv1, cv1, cv1, cv1, kq154⟩, fun _ h => absurd h List.not_mem_nil⟩⟩
set_option maxRecDepth 16384 in
theorem cq50 : rC0 4294967346 := ⟨pt1, cv1, List.forall_mem_cons.mpr ⟨⟨pt1, pt1, pt1, pt1, cv1, cv1, cv1, cv1, kq155⟩, fun _ h => absurd h List.not_mem_nil⟩⟩
set_option maxRecDepth 16384 in
theorem cq51 : rC0 4294967347 := ⟨pt1, cv1, List.forall_mem_cons.mpr ⟨⟨pt1, pt1, pt1, pt1, cv1, cv1, cv1, cv1, kq156⟩, fun _ h => absurd h List.not_mem_nil⟩⟩
set_option maxRecDepth 16384 in
theorem cq52 : rC0 4294967348 := ⟨pt1, cv1, List.forall_mem_cons.mpr ⟨⟨pt1, pt1, pt1, pt1, cv1, cv1, cv1, cv1, kq157⟩, fun _ h => absurd h List.not_mem_nil⟩⟩
set_option maxRecDepth 16384 in
theorem cq53 : rC0 4294967349 := ⟨pt1, cv1, List.forall_mem_cons.mpr ⟨⟨pt1, pt1, pt1, pt1, cv1, cv1, cv1, cv1, kq158⟩, fun _ h => absurd h List.not_mem_nil⟩⟩
set_option maxRecDepth 16384 in
theorem cq54 : rC0 4294967350 := ⟨pt1, cv1, List.forall_mem_cons.mpr ⟨⟨pt1, pt1, pt1, pt1, cv1, cv1, cv1, cv1, kq159⟩, fun _ h => absurd h List.not_mem_nil⟩⟩
set_option maxRecDepth 16384 in
theorem cq55 : rC0 4294967351 := ⟨pt1, cv1, List.forall_mem_cons.mpr ⟨⟨pt1, pt1, pt1, pt1, cv1, cv1, cv1, cv1, kq160⟩, fun _ h => absurd h List.not_mem_nil⟩⟩
set_option maxRecDepth 16384 in
theorem cq56 : rC0 4294967352 := ⟨pt1, cv1, List.forall_mem_cons.mpr ⟨⟨pt1, pt1, pt1, pt1, cv1, cv1, cv1, cv1, kq161⟩, fun _ h => absurd h List.not_mem_nil⟩⟩
set_option maxRecDepth 16384 in
theorem cq57 : rC0 4294967353 := ⟨pt1, cv1, List.forall_mem_cons.mpr ⟨⟨pt1, pt1, pt1, pt1, cv1, cv1, cv1, cv1, kq162⟩, fun _ h => absurd h List.not_mem_nil⟩⟩
set_option maxRecDepth 16384 in
theorem cq58 : rC0 4294967354 := ⟨pt1, cv1, List.forall_mem_cons.mpr ⟨⟨pt1, pt1, pt1, pt1, cv1, cv1, cv1, cv1, kq163⟩, fun _ h => absurd h List.not_mem_nil⟩⟩
set_option maxRecDepth 16384 in
theorem cq59 : rC0 4294967355 := ⟨pt1, cv1, List.forall_mem_cons.mpr ⟨⟨pt1, pt1, pt1, pt1, cv1, cv1, cv1, cv1, kq164⟩, fun _ h => absurd h List.not_mem_nil⟩⟩
set_option maxRecDepth 16384 in
theorem cq60 : rC0 4294967356 := ⟨pt1, cv1, List.forall_mem_cons.mpr ⟨⟨pt1, pt1, pt1, pt1, cv1, cv1, cv1, cv1, kq165⟩, fun _ h => absurd h List.not_mem_nil⟩⟩
set_option maxRecDepth 16384 in
theorem cq61 : rC0 4294967357 := ⟨pt1, cv1, List.forall_mem_cons.mpr ⟨⟨pt1, pt1, pt1, pt1, cv1, cv1, cv1, cv1, kq166⟩, fun _ h => absurd h List.not_mem_nil⟩⟩
set_option maxRecDepth 16384 in
theorem cq62 : rC0 4294967358 := ⟨pt1, cv1, List.forall_mem_cons.mpr ⟨⟨pt1, pt1, pt1, pt1, cv1, cv1, cv1, cv1, kq167⟩, fun _ h => absurd h List.not_mem_nil⟩⟩
set_option maxRecDepth 16384 in
theorem cq63 : rC0 4294967359 := ⟨pt1, cv1, List.forall_mem_cons.mpr ⟨⟨pt1, pt1, pt1, pt1, cv1, cv1, cv1, cv1, kq168⟩, fun _ h => absurd h List.not_mem_nil⟩⟩
set_option maxRecDepth 16384 in
theorem rCov_all : rCov := by
  intro xs
  obtain ⟨t, ht, e⟩ := nI_all (xs 0)
  have hc : t % 64 < 64 := Nat.mod_lt _ (by decide)
  have h0 : ∀ c, t % 64 = c → rVi (vX (4294967296 + c) 1099511627776) (xs 0) := fun c hc => Or.inr ⟨by decide, by show 4294967296 + c < 8589934592; omega, t, ht, e, by omega⟩
  have hd : t % 64 = 0 ∨ t % 64 = 1 ∨ t % 64 = 2 ∨ t % 64 = 3 ∨ t % 64 = 4 ∨ t % 64 = 5 ∨ t % 64 = 6 ∨ t % 64 = 7 ∨ t % 64 = 8 ∨ t % 64 = 9 ∨ t % 64 = 10 ∨ t % 64 = 11 ∨ t % 64 = 12 ∨ t % 64 = 13 ∨ t % 64 = 14 ∨ t % 64 = 15 ∨ t % 64 = 16 ∨ t % 64 = 17 ∨ t % 64 = 18 ∨ t % 64 = 19 ∨ t % 64 = 20 ∨ t % 64 = 21 ∨ t % 64 = 22 ∨ t % 64 = 23 ∨ t % 64 = 24 ∨ t % 64 = 25 ∨ t % 64 = 26 ∨ t % 64 = 27 ∨ t % 64 = 28 ∨ t % 64 = 29 ∨ t % 64 = 30 ∨ t % 64 = 31 ∨ t % 64 = 32 ∨ t % 64 = 33 ∨ t % 64 = 34 ∨ t % 64 = 35 ∨ t % 64 = 36 ∨ t % 64 = 37 ∨ t % 64 = 38 ∨ t % 64 = 39 ∨ t % 64 = 40 ∨ t % 64 = 41 ∨ t % 64 = 42 ∨ t % 64 = 43 ∨ t % 64 = 44 ∨ t % 64 = 45 ∨ t % 64 = 46 ∨ t % 64 = 47 ∨ t % 64 = 48 ∨ t % 64 = 49 ∨ t % 64 = 50 ∨ t % 64 = 51 ∨ t % 64 = 52 ∨ t % 64 = 53 ∨ t % 64 = 54 ∨ t % 64 = 55 ∨ t % 64 = 56 ∨ t % 64 = 57 ∨ t % 64 = 58 ∨ t % 64 = 59 ∨ t % 64 = 60 ∨ t % 64 = 61 ∨ t % 64 = 62 ∨ t % 64 = 63 := by omega
  rcases hd with h | h | h | h | h | h | h | h | h | h | h | h | h | h | h | h | h | h | h | h | h | h | h | h | h | h | h | h | h | h | h | h | h | h | h | h | h | h | h | h | h | h | h | h | h | h | h | h | h | h | h | h | h | h | h | h | h | h | h | h | h | h | h | h
  · exact rC0_i cq0 xs (h0 0 h)
  · exact rC0_i cq1 xs (h0 1 h)
  · exact rC0_i cq2 xs (h0 2 h)
  · exact rC0_i cq3 xs (h0 3 h)
  · exact rC0_i cq4 xs (h0 4 h)
  · exact rC0_i cq5 xs (h0 5 h)
  · exact rC0_i cq6 xs (h0 6 h)
  · exact rC0_i cq7 xs (h0 7 h)
  · exact rC0_i cq8 xs (h0 8 h)
  · exact rC0_i cq9 xs (h0 9 h)
  · exact rC0_i cq10 xs (h0 10 h)
  · exact rC0_i cq11 xs (h0 11 h)
  · exact rC0_i cq12 xs (h0 12 h)
  · exact rC0_i cq13 xs (h0 13 h)
  · exact rC0_i cq14 xs (h0 14 h)
  · exact rC0_i cq15 xs (h0 15 h)
  · exact rC0_i cq16 xs (h0 16 h)
  · exact rC0_i cq17 xs (h0 17 h)
  · exact rC0_i cq18 xs (h0 18 h)
  · exact rC0_i cq19 xs (h0 19 h)
  · exact rC0_i cq20 xs (h0 20 h)
  · exact rC0_i cq21 xs (h0 21 h)
  · exact rC0_i cq22 xs (h0 22 h)
  · exact rC0_i cq23 xs (h0 23 h)
  · exact rC0_i cq24 xs (h0 24 h)
  · exact rC0_i cq25 xs (h0 25 h)
  · exact rC0_i cq26 xs (h0 26 h)
  · exact rC0_i cq27 xs (h0 27 h)
  · exact rC0_i cq28 xs (h0 28 h)
  · exact rC0_i cq29 xs (h0 29 h)
  · exact rC0_i cq30 xs (h0 30 h)
  · exact rC0_i cq31 xs (h0 31 h)
  · exact rC0_i cq32 xs (h0 32 h)
  · exact rC0_i cq33 xs (h0 33 h)
  · exact rC0_i cq34 xs (h0 34 h)
  · exact rC0_i cq35 xs (h0 35 h)
  · exact rC0_i cq36 xs (h0 36 h)
  · exact rC0_i cq37 xs (h0 37 h)
  · exact rC0_i cq38 xs (h0 38 h)
  · exact rC0_i cq39 xs (h0 39 h)
  · exact rC0_i cq40 xs (h0 40 h)
  · exact rC0_i cq41 xs (h0 41 h)
  · exact rC0_i cq42 xs (h0 42 h)
  · exact rC0_i cq43 xs (h0 43 h)
  · exact rC0_i cq44 xs (h0 44 h)
  · exact rC0_i cq45 xs (h0 45 h)
  · exact rC0_i cq46 xs (h0 46 h)
  · exact rC0_i cq47 xs (h0 47 h)
  · exact rC0_i cq48 xs (h0 48 h)
  · exact rC0_i cq49 xs (h0 49 h)
  · exact rC0_i cq50 xs (h0 50 h)
  · exact rC0_i cq51 xs (h0 51 h)
  · exact rC0_i cq52 xs (h0 52 h)
  · exact rC0_i cq53 xs (h0 53 h)
  · exact rC0_i cq54 xs (h0 54 h)
  · exact rC0_i cq55 xs (h0 55 h)
  · exact rC0_i cq56 xs (h0 56 h)
  · exact rC0_i cq57 xs (h0 57 h)
  · exact rC0_i cq58 xs (h0 58 h)
  · exact rC0_i cq59 xs (h0 59 h)
  · exact rC0_i cq60 xs (h0 60 h)
  · exact rC0_i cq61 xs (h0 61 h)
  · exact rC0_i cq62 xs (h0 62 h)
  · exact rC0_i cq63 xs (h0 63 h)
