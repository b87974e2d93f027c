-- ===== the scripts that are run =====
def rCvr (P : List rV) : Prop := ∀ y : Int32, ∃ x ∈ P, rVi x y
noncomputable def rAll (P : List rV) (k : rV → Bool) : Bool := @List.rec _ (fun _ => Bool) true (fun x _ ih => rAnd (k x) ih) P
set_option maxRecDepth 16384 in
theorem rAll_i : ∀ {P : List rV} {k : rV → Bool}, rAll P k = true → ∀ x ∈ P, k x = true
  | [], _, _, _, h => absurd h List.not_mem_nil
  | y :: P, k, h, x, hx => by
    have h : rAnd (k y) (rAll P k) = true := h
    obtain ⟨h1, h2⟩ := rAnd_i h
    rcases List.mem_cons.mp hx with rfl | hx
    · exact h1
    · exact rAll_i h2 x hx
noncomputable def ck1 (c : Nat) (a : rV) (P2 P3 P4 P5 : List rV) : Bool := rAll P2 fun b => rAll P3 fun d => rAll P4 fun e => rAll P5 fun f => okR (runH [vX c 1099511627776, a, b, d, e, f])
def rC1 (c : Nat) (a : rV) : Prop := ∃ P2 P3 P4 P5, rCvr P2 ∧ rCvr P3 ∧ rCvr P4 ∧ rCvr P5 ∧ ck1 c a P2 P3 P4 P5 = true
def rC0 (c : Nat) : Prop := ∃ P1, rCvr P1 ∧ ∀ a ∈ P1, rC1 c a
set_option maxRecDepth 16384 in
theorem rC0_i {c : Nat} (h : rC0 c) (xs : Nat → Int32) (h0 : rVi (vX c 1099511627776) (xs 0)) : ∃ sc : List rV, sc.length = 6 ∧ (∀ j, j < 6 → rVi (sc.getD j vU) (xs j)) ∧ okR (runH sc) = true := by
  obtain ⟨P1, c1, h⟩ := h
  obtain ⟨a, ha, va⟩ := c1 (xs 1)
  obtain ⟨P2, P3, P4, P5, c2, c3, c4, c5, h⟩ := h a ha
  obtain ⟨b, hb, vb⟩ := c2 (xs 2)
  obtain ⟨d, hd, vd⟩ := c3 (xs 3)
  obtain ⟨e, he, ve⟩ := c4 (xs 4)
  obtain ⟨f, hf, vf⟩ := c5 (xs 5)
  refine ⟨[vX c 1099511627776, a, b, d, e, f], rfl, fun j hj => ?_, rAll_i (rAll_i (rAll_i (rAll_i h b hb) d hd) e he) f hf⟩
  have : j = 0 ∨ j = 1 ∨ j = 2 ∨ j = 3 ∨ j = 4 ∨ j = 5 := by omega
  rcases this with rfl | rfl | rfl | rfl | rfl | rfl
  · exact h0
  · exact va
  · exact vb
  · exact vd
  · exact ve
  · exact vf
def pt0 : List rV := [(vX 2147483648 4294967295), (vI 0), (vI 1), (vX 2 2147483647)]
set_option maxRecDepth 16384 in
theorem cv0 : rCvr pt0 := by
  intro y
  obtain ⟨t, ht, rfl⟩ := nI_all y
  have h : (2147483648 ≤ t ∧ t ≤ 4294967295) ∨ t = 0 ∨ t = 1 ∨ (2 ≤ t ∧ t ≤ 2147483647) := by omega
  rcases h with h | h | h | h
  · exact ⟨_, List.mem_of_getElem? (i := 0) rfl, Or.inl ⟨t, ht, rfl, h.1, h.2⟩⟩
  · subst h; exact ⟨_, List.mem_of_getElem? (i := 1) rfl, ht, rfl⟩
  · subst h; exact ⟨_, List.mem_of_getElem? (i := 2) rfl, ht, rfl⟩
  · exact ⟨_, List.mem_of_getElem? (i := 3) rfl, Or.inl ⟨t, ht, rfl, h.1, h.2⟩⟩
def pt1 : List rV := [(vX 0 4294967295)]
set_option maxRecDepth 16384 in
theorem cv1 : rCvr pt1 := by
  intro y
  obtain ⟨t, ht, rfl⟩ := nI_all y
  have h : (0 ≤ t ∧ t ≤ 4294967295) := by omega
  skip
  · exact ⟨_, List.mem_of_getElem? (i := 0) rfl, Or.inl ⟨t, ht, rfl, h.1, h.2⟩⟩
def pt2 : List rV := [(vX 2147483648 4294967295), (vI 0), (vI 1), (vI 2), (vI 3), (vX 4 2147483647)]
set_option maxRecDepth 16384 in
theorem cv2 : rCvr pt2 := by
  intro y
  obtain ⟨t, ht, rfl⟩ := nI_all y
  have h : (2147483648 ≤ t ∧ t ≤ 4294967295) ∨ t = 0 ∨ t = 1 ∨ t = 2 ∨ t = 3 ∨ (4 ≤ t ∧ t ≤ 2147483647) := by omega
  rcases h with h | h | h | h | h | h
  · exact ⟨_, List.mem_of_getElem? (i := 0) rfl, Or.inl ⟨t, ht, rfl, h.1, h.2⟩⟩
  · subst h; exact ⟨_, List.mem_of_getElem? (i := 1) rfl, ht, rfl⟩
  · subst h; exact ⟨_, List.mem_of_getElem? (i := 2) rfl, ht, rfl⟩
  · subst h; exact ⟨_, List.mem_of_getElem? (i := 3) rfl, ht, rfl⟩
  · subst h; exact ⟨_, List.mem_of_getElem? (i := 4) rfl, ht, rfl⟩
  · exact ⟨_, List.mem_of_getElem? (i := 5) rfl, Or.inl ⟨t, ht, rfl, h.1, h.2⟩⟩
def pt3 : List rV := [(vX 2147483648 4294967295), (vI 0), (vI 1), (vI 2), (vI 3), (vI 4), (vI 5), (vX 6 2147483647)]
set_option maxRecDepth 16384 in
theorem cv3 : rCvr pt3 := by
  intro y
  obtain ⟨t, ht, rfl⟩ := nI_all y
  have h : (2147483648 ≤ t ∧ t ≤ 4294967295) ∨ t = 0 ∨ t = 1 ∨ t = 2 ∨ t = 3 ∨ t = 4 ∨ t = 5 ∨ (6 ≤ t ∧ t ≤ 2147483647) := by omega
  rcases h with h | h | h | h | h | h | h | h
  · exact ⟨_, List.mem_of_getElem? (i := 0) rfl, Or.inl ⟨t, ht, rfl, h.1, h.2⟩⟩
  · subst h; exact ⟨_, List.mem_of_getElem? (i := 1) rfl, ht, rfl⟩
  · subst h; exact ⟨_, List.mem_of_getElem? (i := 2) rfl, ht, rfl⟩
  · subst h; exact ⟨_, List.mem_of_getElem? (i := 3) rfl, ht, rfl⟩
  · subst h; exact ⟨_, List.mem_of_getElem? (i := 4) rfl, ht, rfl⟩
  · subst h; exact ⟨_, List.mem_of_getElem? (i := 5) rfl, ht, rfl⟩
  · subst h; exact ⟨_, List.mem_of_getElem? (i := 6) rfl, ht, rfl⟩
  · exact ⟨_, List.mem_of_getElem? (i := 7) rfl, Or.inl ⟨t, ht, rfl, h.1, h.2⟩⟩
def pt4 : List rV := [(vX 2147483648 4294967295), (vI 0), (vX 1 2147483647)]
set_option maxRecDepth 16384 in
theorem cv4 : rCvr pt4 := by
  intro y
  obtain ⟨t, ht, rfl⟩ := nI_all y
  have h : (2147483648 ≤ t ∧ t ≤ 4294967295) ∨ t = 0 ∨ (1 ≤ t ∧ t ≤ 2147483647) := by omega
  rcases h with h | h | h
  · exact ⟨_, List.mem_of_getElem? (i := 0) rfl, Or.inl ⟨t, ht, rfl, h.1, h.2⟩⟩
  · subst h; exact ⟨_, List.mem_of_getElem? (i := 1) rfl, ht, rfl⟩
  · exact ⟨_, List.mem_of_getElem? (i := 2) rfl, Or.inl ⟨t, ht, rfl, h.1, h.2⟩⟩
def pt5 : List rV := [(vX 2147483648 4294967295), (vI 0), (vI 1), (vX 2 3), (vX 4 7), (vX 8 15), (vX 16 31), (vX 32 63), (vX 64 127), (vX 128 255), (vX 256 511), (vX 512 1023), (vX 1024 2047), (vX 2048 4095), (vX 4096 8191), (vX 8192 16383), (vX 16384 32767), (vX 32768 65535), (vX 65536 131071), (vX 131072 262143), (vX 262144 524287), (vX 524288 1048575), (vX 1048576 2097151), (vX 2097152 4194303), (vX 4194304 8388607), (vX 8388608 16777215), (vX 16777216 33554431), (vX 33554432 67108863), (vX 67108864 134217727), (vX 134217728 268435455), (vX 268435456 536870911), (vX 536870912 1073741823), (vX 1073741824 2147483647)]
set_option maxRecDepth 16384 in
theorem cv5 : rCvr pt5 := by
  intro y
  obtain ⟨t, ht, rfl⟩ := nI_all y
  have h : (2147483648 ≤ t ∧ t ≤ 4294967295) ∨ t = 0 ∨ t = 1 ∨ (2 ≤ t ∧ t ≤ 3) ∨ (4 ≤ t ∧ t ≤ 7) ∨ (8 ≤ t ∧ t ≤ 15) ∨ (16 ≤ t ∧ t ≤ 31) ∨ (32 ≤ t ∧ t ≤ 63) ∨ (64 ≤ t ∧ t ≤ 127) ∨ (128 ≤ t ∧ t ≤ 255) ∨ (256 ≤ t ∧ t ≤ 511) ∨ (512 ≤ t ∧ t ≤ 1023) ∨ (1024 ≤ t ∧ t ≤ 2047) ∨ (2048 ≤ t ∧ t ≤ 4095) ∨ (4096 ≤ t ∧ t ≤ 8191) ∨ (8192 ≤ t ∧ t ≤ 16383) ∨ (16384 ≤ t ∧ t ≤ 32767) ∨ (32768 ≤ t ∧ t ≤ 65535) ∨ (65536 ≤ t ∧ t ≤ 131071) ∨ (131072 ≤ t ∧ t ≤ 262143) ∨ (262144 ≤ t ∧ t ≤ 524287) ∨ (524288 ≤ t ∧ t ≤ 1048575) ∨ (1048576 ≤ t ∧ t ≤ 2097151) ∨ (2097152 ≤ t ∧ t ≤ 4194303) ∨ (4194304 ≤ t ∧ t ≤ 8388607) ∨ (8388608 ≤ t ∧ t ≤ 16777215) ∨ (16777216 ≤ t ∧ t ≤ 33554431) ∨ (33554432 ≤ t ∧ t ≤ 67108863) ∨ (67108864 ≤ t ∧ t ≤ 134217727) ∨ (134217728 ≤ t ∧ t ≤ 268435455) ∨ (268435456 ≤ t ∧ t ≤ 536870911) ∨ (536870912 ≤ t ∧ t ≤ 1073741823) ∨ (1073741824 ≤ t ∧ t ≤ 2147483647) := by omega
  rcases h with h | h | h | h | h | h | h | h | h | h | h | h | h | h | h | h | h | h | h | h | h | h | h | h | h | h | h | h | h | h | h | h | h
  · exact ⟨_, List.mem_of_getElem? (i := 0) rfl, Or.inl ⟨t, ht, rfl, h.1, h.2⟩⟩
  · subst h; exact ⟨_, List.mem_of_getElem? (i := 1) rfl, ht, rfl⟩
  · subst h; exact ⟨_, List.mem_of_getElem? (i := 2) rfl, ht, rfl⟩
  · exact ⟨_, List.mem_of_getElem? (i := 3) rfl, Or.inl ⟨t, ht, rfl, h.1, h.2⟩⟩
  · exact ⟨_, List.mem_of_getElem? (i := 4) rfl, Or.inl ⟨t, ht, rfl, h.1, h.2⟩⟩
  · exact ⟨_, List.mem_of_getElem? (i := 5) rfl, Or.inl ⟨t, ht, rfl, h.1, h.2⟩⟩
  · exact ⟨_, List.mem_of_getElem? (i := 6) rfl, Or.inl ⟨t, ht, rfl, h.1, h.2⟩⟩
  · exact ⟨_, List.mem_of_getElem? (i := 7) rfl, Or.inl ⟨t, ht, rfl, h.1, h.2⟩⟩
  · exact ⟨_, List.mem_of_getElem? (i := 8) rfl, Or.inl ⟨t, ht, rfl, h.1, h.2⟩⟩
  · exact ⟨_, List.mem_of_getElem? (i := 9) rfl, Or.inl ⟨t, ht, rfl, h.1, h.2⟩⟩
  · exact ⟨_, List.mem_of_getElem? (i := 10) rfl, Or.inl ⟨t, ht, rfl, h.1, h.2⟩⟩
  · exact ⟨_, List.mem_of_getElem? (i := 11) rfl, Or.inl ⟨t, ht, rfl, h.1, h.2⟩⟩
  · exact ⟨_, List.mem_of_getElem? (i := 12) rfl, Or.inl ⟨t, ht, rfl, h.1, h.2⟩⟩
  · exact ⟨_, List.mem_of_getElem? (i := 13) rfl, Or.inl ⟨t, ht, rfl, h.1, h.2⟩⟩
  · exact ⟨_, List.mem_of_getElem? (i := 14) rfl, Or.inl ⟨t, ht, rfl, h.1, h.2⟩⟩
  · exact ⟨_, List.mem_of_getElem? (i := 15) rfl, Or.inl ⟨t, ht, rfl, h.1, h.2⟩⟩
  · exact ⟨_, List.mem_of_getElem? (i := 16) rfl, Or.inl ⟨t, ht, rfl, h.1, h.2⟩⟩
  · exact ⟨_, List.mem_of_getElem? (i := 17) rfl, Or.inl ⟨t, ht, rfl, h.1, h.2⟩⟩
  · exact ⟨_, List.mem_of_getElem? (i := 18) rfl, Or.inl ⟨t, ht, rfl, h.1, h.2⟩⟩
  · exact ⟨_, List.mem_of_getElem? (i := 19) rfl, Or.inl ⟨t, ht, rfl, h.1, h.2⟩⟩
  · exact ⟨_, List.mem_of_getElem? (i := 20) rfl, Or.inl ⟨t, ht, rfl, h.1, h.2⟩⟩
  · exact ⟨_, List.mem_of_getElem? (i := 21) rfl, Or.inl ⟨t, ht, rfl, h.1, h.2⟩⟩
  · exact ⟨_, List.mem_of_getElem? (i := 22) rfl, Or.inl ⟨t, ht, rfl, h.1, h.2⟩⟩
  · exact ⟨_, List.mem_of_getElem? (i := 23) rfl, Or.inl ⟨t, ht, rfl, h.1, h.2⟩⟩
  · exact ⟨_, List.mem_of_getElem? (i := 24) rfl, Or.inl ⟨t, ht, rfl, h.1, h.2⟩⟩
  · exact ⟨_, List.mem_of_getElem? (i := 25) rfl, Or.inl ⟨t, ht, rfl, h.1, h.2⟩⟩
  · exact ⟨_, List.mem_of_getElem? (i := 26) rfl, Or.inl ⟨t, ht, rfl, h.1, h.2⟩⟩
  · exact ⟨_, List.mem_of_getElem? (i := 27) rfl, Or.inl ⟨t, ht, rfl, h.1, h.2⟩⟩
  · exact ⟨_, List.mem_of_getElem? (i := 28) rfl, Or.inl ⟨t, ht, rfl, h.1, h.2⟩⟩
  · exact ⟨_, List.mem_of_getElem? (i := 29) rfl, Or.inl ⟨t, ht, rfl, h.1, h.2⟩⟩
  · exact ⟨_, List.mem_of_getElem? (i := 30) rfl, Or.inl ⟨t, ht, rfl, h.1, h.2⟩⟩
  · exact ⟨_, List.mem_of_getElem? (i := 31) rfl, Or.inl ⟨t, ht, rfl, h.1, h.2⟩⟩
  · exact ⟨_, List.mem_of_getElem? (i := 32) rfl, Or.inl ⟨t, ht, rfl, h.1, h.2⟩⟩
def pt6 : List rV := [(vX 2147483648 4294967295), (vI 0), (vI 1), (vI 2), (vI 3), (vI 4), (vI 5), (vI 6), (vI 7), (vI 8), (vI 9), (vI 10), (vI 11), (vI 12), (vX 13 2147483647)]
set_option maxRecDepth 16384 in
theorem cv6 : rCvr pt6 := by
  intro y
  obtain ⟨t, ht, rfl⟩ := nI_all y
  have h : (2147483648 ≤ t ∧ t ≤ 4294967295) ∨ t = 0 ∨ t = 1 ∨ t = 2 ∨ t = 3 ∨ t = 4 ∨ t = 5 ∨ t = 6 ∨ t = 7 ∨ t = 8 ∨ t = 9 ∨ t = 10 ∨ t = 11 ∨ t = 12 ∨ (13 ≤ t ∧ t ≤ 2147483647) := by omega
  rcases h with h | h | h | h | h | h | h | h | h | h | h | h | h | h | h
  · exact ⟨_, List.mem_of_getElem? (i := 0) rfl, Or.inl ⟨t, ht, rfl, h.1, h.2⟩⟩
  · subst h; exact ⟨_, List.mem_of_getElem? (i := 1) rfl, ht, rfl⟩
  · subst h; exact ⟨_, List.mem_of_getElem? (i := 2) rfl, ht, rfl⟩
  · subst h; exact ⟨_, List.mem_of_getElem? (i := 3) rfl, ht, rfl⟩
  · subst h; exact ⟨_, List.mem_of_getElem? (i := 4) rfl, ht, rfl⟩
  · subst h; exact ⟨_, List.mem_of_getElem? (i := 5) rfl, ht, rfl⟩
  · subst h; exact ⟨_, List.mem_of_getElem? (i := 6) rfl, ht, rfl⟩
  · subst h; exact ⟨_, List.mem_of_getElem? (i := 7) rfl, ht, rfl⟩
  · subst h; exact ⟨_, List.mem_of_getElem? (i := 8) rfl, ht, rfl⟩
  · subst h; exact ⟨_, List.mem_of_getElem? (i := 9) rfl, ht, rfl⟩
  · subst h; exact ⟨_, List.mem_of_getElem? (i := 10) rfl, ht, rfl⟩
  · subst h; exact ⟨_, List.mem_of_getElem? (i := 11) rfl, ht, rfl⟩
  · subst h; exact ⟨_, List.mem_of_getElem? (i := 12) rfl, ht, rfl⟩
  · subst h; exact ⟨_, List.mem_of_getElem? (i := 13) rfl, ht, rfl⟩
  · exact ⟨_, List.mem_of_getElem? (i := 14) rfl, Or.inl ⟨t, ht, rfl, h.1, h.2⟩⟩
def pt7 : List rV := [(vX 2147483648 4294967295), (vI 0), (vI 1), (vI 2), (vX 3 2147483647)]
set_option maxRecDepth 16384 in
theorem cv7 : rCvr pt7 := by
  intro y
  obtain ⟨t, ht, rfl⟩ := nI_all y
  have h : (2147483648 ≤ t ∧ t ≤ 4294967295) ∨ t = 0 ∨ t = 1 ∨ t = 2 ∨ (3 ≤ t ∧ t ≤ 2147483647) := by omega
  rcases h with h | h | h | h | h
  · exact ⟨_, List.mem_of_getElem? (i := 0) rfl, Or.inl ⟨t, ht, rfl, h.1, h.2⟩⟩
  · subst h; exact ⟨_, List.mem_of_getElem? (i := 1) rfl, ht, rfl⟩
  · subst h; exact ⟨_, List.mem_of_getElem? (i := 2) rfl, ht, rfl⟩
  · subst h; exact ⟨_, List.mem_of_getElem? (i := 3) rfl, ht, rfl⟩
  · exact ⟨_, List.mem_of_getElem? (i := 4) rfl, Or.inl ⟨t, ht, rfl, h.1, h.2⟩⟩
def pt8 : List rV := [(vX 2147483648 4294967295), (vI 0), (vI 1), (vI 2), (vI 3), (vI 4), (vI 5), (vI 6), (vI 7), (vI 8), (vI 9), (vI 10), (vX 11 2147483647)]
set_option maxRecDepth 16384 in
theorem cv8 : rCvr pt8 := by
  intro y
  obtain ⟨t, ht, rfl⟩ := nI_all y
  have h : (2147483648 ≤ t ∧ t ≤ 4294967295) ∨ t = 0 ∨ t = 1 ∨ t = 2 ∨ t = 3 ∨ t = 4 ∨ t = 5 ∨ t = 6 ∨ t = 7 ∨ t = 8 ∨ t = 9 ∨ t = 10 ∨ (11 ≤ t ∧ t ≤ 2147483647) := by omega
  rcases h with h | h | h | h | h | h | h | h | h | h | h | h | h
  · exact ⟨_, List.mem_of_getElem? (i := 0) rfl, Or.inl ⟨t, ht, rfl, h.1, h.2⟩⟩
  · subst h; exact ⟨_, List.mem_of_getElem? (i := 1) rfl, ht, rfl⟩
  · subst h; exact ⟨_, List.mem_of_getElem? (i := 2) rfl, ht, rfl⟩
  · subst h; exact ⟨_, List.mem_of_getElem? (i := 3) rfl, ht, rfl⟩
  · subst h; exact ⟨_, List.mem_of_getElem? (i := 4) rfl, ht, rfl⟩
  · subst h; exact ⟨_, List.mem_of_getElem? (i := 5) rfl, ht, rfl⟩
  · subst h; exact ⟨_, List.mem_of_getElem? (i := 6) rfl, ht, rfl⟩
  · subst h; exact ⟨_, List.mem_of_getElem? (i := 7) rfl, ht, rfl⟩
  · subst h; exact ⟨_, List.mem_of_getElem? (i := 8) rfl, ht, rfl⟩
  · subst h; exact ⟨_, List.mem_of_getElem? (i := 9) rfl, ht, rfl⟩
  · subst h; exact ⟨_, List.mem_of_getElem? (i := 10) rfl, ht, rfl⟩
  · subst h; exact ⟨_, List.mem_of_getElem? (i := 11) rfl, ht, rfl⟩
  · exact ⟨_, List.mem_of_getElem? (i := 12) rfl, Or.inl ⟨t, ht, rfl, h.1, h.2⟩⟩
def pt9 : List rV := [(vX 2147483648 4294967295), (vI 0), (vI 1), (vI 2), (vI 3), (vI 4), (vI 5), (vI 6), (vI 7), (vI 8), (vI 9), (vI 10), (vI 11), (vI 12), (vI 13), (vX 14 2147483647)]
set_option maxRecDepth 16384 in
theorem cv9 : rCvr pt9 := by
  intro y
  obtain ⟨t, ht, rfl⟩ := nI_all y
  have h : (2147483648 ≤ t ∧ t ≤ 4294967295) ∨ t = 0 ∨ t = 1 ∨ t = 2 ∨ t = 3 ∨ t = 4 ∨ t = 5 ∨ t = 6 ∨ t = 7 ∨ t = 8 ∨ t = 9 ∨ t = 10 ∨ t = 11 ∨ t = 12 ∨ t = 13 ∨ (14 ≤ t ∧ t ≤ 2147483647) := by omega
  rcases h with h | h | h | h | h | h | h | h | h | h | h | h | h | h | h | h
  · exact ⟨_, List.mem_of_getElem? (i := 0) rfl, Or.inl ⟨t, ht, rfl, h.1, h.2⟩⟩
  · subst h; exact ⟨_, List.mem_of_getElem? (i := 1) rfl, ht, rfl⟩
  · subst h; exact ⟨_, List.mem_of_getElem? (i := 2) rfl, ht, rfl⟩
  · subst h; exact ⟨_, List.mem_of_getElem? (i := 3) rfl, ht, rfl⟩
  · subst h; exact ⟨_, List.mem_of_getElem? (i := 4) rfl, ht, rfl⟩
  · subst h; exact ⟨_, List.mem_of_getElem? (i := 5) rfl, ht, rfl⟩
  · subst h; exact ⟨_, List.mem_of_getElem? (i := 6) rfl, ht, rfl⟩
  · subst h; exact ⟨_, List.mem_of_getElem? (i := 7) rfl, ht, rfl⟩
  · subst h; exact ⟨_, List.mem_of_getElem? (i := 8) rfl, ht, rfl⟩
  · subst h; exact ⟨_, List.mem_of_getElem? (i := 9) rfl, ht, rfl⟩
  · subst h; exact ⟨_, List.mem_of_getElem? (i := 10) rfl, ht, rfl⟩
  · subst h; exact ⟨_, List.mem_of_getElem? (i := 11) rfl, ht, rfl⟩
  · subst h; exact ⟨_, List.mem_of_getElem? (i := 12) rfl, ht, rfl⟩
  · subst h; exact ⟨_, List.mem_of_getElem? (i := 13) rfl, ht, rfl⟩
  · subst h; exact ⟨_, List.mem_of_getElem? (i := 14) rfl, ht, rfl⟩
  · exact ⟨_, List.mem_of_getElem? (i := 15) rfl, Or.inl ⟨t, ht, rfl, h.1, h.2⟩⟩
def pt10 : List rV := [(vX 2147483648 4294967295), (vX 0 2147483647)]
set_option maxRecDepth 16384 in
theorem cv10 : rCvr pt10 := by
  intro y
  obtain ⟨t, ht, rfl⟩ := nI_all y
  have h : (2147483648 ≤ t ∧ t ≤ 4294967295) ∨ (0 ≤ t ∧ t ≤ 2147483647) := by omega
  rcases h with h | h
  · exact ⟨_, List.mem_of_getElem? (i := 0) rfl, Or.inl ⟨t, ht, rfl, h.1, h.2⟩⟩
  · exact ⟨_, List.mem_of_getElem? (i := 1) rfl, Or.inl ⟨t, ht, rfl, h.1, h.2⟩⟩
def pt11 : List rV := [(vX 2147483648 4294967294), (vI 4294967295), (vX 0 2147483647)]
set_option maxRecDepth 16384 in
theorem cv11 : rCvr pt11 := by
  intro y
  obtain ⟨t, ht, rfl⟩ := nI_all y
  have h : (2147483648 ≤ t ∧ t ≤ 4294967294) ∨ t = 4294967295 ∨ (0 ≤ t ∧ t ≤ 2147483647) := by omega
  rcases h with h | h | h
  · exact ⟨_, List.mem_of_getElem? (i := 0) rfl, Or.inl ⟨t, ht, rfl, h.1, h.2⟩⟩
  · subst h; exact ⟨_, List.mem_of_getElem? (i := 1) rfl, ht, rfl⟩
  · exact ⟨_, List.mem_of_getElem? (i := 2) rfl, Or.inl ⟨t, ht, rfl, h.1, h.2⟩⟩
def pt12 : List rV := [(vX 2147483648 4294967295), (vI 0), (vI 1), (vI 2), (vI 3), (vI 4), (vI 5), (vI 6), (vX 7 2147483647)]
set_option maxRecDepth 16384 in
theorem cv12 : rCvr pt12 := by
  intro y
  obtain ⟨t, ht, rfl⟩ := nI_all y
  have h : (2147483648 ≤ t ∧ t ≤ 4294967295) ∨ t = 0 ∨ t = 1 ∨ t = 2 ∨ t = 3 ∨ t = 4 ∨ t = 5 ∨ t = 6 ∨ (7 ≤ t ∧ t ≤ 2147483647) := by omega
  rcases h with h | h | h | h | h | h | h | h | h
  · exact ⟨_, List.mem_of_getElem? (i := 0) rfl, Or.inl ⟨t, ht, rfl, h.1, h.2⟩⟩
  · subst h; exact ⟨_, List.mem_of_getElem? (i := 1) rfl, ht, rfl⟩
  · subst h; exact ⟨_, List.mem_of_getElem? (i := 2) rfl, ht, rfl⟩
  · subst h; exact ⟨_, List.mem_of_getElem? (i := 3) rfl, ht, rfl⟩
  · subst h; exact ⟨_, List.mem_of_getElem? (i := 4) rfl, ht, rfl⟩
  · subst h; exact ⟨_, List.mem_of_getElem? (i := 5) rfl, ht, rfl⟩
  · subst h; exact ⟨_, List.mem_of_getElem? (i := 6) rfl, ht, rfl⟩
  · subst h; exact ⟨_, List.mem_of_getElem? (i := 7) rfl, ht, rfl⟩
  · exact ⟨_, List.mem_of_getElem? (i := 8) rfl, Or.inl ⟨t, ht, rfl, h.1, h.2⟩⟩
def pt13 : List rV := [(vX 2147483648 4294967295), (vI 0), (vI 1), (vI 2), (vI 3), (vI 4), (vI 5), (vI 6), (vI 7), (vI 8), (vI 9), (vX 10 2147483647)]
set_option maxRecDepth 16384 in
theorem cv13 : rCvr pt13 := by
  intro y
  obtain ⟨t, ht, rfl⟩ := nI_all y
  have h : (2147483648 ≤ t ∧ t ≤ 4294967295) ∨ t = 0 ∨ t = 1 ∨ t = 2 ∨ t = 3 ∨ t = 4 ∨ t = 5 ∨ t = 6 ∨ t = 7 ∨ t = 8 ∨ t = 9 ∨ (10 ≤ t ∧ t ≤ 2147483647) := by omega
  rcases h with h | h | h | h | h | h | h | h | h | h | h | h
  · exact ⟨_, List.mem_of_getElem? (i := 0) rfl, Or.inl ⟨t, ht, rfl, h.1, h.2⟩⟩
  · subst h; exact ⟨_, List.mem_of_getElem? (i := 1) rfl, ht, rfl⟩
  · subst h; exact ⟨_, List.mem_of_getElem? (i := 2) rfl, ht, rfl⟩
  · subst h; exact ⟨_, List.mem_of_getElem? (i := 3) rfl, ht, rfl⟩
  · subst h; exact ⟨_, List.mem_of_getElem? (i := 4) rfl, ht, rfl⟩
  · subst h; exact ⟨_, List.mem_of_getElem? (i := 5) rfl, ht, rfl⟩
  · subst h; exact ⟨_, List.mem_of_getElem? (i := 6) rfl, ht, rfl⟩
  · subst h; exact ⟨_, List.mem_of_getElem? (i := 7) rfl, ht, rfl⟩
  · subst h; exact ⟨_, List.mem_of_getElem? (i := 8) rfl, ht, rfl⟩
  · subst h; exact ⟨_, List.mem_of_getElem? (i := 9) rfl, ht, rfl⟩
  · subst h; exact ⟨_, List.mem_of_getElem? (i := 10) rfl, ht, rfl⟩
  · exact ⟨_, List.mem_of_getElem? (i := 11) rfl, Or.inl ⟨t, ht, rfl, h.1, h.2⟩⟩
