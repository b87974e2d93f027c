-- ===== ints and longs as numbers =====
theorem nI_bv (n : Nat) : (nI n).toBitVec = BitVec.ofNat 32 n := rfl
theorem nI_bvn {n : Nat} (h : n < 4294967296) : (nI n).toBitVec.toNat = n := by
  rw [nI_bv, BitVec.toNat_ofNat]; exact Nat.mod_eq_of_lt h
theorem nI_mod (n : Nat) : nI (n % 4294967296) = nI n := by
  apply Int32.toBitVec_inj.mp
  rw [nI_bv, nI_bv]
  apply BitVec.eq_of_toNat_eq
  rw [BitVec.toNat_ofNat, BitVec.toNat_ofNat]
  exact Nat.mod_mod _ _
theorem nI_all (x : Int32) : ∃ n, n < 4294967296 ∧ x = nI n := ⟨x.toBitVec.toNat, x.toBitVec.isLt, by
  apply Int32.toBitVec_inj.mp
  rw [nI_bv]
  apply BitVec.eq_of_toNat_eq
  rw [BitVec.toNat_ofNat]
  exact (Nat.mod_eq_of_lt x.toBitVec.isLt).symm⟩
theorem nI_ti {n : Nat} (h : n < 4294967296) : (nI n).toInt = if n < 2147483648 then (n : Int) else (n : Int) - 4294967296 := by
  show (nI n).toBitVec.toInt = _
  rw [BitVec.toInt_eq_toNat_cond, nI_bvn h]
  by_cases hh : n < 2147483648
  · rw [if_pos hh, if_pos (by omega)]
  · rw [if_neg hh, if_neg (by omega)]; omega
theorem nI_inj {a b : Nat} (ha : a < 4294967296) (hb : b < 4294967296) : nI a = nI b ↔ a = b := by
  refine ⟨fun h => ?_, fun h => by rw [h]⟩
  have := congrArg (fun z : Int32 => z.toBitVec.toNat) h
  simp only [nI_bvn ha, nI_bvn hb] at this
  exact this
theorem m_add (x y : Nat) : nI x + nI y = nI (fAdd x y) := by
  rw [nI_add]; exact (nI_mod _).symm
theorem m_mul (x y : Nat) : nI x * nI y = nI (fMul x y) := by
  rw [pk_mul]; exact (nI_mod _).symm
theorem m_sub {x y : Nat} (hx : x < 4294967296) (hy : y < 4294967296) : nI x - nI y = nI (fSub x y) := by
  apply Int32.toBitVec_inj.mp
  rw [Int32.toBitVec_sub]
  apply BitVec.eq_of_toNat_eq
  rw [BitVec.toNat_sub, nI_bvn hx, nI_bvn hy]
  show _ = (nI ((x + (4294967296 - y)) % 4294967296)).toBitVec.toNat
  rw [nI_bvn (Nat.mod_lt _ (by decide)), Nat.add_comm x]
theorem m_and {x y : Nat} : nI x &&& nI y = nI (fAnd x y) := by
  apply Int32.toBitVec_inj.mp
  rw [Int32.toBitVec_and]
  apply BitVec.eq_of_toNat_eq
  show (BitVec.ofNat 32 x &&& BitVec.ofNat 32 y).toNat = (BitVec.ofNat 32 (x &&& y)).toNat
  rw [BitVec.toNat_and, BitVec.toNat_ofNat, BitVec.toNat_ofNat, BitVec.toNat_ofNat, Nat.and_mod_two_pow]
theorem m_or {x y : Nat} : nI x ||| nI y = nI (fOr x y) := by
  apply Int32.toBitVec_inj.mp
  rw [Int32.toBitVec_or]
  apply BitVec.eq_of_toNat_eq
  show (BitVec.ofNat 32 x ||| BitVec.ofNat 32 y).toNat = (BitVec.ofNat 32 (x ||| y)).toNat
  rw [BitVec.toNat_or, BitVec.toNat_ofNat, BitVec.toNat_ofNat, BitVec.toNat_ofNat, Nat.or_mod_two_pow]
theorem m_and_lt {x y : Nat} (hx : x < 4294967296) : fAnd x y < 4294967296 := Nat.lt_of_le_of_lt Nat.and_le_left hx
theorem m_or_lt {x y : Nat} (hx : x < 4294967296) (hy : y < 4294967296) : fOr x y < 4294967296 := Nat.or_lt_two_pow (n := 32) hx hy
theorem m_31 {y : Nat} (hy : y < 4294967296) : nI y &&& 31 = nI (y % 32) := by
  have h := pk_andN (n := y) hy (m := 31) 5 (by decide)
  exact h
theorem m_smod : ∀ j, j < 32 → ((nI j).toBitVec.smod 32).toNat = j := by decide +kernel
theorem m_shl {x y : Nat} (hx : x < 4294967296) (hy : y < 4294967296) : nI x <<< (nI y &&& 31) = nI (fShl x y) := by
  rw [m_31 hy]
  apply Int32.toBitVec_inj.mp
  apply BitVec.eq_of_toNat_eq
  rw [pk_shl _ _ (y % 32) (m_smod _ (Nat.mod_lt _ (by decide))), nI_bvn hx]
  show _ = (nI ((x <<< (y % 32)) % 4294967296)).toBitVec.toNat
  rw [nI_bvn (Nat.mod_lt _ (by decide)), Nat.shiftLeft_eq]
theorem m_shl_lt (x y : Nat) : fShl x y < 4294967296 := Nat.mod_lt _ (by decide)
theorem m_int {x y : Int32} (h : x.toInt = y.toInt) : x = y := Int32.toInt_inj.mp h
theorem m_shr {x y : Nat} (hx : x < 4294967296) (hy : y < 4294967296) : nI x >>> (nI y &&& 31) = nI (fShr x y) ∧ fShr x y < 4294967296 := by
  rw [m_31 hy]
  have hk : y % 32 < 32 := Nat.mod_lt _ (by decide)
  generalize hj : y % 32 = j at hk
  have e : (nI x >>> nI j).toInt = (nI x).toInt >>> j := pk_shr _ _ j (m_smod _ hk)
  by_cases h : x < 2147483648
  · have hf : fShr x y = x >>> j := by
      unfold fShr
      rw [show Nat.ble 2147483648 x = false from Bool.eq_false_iff.mpr (fun q => absurd (Nat.le_of_ble_eq_true q) (by omega)), show Nat.mod y 32 = j from hj]
      rfl
    have hl : x >>> j ≤ x := by rw [Nat.shiftRight_eq_div_pow]; exact Nat.div_le_self _ _
    refine ⟨m_int ?_, by rw [hf]; omega⟩
    rw [e, hf, nI_ti hx, if_pos h, nI_ti (by omega), if_pos (by omega)]
    rfl
  · have hf : fShr x y = 4294967295 - (4294967295 - x) >>> j := by
      unfold fShr
      rw [show Nat.ble 2147483648 x = true from Nat.ble_eq_true_of_le (by omega), show Nat.mod y 32 = j from hj]
      rfl
    have hl : (4294967295 - x) >>> j ≤ 4294967295 - x := by rw [Nat.shiftRight_eq_div_pow]; exact Nat.div_le_self _ _
    have e2 : ((x : Int) - 4294967296) >>> j = Int.negSucc ((4294967295 - x) >>> j) := by rw [show (x : Int) - 4294967296 = Int.negSucc (4294967295 - x) by omega]; rfl
    generalize (4294967295 - x) >>> j = z at hf hl e2
    refine ⟨m_int ?_, by rw [hf]; omega⟩
    rw [e, hf, nI_ti hx, if_neg h, nI_ti (by omega), if_neg (by omega), e2]
    omega
theorem m_ushr {x y : Nat} (hx : x < 4294967296) (hy : y < 4294967296) : ((nI x).toUInt32 >>> ((nI y).toUInt32 &&& Int32.toUInt32 31)).toInt32 = nI (fUsh x y) ∧ fUsh x y < 4294967296 := by
  have hs : (((nI y).toUInt32 &&& Int32.toUInt32 31).toBitVec % 32).toNat = y % 32 := by
    show (((BitVec.ofNat 32 y) &&& (31 : BitVec 32)) % 32).toNat = y % 32
    rw [BitVec.toNat_umod, BitVec.toNat_and, BitVec.toNat_ofNat, Nat.mod_eq_of_lt hy]
    show (y &&& (2 ^ 5 - 1)) % 32 = y % 32
    rw [Nat.and_two_pow_sub_one_eq_mod]
    exact Nat.mod_mod _ _
  have e := pk_ushr (nI x) (nI y) (y % 32) hs
  rw [nI_bvn hx] at e
  have hl : fUsh x y ≤ x := by show x >>> (y % 32) ≤ x; rw [Nat.shiftRight_eq_div_pow]; exact Nat.div_le_self _ _
  refine ⟨?_, by omega⟩
  apply Int32.toBitVec_inj.mp
  apply BitVec.eq_of_toNat_eq
  rw [e, nI_bvn (by omega)]
  show _ = x >>> (y % 32)
  rw [Nat.shiftRight_eq_div_pow]
theorem m_div {x y : Nat} (h : aDv x y = true) : ¬ nI y = 0 ∧ nI x / nI y = nI (fDiv x y) ∧ fDiv x y < 4294967296 ∧ nI x - nI x / nI y * nI y = nI (fRem x y) ∧ fRem x y < 4294967296 := by
  unfold aDv at h
  have h1 : ¬ Nat.ble y 0 = true := fun q => by rw [q] at h; cases h
  rw [Bool.eq_false_iff.mpr h1] at h
  have h2 : ¬ Nat.ble 2147483648 y = true := fun q => by rw [q] at h; cases h
  rw [Bool.eq_false_iff.mpr h2] at h
  have h3 : x ≤ 2147483647 := Nat.le_of_ble_eq_true h
  have h4 : 0 < y := Nat.not_le.mp (fun q => h1 (Nat.ble_eq_true_of_le q))
  have h5 : y < 2147483648 := Nat.not_le.mp (fun q => h2 (Nat.ble_eq_true_of_le q))
  have l1 : x / y ≤ x := Nat.div_le_self _ _
  have l2 : x % y ≤ x := Nat.mod_le _ _
  exact ⟨nI_ne0 h4 h5, pk_div (show x < 2 ^ 31 by omega) h4 h5, by show x / y < _; omega, pk_rem (show x < 2 ^ 31 by omega) h4 h5, by show x % y < _; omega⟩
theorem xr_lo {k x : Nat} (h : x < 2 ^ k) : x ^^^ 2 ^ k = 2 ^ k + x := by
  have e : 2 ^ k + x = 2 ^ k ||| x := by
    have := Nat.two_pow_add_eq_or_of_lt h 1
    rw [Nat.mul_one] at this
    exact this
  rw [e]
  apply Nat.eq_of_testBit_eq
  intro i
  rw [Nat.testBit_xor, Nat.testBit_or, Nat.testBit_two_pow]
  by_cases c : k = i
  · subst c
    rw [Nat.testBit_lt_two_pow h]; simp
  · rw [decide_eq_false c]; simp
theorem xr_hi {k x : Nat} (h : 2 ^ k ≤ x) (h2 : x < 2 ^ (k + 1)) : x ^^^ 2 ^ k = x - 2 ^ k := by
  have h3 : x - 2 ^ k < 2 ^ k := by rw [Nat.pow_succ] at h2; omega
  have e := xr_lo h3
  rw [show 2 ^ k + (x - 2 ^ k) = x by omega] at e
  rw [← e, Nat.xor_assoc, Nat.xor_self, Nat.xor_zero]
  rw [e]
theorem m_sI {a : Nat} (h : a < 4294967296) : sI a = if a < 2147483648 then a + 2147483648 else a - 2147483648 := by
  by_cases c : a < 2147483648
  · rw [if_pos c, Nat.add_comm]; exact xr_lo (k := 31) c
  · rw [if_neg c]; exact xr_hi (k := 31) (by omega) h
theorem m_sL {a : Nat} (h : a < 18446744073709551616) : sL a = if a < 9223372036854775808 then a + 9223372036854775808 else a - 9223372036854775808 := by
  by_cases c : a < 9223372036854775808
  · rw [if_pos c, Nat.add_comm]; exact xr_lo (k := 63) c
  · rw [if_neg c]; exact xr_hi (k := 63) (by omega) h
theorem m_lt {x y : Nat} (hx : x < 4294967296) (hy : y < 4294967296) : nI x < nI y ↔ sI x < sI y := by
  rw [Int32.lt_iff_toInt_lt, nI_ti hx, nI_ti hy, m_sI hx, m_sI hy]
  split <;> split <;> omega
theorem m_le {x y : Nat} (hx : x < 4294967296) (hy : y < 4294967296) : nI x ≤ nI y ↔ sI x ≤ sI y := by
  rw [Int32.le_iff_toInt_le, nI_ti hx, nI_ti hy, m_sI hx, m_sI hy]
  split <;> split <;> omega
theorem m_sI_mono {x y : Nat} (h : x ≤ y) (hy : y < 4294967296) (hs : y < 2147483648 ∨ 2147483648 ≤ x) : sI x ≤ sI y := by
  rw [m_sI (by omega), m_sI hy]
  split <;> split <;> omega
-- longs
theorem lN_mod (n : Nat) : lN (n % 18446744073709551616) = lN n := by
  apply Int64.toBitVec_inj.mp
  show BitVec.ofNat 64 (n % 18446744073709551616) = BitVec.ofNat 64 n
  apply BitVec.eq_of_toNat_eq
  rw [BitVec.toNat_ofNat, BitVec.toNat_ofNat]
  exact Nat.mod_mod _ _
theorem lN_bvn {n : Nat} (h : n < 18446744073709551616) : (lN n).toBitVec.toNat = n := by
  show (BitVec.ofNat 64 n).toNat = n
  rw [BitVec.toNat_ofNat]; exact Nat.mod_eq_of_lt h
theorem lN_ti9 {n : Nat} (h : n < 18446744073709551616) : (lN n).toInt = if n < 9223372036854775808 then (n : Int) else (n : Int) - 18446744073709551616 := by
  show (lN n).toBitVec.toInt = _
  rw [BitVec.toInt_eq_toNat_cond, lN_bvn h]
  by_cases hh : n < 9223372036854775808
  · rw [if_pos hh, if_pos (by omega)]
  · rw [if_neg hh, if_neg (by omega)]; omega
theorem lN_inj9 {a b : Nat} (ha : a < 18446744073709551616) (hb : b < 18446744073709551616) : lN a = lN b ↔ a = b := by
  refine ⟨fun h => ?_, fun h => by rw [h]⟩
  have := congrArg (fun z : Int64 => z.toBitVec.toNat) h
  simp only [lN_bvn ha, lN_bvn hb] at this
  exact this
theorem ml_add (x y : Nat) : lN x + lN y = lN (fLadd x y) := by
  rw [lN_add]; exact (lN_mod _).symm
theorem ml_mul (x y : Nat) : lN x * lN y = lN (fLmul x y) := by
  rw [lN_mul]; exact (lN_mod _).symm
theorem ml_and {x y : Nat} : lN x &&& lN y = lN (fAnd x y) := by
  apply Int64.toBitVec_inj.mp
  rw [Int64.toBitVec_and]
  apply BitVec.eq_of_toNat_eq
  show (BitVec.ofNat 64 x &&& BitVec.ofNat 64 y).toNat = (BitVec.ofNat 64 (x &&& y)).toNat
  rw [BitVec.toNat_and, BitVec.toNat_ofNat, BitVec.toNat_ofNat, BitVec.toNat_ofNat, Nat.and_mod_two_pow]
theorem ml_or {x y : Nat} : lN x ||| lN y = lN (fOr x y) := by
  apply Int64.toBitVec_inj.mp
  rw [Int64.toBitVec_or]
  apply BitVec.eq_of_toNat_eq
  show (BitVec.ofNat 64 x ||| BitVec.ofNat 64 y).toNat = (BitVec.ofNat 64 (x ||| y)).toNat
  rw [BitVec.toNat_or, BitVec.toNat_ofNat, BitVec.toNat_ofNat, BitVec.toNat_ofNat, Nat.or_mod_two_pow]
theorem ml_int {x y : Int64} (h : x.toInt = y.toInt) : x = y := Int64.toInt_inj.mp h
theorem ml_div {x y : Nat} (h : aDl x y = true) : ¬ lN y = 0 ∧ lN x / lN y = lN (fDiv x y) ∧ fDiv x y < 18446744073709551616 ∧ lN x - lN x / lN y * lN y = lN (fRem x y) ∧ fRem x y < 18446744073709551616 := by
  unfold aDl at h
  have h1 : ¬ Nat.ble y 0 = true := fun q => by rw [q] at h; cases h
  rw [Bool.eq_false_iff.mpr h1] at h
  have h2 : ¬ Nat.ble 9223372036854775808 y = true := fun q => by rw [q] at h; cases h
  rw [Bool.eq_false_iff.mpr h2] at h
  have h3 : x ≤ 9223372036854775807 := Nat.le_of_ble_eq_true h
  have h4 : 0 < y := Nat.not_le.mp (fun q => h1 (Nat.ble_eq_true_of_le q))
  have h5 : y < 9223372036854775808 := Nat.not_le.mp (fun q => h2 (Nat.ble_eq_true_of_le q))
  have l1 : x / y ≤ x := Nat.div_le_self _ _
  have l2 : x % y ≤ x := Nat.mod_le _ _
  refine ⟨fun q => ?_, pk_lDiv (show x < 2 ^ 63 by omega) h4 h5, by show x / y < _; omega, pk_lRem (show x < 2 ^ 63 by omega) h4 h5, by show x % y < _; omega⟩
  have := (lN_inj9 (a := y) (b := 0) (by omega) (by decide)).mp q
  omega
theorem m_i2l {x : Nat} (hx : x < 4294967296) : (nI x).toInt64 = lN (fI2l x) ∧ fI2l x < 18446744073709551616 := by
  by_cases h : x < 2147483648
  · have hf : fI2l x = x := by
      unfold fI2l
      rw [show Nat.ble 2147483648 x = false from Bool.eq_false_iff.mpr (fun q => absurd (Nat.le_of_ble_eq_true q) (by omega))]
    rw [hf]
    exact ⟨nI_l h, by omega⟩
  · have hf : fI2l x = x + 18446744069414584320 := by
      unfold fI2l
      rw [show Nat.ble 2147483648 x = true from Nat.ble_eq_true_of_le (by omega)]
    rw [hf]
    refine ⟨ml_int ?_, by omega⟩
    rw [Int32.toInt_toInt64, nI_ti hx, if_neg h, lN_ti9 (by omega), if_neg (by omega)]
    omega
theorem m_l2i (x : Nat) : (lN x).toInt32 = nI (Nat.mod x 4294967296) := by
  rw [lN_i]; exact (nI_mod _).symm
theorem m_lcmp_lt {x y : Nat} (hx : x < 18446744073709551616) (hy : y < 18446744073709551616) : lN x < lN y ↔ sL x < sL y := by
  rw [Int64.lt_iff_toInt_lt, lN_ti9 hx, lN_ti9 hy, m_sL hx, m_sL hy]
  split <;> split <;> omega
theorem m_63 {y : Nat} (hy : y < 4294967296) : (nI y).toInt64 &&& 63 = lN (y % 64) := by
  obtain ⟨e, hl⟩ := m_i2l hy
  rw [e, show (63 : Int64) = lN 63 from rfl, ml_and]
  congr 1
  show fI2l y &&& (2 ^ 6 - 1) = y % 64
  rw [Nat.and_two_pow_sub_one_eq_mod]
  unfold fI2l
  cases Nat.ble 2147483648 y
  · rfl
  · show (y + 18446744069414584320) % 64 = y % 64
    omega
theorem m_smodL : ∀ j, j < 64 → ((lN j).toBitVec.smod 64).toNat = j := by decide +kernel
theorem ml_shl {x y : Nat} (hx : x < 18446744073709551616) (hy : y < 4294967296) : lN x <<< ((nI y).toInt64 &&& 63) = lN (fLshl x y) ∧ fLshl x y < 18446744073709551616 := by
  rw [m_63 hy]
  refine ⟨?_, Nat.mod_lt _ (by decide)⟩
  apply Int64.toBitVec_inj.mp
  apply BitVec.eq_of_toNat_eq
  show ((lN x).toBitVec <<< ((lN (y % 64)).toBitVec.smod 64).toNat).toNat = (lN ((x <<< (y % 64)) % 18446744073709551616)).toBitVec.toNat
  rw [m_smodL _ (Nat.mod_lt _ (by decide)), BitVec.toNat_shiftLeft, lN_bvn hx, lN_bvn (Nat.mod_lt _ (by decide))]
theorem ml_shr {x y : Nat} (hx : x < 18446744073709551616) (hy : y < 4294967296) : lN x >>> ((nI y).toInt64 &&& 63) = lN (fLshr x y) ∧ fLshr x y < 18446744073709551616 := by
  rw [m_63 hy]
  have hk : y % 64 < 64 := Nat.mod_lt _ (by decide)
  generalize hj : y % 64 = j at hk
  have e : (lN x >>> lN j).toInt = (lN x).toInt >>> j := by
    show ((lN x).toBitVec.sshiftRight ((lN j).toBitVec.smod 64).toNat).toInt = _
    rw [m_smodL _ hk, BitVec.toInt_sshiftRight]
    rfl
  by_cases h : x < 9223372036854775808
  · have hf : fLshr x y = x >>> j := by
      unfold fLshr
      rw [show Nat.ble 9223372036854775808 x = false from Bool.eq_false_iff.mpr (fun q => absurd (Nat.le_of_ble_eq_true q) (by omega)), show Nat.mod y 64 = j from hj]
      rfl
    have hl : x >>> j ≤ x := by rw [Nat.shiftRight_eq_div_pow]; exact Nat.div_le_self _ _
    refine ⟨ml_int ?_, by rw [hf]; omega⟩
    rw [e, hf, lN_ti9 hx, if_pos h, lN_ti9 (by omega), if_pos (by omega)]
    rfl
  · have hf : fLshr x y = 18446744073709551615 - (18446744073709551615 - x) >>> j := by
      unfold fLshr
      rw [show Nat.ble 9223372036854775808 x = true from Nat.ble_eq_true_of_le (by omega), show Nat.mod y 64 = j from hj]
      rfl
    have hl : (18446744073709551615 - x) >>> j ≤ 18446744073709551615 - x := by rw [Nat.shiftRight_eq_div_pow]; exact Nat.div_le_self _ _
    have e2 : ((x : Int) - 18446744073709551616) >>> j = Int.negSucc ((18446744073709551615 - x) >>> j) := by rw [show (x : Int) - 18446744073709551616 = Int.negSucc (18446744073709551615 - x) by omega]; rfl
    generalize (18446744073709551615 - x) >>> j = z at hf hl e2
    refine ⟨ml_int ?_, by rw [hf]; omega⟩
    rw [e, hf, lN_ti9 hx, if_neg h, lN_ti9 (by omega), if_neg (by omega), e2]
    omega
theorem ml_ush {x y : Nat} (hx : x < 18446744073709551616) (hy : y < 4294967296) : ((lN x).toUInt64 >>> ((nI y).toInt64.toUInt64 &&& Int64.toUInt64 63)).toInt64 = lN (fLush x y) ∧ fLush x y < 18446744073709551616 := by
  have hl : fLush x y ≤ x := by show x >>> (y % 64) ≤ x; rw [Nat.shiftRight_eq_div_pow]; exact Nat.div_le_self _ _
  refine ⟨?_, by omega⟩
  have h63 : ((nI y).toInt64 &&& 63).toBitVec.toNat = y % 64 := by rw [m_63 hy, lN_bvn (by omega)]
  have hs : (((nI y).toInt64.toUInt64 &&& Int64.toUInt64 63).toBitVec % 64).toNat = y % 64 := by
    show (((nI y).toInt64 &&& 63).toBitVec % 64).toNat = y % 64
    rw [BitVec.toNat_umod, h63]
    exact Nat.mod_mod _ _
  have e : ((lN x).toUInt64 >>> ((nI y).toInt64.toUInt64 &&& Int64.toUInt64 63)).toInt64.toBitVec = (lN x).toBitVec >>> (y % 64) := by
    rw [← hs]
    exact UInt64.toBitVec_shiftRight _ _
  apply Int64.toBitVec_inj.mp
  apply BitVec.eq_of_toNat_eq
  rw [e, BitVec.toNat_ushiftRight, lN_bvn hx, lN_bvn (by omega)]
  rfl
theorem ml_cmp {x y : Nat} (hx : x < 18446744073709551616) (hy : y < 18446744073709551616) : lg_cmp (lN x) (lN y) = nI (fLcmp x y) ∧ fLcmp x y < 4294967296 := by
  have q1 := m_lcmp_lt hy hx
  have q2 := lN_inj9 hx hy
  have u1 := m_sL hx
  have u2 := m_sL hy
  unfold lg_cmp fLcmp
  by_cases c1 : x = y
  · have hb : Nat.beq x y = true := by subst c1; exact Nat.beq_refl x
    rw [hb, if_neg (fun h => absurd (q1.mp h) (by subst c1; omega)), if_pos (q2.mpr c1)]
    exact ⟨rfl, (by decide : 0 < 4294967296)⟩
  · have hb : Nat.beq x y = false := Bool.eq_false_iff.mpr (fun h => c1 (Nat.eq_of_beq_eq_true h))
    rw [hb]
    by_cases c2 : sL y < sL x
    · rw [if_pos (q1.mpr c2), show Nat.ble (sL y) (sL x) = true from Nat.ble_eq_true_of_le (by omega)]
      exact ⟨rfl, by decide⟩
    · have hne : sL x ≠ sL y := by
        rw [u1, u2]
        split <;> split <;> omega
      rw [if_neg (fun h => c2 (q1.mp h)), if_neg (fun h => c1 (q2.mp h)), show Nat.ble (sL y) (sL x) = false from Bool.eq_false_iff.mpr (fun h => absurd (Nat.le_of_ble_eq_true h) (by omega))]
      exact ⟨rfl, by decide⟩
