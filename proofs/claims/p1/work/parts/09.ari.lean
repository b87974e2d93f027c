-- ===== the numbers' operations, one by one =====
section ARI
variable {M : rM} {pc : Nat}
theorem q_iadd : rB2 M .iadd pc (fun _ _ => True) (fun x y => x + y) := fun h1 h2 h3 _ k => lv_iadd h1 h2 h3 k
theorem q_isub : rB2 M .isub pc (fun _ _ => True) (fun x y => x - y) := fun h1 h2 h3 _ k => lv_isub h1 h2 h3 k
theorem q_imul : rB2 M .imul pc (fun _ _ => True) (fun x y => x * y) := fun h1 h2 h3 _ k => lv_imul h1 h2 h3 k
theorem q_iand : rB2 M .iand pc (fun _ _ => True) (fun x y => x &&& y) := fun h1 h2 h3 _ k => lv_iand h1 h2 h3 k
theorem q_ior : rB2 M .ior pc (fun _ _ => True) (fun x y => x ||| y) := fun h1 h2 h3 _ k => lv_ior h1 h2 h3 k
theorem q_ishl : rB2 M .ishl pc (fun _ _ => True) (fun x y => x <<< (y &&& 31)) := fun h1 h2 h3 _ k => lv_ishl h1 h2 h3 k
theorem q_ishr : rB2 M .ishr pc (fun _ _ => True) (fun x y => x >>> (y &&& 31)) := fun h1 h2 h3 _ k => lv_ishr h1 h2 h3 k
theorem q_iushr : rB2 M .iushr pc (fun _ _ => True) (fun x y => (x.toUInt32 >>> (y.toUInt32 &&& Int32.toUInt32 31)).toInt32) := fun h1 h2 h3 _ k => lv_iushr h1 h2 h3 rfl k
theorem q_idiv : rB2 M .idiv pc (fun _ y => ¬ y = 0) (fun x y => x / y) := fun h1 h2 h3 h4 k => lv_idiv h1 h2 h3 h4 k
theorem q_irem : rB2 M .irem pc (fun _ y => ¬ y = 0) (fun x y => x - x / y * y) := fun h1 h2 h3 h4 k => lv_irem h1 h2 h3 h4 k
theorem q_ladd : rL2 M .ladd pc (fun _ _ => True) (fun x y => x + y) := fun h1 h2 h3 _ k => lv_ladd h1 h2 h3 k
theorem q_lmul : rL2 M .lmul pc (fun _ _ => True) (fun x y => x * y) := fun h1 h2 h3 _ k => lv_lmul h1 h2 h3 k
theorem q_land : rL2 M .land pc (fun _ _ => True) (fun x y => x &&& y) := fun h1 h2 h3 _ k => lv_land h1 h2 h3 k
theorem q_lor : rL2 M .lor pc (fun _ _ => True) (fun x y => x ||| y) := fun h1 h2 h3 _ k => lv_lor h1 h2 h3 k
theorem q_ldiv : rL2 M .ldiv pc (fun _ y => ¬ y = 0) (fun x y => x / y) := fun h1 h2 h3 h4 k => lv_ldiv h1 h2 h3 h4 k
theorem q_lrem : rL2 M .lrem pc (fun _ y => ¬ y = 0) (fun x y => x - x / y * y) := fun h1 h2 h3 h4 k => lv_lrem h1 h2 h3 h4 k
theorem q_lshl : rLS M .lshl pc (fun x y => x <<< (y.toInt64 &&& 63)) := fun h1 h2 h3 k => lv_lshl h1 h2 h3 rfl k
theorem q_lshr : rLS M .lshr pc (fun x y => x >>> (y.toInt64 &&& 63)) := fun h1 h2 h3 k => lv_lshr h1 h2 h3 rfl k
theorem q_lushr : rLS M .lushr pc (fun x y => (x.toUInt64 >>> (y.toInt64.toUInt64 &&& Int64.toUInt64 63)).toInt64) := fun h1 h2 h3 k => lv_lushr h1 h2 h3 rfl k
theorem n_add : rF2 fAdd (fun _ _ => True) (fun _ _ => true) (fun x y => x + y) := fun x y _ _ _ => ⟨trivial, m_add x y, Nat.mod_lt _ (by decide)⟩
theorem n_sub : rF2 fSub (fun _ _ => True) (fun _ _ => true) (fun x y => x - y) := fun x y hx hy _ => ⟨trivial, m_sub hx hy, Nat.mod_lt _ (by decide)⟩
theorem n_mul : rF2 fMul (fun _ _ => True) (fun _ _ => true) (fun x y => x * y) := fun x y _ _ _ => ⟨trivial, m_mul x y, Nat.mod_lt _ (by decide)⟩
theorem n_and : rF2 fAnd (fun _ _ => True) (fun _ _ => true) (fun x y => x &&& y) := fun x y hx hy _ => ⟨trivial, m_and, m_and_lt hx⟩
theorem n_or : rF2 fOr (fun _ _ => True) (fun _ _ => true) (fun x y => x ||| y) := fun x y hx hy _ => ⟨trivial, m_or, m_or_lt hx hy⟩
theorem n_shl : rF2 fShl (fun _ _ => True) (fun _ _ => true) (fun x y => x <<< (y &&& 31)) := fun x y hx hy _ => ⟨trivial, m_shl hx hy, m_shl_lt x y⟩
theorem n_shr : rF2 fShr (fun _ _ => True) (fun _ _ => true) (fun x y => x >>> (y &&& 31)) := fun x y hx hy _ => ⟨trivial, m_shr hx hy⟩
theorem n_ush : rF2 fUsh (fun _ _ => True) (fun _ _ => true) (fun x y => (x.toUInt32 >>> (y.toUInt32 &&& Int32.toUInt32 31)).toInt32) := fun x y hx hy _ => ⟨trivial, m_ushr hx hy⟩
theorem n_div : rF2 fDiv (fun _ y => ¬ y = 0) aDv (fun x y => x / y) := fun x y _ _ h => ⟨(m_div h).1, (m_div h).2.1, (m_div h).2.2.1⟩
theorem n_rem : rF2 fRem (fun _ y => ¬ y = 0) aDv (fun x y => x - x / y * y) := fun x y _ _ h => ⟨(m_div h).1, (m_div h).2.2.2.1, (m_div h).2.2.2.2⟩
theorem rVi.ivl {p q : Nat} {z : Int32} (h : rVi (vX p q) z) (hq : q < 4294967296) : ∃ t, t < 4294967296 ∧ z = nI t ∧ p ≤ t ∧ t ≤ q := by
  rcases h with ⟨t, h1, e2, h3, h4⟩ | ⟨h5, -⟩
  · exact ⟨t, h1, e2, h3, h4⟩
  · omega
theorem gIv_i {p q m : Nat} {k : Option rV} {v : rV} (h : gIv p q m k = some v) : p ≤ q ∧ q ≤ m ∧ k = some v := by
  unfold gIv at h
  obtain ⟨h1, h⟩ := iBt h
  obtain ⟨h2, h⟩ := iBt h
  exact ⟨bl h1, bl h2, h⟩
theorem gMk_i {p q t : Nat} {v : rV} (h : gMk p q = some v) (h1 : p ≤ t) (h2 : t ≤ q) (ht : t < 4294967296) : rVi v (nI t) := by
  unfold gMk at h
  rcases iB h with ⟨hq, h⟩ | ⟨-, h⟩
  · have e := bq hq
    cases h
    obtain rfl : t = p := by omega
    exact ⟨ht, rfl⟩
  · cases h
    exact Or.inl ⟨t, ht, rfl, h1, h2⟩
theorem e_add : rE2 gAdd (fun _ _ => True) (fun x y => x + y) := by
  intro x p q z v hx h
  unfold gAdd at h
  obtain ⟨h1, h2, h⟩ := gIv_i h
  obtain ⟨h3, h⟩ := iBt h
  have h4 : x + q ≤ 2147483647 := bl h3
  cases h
  refine ⟨by omega, fun hz => ⟨trivial, ?_⟩⟩
  obtain ⟨t, t1, rfl, t2, t3⟩ := hz.ivl (by omega)
  show rVi (vX (x + p) (x + q)) (nI x + nI t)
  rw [m_add]
  have e : fAdd x t = x + t := Nat.mod_eq_of_lt (show x + t < 4294967296 by omega)
  rw [e]
  exact Or.inl ⟨x + t, by omega, rfl, by omega, by omega⟩
theorem sh_mono {a b k : Nat} (h : a ≤ b) : a >>> k ≤ b >>> k := by
  rw [Nat.shiftRight_eq_div_pow, Nat.shiftRight_eq_div_pow]; exact Nat.div_le_div_right h
theorem sh_le {a k : Nat} : a >>> k ≤ a := by
  rw [Nat.shiftRight_eq_div_pow]; exact Nat.div_le_self _ _
theorem g_ush : rG2 gShr (fun _ _ => True) (fun x y => (x.toUInt32 >>> (y.toUInt32 &&& Int32.toUInt32 31)).toInt32) := by
  intro p q y z v hy h
  unfold gShr at h
  obtain ⟨h1, h2, h⟩ := gIv_i h
  refine ⟨by omega, fun hz => ⟨trivial, ?_⟩⟩
  obtain ⟨t, t1, rfl, t2, t3⟩ := hz.ivl (by omega)
  obtain ⟨m1, m2⟩ := m_ushr t1 hy
  have := gMk_i h (sh_mono t2) (sh_mono t3) m2
  exact (congrArg (rVi v) m1).mpr this
theorem g_shr : rG2 gShr (fun _ _ => True) (fun x y => x >>> (y &&& 31)) := by
  intro p q y z v hy h
  unfold gShr at h
  obtain ⟨h1, h2, h⟩ := gIv_i h
  refine ⟨by omega, fun hz => ⟨trivial, ?_⟩⟩
  obtain ⟨t, t1, rfl, t2, t3⟩ := hz.ivl (by omega)
  obtain ⟨m1, m2⟩ := m_shr t1 hy
  have e : fShr t y = t >>> (y % 32) := by
    unfold fShr
    rw [show Nat.ble 2147483648 t = false from Bool.eq_false_iff.mpr (fun q => absurd (Nat.le_of_ble_eq_true q) (by omega))]
    rfl
  rw [e] at m1 m2
  have := gMk_i h (sh_mono t2) (sh_mono t3) m2
  exact (congrArg (rVi v) m1).mpr this
theorem g_div : rG2 gDiv (fun _ y => ¬ y = 0) (fun x y => x / y) := by
  intro p q y z v hy h
  unfold gDiv at h
  obtain ⟨h0, h⟩ := iBf h
  obtain ⟨h0', h⟩ := iBt h
  obtain ⟨h1, h2, h⟩ := gIv_i h
  have y0 := blf h0
  have y1 := bl h0'
  refine ⟨by omega, fun hz => ?_⟩
  obtain ⟨t, t1, rfl, t2, t3⟩ := hz.ivl (by omega)
  have hd : t / y ≤ t := Nat.div_le_self _ _
  refine ⟨nI_ne0 y0 (by omega), ?_⟩
  show rVi v (nI t / nI y)
  rw [pk_div (show t < 2 ^ 31 by omega) y0 (by omega)]
  exact gMk_i h (Nat.div_le_div_right t2) (Nat.div_le_div_right t3) (by omega)
theorem g_and : rG2 gAnd (fun _ _ => True) (fun x y => x &&& y) := by
  intro p q y z v hy h
  unfold gAnd at h
  rcases iB h with ⟨h0, h⟩ | ⟨-, h⟩
  · obtain ⟨h1, h⟩ := iBt h
    obtain ⟨h2, h⟩ := iBt h
    have p1 := bl h1
    have p2 := bl h2
    have y1 := bq h0
    cases h
    refine ⟨by omega, fun hz => ⟨trivial, ?_⟩⟩
    subst y1
    rcases hz with ⟨t, t1, rfl, t2, t3⟩ | ⟨-, -, t, t1, rfl, t2⟩
    · omega
    · show rVi (vI (p - 4294967296)) (nI t &&& nI 63)
      rw [m_and]
      have e : fAnd t 63 = t % 64 := by
        show t &&& (2 ^ 6 - 1) = t % 2 ^ 6
        exact Nat.and_two_pow_sub_one_eq_mod t 6
      rw [e]
      have : t % 64 < 64 := Nat.mod_lt _ (by decide)
      have e2 : p - 4294967296 = t % 64 := by omega
      rw [e2]
      exact ⟨by omega, rfl⟩
  · obtain ⟨h1, h⟩ := iBt h
    obtain ⟨h2, h3, h⟩ := gIv_i h
    have y1 := bq h1
    cases h
    refine ⟨by omega, fun hz => ⟨trivial, ?_⟩⟩
    subst y1
    obtain ⟨t, t1, rfl, -, -⟩ := hz.ivl (by omega)
    show rVi (vX 0 3) (nI t &&& nI 3)
    rw [m_and]
    have e : fAnd t 3 = t % 4 := by
      show t &&& (2 ^ 2 - 1) = t % 2 ^ 2
      exact Nat.and_two_pow_sub_one_eq_mod t 2
    rw [e]
    have : t % 4 < 4 := Nat.mod_lt _ (by decide)
    exact Or.inl ⟨t % 4, by omega, rfl, by omega, by omega⟩
theorem nl_add : ∀ x y, x < 18446744073709551616 → y < 18446744073709551616 → aT x y = true → True ∧ lN x + lN y = lN (fLadd x y) ∧ fLadd x y < 18446744073709551616 := fun x y _ _ _ => ⟨trivial, ml_add x y, Nat.mod_lt _ (by decide)⟩
theorem nl_mul : ∀ x y, x < 18446744073709551616 → y < 18446744073709551616 → aT x y = true → True ∧ lN x * lN y = lN (fLmul x y) ∧ fLmul x y < 18446744073709551616 := fun x y _ _ _ => ⟨trivial, ml_mul x y, Nat.mod_lt _ (by decide)⟩
theorem nl_and : ∀ x y, x < 18446744073709551616 → y < 18446744073709551616 → aT x y = true → True ∧ (lN x &&& lN y) = lN (fAnd x y) ∧ fAnd x y < 18446744073709551616 := fun x y hx _ _ => ⟨trivial, ml_and, Nat.lt_of_le_of_lt Nat.and_le_left hx⟩
theorem nl_or : ∀ x y, x < 18446744073709551616 → y < 18446744073709551616 → aT x y = true → True ∧ (lN x ||| lN y) = lN (fOr x y) ∧ fOr x y < 18446744073709551616 := fun x y hx hy _ => ⟨trivial, ml_or, Nat.or_lt_two_pow (n := 64) hx hy⟩
theorem nl_div : ∀ x y, x < 18446744073709551616 → y < 18446744073709551616 → aDl x y = true → ¬ lN y = 0 ∧ lN x / lN y = lN (fDiv x y) ∧ fDiv x y < 18446744073709551616 := fun x y _ _ h => ⟨(ml_div h).1, (ml_div h).2.1, (ml_div h).2.2.1⟩
theorem nl_rem : ∀ x y, x < 18446744073709551616 → y < 18446744073709551616 → aDl x y = true → ¬ lN y = 0 ∧ lN x - lN x / lN y * lN y = lN (fRem x y) ∧ fRem x y < 18446744073709551616 := fun x y _ _ h => ⟨(ml_div h).1, (ml_div h).2.2.2.1, (ml_div h).2.2.2.2⟩
theorem nl_shl : ∀ x y, x < 18446744073709551616 → y < 4294967296 → lN x <<< ((nI y).toInt64 &&& 63) = lN (fLshl x y) ∧ fLshl x y < 18446744073709551616 := fun x y hx hy => ml_shl hx hy
theorem nl_shr : ∀ x y, x < 18446744073709551616 → y < 4294967296 → lN x >>> ((nI y).toInt64 &&& 63) = lN (fLshr x y) ∧ fLshr x y < 18446744073709551616 := fun x y hx hy => ml_shr hx hy
theorem nl_ush : ∀ x y, x < 18446744073709551616 → y < 4294967296 → ((lN x).toUInt64 >>> ((nI y).toInt64.toUInt64 &&& Int64.toUInt64 63)).toInt64 = lN (fLush x y) ∧ fLush x y < 18446744073709551616 := fun x y hx hy => ml_ush hx hy
-- comparisons
variable {off : Int} {tg : Nat}
theorem b_eq (ht : (pc : Int) + off = (tg : Int)) : rI1 M (.ifCond .eq off) pc tg (fun x => x = 0) := fun h1 h2 h3 k1 k2 => lv_if_eq h1 h2 h3 ht k1 k2
theorem b_ne (ht : (pc : Int) + off = (tg : Int)) : rI1 M (.ifCond .ne off) pc tg (fun x => ¬ x = 0) := fun h1 h2 h3 k1 k2 => lv_if_ne h1 h2 h3 ht k1 (fun h => k2 (fun q => q h))
theorem b_lt (ht : (pc : Int) + off = (tg : Int)) : rI1 M (.ifCond .lt off) pc tg (fun x => x < 0) := fun h1 h2 h3 k1 k2 => lv_if_lt h1 h2 h3 ht k1 k2
theorem b_ge (ht : (pc : Int) + off = (tg : Int)) : rI1 M (.ifCond .ge off) pc tg (fun x => 0 ≤ x) := fun h1 h2 h3 k1 k2 => lv_if_ge h1 h2 h3 ht k1 k2
theorem b_gt (ht : (pc : Int) + off = (tg : Int)) : rI1 M (.ifCond .gt off) pc tg (fun x => 0 < x) := fun h1 h2 h3 k1 k2 => lv_if_gt h1 h2 h3 ht k1 k2
theorem b_le (ht : (pc : Int) + off = (tg : Int)) : rI1 M (.ifCond .le off) pc tg (fun x => x ≤ 0) := fun h1 h2 h3 k1 k2 => lv_if_le h1 h2 h3 ht k1 k2
theorem i_eq (ht : (pc : Int) + off = (tg : Int)) : rI2 M (.if_icmp .eq off) pc tg (fun x y => x = y) := fun h1 h2 h3 k1 k2 => lv_icmp_eq h1 h2 h3 ht k1 k2
theorem i_ne (ht : (pc : Int) + off = (tg : Int)) : rI2 M (.if_icmp .ne off) pc tg (fun x y => ¬ x = y) := fun h1 h2 h3 k1 k2 => lv_icmp_ne h1 h2 h3 ht k1 (fun h => k2 (fun q => q h))
theorem i_lt (ht : (pc : Int) + off = (tg : Int)) : rI2 M (.if_icmp .lt off) pc tg (fun x y => x < y) := fun h1 h2 h3 k1 k2 => lv_icmp_lt h1 h2 h3 ht k1 k2
theorem i_ge (ht : (pc : Int) + off = (tg : Int)) : rI2 M (.if_icmp .ge off) pc tg (fun x y => y ≤ x) := fun h1 h2 h3 k1 k2 => lv_icmp_ge h1 h2 h3 ht k1 k2
theorem i_gt (ht : (pc : Int) + off = (tg : Int)) : rI2 M (.if_icmp .gt off) pc tg (fun x y => y < x) := fun h1 h2 h3 k1 k2 => lv_icmp_gt h1 h2 h3 ht k1 k2
theorem i_le (ht : (pc : Int) + off = (tg : Int)) : rI2 M (.if_icmp .le off) pc tg (fun x y => x ≤ y) := fun h1 h2 h3 k1 k2 => lv_icmp_le h1 h2 h3 ht k1 k2
theorem cNe_t {x y : Nat} : cNe x y = true ↔ x ≠ y := by
  unfold cNe
  cases h : Nat.beq x y
  · exact ⟨fun _ => bqf h, fun _ => rfl⟩
  · exact ⟨fun q => (by cases q), fun q => absurd (bq h) q⟩
theorem cLt_t {x y : Nat} : cLt x y = true ↔ sI x < sI y := by
  unfold cLt
  cases h : Nat.ble (sI y) (sI x)
  · exact ⟨fun _ => blf h, fun _ => rfl⟩
  · exact ⟨fun q => (by cases q), fun q => absurd (bl h) (by omega)⟩
theorem cGt_t {x y : Nat} : cGt x y = true ↔ sI y < sI x := by
  unfold cGt
  cases h : Nat.ble (sI x) (sI y)
  · exact ⟨fun _ => blf h, fun _ => rfl⟩
  · exact ⟨fun q => (by cases q), fun q => absurd (bl h) (by omega)⟩
theorem cLe_t {x y : Nat} : cLe x y = true ↔ sI x ≤ sI y := ⟨fun h => bl h, fun h => Nat.ble_eq_true_of_le h⟩
theorem cGe_t {x y : Nat} : cGe x y = true ↔ sI y ≤ sI x := ⟨fun h => bl h, fun h => Nat.ble_eq_true_of_le h⟩
theorem gEq_i {p q y : Nat} {v b : Bool} (h : @Bool.rec (fun _ => Option Bool) none (@Bool.rec (fun _ => Option Bool) none (@Bool.rec (fun _ => Option Bool) (@Bool.rec (fun _ => Option Bool) none (some v) (Nat.ble (Nat.succ q) y)) (some v) (Nat.ble (Nat.succ y) p)) (Nat.ble q 4294967295)) (Nat.ble p q) = some b) : p ≤ q ∧ q < 4294967296 ∧ b = v ∧ (y < p ∨ q < y) := by
  obtain ⟨h1, h⟩ := iBt h
  obtain ⟨h2, h⟩ := iBt h
  have := bl h2
  rcases iB h with ⟨h3, h⟩ | ⟨-, h⟩
  · exact ⟨bl h1, by omega, (Option.some.inj h).symm, Or.inl (bl h3)⟩
  · obtain ⟨h3, h⟩ := iBt h
    exact ⟨bl h1, by omega, (Option.some.inj h).symm, Or.inr (bl h3)⟩
theorem gSg_i {p q : Nat} {k : Option Bool} {b : Bool} (h : gSg p q k = some b) : p ≤ q ∧ q < 4294967296 ∧ k = some b ∧ (q < 2147483648 ∨ 2147483648 ≤ p) := by
  unfold gSg at h
  obtain ⟨h1, h⟩ := iBt h
  rcases iB h with ⟨h2, h⟩ | ⟨-, h⟩
  · have := bl h2
    exact ⟨bl h1, by omega, h, Or.inl (by omega)⟩
  · obtain ⟨h3, h⟩ := iBt h
    obtain ⟨h4, h⟩ := iBt h
    have := bl h4
    exact ⟨bl h1, by omega, h, Or.inr (bl h3)⟩
theorem sI_in {p q t : Nat} (h1 : p ≤ t) (h2 : t ≤ q) (hq : q < 4294967296) (hs : q < 2147483648 ∨ 2147483648 ≤ p) : sI p ≤ sI t ∧ sI t ≤ sI q := ⟨m_sI_mono h1 (by omega) (by omega), m_sI_mono h2 hq (by omega)⟩
theorem two_i {c1 c2 v1 v2 b : Bool} (h : @Bool.rec (fun _ => Option Bool) (@Bool.rec (fun _ => Option Bool) none (some v2) c2) (some v1) c1 = some b) : (c1 = true ∧ b = v1) ∨ (c2 = true ∧ b = v2) := by
  rcases iB h with ⟨h3, h⟩ | ⟨-, h⟩
  · exact Or.inl ⟨h3, (Option.some.inj h).symm⟩
  · obtain ⟨h3, h⟩ := iBt h
    exact Or.inr ⟨h3, (Option.some.inj h).symm⟩
theorem c_eq : rQ2 cEq gEq (fun x y => x = y) := by
  refine ⟨fun x y hx hy => ⟨fun h => by rw [bq h], fun h => ?_⟩, fun p q y b hy h => ?_⟩
  · rw [(nI_inj hx hy).mp h]; exact Nat.beq_refl y
  · unfold gEq at h
    obtain ⟨h1, h2, rfl, h3⟩ := gEq_i h
    exact ⟨h1, h2, fun t ht t1 t2 => ⟨fun q => (by cases q), fun q => by have := (nI_inj ht hy).mp q; omega⟩⟩
theorem c_ne : rQ2 cNe gNe (fun x y => ¬ x = y) := by
  refine ⟨fun x y hx hy => ⟨fun h q => cNe_t.mp h ((nI_inj hx hy).mp q), fun h => cNe_t.mpr (fun q => h (by rw [q]))⟩, fun p q y b hy h => ?_⟩
  unfold gNe at h
  obtain ⟨h1, h2, rfl, h3⟩ := gEq_i h
  exact ⟨h1, h2, fun t ht t1 t2 => ⟨fun _ q => by have := (nI_inj ht hy).mp q; omega, fun _ => rfl⟩⟩
theorem c_lt : rQ2 cLt gLt (fun x y => x < y) := by
  refine ⟨fun x y hx hy => cLt_t.trans (m_lt hx hy).symm, fun p q y b hy h => ?_⟩
  unfold gLt at h
  obtain ⟨h1, h2, h, h3⟩ := gSg_i h
  refine ⟨h1, h2, fun t ht t1 t2 => ?_⟩
  obtain ⟨u1, u2⟩ := sI_in t1 t2 h2 h3
  rcases two_i h with ⟨h4, rfl⟩ | ⟨h4, rfl⟩
  · have := bl h4
    exact ⟨fun _ => (m_lt ht hy).mpr (by omega), fun _ => rfl⟩
  · have := bl h4
    exact ⟨fun q => (by cases q), fun q => by have := (m_lt ht hy).mp q; omega⟩
theorem c_ge : rQ2 cGe gGe (fun x y => y ≤ x) := by
  refine ⟨fun x y hx hy => cGe_t.trans (m_le hy hx).symm, fun p q y b hy h => ?_⟩
  unfold gGe at h
  obtain ⟨h1, h2, h, h3⟩ := gSg_i h
  refine ⟨h1, h2, fun t ht t1 t2 => ?_⟩
  obtain ⟨u1, u2⟩ := sI_in t1 t2 h2 h3
  rcases two_i h with ⟨h4, rfl⟩ | ⟨h4, rfl⟩
  · have := bl h4
    exact ⟨fun q => (by cases q), fun q => by have := (m_le hy ht).mp q; omega⟩
  · have := bl h4
    exact ⟨fun _ => (m_le hy ht).mpr (by omega), fun _ => rfl⟩
theorem c_gt : rQ2 cGt gGt (fun x y => y < x) := by
  refine ⟨fun x y hx hy => cGt_t.trans (m_lt hy hx).symm, fun p q y b hy h => ?_⟩
  unfold gGt at h
  obtain ⟨h1, h2, h, h3⟩ := gSg_i h
  refine ⟨h1, h2, fun t ht t1 t2 => ?_⟩
  obtain ⟨u1, u2⟩ := sI_in t1 t2 h2 h3
  rcases two_i h with ⟨h4, rfl⟩ | ⟨h4, rfl⟩
  · have := bl h4
    exact ⟨fun _ => (m_lt hy ht).mpr (by omega), fun _ => rfl⟩
  · have := bl h4
    exact ⟨fun q => (by cases q), fun q => by have := (m_lt hy ht).mp q; omega⟩
theorem c_le : rQ2 cLe gLe (fun x y => x ≤ y) := by
  refine ⟨fun x y hx hy => cLe_t.trans (m_le hx hy).symm, fun p q y b hy h => ?_⟩
  unfold gLe at h
  obtain ⟨h1, h2, h, h3⟩ := gSg_i h
  refine ⟨h1, h2, fun t ht t1 t2 => ?_⟩
  obtain ⟨u1, u2⟩ := sI_in t1 t2 h2 h3
  rcases two_i h with ⟨h4, rfl⟩ | ⟨h4, rfl⟩
  · have := bl h4
    exact ⟨fun q => (by cases q), fun q => by have := (m_le ht hy).mp q; omega⟩
  · have := bl h4
    exact ⟨fun _ => (m_le ht hy).mpr (by omega), fun _ => rfl⟩
end ARI
section SND2
variable {lab : Nat → rM × Nat} {M : rM} {pc pc' : Nat} {nx : rP}
theorem d_2 : FP.i2d (nI 2) = UInt64.ofNat 4611686018427387904 := by decide +kernel
theorem d_1 : vf_n64 (FP.ddiv (UInt64.ofNat 4611686018427387904) (UInt64.ofNat 4611686018427387904)) ∧ FP.ddiv (UInt64.ofNat 4611686018427387904) (UInt64.ofNat 4611686018427387904) = UInt64.ofNat 4607182418800017408 := by
  unfold vf_n64
  decide +kernel
theorem d_0 : ∀ op : CmpOp, Op.cmpValue (FP.dcmp (UInt64.ofNat 4607182418800017408) (UInt64.ofNat 4607182418800017408)) op = 0 := by
  intro op
  cases op <;> decide +kernel
theorem s_I2d (hdg : rDec M pc .i2d 1 pc') (k : rSnd lab M pc' nx) : rSnd lab M pc (oI2d nx) := by
  intro w l d jb jc hb hc L S h res hr
  obtain ⟨a, S1, rfl, hr⟩ := iP hr
  obtain ⟨hdg, rfl⟩ := hdg
  obtain ⟨x, rfl, hr⟩ := iI hr
  obtain ⟨h1, hr⟩ := iBt hr
  refine (k w l d jb jc hb hc _ _ _ _ hr).step fun hX _ hl hL hS kk => ?_
  obtain ⟨v, st', rfl, h2, hS1⟩ := hS.cons
  obtain ⟨l2, rfl⟩ := h2.i
  obtain rfl := bq h1
  refine lv_i2d hX.1 hX.2.1 hdg ?_
  rw [d_2]
  exact kk _ _ _ hl hL ⟨Or.inr ⟨rfl, rfl⟩, hS1⟩
theorem s_Ddiv (hdg : rDec M pc .ddiv 1 pc') (k : rSnd lab M pc' nx) : rSnd lab M pc (oDdiv nx) := by
  intro w l d jb jc hb hc L S h res hr
  obtain ⟨b, S1, rfl, hr⟩ := iP hr
  obtain ⟨a, S2, rfl, hr⟩ := iP hr
  obtain ⟨hdg, rfl⟩ := hdg
  obtain ⟨p, q, rfl, hr⟩ := iX hr
  obtain ⟨u, z, rfl, hr⟩ := iX hr
  obtain ⟨h1, hr⟩ := iBt hr
  obtain ⟨h2, hr⟩ := iBt hr
  obtain ⟨h3, hr⟩ := iBt hr
  obtain ⟨h4, hr⟩ := iBt hr
  refine (k w l d jb jc hb hc _ _ _ _ hr).step fun hX _ hl hL hS kk => ?_
  obtain ⟨v, st1, rfl, g2, hS1⟩ := hS.cons
  obtain ⟨v', st2, rfl, g3, hS2⟩ := hS1.cons
  obtain rfl := g2.d (bq h1)
  obtain rfl := g3.d (bq h2)
  rw [bq h3, bq h4]
  refine lv_ddiv hX.1 hX.2.1 hdg d_1.1 ?_
  rw [d_1.2]
  exact kk _ _ _ hl hL ⟨Or.inr ⟨rfl, rfl⟩, hS2⟩
theorem s_Dcmp {op : CmpOp} (hdg : rDec M pc (.dcmp op) 1 pc') (k : rSnd lab M pc' nx) : rSnd lab M pc (oDcmp nx) := by
  intro w l d jb jc hb hc L S h res hr
  obtain ⟨b, S1, rfl, hr⟩ := iP hr
  obtain ⟨a, S2, rfl, hr⟩ := iP hr
  obtain ⟨hdg, rfl⟩ := hdg
  obtain ⟨p, q, rfl, hr⟩ := iX hr
  obtain ⟨u, z, rfl, hr⟩ := iX hr
  obtain ⟨h1, hr⟩ := iBt hr
  obtain ⟨h2, hr⟩ := iBt hr
  obtain ⟨h3, hr⟩ := iBt hr
  obtain ⟨h4, hr⟩ := iBt hr
  refine (k w l d jb jc hb hc _ _ _ _ hr).step fun hX _ hl hL hS kk => ?_
  obtain ⟨v, st1, rfl, g2, hS1⟩ := hS.cons
  obtain ⟨v', st2, rfl, g3, hS2⟩ := hS1.cons
  obtain rfl := g2.d (bq h1)
  obtain rfl := g3.d (bq h2)
  rw [bq h3, bq h4]
  refine lv_dcmp hX.1 hX.2.1 hdg ?_
  rw [d_0]
  exact kk _ _ _ hl hL ⟨⟨by decide, rfl⟩, hS2⟩
theorem s_Jb {id : Nat} (hl : lab id = (M, pc)) : rSnd lab M pc (oJb id) := by
  intro w l d jb jc hb hc L S h res hr
  have := hb id
  rw [hl] at this
  exact this L S h res hr
theorem rStk_rf {w : rW} {ad : Nat → Nat} {n k : Nat} {v : Value} (h : rVal w ad n (vR k) v) : v = .null ∨ ∃ a, v = .ref a := by
  rcases h.r with ⟨-, e⟩ | ⟨-, e⟩ | ⟨-, e⟩ | ⟨-, -, e⟩
  · exact Or.inl e
  · exact Or.inr ⟨_, e⟩
  · exact Or.inr ⟨_, e⟩
  · exact Or.inr ⟨_, e⟩
theorem s_Aeq {off : Int} {tg : Nat} (hdg : decode (rMc_ M) pc = .ok (.if_acmp .eq off, 3)) (ht : (pc : Int) + off = (tg : Int)) (k : rSnd lab M tg nx) : rSnd lab M pc (oAeq nx) := by
  intro w l d jb jc hb hc L S h res hr
  obtain ⟨b, S1, rfl, hr⟩ := iP hr
  obtain ⟨a, S2, rfl, hr⟩ := iP hr
  obtain ⟨y, rfl, hr⟩ := iA hr
  obtain ⟨x, rfl, hr⟩ := iA hr
  obtain ⟨h1, hr⟩ := iBt hr
  refine (k w l d jb jc hb hc _ _ _ _ hr).step fun hX hP hl hL hS kk => ?_
  obtain ⟨v, st1, rfl, g2, hS1⟩ := hS.cons
  obtain ⟨v', st2, rfl, g3, hS2⟩ := hS1.cons
  obtain rfl := bq h1
  have hlim : hN h ≤ 512 := hP.1.2.1
  have hvv : v = v' := by
    rcases g2.r with ⟨e1, e⟩ | ⟨e1, e⟩ | ⟨e1, e⟩ | ⟨e1, e2, e⟩ <;> rcases g3.r with ⟨e1', e'⟩ | ⟨e1', e'⟩ | ⟨e1', e'⟩ | ⟨e1', e2', e'⟩ <;> first | (exfalso; omega) | (rw [e, e'])
  subst hvv
  obtain ⟨rx, rfl⟩ : ∃ rx : Option Nat, v = va_rf rx := by
    rcases rStk_rf g2 with rfl | ⟨a, rfl⟩
    · exact ⟨none, rfl⟩
    · exact ⟨some a, rfl⟩
  exact lv_acmp_eq hX.1 hX.2.1 hdg ht (fun _ => kk _ _ _ hl hL hS2) (fun q => absurd rfl q)
end SND2
