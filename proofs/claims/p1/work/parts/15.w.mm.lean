-- ===== the greater and the smaller of two ints =====
theorem s_Max {lab : Nat → rM × Nat} {M : rM} {pc pc' : Nat} {nx : rP} {own : String} {i : Nat} (ho : (rMy M).cls = own) (hlk : Cond.methodLink own i Lib.Math.max.name ∈ rTG) (hst : Cond.static Lib.Math.max.name ∈ rTG) (hini : Cond.initialized "java/lang/Math" ∈ rTG) (hcode : Cond.code Lib.Math.max.name Lib.Math.max.code 2 (some .int) ∈ rTG) (hdg : rDec M pc (.invokestatic i) 3 pc') (kx : rSnd lab M pc' nx) : rSnd lab M pc (oMx fMax nx) := by
  intro w l d jb jc hb hc L S h res hh
  obtain ⟨hdg, rfl⟩ := hdg
  obtain ⟨v1, S1, rfl, hh⟩ := iP hh
  obtain ⟨v2, S2, rfl, hh⟩ := iP hh
  obtain ⟨y, rfl, hh⟩ := iI hh
  obtain ⟨x, rfl, hh⟩ := iI hh
  obtain ⟨hh, hsl⟩ := rSh_i hh
  refine rTo.gen ⟨Nat.le_refl _, Nat.le_refl _, Nat.le_refl _⟩ (kx w l d jb jc hb hc _ _ _ _ hh) fun {p} {e} {R} {s} {m} {args} {below} {meth} {c} {Q} {H} {locs} {cells} {slots} {ls} {lv} {st} {ad} {mc} {ms} hX hP hs hl hLo hS hm hcs hlo kk => ?_
  obtain ⟨u1, st1, rfl, g1, hS1⟩ := hS.cons
  obtain ⟨u2, st2, rfl, g2, hS2⟩ := hS1.cons
  obtain ⟨l1, rfl⟩ := g1.i
  obtain ⟨l2, rfl⟩ := g2.i
  have ht := hX.2.2.2.2.1
  have hfr := hX.2.2.2.2.2.2.2.2.2.2.1
  have hlr := hX.2.2.2.2.2.2.2.2.2.2.2.1
  unfold rFr at hfr
  unfold rLo at hlr
  have hlen := hS2.len
  have h1 := hcs.1
  have h2 := hcs.2
  have h3 := hm.1
  have h4 := hm.2
  refine va_mmax hX.1 hX.2.1 (hX.2.2.1.trans hl.1.symm) (ho ▸ hX.2.2.2.1) (ht _ hlk) (ht _ hst) (ht _ hini) (ht _ hcode) (by omega) (by omega) (by omega) (by omega) hdg ?_
  have e : (if nI x < nI y then nI y else nI x) = nI (fMax x y) ∧ fMax x y < 4294967296 := by
    unfold fMax
    by_cases c : nI x < nI y
    · rw [if_pos c]
      have := (m_lt l2 l1).mp c
      rw [show Nat.ble (sI y) (sI x) = false from Bool.eq_false_iff.mpr (fun q => absurd (bl q) (by omega))]
      exact ⟨rfl, l1⟩
    · rw [if_neg c]
      have : sI y ≤ sI x := Nat.not_lt.mp (fun q => c ((m_lt l2 l1).mpr q))
      rw [Nat.ble_eq_true_of_le this]
      exact ⟨rfl, l2⟩
  rw [e.1]
  exact kk ad H locs cells slots ls lv _ rExt.rf hP (Nat.le_refl _) hl hLo ⟨⟨e.2, rfl⟩, hS2⟩ (Nat.le_refl _) (Nat.le_refl _) hlo
theorem s_Min {lab : Nat → rM × Nat} {M : rM} {pc pc' : Nat} {nx : rP} {own : String} {i : Nat} (ho : (rMy M).cls = own) (hlk : Cond.methodLink own i Lib.Math.min.name ∈ rTG) (hst : Cond.static Lib.Math.min.name ∈ rTG) (hini : Cond.initialized "java/lang/Math" ∈ rTG) (hcode : Cond.code Lib.Math.min.name Lib.Math.min.code 2 (some .int) ∈ rTG) (hdg : rDec M pc (.invokestatic i) 3 pc') (kx : rSnd lab M pc' nx) : rSnd lab M pc (oMx fMin nx) := by
  intro w l d jb jc hb hc L S h res hh
  obtain ⟨hdg, rfl⟩ := hdg
  obtain ⟨v1, S1, rfl, hh⟩ := iP hh
  obtain ⟨v2, S2, rfl, hh⟩ := iP hh
  obtain ⟨y, rfl, hh⟩ := iI hh
  obtain ⟨x, rfl, hh⟩ := iI hh
  obtain ⟨hh, hsl⟩ := rSh_i hh
  refine rTo.gen ⟨Nat.le_refl _, Nat.le_refl _, Nat.le_refl _⟩ (kx w l d jb jc hb hc _ _ _ _ hh) fun {p} {e} {R} {s} {m} {args} {below} {meth} {c} {Q} {H} {locs} {cells} {slots} {ls} {lv} {st} {ad} {mc} {ms} hX hP hs hl hLo hS hm hcs hlo kk => ?_
  obtain ⟨u1, st1, rfl, g1, hS1⟩ := hS.cons
  obtain ⟨u2, st2, rfl, g2, hS2⟩ := hS1.cons
  obtain ⟨l1, rfl⟩ := g1.i
  obtain ⟨l2, rfl⟩ := g2.i
  have ht := hX.2.2.2.2.1
  have hfr := hX.2.2.2.2.2.2.2.2.2.2.1
  have hlr := hX.2.2.2.2.2.2.2.2.2.2.2.1
  unfold rFr at hfr
  unfold rLo at hlr
  have hlen := hS2.len
  have h1 := hcs.1
  have h2 := hcs.2
  have h3 := hm.1
  have h4 := hm.2
  refine va_mmin hX.1 hX.2.1 (hX.2.2.1.trans hl.1.symm) (ho ▸ hX.2.2.2.1) (ht _ hlk) (ht _ hst) (ht _ hini) (ht _ hcode) (by omega) (by omega) (by omega) (by omega) hdg ?_
  have e : (if nI y < nI x then nI y else nI x) = nI (fMin x y) ∧ fMin x y < 4294967296 := by
    unfold fMin
    by_cases c : nI y < nI x
    · rw [if_pos c]
      have := (m_lt l1 l2).mp c
      rw [show Nat.ble (sI x) (sI y) = false from Bool.eq_false_iff.mpr (fun q => absurd (bl q) (by omega))]
      exact ⟨rfl, l1⟩
    · rw [if_neg c]
      have : sI x ≤ sI y := Nat.not_lt.mp (fun q => c ((m_lt l1 l2).mpr q))
      rw [Nat.ble_eq_true_of_le this]
      exact ⟨rfl, l2⟩
  rw [e.1]
  exact kk ad H locs cells slots ls lv _ rExt.rf hP (Nat.le_refl _) hl hLo ⟨⟨e.2, rfl⟩, hS2⟩ (Nat.le_refl _) (Nat.le_refl _) hlo
