-- ===== arraycopy of ints =====
theorem rCopied (c0 c1 : ClassId) {n0 n1 : Nat} {sp dp n : Int32} (f g : Nat → Value) (hs : sp.toNatClampNeg + n.toNatClampNeg ≤ n0) : copied (arrV c0 n0 f) (arrV c1 n1 g) sp dp n = arrV c1 n1 (va_cpy f g sp.toNatClampNeg dp.toNatClampNeg n.toNatClampNeg) := va_copied (fun z => z) c0 c1 f g hs
theorem rToInt {x : Nat} (h : x ≤ 65536) : (nI x).toInt = (x : Int) := by rw [nI_ti (by omega), if_pos (by omega)]
theorem s_Cpy {lab : Nat → rM × Nat} {M : rM} {pc pc' : Nat} {nx : rP} {own : String} {i : Nat} (ho : (rMy M).cls = own) (hlk : Cond.methodLink own i arraycopyName ∈ rTG) (hnat : Cond.native arraycopyName ∈ rTG) (hst : Cond.static arraycopyName ∈ rTG) (hini : Cond.initialized "java/lang/System" ∈ rTG) (hdg : rDec M pc (.invokestatic i) 3 pc') (kx : rSnd lab M pc' nx) : rSnd lab M pc (oCpy nx) := by
  intro w l d jb jc hb hc L S h res hh
  obtain ⟨hdg, rfl⟩ := hdg
  obtain ⟨v1, S1, rfl, hh⟩ := iP hh
  obtain ⟨v2, S2, rfl, hh⟩ := iP hh
  obtain ⟨v3, S3, rfl, hh⟩ := iP hh
  obtain ⟨v4, S4, rfl, hh⟩ := iP hh
  obtain ⟨v5, S5, rfl, hh⟩ := iP hh
  obtain ⟨n, rfl, hh⟩ := iI hh
  obtain ⟨q, rfl, hh⟩ := iI hh
  obtain ⟨b, rfl, hh⟩ := iA hh
  obtain ⟨x, rfl, hh⟩ := iI hh
  obtain ⟨a, rfl, hh⟩ := iA hh
  obtain ⟨hh, hsl⟩ := rSh_i hh
  obtain ⟨e0, hh⟩ := iBf hh
  obtain ⟨e1, hh⟩ := iBt hh
  obtain ⟨e2, hh⟩ := iBt hh
  obtain ⟨e3, hh⟩ := iBt hh
  obtain ⟨e4, hh⟩ := iBt hh
  have hh := iN hh
  refine rTo.gen (h' := rPut h b ((rAt h b).1, ((rAt h b).2.1, rSp (rAt h b).2.2 q n (Nat.mod (Nat.shiftRight (rAt h a).2.2 (Nat.mul 64 x)) (Nat.pow 2 (Nat.mul 64 n)))))) ⟨Nat.le_refl _, Nat.le_refl _, Nat.le_refl _⟩ (kx w l d jb jc hb hc _ _ _ _ hh) fun {p} {e} {R} {s} {m} {args} {below} {meth} {c} {Q} {H} {locs} {cells} {slots} {ls} {lv} {st} {ad} {mc} {ms} hX hP hs hl hLo hS hm hcs hlo kk => ?_
  obtain ⟨u1, st1, rfl, g1, hS1⟩ := hS.cons
  obtain ⟨u2, st2, rfl, g2, hS2⟩ := hS1.cons
  obtain ⟨u3, st3, rfl, g3, hS3⟩ := hS2.cons
  obtain ⟨u4, st4, rfl, g4, hS4⟩ := hS3.cons
  obtain ⟨u5, st5, rfl, g5, hS5⟩ := hS4.cons
  obtain ⟨-, rfl⟩ := g1.i
  obtain ⟨-, rfl⟩ := g2.i
  obtain ⟨-, rfl⟩ := g4.i
  have ka : (rAt h a).1 = 2 * 0 + 1 := bq e1
  have kb : (rAt h b).1 = 2 * 0 + 1 := bq e3
  have la : x + n ≤ (rAt h a).2.1 := bl e2
  have lb : q + n ≤ (rAt h b).2.1 := bl e4
  obtain ⟨-, -, -, rfl, a5, cA, f, a6, a7, a8, a9⟩ := hP.arr g5 ka rfl
  obtain ⟨b1, b2, b3, rfl, b5, cB, g, b6, b7, b8, b9⟩ := hP.arr g3 kb rfl
  obtain ⟨x1, x2⟩ := rNn (x := x) (by omega)
  obtain ⟨q1, q2⟩ := rNn (x := q) (by omega)
  obtain ⟨n1, n2⟩ := rNn (x := n) (by omega)
  obtain ⟨-, k0, hk0, cm0, hkk0⟩ := a7 (rAt h a).2.1 f
  obtain ⟨-, k1, hk1, cm1, hkk1⟩ := b7 (rAt h b).2.1 g
  have ht := hX.2.2.2.2.1
  have hfr := hX.2.2.2.2.2.2.2.2.2.2.1
  have hlr := hX.2.2.2.2.2.2.2.2.2.2.2.1
  unfold rFr at hfr
  unfold rLo at hlr
  have hlen := hS5.len
  have hnat9 : nativeFrameWords "java/lang/System" "arraycopy" 5 ≤ 7 := by decide
  intro T hT X
  obtain ⟨vm', X', step⟩ := X.arraycopy hX.1 (ho ▸ hX.2.2.2.1) (ht _ hlk) (ht _ hnat) (ht _ hst) (ht _ hini) (src := ad a) (dst := ad b) (cs := arrV cA (rAt h a).2.1 f) (cd := arrV cB (rAt h b).2.1 g) (srcPos := nI x) (destPos := nI q) (n := nI n) (by rw [hT]; exact a6) (by rw [hT]; exact b6)
    (fun _ h => by cases h) (fun _ h => by cases h) (fun h => by cases h) (fun h => by cases h) hk0 hk1 hkk0 hkk1 (by simp [refKind]) x2 q2 n2
    (by rw [rToInt (show x ≤ 65536 by omega), rToInt (show n ≤ 65536 by omega), arrV_size]; omega)
    (by rw [rToInt (show q ≤ 65536 by omega), rToInt (show n ≤ 65536 by omega), arrV_size]; omega)
    (fun vm₁ _ i hi => by
      rw [n1] at hi
      rw [x1]
      have e : (arrV cA (rAt h a).2.1 f).slots.getD (x + i) .null = f (x + i) := by
        rw [Array.getD_eq_getD_getElem?, arrV_read _ _ (by omega)]
        rfl
      have hv : rVal w ad (hN h) (vI (rPl (rAt h a).2.2 (x + i))) (f (x + i)) := a9 (x + i) (by omega)
      rw [e, hv.i.2]
      exact ⟨rfl, trivial⟩)
    (g := F0 m pc ls (.int (nI n) :: .int (nI q) :: .ref (ad b) :: .int (nI x) :: .ref (ad a) :: st5)) rfl (by rw [hX.2.2.1]; exact hl.1) (rest := st5) rfl (by rw [hX.2.1]; exact hdg) (by omega) (by show 2 * 0 + _ + _ ≤ _; omega)
  rw [rCopied cA cB f g (by rw [x1, n1]; exact la), x1, q1, n1] at X' step
  have hlt : ad b < H.size := (Array.getElem?_eq_some_iff.mp b6).1
  have hheap : ((T.setVm vm').setCell (ad b) (arrV cB (rAt h b).2.1 (va_cpy f g x q n))).heap = H.setIfInBounds (ad b) (arrV cB (rAt h b).2.1 (va_cpy f g x q n)) := by rw [← hT]; rfl
  obtain ⟨t, r1, r2⟩ := kk ad (H.setIfInBounds (ad b) (arrV cB (rAt h b).2.1 (va_cpy f g x q n))) _ cells slots ls lv st5 rExt.rf (hP.put b1 b2 (by omega) (c' := ((rAt h b).1, ((rAt h b).2.1, rSp (rAt h b).2.2 q n (Nat.mod (Nat.shiftRight (rAt h a).2.2 (Nat.mul 64 x)) (Nat.pow 2 (Nat.mul 64 n)))))) (Or.inr ⟨b3, Or.inr ⟨0, .int, kb, rfl, b5, cB, va_cpy f g x q n, by simp [Array.getElem?_setIfInBounds, hlt], b7, b8, fun j hj => by
      show rVal w ad (hN h) (vI (rPl (rSp (rAt h b).2.2 q n _) j)) (va_cpy f g x q n j)
      have hj' : j < (rAt h b).2.1 := hj
      have hs9 : Nat.mod (Nat.shiftRight (rAt h a).2.2 (Nat.mul 64 x)) (Nat.pow 2 (Nat.mul 64 n)) < 2 ^ (64 * n) := Nat.mod_lt _ (Nat.pow_pos (by decide))
      rw [rPl_rSp _ _ _ _ _ hs9]
      unfold va_cpy
      by_cases hc : q ≤ j ∧ j < q + n
      · rw [if_pos hc, if_pos hc, rPl_cut _ _ _ _ (by omega)]
        exact a9 (x + (j - q)) (by omega)
      · rw [if_neg hc, if_neg hc]
        exact b9 j hj'⟩⟩) (by show (rAt h b).1 ≠ 0; omega) (by simp) (fun z hz => by simp [Array.getElem?_setIfInBounds, Ne.symm hz])) (by simp) hl hLo hS5 (Nat.le_refl _) (Nat.le_refl _) (fun z hz => by
      rcases List.mem_append.mp hz with h | h
      · exact hlo z h
      · obtain ⟨z9, -, hz9⟩ := List.mem_map.mp h
        rw [← hz9]
        exact b3) _ hheap X'
  exact ⟨t, step t r1, r2⟩
