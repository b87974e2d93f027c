-- ===== stores of references, casts, Object's constructor, switches =====
def rNm (k : Nat) : String := if k % 2 = 1 then "[" ++ (rAts.getD (k / 2) .int).toString else ((rCls[k / 2 - 1]?).map (fun r => r.1)).getD ""
def rEn (ty : FieldType) : String := match ty with
  | .object C => C
  | t => t.toString
section OPS1
variable {w : rW} {U : State} {ad : Nat → Nat} {H : Heap} {h : rH}
theorem rHp.named {k : Nat} {v : Value} (hH : rHp w U ad h H) (hC : rCl w U) (hv : rVal w ad (hN h) (vR k) v) (hk : (rAt h k).1 ≠ 0) : 0 < k ∧ k < hN h ∧ v = .ref (ad k) ∧ ∃ cell : Cell, H[ad k]? = some cell ∧ cell.vm = .none ∧ U.vm.findClass (rNm (rAt h k).1) = some cell.cls := by
  obtain ⟨h1, h2, h3, h4⟩ := hH.deref hv hk
  refine ⟨h1, h2, h3, ?_⟩
  rcases h4 with h4 | ⟨h5, ⟨ci, r, e1, e2, V, ⟨cell, h6, h6b, h6c, -⟩, h7⟩ | ⟨t, ty, e1, e2, e3, cA, f, h6, h7, h8, h9⟩⟩
  · exact absurd h4 hk
  · refine ⟨cell, h6, h6c, ?_⟩
    have hfc := (hC ci r e2).2.1
    have : rNm (rAt h k).1 = r.1 := by
      rw [e1]
      unfold rNm
      rw [if_neg (by omega), show (2 * ci + 2) / 2 - 1 = ci by omega, e2]
      rfl
    rw [this, h6b]
    exact hfc
  · refine ⟨_, h6, rfl, ?_⟩
    have : rNm (rAt h k).1 = "[" ++ ty.toString := by
      rw [e1]
      unfold rNm
      rw [if_pos (by omega), show (2 * t + 1) / 2 = t by omega, List.getD_eq_getElem?_getD, e2]
      rfl
    rw [this]
    cases ty with
    | object C =>
      obtain ⟨kA, comp, q1, q2, q3, q4⟩ := h8
      exact q4
    | _ => exact h8
theorem rSh_i {S : List rV} {k : rR} {r : rO × rH} (hh : rSh S k = some r) : k = some r ∧ S.length ≤ 4 := by
  rcases S with _ | ⟨a, _ | ⟨b, _ | ⟨c, _ | ⟨d, _ | ⟨e, S⟩⟩⟩⟩⟩
  · exact ⟨hh, by simp⟩
  · exact ⟨hh, by simp⟩
  · exact ⟨hh, by simp⟩
  · exact ⟨hh, by simp⟩
  · exact ⟨hh, by simp⟩
  · cases hh
theorem rStk.len : ∀ {S : List rV} {st : List Value} {n : Nat}, rStk w ad n S st → (st.map fun v => v.category).sum ≤ 2 * S.length
  | [], [], _, _ => by simp
  | x :: S, v :: st, n, hs => by
    have h1 := hs.2.len
    have h2 : v.category ≤ 2 := by rcases lv_cat v with e | e <;> omega
    simp only [List.map_cons, List.sum_cons, List.length_cons]
    omega
  | [], _ :: _, _, h => h.elim
  | _ :: _, [], _, h => h.elim
end OPS1
def rOkA (ok : Nat → Nat → Bool) : Prop := ∀ k v, ok k v = true → v ≠ 0 ∧ ∃ t ty, k = 2 * t + 1 ∧ rAts[t]? = some ty ∧ ((∃ C, ty = .object C) ∨ ty = .array .int ∧ ∃ j : Nat, rNGs[j]? = some (Cond.arrayOver (.array .int))) ∧ (rEn ty = rNm v ∨ ∃ j : Nat, rNGs[j]? = some (Cond.castable (rNm v) (rEn ty)))
section SND5
variable {lab : Nat → rM × Nat} {M : rM} {pc pc' : Nat} {nx : rP}
theorem s_Aas {ok : Nat → Nat → Bool} (hok : rOkA ok) (hdg : rDec M pc .aastore 1 pc') (kx : rSnd lab M pc' nx) : rSnd lab M pc (oAas ok nx) := by
  intro w l d jb jc hb hc L S h res hh
  obtain ⟨hdg, rfl⟩ := hdg
  obtain ⟨vv, S1, rfl, hh⟩ := iP hh
  obtain ⟨ii, S1, rfl, hh⟩ := iP hh
  obtain ⟨oo, S1, rfl, hh⟩ := iP hh
  obtain ⟨a, rfl, hh⟩ := iA hh
  obtain ⟨x, rfl, hh⟩ := iI hh
  obtain ⟨y, rfl, hh⟩ := iA hh
  obtain ⟨e0, hh⟩ := iBt hh
  obtain ⟨e1, hh⟩ := iBf hh
  have hh := iN hh
  refine rTo.gen (h' := rPut h a ((rAt h a).1, ((rAt h a).2.1, rSp (rAt h a).2.2 x 1 y))) ⟨Nat.le_refl _, Nat.le_refl _, Nat.le_refl _⟩ (kx w l d jb jc hb hc _ _ _ _ hh) fun {p} {e} {R} {s} {m} {args} {below} {meth} {c} {Q} {H} {locs} {cells} {slots} {ls} {lv} {st} {ad} {mc} {ms} hX hP hs hl hLo hS hm hcs hlo kk => ?_
  obtain ⟨v, st1, rfl, g1, hS1⟩ := hS.cons
  obtain ⟨v2, st2, rfl, g2, hS2⟩ := hS1.cons
  obtain ⟨v3, st3, rfl, g3, hS3⟩ := hS2.cons
  obtain ⟨-, rfl⟩ := g2.i
  have hokk : ok (rAt h a).1 (rAt h y).1 = true := e0
  have el : x < (rAt h a).2.1 := blf e1
  obtain ⟨hv0, t, ty, ek, ht, hty, hcs2⟩ := hok _ _ hokk
  have hK := hX.2.2.2.2.2.2.2.2.2.1
  obtain ⟨p1, p2, p3, rfl, p5, cA, f, q1, q2, q3, q4⟩ := hP.arr g3 ek ht
  obtain ⟨y1, y2, rfl, cell, y3, y4, y5⟩ := hP.named hK.1 g1 hv0
  obtain ⟨i1, i2⟩ := rIx el p5
  obtain ⟨kA, comp, f1, f2, f3⟩ : ∃ (kA : Class) (comp : ClassId), s.vm.classes[cA]? = some kA ∧ kA.kind = .array comp ty ∧ s.vm.findClass (rEn ty) = some comp := by
    rcases hty with ⟨C, rfl⟩ | ⟨rfl, j, hj⟩
    · obtain ⟨kA, comp, f1, f2, f3, -⟩ := q3
      exact ⟨kA, comp, f1, f2, f3⟩
    · have hw := hK.ng j hj
      obtain ⟨comp, c9, k9, f1, -, f3, f4, f5⟩ := arrayOverA_spec hw
      have q3' : s.vm.findClass ("[" ++ (FieldType.array .int).toString) = some cA := q3
      cases f5.symm.trans q3'
      exact ⟨k9, comp, f3, f4, f1⟩
  obtain ⟨kC, hkC, -⟩ := Vm.findClass_spec f3
  obtain ⟨kv, hkv, -⟩ := Vm.findClass_spec y5
  have hasg : s.vm.assignable cell.cls comp = true := by
    rcases hcs2 with e | ⟨j, hj⟩
    · rw [← e] at y5
      exact vb_asgS comp cell.cls f3 y5
    · exact vb_asgC (hK.ng j hj) comp cell.cls f3 y5
  have hin : ¬ nI x < 0 ∧ (nI x).toNatClampNeg < (arrV cA (rAt h a).2.1 f).slots.size := by
    rw [arrV_size, i1]
    exact ⟨fun q => i2 (Or.inl q), el⟩
  have href : ty.isReference = true := by rcases hty with ⟨C, rfl⟩ | ⟨rfl, -⟩ <;> rfl
  have y64 : y < 18446744073709551616 := by have := hP.1.2.1; omega
  refine W.aast hX.1 hX.2.1 q1 (fun q h => by cases h) (fun h => by cases h) f1 f2 href hkC hin y3 (fun q h => by rw [y4] at h; cases h) hkv hasg rfl rfl hdg fun H' e1 e2 e3 => ?_
  rw [i1, arrV_store] at e1
  refine kk ad H' _ cells slots ls lv st3 rExt.rf (hP.put p1 p2 (by omega) (c' := ((rAt h a).1, ((rAt h a).2.1, rSp (rAt h a).2.2 x 1 y))) ?_ (by show (rAt h a).1 ≠ 0; omega) (by omega) e3) (by omega) hl hLo hS3 (Nat.le_refl _) (Nat.le_refl _) ?_
  · refine Or.inr ⟨p3, Or.inr ⟨t, ty, ek, ht, p5, cA, _, e1, q2, q3, fun j hj => ?_⟩⟩
    show rVal w ad (hN h) (rTag ty (rPl (rSp (rAt h a).2.2 x 1 y) j)) (updV f x (.ref (ad y)) j)
    rw [rPl_put _ _ _ _ y64]
    unfold updV
    by_cases hjk : j = x
    · rw [if_pos hjk, if_pos hjk]
      rcases hty with ⟨C, rfl⟩ | ⟨rfl, -⟩
      · exact g1
      · exact g1
    · rw [if_neg hjk, if_neg hjk]; exact q4 j hj
  · intro z hz
    rcases List.mem_append.mp hz with hz | hz
    · exact hlo z hz
    · rw [List.mem_singleton.mp hz]; exact p3
theorem s_Cst {ok : Nat → Bool} {own C : String} {i : Nat} (hok : ∀ k, ok k = true → k ≠ 0 ∧ rNm k = C) (ho : (rMy M).cls = own) (hcl : Cond.classLink own i C ∈ rTG) (hdg : rDec M pc (.checkcast i) 3 pc') (kx : rSnd lab M pc' nx) : rSnd lab M pc (oCst ok nx) := by
  intro w l d jb jc hb hc L S h res hh
  obtain ⟨hdg, rfl⟩ := hdg
  obtain ⟨oo, S1, rfl, hh⟩ := iP hh
  obtain ⟨a, rfl, hh⟩ := iA hh
  obtain ⟨e0, hh⟩ := iBt hh
  refine (kx w l d jb jc hb hc _ _ _ _ hh).step fun hX hP hl hLo hS kk => ?_
  obtain ⟨v3, st3, rfl, g3, hS3⟩ := hS.cons
  obtain ⟨k0, kn⟩ := hok (rAt h a).1 e0
  have hK := hX.2.2.2.2.2.2.2.2.2.1
  obtain ⟨y1, y2, rfl, cell, y3, y4, y5⟩ := hP.named hK.1 g3 k0
  rw [kn] at y5
  exact va_castE hX.1 hX.2.1 (ho ▸ hX.2.2.2.1) (hX.2.2.2.2.1 _ hcl) ⟨cell, y3, by rw [y4]; rfl, y5⟩ hdg (kk _ _ (_ :: _) hl hLo ⟨g3, hS3⟩)
theorem rDr {w : rW} {ad : Nat → Nat} {n k : Nat} {v : Value} (h : rVal w ad n (vR k) v) (h0 : k ≠ 0) : ∃ a, v = .ref a := by
  rcases h.r with ⟨e, -⟩ | ⟨-, e⟩ | ⟨-, e⟩ | ⟨-, -, e⟩
  · exact absurd e h0
  · exact ⟨_, e⟩
  · exact ⟨_, e⟩
  · exact ⟨_, e⟩
theorem s_Oi {own : String} {i : Nat} (ho : (rMy M).cls = own) (hlk : Cond.methodLink own i Lib.objectInit ∈ rTG) (hins : Cond.instanceMethod Lib.objectInit ∈ rTG) (hcode : Cond.code Lib.objectInit ⟨#[0xb1]⟩ 1 none ∈ rTG) (hdg : rDec M pc (.invokespecial i) 3 pc') (kx : rSnd lab M pc' nx) : rSnd lab M pc (oOi nx) := by
  intro w l d jb jc hb hc L S h res hh
  obtain ⟨hdg, rfl⟩ := hdg
  obtain ⟨oo, S1, rfl, hh⟩ := iP hh
  obtain ⟨a, rfl, hh⟩ := iA hh
  obtain ⟨hh, hsl⟩ := rSh_i hh
  obtain ⟨e0, hh⟩ := iBf hh
  refine (kx w l d jb jc hb hc _ _ _ _ hh).step fun hX hP hl hLo hS kk => ?_
  obtain ⟨v3, st3, rfl, g3, hS3⟩ := hS.cons
  obtain ⟨a9, rfl⟩ := rDr g3 (bqf e0)
  have ht := hX.2.2.2.2.1
  have hfr := hX.2.2.2.2.2.2.2.2.2.2.1
  have hlo := hX.2.2.2.2.2.2.2.2.2.2.2.1
  have hlen := hS3.len
  unfold rFr at hfr
  unfold rLo at hlo
  refine W.objInit hX.1 hX.2.1 (ho ▸ hX.2.2.2.1) (ht _ hlk) (ht _ hins) (ht _ hcode) rfl (hl.1.trans hX.2.2.1.symm) rfl hdg (by omega) ?_ (kk _ _ _ hl hLo hS3)
  show 2 * 0 + _ + 12 ≤ _
  omega
-- switches
def rAllS (lab : Nat → rM × Nat) (M : rM) (pc : Nat) : List rP → List Int → Prop
  | [], [] => True
  | p :: ps, o :: os => (∃ tg : Nat, (pc : Int) + o = (tg : Int) ∧ rSnd lab M tg p) ∧ rAllS lab M pc ps os
  | _, _ => False
theorem rAllS_get : ∀ {ps : List rP} {os : List Int}, rAllS lab M pc ps os → ∀ (x : Nat) (df : rP), (x < ps.length → ∃ o tg, os[x]? = some o ∧ (pc : Int) + o = ((tg : Nat) : Int) ∧ rSnd lab M tg (rNth ps x df)) ∧ (ps.length ≤ x → rNth ps x df = df)
  | [], [], _, x, df => ⟨fun h => absurd h (Nat.not_lt_zero _), fun _ => rfl⟩
  | p :: ps, o :: os, h, x, df => by
    cases x with
    | zero =>
      obtain ⟨⟨tg, h1, h2⟩, -⟩ := h
      exact ⟨fun _ => ⟨o, tg, rfl, h1, h2⟩, fun q => absurd q (by simp)⟩
    | succ x =>
      obtain ⟨a, b⟩ := rAllS_get h.2 x df
      exact ⟨fun q => a (Nat.lt_of_succ_lt_succ q), fun q => b (Nat.le_of_succ_le_succ q)⟩
  | [], _ :: _, h, _, _ => h.elim
  | _ :: _, [], h, _, _ => h.elim
theorem s_Tsw {ps : List rP} {len : Nat} {df : rP} {dflt hi : Int} {offs : Array Int} {ln tgd : Nat} (hdg : decode (rMc_ M) pc = .ok (.tableswitch dflt 0 hi offs, ln)) (hlen : ps.length = len) (hl3 : len < 2147483648) (hhi : hi = (len : Int) - 1) (hall : rAllS lab M pc ps offs.toList) (htd : (pc : Int) + dflt = (tgd : Int)) (kd : rSnd lab M tgd df) : rSnd lab M pc (oTsw ps len df) := by
  intro w l d jb jc hb hc L S h res hh
  obtain ⟨vv, S1, rfl, hh⟩ := iP hh
  rcases iS hh with ⟨x, rfl, hq⟩ | ⟨q, rfl, hh⟩
  · obtain ⟨k1, k2⟩ := rAllS_get hall x df
    by_cases hx : x < ps.length
    · obtain ⟨o, tg, e1, e2, e3⟩ := k1 hx
      refine (e3 w l d jb jc hb hc _ _ _ _ hq).step fun hX hP hl hLo hS kk => ?_
      obtain ⟨v3, st3, rfl, g3, hS3⟩ := hS.cons
      obtain ⟨l2, rfl⟩ := g3.i
      have hti : (nI x).toInt = (x : Int) := by rw [nI_ti l2, if_pos (by omega)]
      refine lv_tableIn hX.1 hX.2.1 hdg (by rw [hti]; omega) (by rw [hti]; omega) (off := o) ?_ e2 (kk _ _ _ hl hLo hS3)
      rw [hti, show ((x : Int) - 0).toNat = x by omega, ← Array.getElem?_toList]
      exact e1
    · rw [k2 (by omega)] at hq
      refine (kd w l d jb jc hb hc _ _ _ _ hq).step fun hX hP hl hLo hS kk => ?_
      obtain ⟨v3, st3, rfl, g3, hS3⟩ := hS.cons
      obtain ⟨l2, rfl⟩ := g3.i
      refine lv_tableOut hX.1 hX.2.1 hdg ?_ htd (kk _ _ _ hl hLo hS3)
      rw [nI_ti l2]
      split <;> omega
  · obtain ⟨p1, q1, e1, hh⟩ := iX1 hh
    obtain ⟨c1, hh⟩ := iBt hh
    obtain ⟨c2, hh⟩ := iBt hh
    obtain ⟨c3, hh⟩ := iBf hh
    refine (kd w l d jb jc hb hc _ _ _ _ hh).step fun hX hP hl hLo hS kk => ?_
    obtain ⟨v3, st3, rfl, g3, hS3⟩ := hS.cons
    rw [e1] at g3
    have b1 := bl c1
    have b2 := bl c2
    have b3 := blf c3
    obtain ⟨t, l2, rfl, f4, f5⟩ := g3.iv b2 b3
    refine lv_tableOut hX.1 hX.2.1 hdg ?_ htd (kk _ _ _ hl hLo hS3)
    rw [nI_ti l2]
    split <;> omega
theorem s_Lsw {x1 x2 tg1 tg2 tgd ln : Nat} {p1 p2 df : rP} {dflt o1 o2 : Int} (hdg : decode (rMc_ M) pc = .ok (.lookupswitch dflt #[((x1 : Int), o1), ((x2 : Int), o2)], ln)) (h12 : x1 < x2) (h3 : x2 < 2147483648) (t1 : (pc : Int) + o1 = (tg1 : Int)) (t2 : (pc : Int) + o2 = (tg2 : Int)) (td : (pc : Int) + dflt = (tgd : Int)) (k1 : rSnd lab M tg1 p1) (k2 : rSnd lab M tg2 p2) (kd : rSnd lab M tgd df) : rSnd lab M pc (oLsw x1 x2 p1 p2 df) := by
  intro w l d jb jc hb hc L S h res hh
  obtain ⟨vv, S1, rfl, hh⟩ := iP hh
  obtain ⟨x, rfl, hh⟩ := iI hh
  have hsort : ((#[((x1 : Int), o1), ((x2 : Int), o2)] : Array (Int × Int)).toList.zip ((#[((x1 : Int), o1), ((x2 : Int), o2)] : Array (Int × Int)).toList.drop 1)).all (fun (a, next) => a.1 < next.1) = true := by
    simp
    omega
  rcases iB hh with ⟨c1, hq⟩ | ⟨c1, hq⟩
  · obtain rfl : x = x1 := bq c1
    refine (k1 w l d jb jc hb hc _ _ _ _ hq).step fun hX hP hl hLo hS kk => ?_
    obtain ⟨v3, st3, rfl, g3, hS3⟩ := hS.cons
    obtain ⟨l2, rfl⟩ := g3.i
    have hti : (nI x).toInt = (x : Int) := by rw [nI_ti l2, if_pos (by omega)]
    refine lv_lookup hX.1 hX.2.1 hdg hsort ?_ t1 (kk _ _ _ hl hLo hS3)
    rw [hti]
    simp [Op.lookupswitch.offset]
  rcases iB hq with ⟨c2, hr⟩ | ⟨c2, hr⟩
  · obtain rfl : x = x2 := bq c2
    refine (k2 w l d jb jc hb hc _ _ _ _ hr).step fun hX hP hl hLo hS kk => ?_
    obtain ⟨v3, st3, rfl, g3, hS3⟩ := hS.cons
    obtain ⟨l2, rfl⟩ := g3.i
    have hti : (nI x).toInt = (x : Int) := by rw [nI_ti l2, if_pos (by omega)]
    refine lv_lookup hX.1 hX.2.1 hdg hsort ?_ t2 (kk _ _ _ hl hLo hS3)
    rw [hti]
    have n1 : ¬ ((x : Int) = (x1 : Int)) := by omega
    have n2 : ¬ ((x1 : Int) = (x : Int)) := by omega
    simp [Op.lookupswitch.offset, n1, n2]
  · have m1 := bqf c1
    have m2 := bqf c2
    refine (kd w l d jb jc hb hc _ _ _ _ hr).step fun hX hP hl hLo hS kk => ?_
    obtain ⟨v3, st3, rfl, g3, hS3⟩ := hS.cons
    obtain ⟨l2, rfl⟩ := g3.i
    refine lv_lookup hX.1 hX.2.1 hdg hsort ?_ td (kk _ _ _ hl hLo hS3)
    rw [nI_ti l2]
    have n1 : ¬ ((x1 : Int) = if x < 2147483648 then (x : Int) else (x : Int) - 4294967296) := by split <;> omega
    have n2 : ¬ ((x2 : Int) = if x < 2147483648 then (x : Int) else (x : Int) - 4294967296) := by split <;> omega
    simp [Op.lookupswitch.offset, n1, n2, Ne.symm n1, Ne.symm n2]
end SND5
