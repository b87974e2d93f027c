-- ===== the law: its entry, its loop's head =====
set_option maxRecDepth 16384 in
theorem te0 (k : Nat) : tG0 tE0 k = (0, (0, 0)) := rfl
set_option maxRecDepth 16384 in
theorem te1 (k : Nat) : tG1 tE1 k = (0, (0, 0)) := by
  show @Bool.rec (fun _ => rC) (tG0 tE0 k) (tG0 tE0 k) _ = _
  cases Nat.beq (Nat.land k 1) 0 <;> exact te0 k
set_option maxRecDepth 16384 in
theorem te2 (k : Nat) : tG2 tE2 k = (0, (0, 0)) := by
  show @Bool.rec (fun _ => rC) (tG1 tE1 k) (tG1 tE1 k) _ = _
  cases Nat.beq (Nat.land k 2) 0 <;> exact te1 k
set_option maxRecDepth 16384 in
theorem te3 (k : Nat) : tG3 tE3 k = (0, (0, 0)) := by
  show @Bool.rec (fun _ => rC) (tG2 tE2 k) (tG2 tE2 k) _ = _
  cases Nat.beq (Nat.land k 4) 0 <;> exact te2 k
set_option maxRecDepth 16384 in
theorem te4 (k : Nat) : tG4 tE4 k = (0, (0, 0)) := by
  show @Bool.rec (fun _ => rC) (tG3 tE3 k) (tG3 tE3 k) _ = _
  cases Nat.beq (Nat.land k 8) 0 <;> exact te3 k
set_option maxRecDepth 16384 in
theorem te5 (k : Nat) : tG5 tE5 k = (0, (0, 0)) := by
  show @Bool.rec (fun _ => rC) (tG4 tE4 k) (tG4 tE4 k) _ = _
  cases Nat.beq (Nat.land k 16) 0 <;> exact te4 k
set_option maxRecDepth 16384 in
theorem te6 (k : Nat) : tG6 tE6 k = (0, (0, 0)) := by
  show @Bool.rec (fun _ => rC) (tG5 tE5 k) (tG5 tE5 k) _ = _
  cases Nat.beq (Nat.land k 32) 0 <;> exact te5 k
set_option maxRecDepth 16384 in
theorem te7 (k : Nat) : tG7 tE7 k = (0, (0, 0)) := by
  show @Bool.rec (fun _ => rC) (tG6 tE6 k) (tG6 tE6 k) _ = _
  cases Nat.beq (Nat.land k 64) 0 <;> exact te6 k
set_option maxRecDepth 16384 in
theorem te8 (k : Nat) : tG8 tE8 k = (0, (0, 0)) := by
  show @Bool.rec (fun _ => rC) (tG7 tE7 k) (tG7 tE7 k) _ = _
  cases Nat.beq (Nat.land k 128) 0 <;> exact te7 k
set_option maxRecDepth 16384 in
theorem te9 (k : Nat) : tG9 tE9 k = (0, (0, 0)) := by
  show @Bool.rec (fun _ => rC) (tG8 tE8 k) (tG8 tE8 k) _ = _
  cases Nat.beq (Nat.land k 256) 0 <;> exact te8 k
set_option maxRecDepth 16384 in
theorem rHp.empty {w : rW} {U : State} {ad : Nat → Nat} {H : Heap} {n a b : Nat} (h1 : 1 ≤ n) (h2 : n ≤ 512) (hs : wB w ≤ H.size) (hq : ∀ q : Nat, q < wB w → H[q]? = (wH w)[q]?) : rHp w U ad (tE9, (n, (a, (b, wS w)))) H :=
  ⟨⟨h1, h2, rfl, by show (tG9 tE9 0).1 = 0; rw [te9], fun k _ _ => by show (tG9 tE9 k).1 = 0; rw [te9]⟩, fun k _ => Or.inl (by show (tG9 tE9 k).1 = 0; rw [te9]), fun j k _ _ hj => absurd (by show (tG9 tE9 j).1 = 0; rw [te9]) hj, hs, hq⟩
noncomputable def nH (h : rH) (c : rC) (sz : Nat) : rH := (tS9 h.1 (hN h) c, (Nat.succ (hN h), (Nat.succ (hC h), (Nat.add h.2.2.2.1 sz, rScr h))))
set_option maxRecDepth 16384 in
theorem rNew_eq {h : rH} {c : rC} {sz : Nat} {k : Nat → rH → rR} (hb : Nat.ble (hN h) 510 = true) : rNew h c sz k = k (hN h) (nH h c sz) := by
  show @Bool.rec (fun _ => rR) none (k (hN h) (nH h c sz)) (Nat.ble (hN h) 510) = _
  rw [hb]
noncomputable def exN (r : rR) : rH := @Option.rec _ (fun _ => rH) (tE9, (1, (0, (0, [])))) (fun p => p.2) r
noncomputable def isN (r : rR) : Bool := @Option.rec _ (fun _ => Bool) false (fun p => @Sum.rec _ _ (fun _ => Bool) (fun v => @Option.rec _ (fun _ => Bool) true (fun _ => false) v) (fun _ => false) p.1) r
set_option maxRecDepth 16384 in
theorem isN_i {r : rR} (h : isN r = true) : r = some (.inl none, exN r) := by
  rcases r with _ | ⟨(_ | v) | e, h'⟩
  · cases h
  · rfl
  · cases h
  · cases h
noncomputable def jc0 : rJ := rMc tb 200000 11
noncomputable def hA (sc : List rV) : rH := (tE9, (1, (0, (0, sc))))
noncomputable def hA1 (sc : List rV) : rH := nH (hA sc) (2, (0, 0)) 13
noncomputable def hA2 (sc : List rV) : rH := exN (jc0 84 [vR (hN (hA sc))] [] (hA1 sc))
noncomputable def hA3 (sc : List rV) : rH := nH (hA2 sc) (24, (0, 0)) 10
noncomputable def hA4 (sc : List rV) : rH := exN (jc0 251 [vR (hN (hA2 sc))] [] (hA3 sc))
noncomputable def hA5 (sc : List rV) : rH := nH (hA4 sc) (5, (1, 0)) 1
noncomputable def lA (sc : List rV) : List rV := [vR 8192, vR (hN (hA sc)), vR (hN (hA2 sc)), vR (hN (hA4 sc)), vI 0]
def sc6 : List rV := [vX 0 4294967295, vX 0 4294967295, vX 0 4294967295, vX 0 4294967295, vX 0 4294967295, vX 0 4294967295]
noncomputable def rAnd (a b : Bool) : Bool := @Bool.rec (fun _ => Bool) false b a
set_option maxRecDepth 16384 in
theorem rAnd_i {a b : Bool} (h : rAnd a b = true) : a = true ∧ b = true := by
  cases a
  · cases h
  · exact ⟨rfl, h⟩
noncomputable def ckA (sc : List rV) : Bool := rAnd (isN (jc0 84 [vR (hN (hA sc))] [] (hA1 sc))) (rAnd (Nat.ble (hN (hA2 sc)) 510) (rAnd (isN (jc0 251 [vR (hN (hA2 sc))] [] (hA3 sc))) (rAnd (Nat.ble (hN (hA4 sc)) 510) (rAnd (Nat.ble (hN (hA5 sc)) 512) (rAnd (Nat.ble (hC (hA5 sc)) 600006) (Nat.ble (hA5 sc).2.2.2.1 7302024))))))
set_option maxRecDepth 100000 in
theorem ckA_6 : ckA sc6 = true := by decide +kernel
set_option maxRecDepth 16384 in
theorem oEnt_eq {k : Nat} {nx : rP} {j : rJ × rJ} {L S : List rV} {h : rH} (hb : Nat.ble (rLen L) k = true) : oEnt k nx j L S h = nx j L S h := by
  show @Bool.rec (fun _ => rR) none (nx j L S h) (Nat.ble (rLen L) k) = _
  rw [hb]
set_option maxRecDepth 16384 in
theorem oNew_n {kd sz : Nat} {nx : rP} {j : rJ × rJ} {L S : List rV} {h : rH} (hb : Nat.ble (hN h) 510 = true) : oNew kd sz nx j L S h = nx j L (vR (hN h) :: S) (nH h (kd, (0, 0)) sz) := rNew_eq hb
set_option maxRecDepth 16384 in
theorem oDup_r {nx : rP} {j : rJ × rJ} {L S : List rV} {a : Nat} {h : rH} : oDup nx j L (vR a :: S) h = nx j L (vR a :: vR a :: S) h := rfl
set_option maxRecDepth 16384 in
theorem oAs_r {g : rV → List rV → List rV} {nx : rP} {j : rJ × rJ} {L S : List rV} {a : Nat} {h : rH} : oAs g nx j L (vR a :: S) h = nx j (g (vR a) L) S h := rfl
set_option maxRecDepth 16384 in
theorem oIs_r {g : rV → List rV → List rV} {nx : rP} {j : rJ × rJ} {L S : List rV} {a : Nat} {h : rH} : oIs g nx j L (vI a :: S) h = nx j (g (vI a) L) S h := rfl
set_option maxRecDepth 16384 in
theorem oPsh_r {v : rV} {nx : rP} {j : rJ × rJ} {L S : List rV} {h : rH} : oPsh v nx j L S h = nx j L (v :: S) h := rfl
set_option maxRecDepth 16384 in
theorem oJb_r {id : Nat} {jb jc : rJ} {L S : List rV} {h : rH} : oJb id (jb, jc) L S h = jb id L S h := rfl
set_option maxRecDepth 16384 in
theorem oNwa_n {kd x : Nat} {nx : rP} {j : rJ × rJ} {L S : List rV} {h : rH} (hx : Nat.ble x 65536 = true) (hb : Nat.ble (hN h) 510 = true) : oNwa kd nx j L (vI x :: S) h = nx j L (vR (hN h) :: S) (nH h (kd, (x, 0)) x) := by
  show @Bool.rec (fun _ => rR) none (rNew h (kd, (x, 0)) x fun a h => nx j L (vR a :: S) h) (Nat.ble x 65536) = _
  rw [hx]
  exact rNew_eq hb
set_option maxRecDepth 16384 in
theorem oCi_n {id a : Nat} {nx : rP} {jb jc : rJ} {L : List rV} {x : rV} {h h' : rH} (ha : Nat.beq a 0 = false) (hr : jc id [vR a] [] h = some (.inl none, h')) : oCi id 0 nx (jb, jc) L [vR a, x] h = nx (jb, jc) L [x] h' := by
  show @Bool.rec (fun _ => rR) (rRet (jc id [vR a] [] h) (fun v h => nx (jb, jc) L (rAns v [x]) h) (fun _ _ => none)) none (Nat.beq a 0) = _
  rw [ha]
  show rRet (jc id [vR a] [] h) (fun v h => nx (jb, jc) L (rAns v [x]) h) (fun _ _ => none) = _
  rw [hr]
  rfl
set_option maxRecDepth 100000 in
theorem ckB_6 : Nat.beq (hN (hA2 sc6)) 0 = false := by decide +kernel
set_option maxRecDepth 16384 in
theorem rEntry (jb : rJ) : B28_0 (jb, jc0) [vR 8192] [] (hA sc6) = jb 30 (lA sc6) [] (hA5 sc6) := by
  obtain ⟨c1, h⟩ := rAnd_i ckA_6
  obtain ⟨c2, h⟩ := rAnd_i h
  obtain ⟨c3, h⟩ := rAnd_i h
  obtain ⟨c4, h⟩ := rAnd_i h
  have e1 := isN_i c1
  have e3 := isN_i c3
  have f1 : ∀ (nx : rP) (L : List rV), oCi 84 0 nx (jb, jc0) L [vR (hN (hA sc6)), vR (hN (hA sc6))] (nH (hA sc6) (2, (0, 0)) 13) = nx (jb, jc0) L [vR (hN (hA sc6))] (hA2 sc6) := fun nx L => oCi_n rfl e1
  have f3 : ∀ (nx : rP) (L : List rV), oCi 251 0 nx (jb, jc0) L [vR (hN (hA2 sc6)), vR (hN (hA2 sc6))] (nH (hA2 sc6) (24, (0, 0)) 10) = nx (jb, jc0) L [vR (hN (hA2 sc6))] (hA4 sc6) := fun nx L => oCi_n ckB_6 e3
  have c0 : Nat.ble (hN (hA sc6)) 510 = true := rfl
  unfold B28_0
  rw [oEnt_eq rfl, oNew_n c0, oDup_r, f1, oAs_r, oNew_n c2, oDup_r, f3, oAs_r, oPsh_r, oNwa_n rfl c4, oAs_r, oPsh_r, oIs_r, oJb_r]
  rfl
-- the script in the place of another one
noncomputable def setS (h : rH) (sc : List rV) : rH := (h.1, (h.2.1, (h.2.2.1, (h.2.2.2.1, sc))))
-- a run that answers true in the room
noncomputable def okR (r : rR) : Bool := @Option.rec _ (fun _ => Bool) false (fun p => @Sum.rec _ _ (fun _ => Bool) (fun v => @Option.rec _ (fun _ => Bool) false (fun x => @Sum.rec _ _ (fun _ => Bool) (fun n => rAnd (Nat.beq n 1) (rAnd (Nat.ble (hC p.2) 600006) (Nat.ble p.2.2.2.2.1 7302024))) (fun _ => false) x) v) (fun _ => false) p.1) r
set_option maxRecDepth 16384 in
theorem okR_i {r : rR} (h : okR r = true) : ∃ h', r = some (.inl (some (vI 1)), h') ∧ hC h' ≤ 600006 ∧ h'.2.2.2.1 ≤ 7302024 := by
  rcases r with _ | ⟨(_ | (n | x)) | e, h'⟩
  · cases h
  · cases h
  · obtain ⟨h1, h⟩ := rAnd_i h
    obtain ⟨h2, h3⟩ := rAnd_i h
    obtain rfl := bq h1
    exact ⟨h', rfl, bl h2, bl h3⟩
  · cases h
  · cases h
noncomputable def runH (sc : List rV) : rR := rLp tb jc0 200000 30 (lA sc6) [] (setS (hA5 sc6) sc)
noncomputable def resS : rO × rH := (.inl (some (vI 1)), (tE9, (512, (600006, (7302024, sc6)))))
-- every script of six ints is one of those that are run
def rCov : Prop := ∀ xs : Nat → Int32, ∃ sc : List rV, sc.length = 6 ∧ (∀ j, j < 6 → rVi (sc.getD j vU) (xs j)) ∧ okR (runH sc) = true
set_option maxRecDepth 16384 in
theorem rHead (hcov : rCov) {l : Launch} (hst : l.stackTraces = false) (hent : ∀ id, (lab id).2 = 0 → plainName (rMy (lab id).1).cls = true ∧ ∀ j A h res, (tb id).2 j A [] h = some res → A.length ≤ rMl (lab id).1) (z : Nat) (zH : Heap) (D : va_G) (b fa : Nat) : rTo (z, zH, D, b, fa, sc6) l 12 (lab 30).1 (lab 30).2 (lA sc6) [] (hA5 sc6) resS := by
  obtain ⟨c1, h⟩ := rAnd_i ckA_6
  obtain ⟨c2, h⟩ := rAnd_i h
  obtain ⟨c3, h⟩ := rAnd_i h
  obtain ⟨c4, h⟩ := rAnd_i h
  obtain ⟨c5, h⟩ := rAnd_i h
  obtain ⟨c6, c7⟩ := rAnd_i h
  have c5 := bl c5
  have c6 := bl c6
  have c7 := bl c7
  refine ⟨⟨c5, c6, c7⟩, fun p e R s m args below meth c Q mc ms n0 ad0 hX hF ad H locs cells slots ls lv st hn hP hs hl hLo hS hcc hlo => ?_⟩
  have hK := hX.2.2.2.2.2.2.2.2.2.1
  obtain ⟨kc, ⟨⟨L, xs, x1, x2, x3, x4⟩, er⟩, kn, kx⟩ := hK
  have x2 : 6 = L := x2
  subst x2
  obtain ⟨sc, s1, s2, s3⟩ := hcov xs
  obtain ⟨h', e1, e2, e3⟩ := okR_i s3
  have hK' : rKx (z, zH, D, b, fa, sc) s := ⟨kc, ⟨⟨6, xs, x1, s1, x3, s2⟩, er⟩, kn, kx⟩
  have hlp : ∀ n id, rGood (z, zH, D, b, fa, sc) l 12 (lab id).1 (lab id).2 (rLp tb jc0 n id) := by
    intro n
    induction n with
    | zero => intro id L S h res hh; cases hh
    | succ n ih =>
      intro id L S h res hh
      exact rTs_ok id (z, zH, D, b, fa, sc) l 11 (rLp tb jc0 n) jc0 ih (rMachC hst rTs_ok hent 200000 11) L S h res hh
  have hto := hlp 200000 30 _ _ _ _ e1
  have hX' : rCtx (z, zH, D, b, fa, sc) 12 (lab 30).1 p l R s m args meth c := ⟨hX.1, hX.2.1, hX.2.2.1, hX.2.2.2.1, hX.2.2.2.2.1, hX.2.2.2.2.2.1, hX.2.2.2.2.2.2.1, hX.2.2.2.2.2.2.2.1, hX.2.2.2.2.2.2.2.2.1, hK', hX.2.2.2.2.2.2.2.2.2.2⟩
  have hF' : rFin (z, zH, D, b, fa, sc) (lab 30).1 ((.inl (some (vI 1)) : rO), h') p l e R s m args below meth c Q mc ms n0 ad0 := by
    refine ⟨hF.1, hF.2.1, fun r ad2 H2 locs2 pc2 ls2 v i h1 h2 h3 h4 h5 h6 h7 h8 h9 => ?_, fun e9 h1 => by cases h1⟩
    obtain rfl : some (vI 1) = r := Sum.inl.inj h1
    refine hF.2.2.1 (some (vI 1)) ad2 H2 locs2 pc2 ls2 v i rfl ?_ h3 h4 h5 h6 (rHp.empty (w := (z, zH, D, b, fa, sc6)) (by decide) (by decide) h7.2.2.2.1 h7.2.2.2.2) h8 h9
    cases v with
    | none => exact h2.elim
    | some v => exact h2
  obtain ⟨⟨a1, a2, a3, a4, a5⟩, hb, hd, he, hf⟩ := hP
  have hP' : rHp (z, zH, D, b, fa, sc) s ad (setS (hA5 sc6) sc) H := ⟨⟨a1, a2, rfl, a4, a5⟩, hb, hd, he, hf⟩
  have b1 : cells + 600006 ≤ mc + hC (hA5 sc6) := hcc.1
  have b2 : slots + 7302024 ≤ ms + (hA5 sc6).2.2.2.1 := hcc.2
  obtain rfl := hS.nil
  exact hto.2 p e R s m args below meth c Q mc ms n0 ad0 hX' hF' ad H locs cells slots ls lv [] hn hP' hs hl hLo trivial ⟨by show cells + hC h' ≤ mc + hC (hA5 sc6); omega, by show slots + h'.2.2.2.1 ≤ ms + (hA5 sc6).2.2.2.1; omega⟩ hlo
set_option maxRecDepth 16384 in
theorem rLaw6 (hcov : rCov) {l : Launch} (hst : l.stackTraces = false) (hent : ∀ id, (lab id).2 = 0 → plainName (rMy (lab id).1).cls = true ∧ ∀ j A h res, (tb id).2 j A [] h = some res → A.length ≤ rMl (lab id).1) (z : Nat) (zH : Heap) (D : va_G) (b fa : Nat) : rTo (z, zH, D, b, fa, sc6) l 12 M28 0 [vR 8192] [] (hA sc6) resS := by
  classical
  have hb : ∀ id, rGood (z, zH, D, b, fa, sc6) l 12 (lab id).1 (lab id).2 ((fun id L S h => if id = 30 ∧ L = lA sc6 ∧ S = [] ∧ h = hA5 sc6 then some resS else none : rJ) id) := by
    intro id L S h res hh
    dsimp only at hh
    split at hh
    · rename_i hq
      obtain ⟨rfl, rfl, rfl, rfl⟩ := hq
      cases hh
      exact rHead hcov hst hent z zH D b fa
    · cases hh
  refine P28_0 (z, zH, D, b, fa, sc6) l 11 _ jc0 hb (rMachC hst rTs_ok hent 200000 11) [vR 8192] [] (hA sc6) resS ?_
  rw [rEntry]
  exact if_pos ⟨rfl, rfl, rfl, rfl⟩
