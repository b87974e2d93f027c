-- ===== from the law's entry to its end =====
noncomputable def scN (n : Nat) : List rV := List.replicate n (vX 0 4294967295)
noncomputable def runN (sc : List rV) : rR := rMc tb 200000 12 29 [vR 8192] [] (hA sc)
set_option maxRecDepth 100000 in
theorem kz0 : okR (runN []) = true := by decide +kernel
set_option maxRecDepth 100000 in
theorem kz1 : okR (runN [vX 0 4294967295]) = true := by decide +kernel
set_option maxRecDepth 100000 in
theorem kz2 : okR (runN [vX 0 4294967295, vX 0 4294967295]) = true := by decide +kernel
set_option maxRecDepth 100000 in
theorem kz3 : okR (runN [vX 0 4294967295, vX 0 4294967295, vX 0 4294967295]) = true := by decide +kernel
set_option maxRecDepth 100000 in
theorem kz4 : okR (runN [vX 0 4294967295, vX 0 4294967295, vX 0 4294967295, vX 0 4294967295]) = true := by decide +kernel
set_option maxRecDepth 100000 in
theorem kz5 : okR (runN [vX 0 4294967295, vX 0 4294967295, vX 0 4294967295, vX 0 4294967295, vX 0 4294967295]) = true := by decide +kernel
set_option maxRecDepth 16384 in
theorem kzs {L : Nat} (h : L < 6) : okR (runN (scN L)) = true := by
  have : L = 0 ∨ L = 1 ∨ L = 2 ∨ L = 3 ∨ L = 4 ∨ L = 5 := by omega
  rcases this with rfl | rfl | rfl | rfl | rfl | rfl
  · exact kz0
  · exact kz1
  · exact kz2
  · exact kz3
  · exact kz4
  · exact kz5
set_option maxRecDepth 16384 in
theorem rAny (y : Int32) : rVi (vX 0 4294967295) y := by
  obtain ⟨t, ht, rfl⟩ := nI_all y
  exact Or.inl ⟨t, ht, rfl, Nat.zero_le _, by omega⟩
set_option maxRecDepth 16384 in
theorem scN_get {n j : Nat} (h : j < n) : (scN n).getD j vU = vX 0 4294967295 := by
  unfold scN
  rw [List.getD_eq_getElem?_getD, List.getElem?_replicate, if_pos h]
  rfl
set_option maxRecDepth 16384 in
theorem rStart {p : Program} {e : Env} {s : State} {m : MethodId} {below : List Frame} {meth : Method} {c : Code} (l : Launch) (hst : l.stackTraces = false) {b L : Nat} {xs : Nat → Int32} (C0 : lw_At p s m meth c b L xs) {D : va_G} {fa : Nat} {sc : List rV} (hK : rKx (s.heap.size, s.heap, D, b, fa, sc) s) {h' : rH} (h1 : hC h' ≤ 600006) (h2 : h'.2.2.2.1 ≤ 7302024)
    (hto : rTo (s.heap.size, s.heap, D, b, fa, sc) l 12 M28 0 [vR 8192] [] (hA sc) ((.inl (some (vI 1)) : rO), h')) : W p l e room_1 s m #[Value.ref b] below meth c s.heap [] 0 0 (lw_Z below #[Value.ref b] s) (entryFrame m ([Value.ref b] : List Value).toArray 9) := by
  obtain ⟨hx, hb, hr, hml, hown, hts, hX, hbl, hlocks, hg⟩ := C0
  rw [lg_entry_eq m [Value.ref b] 9]
  have hd0 := Drawn.sameBut.refl s.drawn lw_cs
  have hCtx : rCtx (s.heap.size, s.heap, D, b, fa, sc) 12 M28 p l room_1 s m #[Value.ref b] meth c :=
    ⟨hx, hb, hml, hown, fun wd hwd => hts _ (List.mem_filter.mp hwd).1, hlocks, fun h => absurd h (by decide), hst, fun h => h.elim (fun h => absurd rfl h) (fun h => absurd rfl h), hK, by decide, by decide, fun q _ => rfl⟩
  have hF : rFin (s.heap.size, s.heap, D, b, fa, sc) M28 ((.inl (some (vI 1)) : rO), h') p l e room_1 s m #[Value.ref b] below meth c (lw_Z below #[Value.ref b] s) 600006 7302024 1 (fun _ => 0) := by
    refine ⟨by decide, by decide, fun r ad H locs pc ls v i q1 q2 q3 q4 q5 q6 q7 q8 q9 => ?_, fun e9 q => by cases q⟩
    obtain rfl : some (vI 1) = r := Sum.inl.inj q1
    obtain ⟨v', rfl⟩ : ∃ v', v = some v' := by
      cases v with
      | none => exact q2.elim
      | some v' => exact ⟨v', rfl⟩
    have q2 : rVal (s.heap.size, s.heap, D, b, fa, sc) ad (hN h') (vI 1) v' := q2
    obtain ⟨-, rfl⟩ := q2.i
    have q3 : i = .ireturn := q3
    subst q3
    refine va_forget (fun q hq => q9 q hq) ?_
    exact lw_ret (d0 := s.drawn) hd0 hx hb hr hlocks q4
  have hP : rHp (s.heap.size, s.heap, D, b, fa, sc) s (fun _ => 0) (hA sc) s.heap := rHp.empty (w := (s.heap.size, s.heap, D, b, fa, sc)) (by decide) (by decide) (Nat.le_refl _) (fun _ _ => rfl)
  exact hto.2 p e room_1 s m #[Value.ref b] below meth c _ 600006 7302024 1 (fun _ => 0) hCtx hF (fun _ => 0) s.heap [] 0 0 _ (lv_args 0 [Value.ref b]) [] ⟨Nat.le_refl _, rExt.rf⟩ hP (Nat.le_refl _) (lv_entry [Value.ref b] (by simp [lg_sl, Value.category])) (fun i => by
    match i with
    | 0 => exact Or.inr ⟨.ref b, List.mem_cons_self, Or.inr (Or.inl ⟨rfl, rfl⟩)⟩
    | i + 1 => exact Or.inl rfl) trivial ⟨by show 0 + hC h' ≤ 600006 + 0; omega, by show 0 + h'.2.2.2.1 ≤ 7302024 + 0; omega⟩ (fun z hz => nomatch hz)
set_option maxRecDepth 16384 in
theorem whole_start {p : Program} {e : Env} {s : State} {m : MethodId} {below : List Frame} {meth : Method} {c : Code} (l : Launch) (hflags : l.flags = flags0) {b L : Nat} {xs : Nat → Int32} (hL : L ≤ 6) (C0 : lw_At p s m meth c b L xs) : W p l e room_1 s m #[Value.ref b] below meth c s.heap [] 0 0 (lw_Z below #[Value.ref b] s) (entryFrame m ([Value.ref b] : List Value).toArray 9) := by
  have hst : l.stackTraces = false := by
    unfold Launch.stackTraces
    rw [hflags]
    decide
  have hC := C0
  obtain ⟨hx, hb, hr, hml, hown, hts, hX, hbl, hlocks, hg⟩ := hC
  by_cases h6 : L < 6
  · obtain ⟨D, fa, hK⟩ := rWorld hL hts hX hbl hg (scN L) (by unfold scN; simp) (fun j hj => by rw [scN_get hj]; exact rAny _)
    obtain ⟨h', e1, e2, e3⟩ := okR_i (kzs h6)
    exact rStart l hst C0 hK e2 e3 (rMach (w := (s.heap.size, s.heap, D, b, fa, scN L)) hst rTs_ok rEs_ok 200000 12 29 _ _ _ _ e1)
  · obtain rfl : L = 6 := by omega
    obtain ⟨D, fa, hK⟩ := rWorld hL hts hX hbl hg sc6 rfl (fun j hj => by
      have : sc6.getD j vU = vX 0 4294967295 := scN_get (n := 6) hj
      rw [this]
      exact rAny _)
    exact rStart l hst C0 hK (by decide) (by decide) (rLaw6 rCov_all hst rEs_ok s.heap.size s.heap D b fa)
