-- ===== the world at the start =====
theorem rNg_of {wd : Cond} (hk : rNk wd = true) {args : Array Value} {s : State} (h : wd.before args s = true) : va_Nw wd s := by
  cases wd with
  | castable c t => exact va_Nw.of rfl h
  | arrayOver ty => exact h
  | declares x => exact va_Nw.of rfl h
  | privateMethod y => exact va_Nw.of rfl h
  | methodLinkNest a i x q => exact va_Nw.of rfl h
  | fieldLinkNest a i b n d q => exact va_Nw.of rfl h
  | _ => cases hk
theorem rInst : ∀ (ci : Nat) (r : vw_C), rCls[ci]? = some r → ∃ n, Cond.instantiable r.1 n ∈ rTG := by
  intro ci r h
  match ci, h with
  | 0, h => cases h; exact ⟨13, wd57⟩
  | 1, h => cases h; exact ⟨12, wd99⟩
  | 2, h => cases h; exact ⟨8, wd251⟩
  | 3, h => cases h; exact ⟨3, wd68⟩
  | 4, h => cases h; exact ⟨6, wd159⟩
  | 5, h => cases h; exact ⟨12, wd375⟩
  | 6, h => cases h; exact ⟨8, wd339⟩
  | 7, h => cases h; exact ⟨7, wd153⟩
  | 8, h => cases h; exact ⟨11, wd296⟩
  | 9, h => cases h; exact ⟨1, wd93⟩
  | 10, h => cases h; exact ⟨1, wd235⟩
  | 11, h => cases h; exact ⟨10, wd1667⟩
  | 12, h => cases h; exact ⟨2, wd1676⟩
  | 13, h => cases h; exact ⟨3, wd2134⟩
  | 14, h => cases h; exact ⟨2, wd1712⟩
  | 15, h => cases h; exact ⟨1, wd2156⟩
  | 16, h => cases h; exact ⟨1, wd2172⟩
  | 17, h => cases h; exact ⟨2, wd2193⟩
  | 18, h => cases h; exact ⟨2, wd2270⟩
  | 19, h => cases h; exact ⟨3, wd1807⟩
  | 20, h => cases h; exact ⟨6, wd1915⟩
  | 21, h => cases h; exact ⟨6, wd2418⟩
  | 22, h => cases h; exact ⟨5, wd2760⟩
  | 23, h => cases h; exact ⟨4, wd2717⟩
  | 24, h => cases h; exact ⟨3, wd1889⟩
  | ci + 25, h => cases h
theorem rClsD {args : Array Value} {s : State} (ht : ∀ wd ∈ rTG, wd.before args s = true) : ∃ D : va_G, ∀ (ci : Nat) (r : vw_C), rCls[ci]? = some r → u_Kn s r.1 r.2.1 r.2.2 (D.1 ci) (D.2 ci) := by
  have h : ∀ ci : Nat, ∃ q : ClassId × (Nat → Nat), ∀ r : vw_C, rCls[ci]? = some r → u_Kn s r.1 r.2.1 r.2.2 q.1 q.2 := by
    intro ci
    cases hr : rCls[ci]? with
    | none => exact ⟨(0, fun _ => 0), fun r h => by cases h⟩
    | some r =>
      obtain ⟨n, hn⟩ := rInst ci r hr
      obtain ⟨cC, iS, hK⟩ := u_known ht (rFacts ci r hr).1 (ht _ hn)
      exact ⟨(cC, iS), fun r' h' => by cases h'; exact hK⟩
  exact ⟨(fun ci => (Classical.choose (h ci)).1, fun ci => (Classical.choose (h ci)).2), fun ci r hr => Classical.choose_spec (h ci) r hr⟩
theorem rStr_at {args : Array Value} {s : State} (ht : ∀ wd ∈ lw_tbl, wd.before args s = true) (hs : ∀ c ∈ flatC (Jvm.Cond.and given_1 narrow_1), c.before args s = true) : ∀ q ∈ rStr, ∃ sa, vk_R q.1 q.2.1 q.2.2 sa s := by
  have one : ∀ (own : String) (i : Nat) (text : String), Cond.stringRef own i text ∈ lw_tbl → (Cond.exactly (.string own i) "java/lang/String") ∈ flatC (Jvm.Cond.and given_1 narrow_1) → ∃ sa, vk_R own i text sa s := fun own i text h1 h2 => by
    obtain ⟨a, c, cell, k, e1, -⟩ := Cond.exactly_spec (hs _ h2)
    exact ⟨a, vk_R.of (ht _ h1) e1⟩
  exact List.forall_mem_cons.mpr ⟨one "WordWright" 174 "no such MACHINE" (List.mem_append_right _ (tq6 _ (List.mem_of_getElem? (i := 234) rfl))) (by decide +kernel), List.forall_mem_cons.mpr ⟨one "WordWright" 340 "no such STEP" (List.mem_append_right _ (tq7 _ (List.mem_of_getElem? (i := 202) rfl))) (by decide +kernel), List.forall_mem_cons.mpr ⟨one "WordWright" 277 "no such SCHEMA, or LETTER" (List.mem_append_right _ (tq7 _ (List.mem_of_getElem? (i := 124) rfl))) (by decide +kernel), List.forall_mem_cons.mpr ⟨one "WordWright" 122 "no such LANGUAGE" (List.mem_append_right _ (tq6 _ (List.mem_of_getElem? (i := 160) rfl))) (by decide +kernel), List.forall_mem_cons.mpr ⟨one "WordWright" 219 "no such MACHINE, or LANGUAGE" (List.mem_append_right _ (tq7 _ (List.mem_of_getElem? (i := 41) rfl))) (by decide +kernel), List.forall_mem_cons.mpr ⟨one "WordWright" 228 "no such VARIABLE" (List.mem_append_right _ (tq7 _ (List.mem_of_getElem? (i := 53) rfl))) (by decide +kernel), List.forall_mem_cons.mpr ⟨one "WordWright" 230 "no such LANGUAGE, or most is not 0 to 2" (List.mem_append_right _ (tq7 _ (List.mem_of_getElem? (i := 54) rfl))) (by decide +kernel), List.forall_mem_cons.mpr ⟨one "WordWright" 146 "no WORD" (List.mem_append_right _ (tq6 _ (List.mem_of_getElem? (i := 185) rfl))) (by decide +kernel), List.forall_mem_cons.mpr ⟨one "WordWright" 151 "letters is not 0 to 12" (List.mem_append_right _ (tq6 _ (List.mem_of_getElem? (i := 194) rfl))) (by decide +kernel), List.forall_mem_cons.mpr ⟨one "WordWright" 93 "no such KIND, or no such a or b for it" (List.mem_append_right _ (tq6 _ (List.mem_of_getElem? (i := 78) rfl))) (by decide +kernel), List.forall_mem_cons.mpr ⟨one "WordWright" 345 "what is not 0 to 9" (List.mem_append_right _ (tq7 _ (List.mem_of_getElem? (i := 210) rfl))) (by decide +kernel), List.forall_mem_cons.mpr ⟨one "WordWright" 295 "no such SCHEMA" (List.mem_append_right _ (tq7 _ (List.mem_of_getElem? (i := 149) rfl))) (by decide +kernel), List.forall_mem_cons.mpr ⟨one "WordWright" 137 "no such STATE, or LETTER" (List.mem_append_right _ (tq6 _ (List.mem_of_getElem? (i := 172) rfl))) (by decide +kernel), List.forall_mem_cons.mpr ⟨one "WordWright" 285 "no such PARENT, or LETTER" (List.mem_append_right _ (tq7 _ (List.mem_of_getElem? (i := 132) rfl))) (by decide +kernel), List.forall_mem_cons.mpr ⟨one "WordWright" 125 "what is not 0 to 5" (List.mem_append_right _ (tq6 _ (List.mem_of_getElem? (i := 164) rfl))) (by decide +kernel), List.forall_mem_cons.mpr ⟨one "WordWright" 350 "most is not 0 to 2" (List.mem_append_right _ (tq7 _ (List.mem_of_getElem? (i := 225) rfl))) (by decide +kernel), List.forall_mem_cons.mpr ⟨one "WordWright" 329 "no such STEP, or STRING" (List.mem_append_right _ (tq7 _ (List.mem_of_getElem? (i := 193) rfl))) (by decide +kernel), List.forall_mem_cons.mpr ⟨one "WordWright" 331 "what is not 0 to 3" (List.mem_append_right _ (tq7 _ (List.mem_of_getElem? (i := 194) rfl))) (by decide +kernel), List.forall_mem_cons.mpr ⟨one "WordWright" 318 "no such SORT, or no such a, b or c for it" (List.mem_append_right _ (tq7 _ (List.mem_of_getElem? (i := 179) rfl))) (by decide +kernel), List.forall_mem_cons.mpr ⟨one "WordWright" 243 "no such EQUATION" (List.mem_append_right _ (tq7 _ (List.mem_of_getElem? (i := 78) rfl))) (by decide +kernel), List.forall_mem_cons.mpr ⟨one "WordWright" 257 "there is no EQUATION" (List.mem_append_right _ (tq7 _ (List.mem_of_getElem? (i := 93) rfl))) (by decide +kernel), fun _ h => absurd h List.not_mem_nil⟩⟩⟩⟩⟩⟩⟩⟩⟩⟩⟩⟩⟩⟩⟩⟩⟩⟩⟩⟩⟩
theorem rFws_at {args : Array Value} {s : State} (ht : ∀ wd ∈ lw_tbl, wd.before args s = true) : ∀ q ∈ rFws, va_Fw q.1 q.2.1 q.2.2 s := by
  exact List.forall_mem_cons.mpr ⟨va_Fw.of (ht _ (List.mem_append_right _ (tq9 _ (List.mem_of_getElem? (i := 33) rfl)))) (ht _ (List.mem_append_right _ (tq9 _ (List.mem_of_getElem? (i := 32) rfl)))) (ht _ (List.mem_append_right _ (tq9 _ (List.mem_of_getElem? (i := 38) rfl)))) (ht _ (List.mem_append_right _ (tq9 _ (List.mem_of_getElem? (i := 36) rfl)))) (ht _ (List.mem_append_right _ (tq9 _ (List.mem_of_getElem? (i := 34) rfl)))), List.forall_mem_cons.mpr ⟨va_Fw.of (ht _ (List.mem_append_right _ (tq12 _ (List.mem_of_getElem? (i := 109) rfl)))) (ht _ (List.mem_append_right _ (tq12 _ (List.mem_of_getElem? (i := 108) rfl)))) (ht _ (List.mem_append_right _ (tq12 _ (List.mem_of_getElem? (i := 113) rfl)))) (ht _ (List.mem_append_right _ (tq12 _ (List.mem_of_getElem? (i := 111) rfl)))) (ht _ (List.mem_append_right _ (tq9 _ (List.mem_of_getElem? (i := 34) rfl)))), List.forall_mem_cons.mpr ⟨va_Fw.of (ht _ (List.mem_append_right _ (tq9 _ (List.mem_of_getElem? (i := 175) rfl)))) (ht _ (List.mem_append_right _ (tq9 _ (List.mem_of_getElem? (i := 174) rfl)))) (ht _ (List.mem_append_right _ (tq9 _ (List.mem_of_getElem? (i := 179) rfl)))) (ht _ (List.mem_append_right _ (tq9 _ (List.mem_of_getElem? (i := 177) rfl)))) (ht _ (List.mem_append_right _ (tq9 _ (List.mem_of_getElem? (i := 34) rfl)))), List.forall_mem_cons.mpr ⟨va_Fw.of (ht _ (List.mem_append_right _ (tq11 _ (List.mem_of_getElem? (i := 194) rfl)))) (ht _ (List.mem_append_right _ (tq11 _ (List.mem_of_getElem? (i := 193) rfl)))) (ht _ (List.mem_append_right _ (tq11 _ (List.mem_of_getElem? (i := 198) rfl)))) (ht _ (List.mem_append_right _ (tq11 _ (List.mem_of_getElem? (i := 196) rfl)))) (ht _ (List.mem_append_right _ (tq9 _ (List.mem_of_getElem? (i := 34) rfl)))), List.forall_mem_cons.mpr ⟨va_Fw.of (ht _ (List.mem_append_right _ (tq9 _ (List.mem_of_getElem? (i := 155) rfl)))) (ht _ (List.mem_append_right _ (tq9 _ (List.mem_of_getElem? (i := 154) rfl)))) (ht _ (List.mem_append_right _ (tq9 _ (List.mem_of_getElem? (i := 159) rfl)))) (ht _ (List.mem_append_right _ (tq9 _ (List.mem_of_getElem? (i := 157) rfl)))) (ht _ (List.mem_append_right _ (tq9 _ (List.mem_of_getElem? (i := 34) rfl)))), fun _ h => absurd h List.not_mem_nil⟩⟩⟩⟩⟩
theorem rWorld {s : State} {b L : Nat} {xs : Nat → Int32} (hL : L ≤ 6) (ht : ∀ wd ∈ lw_tbl, wd.before #[Value.ref b] s = true) (hX : va_X b L xs s s.heap) (hbl : b < s.heap.size) (hg : (Jvm.Cond.and given_1 narrow_1).before #[Value.ref b] s = true) (sc : List rV) (h1 : sc.length = L) (h2 : ∀ j, j < L → rVi (sc.getD j vU) (xs j)) :
    ∃ (D : va_G) (fa : Nat), rKx (s.heap.size, s.heap, D, b, fa, sc) s := by
  have hs := flat_of_before _ hg
  have htg : ∀ wd ∈ rTG, wd.before #[Value.ref b] s = true := fun wd h => ht wd (List.mem_filter.mp h).1
  obtain ⟨D, hD⟩ := rClsD htg
  have hA : ∀ a : Nat, a < s.heap.size → ¬ s.heap.size ≤ a := fun a h => Nat.not_le.mpr h
  have iniA := htg _ wd21
  have iniT := ht _ (List.mem_append_right _ (tq1 _ (List.mem_of_getElem? (i := 24) rfl)))
  obtain ⟨fa, cC, cell, k, e1, -, e3, -, e5, -, -⟩ := Cond.exactly_spec (hs (Cond.exactly (.static "java/util/ArrayList" "DEFAULTCAPACITY_EMPTY_ELEMENTDATA" "[Ljava/lang/Object;") "[Ljava/lang/Object;") (by decide +kernel))
  have hZ := va_Zof (A := fun q => s.heap.size ≤ q) (ht _ (List.mem_append_right _ (tq8 _ (List.mem_of_getElem? (i := 221) rfl)))) iniA e1 hA
  obtain ⟨harr, -⟩ := Cond.arrayOf_spec (hs (Cond.arrayOf (.static "java/util/ArrayList" "DEFAULTCAPACITY_EMPTY_ELEMENTDATA" "[Ljava/lang/Object;") (.object "java/lang/Object")) (by decide +kernel)) e1 e3
  have hlen := hs (Cond.eq (.length (.static "java/util/ArrayList" "DEFAULTCAPACITY_EMPTY_ELEMENTDATA" "[Ljava/lang/Object;")) (.int 0)) (by decide +kernel)
  have hsz : cell.slots.size.toInt32 = nI 0 := by
    cases hv : (Term.length (.static "java/util/ArrayList" "DEFAULTCAPACITY_EMPTY_ELEMENTDATA" "[Ljava/lang/Object;")).eval #[Value.ref b] s none [] s with
    | none => simp [Cond.before, Cond.holds, Cond.value, hv] at hlen
    | some v =>
      obtain ⟨a9, c9, f1, f2, f3⟩ := Term.length_spec hv
      cases e1.symm.trans f1
      obtain ⟨g1, -⟩ := State.arrayAt?_spec f2
      cases e3.symm.trans g1
      have hq := Cond.eq_ints (hv.trans (congrArg some f3)) (show (Term.int 0).eval #[Value.ref b] s none [] s = some (.int 0) from rfl)
      have h0 : cell.slots.size.toInt32 = 0 := by simpa [Cond.before, Cond.holds, hq] using hlen
      exact h0.trans rfl
  refine ⟨D, fa, hD, ⟨⟨L, xs, hX, h1, hL, h2⟩, hbl, hZ, ⟨cell, e3, harr, hsz, (Array.getElem?_eq_some_iff.mp e3).1⟩, vx_Zqof (ht _ (List.mem_append_right _ (tq4 _ (List.mem_of_getElem? (i := 144) rfl)))) iniT (hs _ (by decide +kernel)) hA, vx_Zqof (ht _ (List.mem_append_right _ (tq4 _ (List.mem_of_getElem? (i := 146) rfl)))) iniT (hs _ (by decide +kernel)) hA, rStr_at ht hs, rFws_at ht, rfl⟩, fun wd hwd => rNg_of (rNk_all wd hwd) (ht _ (List.mem_append_right _ (rNGs_in wd hwd))), ?_⟩
  intro q hq
  obtain rfl := List.mem_singleton.mp hq
  exact va_Nc.of (hs _ (by decide +kernel))
