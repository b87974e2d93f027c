-- ===== an array of arrays made at once =====
def rMkC (cA : ClassId) (N h0 i : Nat) : Cell := arrV cA N (fun j => if j < i then .ref (h0 + 1 + j) else .null)
def rMkS (s : State) (cA cB : ClassId) (N M : Nat) : Nat → State
  | 0 => s.pushCell (rMkC cA N s.heap.size 0)
  | i + 1 => ((rMkS s cA cB N M i).pushCell (arrV cB M (fun _ => .null))).setCell s.heap.size (rMkC cA N s.heap.size (i + 1))
theorem rMkC_next (cA : ClassId) (N h0 i : Nat) : (rMkC cA N h0 i).setSlot i (.ref (h0 + 1 + i)) = rMkC cA N h0 (i + 1) := by
  unfold rMkC
  rw [arrV_store]
  congr 1
  funext j
  unfold updV
  by_cases h1 : j = i
  · subst h1; rw [if_pos rfl, if_pos (by omega)]
  · rw [if_neg h1]
    by_cases h2 : j < i
    · show (if j < i then _ else _) = _
      rw [if_pos h2, if_pos (by omega)]
    · show (if j < i then _ else _) = _
      rw [if_neg h2, if_neg (by omega)]
theorem rMkS_f (s : State) (cA cB : ClassId) (N M : Nat) : ∀ i, (rMkS s cA cB N M i).heap.size = s.heap.size + 1 + i ∧ (rMkS s cA cB N M i).heap[s.heap.size]? = some (rMkC cA N s.heap.size i) ∧ (rMkS s cA cB N M i).vm = s.vm ∧ (rMkS s cA cB N M i).slotsUsed = s.slotsUsed + N + i * M ∧ (∀ q : Nat, q < s.heap.size → (rMkS s cA cB N M i).heap[q]? = s.heap[q]?) ∧ (∀ j, j < i → (rMkS s cA cB N M i).heap[s.heap.size + 1 + j]? = some (arrV cB M (fun _ => .null)))
  | 0 => ⟨by simp [rMkS], by simp [rMkS], rfl, by simp [rMkS, rMkC, arrV_size], fun q hq => State.heap_pushCell_of_lt _ _ hq, fun j hj => absurd hj (Nat.not_lt_zero _)⟩
  | i + 1 => by
    obtain ⟨f1, f2, f3, f4, f5, f6⟩ := rMkS_f s cA cB N M i
    have hlt : s.heap.size < (rMkS s cA cB N M i).heap.size := by omega
    have f2' : ((rMkS s cA cB N M i).pushCell (arrV cB M (fun _ => .null))).heap[s.heap.size]? = some (rMkC cA N s.heap.size i) := by rw [State.heap_pushCell_of_lt _ _ hlt]; exact f2
    refine ⟨?_, State.heap_setCell_self f2', by simp [rMkS, f3], ?_, fun q hq => ?_, fun j hj => ?_⟩
    · simp [rMkS, State.setCell, f1]; omega
    · simp [rMkS, f4, arrV_size, Nat.succ_mul]; omega
    · show (((rMkS s cA cB N M i).pushCell _).setCell s.heap.size _).heap[q]? = _
      rw [State.heap_setCell_other (Nat.ne_of_gt hq), State.heap_pushCell_of_lt _ _ (show q < (rMkS s cA cB N M i).heap.size by omega)]
      exact f5 q hq
    · show (((rMkS s cA cB N M i).pushCell _).setCell s.heap.size _).heap[s.heap.size + 1 + j]? = _
      rw [State.heap_setCell_other (show s.heap.size ≠ s.heap.size + 1 + j by omega)]
      by_cases hji : j < i
      · rw [State.heap_pushCell_of_lt _ _ (show s.heap.size + 1 + j < (rMkS s cA cB N M i).heap.size by omega)]; exact f6 j hji
      · rw [show s.heap.size + 1 + j = (rMkS s cA cB N M i).heap.size by omega]
        exact State.heap_pushCell_size _ _
theorem rMkS_top (s : State) (g : JFrame) (cA cB : ClassId) (N M : Nat) : ∀ i, rMkS (s.setTop g) cA cB N M i = (rMkS s cA cB N M i).setTop g
  | 0 => rfl
  | i + 1 => by simp only [rMkS, rMkS_top s g cA cB N M i, State.heap_setTop, State.pushCell_setTop, State.setCell_setTop]
section
variable {p : Program} {l : Launch} {e : Env} {R : Room} {s : State} {m : MethodId} {args : Array Value} {below : List Frame} {meth : Method} {c : Code} {T : State} {locs : List Loc} {cells slots : Nat}
theorem rMkS_st (X : Stand p l e R s m args below meth c T locs cells slots) (cA cB : ClassId) (N M : Nat) : ∀ i, ∃ L : List Loc, (∀ z ∈ L, z.base = T.heap.size) ∧ Stand p l e R s m args below meth c (rMkS T cA cB N M i) (locs ++ L) (cells + 1 + i) (slots + N + i * M)
  | 0 => by
    have h := X.pushed (rMkC cA N T.heap.size 0)
    have e1 : (rMkC cA N T.heap.size 0).slots.size = N := arrV_size _ _ _
    rw [e1] at h
    exact ⟨[], fun z hz => (nomatch hz), by simpa [rMkS] using h⟩
  | i + 1 => by
    obtain ⟨L, hL, Xi⟩ := rMkS_st X cA cB N M i
    obtain ⟨f1, f2, f3, f4, f5, f6⟩ := rMkS_f T cA cB N M i
    have f2' : ((rMkS T cA cB N M i).pushCell (arrV cB M (fun _ => .null))).heap[T.heap.size]? = some (rMkC cA N T.heap.size i) := by rw [State.heap_pushCell_of_lt _ _ (show T.heap.size < (rMkS T cA cB N M i).heap.size by omega)]; exact f2
    have h := (Xi.pushed (arrV cB M (fun _ => .null))).stored f2' i (.ref (T.heap.size + 1 + i))
    rw [arrV_size, rMkC_next] at h
    refine ⟨L ++ [⟨T.heap.size, i⟩], fun z hz => ?_, ?_⟩
    · rcases List.mem_append.mp hz with q | q
      · exact hL z q
      · rw [List.mem_singleton.mp q]
    · rw [show slots + N + (i + 1) * M = slots + N + i * M + M by rw [Nat.succ_mul]; omega, ← List.append_assoc]
      exact h
end
section
variable {E : CtlPost} {e : Env} {d : Bool} {acts : List Action} {s : State}
theorem rMkN {cA comp : ClassId} {k : Class} {C : FieldType} {n : Nat} (hC : C.isReference = true) (hk : s.vm.classes[cA]? = some k) (hkind : k.kind = .array comp C) (hn : n ≤ 65536) (ha : ¬ n > e.platform.arrayLengthLimit) (hb : ¬ n * componentBytes C > e.platform.maxHeapBytes)
    (hc : s.heap.size < e.platform.maxCells) (hs : s.slotsUsed + n ≤ e.platform.maxSlots) {Q : Addr → Pre} (hq : ∀ d' acts', Q s.heap.size d' acts' (s.pushCell (arrV cA n (fun _ => .null)))) : wp (Jvm.newArray cA n .null) Q E e d acts s := by
  refine W.newArray_of hk hkind ha hb hc hs ?_ fun acts' => ?_
  · cases C <;> first | (cases hC; done) | rfl
  · have := hq d acts'
    rw [← arrV_new] at this
    exact this
end
section
variable {E : CtlPost} {e : Env} {d : Bool} {acts : List Action} {s : State}
theorem rMk1 {cB comp : ClassId} {k : Class} {C : FieldType} {mI : Int32} {M : Nat} (hC : C.isReference = true) (hk : s.vm.classes[cB]? = some k) (hkind : k.kind = .array comp C) (hm0 : ¬ mI < 0) (hmM : mI.toNatClampNeg = M) (hn : M ≤ 65536) (ha : ¬ M > e.platform.arrayLengthLimit) (hb : ¬ M * componentBytes C > e.platform.maxHeapBytes)
    (hc : s.heap.size < e.platform.maxCells) (hs : s.slotsUsed + M ≤ e.platform.maxSlots) {Q : Addr → Pre} (hq : ∀ d' acts', Q s.heap.size d' acts' (s.pushCell (arrV cB M (fun _ => .null)))) : wp (multianewarray.make cB [mI]) Q E e d acts s := by
  have hdv : defaultValue C = .null := by cases C <;> first | (cases hC; done) | rfl
  rw [multianewarray.make]
  simp only [wp_bind', W.ite, hm0, if_false, wp_pure', W.theClass, hk, hkind, Option.some.injEq, exists_eq_left', hdv, hmM]
  exact rMkN hC hk hkind hn ha hb hc hs hq
theorem rMk2 {cA cB comp : ClassId} {kA kB : Class} {CA CB : FieldType} {nI9 mI : Int32} {N M : Nat} (hCA : CA.isReference = true) (hCB : CB.isReference = true) (hkA : s.vm.classes[cA]? = some kA) (hkindA : kA.kind = .array cB CA) (hkB : s.vm.classes[cB]? = some kB) (hkindB : kB.kind = .array comp CB) (hn0 : ¬ nI9 < 0) (hnN : nI9.toNatClampNeg = N) (hm0 : ¬ mI < 0) (hmM : mI.toNatClampNeg = M) (hn : N ≤ 65536) (hm : M ≤ 65536)
    (haN : ¬ N > e.platform.arrayLengthLimit) (hbN : ¬ N * componentBytes CA > e.platform.maxHeapBytes) (haM : ¬ M > e.platform.arrayLengthLimit) (hbM : ¬ M * componentBytes CB > e.platform.maxHeapBytes)
    (hc : s.heap.size + 1 + N ≤ e.platform.maxCells) (hs : s.slotsUsed + N + N * M ≤ e.platform.maxSlots) {Q : Addr → Pre} (hq : ∀ d' acts', Q s.heap.size d' acts' (rMkS s cA cB N M N)) : wp (multianewarray.make cA [nI9, mI]) Q E e d acts s := by
  have hfind : ([mI].find? (· < 0)) = none := by simp [hm0]
  rw [multianewarray.make]
  simp only [wp_bind', W.ite, hn0, if_false, wp_pure', W.theClass, hkA, hkindA, Option.some.injEq, exists_eq_left', hnN]
  refine rMkN hCA hkA hkindA hn haN hbN (by omega) (by omega) fun d1 acts1 => ?_
  simp only [hfind]
  rw [ite_self, wp_bind', Std.Legacy.Range.forIn_eq_forIn_range']
  rw [show ([:N] : Std.Legacy.Range).size = N by simp [Std.Legacy.Range.size]]
  show wp (forIn (List.range' 0 N 1) PUnit.unit _) _ E e d1 acts1 _
  have h00 : s.pushCell (arrV cA N (fun _ => .null)) = rMkS s cA cB N M 0 := by
    show _ = s.pushCell (rMkC cA N s.heap.size 0)
    congr 1
  refine wp_forIn_inv (fun rest s' => ∃ i, i ≤ N ∧ rest = List.range' i (N - i) ∧ s' = rMkS s cA cB N M i) _ _ ⟨0, Nat.zero_le _, rfl, h00⟩ ?_ ?_
  · rintro x rest s' d' acts' Q' ⟨i, hi, hl, rfl⟩ hnext
    have hlt : i < N := by
      rcases Nat.lt_or_ge i N with h | h
      · exact h
      · rw [show N - i = 0 by omega] at hl
        cases hl
    rw [show N - i = (N - (i + 1)) + 1 by omega, List.range'_succ] at hl
    obtain rfl : x = i := (List.cons.inj hl).1
    have hrest := (List.cons.inj hl).2
    obtain ⟨f1, f2, f3, f4, f5, f6⟩ := rMkS_f s cA cB N M x
    have hmul : x * M + M ≤ N * M := by
      have := Nat.mul_le_mul_right M (show x + 1 ≤ N from hlt)
      rw [Nat.succ_mul] at this
      exact this
    simp only [wp_bind']
    refine rMk1 hCB (by rw [f3]; exact hkB) hkindB hm0 hmM hm haM hbM (by omega) (by omega) fun d2 acts2 => ?_
    simp only [wp_bind', W.writeLoc, wp_pure']
    refine ⟨rMkC cA N s.heap.size x, by rw [State.heap_pushCell_of_lt _ _ (show s.heap.size < (rMkS s cA cB N M x).heap.size by omega)]; exact f2, (fun h => by cases h), by show x < (arrV _ _ _).slots.size; rw [arrV_size]; exact hlt, ?_, hnext _ _ _ ⟨x + 1, hlt, hrest, ?_⟩⟩
    · have hfit : fits CA (.ref (rMkS s cA cB N M x).heap.size) = true := by cases CA <;> first | (cases hCA; done) | rfl
      simp [State.fitsSlot, State.slotType?, rMkC, arrV, f3, hkA, hkindA, hfit]
    · rw [f1, rMkC_next]
      rfl
  · rintro s' d' acts' ⟨i, hi, hl, rfl⟩
    have hiN : i = N := by
      rcases Nat.lt_or_ge i N with h | h
      · rw [show N - i = (N - (i + 1)) + 1 by omega, List.range'_succ] at hl
        cases hl
      · omega
    subst hiN
    simp only [wp_pure']
    exact hq _ _
end
def rPush (c : Cell) : Nat → Heap → Heap
  | 0, H => H
  | k + 1, H => rPush c k (H.push c)
theorem rPush_f (c : Cell) : ∀ (k : Nat) (H : Heap), (rPush c k H).size = H.size + k ∧ (∀ q : Nat, q < H.size → (rPush c k H)[q]? = H[q]?) ∧ ∀ j, j < k → (rPush c k H)[H.size + j]? = some c
  | 0, H => ⟨rfl, fun _ _ => rfl, fun j hj => absurd hj (Nat.not_lt_zero _)⟩
  | k + 1, H => by
    obtain ⟨a, b, d⟩ := rPush_f c k (H.push c)
    rw [Array.size_push] at a b d
    refine ⟨by show (rPush c k (H.push c)).size = _; omega, fun q hq => ?_, fun j hj => ?_⟩
    · show (rPush c k (H.push c))[q]? = _
      rw [b q (by omega), Array.getElem?_push, if_neg (Nat.ne_of_lt hq)]
    · show (rPush c k (H.push c))[H.size + j]? = _
      by_cases h0 : j = 0
      · subst h0
        rw [Nat.add_zero, b H.size (by omega), Array.getElem?_push_size]
      · rw [show H.size + j = H.size + 1 + (j - 1) by omega]
        exact d (j - 1) (by omega)
theorem rNew_i {h : rH} {c : rC} {sz : Nat} {k : Nat → rH → rR} {res : rO × rH} (hh : rNew h c sz k = some res) : hN h ≤ 510 ∧ k (hN h) (tS9 h.1 (hN h) c, (Nat.succ (hN h), (Nat.succ (hC h), (Nat.add h.2.2.2.1 sz, rScr h)))) = some res := by
  obtain ⟨e, hh⟩ := iBt hh
  exact ⟨bl e, hh⟩
theorem rRep_i {t M : Nat} {ty : FieldType} (ht : rAts[t]? = some ty) (hM : M ≤ 65536) : ∀ (k : Nat) {kk : List Nat → rH → rR} {h : rH} {res : rO × rH}, rRep (2 * t + 1, (M, 0)) M k kk h = some res → ∃ (l : List Nat) (h' : rH), kk l h' = some res ∧ l.length = k ∧ hN h' = hN h + k ∧ hC h' = hC h + k ∧ h'.2.2.2.1 = h.2.2.2.1 + k * M ∧ (∀ j, j < k → l.getD j 0 = hN h + j) ∧ (∀ q, q < hN h → q < 512 → tG9 h'.1 q = tG9 h.1 q) ∧
    ∀ {w : rW} {U : State} {ad : Nat → Nat} {H : Heap} {cB : ClassId}, rHp w U ad h H → ArrOfT U cB ty → va_RA U cB ty → ∃ ad', rExt (hN h) ad ad' ∧ (∀ j, j < k → ad' (hN h + j) = H.size + j) ∧ rHp w U ad' h' (rPush (arrV cB M (fun _ => defaultValue ty)) k H) := by
  intro k
  induction k with
  | zero =>
    intro kk h res hh
    exact ⟨[], h, hh, rfl, rfl, rfl, by simp, fun j hj => absurd hj (Nat.not_lt_zero _), fun _ _ _ => rfl, fun hH _ _ => ⟨_, rExt.rf, fun j hj => absurd hj (Nat.not_lt_zero _), hH⟩⟩
  | succ k ih =>
    intro kk h res hh
    have hh : rNew h (2 * t + 1, (M, 0)) M (fun a h1 => rRep (2 * t + 1, (M, 0)) M k (fun l h2 => kk (a :: l) h2) h1) = some res := hh
    obtain ⟨hn, hh⟩ := rNew_i hh
    obtain ⟨l, h', i1, i2, i3, i4, i5, i6, i7, i8⟩ := ih hh
    have i3 : hN h' = (hN h + 1) + k := i3
    have i4 : hC h' = (hC h + 1) + k := i4
    have i5 : h'.2.2.2.1 = (h.2.2.2.1 + M) + k * M := i5
    have i6 : ∀ j, j < k → l.getD j 0 = (hN h + 1) + j := i6
    refine ⟨hN h :: l, h', i1, by simp [i2], by omega, by omega, by rw [i5, Nat.succ_mul]; omega, fun j hj => ?_, fun q hq hq5 => ?_, fun {w} {U} {ad} {H} {cB} hH ha hra => ?_⟩
    · cases j with
      | zero => rfl
      | succ j =>
        have := i6 j (by omega)
        show l.getD j 0 = _
        omega
    · rw [i7 q (by show q < hN h + 1; omega) hq5]
      exact tSet_ne _ _ (by omega) hq5 (by omega)
    · have hnew := hH.newA (cs := Nat.succ (hC h)) (sl := Nat.add h.2.2.2.1 M) (H1 := H.push (arrV cB M (fun _ => defaultValue ty))) hn hM ht (Array.getElem?_push_size) (Array.size_push _) (fun q hq => by rw [Array.getElem?_push, if_neg (Nat.ne_of_lt hq)]) ha hra
      obtain ⟨ad', j1, j2, j3⟩ := i8 hnew ha hra
      have j2 : ∀ j, j < k → ad' ((hN h + 1) + j) = (H.push (arrV cB M (fun _ => defaultValue ty))).size + j := j2
      have j1 : rExt (hN h + 1) (rUp ad (hN h) H.size) ad' := j1
      refine ⟨ad', rUp_ext.tr j1 (by omega), fun j hj => ?_, j3⟩
      cases j with
      | zero => rw [Nat.add_zero, j1 (hN h) (by omega), rUp_self]; rfl
      | succ j =>
        have := j2 j (by omega)
        rw [Array.size_push] at this
        rw [show hN h + (j + 1) = hN h + 1 + j by omega, this]
        omega
theorem rLay_pl : ∀ (l : List Nat), (∀ x ∈ l, x < 18446744073709551616) → ∀ j, j < l.length → rPl (rLay l) j = l.getD j 0
  | [], _, j, hj => absurd hj (Nat.not_lt_zero _)
  | a :: r, hl, 0, _ => by
    have ha := hl a List.mem_cons_self
    show ((a + 18446744073709551616 * rLay r) >>> (64 * 0)) % 18446744073709551616 = a
    rw [Nat.mul_zero, Nat.shiftRight_zero, Nat.add_mul_mod_self_left]
    exact Nat.mod_eq_of_lt ha
  | a :: r, hl, j + 1, hj => by
    have ha := hl a List.mem_cons_self
    have ih := rLay_pl r (fun x hx => hl x (List.mem_cons_of_mem _ hx)) j (Nat.lt_of_succ_lt_succ hj)
    show ((a + 18446744073709551616 * rLay r) >>> (64 * (j + 1))) % 18446744073709551616 = r.getD j 0
    rw [← ih]
    show _ = (rLay r >>> (64 * j)) % 18446744073709551616
    congr 1
    rw [Nat.shiftRight_eq_div_pow, Nat.shiftRight_eq_div_pow, show 64 * (j + 1) = 64 + 64 * j by omega, Nat.pow_add, ← Nat.div_div_eq_div_mul]
    congr 1
    rw [show (2 : Nat) ^ 64 = 18446744073709551616 by decide, Nat.add_mul_div_left _ _ (by decide), Nat.div_eq_of_lt ha, Nat.zero_add]
theorem s_Mul {lab : Nat → rM × Nat} {M : rM} {pc pc' : Nat} {nx : rP} {own C nm : String} {i t1 t2 N K j1 j2 : Nat} (hnm : "[" ++ (FieldType.array (.object C)).toString = nm) (ho : (rMy M).cls = own) (ht1 : rAts[t1]? = some (.array (.object C))) (ht2 : rAts[t2]? = some (.object C)) (hN5 : N ≤ 500) (hK5 : K ≤ 500) (hcl : Cond.classLink own i nm ∈ rTG) (hj1 : rNGs[j1]? = some (Cond.arrayOver (.array (.object C)))) (hj2 : rNGs[j2]? = some (Cond.arrayOver (.object C))) (hdg : rDec M pc (.multianewarray i 2) 4 pc') (kx : rSnd lab M pc' nx) : rSnd lab M pc (oMul (2 * t1 + 1) (2 * t2 + 1) N K nx) := by
  rw [← hnm] at hcl
  intro w l d jb jc hb hc L S h res hh
  obtain ⟨hdg, rfl⟩ := hdg
  obtain ⟨v1, S1, rfl, hh⟩ := iP hh
  obtain ⟨v2, S2, rfl, hh⟩ := iP hh
  obtain ⟨y, rfl, hh⟩ := iI hh
  obtain ⟨x, rfl, hh⟩ := iI hh
  obtain ⟨ex, hh⟩ := iBt hh
  obtain ⟨ey, hh⟩ := iBt hh
  have ex := bq ex
  have ey := bq ey
  obtain ⟨hn, hh⟩ := rNew_i hh
  obtain ⟨ll, h2, hh, i2, i3, i4, i5, i6, i7, i8⟩ := rRep_i ht2 (by omega) N hh
  have hh := iN hh
  have i3 : hN h2 = (hN h + 1) + N := i3
  have i4 : hC h2 = (hC h + 1) + N := i4
  have i5 : h2.2.2.2.1 = (h.2.2.2.1 + N) + N * K := i5
  have i6 : ∀ j, j < N → ll.getD j 0 = (hN h + 1) + j := i6
  have i7 : ∀ q, q < hN h + 1 → q < 512 → tG9 h2.1 q = tG9 (tS9 h.1 (hN h) (2 * t1 + 1, (N, 0))) q := i7
  refine rTo.gen (h' := rPut h2 (hN h) (2 * t1 + 1, (N, rLay ll))) ⟨by show hN h ≤ hN h2; omega, by show hC h ≤ hC h2; omega, by show h.2.2.2.1 ≤ h2.2.2.2.1; omega⟩ (kx w l d jb jc hb hc _ _ _ _ hh) fun {p} {e} {R} {s} {m} {args} {below} {meth} {c} {Q} {H} {locs} {cells} {slots} {ls} {lv} {st} {ad} {mc} {ms} hX hP hs hl hLo hS hm hcs hlo kk => ?_
  obtain ⟨u1, st1, rfl, g1, hS1⟩ := hS.cons
  obtain ⟨u2, st2, rfl, g2, hS2⟩ := hS1.cons
  obtain ⟨-, rfl⟩ := g1.i
  obtain ⟨-, rfl⟩ := g2.i
  rw [ex, ey]
  have hK9 := hX.2.2.2.2.2.2.2.2.2.1
  have ht := hX.2.2.2.2.1
  obtain ⟨N1, N2⟩ := rNn (x := N) (by omega)
  obtain ⟨K1, K2⟩ := rNn (x := K) (by omega)
  have hNK : N * K ≤ 500 * 500 := Nat.mul_le_mul hN5 hK5
  obtain ⟨cB, cA, kA, a1, -, a3, a4, a5⟩ := arrayOverA_spec (hK9.ng j1 hj1)
  obtain ⟨cO, cB', kB, b1, -, b3, b4, b5⟩ := Cond.arrayOver_spec (hK9.ng j2 hj2)
  have b5' : s.vm.findClass (FieldType.array (.object C)).toString = some cB' := b5
  cases a1.symm.trans b5'
  have hArrA : ArrOfT s cA (.array (.object C)) := fun N z => ⟨(fun k h => by cases h), kA, a3, cB, a4⟩
  have hArrB : ArrOfT s cB (.object C) := fun N z => ⟨(fun k h => by cases h), kB, b3, cO, b4⟩
  have hRA : va_RA s cA (.array (.object C)) := a5
  have hRB : va_RA s cB (.object C) := ⟨kB, cO, b3, b4, b1, b5⟩
  -- the heap of the numbers
  have hnew := hP.newA (cs := Nat.succ (hC h)) (sl := Nat.add h.2.2.2.1 N) (H1 := H.push (arrV cA N (fun _ => defaultValue (.array (.object C))))) hn (show N ≤ 65536 by omega) ht1 (Array.getElem?_push_size) (Array.size_push _) (fun q hq => by rw [Array.getElem?_push, if_neg (Nat.ne_of_lt hq)]) hArrA hRA
  obtain ⟨ad', e1, e2, e3⟩ := i8 hnew hArrB hRB
  have e1 : rExt (hN h + 1) (rUp ad (hN h) H.size) ad' := e1
  have e2 : ∀ j, j < N → ad' ((hN h + 1) + j) = (H.push (arrV cA N (fun _ => defaultValue (.array (.object C))))).size + j := e2
  have eo : ad' (hN h) = H.size := by rw [e1 (hN h) (by omega), rUp_self]
  obtain ⟨z1, z2, z3⟩ := rPush_f (arrV cB K (fun _ => defaultValue (.object C))) N (H.push (arrV cA N (fun _ => defaultValue (.array (.object C)))))
  rw [Array.size_push] at z1 z2 z3
  have hext : rExt (hN h) ad ad' := rUp_ext.tr e1 (by omega)
  have b1' : cells + hC h2 ≤ mc + hC h := hcs.1
  have b2' : slots + h2.2.2.2.1 ≤ ms + h.2.2.2.1 := hcs.2
  have r1 := hm.1
  have r2 := hm.2
  intro T hT X
  have hpl : e.platform.magicAccessors = ({} : Platform).magicAccessors := by rw [X.admits.platform]
  obtain ⟨c0, hfc0, hcl0⟩ := Cond.classLink_spec (ho ▸ hX.2.2.2.1) (ht _ hcl) e.platform hpl
  cases a5.symm.trans hfc0
  obtain ⟨hg₁, hwarm₁, hready₁⟩ := State.classEntry (e := e) X.warmed hcl0
  generalize T.vm.noted m.cls i (.cls cA) = vm₁ at hg₁ hwarm₁ hready₁
  have hal : s.vm.Alike vm₁ := hwarm₁.alike
  obtain ⟨kA₁, hkA₁, heA⟩ := hal.2.2 _ _ a3
  obtain ⟨kB₁, hkB₁, heB⟩ := hal.2.2 _ _ b3
  have hkindA₁ : kA₁.kind = .array cB (.array (.object C)) := by rw [heA]; exact a4
  have hkindB₁ : kB₁.kind = .array cO (.object C) := by rw [heB]; exact b4
  have X₁ := X.noted hwarm₁
  obtain ⟨L9, hL9, XF⟩ := rMkS_st X₁ cA cB N K N
  obtain ⟨f1, f2, f3, f4, f5, f6⟩ := rMkS_f (T.setVm vm₁) cA cB N K N
  have hTs : (T.setVm vm₁).heap = H := hT
  rw [hTs] at f1 f2 f5 f6 hL9
  generalize hTF : rMkS (T.setVm vm₁) cA cB N K N = TF at XF f1 f2 f3 f4 f5 f6
  obtain ⟨hr1, hr2⟩ := X.roomAbove (a := 1 + N) (b := N + N * K) (by omega) (by omega)
  have hput : rHp w s ad' (rPut h2 (hN h) (2 * t1 + 1, (N, rLay ll))) TF.heap := by
    refine e3.put hP.1.1 (by omega) ?_ ?_ (by show 2 * t1 + 1 ≠ 0; omega) (by rw [f1, z1]; omega) (fun q hq => ?_)
    · show (tG9 h2.1 (hN h)).1 ≠ 0
      rw [i7 (hN h) (by omega) (by omega), tSet_eq]
      show 2 * t1 + 1 ≠ 0
      omega
    · refine Or.inr ⟨by rw [eo]; exact hP.2.2.2.1, Or.inr ⟨t1, _, rfl, ht1, by show N ≤ 65536; omega, cA, _, by rw [eo]; exact f2, hArrA, hRA, fun j hj => ?_⟩⟩
      have hj : j < N := hj
      show rVal w ad' (hN h2) (vR (rPl (rLay ll) j)) (if j < N then .ref (H.size + 1 + j) else .null)
      rw [if_pos hj, rLay_pl ll (fun x hx => ?_) j (by omega), i6 j hj]
      · refine Or.inr (Or.inr (Or.inr ⟨by omega, by omega, ?_⟩))
        rw [e2 j hj, Array.size_push]
      · obtain ⟨n9, h9, e9⟩ := List.getElem_of_mem hx
        have := i6 n9 (by omega)
        rw [List.getD_eq_getElem?_getD, List.getElem?_eq_getElem h9, Option.getD_some, e9] at this
        have := e3.1.2.1
        omega
    · rw [eo] at hq
      by_cases hq1 : q < H.size
      · rw [f5 q hq1, z2 q (by omega), Array.getElem?_push, if_neg (Nat.ne_of_lt hq1)]
      · by_cases hq2 : q < H.size + 1 + N
        · rw [show q = H.size + 1 + (q - (H.size + 1)) by omega, f6 _ (by omega), z3 _ (by omega)]
          rfl
        · rw [Array.getElem?_eq_none (by omega), Array.getElem?_eq_none (by omega)]
  obtain ⟨t, q1, q2⟩ := kk ad' TF.heap (locs ++ L9) (cells + 1 + N) (slots + N + N * K) ls lv (.ref H.size :: st2) hext hput (by omega) hl (hLo.mono (by show hN h ≤ hN h2; omega) hext) ⟨Or.inr (Or.inr (Or.inr ⟨hP.1.1, by show hN h < hN h2; omega, by rw [eo]⟩)), hS2.mono (by show hN h ≤ hN h2; omega) hext⟩ (by show cells + 1 + N + hC h ≤ cells + hC h2; omega) (by show slots + N + N * K + h.2.2.2.1 ≤ slots + h2.2.2.2.1; omega) (fun z hz => by
    rcases List.mem_append.mp hz with q | q
    · exact hlo z q
    · show wB w ≤ z.base
      rw [hL9 z q]
      exact hP.2.2.2.1) TF rfl XF
  refine ⟨t, ?_, q2⟩
  have hl1 : ¬ N > e.platform.arrayLengthLimit := by rw [Launch.admits_arrayLengthLimit X.admits]; omega
  have hh1 : ¬ N * componentBytes (.array (.object C)) > e.platform.maxHeapBytes := by rw [Launch.admits_maxHeapBytes X.admits]; show ¬ N * 4 > 536870912; omega
  have hl2 : ¬ K > e.platform.arrayLengthLimit := by rw [Launch.admits_arrayLengthLimit X.admits]; omega
  have hh2 : ¬ K * componentBytes (.object C) > e.platform.maxHeapBytes := by rw [Launch.admits_maxHeapBytes X.admits]; show ¬ K * 4 > 536870912; omega
  have hdg' : decode c.code pc = .ok (.multianewarray i 2, 4) := by rw [hX.2.1]; exact hdg
  jvm_step X.here [hX.1, hdg']
  simp only [multianewarray.sem, wp_bind', W.resolveClassAt_links (State.method?_setTop (F0 m pc ls (.int (nI K) :: .int (nI N) :: st2)) X.here.top) hg₁]
  rw [W.popN, if_neg (by decide)]
  refine ⟨F0 m pc ls (.int (nI K) :: .int (nI N) :: st2), State.topJava?_setTop' (s := T.setVm vm₁) (F0 m pc ls (.int (nI K) :: .int (nI N) :: st2)) X.here.top, [.int (nI N), .int (nI K)], st2, rfl, rfl, ?_⟩
  simp only [List.mapM_cons, List.mapM_nil, wp_bind', wp_pure']
  refine rMk2 (kA := kA₁) (kB := kB₁) (cB := cB) (comp := cO) (CA := .array (.object C)) (CB := .object C) (N := N) (M := K) rfl rfl hkA₁ hkindA₁ hkB₁ hkindB₁ N2 N1 K2 K1 (by omega) (by omega) hl1 hh1 hl2 hh2 (by show T.heap.size + 1 + _ ≤ _; omega) (by show T.slotsUsed + _ + _ ≤ _; omega) (fun d' acts' => ?_)
  rw [show ((T.setTop (F0 m pc ls (.int (nI K) :: .int (nI N) :: st2))).setVm vm₁).setTop { F0 m pc ls (.int (nI K) :: .int (nI N) :: st2) with stack := st2 } = (T.setVm vm₁).setTop (F0 m pc ls st2) by
    show ((T.setVm vm₁).setTop _).setTop _ = _
    rw [State.setTop_setTop], rMkS_top, hTF]
  simp only [wp_bind', W.mark, W.pushRef, State.topJava?_setTop' _ XF.here.top, Option.some.injEq, exists_eq_left', State.setTop_setTop, State.heap_setTop]
  intro acts
  simp [jvm, XF.here.top]
  rw [hT]
  exact q1
