-- ===== the heap =====
def rTag (ty : FieldType) : Nat → rV := match ty with
  | .long => vL
  | .object _ => vR
  | .array _ => vR
  | _ => vI
def rObj (w : rW) (ad : Nat → Nat) (n a : Nat) (c : rC) (H : Heap) : Prop := ∃ (ci : Nat) (r : vw_C), c.1 = 2 * ci + 2 ∧ rCls[ci]? = some r ∧ ∃ V : Nat → Value, t_OB a ((wD w).1 ci) r.2.2 ((wD w).2 ci) H V ∧ ∀ k, k < r.2.2 → rVal w ad n (rTag (rFt ci k) (rPl c.2.2 k)) (V k)
def rArr (w : rW) (U : State) (ad : Nat → Nat) (n a : Nat) (c : rC) (H : Heap) : Prop := ∃ (t : Nat) (ty : FieldType), c.1 = 2 * t + 1 ∧ rAts[t]? = some ty ∧ c.2.1 ≤ 65536 ∧ ∃ (cA : ClassId) (f : Nat → Value), H[a]? = some (arrV cA c.2.1 f) ∧ ArrOfT U cA ty ∧ va_RA U cA ty ∧ ∀ j, j < c.2.1 → rVal w ad n (rTag ty (rPl c.2.2 j)) (f j)
def rCell (w : rW) (U : State) (ad : Nat → Nat) (n a : Nat) (c : rC) (H : Heap) : Prop := c.1 = 0 ∨ (wB w ≤ a ∧ (rObj w ad n a c H ∨ rArr w U ad n a c H))
def rHp (w : rW) (U : State) (ad : Nat → Nat) (h : rH) (H : Heap) : Prop :=
  (1 ≤ hN h ∧ hN h ≤ 512 ∧ rScr h = wS w ∧ (tG9 h.1 0).1 = 0 ∧ ∀ k, hN h ≤ k → k < 512 → (tG9 h.1 k).1 = 0) ∧
  (∀ k, k < hN h → rCell w U ad (hN h) (ad k) (tG9 h.1 k) H) ∧
  (∀ j k, j < hN h → k < hN h → (tG9 h.1 j).1 ≠ 0 → (tG9 h.1 k).1 ≠ 0 → ad j = ad k → j = k) ∧
  wB w ≤ H.size ∧ ∀ q : Nat, q < wB w → H[q]? = (wH w)[q]?
section HEAP
variable {w : rW} {U : State} {ad ad' : Nat → Nat} {n n' a : Nat} {c : rC} {H H1 : Heap} {h : rH}
theorem rTag_mono {ty : FieldType} {x : Nat} {v : Value} (hv : rVal w ad n (rTag ty x) v) (hn : n ≤ n') (he : rExt n ad ad') : rVal w ad' n' (rTag ty x) v := hv.mono hn he
theorem rObj.mono (hc : rObj w ad n a c H) (hn : n ≤ n') (he : rExt n ad ad') : rObj w ad' n' a c H := by
  obtain ⟨ci, r, h1, h2, V, h3, h4⟩ := hc
  exact ⟨ci, r, h1, h2, V, h3, fun k hk => (h4 k hk).mono hn he⟩
theorem rArr.mono (hc : rArr w U ad n a c H) (hn : n ≤ n') (he : rExt n ad ad') : rArr w U ad' n' a c H := by
  obtain ⟨t, ty, h1, h2, h3, cA, f, h4, h5, h6, h7⟩ := hc
  exact ⟨t, ty, h1, h2, h3, cA, f, h4, h5, h6, fun k hk => (h7 k hk).mono hn he⟩
theorem rCell.mono (hc : rCell w U ad n a c H) (hn : n ≤ n') (he : rExt n ad ad') : rCell w U ad' n' a c H :=
  hc.imp id (fun ⟨h1, h2⟩ => ⟨h1, h2.imp (fun q => q.mono hn he) (fun q => q.mono hn he)⟩)
theorem rObj.kept (hc : rObj w ad n a c H) (hq : H1[a]? = H[a]?) : rObj w ad n a c H1 := by
  obtain ⟨ci, r, h1, h2, V, h3, h4⟩ := hc
  exact ⟨ci, r, h1, h2, V, h3.kept hq, h4⟩
theorem rArr.kept (hc : rArr w U ad n a c H) (hq : H1[a]? = H[a]?) : rArr w U ad n a c H1 := by
  obtain ⟨t, ty, h1, h2, h3, cA, f, h4, h5⟩ := hc
  exact ⟨t, ty, h1, h2, h3, cA, f, hq.trans h4, h5⟩
theorem rCell.kept (hc : rCell w U ad n a c H) (hq : H1[a]? = H[a]?) : rCell w U ad n a c H1 :=
  hc.imp id (fun ⟨h1, h2⟩ => ⟨h1, h2.imp (fun q => q.kept hq) (fun q => q.kept hq)⟩)
theorem rObj.lt (hc : rObj w ad n a c H) : a < H.size := by
  obtain ⟨ci, r, h1, h2, V, ⟨cell, h3, -⟩, h4⟩ := hc
  exact (Array.getElem?_eq_some_iff.mp h3).1
theorem rArr.lt (hc : rArr w U ad n a c H) : a < H.size := by
  obtain ⟨t, ty, h1, h2, h3, cA, f, h4, h5⟩ := hc
  exact (Array.getElem?_eq_some_iff.mp h4).1
theorem rCell.lt (hc : rCell w U ad n a c H) (h0 : c.1 ≠ 0) : a < H.size ∧ wB w ≤ a := by
  rcases hc with q | ⟨q1, q | q⟩
  · exact absurd q h0
  · exact ⟨q.lt, q1⟩
  · exact ⟨q.lt, q1⟩
theorem rArr.moved {u : State} (hvm : u.vm.Alike U.vm) (hc : rArr w u ad n a c H) : rArr w U ad n a c H := by
  obtain ⟨t, ty, h1, h2, h3, cA, f, h4, h5, h6, h7⟩ := hc
  exact ⟨t, ty, h1, h2, h3, cA, f, h4, arrOfT_moved hvm h5, h6.moved hvm, h7⟩
theorem rCell.moved {u : State} (hvm : u.vm.Alike U.vm) (hc : rCell w u ad n a c H) : rCell w U ad n a c H :=
  hc.imp id (fun ⟨h1, h2⟩ => ⟨h1, h2.imp id (fun q => q.moved hvm)⟩)
theorem rHp.moved {u : State} (hvm : u.vm.Alike U.vm) (hH : rHp w u ad h H) : rHp w U ad h H :=
  ⟨hH.1, fun k hk => (hH.2.1 k hk).moved hvm, hH.2.2⟩
theorem rAt_eq (h : rH) (k : Nat) : rAt h k = tG9 h.1 k := rfl
theorem rHp.deref {k : Nat} {v : Value} (hH : rHp w U ad h H) (hv : rVal w ad (hN h) (vR k) v) (hk : (rAt h k).1 ≠ 0) : 0 < k ∧ k < hN h ∧ v = .ref (ad k) ∧ rCell w U ad (hN h) (ad k) (rAt h k) H := by
  rw [rAt_eq] at hk ⊢
  rcases hv.r with ⟨e, -⟩ | ⟨e, -⟩ | ⟨e, -⟩ | ⟨h1, h2, h3⟩
  · rw [e] at hk; exact absurd hH.1.2.2.2.1 hk
  · rw [e, tGet_e1] at hk; exact absurd hH.1.2.2.2.1 hk
  · rw [e, tGet_e2] at hk; exact absurd hH.1.2.2.2.1 hk
  · exact ⟨h1, h2, h3, hH.2.1 k h2⟩
theorem rHp.put {k : Nat} {c' : rC} (hH : rHp w U ad h H) (hk : 0 < k) (hkn : k < hN h) (hk0 : (rAt h k).1 ≠ 0) (hc : rCell w U ad (hN h) (ad k) c' H1) (hc0 : c'.1 ≠ 0) (hs : H.size ≤ H1.size) (ho : ∀ q : Nat, q ≠ ad k → H1[q]? = H[q]?) : rHp w U ad (rPut h k c') H1 := by
  obtain ⟨⟨a1, a2, a3, a4, a5⟩, b, d, e1, e2⟩ := hH
  have hk5 : k < 512 := by omega
  have hself : tG9 (tS9 h.1 k c') k = c' := tSet_eq _ _ _
  have hoth : ∀ j, j < 512 → j ≠ k → tG9 (tS9 h.1 k c') j = tG9 h.1 j := fun j hj hne => tSet_ne _ _ hk5 hj (Ne.symm hne)
  rw [rAt_eq] at hk0
  refine ⟨⟨a1, a2, a3, ?_, fun j hj hj5 => ?_⟩, fun j hj => ?_, fun i j hi hj hi0 hj0 hij => ?_, by omega, fun q hq => ?_⟩
  · show (tG9 (tS9 h.1 k c') 0).1 = 0
    rw [hoth 0 (by omega) (by omega)]; exact a4
  · show (tG9 (tS9 h.1 k c') j).1 = 0
    have hj' : hN h ≤ j := hj
    rw [hoth j hj5 (by omega)]; exact a5 j hj hj5
  · have hj' : j < hN h := hj
    show rCell w U ad (hN h) (ad j) (tG9 (tS9 h.1 k c') j) H1
    by_cases hjk : j = k
    · subst hjk; rw [hself]; exact hc
    · rw [hoth j (by omega) hjk]
      by_cases h0 : (tG9 h.1 j).1 = 0
      · exact Or.inl h0
      · exact (b j hj').kept (ho _ (fun q => hjk (d j k hj' hkn h0 hk0 q)))
  · have hi' : i < hN h := hi
    have hj' : j < hN h := hj
    have fix : ∀ x, x < hN h → (tG9 (tS9 h.1 k c') x).1 ≠ 0 → (tG9 h.1 x).1 ≠ 0 := by
      intro x hx h0
      by_cases hxk : x = k
      · subst hxk; exact hk0
      · rw [hoth x (by omega) hxk] at h0; exact h0
    exact d i j hi' hj' (fix i hi' hi0) (fix j hj' hj0) hij
  · have hb : q ≠ ad k := by
      have := ((b k hkn).lt hk0).2
      omega
    rw [ho q hb]; exact e2 q hq
def rUp (ad : Nat → Nat) (n a : Nat) : Nat → Nat := fun k => if k = n then a else ad k
theorem rUp_ext {ad : Nat → Nat} {n a : Nat} : rExt n ad (rUp ad n a) := fun k hk => if_neg (by omega)
theorem rUp_self {ad : Nat → Nat} {n a : Nat} : rUp ad n a n = a := if_pos rfl
theorem rHp.new {c' : rC} {cs sl : Nat} (hH : rHp w U ad h H) (hn : hN h ≤ 510) (hc : rCell w U (rUp ad (hN h) H.size) (hN h + 1) H.size c' H1) (hs : H1.size = H.size + 1) (ho : ∀ q : Nat, q < H.size → H1[q]? = H[q]?) :
    rHp w U (rUp ad (hN h) H.size) (tS9 h.1 (hN h) c', (Nat.succ (hN h), (cs, (sl, rScr h)))) H1 := by
  obtain ⟨⟨a1, a2, a3, a4, a5⟩, b, d, e1, e2⟩ := hH
  have hself : tG9 (tS9 h.1 (hN h) c') (hN h) = c' := tSet_eq _ _ _
  have hoth : ∀ j, j < 512 → j ≠ hN h → tG9 (tS9 h.1 (hN h) c') j = tG9 h.1 j := fun j hj hne => tSet_ne _ _ (by omega) hj (Ne.symm hne)
  refine ⟨⟨by show 1 ≤ hN h + 1; omega, by show hN h + 1 ≤ 512; omega, a3, ?_, fun j hj hj5 => ?_⟩, fun j hj => ?_, fun i j hi hj hi0 hj0 hij => ?_, by omega, fun q hq => ?_⟩
  · show (tG9 (tS9 h.1 (hN h) c') 0).1 = 0
    rw [hoth 0 (by omega) (by omega)]; exact a4
  · have hj' : hN h + 1 ≤ j := hj
    show (tG9 (tS9 h.1 (hN h) c') j).1 = 0
    rw [hoth j hj5 (by omega)]; exact a5 j (by omega) hj5
  · have hj' : j < hN h + 1 := hj
    show rCell w U (rUp ad (hN h) H.size) (hN h + 1) (rUp ad (hN h) H.size j) (tG9 (tS9 h.1 (hN h) c') j) H1
    by_cases hjk : j = hN h
    · rw [hjk, hself, rUp_self]; exact hc
    · have hjl : j < hN h := by omega
      rw [hoth j (by omega) hjk, rUp_ext j hjl]
      by_cases h0 : (tG9 h.1 j).1 = 0
      · exact Or.inl h0
      · exact ((b j hjl).mono (by omega) rUp_ext).kept (ho _ ((b j hjl).lt h0).1)
  · have hi' : i < hN h + 1 := hi
    have hj' : j < hN h + 1 := hj
    by_cases hie : i = hN h
    · by_cases hje : j = hN h
      · rw [hie, hje]
      · exfalso
        have hjl : j < hN h := by omega
        have hj0' : (tG9 (tS9 h.1 (hN h) c') j).1 ≠ 0 := hj0
        rw [hoth j (by omega) hje] at hj0'
        have hl := ((b j hjl).lt hj0').1
        rw [hie, rUp_self, rUp_ext j hjl] at hij
        omega
    · have hil : i < hN h := by omega
      have hi0' : (tG9 (tS9 h.1 (hN h) c') i).1 ≠ 0 := hi0
      rw [hoth i (by omega) hie] at hi0'
      have hl := ((b i hil).lt hi0').1
      by_cases hje : j = hN h
      · exfalso
        rw [hje, rUp_self, rUp_ext i hil] at hij
        omega
      · have hjl : j < hN h := by omega
        have hj0' : (tG9 (tS9 h.1 (hN h) c') j).1 ≠ 0 := hj0
        rw [hoth j (by omega) hje] at hj0'
        rw [rUp_ext i hil, rUp_ext j hjl] at hij
        exact d i j hil hjl hi0' hj0' hij
  · rw [ho q (by omega)]; exact e2 q hq
-- a number that no cell stands behind
theorem rHp.cat {q : Nat} {r : Nat × (Nat × List rV)} (hH : rHp w U ad (h.1, (hN h, r)) H) (hn : hN h ≤ 510) : rHp w U (rUp ad (hN h) q) (h.1, (Nat.succ (hN h), r)) H := by
  obtain ⟨⟨a1, a2, a3, a4, a5⟩, b, d, e1, e2⟩ := hH
  have a5' : ∀ k, hN h ≤ k → k < 512 → (tG9 h.1 k).1 = 0 := a5
  have b' : ∀ k, k < hN h → rCell w U ad (hN h) (ad k) (tG9 h.1 k) H := b
  have d' : ∀ j k, j < hN h → k < hN h → (tG9 h.1 j).1 ≠ 0 → (tG9 h.1 k).1 ≠ 0 → ad j = ad k → j = k := d
  refine ⟨⟨by show 1 ≤ hN h + 1; omega, by show hN h + 1 ≤ 512; omega, a3, a4, fun j hj hj5 => ?_⟩, fun j hj => ?_, fun i j hi hj hi0 hj0 hij => ?_, e1, e2⟩
  · have hj' : hN h + 1 ≤ j := hj
    exact a5' j (by omega) hj5
  · have hj' : j < hN h + 1 := hj
    show rCell w U (rUp ad (hN h) q) (hN h + 1) (rUp ad (hN h) q j) (tG9 h.1 j) H
    by_cases hjk : j = hN h
    · rw [hjk]; exact Or.inl (a5' _ (Nat.le_refl _) (by omega))
    · have hjl : j < hN h := by omega
      rw [rUp_ext j hjl]
      exact (b' j hjl).mono (by omega) rUp_ext
  · have hi' : i < hN h + 1 := hi
    have hj' : j < hN h + 1 := hj
    have hi0' : (tG9 h.1 i).1 ≠ 0 := hi0
    have hj0' : (tG9 h.1 j).1 ≠ 0 := hj0
    have hil : i < hN h := by
      rcases Nat.lt_or_ge i (hN h) with z | z
      · exact z
      · exact absurd (a5' i z (by omega)) hi0'
    have hjl : j < hN h := by
      rcases Nat.lt_or_ge j (hN h) with z | z
      · exact z
      · exact absurd (a5' j z (by omega)) hj0'
    rw [rUp_ext i hil, rUp_ext j hjl] at hij
    exact d' i j hil hjl hi0' hj0' hij
end HEAP
