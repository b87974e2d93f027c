-- ===== what the interpreter's things are in the machine =====
-- the good words of the tables
def rTG : List Cond := lw_tbl.filter goodWord
theorem rTG_good : ∀ {ws : List Cond}, (∀ w ∈ ws, w ∈ rTG) → GoodIn rTG ws := fun h w hw => ⟨h w hw, good_of_word (List.mem_filter.mp (h w hw)).2⟩
-- a method: its name, code, locals, answer, table
abbrev rM : Type := MethodName × ByteArray × Nat × Option FieldType × Option (List (Nat × Nat × Nat × Nat))
abbrev rMy (M : rM) : MethodName := M.1
abbrev rMc_ (M : rM) : ByteArray := M.2.1
abbrev rMl (M : rM) : Nat := M.2.2.1
abbrev rMr (M : rM) : Option FieldType := M.2.2.2.1
abbrev rMh (M : rM) : Option (List (Nat × Nat × Nat × Nat)) := M.2.2.2.2
-- a world: the cells from b0 on are its own; what lies below; which number a class and a field's place has; the script's and the lists' first array's addresses; the script; classes and array types by number
abbrev rW : Type := Nat × Heap × va_G × Nat × Nat × List rV
abbrev wB (w : rW) : Nat := w.1
abbrev wH (w : rW) : Heap := w.2.1
abbrev wD (w : rW) : va_G := w.2.2.1
abbrev wE (w : rW) : Nat := w.2.2.2.1
abbrev wF (w : rW) : Nat := w.2.2.2.2.1
abbrev wS (w : rW) : List rV := w.2.2.2.2.2
abbrev hN (h : rH) : Nat := h.2.1
abbrev hC (h : rH) : Nat := h.2.2.1
abbrev hL (h : rH) : Nat := h.2.2.2.1
def rVi (x : rV) (y : Int32) : Prop := match x with
  | .inl k => k < 4294967296 ∧ y = nI k
  | .inr (.inr (.inr (a, b))) => (∃ t, t < 4294967296 ∧ y = nI t ∧ a ≤ t ∧ t ≤ b) ∨ (4294967296 ≤ b ∧ a < 8589934592 ∧ ∃ t, t < 4294967296 ∧ y = nI t ∧ a = t % 64 + 4294967296)
  | _ => False
def rVal (w : rW) (ad : Nat → Nat) (n : Nat) (x : rV) (v : Value) : Prop := match x with
  | .inl k => k < 4294967296 ∧ v = .int (nI k)
  | .inr (.inl k) => (k = 0 ∧ v = .null) ∨ (k = 8192 ∧ v = .ref (wE w)) ∨ (k = 16384 ∧ v = .ref (wF w)) ∨ (0 < k ∧ k < n ∧ v = .ref (ad k))
  | .inr (.inr (.inl k)) => k < 18446744073709551616 ∧ v = .long (lN k)
  | .inr (.inr (.inr (a, b))) => (∃ y : Int32, v = .int y ∧ rVi (vX a b) y) ∨ (a = 17179869184 ∧ v = .double (UInt64.ofNat b))
def rExt (n : Nat) (ad ad' : Nat → Nat) : Prop := ∀ k, k < n → ad' k = ad k
theorem rExt.rf {n : Nat} {ad : Nat → Nat} : rExt n ad ad := fun _ _ => rfl
theorem rExt.tr {n n' : Nat} {a b c : Nat → Nat} (h : rExt n a b) (h2 : rExt n' b c) (hn : n ≤ n') : rExt n a c := fun k hk => (h2 k (by omega)).trans (h k hk)
section REL
variable {w : rW} {ad ad' : Nat → Nat} {n n' : Nat}
theorem rVal.mono {x : rV} {v : Value} (h : rVal w ad n x v) (hn : n ≤ n') (he : rExt n ad ad') : rVal w ad' n' x v := by
  rcases x with k | k | k | ⟨a, b⟩
  · exact h
  · rcases h with h | h | h | ⟨h1, h2, h3⟩
    · exact Or.inl h
    · exact Or.inr (Or.inl h)
    · exact Or.inr (Or.inr (Or.inl h))
    · exact Or.inr (Or.inr (Or.inr ⟨h1, by omega, by rw [he k h2]; exact h3⟩))
  · exact h
  · exact h
theorem rVal.i {k : Nat} {v : Value} (h : rVal w ad n (vI k) v) : k < 4294967296 ∧ v = .int (nI k) := h
theorem rVal.l {k : Nat} {v : Value} (h : rVal w ad n (vL k) v) : k < 18446744073709551616 ∧ v = .long (lN k) := h
theorem rVal.r {k : Nat} {v : Value} (h : rVal w ad n (vR k) v) : (k = 0 ∧ v = .null) ∨ (k = 8192 ∧ v = .ref (wE w)) ∨ (k = 16384 ∧ v = .ref (wF w)) ∨ (0 < k ∧ k < n ∧ v = .ref (ad k)) := h
-- an int that isn't known
theorem rVal.xi {a b : Nat} {v : Value} (h : rVal w ad n (vX a b) v) (ha : a ≠ 17179869184) : ∃ y : Int32, v = .int y ∧ rVi (vX a b) y := by
  rcases h with h | ⟨h, -⟩
  · exact h
  · exact absurd h ha
theorem rVi.lim {a b : Nat} {y : Int32} (h : rVi (vX a b) y) : a < 8589934592 := by
  rcases h with ⟨t, h1, -, h2, -⟩ | ⟨-, h, -⟩
  · omega
  · exact h
-- between two numbers
theorem rVal.iv {p q : Nat} {v : Value} (h : rVal w ad n (vX p q) v) (hpq : p ≤ q) (hq : q < 4294967296) : ∃ t, t < 4294967296 ∧ v = .int (nI t) ∧ p ≤ t ∧ t ≤ q := by
  obtain ⟨y, e, h2⟩ := h.xi (by omega)
  subst e
  rcases h2 with ⟨t, h1, e2, h3, h4⟩ | ⟨h5, -⟩
  · exact ⟨t, h1, by rw [e2], h3, h4⟩
  · omega
theorem rVal.mk {p q t : Nat} (ht : t < 4294967296) (h1 : p ≤ t) (h2 : t ≤ q) : rVal w ad n (vX p q) (.int (nI t)) := Or.inl ⟨_, rfl, Or.inl ⟨t, ht, rfl, h1, h2⟩⟩
theorem rVal.d {a b : Nat} {v : Value} (h : rVal w ad n (vX a b) v) (ha : a = 17179869184) : v = .double (UInt64.ofNat b) := by
  rcases h with ⟨y, -, h⟩ | ⟨-, h⟩
  · have := h.lim; omega
  · exact h
theorem rVal.int {x : rV} {v : Value} (h : rVal w ad n x v) (hx : (∃ k, x = vI k) ∨ ∃ a b, x = vX a b ∧ a < 8589934592) : ∃ y : Int32, v = .int y ∧ rVi x y := by
  rcases hx with ⟨k, rfl⟩ | ⟨a, b, rfl, hl⟩
  · exact ⟨_, h.i.2, h.i.1, rfl⟩
  · exact h.xi (by omega)
theorem rVi.val {x : rV} {y : Int32} (h : rVi x y) : rVal w ad n x (.int y) := by
  rcases x with k | k | k | ⟨a, b⟩
  · exact ⟨h.1, by rw [h.2]⟩
  · exact h.elim
  · exact h.elim
  · exact Or.inl ⟨y, rfl, h⟩
theorem rC2_X (a b : Nat) : rC2 (vX a b) = Nat.beq a 17179869184 := rfl
theorem rVal.cat {x : rV} {v : Value} (h : rVal w ad n x v) : (rC2 x = true ∧ v.category = 2) ∨ (rC2 x = false ∧ v.category = 1) := by
  rcases x with k | k | k | ⟨a, b⟩
  · exact Or.inr ⟨rfl, by rw [h.i.2]; rfl⟩
  · refine Or.inr ⟨rfl, ?_⟩
    rcases h with ⟨-, h⟩ | ⟨-, h⟩ | ⟨-, h⟩ | ⟨-, -, h⟩ <;> (rw [h]; rfl)
  · exact Or.inl ⟨rfl, by rw [h.l.2]; rfl⟩
  · rw [show rC2 (.inr (.inr (.inr (a, b)))) = Nat.beq a 17179869184 from rC2_X a b]
    rcases h with ⟨y, e, h2⟩ | ⟨h2, e⟩
    · have hl := h2.lim
      rw [e]
      refine Or.inr ⟨Bool.eq_false_iff.mpr (fun q => ?_), rfl⟩
      have := Nat.eq_of_beq_eq_true q
      omega
    · rw [h2, e]
      exact Or.inl ⟨Nat.beq_refl _, rfl⟩
theorem rVal.c1 {x : rV} {v : Value} (h : rVal w ad n x v) (hc : rC2 x = false) : v.category = 1 := by
  rcases h.cat with ⟨h1, -⟩ | ⟨-, h2⟩
  · rw [hc] at h1; cases h1
  · exact h2
theorem rVal.c2 {x : rV} {v : Value} (h : rVal w ad n x v) (hc : rC2 x = true) : v.category = 2 := by
  rcases h.cat with ⟨-, h1⟩ | ⟨h2, -⟩
  · exact h1
  · rw [hc] at h2; cases h2
-- the stack
def rStk (w : rW) (ad : Nat → Nat) (n : Nat) : List rV → List Value → Prop
  | [], [] => True
  | x :: S, v :: st => rVal w ad n x v ∧ rStk w ad n S st
  | _, _ => False
theorem rStk.cons {x : rV} {S : List rV} {st : List Value} (h : rStk w ad n (x :: S) st) : ∃ v st', st = v :: st' ∧ rVal w ad n x v ∧ rStk w ad n S st' := by
  cases st with
  | nil => exact h.elim
  | cons v st' => exact ⟨v, st', rfl, h.1, h.2⟩
theorem rStk.nil {st : List Value} (h : rStk w ad n [] st) : st = [] := by
  cases st with
  | nil => rfl
  | cons v st' => exact h.elim
theorem rStk.mono : ∀ {S : List rV} {st : List Value}, rStk w ad n S st → n ≤ n' → rExt n ad ad' → rStk w ad' n' S st
  | [], [], _, _, _ => trivial
  | _ :: _, _ :: _, h, hn, he => ⟨h.1.mono hn he, h.2.mono hn he⟩
  | [], _ :: _, h, _, _ => h.elim
  | _ :: _, [], h, _, _ => h.elim
-- the locals
def rLoc (w : rW) (ad : Nat → Nat) (n : Nat) (L : List rV) (lv : List (Nat × Value)) : Prop := ∀ i, L.getD i vU = vU ∨ ∃ v, (i, v) ∈ lv ∧ rVal w ad n (L.getD i vU) v
theorem rLoc.mono {L : List rV} {lv : List (Nat × Value)} (h : rLoc w ad n L lv) (hn : n ≤ n') (he : rExt n ad ad') : rLoc w ad' n' L lv := fun i => (h i).imp id (fun ⟨v, h1, h2⟩ => ⟨v, h1, h2.mono hn he⟩)
theorem vU_no {v : Value} (h : rVal w ad n vU v) : False := by
  rcases h with ⟨y, -, h⟩ | ⟨h, -⟩
  · have := h.lim; omega
  · omega
theorem rLoc.get {L : List rV} {lv : List (Nat × Value)} (h : rLoc w ad n L lv) {ls : Array Slot} {nL : Nat} (hl : lv_has ls nL lv) {i : Nat} {x : rV} (hx : L.getD i vU = x) (hne : x ≠ vU) : ∃ v, ls[i]? = some (.val v) ∧ (i, v) ∈ lv ∧ rVal w ad n x v := by
  rcases h i with h | ⟨v, h1, h2⟩
  · exact absurd (hx.symm.trans h) hne
  · exact ⟨v, hl.2.2 _ h1, h1, by rw [← hx]; exact h2⟩
theorem rDj_val {x : rV} {v : Value} (h : rVal w ad n x v) : rDj x = vU ∨ (rDj x = x ∧ v.category = 1) := by
  unfold rDj
  rcases h.cat with ⟨h1, -⟩ | ⟨h1, h2⟩
  · rw [h1]; exact Or.inl rfl
  · rw [h1]; exact Or.inr ⟨rfl, h2⟩
theorem rLoc.set1 {L : List rV} {lv : List (Nat × Value)} (h : rLoc w ad n L lv) {i : Nat} {s : rV → List rV → List rV} (hs : sOk i s) {x : rV} {v : Value} (hv : rVal w ad n x v) :
    rLoc w ad n (s x L) ((i, v) :: lv.filter (fun q => !(q.1 == i) && !(q.1 + 1 == i && q.2.category == 2))) := by
  intro j
  rw [hs x L j]
  by_cases c1 : j = i
  · rw [if_pos c1, c1]
    exact Or.inr ⟨v, List.mem_cons_self, hv⟩
  · rw [if_neg c1]
    by_cases c2 : j + 1 = i
    · rw [if_pos c2]
      rcases h j with hj | ⟨u, h1, h2⟩
      · rw [hj]; exact Or.inl rDj_U
      · rcases rDj_val h2 with e | ⟨e, hc⟩
        · exact Or.inl e
        · rw [e]
          refine Or.inr ⟨u, List.mem_cons_of_mem _ (List.mem_filter.mpr ⟨h1, ?_⟩), h2⟩
          simp [c1, hc]
    · rw [if_neg c2]
      rcases h j with hj | ⟨u, h1, h2⟩
      · exact Or.inl hj
      · refine Or.inr ⟨u, List.mem_cons_of_mem _ (List.mem_filter.mpr ⟨h1, ?_⟩), h2⟩
        simp [c1, c2]
theorem rLoc.set2 {L : List rV} {lv : List (Nat × Value)} (h : rLoc w ad n L lv) {i : Nat} {s : rV → List rV → List rV} (hs : dOk i s) {x : rV} {v : Value} (hv : rVal w ad n x v) :
    rLoc w ad n (s x L) ((i, v) :: lv.filter (fun q => !(q.1 == i) && (!(q.1 == i + 1) && !(q.1 + 1 == i && q.2.category == 2)))) := by
  intro j
  rw [hs x L j]
  by_cases c1 : j = i
  · rw [if_pos c1, c1]
    exact Or.inr ⟨v, List.mem_cons_self, hv⟩
  · rw [if_neg c1]
    by_cases c3 : j = i + 1
    · rw [if_pos c3]; exact Or.inl rfl
    · rw [if_neg c3]
      by_cases c2 : j + 1 = i
      · rw [if_pos c2]
        rcases h j with hj | ⟨u, h1, h2⟩
        · rw [hj]; exact Or.inl rDj_U
        · rcases rDj_val h2 with e | ⟨e, hc⟩
          · exact Or.inl e
          · rw [e]
            refine Or.inr ⟨u, List.mem_cons_of_mem _ (List.mem_filter.mpr ⟨h1, ?_⟩), h2⟩
            simp [c1, c3, hc]
      · rw [if_neg c2]
        rcases h j with hj | ⟨u, h1, h2⟩
        · exact Or.inl hj
        · refine Or.inr ⟨u, List.mem_cons_of_mem _ (List.mem_filter.mpr ⟨h1, ?_⟩), h2⟩
          simp [c1, c2, c3]
end REL
