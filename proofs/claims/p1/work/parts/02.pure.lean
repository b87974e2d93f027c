-- ===== what an instruction's outcome says of its start =====
theorem iB {α : Type} {b : Bool} {f t : Option α} {r : α} (h : @Bool.rec (fun _ => Option α) f t b = some r) : (b = true ∧ t = some r) ∨ (b = false ∧ f = some r) := by
  cases b
  · exact Or.inr ⟨rfl, h⟩
  · exact Or.inl ⟨rfl, h⟩
theorem iBt {α : Type} {b : Bool} {t : Option α} {r : α} (h : @Bool.rec (fun _ => Option α) none t b = some r) : b = true ∧ t = some r := by
  cases b
  · cases h
  · exact ⟨rfl, h⟩
theorem iBf {α : Type} {b : Bool} {f : Option α} {r : α} (h : @Bool.rec (fun _ => Option α) f none b = some r) : b = false ∧ f = some r := by
  cases b
  · exact ⟨rfl, h⟩
  · cases h
theorem iP {S : List rV} {r : rO × rH} {k : rV → List rV → rR → rR} (h : @List.rec rV (fun _ => rR) none k S = some r) : ∃ v S', S = v :: S' ∧ k v S' (@List.rec rV (fun _ => rR) none k S') = some r := by
  cases S with
  | nil => cases h
  | cons v S' => exact ⟨v, S', rfl, h⟩
theorem iI {v : rV} {r : rO × rH} {k : Nat → rR} (h : @Sum.rec _ _ (fun _ => rR) k (fun _ => none) v = some r) : ∃ n, v = vI n ∧ k n = some r := by
  cases v with
  | inl n => exact ⟨n, rfl, h⟩
  | inr w => cases h
theorem iS {v : rV} {r : rO × rH} {k : Nat → rR} {g : Nat ⊕ (Nat ⊕ (Nat × Nat)) → rR} (h : @Sum.rec _ _ (fun _ => rR) k g v = some r) : (∃ n, v = vI n ∧ k n = some r) ∨ ∃ w, v = .inr w ∧ g w = some r := by
  cases v with
  | inl n => exact Or.inl ⟨n, rfl, h⟩
  | inr w => exact Or.inr ⟨w, rfl, h⟩
theorem iA {v : rV} {r : rO × rH} {k : Nat → rR} (h : @Sum.rec _ _ (fun _ => rR) (fun _ => none) (fun w => @Sum.rec _ _ (fun _ => rR) k (fun _ => none) w) v = some r) : ∃ n, v = vR n ∧ k n = some r := by
  rcases v with n | n | w
  · cases h
  · exact ⟨n, rfl, h⟩
  · cases h
theorem iL {v : rV} {r : rO × rH} {k : Nat → rR} (h : @Sum.rec _ _ (fun _ => rR) (fun _ => none) (fun w => @Sum.rec _ _ (fun _ => rR) (fun _ => none) (fun w => @Sum.rec _ _ (fun _ => rR) k (fun _ => none) w) w) v = some r) : ∃ n, v = vL n ∧ k n = some r := by
  rcases v with n | n | n | w
  · cases h
  · cases h
  · exact ⟨n, rfl, h⟩
  · cases h
theorem iX {v : rV} {r : rO × rH} {k : Nat × Nat → rR} (h : @Sum.rec _ _ (fun _ => rR) (fun _ => none) (fun w => @Sum.rec _ _ (fun _ => rR) (fun _ => none) (fun w => @Sum.rec _ _ (fun _ => rR) (fun _ => none) k w) w) v = some r) : ∃ a b, v = vX a b ∧ k (a, b) = some r := by
  rcases v with n | n | n | ⟨a, b⟩
  · cases h
  · cases h
  · cases h
  · exact ⟨a, b, rfl, h⟩
theorem iX1 {w : Nat ⊕ (Nat ⊕ (Nat × Nat))} {r : rO × rH} {k : Nat × Nat → rR} (h : @Sum.rec _ _ (fun _ => rR) (fun _ => none) (fun w => @Sum.rec _ _ (fun _ => rR) (fun _ => none) k w) w = some r) : ∃ a b, (.inr w : rV) = vX a b ∧ k (a, b) = some r := by
  rcases w with n | n | ⟨a, b⟩
  · cases h
  · cases h
  · exact ⟨a, b, rfl, h⟩
theorem iC {c : rC} {r : rO × rH} {k : Nat → Nat × Nat → rR} (h : @Prod.rec _ _ (fun _ => rR) k c = some r) : k c.1 c.2 = some r := h
theorem iN {n : Nat} {r : rO × rH} {k : Nat → rR} (h : rN n k = some r) : k n = some r := by
  cases n with
  | zero => exact h
  | succ m => exact h
theorem iO {α : Type} {o : Option α} {r : rO × rH} {k : α → rR} (h : @Option.rec _ (fun _ => rR) none k o = some r) : ∃ v, o = some v ∧ k v = some r := by
  cases o with
  | none => cases h
  | some v => exact ⟨v, rfl, h⟩
theorem bq {a b : Nat} (h : Nat.beq a b = true) : a = b := Nat.eq_of_beq_eq_true h
theorem bqf {a b : Nat} (h : Nat.beq a b = false) : a ≠ b := Nat.ne_of_beq_eq_false h
theorem bl {a b : Nat} (h : Nat.ble a b = true) : a ≤ b := Nat.le_of_ble_eq_true h
theorem blf {a b : Nat} (h : Nat.ble a b = false) : b < a := Nat.not_le.mp (fun q => by rw [Nat.ble_eq_true_of_le q] at h; cases h)
-- ===== places of a number =====
theorem rPl_lt (d p : Nat) : rPl d p < 18446744073709551616 := Nat.mod_lt _ (by decide)
theorem rPl_bit (d p k : Nat) : (rPl d p).testBit k = (decide (k < 64) && d.testBit (64 * p + k)) := by
  show ((d >>> (64 * p)) % 2 ^ 64).testBit k = _
  rw [Nat.testBit_mod_two_pow, Nat.testBit_shiftRight]
theorem rSp_bit (d p m s k : Nat) (hs : s < 2 ^ (64 * m)) : (rSp d p m s).testBit k = if 64 * p ≤ k ∧ k < 64 * p + 64 * m then s.testBit (k - 64 * p) else d.testBit k := by
  show (d ^^^ ((((d >>> (64 * p)) % 2 ^ (64 * m)) ^^^ s) <<< (64 * p))).testBit k = _
  rw [Nat.testBit_xor, Nat.testBit_shiftLeft, Nat.testBit_xor, Nat.testBit_mod_two_pow, Nat.testBit_shiftRight]
  by_cases h1 : 64 * p ≤ k
  · by_cases h2 : k < 64 * p + 64 * m
    · rw [if_pos ⟨h1, h2⟩, show 64 * p + (k - 64 * p) = k by omega, decide_eq_true (show k ≥ 64 * p from h1), decide_eq_true (show k - 64 * p < 64 * m by omega)]
      cases d.testBit k <;> cases s.testBit (k - 64 * p) <;> rfl
    · have hz : s.testBit (k - 64 * p) = false := Nat.testBit_lt_two_pow (Nat.lt_of_lt_of_le hs (Nat.pow_le_pow_right (by decide) (by omega)))
      rw [if_neg (fun q => h2 q.2), hz, decide_eq_false (show ¬ k - 64 * p < 64 * m by omega)]
      cases d.testBit k <;> cases (decide (k ≥ 64 * p)) <;> rfl
  · rw [if_neg (fun q => h1 q.1), decide_eq_false (show ¬ k ≥ 64 * p from h1)]
    cases d.testBit k <;> rfl
theorem rPl_rSp (d p m s q : Nat) (hs : s < 2 ^ (64 * m)) : rPl (rSp d p m s) q = if p ≤ q ∧ q < p + m then rPl s (q - p) else rPl d q := by
  apply Nat.eq_of_testBit_eq
  intro k
  rw [rPl_bit]
  by_cases hk : k < 64
  · rw [rSp_bit _ _ _ _ _ hs]
    by_cases h : p ≤ q ∧ q < p + m
    · rw [if_pos h, if_pos (by omega), rPl_bit, show 64 * q + k - 64 * p = 64 * (q - p) + k by omega]
    · rw [if_neg h, if_neg (by omega), rPl_bit]
  · rw [decide_eq_false hk]
    split <;> (rw [rPl_bit, decide_eq_false hk]; simp)
theorem rPl_0 (q : Nat) : rPl 0 q = 0 := by
  apply Nat.eq_of_testBit_eq
  intro k
  rw [rPl_bit, Nat.zero_testBit]
  simp
theorem rPl_self {s : Nat} (hs : s < 18446744073709551616) : rPl s 0 = s := by
  apply Nat.eq_of_testBit_eq
  intro k
  rw [rPl_bit, show 64 * 0 + k = k by omega]
  by_cases hk : k < 64
  · rw [decide_eq_true hk]; rfl
  · rw [decide_eq_false hk, Nat.testBit_lt_two_pow (Nat.lt_of_lt_of_le (show s < 2 ^ 64 from hs) (Nat.pow_le_pow_right (by decide) (by omega)))]
    rfl
theorem rPl_put (d p s q : Nat) (hs : s < 18446744073709551616) : rPl (rSp d p 1 s) q = if q = p then s else rPl d q := by
  rw [rPl_rSp _ _ _ _ _ (show s < 2 ^ (64 * 1) from hs)]
  by_cases h : q = p
  · subst h
    rw [if_pos (by omega), if_pos rfl, Nat.sub_self, rPl_self hs]
  · rw [if_neg (by omega), if_neg h]
theorem rPl_cut (d p n q : Nat) (hq : q < n) : rPl (Nat.mod (Nat.shiftRight d (Nat.mul 64 p)) (Nat.pow 2 (Nat.mul 64 n))) q = rPl d (p + q) := by
  apply Nat.eq_of_testBit_eq
  intro k
  rw [rPl_bit, rPl_bit]
  by_cases hk : k < 64
  · show (_ && (((d >>> (64 * p)) % 2 ^ (64 * n)).testBit (64 * q + k))) = _
    rw [Nat.testBit_mod_two_pow, Nat.testBit_shiftRight, decide_eq_true (show 64 * q + k < 64 * n by omega), show 64 * p + (64 * q + k) = 64 * (p + q) + k by omega]
    rfl
  · rw [decide_eq_false hk]; rfl
-- ===== locals =====
theorem rDj_U : rDj vU = vU := rfl
def gOk (i : Nat) (g : List rV → rV) : Prop := ∀ L, g L = L.getD i vU
theorem gOk_s {i : Nat} {g g' : List rV → rV} (h : gOk i g) (e : ∀ L, g' L = @List.rec rV (fun _ => rV) vU (fun _ r _ => g r) L) : gOk (i + 1) g' := by
  intro L
  rw [e]
  cases L with
  | nil => rfl
  | cons x r => exact h r
def sOk (i : Nat) (s : rV → List rV → List rV) : Prop := ∀ v L j, (s v L).getD j vU = if j = i then v else if j + 1 = i then rDj (L.getD j vU) else L.getD j vU
def dOk (i : Nat) (s : rV → List rV → List rV) : Prop := ∀ v L j, (s v L).getD j vU = if j = i then v else if j = i + 1 then vU else if j + 1 = i then rDj (L.getD j vU) else L.getD j vU
theorem sOk_1 {s s' : rV → List rV → List rV} (h : sOk 0 s) (e : ∀ v L, s' v L = @List.rec rV (fun _ => List rV) (vU :: s v []) (fun x r _ => rDj x :: s v r) L) : sOk 1 s' := by
  intro v L j
  rw [e]
  cases L with
  | nil =>
    cases j with
    | zero => rfl
    | succ j => have := h v [] j; simp at this ⊢; exact this
  | cons x r =>
    cases j with
    | zero => rfl
    | succ j => have := h v r j; simp at this ⊢; exact this
theorem sOk_s {i : Nat} {s s' : rV → List rV → List rV} (h : sOk (i + 1) s) (e : ∀ v L, s' v L = @List.rec rV (fun _ => List rV) (vU :: s v []) (fun x r _ => x :: s v r) L) : sOk (i + 2) s' := by
  intro v L j
  rw [e]
  cases L with
  | nil =>
    cases j with
    | zero => rfl
    | succ j => have := h v [] j; simp at this ⊢; exact this
  | cons x r =>
    cases j with
    | zero => rfl
    | succ j => have := h v r j; simp at this ⊢; exact this
theorem dOk_1 {s s' : rV → List rV → List rV} (h : dOk 0 s) (e : ∀ v L, s' v L = @List.rec rV (fun _ => List rV) (vU :: s v []) (fun x r _ => rDj x :: s v r) L) : dOk 1 s' := by
  intro v L j
  rw [e]
  cases L with
  | nil =>
    cases j with
    | zero => rfl
    | succ j => have := h v [] j; simp at this ⊢; exact this
  | cons x r =>
    cases j with
    | zero => rfl
    | succ j => have := h v r j; simp at this ⊢; exact this
theorem dOk_s {i : Nat} {s s' : rV → List rV → List rV} (h : dOk (i + 1) s) (e : ∀ v L, s' v L = @List.rec rV (fun _ => List rV) (vU :: s v []) (fun x r _ => x :: s v r) L) : dOk (i + 2) s' := by
  intro v L j
  rw [e]
  cases L with
  | nil =>
    cases j with
    | zero => rfl
    | succ j => have := h v [] j; simp at this ⊢; exact this
  | cons x r =>
    cases j with
    | zero => rfl
    | succ j => have := h v r j; simp at this ⊢; exact this
theorem gk0 : gOk 0 nG0 := by
  intro L
  cases L <;> rfl
theorem sk0 : sOk 0 nS0 := by
  intro v L j
  cases L <;> cases j <;> simp [nS0]
theorem dk0 : dOk 0 nD0 := by
  intro v L j
  cases L with
  | nil =>
    rcases j with _ | _ | j <;> simp [nD0]
  | cons x r =>
    cases r with
    | nil => rcases j with _ | _ | j <;> simp [nD0, nS0]
    | cons y r => rcases j with _ | _ | j <;> simp [nD0, nS0]
theorem gk1 : gOk 1 nG1 := gOk_s gk0 (fun _ => rfl)
theorem sk1 : sOk 1 nS1 := sOk_1 sk0 (fun _ _ => rfl)
theorem dk1 : dOk 1 nD1 := dOk_1 dk0 (fun _ _ => rfl)
theorem gk2 : gOk 2 nG2 := gOk_s gk1 (fun _ => rfl)
theorem sk2 : sOk 2 nS2 := sOk_s sk1 (fun _ _ => rfl)
theorem dk2 : dOk 2 nD2 := dOk_s dk1 (fun _ _ => rfl)
theorem gk3 : gOk 3 nG3 := gOk_s gk2 (fun _ => rfl)
theorem sk3 : sOk 3 nS3 := sOk_s sk2 (fun _ _ => rfl)
theorem dk3 : dOk 3 nD3 := dOk_s dk2 (fun _ _ => rfl)
theorem gk4 : gOk 4 nG4 := gOk_s gk3 (fun _ => rfl)
theorem sk4 : sOk 4 nS4 := sOk_s sk3 (fun _ _ => rfl)
theorem dk4 : dOk 4 nD4 := dOk_s dk3 (fun _ _ => rfl)
theorem gk5 : gOk 5 nG5 := gOk_s gk4 (fun _ => rfl)
theorem sk5 : sOk 5 nS5 := sOk_s sk4 (fun _ _ => rfl)
theorem dk5 : dOk 5 nD5 := dOk_s dk4 (fun _ _ => rfl)
theorem gk6 : gOk 6 nG6 := gOk_s gk5 (fun _ => rfl)
theorem sk6 : sOk 6 nS6 := sOk_s sk5 (fun _ _ => rfl)
theorem dk6 : dOk 6 nD6 := dOk_s dk5 (fun _ _ => rfl)
theorem gk7 : gOk 7 nG7 := gOk_s gk6 (fun _ => rfl)
theorem sk7 : sOk 7 nS7 := sOk_s sk6 (fun _ _ => rfl)
theorem dk7 : dOk 7 nD7 := dOk_s dk6 (fun _ _ => rfl)
theorem gk8 : gOk 8 nG8 := gOk_s gk7 (fun _ => rfl)
theorem sk8 : sOk 8 nS8 := sOk_s sk7 (fun _ _ => rfl)
theorem dk8 : dOk 8 nD8 := dOk_s dk7 (fun _ _ => rfl)
theorem gk9 : gOk 9 nG9 := gOk_s gk8 (fun _ => rfl)
theorem sk9 : sOk 9 nS9 := sOk_s sk8 (fun _ _ => rfl)
theorem dk9 : dOk 9 nD9 := dOk_s dk8 (fun _ _ => rfl)
theorem gk10 : gOk 10 nG10 := gOk_s gk9 (fun _ => rfl)
theorem sk10 : sOk 10 nS10 := sOk_s sk9 (fun _ _ => rfl)
theorem dk10 : dOk 10 nD10 := dOk_s dk9 (fun _ _ => rfl)
theorem gk11 : gOk 11 nG11 := gOk_s gk10 (fun _ => rfl)
theorem sk11 : sOk 11 nS11 := sOk_s sk10 (fun _ _ => rfl)
theorem dk11 : dOk 11 nD11 := dOk_s dk10 (fun _ _ => rfl)
theorem gk12 : gOk 12 nG12 := gOk_s gk11 (fun _ => rfl)
theorem sk12 : sOk 12 nS12 := sOk_s sk11 (fun _ _ => rfl)
theorem dk12 : dOk 12 nD12 := dOk_s dk11 (fun _ _ => rfl)
theorem gk13 : gOk 13 nG13 := gOk_s gk12 (fun _ => rfl)
theorem sk13 : sOk 13 nS13 := sOk_s sk12 (fun _ _ => rfl)
theorem dk13 : dOk 13 nD13 := dOk_s dk12 (fun _ _ => rfl)
theorem gk14 : gOk 14 nG14 := gOk_s gk13 (fun _ => rfl)
theorem sk14 : sOk 14 nS14 := sOk_s sk13 (fun _ _ => rfl)
theorem dk14 : dOk 14 nD14 := dOk_s dk13 (fun _ _ => rfl)
theorem gk15 : gOk 15 nG15 := gOk_s gk14 (fun _ => rfl)
theorem sk15 : sOk 15 nS15 := sOk_s sk14 (fun _ _ => rfl)
theorem dk15 : dOk 15 nD15 := dOk_s dk14 (fun _ _ => rfl)
theorem gk16 : gOk 16 nG16 := gOk_s gk15 (fun _ => rfl)
theorem sk16 : sOk 16 nS16 := sOk_s sk15 (fun _ _ => rfl)
theorem dk16 : dOk 16 nD16 := dOk_s dk15 (fun _ _ => rfl)
-- ===== the tree =====
theorem land_pow (i d : Nat) : Nat.beq (Nat.land i (2 ^ d)) 0 = !(i.testBit d) := by
  have e : Nat.land i (2 ^ d) = i &&& 2 ^ d := rfl
  rw [e]
  cases h : i.testBit d with
  | true =>
    have : (i &&& 2 ^ d).testBit d = true := by rw [Nat.testBit_and, h, Nat.testBit_two_pow_self]; rfl
    cases hz : Nat.beq (i &&& 2 ^ d) 0 with
    | false => rfl
    | true =>
      rw [Nat.eq_of_beq_eq_true hz, Nat.zero_testBit] at this
      cases this
  | false =>
    have : i &&& 2 ^ d = 0 := by
      apply Nat.eq_of_testBit_eq
      intro k
      rw [Nat.testBit_and, Nat.testBit_two_pow, Nat.zero_testBit]
      by_cases hk : d = k
      · subst hk; rw [h]; rfl
      · rw [decide_eq_false hk]; simp
    rw [this]; rfl
def tAg (d a b : Nat) : Prop := ∀ i, i < d → a.testBit i = b.testBit i
theorem tAg_s {d a b : Nat} : tAg (d + 1) a b ↔ tAg d a b ∧ a.testBit d = b.testBit d := by
  refine ⟨fun h => ⟨fun i hi => h i (by omega), h d (by omega)⟩, fun h i hi => ?_⟩
  by_cases e : i = d
  · subst e; exact h.2
  · exact h.1 i (by omega)
def tOk (d : Nat) (g : rT d → Nat → rC) (s : rT d → Nat → rC → rT d) : Prop := (∀ t a b c, tAg d a b → g (s t a c) b = c) ∧ (∀ t a b c, ¬ tAg d a b → g (s t a c) b = g t b) ∧ ∀ t a b, tAg d a b → g t a = g t b
def rMk {d : Nat} (x y : rT d) : rT (d + 1) := (x, y)
theorem rMk_all {d : Nat} (t : rT (d + 1)) : ∃ x y : rT d, t = rMk x y := ⟨t.1, t.2, rfl⟩
theorem tOk_s {d : Nat} {g : rT d → Nat → rC} {s : rT d → Nat → rC → rT d} {g' : rT (d + 1) → Nat → rC} {s' : rT (d + 1) → Nat → rC → rT (d + 1)} (h : tOk d g s)
    (eg : ∀ (x y : rT d) i, g' (rMk x y) i = @Bool.rec (fun _ => rC) (g y i) (g x i) (Nat.beq (Nat.land i (2 ^ d)) 0))
    (es : ∀ (x y : rT d) i c, s' (rMk x y) i c = @Bool.rec (fun _ => rT (d + 1)) (rMk x (s y i c)) (rMk (s x i c) y) (Nat.beq (Nat.land i (2 ^ d)) 0)) : tOk (d + 1) g' s' := by
  obtain ⟨h1, h2, h3⟩ := h
  refine ⟨fun t a b c hab => ?_, fun t a b c hab => ?_, fun t a b hab => ?_⟩
  · obtain ⟨x, y, rfl⟩ := rMk_all t
    obtain ⟨ha, hb⟩ := tAg_s.mp hab
    rw [es, land_pow]
    cases ht : a.testBit d with
    | true => rw [show (!true) = false from rfl]; show g' (rMk x (s y a c)) b = c; rw [eg, land_pow, ← hb, ht]; exact h1 y a b c ha
    | false => rw [show (!false) = true from rfl]; show g' (rMk (s x a c) y) b = c; rw [eg, land_pow, ← hb, ht]; exact h1 x a b c ha
  · obtain ⟨x, y, rfl⟩ := rMk_all t
    rw [es, land_pow]
    cases ht : a.testBit d with
    | true =>
      rw [show (!true) = false from rfl]
      show g' (rMk x (s y a c)) b = g' (rMk x y) b
      rw [eg, eg, land_pow]
      cases hb : b.testBit d with
      | true => exact h2 y a b c (fun q => hab (tAg_s.mpr ⟨q, by rw [ht, hb]⟩))
      | false => rfl
    | false =>
      rw [show (!false) = true from rfl]
      show g' (rMk (s x a c) y) b = g' (rMk x y) b
      rw [eg, eg, land_pow]
      cases hb : b.testBit d with
      | true => rfl
      | false => exact h2 x a b c (fun q => hab (tAg_s.mpr ⟨q, by rw [ht, hb]⟩))
  · obtain ⟨x, y, rfl⟩ := rMk_all t
    obtain ⟨ha, hb⟩ := tAg_s.mp hab
    rw [eg, eg, land_pow, land_pow, ← hb]
    cases a.testBit d with
    | true => exact h3 y a b ha
    | false => exact h3 x a b ha
theorem tk0 : tOk 0 tG0 tS0 := ⟨fun _ _ _ _ _ => rfl, fun _ _ _ _ h => absurd (fun i hi => absurd hi (Nat.not_lt_zero i)) h, fun _ _ _ _ => rfl⟩
theorem tk1 : tOk 1 tG1 tS1 := tOk_s tk0 (fun _ _ _ => rfl) (fun _ _ _ _ => rfl)
theorem tk2 : tOk 2 tG2 tS2 := tOk_s tk1 (fun _ _ _ => rfl) (fun _ _ _ _ => rfl)
theorem tk3 : tOk 3 tG3 tS3 := tOk_s tk2 (fun _ _ _ => rfl) (fun _ _ _ _ => rfl)
theorem tk4 : tOk 4 tG4 tS4 := tOk_s tk3 (fun _ _ _ => rfl) (fun _ _ _ _ => rfl)
theorem tk5 : tOk 5 tG5 tS5 := tOk_s tk4 (fun _ _ _ => rfl) (fun _ _ _ _ => rfl)
theorem tk6 : tOk 6 tG6 tS6 := tOk_s tk5 (fun _ _ _ => rfl) (fun _ _ _ _ => rfl)
theorem tk7 : tOk 7 tG7 tS7 := tOk_s tk6 (fun _ _ _ => rfl) (fun _ _ _ _ => rfl)
theorem tk8 : tOk 8 tG8 tS8 := tOk_s tk7 (fun _ _ _ => rfl) (fun _ _ _ _ => rfl)
theorem tk9 : tOk 9 tG9 tS9 := tOk_s tk8 (fun _ _ _ => rfl) (fun _ _ _ _ => rfl)
theorem tAg9 {a b : Nat} (ha : a < 512) (hb : b < 512) : tAg 9 a b ↔ a = b := by
  refine ⟨fun h => Nat.eq_of_testBit_eq fun i => ?_, fun h => by subst h; exact fun _ _ => rfl⟩
  by_cases hi : i < 9
  · exact h i hi
  · rw [Nat.testBit_lt_two_pow (Nat.lt_of_lt_of_le (show a < 2 ^ 9 from ha) (Nat.pow_le_pow_right (by decide) (by omega))), Nat.testBit_lt_two_pow (Nat.lt_of_lt_of_le (show b < 2 ^ 9 from hb) (Nat.pow_le_pow_right (by decide) (by omega)))]
theorem tSet_eq (t : rT 9) (a : Nat) (c : rC) : tG9 (tS9 t a c) a = c := tk9.1 t a a c (fun _ _ => rfl)
theorem tSet_ne (t : rT 9) {a b : Nat} (c : rC) (ha : a < 512) (hb : b < 512) (h : a ≠ b) : tG9 (tS9 t a c) b = tG9 t b := tk9.2.1 t a b c (fun q => h ((tAg9 ha hb).mp q))
theorem tGet_e1 (t : rT 9) : tG9 t 8192 = tG9 t 0 := tk9.2.2 t 8192 0 (fun i hi => by
  rcases (by omega : i = 0 ∨ i = 1 ∨ i = 2 ∨ i = 3 ∨ i = 4 ∨ i = 5 ∨ i = 6 ∨ i = 7 ∨ i = 8) with rfl | rfl | rfl | rfl | rfl | rfl | rfl | rfl | rfl <;> decide)
theorem tGet_e2 (t : rT 9) : tG9 t 16384 = tG9 t 0 := tk9.2.2 t 16384 0 (fun i hi => by
  rcases (by omega : i = 0 ∨ i = 1 ∨ i = 2 ∨ i = 3 ∨ i = 4 ∨ i = 5 ∨ i = 6 ∨ i = 7 ∨ i = 8) with rfl | rfl | rfl | rfl | rfl | rfl | rfl | rfl | rfl <;> decide)
