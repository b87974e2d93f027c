/-! A small interpreter of bytecode, for the kernel: ints and longs as numbers, cells as numbers of 64 bits a place, the heap as a tree. -/
-- a value: an int, a reference (0 null, 8192 the script, 16384 the lists' first array, else a cell's number), a long, or two numbers: below 2^32 an int from the first to the second one; 2^32 + c an int with c in its last six bits; 2^33 nothing known; 2^34 a double by its bits
abbrev rV : Type := Nat ⊕ (Nat ⊕ (Nat ⊕ (Nat × Nat)))
-- a cell: 2 c + 2 an object of the class c, 2 t + 1 an array of the type t, 0 nothing known; its length; its places
abbrev rC : Type := Nat × (Nat × Nat)
def rT : Nat → Type := fun d => Nat.rec rC (fun _ T => T × T) d
-- the heap: the cells; how many numbers are used, how many cells and slots were made, the script
abbrev rH : Type := rT 9 × (Nat × (Nat × (Nat × List rV)))
abbrev rO : Type := Option rV ⊕ Nat
abbrev rR : Type := Option (rO × rH)
abbrev rJ : Type := Nat → List rV → List rV → rH → rR
abbrev rP : Type := (rJ × rJ) → List rV → List rV → rH → rR
abbrev vI (n : Nat) : rV := .inl n
abbrev vR (n : Nat) : rV := .inr (.inl n)
abbrev vL (n : Nat) : rV := .inr (.inr (.inl n))
abbrev vX (a b : Nat) : rV := .inr (.inr (.inr (a, b)))
def vU : rV := vX 8589934592 0
noncomputable def rC2 (v : rV) : Bool := @Sum.rec _ _ (fun _ => Bool) (fun _ => false) (fun w => @Sum.rec _ _ (fun _ => Bool) (fun _ => false) (fun w => @Sum.rec _ _ (fun _ => Bool) (fun _ => true) (fun p => Nat.beq p.1 17179869184) w) w) v
noncomputable def rDj (v : rV) : rV := @Bool.rec (fun _ => rV) v vU (rC2 v)
noncomputable def nG0 (L : List rV) : rV := @List.rec _ (fun _ => rV) vU (fun x _ _ => x) L
noncomputable def nS0 (v : rV) (L : List rV) : List rV := @List.rec _ (fun _ => List rV) [v] (fun _ r _ => v :: r) L
noncomputable def nD0 (v : rV) (L : List rV) : List rV := @List.rec _ (fun _ => List rV) [v, vU] (fun _ r _ => v :: nS0 vU r) L
noncomputable def nG1 (L : List rV) : rV := @List.rec _ (fun _ => rV) vU (fun _ r _ => nG0 r) L
noncomputable def nS1 (v : rV) (L : List rV) : List rV := @List.rec _ (fun _ => List rV) (vU :: nS0 v []) (fun x r _ => rDj x :: nS0 v r) L
noncomputable def nD1 (v : rV) (L : List rV) : List rV := @List.rec _ (fun _ => List rV) (vU :: nD0 v []) (fun x r _ => rDj x :: nD0 v r) L
noncomputable def nG2 (L : List rV) : rV := @List.rec _ (fun _ => rV) vU (fun _ r _ => nG1 r) L
noncomputable def nS2 (v : rV) (L : List rV) : List rV := @List.rec _ (fun _ => List rV) (vU :: nS1 v []) (fun x r _ => x :: nS1 v r) L
noncomputable def nD2 (v : rV) (L : List rV) : List rV := @List.rec _ (fun _ => List rV) (vU :: nD1 v []) (fun x r _ => x :: nD1 v r) L
noncomputable def nG3 (L : List rV) : rV := @List.rec _ (fun _ => rV) vU (fun _ r _ => nG2 r) L
noncomputable def nS3 (v : rV) (L : List rV) : List rV := @List.rec _ (fun _ => List rV) (vU :: nS2 v []) (fun x r _ => x :: nS2 v r) L
noncomputable def nD3 (v : rV) (L : List rV) : List rV := @List.rec _ (fun _ => List rV) (vU :: nD2 v []) (fun x r _ => x :: nD2 v r) L
noncomputable def nG4 (L : List rV) : rV := @List.rec _ (fun _ => rV) vU (fun _ r _ => nG3 r) L
noncomputable def nS4 (v : rV) (L : List rV) : List rV := @List.rec _ (fun _ => List rV) (vU :: nS3 v []) (fun x r _ => x :: nS3 v r) L
noncomputable def nD4 (v : rV) (L : List rV) : List rV := @List.rec _ (fun _ => List rV) (vU :: nD3 v []) (fun x r _ => x :: nD3 v r) L
noncomputable def nG5 (L : List rV) : rV := @List.rec _ (fun _ => rV) vU (fun _ r _ => nG4 r) L
noncomputable def nS5 (v : rV) (L : List rV) : List rV := @List.rec _ (fun _ => List rV) (vU :: nS4 v []) (fun x r _ => x :: nS4 v r) L
noncomputable def nD5 (v : rV) (L : List rV) : List rV := @List.rec _ (fun _ => List rV) (vU :: nD4 v []) (fun x r _ => x :: nD4 v r) L
noncomputable def nG6 (L : List rV) : rV := @List.rec _ (fun _ => rV) vU (fun _ r _ => nG5 r) L
noncomputable def nS6 (v : rV) (L : List rV) : List rV := @List.rec _ (fun _ => List rV) (vU :: nS5 v []) (fun x r _ => x :: nS5 v r) L
noncomputable def nD6 (v : rV) (L : List rV) : List rV := @List.rec _ (fun _ => List rV) (vU :: nD5 v []) (fun x r _ => x :: nD5 v r) L
noncomputable def nG7 (L : List rV) : rV := @List.rec _ (fun _ => rV) vU (fun _ r _ => nG6 r) L
noncomputable def nS7 (v : rV) (L : List rV) : List rV := @List.rec _ (fun _ => List rV) (vU :: nS6 v []) (fun x r _ => x :: nS6 v r) L
noncomputable def nD7 (v : rV) (L : List rV) : List rV := @List.rec _ (fun _ => List rV) (vU :: nD6 v []) (fun x r _ => x :: nD6 v r) L
noncomputable def nG8 (L : List rV) : rV := @List.rec _ (fun _ => rV) vU (fun _ r _ => nG7 r) L
noncomputable def nS8 (v : rV) (L : List rV) : List rV := @List.rec _ (fun _ => List rV) (vU :: nS7 v []) (fun x r _ => x :: nS7 v r) L
noncomputable def nD8 (v : rV) (L : List rV) : List rV := @List.rec _ (fun _ => List rV) (vU :: nD7 v []) (fun x r _ => x :: nD7 v r) L
noncomputable def nG9 (L : List rV) : rV := @List.rec _ (fun _ => rV) vU (fun _ r _ => nG8 r) L
noncomputable def nS9 (v : rV) (L : List rV) : List rV := @List.rec _ (fun _ => List rV) (vU :: nS8 v []) (fun x r _ => x :: nS8 v r) L
noncomputable def nD9 (v : rV) (L : List rV) : List rV := @List.rec _ (fun _ => List rV) (vU :: nD8 v []) (fun x r _ => x :: nD8 v r) L
noncomputable def nG10 (L : List rV) : rV := @List.rec _ (fun _ => rV) vU (fun _ r _ => nG9 r) L
noncomputable def nS10 (v : rV) (L : List rV) : List rV := @List.rec _ (fun _ => List rV) (vU :: nS9 v []) (fun x r _ => x :: nS9 v r) L
noncomputable def nD10 (v : rV) (L : List rV) : List rV := @List.rec _ (fun _ => List rV) (vU :: nD9 v []) (fun x r _ => x :: nD9 v r) L
noncomputable def nG11 (L : List rV) : rV := @List.rec _ (fun _ => rV) vU (fun _ r _ => nG10 r) L
noncomputable def nS11 (v : rV) (L : List rV) : List rV := @List.rec _ (fun _ => List rV) (vU :: nS10 v []) (fun x r _ => x :: nS10 v r) L
noncomputable def nD11 (v : rV) (L : List rV) : List rV := @List.rec _ (fun _ => List rV) (vU :: nD10 v []) (fun x r _ => x :: nD10 v r) L
noncomputable def nG12 (L : List rV) : rV := @List.rec _ (fun _ => rV) vU (fun _ r _ => nG11 r) L
noncomputable def nS12 (v : rV) (L : List rV) : List rV := @List.rec _ (fun _ => List rV) (vU :: nS11 v []) (fun x r _ => x :: nS11 v r) L
noncomputable def nD12 (v : rV) (L : List rV) : List rV := @List.rec _ (fun _ => List rV) (vU :: nD11 v []) (fun x r _ => x :: nD11 v r) L
noncomputable def nG13 (L : List rV) : rV := @List.rec _ (fun _ => rV) vU (fun _ r _ => nG12 r) L
noncomputable def nS13 (v : rV) (L : List rV) : List rV := @List.rec _ (fun _ => List rV) (vU :: nS12 v []) (fun x r _ => x :: nS12 v r) L
noncomputable def nD13 (v : rV) (L : List rV) : List rV := @List.rec _ (fun _ => List rV) (vU :: nD12 v []) (fun x r _ => x :: nD12 v r) L
noncomputable def nG14 (L : List rV) : rV := @List.rec _ (fun _ => rV) vU (fun _ r _ => nG13 r) L
noncomputable def nS14 (v : rV) (L : List rV) : List rV := @List.rec _ (fun _ => List rV) (vU :: nS13 v []) (fun x r _ => x :: nS13 v r) L
noncomputable def nD14 (v : rV) (L : List rV) : List rV := @List.rec _ (fun _ => List rV) (vU :: nD13 v []) (fun x r _ => x :: nD13 v r) L
noncomputable def nG15 (L : List rV) : rV := @List.rec _ (fun _ => rV) vU (fun _ r _ => nG14 r) L
noncomputable def nS15 (v : rV) (L : List rV) : List rV := @List.rec _ (fun _ => List rV) (vU :: nS14 v []) (fun x r _ => x :: nS14 v r) L
noncomputable def nD15 (v : rV) (L : List rV) : List rV := @List.rec _ (fun _ => List rV) (vU :: nD14 v []) (fun x r _ => x :: nD14 v r) L
noncomputable def nG16 (L : List rV) : rV := @List.rec _ (fun _ => rV) vU (fun _ r _ => nG15 r) L
noncomputable def nS16 (v : rV) (L : List rV) : List rV := @List.rec _ (fun _ => List rV) (vU :: nS15 v []) (fun x r _ => x :: nS15 v r) L
noncomputable def nD16 (v : rV) (L : List rV) : List rV := @List.rec _ (fun _ => List rV) (vU :: nD15 v []) (fun x r _ => x :: nD15 v r) L
noncomputable def tG0 (t : rT 0) (_ : Nat) : rC := t
noncomputable def tS0 (_ : rT 0) (_ : Nat) (c : rC) : rT 0 := c
noncomputable def tG1 (t : rT 1) (i : Nat) : rC := @Prod.rec (rT 0) (rT 0) (fun _ => rC) (fun a b => @Bool.rec (fun _ => rC) (tG0 b i) (tG0 a i) (Nat.beq (Nat.land i 1) 0)) t
noncomputable def tS1 (t : rT 1) (i : Nat) (c : rC) : rT 1 := @Prod.rec (rT 0) (rT 0) (fun _ => rT 1) (fun a b => @Bool.rec (fun _ => rT 1) (a, tS0 b i c) (tS0 a i c, b) (Nat.beq (Nat.land i 1) 0)) t
noncomputable def tG2 (t : rT 2) (i : Nat) : rC := @Prod.rec (rT 1) (rT 1) (fun _ => rC) (fun a b => @Bool.rec (fun _ => rC) (tG1 b i) (tG1 a i) (Nat.beq (Nat.land i 2) 0)) t
noncomputable def tS2 (t : rT 2) (i : Nat) (c : rC) : rT 2 := @Prod.rec (rT 1) (rT 1) (fun _ => rT 2) (fun a b => @Bool.rec (fun _ => rT 2) (a, tS1 b i c) (tS1 a i c, b) (Nat.beq (Nat.land i 2) 0)) t
noncomputable def tG3 (t : rT 3) (i : Nat) : rC := @Prod.rec (rT 2) (rT 2) (fun _ => rC) (fun a b => @Bool.rec (fun _ => rC) (tG2 b i) (tG2 a i) (Nat.beq (Nat.land i 4) 0)) t
noncomputable def tS3 (t : rT 3) (i : Nat) (c : rC) : rT 3 := @Prod.rec (rT 2) (rT 2) (fun _ => rT 3) (fun a b => @Bool.rec (fun _ => rT 3) (a, tS2 b i c) (tS2 a i c, b) (Nat.beq (Nat.land i 4) 0)) t
noncomputable def tG4 (t : rT 4) (i : Nat) : rC := @Prod.rec (rT 3) (rT 3) (fun _ => rC) (fun a b => @Bool.rec (fun _ => rC) (tG3 b i) (tG3 a i) (Nat.beq (Nat.land i 8) 0)) t
noncomputable def tS4 (t : rT 4) (i : Nat) (c : rC) : rT 4 := @Prod.rec (rT 3) (rT 3) (fun _ => rT 4) (fun a b => @Bool.rec (fun _ => rT 4) (a, tS3 b i c) (tS3 a i c, b) (Nat.beq (Nat.land i 8) 0)) t
noncomputable def tG5 (t : rT 5) (i : Nat) : rC := @Prod.rec (rT 4) (rT 4) (fun _ => rC) (fun a b => @Bool.rec (fun _ => rC) (tG4 b i) (tG4 a i) (Nat.beq (Nat.land i 16) 0)) t
noncomputable def tS5 (t : rT 5) (i : Nat) (c : rC) : rT 5 := @Prod.rec (rT 4) (rT 4) (fun _ => rT 5) (fun a b => @Bool.rec (fun _ => rT 5) (a, tS4 b i c) (tS4 a i c, b) (Nat.beq (Nat.land i 16) 0)) t
noncomputable def tG6 (t : rT 6) (i : Nat) : rC := @Prod.rec (rT 5) (rT 5) (fun _ => rC) (fun a b => @Bool.rec (fun _ => rC) (tG5 b i) (tG5 a i) (Nat.beq (Nat.land i 32) 0)) t
noncomputable def tS6 (t : rT 6) (i : Nat) (c : rC) : rT 6 := @Prod.rec (rT 5) (rT 5) (fun _ => rT 6) (fun a b => @Bool.rec (fun _ => rT 6) (a, tS5 b i c) (tS5 a i c, b) (Nat.beq (Nat.land i 32) 0)) t
noncomputable def tG7 (t : rT 7) (i : Nat) : rC := @Prod.rec (rT 6) (rT 6) (fun _ => rC) (fun a b => @Bool.rec (fun _ => rC) (tG6 b i) (tG6 a i) (Nat.beq (Nat.land i 64) 0)) t
noncomputable def tS7 (t : rT 7) (i : Nat) (c : rC) : rT 7 := @Prod.rec (rT 6) (rT 6) (fun _ => rT 7) (fun a b => @Bool.rec (fun _ => rT 7) (a, tS6 b i c) (tS6 a i c, b) (Nat.beq (Nat.land i 64) 0)) t
noncomputable def tG8 (t : rT 8) (i : Nat) : rC := @Prod.rec (rT 7) (rT 7) (fun _ => rC) (fun a b => @Bool.rec (fun _ => rC) (tG7 b i) (tG7 a i) (Nat.beq (Nat.land i 128) 0)) t
noncomputable def tS8 (t : rT 8) (i : Nat) (c : rC) : rT 8 := @Prod.rec (rT 7) (rT 7) (fun _ => rT 8) (fun a b => @Bool.rec (fun _ => rT 8) (a, tS7 b i c) (tS7 a i c, b) (Nat.beq (Nat.land i 128) 0)) t
noncomputable def tG9 (t : rT 9) (i : Nat) : rC := @Prod.rec (rT 8) (rT 8) (fun _ => rC) (fun a b => @Bool.rec (fun _ => rC) (tG8 b i) (tG8 a i) (Nat.beq (Nat.land i 256) 0)) t
noncomputable def tS9 (t : rT 9) (i : Nat) (c : rC) : rT 9 := @Prod.rec (rT 8) (rT 8) (fun _ => rT 9) (fun a b => @Bool.rec (fun _ => rT 9) (a, tS8 b i c) (tS8 a i c, b) (Nat.beq (Nat.land i 256) 0)) t
noncomputable def tE0 : rT 0 := (0, (0, 0))
noncomputable def tE1 : rT 1 := (tE0, tE0)
noncomputable def tE2 : rT 2 := (tE1, tE1)
noncomputable def tE3 : rT 3 := (tE2, tE2)
noncomputable def tE4 : rT 4 := (tE3, tE3)
noncomputable def tE5 : rT 5 := (tE4, tE4)
noncomputable def tE6 : rT 6 := (tE5, tE5)
noncomputable def tE7 : rT 7 := (tE6, tE6)
noncomputable def tE8 : rT 8 := (tE7, tE7)
noncomputable def tE9 : rT 9 := (tE8, tE8)
noncomputable def rAt (h : rH) (a : Nat) : rC := @Prod.rec _ _ (fun _ => rC) (fun t _ => tG9 t a) h
noncomputable def rPut (h : rH) (a : Nat) (c : rC) : rH := @Prod.rec _ _ (fun _ => rH) (fun t r => (tS9 t a c, r)) h
noncomputable def rScr (h : rH) : List rV := h.2.2.2.2
noncomputable def rNew (h : rH) (c : rC) (sz : Nat) (k : Nat → rH → rR) : rR := @Prod.rec _ _ (fun _ => rR) (fun t r => @Prod.rec _ _ (fun _ => rR) (fun n r => @Prod.rec _ _ (fun _ => rR) (fun cs r => @Prod.rec _ _ (fun _ => rR) (fun sl sc => @Bool.rec (fun _ => rR) (none) (k n (tS9 t n c, (Nat.succ n, (Nat.succ cs, (Nat.add sl sz, sc))))) (Nat.ble n 510)) (r)) (r)) (r)) (h)
noncomputable def rSp (d p m s : Nat) : Nat := Nat.xor d (Nat.shiftLeft (Nat.xor (Nat.mod (Nat.shiftRight d (Nat.mul 64 p)) (Nat.pow 2 (Nat.mul 64 m))) s) (Nat.mul 64 p))
noncomputable def rPl (d p : Nat) : Nat := Nat.mod (Nat.shiftRight d (Nat.mul 64 p)) 18446744073709551616
noncomputable def aDv (x y : Nat) : Bool := @Bool.rec (fun _ => Bool) (@Bool.rec (fun _ => Bool) (Nat.ble x 2147483647) (false) (Nat.ble 2147483648 y)) (false) (Nat.ble y 0)
noncomputable def aDl (x y : Nat) : Bool := @Bool.rec (fun _ => Bool) (@Bool.rec (fun _ => Bool) (Nat.ble x 9223372036854775807) (false) (Nat.ble 9223372036854775808 y)) (false) (Nat.ble y 0)
noncomputable def xN (_ _ _ : Nat) : Option rV := none
noncomputable def sI (x : Nat) : Nat := Nat.xor x 2147483648
noncomputable def sL (x : Nat) : Nat := Nat.xor x 9223372036854775808
noncomputable def fAdd (x y : Nat) : Nat := Nat.mod (Nat.add x y) 4294967296
noncomputable def fSub (x y : Nat) : Nat := Nat.mod (Nat.add x (Nat.sub 4294967296 y)) 4294967296
noncomputable def fMul (x y : Nat) : Nat := Nat.mod (Nat.mul x y) 4294967296
noncomputable def fAnd (x y : Nat) : Nat := Nat.land x y
noncomputable def fOr (x y : Nat) : Nat := Nat.lor x y
noncomputable def fXor (x y : Nat) : Nat := Nat.xor x y
noncomputable def fShl (x y : Nat) : Nat := Nat.mod (Nat.shiftLeft x (Nat.mod y 32)) 4294967296
noncomputable def fShr (x y : Nat) : Nat := @Bool.rec (fun _ => Nat) (Nat.shiftRight x (Nat.mod y 32)) (Nat.sub 4294967295 (Nat.shiftRight (Nat.sub 4294967295 x) (Nat.mod y 32))) (Nat.ble 2147483648 x)
noncomputable def fUsh (x y : Nat) : Nat := Nat.shiftRight x (Nat.mod y 32)
noncomputable def fDiv (x y : Nat) : Nat := Nat.div x y
noncomputable def fRem (x y : Nat) : Nat := Nat.mod x y
noncomputable def fMax (x y : Nat) : Nat := @Bool.rec (fun _ => Nat) (y) (x) (Nat.ble (sI y) (sI x))
noncomputable def fMin (x y : Nat) : Nat := @Bool.rec (fun _ => Nat) (y) (x) (Nat.ble (sI x) (sI y))
noncomputable def fI2l (x : Nat) : Nat := @Bool.rec (fun _ => Nat) (x) (Nat.add x 18446744069414584320) (Nat.ble 2147483648 x)
noncomputable def fLadd (x y : Nat) : Nat := Nat.mod (Nat.add x y) 18446744073709551616
noncomputable def fLsub (x y : Nat) : Nat := Nat.mod (Nat.add x (Nat.sub 18446744073709551616 y)) 18446744073709551616
noncomputable def fLmul (x y : Nat) : Nat := Nat.mod (Nat.mul x y) 18446744073709551616
noncomputable def fLshl (x y : Nat) : Nat := Nat.mod (Nat.shiftLeft x (Nat.mod y 64)) 18446744073709551616
noncomputable def fLshr (x y : Nat) : Nat := @Bool.rec (fun _ => Nat) (Nat.shiftRight x (Nat.mod y 64)) (Nat.sub 18446744073709551615 (Nat.shiftRight (Nat.sub 18446744073709551615 x) (Nat.mod y 64))) (Nat.ble 9223372036854775808 x)
noncomputable def fLush (x y : Nat) : Nat := Nat.shiftRight x (Nat.mod y 64)
noncomputable def fLcmp (x y : Nat) : Nat := @Bool.rec (fun _ => Nat) (@Bool.rec (fun _ => Nat) (4294967295) (1) (Nat.ble (sL y) (sL x))) (0) (Nat.beq x y)
noncomputable def gIv (p q m : Nat) (k : Option rV) : Option rV := @Bool.rec (fun _ => Option rV) (none) (@Bool.rec (fun _ => Option rV) (none) (k) (Nat.ble q m)) (Nat.ble p q)
noncomputable def gAdd (x p q : Nat) : Option rV := gIv p q 2147483647 (@Bool.rec (fun _ => Option rV) (none) (some (vX (Nat.add x p) (Nat.add x q))) (Nat.ble (Nat.add x q) 2147483647))
noncomputable def gMk (p q : Nat) : Option rV := @Bool.rec (fun _ => Option rV) (some (vX p q)) (some (vI p)) (Nat.beq p q)
noncomputable def gShr (p q y : Nat) : Option rV := gIv p q 2147483647 (gMk (Nat.shiftRight p (Nat.mod y 32)) (Nat.shiftRight q (Nat.mod y 32)))
noncomputable def gDiv (p q y : Nat) : Option rV := @Bool.rec (fun _ => Option rV) (@Bool.rec (fun _ => Option rV) (none) (gIv p q 2147483647 (gMk (Nat.div p y) (Nat.div q y))) (Nat.ble y 2147483647)) (none) (Nat.ble y 0)
noncomputable def gAnd (p q y : Nat) : Option rV := @Bool.rec (fun _ => Option rV) (@Bool.rec (fun _ => Option rV) (none) (gIv p q 4294967295 (some (vX 0 3))) (Nat.beq y 3)) (@Bool.rec (fun _ => Option rV) (none) (@Bool.rec (fun _ => Option rV) (none) (some (vI (Nat.sub p 4294967296))) (Nat.ble p 4294967359)) (Nat.ble 4294967296 p)) (Nat.beq y 63)
noncomputable def cEq (x y : Nat) : Bool := Nat.beq x y
noncomputable def cNe (x y : Nat) : Bool := @Bool.rec (fun _ => Bool) (true) (false) (Nat.beq x y)
noncomputable def cLt (x y : Nat) : Bool := @Bool.rec (fun _ => Bool) (true) (false) (Nat.ble (sI y) (sI x))
noncomputable def cGe (x y : Nat) : Bool := Nat.ble (sI y) (sI x)
noncomputable def cGt (x y : Nat) : Bool := @Bool.rec (fun _ => Bool) (true) (false) (Nat.ble (sI x) (sI y))
noncomputable def cLe (x y : Nat) : Bool := Nat.ble (sI x) (sI y)
noncomputable def gSg (p q : Nat) (k : Option Bool) : Option Bool := @Bool.rec (fun _ => Option Bool) (none) (@Bool.rec (fun _ => Option Bool) (@Bool.rec (fun _ => Option Bool) (none) (@Bool.rec (fun _ => Option Bool) (none) (k) (Nat.ble q 4294967295)) (Nat.ble 2147483648 p)) (k) (Nat.ble q 2147483647)) (Nat.ble p q)
noncomputable def gLt (p q y : Nat) : Option Bool := gSg p q (@Bool.rec (fun _ => Option Bool) (@Bool.rec (fun _ => Option Bool) (none) (some false) (Nat.ble (sI y) (sI p))) (some true) (Nat.ble (Nat.succ (sI q)) (sI y)))
noncomputable def gGe (p q y : Nat) : Option Bool := gSg p q (@Bool.rec (fun _ => Option Bool) (@Bool.rec (fun _ => Option Bool) (none) (some true) (Nat.ble (sI y) (sI p))) (some false) (Nat.ble (Nat.succ (sI q)) (sI y)))
noncomputable def gGt (p q y : Nat) : Option Bool := gSg p q (@Bool.rec (fun _ => Option Bool) (@Bool.rec (fun _ => Option Bool) (none) (some false) (Nat.ble (sI q) (sI y))) (some true) (Nat.ble (Nat.succ (sI y)) (sI p)))
noncomputable def gLe (p q y : Nat) : Option Bool := gSg p q (@Bool.rec (fun _ => Option Bool) (@Bool.rec (fun _ => Option Bool) (none) (some true) (Nat.ble (sI q) (sI y))) (some false) (Nat.ble (Nat.succ (sI y)) (sI p)))
noncomputable def gEq (p q y : Nat) : Option Bool := @Bool.rec (fun _ => Option Bool) (none) (@Bool.rec (fun _ => Option Bool) (none) (@Bool.rec (fun _ => Option Bool) (@Bool.rec (fun _ => Option Bool) (none) (some false) (Nat.ble (Nat.succ q) y)) (some false) (Nat.ble (Nat.succ y) p)) (Nat.ble q 4294967295)) (Nat.ble p q)
noncomputable def gNe (p q y : Nat) : Option Bool := @Bool.rec (fun _ => Option Bool) (none) (@Bool.rec (fun _ => Option Bool) (none) (@Bool.rec (fun _ => Option Bool) (@Bool.rec (fun _ => Option Bool) (none) (some true) (Nat.ble (Nat.succ q) y)) (some true) (Nat.ble (Nat.succ y) p)) (Nat.ble q 4294967295)) (Nat.ble p q)
noncomputable def rN (n : Nat) (k : Nat → rR) : rR := @Nat.rec (fun _ => rR) (k 0) (fun m _ => k (Nat.succ m)) n
noncomputable def rNth (l : List rP) (n : Nat) (df : rP) : rP := @List.rec _ (fun _ => Nat → rP) (fun _ => df) (fun p _ ih n => @Nat.rec (fun _ => rP) p (fun m _ => ih m) n) l n
noncomputable def oNone : rP := fun j L S h => none
noncomputable def oIlX (nx : rP) (j : rJ × rJ) (L S : List rV) (h : rH) (w : Nat ⊕ (Nat ⊕ (Nat × Nat))) : rR := @Sum.rec _ _ (fun _ => rR) (fun _ => none) (fun w => @Sum.rec _ _ (fun _ => rR) (fun _ => none) (fun w => @Prod.rec _ _ (fun _ => rR) (fun a b => @Bool.rec (fun _ => rR) (nx j L (vX a b :: S) h) (none) (Nat.ble 8589934592 a)) (w)) (w)) (w)
noncomputable def oIl (g : List rV → rV) (nx : rP) : rP := fun j L S h => @Sum.rec _ _ (fun _ => rR) (fun n => nx j L (vI n :: S) h) (oIlX nx j L S h) (g L)
noncomputable def oAl (g : List rV → rV) (nx : rP) : rP := fun j L S h => @Sum.rec _ _ (fun _ => rR) (fun _ => none) (fun w => @Sum.rec _ _ (fun _ => rR) (fun n => nx j L (vR n :: S) h) (fun _ => none) (w)) (g L)
noncomputable def oLl (g : List rV → rV) (nx : rP) : rP := fun j L S h => @Sum.rec _ _ (fun _ => rR) (fun _ => none) (fun w => @Sum.rec _ _ (fun _ => rR) (fun _ => none) (fun w => @Sum.rec _ _ (fun _ => rR) (fun n => nx j L (vL n :: S) h) (fun _ => none) (w)) (w)) (g L)
noncomputable def oDl (g : List rV → rV) (nx : rP) : rP := fun j L S h => @Sum.rec _ _ (fun _ => rR) (fun _ => none) (fun w => @Sum.rec _ _ (fun _ => rR) (fun _ => none) (fun w => @Sum.rec _ _ (fun _ => rR) (fun _ => none) (fun w => @Prod.rec _ _ (fun _ => rR) (fun a b => @Bool.rec (fun _ => rR) (none) (nx j L (vX a b :: S) h) (Nat.beq a 17179869184)) (w)) (w)) (w)) (g L)
noncomputable def oIsX (g : rV → List rV → List rV) (nx : rP) (j : rJ × rJ) (L S : List rV) (h : rH) (w : Nat ⊕ (Nat ⊕ (Nat × Nat))) : rR := @Sum.rec _ _ (fun _ => rR) (fun _ => none) (fun w => @Sum.rec _ _ (fun _ => rR) (fun _ => none) (fun w => @Prod.rec _ _ (fun _ => rR) (fun a b => @Bool.rec (fun _ => rR) (nx j (g (vX a b) L) S h) (none) (Nat.ble 8589934592 a)) (w)) (w)) (w)
noncomputable def oIs (g : rV → List rV → List rV) (nx : rP) : rP := fun j L S h => @List.rec _ (fun _ => rR) none (fun v S _ => @Sum.rec _ _ (fun _ => rR) (fun n => nx j (g (vI n) L) S h) (oIsX g nx j L S h) (v)) S
noncomputable def oAs (g : rV → List rV → List rV) (nx : rP) : rP := fun j L S h => @List.rec _ (fun _ => rR) none (fun v S _ => @Sum.rec _ _ (fun _ => rR) (fun _ => none) (fun w => @Sum.rec _ _ (fun _ => rR) (fun n => nx j (g (vR n) L) S h) (fun _ => none) (w)) (v)) S
noncomputable def oLs (g : rV → List rV → List rV) (nx : rP) : rP := fun j L S h => @List.rec _ (fun _ => rR) none (fun v S _ => @Sum.rec _ _ (fun _ => rR) (fun _ => none) (fun w => @Sum.rec _ _ (fun _ => rR) (fun _ => none) (fun w => @Sum.rec _ _ (fun _ => rR) (fun n => nx j (g (vL n) L) S h) (fun _ => none) (w)) (w)) (v)) S
noncomputable def oDs (g : rV → List rV → List rV) (nx : rP) : rP := fun j L S h => @List.rec _ (fun _ => rR) none (fun v S _ => @Sum.rec _ _ (fun _ => rR) (fun _ => none) (fun w => @Sum.rec _ _ (fun _ => rR) (fun _ => none) (fun w => @Sum.rec _ _ (fun _ => rR) (fun _ => none) (fun w => @Prod.rec _ _ (fun _ => rR) (fun a b => @Bool.rec (fun _ => rR) (none) (nx j (g (vX a b) L) S h) (Nat.beq a 17179869184)) (w)) (w)) (w)) (v)) S
noncomputable def oPsh (v : rV) (nx : rP) : rP := fun j L S h => nx j L (v :: S) h
noncomputable def oDup (nx : rP) : rP := fun j L S h => @List.rec _ (fun _ => rR) none (fun v S _ => @Bool.rec (fun _ => rR) (nx j L (v :: v :: S) h) (none) (rC2 v)) S
noncomputable def oDup2 (nx : rP) : rP := fun j L S h => @List.rec _ (fun _ => rR) none (fun v S _ => @List.rec _ (fun _ => rR) none (fun w S _ => @Bool.rec (fun _ => rR) (@Bool.rec (fun _ => rR) (nx j L (v :: w :: v :: w :: S) h) (none) (rC2 w)) (none) (rC2 v)) S) S
noncomputable def oDupX (nx : rP) : rP := fun j L S h => @List.rec _ (fun _ => rR) none (fun v S _ => @List.rec _ (fun _ => rR) none (fun w S _ => @Bool.rec (fun _ => rR) (@Bool.rec (fun _ => rR) (nx j L (v :: w :: v :: S) h) (none) (rC2 w)) (none) (rC2 v)) S) S
noncomputable def oPop (nx : rP) : rP := fun j L S h => @List.rec _ (fun _ => rR) none (fun v S _ => @Bool.rec (fun _ => rR) (nx j L S h) (none) (rC2 v)) S
noncomputable def oBinX (f : Nat → Nat → Nat) (g : Nat → Nat → Nat → Option rV) (nx : rP) (j : rJ × rJ) (L S : List rV) (h : rH) (y : Nat) (w : Nat ⊕ (Nat ⊕ (Nat × Nat))) : rR := @Sum.rec _ _ (fun _ => rR) (fun _ => none) (fun w => @Sum.rec _ _ (fun _ => rR) (fun _ => none) (fun w => @Prod.rec _ _ (fun _ => rR) (fun p q => @Option.rec _ (fun _ => rR) (none) (fun v => nx j L (v :: S) h) (g p q y)) (w)) (w)) (w)
noncomputable def oBinY (e : Nat → Nat → Nat → Option rV) (nx : rP) (j : rJ × rJ) (L S : List rV) (h : rH) (a : rV) (w : Nat ⊕ (Nat ⊕ (Nat × Nat))) : rR := @Sum.rec _ _ (fun _ => rR) (fun _ => none) (fun w => @Sum.rec _ _ (fun _ => rR) (fun _ => none) (fun w => @Prod.rec _ _ (fun _ => rR) (fun p q => @Sum.rec _ _ (fun _ => rR) (fun x => @Option.rec _ (fun _ => rR) (none) (fun v => nx j L (v :: S) h) (e x p q)) (fun _ => none) (a)) (w)) (w)) (w)
noncomputable def oBin (f : Nat → Nat → Nat) (g e : Nat → Nat → Nat → Option rV) (nx : rP) : rP := fun j L S h => @List.rec _ (fun _ => rR) none (fun b S _ => @List.rec _ (fun _ => rR) none (fun a S _ => @Sum.rec _ _ (fun _ => rR) (fun y => @Sum.rec _ _ (fun _ => rR) (fun x => nx j L (vI (f x y) :: S) h) (oBinX f g nx j L S h y) (a)) (oBinY e nx j L S h a) (b)) S) S
noncomputable def oDiv (ok : Nat → Nat → Bool) (f : Nat → Nat → Nat) (g : Nat → Nat → Nat → Option rV) (nx : rP) : rP := fun j L S h => @List.rec _ (fun _ => rR) none (fun b S _ => @List.rec _ (fun _ => rR) none (fun a S _ => @Sum.rec _ _ (fun _ => rR) (fun y => @Sum.rec _ _ (fun _ => rR) (fun x => @Bool.rec (fun _ => rR) (none) (nx j L (vI (f x y) :: S) h) (ok x y)) (oBinX f g nx j L S h y) (a)) (fun _ => none) (b)) S) S
noncomputable def oBinL (ok : Nat → Nat → Bool) (f : Nat → Nat → Nat) (nx : rP) : rP := fun j L S h => @List.rec _ (fun _ => rR) none (fun b S _ => @List.rec _ (fun _ => rR) none (fun a S _ => @Sum.rec _ _ (fun _ => rR) (fun _ => none) (fun w => @Sum.rec _ _ (fun _ => rR) (fun _ => none) (fun w => @Sum.rec _ _ (fun _ => rR) (fun y => @Sum.rec _ _ (fun _ => rR) (fun _ => none) (fun w => @Sum.rec _ _ (fun _ => rR) (fun _ => none) (fun w => @Sum.rec _ _ (fun _ => rR) (fun x => @Bool.rec (fun _ => rR) (none) (nx j L (vL (f x y) :: S) h) (ok x y)) (fun _ => none) (w)) (w)) (a)) (fun _ => none) (w)) (w)) (b)) S) S
noncomputable def oShL (f : Nat → Nat → Nat) (nx : rP) : rP := fun j L S h => @List.rec _ (fun _ => rR) none (fun b S _ => @List.rec _ (fun _ => rR) none (fun a S _ => @Sum.rec _ _ (fun _ => rR) (fun y => @Sum.rec _ _ (fun _ => rR) (fun _ => none) (fun w => @Sum.rec _ _ (fun _ => rR) (fun _ => none) (fun w => @Sum.rec _ _ (fun _ => rR) (fun x => nx j L (vL (f x y) :: S) h) (fun _ => none) (w)) (w)) (a)) (fun _ => none) (b)) S) S
noncomputable def oLcmp (f : Nat → Nat → Nat) (nx : rP) : rP := fun j L S h => @List.rec _ (fun _ => rR) none (fun b S _ => @List.rec _ (fun _ => rR) none (fun a S _ => @Sum.rec _ _ (fun _ => rR) (fun _ => none) (fun w => @Sum.rec _ _ (fun _ => rR) (fun _ => none) (fun w => @Sum.rec _ _ (fun _ => rR) (fun y => @Sum.rec _ _ (fun _ => rR) (fun _ => none) (fun w => @Sum.rec _ _ (fun _ => rR) (fun _ => none) (fun w => @Sum.rec _ _ (fun _ => rR) (fun x => nx j L (vI (f x y) :: S) h) (fun _ => none) (w)) (w)) (a)) (fun _ => none) (w)) (w)) (b)) S) S
noncomputable def oI2l (nx : rP) : rP := fun j L S h => @List.rec _ (fun _ => rR) none (fun a S _ => @Sum.rec _ _ (fun _ => rR) (fun x => nx j L (vL (fI2l x) :: S) h) (fun _ => none) (a)) S
noncomputable def oL2i (nx : rP) : rP := fun j L S h => @List.rec _ (fun _ => rR) none (fun a S _ => @Sum.rec _ _ (fun _ => rR) (fun _ => none) (fun w => @Sum.rec _ _ (fun _ => rR) (fun _ => none) (fun w => @Sum.rec _ _ (fun _ => rR) (fun x => nx j L (vI (Nat.mod x 4294967296) :: S) h) (fun _ => none) (w)) (w)) (a)) S
noncomputable def oI2d (nx : rP) : rP := fun j L S h => @List.rec _ (fun _ => rR) none (fun a S _ => @Sum.rec _ _ (fun _ => rR) (fun x => @Bool.rec (fun _ => rR) (none) (nx j L (vX 17179869184 4611686018427387904 :: S) h) (Nat.beq x 2)) (fun _ => none) (a)) S
noncomputable def oDdiv (nx : rP) : rP := fun j L S h => @List.rec _ (fun _ => rR) none (fun b S _ => @List.rec _ (fun _ => rR) none (fun a S _ => @Sum.rec _ _ (fun _ => rR) (fun _ => none) (fun w => @Sum.rec _ _ (fun _ => rR) (fun _ => none) (fun w => @Sum.rec _ _ (fun _ => rR) (fun _ => none) (fun w => @Prod.rec _ _ (fun _ => rR) (fun p q => @Sum.rec _ _ (fun _ => rR) (fun _ => none) (fun w => @Sum.rec _ _ (fun _ => rR) (fun _ => none) (fun w => @Sum.rec _ _ (fun _ => rR) (fun _ => none) (fun w => @Prod.rec _ _ (fun _ => rR) (fun u w => @Bool.rec (fun _ => rR) (none) (@Bool.rec (fun _ => rR) (none) (@Bool.rec (fun _ => rR) (none) (@Bool.rec (fun _ => rR) (none) (nx j L (vX 17179869184 4607182418800017408 :: S) h) (Nat.beq w 4611686018427387904)) (Nat.beq q 4611686018427387904)) (Nat.beq u 17179869184)) (Nat.beq p 17179869184)) (w)) (w)) (w)) (a)) (w)) (w)) (w)) (b)) S) S
noncomputable def oDcmp (nx : rP) : rP := fun j L S h => @List.rec _ (fun _ => rR) none (fun b S _ => @List.rec _ (fun _ => rR) none (fun a S _ => @Sum.rec _ _ (fun _ => rR) (fun _ => none) (fun w => @Sum.rec _ _ (fun _ => rR) (fun _ => none) (fun w => @Sum.rec _ _ (fun _ => rR) (fun _ => none) (fun w => @Prod.rec _ _ (fun _ => rR) (fun p q => @Sum.rec _ _ (fun _ => rR) (fun _ => none) (fun w => @Sum.rec _ _ (fun _ => rR) (fun _ => none) (fun w => @Sum.rec _ _ (fun _ => rR) (fun _ => none) (fun w => @Prod.rec _ _ (fun _ => rR) (fun u w => @Bool.rec (fun _ => rR) (none) (@Bool.rec (fun _ => rR) (none) (@Bool.rec (fun _ => rR) (none) (@Bool.rec (fun _ => rR) (none) (nx j L (vI 0 :: S) h) (Nat.beq w 4607182418800017408)) (Nat.beq q 4607182418800017408)) (Nat.beq u 17179869184)) (Nat.beq p 17179869184)) (w)) (w)) (w)) (a)) (w)) (w)) (w)) (b)) S) S
noncomputable def oInc (g : List rV → rV) (s : rV → List rV → List rV) (n : Nat) (nx : rP) : rP := fun j L S h => @Sum.rec _ _ (fun _ => rR) (fun x => nx j (s (vI (fAdd x n)) L) S h) (fun _ => none) (g L)
noncomputable def rBr (o : Option Bool) (t f : rR) : rR := @Option.rec _ (fun _ => rR) (none) (fun b => @Bool.rec (fun _ => rR) (f) (t) (b)) (o)
noncomputable def oIfX (g : Nat → Nat → Option Bool) (t f : rP) (j : rJ × rJ) (L S : List rV) (h : rH) (w : Nat ⊕ (Nat ⊕ (Nat × Nat))) : rR := @Sum.rec _ _ (fun _ => rR) (fun _ => none) (fun w => @Sum.rec _ _ (fun _ => rR) (fun _ => none) (fun w => @Prod.rec _ _ (fun _ => rR) (fun p q => rBr (g p q) (t j L S h) (f j L S h)) (w)) (w)) (w)
noncomputable def oIf (c : Nat → Bool) (g : Nat → Nat → Option Bool) (t f : rP) : rP := fun j L S h => @List.rec _ (fun _ => rR) none (fun a S _ => @Sum.rec _ _ (fun _ => rR) (fun x => @Bool.rec (fun _ => rR) (f j L S h) (t j L S h) (c x)) (oIfX g t f j L S h) (a)) S
noncomputable def oIc (c : Nat → Nat → Bool) (g : Nat → Nat → Nat → Option Bool) (t f : rP) : rP := fun j L S h => @List.rec _ (fun _ => rR) none (fun b S _ => @List.rec _ (fun _ => rR) none (fun a S _ => @Sum.rec _ _ (fun _ => rR) (fun y => @Sum.rec _ _ (fun _ => rR) (fun x => @Bool.rec (fun _ => rR) (f j L S h) (t j L S h) (c x y)) (oIfX (fun p q => g p q y) t f j L S h) (a)) (fun _ => none) (b)) S) S
noncomputable def oAeq (t : rP) : rP := fun j L S h => @List.rec _ (fun _ => rR) none (fun b S _ => @List.rec _ (fun _ => rR) none (fun a S _ => @Sum.rec _ _ (fun _ => rR) (fun _ => none) (fun w => @Sum.rec _ _ (fun _ => rR) (fun y => @Sum.rec _ _ (fun _ => rR) (fun _ => none) (fun w => @Sum.rec _ _ (fun _ => rR) (fun x => @Bool.rec (fun _ => rR) (none) (t j L S h) (Nat.beq x y)) (fun _ => none) (w)) (a)) (fun _ => none) (w)) (b)) S) S
noncomputable def oGo (nx : rP) : rP := fun j L S h => nx j L S h
noncomputable def oJb (id : Nat) : rP := fun j L S h => @Prod.rec _ _ (fun _ => rR) (fun jb _ => jb id L S h) (j)
noncomputable def oTswX (len : Nat) (df : rP) (j : rJ × rJ) (L S : List rV) (h : rH) (w : Nat ⊕ (Nat ⊕ (Nat × Nat))) : rR := @Sum.rec _ _ (fun _ => rR) (fun _ => none) (fun w => @Sum.rec _ _ (fun _ => rR) (fun _ => none) (fun w => @Prod.rec _ _ (fun _ => rR) (fun p q => @Bool.rec (fun _ => rR) (none) (@Bool.rec (fun _ => rR) (none) (@Bool.rec (fun _ => rR) (df j L S h) (none) (Nat.ble 4294967296 q)) (Nat.ble p q)) (Nat.ble len p)) (w)) (w)) (w)
noncomputable def oTsw (ps : List rP) (len : Nat) (df : rP) : rP := fun j L S h => @List.rec _ (fun _ => rR) none (fun a S _ => @Sum.rec _ _ (fun _ => rR) (fun x => rNth ps x df j L S h) (oTswX len df j L S h) (a)) S
noncomputable def oLsw (x1 x2 : Nat) (p1 p2 df : rP) : rP := fun j L S h => @List.rec _ (fun _ => rR) none (fun a S _ => @Sum.rec _ _ (fun _ => rR) (fun x => @Bool.rec (fun _ => rR) (@Bool.rec (fun _ => rR) (df j L S h) (p2 j L S h) (Nat.beq x x2)) (p1 j L S h) (Nat.beq x x1)) (fun _ => none) (a)) S
noncomputable def oGf (kd p : Nat) (mk : Nat → rV) (nx : rP) : rP := fun j L S h => @List.rec _ (fun _ => rR) none (fun o S _ => @Sum.rec _ _ (fun _ => rR) (fun _ => none) (fun w => @Sum.rec _ _ (fun _ => rR) (fun a => @Prod.rec _ _ (fun _ => rR) (fun k q => @Bool.rec (fun _ => rR) (none) (nx j L (mk (rPl q.2 p) :: S) h) (Nat.beq k kd)) (rAt h a)) (fun _ => none) (w)) (o)) S
noncomputable def rUn (ty : Nat) (v : rV) (k : Nat → rR) : rR := @Bool.rec (fun _ => rR) (@Bool.rec (fun _ => rR) (@Bool.rec (fun _ => rR) (@Sum.rec _ _ (fun _ => rR) (fun x => @Bool.rec (fun _ => rR) (none) (k x) (Nat.ble x 1)) (fun _ => none) (v)) (@Sum.rec _ _ (fun _ => rR) (fun _ => none) (fun w => @Sum.rec _ _ (fun _ => rR) (fun _ => none) (fun w => @Sum.rec _ _ (fun _ => rR) (k) (fun _ => none) (w)) (w)) (v)) (Nat.beq ty 1)) (@Sum.rec _ _ (fun _ => rR) (fun _ => none) (fun w => @Sum.rec _ _ (fun _ => rR) (k) (fun _ => none) (w)) (v)) (Nat.beq ty 2)) (@Sum.rec _ _ (fun _ => rR) (k) (fun _ => none) (v)) (Nat.beq ty 0)
noncomputable def oPf (kd p ty : Nat) (nx : rP) : rP := fun j L S h => @List.rec _ (fun _ => rR) none (fun v S _ => @List.rec _ (fun _ => rR) none (fun o S _ => @Sum.rec _ _ (fun _ => rR) (fun _ => none) (fun w => @Sum.rec _ _ (fun _ => rR) (fun a => rUn ty v fun x => @Prod.rec _ _ (fun _ => rR) (fun k q => @Bool.rec (fun _ => rR) (none) (rN (rSp q.2 p 1 x) fun d => nx j L S (rPut h a (k, (q.1, d)))) (Nat.beq k kd)) (rAt h a)) (fun _ => none) (w)) (o)) S) S
noncomputable def oNew (kd sz : Nat) (nx : rP) : rP := fun j L S h => rNew h (kd, (0, 0)) sz fun a h => nx j L (vR a :: S) h
noncomputable def oNwa (kd : Nat) (nx : rP) : rP := fun j L S h => @List.rec _ (fun _ => rR) none (fun n S _ => @Sum.rec _ _ (fun _ => rR) (fun x => @Bool.rec (fun _ => rR) (none) (rNew h (kd, (x, 0)) x fun a h => nx j L (vR a :: S) h) (Nat.ble x 65536)) (fun _ => none) (n)) S
noncomputable def rRep (c : rC) (sz k : Nat) : (List Nat → rH → rR) → rH → rR := @Nat.rec (fun _ => (List Nat → rH → rR) → rH → rR) (fun kk h => kk [] h) (fun _ ih kk h => rNew h c sz fun a h1 => ih (fun l h2 => kk (a :: l) h2) h1) k
noncomputable def rLay (l : List Nat) : Nat := @List.rec _ (fun _ => Nat) 0 (fun a _ r => Nat.add a (Nat.mul 18446744073709551616 r)) l
noncomputable def oMul (kd kd2 n1 n2 : Nat) (nx : rP) : rP := fun j L S h => @List.rec _ (fun _ => rR) none (fun b S _ => @List.rec _ (fun _ => rR) none (fun a S _ => @Sum.rec _ _ (fun _ => rR) (fun y => @Sum.rec _ _ (fun _ => rR) (fun x => @Bool.rec (fun _ => rR) (none) (@Bool.rec (fun _ => rR) (none) (rNew h (kd, (n1, 0)) n1 fun o h => rRep (kd2, (n2, 0)) n2 n1 (fun l h => rN (rLay l) fun d => nx j L (vR o :: S) (rPut h o (kd, (n1, d)))) h) (Nat.beq y n2)) (Nat.beq x n1)) (fun _ => none) (a)) (fun _ => none) (b)) S) S
noncomputable def rLen (l : List rV) : Nat := @List.rec _ (fun _ => Nat) 0 (fun _ _ r => Nat.succ r) l
noncomputable def oEnt (k : Nat) (nx : rP) : rP := fun j L S h => @Bool.rec (fun _ => rR) (none) (nx j L S h) (Nat.ble (rLen L) k)
noncomputable def oLen (nx : rP) : rP := fun j L S h => @List.rec _ (fun _ => rR) none (fun o S _ => @Sum.rec _ _ (fun _ => rR) (fun _ => none) (fun w => @Sum.rec _ _ (fun _ => rR) (fun a => @Bool.rec (fun _ => rR) (@Bool.rec (fun _ => rR) (@Prod.rec _ _ (fun _ => rR) (fun k q => @Bool.rec (fun _ => rR) (none) (nx j L (vI q.1 :: S) h) (Nat.beq (Nat.land k 1) 1)) (rAt h a)) (nx j L (vI 0 :: S) h) (Nat.beq a 16384)) (nx j L (vI (rLen (rScr h)) :: S) h) (Nat.beq a 8192)) (fun _ => none) (w)) (o)) S
noncomputable def rSame (dt x : Nat) (n : Nat) : Nat → Bool := @Nat.rec (fun _ => Nat → Bool) (fun _ => true) (fun _ ih i => @Bool.rec (fun _ => Bool) false (ih (Nat.succ i)) (Nat.beq (rPl dt i) x)) n
noncomputable def rLg (l : List rV) (n : Nat) : rV := @List.rec _ (fun _ => Nat → rV) (fun _ => vU) (fun x _ ih n => @Nat.rec (fun _ => rV) x (fun m _ => ih m) n) l n
noncomputable def oIls (v : rV) (nx : rP) (j : rJ × rJ) (L S : List rV) (h : rH) : rR := @Sum.rec _ _ (fun _ => rR) (fun n => nx j L (vI n :: S) h) (oIlX nx j L S h) (v)
noncomputable def oIalS (nx : rP) (j : rJ × rJ) (L S : List rV) (h : rH) (i : rV) : rR := @Sum.rec _ _ (fun _ => rR) (fun x => oIls (rLg (rScr h) x) nx j L S h) (fun _ => none) (i)
noncomputable def oIalX (nx : rP) (j : rJ × rJ) (L S : List rV) (h : rH) (ln dt : Nat) (w : Nat ⊕ (Nat ⊕ (Nat × Nat))) : rR := @Sum.rec _ _ (fun _ => rR) (fun _ => none) (fun w => @Sum.rec _ _ (fun _ => rR) (fun _ => none) (fun w => @Prod.rec _ _ (fun _ => rR) (fun p q => @Bool.rec (fun _ => rR) (@Bool.rec (fun _ => rR) (none) (@Bool.rec (fun _ => rR) (none) (nx j L (vI (rPl dt p) :: S) h) (rSame dt (rPl dt p) (Nat.sub (Nat.succ q) p) p)) (Nat.ble p q)) (none) (Nat.ble ln q)) (w)) (w)) (w)
noncomputable def oIal (nx : rP) : rP := fun j L S h => @List.rec _ (fun _ => rR) none (fun i S _ => @List.rec _ (fun _ => rR) none (fun o S _ => @Sum.rec _ _ (fun _ => rR) (fun _ => none) (fun w => @Sum.rec _ _ (fun _ => rR) (fun a => @Prod.rec _ _ (fun _ => rR) (fun k q => @Bool.rec (fun _ => rR) (@Bool.rec (fun _ => rR) (none) (oIalS nx j L S h i) (Nat.beq a 8192)) (@Sum.rec _ _ (fun _ => rR) (fun x => @Bool.rec (fun _ => rR) (nx j L (vI (rPl q.2 x) :: S) h) (none) (Nat.ble q.1 x)) (oIalX nx j L S h q.1 q.2) (i)) (Nat.beq k 1)) (rAt h a)) (fun _ => none) (w)) (o)) S) S
noncomputable def oAld (kd : Nat) (mk : Nat → rV) (nx : rP) : rP := fun j L S h => @List.rec _ (fun _ => rR) none (fun i S _ => @List.rec _ (fun _ => rR) none (fun o S _ => @Sum.rec _ _ (fun _ => rR) (fun _ => none) (fun w => @Sum.rec _ _ (fun _ => rR) (fun a => @Sum.rec _ _ (fun _ => rR) (fun x => @Prod.rec _ _ (fun _ => rR) (fun k q => @Bool.rec (fun _ => rR) (none) (@Bool.rec (fun _ => rR) (nx j L (mk (rPl q.2 x) :: S) h) (none) (Nat.ble q.1 x)) (Nat.beq k kd)) (rAt h a)) (fun _ => none) (i)) (fun _ => none) (w)) (o)) S) S
noncomputable def oAal (nx : rP) : rP := fun j L S h => @List.rec _ (fun _ => rR) none (fun i S _ => @List.rec _ (fun _ => rR) none (fun o S _ => @Sum.rec _ _ (fun _ => rR) (fun _ => none) (fun w => @Sum.rec _ _ (fun _ => rR) (fun a => @Sum.rec _ _ (fun _ => rR) (fun x => @Prod.rec _ _ (fun _ => rR) (fun k q => @Bool.rec (fun _ => rR) (none) (@Bool.rec (fun _ => rR) (none) (@Bool.rec (fun _ => rR) (nx j L (vR (rPl q.2 x) :: S) h) (none) (Nat.ble q.1 x)) (Nat.ble 7 k)) (Nat.beq (Nat.land k 1) 1)) (rAt h a)) (fun _ => none) (i)) (fun _ => none) (w)) (o)) S) S
noncomputable def oAst (kd ty : Nat) (nx : rP) : rP := fun j L S h => @List.rec _ (fun _ => rR) none (fun v S _ => @List.rec _ (fun _ => rR) none (fun i S _ => @List.rec _ (fun _ => rR) none (fun o S _ => @Sum.rec _ _ (fun _ => rR) (fun _ => none) (fun w => @Sum.rec _ _ (fun _ => rR) (fun a => @Sum.rec _ _ (fun _ => rR) (fun x => rUn ty v fun w => @Prod.rec _ _ (fun _ => rR) (fun k q => @Bool.rec (fun _ => rR) (none) (@Bool.rec (fun _ => rR) (rN (rSp q.2 x 1 w) fun d => nx j L S (rPut h a (k, (q.1, d)))) (none) (Nat.ble q.1 x)) (Nat.beq k kd)) (rAt h a)) (fun _ => none) (i)) (fun _ => none) (w)) (o)) S) S) S
noncomputable def oAas (ok : Nat → Nat → Bool) (nx : rP) : rP := fun j L S h => @List.rec _ (fun _ => rR) none (fun v S _ => @List.rec _ (fun _ => rR) none (fun i S _ => @List.rec _ (fun _ => rR) none (fun o S _ => @Sum.rec _ _ (fun _ => rR) (fun _ => none) (fun w => @Sum.rec _ _ (fun _ => rR) (fun a => @Sum.rec _ _ (fun _ => rR) (fun x => @Sum.rec _ _ (fun _ => rR) (fun _ => none) (fun w => @Sum.rec _ _ (fun _ => rR) (fun w => @Prod.rec _ _ (fun _ => rR) (fun k q => @Prod.rec _ _ (fun _ => rR) (fun kv _ => @Bool.rec (fun _ => rR) (none) (@Bool.rec (fun _ => rR) (rN (rSp q.2 x 1 w) fun d => nx j L S (rPut h a (k, (q.1, d)))) (none) (Nat.ble q.1 x)) (ok k kv)) (rAt h w)) (rAt h a)) (fun _ => none) (w)) (v)) (fun _ => none) (i)) (fun _ => none) (w)) (o)) S) S) S
noncomputable def oCst (ok : Nat → Bool) (nx : rP) : rP := fun j L S h => @List.rec _ (fun _ => rR) none (fun o S _ => @Sum.rec _ _ (fun _ => rR) (fun _ => none) (fun w => @Sum.rec _ _ (fun _ => rR) (fun a => @Prod.rec _ _ (fun _ => rR) (fun k _ => @Bool.rec (fun _ => rR) (none) (nx j L (vR a :: S) h) (ok k)) (rAt h a)) (fun _ => none) (w)) (o)) S
noncomputable def rArg (n : Nat) : List rV → List rV → (List rV → List rV → rR) → rR := @Nat.rec (fun _ => List rV → List rV → (List rV → List rV → rR) → rR) (fun A S k => k A S) (fun _ ih A S k => @List.rec _ (fun _ => rR) none (fun v S _ => @Bool.rec (fun _ => rR) (ih (v :: A) S k) (ih (v :: vU :: A) S k) (rC2 v)) S) n
noncomputable def rSh (S : List rV) (k : rR) : rR := @List.rec _ (fun _ => rR) k (fun _ S1 _ => @List.rec _ (fun _ => rR) k (fun _ S2 _ => @List.rec _ (fun _ => rR) k (fun _ S3 _ => @List.rec _ (fun _ => rR) k (fun _ S4 _ => @List.rec _ (fun _ => rR) k (fun _ _ _ => none) S4) S3) S2) S1) S
noncomputable def rRet (r : rR) (k : Option rV → rH → rR) (x : Nat → rH → rR) : rR := @Option.rec _ (fun _ => rR) (none) (fun p => @Prod.rec _ _ (fun _ => rR) (fun o h => @Sum.rec _ _ (fun _ => rR) (fun v => k v h) (fun e => x e h) o) (p)) (r)
noncomputable def rAns (v : Option rV) (S : List rV) : List rV := @Option.rec _ (fun _ => List rV) S (fun w => w :: S) v
noncomputable def oMx (f : Nat → Nat → Nat) (nx : rP) : rP := fun j L S h => @List.rec _ (fun _ => rR) none (fun b S _ => @List.rec _ (fun _ => rR) none (fun a S _ => @Sum.rec _ _ (fun _ => rR) (fun y => @Sum.rec _ _ (fun _ => rR) (fun x => rSh S (nx j L (vI (f x y) :: S) h)) (fun _ => none) (a)) (fun _ => none) (b)) S) S
noncomputable def oCs (id n : Nat) (nx : rP) : rP := fun j L S h => rArg n [] S fun A S => rSh S (@Prod.rec _ _ (fun _ => rR) (fun _ jc => rRet (jc id A [] h) (fun v h => nx j L (rAns v S) h) (fun _ _ => none)) (j))
noncomputable def oCv (kd id n : Nat) (nx : rP) : rP := fun j L S h => rArg n [] S fun A S => @List.rec _ (fun _ => rR) none (fun o S _ => @Sum.rec _ _ (fun _ => rR) (fun _ => none) (fun w => @Sum.rec _ _ (fun _ => rR) (fun a => rSh S (@Prod.rec _ _ (fun _ => rR) (fun k _ => @Bool.rec (fun _ => rR) (none) (@Prod.rec _ _ (fun _ => rR) (fun _ jc => rRet (jc id (vR a :: A) [] h) (fun v h => nx j L (rAns v S) h) (fun _ _ => none)) (j)) (Nat.beq k kd)) (rAt h a))) (fun _ => none) (w)) (o)) S
noncomputable def rAlt (al : List (Nat × Nat)) (k : Nat) (f : Nat → rR) : rR := @List.rec _ (fun _ => rR) none (fun q _ ih => @Bool.rec (fun _ => rR) (ih) (f q.2) (Nat.beq k q.1)) al
noncomputable def oCp (al : List (Nat × Nat)) (n : Nat) (nx : rP) : rP := fun j L S h => rArg n [] S fun A S => @List.rec _ (fun _ => rR) none (fun o S _ => @Sum.rec _ _ (fun _ => rR) (fun _ => none) (fun w => @Sum.rec _ _ (fun _ => rR) (fun a => rSh S (@Prod.rec _ _ (fun _ => rR) (fun k _ => rAlt al k fun id => @Prod.rec _ _ (fun _ => rR) (fun _ jc => rRet (jc id (vR a :: A) [] h) (fun v h => nx j L (rAns v S) h) (fun _ _ => none)) (j)) (rAt h a))) (fun _ => none) (w)) (o)) S
noncomputable def oCi (id n : Nat) (nx : rP) : rP := fun j L S h => rArg n [] S fun A S => @List.rec _ (fun _ => rR) none (fun o S _ => @Sum.rec _ _ (fun _ => rR) (fun _ => none) (fun w => @Sum.rec _ _ (fun _ => rR) (fun a => rSh S (@Bool.rec (fun _ => rR) (@Prod.rec _ _ (fun _ => rR) (fun _ jc => rRet (jc id (vR a :: A) [] h) (fun v h => nx j L (rAns v S) h) (fun _ _ => none)) (j)) (none) (Nat.beq a 0))) (fun _ => none) (w)) (o)) S
noncomputable def oOi (nx : rP) : rP := fun j L S h => @List.rec _ (fun _ => rR) none (fun o S _ => @Sum.rec _ _ (fun _ => rR) (fun _ => none) (fun w => @Sum.rec _ _ (fun _ => rR) (fun a => rSh S (@Bool.rec (fun _ => rR) (nx j L S h) (none) (Nat.beq a 0))) (fun _ => none) (w)) (o)) S
noncomputable def rCat (h : rH) (k : Nat → rH → rR) : rR := @Prod.rec _ _ (fun _ => rR) (fun t r => @Prod.rec _ _ (fun _ => rR) (fun n r => @Bool.rec (fun _ => rR) (none) (k n (t, (Nat.succ n, r))) (Nat.ble n 510)) (r)) (h)
noncomputable def oCh (kd id n : Nat) (ex : Nat → rP) (nx : rP) : rP := fun j L S h => rArg n [] S fun A S => @List.rec _ (fun _ => rR) none (fun o S _ => @Sum.rec _ _ (fun _ => rR) (fun _ => none) (fun w => @Sum.rec _ _ (fun _ => rR) (fun a => rSh S (@Prod.rec _ _ (fun _ => rR) (fun k _ => @Bool.rec (fun _ => rR) (none) (@Prod.rec _ _ (fun _ => rR) (fun _ jc => rRet (jc id (vR a :: A) [] h) (fun v h => nx j L (rAns v S) h) (fun e h => rCat h fun q h => ex e j L [vR q] h)) (j)) (Nat.beq k kd)) (rAt h a))) (fun _ => none) (w)) (o)) S
noncomputable def oThr (e : Nat) : rP := fun j L S h => rSh S (@Prod.rec _ _ (fun _ => rR) (fun t r => @Prod.rec _ _ (fun _ => rR) (fun n r => @Prod.rec _ _ (fun _ => rR) (fun cs r => @Prod.rec _ _ (fun _ => rR) (fun sl sc => some (.inr e, (t, (n, (Nat.succ cs, (Nat.add sl 6, sc)))))) (r)) (r)) (r)) (h))
noncomputable def rEnd (S : List rV) (k : rR) : rR := @List.rec _ (fun _ => rR) k (fun _ _ _ => none) S
noncomputable def oRi (lim : Nat) : rP := fun j L S h => @List.rec _ (fun _ => rR) none (fun v S _ => rEnd S (@Sum.rec _ _ (fun _ => rR) (fun x => @Bool.rec (fun _ => rR) (some (.inl (some (vI x)), h)) (none) (Nat.ble lim x)) (fun _ => none) (v))) S
noncomputable def oRl : rP := fun j L S h => @List.rec _ (fun _ => rR) none (fun v S _ => rEnd S (@Sum.rec _ _ (fun _ => rR) (fun _ => none) (fun w => @Sum.rec _ _ (fun _ => rR) (fun _ => none) (fun w => @Sum.rec _ _ (fun _ => rR) (fun x => some (.inl (some (vL x)), h)) (fun _ => none) (w)) (w)) (v))) S
noncomputable def oRa : rP := fun j L S h => @List.rec _ (fun _ => rR) none (fun v S _ => rEnd S (@Sum.rec _ _ (fun _ => rR) (fun _ => none) (fun w => @Sum.rec _ _ (fun _ => rR) (fun x => some (.inl (some (vR x)), h)) (fun _ => none) (w)) (v))) S
noncomputable def oRd : rP := fun j L S h => @List.rec _ (fun _ => rR) none (fun v S _ => rEnd S (@Sum.rec _ _ (fun _ => rR) (fun _ => none) (fun w => @Sum.rec _ _ (fun _ => rR) (fun _ => none) (fun w => @Sum.rec _ _ (fun _ => rR) (fun _ => none) (fun w => @Prod.rec _ _ (fun _ => rR) (fun a b => @Bool.rec (fun _ => rR) (none) (some (.inl (some (vX a b)), h)) (Nat.beq a 17179869184)) (w)) (w)) (w)) (v))) S
noncomputable def oRv : rP := fun j L S h => rEnd S (some (.inl none, h))
noncomputable def oCpy (nx : rP) : rP := fun j L S h => @List.rec _ (fun _ => rR) none (fun n S _ => @List.rec _ (fun _ => rR) none (fun q S _ => @List.rec _ (fun _ => rR) none (fun d S _ => @List.rec _ (fun _ => rR) none (fun p S _ => @List.rec _ (fun _ => rR) none (fun s S _ => @Sum.rec _ _ (fun _ => rR) (fun n => @Sum.rec _ _ (fun _ => rR) (fun q => @Sum.rec _ _ (fun _ => rR) (fun _ => none) (fun w => @Sum.rec _ _ (fun _ => rR) (fun d => @Sum.rec _ _ (fun _ => rR) (fun p => @Sum.rec _ _ (fun _ => rR) (fun _ => none) (fun w => @Sum.rec _ _ (fun _ => rR) (fun s => rSh S (@Bool.rec (fun _ => rR) (@Prod.rec _ _ (fun _ => rR) (fun k u => @Bool.rec (fun _ => rR) (none) (@Bool.rec (fun _ => rR) (none) (@Prod.rec _ _ (fun _ => rR) (fun k2 u2 => @Bool.rec (fun _ => rR) (none) (@Bool.rec (fun _ => rR) (none) (rN (rSp u2.2 q n (Nat.mod (Nat.shiftRight u.2 (Nat.mul 64 p)) (Nat.pow 2 (Nat.mul 64 n)))) fun e => nx j L S (rPut h d (k2, (u2.1, e)))) (Nat.ble (Nat.add q n) u2.1)) (Nat.beq k2 1)) (rAt h d)) (Nat.ble (Nat.add p n) u.1)) (Nat.beq k 1)) (rAt h s)) (none) (Nat.beq s d))) (fun _ => none) (w)) (s)) (fun _ => none) (p)) (fun _ => none) (w)) (d)) (fun _ => none) (q)) (fun _ => none) (n)) S) S) S) S) S
noncomputable def rLp (tb : Nat → Unit × rP) (jc : rJ) (n : Nat) : rJ := @Nat.rec (fun _ => rJ) (fun _ _ _ _ => none) (fun _ ih id L S h => @Prod.rec _ _ (fun _ => rR) (fun _ c => c (ih, jc) L S h) (tb id)) n
noncomputable def rMc (tb : Nat → Unit × rP) (f d : Nat) : rJ := @Nat.rec (fun _ => rJ) (fun _ _ _ _ => none) (fun _ ih => rLp tb ih f) d
noncomputable def aT (_ _ : Nat) : Bool := true
