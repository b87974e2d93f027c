section
/-! A small interpreter of bytecode, for the kernel: ints and longs as numbers, cells as numbers of 64 bits a place, the heap as a tree. -/
-- a value: an int, a reference (0 null, 8192 the script, 16384 the lists' first array, else a cell's number), a long, or two numbers: below 2^32 an int from the first to the second one; 2^32 + c an int with c in its last six bits; 2^33 nothing known; 2^34 a double by its bits
abbrev rV : Type := Nat ⊕ (Nat ⊕ (Nat ⊕ (Nat × Nat)))
-- a cell: 2 c + 2 an object of the class c, 2 t + 1 an array of the type t, 0 nothing known; its length; its places
abbrev rC : Type := Nat × (Nat × Nat)
def rT : Nat → Type := fun d => Nat.rec rC (fun _ T => T × T) d
-- the heap: the cells; how many numbers are used, how many cells and slots were made, the script
abbrev rH : Type := rT 9 × (Nat × (Nat × (Nat × List rV)))
abbrev rO : Type := Option rV ⊕ Nat
abbrev rR : Type := Option (rO × rH)
abbrev rJ : Type := Nat → List rV → List rV → rH → rR
abbrev rP : Type := (rJ × rJ) → List rV → List rV → rH → rR
abbrev vI (n : Nat) : rV := .inl n
abbrev vR (n : Nat) : rV := .inr (.inl n)
abbrev vL (n : Nat) : rV := .inr (.inr (.inl n))
abbrev vX (a b : Nat) : rV := .inr (.inr (.inr (a, b)))
def vU : rV := vX 8589934592 0
noncomputable def rC2 (v : rV) : Bool := @Sum.rec _ _ (fun _ => Bool) (fun _ => false) (fun w => @Sum.rec _ _ (fun _ => Bool) (fun _ => false) (fun w => @Sum.rec _ _ (fun _ => Bool) (fun _ => true) (fun p => Nat.beq p.1 17179869184) w) w) v
noncomputable def rDj (v : rV) : rV := @Bool.rec (fun _ => rV) v vU (rC2 v)
noncomputable def nG0 (L : List rV) : rV := @List.rec _ (fun _ => rV) vU (fun x _ _ => x) L
noncomputable def nS0 (v : rV) (L : List rV) : List rV := @List.rec _ (fun _ => List rV) [v] (fun _ r _ => v :: r) L
noncomputable def nD0 (v : rV) (L : List rV) : List rV := @List.rec _ (fun _ => List rV) [v, vU] (fun _ r _ => v :: nS0 vU r) L
noncomputable def nG1 (L : List rV) : rV := @List.rec _ (fun _ => rV) vU (fun _ r _ => nG0 r) L
noncomputable def nS1 (v : rV) (L : List rV) : List rV := @List.rec _ (fun _ => List rV) (vU :: nS0 v []) (fun x r _ => rDj x :: nS0 v r) L
noncomputable def nD1 (v : rV) (L : List rV) : List rV := @List.rec _ (fun _ => List rV) (vU :: nD0 v []) (fun x r _ => rDj x :: nD0 v r) L
noncomputable def nG2 (L : List rV) : rV := @List.rec _ (fun _ => rV) vU (fun _ r _ => nG1 r) L
noncomputable def nS2 (v : rV) (L : List rV) : List rV := @List.rec _ (fun _ => List rV) (vU :: nS1 v []) (fun x r _ => x :: nS1 v r) L
noncomputable def nD2 (v : rV) (L : List rV) : List rV := @List.rec _ (fun _ => List rV) (vU :: nD1 v []) (fun x r _ => x :: nD1 v r) L
noncomputable def nG3 (L : List rV) : rV := @List.rec _ (fun _ => rV) vU (fun _ r _ => nG2 r) L
noncomputable def nS3 (v : rV) (L : List rV) : List rV := @List.rec _ (fun _ => List rV) (vU :: nS2 v []) (fun x r _ => x :: nS2 v r) L
noncomputable def nD3 (v : rV) (L : List rV) : List rV := @List.rec _ (fun _ => List rV) (vU :: nD2 v []) (fun x r _ => x :: nD2 v r) L
noncomputable def nG4 (L : List rV) : rV := @List.rec _ (fun _ => rV) vU (fun _ r _ => nG3 r) L
noncomputable def nS4 (v : rV) (L : List rV) : List rV := @List.rec _ (fun _ => List rV) (vU :: nS3 v []) (fun x r _ => x :: nS3 v r) L
noncomputable def nD4 (v : rV) (L : List rV) : List rV := @List.rec _ (fun _ => List rV) (vU :: nD3 v []) (fun x r _ => x :: nD3 v r) L
noncomputable def nG5 (L : List rV) : rV := @List.rec _ (fun _ => rV) vU (fun _ r _ => nG4 r) L
noncomputable def nS5 (v : rV) (L : List rV) : List rV := @List.rec _ (fun _ => List rV) (vU :: nS4 v []) (fun x r _ => x :: nS4 v r) L
noncomputable def nD5 (v : rV) (L : List rV) : List rV := @List.rec _ (fun _ => List rV) (vU :: nD4 v []) (fun x r _ => x :: nD4 v r) L
noncomputable def nG6 (L : List rV) : rV := @List.rec _ (fun _ => rV) vU (fun _ r _ => nG5 r) L
noncomputable def nS6 (v : rV) (L : List rV) : List rV := @List.rec _ (fun _ => List rV) (vU :: nS5 v []) (fun x r _ => x :: nS5 v r) L
noncomputable def nD6 (v : rV) (L : List rV) : List rV := @List.rec _ (fun _ => List rV) (vU :: nD5 v []) (fun x r _ => x :: nD5 v r) L
noncomputable def nG7 (L : List rV) : rV := @List.rec _ (fun _ => rV) vU (fun _ r _ => nG6 r) L
noncomputable def nS7 (v : rV) (L : List rV) : List rV := @List.rec _ (fun _ => List rV) (vU :: nS6 v []) (fun x r _ => x :: nS6 v r) L
noncomputable def nD7 (v : rV) (L : List rV) : List rV := @List.rec _ (fun _ => List rV) (vU :: nD6 v []) (fun x r _ => x :: nD6 v r) L
noncomputable def nG8 (L : List rV) : rV := @List.rec _ (fun _ => rV) vU (fun _ r _ => nG7 r) L
noncomputable def nS8 (v : rV) (L : List rV) : List rV := @List.rec _ (fun _ => List rV) (vU :: nS7 v []) (fun x r _ => x :: nS7 v r) L
noncomputable def nD8 (v : rV) (L : List rV) : List rV := @List.rec _ (fun _ => List rV) (vU :: nD7 v []) (fun x r _ => x :: nD7 v r) L
noncomputable def nG9 (L : List rV) : rV := @List.rec _ (fun _ => rV) vU (fun _ r _ => nG8 r) L
noncomputable def nS9 (v : rV) (L : List rV) : List rV := @List.rec _ (fun _ => List rV) (vU :: nS8 v []) (fun x r _ => x :: nS8 v r) L
noncomputable def nD9 (v : rV) (L : List rV) : List rV := @List.rec _ (fun _ => List rV) (vU :: nD8 v []) (fun x r _ => x :: nD8 v r) L
noncomputable def nG10 (L : List rV) : rV := @List.rec _ (fun _ => rV) vU (fun _ r _ => nG9 r) L
noncomputable def nS10 (v : rV) (L : List rV) : List rV := @List.rec _ (fun _ => List rV) (vU :: nS9 v []) (fun x r _ => x :: nS9 v r) L
noncomputable def nD10 (v : rV) (L : List rV) : List rV := @List.rec _ (fun _ => List rV) (vU :: nD9 v []) (fun x r _ => x :: nD9 v r) L
noncomputable def nG11 (L : List rV) : rV := @List.rec _ (fun _ => rV) vU (fun _ r _ => nG10 r) L
noncomputable def nS11 (v : rV) (L : List rV) : List rV := @List.rec _ (fun _ => List rV) (vU :: nS10 v []) (fun x r _ => x :: nS10 v r) L
noncomputable def nD11 (v : rV) (L : List rV) : List rV := @List.rec _ (fun _ => List rV) (vU :: nD10 v []) (fun x r _ => x :: nD10 v r) L
noncomputable def nG12 (L : List rV) : rV := @List.rec _ (fun _ => rV) vU (fun _ r _ => nG11 r) L
noncomputable def nS12 (v : rV) (L : List rV) : List rV := @List.rec _ (fun _ => List rV) (vU :: nS11 v []) (fun x r _ => x :: nS11 v r) L
noncomputable def nD12 (v : rV) (L : List rV) : List rV := @List.rec _ (fun _ => List rV) (vU :: nD11 v []) (fun x r _ => x :: nD11 v r) L
noncomputable def nG13 (L : List rV) : rV := @List.rec _ (fun _ => rV) vU (fun _ r _ => nG12 r) L
noncomputable def nS13 (v : rV) (L : List rV) : List rV := @List.rec _ (fun _ => List rV) (vU :: nS12 v []) (fun x r _ => x :: nS12 v r) L
noncomputable def nD13 (v : rV) (L : List rV) : List rV := @List.rec _ (fun _ => List rV) (vU :: nD12 v []) (fun x r _ => x :: nD12 v r) L
noncomputable def nG14 (L : List rV) : rV := @List.rec _ (fun _ => rV) vU (fun _ r _ => nG13 r) L
noncomputable def nS14 (v : rV) (L : List rV) : List rV := @List.rec _ (fun _ => List rV) (vU :: nS13 v []) (fun x r _ => x :: nS13 v r) L
noncomputable def nD14 (v : rV) (L : List rV) : List rV := @List.rec _ (fun _ => List rV) (vU :: nD13 v []) (fun x r _ => x :: nD13 v r) L
noncomputable def nG15 (L : List rV) : rV := @List.rec _ (fun _ => rV) vU (fun _ r _ => nG14 r) L
noncomputable def nS15 (v : rV) (L : List rV) : List rV := @List.rec _ (fun _ => List rV) (vU :: nS14 v []) (fun x r _ => x :: nS14 v r) L
noncomputable def nD15 (v : rV) (L : List rV) : List rV := @List.rec _ (fun _ => List rV) (vU :: nD14 v []) (fun x r _ => x :: nD14 v r) L
noncomputable def nG16 (L : List rV) : rV := @List.rec _ (fun _ => rV) vU (fun _ r _ => nG15 r) L
noncomputable def nS16 (v : rV) (L : List rV) : List rV := @List.rec _ (fun _ => List rV) (vU :: nS15 v []) (fun x r _ => x :: nS15 v r) L
noncomputable def nD16 (v : rV) (L : List rV) : List rV := @List.rec _ (fun _ => List rV) (vU :: nD15 v []) (fun x r _ => x :: nD15 v r) L
noncomputable def tG0 (t : rT 0) (_ : Nat) : rC := t
noncomputable def tS0 (_ : rT 0) (_ : Nat) (c : rC) : rT 0 := c
noncomputable def tG1 (t : rT 1) (i : Nat) : rC := @Prod.rec (rT 0) (rT 0) (fun _ => rC) (fun a b => @Bool.rec (fun _ => rC) (tG0 b i) (tG0 a i) (Nat.beq (Nat.land i 1) 0)) t
noncomputable def tS1 (t : rT 1) (i : Nat) (c : rC) : rT 1 := @Prod.rec (rT 0) (rT 0) (fun _ => rT 1) (fun a b => @Bool.rec (fun _ => rT 1) (a, tS0 b i c) (tS0 a i c, b) (Nat.beq (Nat.land i 1) 0)) t
noncomputable def tG2 (t : rT 2) (i : Nat) : rC := @Prod.rec (rT 1) (rT 1) (fun _ => rC) (fun a b => @Bool.rec (fun _ => rC) (tG1 b i) (tG1 a i) (Nat.beq (Nat.land i 2) 0)) t
noncomputable def tS2 (t : rT 2) (i : Nat) (c : rC) : rT 2 := @Prod.rec (rT 1) (rT 1) (fun _ => rT 2) (fun a b => @Bool.rec (fun _ => rT 2) (a, tS1 b i c) (tS1 a i c, b) (Nat.beq (Nat.land i 2) 0)) t
noncomputable def tG3 (t : rT 3) (i : Nat) : rC := @Prod.rec (rT 2) (rT 2) (fun _ => rC) (fun a b => @Bool.rec (fun _ => rC) (tG2 b i) (tG2 a i) (Nat.beq (Nat.land i 4) 0)) t
noncomputable def tS3 (t : rT 3) (i : Nat) (c : rC) : rT 3 := @Prod.rec (rT 2) (rT 2) (fun _ => rT 3) (fun a b => @Bool.rec (fun _ => rT 3) (a, tS2 b i c) (tS2 a i c, b) (Nat.beq (Nat.land i 4) 0)) t
noncomputable def tG4 (t : rT 4) (i : Nat) : rC := @Prod.rec (rT 3) (rT 3) (fun _ => rC) (fun a b => @Bool.rec (fun _ => rC) (tG3 b i) (tG3 a i) (Nat.beq (Nat.land i 8) 0)) t
noncomputable def tS4 (t : rT 4) (i : Nat) (c : rC) : rT 4 := @Prod.rec (rT 3) (rT 3) (fun _ => rT 4) (fun a b => @Bool.rec (fun _ => rT 4) (a, tS3 b i c) (tS3 a i c, b) (Nat.beq (Nat.land i 8) 0)) t
noncomputable def tG5 (t : rT 5) (i : Nat) : rC := @Prod.rec (rT 4) (rT 4) (fun _ => rC) (fun a b => @Bool.rec (fun _ => rC) (tG4 b i) (tG4 a i) (Nat.beq (Nat.land i 16) 0)) t
noncomputable def tS5 (t : rT 5) (i : Nat) (c : rC) : rT 5 := @Prod.rec (rT 4) (rT 4) (fun _ => rT 5) (fun a b => @Bool.rec (fun _ => rT 5) (a, tS4 b i c) (tS4 a i c, b) (Nat.beq (Nat.land i 16) 0)) t
noncomputable def tG6 (t : rT 6) (i : Nat) : rC := @Prod.rec (rT 5) (rT 5) (fun _ => rC) (fun a b => @Bool.rec (fun _ => rC) (tG5 b i) (tG5 a i) (Nat.beq (Nat.land i 32) 0)) t
noncomputable def tS6 (t : rT 6) (i : Nat) (c : rC) : rT 6 := @Prod.rec (rT 5) (rT 5) (fun _ => rT 6) (fun a b => @Bool.rec (fun _ => rT 6) (a, tS5 b i c) (tS5 a i c, b) (Nat.beq (Nat.land i 32) 0)) t
noncomputable def tG7 (t : rT 7) (i : Nat) : rC := @Prod.rec (rT 6) (rT 6) (fun _ => rC) (fun a b => @Bool.rec (fun _ => rC) (tG6 b i) (tG6 a i) (Nat.beq (Nat.land i 64) 0)) t
noncomputable def tS7 (t : rT 7) (i : Nat) (c : rC) : rT 7 := @Prod.rec (rT 6) (rT 6) (fun _ => rT 7) (fun a b => @Bool.rec (fun _ => rT 7) (a, tS6 b i c) (tS6 a i c, b) (Nat.beq (Nat.land i 64) 0)) t
noncomputable def tG8 (t : rT 8) (i : Nat) : rC := @Prod.rec (rT 7) (rT 7) (fun _ => rC) (fun a b => @Bool.rec (fun _ => rC) (tG7 b i) (tG7 a i) (Nat.beq (Nat.land i 128) 0)) t
noncomputable def tS8 (t : rT 8) (i : Nat) (c : rC) : rT 8 := @Prod.rec (rT 7) (rT 7) (fun _ => rT 8) (fun a b => @Bool.rec (fun _ => rT 8) (a, tS7 b i c) (tS7 a i c, b) (Nat.beq (Nat.land i 128) 0)) t
noncomputable def tG9 (t : rT 9) (i : Nat) : rC := @Prod.rec (rT 8) (rT 8) (fun _ => rC) (fun a b => @Bool.rec (fun _ => rC) (tG8 b i) (tG8 a i) (Nat.beq (Nat.land i 256) 0)) t
noncomputable def tS9 (t : rT 9) (i : Nat) (c : rC) : rT 9 := @Prod.rec (rT 8) (rT 8) (fun _ => rT 9) (fun a b => @Bool.rec (fun _ => rT 9) (a, tS8 b i c) (tS8 a i c, b) (Nat.beq (Nat.land i 256) 0)) t
noncomputable def tE0 : rT 0 := (0, (0, 0))
noncomputable def tE1 : rT 1 := (tE0, tE0)
noncomputable def tE2 : rT 2 := (tE1, tE1)
noncomputable def tE3 : rT 3 := (tE2, tE2)
noncomputable def tE4 : rT 4 := (tE3, tE3)
noncomputable def tE5 : rT 5 := (tE4, tE4)
noncomputable def tE6 : rT 6 := (tE5, tE5)
noncomputable def tE7 : rT 7 := (tE6, tE6)
noncomputable def tE8 : rT 8 := (tE7, tE7)
noncomputable def tE9 : rT 9 := (tE8, tE8)
noncomputable def rAt (h : rH) (a : Nat) : rC := @Prod.rec _ _ (fun _ => rC) (fun t _ => tG9 t a) h
noncomputable def rPut (h : rH) (a : Nat) (c : rC) : rH := @Prod.rec _ _ (fun _ => rH) (fun t r => (tS9 t a c, r)) h
noncomputable def rScr (h : rH) : List rV := h.2.2.2.2
noncomputable def rNew (h : rH) (c : rC) (sz : Nat) (k : Nat → rH → rR) : rR := @Prod.rec _ _ (fun _ => rR) (fun t r => @Prod.rec _ _ (fun _ => rR) (fun n r => @Prod.rec _ _ (fun _ => rR) (fun cs r => @Prod.rec _ _ (fun _ => rR) (fun sl sc => @Bool.rec (fun _ => rR) (none) (k n (tS9 t n c, (Nat.succ n, (Nat.succ cs, (Nat.add sl sz, sc))))) (Nat.ble n 510)) (r)) (r)) (r)) (h)
noncomputable def rSp (d p m s : Nat) : Nat := Nat.xor d (Nat.shiftLeft (Nat.xor (Nat.mod (Nat.shiftRight d (Nat.mul 64 p)) (Nat.pow 2 (Nat.mul 64 m))) s) (Nat.mul 64 p))
noncomputable def rPl (d p : Nat) : Nat := Nat.mod (Nat.shiftRight d (Nat.mul 64 p)) 18446744073709551616
noncomputable def aDv (x y : Nat) : Bool := @Bool.rec (fun _ => Bool) (@Bool.rec (fun _ => Bool) (Nat.ble x 2147483647) (false) (Nat.ble 2147483648 y)) (false) (Nat.ble y 0)
noncomputable def aDl (x y : Nat) : Bool := @Bool.rec (fun _ => Bool) (@Bool.rec (fun _ => Bool) (Nat.ble x 9223372036854775807) (false) (Nat.ble 9223372036854775808 y)) (false) (Nat.ble y 0)
noncomputable def xN (_ _ _ : Nat) : Option rV := none
noncomputable def sI (x : Nat) : Nat := Nat.xor x 2147483648
noncomputable def sL (x : Nat) : Nat := Nat.xor x 9223372036854775808
noncomputable def fAdd (x y : Nat) : Nat := Nat.mod (Nat.add x y) 4294967296
noncomputable def fSub (x y : Nat) : Nat := Nat.mod (Nat.add x (Nat.sub 4294967296 y)) 4294967296
noncomputable def fMul (x y : Nat) : Nat := Nat.mod (Nat.mul x y) 4294967296
noncomputable def fAnd (x y : Nat) : Nat := Nat.land x y
noncomputable def fOr (x y : Nat) : Nat := Nat.lor x y
noncomputable def fXor (x y : Nat) : Nat := Nat.xor x y
noncomputable def fShl (x y : Nat) : Nat := Nat.mod (Nat.shiftLeft x (Nat.mod y 32)) 4294967296
noncomputable def fShr (x y : Nat) : Nat := @Bool.rec (fun _ => Nat) (Nat.shiftRight x (Nat.mod y 32)) (Nat.sub 4294967295 (Nat.shiftRight (Nat.sub 4294967295 x) (Nat.mod y 32))) (Nat.ble 2147483648 x)
noncomputable def fUsh (x y : Nat) : Nat := Nat.shiftRight x (Nat.mod y 32)
noncomputable def fDiv (x y : Nat) : Nat := Nat.div x y
noncomputable def fRem (x y : Nat) : Nat := Nat.mod x y
noncomputable def fI2l (x : Nat) : Nat := @Bool.rec (fun _ => Nat) (x) (Nat.add x 18446744069414584320) (Nat.ble 2147483648 x)
noncomputable def fLadd (x y : Nat) : Nat := Nat.mod (Nat.add x y) 18446744073709551616
noncomputable def fLsub (x y : Nat) : Nat := Nat.mod (Nat.add x (Nat.sub 18446744073709551616 y)) 18446744073709551616
noncomputable def fLmul (x y : Nat) : Nat := Nat.mod (Nat.mul x y) 18446744073709551616
noncomputable def fLshl (x y : Nat) : Nat := Nat.mod (Nat.shiftLeft x (Nat.mod y 64)) 18446744073709551616
noncomputable def fLshr (x y : Nat) : Nat := @Bool.rec (fun _ => Nat) (Nat.shiftRight x (Nat.mod y 64)) (Nat.sub 18446744073709551615 (Nat.shiftRight (Nat.sub 18446744073709551615 x) (Nat.mod y 64))) (Nat.ble 9223372036854775808 x)
noncomputable def fLush (x y : Nat) : Nat := Nat.shiftRight x (Nat.mod y 64)
noncomputable def fLcmp (x y : Nat) : Nat := @Bool.rec (fun _ => Nat) (@Bool.rec (fun _ => Nat) (4294967295) (1) (Nat.ble (sL y) (sL x))) (0) (Nat.beq x y)
noncomputable def gIv (p q m : Nat) (k : Option rV) : Option rV := @Bool.rec (fun _ => Option rV) (none) (@Bool.rec (fun _ => Option rV) (none) (k) (Nat.ble q m)) (Nat.ble p q)
noncomputable def gAdd (x p q : Nat) : Option rV := gIv p q 2147483647 (@Bool.rec (fun _ => Option rV) (none) (some (vX (Nat.add x p) (Nat.add x q))) (Nat.ble (Nat.add x q) 2147483647))
noncomputable def gMk (p q : Nat) : Option rV := @Bool.rec (fun _ => Option rV) (some (vX p q)) (some (vI p)) (Nat.beq p q)
noncomputable def gShr (p q y : Nat) : Option rV := gIv p q 2147483647 (gMk (Nat.shiftRight p (Nat.mod y 32)) (Nat.shiftRight q (Nat.mod y 32)))
noncomputable def gDiv (p q y : Nat) : Option rV := @Bool.rec (fun _ => Option rV) (@Bool.rec (fun _ => Option rV) (none) (gIv p q 2147483647 (gMk (Nat.div p y) (Nat.div q y))) (Nat.ble y 2147483647)) (none) (Nat.ble y 0)
noncomputable def gAnd (p q y : Nat) : Option rV := @Bool.rec (fun _ => Option rV) (@Bool.rec (fun _ => Option rV) (none) (gIv p q 4294967295 (some (vX 0 3))) (Nat.beq y 3)) (@Bool.rec (fun _ => Option rV) (none) (@Bool.rec (fun _ => Option rV) (none) (some (vI (Nat.sub p 4294967296))) (Nat.ble p 4294967359)) (Nat.ble 4294967296 p)) (Nat.beq y 63)
noncomputable def cEq (x y : Nat) : Bool := Nat.beq x y
noncomputable def cNe (x y : Nat) : Bool := @Bool.rec (fun _ => Bool) (true) (false) (Nat.beq x y)
noncomputable def cLt (x y : Nat) : Bool := @Bool.rec (fun _ => Bool) (true) (false) (Nat.ble (sI y) (sI x))
noncomputable def cGe (x y : Nat) : Bool := Nat.ble (sI y) (sI x)
noncomputable def cGt (x y : Nat) : Bool := @Bool.rec (fun _ => Bool) (true) (false) (Nat.ble (sI x) (sI y))
noncomputable def cLe (x y : Nat) : Bool := Nat.ble (sI x) (sI y)
noncomputable def gSg (p q : Nat) (k : Option Bool) : Option Bool := @Bool.rec (fun _ => Option Bool) (none) (@Bool.rec (fun _ => Option Bool) (@Bool.rec (fun _ => Option Bool) (none) (@Bool.rec (fun _ => Option Bool) (none) (k) (Nat.ble q 4294967295)) (Nat.ble 2147483648 p)) (k) (Nat.ble q 2147483647)) (Nat.ble p q)
noncomputable def gLt (p q y : Nat) : Option Bool := gSg p q (@Bool.rec (fun _ => Option Bool) (@Bool.rec (fun _ => Option Bool) (none) (some false) (Nat.ble (sI y) (sI p))) (some true) (Nat.ble (Nat.succ (sI q)) (sI y)))
noncomputable def gGe (p q y : Nat) : Option Bool := gSg p q (@Bool.rec (fun _ => Option Bool) (@Bool.rec (fun _ => Option Bool) (none) (some true) (Nat.ble (sI y) (sI p))) (some false) (Nat.ble (Nat.succ (sI q)) (sI y)))
noncomputable def gGt (p q y : Nat) : Option Bool := gSg p q (@Bool.rec (fun _ => Option Bool) (@Bool.rec (fun _ => Option Bool) (none) (some false) (Nat.ble (sI q) (sI y))) (some true) (Nat.ble (Nat.succ (sI y)) (sI p)))
noncomputable def gLe (p q y : Nat) : Option Bool := gSg p q (@Bool.rec (fun _ => Option Bool) (@Bool.rec (fun _ => Option Bool) (none) (some true) (Nat.ble (sI q) (sI y))) (some false) (Nat.ble (Nat.succ (sI y)) (sI p)))
noncomputable def gEq (p q y : Nat) : Option Bool := @Bool.rec (fun _ => Option Bool) (none) (@Bool.rec (fun _ => Option Bool) (none) (@Bool.rec (fun _ => Option Bool) (@Bool.rec (fun _ => Option Bool) (none) (some false) (Nat.ble (Nat.succ q) y)) (some false) (Nat.ble (Nat.succ y) p)) (Nat.ble q 4294967295)) (Nat.ble p q)
noncomputable def gNe (p q y : Nat) : Option Bool := @Bool.rec (fun _ => Option Bool) (none) (@Bool.rec (fun _ => Option Bool) (none) (@Bool.rec (fun _ => Option Bool) (@Bool.rec (fun _ => Option Bool) (none) (some true) (Nat.ble (Nat.succ q) y)) (some true) (Nat.ble (Nat.succ y) p)) (Nat.ble q 4294967295)) (Nat.ble p q)
noncomputable def rN (n : Nat) (k : Nat → rR) : rR := @Nat.rec (fun _ => rR) (k 0) (fun m _ => k (Nat.succ m)) n
noncomputable def rNth (l : List rP) (n : Nat) (df : rP) : rP := @List.rec _ (fun _ => Nat → rP) (fun _ => df) (fun p _ ih n => @Nat.rec (fun _ => rP) p (fun m _ => ih m) n) l n
noncomputable def oNone : rP := fun j L S h => none
noncomputable def oIlX (nx : rP) (j : rJ × rJ) (L S : List rV) (h : rH) (w : Nat ⊕ (Nat ⊕ (Nat × Nat))) : rR := @Sum.rec _ _ (fun _ => rR) (fun _ => none) (fun w => @Sum.rec _ _ (fun _ => rR) (fun _ => none) (fun w => @Prod.rec _ _ (fun _ => rR) (fun a b => @Bool.rec (fun _ => rR) (nx j L (vX a b :: S) h) (none) (Nat.ble 8589934592 a)) (w)) (w)) (w)
noncomputable def oIl (g : List rV → rV) (nx : rP) : rP := fun j L S h => @Sum.rec _ _ (fun _ => rR) (fun n => nx j L (vI n :: S) h) (oIlX nx j L S h) (g L)
noncomputable def oAl (g : List rV → rV) (nx : rP) : rP := fun j L S h => @Sum.rec _ _ (fun _ => rR) (fun _ => none) (fun w => @Sum.rec _ _ (fun _ => rR) (fun n => nx j L (vR n :: S) h) (fun _ => none) (w)) (g L)
noncomputable def oLl (g : List rV → rV) (nx : rP) : rP := fun j L S h => @Sum.rec _ _ (fun _ => rR) (fun _ => none) (fun w => @Sum.rec _ _ (fun _ => rR) (fun _ => none) (fun w => @Sum.rec _ _ (fun _ => rR) (fun n => nx j L (vL n :: S) h) (fun _ => none) (w)) (w)) (g L)
noncomputable def oDl (g : List rV → rV) (nx : rP) : rP := fun j L S h => @Sum.rec _ _ (fun _ => rR) (fun _ => none) (fun w => @Sum.rec _ _ (fun _ => rR) (fun _ => none) (fun w => @Sum.rec _ _ (fun _ => rR) (fun _ => none) (fun w => @Prod.rec _ _ (fun _ => rR) (fun a b => @Bool.rec (fun _ => rR) (none) (nx j L (vX a b :: S) h) (Nat.beq a 17179869184)) (w)) (w)) (w)) (g L)
noncomputable def oIsX (g : rV → List rV → List rV) (nx : rP) (j : rJ × rJ) (L S : List rV) (h : rH) (w : Nat ⊕ (Nat ⊕ (Nat × Nat))) : rR := @Sum.rec _ _ (fun _ => rR) (fun _ => none) (fun w => @Sum.rec _ _ (fun _ => rR) (fun _ => none) (fun w => @Prod.rec _ _ (fun _ => rR) (fun a b => @Bool.rec (fun _ => rR) (nx j (g (vX a b) L) S h) (none) (Nat.ble 8589934592 a)) (w)) (w)) (w)
noncomputable def oIs (g : rV → List rV → List rV) (nx : rP) : rP := fun j L S h => @List.rec _ (fun _ => rR) none (fun v S _ => @Sum.rec _ _ (fun _ => rR) (fun n => nx j (g (vI n) L) S h) (oIsX g nx j L S h) (v)) S
noncomputable def oAs (g : rV → List rV → List rV) (nx : rP) : rP := fun j L S h => @List.rec _ (fun _ => rR) none (fun v S _ => @Sum.rec _ _ (fun _ => rR) (fun _ => none) (fun w => @Sum.rec _ _ (fun _ => rR) (fun n => nx j (g (vR n) L) S h) (fun _ => none) (w)) (v)) S
noncomputable def oLs (g : rV → List rV → List rV) (nx : rP) : rP := fun j L S h => @List.rec _ (fun _ => rR) none (fun v S _ => @Sum.rec _ _ (fun _ => rR) (fun _ => none) (fun w => @Sum.rec _ _ (fun _ => rR) (fun _ => none) (fun w => @Sum.rec _ _ (fun _ => rR) (fun n => nx j (g (vL n) L) S h) (fun _ => none) (w)) (w)) (v)) S
noncomputable def oDs (g : rV → List rV → List rV) (nx : rP) : rP := fun j L S h => @List.rec _ (fun _ => rR) none (fun v S _ => @Sum.rec _ _ (fun _ => rR) (fun _ => none) (fun w => @Sum.rec _ _ (fun _ => rR) (fun _ => none) (fun w => @Sum.rec _ _ (fun _ => rR) (fun _ => none) (fun w => @Prod.rec _ _ (fun _ => rR) (fun a b => @Bool.rec (fun _ => rR) (none) (nx j (g (vX a b) L) S h) (Nat.beq a 17179869184)) (w)) (w)) (w)) (v)) S
noncomputable def oPsh (v : rV) (nx : rP) : rP := fun j L S h => nx j L (v :: S) h
noncomputable def oDup (nx : rP) : rP := fun j L S h => @List.rec _ (fun _ => rR) none (fun v S _ => @Bool.rec (fun _ => rR) (nx j L (v :: v :: S) h) (none) (rC2 v)) S
noncomputable def oDup2 (nx : rP) : rP := fun j L S h => @List.rec _ (fun _ => rR) none (fun v S _ => @List.rec _ (fun _ => rR) none (fun w S _ => @Bool.rec (fun _ => rR) (@Bool.rec (fun _ => rR) (nx j L (v :: w :: v :: w :: S) h) (none) (rC2 w)) (none) (rC2 v)) S) S
noncomputable def oDupX (nx : rP) : rP := fun j L S h => @List.rec _ (fun _ => rR) none (fun v S _ => @List.rec _ (fun _ => rR) none (fun w S _ => @Bool.rec (fun _ => rR) (@Bool.rec (fun _ => rR) (nx j L (v :: w :: v :: S) h) (none) (rC2 w)) (none) (rC2 v)) S) S
noncomputable def oPop (nx : rP) : rP := fun j L S h => @List.rec _ (fun _ => rR) none (fun v S _ => @Bool.rec (fun _ => rR) (nx j L S h) (none) (rC2 v)) S
noncomputable def oBinX (f : Nat → Nat → Nat) (g : Nat → Nat → Nat → Option rV) (nx : rP) (j : rJ × rJ) (L S : List rV) (h : rH) (y : Nat) (w : Nat ⊕ (Nat ⊕ (Nat × Nat))) : rR := @Sum.rec _ _ (fun _ => rR) (fun _ => none) (fun w => @Sum.rec _ _ (fun _ => rR) (fun _ => none) (fun w => @Prod.rec _ _ (fun _ => rR) (fun p q => @Option.rec _ (fun _ => rR) (none) (fun v => nx j L (v :: S) h) (g p q y)) (w)) (w)) (w)
noncomputable def oBinY (e : Nat → Nat → Nat → Option rV) (nx : rP) (j : rJ × rJ) (L S : List rV) (h : rH) (a : rV) (w : Nat ⊕ (Nat ⊕ (Nat × Nat))) : rR := @Sum.rec _ _ (fun _ => rR) (fun _ => none) (fun w => @Sum.rec _ _ (fun _ => rR) (fun _ => none) (fun w => @Prod.rec _ _ (fun _ => rR) (fun p q => @Sum.rec _ _ (fun _ => rR) (fun x => @Option.rec _ (fun _ => rR) (none) (fun v => nx j L (v :: S) h) (e x p q)) (fun _ => none) (a)) (w)) (w)) (w)
noncomputable def oBin (f : Nat → Nat → Nat) (g e : Nat → Nat → Nat → Option rV) (nx : rP) : rP := fun j L S h => @List.rec _ (fun _ => rR) none (fun b S _ => @List.rec _ (fun _ => rR) none (fun a S _ => @Sum.rec _ _ (fun _ => rR) (fun y => @Sum.rec _ _ (fun _ => rR) (fun x => nx j L (vI (f x y) :: S) h) (oBinX f g nx j L S h y) (a)) (oBinY e nx j L S h a) (b)) S) S
noncomputable def oDiv (ok : Nat → Nat → Bool) (f : Nat → Nat → Nat) (g : Nat → Nat → Nat → Option rV) (nx : rP) : rP := fun j L S h => @List.rec _ (fun _ => rR) none (fun b S _ => @List.rec _ (fun _ => rR) none (fun a S _ => @Sum.rec _ _ (fun _ => rR) (fun y => @Sum.rec _ _ (fun _ => rR) (fun x => @Bool.rec (fun _ => rR) (none) (nx j L (vI (f x y) :: S) h) (ok x y)) (oBinX f g nx j L S h y) (a)) (fun _ => none) (b)) S) S
noncomputable def oBinL (ok : Nat → Nat → Bool) (f : Nat → Nat → Nat) (nx : rP) : rP := fun j L S h => @List.rec _ (fun _ => rR) none (fun b S _ => @List.rec _ (fun _ => rR) none (fun a S _ => @Sum.rec _ _ (fun _ => rR) (fun _ => none) (fun w => @Sum.rec _ _ (fun _ => rR) (fun _ => none) (fun w => @Sum.rec _ _ (fun _ => rR) (fun y => @Sum.rec _ _ (fun _ => rR) (fun _ => none) (fun w => @Sum.rec _ _ (fun _ => rR) (fun _ => none) (fun w => @Sum.rec _ _ (fun _ => rR) (fun x => @Bool.rec (fun _ => rR) (none) (nx j L (vL (f x y) :: S) h) (ok x y)) (fun _ => none) (w)) (w)) (a)) (fun _ => none) (w)) (w)) (b)) S) S
noncomputable def oShL (f : Nat → Nat → Nat) (nx : rP) : rP := fun j L S h => @List.rec _ (fun _ => rR) none (fun b S _ => @List.rec _ (fun _ => rR) none (fun a S _ => @Sum.rec _ _ (fun _ => rR) (fun y => @Sum.rec _ _ (fun _ => rR) (fun _ => none) (fun w => @Sum.rec _ _ (fun _ => rR) (fun _ => none) (fun w => @Sum.rec _ _ (fun _ => rR) (fun x => nx j L (vL (f x y) :: S) h) (fun _ => none) (w)) (w)) (a)) (fun _ => none) (b)) S) S
noncomputable def oLcmp (f : Nat → Nat → Nat) (nx : rP) : rP := fun j L S h => @List.rec _ (fun _ => rR) none (fun b S _ => @List.rec _ (fun _ => rR) none (fun a S _ => @Sum.rec _ _ (fun _ => rR) (fun _ => none) (fun w => @Sum.rec _ _ (fun _ => rR) (fun _ => none) (fun w => @Sum.rec _ _ (fun _ => rR) (fun y => @Sum.rec _ _ (fun _ => rR) (fun _ => none) (fun w => @Sum.rec _ _ (fun _ => rR) (fun _ => none) (fun w => @Sum.rec _ _ (fun _ => rR) (fun x => nx j L (vI (f x y) :: S) h) (fun _ => none) (w)) (w)) (a)) (fun _ => none) (w)) (w)) (b)) S) S
noncomputable def oI2l (nx : rP) : rP := fun j L S h => @List.rec _ (fun _ => rR) none (fun a S _ => @Sum.rec _ _ (fun _ => rR) (fun x => nx j L (vL (fI2l x) :: S) h) (fun _ => none) (a)) S
noncomputable def oL2i (nx : rP) : rP := fun j L S h => @List.rec _ (fun _ => rR) none (fun a S _ => @Sum.rec _ _ (fun _ => rR) (fun _ => none) (fun w => @Sum.rec _ _ (fun _ => rR) (fun _ => none) (fun w => @Sum.rec _ _ (fun _ => rR) (fun x => nx j L (vI (Nat.mod x 4294967296) :: S) h) (fun _ => none) (w)) (w)) (a)) S
noncomputable def oI2d (nx : rP) : rP := fun j L S h => @List.rec _ (fun _ => rR) none (fun a S _ => @Sum.rec _ _ (fun _ => rR) (fun x => @Bool.rec (fun _ => rR) (none) (nx j L (vX 17179869184 4611686018427387904 :: S) h) (Nat.beq x 2)) (fun _ => none) (a)) S
noncomputable def oDdiv (nx : rP) : rP := fun j L S h => @List.rec _ (fun _ => rR) none (fun b S _ => @List.rec _ (fun _ => rR) none (fun a S _ => @Sum.rec _ _ (fun _ => rR) (fun _ => none) (fun w => @Sum.rec _ _ (fun _ => rR) (fun _ => none) (fun w => @Sum.rec _ _ (fun _ => rR) (fun _ => none) (fun w => @Prod.rec _ _ (fun _ => rR) (fun p q => @Sum.rec _ _ (fun _ => rR) (fun _ => none) (fun w => @Sum.rec _ _ (fun _ => rR) (fun _ => none) (fun w => @Sum.rec _ _ (fun _ => rR) (fun _ => none) (fun w => @Prod.rec _ _ (fun _ => rR) (fun u w => @Bool.rec (fun _ => rR) (none) (@Bool.rec (fun _ => rR) (none) (@Bool.rec (fun _ => rR) (none) (@Bool.rec (fun _ => rR) (none) (nx j L (vX 17179869184 4607182418800017408 :: S) h) (Nat.beq w 4611686018427387904)) (Nat.beq q 4611686018427387904)) (Nat.beq u 17179869184)) (Nat.beq p 17179869184)) (w)) (w)) (w)) (a)) (w)) (w)) (w)) (b)) S) S
noncomputable def oDcmp (nx : rP) : rP := fun j L S h => @List.rec _ (fun _ => rR) none (fun b S _ => @List.rec _ (fun _ => rR) none (fun a S _ => @Sum.rec _ _ (fun _ => rR) (fun _ => none) (fun w => @Sum.rec _ _ (fun _ => rR) (fun _ => none) (fun w => @Sum.rec _ _ (fun _ => rR) (fun _ => none) (fun w => @Prod.rec _ _ (fun _ => rR) (fun p q => @Sum.rec _ _ (fun _ => rR) (fun _ => none) (fun w => @Sum.rec _ _ (fun _ => rR) (fun _ => none) (fun w => @Sum.rec _ _ (fun _ => rR) (fun _ => none) (fun w => @Prod.rec _ _ (fun _ => rR) (fun u w => @Bool.rec (fun _ => rR) (none) (@Bool.rec (fun _ => rR) (none) (@Bool.rec (fun _ => rR) (none) (@Bool.rec (fun _ => rR) (none) (nx j L (vI 0 :: S) h) (Nat.beq w 4607182418800017408)) (Nat.beq q 4607182418800017408)) (Nat.beq u 17179869184)) (Nat.beq p 17179869184)) (w)) (w)) (w)) (a)) (w)) (w)) (w)) (b)) S) S
noncomputable def oInc (g : List rV → rV) (s : rV → List rV → List rV) (n : Nat) (nx : rP) : rP := fun j L S h => @Sum.rec _ _ (fun _ => rR) (fun x => nx j (s (vI (fAdd x n)) L) S h) (fun _ => none) (g L)
noncomputable def rBr (o : Option Bool) (t f : rR) : rR := @Option.rec _ (fun _ => rR) (none) (fun b => @Bool.rec (fun _ => rR) (f) (t) (b)) (o)
noncomputable def oIfX (g : Nat → Nat → Option Bool) (t f : rP) (j : rJ × rJ) (L S : List rV) (h : rH) (w : Nat ⊕ (Nat ⊕ (Nat × Nat))) : rR := @Sum.rec _ _ (fun _ => rR) (fun _ => none) (fun w => @Sum.rec _ _ (fun _ => rR) (fun _ => none) (fun w => @Prod.rec _ _ (fun _ => rR) (fun p q => rBr (g p q) (t j L S h) (f j L S h)) (w)) (w)) (w)
noncomputable def oIf (c : Nat → Bool) (g : Nat → Nat → Option Bool) (t f : rP) : rP := fun j L S h => @List.rec _ (fun _ => rR) none (fun a S _ => @Sum.rec _ _ (fun _ => rR) (fun x => @Bool.rec (fun _ => rR) (f j L S h) (t j L S h) (c x)) (oIfX g t f j L S h) (a)) S
noncomputable def oIc (c : Nat → Nat → Bool) (g : Nat → Nat → Nat → Option Bool) (t f : rP) : rP := fun j L S h => @List.rec _ (fun _ => rR) none (fun b S _ => @List.rec _ (fun _ => rR) none (fun a S _ => @Sum.rec _ _ (fun _ => rR) (fun y => @Sum.rec _ _ (fun _ => rR) (fun x => @Bool.rec (fun _ => rR) (f j L S h) (t j L S h) (c x y)) (oIfX (fun p q => g p q y) t f j L S h) (a)) (fun _ => none) (b)) S) S
noncomputable def oAeq (t : rP) : rP := fun j L S h => @List.rec _ (fun _ => rR) none (fun b S _ => @List.rec _ (fun _ => rR) none (fun a S _ => @Sum.rec _ _ (fun _ => rR) (fun _ => none) (fun w => @Sum.rec _ _ (fun _ => rR) (fun y => @Sum.rec _ _ (fun _ => rR) (fun _ => none) (fun w => @Sum.rec _ _ (fun _ => rR) (fun x => @Bool.rec (fun _ => rR) (none) (t j L S h) (Nat.beq x y)) (fun _ => none) (w)) (a)) (fun _ => none) (w)) (b)) S) S
noncomputable def oGo (nx : rP) : rP := fun j L S h => nx j L S h
noncomputable def oJb (id : Nat) : rP := fun j L S h => @Prod.rec _ _ (fun _ => rR) (fun jb _ => jb id L S h) (j)
noncomputable def oTswX (len : Nat) (df : rP) (j : rJ × rJ) (L S : List rV) (h : rH) (w : Nat ⊕ (Nat ⊕ (Nat × Nat))) : rR := @Sum.rec _ _ (fun _ => rR) (fun _ => none) (fun w => @Sum.rec _ _ (fun _ => rR) (fun _ => none) (fun w => @Prod.rec _ _ (fun _ => rR) (fun p q => @Bool.rec (fun _ => rR) (none) (@Bool.rec (fun _ => rR) (none) (@Bool.rec (fun _ => rR) (df j L S h) (none) (Nat.ble 4294967296 q)) (Nat.ble p q)) (Nat.ble len p)) (w)) (w)) (w)
noncomputable def oTsw (ps : List rP) (len : Nat) (df : rP) : rP := fun j L S h => @List.rec _ (fun _ => rR) none (fun a S _ => @Sum.rec _ _ (fun _ => rR) (fun x => rNth ps x df j L S h) (oTswX len df j L S h) (a)) S
noncomputable def oLsw (x1 x2 : Nat) (p1 p2 df : rP) : rP := fun j L S h => @List.rec _ (fun _ => rR) none (fun a S _ => @Sum.rec _ _ (fun _ => rR) (fun x => @Bool.rec (fun _ => rR) (@Bool.rec (fun _ => rR) (df j L S h) (p2 j L S h) (Nat.beq x x2)) (p1 j L S h) (Nat.beq x x1)) (fun _ => none) (a)) S
noncomputable def oGf (kd p : Nat) (mk : Nat → rV) (nx : rP) : rP := fun j L S h => @List.rec _ (fun _ => rR) none (fun o S _ => @Sum.rec _ _ (fun _ => rR) (fun _ => none) (fun w => @Sum.rec _ _ (fun _ => rR) (fun a => @Prod.rec _ _ (fun _ => rR) (fun k q => @Bool.rec (fun _ => rR) (none) (nx j L (mk (rPl q.2 p) :: S) h) (Nat.beq k kd)) (rAt h a)) (fun _ => none) (w)) (o)) S
noncomputable def rUn (ty : Nat) (v : rV) (k : Nat → rR) : rR := @Bool.rec (fun _ => rR) (@Bool.rec (fun _ => rR) (@Bool.rec (fun _ => rR) (@Sum.rec _ _ (fun _ => rR) (fun x => @Bool.rec (fun _ => rR) (none) (k x) (Nat.ble x 1)) (fun _ => none) (v)) (@Sum.rec _ _ (fun _ => rR) (fun _ => none) (fun w => @Sum.rec _ _ (fun _ => rR) (fun _ => none) (fun w => @Sum.rec _ _ (fun _ => rR) (k) (fun _ => none) (w)) (w)) (v)) (Nat.beq ty 1)) (@Sum.rec _ _ (fun _ => rR) (fun _ => none) (fun w => @Sum.rec _ _ (fun _ => rR) (k) (fun _ => none) (w)) (v)) (Nat.beq ty 2)) (@Sum.rec _ _ (fun _ => rR) (k) (fun _ => none) (v)) (Nat.beq ty 0)
noncomputable def oPf (kd p ty : Nat) (nx : rP) : rP := fun j L S h => @List.rec _ (fun _ => rR) none (fun v S _ => @List.rec _ (fun _ => rR) none (fun o S _ => @Sum.rec _ _ (fun _ => rR) (fun _ => none) (fun w => @Sum.rec _ _ (fun _ => rR) (fun a => rUn ty v fun x => @Prod.rec _ _ (fun _ => rR) (fun k q => @Bool.rec (fun _ => rR) (none) (rN (rSp q.2 p 1 x) fun d => nx j L S (rPut h a (k, (q.1, d)))) (Nat.beq k kd)) (rAt h a)) (fun _ => none) (w)) (o)) S) S
noncomputable def oNew (kd sz : Nat) (nx : rP) : rP := fun j L S h => rNew h (kd, (0, 0)) sz fun a h => nx j L (vR a :: S) h
noncomputable def oNwa (kd : Nat) (nx : rP) : rP := fun j L S h => @List.rec _ (fun _ => rR) none (fun n S _ => @Sum.rec _ _ (fun _ => rR) (fun x => @Bool.rec (fun _ => rR) (none) (rNew h (kd, (x, 0)) x fun a h => nx j L (vR a :: S) h) (Nat.ble x 65536)) (fun _ => none) (n)) S
noncomputable def rRep (c : rC) (sz k : Nat) : (List Nat → rH → rR) → rH → rR := @Nat.rec (fun _ => (List Nat → rH → rR) → rH → rR) (fun kk h => kk [] h) (fun _ ih kk h => rNew h c sz fun a h1 => ih (fun l h2 => kk (a :: l) h2) h1) k
noncomputable def rLay (l : List Nat) : Nat := @List.rec _ (fun _ => Nat) 0 (fun a _ r => Nat.add a (Nat.mul 18446744073709551616 r)) l
noncomputable def oMul (kd kd2 n1 n2 : Nat) (nx : rP) : rP := fun j L S h => @List.rec _ (fun _ => rR) none (fun b S _ => @List.rec _ (fun _ => rR) none (fun a S _ => @Sum.rec _ _ (fun _ => rR) (fun y => @Sum.rec _ _ (fun _ => rR) (fun x => @Bool.rec (fun _ => rR) (none) (@Bool.rec (fun _ => rR) (none) (rNew h (kd, (n1, 0)) n1 fun o h => rRep (kd2, (n2, 0)) n2 n1 (fun l h => rN (rLay l) fun d => nx j L (vR o :: S) (rPut h o (kd, (n1, d)))) h) (Nat.beq y n2)) (Nat.beq x n1)) (fun _ => none) (a)) (fun _ => none) (b)) S) S
noncomputable def rLen (l : List rV) : Nat := @List.rec _ (fun _ => Nat) 0 (fun _ _ r => Nat.succ r) l
noncomputable def oLen (nx : rP) : rP := fun j L S h => @List.rec _ (fun _ => rR) none (fun o S _ => @Sum.rec _ _ (fun _ => rR) (fun _ => none) (fun w => @Sum.rec _ _ (fun _ => rR) (fun a => @Bool.rec (fun _ => rR) (@Bool.rec (fun _ => rR) (@Prod.rec _ _ (fun _ => rR) (fun k q => @Bool.rec (fun _ => rR) (none) (nx j L (vI q.1 :: S) h) (Nat.beq (Nat.land k 1) 1)) (rAt h a)) (nx j L (vI 0 :: S) h) (Nat.beq a 16384)) (nx j L (vI (rLen (rScr h)) :: S) h) (Nat.beq a 8192)) (fun _ => none) (w)) (o)) S
noncomputable def rSame (dt x : Nat) (n : Nat) : Nat → Bool := @Nat.rec (fun _ => Nat → Bool) (fun _ => true) (fun _ ih i => @Bool.rec (fun _ => Bool) false (ih (Nat.succ i)) (Nat.beq (rPl dt i) x)) n
noncomputable def rLg (l : List rV) (n : Nat) : rV := @List.rec _ (fun _ => Nat → rV) (fun _ => vU) (fun x _ ih n => @Nat.rec (fun _ => rV) x (fun m _ => ih m) n) l n
noncomputable def oIls (v : rV) (nx : rP) (j : rJ × rJ) (L S : List rV) (h : rH) : rR := @Sum.rec _ _ (fun _ => rR) (fun n => nx j L (vI n :: S) h) (oIlX nx j L S h) (v)
noncomputable def oIalS (nx : rP) (j : rJ × rJ) (L S : List rV) (h : rH) (i : rV) : rR := @Sum.rec _ _ (fun _ => rR) (fun x => oIls (rLg (rScr h) x) nx j L S h) (fun _ => none) (i)
noncomputable def oIalX (nx : rP) (j : rJ × rJ) (L S : List rV) (h : rH) (ln dt : Nat) (w : Nat ⊕ (Nat ⊕ (Nat × Nat))) : rR := @Sum.rec _ _ (fun _ => rR) (fun _ => none) (fun w => @Sum.rec _ _ (fun _ => rR) (fun _ => none) (fun w => @Prod.rec _ _ (fun _ => rR) (fun p q => @Bool.rec (fun _ => rR) (@Bool.rec (fun _ => rR) (none) (@Bool.rec (fun _ => rR) (none) (nx j L (vI (rPl dt p) :: S) h) (rSame dt (rPl dt p) (Nat.sub (Nat.succ q) p) p)) (Nat.ble p q)) (none) (Nat.ble ln q)) (w)) (w)) (w)
noncomputable def oIal (nx : rP) : rP := fun j L S h => @List.rec _ (fun _ => rR) none (fun i S _ => @List.rec _ (fun _ => rR) none (fun o S _ => @Sum.rec _ _ (fun _ => rR) (fun _ => none) (fun w => @Sum.rec _ _ (fun _ => rR) (fun a => @Prod.rec _ _ (fun _ => rR) (fun k q => @Bool.rec (fun _ => rR) (@Bool.rec (fun _ => rR) (none) (oIalS nx j L S h i) (Nat.beq a 8192)) (@Sum.rec _ _ (fun _ => rR) (fun x => @Bool.rec (fun _ => rR) (nx j L (vI (rPl q.2 x) :: S) h) (none) (Nat.ble q.1 x)) (oIalX nx j L S h q.1 q.2) (i)) (Nat.beq k 1)) (rAt h a)) (fun _ => none) (w)) (o)) S) S
noncomputable def oAld (kd : Nat) (mk : Nat → rV) (nx : rP) : rP := fun j L S h => @List.rec _ (fun _ => rR) none (fun i S _ => @List.rec _ (fun _ => rR) none (fun o S _ => @Sum.rec _ _ (fun _ => rR) (fun _ => none) (fun w => @Sum.rec _ _ (fun _ => rR) (fun a => @Sum.rec _ _ (fun _ => rR) (fun x => @Prod.rec _ _ (fun _ => rR) (fun k q => @Bool.rec (fun _ => rR) (none) (@Bool.rec (fun _ => rR) (nx j L (mk (rPl q.2 x) :: S) h) (none) (Nat.ble q.1 x)) (Nat.beq k kd)) (rAt h a)) (fun _ => none) (i)) (fun _ => none) (w)) (o)) S) S
noncomputable def oAal (nx : rP) : rP := fun j L S h => @List.rec _ (fun _ => rR) none (fun i S _ => @List.rec _ (fun _ => rR) none (fun o S _ => @Sum.rec _ _ (fun _ => rR) (fun _ => none) (fun w => @Sum.rec _ _ (fun _ => rR) (fun a => @Sum.rec _ _ (fun _ => rR) (fun x => @Prod.rec _ _ (fun _ => rR) (fun k q => @Bool.rec (fun _ => rR) (none) (@Bool.rec (fun _ => rR) (none) (@Bool.rec (fun _ => rR) (nx j L (vR (rPl q.2 x) :: S) h) (none) (Nat.ble q.1 x)) (Nat.ble 7 k)) (Nat.beq (Nat.land k 1) 1)) (rAt h a)) (fun _ => none) (i)) (fun _ => none) (w)) (o)) S) S
noncomputable def oAst (kd ty : Nat) (nx : rP) : rP := fun j L S h => @List.rec _ (fun _ => rR) none (fun v S _ => @List.rec _ (fun _ => rR) none (fun i S _ => @List.rec _ (fun _ => rR) none (fun o S _ => @Sum.rec _ _ (fun _ => rR) (fun _ => none) (fun w => @Sum.rec _ _ (fun _ => rR) (fun a => @Sum.rec _ _ (fun _ => rR) (fun x => rUn ty v fun w => @Prod.rec _ _ (fun _ => rR) (fun k q => @Bool.rec (fun _ => rR) (none) (@Bool.rec (fun _ => rR) (rN (rSp q.2 x 1 w) fun d => nx j L S (rPut h a (k, (q.1, d)))) (none) (Nat.ble q.1 x)) (Nat.beq k kd)) (rAt h a)) (fun _ => none) (i)) (fun _ => none) (w)) (o)) S) S) S
noncomputable def oAas (ok : Nat → Nat → Bool) (nx : rP) : rP := fun j L S h => @List.rec _ (fun _ => rR) none (fun v S _ => @List.rec _ (fun _ => rR) none (fun i S _ => @List.rec _ (fun _ => rR) none (fun o S _ => @Sum.rec _ _ (fun _ => rR) (fun _ => none) (fun w => @Sum.rec _ _ (fun _ => rR) (fun a => @Sum.rec _ _ (fun _ => rR) (fun x => @Sum.rec _ _ (fun _ => rR) (fun _ => none) (fun w => @Sum.rec _ _ (fun _ => rR) (fun w => @Prod.rec _ _ (fun _ => rR) (fun k q => @Prod.rec _ _ (fun _ => rR) (fun kv _ => @Bool.rec (fun _ => rR) (none) (@Bool.rec (fun _ => rR) (rN (rSp q.2 x 1 w) fun d => nx j L S (rPut h a (k, (q.1, d)))) (none) (Nat.ble q.1 x)) (ok k kv)) (rAt h w)) (rAt h a)) (fun _ => none) (w)) (v)) (fun _ => none) (i)) (fun _ => none) (w)) (o)) S) S) S
noncomputable def oCst (ok : Nat → Bool) (nx : rP) : rP := fun j L S h => @List.rec _ (fun _ => rR) none (fun o S _ => @Sum.rec _ _ (fun _ => rR) (fun _ => none) (fun w => @Sum.rec _ _ (fun _ => rR) (fun a => @Prod.rec _ _ (fun _ => rR) (fun k _ => @Bool.rec (fun _ => rR) (none) (nx j L (vR a :: S) h) (ok k)) (rAt h a)) (fun _ => none) (w)) (o)) S
noncomputable def rArg (n : Nat) : List rV → List rV → (List rV → List rV → rR) → rR := @Nat.rec (fun _ => List rV → List rV → (List rV → List rV → rR) → rR) (fun A S k => k A S) (fun _ ih A S k => @List.rec _ (fun _ => rR) none (fun v S _ => @Bool.rec (fun _ => rR) (ih (v :: A) S k) (ih (v :: vU :: A) S k) (rC2 v)) S) n
noncomputable def rSh (S : List rV) (k : rR) : rR := @List.rec _ (fun _ => rR) k (fun _ S1 _ => @List.rec _ (fun _ => rR) k (fun _ S2 _ => @List.rec _ (fun _ => rR) k (fun _ S3 _ => @List.rec _ (fun _ => rR) k (fun _ S4 _ => @List.rec _ (fun _ => rR) k (fun _ _ _ => none) S4) S3) S2) S1) S
noncomputable def rRet (r : rR) (k : Option rV → rH → rR) (x : Nat → rH → rR) : rR := @Option.rec _ (fun _ => rR) (none) (fun p => @Prod.rec _ _ (fun _ => rR) (fun o h => @Sum.rec _ _ (fun _ => rR) (fun v => k v h) (fun e => x e h) o) (p)) (r)
noncomputable def rAns (v : Option rV) (S : List rV) : List rV := @Option.rec _ (fun _ => List rV) S (fun w => w :: S) v
noncomputable def oCs (id n : Nat) (nx : rP) : rP := fun j L S h => rArg n [] S fun A S => rSh S (@Prod.rec _ _ (fun _ => rR) (fun _ jc => rRet (jc id A [] h) (fun v h => nx j L (rAns v S) h) (fun _ _ => none)) (j))
noncomputable def oCv (kd id n : Nat) (nx : rP) : rP := fun j L S h => rArg n [] S fun A S => @List.rec _ (fun _ => rR) none (fun o S _ => @Sum.rec _ _ (fun _ => rR) (fun _ => none) (fun w => @Sum.rec _ _ (fun _ => rR) (fun a => rSh S (@Prod.rec _ _ (fun _ => rR) (fun k _ => @Bool.rec (fun _ => rR) (none) (@Prod.rec _ _ (fun _ => rR) (fun _ jc => rRet (jc id (vR a :: A) [] h) (fun v h => nx j L (rAns v S) h) (fun _ _ => none)) (j)) (Nat.beq k kd)) (rAt h a))) (fun _ => none) (w)) (o)) S
noncomputable def rAlt (al : List (Nat × Nat)) (k : Nat) (f : Nat → rR) : rR := @List.rec _ (fun _ => rR) none (fun q _ ih => @Bool.rec (fun _ => rR) (ih) (f q.2) (Nat.beq k q.1)) al
noncomputable def oCp (al : List (Nat × Nat)) (n : Nat) (nx : rP) : rP := fun j L S h => rArg n [] S fun A S => @List.rec _ (fun _ => rR) none (fun o S _ => @Sum.rec _ _ (fun _ => rR) (fun _ => none) (fun w => @Sum.rec _ _ (fun _ => rR) (fun a => rSh S (@Prod.rec _ _ (fun _ => rR) (fun k _ => rAlt al k fun id => @Prod.rec _ _ (fun _ => rR) (fun _ jc => rRet (jc id (vR a :: A) [] h) (fun v h => nx j L (rAns v S) h) (fun _ _ => none)) (j)) (rAt h a))) (fun _ => none) (w)) (o)) S
noncomputable def oCi (id n : Nat) (nx : rP) : rP := fun j L S h => rArg n [] S fun A S => @List.rec _ (fun _ => rR) none (fun o S _ => @Sum.rec _ _ (fun _ => rR) (fun _ => none) (fun w => @Sum.rec _ _ (fun _ => rR) (fun a => rSh S (@Bool.rec (fun _ => rR) (@Prod.rec _ _ (fun _ => rR) (fun _ jc => rRet (jc id (vR a :: A) [] h) (fun v h => nx j L (rAns v S) h) (fun _ _ => none)) (j)) (none) (Nat.beq a 0))) (fun _ => none) (w)) (o)) S
noncomputable def oOi (nx : rP) : rP := fun j L S h => @List.rec _ (fun _ => rR) none (fun o S _ => @Sum.rec _ _ (fun _ => rR) (fun _ => none) (fun w => @Sum.rec _ _ (fun _ => rR) (fun a => rSh S (@Bool.rec (fun _ => rR) (nx j L S h) (none) (Nat.beq a 0))) (fun _ => none) (w)) (o)) S
noncomputable def rCat (h : rH) (k : Nat → rH → rR) : rR := @Prod.rec _ _ (fun _ => rR) (fun t r => @Prod.rec _ _ (fun _ => rR) (fun n r => @Bool.rec (fun _ => rR) (none) (k n (t, (Nat.succ n, r))) (Nat.ble n 510)) (r)) (h)
noncomputable def oCh (kd id n : Nat) (ex : Nat → rP) (nx : rP) : rP := fun j L S h => rArg n [] S fun A S => @List.rec _ (fun _ => rR) none (fun o S _ => @Sum.rec _ _ (fun _ => rR) (fun _ => none) (fun w => @Sum.rec _ _ (fun _ => rR) (fun a => rSh S (@Prod.rec _ _ (fun _ => rR) (fun k _ => @Bool.rec (fun _ => rR) (none) (@Prod.rec _ _ (fun _ => rR) (fun _ jc => rRet (jc id (vR a :: A) [] h) (fun v h => nx j L (rAns v S) h) (fun e h => rCat h fun q h => ex e j L [vR q] h)) (j)) (Nat.beq k kd)) (rAt h a))) (fun _ => none) (w)) (o)) S
noncomputable def oThr (e : Nat) : rP := fun j L S h => @Prod.rec _ _ (fun _ => rR) (fun t r => @Prod.rec _ _ (fun _ => rR) (fun n r => @Prod.rec _ _ (fun _ => rR) (fun cs r => @Prod.rec _ _ (fun _ => rR) (fun sl sc => some (.inr e, (t, (n, (Nat.succ cs, (Nat.add sl 6, sc)))))) (r)) (r)) (r)) (h)
noncomputable def rEnd (S : List rV) (k : rR) : rR := @List.rec _ (fun _ => rR) k (fun _ _ _ => none) S
noncomputable def oRi (lim : Nat) : rP := fun j L S h => @List.rec _ (fun _ => rR) none (fun v S _ => rEnd S (@Sum.rec _ _ (fun _ => rR) (fun x => @Bool.rec (fun _ => rR) (some (.inl (some (vI x)), h)) (none) (Nat.ble lim x)) (fun _ => none) (v))) S
noncomputable def oRl : rP := fun j L S h => @List.rec _ (fun _ => rR) none (fun v S _ => rEnd S (@Sum.rec _ _ (fun _ => rR) (fun _ => none) (fun w => @Sum.rec _ _ (fun _ => rR) (fun _ => none) (fun w => @Sum.rec _ _ (fun _ => rR) (fun x => some (.inl (some (vL x)), h)) (fun _ => none) (w)) (w)) (v))) S
noncomputable def oRa : rP := fun j L S h => @List.rec _ (fun _ => rR) none (fun v S _ => rEnd S (@Sum.rec _ _ (fun _ => rR) (fun _ => none) (fun w => @Sum.rec _ _ (fun _ => rR) (fun x => some (.inl (some (vR x)), h)) (fun _ => none) (w)) (v))) S
noncomputable def oRd : rP := fun j L S h => @List.rec _ (fun _ => rR) none (fun v S _ => rEnd S (@Sum.rec _ _ (fun _ => rR) (fun _ => none) (fun w => @Sum.rec _ _ (fun _ => rR) (fun _ => none) (fun w => @Sum.rec _ _ (fun _ => rR) (fun _ => none) (fun w => @Prod.rec _ _ (fun _ => rR) (fun a b => @Bool.rec (fun _ => rR) (none) (some (.inl (some (vX a b)), h)) (Nat.beq a 17179869184)) (w)) (w)) (w)) (v))) S
noncomputable def oRv : rP := fun j L S h => rEnd S (some (.inl none, h))
noncomputable def oCpy (nx : rP) : rP := fun j L S h => @List.rec _ (fun _ => rR) none (fun n S _ => @List.rec _ (fun _ => rR) none (fun q S _ => @List.rec _ (fun _ => rR) none (fun d S _ => @List.rec _ (fun _ => rR) none (fun p S _ => @List.rec _ (fun _ => rR) none (fun s S _ => @Sum.rec _ _ (fun _ => rR) (fun n => @Sum.rec _ _ (fun _ => rR) (fun q => @Sum.rec _ _ (fun _ => rR) (fun _ => none) (fun w => @Sum.rec _ _ (fun _ => rR) (fun d => @Sum.rec _ _ (fun _ => rR) (fun p => @Sum.rec _ _ (fun _ => rR) (fun _ => none) (fun w => @Sum.rec _ _ (fun _ => rR) (fun s => rSh S (@Bool.rec (fun _ => rR) (@Prod.rec _ _ (fun _ => rR) (fun k u => @Bool.rec (fun _ => rR) (none) (@Bool.rec (fun _ => rR) (none) (@Prod.rec _ _ (fun _ => rR) (fun k2 u2 => @Bool.rec (fun _ => rR) (none) (@Bool.rec (fun _ => rR) (none) (rN (rSp u2.2 q n (Nat.mod (Nat.shiftRight u.2 (Nat.mul 64 p)) (Nat.pow 2 (Nat.mul 64 n)))) fun e => nx j L S (rPut h d (k2, (u2.1, e)))) (Nat.ble (Nat.add q n) u2.1)) (Nat.beq k2 1)) (rAt h d)) (Nat.ble (Nat.add p n) u.1)) (Nat.beq k 1)) (rAt h s)) (none) (Nat.beq s d))) (fun _ => none) (w)) (s)) (fun _ => none) (p)) (fun _ => none) (w)) (d)) (fun _ => none) (q)) (fun _ => none) (n)) S) S) S) S) S
noncomputable def rLp (tb : Nat → Unit × rP) (jc : rJ) (n : Nat) : rJ := @Nat.rec (fun _ => rJ) (fun _ _ _ _ => none) (fun _ ih id L S h => @Prod.rec _ _ (fun _ => rR) (fun _ c => c (ih, jc) L S h) (tb id)) n
noncomputable def rMc (tb : Nat → Unit × rP) (f d : Nat) : rJ := @Nat.rec (fun _ => rJ) (fun _ _ _ _ => none) (fun _ ih => rLp tb ih f) d
noncomputable def aT (_ _ : Nat) : Bool := true
end
section
-- ===== what an instruction's outcome says of its start =====
theorem iB {α : Type} {b : Bool} {f t : Option α} {r : α} (h : @Bool.rec (fun _ => Option α) f t b = some r) : (b = true ∧ t = some r) ∨ (b = false ∧ f = some r) := by
  cases b
  · exact Or.inr ⟨rfl, h⟩
  · exact Or.inl ⟨rfl, h⟩
theorem iBt {α : Type} {b : Bool} {t : Option α} {r : α} (h : @Bool.rec (fun _ => Option α) none t b = some r) : b = true ∧ t = some r := by
  cases b
  · cases h
  · exact ⟨rfl, h⟩
theorem iBf {α : Type} {b : Bool} {f : Option α} {r : α} (h : @Bool.rec (fun _ => Option α) f none b = some r) : b = false ∧ f = some r := by
  cases b
  · exact ⟨rfl, h⟩
  · cases h
theorem iP {S : List rV} {r : rO × rH} {k : rV → List rV → rR → rR} (h : @List.rec rV (fun _ => rR) none k S = some r) : ∃ v S', S = v :: S' ∧ k v S' (@List.rec rV (fun _ => rR) none k S') = some r := by
  cases S with
  | nil => cases h
  | cons v S' => exact ⟨v, S', rfl, h⟩
theorem iI {v : rV} {r : rO × rH} {k : Nat → rR} (h : @Sum.rec _ _ (fun _ => rR) k (fun _ => none) v = some r) : ∃ n, v = vI n ∧ k n = some r := by
  cases v with
  | inl n => exact ⟨n, rfl, h⟩
  | inr w => cases h
theorem iS {v : rV} {r : rO × rH} {k : Nat → rR} {g : Nat ⊕ (Nat ⊕ (Nat × Nat)) → rR} (h : @Sum.rec _ _ (fun _ => rR) k g v = some r) : (∃ n, v = vI n ∧ k n = some r) ∨ ∃ w, v = .inr w ∧ g w = some r := by
  cases v with
  | inl n => exact Or.inl ⟨n, rfl, h⟩
  | inr w => exact Or.inr ⟨w, rfl, h⟩
theorem iA {v : rV} {r : rO × rH} {k : Nat → rR} (h : @Sum.rec _ _ (fun _ => rR) (fun _ => none) (fun w => @Sum.rec _ _ (fun _ => rR) k (fun _ => none) w) v = some r) : ∃ n, v = vR n ∧ k n = some r := by
  rcases v with n | n | w
  · cases h
  · exact ⟨n, rfl, h⟩
  · cases h
theorem iL {v : rV} {r : rO × rH} {k : Nat → rR} (h : @Sum.rec _ _ (fun _ => rR) (fun _ => none) (fun w => @Sum.rec _ _ (fun _ => rR) (fun _ => none) (fun w => @Sum.rec _ _ (fun _ => rR) k (fun _ => none) w) w) v = some r) : ∃ n, v = vL n ∧ k n = some r := by
  rcases v with n | n | n | w
  · cases h
  · cases h
  · exact ⟨n, rfl, h⟩
  · cases h
theorem iX {v : rV} {r : rO × rH} {k : Nat → Nat → rR} (h : @Sum.rec _ _ (fun _ => rR) (fun _ => none) (fun w => @Sum.rec _ _ (fun _ => rR) (fun _ => none) (fun w => @Sum.rec _ _ (fun _ => rR) (fun _ => none) (fun w => @Prod.rec _ _ (fun _ => rR) k w) w) w) v = some r) : ∃ a b, v = vX a b ∧ k a b = some r := by
  rcases v with n | n | n | ⟨a, b⟩
  · cases h
  · cases h
  · cases h
  · exact ⟨a, b, rfl, h⟩
theorem iX1 {w : Nat ⊕ (Nat ⊕ (Nat × Nat))} {r : rO × rH} {k : Nat → Nat → rR} (h : @Sum.rec _ _ (fun _ => rR) (fun _ => none) (fun w => @Sum.rec _ _ (fun _ => rR) (fun _ => none) (fun w => @Prod.rec _ _ (fun _ => rR) k w) w) w = some r) : ∃ a b, (.inr w : rV) = vX a b ∧ k a b = some r := by
  rcases w with n | n | ⟨a, b⟩
  · cases h
  · cases h
  · exact ⟨a, b, rfl, h⟩
theorem iC {c : rC} {r : rO × rH} {k : Nat → Nat × Nat → rR} (h : @Prod.rec _ _ (fun _ => rR) k c = some r) : k c.1 c.2 = some r := h
theorem iN {n : Nat} {r : rO × rH} {k : Nat → rR} (h : rN n k = some r) : k n = some r := by
  cases n with
  | zero => exact h
  | succ m => exact h
theorem iO {α : Type} {o : Option α} {r : rO × rH} {k : α → rR} (h : @Option.rec _ (fun _ => rR) none k o = some r) : ∃ v, o = some v ∧ k v = some r := by
  cases o with
  | none => cases h
  | some v => exact ⟨v, rfl, h⟩
theorem bq {a b : Nat} (h : Nat.beq a b = true) : a = b := Nat.eq_of_beq_eq_true h
theorem bqf {a b : Nat} (h : Nat.beq a b = false) : a ≠ b := Nat.ne_of_beq_eq_false h
theorem bl {a b : Nat} (h : Nat.ble a b = true) : a ≤ b := Nat.le_of_ble_eq_true h
theorem blf {a b : Nat} (h : Nat.ble a b = false) : b < a := Nat.not_le.mp (fun q => by rw [Nat.ble_eq_true_of_le q] at h; cases h)
-- ===== places of a number =====
theorem rPl_lt (d p : Nat) : rPl d p < 18446744073709551616 := Nat.mod_lt _ (by decide)
theorem rPl_bit (d p k : Nat) : (rPl d p).testBit k = (decide (k < 64) && d.testBit (64 * p + k)) := by
  show ((d >>> (64 * p)) % 2 ^ 64).testBit k = _
  rw [Nat.testBit_mod_two_pow, Nat.testBit_shiftRight]
theorem rSp_bit (d p m s k : Nat) (hs : s < 2 ^ (64 * m)) : (rSp d p m s).testBit k = if 64 * p ≤ k ∧ k < 64 * p + 64 * m then s.testBit (k - 64 * p) else d.testBit k := by
  show (d ^^^ ((((d >>> (64 * p)) % 2 ^ (64 * m)) ^^^ s) <<< (64 * p))).testBit k = _
  rw [Nat.testBit_xor, Nat.testBit_shiftLeft, Nat.testBit_xor, Nat.testBit_mod_two_pow, Nat.testBit_shiftRight]
  by_cases h1 : 64 * p ≤ k
  · by_cases h2 : k < 64 * p + 64 * m
    · rw [if_pos ⟨h1, h2⟩, show 64 * p + (k - 64 * p) = k by omega, decide_eq_true (show k ≥ 64 * p from h1), decide_eq_true (show k - 64 * p < 64 * m by omega)]
      cases d.testBit k <;> cases s.testBit (k - 64 * p) <;> rfl
    · have hz : s.testBit (k - 64 * p) = false := Nat.testBit_lt_two_pow (Nat.lt_of_lt_of_le hs (Nat.pow_le_pow_right (by decide) (by omega)))
      rw [if_neg (fun q => h2 q.2), hz, decide_eq_false (show ¬ k - 64 * p < 64 * m by omega)]
      cases d.testBit k <;> cases (decide (k ≥ 64 * p)) <;> rfl
  · rw [if_neg (fun q => h1 q.1), decide_eq_false (show ¬ k ≥ 64 * p from h1)]
    cases d.testBit k <;> rfl
theorem rPl_rSp (d p m s q : Nat) (hs : s < 2 ^ (64 * m)) : rPl (rSp d p m s) q = if p ≤ q ∧ q < p + m then rPl s (q - p) else rPl d q := by
  apply Nat.eq_of_testBit_eq
  intro k
  rw [rPl_bit]
  by_cases hk : k < 64
  · rw [rSp_bit _ _ _ _ _ hs]
    by_cases h : p ≤ q ∧ q < p + m
    · rw [if_pos h, if_pos (by omega), rPl_bit, show 64 * q + k - 64 * p = 64 * (q - p) + k by omega]
    · rw [if_neg h, if_neg (by omega), rPl_bit]
  · rw [decide_eq_false hk]
    split <;> (rw [rPl_bit, decide_eq_false hk]; simp)
theorem rPl_0 (q : Nat) : rPl 0 q = 0 := by
  apply Nat.eq_of_testBit_eq
  intro k
  rw [rPl_bit, Nat.zero_testBit]
  simp
theorem rPl_self {s : Nat} (hs : s < 18446744073709551616) : rPl s 0 = s := by
  apply Nat.eq_of_testBit_eq
  intro k
  rw [rPl_bit, show 64 * 0 + k = k by omega]
  by_cases hk : k < 64
  · rw [decide_eq_true hk]; rfl
  · rw [decide_eq_false hk, Nat.testBit_lt_two_pow (Nat.lt_of_lt_of_le (show s < 2 ^ 64 from hs) (Nat.pow_le_pow_right (by decide) (by omega)))]
    rfl
theorem rPl_put (d p s q : Nat) (hs : s < 18446744073709551616) : rPl (rSp d p 1 s) q = if q = p then s else rPl d q := by
  rw [rPl_rSp _ _ _ _ _ (show s < 2 ^ (64 * 1) from hs)]
  by_cases h : q = p
  · subst h
    rw [if_pos (by omega), if_pos rfl, Nat.sub_self, rPl_self hs]
  · rw [if_neg (by omega), if_neg h]
theorem rPl_cut (d p n q : Nat) (hq : q < n) : rPl (Nat.mod (Nat.shiftRight d (Nat.mul 64 p)) (Nat.pow 2 (Nat.mul 64 n))) q = rPl d (p + q) := by
  apply Nat.eq_of_testBit_eq
  intro k
  rw [rPl_bit, rPl_bit]
  by_cases hk : k < 64
  · show (_ && (((d >>> (64 * p)) % 2 ^ (64 * n)).testBit (64 * q + k))) = _
    rw [Nat.testBit_mod_two_pow, Nat.testBit_shiftRight, decide_eq_true (show 64 * q + k < 64 * n by omega), show 64 * p + (64 * q + k) = 64 * (p + q) + k by omega]
    rfl
  · rw [decide_eq_false hk]; rfl
-- ===== locals =====
theorem rDj_U : rDj vU = vU := rfl
def gOk (i : Nat) (g : List rV → rV) : Prop := ∀ L, g L = L.getD i vU
theorem gOk_s {i : Nat} {g g' : List rV → rV} (h : gOk i g) (e : ∀ L, g' L = @List.rec rV (fun _ => rV) vU (fun _ r _ => g r) L) : gOk (i + 1) g' := by
  intro L
  rw [e]
  cases L with
  | nil => rfl
  | cons x r => exact h r
def sOk (i : Nat) (s : rV → List rV → List rV) : Prop := ∀ v L j, (s v L).getD j vU = if j = i then v else if j + 1 = i then rDj (L.getD j vU) else L.getD j vU
def dOk (i : Nat) (s : rV → List rV → List rV) : Prop := ∀ v L j, (s v L).getD j vU = if j = i then v else if j = i + 1 then vU else if j + 1 = i then rDj (L.getD j vU) else L.getD j vU
theorem sOk_1 {s s' : rV → List rV → List rV} (h : sOk 0 s) (e : ∀ v L, s' v L = @List.rec rV (fun _ => List rV) (vU :: s v []) (fun x r _ => rDj x :: s v r) L) : sOk 1 s' := by
  intro v L j
  rw [e]
  cases L with
  | nil =>
    cases j with
    | zero => rfl
    | succ j => have := h v [] j; simp at this ⊢; exact this
  | cons x r =>
    cases j with
    | zero => rfl
    | succ j => have := h v r j; simp at this ⊢; exact this
theorem sOk_s {i : Nat} {s s' : rV → List rV → List rV} (h : sOk (i + 1) s) (e : ∀ v L, s' v L = @List.rec rV (fun _ => List rV) (vU :: s v []) (fun x r _ => x :: s v r) L) : sOk (i + 2) s' := by
  intro v L j
  rw [e]
  cases L with
  | nil =>
    cases j with
    | zero => rfl
    | succ j => have := h v [] j; simp at this ⊢; exact this
  | cons x r =>
    cases j with
    | zero => rfl
    | succ j => have := h v r j; simp at this ⊢; exact this
theorem dOk_1 {s s' : rV → List rV → List rV} (h : dOk 0 s) (e : ∀ v L, s' v L = @List.rec rV (fun _ => List rV) (vU :: s v []) (fun x r _ => rDj x :: s v r) L) : dOk 1 s' := by
  intro v L j
  rw [e]
  cases L with
  | nil =>
    cases j with
    | zero => rfl
    | succ j => have := h v [] j; simp at this ⊢; exact this
  | cons x r =>
    cases j with
    | zero => rfl
    | succ j => have := h v r j; simp at this ⊢; exact this
theorem dOk_s {i : Nat} {s s' : rV → List rV → List rV} (h : dOk (i + 1) s) (e : ∀ v L, s' v L = @List.rec rV (fun _ => List rV) (vU :: s v []) (fun x r _ => x :: s v r) L) : dOk (i + 2) s' := by
  intro v L j
  rw [e]
  cases L with
  | nil =>
    cases j with
    | zero => rfl
    | succ j => have := h v [] j; simp at this ⊢; exact this
  | cons x r =>
    cases j with
    | zero => rfl
    | succ j => have := h v r j; simp at this ⊢; exact this
theorem gk0 : gOk 0 nG0 := by
  intro L
  cases L <;> rfl
theorem sk0 : sOk 0 nS0 := by
  intro v L j
  cases L <;> cases j <;> simp [nS0]
theorem dk0 : dOk 0 nD0 := by
  intro v L j
  cases L with
  | nil =>
    rcases j with _ | _ | j <;> simp [nD0]
  | cons x r =>
    cases r with
    | nil => rcases j with _ | _ | j <;> simp [nD0, nS0]
    | cons y r => rcases j with _ | _ | j <;> simp [nD0, nS0]
theorem gk1 : gOk 1 nG1 := gOk_s gk0 (fun _ => rfl)
theorem sk1 : sOk 1 nS1 := sOk_1 sk0 (fun _ _ => rfl)
theorem dk1 : dOk 1 nD1 := dOk_1 dk0 (fun _ _ => rfl)
theorem gk2 : gOk 2 nG2 := gOk_s gk1 (fun _ => rfl)
theorem sk2 : sOk 2 nS2 := sOk_s sk1 (fun _ _ => rfl)
theorem dk2 : dOk 2 nD2 := dOk_s dk1 (fun _ _ => rfl)
theorem gk3 : gOk 3 nG3 := gOk_s gk2 (fun _ => rfl)
theorem sk3 : sOk 3 nS3 := sOk_s sk2 (fun _ _ => rfl)
theorem dk3 : dOk 3 nD3 := dOk_s dk2 (fun _ _ => rfl)
theorem gk4 : gOk 4 nG4 := gOk_s gk3 (fun _ => rfl)
theorem sk4 : sOk 4 nS4 := sOk_s sk3 (fun _ _ => rfl)
theorem dk4 : dOk 4 nD4 := dOk_s dk3 (fun _ _ => rfl)
theorem gk5 : gOk 5 nG5 := gOk_s gk4 (fun _ => rfl)
theorem sk5 : sOk 5 nS5 := sOk_s sk4 (fun _ _ => rfl)
theorem dk5 : dOk 5 nD5 := dOk_s dk4 (fun _ _ => rfl)
theorem gk6 : gOk 6 nG6 := gOk_s gk5 (fun _ => rfl)
theorem sk6 : sOk 6 nS6 := sOk_s sk5 (fun _ _ => rfl)
theorem dk6 : dOk 6 nD6 := dOk_s dk5 (fun _ _ => rfl)
theorem gk7 : gOk 7 nG7 := gOk_s gk6 (fun _ => rfl)
theorem sk7 : sOk 7 nS7 := sOk_s sk6 (fun _ _ => rfl)
theorem dk7 : dOk 7 nD7 := dOk_s dk6 (fun _ _ => rfl)
theorem gk8 : gOk 8 nG8 := gOk_s gk7 (fun _ => rfl)
theorem sk8 : sOk 8 nS8 := sOk_s sk7 (fun _ _ => rfl)
theorem dk8 : dOk 8 nD8 := dOk_s dk7 (fun _ _ => rfl)
theorem gk9 : gOk 9 nG9 := gOk_s gk8 (fun _ => rfl)
theorem sk9 : sOk 9 nS9 := sOk_s sk8 (fun _ _ => rfl)
theorem dk9 : dOk 9 nD9 := dOk_s dk8 (fun _ _ => rfl)
theorem gk10 : gOk 10 nG10 := gOk_s gk9 (fun _ => rfl)
theorem sk10 : sOk 10 nS10 := sOk_s sk9 (fun _ _ => rfl)
theorem dk10 : dOk 10 nD10 := dOk_s dk9 (fun _ _ => rfl)
theorem gk11 : gOk 11 nG11 := gOk_s gk10 (fun _ => rfl)
theorem sk11 : sOk 11 nS11 := sOk_s sk10 (fun _ _ => rfl)
theorem dk11 : dOk 11 nD11 := dOk_s dk10 (fun _ _ => rfl)
theorem gk12 : gOk 12 nG12 := gOk_s gk11 (fun _ => rfl)
theorem sk12 : sOk 12 nS12 := sOk_s sk11 (fun _ _ => rfl)
theorem dk12 : dOk 12 nD12 := dOk_s dk11 (fun _ _ => rfl)
theorem gk13 : gOk 13 nG13 := gOk_s gk12 (fun _ => rfl)
theorem sk13 : sOk 13 nS13 := sOk_s sk12 (fun _ _ => rfl)
theorem dk13 : dOk 13 nD13 := dOk_s dk12 (fun _ _ => rfl)
theorem gk14 : gOk 14 nG14 := gOk_s gk13 (fun _ => rfl)
theorem sk14 : sOk 14 nS14 := sOk_s sk13 (fun _ _ => rfl)
theorem dk14 : dOk 14 nD14 := dOk_s dk13 (fun _ _ => rfl)
theorem gk15 : gOk 15 nG15 := gOk_s gk14 (fun _ => rfl)
theorem sk15 : sOk 15 nS15 := sOk_s sk14 (fun _ _ => rfl)
theorem dk15 : dOk 15 nD15 := dOk_s dk14 (fun _ _ => rfl)
theorem gk16 : gOk 16 nG16 := gOk_s gk15 (fun _ => rfl)
theorem sk16 : sOk 16 nS16 := sOk_s sk15 (fun _ _ => rfl)
theorem dk16 : dOk 16 nD16 := dOk_s dk15 (fun _ _ => rfl)
-- ===== the tree =====
theorem land_pow (i d : Nat) : Nat.beq (Nat.land i (2 ^ d)) 0 = !(i.testBit d) := by
  have e : Nat.land i (2 ^ d) = i &&& 2 ^ d := rfl
  rw [e]
  cases h : i.testBit d with
  | true =>
    have : (i &&& 2 ^ d).testBit d = true := by rw [Nat.testBit_and, h, Nat.testBit_two_pow_self]; rfl
    cases hz : Nat.beq (i &&& 2 ^ d) 0 with
    | false => rfl
    | true =>
      rw [Nat.eq_of_beq_eq_true hz, Nat.zero_testBit] at this
      cases this
  | false =>
    have : i &&& 2 ^ d = 0 := by
      apply Nat.eq_of_testBit_eq
      intro k
      rw [Nat.testBit_and, Nat.testBit_two_pow, Nat.zero_testBit]
      by_cases hk : d = k
      · subst hk; rw [h]; rfl
      · rw [decide_eq_false hk]; simp
    rw [this]; rfl
def tAg (d a b : Nat) : Prop := ∀ i, i < d → a.testBit i = b.testBit i
theorem tAg_s {d a b : Nat} : tAg (d + 1) a b ↔ tAg d a b ∧ a.testBit d = b.testBit d := by
  refine ⟨fun h => ⟨fun i hi => h i (by omega), h d (by omega)⟩, fun h i hi => ?_⟩
  by_cases e : i = d
  · subst e; exact h.2
  · exact h.1 i (by omega)
def tOk (d : Nat) (g : rT d → Nat → rC) (s : rT d → Nat → rC → rT d) : Prop := (∀ t a b c, tAg d a b → g (s t a c) b = c) ∧ (∀ t a b c, ¬ tAg d a b → g (s t a c) b = g t b) ∧ ∀ t a b, tAg d a b → g t a = g t b
def rMk {d : Nat} (x y : rT d) : rT (d + 1) := (x, y)
theorem rMk_all {d : Nat} (t : rT (d + 1)) : ∃ x y : rT d, t = rMk x y := ⟨t.1, t.2, rfl⟩
theorem tOk_s {d : Nat} {g : rT d → Nat → rC} {s : rT d → Nat → rC → rT d} {g' : rT (d + 1) → Nat → rC} {s' : rT (d + 1) → Nat → rC → rT (d + 1)} (h : tOk d g s)
    (eg : ∀ (x y : rT d) i, g' (rMk x y) i = @Bool.rec (fun _ => rC) (g y i) (g x i) (Nat.beq (Nat.land i (2 ^ d)) 0))
    (es : ∀ (x y : rT d) i c, s' (rMk x y) i c = @Bool.rec (fun _ => rT (d + 1)) (rMk x (s y i c)) (rMk (s x i c) y) (Nat.beq (Nat.land i (2 ^ d)) 0)) : tOk (d + 1) g' s' := by
  obtain ⟨h1, h2, h3⟩ := h
  refine ⟨fun t a b c hab => ?_, fun t a b c hab => ?_, fun t a b hab => ?_⟩
  · obtain ⟨x, y, rfl⟩ := rMk_all t
    obtain ⟨ha, hb⟩ := tAg_s.mp hab
    rw [es, land_pow]
    cases ht : a.testBit d with
    | true => rw [show (!true) = false from rfl]; show g' (rMk x (s y a c)) b = c; rw [eg, land_pow, ← hb, ht]; exact h1 y a b c ha
    | false => rw [show (!false) = true from rfl]; show g' (rMk (s x a c) y) b = c; rw [eg, land_pow, ← hb, ht]; exact h1 x a b c ha
  · obtain ⟨x, y, rfl⟩ := rMk_all t
    rw [es, land_pow]
    cases ht : a.testBit d with
    | true =>
      rw [show (!true) = false from rfl]
      show g' (rMk x (s y a c)) b = g' (rMk x y) b
      rw [eg, eg, land_pow]
      cases hb : b.testBit d with
      | true => exact h2 y a b c (fun q => hab (tAg_s.mpr ⟨q, by rw [ht, hb]⟩))
      | false => rfl
    | false =>
      rw [show (!false) = true from rfl]
      show g' (rMk (s x a c) y) b = g' (rMk x y) b
      rw [eg, eg, land_pow]
      cases hb : b.testBit d with
      | true => rfl
      | false => exact h2 x a b c (fun q => hab (tAg_s.mpr ⟨q, by rw [ht, hb]⟩))
  · obtain ⟨x, y, rfl⟩ := rMk_all t
    obtain ⟨ha, hb⟩ := tAg_s.mp hab
    rw [eg, eg, land_pow, land_pow, ← hb]
    cases a.testBit d with
    | true => exact h3 y a b ha
    | false => exact h3 x a b ha
theorem tk0 : tOk 0 tG0 tS0 := ⟨fun _ _ _ _ _ => rfl, fun _ _ _ _ h => absurd (fun i hi => absurd hi (Nat.not_lt_zero i)) h, fun _ _ _ _ => rfl⟩
theorem tk1 : tOk 1 tG1 tS1 := tOk_s tk0 (fun _ _ _ => rfl) (fun _ _ _ _ => rfl)
theorem tk2 : tOk 2 tG2 tS2 := tOk_s tk1 (fun _ _ _ => rfl) (fun _ _ _ _ => rfl)
theorem tk3 : tOk 3 tG3 tS3 := tOk_s tk2 (fun _ _ _ => rfl) (fun _ _ _ _ => rfl)
theorem tk4 : tOk 4 tG4 tS4 := tOk_s tk3 (fun _ _ _ => rfl) (fun _ _ _ _ => rfl)
theorem tk5 : tOk 5 tG5 tS5 := tOk_s tk4 (fun _ _ _ => rfl) (fun _ _ _ _ => rfl)
theorem tk6 : tOk 6 tG6 tS6 := tOk_s tk5 (fun _ _ _ => rfl) (fun _ _ _ _ => rfl)
theorem tk7 : tOk 7 tG7 tS7 := tOk_s tk6 (fun _ _ _ => rfl) (fun _ _ _ _ => rfl)
theorem tk8 : tOk 8 tG8 tS8 := tOk_s tk7 (fun _ _ _ => rfl) (fun _ _ _ _ => rfl)
theorem tk9 : tOk 9 tG9 tS9 := tOk_s tk8 (fun _ _ _ => rfl) (fun _ _ _ _ => rfl)
theorem tAg9 {a b : Nat} (ha : a < 512) (hb : b < 512) : tAg 9 a b ↔ a = b := by
  refine ⟨fun h => Nat.eq_of_testBit_eq fun i => ?_, fun h => by subst h; exact fun _ _ => rfl⟩
  by_cases hi : i < 9
  · exact h i hi
  · rw [Nat.testBit_lt_two_pow (Nat.lt_of_lt_of_le (show a < 2 ^ 9 from ha) (Nat.pow_le_pow_right (by decide) (by omega))), Nat.testBit_lt_two_pow (Nat.lt_of_lt_of_le (show b < 2 ^ 9 from hb) (Nat.pow_le_pow_right (by decide) (by omega)))]
theorem tSet_eq (t : rT 9) (a : Nat) (c : rC) : tG9 (tS9 t a c) a = c := tk9.1 t a a c (fun _ _ => rfl)
theorem tSet_ne (t : rT 9) {a b : Nat} (c : rC) (ha : a < 512) (hb : b < 512) (h : a ≠ b) : tG9 (tS9 t a c) b = tG9 t b := tk9.2.1 t a b c (fun q => h ((tAg9 ha hb).mp q))
theorem tGet_e1 (t : rT 9) : tG9 t 8192 = tG9 t 0 := tk9.2.2 t 8192 0 (fun i hi => by
  rcases (by omega : i = 0 ∨ i = 1 ∨ i = 2 ∨ i = 3 ∨ i = 4 ∨ i = 5 ∨ i = 6 ∨ i = 7 ∨ i = 8) with rfl | rfl | rfl | rfl | rfl | rfl | rfl | rfl | rfl <;> decide)
theorem tGet_e2 (t : rT 9) : tG9 t 16384 = tG9 t 0 := tk9.2.2 t 16384 0 (fun i hi => by
  rcases (by omega : i = 0 ∨ i = 1 ∨ i = 2 ∨ i = 3 ∨ i = 4 ∨ i = 5 ∨ i = 6 ∨ i = 7 ∨ i = 8) with rfl | rfl | rfl | rfl | rfl | rfl | rfl | rfl | rfl <;> decide)
end
section
-- ===== ints and longs as numbers =====
theorem nI_bv (n : Nat) : (nI n).toBitVec = BitVec.ofNat 32 n := rfl
theorem nI_bvn {n : Nat} (h : n < 4294967296) : (nI n).toBitVec.toNat = n := by
  rw [nI_bv, BitVec.toNat_ofNat]; exact Nat.mod_eq_of_lt h
theorem nI_mod (n : Nat) : nI (n % 4294967296) = nI n := by
  apply Int32.toBitVec_inj.mp
  rw [nI_bv, nI_bv]
  apply BitVec.eq_of_toNat_eq
  rw [BitVec.toNat_ofNat, BitVec.toNat_ofNat]
  exact Nat.mod_mod _ _
theorem nI_all (x : Int32) : ∃ n, n < 4294967296 ∧ x = nI n := ⟨x.toBitVec.toNat, x.toBitVec.isLt, by
  apply Int32.toBitVec_inj.mp
  rw [nI_bv]
  apply BitVec.eq_of_toNat_eq
  rw [BitVec.toNat_ofNat]
  exact (Nat.mod_eq_of_lt x.toBitVec.isLt).symm⟩
theorem nI_ti {n : Nat} (h : n < 4294967296) : (nI n).toInt = if n < 2147483648 then (n : Int) else (n : Int) - 4294967296 := by
  show (nI n).toBitVec.toInt = _
  rw [BitVec.toInt_eq_toNat_cond, nI_bvn h]
  by_cases hh : n < 2147483648
  · rw [if_pos hh, if_pos (by omega)]
  · rw [if_neg hh, if_neg (by omega)]; omega
theorem nI_inj {a b : Nat} (ha : a < 4294967296) (hb : b < 4294967296) : nI a = nI b ↔ a = b := by
  refine ⟨fun h => ?_, fun h => by rw [h]⟩
  have := congrArg (fun z : Int32 => z.toBitVec.toNat) h
  simp only [nI_bvn ha, nI_bvn hb] at this
  exact this
theorem m_add (x y : Nat) : nI x + nI y = nI (fAdd x y) := by
  rw [nI_add]; exact (nI_mod _).symm
theorem m_mul (x y : Nat) : nI x * nI y = nI (fMul x y) := by
  rw [pk_mul]; exact (nI_mod _).symm
theorem m_sub {x y : Nat} (hx : x < 4294967296) (hy : y < 4294967296) : nI x - nI y = nI (fSub x y) := by
  apply Int32.toBitVec_inj.mp
  rw [Int32.toBitVec_sub]
  apply BitVec.eq_of_toNat_eq
  rw [BitVec.toNat_sub, nI_bvn hx, nI_bvn hy]
  show _ = (nI ((x + (4294967296 - y)) % 4294967296)).toBitVec.toNat
  rw [nI_bvn (Nat.mod_lt _ (by decide)), Nat.add_comm x]
theorem m_and {x y : Nat} : nI x &&& nI y = nI (fAnd x y) := by
  apply Int32.toBitVec_inj.mp
  rw [Int32.toBitVec_and]
  apply BitVec.eq_of_toNat_eq
  show (BitVec.ofNat 32 x &&& BitVec.ofNat 32 y).toNat = (BitVec.ofNat 32 (x &&& y)).toNat
  rw [BitVec.toNat_and, BitVec.toNat_ofNat, BitVec.toNat_ofNat, BitVec.toNat_ofNat, Nat.and_mod_two_pow]
theorem m_or {x y : Nat} : nI x ||| nI y = nI (fOr x y) := by
  apply Int32.toBitVec_inj.mp
  rw [Int32.toBitVec_or]
  apply BitVec.eq_of_toNat_eq
  show (BitVec.ofNat 32 x ||| BitVec.ofNat 32 y).toNat = (BitVec.ofNat 32 (x ||| y)).toNat
  rw [BitVec.toNat_or, BitVec.toNat_ofNat, BitVec.toNat_ofNat, BitVec.toNat_ofNat, Nat.or_mod_two_pow]
theorem m_and_lt {x y : Nat} (hx : x < 4294967296) : fAnd x y < 4294967296 := Nat.lt_of_le_of_lt Nat.and_le_left hx
theorem m_or_lt {x y : Nat} (hx : x < 4294967296) (hy : y < 4294967296) : fOr x y < 4294967296 := Nat.or_lt_two_pow (n := 32) hx hy
theorem m_31 {y : Nat} (hy : y < 4294967296) : nI y &&& 31 = nI (y % 32) := by
  have h := pk_andN (n := y) hy (m := 31) 5 (by decide)
  exact h
theorem m_smod : ∀ j, j < 32 → ((nI j).toBitVec.smod 32).toNat = j := by decide +kernel
theorem m_shl {x y : Nat} (hx : x < 4294967296) (hy : y < 4294967296) : nI x <<< (nI y &&& 31) = nI (fShl x y) := by
  rw [m_31 hy]
  apply Int32.toBitVec_inj.mp
  apply BitVec.eq_of_toNat_eq
  rw [pk_shl _ _ (y % 32) (m_smod _ (Nat.mod_lt _ (by decide))), nI_bvn hx]
  show _ = (nI ((x <<< (y % 32)) % 4294967296)).toBitVec.toNat
  rw [nI_bvn (Nat.mod_lt _ (by decide)), Nat.shiftLeft_eq]
theorem m_shl_lt (x y : Nat) : fShl x y < 4294967296 := Nat.mod_lt _ (by decide)
theorem m_int {x y : Int32} (h : x.toInt = y.toInt) : x = y := Int32.toInt_inj.mp h
theorem m_shr {x y : Nat} (hx : x < 4294967296) (hy : y < 4294967296) : nI x >>> (nI y &&& 31) = nI (fShr x y) ∧ fShr x y < 4294967296 := by
  rw [m_31 hy]
  have hk : y % 32 < 32 := Nat.mod_lt _ (by decide)
  generalize hj : y % 32 = j at hk
  have e : (nI x >>> nI j).toInt = (nI x).toInt >>> j := pk_shr _ _ j (m_smod _ hk)
  by_cases h : x < 2147483648
  · have hf : fShr x y = x >>> j := by
      unfold fShr
      rw [show Nat.ble 2147483648 x = false from Bool.eq_false_iff.mpr (fun q => absurd (Nat.le_of_ble_eq_true q) (by omega)), show Nat.mod y 32 = j from hj]
      rfl
    have hl : x >>> j ≤ x := by rw [Nat.shiftRight_eq_div_pow]; exact Nat.div_le_self _ _
    refine ⟨m_int ?_, by rw [hf]; omega⟩
    rw [e, hf, nI_ti hx, if_pos h, nI_ti (by omega), if_pos (by omega)]
    rfl
  · have hf : fShr x y = 4294967295 - (4294967295 - x) >>> j := by
      unfold fShr
      rw [show Nat.ble 2147483648 x = true from Nat.ble_eq_true_of_le (by omega), show Nat.mod y 32 = j from hj]
      rfl
    have hl : (4294967295 - x) >>> j ≤ 4294967295 - x := by rw [Nat.shiftRight_eq_div_pow]; exact Nat.div_le_self _ _
    have e2 : ((x : Int) - 4294967296) >>> j = Int.negSucc ((4294967295 - x) >>> j) := by rw [show (x : Int) - 4294967296 = Int.negSucc (4294967295 - x) by omega]; rfl
    generalize (4294967295 - x) >>> j = z at hf hl e2
    refine ⟨m_int ?_, by rw [hf]; omega⟩
    rw [e, hf, nI_ti hx, if_neg h, nI_ti (by omega), if_neg (by omega), e2]
    omega
theorem m_ushr {x y : Nat} (hx : x < 4294967296) (hy : y < 4294967296) : ((nI x).toUInt32 >>> ((nI y).toUInt32 &&& Int32.toUInt32 31)).toInt32 = nI (fUsh x y) ∧ fUsh x y < 4294967296 := by
  have hs : (((nI y).toUInt32 &&& Int32.toUInt32 31).toBitVec % 32).toNat = y % 32 := by
    show (((BitVec.ofNat 32 y) &&& (31 : BitVec 32)) % 32).toNat = y % 32
    rw [BitVec.toNat_umod, BitVec.toNat_and, BitVec.toNat_ofNat, Nat.mod_eq_of_lt hy]
    show (y &&& (2 ^ 5 - 1)) % 32 = y % 32
    rw [Nat.and_two_pow_sub_one_eq_mod]
    exact Nat.mod_mod _ _
  have e := pk_ushr (nI x) (nI y) (y % 32) hs
  rw [nI_bvn hx] at e
  have hl : fUsh x y ≤ x := by show x >>> (y % 32) ≤ x; rw [Nat.shiftRight_eq_div_pow]; exact Nat.div_le_self _ _
  refine ⟨?_, by omega⟩
  apply Int32.toBitVec_inj.mp
  apply BitVec.eq_of_toNat_eq
  rw [e, nI_bvn (by omega)]
  show _ = x >>> (y % 32)
  rw [Nat.shiftRight_eq_div_pow]
theorem m_div {x y : Nat} (h : aDv x y = true) : ¬ nI y = 0 ∧ nI x / nI y = nI (fDiv x y) ∧ fDiv x y < 4294967296 ∧ nI x - nI x / nI y * nI y = nI (fRem x y) ∧ fRem x y < 4294967296 := by
  unfold aDv at h
  have h1 : ¬ Nat.ble y 0 = true := fun q => by rw [q] at h; cases h
  rw [Bool.eq_false_iff.mpr h1] at h
  have h2 : ¬ Nat.ble 2147483648 y = true := fun q => by rw [q] at h; cases h
  rw [Bool.eq_false_iff.mpr h2] at h
  have h3 : x ≤ 2147483647 := Nat.le_of_ble_eq_true h
  have h4 : 0 < y := Nat.not_le.mp (fun q => h1 (Nat.ble_eq_true_of_le q))
  have h5 : y < 2147483648 := Nat.not_le.mp (fun q => h2 (Nat.ble_eq_true_of_le q))
  have l1 : x / y ≤ x := Nat.div_le_self _ _
  have l2 : x % y ≤ x := Nat.mod_le _ _
  exact ⟨nI_ne0 h4 h5, pk_div (show x < 2 ^ 31 by omega) h4 h5, by show x / y < _; omega, pk_rem (show x < 2 ^ 31 by omega) h4 h5, by show x % y < _; omega⟩
theorem xr_lo {k x : Nat} (h : x < 2 ^ k) : x ^^^ 2 ^ k = 2 ^ k + x := by
  have e : 2 ^ k + x = 2 ^ k ||| x := by
    have := Nat.two_pow_add_eq_or_of_lt h 1
    rw [Nat.mul_one] at this
    exact this
  rw [e]
  apply Nat.eq_of_testBit_eq
  intro i
  rw [Nat.testBit_xor, Nat.testBit_or, Nat.testBit_two_pow]
  by_cases c : k = i
  · subst c
    rw [Nat.testBit_lt_two_pow h]; simp
  · rw [decide_eq_false c]; simp
theorem xr_hi {k x : Nat} (h : 2 ^ k ≤ x) (h2 : x < 2 ^ (k + 1)) : x ^^^ 2 ^ k = x - 2 ^ k := by
  have h3 : x - 2 ^ k < 2 ^ k := by rw [Nat.pow_succ] at h2; omega
  have e := xr_lo h3
  rw [show 2 ^ k + (x - 2 ^ k) = x by omega] at e
  rw [← e, Nat.xor_assoc, Nat.xor_self, Nat.xor_zero]
  rw [e]
theorem m_sI {a : Nat} (h : a < 4294967296) : sI a = if a < 2147483648 then a + 2147483648 else a - 2147483648 := by
  by_cases c : a < 2147483648
  · rw [if_pos c, Nat.add_comm]; exact xr_lo (k := 31) c
  · rw [if_neg c]; exact xr_hi (k := 31) (by omega) h
theorem m_sL {a : Nat} (h : a < 18446744073709551616) : sL a = if a < 9223372036854775808 then a + 9223372036854775808 else a - 9223372036854775808 := by
  by_cases c : a < 9223372036854775808
  · rw [if_pos c, Nat.add_comm]; exact xr_lo (k := 63) c
  · rw [if_neg c]; exact xr_hi (k := 63) (by omega) h
theorem m_lt {x y : Nat} (hx : x < 4294967296) (hy : y < 4294967296) : nI x < nI y ↔ sI x < sI y := by
  rw [Int32.lt_iff_toInt_lt, nI_ti hx, nI_ti hy, m_sI hx, m_sI hy]
  split <;> split <;> omega
theorem m_le {x y : Nat} (hx : x < 4294967296) (hy : y < 4294967296) : nI x ≤ nI y ↔ sI x ≤ sI y := by
  rw [Int32.le_iff_toInt_le, nI_ti hx, nI_ti hy, m_sI hx, m_sI hy]
  split <;> split <;> omega
theorem m_sI_mono {x y : Nat} (h : x ≤ y) (hy : y < 4294967296) (hs : y < 2147483648 ∨ 2147483648 ≤ x) : sI x ≤ sI y := by
  rw [m_sI (by omega), m_sI hy]
  split <;> split <;> omega
-- longs
theorem lN_mod (n : Nat) : lN (n % 18446744073709551616) = lN n := by
  apply Int64.toBitVec_inj.mp
  show BitVec.ofNat 64 (n % 18446744073709551616) = BitVec.ofNat 64 n
  apply BitVec.eq_of_toNat_eq
  rw [BitVec.toNat_ofNat, BitVec.toNat_ofNat]
  exact Nat.mod_mod _ _
theorem lN_bvn {n : Nat} (h : n < 18446744073709551616) : (lN n).toBitVec.toNat = n := by
  show (BitVec.ofNat 64 n).toNat = n
  rw [BitVec.toNat_ofNat]; exact Nat.mod_eq_of_lt h
theorem lN_ti9 {n : Nat} (h : n < 18446744073709551616) : (lN n).toInt = if n < 9223372036854775808 then (n : Int) else (n : Int) - 18446744073709551616 := by
  show (lN n).toBitVec.toInt = _
  rw [BitVec.toInt_eq_toNat_cond, lN_bvn h]
  by_cases hh : n < 9223372036854775808
  · rw [if_pos hh, if_pos (by omega)]
  · rw [if_neg hh, if_neg (by omega)]; omega
theorem lN_inj9 {a b : Nat} (ha : a < 18446744073709551616) (hb : b < 18446744073709551616) : lN a = lN b ↔ a = b := by
  refine ⟨fun h => ?_, fun h => by rw [h]⟩
  have := congrArg (fun z : Int64 => z.toBitVec.toNat) h
  simp only [lN_bvn ha, lN_bvn hb] at this
  exact this
theorem ml_add (x y : Nat) : lN x + lN y = lN (fLadd x y) := by
  rw [lN_add]; exact (lN_mod _).symm
theorem ml_mul (x y : Nat) : lN x * lN y = lN (fLmul x y) := by
  rw [lN_mul]; exact (lN_mod _).symm
theorem ml_and {x y : Nat} : lN x &&& lN y = lN (fAnd x y) := by
  apply Int64.toBitVec_inj.mp
  rw [Int64.toBitVec_and]
  apply BitVec.eq_of_toNat_eq
  show (BitVec.ofNat 64 x &&& BitVec.ofNat 64 y).toNat = (BitVec.ofNat 64 (x &&& y)).toNat
  rw [BitVec.toNat_and, BitVec.toNat_ofNat, BitVec.toNat_ofNat, BitVec.toNat_ofNat, Nat.and_mod_two_pow]
theorem ml_or {x y : Nat} : lN x ||| lN y = lN (fOr x y) := by
  apply Int64.toBitVec_inj.mp
  rw [Int64.toBitVec_or]
  apply BitVec.eq_of_toNat_eq
  show (BitVec.ofNat 64 x ||| BitVec.ofNat 64 y).toNat = (BitVec.ofNat 64 (x ||| y)).toNat
  rw [BitVec.toNat_or, BitVec.toNat_ofNat, BitVec.toNat_ofNat, BitVec.toNat_ofNat, Nat.or_mod_two_pow]
theorem ml_int {x y : Int64} (h : x.toInt = y.toInt) : x = y := Int64.toInt_inj.mp h
theorem ml_div {x y : Nat} (h : aDl x y = true) : ¬ lN y = 0 ∧ lN x / lN y = lN (fDiv x y) ∧ fDiv x y < 18446744073709551616 ∧ lN x - lN x / lN y * lN y = lN (fRem x y) ∧ fRem x y < 18446744073709551616 := by
  unfold aDl at h
  have h1 : ¬ Nat.ble y 0 = true := fun q => by rw [q] at h; cases h
  rw [Bool.eq_false_iff.mpr h1] at h
  have h2 : ¬ Nat.ble 9223372036854775808 y = true := fun q => by rw [q] at h; cases h
  rw [Bool.eq_false_iff.mpr h2] at h
  have h3 : x ≤ 9223372036854775807 := Nat.le_of_ble_eq_true h
  have h4 : 0 < y := Nat.not_le.mp (fun q => h1 (Nat.ble_eq_true_of_le q))
  have h5 : y < 9223372036854775808 := Nat.not_le.mp (fun q => h2 (Nat.ble_eq_true_of_le q))
  have l1 : x / y ≤ x := Nat.div_le_self _ _
  have l2 : x % y ≤ x := Nat.mod_le _ _
  refine ⟨fun q => ?_, pk_lDiv (show x < 2 ^ 63 by omega) h4 h5, by show x / y < _; omega, pk_lRem (show x < 2 ^ 63 by omega) h4 h5, by show x % y < _; omega⟩
  have := (lN_inj9 (a := y) (b := 0) (by omega) (by decide)).mp q
  omega
theorem m_i2l {x : Nat} (hx : x < 4294967296) : (nI x).toInt64 = lN (fI2l x) ∧ fI2l x < 18446744073709551616 := by
  by_cases h : x < 2147483648
  · have hf : fI2l x = x := by
      unfold fI2l
      rw [show Nat.ble 2147483648 x = false from Bool.eq_false_iff.mpr (fun q => absurd (Nat.le_of_ble_eq_true q) (by omega))]
    rw [hf]
    exact ⟨nI_l h, by omega⟩
  · have hf : fI2l x = x + 18446744069414584320 := by
      unfold fI2l
      rw [show Nat.ble 2147483648 x = true from Nat.ble_eq_true_of_le (by omega)]
    rw [hf]
    refine ⟨ml_int ?_, by omega⟩
    rw [Int32.toInt_toInt64, nI_ti hx, if_neg h, lN_ti9 (by omega), if_neg (by omega)]
    omega
theorem m_l2i (x : Nat) : (lN x).toInt32 = nI (Nat.mod x 4294967296) := by
  rw [lN_i]; exact (nI_mod _).symm
theorem m_lcmp_lt {x y : Nat} (hx : x < 18446744073709551616) (hy : y < 18446744073709551616) : lN x < lN y ↔ sL x < sL y := by
  rw [Int64.lt_iff_toInt_lt, lN_ti9 hx, lN_ti9 hy, m_sL hx, m_sL hy]
  split <;> split <;> omega
theorem m_63 {y : Nat} (hy : y < 4294967296) : (nI y).toInt64 &&& 63 = lN (y % 64) := by
  obtain ⟨e, hl⟩ := m_i2l hy
  rw [e, show (63 : Int64) = lN 63 from rfl, ml_and]
  congr 1
  show fI2l y &&& (2 ^ 6 - 1) = y % 64
  rw [Nat.and_two_pow_sub_one_eq_mod]
  unfold fI2l
  cases Nat.ble 2147483648 y
  · rfl
  · show (y + 18446744069414584320) % 64 = y % 64
    omega
theorem m_smodL : ∀ j, j < 64 → ((lN j).toBitVec.smod 64).toNat = j := by decide +kernel
theorem ml_shl {x y : Nat} (hx : x < 18446744073709551616) (hy : y < 4294967296) : lN x <<< ((nI y).toInt64 &&& 63) = lN (fLshl x y) ∧ fLshl x y < 18446744073709551616 := by
  rw [m_63 hy]
  refine ⟨?_, Nat.mod_lt _ (by decide)⟩
  apply Int64.toBitVec_inj.mp
  apply BitVec.eq_of_toNat_eq
  show ((lN x).toBitVec <<< ((lN (y % 64)).toBitVec.smod 64).toNat).toNat = (lN ((x <<< (y % 64)) % 18446744073709551616)).toBitVec.toNat
  rw [m_smodL _ (Nat.mod_lt _ (by decide)), BitVec.toNat_shiftLeft, lN_bvn hx, lN_bvn (Nat.mod_lt _ (by decide))]
theorem ml_shr {x y : Nat} (hx : x < 18446744073709551616) (hy : y < 4294967296) : lN x >>> ((nI y).toInt64 &&& 63) = lN (fLshr x y) ∧ fLshr x y < 18446744073709551616 := by
  rw [m_63 hy]
  have hk : y % 64 < 64 := Nat.mod_lt _ (by decide)
  generalize hj : y % 64 = j at hk
  have e : (lN x >>> lN j).toInt = (lN x).toInt >>> j := by
    show ((lN x).toBitVec.sshiftRight ((lN j).toBitVec.smod 64).toNat).toInt = _
    rw [m_smodL _ hk, BitVec.toInt_sshiftRight]
    rfl
  by_cases h : x < 9223372036854775808
  · have hf : fLshr x y = x >>> j := by
      unfold fLshr
      rw [show Nat.ble 9223372036854775808 x = false from Bool.eq_false_iff.mpr (fun q => absurd (Nat.le_of_ble_eq_true q) (by omega)), show Nat.mod y 64 = j from hj]
      rfl
    have hl : x >>> j ≤ x := by rw [Nat.shiftRight_eq_div_pow]; exact Nat.div_le_self _ _
    refine ⟨ml_int ?_, by rw [hf]; omega⟩
    rw [e, hf, lN_ti9 hx, if_pos h, lN_ti9 (by omega), if_pos (by omega)]
    rfl
  · have hf : fLshr x y = 18446744073709551615 - (18446744073709551615 - x) >>> j := by
      unfold fLshr
      rw [show Nat.ble 9223372036854775808 x = true from Nat.ble_eq_true_of_le (by omega), show Nat.mod y 64 = j from hj]
      rfl
    have hl : (18446744073709551615 - x) >>> j ≤ 18446744073709551615 - x := by rw [Nat.shiftRight_eq_div_pow]; exact Nat.div_le_self _ _
    have e2 : ((x : Int) - 18446744073709551616) >>> j = Int.negSucc ((18446744073709551615 - x) >>> j) := by rw [show (x : Int) - 18446744073709551616 = Int.negSucc (18446744073709551615 - x) by omega]; rfl
    generalize (18446744073709551615 - x) >>> j = z at hf hl e2
    refine ⟨ml_int ?_, by rw [hf]; omega⟩
    rw [e, hf, lN_ti9 hx, if_neg h, lN_ti9 (by omega), if_neg (by omega), e2]
    omega
theorem ml_ush {x y : Nat} (hx : x < 18446744073709551616) (hy : y < 4294967296) : ((lN x).toUInt64 >>> ((nI y).toInt64.toUInt64 &&& Int64.toUInt64 63)).toInt64 = lN (fLush x y) ∧ fLush x y < 18446744073709551616 := by
  have hl : fLush x y ≤ x := by show x >>> (y % 64) ≤ x; rw [Nat.shiftRight_eq_div_pow]; exact Nat.div_le_self _ _
  refine ⟨?_, by omega⟩
  have h63 : ((nI y).toInt64 &&& 63).toBitVec.toNat = y % 64 := by rw [m_63 hy, lN_bvn (by omega)]
  have hs : (((nI y).toInt64.toUInt64 &&& Int64.toUInt64 63).toBitVec % 64).toNat = y % 64 := by
    show (((nI y).toInt64 &&& 63).toBitVec % 64).toNat = y % 64
    rw [BitVec.toNat_umod, h63]
    exact Nat.mod_mod _ _
  have e : ((lN x).toUInt64 >>> ((nI y).toInt64.toUInt64 &&& Int64.toUInt64 63)).toInt64.toBitVec = (lN x).toBitVec >>> (y % 64) := by
    rw [← hs]
    exact UInt64.toBitVec_shiftRight _ _
  apply Int64.toBitVec_inj.mp
  apply BitVec.eq_of_toNat_eq
  rw [e, BitVec.toNat_ushiftRight, lN_bvn hx, lN_bvn (by omega)]
  rfl
theorem ml_cmp {x y : Nat} (hx : x < 18446744073709551616) (hy : y < 18446744073709551616) : lg_cmp (lN x) (lN y) = nI (fLcmp x y) ∧ fLcmp x y < 4294967296 := by
  have q1 := m_lcmp_lt hy hx
  have q2 := lN_inj9 hx hy
  have u1 := m_sL hx
  have u2 := m_sL hy
  unfold lg_cmp fLcmp
  by_cases c1 : x = y
  · have hb : Nat.beq x y = true := by subst c1; exact Nat.beq_refl x
    rw [hb, if_neg (fun h => absurd (q1.mp h) (by subst c1; omega)), if_pos (q2.mpr c1)]
    exact ⟨rfl, (by decide : 0 < 4294967296)⟩
  · have hb : Nat.beq x y = false := Bool.eq_false_iff.mpr (fun h => c1 (Nat.eq_of_beq_eq_true h))
    rw [hb]
    by_cases c2 : sL y < sL x
    · rw [if_pos (q1.mpr c2), show Nat.ble (sL y) (sL x) = true from Nat.ble_eq_true_of_le (by omega)]
      exact ⟨rfl, by decide⟩
    · have hne : sL x ≠ sL y := by
        rw [u1, u2]
        split <;> split <;> omega
      rw [if_neg (fun h => c2 (q1.mp h)), if_neg (fun h => c1 (q2.mp h)), show Nat.ble (sL y) (sL x) = false from Bool.eq_false_iff.mpr (fun h => absurd (Nat.le_of_ble_eq_true h) (by omega))]
      exact ⟨rfl, by decide⟩
end
