noncomputable def okR (r : rR) : Bool := Option.rec (motive := fun _ => Bool) false (fun p => Prod.rec (motive := fun _ => Bool) (fun o _ => Sum.rec (motive := fun _ => Bool) (fun v => Option.rec (motive := fun _ => Bool) false (fun w => Sum.rec (motive := fun _ => Bool) (fun n => Nat.beq n 1) (fun _ => false) w) v) (fun _ => false) o) p) r
noncomputable def runL (sc : List rV) : Bool := okR (rMc tb 200000 12 29 [vR 8192] [] (tE9, (1, (0, (0, sc)))))
set_option maxRecDepth 100000 in
theorem tst1 : runL [vX 4294967328 0, vI 0, vI 0, vX 0 4294967295, vX 0 4294967295, vX 0 4294967295] = true := by decide +kernel
