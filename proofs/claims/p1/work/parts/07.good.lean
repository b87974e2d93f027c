-- ===== what holds all the time =====
def rNk : Cond → Bool
  | .castable _ _ => true
  | .arrayOver _ => true
  | .declares _ => true
  | .privateMethod _ => true
  | .methodLinkNest _ _ _ _ => true
  | .fieldLinkNest _ _ _ _ _ _ => true
  | _ => false
theorem rNk_all : ∀ wd ∈ rNGs, rNk wd = true := by decide +kernel
theorem rAO {ty : FieldType} {u U : State} (hvm : u.vm.Alike U.vm) (h : va_Nw (Cond.arrayOver ty) u) : va_Nw (Cond.arrayOver ty) U := by
  have e := Cond.arrayOver_setVmC (s := u) hvm (ty := ty) (args := #[])
  have e2 : (Cond.arrayOver ty).before #[] U = (Cond.arrayOver ty).before #[] (u.setVm U.vm) := by
    unfold Cond.before Cond.holds
    simp only [Cond.value, State.setVm]
    rfl
  unfold va_Nw at h ⊢
  rw [e2, e]
  exact h
theorem rNk_warm {wd : Cond} {s U : State} (hk : rNk wd = true) (hW : s.WarmedH U.vm) (h : va_Nw wd s) : va_Nw wd U := by
  cases wd with
  | castable c t => exact va_tabs rfl (rfl : (s.setVm U.vm).vm = U.vm) (A := #[]) (by rw [Cond.castable_setVm hW.alike]; exact h)
  | arrayOver ty => exact rAO hW.alike h
  | declares x => exact va_Nw.warmD hW h
  | privateMethod y => exact Cond.privateMethod_warm hW h
  | methodLinkNest a i x q => exact va_Nw.warmM hW h
  | fieldLinkNest a i b n d q => exact va_Nw.warmF hW h
  | _ => cases hk
def rCl (w : rW) (U : State) : Prop := ∀ (ci : Nat) (r : vw_C), rCls[ci]? = some r → u_Kn U r.1 r.2.1 r.2.2 ((wD w).1 ci) ((wD w).2 ci)
def rFree (w : rW) : Nat → Prop := fun q => wB w ≤ q
def rEx (w : rW) (U : State) : Prop :=
  (∃ (L : Nat) (xs : Nat → Int32), va_X (wE w) L xs U (wH w) ∧ (wS w).length = L ∧ L ≤ 6 ∧ ∀ j, j < L → rVi ((wS w).getD j vU) (xs j)) ∧ wE w < wB w ∧
  va_Z "java/util/ArrayList" "DEFAULTCAPACITY_EMPTY_ELEMENTDATA" "[Ljava/lang/Object;" (.ref (wF w)) (rFree w) U (wH w) ∧
  (∃ cell : Cell, (wH w)[wF w]? = some cell ∧ U.isArrayOf cell (.object "java/lang/Object") ∧ cell.slots.size.toInt32 = nI 0 ∧ wF w < wB w) ∧
  vx_Zq Bundle.tN "UNASSIGNED_STACK" Bundle.steD (rFree w) U (wH w) ∧ vx_Zq Bundle.tN "SUPPRESSED_SENTINEL" Bundle.listD (rFree w) U (wH w) ∧
  (∀ q ∈ rStr, ∃ sa, vk_R q.1 q.2.1 q.2.2 sa U) ∧ (∀ q ∈ rFws, va_Fw q.1 q.2.1 q.2.2 U) ∧ wB w = (wH w).size
def rKx (w : rW) (U : State) : Prop := rCl w U ∧ rEx w U ∧ (∀ wd ∈ rNGs, va_Nw wd U) ∧ ∀ q ∈ rNcs, va_Nc q.1 q.2 U
theorem rFws_ok : ∀ q ∈ rFws, q.2.1.cls ≠ "java/lang/invoke/MethodHandle" ∧ q.2.1.cls ≠ "java/lang/invoke/VarHandle" := by decide +kernel
theorem rKx.warm {w : rW} {s U : State} (hW : s.WarmedH U.vm) (h : rKx w s) : rKx w U := by
  obtain ⟨h1, ⟨⟨L, xs, x1, x2, x3, x4⟩, e1, e2, ⟨cell, c1, c2, c3⟩, e4, e5, e6, e7, e8⟩, h3, h4⟩ := h
  have hvm := hW.alike
  exact ⟨fun ci r hr => u_Kn_moved hvm (h1 ci r hr), ⟨⟨L, xs, x1.moved hvm, x2, x3, x4⟩, e1, va_Z.moved hvm e2, ⟨cell, c1, State.isArrayOf_alike hvm c2, c3⟩, vx_Zq.moved hvm e4, vx_Zq.moved hvm e5,
    fun q hq => (e6 q hq).imp fun _ k => vk_R.warm hW k, fun q hq => va_Fw.moved (rFws_ok q hq) hvm (e7 q hq), e8⟩, fun wd hwd => rNk_warm (rNk_all wd hwd) hW (h3 wd hwd), fun q hq => (h4 q hq).moved hvm⟩
theorem rKx.ng {w : rW} {U : State} (h : rKx w U) (i : Nat) {wd : Cond} (hi : rNGs[i]? = some wd) : va_Nw wd U := h.2.2.1 wd (List.mem_of_getElem? hi)
-- ===== contracts =====
def rFr (d : Nat) : Nat := d + 12
def rLo (d : Nat) : Nat := 64 * d + 200
def rRm (d k n : Nat) : Room := { frames := rFr d, cells := k, slots := n, locals := rLo d }
def rWs (M : rM) : List Cond := (match rMh M with
  | none => Cond.code (rMy M) (rMc_ M) (rMl M) (rMr M)
  | some hh => Cond.codeWith (rMy M) (rMc_ M) (rMl M) (rMr M) hh) :: rTG
def rExn : List String := ["java/lang/IllegalArgumentException", "java/lang/IllegalStateException", "java/lang/IndexOutOfBoundsException", "java/lang/ArithmeticException"]
def rOpt (w : rW) (ad : Nat → Nat) (n : Nat) : Option rV → Option Value → Prop
  | none, none => True
  | some x, some v => rVal w ad n x v
  | _, _ => False
-- arguments laid as locals
def rArgs (w : rW) (ad : Nat → Nat) (n : Nat) (A : List rV) (av : List Value) : Prop := A.length = (lg_sl av).length ∧ ∀ i, A.getD i vU = vU ∨ ∃ v, (i, v) ∈ lv_args 0 av ∧ rVal w ad n (A.getD i vU) v
def rPc (w : rW) (ad : Nat → Nat) (av : List Value) (h : rH) : Array Value → State → Prop := fun a U => a = av.toArray ∧ rHp w U ad h U.heap ∧ rKx w U
def rQc (w : rW) (ad : Nat → Nat) (h : rH) (res : rO × rH) : Array Value → State → Outcome → State → Prop := fun _ st o t =>
  ∃ (r : Option rV) (v : Option Value) (ad' : Nat → Nat), res.1 = .inl r ∧ o = .returned v ∧ rExt (hN h) ad ad' ∧ rOpt w ad' (hN res.2) r v ∧ rHp w t ad' res.2 t.heap ∧ st.heap.size ≤ t.heap.size
def rXc (w : rW) (ad : Nat → Nat) (h : rH) (res : rO × rH) : String → State → State → Prop := fun E st t =>
  ∃ (e : Nat) (ad' : Nat → Nat), res.1 = .inr e ∧ rExn[e]? = some E ∧ rExt (hN h) ad ad' ∧ rHp w t ad' res.2 t.heap ∧ st.heap.size ≤ t.heap.size
def rMono (h : rH) (res : rO × rH) : Prop := hN h ≤ hN res.2 ∧ hC h ≤ hC res.2 ∧ hL h ≤ hL res.2
def rCGood (w : rW) (l : Launch) (d : Nat) (M : rM) (f : List rV → rH → rR) : Prop := ∀ (A : List rV) (h : rH) (res : rO × rH), f A h = some res → rMono h res ∧
  ∀ (ad : Nat → Nat) (av : List Value), rArgs w ad (hN h) A av → vx_Met l (rMy M) (rWs M) (rRm d (hC res.2 - hC h) (hL res.2 - hL h)) (rPc w ad av h) (rQc w ad h res) (rXc w ad h res) (hC res.2 - hC h) (hL res.2 - hL h) (rFree w)
-- ===== inside a method =====
def rCtx (w : rW) (d : Nat) (M : rM) (p : Program) (l : Launch) (R : Room) (s : State) (m : MethodId) (args : Array Value) (meth : Method) (c : Code) : Prop :=
  p.tables.exec = Jvm.exec ∧ c.code = rMc_ M ∧ c.maxLocals = rMl M ∧ s.vm.findClass (rMy M).cls = some m.cls ∧ (∀ wd ∈ rTG, wd.before args s = true) ∧ meth.locks = false ∧ ((rMy M).name = "<init>" → meth.name = "<init>") ∧ l.stackTraces = false ∧
  ((rMy M).cls ≠ "WordWrightLaw" ∨ rMh M ≠ none → c.exceptionTable.toList = tableOf ((rMh M).getD [])) ∧ rKx w s ∧ rFr d ≤ R.frames ∧ rLo d ≤ R.locals ∧ ∀ q : Nat, q < wB w → s.heap[q]? = (wH w)[q]?
-- the returning instruction of a value
def rRi (v : Option Value) (i : Instr) : Prop := match v with
  | none => i = .return_
  | some (.int _) => i = .ireturn
  | some (.long _) => i = .lreturn
  | some (.double _) => i = .dreturn
  | some (.ref _) => i = .areturn
  | some .null => i = .areturn
  | _ => False
-- what a method may answer
def rRt (o : Option FieldType) (v : Option Value) : Prop := match v with
  | none => o = none
  | some (.int x) => o = some .int ∨ (o = some .boolean ∧ narrow .boolean (.int x) = .int x)
  | some (.long _) => o = some .long
  | some (.double _) => o = some .double
  | some .null => (∃ n, o = some (.object n)) ∨ ∃ t, o = some (.array t)
  | some (.ref _) => (∃ n, o = some (.object n)) ∨ ∃ t, o = some (.array t)
  | _ => False
def rFin (w : rW) (M : rM) (res : rO × rH) (p : Program) (l : Launch) (e : Env) (R : Room) (s : State) (m : MethodId) (args : Array Value) (below : List Frame) (meth : Method) (c : Code) (Q : State → Prop) (mc ms n0 : Nat) (ad0 : Nat → Nat) : Prop :=
  mc ≤ R.cells ∧ ms ≤ R.slots ∧
  (∀ (r : Option rV) (ad : Nat → Nat) (H : Heap) (locs : List Loc) (pc : Nat) (ls : Array Slot) (v : Option Value) (i : Instr), res.1 = .inl r → rOpt w ad (hN res.2) r v → rRi v i → decode (rMc_ M) pc = .ok (i, 1) → rRt (rMr M) v → rExt n0 ad0 ad → rHp w s ad res.2 H → s.heap.size ≤ H.size → (∀ z ∈ locs, rFree w z.base) →
    W p l e R s m args below meth c H locs mc ms Q (F0 m pc ls v.toList)) ∧
  (∀ e9, res.1 = .inr e9 → ∃ (Qc : Array Value → State → Outcome → State → Prop) (XC : String → State → State → Prop), Q = vx_MQ below Qc XC args s mc ms (rFree w) ∧
    ∀ (E : String) (ad : Nat → Nat) (t : State), rExn[e9]? = some E → rExt n0 ad0 ad → rHp w t ad res.2 t.heap → s.heap.size ≤ t.heap.size → XC E s t)
def rTo (w : rW) (l : Launch) (d : Nat) (M : rM) (pc : Nat) (L S : List rV) (h : rH) (res : rO × rH) : Prop := rMono h res ∧
  ∀ (p : Program) (e : Env) (R : Room) (s : State) (m : MethodId) (args : Array Value) (below : List Frame) (meth : Method) (c : Code) (Q : State → Prop) (mc ms n0 : Nat) (ad0 : Nat → Nat), rCtx w d M p l R s m args meth c → rFin w M res p l e R s m args below meth c Q mc ms n0 ad0 →
  ∀ (ad : Nat → Nat) (H : Heap) (locs : List Loc) (cells slots : Nat) (ls : Array Slot) (lv : List (Nat × Value)) (st : List Value), n0 ≤ hN h ∧ rExt n0 ad0 ad → rHp w s ad h H → s.heap.size ≤ H.size → lv_has ls (rMl M) lv → rLoc w ad (hN h) L lv → rStk w ad (hN h) S st →
    cells + hC res.2 ≤ mc + hC h ∧ slots + hL res.2 ≤ ms + hL h → (∀ z ∈ locs, rFree w z.base) → W p l e R s m args below meth c H locs cells slots Q (F0 m pc ls st)
def rGood (w : rW) (l : Launch) (d : Nat) (M : rM) (pc : Nat) (f : List rV → List rV → rH → rR) : Prop := ∀ (L S : List rV) (h : rH) (res : rO × rH), f L S h = some res → rTo w l d M pc L S h res
def rCalls (w : rW) (l : Launch) (d : Nat) (lab : Nat → rM × Nat) (jc : rJ) : Prop := ∀ id, (lab id).2 = 0 → rCGood w l d (lab id).1 (fun A h => jc id A [] h)
def rSnd (lab : Nat → rM × Nat) (M : rM) (pc : Nat) (code : rP) : Prop := ∀ (w : rW) (l : Launch) (d : Nat) (jb jc : rJ), (∀ id, rGood w l (d + 1) (lab id).1 (lab id).2 (jb id)) → rCalls w l d lab jc → rGood w l (d + 1) M pc (code (jb, jc))
theorem rSnd_none {lab : Nat → rM × Nat} {M : rM} {pc : Nat} : rSnd lab M pc oNone := fun _ _ _ _ _ _ _ _ _ _ _ h => by cases h
