-- ===== from steps to methods, from methods to the machine =====
theorem rCon {w : rW} {l : Launch} {D : Nat} {M : rM} {f : List rV → List rV → rH → rR} (hst : l.stackTraces = false) (hpl : plainName (rMy M).cls = true) (hlen : ∀ A h res, f A [] h = some res → A.length ≤ rMl M) (hG : rGood w l D M 0 f) : rCGood w l D M (fun A h => f A [] h) := by
  intro A h res hf
  have hto := hG A [] h res hf
  have hA := hlen A h res hf
  refine ⟨hto.1, fun ad av hav => ?_⟩
  have hm2 : hC h ≤ hC res.2 := hto.1.2.1
  have hm3 : h.2.2.2.1 ≤ res.2.2.2.2.1 := hto.1.2.2
  have core : ∀ (p : Program) (e : Env) (s : State) (m : MethodId) (args : Array Value) (below : List Frame) (meth : Method) (c : Code) (s₁ : State), BodyLoose p l (rMy M) (headSpec (rWs M) (rRm D (hC res.2 - hC h) (hL res.2 - hL h))) (rMc_ M) (rMl M) (rMr M) e s m args below meth c s₁ → c.maxLocals = rMl M → c.exceptionTable.toList = tableOf ((rMh M).getD []) → rPc w ad av h args s →
      W p l e (headSpec (rWs M) (rRm D (hC res.2 - hC h) (hL res.2 - hL h))).room s m args below meth c s.heap [] 0 0 (vx_MQ below (rQc w ad h res) (rXc w ad h res) args s (hC res.2 - hC h) (hL res.2 - hL h) (rFree w)) (entryFrame m args (rMl M)) := by
    intro p e s m args below meth c s₁ B hml ht hP
    obtain ⟨hargs, hH, hK⟩ := hP
    rw [show entryFrame m args (rMl M) = F0 m 0 ((lg_sl av ++ List.replicate (rMl M - (lg_sl av).length) Slot.unset).toArray) [] by rw [hargs]; exact lg_entry_eq m av (rMl M)]
    have hX : rCtx w D M p l (headSpec (rWs M) (rRm D (hC res.2 - hC h) (hL res.2 - hL h))).room s m args meth c :=
      ⟨B.exec, B.bytes, hml, findClass_of_methodNamed B.named, fun wd hwd => atoms_spec (ws := rWs M) B.pre _ (List.mem_cons_of_mem _ hwd), B.notSynchronized, fun h => (name_of_methodNamed B.named B.method).1.trans h, hst, fun _ => ht, hK, Nat.le_refl _, Nat.le_refl _, fun q hq => hH.2.2.2.2 q hq⟩
    have hF : rFin w M res p l e (headSpec (rWs M) (rRm D (hC res.2 - hC h) (hL res.2 - hL h))).room s m args below meth c (vx_MQ below (rQc w ad h res) (rXc w ad h res) args s (hC res.2 - hC h) (hL res.2 - hL h) (rFree w)) (hC res.2 - hC h) (hL res.2 - hL h) (hN h) ad := by
      refine ⟨Nat.le_refl _, Nat.le_refl _, fun r ad' H locs pc ls v i h1 h2 h3 h4 h5 h6 h7 h8 h9 => ?_, fun e9 h1 => ⟨_, _, rfl, fun E ad' t hE hext hP' hsz => ⟨e9, ad', h1, hE, hext, hP', hsz⟩⟩⟩
      have hq : ∀ t : State, t.heap = H → s.WarmedH t.vm → rQc w ad h res args s (.returned v) t := fun t ht hW => ⟨r, v, ad', h1, rfl, h6, h2, by rw [ht]; exact h7.moved hW.alike, by rw [ht]; exact h8⟩
      have hret := B.returns
      refine vx_ret ?_
      match v, h3, h5, hq with
      | none, h3, h5, hq => cases h3; exact W.vret B.exec B.bytes (hret.trans h5) hq h9 h4 B.notSynchronized
      | some (.int x), h3, h5, hq =>
        cases h3
        rcases h5 with h5 | ⟨h5, h5'⟩
        · exact W.iret B.exec B.bytes (hret.trans h5) hq h9 h4 B.notSynchronized
        · exact W.zret B.exec B.bytes (hret.trans h5) h5' hq h9 h4 B.notSynchronized
      | some (.long x), h3, h5, hq => cases h3; exact W.lret B.exec B.bytes (hret.trans h5) hq h9 h4 B.notSynchronized
      | some (.double x), h3, h5, hq => cases h3; exact W.dret B.exec B.bytes (hret.trans h5) hq h9 h4 B.notSynchronized
      | some (.ref x), h3, h5, hq =>
        cases h3
        rcases h5 with ⟨n, h5⟩ | ⟨t, h5⟩
        · exact W.aret B.exec B.bytes (hret.trans h5) (Or.inl ⟨n, rfl⟩) (Or.inr ⟨x, rfl⟩) hq h9 h4 B.notSynchronized
        · exact W.aret B.exec B.bytes (hret.trans h5) (Or.inr ⟨t, rfl⟩) (Or.inr ⟨x, rfl⟩) hq h9 h4 B.notSynchronized
      | some .null, h3, h5, hq =>
        cases h3
        rcases h5 with ⟨n, h5⟩ | ⟨t, h5⟩
        · exact W.aret B.exec B.bytes (hret.trans h5) (Or.inl ⟨n, rfl⟩) (Or.inl rfl) hq h9 h4 B.notSynchronized
        · exact W.aret B.exec B.bytes (hret.trans h5) (Or.inr ⟨t, rfl⟩) (Or.inl rfl) hq h9 h4 B.notSynchronized
    exact hto.2 p e _ s m args below meth c _ _ _ (hN h) ad hX hF ad s.heap [] 0 0 _ (lv_args 0 av) [] ⟨Nat.le_refl _, rExt.rf⟩ hH (Nat.le_refl _) (lv_entry av (by rw [← hav.1]; exact hA)) hav.2 trivial ⟨by omega, by show 0 + res.2.2.2.2.1 ≤ (res.2.2.2.2.1 - h.2.2.2.1) + h.2.2.2.1; omega⟩ (fun z hz => nomatch hz)
  cases hh : rMh M with
  | none =>
    refine vx_ofW hpl (rWs_none hh) fun p e s m args below meth c s₁ B hml ht hP => core p e s m args below meth c s₁ B hml ?_ hP
    rw [hh]
    show c.exceptionTable.toList = []
    exact List.eq_nil_iff_forall_not_mem.mpr fun x hx => ht x hx
  | some tt =>
    refine vx_ofWH hpl (rWs_some hh) fun p e s m args below meth c s₁ B hml hP => core p e s m args below meth c s₁ B hml ?_ hP
    rw [hh]
    exact vx_table (x := rMy M) B (atoms_spec (ws := rWs M) B.pre _ (by rw [rWs_some hh]; exact List.mem_cons_self))
theorem rMach {lab : Nat → rM × Nat} {tb : Nat → Unit × rP} {w : rW} {l : Launch} (hst : l.stackTraces = false) (hS : ∀ id, rSnd lab (lab id).1 (lab id).2 (tb id).2) (hent : ∀ id, (lab id).2 = 0 → plainName (rMy (lab id).1).cls = true ∧ ∀ j A h res, (tb id).2 j A [] h = some res → A.length ≤ rMl (lab id).1) (f : Nat) : ∀ d id, rGood w l d (lab id).1 (lab id).2 (rMc tb f d id)
  | 0, id => fun L S h res hh => by cases hh
  | d + 1, id => by
    have hcalls : rCalls w l d lab (rMc tb f d) := by
      intro id h0
      have hG := rMach (w := w) hst hS hent f d id
      rw [h0] at hG
      refine rCon hst (hent id h0).1 (fun A h res hh => ?_) hG
      cases d with
      | zero => cases hh
      | succ d =>
        cases f with
        | zero => cases hh
        | succ n => exact (hent id h0).2 _ A h res hh
    have hlp : ∀ n id, rGood w l (d + 1) (lab id).1 (lab id).2 (rLp tb (rMc tb f d) n id) := by
      intro n
      induction n with
      | zero => intro id L S h res hh; cases hh
      | succ n ih =>
        intro id L S h res hh
        exact hS id w l d (rLp tb (rMc tb f d) n) (rMc tb f d) ih hcalls L S h res hh
    exact hlp f id
theorem rMachC {lab : Nat → rM × Nat} {tb : Nat → Unit × rP} {w : rW} {l : Launch} (hst : l.stackTraces = false) (hS : ∀ id, rSnd lab (lab id).1 (lab id).2 (tb id).2) (hent : ∀ id, (lab id).2 = 0 → plainName (rMy (lab id).1).cls = true ∧ ∀ j A h res, (tb id).2 j A [] h = some res → A.length ≤ rMl (lab id).1) (f d : Nat) : rCalls w l d lab (rMc tb f d) := by
  intro id h0
  have hG := rMach (w := w) hst hS hent f d id
  rw [h0] at hG
  refine rCon hst (hent id h0).1 (fun A h res hh => ?_) hG
  cases d with
  | zero => cases hh
  | succ d =>
    cases f with
    | zero => cases hh
    | succ n => exact (hent id h0).2 _ A h res hh
