-- ===== a call whose exception is caught; copies; the start of a method =====
def rHd (lab : Nat → rM × Nat) (M : rM) (pc : Nat) (own E : String) (code : rP) : Prop := ∃ (name : String) (pre : List ExceptionTableEntry) (x : ExceptionTableEntry) (suf : List ExceptionTableEntry), tableOf ((rMh M).getD []) = pre ++ x :: suf ∧ (∀ z ∈ pre, covers z pc = false ∨ (z.catchType ≠ 0 ∧ ∃ nm : String, Cond.classLink own z.catchType nm ∈ rTG ∧ (E, nm) ∈ rNcs)) ∧ covers x pc = true ∧ x.catchType ≠ 0 ∧ Cond.classLink own x.catchType name ∈ rTG ∧ (∃ j : Nat, rNGs[j]? = some (Cond.castable E name)) ∧ rSnd lab M x.handlerPc code
theorem rNth_ge : ∀ (l : List rP) (x : Nat) (df : rP), l.length ≤ x → rNth l x df = df
  | [], _, _, _ => rfl
  | _ :: l, 0, _, h => absurd h (by simp)
  | _ :: l, x + 1, df, h => rNth_ge l x df (Nat.le_of_succ_le_succ h)
theorem rCat_i {h : rH} {k : Nat → rH → rR} {res : rO × rH} (hh : rCat h k = some res) : hN h ≤ 510 ∧ k (hN h) (h.1, (Nat.succ (hN h), h.2.2)) = some res := by
  obtain ⟨e, hh⟩ := iBt hh
  exact ⟨bl e, hh⟩
section SND8
variable {lab : Nat → rM × Nat} {M Mc : rM} {pc pc' ln id n : Nat} {nx : rP}
theorem s_Ch {kd : Nat} {C own : String} {ex : Nat → rP} (hk0 : kd ≠ 0) (hCC : rNm kd = C) (ho : (rMy M).cls = own) (hlab : lab id = (Mc, 0)) (hLL : rLnk M pc 3 Mc (rvV C) (n + 1)) (hex : ∀ e9, 4 ≤ e9 → ex e9 = oNone) (hhd : ∀ e9 E, rExn[e9]? = some E → ex e9 = oNone ∨ rHd lab M pc own E (ex e9)) (kx : rSnd lab M (pc + 3) nx) : rSnd lab M pc (oCh kd id n ex nx) := by
  intro w l d jb jc hb hc L S h res hh
  obtain ⟨vs, S', rfl, hlen, hh⟩ := rArg_i hh
  obtain ⟨o, S1, rfl, hh⟩ := iP hh
  obtain ⟨a, rfl, hh⟩ := iA hh
  obtain ⟨hh, hsl⟩ := rSh_i hh
  obtain ⟨e0, hh⟩ := iBt hh
  have ek : (rAt h a).1 = kd := bq e0
  have hcon := hc id (by rw [hlab])
  rw [hlab] at hcon
  have key : ∀ (res' : rO × rH), jc id (vR a :: (layA vs.reverse ++ [])) [] h = some res' → ∀ {p : Program} {e : Env} {R : Room} {s : State} {m : MethodId} {args : Array Value} {below : List Frame} {meth : Method} {c : Code} {H : Heap} {locs : List Loc} {cells slots : Nat} {ls : Array Slot} {lv : List (Nat × Value)} {st : List Value} {ad : Nat → Nat}, rCtx w (d + 1) M p l R s m args meth c → rHp w s ad h H → lv_has ls (rMl M) lv → rStk w ad (hN h) (vs ++ vR a :: S1) st → cells + (hC res'.2 - hC h) ≤ R.cells ∧ slots + (hL res'.2 - hL h) ≤ R.slots →
      ∃ (av : Array Value) (rest : List Value), rStk w ad (hN h) S1 rest ∧ rRun 3 p l e R s m args below meth c H locs cells slots (hC res'.2 - hC h) (hL res'.2 - hL h) (F0 m pc ls st) rest (rQc w ad h res' av) (rXc w ad h res') (rFree w) := by
    intro res' hr p e R s m args below meth c H locs cells slots ls lv st ad hX hP hl hS hroom
    obtain ⟨hm, hM⟩ := hcon _ _ _ hr
    obtain ⟨us, st', rfl, e1, e2, e3⟩ := hS.app
    obtain ⟨v3, st3, rfl, g3, hS3⟩ := e3.cons
    have hargs := rArgs_of (xs := vR a :: vs.reverse) (us := v3 :: us.reverse) ⟨g3, e2.rev⟩
    rw [layA_R] at hargs
    obtain ⟨y1, y2, hv3, cell, y3, y4, y5⟩ := hP.named hX.2.2.2.2.2.2.2.2.2.1.1 g3 (by rw [ek]; exact hk0)
    rw [ek, hCC] at y5
    obtain ⟨b, hb3, hb4⟩ : ∃ b, v3 = .ref b ∧ _ = b := ⟨_, hv3, rfl⟩
    rw [hb4] at y3
    subst hb3
    exact ⟨(.ref b :: us.reverse).toArray, st3, hS3, hLL hX (hM _ _ hargs) hP ⟨b, _, rfl, cell, y3, by rw [y4]; rfl, y5⟩ (by simp [e1, hlen]) hl.1 (by simp) (by have := hS3.len; omega) hroom⟩
  rcases rRet_i hh with ⟨v, h', hr, hh⟩ | ⟨e9, h', hr, hh⟩
  · exact rTo.run (hcon _ _ _ hr).1 (kx w l d jb jc hb hc _ _ _ _ hh) fun hX hP hl hS hroom => key _ hr hX hP hl hS hroom
  · obtain ⟨hn9, hh⟩ := rCat_i hh
    have hm := (hcon _ _ _ hr).1
    cases hE : rExn[e9]? with
    | none =>
      rw [hex e9 (by have := List.getElem?_eq_none_iff.mp hE; exact this)] at hh
      cases hh
    | some E =>
      rcases hhd e9 E hE with h1 | ⟨name, pre, x, suf, t1, t2, t3, t4, t5, ⟨j, t6⟩, t7⟩
      · rw [h1] at hh; cases hh
      · have hm2 : hN h ≤ hN h' := hm.1
        have hmC : hC h ≤ hC h' := hm.2.1
        have hmL : h.2.2.2.1 ≤ h'.2.2.2.1 := hm.2.2
        refine rTo.gen (h' := (h'.1, (Nat.succ (hN h'), h'.2.2))) ⟨by show hN h ≤ hN h' + 1; omega, hmC, hmL⟩ (t7 w l d jb jc hb hc _ _ _ _ hh) fun {p} {e} {R} {s} {m} {args} {below} {meth} {c} {Q} {H} {locs} {cells} {slots} {ls} {lv} {st} {ad} {mc} {ms} hX hP hs hl hLo hS hmm hcs hlo kk => ?_
        have c1 : cells + hC h' ≤ mc + hC h := hcs.1
        have c2 : slots + h'.2.2.2.1 ≤ ms + h.2.2.2.1 := hcs.2
        have r1 := hmm.1
        have r2 := hmm.2
        obtain ⟨av, rest, hR, hrun⟩ := key _ hr hX hP hl hS (e := e) (below := below) (locs := locs) (cells := cells) (slots := slots) ⟨by show cells + (hC h' - hC h) ≤ R.cells; omega, by show slots + (h'.2.2.2.1 - h.2.2.2.1) ≤ R.slots; omega⟩
        intro T hT X
        rcases hrun T hT X with ⟨v', st₀, t, T', L', h0, X', hL', e1, e2, ⟨r, v'', ad', q1, -⟩, st9⟩ | ⟨q, st₀, t, T', L', E', ce, h0, X', hL', e1, e2, ⟨e8, ad', q1, q2, q3, q4, q5⟩, hce, hcv, hcl, st9⟩
        · cases q1
        · obtain rfl : e9 = e8 := Sum.inr.inj q1
          obtain rfl : E = E' := Option.some.inj (hE.symm.trans q2)
          have hal : t.vm.Alike s.vm := by rw [← e2]; exact X'.warmed.alike.symm
          have hsz : H.size ≤ T'.heap.size := by rw [e1, ← h0]; exact q5
          have hK := hX.2.2.2.2.2.2.2.2.2.1
          have ht := hX.2.2.2.2.1
          have hP' : rHp w s ad' h' T'.heap := by rw [e1]; exact q4.moved hal
          have hcat := rHp.cat (h := h') (q := q) (r := h'.2.2) hP' hn9
          have hext : rExt (hN h) ad (rUp ad' (hN h') q) := q3.tr rUp_ext hm2
          have hgo := kk (rUp ad' (hN h') q) T'.heap (locs ++ L') (cells + (hC h' - hC h)) (slots + (h'.2.2.2.1 - h.2.2.2.1)) ls lv [.ref q] hext hcat hsz hl (hLo.mono (by show hN h ≤ hN h' + 1; omega) hext) ⟨Or.inr (Or.inr (Or.inr ⟨hP'.1.1, Nat.lt_succ_self _, by rw [rUp_self]⟩)), trivial⟩ (by show cells + (hC h' - hC h) + hC h ≤ cells + hC h'; omega) (by show slots + (h'.2.2.2.1 - h.2.2.2.1) + h.2.2.2.1 ≤ slots + h'.2.2.2.1; omega) (fun z hz => by
            rcases List.mem_append.mp hz with q | q
            · exact hlo z q
            · exact hL' z q)
          have hsome : rMh M ≠ none := fun hn => by rw [hn] at t1; cases pre <;> cases t1
          have htab := hX.2.2.2.2.2.2.2.2.1 (Or.inr hsome)
          rw [t1] at htab
          obtain ⟨t2', a1, b1⟩ := vx_catch (rest := rest) (ho ▸ hX.2.2.2.1) pre x suf htab (fun z hz => by
            rcases t2 z hz with h | ⟨z0, nm, h1, h2⟩
            · exact Or.inl h
            · exact Or.inr ⟨z0, nm, ht _ h1, hK.2.2.2 _ h2⟩) t3 t4 (ht _ t5) (va_Nw.use rfl (hK.ng j t6)) (by rw [e1]; exact hce) hcv hcl hgo T' rfl X'
          exact ⟨t2', st9.trans a1, b1⟩
theorem s_Ent {k : Nat} (kx : rSnd lab M pc nx) : rSnd lab M pc (oEnt k nx) := by
  intro w l d jb jc hb hc L S h res hh
  obtain ⟨-, hh⟩ := iBt hh
  exact kx w l d jb jc hb hc _ _ _ _ hh
end SND8
section LDW
variable {p : Program} {l : Launch} {e : Env} {R : Room} {s : State} {m : MethodId} {args : Array Value} {below : List Frame} {meth : Method} {c : Code} {T : State} {locs : List Loc} {cells slots : Nat}
theorem rLdw (X : Stand p l e R s m args below meth c T locs cells slots) (hexec : p.tables.exec = Jvm.exec) {own : String} {index : Nat} {v : Int32} (hown : s.vm.findClass own = some m.cls) (hconst : (Jvm.Cond.constant own index v).before args s = true) {g : JFrame} (hg : g.method = m) (hdg : decode c.code g.pc = .ok (.ldc_w index, 3)) (target : State)
    (hr : Steps p.tables e below (T.setTop { g with pc := g.pc + 3, stack := .int v :: g.stack }) target) : Steps p.tables e below (T.setTop g) target := by
  obtain ⟨k0, file, raw, w1, w2, w3, w4⟩ := Cond.constant_spec hown hconst
  obtain ⟨k1, w5, w6⟩ := X.warmed.alike.2.2 _ _ w1
  subst hg
  have w7 : k1.cf = some file := by rw [w6]; exact w2
  jvm_step X.here [hexec, hdg, ldc_w.sem, ldc.wp_int (s := T) (f := g) X.here.top w5 w7 w3, w4]
  exact hr
end LDW
theorem s_ldw {lab : Nat → rM × Nat} {M : rM} {pc pc' : Nat} {nx : rP} {i N : Nat} {own : String} {v : Int32} (ho : (rMy M).cls = own) (hw : Cond.constant own i v ∈ rTG) (hdg : rDec M pc (.ldc_w i) 3 pc') (hv : v = nI N) (hN : N < 4294967296) (k : rSnd lab M pc' nx) : rSnd lab M pc (oPsh (vI N) nx) := by
  intro w l d jb jc hb hc L S h res hr
  refine (k w l d jb jc hb hc _ _ _ _ hr).step fun hX _ hl hL hS kk => ?_
  obtain ⟨hdg, rfl⟩ := hdg
  subst hv
  have hk := kk _ _ (_ :: _) hl hL ⟨⟨hN, rfl⟩, hS⟩
  intro T hT X
  obtain ⟨t, a, b⟩ := hk T hT X
  exact ⟨t, rLdw X hX.1 (ho ▸ hX.2.2.2.1) (hX.2.2.2.2.1 _ hw) rfl (by rw [hX.2.1]; exact hdg) t a, b⟩
