-- ===== arrays =====
section ARR1
variable {w : rW} {U : State} {ad : Nat → Nat} {H : Heap} {h : rH}
theorem rIx {x n : Nat} (hx : x < n) (hn : n ≤ 65536) : (nI x).toNatClampNeg = x ∧ ¬ (nI x < 0 ∨ n ≤ (nI x).toNatClampNeg) := ⟨nI_clamp (by omega), nI_in hx (by omega)⟩
theorem rNn {x : Nat} (hx : x ≤ 65536) : (nI x).toNatClampNeg = x ∧ ¬ nI x < 0 := by
  have h := nI_in (c := x) (N := x + 1) (by omega) (by omega)
  exact ⟨nI_clamp (by omega), fun q => h (Or.inl q)⟩
def rRf : FieldType → Prop := fun ty => ty = .int ∨ ty = .long ∨ ty = .boolean ∨ (∃ C, ty = .object C) ∨ ∃ t, ty = .array t
theorem rAts_k : ∀ {t : Nat} {ty : FieldType}, rAts[t]? = some ty → rRf ty ∧ componentBytes ty ≤ 8 ∧ (3 ≤ t → ty.isReference = true) := by
  intro t ty ht
  have hl := (List.getElem?_eq_some_iff.mp ht).1
  have hl : t < 9 := hl
  have : t = 0 ∨ t = 1 ∨ t = 2 ∨ t = 3 ∨ t = 4 ∨ t = 5 ∨ t = 6 ∨ t = 7 ∨ t = 8 := by omega
  rcases this with rfl | rfl | rfl | rfl | rfl | rfl | rfl | rfl | rfl <;> cases ht <;> simp [rRf, componentBytes, FieldType.isReference]
theorem rHp.newA {H1 : Heap} {t x cs sl : Nat} {ty : FieldType} {cA : ClassId} (hH : rHp w U ad h H) (hn : hN h ≤ 510) (hx : x ≤ 65536) (ht : rAts[t]? = some ty) (e1 : H1[H.size]? = some (arrV cA x (fun _ => defaultValue ty))) (z1 : H1.size = H.size + 1) (o1 : ∀ q : Nat, q < H.size → H1[q]? = H[q]?) (ha : ArrOfT U cA ty) (hra : va_RA U cA ty) :
    rHp w U (rUp ad (hN h) H.size) (tS9 h.1 (hN h) (2 * t + 1, (x, 0)), (Nat.succ (hN h), (cs, (sl, rScr h)))) H1 := by
  refine hH.new hn ?_ z1 o1
  refine Or.inr ⟨hH.2.2.2.1, Or.inr ⟨t, ty, rfl, ht, hx, cA, _, e1, ha, hra, fun j hj => ?_⟩⟩
  show rVal w _ _ (rTag ty (rPl 0 j)) _
  rw [rPl_0]
  exact rDv _ (rAts_k ht).1
end ARR1
section SND4
variable {lab : Nat → rM × Nat} {M : rM} {pc pc' : Nat} {nx : rP}
-- a new array: what the machine's row gives
def rNaR (M : rM) (i : Instr) (ln pc : Nat) (ty : FieldType) (ok : State → Array Value → Prop) : Prop := ∀ {p : Program} {l : Launch} {e : Env} {R : Room} {s : State} {m : MethodId} {args : Array Value} {below : List Frame} {meth : Method} {c : Code} {Q : State → Prop} {H : Heap} {locs : List Loc} {cells slots : Nat} {ls : Array Slot} {rest : List Value} {x : Nat}, p.tables.exec = Jvm.exec → c.code = rMc_ M → s.vm.findClass (rMy M).cls = some m.cls → ok s args → decode (rMc_ M) pc = .ok (i, ln) → x ≤ 65536 → cells + 1 ≤ R.cells → slots + x ≤ R.slots →
  (∀ (H1 : Heap) (cA : ClassId), H1[H.size]? = some (arrV cA x (fun _ => defaultValue ty)) → H1.size = H.size + 1 → (∀ q : Nat, q < H.size → H1[q]? = H[q]?) → ArrOfT s cA ty → va_RA s cA ty → W p l e R s m args below meth c H1 locs (cells + 1) (slots + x) Q (F0 m (pc + ln) ls (.ref H.size :: rest))) →
  W p l e R s m args below meth c H locs cells slots Q (F0 m pc ls (.int (nI x) :: rest))
theorem q_newa {at_ : ArrayType} (hty : newarray.typeOf at_ = .int ∨ newarray.typeOf at_ = .long ∨ newarray.typeOf at_ = .boolean) : rNaR M (.newarray at_) 2 pc (newarray.typeOf at_) (fun s args => (Cond.arrayClass (newarray.typeOf at_)).before args s = true) := by
  intro p l e R s m args below meth c Q H locs cells slots ls rest x h1 h2 h3 h4 h5 hx hc hs kk
  refine va_newaK h1 h2 h4 (N := x) rfl h5 rfl (rNn hx).2 (rNn hx).1 ?_ hc hs rfl (fun H1 cA g1 g2 g3 g4 g5 => kk H1 cA g1 g2 g3 g4 ?_)
  · rcases hty with h | h | h <;> rw [h] <;> simp [componentBytes] <;> omega
  · rcases hty with h | h | h <;> rw [h] at g5 ⊢ <;> exact g5
theorem q_anew {C : String} {i : Nat} {own : String} (ho : (rMy M).cls = own) : rNaR M (.anewarray i) 3 pc (.object C) (fun s args => (Cond.classLink own i C).before args s = true ∧ (Cond.arrayOver (.object C)).before args s = true) := by
  intro p l e R s m args below meth c Q H locs cells slots ls rest x h1 h2 h3 h4 h5 hx hc hs kk
  have hcl := (rNn hx).1
  refine W.anew h1 h2 (ho ▸ h3) h4.1 h4.2 rfl h5 rfl (rNn hx).2 (by rw [hcl]; omega) hc (by rw [hcl]; exact hs) fun cA kA comp f1 f2 f3 f4 => ?_
  rw [hcl]
  generalize hH1 : H.push ({ cls := cA, slots := Array.replicate x .null, vm := .none } : Cell) = H1
  exact kk H1 cA (by rw [← hH1, Array.getElem?_push_size, ← arrV_new]; rfl) (by rw [← hH1, Array.size_push]) (fun q hq => by rw [← hH1, Array.getElem?_push, if_neg (Nat.ne_of_lt hq)]) (fun N z => ⟨(fun k h => by cases h), kA, f2, comp, f3⟩) ⟨kA, comp, f2, f3, f4, f1⟩
theorem q_anewA {t : FieldType} {i : Nat} {own : String} (ho : (rMy M).cls = own) : rNaR M (.anewarray i) 3 pc (.array t) (fun s args => (Cond.classLink own i (FieldType.array t).toString).before args s = true ∧ (Cond.arrayOver (.array t)).before args s = true) := by
  intro p l e R s m args below meth c Q H locs cells slots ls rest x h1 h2 h3 h4 h5 hx hc hs kk
  have hcl := (rNn hx).1
  refine W.anewA h1 h2 (ho ▸ h3) h4.1 h4.2 rfl h5 rfl (rNn hx).2 (by rw [hcl]; omega) hc (by rw [hcl]; exact hs) fun cA kA comp f1 f2 f3 f4 => ?_
  rw [hcl]
  generalize hH1 : H.push ({ cls := cA, slots := Array.replicate x .null, vm := .none } : Cell) = H1
  exact kk H1 cA (by rw [← hH1, Array.getElem?_push_size, ← arrV_new]; rfl) (by rw [← hH1, Array.size_push]) (fun q hq => by rw [← hH1, Array.getElem?_push, if_neg (Nat.ne_of_lt hq)]) (fun N z => ⟨(fun k h => by cases h), kA, f2, comp, f3⟩) f1
theorem s_Nwa {t ln : Nat} {ty : FieldType} {i : Instr} {ok : State → Array Value → Prop} (ht : rAts[t]? = some ty) (hR : rNaR M i ln pc ty ok) (hok : ∀ {w : rW} {s : State} {args : Array Value}, (∀ wd ∈ rTG, wd.before args s = true) → rKx w s → ok s args) (hdg : rDec M pc i ln pc') (kx : rSnd lab M pc' nx) : rSnd lab M pc (oNwa (2 * t + 1) nx) := by
  intro w l d jb jc hb hc L S h res hh
  obtain ⟨hdg, rfl⟩ := hdg
  obtain ⟨o, S1, rfl, hh⟩ := iP hh
  obtain ⟨x, rfl, hh⟩ := iI hh
  obtain ⟨ex, hh⟩ := iBt hh
  obtain ⟨e0, hh⟩ := iBt hh
  have hn : hN h ≤ 510 := bl e0
  have hx : x ≤ 65536 := bl ex
  refine rTo.gen (h' := (tS9 h.1 (hN h) (2 * t + 1, (x, 0)), (Nat.succ (hN h), (Nat.succ (hC h), (Nat.add (hL h) x, rScr h))))) ⟨Nat.le_succ _, Nat.le_succ _, Nat.le_add_right _ _⟩ (kx w l d jb jc hb hc _ _ _ _ hh) fun {p} {e} {R} {s} {m} {args} {below} {meth} {c} {Q} {H} {locs} {cells} {slots} {ls} {lv} {st} {ad} {mc} {ms} hX hP hs hl hLo hS hm hcs hlo kk => ?_
  obtain ⟨v, st1, rfl, h2, hS1⟩ := hS.cons
  obtain ⟨-, rfl⟩ := h2.i
  have b1 : cells + (hC h + 1) ≤ mc + hC h := hcs.1
  have b2 : slots + (hL h + x) ≤ ms + hL h := hcs.2
  refine hR hX.1 hX.2.1 hX.2.2.2.1 (hok hX.2.2.2.2.1 hX.2.2.2.2.2.2.2.2.2.1) hdg hx (by omega) (by omega) fun H1 cA e1 z1 o1 ha hra => ?_
  exact kk (rUp ad (hN h) H.size) H1 locs _ _ ls lv (.ref H.size :: st1) rUp_ext (hP.newA hn hx ht e1 z1 o1 ha hra) (by omega) hl (hLo.mono (Nat.le_succ _) rUp_ext) ⟨Or.inr (Or.inr (Or.inr ⟨hP.1.1, Nat.lt_succ_self _, by rw [rUp_self]⟩)), hS1.mono (Nat.le_succ _) rUp_ext⟩ (by show cells + 1 + hC h ≤ cells + (hC h + 1); omega) (by show slots + x + hL h ≤ slots + (hL h + x); omega) hlo
-- what the stores and loads give
def rStR (M : rM) (i : Instr) (pc : Nat) (ty : FieldType) : Prop := ∀ {p : Program} {l : Launch} {e : Env} {R : Room} {s : State} {m : MethodId} {args : Array Value} {below : List Frame} {meth : Method} {c : Code} {Q : State → Prop} {H : Heap} {locs : List Loc} {cells slots : Nat} {ls : Array Slot} {rest : List Value} {a : Addr} {cell : Cell} {j : Int32} {v : Value}, p.tables.exec = Jvm.exec → c.code = rMc_ M → H[a]? = some cell → s.isArrayOf cell ty → cell.vm ≠ .unknown → ¬ (j < 0 ∨ cell.slots.size ≤ j.toNatClampNeg) → decode (rMc_ M) pc = .ok (i, 1) → fits ty v = true → narrow ty v = v →
  (∀ H' : Heap, H'[a]? = some (cell.setSlot j.toNatClampNeg v) → H'.size = H.size → (∀ q, q ≠ a → H'[q]? = H[q]?) → W p l e R s m args below meth c H' (locs ++ [⟨a, j.toNatClampNeg⟩]) cells slots Q (F0 m (pc + 1) ls rest)) → W p l e R s m args below meth c H locs cells slots Q (F0 m pc ls (v :: .int j :: .ref a :: rest))
theorem q_iast : rStR M .iastore pc .int := by
  intro p l e R s m args below meth c Q H locs cells slots ls rest a cell j v h1 h2 h3 h4 h5 h6 h7 h8 h9 kk
  cases v <;> first | (cases h8; done) | exact W.iast h1 h2 h3 h4 h5 h6 rfl rfl h7 kk
theorem q_last : rStR M .lastore pc .long := by
  intro p l e R s m args below meth c Q H locs cells slots ls rest a cell j v h1 h2 h3 h4 h5 h6 h7 h8 h9 kk
  cases v <;> first | (cases h8; done) | exact W.last h1 h2 h3 h4 h5 h6 rfl rfl h7 kk
theorem q_zast : rStR M .bastore pc .boolean := by
  intro p l e R s m args below meth c Q H locs cells slots ls rest a cell j v h1 h2 h3 h4 h5 h6 h7 h8 h9 kk
  cases v <;> first | (cases h8; done) | exact W.zast h1 h2 h3 h4 h5 h6 rfl rfl h7 (by rw [h9]; exact kk)
def rLdR (M : rM) (i : Instr) (pc : Nat) (ty : FieldType) : Prop := ∀ {p : Program} {l : Launch} {e : Env} {R : Room} {s : State} {m : MethodId} {args : Array Value} {below : List Frame} {meth : Method} {c : Code} {Q : State → Prop} {H : Heap} {locs : List Loc} {cells slots : Nat} {ls : Array Slot} {rest : List Value} {a : Addr} {cell : Cell} {j : Int32} {v : Value}, p.tables.exec = Jvm.exec → c.code = rMc_ M → H[a]? = some cell → s.isArrayOf cell ty → cell.vm ≠ .unknown → ¬ (j < 0 ∨ cell.slots.size ≤ j.toNatClampNeg) → cell.slots[j.toNatClampNeg]? = some v → decode (rMc_ M) pc = .ok (i, 1) →
  W p l e R s m args below meth c H locs cells slots Q (F0 m (pc + 1) ls (v :: rest)) → W p l e R s m args below meth c H locs cells slots Q (F0 m pc ls (.int j :: .ref a :: rest))
theorem q_iald : rLdR M .iaload pc .int := fun h1 h2 h3 h4 h5 h6 h7 h8 kk => W.iald h1 h2 h3 h4 h5 h6 h7 rfl rfl h8 kk
theorem q_lald : rLdR M .laload pc .long := fun h1 h2 h3 h4 h5 h6 h7 h8 kk => W.lald h1 h2 h3 h4 h5 h6 h7 rfl rfl h8 kk
theorem q_zald : rLdR M .baload pc .boolean := fun h1 h2 h3 h4 h5 h6 h7 h8 kk => W.zald h1 h2 h3 h4 h5 h6 h7 rfl rfl h8 kk
theorem q_aald {ty : FieldType} (hty : ty.isReference = true) : rLdR M .aaload pc ty := fun h1 h2 h3 h4 h5 h6 h7 h8 kk => W.aald h1 h2 h3 h4 hty h5 h6 h7 rfl rfl h8 kk
theorem s_Ast {t tc : Nat} {ty : FieldType} {i : Instr} (ht : rAts[t]? = some ty) (hR : rStR M i pc ty) (htc : rFc ty = tc) (htc4 : tc < 4) (hdg : rDec M pc i 1 pc') (kx : rSnd lab M pc' nx) : rSnd lab M pc (oAst (2 * t + 1) tc nx) := by
  intro w l d jb jc hb hc L S h res hh
  obtain ⟨hdg, rfl⟩ := hdg
  obtain ⟨vv, S1, rfl, hh⟩ := iP hh
  obtain ⟨ii, S1, rfl, hh⟩ := iP hh
  obtain ⟨oo, S1, rfl, hh⟩ := iP hh
  obtain ⟨a, rfl, hh⟩ := iA hh
  obtain ⟨x, rfl, hh⟩ := iI hh
  obtain ⟨y, hh, hy⟩ := rUn_i hh
  obtain ⟨e0, hh⟩ := iBt hh
  obtain ⟨e1, hh⟩ := iBf hh
  have hh := iN hh
  refine rTo.gen (h' := rPut h a ((rAt h a).1, ((rAt h a).2.1, rSp (rAt h a).2.2 x 1 y))) ⟨Nat.le_refl _, Nat.le_refl _, Nat.le_refl _⟩ (kx w l d jb jc hb hc _ _ _ _ hh) fun {p} {e} {R} {s} {m} {args} {below} {meth} {c} {Q} {H} {locs} {cells} {slots} {ls} {lv} {st} {ad} {mc} {ms} hX hP hs hl hLo hS hm hcs hlo kk => ?_
  obtain ⟨v, st1, rfl, g1, hS1⟩ := hS.cons
  obtain ⟨v2, st2, rfl, g2, hS2⟩ := hS1.cons
  obtain ⟨v3, st3, rfl, g3, hS3⟩ := hS2.cons
  obtain ⟨-, rfl⟩ := g2.i
  have ek : (rAt h a).1 = 2 * t + 1 := bq e0
  have el : x < (rAt h a).2.1 := blf e1
  obtain ⟨p1, p2, p3, rfl, p5, cA, f, q1, q2, q3, q4⟩ := hP.arr g3 ek ht
  obtain ⟨x64, hval, hnar, hfit⟩ := rUn_v (fty := ty) hP.1.2.1 (rUn_c htc htc4 hy) g1
  obtain ⟨i1, i2⟩ := rIx el p5
  refine hR hX.1 hX.2.1 q1 (q2 _ _) (fun q => by cases q) (by rw [arrV_size]; exact i2) hdg hfit hnar fun H' e1 e2 e3 => ?_
  rw [i1, arrV_store] at e1
  refine kk ad H' _ cells slots ls lv st3 rExt.rf (hP.put p1 p2 (by omega) (c' := ((rAt h a).1, ((rAt h a).2.1, rSp (rAt h a).2.2 x 1 y))) ?_ (by show (rAt h a).1 ≠ 0; omega) (by omega) e3) (by omega) hl hLo hS3 (Nat.le_refl _) (Nat.le_refl _) ?_
  · refine Or.inr ⟨p3, Or.inr ⟨t, ty, ek, ht, p5, cA, _, e1, q2, q3, fun j hj => ?_⟩⟩
    show rVal w ad (hN h) (rTag ty (rPl (rSp (rAt h a).2.2 x 1 y) j)) (updV f x v j)
    rw [rPl_put _ _ _ _ x64]
    unfold updV
    by_cases hjk : j = x
    · rw [if_pos hjk, if_pos hjk]; exact hval
    · rw [if_neg hjk, if_neg hjk]; exact q4 j hj
  · intro z hz
    rcases List.mem_append.mp hz with hz | hz
    · exact hlo z hz
    · rw [List.mem_singleton.mp hz]; exact p3
theorem s_Ald {t : Nat} {ty : FieldType} {i : Instr} {mk : Nat → rV} (ht : rAts[t]? = some ty) (hR : rLdR M i pc ty) (hm : rTag ty = mk) (hdg : rDec M pc i 1 pc') (kx : rSnd lab M pc' nx) : rSnd lab M pc (oAld (2 * t + 1) mk nx) := by
  intro w l d jb jc hb hc L S h res hh
  obtain ⟨hdg, rfl⟩ := hdg
  obtain ⟨ii, S1, rfl, hh⟩ := iP hh
  obtain ⟨oo, S1, rfl, hh⟩ := iP hh
  obtain ⟨a, rfl, hh⟩ := iA hh
  obtain ⟨x, rfl, hh⟩ := iI hh
  obtain ⟨e0, hh⟩ := iBt hh
  obtain ⟨e1, hh⟩ := iBf hh
  refine (kx w l d jb jc hb hc _ _ _ _ hh).step fun hX hP hl hLo hS kk => ?_
  obtain ⟨v2, st2, rfl, g2, hS2⟩ := hS.cons
  obtain ⟨v3, st3, rfl, g3, hS3⟩ := hS2.cons
  obtain ⟨-, rfl⟩ := g2.i
  have ek : (rAt h a).1 = 2 * t + 1 := bq e0
  have el : x < (rAt h a).2.1 := blf e1
  obtain ⟨p1, p2, p3, rfl, p5, cA, f, q1, q2, q3, q4⟩ := hP.arr g3 ek ht
  obtain ⟨i1, i2⟩ := rIx el p5
  exact hR hX.1 hX.2.1 q1 (q2 _ _) (fun q => by cases q) (by rw [arrV_size]; exact i2) (v := f x) (by rw [i1]; exact arrV_read _ _ el) hdg (kk _ _ (_ :: _) hl hLo ⟨by rw [← hm]; exact q4 x el, hS3⟩)
theorem land_odd (n : Nat) : Nat.land n 1 = n % 2 := Nat.and_two_pow_sub_one_eq_mod n 1
theorem s_Aal (hdg : rDec M pc .aaload 1 pc') (kx : rSnd lab M pc' nx) : rSnd lab M pc (oAal nx) := by
  intro w l d jb jc hb hc L S h res hh
  obtain ⟨hdg, rfl⟩ := hdg
  obtain ⟨ii, S1, rfl, hh⟩ := iP hh
  obtain ⟨oo, S1, rfl, hh⟩ := iP hh
  obtain ⟨a, rfl, hh⟩ := iA hh
  obtain ⟨x, rfl, hh⟩ := iI hh
  obtain ⟨e0, hh⟩ := iBt hh
  obtain ⟨e2, hh⟩ := iBt hh
  obtain ⟨e1, hh⟩ := iBf hh
  refine (kx w l d jb jc hb hc _ _ _ _ hh).step fun hX hP hl hLo hS kk => ?_
  obtain ⟨v2, st2, rfl, g2, hS2⟩ := hS.cons
  obtain ⟨v3, st3, rfl, g3, hS3⟩ := hS2.cons
  obtain ⟨-, rfl⟩ := g2.i
  have ek : Nat.land (rAt h a).1 1 = 1 := bq e0
  rw [land_odd] at ek
  have e7 : 7 ≤ (rAt h a).1 := bl e2
  have el : x < (rAt h a).2.1 := blf e1
  obtain ⟨t, ty, e3, ht⟩ : ∃ t ty, (rAt h a).1 = 2 * t + 1 ∧ rAts[t]? = some ty := by
    obtain ⟨h1, h2, h3, h4⟩ := hP.deref g3 (by omega)
    rcases h4 with h4 | ⟨h5, ⟨ci', r', e1, -⟩ | ⟨t', ty', e1, e2, -⟩⟩
    · omega
    · omega
    · exact ⟨t', ty', e1, e2⟩
  obtain ⟨p1, p2, p3, rfl, p5, cA, f, q1, q2, q3, q4⟩ := hP.arr g3 e3 ht
  obtain ⟨i1, i2⟩ := rIx el p5
  have hrf := (rAts_k ht).2.2 (by omega)
  refine q_aald hrf hX.1 hX.2.1 q1 (q2 _ _) (fun q => by cases q) (by rw [arrV_size]; exact i2) (v := f x) (by rw [i1]; exact arrV_read _ _ el) hdg (kk _ _ (_ :: _) hl hLo ⟨?_, hS3⟩)
  have := q4 x el
  cases ty <;> first | (cases hrf; done) | exact this
theorem s_Len (hdg : rDec M pc .arraylength 1 pc') (kx : rSnd lab M pc' nx) : rSnd lab M pc (oLen nx) := by
  intro w l d jb jc hb hc L S h res hh
  obtain ⟨hdg, rfl⟩ := hdg
  obtain ⟨oo, S1, rfl, hh⟩ := iP hh
  obtain ⟨a, rfl, hh⟩ := iA hh
  rcases iB hh with ⟨e0, hh⟩ | ⟨n0, hh⟩
  · refine (kx w l d jb jc hb hc _ _ _ _ hh).step fun hX hP hl hLo hS kk => ?_
    obtain ⟨v3, st3, rfl, g3, hS3⟩ := hS.cons
    have ea : a = 8192 := bq e0
    subst ea
    obtain ⟨⟨L9, xs, ⟨scr, x1, x2, x3, x4, x5⟩, x6, x7, x8⟩, x9, -⟩ := hX.2.2.2.2.2.2.2.2.2.1.2.1
    have hv : v3 = .ref (wE w) := by
      have hlim : hN h ≤ 512 := hP.1.2.1
      rcases g3.r with ⟨e, -⟩ | ⟨-, e⟩ | ⟨e, -⟩ | ⟨-, e, -⟩
      · omega
      · exact e
      · omega
      · omega
    subst hv
    have hlen : rLen (rScr h) = L9 := by
      rw [hP.1.2.2.1, ← x6]
      generalize wS w = l9
      induction l9 with
      | nil => rfl
      | cons a l ih => exact congrArg Nat.succ ih
    refine W.alen (n := nI L9) hX.1 hX.2.1 (by rw [hP.2.2.2.2 _ x9]; exact x1) x2 (by rw [x4]; rfl) rfl rfl hdg (kk _ _ (_ :: _) hl hLo ⟨⟨by rw [hlen]; omega, by rw [hlen]⟩, hS3⟩)
  rcases iB hh with ⟨e0, hh⟩ | ⟨n1, hh⟩
  · refine (kx w l d jb jc hb hc _ _ _ _ hh).step fun hX hP hl hLo hS kk => ?_
    obtain ⟨v3, st3, rfl, g3, hS3⟩ := hS.cons
    have ea : a = 16384 := bq e0
    subst ea
    obtain ⟨-, -, -, ⟨cell, x1, x2, x3, x4⟩, -⟩ := hX.2.2.2.2.2.2.2.2.2.1.2.1
    have hv : v3 = .ref (wF w) := by
      have hlim : hN h ≤ 512 := hP.1.2.1
      rcases g3.r with ⟨e, -⟩ | ⟨e, -⟩ | ⟨-, e⟩ | ⟨-, e, -⟩
      · omega
      · omega
      · exact e
      · omega
    subst hv
    refine W.alen (n := nI 0) hX.1 hX.2.1 (by rw [hP.2.2.2.2 _ x4]; exact x1) x2 x3 rfl rfl hdg (kk _ _ (_ :: _) hl hLo ⟨⟨by decide, rfl⟩, hS3⟩)
  · obtain ⟨e0, hh⟩ := iBt hh
    refine (kx w l d jb jc hb hc _ _ _ _ hh).step fun hX hP hl hLo hS kk => ?_
    obtain ⟨v3, st3, rfl, g3, hS3⟩ := hS.cons
    have ek : Nat.land (rAt h a).1 1 = 1 := bq e0
    rw [land_odd] at ek
    obtain ⟨t, ty, e3, ht⟩ : ∃ t ty, (rAt h a).1 = 2 * t + 1 ∧ rAts[t]? = some ty := by
      obtain ⟨h1, h2, h3, h4⟩ := hP.deref g3 (by omega)
      rcases h4 with h4 | ⟨h5, ⟨ci', r', e1, -⟩ | ⟨t', ty', e1, e2, -⟩⟩
      · omega
      · omega
      · exact ⟨t', ty', e1, e2⟩
    obtain ⟨p1, p2, p3, rfl, p5, cA, f, q1, q2, q3, q4⟩ := hP.arr g3 e3 ht
    exact W.alen (n := nI (rAt h a).2.1) hX.1 hX.2.1 q1 (q2 _ _) (by rw [arrV_size]; rfl) rfl rfl hdg (kk _ _ (_ :: _) hl hLo ⟨⟨by show (rAt h a).2.1 < _; omega, rfl⟩, hS3⟩)
theorem rLg_eq (l : List rV) (n : Nat) : rLg l n = l.getD n vU := by
  induction l generalizing n with
  | nil => rfl
  | cons x l ih =>
    cases n with
    | zero => rfl
    | succ n => exact ih n
theorem rSame_i {dt x : Nat} : ∀ {n i : Nat}, rSame dt x n i = true → ∀ j, i ≤ j → j < i + n → rPl dt j = x := by
  intro n
  induction n with
  | zero => intro i _ j h1 h2; omega
  | succ n ih =>
    intro i h j h1 h2
    have h : @Bool.rec (fun _ => Bool) false (rSame dt x n (Nat.succ i)) (Nat.beq (rPl dt i) x) = true := h
    cases hb : Nat.beq (rPl dt i) x with
    | false => rw [hb] at h; cases h
    | true =>
      rw [hb] at h
      by_cases hj : j = i
      · rw [hj]; exact bq hb
      · exact ih h j (by show i + 1 ≤ j; omega) (by show j < i + 1 + n; omega)
theorem s_Ial (hdg : rDec M pc .iaload 1 pc') (kx : rSnd lab M pc' nx) : rSnd lab M pc (oIal nx) := by
  intro w l d jb jc hb hc L S h res hh
  obtain ⟨hdg, rfl⟩ := hdg
  obtain ⟨ii, S1, rfl, hh⟩ := iP hh
  obtain ⟨oo, S1, rfl, hh⟩ := iP hh
  obtain ⟨a, rfl, hh⟩ := iA hh
  rcases iB hh with ⟨e0, hh⟩ | ⟨n0, hh⟩
  · have ek : (rAt h a).1 = 2 * 0 + 1 := bq e0
    rcases iS hh with ⟨x, rfl, hh⟩ | ⟨q, rfl, hh⟩
    · obtain ⟨e1, hh⟩ := iBf hh
      refine (kx w l d jb jc hb hc _ _ _ _ hh).step fun hX hP hl hLo hS kk => ?_
      obtain ⟨v2, st2, rfl, g2, hS2⟩ := hS.cons
      obtain ⟨v3, st3, rfl, g3, hS3⟩ := hS2.cons
      obtain ⟨-, rfl⟩ := g2.i
      have el : x < (rAt h a).2.1 := blf e1
      obtain ⟨p1, p2, p3, rfl, p5, cA, f, q1, q2, q3, q4⟩ := hP.arr g3 ek rfl
      obtain ⟨i1, i2⟩ := rIx el p5
      exact q_iald hX.1 hX.2.1 q1 (q2 _ _) (fun q => by cases q) (by rw [arrV_size]; exact i2) (v := f x) (by rw [i1]; exact arrV_read _ _ el) hdg (kk _ _ (_ :: _) hl hLo ⟨q4 x el, hS3⟩)
    · obtain ⟨p9, q9, e9, hh⟩ := iX1 hh
      obtain ⟨e1, hh⟩ := iBf hh
      obtain ⟨e2, hh⟩ := iBt hh
      obtain ⟨e3, hh⟩ := iBt hh
      refine (kx w l d jb jc hb hc _ _ _ _ hh).step fun hX hP hl hLo hS kk => ?_
      obtain ⟨v2, st2, rfl, g2, hS2⟩ := hS.cons
      obtain ⟨v3, st3, rfl, g3, hS3⟩ := hS2.cons
      have el : q9 < (rAt h a).2.1 := blf e1
      have hpq : p9 ≤ q9 := bl e2
      obtain ⟨p1, p2, p3, rfl, p5, cA, f, q1, q2, q3, q4⟩ := hP.arr g3 ek rfl
      rw [e9] at g2
      obtain ⟨x, l2, rfl, f4, f5⟩ := g2.iv hpq (by omega)
      have el2 : x < (rAt h a).2.1 := by omega
      obtain ⟨i1, i2⟩ := rIx el2 p5
      have hsame : rPl (rAt h a).2.2 x = rPl (rAt h a).2.2 p9 := rSame_i e3 x f4 (by show x < p9 + (q9 + 1 - p9); omega)
      exact q_iald hX.1 hX.2.1 q1 (q2 _ _) (fun q => by cases q) (by rw [arrV_size]; exact i2) (v := f x) (by rw [i1]; exact arrV_read _ _ el2) hdg (kk _ _ (_ :: _) hl hLo ⟨by show rVal _ _ _ (vI (rPl (rAt h a).2.2 p9)) _; rw [← hsame]; exact q4 x el2, hS3⟩)
  · obtain ⟨e0, hh⟩ := iBt hh
    obtain ⟨x, rfl, hh⟩ := iI hh
    have ea : a = 8192 := bq e0
    subst ea
    have key : ∀ (z : rV), z = rLg (rScr h) x → z ≠ vU → rTo w l (d + 1) M (pc + 1) L (z :: S1) h res → rTo w l (d + 1) M pc L (vI x :: vR 8192 :: S1) h res := by
      intro z hz hzU hto
      refine hto.step fun hX hP hl hLo hS kk => ?_
      obtain ⟨v2, st2, rfl, g2, hS2⟩ := hS.cons
      obtain ⟨v3, st3, rfl, g3, hS3⟩ := hS2.cons
      obtain ⟨-, rfl⟩ := g2.i
      obtain ⟨⟨L9, xs, ⟨scr, x1, x2, x3, x4, x5⟩, x6, x7, x8⟩, x9, -⟩ := hX.2.2.2.2.2.2.2.2.2.1.2.1
      have hv : v3 = .ref (wE w) := by
        have hlim : hN h ≤ 512 := hP.1.2.1
        rcases g3.r with ⟨e, -⟩ | ⟨-, e⟩ | ⟨e, -⟩ | ⟨-, e, -⟩
        · omega
        · exact e
        · omega
        · omega
      subst hv
      have hz2 : z = (wS w).getD x vU := by rw [hz, rLg_eq, hP.1.2.2.1]
      have hxl : x < L9 := by
        rcases Nat.lt_or_ge x L9 with h | h
        · exact h
        · rw [List.getD_eq_getElem?_getD, List.getElem?_eq_none (by omega)] at hz2
          exact absurd hz2 hzU
      obtain ⟨i1, i2⟩ := rIx hxl (by omega)
      refine q_iald hX.1 hX.2.1 (by rw [hP.2.2.2.2 _ x9]; exact x1) x2 x3 (by rw [x4]; exact i2) (v := .int (xs x)) (by rw [i1]; exact x5 x hxl) hdg (kk _ _ (_ :: _) hl hLo ⟨?_, hS3⟩)
      rw [hz2]
      exact (x8 x hxl).val
    rcases iS hh with ⟨n, e, hh⟩ | ⟨q, e, hh⟩
    · exact key _ e.symm (fun z => by cases z) (kx w l d jb jc hb hc _ _ _ _ hh)
    · obtain ⟨p9, q9, e9, hh⟩ := iX1 hh
      obtain ⟨e1, hh⟩ := iBf hh
      have h6 := blf e1
      refine key _ (e9.symm.trans e.symm) (fun z => by have := congrArg (fun q : rV => match q with | .inr (.inr (.inr p)) => p.1 | _ => 0) z; simp only [vU] at this; omega) (kx w l d jb jc hb hc _ _ _ _ hh)
end SND4
