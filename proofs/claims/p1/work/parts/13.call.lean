-- ===== ends, throws, calls =====
section END1
variable {w : rW} {U U' : State} {ad : Nat → Nat} {H H1 : Heap} {h h' : rH}
theorem rEnd_i {S : List rV} {k : rR} {r : rO × rH} (hh : rEnd S k = some r) : S = [] ∧ k = some r := by
  cases S with
  | nil => exact ⟨rfl, hh⟩
  | cons a S => cases hh
theorem rHp.grow (hH : rHp w U ad h H) (hz : H.size ≤ H1.size) (hq : ∀ q : Nat, q < H.size → H1[q]? = H[q]?) (e1 : h'.1 = h.1) (e2 : hN h' = hN h) (e3 : rScr h' = rScr h) : rHp w U ad h' H1 := by
  obtain ⟨⟨a1, a2, a3, a4, a5⟩, b, d, e, f⟩ := hH
  refine ⟨⟨by rw [e2]; exact a1, by rw [e2]; exact a2, by rw [e3]; exact a3, by rw [e1]; exact a4, fun k hk hk5 => by rw [e1]; exact a5 k (by rw [← e2]; exact hk) hk5⟩, fun k hk => ?_, fun i j hi hj => by rw [e1]; rw [e2] at hi hj; exact d i j hi hj, Nat.le_trans e hz, fun q hq2 => by rw [hq q (by omega)]; exact f q hq2⟩
  rw [e1, e2]
  rw [e2] at hk
  have hc := b k hk
  rcases hc with q | ⟨q1, q | q⟩
  · exact Or.inl q
  · exact Or.inr ⟨q1, Or.inl (q.kept (hq _ q.lt))⟩
  · exact Or.inr ⟨q1, Or.inr (q.kept (hq _ q.lt))⟩
theorem rKx.gone {w : rW} {U : State} (h : rKx w U) {u' : State} (hv : u'.vm = U.vm) : rKx w u' := h.warm (by rw [hv]; exact State.WarmedH.refl U)
end END1
section SND6
variable {lab : Nat → rM × Nat} {M : rM} {pc pc' : Nat} {nx : rP}
theorem rTo.ret {w : rW} {l : Launch} {d : Nat} {L S : List rV} {h : rH} {xo : Option rV} {i : Instr} (hst : ∀ {ad : Nat → Nat} {st : List Value}, rStk w ad (hN h) S st → ∃ v : Option Value, st = v.toList ∧ rOpt w ad (hN h) xo v ∧ rRi v i ∧ rRt (rMr M) v) (hdg : decode (rMc_ M) pc = .ok (i, 1)) : rTo w l d M pc L S h (.inl xo, h) := by
  refine ⟨⟨Nat.le_refl _, Nat.le_refl _, Nat.le_refl _⟩, fun p e R s m args below meth c Q mc ms n0 ad0 hX hF ad H locs cells slots ls lv st hn hh hs hl hL hS hc hlo => ?_⟩
  obtain ⟨v, rfl, h1, h2, h3⟩ := hst hS
  have hc1 : cells + hC h ≤ mc + hC h := hc.1
  have hc2 := hc.2
  exact W.widen (k := mc) (n := ms) (by omega) (by exact Nat.le_of_add_le_add_right hc2) (hF.2.2.1 xo ad H locs pc ls v i rfl h1 h2 hdg h3 hn.2 hh hs hlo)
theorem s_Ri {lim : Nat} (hr : rMr M = some .int ∨ (rMr M = some .boolean ∧ lim ≤ 2)) (hdg : decode (rMc_ M) pc = .ok (.ireturn, 1)) : rSnd lab M pc (oRi lim) := by
  intro w l d jb jc hb hc L S h res hh
  obtain ⟨vv, S1, rfl, hh⟩ := iP hh
  obtain ⟨rfl, hh⟩ := rEnd_i hh
  obtain ⟨x, rfl, hh⟩ := iI hh
  obtain ⟨e0, hh⟩ := iBf hh
  cases hh
  have hx := blf e0
  refine rTo.ret (fun hS => ?_) hdg
  obtain ⟨v, st, rfl, h2, hS1⟩ := hS.cons
  obtain rfl := hS1.nil
  obtain ⟨h3, rfl⟩ := h2.i
  refine ⟨some (.int (nI x)), rfl, h2, rfl, ?_⟩
  rcases hr with hr | ⟨hr, hlim⟩
  · exact Or.inl hr
  · have h2 : x = 0 ∨ x = 1 := by omega
    refine Or.inr ⟨hr, ?_⟩
    rcases h2 with rfl | rfl
    · exact narrow_b0
    · exact narrow_b1
theorem s_Rl (hr : rMr M = some .long) (hdg : decode (rMc_ M) pc = .ok (.lreturn, 1)) : rSnd lab M pc oRl := by
  intro w l d jb jc hb hc L S h res hh
  obtain ⟨vv, S1, rfl, hh⟩ := iP hh
  obtain ⟨rfl, hh⟩ := rEnd_i hh
  obtain ⟨x, rfl, hh⟩ := iL hh
  cases hh
  refine rTo.ret (fun hS => ?_) hdg
  obtain ⟨v, st, rfl, h2, hS1⟩ := hS.cons
  obtain rfl := hS1.nil
  obtain ⟨h3, rfl⟩ := h2.l
  exact ⟨some (.long (lN x)), rfl, h2, rfl, hr⟩
theorem s_Rd (hr : rMr M = some .double) (hdg : decode (rMc_ M) pc = .ok (.dreturn, 1)) : rSnd lab M pc oRd := by
  intro w l d jb jc hb hc L S h res hh
  obtain ⟨vv, S1, rfl, hh⟩ := iP hh
  obtain ⟨rfl, hh⟩ := rEnd_i hh
  obtain ⟨a, b, rfl, hh⟩ := iX hh
  obtain ⟨e0, hh⟩ := iBt hh
  cases hh
  refine rTo.ret (fun hS => ?_) hdg
  obtain ⟨v, st, rfl, h2, hS1⟩ := hS.cons
  obtain rfl := hS1.nil
  obtain rfl := h2.d (bq e0)
  exact ⟨some (.double (UInt64.ofNat b)), rfl, h2, rfl, hr⟩
theorem s_Ra (hr : (∃ n, rMr M = some (.object n)) ∨ ∃ t, rMr M = some (.array t)) (hdg : decode (rMc_ M) pc = .ok (.areturn, 1)) : rSnd lab M pc oRa := by
  intro w l d jb jc hb hc L S h res hh
  obtain ⟨vv, S1, rfl, hh⟩ := iP hh
  obtain ⟨rfl, hh⟩ := rEnd_i hh
  obtain ⟨x, rfl, hh⟩ := iA hh
  cases hh
  refine rTo.ret (fun hS => ?_) hdg
  obtain ⟨v, st, rfl, h2, hS1⟩ := hS.cons
  obtain rfl := hS1.nil
  rcases rStk_rf h2 with rfl | ⟨a, rfl⟩
  · exact ⟨some .null, rfl, h2, rfl, hr⟩
  · exact ⟨some (.ref a), rfl, h2, rfl, hr⟩
theorem s_Rv (hr : rMr M = none) (hdg : decode (rMc_ M) pc = .ok (.return_, 1)) : rSnd lab M pc oRv := by
  intro w l d jb jc hb hc L S h res hh
  obtain ⟨rfl, hh⟩ := rEnd_i hh
  cases hh
  refine rTo.ret (fun hS => ?_) hdg
  obtain rfl := hS.nil
  exact ⟨none, rfl, trivial, rfl, hr⟩
theorem s_Thr {e9 ik is ic : Nat} {own cls text : String} {names : List String} (wide : Bool) (hE : rExn[e9]? = some cls) (ho : (rMy M).cls = own) (hlaw : own ≠ "WordWrightLaw") (hcls : Bundle.fit cls = true) (hnames : ∀ n ∈ names, Bundle.fit n = true) (hnl : names.length ≤ 6) (hnt : rMh M = none) (hk : Cond.classLink own ik cls ∈ rTG) (hini : Cond.initialized cls ∈ rTG) (hstr : (own, is, text) ∈ rStr)
    (hat : ∀ wd ∈ vx_atS own ic cls names, wd ∈ rTG ∨ ∃ j : Nat, rNGs[j]? = some wd ∧ wd.onTables = true) (hgood : ∀ wd ∈ Cond.classLink own ik cls :: Cond.initialized cls :: vx_atS own ic cls names, vx_ot wd = true) (d0 : decode (rMc_ M) pc = .ok (.new ik, 3)) (d3 : decode (rMc_ M) (pc + 3) = .ok (.dup, 1))
    (d4 : (wide = false ∧ decode (rMc_ M) (pc + 4) = .ok (.ldc is, 2) ∧ decode (rMc_ M) (pc + 6) = .ok (.invokespecial ic, 3) ∧ decode (rMc_ M) (pc + 9) = .ok (.athrow, 1)) ∨ (wide = true ∧ decode (rMc_ M) (pc + 4) = .ok (.ldc_w is, 3) ∧ decode (rMc_ M) (pc + 7) = .ok (.invokespecial ic, 3) ∧ decode (rMc_ M) (pc + 10) = .ok (.athrow, 1))) : rSnd lab M pc (oThr e9) := by
  intro w l d jb jc hb hc L S h res hh
  obtain ⟨hh, hsl⟩ := rSh_i hh
  have hh : some ((Sum.inr e9 : rO), ((h.1, (hN h, (Nat.succ (hC h), (Nat.add h.2.2.2.1 6, rScr h)))) : rH)) = some res := hh
  cases hh
  refine ⟨⟨Nat.le_refl _, Nat.le_succ _, Nat.le_add_right _ _⟩, fun p e R s m args below meth c Q mc ms n0 ad0 hX hF ad H locs cells slots ls lv st hn hH hs hl hLo hS hcc hlo => ?_⟩
  obtain ⟨Qc, XC, rfl, hXC⟩ := hF.2.2.2 e9 rfl
  have hfr := hX.2.2.2.2.2.2.2.2.2.2.1
  have hlr := hX.2.2.2.2.2.2.2.2.2.2.2.1
  have hlow := hX.2.2.2.2.2.2.2.2.2.2.2.2
  have hlen := hS.len
  unfold rFr at hfr
  unfold rLo at hlr
  have ht := hX.2.2.2.2.1
  have hK := hX.2.2.2.2.2.2.2.2.2.1
  have b1 : cells + (hC h + 1) ≤ mc + hC h := hcc.1
  have b2 : slots + (h.2.2.2.1 + 6) ≤ ms + h.2.2.2.1 := hcc.2
  have r1 := hF.1
  have r2 := hF.2.1
  obtain ⟨sa, hsa⟩ := hK.2.1.2.2.2.2.2.2.1 _ hstr
  have hsz := hK.2.1.2.2.2.2.2.2.2.2
  have hkeep : ∀ q : Nat, q < (wH w).size → ¬ rFree w q → s.heap[q]? = (wH w)[q]? := fun q h1 h2 => hlow q (by omega)
  have hU := (hK.2.1.2.2.2.2.1).kept hkeep
  have hN9 := (hK.2.1.2.2.2.2.2.1).kept hkeep
  have hS9 : va_S (rFree w) s.heap H locs := ⟨hs, fun q h1 h2 => by
    have h3 : q < wB w := Nat.not_le.mp h2
    rw [hH.2.2.2.2 q h3, hlow q h3], hlo⟩
  have hat' : ∀ wd ∈ vx_atS own ic cls names, wd.before args s = true := fun wd hwd => by
    rcases hat wd hwd with h1 | ⟨j, h1, h2⟩
    · exact ht _ h1
    · exact va_Nw.use h2 (hK.ng j h1)
  have hx9 : ∀ t : State, s.vm.Alike t.vm → H.size ≤ t.heap.size → (∀ q : Nat, q < H.size → t.heap[q]? = H[q]?) → XC cls s t := fun t h1 h2 h3 =>
    hXC cls ad t hE hn.2 ((hH.grow h2 h3 rfl rfl rfl).moved h1) (Nat.le_trans hs h2)
  have hout : ∀ pc9, ∀ x ∈ c.exceptionTable.toList, covers x pc9 = false := fun pc9 x hx => by
    rw [hX.2.2.2.2.2.2.2.2.1 (Or.inl (by rw [ho]; exact hlaw)), hnt] at hx
    cases hx
  rcases d4 with ⟨-, d4, d6, d9⟩ | ⟨-, d4, d6, d9⟩
  · exact vx_throwS hX.1 hX.2.1 hX.2.2.2.2.2.2.2.1 (ho ▸ hX.2.2.2.1) hcls hnames (ht _ hk) (ht _ hini) hsa hat' hgood hU hN9 hS9 (hl.1.trans hX.2.2.1.symm) d0 d3 d4 d6 d9 (hout _) (by omega) (by omega) (by omega) (by omega) hX.2.2.2.2.2.1 hx9 hlo (by omega) (by omega)
  · exact vx_throwSW hX.1 hX.2.1 hX.2.2.2.2.2.2.2.1 (ho ▸ hX.2.2.2.1) hcls hnames (ht _ hk) (ht _ hini) hsa hat' hgood hU hN9 hS9 (hl.1.trans hX.2.2.1.symm) d0 d3 d4 d6 d9 (hout _) (by omega) (by omega) (by omega) (by omega) hX.2.2.2.2.2.1 hx9 hlo (by omega) (by omega)
-- arguments off the stack
noncomputable def layA : List rV → List rV
  | [] => []
  | v :: vs => if rC2 v = true then v :: vU :: layA vs else v :: layA vs
theorem layA_app (a b : List rV) : layA (a ++ b) = layA a ++ layA b := by
  induction a with
  | nil => rfl
  | cons v vs ih =>
    show layA (v :: (vs ++ b)) = layA (v :: vs) ++ layA b
    simp only [layA]
    split <;> simp [ih]
theorem rArg_i : ∀ {n : Nat} {A S : List rV} {k : List rV → List rV → rR} {r : rO × rH}, rArg n A S k = some r → ∃ vs S', S = vs ++ S' ∧ vs.length = n ∧ k (layA vs.reverse ++ A) S' = some r := by
  intro n
  induction n with
  | zero => intro A S k r hh; exact ⟨[], S, rfl, rfl, hh⟩
  | succ n ih =>
    intro A S k r hh
    obtain ⟨v, S1, rfl, hh⟩ := iP (k := fun v S _ => @Bool.rec (fun _ => rR) (rArg n (v :: A) S k) (rArg n (v :: vU :: A) S k) (rC2 v)) hh
    rcases iB hh with ⟨e, hh⟩ | ⟨e, hh⟩
    · obtain ⟨vs, S', rfl, h2, h3⟩ := ih hh
      refine ⟨v :: vs, S', rfl, by simp [h2], ?_⟩
      rw [List.reverse_cons, layA_app]
      simp only [layA]
      rw [if_pos e]
      simpa using h3
    · obtain ⟨vs, S', rfl, h2, h3⟩ := ih hh
      refine ⟨v :: vs, S', rfl, by simp [h2], ?_⟩
      rw [List.reverse_cons, layA_app]
      simp only [layA]
      rw [if_neg (by rw [e]; decide)]
      simpa using h3
theorem rStk.app {w : rW} {ad : Nat → Nat} {n : Nat} : ∀ {a b : List rV} {st : List Value}, rStk w ad n (a ++ b) st → ∃ us st', st = us ++ st' ∧ us.length = a.length ∧ rStk w ad n a us ∧ rStk w ad n b st'
  | [], b, st, h => ⟨[], st, rfl, rfl, trivial, h⟩
  | x :: a, b, st, h => by
    obtain ⟨v, st1, rfl, h2, h3⟩ := h.cons
    obtain ⟨us, st', rfl, h4, h5, h6⟩ := rStk.app h3
    exact ⟨v :: us, st', rfl, by simp [h4], ⟨h2, h5⟩, h6⟩
theorem rStk.join {w : rW} {ad : Nat → Nat} {n : Nat} : ∀ {a b : List rV} {us st : List Value}, rStk w ad n a us → rStk w ad n b st → rStk w ad n (a ++ b) (us ++ st)
  | [], _, [], _, _, h => h
  | _ :: _, _, _ :: _, _, h1, h2 => ⟨h1.1, h1.2.join h2⟩
  | [], _, _ :: _, _, h, _ => h.elim
  | _ :: _, _, [], _, h, _ => h.elim
theorem rStk.rev {w : rW} {ad : Nat → Nat} {n : Nat} : ∀ {a : List rV} {us : List Value}, rStk w ad n a us → rStk w ad n a.reverse us.reverse
  | [], [], _ => trivial
  | x :: a, u :: us, h => by
    rw [List.reverse_cons, List.reverse_cons]
    exact h.2.rev.join ⟨h.1, trivial⟩
  | [], _ :: _, h => h.elim
  | _ :: _, [], h => h.elim
theorem layA_args {w : rW} {ad : Nat → Nat} {n : Nat} : ∀ {xs : List rV} {us : List Value}, rStk w ad n xs us → (layA xs).length = (lg_sl us).length ∧ ∀ k i, (layA xs).getD i vU = vU ∨ ∃ v, (k + i, v) ∈ lv_args k us ∧ rVal w ad n ((layA xs).getD i vU) v
  | [], [], _ => ⟨rfl, fun k i => Or.inl rfl⟩
  | x :: xs, u :: us, h => by
    obtain ⟨h1, h2⟩ := layA_args h.2
    rcases h.1.cat with ⟨e, hc⟩ | ⟨e, hc⟩
    · have e1 : layA (x :: xs) = x :: vU :: layA xs := by simp only [layA]; rw [if_pos e]
      have e2 : lg_sl (u :: us) = .val u :: .second :: lg_sl us := by simp [lg_sl, hc]
      rw [e1, e2]
      refine ⟨by simp [h1], fun k i => ?_⟩
      rw [show lv_args k (u :: us) = (k, u) :: lv_args (k + 2) us by simp [lv_args, hc]]
      match i with
      | 0 => exact Or.inr ⟨u, List.mem_cons_self, h.1⟩
      | 1 => exact Or.inl rfl
      | i + 2 =>
        rcases h2 (k + 2) i with q | ⟨v, q1, q2⟩
        · exact Or.inl q
        · exact Or.inr ⟨v, List.mem_cons_of_mem _ (by rw [show k + (i + 2) = k + 2 + i by omega]; exact q1), q2⟩
    · have e1 : layA (x :: xs) = x :: layA xs := by simp only [layA]; rw [if_neg (by rw [e]; decide)]
      have e2 : lg_sl (u :: us) = .val u :: lg_sl us := by simp [lg_sl, hc]
      rw [e1, e2]
      refine ⟨by simp [h1], fun k i => ?_⟩
      rw [show lv_args k (u :: us) = (k, u) :: lv_args (k + 1) us by simp [lv_args, hc]]
      match i with
      | 0 => exact Or.inr ⟨u, List.mem_cons_self, h.1⟩
      | i + 1 =>
        rcases h2 (k + 1) i with q | ⟨v, q1, q2⟩
        · exact Or.inl q
        · exact Or.inr ⟨v, List.mem_cons_of_mem _ (by rw [show k + (i + 1) = k + 1 + i by omega]; exact q1), q2⟩
  | [], _ :: _, h => h.elim
  | _ :: _, [], h => h.elim
theorem rArgs_of {w : rW} {ad : Nat → Nat} {n : Nat} {xs : List rV} {us : List Value} (h : rStk w ad n xs us) : rArgs w ad n (layA xs) us :=
  ⟨(layA_args h).1, fun i => ((layA_args h).2 0 i).imp id fun ⟨v, h1, h2⟩ => ⟨v, by rw [Nat.zero_add] at h1; exact h1, h2⟩⟩
-- a call's run: ln bytes long
def rRun (ln : Nat) (p : Program) (l : Launch) (e : Env) (R : Room) (s : State) (m : MethodId) (args : Array Value) (below : List Frame) (meth : Method) (c : Code) (H : Heap) (locs : List Loc) (cells slots mc ms : Nat) (g : JFrame) (rest : List Value) (Qa : State → Outcome → State → Prop) (XC : String → State → State → Prop) (free : Addr → Prop) : Prop :=
  ∀ T : State, T.heap = H → Stand p l e R s m args below meth c T locs cells slots →
    (∃ (v : Option Value) (st₀ t T' : State) (L : List Loc), st₀.heap = H ∧ Stand p l e R s m args below meth c T' (locs ++ L) (cells + mc) (slots + ms) ∧ (∀ q ∈ L, free q.base) ∧ T'.heap = t.heap ∧ T'.vm = t.vm ∧ Qa st₀ (.returned v) t ∧
      Goes p e below T g T' { g with pc := g.pc + ln, stack := v.toList ++ rest }) ∨
    (∃ (q : Addr) (st₀ t T' : State) (L : List Loc) (E : String) (ce : Cell), st₀.heap = H ∧ Stand p l e R s m args below meth c T' (locs ++ L) (cells + mc) (slots + ms) ∧ (∀ z ∈ L, free z.base) ∧ T'.heap = t.heap ∧ T'.vm = t.vm ∧ XC E st₀ t ∧ t.heap[q]? = some ce ∧ ce.vm = .none ∧ s.vm.findClass E = some ce.cls ∧
      Steps p.tables e below (T.setTop g) ((T'.setTop { g with stack := rest }).pushFrame (.throwing q)))
theorem rTo.run {ln : Nat} {w : rW} {l : Launch} {d : Nat} {L S S0 : List rV} {h h' : rH} {res : rO × rH} {v : Option rV} (hm : rMono h ((.inl v : rO), h')) (hk : rTo w l d M (pc + ln) L (rAns v S) h' res)
    (go : ∀ {p : Program} {e : Env} {R : Room} {s : State} {m : MethodId} {args : Array Value} {below : List Frame} {meth : Method} {c : Code} {H : Heap} {locs : List Loc} {cells slots : Nat} {ls : Array Slot} {lv : List (Nat × Value)} {st : List Value} {ad : Nat → Nat}, rCtx w d M p l R s m args meth c → rHp w s ad h H → lv_has ls (rMl M) lv → rStk w ad (hN h) S0 st → cells + (hC h' - hC h) ≤ R.cells ∧ slots + (hL h' - hL h) ≤ R.slots →
      ∃ (av : Array Value) (rest : List Value), rStk w ad (hN h) S rest ∧ rRun ln p l e R s m args below meth c H locs cells slots (hC h' - hC h) (hL h' - hL h) (F0 m pc ls st) rest (rQc w ad h ((.inl v : rO), h') av) (rXc w ad h ((.inl v : rO), h')) (rFree w)) : rTo w l d M pc L S0 h res := by
  refine rTo.gen (h' := h') hm hk fun {p} {e} {R} {s} {m} {args} {below} {meth} {c} {Q} {H} {locs} {cells} {slots} {ls} {lv} {st} {ad} {mc} {ms} hX hP hs hl hLo hS hmm hcs hlo kk => ?_
  have m2 : hC h ≤ hC h' := hm.2.1
  have m3 : h.2.2.2.1 ≤ h'.2.2.2.1 := hm.2.2
  have c1 := hcs.1
  have c2 : slots + h'.2.2.2.1 ≤ ms + h.2.2.2.1 := hcs.2
  obtain ⟨av, rest, hR, hrun⟩ := go hX hP hl hS (locs := locs) (cells := cells) (slots := slots) ⟨by omega, by show slots + (h'.2.2.2.1 - h.2.2.2.1) ≤ R.slots; omega⟩
  intro T hT X
  rcases hrun T hT X with ⟨v', st₀, t, T', L', h0, X', hL', e1, e2, ⟨r, v'', ad', q1, q2, q3, q4, q5, q6⟩, st⟩ | ⟨q, st₀, t, T', L', E, ce, h0, X', hL', e1, e2, ⟨e9, ad', q1, -⟩, -⟩
  · obtain rfl : v = r := Sum.inl.inj q1
    obtain rfl : v' = v'' := Outcome.returned.inj q2
    have hal : t.vm.Alike s.vm := by rw [← e2]; exact X'.warmed.alike.symm
    have hsz : H.size ≤ T'.heap.size := by rw [e1, ← h0]; exact q6
    obtain ⟨t2, a1, b1⟩ := kk ad' T'.heap (locs ++ L') (cells + (hC h' - hC h)) (slots + (h'.2.2.2.1 - h.2.2.2.1)) ls lv (v'.toList ++ rest) q3 (by rw [e1]; exact q5.moved hal) hsz hl (hLo.mono hm.1 q3) (by
      have hrest := hR.mono hm.1 q3
      cases v with
      | none =>
        cases v' with
        | none => exact hrest
        | some y => exact q4.elim
      | some x =>
        cases v' with
        | none => exact q4.elim
        | some y => exact ⟨q4, hrest⟩) (by omega) (by show slots + (h'.2.2.2.1 - h.2.2.2.1) + h.2.2.2.1 ≤ slots + h'.2.2.2.1; omega) (fun z hz => by
      rcases List.mem_append.mp hz with q | q
      · exact hlo z q
      · exact hL' z q) T' rfl X'
    exact ⟨t2, st t2 a1, b1⟩
  · cases q1
theorem rBlind {w : rW} {ad : Nat → Nat} {av : List Value} {h : rH} : FrameBlind (rPc w ad av h) := fun a U g mk hp => ⟨hp.1, (show rHp w (U.calling g mk a) ad h U.heap from hp.2.1.moved (Vm.Alike.refl _)), hp.2.2.gone rfl⟩
theorem rPre {w : rW} {ad : Nat → Nat} {av : List Value} {h : rH} {s : State} {H : Heap} (hK : rKx w s) (hP : rHp w s ad h H) : PreS s H (rPc w ad av h) av := ⟨rBlind, fun U hU hW => ⟨rfl, by rw [hU]; exact hP.moved hW.alike, hK.warm hW⟩⟩
end SND6
