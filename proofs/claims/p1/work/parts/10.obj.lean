-- ===== objects, rows of values and the heap =====
section OBJ
variable {w : rW} {U : State} {ad : Nat → Nat} {H : Heap} {h : rH}
theorem rHp.obj {ci k : Nat} {r : vw_C} {v : Value} (hH : rHp w U ad h H) (hv : rVal w ad (hN h) (vR k) v) (hk : (rAt h k).1 = 2 * ci + 2) (hr : rCls[ci]? = some r) : 0 < k ∧ k < hN h ∧ wB w ≤ ad k ∧ v = .ref (ad k) ∧ ∃ V : Nat → Value, t_OB (ad k) ((wD w).1 ci) r.2.2 ((wD w).2 ci) H V ∧ ∀ j, j < r.2.2 → rVal w ad (hN h) (rTag (rFt ci j) (rPl (rAt h k).2.2 j)) (V j) := by
  obtain ⟨h1, h2, h3, h4⟩ := hH.deref hv (by omega)
  rcases h4 with h4 | ⟨h5, ⟨ci', r', e1, e2, V, h6, h7⟩ | ⟨t, ty, e1, -⟩⟩
  · omega
  · obtain rfl : ci' = ci := by omega
    obtain rfl : r' = r := Option.some.inj (e2.symm.trans hr)
    exact ⟨h1, h2, h5, h3, V, h6, h7⟩
  · omega
theorem rHp.arr {t k : Nat} {ty : FieldType} {v : Value} (hH : rHp w U ad h H) (hv : rVal w ad (hN h) (vR k) v) (hk : (rAt h k).1 = 2 * t + 1) (hr : rAts[t]? = some ty) : 0 < k ∧ k < hN h ∧ wB w ≤ ad k ∧ v = .ref (ad k) ∧ (rAt h k).2.1 ≤ 65536 ∧ ∃ (cA : ClassId) (f : Nat → Value), H[ad k]? = some (arrV cA (rAt h k).2.1 f) ∧ ArrOfT U cA ty ∧ va_RA U cA ty ∧ ∀ j, j < (rAt h k).2.1 → rVal w ad (hN h) (rTag ty (rPl (rAt h k).2.2 j)) (f j) := by
  obtain ⟨h1, h2, h3, h4⟩ := hH.deref hv (by omega)
  rcases h4 with h4 | ⟨h5, ⟨ci', r', e1, e2, V, h6, h7⟩ | ⟨t', ty', e1, e2, e3, e4⟩⟩
  · omega
  · omega
  · obtain rfl : t' = t := by omega
    obtain rfl : ty' = ty := Option.some.inj (e2.symm.trans hr)
    exact ⟨h1, h2, h5, h3, e3, e4⟩
-- what is stored in a place
def rFc : FieldType → Nat
  | .int => 0
  | .long => 1
  | .object _ => 2
  | .array _ => 2
  | .boolean => 3
  | _ => 9
theorem rUn_i {ty : Nat} {v : rV} {k : Nat → rR} {r : rO × rH} (hh : rUn ty v k = some r) : ∃ x, k x = some r ∧ ((ty = 0 ∧ v = vI x) ∨ (ty = 2 ∧ v = vR x) ∨ (ty = 1 ∧ v = vL x) ∨ (ty ≠ 0 ∧ ty ≠ 2 ∧ ty ≠ 1 ∧ v = vI x ∧ x ≤ 1)) := by
  unfold rUn at hh
  rcases iB hh with ⟨e, hh⟩ | ⟨n0, hh⟩
  · obtain ⟨x, rfl, hh⟩ := iI hh
    exact ⟨x, hh, Or.inl ⟨bq e, rfl⟩⟩
  rcases iB hh with ⟨e, hh⟩ | ⟨n1, hh⟩
  · obtain ⟨x, rfl, hh⟩ := iA hh
    exact ⟨x, hh, Or.inr (Or.inl ⟨bq e, rfl⟩)⟩
  rcases iB hh with ⟨e, hh⟩ | ⟨n2, hh⟩
  · obtain ⟨x, rfl, hh⟩ := iL hh
    exact ⟨x, hh, Or.inr (Or.inr (Or.inl ⟨bq e, rfl⟩))⟩
  · obtain ⟨x, rfl, hh⟩ := iI hh
    obtain ⟨e, hh⟩ := iBt hh
    exact ⟨x, hh, Or.inr (Or.inr (Or.inr ⟨bqf n0, bqf n1, bqf n2, rfl, bl e⟩))⟩
theorem rUn_v {fty : FieldType} {n x : Nat} {a : rV} {v : Value} (hn : n ≤ 512) (hc : ((rFc fty) = 0 ∧ a = vI x) ∨ ((rFc fty) = 2 ∧ a = vR x) ∨ ((rFc fty) = 1 ∧ a = vL x) ∨ (rFc fty = 3 ∧ a = vI x ∧ x ≤ 1)) (hv : rVal w ad n a v) : x < 18446744073709551616 ∧ rVal w ad n (rTag fty x) v ∧ narrow fty v = v ∧ fits fty v = true := by
  rcases hc with ⟨hc, rfl⟩ | ⟨hc, rfl⟩ | ⟨hc, rfl⟩ | ⟨hc, rfl, hx⟩
  · obtain ⟨h1, rfl⟩ := hv.i
    cases fty <;> first | (cases hc; done) | skip
    exact ⟨by omega, ⟨h1, rfl⟩, rfl, rfl⟩
  · have h1 : x < 18446744073709551616 := by
      rcases hv.r with ⟨e, -⟩ | ⟨e, -⟩ | ⟨e, -⟩ | ⟨-, e, -⟩ <;> omega
    have h9 : v = .null ∨ ∃ a, v = .ref a := rStk_rf hv
    cases fty <;> first | (cases hc; done) | skip
    all_goals
      refine ⟨h1, hv, ?_, ?_⟩
      · rcases h9 with rfl | ⟨a, rfl⟩ <;> rfl
      · rcases h9 with rfl | ⟨a, rfl⟩ <;> rfl
  · obtain ⟨h1, rfl⟩ := hv.l
    cases fty <;> first | (cases hc; done) | skip
    exact ⟨h1, ⟨h1, rfl⟩, rfl, rfl⟩
  · obtain ⟨h1, rfl⟩ := hv.i
    cases fty <;> first | (cases hc; done) | skip
    have h2 : x = 0 ∨ x = 1 := by omega
    refine ⟨by omega, ⟨h1, rfl⟩, ?_, ?_⟩
    · rcases h2 with rfl | rfl
      · exact narrow_b0
      · exact narrow_b1
    · rcases h2 with rfl | rfl <;> decide
end OBJ
def rLk (own : String) (i : Nat) (ref n d : String) : Prop := Cond.fieldLink own i ref n d ∈ rTG ∨ ∃ (host : String) (j : Nat), rNGs[j]? = some (Cond.fieldLinkNest own i ref n d host)
def rSm (ref o n d : String) : Prop := ref = o ∨ Cond.sameField ref o n d ∈ rTG
theorem rSm.use {ref o n d : String} {s : State} {args : Array Value} (h : rSm ref o n d) (ht : ∀ wd ∈ rTG, wd.before args s = true) {x : ClassId × Class × Nat × Field} (hx : s.fieldFound? o n d = some x) : s.fieldFound? ref n d = some x := by
  rcases h with rfl | h
  · exact hx
  · exact u_same (ht _ h) x hx
section SND3
variable {lab : Nat → rM × Nat} {M : rM} {pc pc' : Nat} {nx : rP}
theorem s_Gf {ci k i : Nat} {r : vw_C} {own ref : String} {mk : Nat → rV} (hr : rCls[ci]? = some r) (hk : k < r.2.2) (ho : (rMy M).cls = own) (hlk : rLk own i ref (r.2.1 k).2.1 (r.2.1 k).2.2.1) (hsm : rSm ref (r.2.1 k).1 (r.2.1 k).2.1 (r.2.1 k).2.2.1) (hm : rTag (rFt ci k) = mk) (hdg : rDec M pc (.getfield i) 3 pc') (kx : rSnd lab M pc' nx) : rSnd lab M pc (oGf (2 * ci + 2) k mk nx) := by
  intro w l d jb jc hb hc L S h res hh
  obtain ⟨hdg, rfl⟩ := hdg
  obtain ⟨o, S1, rfl, hh⟩ := iP hh
  obtain ⟨a, rfl, hh⟩ := iA hh
  obtain ⟨e0, hh⟩ := iBt hh
  refine (kx w l d jb jc hb hc _ _ _ _ hh).step fun hX hP hl hL hS kk => ?_
  obtain ⟨v, st1, rfl, h2, hS1⟩ := hS.cons
  obtain ⟨-, -, -, rfl, V, ⟨cell, q1, q2, q3, q4⟩, hV⟩ := hP.obj h2 (bq e0) hr
  obtain ⟨hSl, hfc, kC, hkC, hkind⟩ := hX.2.2.2.2.2.2.2.2.2.1.1 ci r hr
  obtain ⟨cf, kf, fi, f, hi, hsl⟩ := hSl k hk
  have ht := hX.2.2.2.2.1
  have hin := (rFacts ci r hr).1
  have hst := (u_facts hfc hkC (u_lays ht hin hk) hi).1
  have hkk := kk _ _ (V k :: st1) hl hL ⟨by rw [← hm]; exact hV k hk, hS1⟩
  rcases hlk with hlk | ⟨host, j, hj⟩
  · refine W.getf hX.1 hX.2.1 (ho ▸ hX.2.2.2.1) (ht _ hlk) (hsm.use ht hi) hst q1 (by rw [q3]; exact fun h => by cases h) (v := V k) ?_ rfl rfl hdg hkk
    rw [hsl, q4 k hk]
  · refine va_Wgetf hX.1 hX.2.1 (ho ▸ hX.2.2.2.1) (va_Nw.use rfl (hX.2.2.2.2.2.2.2.2.2.1.ng j hj)) (hsm.use ht hi) hst q1 (by rw [q3]; exact fun h => by cases h) (v := V k) ?_ rfl rfl hdg hkk
    rw [hsl, q4 k hk]
theorem rUn_c {ty : Nat} {fty : FieldType} (ht : rFc fty = ty) (h9 : ty < 4) {v : rV} {x : Nat} (hh : (ty = 0 ∧ v = vI x) ∨ (ty = 2 ∧ v = vR x) ∨ (ty = 1 ∧ v = vL x) ∨ (ty ≠ 0 ∧ ty ≠ 2 ∧ ty ≠ 1 ∧ v = vI x ∧ x ≤ 1)) : (rFc fty = 0 ∧ v = vI x) ∨ (rFc fty = 2 ∧ v = vR x) ∨ (rFc fty = 1 ∧ v = vL x) ∨ (rFc fty = 3 ∧ v = vI x ∧ x ≤ 1) := by
  subst ht
  rcases hh with h | h | h | ⟨h1, h2, h3, h4⟩
  · exact Or.inl h
  · exact Or.inr (Or.inl h)
  · exact Or.inr (Or.inr (Or.inl h))
  · exact Or.inr (Or.inr (Or.inr ⟨by omega, h4⟩))
theorem s_Pf {ci k i ty : Nat} {r : vw_C} {own ref : String} (hr : rCls[ci]? = some r) (hk : k < r.2.2) (ho : (rMy M).cls = own) (hmode : (r.2.1 k).2.2.2 = false ∧ rLk own i ref (r.2.1 k).2.1 (r.2.1 k).2.2.1 ∨ (r.2.1 k).2.2.2 = true ∧ Cond.fieldLink own i ref (r.2.1 k).2.1 (r.2.1 k).2.2.1 ∈ rTG ∧ (r.2.1 k).1 = own ∧ (rMy M).name = "<init>") (hsm : rSm ref (r.2.1 k).1 (r.2.1 k).2.1 (r.2.1 k).2.2.1) (hty : rFc (rFt ci k) = ty) (hty4 : ty < 4) (hdg : rDec M pc (.putfield i) 3 pc') (kx : rSnd lab M pc' nx) : rSnd lab M pc (oPf (2 * ci + 2) k ty nx) := by
  intro w l d jb jc hb hc L S h res hh
  obtain ⟨hdg, rfl⟩ := hdg
  obtain ⟨vv, S1, rfl, hh⟩ := iP hh
  obtain ⟨o, S1, rfl, hh⟩ := iP hh
  obtain ⟨a, rfl, hh⟩ := iA hh
  obtain ⟨x, hh, hx⟩ := rUn_i hh
  obtain ⟨e0, hh⟩ := iBt hh
  have hh := iN hh
  refine rTo.gen (h' := rPut h a ((rAt h a).1, ((rAt h a).2.1, rSp (rAt h a).2.2 k 1 x))) ⟨Nat.le_refl _, Nat.le_refl _, Nat.le_refl _⟩ (kx w l d jb jc hb hc _ _ _ _ hh) fun {p} {e} {R} {s} {m} {args} {below} {meth} {c} {Q} {H} {locs} {cells} {slots} {ls} {lv} {st} {ad} {mc} {ms} hX hP hs hl hL hS hm hcs hlo kk => ?_
  obtain ⟨v, st1, rfl, h1, hS1⟩ := hS.cons
  obtain ⟨v2, st2, rfl, h2, hS2⟩ := hS1.cons
  have ek : (rAt h a).1 = 2 * ci + 2 := bq e0
  obtain ⟨p1, p2, p3, rfl, V, ⟨cell, q1, q2, q3, q4⟩, hV⟩ := hP.obj h2 ek hr
  obtain ⟨hSl, hfc, kC, hkC, hkind⟩ := hX.2.2.2.2.2.2.2.2.2.1.1 ci r hr
  obtain ⟨cf, kf, fi, f, hi, hsl⟩ := hSl k hk
  have ht := hX.2.2.2.2.1
  obtain ⟨hin, hap0, htys⟩ := rFacts ci r hr
  have hst := (u_facts hfc hkC (u_lays ht hin hk) hi).1
  obtain ⟨x64, hval, hnar, hfit⟩ := rUn_v (fty := rFt ci k) hP.1.2.1 (rUn_c hty hty4 hx) h1
  have hap : ∀ x y, x < r.2.2 → y < r.2.2 → x ≠ y → ((wD w).2 ci) x ≠ ((wD w).2 ci) y := by
    intro x y hx hy hne
    obtain ⟨_, _, _, fa, hia, ea⟩ := hSl x hx
    obtain ⟨_, _, _, fb, hib, eb⟩ := hSl y hy
    rw [← ea, ← eb]
    refine u_apart (u_lays ht hin hx) (u_lays ht hin hy) hia hib ?_
    rw [(State.fieldFound?_type hia (htys x hx)).1, (State.fieldFound?_type hib (htys y hy)).1]
    exact hap0 x hx y hy hne
  have fin : ∀ H' : Heap, H'[ad a]? = some (cell.setSlot f.slot v) → H'.size = H.size → (∀ q, q ≠ ad a → H'[q]? = H[q]?) → W p l e R s m args below meth c H' (locs ++ [⟨ad a, f.slot⟩]) cells slots Q (F0 m (pc + 3) ls st2) := by
    intro H' e1 e2 e3
    refine kk ad H' _ cells slots ls lv st2 rExt.rf (hP.put p1 p2 (by omega) (c' := ((rAt h a).1, ((rAt h a).2.1, rSp (rAt h a).2.2 k 1 x))) ?_ (by show (rAt h a).1 ≠ 0; omega) (by omega) e3) (by omega) hl hL hS2 (Nat.le_refl _) (Nat.le_refl _) ?_
    · refine Or.inr ⟨p3, Or.inl ⟨ci, r, ek, hr, updV V k v, ⟨_, e1, q2, q3, ?_⟩, fun j hj => ?_⟩⟩
      · rw [hsl]; exact t_set q4 hap hk v
      · show rVal w ad (hN h) (rTag (rFt ci j) (rPl (rSp (rAt h a).2.2 k 1 x) j)) (updV V k v j)
        rw [rPl_put _ _ _ _ x64]
        unfold updV
        by_cases hjk : j = k
        · subst hjk; rw [if_pos rfl, if_pos rfl]; exact hval
        · rw [if_neg hjk, if_neg hjk]; exact hV j hj
    · intro z hz
      rcases List.mem_append.mp hz with hz | hz
      · exact hlo z hz
      · have : z = ⟨ad a, f.slot⟩ := by simpa using hz
        rw [this]; exact p3
  have hlay := ht _ (hin _ (u_in_lay hk))
  unfold u_lay at hlay
  rcases hmode with ⟨hfin, hlk⟩ | ⟨hfin, hlk, hdecl, hini⟩
  · rw [if_neg (by rw [hfin]; decide)] at hlay
    have h6 := u_store hfc hkC hkind hlay hi (htys k hk) hnar hfit
    rcases hlk with hlk | ⟨host, j, hj⟩
    · exact W.putK hX.1 hX.2.1 (f := f) ⟨ho ▸ hX.2.2.2.1, ht _ hlk, ⟨_, _, _, hsm.use ht hi⟩, hst⟩ (by rw [q2]; exact h6) q1 q3 (by rw [hsl]; exact k2_hasslot (q4 k hk)) rfl rfl hdg fin
    · exact va_WputK hX.1 hX.2.1 (f := f) (ho ▸ hX.2.2.2.1) (va_Nw.use rfl (hX.2.2.2.2.2.2.2.2.2.1.ng j hj)) (hsm.use ht hi) hst (by rw [q2]; exact h6) q1 q3 (by rw [hsl]; exact k2_hasslot (q4 k hk)) rfl rfl hdg fin
  · rw [if_pos hfin] at hlay
    have hown : s.vm.findClass own = some m.cls := ho ▸ hX.2.2.2.1
    have hcf : m.cls = cf := by
      obtain ⟨_, _, c', _, _, _, -, -, hf', -, -, -, hown2, -⟩ := Cond.laysFinal_spec hlay
      have e1 : c' = cf := by have := hi.symm.trans hf'; simp at this; exact this.1.symm
      rw [hdecl] at hown2
      rw [← e1]; exact Option.some.inj (hown.symm.trans hown2)
    have h6 := u_fits hfc hkC hkind (Or.inr hlay) hi (htys k hk) hnar hfit
    exact W.putFinK hX.1 hX.2.1 hown (ht _ hlk) (hsm.use ht hi) hst hcf (hX.2.2.2.2.2.2.1 hini) (by rw [q2]; exact h6) q1 q3 (by rw [hsl]; exact k2_hasslot (q4 k hk)) rfl rfl hdg fin
theorem s_Gs {own ref : String} {i : Nat} (ho : (rMy M).cls = own) (hlk : Cond.fieldLink own i ref "DEFAULTCAPACITY_EMPTY_ELEMENTDATA" "[Ljava/lang/Object;" ∈ rTG) (hsm : rSm ref "java/util/ArrayList" "DEFAULTCAPACITY_EMPTY_ELEMENTDATA" "[Ljava/lang/Object;") (hdg : rDec M pc (.getstatic i) 3 pc') (kx : rSnd lab M pc' nx) : rSnd lab M pc (oPsh (vR 16384) nx) := by
  intro w l d jb jc hb hc L S h res hh
  obtain ⟨hdg, rfl⟩ := hdg
  refine (kx w l d jb jc hb hc _ _ _ _ hh).step fun hX hP hl hL hS kk => ?_
  obtain ⟨cf, kf, fi, f, a, cell, h1, h2, h3, h4, h5, h6, h7, h8⟩ := hX.2.2.2.2.2.2.2.2.2.1.2.1.2.2.1
  have ht := hX.2.2.2.2.1
  have ha : a < wB w := Nat.not_le.mp h8
  exact W.gets hX.1 hX.2.1 (ho ▸ hX.2.2.2.1) (ht _ hlk) (hsm.use ht h1) h2 h3 h4 (by rw [hP.2.2.2.2 a ha]; exact h5) (fun e => by rw [e] at h6; cases h6) h7 rfl hdg (kk _ _ (_ :: _) hl hL ⟨Or.inr (Or.inr (Or.inl ⟨rfl, rfl⟩)), hS⟩)
theorem rDv (ty : FieldType) : (ty = .int ∨ ty = .long ∨ ty = .boolean ∨ (∃ C, ty = .object C) ∨ ∃ t, ty = .array t) → ∀ {w : rW} {ad : Nat → Nat} {n : Nat}, rVal w ad n (rTag ty 0) (defaultValue ty) := by
  rintro (rfl | rfl | rfl | ⟨C, rfl⟩ | ⟨t, rfl⟩) w ad n
  · exact ⟨by decide, rfl⟩
  · exact ⟨by decide, rfl⟩
  · exact ⟨by decide, rfl⟩
  · exact Or.inl ⟨rfl, rfl⟩
  · exact Or.inl ⟨rfl, rfl⟩
theorem s_New {ci i : Nat} {r : vw_C} {own : String} (hr : rCls[ci]? = some r) (ho : (rMy M).cls = own) (hcl : Cond.classLink own i r.1 ∈ rTG) (hins : Cond.instantiable r.1 r.2.2 ∈ rTG) (hini : Cond.initialized r.1 ∈ rTG) (hty : ∀ k, k < r.2.2 → rFt ci k = .int ∨ rFt ci k = .long ∨ rFt ci k = .boolean ∨ (∃ C, rFt ci k = .object C) ∨ ∃ t, rFt ci k = .array t) (hdg : rDec M pc (.new i) 3 pc') (kx : rSnd lab M pc' nx) : rSnd lab M pc (oNew (2 * ci + 2) r.2.2 nx) := by
  intro w l d jb jc hb hc L S h res hh
  obtain ⟨hdg, rfl⟩ := hdg
  obtain ⟨e0, hh⟩ := iBt hh
  have hn : hN h ≤ 510 := bl e0
  refine rTo.gen (h' := (tS9 h.1 (hN h) (2 * ci + 2, (0, 0)), (Nat.succ (hN h), (Nat.succ (hC h), (Nat.add (hL h) r.2.2, rScr h))))) ⟨Nat.le_succ _, Nat.le_succ _, Nat.le_add_right _ _⟩ (kx w l d jb jc hb hc _ _ _ _ hh) fun {p} {e} {R} {s} {m} {args} {below} {meth} {c} {Q} {H} {locs} {cells} {slots} {ls} {lv} {st} {ad} {mc} {ms} hX hP hs hl hLo hS hm hcs hlo kk => ?_
  have hKn := hX.2.2.2.2.2.2.2.2.2.1.1 ci r hr
  have ht := hX.2.2.2.2.1
  obtain ⟨hin, hap0, htys⟩ := rFacts ci r hr
  have b1 : cells + (hC h + 1) ≤ mc + hC h := hcs.1
  have b2 : slots + (hL h + r.2.2) ≤ ms + hL h := hcs.2
  refine W.newcK hX.1 hX.2.1 (ho ▸ hX.2.2.2.1) (ht _ hcl) (ht _ hins) (ht _ hini) rfl hdg (by omega) (by omega) hKn.2.1 rfl fun H1 kC hkC e1 z1 o1 => ?_
  have hob := u_born (rFt ci) ht hin hKn hkC e1 htys
  refine kk (rUp ad (hN h) H.size) H1 locs _ _ ls lv (.ref H.size :: st) rUp_ext (hP.new hn ?_ z1 o1) (by omega) hl (hLo.mono (Nat.le_succ _) rUp_ext) ⟨Or.inr (Or.inr (Or.inr ⟨hP.1.1, Nat.lt_succ_self _, by rw [rUp_self]⟩)), hS.mono (Nat.le_succ _) rUp_ext⟩ (by show cells + 1 + hC h ≤ cells + (hC h + 1); omega) (by show slots + r.2.2 + hL h ≤ slots + (hL h + r.2.2); omega) hlo
  refine Or.inr ⟨hP.2.2.2.1, Or.inl ⟨ci, r, rfl, hr, _, hob, fun j hj => ?_⟩⟩
  show rVal w _ _ (rTag (rFt ci j) (rPl 0 j)) _
  rw [rPl_0]
  exact rDv _ (hty j hj)
end SND3
