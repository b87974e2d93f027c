-- ===== one step of a run =====
theorem rMono.tr {h h' : rH} {res : rO × rH} (h1 : hN h ≤ hN h' ∧ hC h ≤ hC h' ∧ hL h ≤ hL h') (h2 : rMono h' res) : rMono h res := ⟨Nat.le_trans h1.1 h2.1, Nat.le_trans h1.2.1 h2.2.1, Nat.le_trans h1.2.2 h2.2.2⟩
theorem rTo.gen {w : rW} {l : Launch} {d : Nat} {M : rM} {pc pc' : Nat} {L S L' S' : List rV} {h h' : rH} {res : rO × rH} (hm : hN h ≤ hN h' ∧ hC h ≤ hC h' ∧ hL h ≤ hL h') (hk : rTo w l d M pc' L' S' h' res)
    (go : ∀ {p : Program} {e : Env} {R : Room} {s : State} {m : MethodId} {args : Array Value} {below : List Frame} {meth : Method} {c : Code} {Q : State → Prop} {H : Heap} {locs : List Loc} {cells slots : Nat} {ls : Array Slot} {lv : List (Nat × Value)} {st : List Value} {ad : Nat → Nat} {mc ms : Nat}, rCtx w d M p l R s m args meth c → rHp w s ad h H → s.heap.size ≤ H.size → lv_has ls (rMl M) lv → rLoc w ad (hN h) L lv → rStk w ad (hN h) S st → mc ≤ R.cells ∧ ms ≤ R.slots → cells + hC h' ≤ mc + hC h ∧ slots + hL h' ≤ ms + hL h → (∀ z ∈ locs, rFree w z.base) →
      (∀ (ad' : Nat → Nat) (H' : Heap) (locs' : List Loc) (cells' slots' : Nat) (ls' : Array Slot) (lv' : List (Nat × Value)) (st' : List Value), rExt (hN h) ad ad' → rHp w s ad' h' H' → H.size ≤ H'.size → lv_has ls' (rMl M) lv' → rLoc w ad' (hN h') L' lv' → rStk w ad' (hN h') S' st' → cells' + hC h ≤ cells + hC h' → slots' + hL h ≤ slots + hL h' → (∀ z ∈ locs', rFree w z.base) → W p l e R s m args below meth c H' locs' cells' slots' Q (F0 m pc' ls' st')) →
      W p l e R s m args below meth c H locs cells slots Q (F0 m pc ls st)) : rTo w l d M pc L S h res := by
  refine ⟨rMono.tr hm hk.1, fun p e R s m args below meth c Q mc ms n0 ad0 hX hF ad H locs cells slots ls lv st hn hh hs hl hL hS hc hlo => ?_⟩
  have hk1 := hk.1
  refine go (mc := mc) (ms := ms) hX hh hs hl hL hS ⟨hF.1, hF.2.1⟩ ⟨by have := hk1.2.1; omega, by have := hk1.2.2; omega⟩ hlo (fun ad' H' locs' cells' slots' ls' lv' st' q1 q2 q3 q4 q5 q6 q7 q8 q9 => ?_)
  exact hk.2 p e R s m args below meth c Q mc ms n0 ad0 hX hF ad' H' locs' cells' slots' ls' lv' st' ⟨Nat.le_trans hn.1 hm.1, hn.2.tr q1 hn.1⟩ q2 (Nat.le_trans hs q3) q4 q5 q6 ⟨by omega, by omega⟩ q9
theorem rTo.step {w : rW} {l : Launch} {d : Nat} {M : rM} {pc pc' : Nat} {L S L' S' : List rV} {h : rH} {res : rO × rH} (hk : rTo w l d M pc' L' S' h res)
    (go : ∀ {p : Program} {e : Env} {R : Room} {s : State} {m : MethodId} {args : Array Value} {below : List Frame} {meth : Method} {c : Code} {Q : State → Prop} {H : Heap} {locs : List Loc} {cells slots : Nat} {ls : Array Slot} {lv : List (Nat × Value)} {st : List Value} {ad : Nat → Nat}, rCtx w d M p l R s m args meth c → rHp w s ad h H → lv_has ls (rMl M) lv → rLoc w ad (hN h) L lv → rStk w ad (hN h) S st →
      (∀ (ls' : Array Slot) (lv' : List (Nat × Value)) (st' : List Value), lv_has ls' (rMl M) lv' → rLoc w ad (hN h) L' lv' → rStk w ad (hN h) S' st' → W p l e R s m args below meth c H locs cells slots Q (F0 m pc' ls' st')) →
      W p l e R s m args below meth c H locs cells slots Q (F0 m pc ls st)) : rTo w l d M pc L S h res :=
  ⟨hk.1, fun p e R s m args below meth c Q mc ms n0 ad0 hX hF ad H locs cells slots ls lv st hn hh hs hl hL hS hc hlo => go hX hh hl hL hS fun ls' lv' st' a b q => hk.2 p e R s m args below meth c Q mc ms n0 ad0 hX hF ad H locs cells slots ls' lv' st' hn hh hs a b q hc hlo⟩
def rDec (M : rM) (pc : Nat) (i : Instr) (n pc' : Nat) : Prop := decode (rMc_ M) pc = .ok (i, n) ∧ pc + n = pc'
section SND
variable {lab : Nat → rM × Nat} {M : rM} {pc pc' : Nat} {nx : rP}
theorem s_Il {i : Nat} {g : List rV → rV} (hg : gOk i g) (hdg : rDec M pc (.iload i) 2 pc' ∨ ∃ k : Fin 4, rDec M pc (.iload_n k) 1 pc' ∧ (k : Nat) = i) (k : rSnd lab M pc' nx) : rSnd lab M pc (oIl g nx) := by
  intro w l d jb jc hb hc L S h res hr
  rcases iS hr with ⟨n, e, hr⟩ | ⟨q, e, hr⟩
  · refine (k w l d jb jc hb hc _ _ _ _ hr).step fun hX _ hl hL hS kk => ?_
    rw [hg] at e
    obtain ⟨v, h1, -, h2⟩ := hL.get hl e (fun z => by cases z)
    obtain ⟨h3, rfl⟩ := h2.i
    rcases hdg with ⟨hdg, rfl⟩ | ⟨q, ⟨hdg, rfl⟩, hq⟩
    · exact lv_iload hX.1 hX.2.1 hdg h1 (kk _ _ _ hl hL ⟨h2, hS⟩)
    · exact lv_iload_n hX.1 hX.2.1 hdg hq h1 (kk _ _ _ hl hL ⟨h2, hS⟩)
  · obtain ⟨a, b, e2, hr⟩ := iX1 hr
    obtain ⟨h5, hr⟩ := iBf hr
    have h6 := blf h5
    refine (k w l d jb jc hb hc _ _ _ _ hr).step fun hX _ hl hL hS kk => ?_
    rw [hg, e2] at e
    obtain ⟨v, h1, -, h2⟩ := hL.get hl e (fun z => by have := congrArg (fun q : rV => match q with | .inr (.inr (.inr p)) => p.1 | _ => 0) z; simp only [vU] at this; omega)
    obtain ⟨y, rfl, h3⟩ := h2.xi (by omega)
    rcases hdg with ⟨hdg, rfl⟩ | ⟨q, ⟨hdg, rfl⟩, hq⟩
    · exact lv_iload hX.1 hX.2.1 hdg h1 (kk _ _ _ hl hL ⟨h2, hS⟩)
    · exact lv_iload_n hX.1 hX.2.1 hdg hq h1 (kk _ _ _ hl hL ⟨h2, hS⟩)

theorem s_Al {i : Nat} {g : List rV → rV} (hg : gOk i g) (hdg : rDec M pc (.aload i) 2 pc' ∨ ∃ k : Fin 4, rDec M pc (.aload_n k) 1 pc' ∧ (k : Nat) = i) (k : rSnd lab M pc' nx) : rSnd lab M pc (oAl g nx) := by
  intro w l d jb jc hb hc L S h res hr
  obtain ⟨n, e, hr⟩ := iA hr
  refine (k w l d jb jc hb hc _ _ _ _ hr).step fun hX _ hl hL hS kk => ?_
  rw [hg] at e
  obtain ⟨v, h1, -, h2⟩ := hL.get hl e (fun z => by cases z)
  have h9 : v = .null ∨ ∃ a, v = .ref a := by
    rcases h2.r with ⟨-, e⟩ | ⟨-, e⟩ | ⟨-, e⟩ | ⟨-, -, e⟩
    · exact Or.inl e
    · exact Or.inr ⟨_, e⟩
    · exact Or.inr ⟨_, e⟩
    · exact Or.inr ⟨_, e⟩
  rcases h9 with rfl | ⟨a, rfl⟩
  · rcases hdg with ⟨hdg, rfl⟩ | ⟨q, ⟨hdg, rfl⟩, hq⟩
    · exact lv_aloadN hX.1 hX.2.1 hdg h1 (kk _ _ _ hl hL ⟨h2, hS⟩)
    · exact lv_aload_nN hX.1 hX.2.1 hdg hq h1 (kk _ _ _ hl hL ⟨h2, hS⟩)
  · rcases hdg with ⟨hdg, rfl⟩ | ⟨q, ⟨hdg, rfl⟩, hq⟩
    · exact lv_aload hX.1 hX.2.1 hdg h1 (kk _ _ _ hl hL ⟨h2, hS⟩)
    · exact lv_aload_n hX.1 hX.2.1 hdg hq h1 (kk _ _ _ hl hL ⟨h2, hS⟩)

theorem s_Ll {i : Nat} {g : List rV → rV} (hg : gOk i g) (hdg : rDec M pc (.lload i) 2 pc' ∨ ∃ k : Fin 4, rDec M pc (.lload_n k) 1 pc' ∧ (k : Nat) = i) (k : rSnd lab M pc' nx) : rSnd lab M pc (oLl g nx) := by
  intro w l d jb jc hb hc L S h res hr
  obtain ⟨n, e, hr⟩ := iL hr
  refine (k w l d jb jc hb hc _ _ _ _ hr).step fun hX _ hl hL hS kk => ?_
  rw [hg] at e
  obtain ⟨v, h1, -, h2⟩ := hL.get hl e (fun z => by cases z)
  obtain ⟨h3, rfl⟩ := h2.l
  rcases hdg with ⟨hdg, rfl⟩ | ⟨q, ⟨hdg, rfl⟩, hq⟩
  · exact lv_lload hX.1 hX.2.1 hdg h1 (kk _ _ _ hl hL ⟨h2, hS⟩)
  · exact lv_lload_n hX.1 hX.2.1 hdg hq h1 (kk _ _ _ hl hL ⟨h2, hS⟩)

theorem s_Dl {i : Nat} {g : List rV → rV} (hg : gOk i g) (hdg : rDec M pc (.dload i) 2 pc' ∨ ∃ k : Fin 4, rDec M pc (.dload_n k) 1 pc' ∧ (k : Nat) = i) (k : rSnd lab M pc' nx) : rSnd lab M pc (oDl g nx) := by
  intro w l d jb jc hb hc L S h res hr
  obtain ⟨a, b, e, hr⟩ := iX hr
  obtain ⟨h5, hr⟩ := iBt hr
  have h6 := bq h5
  refine (k w l d jb jc hb hc _ _ _ _ hr).step fun hX _ hl hL hS kk => ?_
  rw [hg] at e
  obtain ⟨v, h1, -, h2⟩ := hL.get hl e (fun z => by have := congrArg (fun q : rV => match q with | .inr (.inr (.inr p)) => p.1 | _ => 0) z; simp only [vU] at this; omega)
  obtain rfl := h2.d h6
  rcases hdg with ⟨hdg, rfl⟩ | ⟨q, ⟨hdg, rfl⟩, hq⟩
  · exact lv_dload hX.1 hX.2.1 hdg h1 (kk _ _ _ hl hL ⟨h2, hS⟩)
  · exact lv_dload_n hX.1 hX.2.1 hdg hq h1 (kk _ _ _ hl hL ⟨h2, hS⟩)

theorem s_Is {i : Nat} {g : rV → List rV → List rV} (hg : sOk i g) (hn : i < rMl M) (hdg : rDec M pc (.istore i) 2 pc' ∨ ∃ k : Fin 4, rDec M pc (.istore_n k) 1 pc' ∧ (k : Nat) = i) (k : rSnd lab M pc' nx) : rSnd lab M pc (oIs g nx) := by
  intro w l d jb jc hb hc L S h res hr
  obtain ⟨x, S1, rfl, hr⟩ := iP hr
  rcases iS hr with ⟨n, rfl, hr⟩ | ⟨q, rfl, hr⟩
  · refine (k w l d jb jc hb hc _ _ _ _ hr).step fun hX _ hl hL hS kk => ?_
    obtain ⟨v, st1, rfl, h2, hS1⟩ := hS.cons
    obtain ⟨h3, rfl⟩ := h2.i
    rcases hdg with ⟨hdg, rfl⟩ | ⟨q, ⟨hdg, rfl⟩, hq⟩
    · exact lv_istore hX.1 hX.2.1 hdg hl hn rfl (fun ls' hl' => kk ls' _ _ hl' (hL.set1 hg h2) hS1)
    · exact lv_istore_n hX.1 hX.2.1 hdg hq hl hn rfl (fun ls' hl' => kk ls' _ _ hl' (hL.set1 hg h2) hS1)
  · obtain ⟨a, b, e2, hr⟩ := iX1 hr
    obtain ⟨h5, hr⟩ := iBf hr
    have h6 := blf h5
    refine (k w l d jb jc hb hc _ _ _ _ hr).step fun hX _ hl hL hS kk => ?_
    obtain ⟨v, st1, rfl, h2, hS1⟩ := hS.cons
    rw [e2] at h2
    obtain ⟨y, rfl, h3⟩ := h2.xi (by omega)
    rcases hdg with ⟨hdg, rfl⟩ | ⟨q, ⟨hdg, rfl⟩, hq⟩
    · exact lv_istore hX.1 hX.2.1 hdg hl hn rfl (fun ls' hl' => kk ls' _ _ hl' (hL.set1 hg h2) hS1)
    · exact lv_istore_n hX.1 hX.2.1 hdg hq hl hn rfl (fun ls' hl' => kk ls' _ _ hl' (hL.set1 hg h2) hS1)

theorem s_As {i : Nat} {g : rV → List rV → List rV} (hg : sOk i g) (hn : i < rMl M) (hdg : rDec M pc (.astore i) 2 pc' ∨ ∃ k : Fin 4, rDec M pc (.astore_n k) 1 pc' ∧ (k : Nat) = i) (k : rSnd lab M pc' nx) : rSnd lab M pc (oAs g nx) := by
  intro w l d jb jc hb hc L S h res hr
  obtain ⟨x, S1, rfl, hr⟩ := iP hr
  obtain ⟨n, rfl, hr⟩ := iA hr
  refine (k w l d jb jc hb hc _ _ _ _ hr).step fun hX _ hl hL hS kk => ?_
  obtain ⟨v, st1, rfl, h2, hS1⟩ := hS.cons
  have h9 : v = .null ∨ ∃ a, v = .ref a := by
    rcases h2.r with ⟨-, e⟩ | ⟨-, e⟩ | ⟨-, e⟩ | ⟨-, -, e⟩
    · exact Or.inl e
    · exact Or.inr ⟨_, e⟩
    · exact Or.inr ⟨_, e⟩
    · exact Or.inr ⟨_, e⟩
  rcases h9 with rfl | ⟨a, rfl⟩
  · rcases hdg with ⟨hdg, rfl⟩ | ⟨q, ⟨hdg, rfl⟩, hq⟩
    · exact lv_astoreN hX.1 hX.2.1 hdg hl hn rfl (fun ls' hl' => kk ls' _ _ hl' (hL.set1 hg h2) hS1)
    · exact lv_astore_nN hX.1 hX.2.1 hdg hq hl hn rfl (fun ls' hl' => kk ls' _ _ hl' (hL.set1 hg h2) hS1)
  · rcases hdg with ⟨hdg, rfl⟩ | ⟨q, ⟨hdg, rfl⟩, hq⟩
    · exact lv_astore hX.1 hX.2.1 hdg hl hn rfl (fun ls' hl' => kk ls' _ _ hl' (hL.set1 hg h2) hS1)
    · exact lv_astore_n hX.1 hX.2.1 hdg hq hl hn rfl (fun ls' hl' => kk ls' _ _ hl' (hL.set1 hg h2) hS1)

theorem s_Ls {i : Nat} {g : rV → List rV → List rV} (hg : dOk i g) (hn : i + 1 < rMl M) (hdg : rDec M pc (.lstore i) 2 pc' ∨ ∃ k : Fin 4, rDec M pc (.lstore_n k) 1 pc' ∧ (k : Nat) = i) (k : rSnd lab M pc' nx) : rSnd lab M pc (oLs g nx) := by
  intro w l d jb jc hb hc L S h res hr
  obtain ⟨x, S1, rfl, hr⟩ := iP hr
  obtain ⟨n, rfl, hr⟩ := iL hr
  refine (k w l d jb jc hb hc _ _ _ _ hr).step fun hX _ hl hL hS kk => ?_
  obtain ⟨v, st1, rfl, h2, hS1⟩ := hS.cons
  obtain ⟨h3, rfl⟩ := h2.l
  rcases hdg with ⟨hdg, rfl⟩ | ⟨q, ⟨hdg, rfl⟩, hq⟩
  · exact lv_lstore hX.1 hX.2.1 hdg hl hn rfl (fun ls' hl' => kk ls' _ _ hl' (hL.set2 hg h2) hS1)
  · exact lv_lstore_n hX.1 hX.2.1 hdg hq hl hn rfl (fun ls' hl' => kk ls' _ _ hl' (hL.set2 hg h2) hS1)

theorem s_Ds {i : Nat} {g : rV → List rV → List rV} (hg : dOk i g) (hn : i + 1 < rMl M) (hdg : rDec M pc (.dstore i) 2 pc' ∨ ∃ k : Fin 4, rDec M pc (.dstore_n k) 1 pc' ∧ (k : Nat) = i) (k : rSnd lab M pc' nx) : rSnd lab M pc (oDs g nx) := by
  intro w l d jb jc hb hc L S h res hr
  obtain ⟨x, S1, rfl, hr⟩ := iP hr
  obtain ⟨a, b, rfl, hr⟩ := iX hr
  obtain ⟨h5, hr⟩ := iBt hr
  have h6 := bq h5
  refine (k w l d jb jc hb hc _ _ _ _ hr).step fun hX _ hl hL hS kk => ?_
  obtain ⟨v, st1, rfl, h2, hS1⟩ := hS.cons
  obtain rfl := h2.d h6
  rcases hdg with ⟨hdg, rfl⟩ | ⟨q, ⟨hdg, rfl⟩, hq⟩
  · exact lv_dstore hX.1 hX.2.1 hdg hl hn rfl (fun ls' hl' => kk ls' _ _ hl' (hL.set2 hg h2) hS1)
  · exact lv_dstore_n hX.1 hX.2.1 hdg hq hl hn rfl (fun ls' hl' => kk ls' _ _ hl' (hL.set2 hg h2) hS1)

theorem s_ic {n : Int} {N : Nat} (hdg : rDec M pc (.iconst n) 1 pc') (hv : Int32.ofInt n = nI N) (hN : N < 4294967296) (k : rSnd lab M pc' nx) : rSnd lab M pc (oPsh (vI N) nx) := by
  intro w l d jb jc hb hc L S h res hr
  refine (k w l d jb jc hb hc _ _ _ _ hr).step fun hX _ hl hL hS kk => ?_
  obtain ⟨hdg, rfl⟩ := hdg
  exact lv_iconst hX.1 hX.2.1 hdg hv (kk _ _ _ hl hL ⟨⟨hN, rfl⟩, hS⟩)

theorem s_bi {n : Int} {N : Nat} (hdg : rDec M pc (.bipush n) 2 pc') (hv : (Int8.ofInt n).toInt32 = nI N) (hN : N < 4294967296) (k : rSnd lab M pc' nx) : rSnd lab M pc (oPsh (vI N) nx) := by
  intro w l d jb jc hb hc L S h res hr
  refine (k w l d jb jc hb hc _ _ _ _ hr).step fun hX _ hl hL hS kk => ?_
  obtain ⟨hdg, rfl⟩ := hdg
  exact lv_bipush hX.1 hX.2.1 hdg hv (kk _ _ _ hl hL ⟨⟨hN, rfl⟩, hS⟩)

theorem s_si {n : Int} {N : Nat} (hdg : rDec M pc (.sipush n) 3 pc') (hv : (Int16.ofInt n).toInt32 = nI N) (hN : N < 4294967296) (k : rSnd lab M pc' nx) : rSnd lab M pc (oPsh (vI N) nx) := by
  intro w l d jb jc hb hc L S h res hr
  refine (k w l d jb jc hb hc _ _ _ _ hr).step fun hX _ hl hL hS kk => ?_
  obtain ⟨hdg, rfl⟩ := hdg
  exact lv_sipush hX.1 hX.2.1 hdg hv (kk _ _ _ hl hL ⟨⟨hN, rfl⟩, hS⟩)

theorem s_lc {n : Fin 2} {N : Nat} (hdg : rDec M pc (.lconst n) 1 pc') (hv : Int64.ofNat (n : Nat) = lN N) (hN : N < 18446744073709551616) (k : rSnd lab M pc' nx) : rSnd lab M pc (oPsh (vL N) nx) := by
  intro w l d jb jc hb hc L S h res hr
  refine (k w l d jb jc hb hc _ _ _ _ hr).step fun hX _ hl hL hS kk => ?_
  obtain ⟨hdg, rfl⟩ := hdg
  exact lv_lconst hX.1 hX.2.1 hdg hv (kk _ _ _ hl hL ⟨⟨hN, rfl⟩, hS⟩)

theorem s_nu (hdg : rDec M pc .aconst_null 1 pc') (k : rSnd lab M pc' nx) : rSnd lab M pc (oPsh (vR 0) nx) := by
  intro w l d jb jc hb hc L S h res hr
  refine (k w l d jb jc hb hc _ _ _ _ hr).step fun hX _ hl hL hS kk => ?_
  obtain ⟨hdg, rfl⟩ := hdg
  exact lv_null hX.1 hX.2.1 hdg (kk _ _ _ hl hL ⟨Or.inl ⟨rfl, rfl⟩, hS⟩)

theorem s_ld {i N : Nat} {own : String} {v : Int32} (ho : (rMy M).cls = own) (hw : Cond.constant own i v ∈ rTG) (hdg : rDec M pc (.ldc i) 2 pc') (hv : v = nI N) (hN : N < 4294967296) (k : rSnd lab M pc' nx) : rSnd lab M pc (oPsh (vI N) nx) := by
  intro w l d jb jc hb hc L S h res hr
  refine (k w l d jb jc hb hc _ _ _ _ hr).step fun hX _ hl hL hS kk => ?_
  obtain ⟨hdg, rfl⟩ := hdg
  exact (by subst hv; exact lv_ldc hX.1 hX.2.1 (ho ▸ hX.2.2.2.1) (hX.2.2.2.2.1 _ hw) hdg (kk _ _ _ hl hL ⟨⟨hN, rfl⟩, hS⟩))

theorem s_ld2 {i N : Nat} {own : String} {v : Int64} (ho : (rMy M).cls = own) (hw : Cond.constantLong own i v ∈ rTG) (hdg : rDec M pc (.ldc2_w i) 3 pc') (hv : v = lN N) (hN : N < 18446744073709551616) (k : rSnd lab M pc' nx) : rSnd lab M pc (oPsh (vL N) nx) := by
  intro w l d jb jc hb hc L S h res hr
  refine (k w l d jb jc hb hc _ _ _ _ hr).step fun hX _ hl hL hS kk => ?_
  obtain ⟨hdg, rfl⟩ := hdg
  exact (by subst hv; exact lv_ldc2 hX.1 hX.2.1 (ho ▸ hX.2.2.2.1) (hX.2.2.2.2.1 _ hw) hdg (kk _ _ _ hl hL ⟨⟨hN, rfl⟩, hS⟩))

theorem s_Dup (hdg : rDec M pc .dup 1 pc') (k : rSnd lab M pc' nx) : rSnd lab M pc (oDup nx) := by
  intro w l d jb jc hb hc L S h res hr
  obtain ⟨x, S1, rfl, hr⟩ := iP hr
  obtain ⟨h1, hr⟩ := iBf hr
  refine (k w l d jb jc hb hc _ _ _ _ hr).step fun hX _ hl hL hS kk => ?_
  obtain ⟨hdg, rfl⟩ := hdg
  obtain ⟨v, st1, rfl, h2, hS1⟩ := hS.cons
  exact lv_dup hX.1 hX.2.1 hdg (h2.c1 h1) (kk _ _ _ hl hL ⟨h2, h2, hS1⟩)
theorem s_Pop (hdg : rDec M pc .pop 1 pc') (k : rSnd lab M pc' nx) : rSnd lab M pc (oPop nx) := by
  intro w l d jb jc hb hc L S h res hr
  obtain ⟨x, S1, rfl, hr⟩ := iP hr
  obtain ⟨h1, hr⟩ := iBf hr
  refine (k w l d jb jc hb hc _ _ _ _ hr).step fun hX _ hl hL hS kk => ?_
  obtain ⟨hdg, rfl⟩ := hdg
  obtain ⟨v, st1, rfl, h2, hS1⟩ := hS.cons
  exact lv_pop hX.1 hX.2.1 hdg (h2.c1 h1) (kk _ _ _ hl hL hS1)
theorem s_DupX (hdg : rDec M pc .dup_x1 1 pc') (k : rSnd lab M pc' nx) : rSnd lab M pc (oDupX nx) := by
  intro w l d jb jc hb hc L S h res hr
  obtain ⟨x, S1, rfl, hr⟩ := iP hr
  obtain ⟨y, S2, rfl, hr⟩ := iP hr
  obtain ⟨h1, hr⟩ := iBf hr
  obtain ⟨h1', hr⟩ := iBf hr
  refine (k w l d jb jc hb hc _ _ _ _ hr).step fun hX _ hl hL hS kk => ?_
  obtain ⟨hdg, rfl⟩ := hdg
  obtain ⟨v, st1, rfl, h2, hS1⟩ := hS.cons
  obtain ⟨v', st2, rfl, h2', hS2⟩ := hS1.cons
  exact lv_dup_x1 hX.1 hX.2.1 hdg (h2.c1 h1) (h2'.c1 h1') (kk _ _ _ hl hL ⟨h2, h2', h2, hS2⟩)
theorem s_Dup2 (hdg : rDec M pc .dup2 1 pc') (k : rSnd lab M pc' nx) : rSnd lab M pc (oDup2 nx) := by
  intro w l d jb jc hb hc L S h res hr
  obtain ⟨x, S1, rfl, hr⟩ := iP hr
  obtain ⟨y, S2, rfl, hr⟩ := iP hr
  obtain ⟨h1, hr⟩ := iBf hr
  obtain ⟨h1', hr⟩ := iBf hr
  refine (k w l d jb jc hb hc _ _ _ _ hr).step fun hX _ hl hL hS kk => ?_
  obtain ⟨hdg, rfl⟩ := hdg
  obtain ⟨v, st1, rfl, h2, hS1⟩ := hS.cons
  obtain ⟨v', st2, rfl, h2', hS2⟩ := hS1.cons
  exact lv_dup2_11 hX.1 hX.2.1 hdg (h2.c1 h1) (h2'.c1 h1') (kk _ _ _ hl hL ⟨h2, h2', h2, h2', hS2⟩)
-- two ints: what a row gives, and what it must give
def rB2 (M : rM) (i : Instr) (pc : Nat) (ok : Int32 → Int32 → Prop) (F : Int32 → Int32 → Int32) : Prop := ∀ {p : Program} {l : Launch} {e : Env} {R : Room} {s : State} {m : MethodId} {args : Array Value} {below : List Frame} {meth : Method} {c : Code} {Q : State → Prop} {H : Heap} {locs : List Loc} {cells slots : Nat} {ls : Array Slot} {rest : List Value} {x y : Int32}, p.tables.exec = Jvm.exec → c.code = rMc_ M → decode (rMc_ M) pc = .ok (i, 1) → ok x y →
  W p l e R s m args below meth c H locs cells slots Q (F0 m (pc + 1) ls (.int (F x y) :: rest)) → W p l e R s m args below meth c H locs cells slots Q (F0 m pc ls (.int y :: .int x :: rest))
def rL2 (M : rM) (i : Instr) (pc : Nat) (ok : Int64 → Int64 → Prop) (F : Int64 → Int64 → Int64) : Prop := ∀ {p : Program} {l : Launch} {e : Env} {R : Room} {s : State} {m : MethodId} {args : Array Value} {below : List Frame} {meth : Method} {c : Code} {Q : State → Prop} {H : Heap} {locs : List Loc} {cells slots : Nat} {ls : Array Slot} {rest : List Value} {x y : Int64}, p.tables.exec = Jvm.exec → c.code = rMc_ M → decode (rMc_ M) pc = .ok (i, 1) → ok x y →
  W p l e R s m args below meth c H locs cells slots Q (F0 m (pc + 1) ls (.long (F x y) :: rest)) → W p l e R s m args below meth c H locs cells slots Q (F0 m pc ls (.long y :: .long x :: rest))
def rLS (M : rM) (i : Instr) (pc : Nat) (F : Int64 → Int32 → Int64) : Prop := ∀ {p : Program} {l : Launch} {e : Env} {R : Room} {s : State} {m : MethodId} {args : Array Value} {below : List Frame} {meth : Method} {c : Code} {Q : State → Prop} {H : Heap} {locs : List Loc} {cells slots : Nat} {ls : Array Slot} {rest : List Value} {x : Int64} {y : Int32}, p.tables.exec = Jvm.exec → c.code = rMc_ M → decode (rMc_ M) pc = .ok (i, 1) →
  W p l e R s m args below meth c H locs cells slots Q (F0 m (pc + 1) ls (.long (F x y) :: rest)) → W p l e R s m args below meth c H locs cells slots Q (F0 m pc ls (.int y :: .long x :: rest))
-- what the interpreter's numbers say of the ints; g of a first, e of a second that lies between two numbers
def rF2 (f : Nat → Nat → Nat) (ok : Int32 → Int32 → Prop) (okN : Nat → Nat → Bool) (F : Int32 → Int32 → Int32) : Prop := ∀ x y, x < 4294967296 → y < 4294967296 → okN x y = true → ok (nI x) (nI y) ∧ F (nI x) (nI y) = nI (f x y) ∧ f x y < 4294967296
def rG2 (g : Nat → Nat → Nat → Option rV) (ok : Int32 → Int32 → Prop) (F : Int32 → Int32 → Int32) : Prop := ∀ p q y z v, y < 4294967296 → g p q y = some v → p < 17179869184 ∧ (rVi (vX p q) z → ok z (nI y) ∧ rVi v (F z (nI y)))
def rE2 (g : Nat → Nat → Nat → Option rV) (ok : Int32 → Int32 → Prop) (F : Int32 → Int32 → Int32) : Prop := ∀ x p q z v, x < 4294967296 → g x p q = some v → p < 17179869184 ∧ (rVi (vX p q) z → ok (nI x) z ∧ rVi v (F (nI x) z))
theorem rG2_x {ok : Int32 → Int32 → Prop} {F : Int32 → Int32 → Int32} : rG2 xN ok F := fun _ _ _ _ _ _ h => by cases h
theorem rE2_x {ok : Int32 → Int32 → Prop} {F : Int32 → Int32 → Int32} : rE2 xN ok F := fun _ _ _ _ _ _ h => by cases h
theorem s_Bin {f : Nat → Nat → Nat} {g e : Nat → Nat → Nat → Option rV} {i : Instr} {ok : Int32 → Int32 → Prop} {F : Int32 → Int32 → Int32} (hR : rB2 M i pc ok F) (hf : rF2 f ok (fun _ _ => true) F) (hg : rG2 g ok F) (he : rE2 e ok F) (hdg : rDec M pc i 1 pc') (k : rSnd lab M pc' nx) : rSnd lab M pc (oBin f g e nx) := by
  intro w l d jb jc hb hc L S h res hr
  obtain ⟨b, S1, rfl, hr⟩ := iP hr
  obtain ⟨a, S2, rfl, hr⟩ := iP hr
  obtain ⟨hdg, rfl⟩ := hdg
  rcases iS hr with ⟨y, rfl, hr⟩ | ⟨q, rfl, hr⟩
  · rcases iS hr with ⟨x, rfl, hr⟩ | ⟨q, rfl, hr⟩
    · refine (k w l d jb jc hb hc _ _ _ _ hr).step fun hX _ hl hL hS kk => ?_
      obtain ⟨v, st1, rfl, h2, hS1⟩ := hS.cons
      obtain ⟨v', st2, rfl, h3, hS2⟩ := hS1.cons
      obtain ⟨l2, rfl⟩ := h2.i
      obtain ⟨l3, rfl⟩ := h3.i
      obtain ⟨f1, f2, f3⟩ := hf x y l3 l2 rfl
      exact hR hX.1 hX.2.1 hdg f1 (kk _ _ _ hl hL ⟨⟨f3, by rw [f2]⟩, hS2⟩)
    · obtain ⟨p1, q1, e1, hr⟩ := iX1 hr
      obtain ⟨v9, e9, hr⟩ := iO hr
      refine (k w l d jb jc hb hc _ _ _ _ hr).step fun hX _ hl hL hS kk => ?_
      obtain ⟨v, st1, rfl, h2, hS1⟩ := hS.cons
      obtain ⟨v', st2, rfl, h3, hS2⟩ := hS1.cons
      obtain ⟨l2, rfl⟩ := h2.i
      rw [e1] at h3
      obtain ⟨z, rfl, hz⟩ := h3.xi (by have := (hg p1 q1 y 0 v9 l2 e9).1; omega)
      obtain ⟨f1, f2⟩ := (hg p1 q1 y z v9 l2 e9).2 hz
      exact hR hX.1 hX.2.1 hdg f1 (kk _ _ _ hl hL ⟨f2.val, hS2⟩)
  · obtain ⟨p1, q1, e1, hr⟩ := iX1 hr
    obtain ⟨x, rfl, hr⟩ := iI hr
    obtain ⟨v9, e9, hr⟩ := iO hr
    refine (k w l d jb jc hb hc _ _ _ _ hr).step fun hX _ hl hL hS kk => ?_
    obtain ⟨v, st1, rfl, h2, hS1⟩ := hS.cons
    obtain ⟨v', st2, rfl, h3, hS2⟩ := hS1.cons
    obtain ⟨l3, rfl⟩ := h3.i
    rw [e1] at h2
    obtain ⟨z, rfl, hz⟩ := h2.xi (by have := (he x p1 q1 0 v9 l3 e9).1; omega)
    obtain ⟨f1, f2⟩ := (he x p1 q1 z v9 l3 e9).2 hz
    exact hR hX.1 hX.2.1 hdg f1 (kk _ _ _ hl hL ⟨f2.val, hS2⟩)
theorem s_Div {okN : Nat → Nat → Bool} {f : Nat → Nat → Nat} {g : Nat → Nat → Nat → Option rV} {i : Instr} {ok : Int32 → Int32 → Prop} {F : Int32 → Int32 → Int32} (hR : rB2 M i pc ok F) (hf : rF2 f ok okN F) (hg : rG2 g ok F) (hdg : rDec M pc i 1 pc') (k : rSnd lab M pc' nx) : rSnd lab M pc (oDiv okN f g nx) := by
  intro w l d jb jc hb hc L S h res hr
  obtain ⟨b, S1, rfl, hr⟩ := iP hr
  obtain ⟨a, S2, rfl, hr⟩ := iP hr
  obtain ⟨hdg, rfl⟩ := hdg
  obtain ⟨y, rfl, hr⟩ := iI hr
  rcases iS hr with ⟨x, rfl, hr⟩ | ⟨q, rfl, hr⟩
  · obtain ⟨hok, hr⟩ := iBt hr
    refine (k w l d jb jc hb hc _ _ _ _ hr).step fun hX _ hl hL hS kk => ?_
    obtain ⟨v, st1, rfl, h2, hS1⟩ := hS.cons
    obtain ⟨v', st2, rfl, h3, hS2⟩ := hS1.cons
    obtain ⟨l2, rfl⟩ := h2.i
    obtain ⟨l3, rfl⟩ := h3.i
    obtain ⟨f1, f2, f3⟩ := hf x y l3 l2 hok
    exact hR hX.1 hX.2.1 hdg f1 (kk _ _ _ hl hL ⟨⟨f3, by rw [f2]⟩, hS2⟩)
  · obtain ⟨p1, q1, e1, hr⟩ := iX1 hr
    obtain ⟨v9, e9, hr⟩ := iO hr
    refine (k w l d jb jc hb hc _ _ _ _ hr).step fun hX _ hl hL hS kk => ?_
    obtain ⟨v, st1, rfl, h2, hS1⟩ := hS.cons
    obtain ⟨v', st2, rfl, h3, hS2⟩ := hS1.cons
    obtain ⟨l2, rfl⟩ := h2.i
    rw [e1] at h3
    obtain ⟨z, rfl, hz⟩ := h3.xi (by have := (hg p1 q1 y 0 v9 l2 e9).1; omega)
    obtain ⟨f1, f2⟩ := (hg p1 q1 y z v9 l2 e9).2 hz
    exact hR hX.1 hX.2.1 hdg f1 (kk _ _ _ hl hL ⟨f2.val, hS2⟩)
theorem s_BinL {okN : Nat → Nat → Bool} {f : Nat → Nat → Nat} {i : Instr} {ok : Int64 → Int64 → Prop} {F : Int64 → Int64 → Int64} (hR : rL2 M i pc ok F) (hf : ∀ x y, x < 18446744073709551616 → y < 18446744073709551616 → okN x y = true → ok (lN x) (lN y) ∧ F (lN x) (lN y) = lN (f x y) ∧ f x y < 18446744073709551616) (hdg : rDec M pc i 1 pc') (k : rSnd lab M pc' nx) : rSnd lab M pc (oBinL okN f nx) := by
  intro w l d jb jc hb hc L S h res hr
  obtain ⟨b, S1, rfl, hr⟩ := iP hr
  obtain ⟨a, S2, rfl, hr⟩ := iP hr
  obtain ⟨hdg, rfl⟩ := hdg
  obtain ⟨y, rfl, hr⟩ := iL hr
  obtain ⟨x, rfl, hr⟩ := iL hr
  obtain ⟨hok, hr⟩ := iBt hr
  refine (k w l d jb jc hb hc _ _ _ _ hr).step fun hX _ hl hL hS kk => ?_
  obtain ⟨v, st1, rfl, h2, hS1⟩ := hS.cons
  obtain ⟨v', st2, rfl, h3, hS2⟩ := hS1.cons
  obtain ⟨l2, rfl⟩ := h2.l
  obtain ⟨l3, rfl⟩ := h3.l
  obtain ⟨f1, f2, f3⟩ := hf x y l3 l2 hok
  exact hR hX.1 hX.2.1 hdg f1 (kk _ _ _ hl hL ⟨⟨f3, by rw [f2]⟩, hS2⟩)
theorem s_ShL {f : Nat → Nat → Nat} {i : Instr} {F : Int64 → Int32 → Int64} (hR : rLS M i pc F) (hf : ∀ x y, x < 18446744073709551616 → y < 4294967296 → F (lN x) (nI y) = lN (f x y) ∧ f x y < 18446744073709551616) (hdg : rDec M pc i 1 pc') (k : rSnd lab M pc' nx) : rSnd lab M pc (oShL f nx) := by
  intro w l d jb jc hb hc L S h res hr
  obtain ⟨b, S1, rfl, hr⟩ := iP hr
  obtain ⟨a, S2, rfl, hr⟩ := iP hr
  obtain ⟨hdg, rfl⟩ := hdg
  obtain ⟨y, rfl, hr⟩ := iI hr
  obtain ⟨x, rfl, hr⟩ := iL hr
  refine (k w l d jb jc hb hc _ _ _ _ hr).step fun hX _ hl hL hS kk => ?_
  obtain ⟨v, st1, rfl, h2, hS1⟩ := hS.cons
  obtain ⟨v', st2, rfl, h3, hS2⟩ := hS1.cons
  obtain ⟨l2, rfl⟩ := h2.i
  obtain ⟨l3, rfl⟩ := h3.l
  obtain ⟨f2, f3⟩ := hf x y l3 l2
  exact hR hX.1 hX.2.1 hdg (kk _ _ _ hl hL ⟨⟨f3, by rw [f2]⟩, hS2⟩)
theorem s_Lcmp (hdg : rDec M pc .lcmp 1 pc') (k : rSnd lab M pc' nx) : rSnd lab M pc (oLcmp fLcmp nx) := by
  intro w l d jb jc hb hc L S h res hr
  obtain ⟨b, S1, rfl, hr⟩ := iP hr
  obtain ⟨a, S2, rfl, hr⟩ := iP hr
  obtain ⟨hdg, rfl⟩ := hdg
  obtain ⟨y, rfl, hr⟩ := iL hr
  obtain ⟨x, rfl, hr⟩ := iL hr
  refine (k w l d jb jc hb hc _ _ _ _ hr).step fun hX _ hl hL hS kk => ?_
  obtain ⟨v, st1, rfl, h2, hS1⟩ := hS.cons
  obtain ⟨v', st2, rfl, h3, hS2⟩ := hS1.cons
  obtain ⟨l2, rfl⟩ := h2.l
  obtain ⟨l3, rfl⟩ := h3.l
  obtain ⟨f2, f3⟩ := ml_cmp l3 l2
  exact W.lcmp hX.1 hX.2.1 hdg (kk _ _ _ hl hL ⟨⟨f3, by rw [f2]⟩, hS2⟩)
theorem s_I2l (hdg : rDec M pc .i2l 1 pc') (k : rSnd lab M pc' nx) : rSnd lab M pc (oI2l nx) := by
  intro w l d jb jc hb hc L S h res hr
  obtain ⟨a, S1, rfl, hr⟩ := iP hr
  obtain ⟨hdg, rfl⟩ := hdg
  obtain ⟨x, rfl, hr⟩ := iI hr
  refine (k w l d jb jc hb hc _ _ _ _ hr).step fun hX _ hl hL hS kk => ?_
  obtain ⟨v, st1, rfl, h2, hS1⟩ := hS.cons
  obtain ⟨l2, rfl⟩ := h2.i
  obtain ⟨f2, f3⟩ := m_i2l l2
  exact lv_i2l hX.1 hX.2.1 hdg f2 (kk _ _ _ hl hL ⟨⟨f3, rfl⟩, hS1⟩)
theorem s_L2i (hdg : rDec M pc .l2i 1 pc') (k : rSnd lab M pc' nx) : rSnd lab M pc (oL2i nx) := by
  intro w l d jb jc hb hc L S h res hr
  obtain ⟨a, S1, rfl, hr⟩ := iP hr
  obtain ⟨hdg, rfl⟩ := hdg
  obtain ⟨x, rfl, hr⟩ := iL hr
  refine (k w l d jb jc hb hc _ _ _ _ hr).step fun hX _ hl hL hS kk => ?_
  obtain ⟨v, st1, rfl, h2, hS1⟩ := hS.cons
  obtain ⟨l2, rfl⟩ := h2.l
  exact lv_l2i hX.1 hX.2.1 hdg (m_l2i x) (kk _ _ _ hl hL ⟨⟨Nat.mod_lt _ (by decide), rfl⟩, hS1⟩)
theorem s_Go {off : Int} (hdg : decode (rMc_ M) pc = .ok (.goto off, 3)) (ht : (pc : Int) + off = (pc' : Int)) (k : rSnd lab M pc' nx) : rSnd lab M pc (oGo nx) := by
  intro w l d jb jc hb hc L S h res hr
  exact (k w l d jb jc hb hc _ _ _ _ hr).step fun hX _ hl hL hS kk => lv_goto hX.1 hX.2.1 hdg ht (kk _ _ _ hl hL hS)
theorem s_Inc {i : Nat} {n : Int} {N : Nat} {g : List rV → rV} {t : rV → List rV → List rV} (hg : gOk i g) (hs : sOk i t) (hn : i < rMl M) (hv : Int32.ofInt n = nI N) (hdg : rDec M pc (.iinc i n) 3 pc') (k : rSnd lab M pc' nx) : rSnd lab M pc (oInc g t N nx) := by
  intro w l d jb jc hb hc L S h res hr
  obtain ⟨hdg, rfl⟩ := hdg
  obtain ⟨x, e, hr⟩ := iI hr
  refine (k w l d jb jc hb hc _ _ _ _ hr).step fun hX _ hl hL hS kk => ?_
  rw [hg] at e
  obtain ⟨v, h1, hm, h2⟩ := hL.get hl e (fun z => by cases z)
  obtain ⟨l2, rfl⟩ := h2.i
  obtain ⟨j, hj⟩ := List.getElem?_of_mem hm
  have hadd : nI x + Int32.ofInt n = nI (fAdd x N) := by rw [hv, m_add]
  exact lv_iinc hX.1 hX.2.1 hdg hl hj hadd hn rfl (fun ls' hl' => kk ls' _ _ hl' (hL.set1 hs ⟨Nat.mod_lt _ (by decide), rfl⟩) hS)
-- branches
def rI1 (M : rM) (i : Instr) (pc tg : Nat) (C : Int32 → Prop) : Prop := ∀ {p : Program} {l : Launch} {e : Env} {R : Room} {s : State} {m : MethodId} {args : Array Value} {below : List Frame} {meth : Method} {c : Code} {Q : State → Prop} {H : Heap} {locs : List Loc} {cells slots : Nat} {ls : Array Slot} {rest : List Value} {x : Int32}, p.tables.exec = Jvm.exec → c.code = rMc_ M → decode (rMc_ M) pc = .ok (i, 3) →
  (C x → W p l e R s m args below meth c H locs cells slots Q (F0 m tg ls rest)) → (¬ C x → W p l e R s m args below meth c H locs cells slots Q (F0 m (pc + 3) ls rest)) → W p l e R s m args below meth c H locs cells slots Q (F0 m pc ls (.int x :: rest))
def rI2 (M : rM) (i : Instr) (pc tg : Nat) (C : Int32 → Int32 → Prop) : Prop := ∀ {p : Program} {l : Launch} {e : Env} {R : Room} {s : State} {m : MethodId} {args : Array Value} {below : List Frame} {meth : Method} {c : Code} {Q : State → Prop} {H : Heap} {locs : List Loc} {cells slots : Nat} {ls : Array Slot} {rest : List Value} {x y : Int32}, p.tables.exec = Jvm.exec → c.code = rMc_ M → decode (rMc_ M) pc = .ok (i, 3) →
  (C x y → W p l e R s m args below meth c H locs cells slots Q (F0 m tg ls rest)) → (¬ C x y → W p l e R s m args below meth c H locs cells slots Q (F0 m (pc + 3) ls rest)) → W p l e R s m args below meth c H locs cells slots Q (F0 m pc ls (.int y :: .int x :: rest))
-- a comparison with what the numbers say of it
def rQ2 (c : Nat → Nat → Bool) (g : Nat → Nat → Nat → Option Bool) (C : Int32 → Int32 → Prop) : Prop := (∀ x y, x < 4294967296 → y < 4294967296 → (c x y = true ↔ C (nI x) (nI y))) ∧ ∀ p q y b, y < 4294967296 → g p q y = some b → p ≤ q ∧ q < 4294967296 ∧ ∀ t, t < 4294967296 → p ≤ t → t ≤ q → (b = true ↔ C (nI t) (nI y))
theorem iBr {o : Option Bool} {t f : rR} {r : rO × rH} (h : rBr o t f = some r) : (o = some true ∧ t = some r) ∨ (o = some false ∧ f = some r) := by
  rcases o with _ | _ | _
  · cases h
  · exact Or.inr ⟨rfl, h⟩
  · exact Or.inl ⟨rfl, h⟩
theorem s_If {c : Nat → Bool} {g : Nat → Nat → Option Bool} {c2 : Nat → Nat → Bool} {g2 : Nat → Nat → Nat → Option Bool} {C : Int32 → Int32 → Prop} (hQ : rQ2 c2 g2 C) (hc0 : ∀ x, c x = c2 x 0) (hg0 : ∀ p q, g p q = g2 p q 0) {i : Instr} {tg : Nat} {tn : rP} (hR : rI1 M i pc tg (fun x => C x 0)) (hdg : decode (rMc_ M) pc = .ok (i, 3)) (kt : rSnd lab M tg tn) (kf : rSnd lab M (pc + 3) nx) : rSnd lab M pc (oIf c g tn nx) := by
  intro w l d jb jc hb hc L S h res hr
  obtain ⟨a, S1, rfl, hr⟩ := iP hr
  rcases iS hr with ⟨x, rfl, hr⟩ | ⟨q, rfl, hr⟩
  · rcases iB hr with ⟨hq, hr⟩ | ⟨hq, hr⟩
    · refine (kt w l d jb jc hb hc _ _ _ _ hr).step fun hX _ hl hL hS kk => ?_
      obtain ⟨v, st1, rfl, h2, hS1⟩ := hS.cons
      obtain ⟨l2, rfl⟩ := h2.i
      exact hR hX.1 hX.2.1 hdg (fun _ => kk _ _ _ hl hL hS1) (fun hn => absurd ((hQ.1 x 0 l2 (by decide)).mp (by rw [← hc0]; exact hq)) hn)
    · refine (kf w l d jb jc hb hc _ _ _ _ hr).step fun hX _ hl hL hS kk => ?_
      obtain ⟨v, st1, rfl, h2, hS1⟩ := hS.cons
      obtain ⟨l2, rfl⟩ := h2.i
      exact hR hX.1 hX.2.1 hdg (fun hn => by have := (hQ.1 x 0 l2 (by decide)).mpr hn; rw [← hc0, hq] at this; cases this) (fun _ => kk _ _ _ hl hL hS1)
  · obtain ⟨p1, q1, e1, hr⟩ := iX1 hr
    rcases iBr hr with ⟨hq, hr⟩ | ⟨hq, hr⟩
    · refine (kt w l d jb jc hb hc _ _ _ _ hr).step fun hX _ hl hL hS kk => ?_
      obtain ⟨v, st1, rfl, h2, hS1⟩ := hS.cons
      rw [hg0] at hq
      obtain ⟨f1, f2, f3⟩ := hQ.2 _ _ _ _ (by decide) hq
      rw [e1] at h2
      obtain ⟨t, l2, rfl, f4, f5⟩ := h2.iv f1 f2
      exact hR hX.1 hX.2.1 hdg (fun _ => kk _ _ _ hl hL hS1) (fun hn => absurd ((f3 t l2 f4 f5).mp rfl) hn)
    · refine (kf w l d jb jc hb hc _ _ _ _ hr).step fun hX _ hl hL hS kk => ?_
      obtain ⟨v, st1, rfl, h2, hS1⟩ := hS.cons
      rw [hg0] at hq
      obtain ⟨f1, f2, f3⟩ := hQ.2 _ _ _ _ (by decide) hq
      rw [e1] at h2
      obtain ⟨t, l2, rfl, f4, f5⟩ := h2.iv f1 f2
      exact hR hX.1 hX.2.1 hdg (fun hn => by have := (f3 t l2 f4 f5).mpr hn; cases this) (fun _ => kk _ _ _ hl hL hS1)
theorem s_Ic {c : Nat → Nat → Bool} {g : Nat → Nat → Nat → Option Bool} {C : Int32 → Int32 → Prop} (hQ : rQ2 c g C) {i : Instr} {tg : Nat} {tn : rP} (hR : rI2 M i pc tg C) (hdg : decode (rMc_ M) pc = .ok (i, 3)) (kt : rSnd lab M tg tn) (kf : rSnd lab M (pc + 3) nx) : rSnd lab M pc (oIc c g tn nx) := by
  intro w l d jb jc hb hc L S h res hr
  obtain ⟨b, S1, rfl, hr⟩ := iP hr
  obtain ⟨a, S1, rfl, hr⟩ := iP hr
  obtain ⟨y, rfl, hr⟩ := iI hr
  rcases iS hr with ⟨x, rfl, hr⟩ | ⟨q, rfl, hr⟩
  · rcases iB hr with ⟨hq, hr⟩ | ⟨hq, hr⟩
    · refine (kt w l d jb jc hb hc _ _ _ _ hr).step fun hX _ hl hL hS kk => ?_
      obtain ⟨v, st1, rfl, h2, hS1⟩ := hS.cons
      obtain ⟨v, st2, rfl, h3, hS2⟩ := hS1.cons
      obtain ⟨l2, rfl⟩ := h2.i
      obtain ⟨l3, rfl⟩ := h3.i
      exact hR hX.1 hX.2.1 hdg (fun _ => kk _ _ _ hl hL hS2) (fun hn => absurd ((hQ.1 x y l3 l2).mp hq) hn)
    · refine (kf w l d jb jc hb hc _ _ _ _ hr).step fun hX _ hl hL hS kk => ?_
      obtain ⟨v, st1, rfl, h2, hS1⟩ := hS.cons
      obtain ⟨v, st2, rfl, h3, hS2⟩ := hS1.cons
      obtain ⟨l2, rfl⟩ := h2.i
      obtain ⟨l3, rfl⟩ := h3.i
      exact hR hX.1 hX.2.1 hdg (fun hn => by have := (hQ.1 x y l3 l2).mpr hn; rw [hq] at this; cases this) (fun _ => kk _ _ _ hl hL hS2)
  · obtain ⟨p1, q1, e1, hr⟩ := iX1 hr
    rcases iBr hr with ⟨hq, hr⟩ | ⟨hq, hr⟩
    · refine (kt w l d jb jc hb hc _ _ _ _ hr).step fun hX _ hl hL hS kk => ?_
      obtain ⟨v, st1, rfl, h2, hS1⟩ := hS.cons
      obtain ⟨v, st2, rfl, h3, hS2⟩ := hS1.cons
      obtain ⟨l2, rfl⟩ := h2.i
      obtain ⟨f1, f2, f3⟩ := hQ.2 _ _ _ _ l2 hq
      rw [e1] at h3
      obtain ⟨t, l3, rfl, f4, f5⟩ := h3.iv f1 f2
      exact hR hX.1 hX.2.1 hdg (fun _ => kk _ _ _ hl hL hS2) (fun hn => absurd ((f3 t l3 f4 f5).mp rfl) hn)
    · refine (kf w l d jb jc hb hc _ _ _ _ hr).step fun hX _ hl hL hS kk => ?_
      obtain ⟨v, st1, rfl, h2, hS1⟩ := hS.cons
      obtain ⟨v, st2, rfl, h3, hS2⟩ := hS1.cons
      obtain ⟨l2, rfl⟩ := h2.i
      obtain ⟨f1, f2, f3⟩ := hQ.2 _ _ _ _ l2 hq
      rw [e1] at h3
      obtain ⟨t, l3, rfl, f4, f5⟩ := h3.iv f1 f2
      exact hR hX.1 hX.2.1 hdg (fun hn => by have := (f3 t l3 f4 f5).mpr hn; cases this) (fun _ => kk _ _ _ hl hL hS2)
end SND
