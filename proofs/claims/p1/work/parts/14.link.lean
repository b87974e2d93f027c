-- ===== how a method is called =====
def rMok (Mc : rM) (n : Nat) : Prop := (∀ wd ∈ rWs Mc, wd ∈ rTG) ∧ rMl Mc ≤ 45 ∧ (rMy Mc).cls ≠ "java/lang/invoke/MethodHandle" ∧ (rMy Mc).cls ≠ "java/lang/invoke/VarHandle" ∧ (parseMethodDescriptor (rMy Mc).desc).map (fun d => d.parameters.length) = some n ∧ Cond.initialized (rMy Mc).cls ∈ rTG
def rLnk (M : rM) (pc ln : Nat) (Mc : rM) (rcv : State → Heap → List Value → Prop) (n : Nat) : Prop := ∀ {w : rW} {l : Launch} {d : Nat} {p : Program} {e : Env} {R : Room} {s : State} {m : MethodId} {args : Array Value} {below : List Frame} {meth : Method} {c : Code} {H : Heap} {locs : List Loc} {cells slots : Nat} {ls : Array Slot} {st rest : List Value} {av : List Value} {ad : Nat → Nat} {h : rH} {res : rO × rH} {mcc mss : Nat},
  rCtx w (d + 1) M p l R s m args meth c → vx_Met l (rMy Mc) (rWs Mc) (rRm d mcc mss) (rPc w ad av h) (rQc w ad h res) (rXc w ad h res) mcc mss (rFree w) → rHp w s ad h H → rcv s H av → av.length = n → ls.size = rMl M → st = av.reverse ++ rest → (rest.map fun v => v.category).sum ≤ 8 → cells + mcc ≤ R.cells ∧ slots + mss ≤ R.slots →
    rRun ln p l e R s m args below meth c H locs cells slots mcc mss (F0 m pc ls st) rest (rQc w ad h res av.toArray) (rXc w ad h res) (rFree w)
def rvS : State → Heap → List Value → Prop := fun _ _ _ => True
def rvI : State → Heap → List Value → Prop := fun _ _ av => ∃ b As, av = .ref b :: As
def rvV (C : String) : State → Heap → List Value → Prop := fun s H av => ∃ b As, av = .ref b :: As ∧ ∃ cellB : Cell, H[b]? = some cellB ∧ cellB.vm.isStatics = false ∧ s.vm.findClass C = some cellB.cls
section LNK
variable {M Mc : rM} {pc i n : Nat} {own : String}
theorem rRoom {w : rW} {l : Launch} {d : Nat} {p : Program} {R : Room} {s : State} {m : MethodId} {args : Array Value} {meth : Method} {c : Code} {mcc mss : Nat} (hX : rCtx w (d + 1) M p l R s m args meth c) (hok : rMok Mc n) : (rRm d mcc mss).frames + 1 ≤ R.frames ∧ 8 + (rMl Mc + 11) + (rRm d mcc mss).locals ≤ R.locals := by
  have hfr := hX.2.2.2.2.2.2.2.2.2.2.1
  have hlr := hX.2.2.2.2.2.2.2.2.2.2.2.1
  have hml := hok.2.1
  unfold rFr at hfr
  unfold rLo at hlr
  refine ⟨?_, ?_⟩
  · show rFr d + 1 ≤ _
    unfold rFr
    omega
  · show 8 + (rMl Mc + 11) + rLo d ≤ _
    unfold rLo
    omega
theorem rFix {w : rW} {l : Launch} {d : Nat} {p : Program} {R : Room} {s : State} {m : MethodId} {args : Array Value} {meth : Method} {c : Code} (hX : rCtx w d M p l R s m args meth c) (ho : (rMy M).cls = own) : CallFix p m c (rMc_ M) (rMl M) s args rTG own := ⟨hX.1, hX.2.1, hX.2.2.1, ho ▸ hX.2.2.2.1, hX.2.2.2.2.1⟩
theorem rWs_none (h : rMh Mc = none) : rWs Mc = Cond.code (rMy Mc) (rMc_ Mc) (rMl Mc) (rMr Mc) :: rTG := by unfold rWs; rw [h]
theorem rWs_some {hh : List (Nat × Nat × Nat × Nat)} (h : rMh Mc = some hh) : rWs Mc = Cond.codeWith (rMy Mc) (rMc_ Mc) (rMl Mc) (rMr Mc) hh :: rTG := by unfold rWs; rw [h]
theorem rMem {ws : List Cond} (h : ∀ wd ∈ ws, wd ∈ rTG) (hok : rMok Mc n) : GoodIn rTG (ws ++ rWs Mc) := rTG_good fun wd hwd => (List.mem_append.mp hwd).elim (h wd) (hok.1 wd)
theorem l_S (ho : (rMy M).cls = own) (hok : rMok Mc n) (hnt : rMh Mc = none) (hlk : Cond.methodLink own i (rMy Mc) ∈ rTG) (hst : Cond.static (rMy Mc) ∈ rTG) (hdg : decode (rMc_ M) pc = .ok (.invokestatic i, 3)) : rLnk M pc 3 Mc rvS n := by
  intro w l d p e R s m args below meth c H locs cells slots ls st rest av ad h res mcc mss hX hM hP hr hn hls hst9 hW hf
  have cw := va_cwS (mc := mcc) (ms := mss) (ws := rWs Mc) (rm := rRm d mcc mss) (own := own) (index := i) n hX.2.2.2.2.1 (rMem (ws := [.methodLink own i (rMy Mc), .static (rMy Mc), .initialized (rMy Mc).cls]) (by
    intro wd hwd
    simp only [List.mem_cons, List.not_mem_nil, or_false] at hwd
    rcases hwd with rfl | rfl | rfl
    · exact hlk
    · exact hst
    · exact hok.2.2.2.2.2) hok) (rWs_none hnt) rfl rfl ⟨hok.2.2.1, hok.2.2.2.1, hok.2.2.2.2.1⟩ (rRoom hX hok)
  exact vx_runS (rFix hX ho) hM cw (rPre hX.2.2.2.2.2.2.2.2.2.1 hP) rfl hn hls hst9 (by show 2 * 0 + _ ≤ 8; omega) hdg hf
theorem l_SX {hh : List (Nat × Nat × Nat × Nat)} (ho : (rMy M).cls = own) (hok : rMok Mc n) (hnt : rMh Mc = some hh) (hlk : Cond.methodLink own i (rMy Mc) ∈ rTG) (hst : Cond.static (rMy Mc) ∈ rTG) (hdg : decode (rMc_ M) pc = .ok (.invokestatic i, 3)) : rLnk M pc 3 Mc rvS n := by
  intro w l d p e R s m args below meth c H locs cells slots ls st rest av ad h res mcc mss hX hM hP hr hn hls hst9 hW hf
  have cw := vx_cwSW (mc := mcc) (ms := mss) (ws := rWs Mc) (rm := rRm d mcc mss) (own := own) (index := i) n hX.2.2.2.2.1 (rMem (ws := [.methodLink own i (rMy Mc), .static (rMy Mc), .initialized (rMy Mc).cls]) (by
    intro wd hwd
    simp only [List.mem_cons, List.not_mem_nil, or_false] at hwd
    rcases hwd with rfl | rfl | rfl
    · exact hlk
    · exact hst
    · exact hok.2.2.2.2.2) hok) (rWs_some hnt) rfl rfl ⟨hok.2.2.1, hok.2.2.2.1, hok.2.2.2.2.1⟩ (rRoom hX hok)
  exact vx_runSX (rFix hX ho) hM cw (rPre hX.2.2.2.2.2.2.2.2.2.1 hP) rfl hn hls hst9 (by show 2 * 0 + _ ≤ 8; omega) hdg hf
theorem l_SN {host : String} {j : Nat} (ho : (rMy M).cls = own) (hok : rMok Mc n) (hnt : rMh Mc = none) (hlk : rNGs[j]? = some (Cond.methodLinkNest own i (rMy Mc) host)) (hst : Cond.static (rMy Mc) ∈ rTG) (hdg : decode (rMc_ M) pc = .ok (.invokestatic i, 3)) : rLnk M pc 3 Mc rvS n := by
  intro w l d p e R s m args below meth c H locs cells slots ls st rest av ad h res mcc mss hX hM hP hr hn hls hst9 hW hf
  have cw := va_cnB (mc := mcc) (ms := mss) (ws := rWs Mc) (rm := rRm d mcc mss) (own := own) (index := i) (host := host) n hX.2.2.2.2.1 (rTG_good hok.1) (rWs_none hnt) rfl rfl (hX.2.2.2.2.2.2.2.2.2.1.ng j hlk) (hX.2.2.2.2.1 _ hok.2.2.2.2.2) ⟨hok.2.2.1, hok.2.2.2.1, hok.2.2.2.2.1⟩ (rRoom hX hok)
  exact vx_runSN (rFix hX ho) hM ⟨cw, hX.2.2.2.2.1 _ hst, trivial⟩ (rPre hX.2.2.2.2.2.2.2.2.2.1 hP) rfl hn hls hst9 (by show 2 * 0 + _ ≤ 8; omega) hdg hf
theorem l_I (ho : (rMy M).cls = own) (hok : rMok Mc n) (hnt : rMh Mc = none) (hini : (rMy Mc).name = "<init>") (hrt : rMr Mc = none) (hlk : Cond.methodLink own i (rMy Mc) ∈ rTG) (hin : Cond.instanceMethod (rMy Mc) ∈ rTG) (hdg : decode (rMc_ M) pc = .ok (.invokespecial i, 3)) : rLnk M pc 3 Mc rvI (n + 1) := by
  intro w l d p e R s m args below meth c H locs cells slots ls st rest av ad h res mcc mss hX hM hP hr hn hls hst9 hW hf
  obtain ⟨b, As, rfl⟩ := hr
  have ht := hX.2.2.2.2.1
  have cw := callB_of (mc := mcc) (ms := mss) (ws := rWs Mc) (rm := rRm d mcc mss) (own := own) (index := i) n ht (rTG_good hok.1) (rWs_none hnt) rfl rfl (ht _ hok.2.2.2.2.2) (ht _ hlk) ⟨hok.2.2.1, hok.2.2.2.1, hok.2.2.2.2.1⟩ (rRoom hX hok)
  rw [hrt] at cw
  exact vx_runI (rFix hX ho) hM ⟨cw, hini, ht _ hin⟩ (rPre hX.2.2.2.2.2.2.2.2.2.1 hP) rfl (by simpa using hn) hls (by rw [hst9]; simp) (by show 2 * 0 + _ ≤ 8; omega) hdg hf
theorem l_IN {host : String} {j : Nat} (ho : (rMy M).cls = own) (hok : rMok Mc n) (hnt : rMh Mc = none) (hini : (rMy Mc).name = "<init>") (hrt : rMr Mc = none) (hlk : rNGs[j]? = some (Cond.methodLinkNest own i (rMy Mc) host)) (hin : Cond.instanceMethod (rMy Mc) ∈ rTG) (hdg : decode (rMc_ M) pc = .ok (.invokespecial i, 3)) : rLnk M pc 3 Mc rvI (n + 1) := by
  intro w l d p e R s m args below meth c H locs cells slots ls st rest av ad h res mcc mss hX hM hP hr hn hls hst9 hW hf
  obtain ⟨b, As, rfl⟩ := hr
  have ht := hX.2.2.2.2.1
  have cw := va_cnB (mc := mcc) (ms := mss) (ws := rWs Mc) (rm := rRm d mcc mss) (own := own) (index := i) (host := host) n ht (rTG_good hok.1) (rWs_none hnt) rfl rfl (hX.2.2.2.2.2.2.2.2.2.1.ng j hlk) (ht _ hok.2.2.2.2.2) ⟨hok.2.2.1, hok.2.2.2.1, hok.2.2.2.2.1⟩ (rRoom hX hok)
  rw [hrt] at cw
  exact vx_runIN (rFix hX ho) hM ⟨cw, hini, ht _ hin⟩ (rPre hX.2.2.2.2.2.2.2.2.2.1 hP) rfl (by simpa using hn) hls (by rw [hst9]; simp) (by show 2 * 0 + _ ≤ 8; omega) hdg hf
theorem l_V (ho : (rMy M).cls = own) (hok : rMok Mc n) (hnt : rMh Mc = none) (hlk : Cond.methodLink own i (rMy Mc) ∈ rTG) (hin : Cond.instanceMethod (rMy Mc) ∈ rTG) (hsel : Cond.selects (rMy Mc).cls (rMy Mc) (rMy Mc) ∈ rTG) (hdg : decode (rMc_ M) pc = .ok (.invokevirtual i, 3)) : rLnk M pc 3 Mc (rvV (rMy Mc).cls) (n + 1) := by
  intro w l d p e R s m args below meth c H locs cells slots ls st rest av ad h res mcc mss hX hM hP hr hn hls hst9 hW hf
  obtain ⟨b, As, rfl, hcell⟩ := hr
  have ht := hX.2.2.2.2.1
  have cw := callB_of (mc := mcc) (ms := mss) (ws := rWs Mc) (rm := rRm d mcc mss) (own := own) (index := i) n ht (rTG_good hok.1) (rWs_none hnt) rfl rfl (ht _ hok.2.2.2.2.2) (ht _ hlk) ⟨hok.2.2.1, hok.2.2.2.1, hok.2.2.2.2.1⟩ (rRoom hX hok)
  have hp := rPre (av := .ref b :: As) hX.2.2.2.2.2.2.2.2.2.1 hP
  exact vx_runV (rFix hX ho) hM ⟨cw, ht _ hin, ht _ hsel⟩ ⟨hp.1, hcell, hp.2⟩ rfl (by simpa using hn) hls (by rw [hst9]; simp) (by show 2 * 0 + _ ≤ 8; omega) hdg hf
theorem rSelP {C : String} {x0 y0 y : MethodName} {s : State} {args : Array Value} (hy : y.cls ≠ "java/lang/invoke/MethodHandle" ∧ y.cls ≠ "java/lang/invoke/VarHandle") (hsel0 : (Cond.selects C x0 y0).before args s = true) (hy0 : y0.cls = y.cls) (hpr : (Cond.privateMethod y).before args s = true) (hin : (Cond.instanceMethod y).before args s = true) : (Cond.selects C y y).before args s = true := by
  obtain ⟨mk, methM, hnamed, hmethM, -, -⟩ := Cond.instanceMethod_spec hin
  obtain ⟨c, r, m, q1, -, q3, -, kP, q5, q6⟩ := Cond.selects_spec hsel0
  have hfound : s.methodFound? y.cls y.name y.desc = some mk := State.methodFound?_of_named hnamed hy
  have hmc : mk.cls = m.cls := by
    have e1 := findClass_of_methodNamed hnamed
    have e2 := findClass_of_methodNamed q3
    rw [hy0] at e2
    exact Option.some.inj (e1.symm.trans e2)
  have hsel : selectMethod {} s.vm c mk = .method mk := selectMethod_private hmethM (Cond.privateMethod_at hpr mk methM hnamed hmethM)
  rw [← hmc] at q5
  simp only [Cond.before, Cond.holds, Cond.value, q1, hfound, hnamed, hsel, q5]
  simp
  exact q6
theorem l_P {C : String} {x0 y0 : MethodName} {j : Nat} (ho : (rMy M).cls = own) (hok : rMok Mc n) (hnt : rMh Mc = none) (hlk : Cond.methodLink own i (rMy Mc) ∈ rTG) (hin : Cond.instanceMethod (rMy Mc) ∈ rTG) (hpr : rNGs[j]? = some (Cond.privateMethod (rMy Mc))) (hsel0 : Cond.selects C x0 y0 ∈ rTG) (hy0 : y0.cls = (rMy Mc).cls) (hdg : decode (rMc_ M) pc = .ok (.invokevirtual i, 3)) : rLnk M pc 3 Mc (rvV C) (n + 1) := by
  intro w l d p e R s m args below meth c H locs cells slots ls st rest av ad h res mcc mss hX hM hP hr hn hls hst9 hW hf
  obtain ⟨b, As, rfl, hcell⟩ := hr
  have ht := hX.2.2.2.2.1
  have cw := callB_of (mc := mcc) (ms := mss) (ws := rWs Mc) (rm := rRm d mcc mss) (own := own) (index := i) n ht (rTG_good hok.1) (rWs_none hnt) rfl rfl (ht _ hok.2.2.2.2.2) (ht _ hlk) ⟨hok.2.2.1, hok.2.2.2.1, hok.2.2.2.2.1⟩ (rRoom hX hok)
  have hp := rPre (av := .ref b :: As) hX.2.2.2.2.2.2.2.2.2.1 hP
  have hsel := rSelP (args := args) ⟨hok.2.2.1, hok.2.2.2.1⟩ (ht _ hsel0) hy0 (va_Nw.use rfl (hX.2.2.2.2.2.2.2.2.2.1.ng j hpr)) (ht _ hin)
  exact vx_runV (rFix hX ho) hM ⟨cw, ht _ hin, hsel⟩ ⟨hp.1, hcell, hp.2⟩ rfl (by simpa using hn) hls (by rw [hst9]; simp) (by show 2 * 0 + _ ≤ 8; omega) hdg hf
theorem l_U {C owner : String} {x : MethodName} (ho : (rMy M).cls = own) (hok : rMok Mc n) (hnt : rMh Mc = none) (hyx : rMy Mc = ⟨owner, x.name, x.desc⟩) (hlk : Cond.methodLink own i x ∈ rTG) (hsame : Cond.sameMethod x.cls owner x.name x.desc ∈ rTG) (hin : Cond.instanceMethod (rMy Mc) ∈ rTG) (hsel : Cond.selects C x (rMy Mc) ∈ rTG) (hdg : decode (rMc_ M) pc = .ok (.invokevirtual i, 3)) : rLnk M pc 3 Mc (rvV C) (n + 1) := by
  intro w l d p e R s m args below meth c H locs cells slots ls st rest av ad h res mcc mss hX hM hP hr hn hls hst9 hW hf
  obtain ⟨b, As, rfl, hcell⟩ := hr
  have ht := hX.2.2.2.2.1
  have hd2 := hok.2.2
  have cw := va_cwU (mc := mcc) (ms := mss) (ws := rWs Mc) (rm := rRm d mcc mss) (own := own) (C := C) (index := i) n ht (rMem (ws := [.methodLink own i x, .sameMethod x.cls owner x.name x.desc, .selects C x (rMy Mc), .instanceMethod (rMy Mc), .initialized (rMy Mc).cls]) (by
    intro wd hwd
    simp only [List.mem_cons, List.not_mem_nil, or_false] at hwd
    rcases hwd with rfl | rfl | rfl | rfl | rfl
    · exact hlk
    · exact hsame
    · exact hsel
    · exact hin
    · exact hok.2.2.2.2.2) hok) (rWs_none hnt) rfl rfl hyx (by rw [hyx] at hd2; exact ⟨hd2.1, hd2.2.1, hd2.2.2.1⟩) (rRoom hX hok)
  have hp := rPre (av := .ref b :: As) hX.2.2.2.2.2.2.2.2.2.1 hP
  exact vx_runU (rFix hX ho) hM cw ⟨hp.1, hcell, hp.2⟩ rfl (by simpa using hn) hls (by rw [hst9]; simp) (by show 2 * 0 + _ ≤ 8; omega) hdg hf
theorem l_O {C owner : String} {x : MethodName} {b0 : ByteArray} {m0 : Nat} {r0 : Option FieldType} (ho : (rMy M).cls = own) (hok : rMok Mc n) (hnt : rMh Mc = none) (hdesc : (rMy Mc).desc = x.desc) (hown : owner ≠ "java/lang/invoke/MethodHandle" ∧ owner ≠ "java/lang/invoke/VarHandle") (h0 : Cond.code ⟨owner, x.name, x.desc⟩ b0 m0 r0 ∈ rTG) (hi0 : Cond.instanceMethod ⟨owner, x.name, x.desc⟩ ∈ rTG) (hlk : Cond.methodLink own i x ∈ rTG) (hsame : Cond.sameMethod x.cls owner x.name x.desc ∈ rTG) (hin : Cond.instanceMethod (rMy Mc) ∈ rTG) (hsel : Cond.selects C x (rMy Mc) ∈ rTG) (hdg : decode (rMc_ M) pc = .ok (.invokevirtual i, 3)) : rLnk M pc 3 Mc (rvV C) (n + 1) := by
  intro w l d p e R s m args below meth c H locs cells slots ls st rest av ad h res mcc mss hX hM hP hr hn hls hst9 hW hf
  obtain ⟨b, As, rfl, hcell⟩ := hr
  have ht := hX.2.2.2.2.1
  have cw := va_cwO (mc := mcc) (ms := mss) (ws := rWs Mc) (rm := rRm d mcc mss) (own := own) (C := C) (owner := owner) (index := i) n ht (rMem (ws := [.methodLink own i x, .sameMethod x.cls owner x.name x.desc, .instanceMethod ⟨owner, x.name, x.desc⟩, .selects C x (rMy Mc), .instanceMethod (rMy Mc), .initialized (rMy Mc).cls]) (by
    intro wd hwd
    simp only [List.mem_cons, List.not_mem_nil, or_false] at hwd
    rcases hwd with rfl | rfl | rfl | rfl | rfl | rfl
    · exact hlk
    · exact hsame
    · exact hi0
    · exact hsel
    · exact hin
    · exact hok.2.2.2.2.2) hok) (rWs_none hnt) rfl rfl h0 ⟨hown.1, hown.2, by rw [← hdesc]; exact hok.2.2.2.2.1⟩ (rRoom hX hok)
  have hp := rPre (av := .ref b :: As) hX.2.2.2.2.2.2.2.2.2.1 hP
  exact vx_runU (rFix hX ho) hM cw ⟨hp.1, hcell, hp.2⟩ rfl (by simpa using hn) hls (by rw [hst9]; simp) (by show 2 * 0 + _ ≤ 8; omega) hdg hf
theorem l_A {C owner : String} {x : MethodName} {j : Nat} (ho : (rMy M).cls = own) (hok : rMok Mc n) (hnt : rMh Mc = none) (hdesc : (rMy Mc).desc = x.desc) (hown : owner ≠ "java/lang/invoke/MethodHandle" ∧ owner ≠ "java/lang/invoke/VarHandle") (hz : rNGs[j]? = some (Cond.declares ⟨owner, x.name, x.desc⟩)) (hlk : Cond.methodLink own i x ∈ rTG) (hsame : Cond.sameMethod x.cls owner x.name x.desc ∈ rTG) (hin : Cond.instanceMethod (rMy Mc) ∈ rTG) (hsel : Cond.selects C x (rMy Mc) ∈ rTG) (hdg : decode (rMc_ M) pc = .ok (.invokevirtual i, 3)) : rLnk M pc 3 Mc (rvV C) (n + 1) := by
  intro w l d p e R s m args below meth c H locs cells slots ls st rest av ad h res mcc mss hX hM hP hr hn hls hst9 hW hf
  obtain ⟨b, As, rfl, hcell⟩ := hr
  have ht := hX.2.2.2.2.1
  have cw := va_cwA (mc := mcc) (ms := mss) (ws := rWs Mc) (rm := rRm d mcc mss) (own := own) (C := C) (owner := owner) (index := i) n ht (rMem (ws := [.methodLink own i x, .sameMethod x.cls owner x.name x.desc, .selects C x (rMy Mc), .instanceMethod (rMy Mc), .initialized (rMy Mc).cls]) (by
    intro wd hwd
    simp only [List.mem_cons, List.not_mem_nil, or_false] at hwd
    rcases hwd with rfl | rfl | rfl | rfl | rfl
    · exact hlk
    · exact hsame
    · exact hsel
    · exact hin
    · exact hok.2.2.2.2.2) hok) (rWs_none hnt) rfl rfl (hX.2.2.2.2.2.2.2.2.2.1.ng j hz) ⟨hown.1, hown.2, by rw [← hdesc]; exact hok.2.2.2.2.1⟩ (rRoom hX hok)
  have hp := rPre (av := .ref b :: As) hX.2.2.2.2.2.2.2.2.2.1 hP
  exact vx_runU (rFix hX ho) hM cw ⟨hp.1, hcell, hp.2⟩ rfl (by simpa using hn) hls (by rw [hst9]; simp) (by show 2 * 0 + _ ≤ 8; omega) hdg hf
theorem l_F {C : String} {x : MethodName} {ci ct : Nat} {r : vw_C} (ho : (rMy M).cls = own) (hr9 : rCls[ci]? = some r) (hC : r.1 = C) (hok : rMok Mc n) (hnt : rMh Mc = none) (hdesc : (rMy Mc).desc = x.desc) (hxc : x.cls ≠ "java/lang/invoke/MethodHandle" ∧ x.cls ≠ "java/lang/invoke/VarHandle") (hfw : (C, x, rMy Mc) ∈ rFws) (hlk : Cond.methodLink own i x ∈ rTG) (hin : Cond.instanceMethod (rMy Mc) ∈ rTG) (hsel : Cond.selects C x (rMy Mc) ∈ rTG) (hdg : decode (rMc_ M) pc = .ok (.invokeinterface i ct, 5)) : rLnk M pc 5 Mc (rvV C) (n + 1) := by
  intro w l d p e R s m args below meth c H locs cells slots ls st rest av ad h res mcc mss hX hM hP hr hn hls hst9 hW hf
  obtain ⟨b, As, rfl, hcell⟩ := hr
  have ht := hX.2.2.2.2.1
  have hK := hX.2.2.2.2.2.2.2.2.2.1
  have hF := hK.2.1.2.2.2.2.2.2.2.1 _ hfw
  have hat := (hK.1 ci r hr9).2
  rw [hC] at hat
  have cw := va_cwF (mc := mcc) (ms := mss) (ws := rWs Mc) (rm := rRm d mcc mss) (own := own) (C := C) (x := x) (index := i) n ht (rMem (ws := [.methodLink own i x, .selects C x (rMy Mc), .instanceMethod (rMy Mc), .initialized (rMy Mc).cls]) (by
    intro wd hwd
    simp only [List.mem_cons, List.not_mem_nil, or_false] at hwd
    rcases hwd with rfl | rfl | rfl | rfl
    · exact hlk
    · exact hsel
    · exact hin
    · exact hok.2.2.2.2.2) hok) (rWs_none hnt) rfl rfl hF ⟨hxc.1, hxc.2, by rw [← hdesc]; exact hok.2.2.2.2.1⟩ (rRoom hX hok)
  have hp := rPre (av := .ref b :: As) hK hP
  exact vx_runF hat (rFix hX ho) hM cw ⟨hp.1, hcell, hp.2⟩ rfl (by simpa using hn) hls (by rw [hst9]; simp) (by show 2 * 0 + _ ≤ 8; omega) hdg hf
end LNK
section SND7
variable {lab : Nat → rM × Nat} {M Mc : rM} {pc pc' ln id n : Nat} {nx : rP}
theorem rRet_i {r : rR} {kk : Option rV → rH → rR} {xx : Nat → rH → rR} {res : rO × rH} (hh : rRet r kk xx = some res) : (∃ v h', r = some (.inl v, h') ∧ kk v h' = some res) ∨ ∃ e h', r = some (.inr e, h') ∧ xx e h' = some res := by
  rcases r with _ | ⟨v | e, h'⟩
  · cases hh
  · exact Or.inl ⟨v, h', rfl, hh⟩
  · exact Or.inr ⟨e, h', rfl, hh⟩
theorem rRev {w : rW} {ad : Nat → Nat} {n : Nat} {vs : List rV} {us : List Value} (h : rStk w ad n vs us) : rArgs w ad n (layA vs.reverse ++ []) us.reverse := by rw [List.append_nil]; exact rArgs_of h.rev
theorem layA_R (a : Nat) (xs : List rV) : layA (vR a :: xs) = vR a :: (layA xs ++ []) := by
  rw [List.append_nil]
  simp only [layA]
  rw [if_neg (by show ¬ rC2 (vR a) = true; intro q; cases q)]
theorem s_Cs (hlab : lab id = (Mc, 0)) (hL : rLnk M pc 3 Mc rvS n) (kx : rSnd lab M (pc + 3) nx) : rSnd lab M pc (oCs id n nx) := by
  intro w l d jb jc hb hc L S h res hh
  obtain ⟨vs, S', rfl, hlen, hh⟩ := rArg_i hh
  obtain ⟨hh, hsl⟩ := rSh_i hh
  rcases rRet_i hh with ⟨v, h', hr, hh⟩ | ⟨e, h', hr, hh⟩
  · have hcon := hc id (by rw [hlab])
    rw [hlab] at hcon
    obtain ⟨hm, hM⟩ := hcon _ _ _ hr
    refine rTo.run hm (kx w l d jb jc hb hc _ _ _ _ hh) fun hX hP hl hS hroom => ?_
    obtain ⟨us, st', rfl, e1, e2, e3⟩ := hS.app
    exact ⟨us.reverse.toArray, st', e3, hL hX (hM _ _ (rRev e2)) hP trivial (by simp [e1, hlen]) hl.1 (by simp) (by have := e3.len; omega) hroom⟩
  · cases hh
theorem s_Ci (hlab : lab id = (Mc, 0)) (hL : rLnk M pc 3 Mc rvI (n + 1)) (kx : rSnd lab M (pc + 3) nx) : rSnd lab M pc (oCi id n nx) := by
  intro w l d jb jc hb hc L S h res hh
  obtain ⟨vs, S', rfl, hlen, hh⟩ := rArg_i hh
  obtain ⟨o, S1, rfl, hh⟩ := iP hh
  obtain ⟨a, rfl, hh⟩ := iA hh
  obtain ⟨hh, hsl⟩ := rSh_i hh
  obtain ⟨e0, hh⟩ := iBf hh
  rcases rRet_i hh with ⟨v, h', hr, hh⟩ | ⟨e, h', hr, hh⟩
  · have hcon := hc id (by rw [hlab])
    rw [hlab] at hcon
    obtain ⟨hm, hM⟩ := hcon _ _ _ hr
    refine rTo.run hm (kx w l d jb jc hb hc _ _ _ _ hh) fun hX hP hl hS hroom => ?_
    obtain ⟨us, st', rfl, e1, e2, e3⟩ := hS.app
    obtain ⟨v3, st3, rfl, g3, hS3⟩ := e3.cons
    have hargs := rArgs_of (xs := vR a :: vs.reverse) (us := v3 :: us.reverse) ⟨g3, e2.rev⟩
    rw [layA_R] at hargs
    obtain ⟨b, rfl⟩ := rDr g3 (bqf e0)
    exact ⟨(.ref b :: us.reverse).toArray, st3, hS3, hL hX (hM _ _ hargs) hP ⟨b, _, rfl⟩ (by simp [e1, hlen]) hl.1 (by simp) (by have := hS3.len; omega) hroom⟩
  · cases hh
theorem s_Cv {kd : Nat} {C : String} (hk0 : kd ≠ 0) (hC : rNm kd = C) (hlab : lab id = (Mc, 0)) (hL : rLnk M pc ln Mc (rvV C) (n + 1)) (kx : rSnd lab M (pc + ln) nx) : rSnd lab M pc (oCv kd id n nx) := by
  intro w l d jb jc hb hc L S h res hh
  obtain ⟨vs, S', rfl, hlen, hh⟩ := rArg_i hh
  obtain ⟨o, S1, rfl, hh⟩ := iP hh
  obtain ⟨a, rfl, hh⟩ := iA hh
  obtain ⟨hh, hsl⟩ := rSh_i hh
  obtain ⟨e0, hh⟩ := iBt hh
  have ek : (rAt h a).1 = kd := bq e0
  rcases rRet_i hh with ⟨v, h', hr, hh⟩ | ⟨e, h', hr, hh⟩
  · have hcon := hc id (by rw [hlab])
    rw [hlab] at hcon
    obtain ⟨hm, hM⟩ := hcon _ _ _ hr
    refine rTo.run hm (kx w l d jb jc hb hc _ _ _ _ hh) fun hX hP hl hS hroom => ?_
    obtain ⟨us, st', rfl, e1, e2, e3⟩ := hS.app
    obtain ⟨v3, st3, rfl, g3, hS3⟩ := e3.cons
    have hargs := rArgs_of (xs := vR a :: vs.reverse) (us := v3 :: us.reverse) ⟨g3, e2.rev⟩
    rw [layA_R] at hargs
    obtain ⟨y1, y2, hv3, cell, y3, y4, y5⟩ := hP.named hX.2.2.2.2.2.2.2.2.2.1.1 g3 (by rw [ek]; exact hk0)
    rw [ek, hC] at y5
    obtain ⟨b, hb3, hb4⟩ : ∃ b, v3 = .ref b ∧ _ = b := ⟨_, hv3, rfl⟩
    rw [hb4] at y3
    subst hb3
    exact ⟨(.ref b :: us.reverse).toArray, st3, hS3, hL hX (hM _ _ hargs) hP ⟨b, _, rfl, cell, y3, by rw [y4]; rfl, y5⟩ (by simp [e1, hlen]) hl.1 (by simp) (by have := hS3.len; omega) hroom⟩
  · cases hh
def rAltS (lab : Nat → rM × Nat) (M : rM) (pc ln n : Nat) : List (Nat × Nat) → Prop
  | [] => True
  | q :: al => (∃ Mc, q.1 ≠ 0 ∧ lab q.2 = (Mc, 0) ∧ rLnk M pc ln Mc (rvV (rNm q.1)) (n + 1)) ∧ rAltS lab M pc ln n al
theorem rAlt_i : ∀ {al : List (Nat × Nat)} {k : Nat} {f : Nat → rR} {r : rO × rH}, rAltS lab M pc ln n al → rAlt al k f = some r → ∃ id Mc, f id = some r ∧ k ≠ 0 ∧ lab id = (Mc, 0) ∧ rLnk M pc ln Mc (rvV (rNm k)) (n + 1)
  | [], _, _, _, _, hh => by cases hh
  | q :: al, k, f, r, ha, hh => by
    have hh : @Bool.rec (fun _ => rR) (rAlt al k f) (f q.2) (Nat.beq k q.1) = some r := hh
    rcases iB hh with ⟨e, hq⟩ | ⟨-, hq⟩
    · obtain ⟨Mc, h0, h1, h2⟩ := ha.1
      have e := bq e
      subst e
      exact ⟨q.2, Mc, hq, h0, h1, h2⟩
    · exact rAlt_i ha.2 hq
theorem s_Cp {al : List (Nat × Nat)} (hal : rAltS lab M pc ln n al) (kx : rSnd lab M (pc + ln) nx) : rSnd lab M pc (oCp al n nx) := by
  intro w l d jb jc hb hc L S h res hh
  obtain ⟨vs, S', rfl, hlen, hh⟩ := rArg_i hh
  obtain ⟨o, S1, rfl, hh⟩ := iP hh
  obtain ⟨a, rfl, hh⟩ := iA hh
  obtain ⟨hh, hsl⟩ := rSh_i hh
  obtain ⟨id, Mc, hh, hk0, hlab, hL⟩ := rAlt_i (k := (rAt h a).1) hal hh
  rcases rRet_i hh with ⟨v, h', hr, hh⟩ | ⟨e, h', hr, hh⟩
  · have hcon := hc id (by rw [hlab])
    rw [hlab] at hcon
    obtain ⟨hm, hM⟩ := hcon _ _ _ hr
    refine rTo.run hm (kx w l d jb jc hb hc _ _ _ _ hh) fun hX hP hl hS hroom => ?_
    obtain ⟨us, st', rfl, e1, e2, e3⟩ := hS.app
    obtain ⟨v3, st3, rfl, g3, hS3⟩ := e3.cons
    have hargs := rArgs_of (xs := vR a :: vs.reverse) (us := v3 :: us.reverse) ⟨g3, e2.rev⟩
    rw [layA_R] at hargs
    obtain ⟨y1, y2, hv3, cell, y3, y4, y5⟩ := hP.named hX.2.2.2.2.2.2.2.2.2.1.1 g3 hk0
    obtain ⟨b, hb3, hb4⟩ : ∃ b, v3 = .ref b ∧ _ = b := ⟨_, hv3, rfl⟩
    rw [hb4] at y3
    subst hb3
    exact ⟨(.ref b :: us.reverse).toArray, st3, hS3, hL hX (hM _ _ hargs) hP ⟨b, _, rfl, cell, y3, by rw [y4]; rfl, y5⟩ (by simp [e1, hlen]) hl.1 (by simp) (by have := hS3.len; omega) hroom⟩
  · cases hh
end SND7
