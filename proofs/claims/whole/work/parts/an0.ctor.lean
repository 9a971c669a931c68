/-! new E("text"); athrow, E's own constructor of any entry, no traces kept -/
section NT
variable {p : Program} {l : Launch} {e : Env} {R : Room} {s : State} {m : MethodId} {args : Array Value} {below : List Frame} {meth : Method} {c : Code} {H : Heap} {locs : List Loc} {cells slots : Nat}
theorem nt_ctor {T0 : State} (X : Stand p l e R s m args below meth c T0 [] cells slots) (hexec : p.tables.exec = Jvm.exec) (htr : e.platform.stackTraces = false) {own cls : String} {names : List String} {ic ix : Nat} {rx : ByteArray}
    (x0 : decode rx 0 = .ok (.aload_n 0, 1)) (x1 : decode rx 1 = .ok (.aload_n 1, 1)) (x2 : decode rx 2 = .ok (.invokespecial ix, 3)) (x5 : decode rx 5 = .ok (.return_, 1))
    (hown : s.vm.findClass own = some m.cls) (hcls : Bundle.fit cls = true) (hnames : ∀ n ∈ names, Bundle.fit n = true) (h : ∀ w ∈ Bundle.ownAtomsX own ic cls ix rx names, w.before args s = true)
    {a : Addr} {cX : ClassId} {kX : Class} (hfX : s.vm.findClass cls = some cX) (hkX : s.vm.classes[cX]? = some kX) (hcell : T0.heap[a]? = some (freshCell cX kX)) (hnew : s.heap.size ≤ a) {msg : Value} (hmsg : msg.isRef = true)
    {g : JFrame} (hg : g.method = m) (hsize : g.locals.size = c.maxLocals) (hlocked : g.locked = none) (hentered : g.entered = []) {rest : List Value} (hstack : g.stack = msg :: .ref a :: .ref a :: rest)
    (d6 : decode c.code g.pc = .ok (.invokespecial ic, 3)) (d9 : decode c.code (g.pc + 3) = .ok (.athrow, 1)) (hout : ∀ y ∈ c.exceptionTable.toList, covers y (g.pc + 3) = false)
    (hRf : names.length + 3 < R.frames) (hRl : 2 * g.monitorRoom + ((Value.ref a :: rest).map fun v => v.category).sum + (13 * (names.length + 1) + 42) ≤ R.locals) (hlocks : meth.locks = false) :
    ∃ U : State, Steps p.tables e below (T0.setTop g) U ∧ U.status = .running ∧ Ended U below (.threw a) ∧ s.WarmedH U.vm ∧ s.sameButNew ({ U with vm := s.vm } : State) [] cells slots ∧ ∃ ce, U.heap[a]? = some ce ∧ s.vm.findClass cls = some ce.cls ∧ ce.vm = .none := by
  have pOwn : e.platform.frameOwnsMonitors = true := by rw [X.admits.platform]
  have pFin : e.platform.finalization = false := by rw [X.admits.platform]
  have pMag : e.platform.magicAccessors = ({} : Platform).magicAccessors := by rw [X.admits.platform]
  have wd : ∀ w, w ∈ Bundle.ownAtomsX own ic cls ix rx names → w.holds args s none s [] = true := fun w hw => h w hw
  have inT : ∀ w ∈ Bundle.throwableAtoms, w.before args s = true := fun w hw => h w (by simp [Bundle.ownAtomsX, hw])
  obtain ⟨Th, z0, lk1, -, fa⟩ := ThrowableC.of_atoms (args := args) pOwn pFin pMag inT
  obtain ⟨Z, Mc, lz, lm, hnZ⟩ := Init0T.ofS_atoms (args := args) pMag lk1 fa (fun w hw => h w (by simp [Bundle.ownAtomsX, hw]))
  obtain ⟨Q1, Qs, hlen, k1, ks, q1m, j1, js⟩ := Bundle.chainSX (args := args) pMag hnZ x0 x1 x2 x5 names cls hcls hnames (fun w hw => h w (by simp [Bundle.ownAtomsX, hw]))
  have fC := findClass_of_methodNamed q1m
  cases Option.some.inj (hfX.symm.trans fC)
  obtain ⟨w1, w2, y1, y2, hord, -, -, -⟩ := Cond.instantiable_spec (wd (.instantiable cls 6) (by simp [Bundle.ownAtomsX]))
  cases Option.some.inj (y1.symm.trans fC)
  cases Option.some.inj (hkX.symm.trans y2)
  have sl : ∀ (y : MethodName) (mk : MethodId), Cond.selects cls y y ∈ Bundle.ownAtomsX own ic cls ix rx names → s.methodNamed? y = some mk → (y.cls ≠ "java/lang/invoke/MethodHandle" ∧ y.cls ≠ "java/lang/invoke/VarHandle") → selectMethod e.platform s.vm Q1.m.cls mk = .method mk := by
    intro y mk hy hn hp
    obtain ⟨_, _, _, z1, z2, z3, z4, -⟩ := Cond.selects_spec (wd _ hy)
    cases Option.some.inj (z1.symm.trans fC)
    cases Option.some.inj (z2.symm.trans (State.methodFound?_of_named hn hp))
    cases Option.some.inj (z3.symm.trans hn)
    rw [Launch.admits_selectMethod X.admits]
    exact z4
  obtain ⟨cs0, hcs0, his⟩ := fa.statics
  obtain ⟨u0, hu0⟩ := Cond.staticRefV fa.unassigned lk1.unassignedStatic lk1.statics hcs0 his (wd (.isRef (.static Bundle.tN "UNASSIGNED_STACK" Bundle.steD)) (by simp [Bundle.ownAtomsX]))
  obtain ⟨se, hse⟩ := Cond.staticRefV fa.sentinel lk1.sentinelStatic lk1.statics hcs0 his (wd (.isRef (.static Bundle.tN "SUPPRESSED_SENTINEL" Bundle.listD)) (by simp [Bundle.ownAtomsX]))
  obtain ⟨n198, i198, fB, b1, b2, b3, b4, -, b5, b6, b7⟩ := Cond.ownField (t := .object "java/lang/Object") fa.found lk1.cls (by decide +kernel) (wd (.fieldLink Bundle.tN 198 Bundle.tN "backtrace" "Ljava/lang/Object;") (by simp [Bundle.ownAtomsX])) (wd (.lays Bundle.tN Bundle.tN "backtrace" "Ljava/lang/Object;") (by simp [Bundle.ownAtomsX])) e.platform pMag
  obtain ⟨cs, hcs, eS, -, kS⟩ := X.same.2.2.2.2.2 Th.aS cs0 hcs0
  have hcs : T0.heap[Th.aS]? = some cs := hcs
  have knS : cs.vm ≠ .unknown := by
    rw [eS]
    intro hu
    rw [show cs0.vm = .unknown from hu] at his
    cases his
  have neS : Th.aS ≠ a := Nat.ne_of_lt (Nat.lt_of_lt_of_le (Array.getElem?_eq_some_iff.mp hcs0).1 hnew)
  obtain ⟨iM, fM⟩ := fa.msg
  obtain ⟨tC, _, oC, nC⟩ := Cond.laysAt fC y2 fa.cause (wd (.lays cls Bundle.tN "cause" "Ljava/lang/Throwable;") (by simp [Bundle.ownAtomsX]))
  obtain ⟨tS, _, oS, nS⟩ := Cond.laysAt fC y2 fa.stack (wd (.lays cls Bundle.tN "stackTrace" Bundle.steD) (by simp [Bundle.ownAtomsX]))
  obtain ⟨tP, _, oP, nP⟩ := Cond.laysAt fC y2 fa.supp (wd (.lays cls Bundle.tN "suppressedExceptions" Bundle.listD) (by simp [Bundle.ownAtomsX]))
  obtain ⟨tM, _, oM, nM⟩ := Cond.laysAt fC y2 fM (wd (.lays cls Bundle.tN "detailMessage" "Ljava/lang/String;") (by simp [Bundle.ownAtomsX]))
  obtain ⟨tB, _, oB, nB⟩ := Cond.laysAt fC y2 b7 (wd (.lays cls Bundle.tN "backtrace" "Ljava/lang/Object;") (by simp [Bundle.ownAtomsX]))
  have r1 := Cond.laysApart oB oC nB nC (by rw [b5, fa.causeName]; decide)
  have r2 := Cond.laysApart oB oS nB nS (by rw [b5, fa.stackName]; decide)
  have r3 := Cond.laysApart oB oP nB nP (by rw [b5, fa.suppName]; decide)
  have skip : SkipFacts Th e.platform s (fun u => u) u0 ((preparedCellV Th.toThrowableT (freshCell Q1.m.cls kX) a u0 se).withEntry T0.cur) := by
    refine ⟨{ ci198 := n198, i198 := i198, fBack := fB }, ⟨b1, b2, b3, b4⟩, ?_, fun _ _ => rfl⟩
    have f0 := fresh_default (c := Q1.m.cls) tB
    rw [b6] at f0
    simpa [preparedCellV, Cell.setSlot, Cell.withEntry, Array.getElem?_setIfInBounds, r1, r2, r3, r1.symm, r2.symm, r3.symm, defaultValue] using f0
  obtain ⟨_, _, _, _, vm₁, g1, -, -, -, -, -, -, -, hW₁, st1⟩ := Steps.initColdS (tb := p.tables) (e := e) (below := below) (s := s) (U := T0) X.here hexec X.warmed pMag hown (t := Bundle.initS cls) rfl rfl (Bundle.fit_spec hcls).2
    (wd (.methodLink own ic (Bundle.initS cls)) (by simp [Bundle.ownAtomsX])) (h (.instanceMethod (Bundle.initS cls)) (by cases names <;> simp [Bundle.ownAtomsX, Bundle.chainSAtomsX, Bundle.passSAtoms])) (bytes := rx) (maxL := 2) (h (.code (Bundle.initS cls) rx 2 none) (by cases names <;> simp [Bundle.ownAtomsX, Bundle.chainSAtomsX, Bundle.passSAtoms]))
    (f := g) hg (a := a) (msg := msg) (rest := .ref a :: rest) hstack d6
  cases Option.some.inj (g1.symm.trans q1m)
  have X1 := X.noted hW₁
  obtain ⟨vm₂, X2, st2⟩ := X1.ctorMessageOffV hexec (g := { g with stack := .ref a :: rest }) hg hsize Th lk1 Z lz Mc lm (Q1 :: Qs)
    (fun q hq => (List.mem_cons.mp hq).elim (fun e1 => by rw [e1]; exact k1) (ks q)) ⟨j1, js⟩ (u0 := u0) (sen := se) (self := a) hmsg (cell := freshCell Q1.m.cls kX) (cellS := cs)
    hcell (fun _ => by simp) (by simp) rfl rfl (sl Bundle.tFill0 _ (by simp [Bundle.ownAtomsX]) fa.fill0 (by decide)) (sl Bundle.tFill _ (by simp [Bundle.ownAtomsX]) fa.fill (by decide)) hcs neS knS (by rw [kS _ (by simp)]; exact hu0) (by rw [kS _ (by simp)]; exact hse)
    (Takes.of_laid y2 hord tC (by rw [fa.causeType]; rfl)) (Takes.of_laid y2 hord tS (by rw [fa.stackType]; exact fits_refV_array _ u0)) (Takes.of_laid y2 hord tP (by rw [fa.suppType]; exact fits_refV_object _ se))
    (Takes.of_laid y2 hord tM (by rw [fa.msgType]; exact fits_refV_object _ ⟨msg, hmsg⟩)) fa.objLocals skip htr [] d6 (by simp only [List.length_cons, hlen]; omega) (by simp only [List.length_cons, hlen]; exact hRl)
  obtain ⟨walk, hrun, hend, hWU, hsame⟩ := X2.athrowLeaves hexec (g := { g with stack := .ref a :: rest, pc := g.pc + 3 }) hg hlocked hentered hout (a := a) (rest := rest) rfl d9
  have hlt : a < ((T0.setVm vm₁).setVm vm₂).heap.size := (Array.getElem?_eq_some_iff.mp hcell).1
  have hU := heapAt_setCell_self (s := (T0.setVm vm₁).setVm vm₂) (plainBareV Th.toThrowableT (freshCell Q1.m.cls kX) a u0 se msg) hlt
  refine ⟨_, st1 _ (fun acts => by rw [doInvoke_state]; exact st2 _ walk), hrun, hend, hWU, hsame.weaken (fun y hy hb => ?_) (Nat.le_refl _) (Nat.le_refl _), _, hU, fC, rfl⟩
  rcases List.mem_append.mp hy with h1 | h1
  · exact h1
  · have hya : y.base = a := by
      simp only [List.mem_cons, List.not_mem_nil, or_false] at h1
      rcases h1 with rfl | rfl | rfl | rfl | rfl <;> rfl
    rw [hya] at hb
    exact absurd hb (Nat.not_lt.mpr hnew)

def nse : String := "java/util/NoSuchElementException"
def nsN : List String := ["java/lang/RuntimeException", "java/lang/Exception"]
def ndW : List Jvm.Cond := (Bundle.ownAtomsX RX11 415 nse 13 prog_29_method_4_code nsN).filter vx_no
theorem nd_g : ∀ w ∈ Cond.classLink RX11 411 nse :: Cond.initialized nse :: ndW, vx_ot w = true := by decide +kernel
theorem nt_throw {cc : ByteArray} {pc sa mc ms : Nat} {A : Nat → Prop} {text : String} {ls : Array Slot} {rest : List Value} {Qc : Array Value → State → Outcome → State → Prop} {XC : String → State → State → Prop} {free : Addr → Prop} (hexec : p.tables.exec = Jvm.exec) (hb : c.code = cc) (hl : l.stackTraces = false) (hown : s.vm.findClass RX11 = some m.cls)
    (hk : (Cond.classLink RX11 411 nse).before args s = true) (hini : (Cond.initialized nse).before args s = true) (hstr : vk_R RX11 413 text sa s) (hat : ∀ w ∈ ndW, w.before args s = true)
    (hU : vx_Zq Bundle.tN "UNASSIGNED_STACK" Bundle.steD A s s.heap) (hN : vx_Zq Bundle.tN "SUPPRESSED_SENTINEL" Bundle.listD A s s.heap) (hS : va_S A s.heap H locs) (hsize : ls.size = c.maxLocals)
    (d0 : decode cc pc = .ok (.new 411, 3)) (d3 : decode cc (pc + 3) = .ok (.dup, 1)) (d4 : decode cc (pc + 4) = .ok (.ldc_w 413, 3)) (d7 : decode cc (pc + 7) = .ok (.invokespecial 415, 3)) (d10 : decode cc (pc + 10) = .ok (.athrow, 1))
    (hout : ∀ y ∈ c.exceptionTable.toList, covers y (pc + 10) = false) (hRf : 5 < R.frames) (hRl : (rest.map fun v => v.category).sum + 82 ≤ R.locals) (hRc : cells + 1 ≤ R.cells) (hRs : slots + 6 ≤ R.slots) (hlocks : meth.locks = false)
    (hx : ∀ t : State, s.vm.Alike t.vm → H.size < t.heap.size → (∀ q : Nat, q < H.size → t.heap[q]? = H[q]?) → XC nse s t) (hf : ∀ z ∈ locs, free z.base) (hc : cells + 1 ≤ mc) (hs : slots + 6 ≤ ms) :
    W p l e R s m args below meth c H locs cells slots (vx_MQ below Qc XC args s mc ms free) (F0 m pc ls rest) := by
  intro T hT X
  have htr : e.platform.stackTraces = false := (show e.platform.stackTraces = l.stackTraces by rw [X.admits.platform]).trans hl
  have Y := vx_rebase X (R' := { frames := R.frames, locals := R.locals, cells := 1, slots := 6 }) (Nat.le_refl _) (Nat.le_refl _) hRc hRs
  obtain ⟨s', hA⟩ : ∃ z, z = (T.setVm s.vm).setFrames (.invoking m args :: below) := ⟨_, rfl⟩
  rw [← hA] at Y
  have hvm : s'.vm = s.vm := by rw [hA]; rfl
  have hhp : s'.heap = H := by rw [hA]; exact hT
  have hW0 : s.WarmedH s'.vm := by rw [hvm]; exact State.WarmedH.refl s
  have tr : ∀ w, w ∈ Cond.classLink RX11 411 nse :: Cond.initialized nse :: ndW → w.before args s = true → w.before args s' = true := fun w hw => vx_ot_at hW0 hvm.symm (nd_g w hw)
  have hU' : vx_Zq Bundle.tN "UNASSIGNED_STACK" Bundle.steD A s' s'.heap := by rw [hhp]; exact vx_Zq.moved hW0.alike (hU.kept hS.2.1)
  have hN' : vx_Zq Bundle.tN "SUPPRESSED_SENTINEL" Bundle.listD A s' s'.heap := by rw [hhp]; exact vx_Zq.moved hW0.alike (hN.kept hS.2.1)
  have h : ∀ w ∈ Bundle.ownAtomsX RX11 415 nse 13 prog_29_method_4_code nsN, w.before args s' = true := vx_own (fun w hw => tr w (List.mem_cons_of_mem _ (List.mem_cons_of_mem _ hw)) (hat w hw)) (vx_isRefq hU'.1) (vx_isRefq hN'.1) hU'.2.word hN'.2.word
  have hown' : s'.vm.findClass RX11 = some m.cls := by rw [hvm]; exact hown
  have hins : (Cond.instantiable nse 6).before args s' = true := h _ (by simp [Bundle.ownAtomsX])
  obtain ⟨vm₁, cX, kX, hfX, hkX, -, -, X₁, st1⟩ := Y.newCold hexec (own := RX11) (C := nse) (index := 411) (n := 6) hown' (tr _ List.mem_cons_self hk) hins (tr _ (List.mem_cons_of_mem _ List.mem_cons_self) hini)
    (g := F0 m pc ls rest) rfl (by rw [hb]; exact d0) (Nat.le_refl _) (Nat.le_refl _)
  generalize hT1 : (T.setVm vm₁).pushCell { cls := cX, slots := kX.instanceTypes.map defaultValue, vm := .none } = T1 at X₁ st1
  have hcat : (Value.ref T.heap.size).category = 1 := rfl
  have hcellA : T1.heap[T.heap.size]? = some (freshCell cX kX) := by rw [← hT1]; exact State.heap_pushCell_size _ _
  have d3' : decode c.code (pc + 3) = .ok (.dup, 1) := by rw [hb]; exact d3
  have d4' : decode c.code (pc + 4) = .ok (.ldc_w 413, 3) := by rw [hb]; exact d4
  have hstr' : vk_R RX11 413 text sa s' := vk_R.warm hW0 hstr
  obtain ⟨U, hsteps, hrun, hend, hW, hsame, ce, hce, hcl9, hv9⟩ := nt_ctor X₁ hexec htr (own := RX11) (cls := nse) (names := nsN) (ic := 415) (ix := 13) (rx := prog_29_method_4_code) (by decide +kernel) (by decide +kernel) (by decide +kernel) (by decide +kernel) hown' (by decide +kernel) (by decide +kernel) h hfX hkX hcellA (by rw [hhp, hT]; exact Nat.le_refl _) (msg := .ref sa) rfl
    (g := { method := m, pc := pc + 7, locals := ls, stack := .ref sa :: .ref T.heap.size :: .ref T.heap.size :: rest, locked := none }) rfl hsize rfl rfl (rest := rest) rfl
    (by rw [hb]; exact d7) (by rw [hb]; exact d10) hout hRf (by simp only [List.map_cons, List.sum_cons, hcat]; show 2 * 0 + (1 + _) + (13 * (2 + 1) + 42) ≤ _; omega) hlocks
  obtain ⟨f1, f2⟩ := vx_frame hsame
  rw [hhp] at f1 f2
  have hWs : s.WarmedH U.vm := State.WarmedH.trans hW0 hW
  have hcl : s.vm.findClass nse = some ce.cls := by
    rw [hvm] at hcl9
    exact hcl9
  have hall : s.sameButNew ({ U with vm := s.vm } : State) locs mc ms := by
    subst hA
    obtain ⟨e1, e2⟩ := hsame
    rw [State.setFrames_setFrames] at e1
    have h2 : (T.setVm s.vm).sameButNew ({ U with vm := s.vm } : State) [] (0 + 1) (0 + 6) := ⟨e1, e2⟩
    have h3 := X.same.trans h2
    rw [List.append_nil] at h3
    exact h3.mono hc hs
  refine ⟨U, ?_, .threw T.heap.size, hrun, hend, Or.inr ⟨T.heap.size, rfl, nse, ce, locs, hx U hWs.alike (by have f3 := (Array.getElem?_eq_some_iff.mp hce).1; rw [hT] at f3; exact f3) (fun q hq => f2 q hq (fun z hz => nomatch hz)), hce, hv9, hcl, hWs, hall, hf⟩⟩
  refine st1 _ ?_
  show Steps p.tables e below (T1.setTop { method := m, pc := pc + 3, locals := ls, stack := .ref T.heap.size :: rest, locked := none }) _
  jvm_step X₁.here [X₁.here.top, hexec, d3', Value.category]
  exact X₁.ldcStringW hexec (own := RX11) (text := text) (index := 413) (a := sa) hown' hstr'.1 hstr'.2
    (g := { method := m, pc := pc + 4, locals := ls, stack := .ref T.heap.size :: .ref T.heap.size :: rest, locked := none }) rfl d4' _ hsteps
end NT
