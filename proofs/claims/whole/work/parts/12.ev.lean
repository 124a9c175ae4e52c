/-! THE SMALL MACHINE IS SOUND -/
/-! `throw new E(text)` where E's constructor links its superclass's by another pool index than the library's chain has (after the library's ctorThrowS, which has index 7 throughout) -/
def nxA (own : String) (ic : Nat) (X Y : String) (ix : Nat) (rx : ByteArray) (names : List String) : List Cond :=
  Bundle.throwableAtoms ++ Bundle.throwableSAtoms ++ (Bundle.passSAtoms X Y ix rx ++ Bundle.chainSAtoms Y names) ++
  [.methodLink own ic (Bundle.initS X), .instantiable X 6, .selects X Bundle.tFill0 Bundle.tFill0, .selects X Bundle.tFill Bundle.tFill,
   .lays X Bundle.tN "cause" "Ljava/lang/Throwable;", .lays X Bundle.tN "stackTrace" Bundle.steD, .lays X Bundle.tN "suppressedExceptions" Bundle.listD, .lays X Bundle.tN "detailMessage" "Ljava/lang/String;",
   .isRef (.static Bundle.tN "UNASSIGNED_STACK" Bundle.steD), .isRef (.static Bundle.tN "SUPPRESSED_SENTINEL" Bundle.listD),
   .fieldLink Bundle.tN 198 Bundle.tN "backtrace" "Ljava/lang/Object;", .lays Bundle.tN Bundle.tN "backtrace" "Ljava/lang/Object;", .lays X Bundle.tN "backtrace" "Ljava/lang/Object;"]
section
variable {p : Program} {l : Launch} {e : Env} {R : Room} {s : State} {m₀ : MethodId} {args : Array Value} {below : List Frame} {meth : Method} {c : Code} {W : State} {locs : List Loc} {cells slots : Nat}
set_option maxHeartbeats 1000000 in
theorem nx_ctor (X : Stand p l e R s m₀ args below meth c W locs cells slots) (hexec : p.tables.exec = Jvm.exec) (htr : e.platform.stackTraces = false) {own cls Y1 : String} {names : List String} {ic ix : Nat} {rx : ByteArray}
    (x0 : decode rx 0 = .ok (.aload_n 0, 1)) (x1 : decode rx 1 = .ok (.aload_n 1, 1)) (x2 : decode rx 2 = .ok (.invokespecial ix, 3)) (x5 : decode rx 5 = .ok (.return_, 1))
    (hown : s.vm.findClass own = some m₀.cls) (hcls : Bundle.fit cls = true) (hY1 : Bundle.fit Y1 = true) (hnames : ∀ n ∈ names, Bundle.fit n = true)
    (h : ∀ a ∈ nxA own ic cls Y1 ix rx names, a.before args s = true)
    (hlocs : ∀ x ∈ locs, ∀ cell, s.heap[x.base]? = some cell → cell.vm.isStatics = false)
    {a : Addr} {cX : ClassId} {kX : Class} (hfoundX : s.vm.findClass cls = some cX) (hkX : s.vm.classes[cX]? = some kX) (hcell : W.heap[a]? = some (freshCell cX kX)) (hnew : s.heap.size ≤ a)
    {msg : Value} (hmsg : msg.isRef = true)
    {g : JFrame} (hg : g.method = m₀) (hsize : g.locals.size = c.maxLocals) (hlocked : g.locked = none) (hentered : g.entered = []) {rest : List Value} (hstack : g.stack = msg :: .ref a :: .ref a :: rest)
    (hd6 : decode c.code g.pc = .ok (.invokespecial ic, 3)) (hd9 : decode c.code (g.pc + 3) = .ok (.athrow, 1)) (hout : ∀ x ∈ c.exceptionTable.toList, covers x (g.pc + 3) = false)
    (hRframes : names.length + 4 < R.frames) (hRlocals : 2 * g.monitorRoom + ((Value.ref a :: rest).map fun v => v.category).sum + (13 * (names.length + 2) + 42) ≤ R.locals) (hlocks : meth.locks = false) :
    ∃ U : State, Steps p.tables e below (W.setTop g) U ∧ U.status = .running ∧ Ended U below (.threw a) ∧ s.WarmedH U.vm ∧ s.sameButNew ({ U with vm := s.vm } : State) locs cells slots ∧
      ∃ ce, U.heap[a]? = some ce ∧ ce.vm = .none ∧ s.vm.findClass cls = some ce.cls := by
  have howns : e.platform.frameOwnsMonitors = true := by rw [X.admits.platform]
  have hfin : e.platform.finalization = false := by rw [X.admits.platform]
  have hpl : e.platform.magicAccessors = ({} : Platform).magicAccessors := by rw [X.admits.platform]
  have a' : ∀ x, x ∈ nxA own ic cls Y1 ix rx names → x.holds args s none s [] = true := fun x hx => h x hx
  obtain ⟨T, Z0, L, -, Y⟩ := ThrowableC.of_atoms (args := args) howns hfin hpl (fun x hx => h x (by simp [nxA, hx]))
  obtain ⟨Z, M, LZ, LM, hnZ⟩ := Init0T.ofS_atoms (args := args) hpl L Y (fun x hx => h x (by simp [nxA, hx]))
  obtain ⟨P1, L1, hP1m, hs1⟩ := PassC.ofS_atoms (args := args) (s := s) hpl (X := cls) (Y := Y1) (Bundle.fit_spec hcls).1 (Bundle.fit_spec hY1).2 x0 x1 x2 x5 (fun x hx => h x (by simp [nxA, hx]))
  obtain ⟨P2, Ps, hlen, L2, hL, hP2m, hlink2, hlink⟩ := Bundle.chainS (args := args) hpl hnZ names Y1 hY1 hnames (fun x hx => h x (by simp [nxA, hx]))
  have hlink1 : P1.sup = P2.m := Option.some.inj (hs1.symm.trans hP2m)
  have hfound : s.vm.findClass cls = some P1.m.cls := findClass_of_methodNamed hP1m
  cases Option.some.inj (hfoundX.symm.trans hfound)
  obtain ⟨c1, kX', hc1, hk, hord, -, -, hn6⟩ := Cond.instantiable_spec (a' (.instantiable cls 6) (by simp [nxA]))
  cases Option.some.inj (hc1.symm.trans hfound)
  cases Option.some.inj (hkX.symm.trans hk)
  have hsel0 : selectMethod e.platform s.vm P1.m.cls T.fill0 = .method T.fill0 := by
    obtain ⟨c2, r2, m2, q1, q2, q3, q4, -⟩ := Cond.selects_spec (a' (.selects cls Bundle.tFill0 Bundle.tFill0) (by simp [nxA]))
    cases Option.some.inj (q1.symm.trans hfound)
    cases Option.some.inj (q2.symm.trans (State.methodFound?_of_named Y.fill0 (by decide)))
    cases Option.some.inj (q3.symm.trans Y.fill0)
    rw [Launch.admits_selectMethod X.admits]; exact q4
  have hselF : selectMethod e.platform s.vm P1.m.cls T.fill = .method T.fill := by
    obtain ⟨c2, r2, m2, q1, q2, q3, q4, -⟩ := Cond.selects_spec (a' (.selects cls Bundle.tFill Bundle.tFill) (by simp [nxA]))
    cases Option.some.inj (q1.symm.trans hfound)
    cases Option.some.inj (q2.symm.trans (State.methodFound?_of_named Y.fill (by decide)))
    cases Option.some.inj (q3.symm.trans Y.fill)
    rw [Launch.admits_selectMethod X.admits]; exact q4
  obtain ⟨cellS0, hcS0, hiss⟩ := Y.statics
  obtain ⟨u0, hu0⟩ := Cond.staticRefV Y.unassigned L.unassignedStatic L.statics hcS0 hiss (a' (.isRef (.static Bundle.tN "UNASSIGNED_STACK" Bundle.steD)) (by simp [nxA]))
  obtain ⟨sen, hsen⟩ := Cond.staticRefV Y.sentinel L.sentinelStatic L.statics hcS0 hiss (a' (.isRef (.static Bundle.tN "SUPPRESSED_SENTINEL" Bundle.listD)) (by simp [nxA]))
  obtain ⟨ci198, i198, fB, hk198, hg198, ha198, hsB, -, hnB, htB, hffB⟩ := Cond.ownField (t := .object "java/lang/Object") Y.found L.cls (by decide +kernel) (a' (.fieldLink Bundle.tN 198 Bundle.tN "backtrace" "Ljava/lang/Object;") (by simp [nxA])) (a' (.lays Bundle.tN Bundle.tN "backtrace" "Ljava/lang/Object;") (by simp [nxA])) e.platform hpl
  obtain ⟨cellS, hcS', heS, -, hkeep⟩ := X.same.2.2.2.2.2 T.aS cellS0 hcS0
  have hcellS : W.heap[T.aS]? = some cellS := hcS'
  have hout' : ∀ i, (⟨T.aS, i⟩ : Loc) ∉ locs := fun i hmem => by
    have := hlocs _ hmem cellS0 hcS0
    rw [hiss] at this; cases this
  have hknownS : cellS.vm ≠ .unknown := by
    rw [heS]; intro hu
    rw [show cellS0.vm = .unknown from hu] at hiss
    cases hiss
  have hneS : T.aS ≠ a := Nat.ne_of_lt (Nat.lt_of_lt_of_le (Array.getElem?_eq_some_iff.mp hcS0).1 hnew)
  obtain ⟨iM, hffM⟩ := Y.msg
  obtain ⟨tyC, dC, hdC, hdnC⟩ := Cond.laysAt hfound hk Y.cause (a' (.lays cls Bundle.tN "cause" "Ljava/lang/Throwable;") (by simp [nxA]))
  obtain ⟨tyS, dS, hdS, hdnS⟩ := Cond.laysAt hfound hk Y.stack (a' (.lays cls Bundle.tN "stackTrace" Bundle.steD) (by simp [nxA]))
  obtain ⟨tyP, dP, hdP, hdnP⟩ := Cond.laysAt hfound hk Y.supp (a' (.lays cls Bundle.tN "suppressedExceptions" Bundle.listD) (by simp [nxA]))
  obtain ⟨tyM, dM, hdM, hdnM⟩ := Cond.laysAt hfound hk hffM (a' (.lays cls Bundle.tN "detailMessage" "Ljava/lang/String;") (by simp [nxA]))
  obtain ⟨tyB, dB, hdB, hdnB⟩ := Cond.laysAt hfound hk hffB (a' (.lays cls Bundle.tN "backtrace" "Ljava/lang/Object;") (by simp [nxA]))
  have bC := Cond.laysApart hdB hdC hdnB hdnC (by rw [hnB, Y.causeName]; decide)
  have bS := Cond.laysApart hdB hdS hdnB hdnS (by rw [hnB, Y.stackName]; decide)
  have bP := Cond.laysApart hdB hdP hdnB hdnP (by rw [hnB, Y.suppName]; decide)
  have hskip : SkipFacts T e.platform s (fun u => u) u0 ((preparedCellV T.toThrowableT (freshCell P1.m.cls kX) a u0 sen).withEntry W.cur) :=
    ⟨{ ci198 := ci198, i198 := i198, fBack := fB }, ⟨hk198, hg198, ha198, hsB⟩, by
      have := fresh_default (c := P1.m.cls) tyB
      rw [htB] at this
      simpa [preparedCellV, Cell.setSlot, Cell.withEntry, Array.getElem?_setIfInBounds, bC, bS, bP, bC.symm, bS.symm, bP.symm, defaultValue] using this, fun _ _ => rfl⟩
  obtain ⟨tm, methC, cdC, kC, vm₁, hnC, -, -, -, -, -, -, -, hW₁, st1⟩ := Steps.initColdS (tb := p.tables) (e := e) (below := below) (s := s) (U := W) X.here hexec X.warmed hpl hown (t := Bundle.initS cls) rfl rfl (Bundle.fit_spec hcls).2
    (a' (.methodLink own ic (Bundle.initS cls)) (by simp [nxA])) (h (.instanceMethod (Bundle.initS cls)) (by simp [nxA, Bundle.passSAtoms])) (bytes := rx) (maxL := 2) (h (.code (Bundle.initS cls) rx 2 none) (by simp [nxA, Bundle.passSAtoms]))
    (f := g) hg (a := a) (msg := msg) (rest := .ref a :: rest) hstack hd6
  cases Option.some.inj (hnC.symm.trans hP1m)
  have X₁ := X.noted hW₁
  obtain ⟨vm₂, X₂, st2⟩ := X₁.ctorMessageOffV hexec (g := { g with stack := .ref a :: rest }) hg hsize T L Z LZ M LM (P1 :: P2 :: Ps)
    (fun P hP => by
      rcases List.mem_cons.mp hP with rfl | hP
      · exact L1
      · rcases List.mem_cons.mp hP with rfl | hP
        · exact L2
        · exact hL P hP) ⟨hlink1, hlink2, hlink⟩ (u0 := u0) (sen := sen) (self := a) hmsg (cell := freshCell P1.m.cls kX) (cellS := cellS)
    hcell (fun _ => by simp) (by simp) rfl rfl hsel0 hselF hcellS hneS hknownS (by rw [hkeep _ (hout' _)]; exact hu0) (by rw [hkeep _ (hout' _)]; exact hsen)
    (Takes.of_laid hk hord tyC (by rw [Y.causeType]; rfl)) (Takes.of_laid hk hord tyS (by rw [Y.stackType]; exact fits_refV_array _ u0)) (Takes.of_laid hk hord tyP (by rw [Y.suppType]; exact fits_refV_object _ sen))
    (Takes.of_laid hk hord tyM (by rw [Y.msgType]; exact fits_refV_object _ ⟨msg, hmsg⟩)) Y.objLocals hskip htr [] hd6
    (by simp only [List.length_cons, hlen]; omega) (by simp only [List.length_cons, hlen]; exact hRlocals)
  obtain ⟨hwalk, hrun, hended, hWU, hsame⟩ := X₂.athrowLeaves hexec (g := { g with stack := .ref a :: rest, pc := g.pc + 3 }) hg hlocked hentered hout (a := a) (rest := rest) rfl hd9
  have hlt : a < ((W.setVm vm₁).setVm vm₂).heap.size := (Array.getElem?_eq_some_iff.mp hcell).1
  have hU := heapAt_setCell_self (s := (W.setVm vm₁).setVm vm₂) (plainBareV T.toThrowableT (freshCell P1.m.cls kX) a u0 sen msg) hlt
  refine ⟨_, st1 _ (fun acts => ?_), hrun, hended, hWU, hsame.weaken (fun y hy hlt' => ?_) (Nat.le_refl _) (Nat.le_refl _), _, hU, rfl, hfound⟩
  · rw [doInvoke_state]
    exact st2 _ hwalk
  · rcases List.mem_append.mp hy with h1 | h1
    · exact h1
    · exfalso
      have hb : y.base = a := by
        simp only [List.mem_cons, List.not_mem_nil, or_false] at h1
        rcases h1 with rfl | rfl | rfl | rfl | rfl <;> rfl
      rw [hb] at hlt'
      exact Nat.not_lt.mpr hnew hlt'
end
def nxB : ByteArray := ⟨#[0x2a, 0x2b, 0xb7, 0x00, 0x0d, 0xb1]⟩
def nxL : List Cond := nxA RX7 153 nsE "java/lang/RuntimeException" 13 nxB ["java/lang/Exception"]
def nxP : List Nat := [77, 853, 862, 864, 867, 869, 854, 855, 87, 88, 856, 861, 865, 885, 843, 886, 845, 887, 847, 857, 859, 849, 881, 882, 884, 849, 872, 873, 874, 875, 835, 875, 876, 877, 878, 837, 878, 879, 880, 881, 839, 871, 832, 840, 841, 842, 844, 846, 848, 852, 851, 850]
theorem nx_chk : ((nxL.filter vx_no).zip nxP).all (fun q => isW q.2 q.1 || decide (q.1 = dcW 0 ∨ q.1 = dcW 1 ∨ q.1 = dcW 2)) = true := by decide +kernel
theorem nx_len : (nxL.filter vx_no).length = nxP.length := by decide +kernel
theorem nx_ot : ∀ w ∈ Cond.classLink RX7 149 nsE :: Cond.initialized nsE :: nxL.filter vx_no, vx_ot w = true := by decide +kernel
theorem nx_in : ∀ w ∈ nxL.filter vx_no, w ∈ lw_g ∨ w = dcW 0 ∨ w = dcW 1 ∨ w = dcW 2 := by
  intro w hw
  obtain ⟨i, hi, rfl⟩ := List.mem_iff_getElem.mp hw
  have h1 := List.all_eq_true.mp nx_chk ((nxL.filter vx_no)[i], nxP[i]'(by rw [← nx_len]; exact hi)) (by
    rw [List.mem_iff_getElem]
    exact ⟨i, by rw [List.length_zip, ← nx_len]; simpa using hi, by simp⟩)
  simp only [Bool.or_eq_true, decide_eq_true_eq] at h1
  exact h1.elim (fun h => Or.inl (isW_in h)) Or.inr
theorem nx_lk : Cond.classLink RX7 149 nsE ∈ lw_g ∧ Cond.initialized nsE ∈ lw_g := ⟨isW_in (p := 831) (by decide +kernel), isW_in (p := 80) (by decide +kernel)⟩
section
variable {p : Program} {l : Launch} {e : Env} {R : Room} {s : State} {m : MethodId} {args : Array Value} {below : List Frame} {meth : Method} {c : Code} {H : Heap} {locs : List Loc} {cells slots : Nat}
variable {free : Addr → Prop} {ls : Array Slot} {rest : List Value} {Qc : Array Value → State → Outcome → State → Prop} {XC : String → State → State → Prop}
/-- `throw new NoSuchElementException(text)` in the class PostBus -/
theorem nx_throw {cc : ByteArray} {pc : Nat} (hexec : p.tables.exec = Jvm.exec) (hb : c.code = cc) (hl : l.stackTraces = false) {text : String} {is mc ms sa : Nat} {A : Nat → Prop}
    (hown : s.vm.findClass RX7 = some m.cls) (hts : ∀ w ∈ lw_g, w.before args s = true) (hdc : va_Nw (dcW 0) s ∧ va_Nw (dcW 1) s ∧ va_Nw (dcW 2) s) (hstr : vk_R RX7 is text sa s)
    (hU : vx_Zq Bundle.tN "UNASSIGNED_STACK" Bundle.steD A s s.heap) (hN : vx_Zq Bundle.tN "SUPPRESSED_SENTINEL" Bundle.listD A s s.heap) (hS : va_S A s.heap H locs) (hsize : ls.size = c.maxLocals)
    (d0 : decode cc pc = .ok (.new 149, 3)) (d3 : decode cc (pc + 3) = .ok (.dup, 1)) (d4 : decode cc (pc + 4) = .ok (.ldc is, 2)) (d6 : decode cc (pc + 6) = .ok (.invokespecial 153, 3)) (d9 : decode cc (pc + 9) = .ok (.athrow, 1))
    (hout : ∀ x ∈ c.exceptionTable.toList, covers x (pc + 9) = false)
    (hRframes : 5 < R.frames) (hRlocals : (rest.map fun v => v.category).sum + 82 ≤ R.locals) (hRcells : cells + 1 ≤ R.cells) (hRslots : slots + 6 ≤ R.slots) (hlocks : meth.locks = false)
    (hx : ∀ t : State, s.vm.Alike t.vm → H.size ≤ t.heap.size → (∀ q : Nat, q < H.size → t.heap[q]? = H[q]?) → XC nsE s t)
    (hf : ∀ z ∈ locs, free z.base) (hc : cells + 1 ≤ mc) (hs : slots + 6 ≤ ms) :
    W p l e R s m args below meth c H locs cells slots (vx_MQ below Qc XC args s mc ms free) (F0 m pc ls rest) := by
  intro T hT X
  have htr : e.platform.stackTraces = false := (show e.platform.stackTraces = l.stackTraces by rw [X.admits.platform]).trans hl
  have Y := vx_rebase X (R' := { frames := R.frames, locals := R.locals, cells := 1, slots := 6 }) (Nat.le_refl _) (Nat.le_refl _) hRcells hRslots
  obtain ⟨s', hA⟩ : ∃ z, z = (T.setVm s.vm).setFrames (.invoking m args :: below) := ⟨_, rfl⟩
  rw [← hA] at Y
  have hvm : s'.vm = s.vm := by rw [hA]; rfl
  have hhp : s'.heap = H := by rw [hA]; exact hT
  have hW0 : s.WarmedH s'.vm := by rw [hvm]; exact State.WarmedH.refl s
  have hat0 : ∀ w ∈ nxL.filter vx_no, w.before args s = true := by
    intro w hw
    rcases nx_in w hw with h | rfl | rfl | rfl
    · exact hts w h
    · exact va_Nw.use rfl hdc.1
    · exact va_Nw.use rfl hdc.2.1
    · exact va_Nw.use rfl hdc.2.2
  have hat' : ∀ w ∈ nxL.filter vx_no, w.before args s' = true := fun w hw => vx_ot_at hW0 hvm.symm (nx_ot w (List.mem_cons_of_mem _ (List.mem_cons_of_mem _ hw))) (hat0 w hw)
  have hk' : (Cond.classLink RX7 149 nsE).before args s' = true := vx_ot_at hW0 hvm.symm (nx_ot _ List.mem_cons_self) (hts _ nx_lk.1)
  have hini' : (Cond.initialized nsE).before args s' = true := vx_ot_at hW0 hvm.symm (nx_ot _ (List.mem_cons_of_mem _ List.mem_cons_self)) (hts _ nx_lk.2)
  have hU' : vx_Zq Bundle.tN "UNASSIGNED_STACK" Bundle.steD A s' s'.heap := by rw [hhp]; exact vx_Zq.moved hW0.alike (hU.kept hS.2.1)
  have hN' : vx_Zq Bundle.tN "SUPPRESSED_SENTINEL" Bundle.listD A s' s'.heap := by rw [hhp]; exact vx_Zq.moved hW0.alike (hN.kept hS.2.1)
  have h : ∀ w ∈ nxA RX7 153 nsE "java/lang/RuntimeException" 13 nxB ["java/lang/Exception"], w.before args s' = true := vx_own hat' (vx_isRefq hU'.1) (vx_isRefq hN'.1) hU'.2.word hN'.2.word
  have hown' : s'.vm.findClass RX7 = some m.cls := by rw [hvm]; exact hown
  have hins : (Cond.instantiable nsE 6).before args s' = true := h _ (by simp [nxA])
  obtain ⟨vm₁, cX, kX, hfX, hkX, -, -, X₁, st1⟩ := Y.newCold hexec (own := RX7) (C := nsE) (index := 149) (n := 6) hown' hk' hins hini'
    (g := F0 m pc ls rest) rfl (by rw [hb]; exact d0) (Nat.le_refl _) (Nat.le_refl _)
  generalize hT1 : (T.setVm vm₁).pushCell { cls := cX, slots := kX.instanceTypes.map defaultValue, vm := .none } = T1 at X₁ st1
  have hcat : (Value.ref T.heap.size).category = 1 := rfl
  have hcellA : T1.heap[T.heap.size]? = some (freshCell cX kX) := by rw [← hT1]; exact State.heap_pushCell_size _ _
  have d3' : decode c.code (pc + 3) = .ok (.dup, 1) := by rw [hb]; exact d3
  have d4' : decode c.code (pc + 4) = .ok (.ldc is, 2) := by rw [hb]; exact d4
  have hstr' : vk_R RX7 is text sa s' := vk_R.warm hW0 hstr
  obtain ⟨U, hsteps, hrun, hend, hW, hsame, ce, hce, hvm9, hcl9⟩ := nx_ctor X₁ hexec htr (own := RX7) (cls := nsE) (Y1 := "java/lang/RuntimeException") (names := ["java/lang/Exception"]) (ic := 153) (ix := 13) (rx := nxB) (by decide +kernel) (by decide +kernel) (by decide +kernel) (by decide +kernel)
    hown' (by decide +kernel) (by decide +kernel) (by decide +kernel) h (fun x hx => nomatch hx) hfX hkX hcellA (by rw [hhp, hT]; exact Nat.le_refl _) (msg := .ref sa) rfl
    (g := { method := m, pc := pc + 6, locals := ls, stack := .ref sa :: .ref T.heap.size :: .ref T.heap.size :: rest, locked := none }) rfl hsize rfl rfl (rest := rest) rfl
    (by rw [hb]; exact d6) (by rw [hb]; exact d9) hout hRframes (by simp only [List.map_cons, List.sum_cons, hcat, List.length_cons, List.length_nil]; omega) hlocks
  obtain ⟨f1, f2⟩ := vx_frame hsame
  rw [hhp] at f1 f2
  have hWs : s.WarmedH U.vm := State.WarmedH.trans hW0 hW
  have hcl : s.vm.findClass nsE = some ce.cls := by
    rw [hvm] at hcl9
    exact hcl9
  have hall : s.sameButNew ({ U with vm := s.vm } : State) locs mc ms := by
    subst hA
    obtain ⟨e1, e2⟩ := hsame
    rw [State.setFrames_setFrames] at e1
    have h2 : (T.setVm s.vm).sameButNew ({ U with vm := s.vm } : State) [] (0 + 1) (0 + 6) := ⟨e1, e2⟩
    have h3 := X.same.trans h2
    rw [List.append_nil] at h3
    exact h3.mono hc hs
  refine ⟨U, ?_, .threw T.heap.size, hrun, hend, Or.inr ⟨T.heap.size, rfl, nsE, ce, locs, hx U hWs.alike f1 (fun q hq => f2 q hq (fun z hz => nomatch hz)), hce, hvm9, hcl, hWs, hall, hf⟩⟩
  refine st1 _ ?_
  show Steps p.tables e below (T1.setTop { method := m, pc := pc + 3, locals := ls, stack := .ref T.heap.size :: rest, locked := none }) _
  jvm_step X₁.here [X₁.here.top, hexec, d3', Value.category]
  exact X₁.ldcString hexec (own := RX7) (text := text) (index := is) (a := sa) hown' hstr'.1 hstr'.2
    (g := { method := m, pc := pc + 4, locals := ls, stack := .ref T.heap.size :: .ref T.heap.size :: rest, locked := none }) rfl d4' _ hsteps
end
/-! THE LAW'S TWO HELPERS: a call of look or lies, its answer put into the array, or its exception caught -/
abbrev wrW (y : MethodName) (cc : ByteArray) : List Cond := Cond.codeWith y cc 5 (some .int) [(0, 10, 13, 13)] :: lw_g
def wrD (cc : ByteArray) (ii : Nat) : Prop := decode cc 0 = .ok (.aload_n 3, 1) ∧ decode cc 1 = .ok (.iconst 0, 1) ∧ decode cc 2 = .ok (.aload_n 0, 1) ∧ decode cc 3 = .ok (.iload_n 1, 1) ∧ decode cc 4 = .ok (.iload_n 2, 1) ∧ decode cc 5 = .ok (.invokevirtual ii, 3) ∧ decode cc 8 = .ok (.i2l, 1) ∧ decode cc 9 = .ok (.lastore, 1) ∧ decode cc 10 = .ok (.goto 7, 3) ∧ decode cc 13 = .ok (.astore 4, 2) ∧ decode cc 15 = .ok (.iconst 1, 1) ∧ decode cc 16 = .ok (.ireturn, 1) ∧ decode cc 17 = .ok (.iconst 0, 1) ∧ decode cc 18 = .ok (.ireturn, 1)
def wrF (k' : Nat) (y : MethodName) (cc : ByteArray) (ii : Nat) : Prop := wrD cc ii ∧ k' ∈ mAll ∧ mKd k' = 0 ∧ mPar k' = 3 ∧ mML k' = 4 ∧ mC k' = 7 ∧ plainName y.cls = true ∧ y.cls = RL ∧ Cond.methodLink RL ii (mY k') ∈ lw_g
section
variable {l : Launch} {Γ : GT} {k' : Nat} {y : MethodName} {cc : ByteArray} {ii x o : Nat} {p0 p1 w : Int32} {h h1 : AH} {e2 : AE} {pf : Nat}
theorem wr_metA (hΓ : Γ.2.2.2.2 = .null ∨ ∃ t, Γ.2.2.2.2 = .ref t) (hf : wrF k' y cc ii) (ho : o < h.2.1) (hrc : recvOK 0 k' [.ref x, .int p0, .int p1] h = true) (ho1 : o < h1.2.1) (hst : stL (h1.2.2 o) 0 w.toInt64 = some e2)
    (hM : Met l (mY k') (wsM k') { frames := rk k' 0, cells := 0, slots := 0, locals := 60 * rk k' 0 } (PcM Γ h [.ref x, .int p0, .int p1]) (QcM Γ [.int w] h1) 0 0 (AB Γ)) :
    Met l y (wrW y cc) { frames := rk k' 0 + 1, cells := 0, slots := 0, locals := 60 * (rk k' 0 + 1) } (PcM Γ h [.ref x, .int p0, .int p1, .ref o]) (QcM Γ [.int 0] (setC h1 o e2)) 0 0 (AB Γ) := by
  obtain ⟨⟨d0, d1, d2, d3, d4, d5, d8, d9, d10, d13, d15, d16, d17, d18⟩, hk', hkd, hpar, hml4, hm7, hyp, hyc, hlk⟩ := hf
  refine va_MetW (cc := cc) (maxL := 5) (ret := some .int) (hh := [(0, 10, 13, 13)]) hyp rfl ?_
  intro p e s m args below meth c s₁ B hml hv
  obtain ⟨rfl, hH, hE, hsz⟩ := hv
  have hx := B.exec
  have hb := B.bytes
  have hts : ∀ w ∈ lw_g, w.before ([Value.ref x, .int p0, .int p1, .ref o].map (tr Γ)).toArray s = true := fun w hw => atoms_spec (ws := wrW y cc) B.pre w (List.mem_cons_of_mem _ hw)
  have hown : s.vm.findClass RL = some m.cls := by
    have := findClass_of_methodNamed B.named
    rw [hyc] at this
    exact this
  obtain ⟨q, hq, hcell⟩ := recv_ok hk' hE hH va_S.rf hrc
  have hol : o < 1000000 := Nat.lt_trans ho hH.2.2.2
  have hargs : [Value.ref x, .int p0, .int p1, .ref o].map (tr Γ) = [.ref q, .int p0, .int p1, .ref (Γ.1.1 + o)] := by
    simp only [List.map_cons, List.map_nil, tr_ref, tr_int, hq, rb_own hol]
  have hargs3 : [Value.ref x, .int p0, .int p1].map (tr Γ) = [.ref q, .int p0, .int p1] := by
    simp only [List.map_cons, List.map_nil, tr_ref, tr_int, hq]
  rw [lg_entry_eq]
  rw [hargs] at hts B ⊢
  generalize hls : (lg_sl [Value.ref q, .int p0, .int p1, .ref (Γ.1.1 + o)] ++ List.replicate (5 - (lg_sl [Value.ref q, .int p0, .int p1, .ref (Γ.1.1 + o)]).length) Slot.unset).toArray = lsC
  have l0 : lsC[0]? = some (.val (.ref q)) := by rw [← hls]; rfl
  have l1 : lsC[1]? = some (.val (.int p0)) := by rw [← hls]; rfl
  have l2 : lsC[2]? = some (.val (.int p1)) := by rw [← hls]; rfl
  have l3 : lsC[3]? = some (.val (.ref (Γ.1.1 + o))) := by rw [← hls]; rfl
  have l5 : lsC.size = 5 := by rw [← hls]; rfl
  refine lv_aload_n hx hb d0 rfl l3 (lv_iconst hx hb d1 rfl (lv_aload_n hx hb d2 rfl l0 (lv_iload_n hx hb d3 rfl l1 (lv_iload_n hx hb d4 rfl l2 ?_))))
  obtain ⟨m1, m2, m3, m4, m5, m6, m7, m8, m9, m10, m11, m12⟩ := mChk_spec hk'
  rw [if_neg (by omega)] at m1
  rw [if_neg (by omega)] at m6
  have hS0 : CallFix p m c cc 5 s #[.ref q, .int p0, .int p1, .ref (Γ.1.1 + o)] lw_g RL := ⟨hx, hb, hml, hown, hts⟩
  have hPc : ∀ U : State, U.heap = s.heap → s.WarmedH U.vm → PcM Γ h [.ref x, .int p0, .int p1] (Value.ref q :: [.int p0, .int p1]).toArray U := fun U hU hW => ⟨by rw [hargs3], by rw [hU]; exact hH, hE.moved hW (fun q _ _ => by rw [hU]) (by rw [hU]; exact Nat.le_refl _), by rw [hU]; exact hsz⟩
  have hr2 := va_runV (e := e) (R := (headSpec (wrW y cc) { frames := rk k' 0 + 1, cells := 0, slots := 0, locals := 60 * (rk k' 0 + 1) }).room) (below := below) (meth := meth) (H := s.heap) (locs := []) (cells := 0) (slots := 0) (As := [.int p0, .int p1]) (rest := [.int 0, .ref (Γ.1.1 + o)]) (b := q) (C := clsN (mC k')) (g := F0 m 5 lsC [.int p1, .int p0, .ref q, .int 0, .ref (Γ.1.1 + o)]) hS0 hM
    ⟨callB_of (mPar k' - 1) hts (good_ws hk') rfl rfl rfl (by rw [m5]; exact hts _ m3) (hts _ hlk) m6 ⟨Nat.le_refl _, by rw [hml4]; show 8 + (4 + 11) + 60 * rk k' 0 ≤ 60 * (rk k' 0 + 1); omega⟩, hts _ m1, hts _ (m2 hkd)⟩ ⟨PcM_blind, hcell, hPc⟩ rfl (by rw [hpar]; rfl) l5 rfl (lv_room (by show 1 + (1 + 0) ≤ 8; decide)) d5 ⟨Nat.le_refl _, Nat.le_refl _⟩
  refine run_go hr2 va_S.rf ?_
  intro H1 locs1 hH1 hS1
  obtain ⟨n, f, he, hi, rfl⟩ := stL_ok hst
  refine lv_i2l hx hb d8 rfl ?_
  refine va_last hx hb hE.1 hH1.1 ws_D hS1 o 3 (ws_inl ho1 he) rfl hi d9 ?_
  intro H2 locs2 hP2 _ hS2
  refine lv_goto hx hb d10 (tgt := 17) (by decide) (lv_iconst hx hb d17 rfl ?_)
  exact W.zret hx hb B.returns rfl (fun t ht hW => ⟨rfl, by rw [ht]; exact H_set ho1 hH1 hP2, hS2.F ht⟩) hS2.2.2 d18
/-- look or lies that throws: its contract -/
theorem wr_in (hl : l.stackTraces = false) (hΓ : Γ.2.2.2.2 = .null ∨ ∃ t, Γ.2.2.2.2 = .ref t) (hf : wrF k' y cc ii) (h6 : 6 ≤ rk k' 0) (hun : h1.1 = h.1) {j : Nat} (hj : j < 4)
    (d0 : decode (mCode k') pf = .ok (.new 149, 3)) (d3 : decode (mCode k') (pf + 3) = .ok (.dup, 1)) (d4 : decode (mCode k') (pf + 4) = .ok (.ldc (mgW j).1, 2)) (d6 : decode (mCode k') (pf + 6) = .ok (.invokespecial 153, 3)) (d9 : decode (mCode k') (pf + 9) = .ok (.athrow, 1))
    (hev : ∀ {p : Program} {e : Env} {R : Room} {s : State} {m : MethodId} {args : Array Value} {below : List Frame} {meth : Method} {c : Code} {Q : State → Prop}, Cx Γ p s m args meth c k' → s.heap.size ≤ Γ.1.1 + h.1.1 → rk k' 0 ≤ R.frames → 60 * rk k' 0 ≤ R.locals → (∀ lsf, Wst Γ p l e R s m args below meth c Q k' h.1 pf lsf [] h1) → Wst Γ p l e R s m args below meth c Q k' h.1 0 (iniF k' [.ref x, .int p0, .int p1]) [] h) :
    vx_Met l (mY k') (wsM k') { frames := rk k' 0, cells := 8, slots := 64, locals := 60 * rk k' 0 } (PcM Γ h [.ref x, .int p0, .int p1]) (fun _ _ _ _ => False) (fun E st t => E = nsE ∧ HRel Γ h1 t.heap ∧ va_F (AB Γ) st t) 8 64 (AB Γ) := by
  obtain ⟨-, hk', hkd, hpar, hml4, hm7, hyp, hyc, hlk⟩ := hf
  obtain ⟨m1, m2, m3, m4, m5, m6, m7, m8, m9, m10, m11, m12⟩ := mChk_spec hk'
  refine vx_ofW (cc := mCode k') (maxL := mML k') (ret := mRet k') m4 rfl ?_
  intro p e s m args below meth c s₁ B hml hno hv
  obtain ⟨rfl, hH, hE, hsz⟩ := hv
  have hts : ∀ w ∈ lw_g, w.before ([Value.ref x, .int p0, .int p1].map (tr Γ)).toArray s = true := fun w hw => atoms_spec (ws := wsM k') B.pre w (List.mem_cons_of_mem _ hw)
  have hC' : Cx Γ p s m ([Value.ref x, .int p0, .int p1].map (tr Γ)).toArray meth c k' := by
    refine ⟨B.exec, B.bytes, hml, ?_, hts, fun h2 => ?_, hE, hΓ⟩
    · have := findClass_of_methodNamed B.named
      rw [m5] at this
      exact this
    · omega
  rw [lg_entry_eq]
  have hW := hev (e := e) (below := below) (R := { frames := rk k' 0, cells := 8, slots := 64, locals := 60 * rk k' 0 }) (Q := vx_MQ below (fun _ _ _ _ => False) (fun E st t => E = nsE ∧ HRel Γ h1 t.heap ∧ va_F (AB Γ) st t) ([Value.ref x, .int p0, .int p1].map (tr Γ)).toArray s 8 64 (AB Γ)) hC' hsz (Nat.le_refl _) (Nat.le_refl _) ?_
  · have hW2 := hW s.heap [] _ hH va_S.rf (L_entry hΓ (by rw [hml4]; show 3 ≤ 4; decide) (by rfl) (fun v hv hc => by
      simp only [List.mem_cons, List.not_mem_nil, or_false] at hv
      rcases hv with rfl | rfl | rfl <;> simp [Value.category] at hc)) (Nat.le_refl _) (Nat.le_refl _)
    rw [Nat.sub_self, Nat.sub_self] at hW2
    exact hW2
  · intro lsf H locs lsC hH1 hS1 hL1 _ _
    obtain ⟨-, ⟨-, ⟨-, y0, y1, y2⟩, x2, x3, x4⟩, -⟩ := hE
    obtain ⟨sa, hsa⟩ := x4 j hj
    rw [hun, Nat.sub_self, Nat.sub_self]
    refine nx_throw B.exec B.bytes hl (is := (mgW j).1) (text := (mgW j).2) (sa := sa) (A := AB Γ) ?_ hts ⟨y0, y1, y2⟩ hsa x2 x3 hS1 (hL1.1.trans hml.symm) d0 d3 d4 d6 d9 (fun x hx => (hno x hx).elim) (by show 5 < rk k' 0; omega) ?_ (by show 0 + 1 ≤ 8; decide) (by show 0 + 6 ≤ 64; decide) B.notSynchronized ?_ hS1.2.2 (by decide) (by decide)
    · have := hC'.2.2.2.1
      rw [hm7] at this
      exact this
    · show 0 + 82 ≤ 60 * rk k' 0
      omega
    · intro t _ hz hk
      refine ⟨rfl, ⟨hH1.1.kept (fun i q hq => hk _ ((hH1.1 i q hq).lt)), Nat.le_trans hH1.2.1 hz, hH1.2.2⟩, Nat.le_trans hS1.1 hz, fun q hq hA => ?_⟩
      rw [hk q (Nat.lt_of_lt_of_le hq hS1.1)]
      exact hS1.2.1 q hq hA
theorem wr_metB (hΓ : Γ.2.2.2.2 = .null ∨ ∃ t, Γ.2.2.2.2 = .ref t) (hf : wrF k' y cc ii) (hcw : Cond.classLink RL 13 nsE ∈ lw_g) (ho : o < h.2.1) (hrc : recvOK 0 k' [.ref x, .int p0, .int p1] h = true)
    (hM : vx_Met l (mY k') (wsM k') { frames := rk k' 0, cells := 8, slots := 64, locals := 60 * rk k' 0 } (PcM Γ h [.ref x, .int p0, .int p1]) (fun _ _ _ _ => False) (fun E st t => E = nsE ∧ HRel Γ h1 t.heap ∧ va_F (AB Γ) st t) 8 64 (AB Γ)) :
    Met l y (wrW y cc) { frames := rk k' 0 + 1, cells := 8, slots := 64, locals := 60 * (rk k' 0 + 1) } (PcM Γ h [.ref x, .int p0, .int p1, .ref o]) (QcM Γ [.int 1] ((h.1.1 + 8, h.1.2 + 64), h1.2)) 8 64 (AB Γ) := by
  obtain ⟨⟨d0, d1, d2, d3, d4, d5, d8, d9, d10, d13, d15, d16, d17, d18⟩, hk', hkd, hpar, hml4, hm7, hyp, hyc, hlk⟩ := hf
  refine va_MetW (cc := cc) (maxL := 5) (ret := some .int) (hh := [(0, 10, 13, 13)]) hyp rfl ?_
  intro p e s m args below meth c s₁ B hml hv
  obtain ⟨rfl, hH, hE, hsz⟩ := hv
  have hx := B.exec
  have hb := B.bytes
  have hts : ∀ w ∈ lw_g, w.before ([Value.ref x, .int p0, .int p1, .ref o].map (tr Γ)).toArray s = true := fun w hw => atoms_spec (ws := wrW y cc) B.pre w (List.mem_cons_of_mem _ hw)
  have htb := vx_table (x := y) B (atoms_spec (ws := wrW y cc) B.pre _ List.mem_cons_self)
  have hown : s.vm.findClass RL = some m.cls := by
    have := findClass_of_methodNamed B.named
    rw [hyc] at this
    exact this
  obtain ⟨q, hq, hcell⟩ := recv_ok hk' hE hH va_S.rf hrc
  have hol : o < 1000000 := Nat.lt_trans ho hH.2.2.2
  have hargs : [Value.ref x, .int p0, .int p1, .ref o].map (tr Γ) = [.ref q, .int p0, .int p1, .ref (Γ.1.1 + o)] := by
    simp only [List.map_cons, List.map_nil, tr_ref, tr_int, hq, rb_own hol]
  have hargs3 : [Value.ref x, .int p0, .int p1].map (tr Γ) = [.ref q, .int p0, .int p1] := by
    simp only [List.map_cons, List.map_nil, tr_ref, tr_int, hq]
  rw [lg_entry_eq]
  rw [hargs] at hts B ⊢
  have hen := lv_entry [Value.ref q, .int p0, .int p1, .ref (Γ.1.1 + o)] (n := 5) (by show 4 ≤ 5; decide)
  generalize hls : (lg_sl [Value.ref q, .int p0, .int p1, .ref (Γ.1.1 + o)] ++ List.replicate (5 - (lg_sl [Value.ref q, .int p0, .int p1, .ref (Γ.1.1 + o)]).length) Slot.unset).toArray = lsC at hen
  have l0 : lsC[0]? = some (.val (.ref q)) := by rw [← hls]; rfl
  have l1 : lsC[1]? = some (.val (.int p0)) := by rw [← hls]; rfl
  have l2 : lsC[2]? = some (.val (.int p1)) := by rw [← hls]; rfl
  have l3 : lsC[3]? = some (.val (.ref (Γ.1.1 + o))) := by rw [← hls]; rfl
  have l5 : lsC.size = 5 := by rw [← hls]; rfl
  refine lv_aload_n hx hb d0 rfl l3 (lv_iconst hx hb d1 rfl (lv_aload_n hx hb d2 rfl l0 (lv_iload_n hx hb d3 rfl l1 (lv_iload_n hx hb d4 rfl l2 ?_))))
  obtain ⟨m1, m2, m3, m4, m5, m6, m7, m8, m9, m10, m11, m12⟩ := mChk_spec hk'
  rw [if_neg (by omega)] at m1
  rw [if_neg (by omega)] at m6
  have hS0 : CallFix p m c cc 5 s #[.ref q, .int p0, .int p1, .ref (Γ.1.1 + o)] lw_g RL := ⟨hx, hb, hml, hown, hts⟩
  have hPc : ∀ U : State, U.heap = s.heap → s.WarmedH U.vm → PcM Γ h [.ref x, .int p0, .int p1] (Value.ref q :: [.int p0, .int p1]).toArray U := fun U hU hW => ⟨by rw [hargs3], by rw [hU]; exact hH, hE.moved hW (fun q _ _ => by rw [hU]) (by rw [hU]; exact Nat.le_refl _), by rw [hU]; exact hsz⟩
  have hr2 := vx_runV (e := e) (R := (headSpec (wrW y cc) { frames := rk k' 0 + 1, cells := 8, slots := 64, locals := 60 * (rk k' 0 + 1) }).room) (below := below) (meth := meth) (H := s.heap) (locs := []) (cells := 0) (slots := 0) (As := [.int p0, .int p1]) (rest := [.int 0, .ref (Γ.1.1 + o)]) (b := q) (C := clsN (mC k')) (g := F0 m 5 lsC [.int p1, .int p0, .ref q, .int 0, .ref (Γ.1.1 + o)]) hS0 hM
    ⟨callB_of (mPar k' - 1) hts (good_ws hk') rfl rfl rfl (by rw [m5]; exact hts _ m3) (hts _ hlk) m6 ⟨Nat.le_refl _, by rw [hml4]; show 8 + (4 + 11) + 60 * rk k' 0 ≤ 60 * (rk k' 0 + 1); omega⟩, hts _ m1, hts _ (m2 hkd)⟩ ⟨PcM_blind, hcell, hPc⟩ rfl (by rw [hpar]; rfl) l5 rfl (lv_room (by show 1 + (1 + 0) ≤ 8; decide)) d5 ⟨by show 0 + 8 ≤ 8; decide, by show 0 + 64 ≤ 64; decide⟩
  intro T hT X
  rcases hr2 T hT X with ⟨v, st₀, t, T', L, h0, X', hL, e1, e2, hbad, st⟩ | ⟨qx, st₀, t, T', L, E, ce, h0, X', hL, e1, e2, ⟨rfl, hH1, hF⟩, hce, hcv, hcl, st⟩
  · exact hbad.elim
  · have hz : s.heap.size ≤ T'.heap.size := by
      have h2 := hF.1
      rw [h0] at h2
      rw [e1]
      exact h2
    have hS1 : va_S (AB Γ) s.heap T'.heap ([] ++ L) := ⟨hz, fun q h2 h3 => by
      have h4 := hF.2 q (by rw [h0]; exact h2) h3
      rw [h0] at h4
      rw [e1]
      exact h4, fun q hq => by simpa using hL q (by simpa using hq)⟩
    have K : vx_W p l e (headSpec (wrW y cc) { frames := rk k' 0 + 1, cells := 8, slots := 64, locals := 60 * (rk k' 0 + 1) }).room s m #[.ref q, .int p0, .int p1, .ref (Γ.1.1 + o)] below meth c T'.heap ([] ++ L) (0 + 8) (0 + 64) (MQ below (QcM Γ [.int 1] ((h.1.1 + 8, h.1.2 + 64), h1.2)) #[.ref q, .int p0, .int p1, .ref (Γ.1.1 + o)] s 8 64 (AB Γ)) (F0 m 5 lsC [.int 0, .ref (Γ.1.1 + o)]) qx := by
      refine vx_catch (own := RL) (name := nsE) (E := nsE) (ce := ce) hown [] ⟨0, 10, 13, 13⟩ [] htb (fun z hz => nomatch hz) (by decide) (by decide) (hts _ hcw) (va_Nw.use rfl hE.2.1.2.1.1) (by rw [e1]; exact hce) hcv hcl ?_
      refine lv_astore hx hb d13 hen (by decide) rfl (fun lsD _ => lv_iconst hx hb d15 rfl ?_)
      exact W.zret hx hb B.returns rfl (fun t ht hW => ⟨rfl, by rw [ht, e1]; exact hH1, hS1.F ht⟩) hS1.2.2 d16
    obtain ⟨t2, a1, b1⟩ := K T' rfl X'
    exact ⟨t2, st.trans a1, b1⟩
end
theorem retV_thr {k' pf : Nat} {sf : List Value} (h : retV k' pf sf = some [thr]) : sf = [] ∧ ∃ j, j < 4 ∧ decode (mCode k') pf = .ok (.new 149, 3) ∧ decode (mCode k') (pf + 3) = .ok (.dup, 1) ∧ decode (mCode k') (pf + 4) = .ok (.ldc (mgW j).1, 2) ∧ decode (mCode k') (pf + 6) = .ok (.invokespecial 153, 3) ∧ decode (mCode k') (pf + 9) = .ok (.athrow, 1) := by
  unfold retV at h
  split at h
  · split at h
    · split at h
      · simp [thr] at h
      · cases h
    · cases h
  · split at h
    · simp at h
    · cases h
  · split at h
    · split at h
      · rename_i hn
        unfold nxOK at hn
        simp only [Bool.and_eq_true] at hn
        obtain ⟨⟨⟨⟨n0, n3⟩, n4⟩, n6⟩, n9⟩ := hn
        refine ⟨rfl, ?_⟩
        have e0 : decode (mCode k') pf = .ok (.new 149, 3) := by
          split at n0
          · rename_i hq
            rw [hq, of_decide_eq_true n0]
          · cases n0
        have e3 : decode (mCode k') (pf + 3) = .ok (.dup, 1) := by
          split at n3
          · rename_i hq
            exact hq
          · cases n3
        have e6 : decode (mCode k') (pf + 6) = .ok (.invokespecial 153, 3) := by
          split at n6
          · rename_i hq
            rw [hq, of_decide_eq_true n6]
          · cases n6
        have e9 : decode (mCode k') (pf + 9) = .ok (.athrow, 1) := by
          split at n9
          · rename_i hq
            exact hq
          · cases n9
        split at n4
        · rename_i hq
          rcases of_decide_eq_true n4 with rfl | rfl | rfl | rfl
          · exact ⟨0, by decide, e0, e3, hq, e6, e9⟩
          · exact ⟨1, by decide, e0, e3, hq, e6, e9⟩
          · exact ⟨2, by decide, e0, e3, hq, e6, e9⟩
          · exact ⟨3, by decide, e0, e3, hq, e6, e9⟩
        · cases n4
      · cases h
    · cases h
  · cases h
theorem retV_thr6 : 6 ≤ rk 87 0 ∧ 6 ≤ rk 88 0 := by decide
def wrG (idx k' : Nat) (y : MethodName) (cc : ByteArray) (ii : Nat) : Prop := wrF k' y cc ii ∧ Cond.methodLink RL idx y ∈ lw_g ∧ Cond.static y ∈ lw_g ∧ Cond.initialized RL ∈ lw_g ∧ Cond.codeWith y cc 5 (some .int) [(0, 10, 13, 13)] ∈ lw_g ∧ Cond.classLink RL 13 nsE ∈ lw_g ∧ (y.cls ≠ "java/lang/invoke/MethodHandle" ∧ y.cls ≠ "java/lang/invoke/VarHandle" ∧ (parseMethodDescriptor y.desc).map (fun d => d.parameters.length) = some 4) ∧ 6 ≤ rk k' 0
theorem wr_look : wrG 77 87 ⟨RL, "look", "(LPostBus;II[J)I"⟩ method_3_code 7 := by
  refine ⟨⟨⟨by decide +kernel, by decide +kernel, by decide +kernel, by decide +kernel, by decide +kernel, by decide +kernel, by decide +kernel, by decide +kernel, by decide +kernel, by decide +kernel, by decide +kernel, by decide +kernel, by decide +kernel, by decide +kernel⟩, by decide, by decide, by decide, by decide, by decide, by decide, rfl, isW_in (p := 827) (by decide +kernel)⟩, isW_in (p := 823) (by decide +kernel), isW_in (p := 824) (by decide +kernel), isW_in (p := 60) (by decide +kernel), isW_in (p := 825) (by decide +kernel), isW_in (p := 826) (by decide +kernel), ⟨by decide, by decide, by decide +kernel⟩, retV_thr6.1⟩
theorem wr_lies : wrG 86 88 ⟨RL, "lies", "(LPostBus;II[J)I"⟩ method_4_code 15 := by
  refine ⟨⟨⟨by decide +kernel, by decide +kernel, by decide +kernel, by decide +kernel, by decide +kernel, by decide +kernel, by decide +kernel, by decide +kernel, by decide +kernel, by decide +kernel, by decide +kernel, by decide +kernel, by decide +kernel, by decide +kernel⟩, by decide, by decide, by decide, by decide, by decide, by decide, rfl, isW_in (p := 900) (by decide +kernel)⟩, isW_in (p := 897) (by decide +kernel), isW_in (p := 898) (by decide +kernel), isW_in (p := 60) (by decide +kernel), isW_in (p := 899) (by decide +kernel), isW_in (p := 826) (by decide +kernel), ⟨by decide, by decide, by decide +kernel⟩, retV_thr6.2⟩
theorem wrap_spec {k k' : Nat} {i : Instr} (hc : wrapOf k i = some k') : k = 149 ∧ ∃ idx y cc ii, i = .invokestatic idx ∧ wrG idx k' y cc ii := by
  unfold wrapOf at hc
  split at hc
  · split at hc
    · rename_i hq
      cases hc
      obtain ⟨rfl, rfl⟩ := hq
      exact ⟨rfl, _, _, _, _, rfl, wr_look⟩
    · split at hc
      · rename_i hq
        cases hc
        obtain ⟨rfl, rfl⟩ := hq
        exact ⟨rfl, _, _, _, _, rfl, wr_lies⟩
      · cases hc
  · cases hc
section
variable {p : Program} {l : Launch} {e : Env} {R : Room} {s : State} {m : MethodId} {args : Array Value} {below : List Frame} {meth : Method} {c : Code} {Q : State → Prop} {Γ : GT} {z : Nat × Nat} {pc : Nat} {ls : List Value} {h : AH}
theorem wr_go (hC : Cx Γ p s m args meth c 149) {idx k' ii d o x : Nat} {y : MethodName} {cc : ByteArray} {p0 p1 v : Int32} {r : List Value} {h2 : AH} {mc ms : Nat} (hd : decode (mCode 149) pc = .ok (.invokestatic idx, 3)) (hg : wrG idx k' y cc ii)
    (hcat : catS r ≤ 8) (hrk : rk k' 0 + 1 < rk 149 d) (hF : rk 149 d ≤ R.frames) (hLo : 60 * rk 149 d ≤ R.locals) (hR1 : h2.1.1 - z.1 ≤ R.cells) (hR2 : h2.1.2 - z.2 ≤ R.slots) (hz0 : s.heap.size ≤ Γ.1.1 + z.1)
    (hmc : h2.1.1 = h.1.1 + mc) (hms : h2.1.2 = h.1.2 + ms)
    (hM : Met l y (wrW y cc) { frames := rk k' 0 + 1, cells := mc, slots := ms, locals := 60 * (rk k' 0 + 1) } (PcM Γ h [.ref x, .int p0, .int p1, .ref o]) (QcM Γ [.int v] h2) mc ms (AB Γ))
    (kk : Wst Γ p l e R s m args below meth c Q 149 z (pc + 3) ls (.int v :: r) h2) : Wst Γ p l e R s m args below meth c Q 149 z pc ls (.ref o :: .int p1 :: .int p0 :: .ref x :: r) h := by
  obtain ⟨hf, hlk, hstt, hini, hcw, -, hdesc, h6⟩ := hg
  obtain ⟨-, hk', hkd, hpar, hml4, hm7, hyp, hyc, -⟩ := hf
  obtain ⟨hx, hb, hml, hown, hts, hin, hE, hΓ⟩ := hC
  intro H locs lsC hH hS hL hz1 hz2 T hT X
  have hsz : H.size ≤ Γ.1.1 + h.1.1 := by
    have h2 := X.heapSize
    rw [hT] at h2
    omega
  have hstT : (Value.ref o :: .int p1 :: .int p0 :: .ref x :: r).map (tr Γ) = ([Value.ref x, .int p0, .int p1, .ref o].map (tr Γ)).reverse ++ r.map (tr Γ) := by simp
  have hcat2 : 2 * (F0 m pc lsC ((Value.ref o :: .int p1 :: .int p0 :: .ref x :: r).map (tr Γ))).monitorRoom + ((r.map (tr Γ)).map fun v => v.category).sum ≤ 8 := lv_room (by rw [tr_catS hΓ]; exact hcat)
  have hPc : ∀ U : State, U.heap = H → s.WarmedH U.vm → PcM Γ h [.ref x, .int p0, .int p1, .ref o] ([Value.ref x, .int p0, .int p1, .ref o].map (tr Γ)).toArray U := fun U hU hW => ⟨rfl, by rw [hU]; exact hH, hE.moved hW (fun q hq1 hq2 => by rw [hU]; exact hS.2.1 q hq1 hq2) (by rw [hU]; exact hS.1), by rw [hU]; exact hsz⟩
  have hS0 : CallFix p m c (mCode 149) (mML 149) s args lw_g RL := ⟨hx, hb, hml, hown, hts⟩
  have hG : GoodIn lw_g (va_wsS RL idx y (wrW y cc)) := by
    intro w hw
    unfold va_wsS at hw
    have hin : w ∈ lw_g := by
      rcases List.mem_append.mp hw with h1 | h1
      · simp only [List.mem_cons, List.not_mem_nil, or_false] at h1
        rcases h1 with rfl | rfl | rfl
        · exact hlk
        · exact hstt
        · rw [hyc]; exact hini
      · rcases List.mem_cons.mp h1 with rfl | h2
        · exact hcw
        · exact h2
    exact ⟨hin, good_g hin⟩
  have hr2 := vx_runSW (e := e) (R := R) (below := below) (meth := meth) (H := H) (locs := locs) (cells := h.1.1 - z.1) (slots := h.1.2 - z.2) (As := [Value.ref x, .int p0, .int p1, .ref o].map (tr Γ)) (rest := r.map (tr Γ)) (g := F0 m pc lsC ((Value.ref o :: .int p1 :: .int p0 :: .ref x :: r).map (tr Γ))) hS0 hM
    (vx_cwSW 4 hts hG rfl rfl rfl hdesc ⟨by show rk k' 0 + 1 + 1 ≤ R.frames; omega, by show 8 + (5 + 11) + 60 * (rk k' 0 + 1) ≤ R.locals; omega⟩) ⟨PcM_blind, hPc⟩ rfl rfl hL.1 hstT hcat2 hd ⟨by omega, by omega⟩
  refine run_go hr2 hS ?_ T hT X
  intro H1 locs1 hH1 hS1
  have K := kk H1 locs1 lsC hH1 hS1 hL (by omega) (by omega)
  have e1 : h2.1.1 - z.1 = h.1.1 - z.1 + mc := by omega
  have e2 : h2.1.2 - z.2 = h.1.2 - z.2 + ms := by omega
  rw [← e1, ← e2]
  exact K
end
theorem wrap_sound {p : Program} {l : Launch} (hl : l.stackTraces = false) {e : Env} {R : Room} {s : State} {m : MethodId} {args : Array Value} {below : List Frame} {meth : Method} {c : Code} {Q : State → Prop} {Γ : GT} {k : Nat} {z : Nat × Nat} {pc : Nat} {ls : List Value} {h : AH} (hC : Cx Γ p s m args meth c k) {i : Instr} {k' d : Nat} {o x : Nat} {p0 p1 : Int32} {r : List Value} {h1 h2 : AH} {v : Int32} {pf : Nat} {sf rv : List Value} (hd : decode (mCode k) pc = .ok (i, 3)) (hc : wrapOf k i = some k')
    (hcat : catS r ≤ 8) (ho : o < h.2.1) (hrc : recvOK 0 k' [.ref x, .int p0, .int p1] h = true) (hrk : rk k' 0 + 1 < rk k d) (hF : rk k d ≤ R.frames) (hLo : 60 * rk k d ≤ R.locals) (hR1 : h2.1.1 - z.1 ≤ R.cells) (hR2 : h2.1.2 - z.2 ≤ R.slots) (hz0 : s.heap.size ≤ Γ.1.1 + z.1) (hrv : retV k' pf sf = some rv) (hun : h1.1 = h.1)
    (hcase : (∃ w e2, rv = [.int w] ∧ stL (h1.2.2 o) 0 w.toInt64 = some e2 ∧ o < h1.2.1 ∧ v = 0 ∧ h2 = setC h1 o e2) ∨ (rv = [thr] ∧ v = 1 ∧ h2 = ((h.1.1 + 8, h.1.2 + 64), h1.2)))
    (hev : ∀ {p : Program} {e : Env} {R : Room} {s : State} {m : MethodId} {args : Array Value} {below : List Frame} {meth : Method} {c : Code} {Q : State → Prop}, Cx Γ p s m args meth c k' → s.heap.size ≤ Γ.1.1 + h.1.1 → rk k' 0 ≤ R.frames → 60 * rk k' 0 ≤ R.locals → (∀ lsf, Wst Γ p l e R s m args below meth c Q k' h.1 pf lsf sf h1) → Wst Γ p l e R s m args below meth c Q k' h.1 0 (iniF k' [.ref x, .int p0, .int p1]) [] h)
    (kk : Wst Γ p l e R s m args below meth c Q k z (pc + 3) ls (.int v :: r) h2) : Wst Γ p l e R s m args below meth c Q k z pc ls (.ref o :: .int p1 :: .int p0 :: .ref x :: r) h := by
  have hΓ := hC.2.2.2.2.2.2.2
  obtain ⟨rfl, idx, y, cc, ii, rfl, hg⟩ := wrap_spec hc
  have hf := hg.1
  rcases hcase with ⟨w, e2, rfl, hst, ho1, rfl, rfl⟩ | ⟨rfl, rfl, rfl⟩
  · have hne : [Value.int w] ≠ [thr] := by simp [thr]
    refine wr_go hC (mc := 0) (ms := 0) hd hg hcat hrk hF hLo hR1 hR2 hz0 (by show h1.1.1 = _; rw [hun]; rfl) (by show h1.1.2 = _; rw [hun]; rfl) (wr_metA hΓ hf ho hrc ho1 hst ?_) kk
    have hk' := hf.2.1
    obtain ⟨m1, m2, m3, m4, m5, m6, m7, m8, m9, m10, m11, m12⟩ := mChk_spec hk'
    refine Met.ofW (cc := mCode k') (maxL := mML k') (ret := mRet k') m4 rfl ?_
    intro p e s m args below meth c s₁ B hml hv
    obtain ⟨rfl, hH, hE, hsz⟩ := hv
    have hC' : Cx Γ p s m ([Value.ref x, .int p0, .int p1].map (tr Γ)).toArray meth c k' := by
      refine ⟨B.exec, B.bytes, hml, ?_, fun w hw => atoms_spec (ws := wsM k') B.pre w (List.mem_cons_of_mem _ hw), fun h2 => ?_, hE, hΓ⟩
      · have := findClass_of_methodNamed B.named
        rw [m5] at this
        exact this
      · rw [← m8 h2]
        exact (name_of_methodNamed B.named B.method).1
    rw [lg_entry_eq]
    have hW := hev (e := e) (below := below) (R := { frames := rk k' 0, cells := 0, slots := 0, locals := 60 * rk k' 0 }) hC' hsz (Nat.le_refl _) (Nat.le_refl _) (fun lsf => ret_sound hC' B.returns B.notSynchronized hrv hne)
    have hW2 := hW s.heap [] _ hH va_S.rf (L_entry hΓ (by rw [hf.2.2.2.2.1]; show 3 ≤ 4; decide) (by rfl) (fun v hv hc => by
      simp only [List.mem_cons, List.not_mem_nil, or_false] at hv
      rcases hv with rfl | rfl | rfl <;> simp [Value.category] at hc)) (Nat.le_refl _) (Nat.le_refl _)
    rw [hun, Nat.sub_self, Nat.sub_self] at hW2
    exact hW2
  · obtain ⟨rfl, j, hj, q0, q3, q4, q6, q9⟩ := retV_thr hrv
    exact wr_go hC (mc := 8) (ms := 64) hd hg hcat hrk hF hLo hR1 hR2 hz0 rfl rfl (wr_metB hΓ hf hg.2.2.2.2.2.1 ho hrc (wr_in hl hΓ hf hg.2.2.2.2.2.2.2 hun hj q0 q3 q4 q6 q9 hev)) kk
theorem sub_le_of {a b c r : Nat} (h : a ≤ b) (h2 : b - c ≤ r) : a - c ≤ r := by omega
theorem okA_long {as : List Value} (h : as.all okA = true) : ∀ v ∈ as, v.category = 2 → ∃ x, v = .long x := by
  intro v hv hc
  have h1 := List.all_eq_true.mp h v hv
  cases v with
  | long x => exact ⟨x, rfl⟩
  | double x => simp [okA] at h1
  | _ => simp [Value.category] at hc
theorem rk_pos {k d : Nat} (hk : k ∈ mAll ∨ k = 149) : 1 ≤ rk k d := by
  unfold rk
  split
  · omega
  · split
    · omega
    · split
      · omega
      · rcases hk with hk | rfl
        · exact (mChk_spec hk).2.2.2.2.2.2.2.2.2.2.1
        · decide
theorem callOf_in {k k' kd : Nat} {i : Instr} (hc : callOf k i = some (kd, k')) : k' ∈ mAll := by
  have key : ∀ {idx : Nat}, cal (mC k) idx = some (kd, k') → k' ∈ mAll := by
    intro idx hcal
    obtain ⟨pq, hq⟩ := cal_ok hcal
    simp only [calChk, Bool.and_eq_true, decide_eq_true_eq] at hq
    exact hq.1
  unfold callOf at hc
  split at hc
  · split at hc
    · rename_i hcal
      split at hc
      · cases hc; exact key hcal
      · cases hc
    · cases hc
  · split at hc
    · rename_i hcal
      split at hc
      · cases hc; exact key hcal
      · cases hc
    · cases hc
  · split at hc
    · rename_i hcal
      split at hc
      · cases hc; exact key hcal
      · cases hc
    · cases hc
  · cases hc
theorem wrapOf_in {k k' : Nat} {i : Instr} (hc : wrapOf k i = some k') : k' ∈ mAll := by
  unfold wrapOf at hc
  split at hc
  · split at hc
    · cases hc; decide
    · split at hc
      · cases hc; decide
      · cases hc
  · cases hc
theorem callOf_len {k k' kd : Nat} {i : Instr} (hc : callOf k i = some (kd, k')) (n : Nat) : lenI i n = 3 := by
  unfold callOf at hc
  split at hc <;> first | rfl | cases hc
theorem wrapOf_len {k k' : Nat} {i : Instr} (hc : wrapOf k i = some k') (n : Nat) : lenI i n = 3 := by
  unfold wrapOf at hc
  split at hc <;> first | rfl | cases hc
theorem ev_sound {Γ : GT} {l : Launch} (hl : l.stackTraces = false) : ∀ (n k d pc : Nat) (ls st : List Value) (h : AH) (pf : Nat) (sf : List Value) (hf : AH), k ∈ mAll ∨ k = 149 → ev n k d pc ls st h = some (pf, sf, hf) →
    ∀ {p : Program} {e : Env} {R : Room} {s : State} {m : MethodId} {args : Array Value} {below : List Frame} {meth : Method} {c : Code} {Q : State → Prop} {z : Nat × Nat}, Cx Γ p s m args meth c k → s.heap.size ≤ Γ.1.1 + z.1 → hf.1.1 - z.1 ≤ R.cells → hf.1.2 - z.2 ≤ R.slots → rk k d ≤ R.frames → 60 * rk k d ≤ R.locals →
      (∀ lsf, Wst Γ p l e R s m args below meth c Q k z pf lsf sf hf) → Wst Γ p l e R s m args below meth c Q k z pc ls st h := by
  intro n
  induction n with
  | zero => intro k d pc ls st h pf sf hf hk hy; simp [ev] at hy
  | succ n ih =>
    intro k d pc ls st h pf sf hf hk hy p e R s m args below meth c Q z hC hz0 hR1 hR2 hF hLo kk
    have hpos : 1 ≤ rk k d := rk_pos hk
    unfold ev at hy
    split at hy
    · cases hy
    · rename_i i len hd
      split at hy
      · rename_i hlen
        split at hy
        · cases hy
          exact kk ls
        · split at hy
          · rename_i kd k' hc
            split at hy
            · cases hy
            · rename_i as r ha
              split at hy
              · cases hy
              · rename_i pf1 sf1 h1 hev
                split at hy
                · cases hy
                · rename_i rv hrv
                  split at hy
                  · cases hy
                  · rename_i hne
                    have hk' := callOf_in hc
                    have hu := ev_mono _ _ _ _ _ _ _ _ hev
                    have hu2 := ev_mono _ _ _ _ _ _ _ _ hy
                    have hlen3 : len = 3 := by rw [hlen]; exact callOf_len hc len
                    subst hlen3
                    refine call_sound hC hd hc ha hF hLo (sub_le_of hu2.1 hR1) (sub_le_of hu2.2 hR2) hu hz0 hrv hne ?_ (ih _ _ _ _ _ _ _ _ _ hk hy hC hz0 hR1 hR2 hF hLo kk)
                    obtain ⟨m1, m2, m3, m4, m5, m6, m7, m8, m9, m10, m11, m12⟩ := mChk_spec hk'
                    have hΓ := hC.2.2.2.2.2.2.2
                    refine Met.ofW (cc := mCode k') (maxL := mML k') (ret := mRet k') m4 rfl ?_
                    intro p e s m args below meth c s₁ B hml hv
                    obtain ⟨rfl, hH, hE, hsz⟩ := hv
                    have hC' : Cx Γ p s m (as.map (tr Γ)).toArray meth c k' := by
                      refine ⟨B.exec, B.bytes, hml, ?_, fun w hw => atoms_spec (ws := wsM k') B.pre w (List.mem_cons_of_mem _ hw), fun h2 => ?_, hE, hΓ⟩
                      · have := findClass_of_methodNamed B.named
                        rw [m5] at this
                        exact this
                      · rw [← m8 h2]
                        exact (name_of_methodNamed B.named B.method).1
                    rw [lg_entry_eq]
                    unfold cAr at ha
                    split at ha
                    · rename_i hq
                      obtain ⟨q1, q2, q3, q4, q5, q6, q7⟩ := hq
                      cases ha
                      have hW := ih _ _ _ _ _ _ _ _ _ (Or.inl hk') hev (e := e) (below := below) (R := { frames := rk k' (dep k' (st.take (mPar k')).reverse), cells := h1.1.1 - h.1.1, slots := h1.1.2 - h.1.2, locals := 60 * rk k' (dep k' (st.take (mPar k')).reverse) }) (z := h.1) hC' hsz (Nat.le_refl _) (Nat.le_refl _) (Nat.le_refl _) (Nat.le_refl _) (fun lsf => ret_sound hC' B.returns B.notSynchronized hrv hne)
                      have hW2 := hW s.heap [] _ hH va_S.rf (L_entry hΓ q6 q5 (okA_long (by rw [List.all_reverse]; exact q4))) (Nat.le_refl _) (Nat.le_refl _)
                      rw [Nat.sub_self, Nat.sub_self] at hW2
                      exact hW2
                    · cases ha
          · split at hy
            · rename_i k' hc
              have hk' := wrapOf_in hc
              have hlen3 : len = 3 := by rw [hlen]; exact wrapOf_len hc len
              subst hlen3
              split at hy
              · split at hy
                · rename_i hq
                  obtain ⟨q1, q2, q3, q4⟩ := hq
                  split at hy
                  · cases hy
                  · rename_i pf1 sf1 h1 hev
                    split at hy
                    · rename_i w hrv
                      split at hy
                      · rename_i e2 hst
                        split at hy
                        · rename_i hq5
                          have hu2 := ev_mono _ _ _ _ _ _ _ _ hy
                          exact wrap_sound hl hC hd hc q1 q2 q3 q4 hF hLo (sub_le_of hu2.1 hR1) (sub_le_of hu2.2 hR2) hz0 hrv hq5.2 (Or.inl ⟨w, e2, rfl, hst, hq5.1, rfl, rfl⟩) (fun hCx hs1 hf1 hl1 kf => ih _ _ _ _ _ _ _ _ _ (Or.inl hk') hev hCx hs1 (by rw [hq5.2]; omega) (by rw [hq5.2]; omega) hf1 hl1 kf) (ih _ _ _ _ _ _ _ _ _ hk hy hC hz0 hR1 hR2 hF hLo kk)
                        · cases hy
                      · cases hy
                    · rename_i rv _ hrv
                      split at hy
                      · rename_i hq5
                        obtain ⟨rfl, hq5⟩ := hq5
                        have hu2 := ev_mono _ _ _ _ _ _ _ _ hy
                        exact wrap_sound hl hC hd hc q1 q2 q3 q4 hF hLo (sub_le_of hu2.1 hR1) (sub_le_of hu2.2 hR2) hz0 hrv hq5 (Or.inr ⟨rfl, rfl, rfl⟩) (fun hCx hs1 hf1 hl1 kf => ih _ _ _ _ _ _ _ _ _ (Or.inl hk') hev hCx hs1 (by rw [hq5]; omega) (by rw [hq5]; omega) hf1 hl1 kf) (ih _ _ _ _ _ _ _ _ _ hk hy hC hz0 hR1 hR2 hF hLo kk)
                      · cases hy
                    · cases hy
                · cases hy
              · cases hy
            · split at hy
              · rename_i pc1 ls1 st1 h1 hs
                have hu2 := ev_mono _ _ _ _ _ _ _ _ hy
                exact sI_sound hC hd hlen hs hz0 (sub_le_of hu2.1 hR1) (sub_le_of hu2.2 hR2) (by omega) (by omega) (ih _ _ _ _ _ _ _ _ _ hk hy hC hz0 hR1 hR2 hF hLo kk)
              · cases hy
      · cases hy
