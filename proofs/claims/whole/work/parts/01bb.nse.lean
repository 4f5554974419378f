/-! NoSuchElementException(String) calls its super at place 13, not 7 as the other exceptions' constructors do: its words. -/
abbrev hy_nN : String := "java/util/NoSuchElementException"
abbrev hy_nR : String := "java/lang/RuntimeException"
def hy_isN (w : Cond) : Bool := decide (w ≠ .code (Bundle.initS hy_nN) Bundle.six 2 none) && decide (w ≠ .methodLink hy_nN 7 (Bundle.initS hy_nR))
def hy_atN (own : String) (ic : Nat) (X : String) (names : List String) : List Cond := (vx_atS own ic X names).filter hy_isN ++ [.code (Bundle.initS hy_nN) prog_15_method_4_code 2 none, .methodLink hy_nN 13 (Bundle.initS hy_nR)]
theorem hy_rx0 : decode prog_15_method_4_code 0 = .ok (.aload_n 0, 1) := by decide +kernel
theorem hy_rx1 : decode prog_15_method_4_code 1 = .ok (.aload_n 1, 1) := by decide +kernel
theorem hy_rx2 : decode prog_15_method_4_code 2 = .ok (.invokespecial 13, 3) := by decide +kernel
theorem hy_rx5 : decode prog_15_method_4_code 5 = .ok (.return_, 1) := by decide +kernel
theorem hy_chN {args : Array Value} {s : State} {pl : Platform} (hpl : pl.magicAccessors = ({} : Platform).magicAccessors) {top : MethodId} (htop : s.methodNamed? (Bundle.initS Bundle.tN) = some top)
    (h1 : ∀ w ∈ Bundle.passSAtoms hy_nN hy_nR 13 prog_15_method_4_code, w.before args s = true) (h2 : ∀ w ∈ Bundle.chainSAtoms hy_nR ["java/lang/Exception"], w.before args s = true) :
    ∃ (P1 : PassC) (Ps : List PassC), Ps.length = 2 ∧ P1.LinksS pl s ∧ (∀ P, P ∈ Ps → P.LinksS pl s) ∧ s.methodNamed? (Bundle.initS hy_nN) = some P1.m ∧ P1.sup = firstOf top (Ps.map (·.toPassT)) ∧ PassesOn top (Ps.map (·.toPassT)) := by
  obtain ⟨P, L, hm, hs⟩ := PassC.ofS_atoms (args := args) (s := s) hpl (X := hy_nN) (Y := hy_nR) (by decide +kernel) (by decide +kernel) hy_rx0 hy_rx1 hy_rx2 hy_rx5 h1
  obtain ⟨P', Ps, hlen, L', hL, hm', hsup, hpass⟩ := Bundle.chainS (args := args) hpl htop ["java/lang/Exception"] hy_nR (by decide +kernel) (by decide +kernel) h2
  refine ⟨P, P' :: Ps, by rw [List.length_cons, hlen]; rfl, L, ?_, hm, Option.some.inj (hs.symm.trans hm'), hsup, hpass⟩
  intro Q hQ
  rcases List.mem_cons.mp hQ with rfl | hQ
  · exact L'
  · exact hL Q hQ
theorem hy_isT : ∀ w ∈ Bundle.throwableAtoms, hy_isN w = true := by decide +kernel
theorem hy_isTS : ∀ w ∈ Bundle.throwableSAtoms, hy_isN w = true := by decide +kernel
theorem hy_isC : ∀ w ∈ Bundle.chainSAtoms hy_nR ["java/lang/Exception"], hy_isN w = true := by decide +kernel
section HYCN
variable {p : Program} {l : Launch} {e : Env} {R : Room} {s : State} {m₀ : MethodId} {args : Array Value} {below : List Frame} {meth : Method} {c : Code} {W : State} {locs : List Loc} {cells slots : Nat}
set_option maxHeartbeats 1000000 in
/-- its constructor, then athrow: out of the library's laws of Throwable -/
theorem hy_ctorN (X : Stand p l e R s m₀ args below meth c W locs cells slots) (hexec : p.tables.exec = Jvm.exec) (htr : e.platform.stackTraces = false) {own : String} {ic : Nat} (hown : s.vm.findClass own = some m₀.cls)
    (h : ∀ w ∈ Bundle.ownAtoms own ic hy_nN [hy_nR, "java/lang/Exception"], hy_isN w = true → w.before args s = true) (hli : (Cond.methodLink own ic (Bundle.initS hy_nN)).before args s = true)
    (hco : (Cond.code (Bundle.initS hy_nN) prog_15_method_4_code 2 none).before args s = true) (hl13 : (Cond.methodLink hy_nN 13 (Bundle.initS hy_nR)).before args s = true)
    (hlocs : ∀ x ∈ locs, ∀ cell, s.heap[x.base]? = some cell → cell.vm.isStatics = false)
    {a : Addr} {cX : ClassId} {kX : Class} (hfoundX : s.vm.findClass hy_nN = some cX) (hkX : s.vm.classes[cX]? = some kX) (hcell : W.heap[a]? = some (freshCell cX kX)) (hnew : s.heap.size ≤ a)
    {msg : Value} (hmsg : msg.isRef = true) {g : JFrame} (hg : g.method = m₀) (hsize : g.locals.size = c.maxLocals) (hlocked : g.locked = none) (hentered : g.entered = []) {rest : List Value} (hstack : g.stack = msg :: .ref a :: .ref a :: rest)
    (hd6 : decode c.code g.pc = .ok (.invokespecial ic, 3)) (hd9 : decode c.code (g.pc + 3) = .ok (.athrow, 1)) (hout : ∀ x ∈ c.exceptionTable.toList, covers x (g.pc + 3) = false)
    (hRframes : 5 < R.frames) (hRlocals : 2 * g.monitorRoom + ((Value.ref a :: rest).map fun v => v.category).sum + 81 ≤ R.locals) (hlocks : meth.locks = false) :
    ∃ U : State, Steps p.tables e below (W.setTop g) U ∧ U.status = .running ∧ Ended U below (.threw a) ∧ s.WarmedH U.vm ∧ s.sameButNew ({ U with vm := s.vm } : State) locs cells slots ∧
      ∃ ce, U.heap[a]? = some ce ∧ s.vm.findClass hy_nN = some ce.cls ∧ ce.vm = .none := by
  have howns : e.platform.frameOwnsMonitors = true := by rw [X.admits.platform]
  have hfin : e.platform.finalization = false := by rw [X.admits.platform]
  have hpl : e.platform.magicAccessors = ({} : Platform).magicAccessors := by rw [X.admits.platform]
  have hch : ∀ w ∈ Bundle.chainSAtoms hy_nR ["java/lang/Exception"], w.before args s = true := fun w hw => h w (List.mem_append_left _ (List.mem_append_right _ (List.mem_append_right _ hw))) (hy_isC w hw)
  obtain ⟨T, Z0, L, -, Y⟩ := ThrowableC.of_atoms (args := args) howns hfin hpl (fun x hx => h x (by simp [Bundle.ownAtoms, hx]) (hy_isT x hx))
  obtain ⟨Z, M, LZ, LM, hnZ⟩ := Init0T.ofS_atoms (args := args) hpl L Y (fun x hx => h x (by simp [Bundle.ownAtoms, hx]) (hy_isTS x hx))
  have hps : ∀ w ∈ Bundle.passSAtoms hy_nN hy_nR 13 prog_15_method_4_code, w.before args s = true := by
    intro w hw
    simp only [Bundle.passSAtoms, List.mem_cons, List.not_mem_nil, or_false] at hw
    rcases hw with rfl | rfl | rfl | rfl | rfl
    · exact h _ (by simp [Bundle.ownAtoms, Bundle.chainSAtoms, Bundle.passSAtoms]) (by decide +kernel)
    · exact hco
    · exact hl13
    · exact h _ (by simp [Bundle.ownAtoms, Bundle.chainSAtoms, Bundle.passSAtoms]) (by decide +kernel)
    · exact h _ (by simp [Bundle.ownAtoms, Bundle.chainSAtoms, Bundle.passSAtoms]) (by decide +kernel)
  obtain ⟨P1, Ps, hlen, L1, hL, hP1m, hlink1, hlink⟩ := hy_chN (args := args) hpl hnZ hps hch
  have hfound : s.vm.findClass hy_nN = some P1.m.cls := findClass_of_methodNamed hP1m
  cases Option.some.inj (hfoundX.symm.trans hfound)
  have w1 : (Cond.instantiable hy_nN 6).before args s = true := h _ (by simp [Bundle.ownAtoms]) (by decide +kernel)
  have w2 : (Cond.selects hy_nN Bundle.tFill0 Bundle.tFill0).before args s = true := h _ (by simp [Bundle.ownAtoms]) (by decide +kernel)
  have w3 : (Cond.selects hy_nN Bundle.tFill Bundle.tFill).before args s = true := h _ (by simp [Bundle.ownAtoms]) (by decide +kernel)
  have w4 : (Cond.isRef (.static Bundle.tN "UNASSIGNED_STACK" Bundle.steD)).before args s = true := h _ (by simp [Bundle.ownAtoms]) (by decide +kernel)
  have w5 : (Cond.isRef (.static Bundle.tN "SUPPRESSED_SENTINEL" Bundle.listD)).before args s = true := h _ (by simp [Bundle.ownAtoms]) (by decide +kernel)
  have w6 : (Cond.fieldLink Bundle.tN 198 Bundle.tN "backtrace" "Ljava/lang/Object;").before args s = true := h _ (by simp [Bundle.ownAtoms]) (by decide +kernel)
  have w7 : (Cond.lays Bundle.tN Bundle.tN "backtrace" "Ljava/lang/Object;").before args s = true := h _ (by simp [Bundle.ownAtoms]) (by decide +kernel)
  have w8 : (Cond.lays hy_nN Bundle.tN "cause" "Ljava/lang/Throwable;").before args s = true := h _ (by simp [Bundle.ownAtoms]) (by decide +kernel)
  have w9 : (Cond.lays hy_nN Bundle.tN "stackTrace" Bundle.steD).before args s = true := h _ (by simp [Bundle.ownAtoms]) (by decide +kernel)
  have w10 : (Cond.lays hy_nN Bundle.tN "suppressedExceptions" Bundle.listD).before args s = true := h _ (by simp [Bundle.ownAtoms]) (by decide +kernel)
  have w11 : (Cond.lays hy_nN Bundle.tN "detailMessage" "Ljava/lang/String;").before args s = true := h _ (by simp [Bundle.ownAtoms]) (by decide +kernel)
  have w12 : (Cond.lays hy_nN Bundle.tN "backtrace" "Ljava/lang/Object;").before args s = true := h _ (by simp [Bundle.ownAtoms]) (by decide +kernel)
  have w13 : (Cond.instanceMethod (Bundle.initS hy_nN)).before args s = true := hps _ (by simp [Bundle.passSAtoms])
  obtain ⟨c1, kX', hc1, hk, hord, -, -, hn6⟩ := Cond.instantiable_spec w1
  cases Option.some.inj (hc1.symm.trans hfound)
  cases Option.some.inj (hkX.symm.trans hk)
  have hsel0 : selectMethod e.platform s.vm P1.m.cls T.fill0 = .method T.fill0 := by
    obtain ⟨c2, r2, m2, q1, q2, q3, q4, -⟩ := Cond.selects_spec w2
    cases Option.some.inj (q1.symm.trans hfound)
    cases Option.some.inj (q2.symm.trans (State.methodFound?_of_named Y.fill0 (by decide)))
    cases Option.some.inj (q3.symm.trans Y.fill0)
    rw [Launch.admits_selectMethod X.admits]
    exact q4
  have hselF : selectMethod e.platform s.vm P1.m.cls T.fill = .method T.fill := by
    obtain ⟨c2, r2, m2, q1, q2, q3, q4, -⟩ := Cond.selects_spec w3
    cases Option.some.inj (q1.symm.trans hfound)
    cases Option.some.inj (q2.symm.trans (State.methodFound?_of_named Y.fill (by decide)))
    cases Option.some.inj (q3.symm.trans Y.fill)
    rw [Launch.admits_selectMethod X.admits]
    exact q4
  obtain ⟨cellS0, hcS0, hiss⟩ := Y.statics
  obtain ⟨u0, hu0⟩ := Cond.staticRefV Y.unassigned L.unassignedStatic L.statics hcS0 hiss w4
  obtain ⟨sen, hsen⟩ := Cond.staticRefV Y.sentinel L.sentinelStatic L.statics hcS0 hiss w5
  obtain ⟨ci198, i198, fB, hk198, hg198, ha198, hsB, -, hnB, htB, hffB⟩ := Cond.ownField (t := .object "java/lang/Object") Y.found L.cls (by decide +kernel) w6 w7 e.platform hpl
  obtain ⟨cellS, hcS', heS, -, hkeep⟩ := X.same.2.2.2.2.2 T.aS cellS0 hcS0
  have hcellS : W.heap[T.aS]? = some cellS := hcS'
  have hout' : ∀ i, (⟨T.aS, i⟩ : Loc) ∉ locs := fun i hmem => by
    have := hlocs _ hmem cellS0 hcS0
    rw [hiss] at this
    cases this
  have hknownS : cellS.vm ≠ .unknown := by
    rw [heS]
    intro hu
    rw [show cellS0.vm = .unknown from hu] at hiss
    cases hiss
  have hneS : T.aS ≠ a := Nat.ne_of_lt (Nat.lt_of_lt_of_le (Array.getElem?_eq_some_iff.mp hcS0).1 hnew)
  obtain ⟨iM, hffM⟩ := Y.msg
  obtain ⟨tyC, dC, hdC, hdnC⟩ := Cond.laysAt hfound hk Y.cause w8
  obtain ⟨tyS, dS, hdS, hdnS⟩ := Cond.laysAt hfound hk Y.stack w9
  obtain ⟨tyP, dP, hdP, hdnP⟩ := Cond.laysAt hfound hk Y.supp w10
  obtain ⟨tyM, dM, hdM, hdnM⟩ := Cond.laysAt hfound hk hffM w11
  obtain ⟨tyB, dB, hdB, hdnB⟩ := Cond.laysAt hfound hk hffB w12
  have bC := Cond.laysApart hdB hdC hdnB hdnC (by rw [hnB, Y.causeName]; decide)
  have bS := Cond.laysApart hdB hdS hdnB hdnS (by rw [hnB, Y.stackName]; decide)
  have bP := Cond.laysApart hdB hdP hdnB hdnP (by rw [hnB, Y.suppName]; decide)
  have hskip : SkipFacts T e.platform s (fun u => u) u0 ((preparedCellV T.toThrowableT (freshCell P1.m.cls kX) a u0 sen).withEntry W.cur) :=
    ⟨{ ci198 := ci198, i198 := i198, fBack := fB }, ⟨hk198, hg198, ha198, hsB⟩, by
      have := fresh_default (c := P1.m.cls) tyB
      rw [htB] at this
      simpa [preparedCellV, Cell.setSlot, Cell.withEntry, Array.getElem?_setIfInBounds, bC, bS, bP, bC.symm, bS.symm, bP.symm, defaultValue] using this, fun _ _ => rfl⟩
  obtain ⟨tm, methC, cdC, kC, vm₁, hnC, -, -, -, -, -, -, -, hW₁, st1⟩ := Steps.initColdS (tb := p.tables) (e := e) (below := below) (s := s) (U := W) X.here hexec X.warmed hpl hown (t := Bundle.initS hy_nN) rfl rfl (by decide +kernel)
    hli w13 (bytes := prog_15_method_4_code) (maxL := 2) hco (f := g) hg (a := a) (msg := msg) (rest := .ref a :: rest) hstack hd6
  cases Option.some.inj (hnC.symm.trans hP1m)
  have X₁ := X.noted hW₁
  obtain ⟨vm₂, X₂, st2⟩ := X₁.ctorMessageOffV hexec (g := { g with stack := .ref a :: rest }) hg hsize T L Z LZ M LM (P1 :: Ps)
    (fun P hP => by rcases List.mem_cons.mp hP with rfl | hP; exact L1; exact hL P hP) ⟨hlink1, hlink⟩ (u0 := u0) (sen := sen) (self := a) hmsg (cell := freshCell P1.m.cls kX) (cellS := cellS)
    hcell (fun _ => by simp) (by simp) rfl rfl hsel0 hselF hcellS hneS hknownS (by rw [hkeep _ (hout' _)]; exact hu0) (by rw [hkeep _ (hout' _)]; exact hsen)
    (Takes.of_laid hk hord tyC (by rw [Y.causeType]; rfl)) (Takes.of_laid hk hord tyS (by rw [Y.stackType]; exact fits_refV_array _ u0)) (Takes.of_laid hk hord tyP (by rw [Y.suppType]; exact fits_refV_object _ sen))
    (Takes.of_laid hk hord tyM (by rw [Y.msgType]; exact fits_refV_object _ ⟨msg, hmsg⟩)) Y.objLocals hskip htr [] hd6
    (by simp only [List.length_cons, hlen]; omega) (by simp only [List.length_cons, hlen]; exact hRlocals)
  obtain ⟨hwalk, hrun, hended, hWU, hsame⟩ := X₂.athrowLeaves hexec (g := { g with stack := .ref a :: rest, pc := g.pc + 3 }) hg hlocked hentered hout (a := a) (rest := rest) rfl hd9
  have hlt : a < ((W.setVm vm₁).setVm vm₂).heap.size := (Array.getElem?_eq_some_iff.mp hcell).1
  have hU := heapAt_setCell_self (s := (W.setVm vm₁).setVm vm₂) (plainBareV T.toThrowableT (freshCell P1.m.cls kX) a u0 sen msg) hlt
  refine ⟨_, st1 _ (fun acts => ?_), hrun, hended, hWU, hsame.weaken (fun y hy hlt' => ?_) (Nat.le_refl _) (Nat.le_refl _), _, hU, hfound, rfl⟩
  · rw [doInvoke_state]
    exact st2 _ hwalk
  · rcases List.mem_append.mp hy with h1 | h1
    · exact h1
    · exfalso
      have hb : y.base = a := by
        simp only [List.mem_cons, List.not_mem_nil, or_false] at h1
        rcases h1 with rfl | rfl | rfl | rfl | rfl <;> rfl
      rw [hb] at hlt'
      exact Nat.not_lt.mpr hnew hlt'
end HYCN
