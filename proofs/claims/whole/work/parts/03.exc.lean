/-! EXCEPTIONS of the class: what a throw needs of the start, one row for 'throw new E("text")', one row for a call that may throw where the throw goes on to the caller. -/
abbrev hy_xs : List String := ["java/lang/RuntimeException", "java/lang/Exception"]
def hy_Es : List String := ["java/lang/IndexOutOfBoundsException", "java/lang/IllegalArgumentException", "java/lang/UnsupportedOperationException", "java/lang/IllegalStateException", "java/util/NoSuchElementException"]
def hy_strs : List (Nat × String) := [(38, "no such sort"), (43, "a row has 0 to 24 places"), (51, "300 rows were made"), (72, "the box holds no row of numbers"), (90, "no such kind"), (99, "60 combs were made"), (154, "no such box"), (157, "the box holds no row"), (159, "the box holds no row of combs"), (163, "no such place"), (170, "no such comb")]
def hy_E (U : State) : Prop := (∀ E ∈ hy_Es, va_Nw (.castable E E) U) ∧ (∀ Y ∈ (["java/lang/RuntimeException", "java/lang/Exception", "java/lang/Throwable"] : List String), va_Nw (.declares ⟨Y, "<init>", "(Ljava/lang/String;)V"⟩) U) ∧ ∀ q ∈ hy_strs, ∃ sa : Nat, vk_R RX1 q.1 q.2 sa U
theorem hy_E.warm {s U : State} (hW : s.WarmedH U.vm) (h : hy_E s) : hy_E U :=
  ⟨fun E hE => va_Nw.warmC hW (h.1 E hE), fun Y hY => va_Nw.warmD hW (h.2.1 Y hY), fun q hq => by obtain ⟨sa, h9⟩ := h.2.2 q hq; exact ⟨sa, vk_R.warm hW h9⟩⟩
theorem hy_E.same {u U : State} (hv : U.vm = u.vm) (h : hy_E u) : hy_E U :=
  ⟨fun E hE => va_Nw.same rfl hv.symm (h.1 E hE), fun Y hY => va_Nw.same rfl hv.symm (h.2.1 Y hY), fun q hq => by obtain ⟨sa, h9⟩ := h.2.2 q hq; exact ⟨sa, vk_R.same hv h9⟩⟩
def hy_Z (A : Nat → Prop) (U : State) (H : Heap) : Prop := vx_Zq Bundle.tN "UNASSIGNED_STACK" Bundle.steD A U H ∧ vx_Zq Bundle.tN "SUPPRESSED_SENTINEL" Bundle.listD A U H
theorem hy_Z.at {s U : State} {H : Heap} {locs : List Loc} {A : Nat → Prop} (h : hy_Z A s s.heap) (hS : va_S A s.heap H locs) (hA : ∀ q : Nat, s.heap.size ≤ q → A q) (hU : U.heap = H) (hW : s.WarmedH U.vm) : hy_Z (fun q => U.heap.size ≤ q) U U.heap := by
  have hn : ∀ q : Nat, U.heap.size ≤ q → A q := fun q hq => hA q (Nat.le_trans hS.1 (by rw [← hU]; exact hq))
  have e : U.heap = H := hU
  have h1 := vx_Zq.narrow (vx_Zq.moved hW.alike (h.1.kept hS.2.1)) hn
  have h2 := vx_Zq.narrow (vx_Zq.moved hW.alike (h.2.kept hS.2.1)) hn
  rw [← e] at h1 h2
  exact ⟨h1, h2⟩
theorem hy_Z.same {A : Nat → Prop} {u U : State} {H : Heap} (hv : U.vm = u.vm) (h : hy_Z A u H) : hy_Z A U H :=
  ⟨vx_Zq.moved (by rw [hv]; exact Vm.Alike.refl u.vm) h.1, vx_Zq.moved (by rw [hv]; exact Vm.Alike.refl u.vm) h.2⟩
/-- what stands behind a throw of the class: which exception, and that no cell that was there has changed -/
def hy_X (P : String → Prop) : String → State → State → Prop := fun E st t => P E ∧ va_F (fun q => st.heap.size ≤ q) st t
section HYX
variable {p : Program} {l : Launch} {e : Env} {R : Room} {s : State} {m : MethodId} {args : Array Value} {below : List Frame} {meth : Method} {c : Code} {cells slots : Nat}
variable {mc ms mc9 ms9 : Nat} {free : Addr → Prop} {pc : Nat} {ls : Array Slot} {st0 rest : List Value} {Qc : Array Value → State → Outcome → State → Prop} {P P9 : String → Prop} {cc : ByteArray} {Ts : List Cond}
theorem hy_throw (hx : p.tables.exec = Jvm.exec) (hb : c.code = cc) (hl9 : l.stackTraces = false) {cls text : String} {ik is ic : Nat} (hts : ∀ w ∈ Ts, w.before args s = true)
    (hown : s.vm.findClass RX1 = some m.cls) (hE : hy_E s) (hZ : hy_Z (fun q => s.heap.size ≤ q) s s.heap) (hcls : cls ∈ hy_Es) (hstr : (is, text) ∈ hy_strs)
    (hk : Cond.classLink RX1 ik cls ∈ Ts) (hini : Cond.initialized cls ∈ Ts) (hat : ∀ w ∈ (vx_atS RX1 ic cls hy_xs).filter goodWord, w ∈ Ts) (hat2 : ∀ w ∈ (vx_atS RX1 ic cls hy_xs).filter (fun w => !goodWord w), w ∈ ([.castable cls cls, .declares ⟨"java/lang/RuntimeException", "<init>", "(Ljava/lang/String;)V"⟩, .declares ⟨"java/lang/Exception", "<init>", "(Ljava/lang/String;)V"⟩, .declares ⟨"java/lang/Throwable", "<init>", "(Ljava/lang/String;)V"⟩] : List Cond))
    (hgood : ∀ w ∈ Cond.classLink RX1 ik cls :: Cond.initialized cls :: vx_atS RX1 ic cls hy_xs, vx_ot w = true) (hsize : ls.size = c.maxLocals)
    (d0 : decode cc pc = .ok (.new ik, 3)) (d3 : decode cc (pc + 3) = .ok (.dup, 1)) (d4 : decode cc (pc + 4) = .ok (.ldc is, 2)) (d6 : decode cc (pc + 6) = .ok (.invokespecial ic, 3)) (d9 : decode cc (pc + 9) = .ok (.athrow, 1))
    (hno : ∀ x ∈ c.exceptionTable.toList, False) (hlocks : meth.locks = false) (hR : 6 ≤ R.frames ∧ 90 ≤ R.locals) (hr8 : (rest.map fun v => v.category).sum ≤ 8) (hcr : cells + 1 ≤ R.cells) (hsr : slots + 6 ≤ R.slots) (hc : cells + 1 ≤ mc) (hs : slots + 6 ≤ ms) (hP : P cls) :
    W p l e R s m args below meth c s.heap [] cells slots (vx_MQ below Qc (hy_X P) args s mc ms free) (F0 m pc ls rest) := by
  obtain ⟨sa, hsa⟩ := hE.2.2 _ hstr
  have hfit : Bundle.fit cls = true := by
    simp only [hy_Es, List.mem_cons, List.not_mem_nil, or_false] at hcls
    rcases hcls with h | h | h | h | h <;> (rw [h]; decide +kernel)
  refine vx_throwS hx hb hl9 (names := hy_xs) (text := text) (sa := sa) (A := fun q => s.heap.size ≤ q) hown hfit (by decide +kernel) (hts _ hk) (hts _ hini) hsa
    (vx_hat (fun w hw => hts w (hat w hw)) hat2 (vx_c (va_Nw.use rfl (hE.1 cls hcls)) (vx_c (va_Nw.use rfl (hE.2.1 _ List.mem_cons_self)) (vx_c (va_Nw.use rfl (hE.2.1 _ (List.mem_cons_of_mem _ List.mem_cons_self))) (vx_c (va_Nw.use rfl (hE.2.1 _ (List.mem_cons_of_mem _ (List.mem_cons_of_mem _ List.mem_cons_self)))) vx_n)))))
    hgood hZ.1 hZ.2 va_S.rf hsize d0 d3 d4 d6 d9 (fun x hx => (hno x hx).elim) ?_ ?_ hcr hsr hlocks (fun t _ h1 h2 => ⟨hP, h1, fun q hq _ => h2 q hq⟩) (fun z hz => nomatch hz) hc hs
  · show 2 + 3 < R.frames
    omega
  · show _ + (13 * (2 + 1) + 43) ≤ R.locals
    omega
set_option maxHeartbeats 1000000 in
/-- the same for NoSuchElementException -/
theorem hy_throwN (hx : p.tables.exec = Jvm.exec) (hb : c.code = cc) (hl9 : l.stackTraces = false) {text : String} {ik is : Nat} (hts : ∀ w ∈ Ts, w.before args s = true)
    (hown : s.vm.findClass RX1 = some m.cls) (hE : hy_E s) (hZ : hy_Z (fun q => s.heap.size ≤ q) s s.heap) (hstr : (is, text) ∈ hy_strs)
    (hk : Cond.classLink RX1 ik hy_nN ∈ Ts) (hini : Cond.initialized hy_nN ∈ Ts) (hat : ∀ w ∈ (hy_atN RX1 165 hy_nN hy_xs).filter goodWord, w ∈ Ts) (hat2 : ∀ w ∈ (hy_atN RX1 165 hy_nN hy_xs).filter (fun w => !goodWord w), w ∈ ([.castable hy_nN hy_nN, .declares ⟨"java/lang/RuntimeException", "<init>", "(Ljava/lang/String;)V"⟩, .declares ⟨"java/lang/Exception", "<init>", "(Ljava/lang/String;)V"⟩, .declares ⟨"java/lang/Throwable", "<init>", "(Ljava/lang/String;)V"⟩] : List Cond))
    (hgood : ∀ w ∈ Cond.classLink RX1 ik hy_nN :: Cond.initialized hy_nN :: hy_atN RX1 165 hy_nN hy_xs, vx_ot w = true) (hsize : ls.size = c.maxLocals)
    (d0 : decode cc pc = .ok (.new ik, 3)) (d3 : decode cc (pc + 3) = .ok (.dup, 1)) (d4 : decode cc (pc + 4) = .ok (.ldc is, 2)) (d6 : decode cc (pc + 6) = .ok (.invokespecial 165, 3)) (d9 : decode cc (pc + 9) = .ok (.athrow, 1))
    (hno : ∀ x ∈ c.exceptionTable.toList, False) (hlocks : meth.locks = false) (hR : 6 ≤ R.frames ∧ 90 ≤ R.locals) (hr8 : (rest.map fun v => v.category).sum ≤ 8) (hcr : cells + 1 ≤ R.cells) (hsr : slots + 6 ≤ R.slots) (hc : cells + 1 ≤ mc) (hs : slots + 6 ≤ ms) (hP : P hy_nN) :
    W p l e R s m args below meth c s.heap [] cells slots (vx_MQ below Qc (hy_X P) args s mc ms free) (F0 m pc ls rest) := by
  obtain ⟨sa, hsa⟩ := hE.2.2 _ hstr
  have hatA : ∀ w ∈ hy_atN RX1 165 hy_nN hy_xs, w.before args s = true := vx_hat (fun w hw => hts w (hat w hw)) hat2 (vx_c (va_Nw.use rfl (hE.1 hy_nN (by decide +kernel))) (vx_c (va_Nw.use rfl (hE.2.1 _ List.mem_cons_self)) (vx_c (va_Nw.use rfl (hE.2.1 _ (List.mem_cons_of_mem _ List.mem_cons_self))) (vx_c (va_Nw.use rfl (hE.2.1 _ (List.mem_cons_of_mem _ (List.mem_cons_of_mem _ List.mem_cons_self)))) vx_n))))
  intro T hT X
  have htr : e.platform.stackTraces = false := (show e.platform.stackTraces = l.stackTraces by rw [X.admits.platform]).trans hl9
  have Y := vx_rebase X (R' := { frames := R.frames, locals := R.locals, cells := 1, slots := 6 }) (Nat.le_refl _) (Nat.le_refl _) hcr hsr
  obtain ⟨s', hA⟩ : ∃ z, z = (T.setVm s.vm).setFrames (.invoking m args :: below) := ⟨_, rfl⟩
  rw [← hA] at Y
  have hvm : s'.vm = s.vm := by rw [hA]; rfl
  have hhp : s'.heap = s.heap := by rw [hA]; exact hT
  have hW0 : s.WarmedH s'.vm := by rw [hvm]; exact State.WarmedH.refl s
  have hat' : ∀ w ∈ hy_atN RX1 165 hy_nN hy_xs, w.before args s' = true := fun w hw => vx_ot_at hW0 hvm.symm (hgood w (List.mem_cons_of_mem _ (List.mem_cons_of_mem _ hw))) (hatA w hw)
  have hk' : (Cond.classLink RX1 ik hy_nN).before args s' = true := vx_ot_at hW0 hvm.symm (hgood _ List.mem_cons_self) (hts _ hk)
  have hini' : (Cond.initialized hy_nN).before args s' = true := vx_ot_at hW0 hvm.symm (hgood _ (List.mem_cons_of_mem _ List.mem_cons_self)) (hts _ hini)
  have hU' : vx_Zq Bundle.tN "UNASSIGNED_STACK" Bundle.steD (fun q => s.heap.size ≤ q) s' s'.heap := by rw [hhp]; exact vx_Zq.moved hW0.alike hZ.1
  have hN' : vx_Zq Bundle.tN "SUPPRESSED_SENTINEL" Bundle.listD (fun q => s.heap.size ≤ q) s' s'.heap := by rw [hhp]; exact vx_Zq.moved hW0.alike hZ.2
  have h0 : ∀ w ∈ (Bundle.ownAtoms RX1 165 hy_nN hy_xs).filter hy_isN, w.before args s' = true := vx_own (fun w hw => by
    obtain ⟨h1, h2⟩ := List.mem_filter.mp hw
    obtain ⟨h3, h4⟩ := List.mem_filter.mp h1
    exact hat' w (List.mem_append_left _ (List.mem_filter.mpr ⟨List.mem_filter.mpr ⟨h3, h2⟩, h4⟩))) (vx_isRefq hU'.1) (vx_isRefq hN'.1) hU'.2.word hN'.2.word
  have h : ∀ w ∈ Bundle.ownAtoms RX1 165 hy_nN hy_xs, hy_isN w = true → w.before args s' = true := fun w hw hi => h0 w (List.mem_filter.mpr ⟨hw, hi⟩)
  have hown' : s'.vm.findClass RX1 = some m.cls := by rw [hvm]; exact hown
  have hins : (Cond.instantiable hy_nN 6).before args s' = true := h _ (by simp [Bundle.ownAtoms]) (by decide +kernel)
  have hli : (Cond.methodLink RX1 165 (Bundle.initS hy_nN)).before args s' = true := h _ (by simp [Bundle.ownAtoms]) (by decide +kernel)
  have hco : (Cond.code (Bundle.initS hy_nN) prog_15_method_4_code 2 none).before args s' = true := hat' _ (List.mem_append_right _ List.mem_cons_self)
  have hl13 : (Cond.methodLink hy_nN 13 (Bundle.initS hy_nR)).before args s' = true := hat' _ (List.mem_append_right _ (List.mem_cons_of_mem _ List.mem_cons_self))
  obtain ⟨vm₁, cX, kX, hfX, hkX, -, -, X₁, st1⟩ := Y.newCold hx (own := RX1) (C := hy_nN) (index := ik) (n := 6) hown' hk' hins hini'
    (g := F0 m pc ls rest) rfl (by rw [hb]; exact d0) (Nat.le_refl _) (Nat.le_refl _)
  generalize hT1 : (T.setVm vm₁).pushCell { cls := cX, slots := kX.instanceTypes.map defaultValue, vm := .none } = T1 at X₁ st1
  have hcat : (Value.ref T.heap.size).category = 1 := rfl
  have hcellA : T1.heap[T.heap.size]? = some (freshCell cX kX) := by rw [← hT1]; exact State.heap_pushCell_size _ _
  have d3' : decode c.code (pc + 3) = .ok (.dup, 1) := by rw [hb]; exact d3
  have d4' : decode c.code (pc + 4) = .ok (.ldc is, 2) := by rw [hb]; exact d4
  have hstr' : vk_R RX1 is text sa s' := vk_R.warm hW0 hsa
  obtain ⟨U, hsteps, hrun, hend, hW, hsame, ce, hce, hcl0, hcv⟩ := hy_ctorN X₁ hx htr (own := RX1) (ic := 165) hown' h hli hco hl13 (fun x hx => nomatch hx) hfX hkX hcellA (by rw [hhp, hT]; exact Nat.le_refl _) (msg := .ref sa) rfl
    (g := { method := m, pc := pc + 6, locals := ls, stack := .ref sa :: .ref T.heap.size :: .ref T.heap.size :: rest, locked := none }) rfl hsize rfl rfl (rest := rest) rfl
    (by rw [hb]; exact d6) (by rw [hb]; exact d9) (fun x hx => (hno x hx).elim) (by show 5 < R.frames; omega) (by show 2 * 0 + _ + 81 ≤ R.locals; simp only [List.map_cons, List.sum_cons, hcat]; omega) hlocks
  obtain ⟨f1, f2⟩ := vx_frame hsame
  rw [hhp] at f1 f2
  have hWs : s.WarmedH U.vm := State.WarmedH.trans hW0 hW
  have hcl : s.vm.findClass hy_nN = some ce.cls := by
    rw [hvm] at hcl0
    exact hcl0
  have hall : s.sameButNew ({ U with vm := s.vm } : State) [] mc ms := by
    subst hA
    obtain ⟨e1, e2⟩ := hsame
    rw [State.setFrames_setFrames] at e1
    have h2 : (T.setVm s.vm).sameButNew ({ U with vm := s.vm } : State) [] (0 + 1) (0 + 6) := ⟨e1, e2⟩
    have h3 := X.same.trans h2
    rw [List.append_nil] at h3
    exact h3.mono hc hs
  refine ⟨U, ?_, .threw T.heap.size, hrun, hend, Or.inr ⟨T.heap.size, rfl, hy_nN, ce, [], ⟨hP, f1, fun q hq _ => f2 q hq (fun z hz => nomatch hz)⟩, hce, hcv, hcl, hWs, hall, fun z hz => nomatch hz⟩⟩
  refine st1 _ ?_
  show Steps p.tables e below (T1.setTop { method := m, pc := pc + 3, locals := ls, stack := .ref T.heap.size :: rest, locked := none }) _
  jvm_step X₁.here [X₁.here.top, hx, d3', Value.category]
  exact X₁.ldcString hx (own := RX1) (text := text) (index := is) (a := sa) hown' hstr'.1 hstr'.2
    (g := { method := m, pc := pc + 4, locals := ls, stack := .ref T.heap.size :: .ref T.heap.size :: rest, locked := none }) rfl d4' _ hsteps
/-- a call of a reader that may throw: the throw goes on to the caller, else the heap is as it was -/
theorem hy_thru {Qa : State → Outcome → State → Prop} (hr : vx_Run p l e R s m args below meth c s.heap [] cells slots mc ms (F0 m pc ls st0) rest Qa (hy_X P) (fun _ => False)) (hQ : ∀ st v t, Qa st (.returned v) t → t.heap = st.heap)
    (hno : ∀ x ∈ c.exceptionTable.toList, False) (hlocks : meth.locks = false) (hP : ∀ E, P E → P9 E) (hc : cells + mc ≤ mc9) (hs : slots + ms ≤ ms9)
    (kk : ∀ v st t, Qa st (.returned v) t → W p l e R s m args below meth c s.heap [] (cells + mc) (slots + ms) (vx_MQ below Qc (hy_X P9) args s mc9 ms9 free) (F0 m (pc + 3) ls (v.toList ++ rest))) :
    W p l e R s m args below meth c s.heap [] cells slots (vx_MQ below Qc (hy_X P9) args s mc9 ms9 free) (F0 m pc ls st0) := by
  intro T hT X
  rcases hr T hT X with ⟨v, st₀, t, T', L, h0, X', hL, e1, e2, hq, st⟩ | ⟨q, st₀, t, T', L, E, ce, h0, X', hL, e1, e2, ⟨hPE, hF⟩, hce, hcv, hcl, st⟩
  · obtain ⟨t2, a1, b1⟩ := kk v st₀ t hq T' (by rw [e1, hQ _ _ _ hq, h0]) (Stand.forget X' (fun q h => (hL q h).elim))
    exact ⟨t2, st t2 a1, b1⟩
  · have hk := vx_out (p := p) (l := l) (e := e) (R := R) (s := s) (m := m) (args := args) (below := below) (meth := meth) (c := c) (H := T'.heap) (locs := []) (cells := cells + mc) (slots := slots + ms) (free := free) (ls := ls) (rest := rest) (Qc := Qc) (XC := hy_X P9) (pc := pc) (E := E) (ce := ce) (q := q) (mc := mc9) (ms := ms9)
      (fun x hx => (hno x hx).elim) hlocks (by rw [e1]; exact hce) hcv hcl (fun t9 ht9 _ => ⟨hP E hPE, by
        obtain ⟨f1, f2⟩ := hF
        rw [h0] at f1 f2
        exact ⟨by rw [ht9, e1]; exact f1, fun q hq hn => by rw [ht9, e1]; exact f2 q hq hn⟩⟩) (fun z hz => nomatch hz) hc hs
    obtain ⟨t2, a1, b1⟩ := hk T' rfl (Stand.forget X' (fun q h => (hL q h).elim))
    exact ⟨t2, st.trans a1, b1⟩
end HYX
