/-! EXCEPTIONS of the class: what a throw needs of the start, one row for 'throw new E("text")', one row for a call that may throw where the throw goes on to the caller. -/
abbrev hy_xs : List String := ["java/lang/RuntimeException", "java/lang/Exception"]
def hy_Es : List String := ["java/lang/IndexOutOfBoundsException", "java/lang/IllegalArgumentException", "java/lang/UnsupportedOperationException", "java/lang/IllegalStateException", "java/util/NoSuchElementException"]
def hy_strs : List (Nat × String) := [(38, "no such sort"), (43, "a row has 0 to 24 places"), (51, "300 rows were made"), (72, "the box holds no row of numbers"), (90, "no such kind"), (99, "60 combs were made"), (154, "no such box"), (157, "the box holds no row"), (159, "the box holds no row of combs"), (163, "no such place"), (170, "no such comb")]
def hy_E (U : State) : Prop := (∀ E ∈ hy_Es, va_Nw (.castable E E) U) ∧ (∀ Y ∈ (["java/lang/RuntimeException", "java/lang/Exception", "java/lang/Throwable"] : List String), va_Nw (.declares ⟨Y, "<init>", "(Ljava/lang/String;)V"⟩) U) ∧ ∀ q ∈ hy_strs, ∃ sa : Nat, vk_R RX1 q.1 q.2 sa U
theorem hy_E.warm {s U : State} (hW : s.WarmedH U.vm) (h : hy_E s) : hy_E U :=
  ⟨fun E hE => va_Nw.warmC hW (h.1 E hE), fun Y hY => va_Nw.warmD hW (h.2.1 Y hY), fun q hq => by obtain ⟨sa, h9⟩ := h.2.2 q hq; exact ⟨sa, vk_R.warm hW h9⟩⟩
theorem hy_E.same {u U : State} (hv : U.vm = u.vm) (h : hy_E u) : hy_E U :=
  ⟨fun E hE => va_Nw.same rfl hv.symm (h.1 E hE), fun Y hY => va_Nw.same rfl hv.symm (h.2.1 Y hY), fun q hq => by obtain ⟨sa, h9⟩ := h.2.2 q hq; exact ⟨sa, vk_R.same hv h9⟩⟩
def hy_Z (A : Nat → Prop) (U : State) (H : Heap) : Prop := vx_Zq Bundle.tN "UNASSIGNED_STACK" Bundle.steD A U H ∧ vx_Zq Bundle.tN "SUPPRESSED_SENTINEL" Bundle.listD A U H
theorem hy_Z.at {s U : State} {H : Heap} {locs : List Loc} {A : Nat → Prop} (h : hy_Z A s s.heap) (hS : va_S A s.heap H locs) (hA : ∀ q : Nat, s.heap.size ≤ q → A q) (hU : U.heap = H) (hW : s.WarmedH U.vm) : hy_Z (fun q => U.heap.size ≤ q) U U.heap := by
  have hn : ∀ q : Nat, U.heap.size ≤ q → A q := fun q hq => hA q (Nat.le_trans hS.1 (by rw [← hU]; exact hq))
  have e : U.heap = H := hU
  have h1 := vx_Zq.narrow (vx_Zq.moved hW.alike (h.1.kept hS.2.1)) hn
  have h2 := vx_Zq.narrow (vx_Zq.moved hW.alike (h.2.kept hS.2.1)) hn
  rw [← e] at h1 h2
  exact ⟨h1, h2⟩
theorem hy_Z.same {A : Nat → Prop} {u U : State} {H : Heap} (hv : U.vm = u.vm) (h : hy_Z A u H) : hy_Z A U H :=
  ⟨vx_Zq.moved (by rw [hv]; exact Vm.Alike.refl u.vm) h.1, vx_Zq.moved (by rw [hv]; exact Vm.Alike.refl u.vm) h.2⟩
/-- what stands behind a throw of the class: which exception, and that no cell that was there has changed -/
def hy_X (P : String → Prop) : String → State → State → Prop := fun E st t => P E ∧ va_F (fun q => st.heap.size ≤ q) st t
section HYX
variable {p : Program} {l : Launch} {e : Env} {R : Room} {s : State} {m : MethodId} {args : Array Value} {below : List Frame} {meth : Method} {c : Code} {cells slots : Nat}
variable {mc ms mc9 ms9 : Nat} {free : Addr → Prop} {pc : Nat} {ls : Array Slot} {st0 rest : List Value} {Qc : Array Value → State → Outcome → State → Prop} {P P9 : String → Prop} {cc : ByteArray} {Ts : List Cond}
theorem hy_throw (hx : p.tables.exec = Jvm.exec) (hb : c.code = cc) (hl9 : l.stackTraces = false) {cls text : String} {ik is ic : Nat} (hts : ∀ w ∈ Ts, w.before args s = true)
    (hown : s.vm.findClass RX1 = some m.cls) (hE : hy_E s) (hZ : hy_Z (fun q => s.heap.size ≤ q) s s.heap) (hcls : cls ∈ hy_Es) (hstr : (is, text) ∈ hy_strs)
    (hk : Cond.classLink RX1 ik cls ∈ Ts) (hini : Cond.initialized cls ∈ Ts) (hat : ∀ w ∈ (vx_atS RX1 ic cls hy_xs).filter goodWord, w ∈ Ts) (hat2 : ∀ w ∈ (vx_atS RX1 ic cls hy_xs).filter (fun w => !goodWord w), w ∈ ([.castable cls cls, .declares ⟨"java/lang/RuntimeException", "<init>", "(Ljava/lang/String;)V"⟩, .declares ⟨"java/lang/Exception", "<init>", "(Ljava/lang/String;)V"⟩, .declares ⟨"java/lang/Throwable", "<init>", "(Ljava/lang/String;)V"⟩] : List Cond))
    (hgood : ∀ w ∈ Cond.classLink RX1 ik cls :: Cond.initialized cls :: vx_atS RX1 ic cls hy_xs, vx_ot w = true) (hsize : ls.size = c.maxLocals)
    (d0 : decode cc pc = .ok (.new ik, 3)) (d3 : decode cc (pc + 3) = .ok (.dup, 1)) (d4 : decode cc (pc + 4) = .ok (.ldc is, 2)) (d6 : decode cc (pc + 6) = .ok (.invokespecial ic, 3)) (d9 : decode cc (pc + 9) = .ok (.athrow, 1))
    (hno : ∀ x ∈ c.exceptionTable.toList, False) (hlocks : meth.locks = false) (hR : 6 ≤ R.frames ∧ 90 ≤ R.locals) (hr8 : (rest.map fun v => v.category).sum ≤ 8) (hcr : cells + 1 ≤ R.cells) (hsr : slots + 6 ≤ R.slots) (hc : cells + 1 ≤ mc) (hs : slots + 6 ≤ ms) (hP : P cls) :
    W p l e R s m args below meth c s.heap [] cells slots (vx_MQ below Qc (hy_X P) args s mc ms free) (F0 m pc ls rest) := by
  obtain ⟨sa, hsa⟩ := hE.2.2 _ hstr
  have hfit : Bundle.fit cls = true := by
    simp only [hy_Es, List.mem_cons, List.not_mem_nil, or_false] at hcls
    rcases hcls with h | h | h | h | h <;> (rw [h]; decide +kernel)
  refine vx_throwS hx hb hl9 (names := hy_xs) (text := text) (sa := sa) (A := fun q => s.heap.size ≤ q) hown hfit (by decide +kernel) (hts _ hk) (hts _ hini) hsa
    (vx_hat (fun w hw => hts w (hat w hw)) hat2 (vx_c (va_Nw.use rfl (hE.1 cls hcls)) (vx_c (va_Nw.use rfl (hE.2.1 _ List.mem_cons_self)) (vx_c (va_Nw.use rfl (hE.2.1 _ (List.mem_cons_of_mem _ List.mem_cons_self))) (vx_c (va_Nw.use rfl (hE.2.1 _ (List.mem_cons_of_mem _ (List.mem_cons_of_mem _ List.mem_cons_self)))) vx_n)))))
    hgood hZ.1 hZ.2 va_S.rf hsize d0 d3 d4 d6 d9 (fun x hx => (hno x hx).elim) ?_ ?_ hcr hsr hlocks (fun t _ h1 h2 => ⟨hP, h1, fun q hq _ => h2 q hq⟩) (fun z hz => nomatch hz) hc hs
  · show 2 + 3 < R.frames
    omega
  · show _ + (13 * (2 + 1) + 43) ≤ R.locals
    omega
/-- a call of a reader that may throw: the throw goes on to the caller, else the heap is as it was -/
theorem hy_thru {Qa : State → Outcome → State → Prop} (hr : vx_Run p l e R s m args below meth c s.heap [] cells slots mc ms (F0 m pc ls st0) rest Qa (hy_X P) (fun _ => False)) (hQ : ∀ st v t, Qa st (.returned v) t → t.heap = st.heap)
    (hno : ∀ x ∈ c.exceptionTable.toList, False) (hlocks : meth.locks = false) (hP : ∀ E, P E → P9 E) (hc : cells + mc ≤ mc9) (hs : slots + ms ≤ ms9)
    (kk : ∀ v st t, Qa st (.returned v) t → W p l e R s m args below meth c s.heap [] (cells + mc) (slots + ms) (vx_MQ below Qc (hy_X P9) args s mc9 ms9 free) (F0 m (pc + 3) ls (v.toList ++ rest))) :
    W p l e R s m args below meth c s.heap [] cells slots (vx_MQ below Qc (hy_X P9) args s mc9 ms9 free) (F0 m pc ls st0) := by
  intro T hT X
  rcases hr T hT X with ⟨v, st₀, t, T', L, h0, X', hL, e1, e2, hq, st⟩ | ⟨q, st₀, t, T', L, E, ce, h0, X', hL, e1, e2, ⟨hPE, hF⟩, hce, hcv, hcl, st⟩
  · obtain ⟨t2, a1, b1⟩ := kk v st₀ t hq T' (by rw [e1, hQ _ _ _ hq, h0]) (Stand.forget X' (fun q h => (hL q h).elim))
    exact ⟨t2, st t2 a1, b1⟩
  · have hk := vx_out (p := p) (l := l) (e := e) (R := R) (s := s) (m := m) (args := args) (below := below) (meth := meth) (c := c) (H := T'.heap) (locs := []) (cells := cells + mc) (slots := slots + ms) (free := free) (ls := ls) (rest := rest) (Qc := Qc) (XC := hy_X P9) (pc := pc) (E := E) (ce := ce) (q := q) (mc := mc9) (ms := ms9)
      (fun x hx => (hno x hx).elim) hlocks (by rw [e1]; exact hce) hcv hcl (fun t9 ht9 _ => ⟨hP E hPE, by
        obtain ⟨f1, f2⟩ := hF
        rw [h0] at f1 f2
        exact ⟨by rw [ht9, e1]; exact f1, fun q hq hn => by rw [ht9, e1]; exact f2 q hq hn⟩⟩) (fun z hz => nomatch hz) hc hs
    obtain ⟨t2, a1, b1⟩ := hk T' rfl (Stand.forget X' (fun q h => (hL q h).elim))
    exact ⟨t2, st.trans a1, b1⟩
end HYX
