section
-- ===== PART A: goes FIRST, ahead of the names: the tables' words, and 'selects' of the private methods out of them =====
/-- a private method of a class that the tables say can be made, by its rows of tables_1 -/
def lw_okq (q : MethodName × Nat) : Prop := (q.1.cls ≠ "java/lang/invoke/MethodHandle" ∧ q.1.cls ≠ "java/lang/invoke/VarHandle") ∧ Cond.instantiable q.1.cls q.2 ∈ tables_1 ∧ Cond.privateMethod q.1 ∈ tables_1 ∧ Cond.instanceMethod q.1 ∈ tables_1
theorem lw_p0 : lw_okq (⟨"HiveYard", "countOfEnd", "(I)I"⟩, 10) := ⟨⟨by decide +kernel, by decide +kernel⟩, List.mem_of_getElem? (i := 15) (by decide +kernel), List.mem_of_getElem? (i := 80) (by decide +kernel), List.mem_of_getElem? (i := 81) (by decide +kernel)⟩
theorem lw_p1 : lw_okq (⟨"HiveYard", "contentOf", "(I)LHiveYard$Content;"⟩, 10) := ⟨⟨by decide +kernel, by decide +kernel⟩, List.mem_of_getElem? (i := 15) (by decide +kernel), List.mem_of_getElem? (i := 94) (by decide +kernel), List.mem_of_getElem? (i := 95) (by decide +kernel)⟩
theorem lw_p2 : lw_okq (⟨"java/lang/Throwable", "fillInStackTrace", "(I)Ljava/lang/Throwable;"⟩, 6) := ⟨⟨by decide +kernel, by decide +kernel⟩, List.mem_of_getElem? (i := 141) (by decide +kernel), List.mem_of_getElem? (i := 139) (by decide +kernel), List.mem_of_getElem? (i := 140) (by decide +kernel)⟩
theorem lw_p3 : lw_okq (⟨"HiveYard", "carry", "(LHiveYard$Content;ILHiveYard$Content;II)I"⟩, 10) := ⟨⟨by decide +kernel, by decide +kernel⟩, List.mem_of_getElem? (i := 15) (by decide +kernel), List.mem_of_getElem? (i := 318) (by decide +kernel), List.mem_of_getElem? (i := 319) (by decide +kernel)⟩
theorem lw_p4 : lw_okq (⟨"HiveYard", "ended", "(II)I"⟩, 10) := ⟨⟨by decide +kernel, by decide +kernel⟩, List.mem_of_getElem? (i := 15) (by decide +kernel), List.mem_of_getElem? (i := 322) (by decide +kernel), List.mem_of_getElem? (i := 323) (by decide +kernel)⟩
theorem lw_p5 : lw_okq (⟨"HiveYard", "howManyFit", "(LHiveYard$Content;ILHiveYard$Content;I)I"⟩, 10) := ⟨⟨by decide +kernel, by decide +kernel⟩, List.mem_of_getElem? (i := 15) (by decide +kernel), List.mem_of_getElem? (i := 332) (by decide +kernel), List.mem_of_getElem? (i := 333) (by decide +kernel)⟩
theorem lw_p6 : lw_okq (⟨"HiveYard", "isComb", "(J)Z"⟩, 10) := ⟨⟨by decide +kernel, by decide +kernel⟩, List.mem_of_getElem? (i := 15) (by decide +kernel), List.mem_of_getElem? (i := 336) (by decide +kernel), List.mem_of_getElem? (i := 337) (by decide +kernel)⟩
theorem lw_p7 : lw_okq (⟨"HiveYard", "sumOfWeights", "([J)J"⟩, 10) := ⟨⟨by decide +kernel, by decide +kernel⟩, List.mem_of_getElem? (i := 15) (by decide +kernel), List.mem_of_getElem? (i := 395) (by decide +kernel), List.mem_of_getElem? (i := 396) (by decide +kernel)⟩
theorem lw_p8 : lw_okq (⟨"HiveYard", "requireComb", "(I)V"⟩, 10) := ⟨⟨by decide +kernel, by decide +kernel⟩, List.mem_of_getElem? (i := 15) (by decide +kernel), List.mem_of_getElem? (i := 409) (by decide +kernel), List.mem_of_getElem? (i := 410) (by decide +kernel)⟩
theorem lw_p9 : lw_okq (⟨"HiveYardModel", "fail", "(I)I"⟩, 14) := ⟨⟨by decide +kernel, by decide +kernel⟩, List.mem_of_getElem? (i := 421) (by decide +kernel), List.mem_of_getElem? (i := 481) (by decide +kernel), List.mem_of_getElem? (i := 482) (by decide +kernel)⟩
theorem lw_p10 : lw_okq (⟨"HiveYardModel", "what", "(I)I"⟩, 14) := ⟨⟨by decide +kernel, by decide +kernel⟩, List.mem_of_getElem? (i := 421) (by decide +kernel), List.mem_of_getElem? (i := 501) (by decide +kernel), List.mem_of_getElem? (i := 502) (by decide +kernel)⟩
theorem lw_p11 : lw_okq (⟨"HiveYardModel", "barred", "(IIZI)I"⟩, 14) := ⟨⟨by decide +kernel, by decide +kernel⟩, List.mem_of_getElem? (i := 421) (by decide +kernel), List.mem_of_getElem? (i := 509) (by decide +kernel), List.mem_of_getElem? (i := 510) (by decide +kernel)⟩
theorem lw_p12 : lw_okq (⟨"HiveYardModel", "hasRow", "(I)Z"⟩, 14) := ⟨⟨by decide +kernel, by decide +kernel⟩, List.mem_of_getElem? (i := 421) (by decide +kernel), List.mem_of_getElem? (i := 513) (by decide +kernel), List.mem_of_getElem? (i := 514) (by decide +kernel)⟩
theorem lw_p13 : lw_okq (⟨"HiveYardModel", "isPlace", "(II)Z"⟩, 14) := ⟨⟨by decide +kernel, by decide +kernel⟩, List.mem_of_getElem? (i := 421) (by decide +kernel), List.mem_of_getElem? (i := 517) (by decide +kernel), List.mem_of_getElem? (i := 518) (by decide +kernel)⟩
theorem lw_p14 : lw_okq (⟨"HiveYardModel", "goes", "(IIIII)I"⟩, 14) := ⟨⟨by decide +kernel, by decide +kernel⟩, List.mem_of_getElem? (i := 421) (by decide +kernel), List.mem_of_getElem? (i := 539) (by decide +kernel), List.mem_of_getElem? (i := 540) (by decide +kernel)⟩
theorem lw_p15 : lw_okq (⟨"HiveYardModel", "bars", "(IIIII)I"⟩, 14) := ⟨⟨by decide +kernel, by decide +kernel⟩, List.mem_of_getElem? (i := 421) (by decide +kernel), List.mem_of_getElem? (i := 543) (by decide +kernel), List.mem_of_getElem? (i := 544) (by decide +kernel)⟩
def lw_privs_1 : List (MethodName × Nat) := [(⟨"HiveYard", "countOfEnd", "(I)I"⟩, 10), (⟨"HiveYard", "contentOf", "(I)LHiveYard$Content;"⟩, 10), (⟨"java/lang/Throwable", "fillInStackTrace", "(I)Ljava/lang/Throwable;"⟩, 6), (⟨"HiveYard", "carry", "(LHiveYard$Content;ILHiveYard$Content;II)I"⟩, 10), (⟨"HiveYard", "ended", "(II)I"⟩, 10), (⟨"HiveYard", "howManyFit", "(LHiveYard$Content;ILHiveYard$Content;I)I"⟩, 10), (⟨"HiveYard", "isComb", "(J)Z"⟩, 10), (⟨"HiveYard", "sumOfWeights", "([J)J"⟩, 10), (⟨"HiveYard", "requireComb", "(I)V"⟩, 10), (⟨"HiveYardModel", "fail", "(I)I"⟩, 14), (⟨"HiveYardModel", "what", "(I)I"⟩, 14), (⟨"HiveYardModel", "barred", "(IIZI)I"⟩, 14), (⟨"HiveYardModel", "hasRow", "(I)Z"⟩, 14), (⟨"HiveYardModel", "isPlace", "(II)Z"⟩, 14), (⟨"HiveYardModel", "goes", "(IIIII)I"⟩, 14), (⟨"HiveYardModel", "bars", "(IIIII)I"⟩, 14)]
theorem lw_r1 : ∀ q ∈ lw_privs_1, lw_okq q := List.forall_mem_cons.mpr ⟨lw_p0, List.forall_mem_cons.mpr ⟨lw_p1, List.forall_mem_cons.mpr ⟨lw_p2, List.forall_mem_cons.mpr ⟨lw_p3, List.forall_mem_cons.mpr ⟨lw_p4, List.forall_mem_cons.mpr ⟨lw_p5, List.forall_mem_cons.mpr ⟨lw_p6, List.forall_mem_cons.mpr ⟨lw_p7, List.forall_mem_cons.mpr ⟨lw_p8, List.forall_mem_cons.mpr ⟨lw_p9, List.forall_mem_cons.mpr ⟨lw_p10, List.forall_mem_cons.mpr ⟨lw_p11, List.forall_mem_cons.mpr ⟨lw_p12, List.forall_mem_cons.mpr ⟨lw_p13, List.forall_mem_cons.mpr ⟨lw_p14, List.forall_mem_cons.mpr ⟨lw_p15, fun _ h => absurd h List.not_mem_nil⟩⟩⟩⟩⟩⟩⟩⟩⟩⟩⟩⟩⟩⟩⟩⟩
theorem lw_p16 : lw_okq (⟨"HiveYardModel", "told", "(I)I"⟩, 14) := ⟨⟨by decide +kernel, by decide +kernel⟩, List.mem_of_getElem? (i := 421) (by decide +kernel), List.mem_of_getElem? (i := 550) (by decide +kernel), List.mem_of_getElem? (i := 551) (by decide +kernel)⟩
theorem lw_p17 : lw_okq (⟨"HiveYardModel", "isComb", "(I)Z"⟩, 14) := ⟨⟨by decide +kernel, by decide +kernel⟩, List.mem_of_getElem? (i := 421) (by decide +kernel), List.mem_of_getElem? (i := 586) (by decide +kernel), List.mem_of_getElem? (i := 587) (by decide +kernel)⟩
def lw_privs_2 : List (MethodName × Nat) := [(⟨"HiveYardModel", "told", "(I)I"⟩, 14), (⟨"HiveYardModel", "isComb", "(I)Z"⟩, 14)]
theorem lw_r2 : ∀ q ∈ lw_privs_2, lw_okq q := List.forall_mem_cons.mpr ⟨lw_p16, List.forall_mem_cons.mpr ⟨lw_p17, fun _ h => absurd h List.not_mem_nil⟩⟩
def lw_privs : List (MethodName × Nat) := lw_privs_1 ++ (lw_privs_2)
def lw_tbl : List Cond := k2_sels lw_privs ++ tables_1
theorem lw_privs_ok : ∀ q ∈ lw_privs, lw_okq q := by
  show ∀ q ∈ lw_privs_1 ++ (lw_privs_2), lw_okq q
  exact List.forall_mem_append.mpr ⟨lw_r1, lw_r2⟩
/-! THE CLAIM OUT OF ONE WALK OF THE LAW'S BODY. Your part is whole_start (and what it stands on); all else here is the same for every law, but numbers. -/
def R_law : String := "HiveYardLaw"
def lw_P (b : Addr) (xs : List Int32) (args : Array Value) (s : State) : Prop := args = #[.ref b] ∧ s.IntsAt b xs ∧ xs.length ≤ 3072 ∧ (Jvm.Cond.and given_1 narrow_1).before args s = true
def lw_Q (_ : Array Value) (s : State) (o : Outcome) (t : State) : Prop := o = .returned (some (.int 1)) ∧ Framed s o t [] 601024 7293034
def lw_Z (below : List Frame) (a : Array Value) (s : State) : State → Prop := fun t => ∃ o, t.status = .running ∧ Ended t below o ∧ lw_Q a s o t
/-- the law's own end, with 1 on the stack, nothing written that was there before, its room as the claim has it -/
theorem lw_ret {p : Program} {l : Launch} {e : Env} {s : State} {m : MethodId} {below : List Frame} {meth : Method} {c : Code} {b : Nat} (hx : p.tables.exec = Jvm.exec) (hb : c.code = code) (hr : meth.sig.returnType = ret) (hlocks : meth.locks = false) {pc : Nat} {H : Heap} {ls : Array Slot} (hdg : decode code pc = .ok (.ireturn, 1)) : W p l e room_1 s m #[Value.ref b] below meth c H [] 601024 7293034 (lw_Z below #[Value.ref b] s) (F0 m pc ls [.int 1]) := by
  intro T hT X
  obtain ⟨fs, hret, hrun, hended, hW, hframe⟩ := X.leave (v := some (.int 1)) (hlocks := hlocks) (fun h => by rw [hr] at h; cases h)
  have hmeth' : T.vm.method? m = some meth := X.method'
  refine ⟨T.setFrames fs, ?_, .returned (some (.int 1)), hrun, hended, rfl, ⟨_, rfl⟩, hW, hframe⟩
  jvm_step X.here [X.here.top, hx, hb, hdg, hmeth', hr, ret, narrow_b1]
  (try refine ⟨rfl, ?_⟩); (try refine ⟨rfl, ?_⟩)
  first | (intro acts; rw [hret _ acts rfl rfl rfl]) | rw [hret _ _ rfl rfl rfl]
  exact Steps.refl _
/-- what holds at the law's entry: the machine, the code, the tables' words (any of lw_tbl by 'hts w (by decide +kernel)'), the script of L ints xs at the cell b, what the Statement gives of the start (any of its parts by flat_of_before) -/
def lw_At (p : Program) (s : State) (m : MethodId) (meth : Method) (c : Code) (b L : Nat) (xs : Nat → Int32) : Prop :=
  p.tables.exec = Jvm.exec ∧ c.code = code ∧ meth.sig.returnType = ret ∧ c.maxLocals = 8 ∧ s.vm.findClass R_law = some m.cls ∧ (∀ w ∈ lw_tbl, w.before #[Value.ref b] s = true) ∧ va_X b L xs s s.heap ∧ b < s.heap.size ∧ meth.locks = false ∧ (Jvm.Cond.and given_1 narrow_1).before #[Value.ref b] s = true
end
section
/-! A throw that is caught by a row of the method's own table, behind rows that don't take it: out of the machine's own search (findHandler). -/
theorem hy_goTake {e : Env} {s : State} {f : JFrame} {a : Addr} {x : ExceptionTableEntry} {t : List ExceptionTableEntry} {c : ClassId} {cell : Cell} (hx : covers x f.pc = true) (h0 : x.catchType ≠ 0)
    (hl : s.vm.ClassLinks e.platform f.method.cls x.catchType c) (hcell : s.heap[a]? = some cell) (hobj : ∀ k, cell.vm ≠ .statics k)
    (hk : ∃ k, s.vm.classes[cell.cls]? = some k) (hc : ∃ k, s.vm.classes[c]? = some k) {Q : Handler → Pre} {E : CtlPost} {d : Bool} {acts : List Action} :
    wp (findHandler.go f a (x :: t)) Q E e d acts s ↔ if s.vm.assignable cell.cls c = true then Q (.found x.handlerPc) d acts (s.setVm (s.vm.noted f.method.cls x.catchType (.cls c))) else wp (findHandler.go f a t) Q E e d acts (s.setVm (s.vm.noted f.method.cls x.catchType (.cls c))) := by
  simp only [covers] at hx
  obtain ⟨ha, ht⟩ := (resolveClass_links e.toSetting hl).op (op := VmOp.resolveClass f.method.cls x.catchType) rfl
  have hal : s.vm.Alike (s.vm.noted f.method.cls x.catchType (.cls c)) := (Vm.Alike.refl s.vm).noted _ _ _
  obtain ⟨k1, hk1⟩ := hk
  obtain ⟨k2, hk2⟩ := hc
  obtain ⟨k1', hk1', -⟩ := hal.2.2 _ _ hk1
  obtain ⟨k2', hk2', -⟩ := hal.2.2 _ _ hk2
  have has : (s.vm.noted f.method.cls x.catchType (.cls c)).assignable cell.cls c = s.vm.assignable cell.cls c := hal.assignable _ _
  cases hq : s.vm.assignable cell.cls c with
  | true =>
    rw [hq] at has
    simp [findHandler.go, hx, h0, ha, ht, hcell, hobj, hk1', hk2', has, VmOp.dirties, VmOp.acts]
  | false =>
    rw [hq] at has
    simp [findHandler.go, hx, h0, ha, ht, hcell, hobj, hk1', hk2', has, VmOp.dirties, VmOp.acts]
theorem hy_goFinds {e : Env} {s₀ : State} {f : JFrame} {a : Addr} {cell : Cell} (hobj : ∀ k, cell.vm ≠ .statics k) (hk0 : ∃ k, s₀.vm.classes[cell.cls]? = some k)
    (x : ExceptionTableEntry) (rest : List ExceptionTableEntry) (hx : covers x f.pc = true) (h0 : x.catchType ≠ 0) {ct : ClassId} (hl : s₀.vm.ClassLinks e.platform f.method.cls x.catchType ct) (hfit : s₀.vm.assignable cell.cls ct = true) :
    ∀ (pre : List ExceptionTableEntry) (S : State), s₀.WarmedH S.vm → S.heap[a]? = some cell → (∀ y ∈ pre, covers y f.pc = false ∨ (y.catchType ≠ 0 ∧ ∃ c, s₀.vm.ClassLinks e.platform f.method.cls y.catchType c ∧ s₀.vm.assignable cell.cls c = false)) →
      ∃ vm', s₀.WarmedH vm' ∧ ∀ (Q : Handler → Pre) (E : CtlPost) (d : Bool) (acts : List Action), wp (findHandler.go f a (pre ++ x :: rest)) Q E e d acts S ↔ Q (.found x.handlerPc) d acts (S.setVm vm') := by
  obtain ⟨k0, hk0⟩ := hk0
  intro pre
  induction pre with
  | nil =>
    intro S hW hcell _
    obtain ⟨k0', hk0', -⟩ := hW.alike.2.2 _ _ hk0
    obtain ⟨dk, _, _, kt, hd, _, _, _, _, hkt, _, hopen⟩ := hl.here
    obtain ⟨kt', hkt', -⟩ := hW.alike.2.2 _ _ hkt
    refine ⟨_, hW.noted hd hopen (State.rightAt_cls hl), fun Q E d acts => ?_⟩
    rw [List.nil_append, hy_goTake hx h0 (hW.classLinks hl) hcell hobj ⟨k0', hk0'⟩ ⟨kt', hkt'⟩, if_pos (by rw [hW.alike.assignable]; exact hfit)]
  | cons y ys ih =>
    intro S hW hcell hpass
    obtain ⟨k0', hk0', -⟩ := hW.alike.2.2 _ _ hk0
    by_cases hcov : covers y f.pc = true
    · rcases hpass y List.mem_cons_self with h | ⟨h1, c, hl1, hno⟩
      · rw [h] at hcov; cases hcov
      · obtain ⟨dk, _, _, kt, hd, _, _, _, _, hkt, _, hopen⟩ := hl1.here
        obtain ⟨kt', hkt', -⟩ := hW.alike.2.2 _ _ hkt
        obtain ⟨vm', hW', hq⟩ := ih (S.setVm (S.vm.noted f.method.cls y.catchType (.cls c))) (hW.noted hd hopen (State.rightAt_cls hl1)) hcell (fun z hz => hpass z (List.mem_cons_of_mem _ hz))
        refine ⟨vm', hW', fun Q E d acts => ?_⟩
        rw [List.cons_append, hy_goTake hcov h1 (hW.classLinks hl1) hcell hobj ⟨k0', hk0'⟩ ⟨kt', hkt'⟩, if_neg (by rw [hW.alike.assignable, hno]; decide)]
        exact hq Q E d acts
    · obtain ⟨vm', hW', hq⟩ := ih S hW hcell (fun z hz => hpass z (List.mem_cons_of_mem _ hz))
      refine ⟨vm', hW', fun Q E d acts => ?_⟩
      rw [List.cons_append, Jvm.W.findHandler_go_skip (by simpa using hcov)]
      exact hq Q E d acts
section HYC
variable {p : Program} {l : Launch} {e : Env} {R : Room} {s : State} {m : MethodId} {args : Array Value} {below : List Frame} {meth : Method} {c : Code} {T : State} {locs : List Loc} {cells slots : Nat}
theorem hy_caught (X : Stand p l e R s m args below meth c T locs cells slots) (a : Addr) {g : JFrame} (hg : g.method = m)
    {cell : Cell} (hcell : T.heap[a]? = some cell) (hobj : cell.vm.isStatics = false) (hk0 : ∃ k, s.vm.classes[cell.cls]? = some k)
    (pre : List ExceptionTableEntry) (x : ExceptionTableEntry) (rest : List ExceptionTableEntry) (hsplit : c.exceptionTable.toList = pre ++ x :: rest)
    (hpass : ∀ y ∈ pre, covers y g.pc = false ∨ (y.catchType ≠ 0 ∧ ∃ c, s.vm.ClassLinks e.platform m.cls y.catchType c ∧ s.vm.assignable cell.cls c = false)) (hx : covers x g.pc = true) (h0 : x.catchType ≠ 0)
    {ct : ClassId} (hl : s.vm.ClassLinks e.platform m.cls x.catchType ct) (hfit : s.vm.assignable cell.cls ct = true) :
    ∃ vm', Stand p l e R s m args below meth c (T.setVm vm') locs cells slots ∧ Steps p.tables e below ((T.setTop g).pushFrame (.throwing a)) ((T.setVm vm').setTop { g with pc := x.handlerPc, stack := [.ref a] }) := by
  subst hg
  obtain ⟨vm', hW', hq⟩ := hy_goFinds (e := e) (f := g) (a := a) (VmData.ne_statics_of hobj) hk0 x rest hx h0 hl hfit pre ((T.setTop g).pushFrame (.throwing a)) X.warmed hcell hpass
  refine ⟨vm', X.noted hW', ?_⟩
  have h := X.here
  obtain ⟨hgo, hw⟩ := h.throwing a
  refine Steps.head hgo hw ?_
  have hfind : ∀ (Q : Handler → Pre) (E : CtlPost) (d : Bool) (acts : List Action), wp (findHandler g a) Q E e d acts ((T.setTop g).pushFrame (.throwing a)) ↔ Q (.found x.handlerPc) d acts (((T.setTop g).pushFrame (.throwing a)).setVm vm') := fun Q E d acts => by
    rw [Jvm.W.findHandler_eq (s := (T.setTop g).pushFrame (.throwing a)) (meth := meth) (code := c) X.method' X.code, hsplit]
    exact hq Q E d acts
  have hstep : (stepThrowing e ((T.setTop g).pushFrame (.throwing a)) a (.java g :: T.frames.tail)).1 = (((T.setTop g).pushFrame (.throwing a)).setVm vm').setFrames (.java { g with pc := x.handlerPc, stack := [.ref a] } :: T.frames.tail) := by
    simp only [stepThrowing, searchFrame, vmDo]
    generalize hr : Sem.go _ e false [] ((T.setTop g).pushFrame (.throwing a)) = res
    obtain ⟨as, rfl, ha⟩ := Sem.eq_ok_of hr (a := Handler.found x.handlerPc) (s' := ((T.setTop g).pushFrame (.throwing a)).setVm vm') (acts' := []) (by simp [hfind _ _ _ _])
    rfl
  rw [stepThread_throwing (frames_entered h.top _), hstep]
  obtain ⟨g₀, hg⟩ := Option.isSome_iff_exists.mp h.top
  obtain ⟨r, hr⟩ := State.topJava?_eq_some.mp hg
  have hr' : (T.setVm vm').frames = .java g₀ :: r := hr
  have e1 : ∀ (u : State) (F G : List Frame), ((u.setFrames F).setVm vm').setFrames G = (u.setVm vm').setFrames G := by
    intro u F G
    have h1 : (u.setFrames F).setVm vm' = (u.setVm vm').setFrames F := rfl
    rw [h1, State.setFrames_setFrames]
  rw [State.setTop_of_frames _ hr', hr, List.tail_cons, State.pushFrame, e1, State.setTop_of_frames _ hr, e1]
  exact Steps.refl _
end HYC
end
section
/-! ===== BEGIN words of one list among another's, by their places ===== -/
theorem goodIn_r {big : List Cond} (ws : List Cond) (ps : List Nat) (hp : ws = ps.filterMap (fun i => big[i]?)) (h : ws.all goodWord = true) : GoodIn big ws := by
  intro w hw
  have h1 := List.all_eq_true.mp h w hw
  rw [hp] at hw
  obtain ⟨i, -, hi⟩ := List.mem_filterMap.mp hw
  have hm : w ∈ big := by first | exact List.mem_of_getElem? hi | exact List.getElem?_mem hi
  exact ⟨hm, good_of_word h1⟩
theorem goodIn_app {big a b : List Cond} (ha : GoodIn big a) (hb : GoodIn big b) : GoodIn big (a ++ b) := fun w h => (List.mem_append.mp h).elim (ha w) (hb w)
theorem goodIn_ca {big a b : List Cond} {c : Cond} (ha : GoodIn big (c :: a)) (hb : GoodIn big b) : GoodIn big (c :: (a ++ b)) := fun w h => (List.mem_cons.mp h).elim (fun e => ha w (List.mem_cons.mpr (Or.inl e))) (fun h => (List.mem_append.mp h).elim (fun h => ha w (List.mem_cons.mpr (Or.inr h))) (hb w))
theorem goodIn_sub {big ws : List Cond} (hm : ∀ w ∈ ws, w ∈ big) (h : ws.all goodWord = true) : GoodIn big ws := fun w hw => ⟨hm w hw, good_of_word (List.all_eq_true.mp h w hw)⟩
/-! ===== END ===== -/

/-! ===== BEGIN exceptions that leave a method, and their catching by the caller (launches without stack traces) ===== -/
section VXA
/-! The laws vx_back, vx_callV, vx_callS, vx_callSW, vx_throw0, vx_throwS follow proofs of the library, with one case more: JvmDerived/Free/Laws.lean (Back.of_free), Shelf42/LK1.lean (callV, callS), Shelf/KitTraced.lean (throwNew0V, throwNewS). -/
/-- where a method has thrown q: the class by its name, the cell, what was written, the world -/
def vx_T (XC : String → State → State → Prop) (st : State) (q : Addr) (t : State) (mc ms : Nat) (free : Addr → Prop) : Prop :=
  ∃ (E : String) (ce : Cell) (L : List Loc), XC E st t ∧ t.heap[q]? = some ce ∧ ce.vm = .none ∧ st.vm.findClass E = some ce.cls ∧ st.WarmedH t.vm ∧ st.sameButNew ({ t with vm := st.vm } : State) L mc ms ∧ ∀ z ∈ L, free z.base
def vx_Q (Qc : Array Value → State → Outcome → State → Prop) (XC : String → State → State → Prop) (mc ms : Nat) (free : Addr → Prop) : Array Value → State → Outcome → State → Prop := fun a st o t =>
  (Qc a st o t ∧ ∃ L, FrameEnd st o t L mc ms ∧ ∀ q ∈ L, free q.base) ∨ ∃ q, o = .threw q ∧ vx_T XC st q t mc ms free
/-- a callee that returns or throws -/
def vx_Met (l : Launch) (y : MethodName) (ws : List Cond) (rm : Room) (Pc : Array Value → State → Prop) (Qc : Array Value → State → Outcome → State → Prop) (XC : String → State → State → Prop) (mc ms : Nat) (free : Addr → Prop) : Prop :=
  MetFree l y (headSpec ws rm) Pc (fun _ _ _ _ _ => True) (vx_Q Qc XC mc ms free)
def vx_Post (XC : String → State → State → Prop) (mc ms : Nat) (free : Addr → Prop) : Pt → Array Value → Addr → Pt → Prop := fun A a q B =>
  ∃ (g : JFrame) (mk : MethodId) (t : State) (L : List Loc) (E : String) (ce : Cell), B.U.heap = t.heap ∧ B.U.vm = t.vm ∧ XC E (A.U.calling g mk a) t ∧ t.heap[q]? = some ce ∧ ce.vm = .none ∧ A.U.vm.findClass E = some ce.cls ∧ B.locs = A.locs ++ L ∧ (∀ z ∈ L, free z.base) ∧ B.cells = A.cells + mc ∧ B.slots = A.slots + ms
def vx_Back (l : Launch) (R : Room) (p : Program) (e : Env) (below : List Frame) (s : State) (sargs : Array Value) (y : MethodName) (len W9 : Nat)
    (Pre : Pt → Array Value → Prop) (Post : Pt → Array Value → Option Value → Pt → Prop) (PostX : Pt → Array Value → Addr → Pt → Prop) : Prop :=
  ∀ (m : MethodId) (meth : Method) (c : Code) (A : Pt) (g : JFrame) (ig : Instr) (mk : MethodId) (a : Array Value),
    Stand p l e R s m sargs below meth c A.U A.locs A.cells A.slots → g.method = m → g.locals.size = c.maxLocals → decode c.code g.pc = .ok (ig, len) →
    2 * g.monitorRoom + (g.stack.map fun v => v.category).sum ≤ W9 → A.U.methodNamed? y = some mk → Pre A a →
    (∃ (v : Option Value) (B : Pt), Stand p l e R s m sargs below meth c B.U B.locs B.cells B.slots ∧ Post A a v B ∧
      Steps p.tables e below (doInvoke e (A.U.setTop g) [] mk a).1 (B.U.setTop { g with pc := g.pc + len, stack := v.toList ++ g.stack })) ∨
    (∃ (q : Addr) (B : Pt), Stand p l e R s m sargs below meth c B.U B.locs B.cells B.slots ∧ PostX A a q B ∧
      Steps p.tables e below (doInvoke e (A.U.setTop g) [] mk a).1 ((B.U.setTop g).pushFrame (.throwing q)))
section Payer
variable {l : Launch} {R : Room} {p : Program} {e : Env} {below : List Frame} {s : State} {sargs : Array Value} {y : MethodName} {len W9 : Nat}
theorem vx_back {ws : List Cond} {rm : Room} {Pc : Array Value → State → Prop} {Qc : Array Value → State → Outcome → State → Prop} {XC : String → State → State → Prop} {mc ms : Nat} {free : Addr → Prop} {bytes : ByteArray} {maxL : Nat} {ret : Option FieldType}
    (hM : vx_Met l y ws rm Pc Qc XC mc ms free) (hblind : FrameBlind Pc) (hrc : rm.cells = mc) (hrs : rm.slots = ms)
    (hframes : rm.frames + 1 ≤ R.frames) (hlocals : W9 + (maxL + 11) + rm.locals ≤ R.locals)
    (hws : ∀ w ∈ ws, ∀ a' U, s.WarmedH U.vm → w.before a' U = true) (hcode : Cond.code y bytes maxL ret ∈ ws) (hinit : ∀ a' U, s.WarmedH U.vm → (Cond.initialized y.cls).before a' U = true) :
    vx_Back l R p e below s sargs y len W9 (PreOf R mc ms Pc) (PostOf Qc mc ms free) (vx_Post XC mc ms free) := by
  intro m meth c A g ig mk a X hg hsize hdg hW hn hp
  have h1 : (headSpec ws rm).pre.before a A.U = true := atoms_intro fun w hw => hws w hw _ _ X.warmed
  have h2 : (Cond.code y bytes maxL ret).before a A.U = true := hws _ hcode _ _ X.warmed
  have h3 : (Cond.initialized y.cls).before a A.U = true := hinit _ _ X.warmed
  have h4 : A.cells + (headSpec ws rm).room.cells ≤ R.cells := by rw [show (headSpec ws rm).room.cells = mc from hrc]; exact hp.1
  have h5 : A.slots + (headSpec ws rm).room.slots ≤ R.slots := by rw [show (headSpec ws rm).room.slots = ms from hrs]; exact hp.2.1
  have hPc : Pc a (A.U.calling g mk a) := hblind _ _ _ _ hp.2.2
  obtain ⟨U, Ls, c0, s0⟩ := A
  dsimp only [Pt.U, Pt.locs, Pt.cells, Pt.slots] at h1 h2 h3 h4 h5 X hn hPc ⊢
  obtain ⟨methY, cY, hmY, hcY, -, hlY, -, -, -, -⟩ := Cond.code_spec hn h2
  obtain ⟨kY, hkY, -⟩ := className_of_methodNamed hn
  have hinitY : kY.init = .initialized := Cond.initialized_spec (findClass_of_methodNamed hn) hkY h3
  have h : At U g.method c below := by rw [hg]; exact X.here
  have hlocals9 : W9 + (maxL + 11) + (headSpec ws rm).room.locals ≤ R.locals := hlocals
  have happ : (headSpec ws rm).appliesLoose y e.platform (U.calling g mk a) = true :=
    Spec.appliesLoose_calling (g := g) h hdg hn hkY hinitY
      (X.room_calling (g := g) (R' := (headSpec ws rm).room) hsize hmY hcY hframes (by rw [hlY]; omega) h4 h5) h1
  obtain ⟨mid, hmid⟩ := h.above
  have hfr : (U.setTop g).frames = (.java g :: mid) ++ below := by rw [State.frames_setTop' g h.top, hmid]; rfl
  obtain ⟨o, s₂, hsteps, -, hend, hq⟩ := Steps.callFree hM p X.admits X.cas X.clock (acts := []) hfr happ hPc trivial
  have hq' : vx_Q Qc XC mc ms free a (U.calling g mk a) o s₂ := hq
  rw [State.frames_setTop' g h.top] at hend
  obtain ⟨g₀, hg0⟩ := Option.isSome_iff_exists.mp h.top
  obtain ⟨r, hr⟩ := State.topJava?_eq_some.mp hg0
  have hr' : (({ U with heap := s₂.heap, slotsUsed := s₂.slotsUsed } : State).setVm s₂.vm).frames = .java g₀ :: r := hr
  rcases hq' with ⟨hqc, L, hfe, hL⟩ | ⟨q, rfl, E, ce, L, hx, hce, hcv, hcl, hW₂, hsm, hL⟩
  · obtain ⟨⟨v, rfl⟩, hW₂, e2, q2, q3, q4, q5, q6⟩ := id hfe
    have e3 : s₂ = ({ (U.calling g mk a).setFrames s₂.frames with heap := s₂.heap, slotsUsed := s₂.slotsUsed } : State).setVm s₂.vm := by
      have : s₂ = ({ s₂ with vm := (U.calling g mk a).vm } : State).setVm s₂.vm := rfl
      rw [e2] at this
      exact this
    obtain ⟨c₂, i₂, len₂, hc₂, hd₂, hf₂⟩ := hend
    have hW' : U.WarmedH s₂.vm := hW₂
    have hcc : c₂ = c := by
      have h1 : s₂.code? g.method = U.code? g.method := by
        rw [State.code?_eq, State.code?_eq, hW'.alike.method?]
      exact Option.some.inj (hc₂.symm.trans (h1.trans h.code))
    subst hcc
    have hlen : len₂ = len := by rw [hdg] at hd₂; cases hd₂; rfl
    subst hlen
    have hs₂ : s₂ = (({ U with heap := s₂.heap, slotsUsed := s₂.slotsUsed } : State).setVm s₂.vm).setTop { g with pc := g.pc + len₂, stack := v.toList ++ g.stack } := by
      refine e3.trans ?_
      rw [hf₂, State.calling_eq h.top, State.setFrames_setFrames, State.setTop_of_frames _ hr', hr]
      rfl
    have hsame : U.sameButNew ({ U with heap := s₂.heap, slotsUsed := s₂.slotsUsed } : State) L mc ms := by
      refine ⟨?_, q2, q3, q4, q5, q6⟩
      obtain ⟨t, ht, -⟩ := State.frames_cons hr
      show ({ U with heap := s₂.heap, slotsUsed := s₂.slotsUsed } : State) = { U.setFrames U.frames with heap := s₂.heap, slotsUsed := s₂.slotsUsed }
      rw [State.setFrames_self ht]
    subst hg
    refine Or.inl ⟨v, ⟨(({ U with heap := s₂.heap, slotsUsed := s₂.slotsUsed } : State).setVm s₂.vm), Ls ++ L, c0 + mc, s0 + ms⟩,
      ⟨X.admits, X.cas, X.clock, X.frames, X.room, X.hears, X.method, X.code, (X.here.setHeapUsed s₂.heap s₂.slotsUsed).setVm hW'.alike, X.tail, State.WarmedH.trans X.warmed hW', X.limits, X.bytes, X.same.trans (hsame.setVm s.vm)⟩,
      ⟨g, mk, s₂, L, rfl, rfl, hqc, rfl, hL, rfl, rfl⟩, ?_⟩
    show Steps p.tables e below _ ((({ U with heap := s₂.heap, slotsUsed := s₂.slotsUsed } : State).setVm s₂.vm).setTop { g with pc := g.pc + len₂, stack := v.toList ++ g.stack })
    rw [← hs₂]
    exact hsteps
  · obtain ⟨e2, q2, q3, q4, q5, q6⟩ := id hsm
    have e3 : s₂ = ({ (U.calling g mk a).setFrames s₂.frames with heap := s₂.heap, slotsUsed := s₂.slotsUsed } : State).setVm s₂.vm := by
      have : s₂ = ({ s₂ with vm := (U.calling g mk a).vm } : State).setVm s₂.vm := rfl
      rw [e2] at this
      exact this
    have hf₂ : s₂.frames = .throwing q :: .java g :: U.frames.tail := hend
    have hW' : U.WarmedH s₂.vm := hW₂
    have hs₂ : s₂ = ((({ U with heap := s₂.heap, slotsUsed := s₂.slotsUsed } : State).setVm s₂.vm).setTop g).pushFrame (.throwing q) := by
      refine e3.trans ?_
      rw [hf₂, State.calling_eq h.top, State.setFrames_setFrames, State.pushFrame, State.frames_setTop _ hr', State.setTop_of_frames _ hr', State.setFrames_setFrames, hr]
      rfl
    have hsame : U.sameButNew ({ U with heap := s₂.heap, slotsUsed := s₂.slotsUsed } : State) L mc ms := by
      refine ⟨?_, q2, q3, q4, q5, q6⟩
      obtain ⟨t, ht, -⟩ := State.frames_cons hr
      show ({ U with heap := s₂.heap, slotsUsed := s₂.slotsUsed } : State) = { U.setFrames U.frames with heap := s₂.heap, slotsUsed := s₂.slotsUsed }
      rw [State.setFrames_self ht]
    subst hg
    refine Or.inr ⟨q, ⟨(({ U with heap := s₂.heap, slotsUsed := s₂.slotsUsed } : State).setVm s₂.vm), Ls ++ L, c0 + mc, s0 + ms⟩,
      ⟨X.admits, X.cas, X.clock, X.frames, X.room, X.hears, X.method, X.code, (X.here.setHeapUsed s₂.heap s₂.slotsUsed).setVm hW'.alike, X.tail, State.WarmedH.trans X.warmed hW', X.limits, X.bytes, X.same.trans (hsame.setVm s.vm)⟩,
      ⟨g, mk, s₂, L, E, ce, rfl, rfl, hx, hce, hcv, hcl, rfl, hL, rfl, rfl⟩, ?_⟩
    show Steps p.tables e below _ (((({ U with heap := s₂.heap, slotsUsed := s₂.slotsUsed } : State).setVm s₂.vm).setTop g).pushFrame (.throwing q))
    rw [← hs₂]
    exact hsteps
end Payer
section Calls
variable {p : Program} {l : Launch} {e : Env} {R : Room} {s : State} {m : MethodId} {args : Array Value} {below : List Frame} {meth : Method} {c : Code} {T : State} {locs : List Loc} {cells slots : Nat}
theorem vx_callV (X : Stand p l e R s m args below meth c T locs cells slots) (hexec : p.tables.exec = Jvm.exec) {own C : String} {index : Nat} {y : MethodName} {bytes : ByteArray} {maxL : Nat} {ret : Option FieldType}
    (hown : s.vm.findClass own = some m.cls) (hlink : (Cond.methodLink own index y).before args s = true) (hinst : (Cond.instanceMethod y).before args s = true) (hsel : (Cond.selects C y y).before args s = true)
    (hcode : (Cond.code y bytes maxL ret).before args s = true) (hy : y.cls ≠ "java/lang/invoke/MethodHandle" ∧ y.cls ≠ "java/lang/invoke/VarHandle")
    {W9 : Nat} {Pre : Pt → Array Value → Prop} {Post : Pt → Array Value → Option Value → Pt → Prop} {PostX : Pt → Array Value → Addr → Pt → Prop} (hK : vx_Back l R p e below s args y 3 W9 Pre Post PostX)
    {b : Addr} {cellB : Cell} (hcell : T.heap[b]? = some cellB) (hobj : cellB.vm.isStatics = false) (hcls : s.vm.findClass C = some cellB.cls)
    {g : JFrame} (hg : g.method = m) (hsize : g.locals.size = c.maxLocals) {argsL rest : List Value} (hlen : ∀ sig, parseMethodDescriptor y.desc = some sig → argsL.length = sig.parameters.length)
    (hstack : g.stack = argsL.reverse ++ .ref b :: rest) (hW : 2 * g.monitorRoom + (rest.map fun v => v.category).sum ≤ W9) (hdg : decode c.code g.pc = .ok (.invokevirtual index, 3))
    (hpre : ∀ vm₁, s.WarmedH vm₁ → Pre ⟨T.setVm vm₁, locs, cells, slots⟩ (Value.ref b :: argsL).toArray) :
    (∃ (v : Option Value) (vm₁ : Vm) (B : Pt), s.WarmedH vm₁ ∧ Stand p l e R s m args below meth c B.U B.locs B.cells B.slots ∧ Post ⟨T.setVm vm₁, locs, cells, slots⟩ (Value.ref b :: argsL).toArray v B ∧
      ∀ target, Steps p.tables e below (B.U.setTop { g with pc := g.pc + 3, stack := v.toList ++ rest }) target → Steps p.tables e below (T.setTop g) target) ∨
    (∃ (q : Addr) (vm₁ : Vm) (B : Pt), s.WarmedH vm₁ ∧ Stand p l e R s m args below meth c B.U B.locs B.cells B.slots ∧ PostX ⟨T.setVm vm₁, locs, cells, slots⟩ (Value.ref b :: argsL).toArray q B ∧
      Steps p.tables e below (T.setTop g) ((B.U.setTop { g with stack := rest }).pushFrame (.throwing q))) := by
  obtain ⟨mk, methM, hnamed, hmethM, hstM, habM⟩ := Cond.instanceMethod_spec hinst
  obtain ⟨methM', cM, hmethM', -, -, -, -, -, -, hsigM⟩ := Cond.code_spec hnamed hcode
  cases hmethM.symm.trans hmethM'
  obtain ⟨c2, r2, m2, q1, q2, q3, q4, kP, hkP, hkPi⟩ := Cond.selects_spec hsel
  cases hcls.symm.trans q1
  cases (State.methodFound?_of_named hnamed hy).symm.trans q2
  cases hnamed.symm.trans q3
  have hselP : selectMethod e.platform s.vm cellB.cls mk = .method mk := by rw [Launch.admits_selectMethod X.admits]; exact q4
  obtain ⟨vm₁, X₁, hstep₁⟩ := X.invokevirtual hexec hown hlink hnamed hmethM hstM hkP hkPi hy (a := b) (cell := cellB) hcell
    (fun z h => by rw [h] at hobj; cases hobj) hselP hmethM habM hkP hkPi (g := g) hg (argsL := argsL) (rest := rest) (hlen _ hsigM) hstack hdg
  rcases hK m meth c ⟨T.setVm vm₁, locs, cells, slots⟩ { g with stack := rest } (.invokevirtual index) mk (Value.ref b :: argsL).toArray X₁ hg hsize hdg hW (X₁.named hnamed) (hpre vm₁ X₁.warmed) with ⟨v, B, X', hpost, hsteps⟩ | ⟨q, B, X', hpost, hsteps⟩
  · exact Or.inl ⟨v, vm₁, B, X₁.warmed, X', hpost, fun target h => hstep₁ _ fun acts => by rw [doInvoke_state]; exact hsteps.trans h⟩
  · exact Or.inr ⟨q, vm₁, B, X₁.warmed, X', hpost, hstep₁ _ fun acts => by rw [doInvoke_state]; exact hsteps⟩
theorem vx_callS (X : Stand p l e R s m args below meth c T locs cells slots) (hexec : p.tables.exec = Jvm.exec) {own : String} {index : Nat} {y : MethodName} {bytes : ByteArray} {maxL : Nat} {ret : Option FieldType}
    (hown : s.vm.findClass own = some m.cls) (hlink : (Cond.methodLink own index y).before args s = true) (hstat : (Cond.static y).before args s = true) (hinit : (Cond.initialized y.cls).before args s = true)
    (hcode : (Cond.code y bytes maxL ret).before args s = true) (hy : y.cls ≠ "java/lang/invoke/MethodHandle" ∧ y.cls ≠ "java/lang/invoke/VarHandle")
    {W9 : Nat} {Pre : Pt → Array Value → Prop} {Post : Pt → Array Value → Option Value → Pt → Prop} {PostX : Pt → Array Value → Addr → Pt → Prop} (hK : vx_Back l R p e below s args y 3 W9 Pre Post PostX)
    {g : JFrame} (hg : g.method = m) (hsize : g.locals.size = c.maxLocals) {argsL rest : List Value} (hlen : ∀ sig, parseMethodDescriptor y.desc = some sig → argsL.length = sig.parameters.length)
    (hstack : g.stack = argsL.reverse ++ rest) (hW : 2 * g.monitorRoom + (rest.map fun v => v.category).sum ≤ W9) (hdg : decode c.code g.pc = .ok (.invokestatic index, 3))
    (hpre : ∀ vm₁, s.WarmedH vm₁ → Pre ⟨T.setVm vm₁, locs, cells, slots⟩ argsL.toArray) :
    (∃ (v : Option Value) (vm₁ : Vm) (B : Pt), s.WarmedH vm₁ ∧ Stand p l e R s m args below meth c B.U B.locs B.cells B.slots ∧ Post ⟨T.setVm vm₁, locs, cells, slots⟩ argsL.toArray v B ∧
      ∀ target, Steps p.tables e below (B.U.setTop { g with pc := g.pc + 3, stack := v.toList ++ rest }) target → Steps p.tables e below (T.setTop g) target) ∨
    (∃ (q : Addr) (vm₁ : Vm) (B : Pt), s.WarmedH vm₁ ∧ Stand p l e R s m args below meth c B.U B.locs B.cells B.slots ∧ PostX ⟨T.setVm vm₁, locs, cells, slots⟩ argsL.toArray q B ∧
      Steps p.tables e below (T.setTop g) ((B.U.setTop { g with stack := rest }).pushFrame (.throwing q))) := by
  obtain ⟨mk, hnamed⟩ := Cond.code_named hcode
  obtain ⟨methM, cM, hmethM, -, -, -, -, -, -, hsigM⟩ := Cond.code_spec hnamed hcode
  have hstatic : methM.isStatic = true := Cond.static_spec hnamed hmethM hstat
  obtain ⟨kP, hkP, -⟩ := className_of_methodNamed hnamed
  have hinitP : kP.init = .initialized := Cond.initialized_spec (findClass_of_methodNamed hnamed) hkP hinit
  obtain ⟨vm₁, X₁, hstep₁⟩ := X.invokestatic hexec hown hlink hnamed hmethM hstatic hkP hinitP hy (g := g) hg (argsL := argsL) (rest := rest) (hlen _ hsigM) hstack hdg
  rcases hK m meth c ⟨T.setVm vm₁, locs, cells, slots⟩ { g with stack := rest } (.invokestatic index) mk argsL.toArray X₁ hg hsize hdg hW (X₁.named hnamed) (hpre vm₁ X₁.warmed) with ⟨v, B, X', hpost, hsteps⟩ | ⟨q, B, X', hpost, hsteps⟩
  · exact Or.inl ⟨v, vm₁, B, X₁.warmed, X', hpost, fun target h => hstep₁ _ fun acts => by rw [doInvoke_state]; exact hsteps.trans h⟩
  · exact Or.inr ⟨q, vm₁, B, X₁.warmed, X', hpost, hstep₁ _ fun acts => by rw [doInvoke_state]; exact hsteps⟩
end Calls
theorem vx_cls {s : State} {T : State} {vm₁ : Vm} {E : String} {k : ClassId} (hW : s.WarmedH vm₁) (h : (T.setVm vm₁).vm.findClass E = some k) : s.vm.findClass E = some k := by
  have h1 : vm₁.findClass E = some k := h
  rw [hW.alike.findClass] at h1
  exact h1
/-- the method's frame g, with q thrown over it -/
def vx_W (p : Program) (l : Launch) (e : Env) (R : Room) (s : State) (m : MethodId) (args : Array Value) (below : List Frame) (meth : Method) (c : Code) (H : Heap) (locs : List Loc) (cells slots : Nat) (Q : State → Prop) (g : JFrame) (q : Addr) : Prop :=
  ∀ T : State, T.heap = H → Stand p l e R s m args below meth c T locs cells slots → ∃ t, Steps p.tables e below ((T.setTop g).pushFrame (.throwing q)) t ∧ Q t
def vx_Run (p : Program) (l : Launch) (e : Env) (R : Room) (s : State) (m : MethodId) (args : Array Value) (below : List Frame) (meth : Method) (c : Code) (H : Heap) (locs : List Loc) (cells slots mc ms : Nat) (g : JFrame) (rest : List Value) (Qa : State → Outcome → State → Prop) (XC : String → State → State → Prop) (free : Addr → Prop) : Prop :=
  ∀ T : State, T.heap = H → Stand p l e R s m args below meth c T locs cells slots →
    (∃ (v : Option Value) (st₀ t T' : State) (L : List Loc), st₀.heap = H ∧ Stand p l e R s m args below meth c T' (locs ++ L) (cells + mc) (slots + ms) ∧ (∀ q ∈ L, free q.base) ∧ T'.heap = t.heap ∧ T'.vm = t.vm ∧ Qa st₀ (.returned v) t ∧
      Goes p e below T g T' { g with pc := g.pc + 3, stack := v.toList ++ rest }) ∨
    (∃ (q : Addr) (st₀ t T' : State) (L : List Loc) (E : String) (ce : Cell), st₀.heap = H ∧ Stand p l e R s m args below meth c T' (locs ++ L) (cells + mc) (slots + ms) ∧ (∀ z ∈ L, free z.base) ∧ T'.heap = t.heap ∧ T'.vm = t.vm ∧ XC E st₀ t ∧ t.heap[q]? = some ce ∧ ce.vm = .none ∧ s.vm.findClass E = some ce.cls ∧
      Steps p.tables e below (T.setTop g) ((T'.setTop { g with stack := rest }).pushFrame (.throwing q)))
def vx_X {S : Type} (px : S → Prop) (B : String → S → State → Prop) (A : Nat → Prop) : String → State → State → Prop := fun E st t => ∃ u : S, px u ∧ B E u t ∧ va_F A st t
section Runs
variable {p : Program} {l : Launch} {e : Env} {R : Room} {s : State} {m : MethodId} {args : Array Value} {below : List Frame} {meth : Method} {c : Code} {H : Heap} {locs : List Loc} {cells slots : Nat}
variable {y : MethodName} {bytes cc : ByteArray} {maxL nL mc ms n index : Nat} {ret : Option FieldType} {ws : List Cond} {rm : Room} {Pc : Array Value → State → Prop} {Qc : Array Value → State → Outcome → State → Prop} {XC : String → State → State → Prop} {free : Addr → Prop} {Ts : List Cond} {own C : String} {b : Addr} {As rest : List Value} {g : JFrame}
theorem vx_callBack (cb : CallB R s args own index y bytes maxL ret ws rm mc ms n) (hM : vx_Met l y ws rm Pc Qc XC mc ms free) (hbl : FrameBlind Pc) : vx_Back l R p e below s args y 3 8 (PreOf R mc ms Pc) (PostOf Qc mc ms free) (vx_Post XC mc ms free) := by
  obtain ⟨hrc, hrs, hfr, hlo, hws, hcw, -, hini, -⟩ := cb
  exact vx_back (bytes := bytes) (maxL := maxL) (ret := ret) hM hbl hrc hrs hfr hlo hws hcw (fun a' U hW => word_at hW (Or.inl (by first | rfl | simp [Cond.onTables, Cond.keeps, Cond.steady])) hini)
theorem vx_runV (S : CallFix p m c cc nL s args Ts own) (hM : vx_Met l y ws rm Pc Qc XC mc ms free) (cw : CallW R s args own C index y bytes maxL ret ws rm mc ms n) (hp : PreV s H C b Pc As)
    (hg : g.method = m) (hn : As.length = n) (hsize : g.locals.size = nL) (hstack : g.stack = As.reverse ++ .ref b :: rest) (hW : 2 * g.monitorRoom + (rest.map fun v => v.category).sum ≤ 8) (hdg : decode cc g.pc = .ok (.invokevirtual index, 3)) (hf : cells + mc ≤ R.cells ∧ slots + ms ≤ R.slots) :
    vx_Run p l e R s m args below meth c H locs cells slots mc ms g rest (Qc (Value.ref b :: As).toArray) XC free := by
  have hK : vx_Back l R p e below s args y 3 8 (PreOf R mc ms Pc) (PostOf Qc mc ms free) (vx_Post XC mc ms free) := vx_callBack cw.1 hM hp.1
  obtain ⟨⟨-, -, -, -, -, -, hcode, -, hy, hlen, hl⟩, hin, hse⟩ := cw
  obtain ⟨hx, hb, hml, ho, -⟩ := S
  obtain ⟨-, ⟨cellB, hcB, hoB, hclB⟩, hPc⟩ := hp
  intro T hT X
  rcases vx_callV X hx (C := C) (bytes := bytes) (maxL := maxL) (ret := ret) ho hl hin hse hcode hy hK (by rw [hT]; exact hcB) hoB hclB hg (hsize.trans hml.symm) (argsL := As) (rest := rest) (fun sig h => hn.trans (hlen sig h)) hstack hW (by rw [hb]; exact hdg)
    (fun vm₁ hW₁ => ⟨hf.1, hf.2, hPc (T.setVm vm₁) hT hW₁⟩) with ⟨v, vm₁, ⟨U', l2, c2, s2⟩, hW₁, X', ⟨g', mk, t, L, e1, e2, hq, h1, hL, h2, h3⟩, st⟩ | ⟨q, vm₁, ⟨U', l2, c2, s2⟩, hW₁, X', ⟨g', mk, t, L, E, ce, e1, e2, hq, hce, hcv, hcl, h1, hL, h2, h3⟩, st⟩
  · dsimp only [Pt.U, Pt.locs, Pt.cells, Pt.slots] at X' e1 e2 h1 h2 h3 st
    subst h1; subst h2; subst h3
    exact Or.inl ⟨v, (T.setVm vm₁).calling g' mk (Value.ref b :: As).toArray, t, U', L, hT, X', hL, e1, e2, hq, st⟩
  · dsimp only [Pt.U, Pt.locs, Pt.cells, Pt.slots] at X' e1 e2 h1 h2 h3 st hcl
    subst h1; subst h2; subst h3
    exact Or.inr ⟨q, (T.setVm vm₁).calling g' mk (Value.ref b :: As).toArray, t, U', L, E, ce, hT, X', hL, e1, e2, hq, hce, hcv, vx_cls hW₁ hcl, st⟩
theorem vx_runS (S : CallFix p m c cc nL s args Ts own) (hM : vx_Met l y ws rm Pc Qc XC mc ms free) (cw : CallB R s args own index y bytes maxL ret ws rm mc ms n ∧ (Cond.static y).before args s = true) (hp : PreS s H Pc As)
    (hg : g.method = m) (hn : As.length = n) (hsize : g.locals.size = nL) (hstack : g.stack = As.reverse ++ rest) (hW : 2 * g.monitorRoom + (rest.map fun v => v.category).sum ≤ 8) (hdg : decode cc g.pc = .ok (.invokestatic index, 3)) (hf : cells + mc ≤ R.cells ∧ slots + ms ≤ R.slots) :
    vx_Run p l e R s m args below meth c H locs cells slots mc ms g rest (Qc As.toArray) XC free := by
  have hK : vx_Back l R p e below s args y 3 8 (PreOf R mc ms Pc) (PostOf Qc mc ms free) (vx_Post XC mc ms free) := vx_callBack cw.1 hM hp.1
  obtain ⟨⟨-, -, -, -, -, -, hcode, hini, hy, hlen, hl⟩, hstt⟩ := cw
  obtain ⟨hx, hb, hml, ho, -⟩ := S
  intro T hT X
  rcases vx_callS X hx (bytes := bytes) (maxL := maxL) (ret := ret) ho hl hstt hini hcode hy hK hg (hsize.trans hml.symm) (argsL := As) (rest := rest) (fun sig h => hn.trans (hlen sig h)) hstack hW (by rw [hb]; exact hdg)
    (fun vm₁ hW₁ => ⟨hf.1, hf.2, hp.2 (T.setVm vm₁) hT hW₁⟩) with ⟨v, vm₁, ⟨U', l2, c2, s2⟩, hW₁, X', ⟨g', mk, t, L, e1, e2, hq, h1, hL, h2, h3⟩, st⟩ | ⟨q, vm₁, ⟨U', l2, c2, s2⟩, hW₁, X', ⟨g', mk, t, L, E, ce, e1, e2, hq, hce, hcv, hcl, h1, hL, h2, h3⟩, st⟩
  · dsimp only [Pt.U, Pt.locs, Pt.cells, Pt.slots] at X' e1 e2 h1 h2 h3 st
    subst h1; subst h2; subst h3
    exact Or.inl ⟨v, (T.setVm vm₁).calling g' mk As.toArray, t, U', L, hT, X', hL, e1, e2, hq, st⟩
  · dsimp only [Pt.U, Pt.locs, Pt.cells, Pt.slots] at X' e1 e2 h1 h2 h3 st hcl
    subst h1; subst h2; subst h3
    exact Or.inr ⟨q, (T.setVm vm₁).calling g' mk As.toArray, t, U', L, E, ce, hT, X', hL, e1, e2, hq, hce, hcv, vx_cls hW₁ hcl, st⟩
end Runs
section Rows
variable {p : Program} {l : Launch} {e : Env} {R : Room} {s : State} {m : MethodId} {args : Array Value} {below : List Frame} {meth : Method} {c : Code} {H : Heap} {locs : List Loc} {cells slots : Nat} {Q : State → Prop}
variable {mc ms : Nat} {free : Addr → Prop} {A0 A1 : Nat → Prop} {H0 : Heap} {a : Array Value} {pc : Nat} {ls : Array Slot} {st0 rest : List Value}
theorem vx_keep {st₀ t T' : State} {L : List Loc} (h0 : st₀.heap = H) (e1 : T'.heap = t.heap) (hS : va_S A0 H0 H locs) (hA : ∀ q, q < H.size → A1 q → A0 q) (hf : ∀ q, free q → A0 q) (hL : ∀ q ∈ L, free q.base) (hF : va_F A1 st₀ t) :
    H.size ≤ T'.heap.size ∧ (∀ q : Nat, q < H.size → ¬ A1 q → T'.heap[q]? = H[q]?) ∧ va_S A0 H0 T'.heap (locs ++ L) := by
  obtain ⟨hz, hk⟩ := hF
  rw [h0] at hz hk
  exact ⟨by rw [e1]; exact hz, fun q h1 h2 => by rw [e1]; exact hk q h1 h2,
    ⟨Nat.le_trans hS.1 (by rw [e1]; exact hz), fun q h1 h2 => by rw [e1, hk q (Nat.lt_of_lt_of_le h1 hS.1) (fun z => h2 (hA q (Nat.lt_of_lt_of_le h1 hS.1) z))]; exact hS.2.1 q h1 h2, fun q hq => by
      rcases List.mem_append.mp hq with h | h
      · exact hS.2.2 q h
      · exact hf _ (hL q h)⟩⟩
theorem vx_calli {S SX : Type} {post : Int32 → S → Prop} {px : SX → Prop} {B : S → State → Prop} {BX : String → SX → State → Prop} {AX : Nat → Prop} (hr : vx_Run p l e R s m args below meth c H locs cells slots mc ms (F0 m pc ls st0) rest (va_Qi post B A1 a) (vx_X px BX AX) free) (hS : va_S A0 H0 H locs) (hA : ∀ q, q < H.size → A1 q → A0 q) (hf : ∀ q, free q → A0 q) (hAX : ∀ q, q < H.size → AX q → A0 q)
    (kx : ∀ (E : String) (ce : Cell) (q9 : Addr) (u : SX) (t : State) (H1 : Heap) (locs1 : List Loc), t.heap = H1 → s.vm.Alike t.vm → px u → BX E u t → H.size ≤ H1.size → (∀ q : Nat, q < H.size → ¬ AX q → H1[q]? = H[q]?) → va_S A0 H0 H1 locs1 → H1[q9]? = some ce → ce.vm = .none → s.vm.findClass E = some ce.cls → vx_W p l e R s m args below meth c H1 locs1 (cells + mc) (slots + ms) Q (F0 m pc ls rest) q9)
    (kk : ∀ (r : Int32) (u : S) (t : State) (H1 : Heap) (locs1 : List Loc), t.heap = H1 → s.vm.Alike t.vm → post r u → B u t → H.size ≤ H1.size → (∀ q : Nat, q < H.size → ¬ A1 q → H1[q]? = H[q]?) → va_S A0 H0 H1 locs1 → W p l e R s m args below meth c H1 locs1 (cells + mc) (slots + ms) Q (F0 m (pc + 3) ls (.int r :: rest))) : W p l e R s m args below meth c H locs cells slots Q (F0 m pc ls st0) := by
  intro T hT X
  rcases hr T hT X with ⟨v, st₀, t, T', L, h0, X', hL, e1, e2, ⟨⟨r, u, hv, hp, hb⟩, hF⟩, st⟩ | ⟨q, st₀, t, T', L, E, ce, h0, X', hL, e1, e2, ⟨u, hp, hb, hF⟩, hce, hcv, hcl, st⟩
  · cases hv
    obtain ⟨k1, k2, k3⟩ := vx_keep h0 e1 hS hA hf hL hF
    obtain ⟨t2, a1, b1⟩ := kk r u t T'.heap (locs ++ L) e1.symm (by rw [← e2]; exact X'.warmed.alike) hp hb k1 k2 k3 T' rfl X'
    exact ⟨t2, st t2 a1, b1⟩
  · obtain ⟨k1, k2, k3⟩ := vx_keep h0 e1 hS hAX hf hL hF
    obtain ⟨t2, a1, b1⟩ := kx E ce q u t T'.heap (locs ++ L) e1.symm (by rw [← e2]; exact X'.warmed.alike) hp hb k1 k2 k3 (by rw [e1]; exact hce) hcv hcl T' rfl X'
    exact ⟨t2, st.trans a1, b1⟩
theorem vx_calll {S SX : Type} {post : Int64 → S → Prop} {px : SX → Prop} {B : S → State → Prop} {BX : String → SX → State → Prop} {AX : Nat → Prop} (hr : vx_Run p l e R s m args below meth c H locs cells slots mc ms (F0 m pc ls st0) rest (va_Ql post B A1 a) (vx_X px BX AX) free) (hS : va_S A0 H0 H locs) (hA : ∀ q, q < H.size → A1 q → A0 q) (hf : ∀ q, free q → A0 q) (hAX : ∀ q, q < H.size → AX q → A0 q)
    (kx : ∀ (E : String) (ce : Cell) (q9 : Addr) (u : SX) (t : State) (H1 : Heap) (locs1 : List Loc), t.heap = H1 → s.vm.Alike t.vm → px u → BX E u t → H.size ≤ H1.size → (∀ q : Nat, q < H.size → ¬ AX q → H1[q]? = H[q]?) → va_S A0 H0 H1 locs1 → H1[q9]? = some ce → ce.vm = .none → s.vm.findClass E = some ce.cls → vx_W p l e R s m args below meth c H1 locs1 (cells + mc) (slots + ms) Q (F0 m pc ls rest) q9)
    (kk : ∀ (r : Int64) (u : S) (t : State) (H1 : Heap) (locs1 : List Loc), t.heap = H1 → s.vm.Alike t.vm → post r u → B u t → H.size ≤ H1.size → (∀ q : Nat, q < H.size → ¬ A1 q → H1[q]? = H[q]?) → va_S A0 H0 H1 locs1 → W p l e R s m args below meth c H1 locs1 (cells + mc) (slots + ms) Q (F0 m (pc + 3) ls (.long r :: rest))) : W p l e R s m args below meth c H locs cells slots Q (F0 m pc ls st0) := by
  intro T hT X
  rcases hr T hT X with ⟨v, st₀, t, T', L, h0, X', hL, e1, e2, ⟨⟨r, u, hv, hp, hb⟩, hF⟩, st⟩ | ⟨q, st₀, t, T', L, E, ce, h0, X', hL, e1, e2, ⟨u, hp, hb, hF⟩, hce, hcv, hcl, st⟩
  · cases hv
    obtain ⟨k1, k2, k3⟩ := vx_keep h0 e1 hS hA hf hL hF
    obtain ⟨t2, a1, b1⟩ := kk r u t T'.heap (locs ++ L) e1.symm (by rw [← e2]; exact X'.warmed.alike) hp hb k1 k2 k3 T' rfl X'
    exact ⟨t2, st t2 a1, b1⟩
  · obtain ⟨k1, k2, k3⟩ := vx_keep h0 e1 hS hAX hf hL hF
    obtain ⟨t2, a1, b1⟩ := kx E ce q u t T'.heap (locs ++ L) e1.symm (by rw [← e2]; exact X'.warmed.alike) hp hb k1 k2 k3 (by rw [e1]; exact hce) hcv hcl T' rfl X'
    exact ⟨t2, st.trans a1, b1⟩
theorem vx_callf {S SX : Type} {post : UInt32 → S → Prop} {px : SX → Prop} {B : S → State → Prop} {BX : String → SX → State → Prop} {AX : Nat → Prop} (hr : vx_Run p l e R s m args below meth c H locs cells slots mc ms (F0 m pc ls st0) rest (va_Qf post B A1 a) (vx_X px BX AX) free) (hS : va_S A0 H0 H locs) (hA : ∀ q, q < H.size → A1 q → A0 q) (hf : ∀ q, free q → A0 q) (hAX : ∀ q, q < H.size → AX q → A0 q)
    (kx : ∀ (E : String) (ce : Cell) (q9 : Addr) (u : SX) (t : State) (H1 : Heap) (locs1 : List Loc), t.heap = H1 → s.vm.Alike t.vm → px u → BX E u t → H.size ≤ H1.size → (∀ q : Nat, q < H.size → ¬ AX q → H1[q]? = H[q]?) → va_S A0 H0 H1 locs1 → H1[q9]? = some ce → ce.vm = .none → s.vm.findClass E = some ce.cls → vx_W p l e R s m args below meth c H1 locs1 (cells + mc) (slots + ms) Q (F0 m pc ls rest) q9)
    (kk : ∀ (r : UInt32) (u : S) (t : State) (H1 : Heap) (locs1 : List Loc), t.heap = H1 → s.vm.Alike t.vm → post r u → B u t → H.size ≤ H1.size → (∀ q : Nat, q < H.size → ¬ A1 q → H1[q]? = H[q]?) → va_S A0 H0 H1 locs1 → W p l e R s m args below meth c H1 locs1 (cells + mc) (slots + ms) Q (F0 m (pc + 3) ls (.float r :: rest))) : W p l e R s m args below meth c H locs cells slots Q (F0 m pc ls st0) := by
  intro T hT X
  rcases hr T hT X with ⟨v, st₀, t, T', L, h0, X', hL, e1, e2, ⟨⟨r, u, hv, hp, hb⟩, hF⟩, st⟩ | ⟨q, st₀, t, T', L, E, ce, h0, X', hL, e1, e2, ⟨u, hp, hb, hF⟩, hce, hcv, hcl, st⟩
  · cases hv
    obtain ⟨k1, k2, k3⟩ := vx_keep h0 e1 hS hA hf hL hF
    obtain ⟨t2, a1, b1⟩ := kk r u t T'.heap (locs ++ L) e1.symm (by rw [← e2]; exact X'.warmed.alike) hp hb k1 k2 k3 T' rfl X'
    exact ⟨t2, st t2 a1, b1⟩
  · obtain ⟨k1, k2, k3⟩ := vx_keep h0 e1 hS hAX hf hL hF
    obtain ⟨t2, a1, b1⟩ := kx E ce q u t T'.heap (locs ++ L) e1.symm (by rw [← e2]; exact X'.warmed.alike) hp hb k1 k2 k3 (by rw [e1]; exact hce) hcv hcl T' rfl X'
    exact ⟨t2, st.trans a1, b1⟩
theorem vx_calld {S SX : Type} {post : UInt64 → S → Prop} {px : SX → Prop} {B : S → State → Prop} {BX : String → SX → State → Prop} {AX : Nat → Prop} (hr : vx_Run p l e R s m args below meth c H locs cells slots mc ms (F0 m pc ls st0) rest (va_Qd post B A1 a) (vx_X px BX AX) free) (hS : va_S A0 H0 H locs) (hA : ∀ q, q < H.size → A1 q → A0 q) (hf : ∀ q, free q → A0 q) (hAX : ∀ q, q < H.size → AX q → A0 q)
    (kx : ∀ (E : String) (ce : Cell) (q9 : Addr) (u : SX) (t : State) (H1 : Heap) (locs1 : List Loc), t.heap = H1 → s.vm.Alike t.vm → px u → BX E u t → H.size ≤ H1.size → (∀ q : Nat, q < H.size → ¬ AX q → H1[q]? = H[q]?) → va_S A0 H0 H1 locs1 → H1[q9]? = some ce → ce.vm = .none → s.vm.findClass E = some ce.cls → vx_W p l e R s m args below meth c H1 locs1 (cells + mc) (slots + ms) Q (F0 m pc ls rest) q9)
    (kk : ∀ (r : UInt64) (u : S) (t : State) (H1 : Heap) (locs1 : List Loc), t.heap = H1 → s.vm.Alike t.vm → post r u → B u t → H.size ≤ H1.size → (∀ q : Nat, q < H.size → ¬ A1 q → H1[q]? = H[q]?) → va_S A0 H0 H1 locs1 → W p l e R s m args below meth c H1 locs1 (cells + mc) (slots + ms) Q (F0 m (pc + 3) ls (.double r :: rest))) : W p l e R s m args below meth c H locs cells slots Q (F0 m pc ls st0) := by
  intro T hT X
  rcases hr T hT X with ⟨v, st₀, t, T', L, h0, X', hL, e1, e2, ⟨⟨r, u, hv, hp, hb⟩, hF⟩, st⟩ | ⟨q, st₀, t, T', L, E, ce, h0, X', hL, e1, e2, ⟨u, hp, hb, hF⟩, hce, hcv, hcl, st⟩
  · cases hv
    obtain ⟨k1, k2, k3⟩ := vx_keep h0 e1 hS hA hf hL hF
    obtain ⟨t2, a1, b1⟩ := kk r u t T'.heap (locs ++ L) e1.symm (by rw [← e2]; exact X'.warmed.alike) hp hb k1 k2 k3 T' rfl X'
    exact ⟨t2, st t2 a1, b1⟩
  · obtain ⟨k1, k2, k3⟩ := vx_keep h0 e1 hS hAX hf hL hF
    obtain ⟨t2, a1, b1⟩ := kx E ce q u t T'.heap (locs ++ L) e1.symm (by rw [← e2]; exact X'.warmed.alike) hp hb k1 k2 k3 (by rw [e1]; exact hce) hcv hcl T' rfl X'
    exact ⟨t2, st.trans a1, b1⟩
theorem vx_callv {S SX : Type} {post : S → Prop} {px : SX → Prop} {B : S → State → Prop} {BX : String → SX → State → Prop} {AX : Nat → Prop} (hr : vx_Run p l e R s m args below meth c H locs cells slots mc ms (F0 m pc ls st0) rest (va_Qv post B A1 a) (vx_X px BX AX) free) (hS : va_S A0 H0 H locs) (hA : ∀ q, q < H.size → A1 q → A0 q) (hf : ∀ q, free q → A0 q) (hAX : ∀ q, q < H.size → AX q → A0 q)
    (kx : ∀ (E : String) (ce : Cell) (q9 : Addr) (u : SX) (t : State) (H1 : Heap) (locs1 : List Loc), t.heap = H1 → s.vm.Alike t.vm → px u → BX E u t → H.size ≤ H1.size → (∀ q : Nat, q < H.size → ¬ AX q → H1[q]? = H[q]?) → va_S A0 H0 H1 locs1 → H1[q9]? = some ce → ce.vm = .none → s.vm.findClass E = some ce.cls → vx_W p l e R s m args below meth c H1 locs1 (cells + mc) (slots + ms) Q (F0 m pc ls rest) q9)
    (kk : ∀ (u : S) (t : State) (H1 : Heap) (locs1 : List Loc), t.heap = H1 → s.vm.Alike t.vm → post u → B u t → H.size ≤ H1.size → (∀ q : Nat, q < H.size → ¬ A1 q → H1[q]? = H[q]?) → va_S A0 H0 H1 locs1 → W p l e R s m args below meth c H1 locs1 (cells + mc) (slots + ms) Q (F0 m (pc + 3) ls (rest))) : W p l e R s m args below meth c H locs cells slots Q (F0 m pc ls st0) := by
  intro T hT X
  rcases hr T hT X with ⟨v, st₀, t, T', L, h0, X', hL, e1, e2, ⟨⟨u, hv, hp, hb⟩, hF⟩, st⟩ | ⟨q, st₀, t, T', L, E, ce, h0, X', hL, e1, e2, ⟨u, hp, hb, hF⟩, hce, hcv, hcl, st⟩
  · cases hv
    obtain ⟨k1, k2, k3⟩ := vx_keep h0 e1 hS hA hf hL hF
    obtain ⟨t2, a1, b1⟩ := kk u t T'.heap (locs ++ L) e1.symm (by rw [← e2]; exact X'.warmed.alike) hp hb k1 k2 k3 T' rfl X'
    exact ⟨t2, st t2 a1, b1⟩
  · obtain ⟨k1, k2, k3⟩ := vx_keep h0 e1 hS hAX hf hL hF
    obtain ⟨t2, a1, b1⟩ := kx E ce q u t T'.heap (locs ++ L) e1.symm (by rw [← e2]; exact X'.warmed.alike) hp hb k1 k2 k3 (by rw [e1]; exact hce) hcv hcl T' rfl X'
    exact ⟨t2, st.trans a1, b1⟩
/-- caught by the row x of this method's table; the rows ahead don't take it -/
theorem vx_catch {own name : String} {E : String} {ce : Cell} {q : Addr} (hown : s.vm.findClass own = some m.cls) (pre : List ExceptionTableEntry) (x : ExceptionTableEntry) (suf : List ExceptionTableEntry) (hsplit : c.exceptionTable.toList = pre ++ x :: suf)
    (hpass : ∀ z ∈ pre, covers z pc = false ∨ (z.catchType ≠ 0 ∧ ∃ nm : String, (Cond.classLink own z.catchType nm).before args s = true ∧ va_Nc E nm s)) (hx : covers x pc = true) (h0 : x.catchType ≠ 0)
    (hlink : (Cond.classLink own x.catchType name).before args s = true) (hcast : (Cond.castable E name).before args s = true) (hcell : H[q]? = some ce) (hv : ce.vm = .none) (hcl : s.vm.findClass E = some ce.cls)
    (kk : W p l e R s m args below meth c H locs cells slots Q (F0 m x.handlerPc ls [.ref q])) : vx_W p l e R s m args below meth c H locs cells slots Q (F0 m pc ls rest) q := by
  intro T hT X
  have hpl : e.platform.magicAccessors = ({} : Platform).magicAccessors := by rw [X.admits.platform]
  obtain ⟨c3, c4, hc3, hc4, hasg⟩ := Cond.castable_spec hcast
  cases Option.some.inj (hc3.symm.trans hcl)
  obtain ⟨c5, hc5, hcl5⟩ := Cond.classLink_spec hown hlink e.platform hpl
  cases Option.some.inj (hc4.symm.trans hc5)
  obtain ⟨vm', X', st⟩ := hy_caught X q (g := F0 m pc ls rest) rfl (by rw [hT]; exact hcell) (by rw [hv]; rfl) (by obtain ⟨k9, h9, -⟩ := Vm.findClass_spec hcl; exact ⟨k9, h9⟩) pre x suf hsplit
    (fun z hz => by
      rcases hpass z hz with h | ⟨hz0, nm, hl1, hn1⟩
      · exact Or.inl h
      · obtain ⟨c6, hc6, hcl6⟩ := Cond.classLink_spec hown hl1 e.platform hpl
        obtain ⟨a8, b8, h1, h2, h3⟩ := hn1
        cases Option.some.inj (h1.symm.trans hcl)
        cases Option.some.inj (h2.symm.trans hc6)
        exact Or.inr ⟨hz0, _, hcl6, h3⟩) hx h0 hcl5 hasg
  obtain ⟨t, a1, b1⟩ := kk (T.setVm vm') hT X'
  exact ⟨t, st.trans a1, b1⟩
end Rows
section Ends
variable {p : Program} {l : Launch} {e : Env} {R : Room} {s : State} {m : MethodId} {args : Array Value} {below : List Frame} {meth : Method} {c : Code} {H : Heap} {locs : List Loc} {cells slots : Nat} {Q : State → Prop}
variable {mc ms : Nat} {free : Addr → Prop} {A0 A1 : Nat → Prop} {H0 : Heap} {a : Array Value} {ls : Array Slot} {st0 rest : List Value}
variable {Qc : Array Value → State → Outcome → State → Prop} {XC : String → State → State → Prop}
/-- what a body that may throw owes at its end -/
def vx_MQ (below : List Frame) (Qc : Array Value → State → Outcome → State → Prop) (XC : String → State → State → Prop) (a : Array Value) (s : State) (mc ms : Nat) (free : Addr → Prop) : State → Prop := fun t =>
  ∃ o, t.status = .running ∧ Ended t below o ∧ vx_Q Qc XC mc ms free a s o t
theorem vx_ret {g : JFrame} {mc ms : Nat} (k : W p l e R s m args below meth c H locs cells slots (MQ below Qc args s mc ms free) g) : W p l e R s m args below meth c H locs cells slots (vx_MQ below Qc XC args s mc ms free) g := by
  intro T hT X
  obtain ⟨t, a1, o, b1, b2, b3, b4⟩ := k T hT X
  exact ⟨t, a1, o, b1, b2, Or.inl ⟨b3, b4⟩⟩
/-- not caught here: it goes on to the caller -/
theorem vx_widen {g : JFrame} {q : Addr} {k n : Nat} (h1 : cells ≤ k) (h2 : slots ≤ n) (kk : vx_W p l e R s m args below meth c H locs k n Q g q) : vx_W p l e R s m args below meth c H locs cells slots Q g q := fun T hT X => kk T hT (stand_widen X h1 h2)
theorem vx_out {pc : Nat} {E : String} {ce : Cell} {q : Addr} {mc ms : Nat} (hout : ∀ x ∈ c.exceptionTable.toList, covers x pc = false) (hlocks : meth.locks = false) (hcell : H[q]? = some ce) (hv : ce.vm = .none) (hcl : s.vm.findClass E = some ce.cls)
    (hx : ∀ t : State, t.heap = H → s.vm.Alike t.vm → XC E s t) (hf : ∀ z ∈ locs, free z.base) (hc : cells ≤ mc) (hs : slots ≤ ms) :
    vx_W p l e R s m args below meth c H locs cells slots (vx_MQ below Qc XC args s mc ms free) (F0 m pc ls rest) q := by
  intro T hT X
  obtain ⟨st1, hrun, hend, hW, hsm⟩ := X.leaveThrown q (g := F0 m pc ls rest) rfl rfl rfl hout hlocks
  have hcell9 : (T.setFrames (.throwing q :: below)).heap[q]? = some ce := by
    show T.heap[q]? = some ce
    rw [hT]; exact hcell
  exact ⟨_, st1, .threw q, hrun, hend, Or.inr ⟨q, rfl, E, ce, locs, hx _ hT hW.alike, hcell9, hv, hcl, hW, hsm.mono hc hs, hf⟩⟩
theorem vx_frame {U : State} {k n : Nat} (h : s.sameButNew ({ U with vm := s.vm } : State) locs k n) : s.heap.size ≤ U.heap.size ∧ ∀ q : Nat, q < s.heap.size → (∀ z ∈ locs, z.base ≠ q) → U.heap[q]? = s.heap[q]? := by
  obtain ⟨-, h2, -, -, -, h6⟩ := h
  refine ⟨h2, fun q hq hz => ?_⟩
  obtain ⟨c9, e1, e2, e3, e4⟩ := h6 q _ (Array.getElem?_eq_getElem hq)
  have hs : c9.slots = (s.heap[q]).slots := Array.ext_getElem? fun i => e4 i fun hm => hz _ hm rfl
  have h9 : c9 = s.heap[q] := by
    rw [hs] at e2
    exact e2
  have e5 : U.heap[q]? = some c9 := e1
  rw [e5, h9, Array.getElem?_eq_getElem hq]
/-- the words of a throw but the four that speak of the heap -/
def vx_no (w : Cond) : Bool := decide (w ≠ .isRef (.static Bundle.tN "UNASSIGNED_STACK" Bundle.steD)) && decide (w ≠ .isRef (.static Bundle.tN "SUPPRESSED_SENTINEL" Bundle.listD)) && decide (w ≠ .laysStatic Bundle.tN "UNASSIGNED_STACK" Bundle.steD) && decide (w ≠ .laysStatic Bundle.tN "SUPPRESSED_SENTINEL" Bundle.listD)
def vx_at0 (own : String) (ic : Nat) (X : String) (names : List String) : List Cond := (Bundle.ownAtoms0 own ic X names).filter vx_no
def vx_atS (own : String) (ic : Nat) (X : String) (names : List String) : List Cond := (Bundle.ownAtoms own ic X names).filter vx_no
/-- a word that the tables alone decide, or a good one -/
def vx_ot (w : Cond) : Bool := w.onTables || goodWord w
theorem vx_ot_at {args a' : Array Value} {s U : State} {w : Cond} (hW : s.WarmedH U.vm) (hvm : s.vm = U.vm) (hg : vx_ot w = true) (h : w.before args s = true) : w.before a' U = true := by
  simp only [vx_ot, Bool.or_eq_true] at hg
  rcases hg with hg | hg
  · exact va_tabs hg hvm h
  · exact word_at hW (good_of_word hg) h
/-- a list's words: the good ones out of the method's own list, the others by premises of their own -/
theorem vx_hat {args : Array Value} {s : State} {L B : List Cond} (h1 : ∀ w ∈ L.filter goodWord, w.before args s = true) (h2 : ∀ w ∈ L.filter (fun w => !goodWord w), w ∈ B) (h3 : ∀ w ∈ B, w.before args s = true) : ∀ w ∈ L, w.before args s = true := by
  intro w hw
  by_cases g : goodWord w = true
  · exact h1 w (List.mem_filter.mpr ⟨hw, g⟩)
  · refine h3 w (h2 w (List.mem_filter.mpr ⟨hw, ?_⟩))
    show (!goodWord w) = true
    cases hgw : goodWord w
    · rfl
    · exact absurd hgw g
theorem vx_c {args : Array Value} {s : State} {w : Cond} {B : List Cond} (h : w.before args s = true) (t : ∀ w ∈ B, w.before args s = true) : ∀ w' ∈ w :: B, w'.before args s = true := fun w' h' => (List.mem_cons.mp h').elim (fun e => by rw [e]; exact h) (t w')
theorem vx_n {args : Array Value} {s : State} : ∀ w ∈ ([] : List Cond), w.before args s = true := fun _ h => nomatch h
theorem vx_own {args : Array Value} {s : State} {L : List Cond} (h1 : ∀ w ∈ L.filter vx_no, w.before args s = true)
    (hU : (Cond.isRef (.static Bundle.tN "UNASSIGNED_STACK" Bundle.steD)).before args s = true) (hN : (Cond.isRef (.static Bundle.tN "SUPPRESSED_SENTINEL" Bundle.listD)).before args s = true)
    (lU : (Cond.laysStatic Bundle.tN "UNASSIGNED_STACK" Bundle.steD).before args s = true) (lN : (Cond.laysStatic Bundle.tN "SUPPRESSED_SENTINEL" Bundle.listD).before args s = true) : ∀ w ∈ L, w.before args s = true := by
  intro w hw
  by_cases e1 : w = .isRef (.static Bundle.tN "UNASSIGNED_STACK" Bundle.steD)
  · rw [e1]; exact hU
  · by_cases e2 : w = .isRef (.static Bundle.tN "SUPPRESSED_SENTINEL" Bundle.listD)
    · rw [e2]; exact hN
    · by_cases e3 : w = .laysStatic Bundle.tN "UNASSIGNED_STACK" Bundle.steD
      · rw [e3]; exact lU
      · by_cases e4 : w = .laysStatic Bundle.tN "SUPPRESSED_SENTINEL" Bundle.listD
        · rw [e4]; exact lN
        · exact h1 w (List.mem_filter.mpr ⟨hw, by unfold vx_no; rw [decide_eq_true e1, decide_eq_true e2, decide_eq_true e3, decide_eq_true e4]; rfl⟩)
/-- where a static field lies, its class's statics cell in H -/
def vx_L (C n d : String) (A : Nat → Prop) (U : State) (H : Heap) : Prop := ∃ (c : ClassId) (k : Class) (i : Nat) (f : Field) (a : Nat) (cell : Cell), U.vm.findClass C = some c ∧ U.fieldFound? C n d = some (c, k, i, f) ∧ f.isStatic = true ∧ k.statics = some a ∧ H[a]? = some cell ∧ cell.vm.isStatics = true ∧ cell.cls = c ∧ f.slot < cell.slots.size ∧ k.staticTypes[f.slot]? = some f.type ∧ ¬ A a
theorem vx_L.moved {C n d : String} {A : Nat → Prop} {u U : State} {H : Heap} (hvm : u.vm.Alike U.vm) (h : vx_L C n d A u H) : vx_L C n d A U H := by
  obtain ⟨c, k, i, f, a, cell, h1, h2, h3, h4, h5, h6, h7, h8, h9, h10⟩ := h
  obtain ⟨k', hi', he⟩ := State.fieldFound?_setVm hvm h2
  exact ⟨c, k', i, f, a, cell, by rw [hvm.findClass]; exact h1, hi', h3, by rw [he]; exact h4, h5, h6, h7, h8, by rw [he]; exact h9, h10⟩
theorem vx_L.kept {C n d : String} {A : Nat → Prop} {U : State} {H H1 : Heap} (h : vx_L C n d A U H) (hq : ∀ a : Nat, a < H.size → ¬ A a → H1[a]? = H[a]?) : vx_L C n d A U H1 := by
  obtain ⟨c, k, i, f, a, cell, h1, h2, h3, h4, h5, h6, h7, h8, h9, h10⟩ := h
  exact ⟨c, k, i, f, a, cell, h1, h2, h3, h4, by rw [hq a (Array.getElem?_eq_some_iff.mp h5).1 h10]; exact h5, h6, h7, h8, h9, h10⟩
theorem vx_L.narrow {C n d : String} {A B : Nat → Prop} {U : State} {H : Heap} (h : vx_L C n d A U H) (hAB : ∀ q, B q → A q) : vx_L C n d B U H := by
  obtain ⟨c, k, i, f, a, cell, h1, h2, h3, h4, h5, h6, h7, h8, h9, h10⟩ := h
  exact ⟨c, k, i, f, a, cell, h1, h2, h3, h4, h5, h6, h7, h8, h9, fun z => h10 (hAB _ z)⟩
theorem vx_L.word {C n d : String} {A : Nat → Prop} {s : State} {args : Array Value} (h : vx_L C n d A s s.heap) : (Cond.laysStatic C n d).before args s = true := by
  obtain ⟨c, k, i, f, a, cell, h1, h2, h3, h4, h5, h6, h7, h8, h9, -⟩ := h
  show (Cond.laysStatic C n d).holds args s none s [] = true
  exact Cond.laysStatic_of h1 h2 h3 h4 h5 h6 h7 h8 h9
/-- .. and what it holds: null or some reference -/
def vx_Zq (C n d : String) (A : Nat → Prop) (U : State) (H : Heap) : Prop := va_Zq C n d A U H ∧ vx_L C n d A U H
theorem vx_Zq.moved {C n d : String} {A : Nat → Prop} {u U : State} {H : Heap} (hvm : u.vm.Alike U.vm) (h : vx_Zq C n d A u H) : vx_Zq C n d A U H := ⟨va_Zq.moved hvm h.1, vx_L.moved hvm h.2⟩
theorem vx_Zq.kept {C n d : String} {A : Nat → Prop} {U : State} {H H1 : Heap} (h : vx_Zq C n d A U H) (hq : ∀ a : Nat, a < H.size → ¬ A a → H1[a]? = H[a]?) : vx_Zq C n d A U H1 := ⟨va_Zq.kept h.1 hq, vx_L.kept h.2 hq⟩
theorem vx_Zq.narrow {C n d : String} {A B : Nat → Prop} {U : State} {H : Heap} (h : vx_Zq C n d A U H) (hAB : ∀ q, B q → A q) : vx_Zq C n d B U H := ⟨va_Zq.narrow h.1 hAB, vx_L.narrow h.2 hAB⟩
theorem vx_Zqof {args : Array Value} {s : State} {C n d : String} {A : Nat → Prop} (hl : (Cond.laysStatic C n d).before args s = true) (hini : (Cond.initialized C).before args s = true) (h : (Cond.isRef (.static C n d)).before args s = true) (hA : ∀ a : Nat, a < s.heap.size → ¬ A a) : vx_Zq C n d A s s.heap := by
  refine ⟨va_Zqof hl hini h hA, ?_⟩
  obtain ⟨c, k, i, f, a, cell, h1, h2, h3, h4, h5, h6, h7, h8, h9⟩ := Cond.laysStatic_spec hl
  exact ⟨c, k, i, f, a, cell, h1, h2, h3, h4, h5, h6, h7, h8, h9, hA a (Array.getElem?_eq_some_iff.mp h5).1⟩
theorem vx_isRef {C n d : String} {v : Value} {A : Nat → Prop} {s : State} {args : Array Value} (h : va_Z C n d v A s s.heap) (hv : v.isRef = true) : (Cond.isRef (.static C n d)).before args s = true := by
  obtain ⟨cf, kf, fi, f, a, cell, h1, h2, h3, h4, h5, h6, h7, -⟩ := h
  have he : (Term.static C n d).eval args s none [] s = some v := by
    simp [Term.eval, State.fieldNamed?, h1, h2, h4, h5, h6, h7]
  simp only [Cond.before, Cond.holds, Cond.value, he]
  cases v <;> simp_all [Value.isRef]
theorem vx_isRefq {C n d : String} {A : Nat → Prop} {s : State} {args : Array Value} (h : va_Zq C n d A s s.heap) : (Cond.isRef (.static C n d)).before args s = true := by
  rcases h with h | ⟨t, h⟩
  · exact vx_isRef h rfl
  · exact vx_isRef h rfl
/-- the same frame, seen from here: as if the method were called anew in this heap -/
theorem vx_rebase {T : State} (X : Stand p l e R s m args below meth c T locs cells slots) {R' : Room} (hf : R'.frames ≤ R.frames) (hl : R'.locals ≤ R.locals) (hc : cells + R'.cells ≤ R.cells) (hs : slots + R'.slots ≤ R.slots) :
    Stand p l e R' ((T.setVm s.vm).setFrames (.invoking m args :: below)) m args below meth c T [] 0 0 := by
  have htop : (T.setVm s.vm).topJava?.isSome := X.here.top
  have hF : ((T.setVm s.vm).setFrames (.invoking m args :: below)).frames = .invoking m args :: below := State.frames_setFrames _ (State.cur_lt_of_top htop)
  obtain ⟨g₀, hg0⟩ := Option.isSome_iff_exists.mp htop
  obtain ⟨r, hr⟩ := State.topJava?_eq_some.mp hg0
  have hl9 : e.platform.stackLimits (T.setVm s.vm).me = e.platform.stackLimits s.me := X.limits
  have hb9 : (T.setVm s.vm).me.stackBytes = s.me.stackBytes := X.bytes
  refine ⟨X.admits, X.cas, X.clock, hF, ?_, X.hears, X.method, X.code, X.here, X.tail, X.warmed, ?_, ?_, ?_⟩
  · have h := X.room
    have hU : ((T.setVm s.vm).setFrames (.invoking m args :: below)).localsInUse = s.localsInUse := by
      rw [State.localsInUse_invoking hF (meth := meth) (c := c) X.method X.code, State.localsInUse_invoking X.frames X.method X.code]
    simp only [State.hasRoom, Bool.and_eq_true, decide_eq_true_eq] at h ⊢
    obtain ⟨⟨⟨⟨h1, h2, h3, h4, h5, h6⟩, h7⟩, h8⟩, h9⟩ := h
    rw [X.frames, List.length_cons] at h2 h3
    have q1 := X.heapSize
    have q2 := X.used
    simp only [hF, hU, List.length_cons, State.stackLimits_setFrames, State.stackBytes_setFrames, hl9, hb9]
    refine ⟨⟨⟨⟨by omega, by omega, by omega, by omega, by omega, h6⟩, ?_⟩, ?_⟩, X.book⟩
    · show T.heap.size + R'.cells ≤ e.platform.maxCells
      omega
    · show T.slotsUsed + R'.slots ≤ e.platform.maxSlots
      omega
  · rw [State.stackLimits_setFrames]; rfl
  · rw [State.stackBytes_setFrames]; rfl
  · refine ⟨?_, Nat.le_refl _, Nat.le_refl _, ?_, ?_, fun a c9 h9 => ⟨c9, h9, rfl, rfl, fun _ _ => rfl⟩⟩
    · obtain ⟨t, ht, -⟩ := State.frames_cons hr
      show T.setVm s.vm = { ((T.setVm s.vm).setFrames (.invoking m args :: below)).setFrames (T.setVm s.vm).frames with heap := T.heap, slotsUsed := T.slotsUsed }
      rw [State.setFrames_setFrames, State.setFrames_self ht]
      rfl
    · show T.slotsUsed = T.slotsUsed + ((T.heap.toList.drop T.heap.size).map (·.slots.size)).sum
      rw [List.drop_eq_nil_of_le (Nat.le_of_eq Array.length_toList)]
      rfl
    · show ((T.heap.toList.drop T.heap.size).map (·.slots.size)).sum ≤ 0
      rw [List.drop_eq_nil_of_le (Nat.le_of_eq Array.length_toList)]
      exact Nat.le_refl _
/-- 'throw new E()': new; dup; invokespecial; athrow -/
theorem vx_throw0 {cc : ByteArray} {pc : Nat} (hexec : p.tables.exec = Jvm.exec) (hb : c.code = cc) (hl : l.stackTraces = false) {own cls : String} {names : List String} {ik ic mc ms : Nat} {A : Nat → Prop}
    (hown : s.vm.findClass own = some m.cls) (hcls : Bundle.fit cls = true) (hnames : ∀ n ∈ names, Bundle.fit n = true)
    (hk : (Cond.classLink own ik cls).before args s = true) (hini : (Cond.initialized cls).before args s = true) (hat : ∀ w ∈ vx_at0 own ic cls names, w.before args s = true)
    (hgood : ∀ w ∈ Cond.classLink own ik cls :: Cond.initialized cls :: vx_at0 own ic cls names, vx_ot w = true)
    (hU : vx_Zq Bundle.tN "UNASSIGNED_STACK" Bundle.steD A s s.heap) (hN : vx_Zq Bundle.tN "SUPPRESSED_SENTINEL" Bundle.listD A s s.heap) (hS : va_S A s.heap H locs) (hsize : ls.size = c.maxLocals)
    (d0 : decode cc pc = .ok (.new ik, 3)) (d3 : decode cc (pc + 3) = .ok (.dup, 1)) (d4 : decode cc (pc + 4) = .ok (.invokespecial ic, 3)) (d7 : decode cc (pc + 7) = .ok (.athrow, 1))
    (hout : ∀ x ∈ c.exceptionTable.toList, covers x (pc + 7) = false)
    (hRframes : names.length + 3 < R.frames) (hRlocals : (rest.map fun v => v.category).sum + (13 * (names.length + 1) + 42) ≤ R.locals) (hRcells : cells + 1 ≤ R.cells) (hRslots : slots + 6 ≤ R.slots) (hlocks : meth.locks = false)
    (hx : ∀ t : State, s.vm.Alike t.vm → H.size ≤ t.heap.size → (∀ q : Nat, q < H.size → t.heap[q]? = H[q]?) → XC cls s t)
    (hf : ∀ z ∈ locs, free z.base) (hc : cells + 1 ≤ mc) (hs : slots + 6 ≤ ms) :
    W p l e R s m args below meth c H locs cells slots (vx_MQ below Qc XC args s mc ms free) (F0 m pc ls rest) := by
  intro T hT X
  have htr : e.platform.stackTraces = false := (show e.platform.stackTraces = l.stackTraces by rw [X.admits.platform]).trans hl
  have Y := vx_rebase X (R' := { frames := R.frames, locals := R.locals, cells := 1, slots := 6 }) (Nat.le_refl _) (Nat.le_refl _) hRcells hRslots
  obtain ⟨s', hA⟩ : ∃ z, z = (T.setVm s.vm).setFrames (.invoking m args :: below) := ⟨_, rfl⟩
  rw [← hA] at Y
  have hvm : s'.vm = s.vm := by rw [hA]; rfl
  have hhp : s'.heap = H := by rw [hA]; exact hT
  have hW0 : s.WarmedH s'.vm := by rw [hvm]; exact State.WarmedH.refl s
  have hat' : ∀ w ∈ vx_at0 own ic cls names, w.before args s' = true := fun w hw => vx_ot_at hW0 hvm.symm (hgood w (List.mem_cons_of_mem _ (List.mem_cons_of_mem _ hw))) (hat w hw)
  have hk' : (Cond.classLink own ik cls).before args s' = true := vx_ot_at hW0 hvm.symm (hgood _ List.mem_cons_self) hk
  have hini' : (Cond.initialized cls).before args s' = true := vx_ot_at hW0 hvm.symm (hgood _ (List.mem_cons_of_mem _ List.mem_cons_self)) hini
  have hU' : vx_Zq Bundle.tN "UNASSIGNED_STACK" Bundle.steD A s' s'.heap := by rw [hhp]; exact vx_Zq.moved hW0.alike (hU.kept hS.2.1)
  have hN' : vx_Zq Bundle.tN "SUPPRESSED_SENTINEL" Bundle.listD A s' s'.heap := by rw [hhp]; exact vx_Zq.moved hW0.alike (hN.kept hS.2.1)
  have h : ∀ w ∈ Bundle.ownAtoms0 own ic cls names, w.before args s' = true := vx_own hat' (vx_isRefq hU'.1) (vx_isRefq hN'.1) hU'.2.word hN'.2.word
  have hown' : s'.vm.findClass own = some m.cls := by rw [hvm]; exact hown
  have hins : (Cond.instantiable cls 6).before args s' = true := h _ (by simp [Bundle.ownAtoms0])
  obtain ⟨vm₁, cX, kX, hfX, hkX, -, -, X₁, st1⟩ := Y.newCold hexec (own := own) (C := cls) (index := ik) (n := 6) hown' hk' hins hini'
    (g := F0 m pc ls rest) rfl (by rw [hb]; exact d0) (Nat.le_refl _) (Nat.le_refl _)
  generalize hT1 : (T.setVm vm₁).pushCell { cls := cX, slots := kX.instanceTypes.map defaultValue, vm := .none } = T1 at X₁ st1
  have hcat : (Value.ref T.heap.size).category = 1 := rfl
  have hcellA : T1.heap[T.heap.size]? = some (freshCell cX kX) := by rw [← hT1]; exact State.heap_pushCell_size _ _
  have d3' : decode c.code (pc + 3) = .ok (.dup, 1) := by rw [hb]; exact d3
  obtain ⟨U, hsteps, hrun, hend, hW, hsame, ce, hce, hO⟩ := X₁.ctorThrow0 hexec htr (own := own) (cls := cls) (names := names) (ic := ic) hown' hcls hnames h (fun x hx => nomatch hx) hfX hkX hcellA (by rw [hhp, hT]; exact Nat.le_refl _)
    (g := { method := m, pc := pc + 4, locals := ls, stack := .ref T.heap.size :: .ref T.heap.size :: rest, locked := none }) rfl hsize rfl rfl (rest := rest) rfl
    (by rw [hb]; exact d4) (by rw [hb]; exact d7) hout hRframes (by simp only [List.map_cons, List.sum_cons, hcat]; omega) hlocks
  obtain ⟨f1, f2⟩ := vx_frame hsame
  rw [hhp] at f1 f2
  have hWs : s.WarmedH U.vm := State.WarmedH.trans hW0 hW
  have hcl : s.vm.findClass cls = some ce.cls := by
    have h9 := hO.cls
    rw [hvm] at h9
    exact h9
  have hall : s.sameButNew ({ U with vm := s.vm } : State) locs mc ms := by
    subst hA
    obtain ⟨e1, e2⟩ := hsame
    rw [State.setFrames_setFrames] at e1
    have h2 : (T.setVm s.vm).sameButNew ({ U with vm := s.vm } : State) [] (0 + 1) (0 + 6) := ⟨e1, e2⟩
    have h3 := X.same.trans h2
    rw [List.append_nil] at h3
    exact h3.mono hc hs
  refine ⟨U, ?_, .threw T.heap.size, hrun, hend, Or.inr ⟨T.heap.size, rfl, cls, ce, locs, hx U hWs.alike f1 (fun q hq => f2 q hq (fun z hz => nomatch hz)), hce, hO.vm, hcl, hWs, hall, hf⟩⟩
  refine st1 _ ?_
  show Steps p.tables e below (T1.setTop { method := m, pc := pc + 3, locals := ls, stack := .ref T.heap.size :: rest, locked := none }) _
  jvm_step X₁.here [X₁.here.top, hexec, d3', Value.category]
  exact hsteps
/-- 'throw new E("text")': new; dup; ldc; invokespecial; athrow -/
theorem vx_throwS {cc : ByteArray} {pc : Nat} (hexec : p.tables.exec = Jvm.exec) (hb : c.code = cc) (hl : l.stackTraces = false) {own cls text : String} {names : List String} {ik is ic mc ms sa : Nat} {A : Nat → Prop}
    (hown : s.vm.findClass own = some m.cls) (hcls : Bundle.fit cls = true) (hnames : ∀ n ∈ names, Bundle.fit n = true)
    (hk : (Cond.classLink own ik cls).before args s = true) (hini : (Cond.initialized cls).before args s = true) (hstr : vk_R own is text sa s) (hat : ∀ w ∈ vx_atS own ic cls names, w.before args s = true)
    (hgood : ∀ w ∈ Cond.classLink own ik cls :: Cond.initialized cls :: vx_atS own ic cls names, vx_ot w = true)
    (hU : vx_Zq Bundle.tN "UNASSIGNED_STACK" Bundle.steD A s s.heap) (hN : vx_Zq Bundle.tN "SUPPRESSED_SENTINEL" Bundle.listD A s s.heap) (hS : va_S A s.heap H locs) (hsize : ls.size = c.maxLocals)
    (d0 : decode cc pc = .ok (.new ik, 3)) (d3 : decode cc (pc + 3) = .ok (.dup, 1)) (d4 : decode cc (pc + 4) = .ok (.ldc is, 2)) (d6 : decode cc (pc + 6) = .ok (.invokespecial ic, 3)) (d9 : decode cc (pc + 9) = .ok (.athrow, 1))
    (hout : ∀ x ∈ c.exceptionTable.toList, covers x (pc + 9) = false)
    (hRframes : names.length + 3 < R.frames) (hRlocals : (rest.map fun v => v.category).sum + (13 * (names.length + 1) + 43) ≤ R.locals) (hRcells : cells + 1 ≤ R.cells) (hRslots : slots + 6 ≤ R.slots) (hlocks : meth.locks = false)
    (hx : ∀ t : State, s.vm.Alike t.vm → H.size ≤ t.heap.size → (∀ q : Nat, q < H.size → t.heap[q]? = H[q]?) → XC cls s t)
    (hf : ∀ z ∈ locs, free z.base) (hc : cells + 1 ≤ mc) (hs : slots + 6 ≤ ms) :
    W p l e R s m args below meth c H locs cells slots (vx_MQ below Qc XC args s mc ms free) (F0 m pc ls rest) := by
  intro T hT X
  have htr : e.platform.stackTraces = false := (show e.platform.stackTraces = l.stackTraces by rw [X.admits.platform]).trans hl
  have Y := vx_rebase X (R' := { frames := R.frames, locals := R.locals, cells := 1, slots := 6 }) (Nat.le_refl _) (Nat.le_refl _) hRcells hRslots
  obtain ⟨s', hA⟩ : ∃ z, z = (T.setVm s.vm).setFrames (.invoking m args :: below) := ⟨_, rfl⟩
  rw [← hA] at Y
  have hvm : s'.vm = s.vm := by rw [hA]; rfl
  have hhp : s'.heap = H := by rw [hA]; exact hT
  have hW0 : s.WarmedH s'.vm := by rw [hvm]; exact State.WarmedH.refl s
  have hat' : ∀ w ∈ vx_atS own ic cls names, w.before args s' = true := fun w hw => vx_ot_at hW0 hvm.symm (hgood w (List.mem_cons_of_mem _ (List.mem_cons_of_mem _ hw))) (hat w hw)
  have hk' : (Cond.classLink own ik cls).before args s' = true := vx_ot_at hW0 hvm.symm (hgood _ List.mem_cons_self) hk
  have hini' : (Cond.initialized cls).before args s' = true := vx_ot_at hW0 hvm.symm (hgood _ (List.mem_cons_of_mem _ List.mem_cons_self)) hini
  have hU' : vx_Zq Bundle.tN "UNASSIGNED_STACK" Bundle.steD A s' s'.heap := by rw [hhp]; exact vx_Zq.moved hW0.alike (hU.kept hS.2.1)
  have hN' : vx_Zq Bundle.tN "SUPPRESSED_SENTINEL" Bundle.listD A s' s'.heap := by rw [hhp]; exact vx_Zq.moved hW0.alike (hN.kept hS.2.1)
  have h : ∀ w ∈ Bundle.ownAtoms own ic cls names, w.before args s' = true := vx_own hat' (vx_isRefq hU'.1) (vx_isRefq hN'.1) hU'.2.word hN'.2.word
  have hown' : s'.vm.findClass own = some m.cls := by rw [hvm]; exact hown
  have hins : (Cond.instantiable cls 6).before args s' = true := h _ (by simp [Bundle.ownAtoms])
  obtain ⟨vm₁, cX, kX, hfX, hkX, -, -, X₁, st1⟩ := Y.newCold hexec (own := own) (C := cls) (index := ik) (n := 6) hown' hk' hins hini'
    (g := F0 m pc ls rest) rfl (by rw [hb]; exact d0) (Nat.le_refl _) (Nat.le_refl _)
  generalize hT1 : (T.setVm vm₁).pushCell { cls := cX, slots := kX.instanceTypes.map defaultValue, vm := .none } = T1 at X₁ st1
  have hcat : (Value.ref T.heap.size).category = 1 := rfl
  have hcellA : T1.heap[T.heap.size]? = some (freshCell cX kX) := by rw [← hT1]; exact State.heap_pushCell_size _ _
  have d3' : decode c.code (pc + 3) = .ok (.dup, 1) := by rw [hb]; exact d3
  have d4' : decode c.code (pc + 4) = .ok (.ldc is, 2) := by rw [hb]; exact d4
  have hstr' : vk_R own is text sa s' := vk_R.warm hW0 hstr
  obtain ⟨U, hsteps, hrun, hend, hW, hsame, ce, hce, hO⟩ := X₁.ctorThrowS hexec htr (own := own) (cls := cls) (names := names) (ic := ic) hown' hcls hnames h (fun x hx => nomatch hx) hfX hkX hcellA (by rw [hhp, hT]; exact Nat.le_refl _) (msg := .ref sa) rfl
    (g := { method := m, pc := pc + 6, locals := ls, stack := .ref sa :: .ref T.heap.size :: .ref T.heap.size :: rest, locked := none }) rfl hsize rfl rfl (rest := rest) rfl
    (by rw [hb]; exact d6) (by rw [hb]; exact d9) hout hRframes (by simp only [List.map_cons, List.sum_cons, hcat]; omega) hlocks
  obtain ⟨f1, f2⟩ := vx_frame hsame
  rw [hhp] at f1 f2
  have hWs : s.WarmedH U.vm := State.WarmedH.trans hW0 hW
  have hcl : s.vm.findClass cls = some ce.cls := by
    have h9 := hO.cls
    rw [hvm] at h9
    exact h9
  have hall : s.sameButNew ({ U with vm := s.vm } : State) locs mc ms := by
    subst hA
    obtain ⟨e1, e2⟩ := hsame
    rw [State.setFrames_setFrames] at e1
    have h2 : (T.setVm s.vm).sameButNew ({ U with vm := s.vm } : State) [] (0 + 1) (0 + 6) := ⟨e1, e2⟩
    have h3 := X.same.trans h2
    rw [List.append_nil] at h3
    exact h3.mono hc hs
  refine ⟨U, ?_, .threw T.heap.size, hrun, hend, Or.inr ⟨T.heap.size, rfl, cls, ce, locs, hx U hWs.alike f1 (fun q hq => f2 q hq (fun z hz => nomatch hz)), hce, hO.vm, hcl, hWs, hall, hf⟩⟩
  refine st1 _ ?_
  show Steps p.tables e below (T1.setTop { method := m, pc := pc + 3, locals := ls, stack := .ref T.heap.size :: rest, locked := none }) _
  jvm_step X₁.here [X₁.here.top, hexec, d3', Value.category]
  exact X₁.ldcString hexec (own := own) (text := text) (index := is) (a := sa) hown' hstr'.1 hstr'.2
    (g := { method := m, pc := pc + 4, locals := ls, stack := .ref T.heap.size :: .ref T.heap.size :: rest, locked := none }) rfl d4' _ hsteps
/-- 'throw new E("text")', the text by a wide index -/
theorem vx_throwSW {cc : ByteArray} {pc : Nat} (hexec : p.tables.exec = Jvm.exec) (hb : c.code = cc) (hl : l.stackTraces = false) {own cls text : String} {names : List String} {ik is ic mc ms sa : Nat} {A : Nat → Prop}
    (hown : s.vm.findClass own = some m.cls) (hcls : Bundle.fit cls = true) (hnames : ∀ n ∈ names, Bundle.fit n = true)
    (hk : (Cond.classLink own ik cls).before args s = true) (hini : (Cond.initialized cls).before args s = true) (hstr : vk_R own is text sa s) (hat : ∀ w ∈ vx_atS own ic cls names, w.before args s = true)
    (hgood : ∀ w ∈ Cond.classLink own ik cls :: Cond.initialized cls :: vx_atS own ic cls names, vx_ot w = true)
    (hU : vx_Zq Bundle.tN "UNASSIGNED_STACK" Bundle.steD A s s.heap) (hN : vx_Zq Bundle.tN "SUPPRESSED_SENTINEL" Bundle.listD A s s.heap) (hS : va_S A s.heap H locs) (hsize : ls.size = c.maxLocals)
    (d0 : decode cc pc = .ok (.new ik, 3)) (d3 : decode cc (pc + 3) = .ok (.dup, 1)) (d4 : decode cc (pc + 4) = .ok (.ldc_w is, 3)) (d7 : decode cc (pc + 7) = .ok (.invokespecial ic, 3)) (d10 : decode cc (pc + 10) = .ok (.athrow, 1))
    (hout : ∀ x ∈ c.exceptionTable.toList, covers x (pc + 10) = false)
    (hRframes : names.length + 3 < R.frames) (hRlocals : (rest.map fun v => v.category).sum + (13 * (names.length + 1) + 43) ≤ R.locals) (hRcells : cells + 1 ≤ R.cells) (hRslots : slots + 6 ≤ R.slots) (hlocks : meth.locks = false)
    (hx : ∀ t : State, s.vm.Alike t.vm → H.size ≤ t.heap.size → (∀ q : Nat, q < H.size → t.heap[q]? = H[q]?) → XC cls s t)
    (hf : ∀ z ∈ locs, free z.base) (hc : cells + 1 ≤ mc) (hs : slots + 6 ≤ ms) :
    W p l e R s m args below meth c H locs cells slots (vx_MQ below Qc XC args s mc ms free) (F0 m pc ls rest) := by
  intro T hT X
  have htr : e.platform.stackTraces = false := (show e.platform.stackTraces = l.stackTraces by rw [X.admits.platform]).trans hl
  have Y := vx_rebase X (R' := { frames := R.frames, locals := R.locals, cells := 1, slots := 6 }) (Nat.le_refl _) (Nat.le_refl _) hRcells hRslots
  obtain ⟨s', hA⟩ : ∃ z, z = (T.setVm s.vm).setFrames (.invoking m args :: below) := ⟨_, rfl⟩
  rw [← hA] at Y
  have hvm : s'.vm = s.vm := by rw [hA]; rfl
  have hhp : s'.heap = H := by rw [hA]; exact hT
  have hW0 : s.WarmedH s'.vm := by rw [hvm]; exact State.WarmedH.refl s
  have hat' : ∀ w ∈ vx_atS own ic cls names, w.before args s' = true := fun w hw => vx_ot_at hW0 hvm.symm (hgood w (List.mem_cons_of_mem _ (List.mem_cons_of_mem _ hw))) (hat w hw)
  have hk' : (Cond.classLink own ik cls).before args s' = true := vx_ot_at hW0 hvm.symm (hgood _ List.mem_cons_self) hk
  have hini' : (Cond.initialized cls).before args s' = true := vx_ot_at hW0 hvm.symm (hgood _ (List.mem_cons_of_mem _ List.mem_cons_self)) hini
  have hU' : vx_Zq Bundle.tN "UNASSIGNED_STACK" Bundle.steD A s' s'.heap := by rw [hhp]; exact vx_Zq.moved hW0.alike (hU.kept hS.2.1)
  have hN' : vx_Zq Bundle.tN "SUPPRESSED_SENTINEL" Bundle.listD A s' s'.heap := by rw [hhp]; exact vx_Zq.moved hW0.alike (hN.kept hS.2.1)
  have h : ∀ w ∈ Bundle.ownAtoms own ic cls names, w.before args s' = true := vx_own hat' (vx_isRefq hU'.1) (vx_isRefq hN'.1) hU'.2.word hN'.2.word
  have hown' : s'.vm.findClass own = some m.cls := by rw [hvm]; exact hown
  have hins : (Cond.instantiable cls 6).before args s' = true := h _ (by simp [Bundle.ownAtoms])
  obtain ⟨vm₁, cX, kX, hfX, hkX, -, -, X₁, st1⟩ := Y.newCold hexec (own := own) (C := cls) (index := ik) (n := 6) hown' hk' hins hini'
    (g := F0 m pc ls rest) rfl (by rw [hb]; exact d0) (Nat.le_refl _) (Nat.le_refl _)
  generalize hT1 : (T.setVm vm₁).pushCell { cls := cX, slots := kX.instanceTypes.map defaultValue, vm := .none } = T1 at X₁ st1
  have hcat : (Value.ref T.heap.size).category = 1 := rfl
  have hcellA : T1.heap[T.heap.size]? = some (freshCell cX kX) := by rw [← hT1]; exact State.heap_pushCell_size _ _
  have d3' : decode c.code (pc + 3) = .ok (.dup, 1) := by rw [hb]; exact d3
  have d4' : decode c.code (pc + 4) = .ok (.ldc_w is, 3) := by rw [hb]; exact d4
  have hstr' : vk_R own is text sa s' := vk_R.warm hW0 hstr
  obtain ⟨U, hsteps, hrun, hend, hW, hsame, ce, hce, hO⟩ := X₁.ctorThrowS hexec htr (own := own) (cls := cls) (names := names) (ic := ic) hown' hcls hnames h (fun x hx => nomatch hx) hfX hkX hcellA (by rw [hhp, hT]; exact Nat.le_refl _) (msg := .ref sa) rfl
    (g := { method := m, pc := pc + 7, locals := ls, stack := .ref sa :: .ref T.heap.size :: .ref T.heap.size :: rest, locked := none }) rfl hsize rfl rfl (rest := rest) rfl
    (by rw [hb]; exact d7) (by rw [hb]; exact d10) hout hRframes (by simp only [List.map_cons, List.sum_cons, hcat]; omega) hlocks
  obtain ⟨f1, f2⟩ := vx_frame hsame
  rw [hhp] at f1 f2
  have hWs : s.WarmedH U.vm := State.WarmedH.trans hW0 hW
  have hcl : s.vm.findClass cls = some ce.cls := by
    have h9 := hO.cls
    rw [hvm] at h9
    exact h9
  have hall : s.sameButNew ({ U with vm := s.vm } : State) locs mc ms := by
    subst hA
    obtain ⟨e1, e2⟩ := hsame
    rw [State.setFrames_setFrames] at e1
    have h2 : (T.setVm s.vm).sameButNew ({ U with vm := s.vm } : State) [] (0 + 1) (0 + 6) := ⟨e1, e2⟩
    have h3 := X.same.trans h2
    rw [List.append_nil] at h3
    exact h3.mono hc hs
  refine ⟨U, ?_, .threw T.heap.size, hrun, hend, Or.inr ⟨T.heap.size, rfl, cls, ce, locs, hx U hWs.alike f1 (fun q hq => f2 q hq (fun z hz => nomatch hz)), hce, hO.vm, hcl, hWs, hall, hf⟩⟩
  refine st1 _ ?_
  show Steps p.tables e below (T1.setTop { method := m, pc := pc + 3, locals := ls, stack := .ref T.heap.size :: rest, locked := none }) _
  jvm_step X₁.here [X₁.here.top, hexec, d3', Value.category]
  exact X₁.ldcStringW hexec (own := own) (text := text) (index := is) (a := sa) hown' hstr'.1 hstr'.2
    (g := { method := m, pc := pc + 4, locals := ls, stack := .ref T.heap.size :: .ref T.heap.size :: rest, locked := none }) rfl d4' _ hsteps
end Ends
section Bodies
variable {l : Launch}
theorem vx_ofW {y : MethodName} {ws ws' : List Cond} {rm : Room} {Pc : Array Value → State → Prop} {Qc : Array Value → State → Outcome → State → Prop} {XC : String → State → State → Prop} {mc ms : Nat} {free : Addr → Prop} {cc : ByteArray} {maxL : Nat} {ret : Option FieldType}
    (hy : plainName y.cls = true) (hw : ws = Cond.code y cc maxL ret :: ws')
    (body : ∀ p e s m args below meth c s₁, BodyLoose p l y (headSpec ws rm) cc maxL ret e s m args below meth c s₁ → c.maxLocals = maxL → (∀ x ∈ c.exceptionTable.toList, False) → Pc args s →
      W p l e (headSpec ws rm).room s m args below meth c s.heap [] 0 0 (vx_MQ below Qc XC args s mc ms free) (entryFrame m args maxL)) : vx_Met l y ws rm Pc Qc XC mc ms free := by
  refine MetFree.of_bodyS (code := cc) (maxLocals := maxL) (ret := ret) hy ?_ ?_
  · intro args s m h hn
    obtain ⟨meth, c, h1, h2, h3, h4, h5, h6, -, -⟩ := Cond.code_spec hn (atoms_spec (ws := ws) h _ (by rw [hw]; exact List.mem_cons_self))
    exact ⟨meth, c, h1, h2, h3, h4, h5, h6⟩
  · intro p e s m args below meth c s₁ B hml hP _
    have hh0 : s₁.heap = s.heap := by rw [B.state]; rfl
    have ht : ∀ x ∈ c.exceptionTable.toList, False := by
      obtain ⟨meth9, c9, h1, h2, -, -, -, -, h7, -⟩ := Cond.code_spec B.named (atoms_spec (ws := ws) B.pre _ (by rw [hw]; exact List.mem_cons_self))
      cases Option.some.inj (h1.symm.trans B.method)
      cases Option.some.inj (h2.symm.trans (Stand.of_body B).code)
      intro x hx
      rw [Array.isEmpty_iff.mp h7] at hx
      cases hx
    obtain ⟨t, a1, o, b1, b2, b3⟩ := body p e s m args below meth c s₁ B hml ht hP s₁ hh0 (Stand.of_body B)
    exact ⟨t, o, a1, b1, b2, b3⟩
/-- the table of a body with handlers -/
theorem vx_table {p : Program} {x y : MethodName} {S : Spec} {cc bytes : ByteArray} {maxL maxL' : Nat} {ret ret' : Option FieldType} {e : Env} {s s₁ : State} {m : MethodId} {args : Array Value} {below : List Frame} {meth : Method} {c : Code} {hh : List (Nat × Nat × Nat × Nat)}
    (B : BodyLoose p l y S cc maxL ret e s m args below meth c s₁) (h : (Cond.codeWith y bytes maxL' ret' hh).before args s = true) : c.exceptionTable.toList = tableOf hh := by
  obtain ⟨m9, meth9, c9, hn9, h1, h2, -, -, h6, -⟩ := Cond.codeWith_spec h
  cases Option.some.inj (hn9.symm.trans B.named)
  cases Option.some.inj (h1.symm.trans B.method)
  cases Option.some.inj (h2.symm.trans (Stand.of_body B).code)
  rw [← h6, table_eq]
end Bodies
end VXA
/-! ===== END ===== -/
/-! ===== BEGIN a static call of a method with an exception table ===== -/
section VXS
variable {p : Program} {l : Launch} {e : Env} {R : Room} {s : State} {m : MethodId} {args : Array Value} {below : List Frame} {meth : Method} {c : Code} {T : State} {H : Heap} {locs : List Loc} {cells slots : Nat}
abbrev vx_CSW (R : Room) (s : State) (args : Array Value) (own : String) (index : Nat) (y : MethodName) (bytes : ByteArray) (maxL : Nat) (ret : Option FieldType) (hh : List (Nat × Nat × Nat × Nat)) (ws : List Cond) (rm : Room) (mc ms n : Nat) : Prop :=
  (rm.cells = mc ∧ rm.slots = ms ∧ rm.frames + 1 ≤ R.frames ∧ 8 + (maxL + 11) + rm.locals ≤ R.locals ∧ (∀ w ∈ ws, ∀ (a' : Array Value) (U : State), s.WarmedH U.vm → w.before a' U = true) ∧ Cond.codeWith y bytes maxL ret hh ∈ ws) ∧
  (Cond.codeWith y bytes maxL ret hh).before args s = true ∧ (Cond.initialized y.cls).before args s = true ∧ (y.cls ≠ "java/lang/invoke/MethodHandle" ∧ y.cls ≠ "java/lang/invoke/VarHandle") ∧
  (∀ sig, parseMethodDescriptor y.desc = some sig → n = sig.parameters.length) ∧ (Cond.methodLink own index y).before args s = true ∧ (Cond.static y).before args s = true
theorem vx_cwSW {own : String} {index maxL mc ms : Nat} {y : MethodName} {bytes : ByteArray} {ret : Option FieldType} {hh : List (Nat × Nat × Nat × Nat)} {Ts ws ws' : List Cond} {rm : Room} (n : Nat) (ht : ∀ w ∈ Ts, w.before args s = true) (hT : GoodIn Ts (va_wsS own index y ws)) (hw : ws = Cond.codeWith y bytes maxL ret hh :: ws') (hrc : rm.cells = mc) (hrs : rm.slots = ms)
    (hd : y.cls ≠ "java/lang/invoke/MethodHandle" ∧ y.cls ≠ "java/lang/invoke/VarHandle" ∧ (parseMethodDescriptor y.desc).map (fun d => d.parameters.length) = some n) (hR : rm.frames + 1 ≤ R.frames ∧ 8 + (maxL + 11) + rm.locals ≤ R.locals) :
    vx_CSW R s args own index y bytes maxL ret hh ws rm mc ms n := by
  have ok : ∀ w ∈ va_wsS own index y ws, w.before args s = true := fun w h => ht w (hT w h).1
  have hG : GoodIn Ts ws := fun w h => hT w (by unfold va_wsS; exact List.mem_append_right _ h)
  have hc : Cond.codeWith y bytes maxL ret hh ∈ ws := by rw [hw]; exact List.mem_cons_self
  refine ⟨⟨hrc, hrs, hR.1, hR.2, pay_in ht hG, hc⟩, ht _ (hG _ hc).1, ok _ (by simp [va_wsS]), ⟨hd.1, hd.2.1⟩, fun sig h => ?_, ok _ (by simp [va_wsS]), ok _ (by simp [va_wsS])⟩
  have h2 := hd.2.2
  rw [h] at h2
  exact (Option.some.inj h2).symm
theorem vx_callSW (X : Stand p l e R s m args below meth c T locs cells slots) (hexec : p.tables.exec = Jvm.exec) {own : String} {index : Nat} {y : MethodName} {bytes : ByteArray} {maxL : Nat} {ret : Option FieldType} {hh : List (Nat × Nat × Nat × Nat)}
    (hown : s.vm.findClass own = some m.cls) (hlink : (Cond.methodLink own index y).before args s = true) (hstat : (Cond.static y).before args s = true) (hinit : (Cond.initialized y.cls).before args s = true)
    (hcode : (Cond.codeWith y bytes maxL ret hh).before args s = true) (hy : y.cls ≠ "java/lang/invoke/MethodHandle" ∧ y.cls ≠ "java/lang/invoke/VarHandle")
    {W9 : Nat} {Pre : Pt → Array Value → Prop} {Post : Pt → Array Value → Option Value → Pt → Prop} (hK : Back l R p e below s args y 3 W9 Pre Post)
    {g : JFrame} (hg : g.method = m) (hsize : g.locals.size = c.maxLocals) {argsL rest : List Value} (hlen : ∀ sig, parseMethodDescriptor y.desc = some sig → argsL.length = sig.parameters.length)
    (hstack : g.stack = argsL.reverse ++ rest) (hW : 2 * g.monitorRoom + (rest.map fun v => v.category).sum ≤ W9) (hdg : decode c.code g.pc = .ok (.invokestatic index, 3))
    (hpre : ∀ vm₁, s.WarmedH vm₁ → Pre ⟨T.setVm vm₁, locs, cells, slots⟩ argsL.toArray) :
    ∃ (v : Option Value) (vm₁ : Vm) (B : Pt), s.WarmedH vm₁ ∧ Stand p l e R s m args below meth c B.U B.locs B.cells B.slots ∧ Post ⟨T.setVm vm₁, locs, cells, slots⟩ argsL.toArray v B ∧
      ∀ target, Steps p.tables e below (B.U.setTop { g with pc := g.pc + 3, stack := v.toList ++ rest }) target → Steps p.tables e below (T.setTop g) target := by
  obtain ⟨mk, methM, cM, hnamed, hmethM, -, -, -, -, -, -, hsigM⟩ := Cond.codeWith_spec hcode
  have hstatic : methM.isStatic = true := Cond.static_spec hnamed hmethM hstat
  obtain ⟨kP, hkP, -⟩ := className_of_methodNamed hnamed
  have hinitP : kP.init = .initialized := Cond.initialized_spec (findClass_of_methodNamed hnamed) hkP hinit
  obtain ⟨vm₁, X₁, hstep₁⟩ := X.invokestatic hexec hown hlink hnamed hmethM hstatic hkP hinitP hy (g := g) hg (argsL := argsL) (rest := rest) (hlen _ hsigM) hstack hdg
  obtain ⟨v, B, X', hpost, hsteps⟩ := hK m meth c ⟨T.setVm vm₁, locs, cells, slots⟩ { g with stack := rest } (.invokestatic index) mk argsL.toArray X₁ hg hsize hdg hW (X₁.named hnamed) (hpre vm₁ X₁.warmed)
  exact ⟨v, vm₁, B, X₁.warmed, X', hpost, fun target h => hstep₁ _ fun acts => by rw [doInvoke_state]; exact hsteps.trans h⟩
theorem vx_runSW {y : MethodName} {bytes cc : ByteArray} {maxL nL mc ms n index : Nat} {ret : Option FieldType} {hh : List (Nat × Nat × Nat × Nat)} {ws : List Cond} {rm : Room} {Pc : Array Value → State → Prop} {Qc : Array Value → State → Outcome → State → Prop} {free : Addr → Prop} {Ts : List Cond} {own : String} {As rest : List Value} {g : JFrame}
    (S : CallFix p m c cc nL s args Ts own) (hM : Met l y ws rm Pc Qc mc ms free) (cw : vx_CSW R s args own index y bytes maxL ret hh ws rm mc ms n) (hp : PreS s H Pc As)
    (hg : g.method = m) (hn : As.length = n) (hsize : g.locals.size = nL) (hstack : g.stack = As.reverse ++ rest) (hW : 2 * g.monitorRoom + (rest.map fun v => v.category).sum ≤ 8) (hdg : decode cc g.pc = .ok (.invokestatic index, 3)) (hf : cells + mc ≤ R.cells ∧ slots + ms ≤ R.slots) :
    va_Run p l e R s m args below meth c H locs cells slots mc ms g rest (Qc As.toArray) (free) := by
  obtain ⟨⟨hrc, hrs, hfr, hlo, hws, hcw⟩, hcode, hini, hy, hlen, hl, hstt⟩ := cw
  have hK : Back l R p e below s args y 3 8 (PreOf R mc ms Pc) (PostOf Qc mc ms free) := va_backW (hh := hh) (bytes := bytes) (maxL := maxL) (ret := ret) hM hp.1 hrc hrs hfr hlo hws hcw (fun a' U hW => word_at hW (Or.inl (by first | rfl | simp [Cond.onTables, Cond.keeps, Cond.steady])) hini)
  obtain ⟨hx, hb, hml, ho, -⟩ := S
  intro T hT X
  obtain ⟨v, vm₁, ⟨U', l2, c2, s2⟩, hW₁, X', ⟨g', mk, t, L, e1, e2, hq, h1, hL, h2, h3⟩, st⟩ := vx_callSW X hx (hh := hh) (bytes := bytes) (maxL := maxL) (ret := ret) ho hl hstt hini hcode hy hK hg (hsize.trans hml.symm) (argsL := As) (rest := rest) (fun sig h => hn.trans (hlen sig h)) hstack hW (by rw [hb]; exact hdg)
    (fun vm₁ hW₁ => ⟨hf.1, hf.2, hp.2 (T.setVm vm₁) hT hW₁⟩)
  dsimp only [Pt.U, Pt.locs, Pt.cells, Pt.slots] at X' e1 e2 h1 h2 h3 st
  subst h1; subst h2; subst h3
  exact ⟨v, (T.setVm vm₁).calling g' mk As.toArray, t, U', L, hT, X', hL, e1, e2, hq, st⟩
/-- a thing of a world lies in the heap -/
theorem vx_lt {D : va_G} {cl : List vw_C} {ws : va_W} {H1 : Heap} (h : va_P D cl ws H1) {k : Nat} {q : Nat × va_E} (hk : ws[k]? = some q) : q.1 < H1.size := (h k q hk).lt
end VXS
/-! ===== END ===== -/
/-! ===== BEGIN methods with a table of their own: called by a name, returning or throwing ===== -/
section VXH
/-! vx_backW, vx_callVX, vx_callSX, vx_callVW, vx_runVW, vx_runVX, vx_runSX, vx_ofWH follow the same proofs as their sisters above (Free/Laws.lean, Shelf42/LK1.lean); vx_outP calls Shelf42/NT130.lean (outThrough). -/
section
variable {l : Launch} {R : Room} {p : Program} {e : Env} {below : List Frame} {s : State} {sargs : Array Value} {y : MethodName} {len W9 : Nat}
theorem vx_backW {ws : List Cond} {rm : Room} {Pc : Array Value → State → Prop} {Qc : Array Value → State → Outcome → State → Prop} {XC : String → State → State → Prop} {mc ms : Nat} {free : Addr → Prop} {bytes : ByteArray} {maxL : Nat} {ret : Option FieldType} {hh : List (Nat × Nat × Nat × Nat)}
    (hM : vx_Met l y ws rm Pc Qc XC mc ms free) (hblind : FrameBlind Pc) (hrc : rm.cells = mc) (hrs : rm.slots = ms)
    (hframes : rm.frames + 1 ≤ R.frames) (hlocals : W9 + (maxL + 11) + rm.locals ≤ R.locals)
    (hws : ∀ w ∈ ws, ∀ a' U, s.WarmedH U.vm → w.before a' U = true) (hcode : Cond.codeWith y bytes maxL ret hh ∈ ws) (hinit : ∀ a' U, s.WarmedH U.vm → (Cond.initialized y.cls).before a' U = true) :
    vx_Back l R p e below s sargs y len W9 (PreOf R mc ms Pc) (PostOf Qc mc ms free) (vx_Post XC mc ms free) := by
  intro m meth c A g ig mk a X hg hsize hdg hW hn hp
  have h1 : (headSpec ws rm).pre.before a A.U = true := atoms_intro fun w hw => hws w hw _ _ X.warmed
  have h2 : (Cond.codeWith y bytes maxL ret hh).before a A.U = true := hws _ hcode _ _ X.warmed
  have h3 : (Cond.initialized y.cls).before a A.U = true := hinit _ _ X.warmed
  have h4 : A.cells + (headSpec ws rm).room.cells ≤ R.cells := by rw [show (headSpec ws rm).room.cells = mc from hrc]; exact hp.1
  have h5 : A.slots + (headSpec ws rm).room.slots ≤ R.slots := by rw [show (headSpec ws rm).room.slots = ms from hrs]; exact hp.2.1
  have hPc : Pc a (A.U.calling g mk a) := hblind _ _ _ _ hp.2.2
  obtain ⟨U, Ls, c0, s0⟩ := A
  dsimp only [Pt.U, Pt.locs, Pt.cells, Pt.slots] at h1 h2 h3 h4 h5 X hn hPc ⊢
  obtain ⟨m9, methY, cY, hn9, hmY, hcY, -, hlY, -⟩ := Cond.codeWith_spec h2
  cases Option.some.inj (hn9.symm.trans hn)
  obtain ⟨kY, hkY, -⟩ := className_of_methodNamed hn
  have hinitY : kY.init = .initialized := Cond.initialized_spec (findClass_of_methodNamed hn) hkY h3
  have h : At U g.method c below := by rw [hg]; exact X.here
  have hlocals9 : W9 + (maxL + 11) + (headSpec ws rm).room.locals ≤ R.locals := hlocals
  have happ : (headSpec ws rm).appliesLoose y e.platform (U.calling g mk a) = true :=
    Spec.appliesLoose_calling (g := g) h hdg hn hkY hinitY
      (X.room_calling (g := g) (R' := (headSpec ws rm).room) hsize hmY hcY hframes (by rw [hlY]; omega) h4 h5) h1
  obtain ⟨mid, hmid⟩ := h.above
  have hfr : (U.setTop g).frames = (.java g :: mid) ++ below := by rw [State.frames_setTop' g h.top, hmid]; rfl
  obtain ⟨o, s₂, hsteps, -, hend, hq⟩ := Steps.callFree hM p X.admits X.cas X.clock (acts := []) hfr happ hPc trivial
  have hq' : vx_Q Qc XC mc ms free a (U.calling g mk a) o s₂ := hq
  rw [State.frames_setTop' g h.top] at hend
  obtain ⟨g₀, hg0⟩ := Option.isSome_iff_exists.mp h.top
  obtain ⟨r, hr⟩ := State.topJava?_eq_some.mp hg0
  have hr' : (({ U with heap := s₂.heap, slotsUsed := s₂.slotsUsed } : State).setVm s₂.vm).frames = .java g₀ :: r := hr
  rcases hq' with ⟨hqc, L, hfe, hL⟩ | ⟨q, rfl, E, ce, L, hx, hce, hcv, hcl, hW₂, hsm, hL⟩
  · obtain ⟨⟨v, rfl⟩, hW₂, e2, q2, q3, q4, q5, q6⟩ := id hfe
    have e3 : s₂ = ({ (U.calling g mk a).setFrames s₂.frames with heap := s₂.heap, slotsUsed := s₂.slotsUsed } : State).setVm s₂.vm := by
      have : s₂ = ({ s₂ with vm := (U.calling g mk a).vm } : State).setVm s₂.vm := rfl
      rw [e2] at this
      exact this
    obtain ⟨c₂, i₂, len₂, hc₂, hd₂, hf₂⟩ := hend
    have hW' : U.WarmedH s₂.vm := hW₂
    have hcc : c₂ = c := by
      have h1 : s₂.code? g.method = U.code? g.method := by
        rw [State.code?_eq, State.code?_eq, hW'.alike.method?]
      exact Option.some.inj (hc₂.symm.trans (h1.trans h.code))
    subst hcc
    have hlen : len₂ = len := by rw [hdg] at hd₂; cases hd₂; rfl
    subst hlen
    have hs₂ : s₂ = (({ U with heap := s₂.heap, slotsUsed := s₂.slotsUsed } : State).setVm s₂.vm).setTop { g with pc := g.pc + len₂, stack := v.toList ++ g.stack } := by
      refine e3.trans ?_
      rw [hf₂, State.calling_eq h.top, State.setFrames_setFrames, State.setTop_of_frames _ hr', hr]
      rfl
    have hsame : U.sameButNew ({ U with heap := s₂.heap, slotsUsed := s₂.slotsUsed } : State) L mc ms := by
      refine ⟨?_, q2, q3, q4, q5, q6⟩
      obtain ⟨t, ht, -⟩ := State.frames_cons hr
      show ({ U with heap := s₂.heap, slotsUsed := s₂.slotsUsed } : State) = { U.setFrames U.frames with heap := s₂.heap, slotsUsed := s₂.slotsUsed }
      rw [State.setFrames_self ht]
    subst hg
    refine Or.inl ⟨v, ⟨(({ U with heap := s₂.heap, slotsUsed := s₂.slotsUsed } : State).setVm s₂.vm), Ls ++ L, c0 + mc, s0 + ms⟩,
      ⟨X.admits, X.cas, X.clock, X.frames, X.room, X.hears, X.method, X.code, (X.here.setHeapUsed s₂.heap s₂.slotsUsed).setVm hW'.alike, X.tail, State.WarmedH.trans X.warmed hW', X.limits, X.bytes, X.same.trans (hsame.setVm s.vm)⟩,
      ⟨g, mk, s₂, L, rfl, rfl, hqc, rfl, hL, rfl, rfl⟩, ?_⟩
    show Steps p.tables e below _ ((({ U with heap := s₂.heap, slotsUsed := s₂.slotsUsed } : State).setVm s₂.vm).setTop { g with pc := g.pc + len₂, stack := v.toList ++ g.stack })
    rw [← hs₂]
    exact hsteps
  · obtain ⟨e2, q2, q3, q4, q5, q6⟩ := id hsm
    have e3 : s₂ = ({ (U.calling g mk a).setFrames s₂.frames with heap := s₂.heap, slotsUsed := s₂.slotsUsed } : State).setVm s₂.vm := by
      have : s₂ = ({ s₂ with vm := (U.calling g mk a).vm } : State).setVm s₂.vm := rfl
      rw [e2] at this
      exact this
    have hf₂ : s₂.frames = .throwing q :: .java g :: U.frames.tail := hend
    have hW' : U.WarmedH s₂.vm := hW₂
    have hs₂ : s₂ = ((({ U with heap := s₂.heap, slotsUsed := s₂.slotsUsed } : State).setVm s₂.vm).setTop g).pushFrame (.throwing q) := by
      refine e3.trans ?_
      rw [hf₂, State.calling_eq h.top, State.setFrames_setFrames, State.pushFrame, State.frames_setTop _ hr', State.setTop_of_frames _ hr', State.setFrames_setFrames, hr]
      rfl
    have hsame : U.sameButNew ({ U with heap := s₂.heap, slotsUsed := s₂.slotsUsed } : State) L mc ms := by
      refine ⟨?_, q2, q3, q4, q5, q6⟩
      obtain ⟨t, ht, -⟩ := State.frames_cons hr
      show ({ U with heap := s₂.heap, slotsUsed := s₂.slotsUsed } : State) = { U.setFrames U.frames with heap := s₂.heap, slotsUsed := s₂.slotsUsed }
      rw [State.setFrames_self ht]
    subst hg
    refine Or.inr ⟨q, ⟨(({ U with heap := s₂.heap, slotsUsed := s₂.slotsUsed } : State).setVm s₂.vm), Ls ++ L, c0 + mc, s0 + ms⟩,
      ⟨X.admits, X.cas, X.clock, X.frames, X.room, X.hears, X.method, X.code, (X.here.setHeapUsed s₂.heap s₂.slotsUsed).setVm hW'.alike, X.tail, State.WarmedH.trans X.warmed hW', X.limits, X.bytes, X.same.trans (hsame.setVm s.vm)⟩,
      ⟨g, mk, s₂, L, E, ce, rfl, rfl, hx, hce, hcv, hcl, rfl, hL, rfl, rfl⟩, ?_⟩
    show Steps p.tables e below _ (((({ U with heap := s₂.heap, slotsUsed := s₂.slotsUsed } : State).setVm s₂.vm).setTop g).pushFrame (.throwing q))
    rw [← hs₂]
    exact hsteps
end
variable {p : Program} {l : Launch} {e : Env} {R : Room} {s : State} {m : MethodId} {args : Array Value} {below : List Frame} {meth : Method} {c : Code} {T : State} {H : Heap} {locs : List Loc} {cells slots : Nat}
theorem vx_callVX (X : Stand p l e R s m args below meth c T locs cells slots) (hexec : p.tables.exec = Jvm.exec) {own C : String} {index : Nat} {y : MethodName} {bytes : ByteArray} {maxL : Nat} {ret : Option FieldType} {hh : List (Nat × Nat × Nat × Nat)}
    (hown : s.vm.findClass own = some m.cls) (hlink : (Cond.methodLink own index y).before args s = true) (hinst : (Cond.instanceMethod y).before args s = true) (hsel : (Cond.selects C y y).before args s = true)
    (hcode : (Cond.codeWith y bytes maxL ret hh).before args s = true) (hy : y.cls ≠ "java/lang/invoke/MethodHandle" ∧ y.cls ≠ "java/lang/invoke/VarHandle")
    {W9 : Nat} {Pre : Pt → Array Value → Prop} {Post : Pt → Array Value → Option Value → Pt → Prop} {PostX : Pt → Array Value → Addr → Pt → Prop} (hK : vx_Back l R p e below s args y 3 W9 Pre Post PostX)
    {b : Addr} {cellB : Cell} (hcell : T.heap[b]? = some cellB) (hobj : cellB.vm.isStatics = false) (hcls : s.vm.findClass C = some cellB.cls)
    {g : JFrame} (hg : g.method = m) (hsize : g.locals.size = c.maxLocals) {argsL rest : List Value} (hlen : ∀ sig, parseMethodDescriptor y.desc = some sig → argsL.length = sig.parameters.length)
    (hstack : g.stack = argsL.reverse ++ .ref b :: rest) (hW : 2 * g.monitorRoom + (rest.map fun v => v.category).sum ≤ W9) (hdg : decode c.code g.pc = .ok (.invokevirtual index, 3))
    (hpre : ∀ vm₁, s.WarmedH vm₁ → Pre ⟨T.setVm vm₁, locs, cells, slots⟩ (Value.ref b :: argsL).toArray) :
    (∃ (v : Option Value) (vm₁ : Vm) (B : Pt), s.WarmedH vm₁ ∧ Stand p l e R s m args below meth c B.U B.locs B.cells B.slots ∧ Post ⟨T.setVm vm₁, locs, cells, slots⟩ (Value.ref b :: argsL).toArray v B ∧
      ∀ target, Steps p.tables e below (B.U.setTop { g with pc := g.pc + 3, stack := v.toList ++ rest }) target → Steps p.tables e below (T.setTop g) target) ∨
    (∃ (q : Addr) (vm₁ : Vm) (B : Pt), s.WarmedH vm₁ ∧ Stand p l e R s m args below meth c B.U B.locs B.cells B.slots ∧ PostX ⟨T.setVm vm₁, locs, cells, slots⟩ (Value.ref b :: argsL).toArray q B ∧
      Steps p.tables e below (T.setTop g) ((B.U.setTop { g with stack := rest }).pushFrame (.throwing q))) := by
  obtain ⟨mk, methM, hnamed, hmethM, hstM, habM⟩ := Cond.instanceMethod_spec hinst
  obtain ⟨m8, methM', cM, hn8, hmethM', -, -, -, -, -, -, hsigM⟩ := Cond.codeWith_spec hcode
  cases Option.some.inj (hn8.symm.trans hnamed)
  cases hmethM.symm.trans hmethM'
  obtain ⟨c2, r2, m2, q1, q2, q3, q4, kP, hkP, hkPi⟩ := Cond.selects_spec hsel
  cases hcls.symm.trans q1
  cases (State.methodFound?_of_named hnamed hy).symm.trans q2
  cases hnamed.symm.trans q3
  have hselP : selectMethod e.platform s.vm cellB.cls mk = .method mk := by rw [Launch.admits_selectMethod X.admits]; exact q4
  obtain ⟨vm₁, X₁, hstep₁⟩ := X.invokevirtual hexec hown hlink hnamed hmethM hstM hkP hkPi hy (a := b) (cell := cellB) hcell
    (fun z h => by rw [h] at hobj; cases hobj) hselP hmethM habM hkP hkPi (g := g) hg (argsL := argsL) (rest := rest) (hlen _ hsigM) hstack hdg
  rcases hK m meth c ⟨T.setVm vm₁, locs, cells, slots⟩ { g with stack := rest } (.invokevirtual index) mk (Value.ref b :: argsL).toArray X₁ hg hsize hdg hW (X₁.named hnamed) (hpre vm₁ X₁.warmed) with ⟨v, B, X', hpost, hsteps⟩ | ⟨q, B, X', hpost, hsteps⟩
  · exact Or.inl ⟨v, vm₁, B, X₁.warmed, X', hpost, fun target h => hstep₁ _ fun acts => by rw [doInvoke_state]; exact hsteps.trans h⟩
  · exact Or.inr ⟨q, vm₁, B, X₁.warmed, X', hpost, hstep₁ _ fun acts => by rw [doInvoke_state]; exact hsteps⟩
theorem vx_callSX (X : Stand p l e R s m args below meth c T locs cells slots) (hexec : p.tables.exec = Jvm.exec) {own : String} {index : Nat} {y : MethodName} {bytes : ByteArray} {maxL : Nat} {ret : Option FieldType} {hh : List (Nat × Nat × Nat × Nat)}
    (hown : s.vm.findClass own = some m.cls) (hlink : (Cond.methodLink own index y).before args s = true) (hstat : (Cond.static y).before args s = true) (hinit : (Cond.initialized y.cls).before args s = true)
    (hcode : (Cond.codeWith y bytes maxL ret hh).before args s = true) (hy : y.cls ≠ "java/lang/invoke/MethodHandle" ∧ y.cls ≠ "java/lang/invoke/VarHandle")
    {W9 : Nat} {Pre : Pt → Array Value → Prop} {Post : Pt → Array Value → Option Value → Pt → Prop} {PostX : Pt → Array Value → Addr → Pt → Prop} (hK : vx_Back l R p e below s args y 3 W9 Pre Post PostX)
    {g : JFrame} (hg : g.method = m) (hsize : g.locals.size = c.maxLocals) {argsL rest : List Value} (hlen : ∀ sig, parseMethodDescriptor y.desc = some sig → argsL.length = sig.parameters.length)
    (hstack : g.stack = argsL.reverse ++ rest) (hW : 2 * g.monitorRoom + (rest.map fun v => v.category).sum ≤ W9) (hdg : decode c.code g.pc = .ok (.invokestatic index, 3))
    (hpre : ∀ vm₁, s.WarmedH vm₁ → Pre ⟨T.setVm vm₁, locs, cells, slots⟩ argsL.toArray) :
    (∃ (v : Option Value) (vm₁ : Vm) (B : Pt), s.WarmedH vm₁ ∧ Stand p l e R s m args below meth c B.U B.locs B.cells B.slots ∧ Post ⟨T.setVm vm₁, locs, cells, slots⟩ argsL.toArray v B ∧
      ∀ target, Steps p.tables e below (B.U.setTop { g with pc := g.pc + 3, stack := v.toList ++ rest }) target → Steps p.tables e below (T.setTop g) target) ∨
    (∃ (q : Addr) (vm₁ : Vm) (B : Pt), s.WarmedH vm₁ ∧ Stand p l e R s m args below meth c B.U B.locs B.cells B.slots ∧ PostX ⟨T.setVm vm₁, locs, cells, slots⟩ argsL.toArray q B ∧
      Steps p.tables e below (T.setTop g) ((B.U.setTop { g with stack := rest }).pushFrame (.throwing q))) := by
  obtain ⟨mk, methM, cM, hnamed, hmethM, -, -, -, -, -, -, hsigM⟩ := Cond.codeWith_spec hcode
  have hstatic : methM.isStatic = true := Cond.static_spec hnamed hmethM hstat
  obtain ⟨kP, hkP, -⟩ := className_of_methodNamed hnamed
  have hinitP : kP.init = .initialized := Cond.initialized_spec (findClass_of_methodNamed hnamed) hkP hinit
  obtain ⟨vm₁, X₁, hstep₁⟩ := X.invokestatic hexec hown hlink hnamed hmethM hstatic hkP hinitP hy (g := g) hg (argsL := argsL) (rest := rest) (hlen _ hsigM) hstack hdg
  rcases hK m meth c ⟨T.setVm vm₁, locs, cells, slots⟩ { g with stack := rest } (.invokestatic index) mk argsL.toArray X₁ hg hsize hdg hW (X₁.named hnamed) (hpre vm₁ X₁.warmed) with ⟨v, B, X', hpost, hsteps⟩ | ⟨q, B, X', hpost, hsteps⟩
  · exact Or.inl ⟨v, vm₁, B, X₁.warmed, X', hpost, fun target h => hstep₁ _ fun acts => by rw [doInvoke_state]; exact hsteps.trans h⟩
  · exact Or.inr ⟨q, vm₁, B, X₁.warmed, X', hpost, hstep₁ _ fun acts => by rw [doInvoke_state]; exact hsteps⟩
theorem vx_callVW (X : Stand p l e R s m args below meth c T locs cells slots) (hexec : p.tables.exec = Jvm.exec) {own C : String} {index : Nat} {y : MethodName} {bytes : ByteArray} {maxL : Nat} {ret : Option FieldType} {hh : List (Nat × Nat × Nat × Nat)}
    (hown : s.vm.findClass own = some m.cls) (hlink : (Cond.methodLink own index y).before args s = true) (hinst : (Cond.instanceMethod y).before args s = true) (hsel : (Cond.selects C y y).before args s = true)
    (hcode : (Cond.codeWith y bytes maxL ret hh).before args s = true) (hy : y.cls ≠ "java/lang/invoke/MethodHandle" ∧ y.cls ≠ "java/lang/invoke/VarHandle")
    {W9 : Nat} {Pre : Pt → Array Value → Prop} {Post : Pt → Array Value → Option Value → Pt → Prop} (hK : Back l R p e below s args y 3 W9 Pre Post)
    {b : Addr} {cellB : Cell} (hcell : T.heap[b]? = some cellB) (hobj : cellB.vm.isStatics = false) (hcls : s.vm.findClass C = some cellB.cls)
    {g : JFrame} (hg : g.method = m) (hsize : g.locals.size = c.maxLocals) {argsL rest : List Value} (hlen : ∀ sig, parseMethodDescriptor y.desc = some sig → argsL.length = sig.parameters.length)
    (hstack : g.stack = argsL.reverse ++ .ref b :: rest) (hW : 2 * g.monitorRoom + (rest.map fun v => v.category).sum ≤ W9) (hdg : decode c.code g.pc = .ok (.invokevirtual index, 3))
    (hpre : ∀ vm₁, s.WarmedH vm₁ → Pre ⟨T.setVm vm₁, locs, cells, slots⟩ (Value.ref b :: argsL).toArray) :
    ∃ (v : Option Value) (vm₁ : Vm) (B : Pt), s.WarmedH vm₁ ∧ Stand p l e R s m args below meth c B.U B.locs B.cells B.slots ∧ Post ⟨T.setVm vm₁, locs, cells, slots⟩ (Value.ref b :: argsL).toArray v B ∧
      ∀ target, Steps p.tables e below (B.U.setTop { g with pc := g.pc + 3, stack := v.toList ++ rest }) target → Steps p.tables e below (T.setTop g) target := by
  obtain ⟨mk, methM, hnamed, hmethM, hstM, habM⟩ := Cond.instanceMethod_spec hinst
  obtain ⟨m8, methM', cM, hn8, hmethM', -, -, -, -, -, -, hsigM⟩ := Cond.codeWith_spec hcode
  cases Option.some.inj (hn8.symm.trans hnamed)
  cases hmethM.symm.trans hmethM'
  obtain ⟨c2, r2, m2, q1, q2, q3, q4, kP, hkP, hkPi⟩ := Cond.selects_spec hsel
  cases hcls.symm.trans q1
  cases (State.methodFound?_of_named hnamed hy).symm.trans q2
  cases hnamed.symm.trans q3
  have hselP : selectMethod e.platform s.vm cellB.cls mk = .method mk := by rw [Launch.admits_selectMethod X.admits]; exact q4
  obtain ⟨vm₁, X₁, hstep₁⟩ := X.invokevirtual hexec hown hlink hnamed hmethM hstM hkP hkPi hy (a := b) (cell := cellB) hcell
    (fun z h => by rw [h] at hobj; cases hobj) hselP hmethM habM hkP hkPi (g := g) hg (argsL := argsL) (rest := rest) (hlen _ hsigM) hstack hdg
  obtain ⟨v, B, X', hpost, hsteps⟩ := hK m meth c ⟨T.setVm vm₁, locs, cells, slots⟩ { g with stack := rest } (.invokevirtual index) mk (Value.ref b :: argsL).toArray X₁ hg hsize hdg hW (X₁.named hnamed) (hpre vm₁ X₁.warmed)
  exact ⟨v, vm₁, B, X₁.warmed, X', hpost, fun target h => hstep₁ _ fun acts => by rw [doInvoke_state]; exact hsteps.trans h⟩
abbrev vx_CVW (R : Room) (s : State) (args : Array Value) (own C : String) (index : Nat) (y : MethodName) (bytes : ByteArray) (maxL : Nat) (ret : Option FieldType) (hh : List (Nat × Nat × Nat × Nat)) (ws : List Cond) (rm : Room) (mc ms n : Nat) : Prop :=
  (rm.cells = mc ∧ rm.slots = ms ∧ rm.frames + 1 ≤ R.frames ∧ 8 + (maxL + 11) + rm.locals ≤ R.locals ∧ (∀ w ∈ ws, ∀ (a' : Array Value) (U : State), s.WarmedH U.vm → w.before a' U = true) ∧ Cond.codeWith y bytes maxL ret hh ∈ ws) ∧
  (Cond.codeWith y bytes maxL ret hh).before args s = true ∧ (Cond.initialized y.cls).before args s = true ∧ (y.cls ≠ "java/lang/invoke/MethodHandle" ∧ y.cls ≠ "java/lang/invoke/VarHandle") ∧
  (∀ sig, parseMethodDescriptor y.desc = some sig → n = sig.parameters.length) ∧ (Cond.methodLink own index y).before args s = true ∧ (Cond.instanceMethod y).before args s = true ∧ (Cond.selects C y y).before args s = true
theorem vx_cwVW {own C : String} {index maxL mc ms : Nat} {y : MethodName} {bytes : ByteArray} {ret : Option FieldType} {hh : List (Nat × Nat × Nat × Nat)} {Ts ws ws' : List Cond} {rm : Room} (n : Nat) (ht : ∀ w ∈ Ts, w.before args s = true) (hT : GoodIn Ts (wsV own index C y ws)) (hw : ws = Cond.codeWith y bytes maxL ret hh :: ws') (hrc : rm.cells = mc) (hrs : rm.slots = ms)
    (hd : y.cls = C ∧ y.cls ≠ "java/lang/invoke/MethodHandle" ∧ y.cls ≠ "java/lang/invoke/VarHandle" ∧ (parseMethodDescriptor y.desc).map (fun d => d.parameters.length) = some n) (hR : rm.frames + 1 ≤ R.frames ∧ 8 + (maxL + 11) + rm.locals ≤ R.locals) :
    vx_CVW R s args own C index y bytes maxL ret hh ws rm mc ms n := by
  obtain ⟨hC, hd⟩ := hd
  subst hC
  have ok : ∀ w ∈ wsV own index y.cls y ws, w.before args s = true := fun w h => ht w (hT w h).1
  have hG : GoodIn Ts ws := fun w h => hT w (by unfold wsV; exact List.mem_append_right _ h)
  have hc : Cond.codeWith y bytes maxL ret hh ∈ ws := by rw [hw]; exact List.mem_cons_self
  refine ⟨⟨hrc, hrs, hR.1, hR.2, pay_in ht hG, hc⟩, ht _ (hG _ hc).1, ok _ (by simp [wsV]), ⟨hd.1, hd.2.1⟩, fun sig h => ?_, ok _ (by simp [wsV]), ok _ (by simp [wsV]), ok _ (by simp [wsV])⟩
  have h2 := hd.2.2
  rw [h] at h2
  exact (Option.some.inj h2).symm
theorem vx_runVW {y : MethodName} {bytes cc : ByteArray} {maxL nL mc ms n index : Nat} {ret : Option FieldType} {hh : List (Nat × Nat × Nat × Nat)} {ws : List Cond} {rm : Room} {Pc : Array Value → State → Prop} {Qc : Array Value → State → Outcome → State → Prop} {free : Addr → Prop} {Ts : List Cond} {own C : String} {b : Addr} {As rest : List Value} {g : JFrame}
    (S : CallFix p m c cc nL s args Ts own) (hM : Met l y ws rm Pc Qc mc ms free) (cw : vx_CVW R s args own C index y bytes maxL ret hh ws rm mc ms n) (hp : PreV s H C b Pc As)
    (hg : g.method = m) (hn : As.length = n) (hsize : g.locals.size = nL) (hstack : g.stack = As.reverse ++ .ref b :: rest) (hW : 2 * g.monitorRoom + (rest.map fun v => v.category).sum ≤ 8) (hdg : decode cc g.pc = .ok (.invokevirtual index, 3)) (hf : cells + mc ≤ R.cells ∧ slots + ms ≤ R.slots) :
    va_Run p l e R s m args below meth c H locs cells slots mc ms g rest (Qc (Value.ref b :: As).toArray) free := by
  obtain ⟨⟨hrc, hrs, hfr, hlo, hws, hcw⟩, hcode, hini, hy, hlen, hl, hin, hse⟩ := cw
  have hK : Back l R p e below s args y 3 8 (PreOf R mc ms Pc) (PostOf Qc mc ms free) := va_backW (hh := hh) (bytes := bytes) (maxL := maxL) (ret := ret) hM hp.1 hrc hrs hfr hlo hws hcw (fun a' U hW => word_at hW (Or.inl (by first | rfl | simp [Cond.onTables, Cond.keeps, Cond.steady])) hini)
  obtain ⟨hx, hb, hml, ho, -⟩ := S
  obtain ⟨-, ⟨cellB, hcB, hoB, hclB⟩, hPc⟩ := hp
  intro T hT X
  obtain ⟨v, vm₁, ⟨U', l2, c2, s2⟩, hW₁, X', ⟨g', mk, t, L, e1, e2, hq, h1, hL, h2, h3⟩, st⟩ := vx_callVW X hx (C := C) (hh := hh) (bytes := bytes) (maxL := maxL) (ret := ret) ho hl hin hse hcode hy hK (by rw [hT]; exact hcB) hoB hclB hg (hsize.trans hml.symm) (argsL := As) (rest := rest) (fun sig h => hn.trans (hlen sig h)) hstack hW (by rw [hb]; exact hdg)
    (fun vm₁ hW₁ => ⟨hf.1, hf.2, hPc (T.setVm vm₁) hT hW₁⟩)
  dsimp only [Pt.U, Pt.locs, Pt.cells, Pt.slots] at X' e1 e2 h1 h2 h3 st
  subst h1; subst h2; subst h3
  exact ⟨v, (T.setVm vm₁).calling g' mk (Value.ref b :: As).toArray, t, U', L, hT, X', hL, e1, e2, hq, st⟩
section
variable {y : MethodName} {bytes cc : ByteArray} {maxL nL mc ms n index : Nat} {ret : Option FieldType} {ws : List Cond} {rm : Room} {Pc : Array Value → State → Prop} {Qc : Array Value → State → Outcome → State → Prop} {XC : String → State → State → Prop} {free : Addr → Prop} {Ts : List Cond} {own C : String} {b : Addr} {As rest : List Value} {g : JFrame}
theorem vx_runVX {hh : List (Nat × Nat × Nat × Nat)} (S : CallFix p m c cc nL s args Ts own) (hM : vx_Met l y ws rm Pc Qc XC mc ms free) (cw : vx_CVW R s args own C index y bytes maxL ret hh ws rm mc ms n) (hp : PreV s H C b Pc As)
    (hg : g.method = m) (hn : As.length = n) (hsize : g.locals.size = nL) (hstack : g.stack = As.reverse ++ .ref b :: rest) (hW : 2 * g.monitorRoom + (rest.map fun v => v.category).sum ≤ 8) (hdg : decode cc g.pc = .ok (.invokevirtual index, 3)) (hf : cells + mc ≤ R.cells ∧ slots + ms ≤ R.slots) :
    vx_Run p l e R s m args below meth c H locs cells slots mc ms g rest (Qc (Value.ref b :: As).toArray) XC free := by
  obtain ⟨⟨hrc, hrs, hfr, hlo, hws, hcw⟩, hcode, hini, hy, hlen, hl, hin, hse⟩ := cw
  have hK : vx_Back l R p e below s args y 3 8 (PreOf R mc ms Pc) (PostOf Qc mc ms free) (vx_Post XC mc ms free) := vx_backW (hh := hh) (bytes := bytes) (maxL := maxL) (ret := ret) hM hp.1 hrc hrs hfr hlo hws hcw (fun a' U hW => word_at hW (Or.inl (by first | rfl | simp [Cond.onTables, Cond.keeps, Cond.steady])) hini)
  obtain ⟨hx, hb, hml, ho, -⟩ := S
  obtain ⟨-, ⟨cellB, hcB, hoB, hclB⟩, hPc⟩ := hp
  intro T hT X
  rcases vx_callVX X hx (C := C) (hh := hh) (bytes := bytes) (maxL := maxL) (ret := ret) ho hl hin hse hcode hy hK (by rw [hT]; exact hcB) hoB hclB hg (hsize.trans hml.symm) (argsL := As) (rest := rest) (fun sig h => hn.trans (hlen sig h)) hstack hW (by rw [hb]; exact hdg)
    (fun vm₁ hW₁ => ⟨hf.1, hf.2, hPc (T.setVm vm₁) hT hW₁⟩) with ⟨v, vm₁, ⟨U', l2, c2, s2⟩, hW₁, X', ⟨g', mk, t, L, e1, e2, hq, h1, hL, h2, h3⟩, st⟩ | ⟨q, vm₁, ⟨U', l2, c2, s2⟩, hW₁, X', ⟨g', mk, t, L, E, ce, e1, e2, hq, hce, hcv, hcl, h1, hL, h2, h3⟩, st⟩
  · dsimp only [Pt.U, Pt.locs, Pt.cells, Pt.slots] at X' e1 e2 h1 h2 h3 st
    subst h1; subst h2; subst h3
    exact Or.inl ⟨v, (T.setVm vm₁).calling g' mk (Value.ref b :: As).toArray, t, U', L, hT, X', hL, e1, e2, hq, st⟩
  · dsimp only [Pt.U, Pt.locs, Pt.cells, Pt.slots] at X' e1 e2 h1 h2 h3 st hcl
    subst h1; subst h2; subst h3
    exact Or.inr ⟨q, (T.setVm vm₁).calling g' mk (Value.ref b :: As).toArray, t, U', L, E, ce, hT, X', hL, e1, e2, hq, hce, hcv, vx_cls hW₁ hcl, st⟩
theorem vx_runSX {hh : List (Nat × Nat × Nat × Nat)} (S : CallFix p m c cc nL s args Ts own) (hM : vx_Met l y ws rm Pc Qc XC mc ms free) (cw : vx_CSW R s args own index y bytes maxL ret hh ws rm mc ms n) (hp : PreS s H Pc As)
    (hg : g.method = m) (hn : As.length = n) (hsize : g.locals.size = nL) (hstack : g.stack = As.reverse ++ rest) (hW : 2 * g.monitorRoom + (rest.map fun v => v.category).sum ≤ 8) (hdg : decode cc g.pc = .ok (.invokestatic index, 3)) (hf : cells + mc ≤ R.cells ∧ slots + ms ≤ R.slots) :
    vx_Run p l e R s m args below meth c H locs cells slots mc ms g rest (Qc As.toArray) XC free := by
  obtain ⟨⟨hrc, hrs, hfr, hlo, hws, hcw⟩, hcode, hini, hy, hlen, hl, hstt⟩ := cw
  have hK : vx_Back l R p e below s args y 3 8 (PreOf R mc ms Pc) (PostOf Qc mc ms free) (vx_Post XC mc ms free) := vx_backW (hh := hh) (bytes := bytes) (maxL := maxL) (ret := ret) hM hp.1 hrc hrs hfr hlo hws hcw (fun a' U hW => word_at hW (Or.inl (by first | rfl | simp [Cond.onTables, Cond.keeps, Cond.steady])) hini)
  obtain ⟨hx, hb, hml, ho, -⟩ := S
  intro T hT X
  rcases vx_callSX X hx (hh := hh) (bytes := bytes) (maxL := maxL) (ret := ret) ho hl hstt hini hcode hy hK hg (hsize.trans hml.symm) (argsL := As) (rest := rest) (fun sig h => hn.trans (hlen sig h)) hstack hW (by rw [hb]; exact hdg)
    (fun vm₁ hW₁ => ⟨hf.1, hf.2, hp.2 (T.setVm vm₁) hT hW₁⟩) with ⟨v, vm₁, ⟨U', l2, c2, s2⟩, hW₁, X', ⟨g', mk, t, L, e1, e2, hq, h1, hL, h2, h3⟩, st⟩ | ⟨q, vm₁, ⟨U', l2, c2, s2⟩, hW₁, X', ⟨g', mk, t, L, E, ce, e1, e2, hq, hce, hcv, hcl, h1, hL, h2, h3⟩, st⟩
  · dsimp only [Pt.U, Pt.locs, Pt.cells, Pt.slots] at X' e1 e2 h1 h2 h3 st
    subst h1; subst h2; subst h3
    exact Or.inl ⟨v, (T.setVm vm₁).calling g' mk As.toArray, t, U', L, hT, X', hL, e1, e2, hq, st⟩
  · dsimp only [Pt.U, Pt.locs, Pt.cells, Pt.slots] at X' e1 e2 h1 h2 h3 st hcl
    subst h1; subst h2; subst h3
    exact Or.inr ⟨q, (T.setVm vm₁).calling g' mk As.toArray, t, U', L, E, ce, hT, X', hL, e1, e2, hq, hce, hcv, vx_cls hW₁ hcl, st⟩
end
end VXH
theorem vx_ofWH {l : Launch} {y : MethodName} {ws ws' : List Cond} {rm : Room} {Pc : Array Value → State → Prop} {Qc : Array Value → State → Outcome → State → Prop} {XC : String → State → State → Prop} {mc ms : Nat} {free : Addr → Prop} {cc : ByteArray} {maxL : Nat} {ret : Option FieldType} {hh : List (Nat × Nat × Nat × Nat)}
    (hy : plainName y.cls = true) (hw : ws = Cond.codeWith y cc maxL ret hh :: ws')
    (body : ∀ p e s m args below meth c s₁, BodyLoose p l y (headSpec ws rm) cc maxL ret e s m args below meth c s₁ → c.maxLocals = maxL → Pc args s →
      W p l e (headSpec ws rm).room s m args below meth c s.heap [] 0 0 (vx_MQ below Qc XC args s mc ms free) (entryFrame m args maxL)) : vx_Met l y ws rm Pc Qc XC mc ms free := by
  refine MetFree.of_bodyS (code := cc) (maxLocals := maxL) (ret := ret) hy ?_ ?_
  · intro args s m h hn
    obtain ⟨m9, meth, c, hn9, h1, h2, h3, h4, -, h5, h6, -⟩ := Cond.codeWith_spec (atoms_spec (ws := ws) h _ (by rw [hw]; exact List.mem_cons_self))
    cases hn.symm.trans hn9
    exact ⟨meth, c, h1, h2, h3, h4, h5, h6⟩
  · intro p e s m args below meth c s₁ B hml hP _
    have hh0 : s₁.heap = s.heap := by rw [B.state]; rfl
    obtain ⟨t, a1, o, b1, b2, b3⟩ := body p e s m args below meth c s₁ B hml hP s₁ hh0 (Stand.of_body B)
    exact ⟨t, o, a1, b1, b2, b3⟩
/-! ===== END ===== -/
end
section
/-! NoSuchElementException(String) calls its super at place 13, not 7 as the other exceptions' constructors do: its words. -/
abbrev hy_nN : String := "java/util/NoSuchElementException"
abbrev hy_nR : String := "java/lang/RuntimeException"
def hy_isN (w : Cond) : Bool := decide (w ≠ .code (Bundle.initS hy_nN) Bundle.six 2 none) && decide (w ≠ .methodLink hy_nN 7 (Bundle.initS hy_nR))
def hy_atN (own : String) (ic : Nat) (X : String) (names : List String) : List Cond := (vx_atS own ic X names).filter hy_isN ++ [.code (Bundle.initS hy_nN) prog_15_method_4_code 2 none, .methodLink hy_nN 13 (Bundle.initS hy_nR)]
theorem hy_rx0 : decode prog_15_method_4_code 0 = .ok (.aload_n 0, 1) := by decide +kernel
theorem hy_rx1 : decode prog_15_method_4_code 1 = .ok (.aload_n 1, 1) := by decide +kernel
theorem hy_rx2 : decode prog_15_method_4_code 2 = .ok (.invokespecial 13, 3) := by decide +kernel
theorem hy_rx5 : decode prog_15_method_4_code 5 = .ok (.return_, 1) := by decide +kernel
theorem hy_chN {args : Array Value} {s : State} {pl : Platform} (hpl : pl.magicAccessors = ({} : Platform).magicAccessors) {top : MethodId} (htop : s.methodNamed? (Bundle.initS Bundle.tN) = some top)
    (h1 : ∀ w ∈ Bundle.passSAtoms hy_nN hy_nR 13 prog_15_method_4_code, w.before args s = true) (h2 : ∀ w ∈ Bundle.chainSAtoms hy_nR ["java/lang/Exception"], w.before args s = true) :
    ∃ (P1 : PassC) (Ps : List PassC), Ps.length = 2 ∧ P1.LinksS pl s ∧ (∀ P, P ∈ Ps → P.LinksS pl s) ∧ s.methodNamed? (Bundle.initS hy_nN) = some P1.m ∧ P1.sup = firstOf top (Ps.map (·.toPassT)) ∧ PassesOn top (Ps.map (·.toPassT)) := by
  obtain ⟨P, L, hm, hs⟩ := PassC.ofS_atoms (args := args) (s := s) hpl (X := hy_nN) (Y := hy_nR) (by decide +kernel) (by decide +kernel) hy_rx0 hy_rx1 hy_rx2 hy_rx5 h1
  obtain ⟨P', Ps, hlen, L', hL, hm', hsup, hpass⟩ := Bundle.chainS (args := args) hpl htop ["java/lang/Exception"] hy_nR (by decide +kernel) (by decide +kernel) h2
  refine ⟨P, P' :: Ps, by rw [List.length_cons, hlen]; rfl, L, ?_, hm, Option.some.inj (hs.symm.trans hm'), hsup, hpass⟩
  intro Q hQ
  rcases List.mem_cons.mp hQ with rfl | hQ
  · exact L'
  · exact hL Q hQ
theorem hy_isT : ∀ w ∈ Bundle.throwableAtoms, hy_isN w = true := by decide +kernel
theorem hy_isTS : ∀ w ∈ Bundle.throwableSAtoms, hy_isN w = true := by decide +kernel
theorem hy_isC : ∀ w ∈ Bundle.chainSAtoms hy_nR ["java/lang/Exception"], hy_isN w = true := by decide +kernel
section HYCN
variable {p : Program} {l : Launch} {e : Env} {R : Room} {s : State} {m₀ : MethodId} {args : Array Value} {below : List Frame} {meth : Method} {c : Code} {W : State} {locs : List Loc} {cells slots : Nat}
set_option maxHeartbeats 1000000 in
/-- its constructor, then athrow: out of the library's laws of Throwable -/
theorem hy_ctorN (X : Stand p l e R s m₀ args below meth c W locs cells slots) (hexec : p.tables.exec = Jvm.exec) (htr : e.platform.stackTraces = false) {own : String} {ic : Nat} (hown : s.vm.findClass own = some m₀.cls)
    (h : ∀ w ∈ Bundle.ownAtoms own ic hy_nN [hy_nR, "java/lang/Exception"], hy_isN w = true → w.before args s = true) (hli : (Cond.methodLink own ic (Bundle.initS hy_nN)).before args s = true)
    (hco : (Cond.code (Bundle.initS hy_nN) prog_15_method_4_code 2 none).before args s = true) (hl13 : (Cond.methodLink hy_nN 13 (Bundle.initS hy_nR)).before args s = true)
    (hlocs : ∀ x ∈ locs, ∀ cell, s.heap[x.base]? = some cell → cell.vm.isStatics = false)
    {a : Addr} {cX : ClassId} {kX : Class} (hfoundX : s.vm.findClass hy_nN = some cX) (hkX : s.vm.classes[cX]? = some kX) (hcell : W.heap[a]? = some (freshCell cX kX)) (hnew : s.heap.size ≤ a)
    {msg : Value} (hmsg : msg.isRef = true) {g : JFrame} (hg : g.method = m₀) (hsize : g.locals.size = c.maxLocals) (hlocked : g.locked = none) (hentered : g.entered = []) {rest : List Value} (hstack : g.stack = msg :: .ref a :: .ref a :: rest)
    (hd6 : decode c.code g.pc = .ok (.invokespecial ic, 3)) (hd9 : decode c.code (g.pc + 3) = .ok (.athrow, 1)) (hout : ∀ x ∈ c.exceptionTable.toList, covers x (g.pc + 3) = false)
    (hRframes : 5 < R.frames) (hRlocals : 2 * g.monitorRoom + ((Value.ref a :: rest).map fun v => v.category).sum + 81 ≤ R.locals) (hlocks : meth.locks = false) :
    ∃ U : State, Steps p.tables e below (W.setTop g) U ∧ U.status = .running ∧ Ended U below (.threw a) ∧ s.WarmedH U.vm ∧ s.sameButNew ({ U with vm := s.vm } : State) locs cells slots ∧
      ∃ ce, U.heap[a]? = some ce ∧ s.vm.findClass hy_nN = some ce.cls ∧ ce.vm = .none := by
  have howns : e.platform.frameOwnsMonitors = true := by rw [X.admits.platform]
  have hfin : e.platform.finalization = false := by rw [X.admits.platform]
  have hpl : e.platform.magicAccessors = ({} : Platform).magicAccessors := by rw [X.admits.platform]
  have hch : ∀ w ∈ Bundle.chainSAtoms hy_nR ["java/lang/Exception"], w.before args s = true := fun w hw => h w (List.mem_append_left _ (List.mem_append_right _ (List.mem_append_right _ hw))) (hy_isC w hw)
  obtain ⟨T, Z0, L, -, Y⟩ := ThrowableC.of_atoms (args := args) howns hfin hpl (fun x hx => h x (by simp [Bundle.ownAtoms, hx]) (hy_isT x hx))
  obtain ⟨Z, M, LZ, LM, hnZ⟩ := Init0T.ofS_atoms (args := args) hpl L Y (fun x hx => h x (by simp [Bundle.ownAtoms, hx]) (hy_isTS x hx))
  have hps : ∀ w ∈ Bundle.passSAtoms hy_nN hy_nR 13 prog_15_method_4_code, w.before args s = true := by
    intro w hw
    simp only [Bundle.passSAtoms, List.mem_cons, List.not_mem_nil, or_false] at hw
    rcases hw with rfl | rfl | rfl | rfl | rfl
    · exact h _ (by simp [Bundle.ownAtoms, Bundle.chainSAtoms, Bundle.passSAtoms]) (by decide +kernel)
    · exact hco
    · exact hl13
    · exact h _ (by simp [Bundle.ownAtoms, Bundle.chainSAtoms, Bundle.passSAtoms]) (by decide +kernel)
    · exact h _ (by simp [Bundle.ownAtoms, Bundle.chainSAtoms, Bundle.passSAtoms]) (by decide +kernel)
  obtain ⟨P1, Ps, hlen, L1, hL, hP1m, hlink1, hlink⟩ := hy_chN (args := args) hpl hnZ hps hch
  have hfound : s.vm.findClass hy_nN = some P1.m.cls := findClass_of_methodNamed hP1m
  cases Option.some.inj (hfoundX.symm.trans hfound)
  have w1 : (Cond.instantiable hy_nN 6).before args s = true := h _ (by simp [Bundle.ownAtoms]) (by decide +kernel)
  have w2 : (Cond.selects hy_nN Bundle.tFill0 Bundle.tFill0).before args s = true := h _ (by simp [Bundle.ownAtoms]) (by decide +kernel)
  have w3 : (Cond.selects hy_nN Bundle.tFill Bundle.tFill).before args s = true := h _ (by simp [Bundle.ownAtoms]) (by decide +kernel)
  have w4 : (Cond.isRef (.static Bundle.tN "UNASSIGNED_STACK" Bundle.steD)).before args s = true := h _ (by simp [Bundle.ownAtoms]) (by decide +kernel)
  have w5 : (Cond.isRef (.static Bundle.tN "SUPPRESSED_SENTINEL" Bundle.listD)).before args s = true := h _ (by simp [Bundle.ownAtoms]) (by decide +kernel)
  have w6 : (Cond.fieldLink Bundle.tN 198 Bundle.tN "backtrace" "Ljava/lang/Object;").before args s = true := h _ (by simp [Bundle.ownAtoms]) (by decide +kernel)
  have w7 : (Cond.lays Bundle.tN Bundle.tN "backtrace" "Ljava/lang/Object;").before args s = true := h _ (by simp [Bundle.ownAtoms]) (by decide +kernel)
  have w8 : (Cond.lays hy_nN Bundle.tN "cause" "Ljava/lang/Throwable;").before args s = true := h _ (by simp [Bundle.ownAtoms]) (by decide +kernel)
  have w9 : (Cond.lays hy_nN Bundle.tN "stackTrace" Bundle.steD).before args s = true := h _ (by simp [Bundle.ownAtoms]) (by decide +kernel)
  have w10 : (Cond.lays hy_nN Bundle.tN "suppressedExceptions" Bundle.listD).before args s = true := h _ (by simp [Bundle.ownAtoms]) (by decide +kernel)
  have w11 : (Cond.lays hy_nN Bundle.tN "detailMessage" "Ljava/lang/String;").before args s = true := h _ (by simp [Bundle.ownAtoms]) (by decide +kernel)
  have w12 : (Cond.lays hy_nN Bundle.tN "backtrace" "Ljava/lang/Object;").before args s = true := h _ (by simp [Bundle.ownAtoms]) (by decide +kernel)
  have w13 : (Cond.instanceMethod (Bundle.initS hy_nN)).before args s = true := hps _ (by simp [Bundle.passSAtoms])
  obtain ⟨c1, kX', hc1, hk, hord, -, -, hn6⟩ := Cond.instantiable_spec w1
  cases Option.some.inj (hc1.symm.trans hfound)
  cases Option.some.inj (hkX.symm.trans hk)
  have hsel0 : selectMethod e.platform s.vm P1.m.cls T.fill0 = .method T.fill0 := by
    obtain ⟨c2, r2, m2, q1, q2, q3, q4, -⟩ := Cond.selects_spec w2
    cases Option.some.inj (q1.symm.trans hfound)
    cases Option.some.inj (q2.symm.trans (State.methodFound?_of_named Y.fill0 (by decide)))
    cases Option.some.inj (q3.symm.trans Y.fill0)
    rw [Launch.admits_selectMethod X.admits]
    exact q4
  have hselF : selectMethod e.platform s.vm P1.m.cls T.fill = .method T.fill := by
    obtain ⟨c2, r2, m2, q1, q2, q3, q4, -⟩ := Cond.selects_spec w3
    cases Option.some.inj (q1.symm.trans hfound)
    cases Option.some.inj (q2.symm.trans (State.methodFound?_of_named Y.fill (by decide)))
    cases Option.some.inj (q3.symm.trans Y.fill)
    rw [Launch.admits_selectMethod X.admits]
    exact q4
  obtain ⟨cellS0, hcS0, hiss⟩ := Y.statics
  obtain ⟨u0, hu0⟩ := Cond.staticRefV Y.unassigned L.unassignedStatic L.statics hcS0 hiss w4
  obtain ⟨sen, hsen⟩ := Cond.staticRefV Y.sentinel L.sentinelStatic L.statics hcS0 hiss w5
  obtain ⟨ci198, i198, fB, hk198, hg198, ha198, hsB, -, hnB, htB, hffB⟩ := Cond.ownField (t := .object "java/lang/Object") Y.found L.cls (by decide +kernel) w6 w7 e.platform hpl
  obtain ⟨cellS, hcS', heS, -, hkeep⟩ := X.same.2.2.2.2.2 T.aS cellS0 hcS0
  have hcellS : W.heap[T.aS]? = some cellS := hcS'
  have hout' : ∀ i, (⟨T.aS, i⟩ : Loc) ∉ locs := fun i hmem => by
    have := hlocs _ hmem cellS0 hcS0
    rw [hiss] at this
    cases this
  have hknownS : cellS.vm ≠ .unknown := by
    rw [heS]
    intro hu
    rw [show cellS0.vm = .unknown from hu] at hiss
    cases hiss
  have hneS : T.aS ≠ a := Nat.ne_of_lt (Nat.lt_of_lt_of_le (Array.getElem?_eq_some_iff.mp hcS0).1 hnew)
  obtain ⟨iM, hffM⟩ := Y.msg
  obtain ⟨tyC, dC, hdC, hdnC⟩ := Cond.laysAt hfound hk Y.cause w8
  obtain ⟨tyS, dS, hdS, hdnS⟩ := Cond.laysAt hfound hk Y.stack w9
  obtain ⟨tyP, dP, hdP, hdnP⟩ := Cond.laysAt hfound hk Y.supp w10
  obtain ⟨tyM, dM, hdM, hdnM⟩ := Cond.laysAt hfound hk hffM w11
  obtain ⟨tyB, dB, hdB, hdnB⟩ := Cond.laysAt hfound hk hffB w12
  have bC := Cond.laysApart hdB hdC hdnB hdnC (by rw [hnB, Y.causeName]; decide)
  have bS := Cond.laysApart hdB hdS hdnB hdnS (by rw [hnB, Y.stackName]; decide)
  have bP := Cond.laysApart hdB hdP hdnB hdnP (by rw [hnB, Y.suppName]; decide)
  have hskip : SkipFacts T e.platform s (fun u => u) u0 ((preparedCellV T.toThrowableT (freshCell P1.m.cls kX) a u0 sen).withEntry W.cur) :=
    ⟨{ ci198 := ci198, i198 := i198, fBack := fB }, ⟨hk198, hg198, ha198, hsB⟩, by
      have := fresh_default (c := P1.m.cls) tyB
      rw [htB] at this
      simpa [preparedCellV, Cell.setSlot, Cell.withEntry, Array.getElem?_setIfInBounds, bC, bS, bP, bC.symm, bS.symm, bP.symm, defaultValue] using this, fun _ _ => rfl⟩
  obtain ⟨tm, methC, cdC, kC, vm₁, hnC, -, -, -, -, -, -, -, hW₁, st1⟩ := Steps.initColdS (tb := p.tables) (e := e) (below := below) (s := s) (U := W) X.here hexec X.warmed hpl hown (t := Bundle.initS hy_nN) rfl rfl (by decide +kernel)
    hli w13 (bytes := prog_15_method_4_code) (maxL := 2) hco (f := g) hg (a := a) (msg := msg) (rest := .ref a :: rest) hstack hd6
  cases Option.some.inj (hnC.symm.trans hP1m)
  have X₁ := X.noted hW₁
  obtain ⟨vm₂, X₂, st2⟩ := X₁.ctorMessageOffV hexec (g := { g with stack := .ref a :: rest }) hg hsize T L Z LZ M LM (P1 :: Ps)
    (fun P hP => by rcases List.mem_cons.mp hP with rfl | hP; exact L1; exact hL P hP) ⟨hlink1, hlink⟩ (u0 := u0) (sen := sen) (self := a) hmsg (cell := freshCell P1.m.cls kX) (cellS := cellS)
    hcell (fun _ => by simp) (by simp) rfl rfl hsel0 hselF hcellS hneS hknownS (by rw [hkeep _ (hout' _)]; exact hu0) (by rw [hkeep _ (hout' _)]; exact hsen)
    (Takes.of_laid hk hord tyC (by rw [Y.causeType]; rfl)) (Takes.of_laid hk hord tyS (by rw [Y.stackType]; exact fits_refV_array _ u0)) (Takes.of_laid hk hord tyP (by rw [Y.suppType]; exact fits_refV_object _ sen))
    (Takes.of_laid hk hord tyM (by rw [Y.msgType]; exact fits_refV_object _ ⟨msg, hmsg⟩)) Y.objLocals hskip htr [] hd6
    (by simp only [List.length_cons, hlen]; omega) (by simp only [List.length_cons, hlen]; exact hRlocals)
  obtain ⟨hwalk, hrun, hended, hWU, hsame⟩ := X₂.athrowLeaves hexec (g := { g with stack := .ref a :: rest, pc := g.pc + 3 }) hg hlocked hentered hout (a := a) (rest := rest) rfl hd9
  have hlt : a < ((W.setVm vm₁).setVm vm₂).heap.size := (Array.getElem?_eq_some_iff.mp hcell).1
  have hU := heapAt_setCell_self (s := (W.setVm vm₁).setVm vm₂) (plainBareV T.toThrowableT (freshCell P1.m.cls kX) a u0 sen msg) hlt
  refine ⟨_, st1 _ (fun acts => ?_), hrun, hended, hWU, hsame.weaken (fun y hy hlt' => ?_) (Nat.le_refl _) (Nat.le_refl _), _, hU, hfound, rfl⟩
  · rw [doInvoke_state]
    exact st2 _ hwalk
  · rcases List.mem_append.mp hy with h1 | h1
    · exact h1
    · exfalso
      have hb : y.base = a := by
        simp only [List.mem_cons, List.not_mem_nil, or_false] at h1
        rcases h1 with rfl | rfl | rfl | rfl | rfl <;> rfl
      rw [hb] at hlt'
      exact Nat.not_lt.mpr hnew hlt'
end HYCN
end
section
/-! ===== BEGIN printed: names, fields, word lists, decode rows ===== -/
def RX0 : String := "HiveYard$Content"
def TX0 : u_T := fun k => match k with
  | 0 => ("HiveYard$Content", "sort", "I", true)
  | _ => ("HiveYard$Content", "cells", "[J", true)
def tyX0 : Nat → FieldType := fun k => match k with
  | 0 => .int
  | _ => .array .long
abbrev wsX00 : List Cond := u_ws RX0 TX0 2
theorem nmX0 : ∀ a, a < 2 → ∀ b, b < 2 → a ≠ b → (TX0 a).2.1 ≠ (TX0 b).2.1 := by decide +kernel
theorem tyX0_ok : ∀ k, k < 2 → parseFieldDescriptor (TX0 k).2.2.1 = some (tyX0 k) := by decide +kernel
abbrev cX0_init : ByteArray := prog_2_method_1_code
def yX0_init : MethodName := ⟨RX0, "<init>", "(I[J)V"⟩
def RX1 : String := "HiveYard"
def TX1 : u_T := fun k => match k with
  | 0 => ("HiveYard", "boxes", "[LHiveYard$Content;", true)
  | 1 => ("HiveYard", "oneLid", "LHiveYard$Content;", true)
  | 2 => ("HiveYard", "kindOfComb", "[I", true)
  | 3 => ("HiveYard", "weightOfComb", "[I", true)
  | 4 => ("HiveYard", "movesByEnd", "[I", true)
  | 5 => ("HiveYard", "rowsMade", "I", false)
  | 6 => ("HiveYard", "combsMade", "I", false)
  | 7 => ("HiveYard", "movesMade", "I", false)
  | 8 => ("HiveYard", "latestMoved", "I", false)
  | _ => ("HiveYard", "placesMoved", "I", false)
def tyX1 : Nat → FieldType := fun k => match k with
  | 0 => .array (.object "HiveYard$Content")
  | 1 => .object "HiveYard$Content"
  | 2 => .array .int
  | 3 => .array .int
  | 4 => .array .int
  | 5 => .int
  | 6 => .int
  | 7 => .int
  | 8 => .int
  | _ => .int
abbrev wsX10 : List Cond := u_ws RX1 TX1 10
theorem nmX1 : ∀ a, a < 10 → ∀ b, b < 10 → a ≠ b → (TX1 a).2.1 ≠ (TX1 b).2.1 := by decide +kernel
theorem tyX1_ok : ∀ k, k < 10 → parseFieldDescriptor (TX1 k).2.2.1 = some (tyX1 k) := by decide +kernel
abbrev cX1_init : ByteArray := prog_1_method_1_code
def yX1_init : MethodName := ⟨RX1, "<init>", "()V"⟩
abbrev cX1_row : ByteArray := prog_1_method_2_code
def yX1_row : MethodName := ⟨RX1, "row", "(III)Z"⟩
abbrev cX1_lid : ByteArray := prog_1_method_3_code
def yX1_lid : MethodName := ⟨RX1, "lid", "(I)Z"⟩
abbrev cX1_clear : ByteArray := prog_1_method_4_code
def yX1_clear : MethodName := ⟨RX1, "clear", "(I)Z"⟩
abbrev cX1_share : ByteArray := prog_1_method_5_code
def yX1_share : MethodName := ⟨RX1, "share", "(II)I"⟩
abbrev cX1_put : ByteArray := prog_1_method_6_code
def yX1_put : MethodName := ⟨RX1, "put", "(IIJ)J"⟩
abbrev cX1_lay : ByteArray := prog_1_method_7_code
def yX1_lay : MethodName := ⟨RX1, "lay", "(III)I"⟩
abbrev cX1_lift : ByteArray := prog_1_method_8_code
def yX1_lift : MethodName := ⟨RX1, "lift", "(II)I"⟩
abbrev cX1_move : ByteArray := prog_1_method_9_code
def yX1_move : MethodName := ⟨RX1, "move", "(IIIII)I"⟩
abbrev cX1_pour : ByteArray := prog_1_method_10_code
def yX1_pour : MethodName := ⟨RX1, "pour", "(II)I"⟩
abbrev cX1_moved : ByteArray := prog_1_method_11_code
def yX1_moved : MethodName := ⟨RX1, "moved", "()I"⟩
abbrev cX1_at : ByteArray := prog_1_method_12_code
def yX1_at : MethodName := ⟨RX1, "at", "(II)J"⟩
abbrev cX1_holds : ByteArray := prog_1_method_13_code
def yX1_holds : MethodName := ⟨RX1, "holds", "(I)I"⟩
abbrev cX1_places : ByteArray := prog_1_method_14_code
def yX1_places : MethodName := ⟨RX1, "places", "(I)I"⟩
abbrev cX1_same : ByteArray := prog_1_method_15_code
def yX1_same : MethodName := ⟨RX1, "same", "(II)Z"⟩
abbrev cX1_all : ByteArray := prog_1_method_16_code
def yX1_all : MethodName := ⟨RX1, "all", "(I)J"⟩
abbrev cX1_feed : ByteArray := prog_1_method_17_code
def yX1_feed : MethodName := ⟨RX1, "feed", "(II)I"⟩
abbrev cX1_kind : ByteArray := prog_1_method_18_code
def yX1_kind : MethodName := ⟨RX1, "kind", "(I)I"⟩
abbrev cX1_count : ByteArray := prog_1_method_19_code
def yX1_count : MethodName := ⟨RX1, "count", "(I)I"⟩
abbrev cX1_countOfEnd : ByteArray := prog_1_method_20_code
def yX1_countOfEnd : MethodName := ⟨RX1, "countOfEnd", "(I)I"⟩
abbrev cX1_requireBox : ByteArray := prog_1_method_21_code
def yX1_requireBox : MethodName := ⟨RX1, "requireBox", "(I)V"⟩
abbrev cX1_contentOf : ByteArray := prog_1_method_22_code
def yX1_contentOf : MethodName := ⟨RX1, "contentOf", "(I)LHiveYard$Content;"⟩
abbrev cX1_requireRow : ByteArray := prog_1_method_23_code
def yX1_requireRow : MethodName := ⟨RX1, "requireRow", "(LHiveYard$Content;)V"⟩
abbrev cX1_requireCombs : ByteArray := prog_1_method_24_code
def yX1_requireCombs : MethodName := ⟨RX1, "requireCombs", "(LHiveYard$Content;)V"⟩
abbrev cX1_requirePlace : ByteArray := prog_1_method_25_code
def yX1_requirePlace : MethodName := ⟨RX1, "requirePlace", "(LHiveYard$Content;I)V"⟩
abbrev cX1_requireComb : ByteArray := prog_1_method_26_code
def yX1_requireComb : MethodName := ⟨RX1, "requireComb", "(I)V"⟩
abbrev cX1_isComb : ByteArray := prog_1_method_27_code
def yX1_isComb : MethodName := ⟨RX1, "isComb", "(J)Z"⟩
abbrev cX1_isRow : ByteArray := prog_1_method_28_code
def yX1_isRow : MethodName := ⟨RX1, "isRow", "(LHiveYard$Content;)Z"⟩
abbrev cX1_isNumbers : ByteArray := prog_1_method_29_code
def yX1_isNumbers : MethodName := ⟨RX1, "isNumbers", "(LHiveYard$Content;)Z"⟩
abbrev cX1_isCombs : ByteArray := prog_1_method_30_code
def yX1_isCombs : MethodName := ⟨RX1, "isCombs", "(LHiveYard$Content;)Z"⟩
abbrev cX1_sortOf : ByteArray := prog_1_method_31_code
def yX1_sortOf : MethodName := ⟨RX1, "sortOf", "(LHiveYard$Content;)I"⟩
abbrev cX1_cellsIn : ByteArray := prog_1_method_32_code
def yX1_cellsIn : MethodName := ⟨RX1, "cellsIn", "(LHiveYard$Content;)I"⟩
abbrev cX1_newRow : ByteArray := prog_1_method_33_code
def yX1_newRow : MethodName := ⟨RX1, "newRow", "(II)LHiveYard$Content;"⟩
abbrev cX1_lowestBits : ByteArray := prog_1_method_34_code
def yX1_lowestBits : MethodName := ⟨RX1, "lowestBits", "(IJ)J"⟩
abbrev cX1_takes : ByteArray := prog_1_method_35_code
def yX1_takes : MethodName := ⟨RX1, "takes", "(II)Z"⟩
abbrev cX1_carry : ByteArray := prog_1_method_36_code
def yX1_carry : MethodName := ⟨RX1, "carry", "(LHiveYard$Content;ILHiveYard$Content;II)I"⟩
abbrev cX1_areUnlike : ByteArray := prog_1_method_37_code
def yX1_areUnlike : MethodName := ⟨RX1, "areUnlike", "(LHiveYard$Content;LHiveYard$Content;)Z"⟩
abbrev cX1_isOutside : ByteArray := prog_1_method_38_code
def yX1_isOutside : MethodName := ⟨RX1, "isOutside", "(LHiveYard$Content;II)Z"⟩
abbrev cX1_howManyFit : ByteArray := prog_1_method_39_code
def yX1_howManyFit : MethodName := ⟨RX1, "howManyFit", "(LHiveYard$Content;ILHiveYard$Content;I)I"⟩
abbrev cX1_ended : ByteArray := prog_1_method_40_code
def yX1_ended : MethodName := ⟨RX1, "ended", "(II)I"⟩
abbrev cX1_sumOfNumbers : ByteArray := prog_1_method_41_code
def yX1_sumOfNumbers : MethodName := ⟨RX1, "sumOfNumbers", "([J)J"⟩
abbrev cX1_sumOfWeights : ByteArray := prog_1_method_42_code
def yX1_sumOfWeights : MethodName := ⟨RX1, "sumOfWeights", "([J)J"⟩
def RX2 : String := "HiveYardModel"
def TX2 : u_T := fun k => match k with
  | 0 => ("HiveYardModel", "thrown", "I", false)
  | 1 => ("HiveYardModel", "boxes", "[I", true)
  | 2 => ("HiveYardModel", "rows", "I", false)
  | 3 => ("HiveYardModel", "sorts", "[I", true)
  | 4 => ("HiveYardModel", "sizes", "[I", true)
  | 5 => ("HiveYardModel", "stands", "[J", true)
  | 6 => ("HiveYardModel", "taken", "[J", true)
  | 7 => ("HiveYardModel", "combs", "I", false)
  | 8 => ("HiveYardModel", "kinds", "[I", true)
  | 9 => ("HiveYardModel", "weights", "[I", true)
  | 10 => ("HiveYardModel", "moved", "I", false)
  | 11 => ("HiveYardModel", "moves", "I", false)
  | 12 => ("HiveYardModel", "allMoved", "I", false)
  | _ => ("HiveYardModel", "ended", "[I", true)
def tyX2 : Nat → FieldType := fun k => match k with
  | 0 => .int
  | 1 => .array .int
  | 2 => .int
  | 3 => .array .int
  | 4 => .array .int
  | 5 => .array .long
  | 6 => .array .long
  | 7 => .int
  | 8 => .array .int
  | 9 => .array .int
  | 10 => .int
  | 11 => .int
  | 12 => .int
  | _ => .array .int
abbrev wsX20 : List Cond := u_ws RX2 TX2 14
theorem nmX2 : ∀ a, a < 14 → ∀ b, b < 14 → a ≠ b → (TX2 a).2.1 ≠ (TX2 b).2.1 := by decide +kernel
theorem tyX2_ok : ∀ k, k < 14 → parseFieldDescriptor (TX2 k).2.2.1 = some (tyX2 k) := by decide +kernel
abbrev cX2_init : ByteArray := prog_4_method_1_code
def yX2_init : MethodName := ⟨RX2, "<init>", "()V"⟩
abbrev cX2_thrown : ByteArray := prog_4_method_2_code
def yX2_thrown : MethodName := ⟨RX2, "thrown", "()I"⟩
abbrev cX2_fail : ByteArray := prog_4_method_3_code
def yX2_fail : MethodName := ⟨RX2, "fail", "(I)I"⟩
abbrev cX2_isBox : ByteArray := prog_4_method_4_code
def yX2_isBox : MethodName := ⟨RX2, "isBox", "(I)Z"⟩
abbrev cX2_isOfCombs : ByteArray := prog_4_method_5_code
def yX2_isOfCombs : MethodName := ⟨RX2, "isOfCombs", "(I)Z"⟩
abbrev cX2_what : ByteArray := prog_4_method_6_code
def yX2_what : MethodName := ⟨RX2, "what", "(I)I"⟩
abbrev cX2_hasRow : ByteArray := prog_4_method_7_code
def yX2_hasRow : MethodName := ⟨RX2, "hasRow", "(I)Z"⟩
abbrev cX2_isPlace : ByteArray := prog_4_method_8_code
def yX2_isPlace : MethodName := ⟨RX2, "isPlace", "(II)Z"⟩
abbrev cX2_takes : ByteArray := prog_4_method_9_code
def yX2_takes : MethodName := ⟨RX2, "takes", "(II)Z"⟩
abbrev cX2_cut : ByteArray := prog_4_method_10_code
def yX2_cut : MethodName := ⟨RX2, "cut", "(IJ)J"⟩
abbrev cX2_row : ByteArray := prog_4_method_11_code
def yX2_row : MethodName := ⟨RX2, "row", "(III)Z"⟩
abbrev cX2_lid : ByteArray := prog_4_method_12_code
def yX2_lid : MethodName := ⟨RX2, "lid", "(I)Z"⟩
abbrev cX2_clear : ByteArray := prog_4_method_13_code
def yX2_clear : MethodName := ⟨RX2, "clear", "(I)Z"⟩
abbrev cX2_share : ByteArray := prog_4_method_14_code
def yX2_share : MethodName := ⟨RX2, "share", "(II)I"⟩
abbrev cX2_barred : ByteArray := prog_4_method_15_code
def yX2_barred : MethodName := ⟨RX2, "barred", "(IIZI)I"⟩
abbrev cX2_put : ByteArray := prog_4_method_16_code
def yX2_put : MethodName := ⟨RX2, "put", "(IIJ)J"⟩
abbrev cX2_lay : ByteArray := prog_4_method_17_code
def yX2_lay : MethodName := ⟨RX2, "lay", "(III)I"⟩
abbrev cX2_lift : ByteArray := prog_4_method_18_code
def yX2_lift : MethodName := ⟨RX2, "lift", "(II)I"⟩
abbrev cX2_isOutside : ByteArray := prog_4_method_19_code
def yX2_isOutside : MethodName := ⟨RX2, "isOutside", "(III)Z"⟩
abbrev cX2_bars : ByteArray := prog_4_method_20_code
def yX2_bars : MethodName := ⟨RX2, "bars", "(IIIII)I"⟩
abbrev cX2_goes : ByteArray := prog_4_method_21_code
def yX2_goes : MethodName := ⟨RX2, "goes", "(IIIII)I"⟩
abbrev cX2_told : ByteArray := prog_4_method_22_code
def yX2_told : MethodName := ⟨RX2, "told", "(I)I"⟩
abbrev cX2_move : ByteArray := prog_4_method_23_code
def yX2_move : MethodName := ⟨RX2, "move", "(IIIII)I"⟩
abbrev cX2_pour : ByteArray := prog_4_method_24_code
def yX2_pour : MethodName := ⟨RX2, "pour", "(II)I"⟩
abbrev cX2_moved : ByteArray := prog_4_method_25_code
def yX2_moved : MethodName := ⟨RX2, "moved", "()I"⟩
abbrev cX2_at : ByteArray := prog_4_method_26_code
def yX2_at : MethodName := ⟨RX2, "at", "(II)J"⟩
abbrev cX2_holds : ByteArray := prog_4_method_27_code
def yX2_holds : MethodName := ⟨RX2, "holds", "(I)I"⟩
abbrev cX2_places : ByteArray := prog_4_method_28_code
def yX2_places : MethodName := ⟨RX2, "places", "(I)I"⟩
abbrev cX2_same : ByteArray := prog_4_method_29_code
def yX2_same : MethodName := ⟨RX2, "same", "(II)Z"⟩
abbrev cX2_all : ByteArray := prog_4_method_30_code
def yX2_all : MethodName := ⟨RX2, "all", "(I)J"⟩
abbrev cX2_isComb : ByteArray := prog_4_method_31_code
def yX2_isComb : MethodName := ⟨RX2, "isComb", "(I)Z"⟩
abbrev cX2_feed : ByteArray := prog_4_method_32_code
def yX2_feed : MethodName := ⟨RX2, "feed", "(II)I"⟩
abbrev cX2_kind : ByteArray := prog_4_method_33_code
def yX2_kind : MethodName := ⟨RX2, "kind", "(I)I"⟩
abbrev cX2_count : ByteArray := prog_4_method_34_code
def yX2_count : MethodName := ⟨RX2, "count", "(I)I"⟩
def RJ9 : String := "java/lang/Math"
def TJ9 : u_T := fun k => match k with
  | _ => ("", "", "", false)
def tyJ9 : Nat → FieldType := fun k => match k with
  | _ => .int
abbrev wsJ90 : List Cond := u_ws RJ9 TJ9 0
theorem nmJ9 : ∀ a, a < 0 → ∀ b, b < 0 → a ≠ b → (TJ9 a).2.1 ≠ (TJ9 b).2.1 := by decide +kernel
theorem tyJ9_ok : ∀ k, k < 0 → parseFieldDescriptor (TJ9 k).2.2.1 = some (tyJ9 k) := by decide +kernel
abbrev cJ9_min_7cf53 : ByteArray := prog_9_method_69_code
def yJ9_min_7cf53 : MethodName := ⟨RJ9, "min", "(II)I"⟩
def RJ0 : String := "java/lang/String"
def TJ0 : u_T := fun k => match k with
  | _ => ("", "", "", false)
def tyJ0 : Nat → FieldType := fun k => match k with
  | _ => .int
abbrev wsJ00 : List Cond := u_ws RJ0 TJ0 0
theorem nmJ0 : ∀ a, a < 0 → ∀ b, b < 0 → a ≠ b → (TJ0 a).2.1 ≠ (TJ0 b).2.1 := by decide +kernel
theorem tyJ0_ok : ∀ k, k < 0 → parseFieldDescriptor (TJ0 k).2.2.1 = some (tyJ0 k) := by decide +kernel
def RJ10 : String := "java/lang/System"
def TJ10 : u_T := fun k => match k with
  | _ => ("", "", "", false)
def tyJ10 : Nat → FieldType := fun k => match k with
  | _ => .int
abbrev wsJ100 : List Cond := u_ws RJ10 TJ10 0
theorem nmJ10 : ∀ a, a < 0 → ∀ b, b < 0 → a ≠ b → (TJ10 a).2.1 ≠ (TJ10 b).2.1 := by decide +kernel
theorem tyJ10_ok : ∀ k, k < 0 → parseFieldDescriptor (TJ10 k).2.2.1 = some (tyJ10 k) := by decide +kernel
def RL : String := "HiveYardLaw"
abbrev cL_row : ByteArray := method_3_code
def yL_row : MethodName := ⟨RL, "row", "(LHiveYard;III[J)I"⟩
abbrev cL_lid : ByteArray := method_4_code
def yL_lid : MethodName := ⟨RL, "lid", "(LHiveYard;I[J)I"⟩
abbrev cL_clear : ByteArray := method_5_code
def yL_clear : MethodName := ⟨RL, "clear", "(LHiveYard;I[J)I"⟩
abbrev cL_share : ByteArray := method_6_code
def yL_share : MethodName := ⟨RL, "share", "(LHiveYard;II[J)I"⟩
abbrev cL_put : ByteArray := method_7_code
def yL_put : MethodName := ⟨RL, "put", "(LHiveYard;IIJ[J)I"⟩
abbrev cL_lay : ByteArray := method_8_code
def yL_lay : MethodName := ⟨RL, "lay", "(LHiveYard;III[J)I"⟩
abbrev cL_lift : ByteArray := method_9_code
def yL_lift : MethodName := ⟨RL, "lift", "(LHiveYard;II[J)I"⟩
abbrev cL_move : ByteArray := method_10_code
def yL_move : MethodName := ⟨RL, "move", "(LHiveYard;IIIII[J)I"⟩
abbrev cL_pour : ByteArray := method_11_code
def yL_pour : MethodName := ⟨RL, "pour", "(LHiveYard;II[J)I"⟩
abbrev cL_at : ByteArray := method_12_code
def yL_at : MethodName := ⟨RL, "at", "(LHiveYard;II[J)I"⟩
abbrev cL_holds : ByteArray := method_13_code
def yL_holds : MethodName := ⟨RL, "holds", "(LHiveYard;I[J)I"⟩
abbrev cL_places : ByteArray := method_14_code
def yL_places : MethodName := ⟨RL, "places", "(LHiveYard;I[J)I"⟩
abbrev cL_same : ByteArray := method_15_code
def yL_same : MethodName := ⟨RL, "same", "(LHiveYard;II[J)I"⟩
abbrev cL_all : ByteArray := method_16_code
def yL_all : MethodName := ⟨RL, "all", "(LHiveYard;I[J)I"⟩
abbrev cL_feed : ByteArray := method_17_code
def yL_feed : MethodName := ⟨RL, "feed", "(LHiveYard;II[J)I"⟩
abbrev cL_kind : ByteArray := method_18_code
def yL_kind : MethodName := ⟨RL, "kind", "(LHiveYard;I[J)I"⟩
def wsX0_init : List Cond := .code yX0_init cX0_init 3 none :: ([.methodLink RX0 1 objectInit, .instanceMethod objectInit, .code objectInit ⟨#[0xb1]⟩ 1 none, .fieldLink RX0 7 "HiveYard$Content" "sort" "I", .fieldLink RX0 13 "HiveYard$Content" "cells" "[J"] ++ wsX00)
def wsX1_init : List Cond := .code yX1_init cX1_init 1 none :: ([.methodLink RX1 1 objectInit, .instanceMethod objectInit, .code objectInit ⟨#[0xb1]⟩ 1 none, .classLink RX1 9 RX0, .fieldLink RX1 11 "HiveYard" "boxes" "[LHiveYard$Content;", .instantiable RX0 2, .initialized RX0, .arrayClass .long, .fieldLink RX1 18 "HiveYard" "oneLid" "LHiveYard$Content;", .arrayClass .int, .fieldLink RX1 22 "HiveYard" "kindOfComb" "[I", .fieldLink RX1 26 "HiveYard" "weightOfComb" "[I", .fieldLink RX1 29 "HiveYard" "movesByEnd" "[I", .methodLink RX1 15 yX0_init, .instanceMethod yX0_init, .code yX0_init cX0_init 3 none, .methodLink RX0 1 objectInit, .fieldLink RX0 7 "HiveYard$Content" "sort" "I", .fieldLink RX0 13 "HiveYard$Content" "cells" "[J"] ++ wsX10 ++ wsX00)
def wsX1_requireBox : List Cond := .code yX1_requireBox cX1_requireBox 1 none :: ([.classLink RX1 152 "java/lang/IndexOutOfBoundsException", .initialized "java/lang/IndexOutOfBoundsException"] ++ (vx_atS RX1 156 "java/lang/IndexOutOfBoundsException" ["java/lang/RuntimeException", "java/lang/Exception"]).filter goodWord)
def wsX1_contentOf : List Cond := .code yX1_contentOf cX1_contentOf 2 (some (.object "HiveYard$Content")) :: ([.fieldLink RX1 11 "HiveYard" "boxes" "[LHiveYard$Content;", .methodLink RX1 58 yX1_requireBox, .static yX1_requireBox, .initialized RX1, .code yX1_requireBox cX1_requireBox 1 none, .classLink RX1 152 "java/lang/IndexOutOfBoundsException", .initialized "java/lang/IndexOutOfBoundsException"] ++ wsX10 ++ (vx_atS RX1 156 "java/lang/IndexOutOfBoundsException" ["java/lang/RuntimeException", "java/lang/Exception"]).filter goodWord)
def wsX1_newRow : List Cond := .code yX1_newRow cX1_newRow 4 (some (.object "HiveYard$Content")) :: ([.arrayClass .long, .constantLong RX1 105 (-1), .classLink RX1 9 RX0, .instantiable RX0 2, .initialized RX0, .methodLink RX1 15 yX0_init, .instanceMethod yX0_init, .code yX0_init cX0_init 3 none, .methodLink RX0 1 objectInit, .instanceMethod objectInit, .code objectInit ⟨#[0xb1]⟩ 1 none, .fieldLink RX0 7 "HiveYard$Content" "sort" "I", .fieldLink RX0 13 "HiveYard$Content" "cells" "[J"] ++ wsX00)
def wsX1_row_r1 : List Cond := [Cond.classLink RX1 36 "java/lang/IllegalArgumentException", Cond.initialized "java/lang/IllegalArgumentException", Cond.classLink RX1 49 "java/lang/UnsupportedOperationException", Cond.initialized "java/lang/UnsupportedOperationException", Cond.fieldLink RX1 45 "HiveYard" "rowsMade" "I", Cond.fieldLink RX1 11 "HiveYard" "boxes" "[LHiveYard$Content;", Cond.methodLink RX1 32 yX1_contentOf, Cond.instanceMethod yX1_contentOf, Cond.selects RX1 yX1_contentOf yX1_contentOf, Cond.initialized RX1, Cond.code yX1_contentOf cX1_contentOf 2 (some (.object "HiveYard$Content")), Cond.methodLink RX1 58 yX1_requireBox, Cond.static yX1_requireBox, Cond.code yX1_requireBox cX1_requireBox 1 none, Cond.classLink RX1 152 "java/lang/IndexOutOfBoundsException", Cond.initialized "java/lang/IndexOutOfBoundsException", Cond.methodLink RX1 54 yX1_newRow, Cond.static yX1_newRow, Cond.code yX1_newRow cX1_newRow 4 (some (.object "HiveYard$Content")), Cond.arrayClass .long, Cond.constantLong RX1 105 (-1), Cond.classLink RX1 9 RX0, Cond.instantiable RX0 2, Cond.initialized RX0]
def wsX1_row_r2 : List Cond := [Cond.methodLink RX1 15 yX0_init, Cond.instanceMethod yX0_init, Cond.code yX0_init cX0_init 3 none, Cond.methodLink RX0 1 objectInit, Cond.instanceMethod objectInit, Cond.code objectInit ⟨#[0xb1]⟩ 1 none, Cond.fieldLink RX0 7 "HiveYard$Content" "sort" "I", Cond.fieldLink RX0 13 "HiveYard$Content" "cells" "[J"]
def wsX1_row : List Cond := .code yX1_row cX1_row 5 (some .boolean) :: ((wsX1_row_r1 ++ wsX1_row_r2) ++ wsX10 ++ wsX00 ++ (vx_atS RX1 40 "java/lang/IllegalArgumentException" ["java/lang/RuntimeException", "java/lang/Exception"]).filter goodWord ++ (vx_atS RX1 53 "java/lang/UnsupportedOperationException" ["java/lang/RuntimeException", "java/lang/Exception"]).filter goodWord ++ (vx_atS RX1 156 "java/lang/IndexOutOfBoundsException" ["java/lang/RuntimeException", "java/lang/Exception"]).filter goodWord)
def wsX1_lid : List Cond := .code yX1_lid cX1_lid 3 (some .boolean) :: ([.fieldLink RX1 11 "HiveYard" "boxes" "[LHiveYard$Content;", .fieldLink RX1 18 "HiveYard" "oneLid" "LHiveYard$Content;", .methodLink RX1 32 yX1_contentOf, .instanceMethod yX1_contentOf, .selects RX1 yX1_contentOf yX1_contentOf, .initialized RX1, .code yX1_contentOf cX1_contentOf 2 (some (.object "HiveYard$Content")), .methodLink RX1 58 yX1_requireBox, .static yX1_requireBox, .code yX1_requireBox cX1_requireBox 1 none, .classLink RX1 152 "java/lang/IndexOutOfBoundsException", .initialized "java/lang/IndexOutOfBoundsException"] ++ wsX10 ++ (vx_atS RX1 156 "java/lang/IndexOutOfBoundsException" ["java/lang/RuntimeException", "java/lang/Exception"]).filter goodWord)
def wsX1_clear : List Cond := .code yX1_clear cX1_clear 3 (some .boolean) :: ([.fieldLink RX1 11 "HiveYard" "boxes" "[LHiveYard$Content;", .methodLink RX1 32 yX1_contentOf, .instanceMethod yX1_contentOf, .selects RX1 yX1_contentOf yX1_contentOf, .initialized RX1, .code yX1_contentOf cX1_contentOf 2 (some (.object "HiveYard$Content")), .methodLink RX1 58 yX1_requireBox, .static yX1_requireBox, .code yX1_requireBox cX1_requireBox 1 none, .classLink RX1 152 "java/lang/IndexOutOfBoundsException", .initialized "java/lang/IndexOutOfBoundsException"] ++ wsX10 ++ (vx_atS RX1 156 "java/lang/IndexOutOfBoundsException" ["java/lang/RuntimeException", "java/lang/Exception"]).filter goodWord)
def wsX1_sortOf : List Cond := .code yX1_sortOf cX1_sortOf 1 (some .int) :: ([.fieldLink RX1 83 "HiveYard$Content" "sort" "I"] ++ wsX00)
def wsX1_share : List Cond := .code yX1_share cX1_share 4 (some .int) :: ([.fieldLink RX1 11 "HiveYard" "boxes" "[LHiveYard$Content;", .methodLink RX1 58 yX1_requireBox, .static yX1_requireBox, .initialized RX1, .code yX1_requireBox cX1_requireBox 1 none, .classLink RX1 152 "java/lang/IndexOutOfBoundsException", .initialized "java/lang/IndexOutOfBoundsException", .methodLink RX1 32 yX1_contentOf, .instanceMethod yX1_contentOf, .selects RX1 yX1_contentOf yX1_contentOf, .code yX1_contentOf cX1_contentOf 2 (some (.object "HiveYard$Content")), .methodLink RX1 62 yX1_sortOf, .static yX1_sortOf, .code yX1_sortOf cX1_sortOf 1 (some .int), .fieldLink RX1 83 "HiveYard$Content" "sort" "I"] ++ wsX10 ++ wsX00 ++ (vx_atS RX1 156 "java/lang/IndexOutOfBoundsException" ["java/lang/RuntimeException", "java/lang/Exception"]).filter goodWord)
def wsX1_isRow : List Cond := .code yX1_isRow cX1_isRow 1 (some .boolean) :: ([.fieldLink RX1 83 "HiveYard$Content" "sort" "I"] ++ wsX00)
def wsX1_isNumbers : List Cond := .code yX1_isNumbers cX1_isNumbers 1 (some .boolean) :: ([.fieldLink RX1 83 "HiveYard$Content" "sort" "I", .methodLink RX1 126 yX1_isRow, .static yX1_isRow, .initialized RX1, .code yX1_isRow cX1_isRow 1 (some .boolean)] ++ wsX00)
def wsX1_requirePlace : List Cond := .code yX1_requirePlace cX1_requirePlace 2 none :: ([.classLink RX1 161 "java/util/NoSuchElementException", .initialized "java/util/NoSuchElementException", .fieldLink RX1 79 "HiveYard$Content" "cells" "[J"] ++ wsX00 ++ (hy_atN RX1 165 "java/util/NoSuchElementException" ["java/lang/RuntimeException", "java/lang/Exception"]).filter goodWord)
def wsX1_lowestBits : List Cond := .code yX1_lowestBits cX1_lowestBits 3 (some .long) :: ([])
def wsX1_put_r1 : List Cond := [Cond.classLink RX1 70 "java/lang/IllegalStateException", Cond.initialized "java/lang/IllegalStateException", Cond.fieldLink RX1 79 "HiveYard$Content" "cells" "[J", Cond.fieldLink RX1 83 "HiveYard$Content" "sort" "I", Cond.methodLink RX1 32 yX1_contentOf, Cond.instanceMethod yX1_contentOf, Cond.selects RX1 yX1_contentOf yX1_contentOf, Cond.initialized RX1, Cond.code yX1_contentOf cX1_contentOf 2 (some (.object "HiveYard$Content")), Cond.fieldLink RX1 11 "HiveYard" "boxes" "[LHiveYard$Content;", Cond.methodLink RX1 58 yX1_requireBox, Cond.static yX1_requireBox, Cond.code yX1_requireBox cX1_requireBox 1 none, Cond.classLink RX1 152 "java/lang/IndexOutOfBoundsException", Cond.initialized "java/lang/IndexOutOfBoundsException", Cond.methodLink RX1 66 yX1_isNumbers, Cond.static yX1_isNumbers, Cond.code yX1_isNumbers cX1_isNumbers 1 (some .boolean), Cond.methodLink RX1 126 yX1_isRow, Cond.static yX1_isRow, Cond.code yX1_isRow cX1_isRow 1 (some .boolean), Cond.methodLink RX1 75 yX1_requirePlace, Cond.static yX1_requirePlace, Cond.code yX1_requirePlace cX1_requirePlace 2 none]
def wsX1_put_r2 : List Cond := [Cond.classLink RX1 161 "java/util/NoSuchElementException", Cond.initialized "java/util/NoSuchElementException", Cond.methodLink RX1 86 yX1_lowestBits, Cond.static yX1_lowestBits, Cond.code yX1_lowestBits cX1_lowestBits 3 (some .long)]
def wsX1_put : List Cond := .code yX1_put cX1_put 8 (some .long) :: ((wsX1_put_r1 ++ wsX1_put_r2) ++ wsX00 ++ wsX10 ++ (vx_atS RX1 74 "java/lang/IllegalStateException" ["java/lang/RuntimeException", "java/lang/Exception"]).filter goodWord ++ (vx_atS RX1 156 "java/lang/IndexOutOfBoundsException" ["java/lang/RuntimeException", "java/lang/Exception"]).filter goodWord ++ (hy_atN RX1 165 "java/util/NoSuchElementException" ["java/lang/RuntimeException", "java/lang/Exception"]).filter goodWord)
def wsX1_isCombs : List Cond := .code yX1_isCombs cX1_isCombs 1 (some .boolean) :: ([.fieldLink RX1 83 "HiveYard$Content" "sort" "I", .methodLink RX1 126 yX1_isRow, .static yX1_isRow, .initialized RX1, .code yX1_isRow cX1_isRow 1 (some .boolean)] ++ wsX00)
def wsX1_requireCombs : List Cond := .code yX1_requireCombs cX1_requireCombs 1 none :: ([.classLink RX1 70 "java/lang/IllegalStateException", .initialized "java/lang/IllegalStateException", .methodLink RX1 129 yX1_isCombs, .static yX1_isCombs, .initialized RX1, .code yX1_isCombs cX1_isCombs 1 (some .boolean), .fieldLink RX1 83 "HiveYard$Content" "sort" "I", .methodLink RX1 126 yX1_isRow, .static yX1_isRow, .code yX1_isRow cX1_isRow 1 (some .boolean)] ++ wsX00 ++ (vx_atS RX1 74 "java/lang/IllegalStateException" ["java/lang/RuntimeException", "java/lang/Exception"]).filter goodWord)
def wsX1_takes : List Cond := .code yX1_takes cX1_takes 3 (some .boolean) :: ([])
def wsX1_lay_r1 : List Cond := [Cond.classLink RX1 36 "java/lang/IllegalArgumentException", Cond.initialized "java/lang/IllegalArgumentException", Cond.classLink RX1 49 "java/lang/UnsupportedOperationException", Cond.initialized "java/lang/UnsupportedOperationException", Cond.fieldLink RX1 96 "HiveYard" "combsMade" "I", Cond.fieldLink RX1 83 "HiveYard$Content" "sort" "I", Cond.fieldLink RX1 22 "HiveYard" "kindOfComb" "[I", Cond.fieldLink RX1 79 "HiveYard$Content" "cells" "[J", Cond.methodLink RX1 32 yX1_contentOf, Cond.instanceMethod yX1_contentOf, Cond.selects RX1 yX1_contentOf yX1_contentOf, Cond.initialized RX1, Cond.code yX1_contentOf cX1_contentOf 2 (some (.object "HiveYard$Content")), Cond.fieldLink RX1 11 "HiveYard" "boxes" "[LHiveYard$Content;", Cond.methodLink RX1 58 yX1_requireBox, Cond.static yX1_requireBox, Cond.code yX1_requireBox cX1_requireBox 1 none, Cond.classLink RX1 152 "java/lang/IndexOutOfBoundsException", Cond.initialized "java/lang/IndexOutOfBoundsException", Cond.methodLink RX1 92 yX1_requireCombs, Cond.static yX1_requireCombs, Cond.code yX1_requireCombs cX1_requireCombs 1 none, Cond.classLink RX1 70 "java/lang/IllegalStateException", Cond.initialized "java/lang/IllegalStateException"]
def wsX1_lay_r2 : List Cond := [Cond.methodLink RX1 129 yX1_isCombs, Cond.static yX1_isCombs, Cond.code yX1_isCombs cX1_isCombs 1 (some .boolean), Cond.methodLink RX1 126 yX1_isRow, Cond.static yX1_isRow, Cond.code yX1_isRow cX1_isRow 1 (some .boolean), Cond.methodLink RX1 75 yX1_requirePlace, Cond.static yX1_requirePlace, Cond.code yX1_requirePlace cX1_requirePlace 2 none, Cond.classLink RX1 161 "java/util/NoSuchElementException", Cond.initialized "java/util/NoSuchElementException", Cond.methodLink RX1 101 yX1_takes, Cond.static yX1_takes, Cond.code yX1_takes cX1_takes 3 (some .boolean)]
def wsX1_lay : List Cond := .code yX1_lay cX1_lay 6 (some .int) :: ((wsX1_lay_r1 ++ wsX1_lay_r2) ++ wsX10 ++ wsX00 ++ (vx_atS RX1 40 "java/lang/IllegalArgumentException" ["java/lang/RuntimeException", "java/lang/Exception"]).filter goodWord ++ (vx_atS RX1 53 "java/lang/UnsupportedOperationException" ["java/lang/RuntimeException", "java/lang/Exception"]).filter goodWord ++ (vx_atS RX1 156 "java/lang/IndexOutOfBoundsException" ["java/lang/RuntimeException", "java/lang/Exception"]).filter goodWord ++ (vx_atS RX1 74 "java/lang/IllegalStateException" ["java/lang/RuntimeException", "java/lang/Exception"]).filter goodWord ++ (hy_atN RX1 165 "java/util/NoSuchElementException" ["java/lang/RuntimeException", "java/lang/Exception"]).filter goodWord)
def wsX1_lift_r1 : List Cond := [Cond.fieldLink RX1 79 "HiveYard$Content" "cells" "[J", Cond.constantLong RX1 105 (-1), Cond.methodLink RX1 32 yX1_contentOf, Cond.instanceMethod yX1_contentOf, Cond.selects RX1 yX1_contentOf yX1_contentOf, Cond.initialized RX1, Cond.code yX1_contentOf cX1_contentOf 2 (some (.object "HiveYard$Content")), Cond.fieldLink RX1 11 "HiveYard" "boxes" "[LHiveYard$Content;", Cond.methodLink RX1 58 yX1_requireBox, Cond.static yX1_requireBox, Cond.code yX1_requireBox cX1_requireBox 1 none, Cond.classLink RX1 152 "java/lang/IndexOutOfBoundsException", Cond.initialized "java/lang/IndexOutOfBoundsException", Cond.methodLink RX1 92 yX1_requireCombs, Cond.static yX1_requireCombs, Cond.code yX1_requireCombs cX1_requireCombs 1 none, Cond.classLink RX1 70 "java/lang/IllegalStateException", Cond.initialized "java/lang/IllegalStateException", Cond.methodLink RX1 129 yX1_isCombs, Cond.static yX1_isCombs, Cond.code yX1_isCombs cX1_isCombs 1 (some .boolean), Cond.fieldLink RX1 83 "HiveYard$Content" "sort" "I", Cond.methodLink RX1 126 yX1_isRow, Cond.static yX1_isRow]
def wsX1_lift_r2 : List Cond := [Cond.code yX1_isRow cX1_isRow 1 (some .boolean), Cond.methodLink RX1 75 yX1_requirePlace, Cond.static yX1_requirePlace, Cond.code yX1_requirePlace cX1_requirePlace 2 none, Cond.classLink RX1 161 "java/util/NoSuchElementException", Cond.initialized "java/util/NoSuchElementException"]
def wsX1_lift : List Cond := .code yX1_lift cX1_lift 5 (some .int) :: ((wsX1_lift_r1 ++ wsX1_lift_r2) ++ wsX00 ++ wsX10 ++ (vx_atS RX1 156 "java/lang/IndexOutOfBoundsException" ["java/lang/RuntimeException", "java/lang/Exception"]).filter goodWord ++ (vx_atS RX1 74 "java/lang/IllegalStateException" ["java/lang/RuntimeException", "java/lang/Exception"]).filter goodWord ++ (hy_atN RX1 165 "java/util/NoSuchElementException" ["java/lang/RuntimeException", "java/lang/Exception"]).filter goodWord)
def wsX1_ended : List Cond := .code yX1_ended cX1_ended 3 (some .int) :: ([.fieldLink RX1 142 "HiveYard" "movesMade" "I", .fieldLink RX1 29 "HiveYard" "movesByEnd" "[I", .fieldLink RX1 120 "HiveYard" "latestMoved" "I", .fieldLink RX1 145 "HiveYard" "placesMoved" "I"] ++ wsX10)
def wsX1_areUnlike : List Cond := .code yX1_areUnlike cX1_areUnlike 2 (some .boolean) :: ([.fieldLink RX1 83 "HiveYard$Content" "sort" "I", .methodLink RX1 129 yX1_isCombs, .static yX1_isCombs, .initialized RX1, .code yX1_isCombs cX1_isCombs 1 (some .boolean), .methodLink RX1 126 yX1_isRow, .static yX1_isRow, .code yX1_isRow cX1_isRow 1 (some .boolean)] ++ wsX00)
def wsX1_isOutside : List Cond := .code yX1_isOutside cX1_isOutside 3 (some .boolean) :: ([.fieldLink RX1 79 "HiveYard$Content" "cells" "[J"] ++ wsX00)
def wsX1_isComb : List Cond := .code yX1_isComb cX1_isComb 3 (some .boolean) :: ([.fieldLink RX1 96 "HiveYard" "combsMade" "I"] ++ wsX10)
def wsX1_howManyFit : List Cond := .code yX1_howManyFit cX1_howManyFit 8 (some .int) :: ([.fieldLink RX1 79 "HiveYard$Content" "cells" "[J", .fieldLink RX1 83 "HiveYard$Content" "sort" "I", .fieldLink RX1 22 "HiveYard" "kindOfComb" "[I", .methodLink RX1 66 yX1_isNumbers, .static yX1_isNumbers, .initialized RX1, .code yX1_isNumbers cX1_isNumbers 1 (some .boolean), .methodLink RX1 126 yX1_isRow, .static yX1_isRow, .code yX1_isRow cX1_isRow 1 (some .boolean), .methodLink RX1 166 yX1_isComb, .instanceMethod yX1_isComb, .selects RX1 yX1_isComb yX1_isComb, .code yX1_isComb cX1_isComb 3 (some .boolean), .fieldLink RX1 96 "HiveYard" "combsMade" "I", .methodLink RX1 101 yX1_takes, .static yX1_takes, .code yX1_takes cX1_takes 3 (some .boolean)] ++ wsX00 ++ wsX10)
def wsX1_carry_r1 : List Cond := [Cond.fieldLink RX1 79 "HiveYard$Content" "cells" "[J", Cond.methodLink RX1 187 arraycopyName, Cond.native arraycopyName, Cond.static arraycopyName, Cond.initialized "java/lang/System", Cond.methodLink RX1 172 yX1_ended, Cond.instanceMethod yX1_ended, Cond.selects RX1 yX1_ended yX1_ended, Cond.initialized RX1, Cond.code yX1_ended cX1_ended 3 (some .int), Cond.fieldLink RX1 142 "HiveYard" "movesMade" "I", Cond.fieldLink RX1 29 "HiveYard" "movesByEnd" "[I", Cond.fieldLink RX1 120 "HiveYard" "latestMoved" "I", Cond.fieldLink RX1 145 "HiveYard" "placesMoved" "I", Cond.methodLink RX1 126 yX1_isRow, Cond.static yX1_isRow, Cond.code yX1_isRow cX1_isRow 1 (some .boolean), Cond.fieldLink RX1 83 "HiveYard$Content" "sort" "I", Cond.methodLink RX1 175 yX1_areUnlike, Cond.static yX1_areUnlike, Cond.code yX1_areUnlike cX1_areUnlike 2 (some .boolean), Cond.methodLink RX1 129 yX1_isCombs, Cond.static yX1_isCombs, Cond.code yX1_isCombs cX1_isCombs 1 (some .boolean)]
def wsX1_carry_r2 : List Cond := [Cond.methodLink RX1 179 yX1_isOutside, Cond.static yX1_isOutside, Cond.code yX1_isOutside cX1_isOutside 3 (some .boolean), Cond.methodLink RX1 183 yX1_howManyFit, Cond.instanceMethod yX1_howManyFit, Cond.selects RX1 yX1_howManyFit yX1_howManyFit, Cond.code yX1_howManyFit cX1_howManyFit 8 (some .int), Cond.fieldLink RX1 22 "HiveYard" "kindOfComb" "[I", Cond.methodLink RX1 66 yX1_isNumbers, Cond.static yX1_isNumbers, Cond.code yX1_isNumbers cX1_isNumbers 1 (some .boolean), Cond.methodLink RX1 166 yX1_isComb, Cond.instanceMethod yX1_isComb, Cond.selects RX1 yX1_isComb yX1_isComb, Cond.code yX1_isComb cX1_isComb 3 (some .boolean), Cond.fieldLink RX1 96 "HiveYard" "combsMade" "I", Cond.methodLink RX1 101 yX1_takes, Cond.static yX1_takes, Cond.code yX1_takes cX1_takes 3 (some .boolean)]
def wsX1_carry : List Cond := .code yX1_carry cX1_carry 7 (some .int) :: ((wsX1_carry_r1 ++ wsX1_carry_r2) ++ wsX00 ++ wsX10)
def wsX1_move_r1 : List Cond := [Cond.methodLink RX1 32 yX1_contentOf, Cond.instanceMethod yX1_contentOf, Cond.selects RX1 yX1_contentOf yX1_contentOf, Cond.initialized RX1, Cond.code yX1_contentOf cX1_contentOf 2 (some (.object "HiveYard$Content")), Cond.fieldLink RX1 11 "HiveYard" "boxes" "[LHiveYard$Content;", Cond.methodLink RX1 58 yX1_requireBox, Cond.static yX1_requireBox, Cond.code yX1_requireBox cX1_requireBox 1 none, Cond.classLink RX1 152 "java/lang/IndexOutOfBoundsException", Cond.initialized "java/lang/IndexOutOfBoundsException", Cond.methodLink RX1 107 yX1_carry, Cond.instanceMethod yX1_carry, Cond.selects RX1 yX1_carry yX1_carry, Cond.code yX1_carry cX1_carry 7 (some .int), Cond.fieldLink RX1 79 "HiveYard$Content" "cells" "[J", Cond.methodLink RX1 187 arraycopyName, Cond.native arraycopyName, Cond.static arraycopyName, Cond.initialized "java/lang/System", Cond.methodLink RX1 172 yX1_ended, Cond.instanceMethod yX1_ended, Cond.selects RX1 yX1_ended yX1_ended, Cond.code yX1_ended cX1_ended 3 (some .int)]
def wsX1_move_r2 : List Cond := [Cond.fieldLink RX1 142 "HiveYard" "movesMade" "I", Cond.fieldLink RX1 29 "HiveYard" "movesByEnd" "[I", Cond.fieldLink RX1 120 "HiveYard" "latestMoved" "I", Cond.fieldLink RX1 145 "HiveYard" "placesMoved" "I", Cond.methodLink RX1 126 yX1_isRow, Cond.static yX1_isRow, Cond.code yX1_isRow cX1_isRow 1 (some .boolean), Cond.fieldLink RX1 83 "HiveYard$Content" "sort" "I", Cond.methodLink RX1 175 yX1_areUnlike, Cond.static yX1_areUnlike, Cond.code yX1_areUnlike cX1_areUnlike 2 (some .boolean), Cond.methodLink RX1 129 yX1_isCombs, Cond.static yX1_isCombs, Cond.code yX1_isCombs cX1_isCombs 1 (some .boolean), Cond.methodLink RX1 179 yX1_isOutside, Cond.static yX1_isOutside, Cond.code yX1_isOutside cX1_isOutside 3 (some .boolean), Cond.methodLink RX1 183 yX1_howManyFit, Cond.instanceMethod yX1_howManyFit, Cond.selects RX1 yX1_howManyFit yX1_howManyFit, Cond.code yX1_howManyFit cX1_howManyFit 8 (some .int), Cond.fieldLink RX1 22 "HiveYard" "kindOfComb" "[I", Cond.methodLink RX1 66 yX1_isNumbers, Cond.static yX1_isNumbers]
def wsX1_move_r3 : List Cond := [Cond.code yX1_isNumbers cX1_isNumbers 1 (some .boolean), Cond.methodLink RX1 166 yX1_isComb, Cond.instanceMethod yX1_isComb, Cond.selects RX1 yX1_isComb yX1_isComb, Cond.code yX1_isComb cX1_isComb 3 (some .boolean), Cond.fieldLink RX1 96 "HiveYard" "combsMade" "I", Cond.methodLink RX1 101 yX1_takes, Cond.static yX1_takes, Cond.code yX1_takes cX1_takes 3 (some .boolean)]
def wsX1_move : List Cond := .code yX1_move cX1_move 8 (some .int) :: ((wsX1_move_r1 ++ (wsX1_move_r2 ++ wsX1_move_r3)) ++ wsX10 ++ wsX00 ++ (vx_atS RX1 156 "java/lang/IndexOutOfBoundsException" ["java/lang/RuntimeException", "java/lang/Exception"]).filter goodWord)
def wsX1_cellsIn : List Cond := .code yX1_cellsIn cX1_cellsIn 1 (some .int) :: ([.fieldLink RX1 79 "HiveYard$Content" "cells" "[J"] ++ wsX00)
def wsX1_pour_r1 : List Cond := [Cond.methodLink RX1 114 Lib.Math.min.name, Cond.static Lib.Math.min.name, Cond.initialized "java/lang/Math", Cond.code Lib.Math.min.name Lib.Math.min.code 2 (some .int), Cond.methodLink RX1 32 yX1_contentOf, Cond.instanceMethod yX1_contentOf, Cond.selects RX1 yX1_contentOf yX1_contentOf, Cond.initialized RX1, Cond.code yX1_contentOf cX1_contentOf 2 (some (.object "HiveYard$Content")), Cond.fieldLink RX1 11 "HiveYard" "boxes" "[LHiveYard$Content;", Cond.methodLink RX1 58 yX1_requireBox, Cond.static yX1_requireBox, Cond.code yX1_requireBox cX1_requireBox 1 none, Cond.classLink RX1 152 "java/lang/IndexOutOfBoundsException", Cond.initialized "java/lang/IndexOutOfBoundsException", Cond.methodLink RX1 111 yX1_cellsIn, Cond.static yX1_cellsIn, Cond.code yX1_cellsIn cX1_cellsIn 1 (some .int), Cond.fieldLink RX1 79 "HiveYard$Content" "cells" "[J", Cond.methodLink RX1 107 yX1_carry, Cond.instanceMethod yX1_carry, Cond.selects RX1 yX1_carry yX1_carry, Cond.code yX1_carry cX1_carry 7 (some .int), Cond.methodLink RX1 187 arraycopyName]
def wsX1_pour_r2 : List Cond := [Cond.native arraycopyName, Cond.static arraycopyName, Cond.initialized "java/lang/System", Cond.methodLink RX1 172 yX1_ended, Cond.instanceMethod yX1_ended, Cond.selects RX1 yX1_ended yX1_ended, Cond.code yX1_ended cX1_ended 3 (some .int), Cond.fieldLink RX1 142 "HiveYard" "movesMade" "I", Cond.fieldLink RX1 29 "HiveYard" "movesByEnd" "[I", Cond.fieldLink RX1 120 "HiveYard" "latestMoved" "I", Cond.fieldLink RX1 145 "HiveYard" "placesMoved" "I", Cond.methodLink RX1 126 yX1_isRow, Cond.static yX1_isRow, Cond.code yX1_isRow cX1_isRow 1 (some .boolean), Cond.fieldLink RX1 83 "HiveYard$Content" "sort" "I", Cond.methodLink RX1 175 yX1_areUnlike, Cond.static yX1_areUnlike, Cond.code yX1_areUnlike cX1_areUnlike 2 (some .boolean), Cond.methodLink RX1 129 yX1_isCombs, Cond.static yX1_isCombs, Cond.code yX1_isCombs cX1_isCombs 1 (some .boolean), Cond.methodLink RX1 179 yX1_isOutside, Cond.static yX1_isOutside, Cond.code yX1_isOutside cX1_isOutside 3 (some .boolean)]
def wsX1_pour_r3 : List Cond := [Cond.methodLink RX1 183 yX1_howManyFit, Cond.instanceMethod yX1_howManyFit, Cond.selects RX1 yX1_howManyFit yX1_howManyFit, Cond.code yX1_howManyFit cX1_howManyFit 8 (some .int), Cond.fieldLink RX1 22 "HiveYard" "kindOfComb" "[I", Cond.methodLink RX1 66 yX1_isNumbers, Cond.static yX1_isNumbers, Cond.code yX1_isNumbers cX1_isNumbers 1 (some .boolean), Cond.methodLink RX1 166 yX1_isComb, Cond.instanceMethod yX1_isComb, Cond.selects RX1 yX1_isComb yX1_isComb, Cond.code yX1_isComb cX1_isComb 3 (some .boolean), Cond.fieldLink RX1 96 "HiveYard" "combsMade" "I", Cond.methodLink RX1 101 yX1_takes, Cond.static yX1_takes, Cond.code yX1_takes cX1_takes 3 (some .boolean)]
def wsX1_pour : List Cond := .code yX1_pour cX1_pour 6 (some .int) :: ((wsX1_pour_r1 ++ (wsX1_pour_r2 ++ wsX1_pour_r3)) ++ wsX10 ++ wsX00 ++ (vx_atS RX1 156 "java/lang/IndexOutOfBoundsException" ["java/lang/RuntimeException", "java/lang/Exception"]).filter goodWord)
def wsX1_moved : List Cond := .code yX1_moved cX1_moved 1 (some .int) :: ([.fieldLink RX1 120 "HiveYard" "latestMoved" "I"] ++ wsX10)
def wsX1_requireRow : List Cond := .code yX1_requireRow cX1_requireRow 1 none :: ([.classLink RX1 70 "java/lang/IllegalStateException", .initialized "java/lang/IllegalStateException", .methodLink RX1 126 yX1_isRow, .static yX1_isRow, .initialized RX1, .code yX1_isRow cX1_isRow 1 (some .boolean), .fieldLink RX1 83 "HiveYard$Content" "sort" "I"] ++ wsX00 ++ (vx_atS RX1 74 "java/lang/IllegalStateException" ["java/lang/RuntimeException", "java/lang/Exception"]).filter goodWord)
def wsX1_at_r1 : List Cond := [Cond.fieldLink RX1 79 "HiveYard$Content" "cells" "[J", Cond.methodLink RX1 32 yX1_contentOf, Cond.instanceMethod yX1_contentOf, Cond.selects RX1 yX1_contentOf yX1_contentOf, Cond.initialized RX1, Cond.code yX1_contentOf cX1_contentOf 2 (some (.object "HiveYard$Content")), Cond.fieldLink RX1 11 "HiveYard" "boxes" "[LHiveYard$Content;", Cond.methodLink RX1 58 yX1_requireBox, Cond.static yX1_requireBox, Cond.code yX1_requireBox cX1_requireBox 1 none, Cond.classLink RX1 152 "java/lang/IndexOutOfBoundsException", Cond.initialized "java/lang/IndexOutOfBoundsException", Cond.methodLink RX1 123 yX1_requireRow, Cond.static yX1_requireRow, Cond.code yX1_requireRow cX1_requireRow 1 none, Cond.classLink RX1 70 "java/lang/IllegalStateException", Cond.initialized "java/lang/IllegalStateException", Cond.methodLink RX1 126 yX1_isRow, Cond.static yX1_isRow, Cond.code yX1_isRow cX1_isRow 1 (some .boolean), Cond.fieldLink RX1 83 "HiveYard$Content" "sort" "I", Cond.methodLink RX1 75 yX1_requirePlace, Cond.static yX1_requirePlace, Cond.code yX1_requirePlace cX1_requirePlace 2 none]
def wsX1_at_r2 : List Cond := [Cond.classLink RX1 161 "java/util/NoSuchElementException", Cond.initialized "java/util/NoSuchElementException"]
def wsX1_at : List Cond := .code yX1_at cX1_at 4 (some .long) :: ((wsX1_at_r1 ++ wsX1_at_r2) ++ wsX00 ++ wsX10 ++ (vx_atS RX1 156 "java/lang/IndexOutOfBoundsException" ["java/lang/RuntimeException", "java/lang/Exception"]).filter goodWord ++ (vx_atS RX1 74 "java/lang/IllegalStateException" ["java/lang/RuntimeException", "java/lang/Exception"]).filter goodWord ++ (hy_atN RX1 165 "java/util/NoSuchElementException" ["java/lang/RuntimeException", "java/lang/Exception"]).filter goodWord)
def wsX1_holds : List Cond := .code yX1_holds cX1_holds 2 (some .int) :: ([.methodLink RX1 32 yX1_contentOf, .instanceMethod yX1_contentOf, .selects RX1 yX1_contentOf yX1_contentOf, .initialized RX1, .code yX1_contentOf cX1_contentOf 2 (some (.object "HiveYard$Content")), .fieldLink RX1 11 "HiveYard" "boxes" "[LHiveYard$Content;", .methodLink RX1 58 yX1_requireBox, .static yX1_requireBox, .code yX1_requireBox cX1_requireBox 1 none, .classLink RX1 152 "java/lang/IndexOutOfBoundsException", .initialized "java/lang/IndexOutOfBoundsException", .methodLink RX1 62 yX1_sortOf, .static yX1_sortOf, .code yX1_sortOf cX1_sortOf 1 (some .int), .fieldLink RX1 83 "HiveYard$Content" "sort" "I"] ++ wsX10 ++ wsX00 ++ (vx_atS RX1 156 "java/lang/IndexOutOfBoundsException" ["java/lang/RuntimeException", "java/lang/Exception"]).filter goodWord)
def wsX1_places : List Cond := .code yX1_places cX1_places 3 (some .int) :: ([.fieldLink RX1 79 "HiveYard$Content" "cells" "[J", .methodLink RX1 32 yX1_contentOf, .instanceMethod yX1_contentOf, .selects RX1 yX1_contentOf yX1_contentOf, .initialized RX1, .code yX1_contentOf cX1_contentOf 2 (some (.object "HiveYard$Content")), .fieldLink RX1 11 "HiveYard" "boxes" "[LHiveYard$Content;", .methodLink RX1 58 yX1_requireBox, .static yX1_requireBox, .code yX1_requireBox cX1_requireBox 1 none, .classLink RX1 152 "java/lang/IndexOutOfBoundsException", .initialized "java/lang/IndexOutOfBoundsException", .methodLink RX1 123 yX1_requireRow, .static yX1_requireRow, .code yX1_requireRow cX1_requireRow 1 none, .classLink RX1 70 "java/lang/IllegalStateException", .initialized "java/lang/IllegalStateException", .methodLink RX1 126 yX1_isRow, .static yX1_isRow, .code yX1_isRow cX1_isRow 1 (some .boolean), .fieldLink RX1 83 "HiveYard$Content" "sort" "I"] ++ wsX00 ++ wsX10 ++ (vx_atS RX1 156 "java/lang/IndexOutOfBoundsException" ["java/lang/RuntimeException", "java/lang/Exception"]).filter goodWord ++ (vx_atS RX1 74 "java/lang/IllegalStateException" ["java/lang/RuntimeException", "java/lang/Exception"]).filter goodWord)
def wsX1_same : List Cond := .code yX1_same cX1_same 5 (some .boolean) :: ([.methodLink RX1 32 yX1_contentOf, .instanceMethod yX1_contentOf, .selects RX1 yX1_contentOf yX1_contentOf, .initialized RX1, .code yX1_contentOf cX1_contentOf 2 (some (.object "HiveYard$Content")), .fieldLink RX1 11 "HiveYard" "boxes" "[LHiveYard$Content;", .methodLink RX1 58 yX1_requireBox, .static yX1_requireBox, .code yX1_requireBox cX1_requireBox 1 none, .classLink RX1 152 "java/lang/IndexOutOfBoundsException", .initialized "java/lang/IndexOutOfBoundsException", .methodLink RX1 126 yX1_isRow, .static yX1_isRow, .code yX1_isRow cX1_isRow 1 (some .boolean), .fieldLink RX1 83 "HiveYard$Content" "sort" "I"] ++ wsX10 ++ wsX00 ++ (vx_atS RX1 156 "java/lang/IndexOutOfBoundsException" ["java/lang/RuntimeException", "java/lang/Exception"]).filter goodWord)
def wsX1_sumOfWeights : List Cond := .code yX1_sumOfWeights cX1_sumOfWeights 5 (some .long) :: ([.fieldLink RX1 26 "HiveYard" "weightOfComb" "[I", .methodLink RX1 166 yX1_isComb, .instanceMethod yX1_isComb, .selects RX1 yX1_isComb yX1_isComb, .initialized RX1, .code yX1_isComb cX1_isComb 3 (some .boolean), .fieldLink RX1 96 "HiveYard" "combsMade" "I"] ++ wsX10)
def wsX1_sumOfNumbers : List Cond := .code yX1_sumOfNumbers cX1_sumOfNumbers 4 (some .long) :: ([])
def wsX1_all_r1 : List Cond := [Cond.fieldLink RX1 79 "HiveYard$Content" "cells" "[J", Cond.methodLink RX1 32 yX1_contentOf, Cond.instanceMethod yX1_contentOf, Cond.selects RX1 yX1_contentOf yX1_contentOf, Cond.initialized RX1, Cond.code yX1_contentOf cX1_contentOf 2 (some (.object "HiveYard$Content")), Cond.fieldLink RX1 11 "HiveYard" "boxes" "[LHiveYard$Content;", Cond.methodLink RX1 58 yX1_requireBox, Cond.static yX1_requireBox, Cond.code yX1_requireBox cX1_requireBox 1 none, Cond.classLink RX1 152 "java/lang/IndexOutOfBoundsException", Cond.initialized "java/lang/IndexOutOfBoundsException", Cond.methodLink RX1 123 yX1_requireRow, Cond.static yX1_requireRow, Cond.code yX1_requireRow cX1_requireRow 1 none, Cond.classLink RX1 70 "java/lang/IllegalStateException", Cond.initialized "java/lang/IllegalStateException", Cond.methodLink RX1 126 yX1_isRow, Cond.static yX1_isRow, Cond.code yX1_isRow cX1_isRow 1 (some .boolean), Cond.fieldLink RX1 83 "HiveYard$Content" "sort" "I", Cond.methodLink RX1 129 yX1_isCombs, Cond.static yX1_isCombs, Cond.code yX1_isCombs cX1_isCombs 1 (some .boolean)]
def wsX1_all_r2 : List Cond := [Cond.methodLink RX1 132 yX1_sumOfWeights, Cond.instanceMethod yX1_sumOfWeights, Cond.selects RX1 yX1_sumOfWeights yX1_sumOfWeights, Cond.code yX1_sumOfWeights cX1_sumOfWeights 5 (some .long), Cond.fieldLink RX1 26 "HiveYard" "weightOfComb" "[I", Cond.methodLink RX1 166 yX1_isComb, Cond.instanceMethod yX1_isComb, Cond.selects RX1 yX1_isComb yX1_isComb, Cond.code yX1_isComb cX1_isComb 3 (some .boolean), Cond.fieldLink RX1 96 "HiveYard" "combsMade" "I", Cond.methodLink RX1 136 yX1_sumOfNumbers, Cond.static yX1_sumOfNumbers, Cond.code yX1_sumOfNumbers cX1_sumOfNumbers 4 (some .long)]
def wsX1_all : List Cond := .code yX1_all cX1_all 3 (some .long) :: ((wsX1_all_r1 ++ wsX1_all_r2) ++ wsX00 ++ wsX10 ++ (vx_atS RX1 156 "java/lang/IndexOutOfBoundsException" ["java/lang/RuntimeException", "java/lang/Exception"]).filter goodWord ++ (vx_atS RX1 74 "java/lang/IllegalStateException" ["java/lang/RuntimeException", "java/lang/Exception"]).filter goodWord)
def wsX1_requireComb : List Cond := .code yX1_requireComb cX1_requireComb 2 none :: ([.classLink RX1 161 "java/util/NoSuchElementException", .initialized "java/util/NoSuchElementException", .methodLink RX1 166 yX1_isComb, .instanceMethod yX1_isComb, .selects RX1 yX1_isComb yX1_isComb, .initialized RX1, .code yX1_isComb cX1_isComb 3 (some .boolean), .fieldLink RX1 96 "HiveYard" "combsMade" "I"] ++ wsX10 ++ (hy_atN RX1 165 "java/util/NoSuchElementException" ["java/lang/RuntimeException", "java/lang/Exception"]).filter goodWord)
def wsX1_feed : List Cond := .code yX1_feed cX1_feed 3 (some .int) :: ([.fieldLink RX1 26 "HiveYard" "weightOfComb" "[I", .methodLink RX1 139 yX1_requireComb, .instanceMethod yX1_requireComb, .selects RX1 yX1_requireComb yX1_requireComb, .initialized RX1, .code yX1_requireComb cX1_requireComb 2 none, .classLink RX1 161 "java/util/NoSuchElementException", .initialized "java/util/NoSuchElementException", .methodLink RX1 166 yX1_isComb, .instanceMethod yX1_isComb, .selects RX1 yX1_isComb yX1_isComb, .code yX1_isComb cX1_isComb 3 (some .boolean), .fieldLink RX1 96 "HiveYard" "combsMade" "I"] ++ wsX10 ++ (hy_atN RX1 165 "java/util/NoSuchElementException" ["java/lang/RuntimeException", "java/lang/Exception"]).filter goodWord)
def wsX1_kind : List Cond := .code yX1_kind cX1_kind 2 (some .int) :: ([.fieldLink RX1 22 "HiveYard" "kindOfComb" "[I", .methodLink RX1 139 yX1_requireComb, .instanceMethod yX1_requireComb, .selects RX1 yX1_requireComb yX1_requireComb, .initialized RX1, .code yX1_requireComb cX1_requireComb 2 none, .classLink RX1 161 "java/util/NoSuchElementException", .initialized "java/util/NoSuchElementException", .methodLink RX1 166 yX1_isComb, .instanceMethod yX1_isComb, .selects RX1 yX1_isComb yX1_isComb, .code yX1_isComb cX1_isComb 3 (some .boolean), .fieldLink RX1 96 "HiveYard" "combsMade" "I"] ++ wsX10 ++ (hy_atN RX1 165 "java/util/NoSuchElementException" ["java/lang/RuntimeException", "java/lang/Exception"]).filter goodWord)
def wsX1_countOfEnd : List Cond := .code yX1_countOfEnd cX1_countOfEnd 2 (some .int) :: ([.fieldLink RX1 29 "HiveYard" "movesByEnd" "[I"] ++ wsX10)
def wsX1_count : List Cond := .code yX1_count cX1_count 2 (some .int) :: ([.fieldLink RX1 45 "HiveYard" "rowsMade" "I", .fieldLink RX1 96 "HiveYard" "combsMade" "I", .fieldLink RX1 142 "HiveYard" "movesMade" "I", .fieldLink RX1 145 "HiveYard" "placesMoved" "I", .methodLink RX1 148 yX1_countOfEnd, .instanceMethod yX1_countOfEnd, .selects RX1 yX1_countOfEnd yX1_countOfEnd, .initialized RX1, .code yX1_countOfEnd cX1_countOfEnd 2 (some .int), .fieldLink RX1 29 "HiveYard" "movesByEnd" "[I"] ++ wsX10)
def wsX2_init : List Cond := .code yX2_init cX2_init 2 none :: ([.methodLink RX2 1 objectInit, .instanceMethod objectInit, .code objectInit ⟨#[0xb1]⟩ 1 none, .arrayClass .int, .fieldLink RX2 7 "HiveYardModel" "boxes" "[I", .fieldLink RX2 13 "HiveYardModel" "sorts" "[I", .fieldLink RX2 16 "HiveYardModel" "sizes" "[I", .arrayClass .long, .fieldLink RX2 19 "HiveYardModel" "stands" "[J", .fieldLink RX2 23 "HiveYardModel" "taken" "[J", .fieldLink RX2 26 "HiveYardModel" "kinds" "[I", .fieldLink RX2 29 "HiveYardModel" "weights" "[I", .fieldLink RX2 32 "HiveYardModel" "ended" "[I"] ++ wsX20)
def wsX2_thrown : List Cond := .code yX2_thrown cX2_thrown 1 (some .int) :: ([.fieldLink RX2 35 "HiveYardModel" "thrown" "I"] ++ wsX20)
def wsX2_fail : List Cond := .code yX2_fail cX2_fail 2 (some .int) :: ([.fieldLink RX2 35 "HiveYardModel" "thrown" "I"] ++ wsX20)
def wsX2_isBox : List Cond := .code yX2_isBox cX2_isBox 1 (some .boolean) :: ([])
def wsX2_isOfCombs : List Cond := .code yX2_isOfCombs cX2_isOfCombs 1 (some .boolean) :: ([])
def wsX2_what : List Cond := .code yX2_what cX2_what 3 (some .int) :: ([.fieldLink RX2 7 "HiveYardModel" "boxes" "[I", .fieldLink RX2 13 "HiveYardModel" "sorts" "[I"] ++ wsX20)
def wsX2_hasRow : List Cond := .code yX2_hasRow cX2_hasRow 2 (some .boolean) :: ([.fieldLink RX2 7 "HiveYardModel" "boxes" "[I"] ++ wsX20)
def wsX2_isPlace : List Cond := .code yX2_isPlace cX2_isPlace 3 (some .boolean) :: ([.fieldLink RX2 16 "HiveYardModel" "sizes" "[I", .fieldLink RX2 7 "HiveYardModel" "boxes" "[I"] ++ wsX20)
def wsX2_takes : List Cond := .code yX2_takes cX2_takes 2 (some .boolean) :: ([])
def wsX2_cut : List Cond := .code yX2_cut cX2_cut 3 (some .long) :: ([])
def wsX2_row : List Cond := .code yX2_row cX2_row 7 (some .boolean) :: ([.fieldLink RX2 35 "HiveYardModel" "thrown" "I", .fieldLink RX2 47 "HiveYardModel" "rows" "I", .fieldLink RX2 7 "HiveYardModel" "boxes" "[I", .fieldLink RX2 13 "HiveYardModel" "sorts" "[I", .fieldLink RX2 16 "HiveYardModel" "sizes" "[I", .fieldLink RX2 19 "HiveYardModel" "stands" "[J", .constantLong RX2 53 (-1), .methodLink RX2 39 yX2_isBox, .static yX2_isBox, .initialized RX2, .code yX2_isBox cX2_isBox 1 (some .boolean), .methodLink RX2 43 yX2_fail, .instanceMethod yX2_fail, .selects RX2 yX2_fail yX2_fail, .code yX2_fail cX2_fail 2 (some .int), .methodLink RX2 50 yX2_isOfCombs, .static yX2_isOfCombs, .code yX2_isOfCombs cX2_isOfCombs 1 (some .boolean)] ++ wsX20)
def wsX2_lid : List Cond := .code yX2_lid cX2_lid 3 (some .boolean) :: ([.fieldLink RX2 35 "HiveYardModel" "thrown" "I", .fieldLink RX2 7 "HiveYardModel" "boxes" "[I", .methodLink RX2 39 yX2_isBox, .static yX2_isBox, .initialized RX2, .code yX2_isBox cX2_isBox 1 (some .boolean), .methodLink RX2 43 yX2_fail, .instanceMethod yX2_fail, .selects RX2 yX2_fail yX2_fail, .code yX2_fail cX2_fail 2 (some .int)] ++ wsX20)
def wsX2_clear : List Cond := .code yX2_clear cX2_clear 3 (some .boolean) :: ([.fieldLink RX2 35 "HiveYardModel" "thrown" "I", .fieldLink RX2 7 "HiveYardModel" "boxes" "[I", .methodLink RX2 39 yX2_isBox, .static yX2_isBox, .initialized RX2, .code yX2_isBox cX2_isBox 1 (some .boolean), .methodLink RX2 43 yX2_fail, .instanceMethod yX2_fail, .selects RX2 yX2_fail yX2_fail, .code yX2_fail cX2_fail 2 (some .int)] ++ wsX20)
def wsX2_share : List Cond := .code yX2_share cX2_share 3 (some .int) :: ([.fieldLink RX2 35 "HiveYardModel" "thrown" "I", .fieldLink RX2 7 "HiveYardModel" "boxes" "[I", .methodLink RX2 39 yX2_isBox, .static yX2_isBox, .initialized RX2, .code yX2_isBox cX2_isBox 1 (some .boolean), .methodLink RX2 43 yX2_fail, .instanceMethod yX2_fail, .selects RX2 yX2_fail yX2_fail, .code yX2_fail cX2_fail 2 (some .int), .methodLink RX2 55 yX2_what, .instanceMethod yX2_what, .selects RX2 yX2_what yX2_what, .code yX2_what cX2_what 3 (some .int), .fieldLink RX2 13 "HiveYardModel" "sorts" "[I"] ++ wsX20)
def wsX2_barred : List Cond := .code yX2_barred cX2_barred 5 (some .int) :: ([.methodLink RX2 58 yX2_hasRow, .instanceMethod yX2_hasRow, .selects RX2 yX2_hasRow yX2_hasRow, .initialized RX2, .code yX2_hasRow cX2_hasRow 2 (some .boolean), .fieldLink RX2 7 "HiveYardModel" "boxes" "[I", .methodLink RX2 55 yX2_what, .instanceMethod yX2_what, .selects RX2 yX2_what yX2_what, .code yX2_what cX2_what 3 (some .int), .fieldLink RX2 13 "HiveYardModel" "sorts" "[I", .methodLink RX2 50 yX2_isOfCombs, .static yX2_isOfCombs, .code yX2_isOfCombs cX2_isOfCombs 1 (some .boolean), .methodLink RX2 61 yX2_isPlace, .instanceMethod yX2_isPlace, .selects RX2 yX2_isPlace yX2_isPlace, .code yX2_isPlace cX2_isPlace 3 (some .boolean), .fieldLink RX2 16 "HiveYardModel" "sizes" "[I"] ++ wsX20)
def wsX2_put_r1 : List Cond := [Cond.fieldLink RX2 35 "HiveYardModel" "thrown" "I", Cond.fieldLink RX2 7 "HiveYardModel" "boxes" "[I", Cond.fieldLink RX2 19 "HiveYardModel" "stands" "[J", Cond.methodLink RX2 39 yX2_isBox, Cond.static yX2_isBox, Cond.initialized RX2, Cond.code yX2_isBox cX2_isBox 1 (some .boolean), Cond.methodLink RX2 43 yX2_fail, Cond.instanceMethod yX2_fail, Cond.selects RX2 yX2_fail yX2_fail, Cond.code yX2_fail cX2_fail 2 (some .int), Cond.methodLink RX2 65 yX2_barred, Cond.instanceMethod yX2_barred, Cond.selects RX2 yX2_barred yX2_barred, Cond.code yX2_barred cX2_barred 5 (some .int), Cond.methodLink RX2 58 yX2_hasRow, Cond.instanceMethod yX2_hasRow, Cond.selects RX2 yX2_hasRow yX2_hasRow, Cond.code yX2_hasRow cX2_hasRow 2 (some .boolean), Cond.methodLink RX2 55 yX2_what, Cond.instanceMethod yX2_what, Cond.selects RX2 yX2_what yX2_what, Cond.code yX2_what cX2_what 3 (some .int), Cond.fieldLink RX2 13 "HiveYardModel" "sorts" "[I"]
def wsX2_put_r2 : List Cond := [Cond.methodLink RX2 50 yX2_isOfCombs, Cond.static yX2_isOfCombs, Cond.code yX2_isOfCombs cX2_isOfCombs 1 (some .boolean), Cond.methodLink RX2 61 yX2_isPlace, Cond.instanceMethod yX2_isPlace, Cond.selects RX2 yX2_isPlace yX2_isPlace, Cond.code yX2_isPlace cX2_isPlace 3 (some .boolean), Cond.fieldLink RX2 16 "HiveYardModel" "sizes" "[I", Cond.methodLink RX2 69 yX2_cut, Cond.static yX2_cut, Cond.code yX2_cut cX2_cut 3 (some .long)]
def wsX2_put : List Cond := .code yX2_put cX2_put 9 (some .long) :: ((wsX2_put_r1 ++ wsX2_put_r2) ++ wsX20)
def wsX2_lay_r1 : List Cond := [Cond.fieldLink RX2 35 "HiveYardModel" "thrown" "I", Cond.fieldLink RX2 73 "HiveYardModel" "combs" "I", Cond.fieldLink RX2 26 "HiveYardModel" "kinds" "[I", Cond.fieldLink RX2 29 "HiveYardModel" "weights" "[I", Cond.fieldLink RX2 19 "HiveYardModel" "stands" "[J", Cond.fieldLink RX2 7 "HiveYardModel" "boxes" "[I", Cond.methodLink RX2 39 yX2_isBox, Cond.static yX2_isBox, Cond.initialized RX2, Cond.code yX2_isBox cX2_isBox 1 (some .boolean), Cond.methodLink RX2 43 yX2_fail, Cond.instanceMethod yX2_fail, Cond.selects RX2 yX2_fail yX2_fail, Cond.code yX2_fail cX2_fail 2 (some .int), Cond.methodLink RX2 65 yX2_barred, Cond.instanceMethod yX2_barred, Cond.selects RX2 yX2_barred yX2_barred, Cond.code yX2_barred cX2_barred 5 (some .int), Cond.methodLink RX2 58 yX2_hasRow, Cond.instanceMethod yX2_hasRow, Cond.selects RX2 yX2_hasRow yX2_hasRow, Cond.code yX2_hasRow cX2_hasRow 2 (some .boolean), Cond.methodLink RX2 55 yX2_what, Cond.instanceMethod yX2_what]
def wsX2_lay_r2 : List Cond := [Cond.selects RX2 yX2_what yX2_what, Cond.code yX2_what cX2_what 3 (some .int), Cond.fieldLink RX2 13 "HiveYardModel" "sorts" "[I", Cond.methodLink RX2 50 yX2_isOfCombs, Cond.static yX2_isOfCombs, Cond.code yX2_isOfCombs cX2_isOfCombs 1 (some .boolean), Cond.methodLink RX2 61 yX2_isPlace, Cond.instanceMethod yX2_isPlace, Cond.selects RX2 yX2_isPlace yX2_isPlace, Cond.code yX2_isPlace cX2_isPlace 3 (some .boolean), Cond.fieldLink RX2 16 "HiveYardModel" "sizes" "[I", Cond.methodLink RX2 76 yX2_takes, Cond.static yX2_takes, Cond.code yX2_takes cX2_takes 2 (some .boolean)]
def wsX2_lay : List Cond := .code yX2_lay cX2_lay 6 (some .int) :: ((wsX2_lay_r1 ++ wsX2_lay_r2) ++ wsX20)
def wsX2_lift_r1 : List Cond := [Cond.fieldLink RX2 35 "HiveYardModel" "thrown" "I", Cond.fieldLink RX2 7 "HiveYardModel" "boxes" "[I", Cond.fieldLink RX2 19 "HiveYardModel" "stands" "[J", Cond.constantLong RX2 53 (-1), Cond.methodLink RX2 39 yX2_isBox, Cond.static yX2_isBox, Cond.initialized RX2, Cond.code yX2_isBox cX2_isBox 1 (some .boolean), Cond.methodLink RX2 43 yX2_fail, Cond.instanceMethod yX2_fail, Cond.selects RX2 yX2_fail yX2_fail, Cond.code yX2_fail cX2_fail 2 (some .int), Cond.methodLink RX2 65 yX2_barred, Cond.instanceMethod yX2_barred, Cond.selects RX2 yX2_barred yX2_barred, Cond.code yX2_barred cX2_barred 5 (some .int), Cond.methodLink RX2 58 yX2_hasRow, Cond.instanceMethod yX2_hasRow, Cond.selects RX2 yX2_hasRow yX2_hasRow, Cond.code yX2_hasRow cX2_hasRow 2 (some .boolean), Cond.methodLink RX2 55 yX2_what, Cond.instanceMethod yX2_what, Cond.selects RX2 yX2_what yX2_what, Cond.code yX2_what cX2_what 3 (some .int)]
def wsX2_lift_r2 : List Cond := [Cond.fieldLink RX2 13 "HiveYardModel" "sorts" "[I", Cond.methodLink RX2 50 yX2_isOfCombs, Cond.static yX2_isOfCombs, Cond.code yX2_isOfCombs cX2_isOfCombs 1 (some .boolean), Cond.methodLink RX2 61 yX2_isPlace, Cond.instanceMethod yX2_isPlace, Cond.selects RX2 yX2_isPlace yX2_isPlace, Cond.code yX2_isPlace cX2_isPlace 3 (some .boolean), Cond.fieldLink RX2 16 "HiveYardModel" "sizes" "[I"]
def wsX2_lift : List Cond := .code yX2_lift cX2_lift 6 (some .int) :: ((wsX2_lift_r1 ++ wsX2_lift_r2) ++ wsX20)
def wsX2_isOutside : List Cond := .code yX2_isOutside cX2_isOutside 3 (some .boolean) :: ([])
def wsX2_bars : List Cond := .code yX2_bars cX2_bars 9 (some .int) :: ([.fieldLink RX2 7 "HiveYardModel" "boxes" "[I", .fieldLink RX2 16 "HiveYardModel" "sizes" "[I", .methodLink RX2 58 yX2_hasRow, .instanceMethod yX2_hasRow, .selects RX2 yX2_hasRow yX2_hasRow, .initialized RX2, .code yX2_hasRow cX2_hasRow 2 (some .boolean), .methodLink RX2 55 yX2_what, .instanceMethod yX2_what, .selects RX2 yX2_what yX2_what, .code yX2_what cX2_what 3 (some .int), .fieldLink RX2 13 "HiveYardModel" "sorts" "[I", .methodLink RX2 50 yX2_isOfCombs, .static yX2_isOfCombs, .code yX2_isOfCombs cX2_isOfCombs 1 (some .boolean), .methodLink RX2 79 yX2_isOutside, .static yX2_isOutside, .code yX2_isOutside cX2_isOutside 3 (some .boolean)] ++ wsX20)
def wsX2_goes_r1 : List Cond := [Cond.fieldLink RX2 83 "HiveYardModel" "moved" "I", Cond.fieldLink RX2 7 "HiveYardModel" "boxes" "[I", Cond.fieldLink RX2 23 "HiveYardModel" "taken" "[J", Cond.fieldLink RX2 19 "HiveYardModel" "stands" "[J", Cond.fieldLink RX2 26 "HiveYardModel" "kinds" "[I", Cond.methodLink RX2 86 yX2_bars, Cond.instanceMethod yX2_bars, Cond.selects RX2 yX2_bars yX2_bars, Cond.initialized RX2, Cond.code yX2_bars cX2_bars 9 (some .int), Cond.fieldLink RX2 16 "HiveYardModel" "sizes" "[I", Cond.methodLink RX2 58 yX2_hasRow, Cond.instanceMethod yX2_hasRow, Cond.selects RX2 yX2_hasRow yX2_hasRow, Cond.code yX2_hasRow cX2_hasRow 2 (some .boolean), Cond.methodLink RX2 55 yX2_what, Cond.instanceMethod yX2_what, Cond.selects RX2 yX2_what yX2_what, Cond.code yX2_what cX2_what 3 (some .int), Cond.fieldLink RX2 13 "HiveYardModel" "sorts" "[I", Cond.methodLink RX2 50 yX2_isOfCombs, Cond.static yX2_isOfCombs, Cond.code yX2_isOfCombs cX2_isOfCombs 1 (some .boolean), Cond.methodLink RX2 79 yX2_isOutside]
def wsX2_goes_r2 : List Cond := [Cond.static yX2_isOutside, Cond.code yX2_isOutside cX2_isOutside 3 (some .boolean), Cond.methodLink RX2 76 yX2_takes, Cond.static yX2_takes, Cond.code yX2_takes cX2_takes 2 (some .boolean)]
def wsX2_goes : List Cond := .code yX2_goes cX2_goes 12 (some .int) :: ((wsX2_goes_r1 ++ wsX2_goes_r2) ++ wsX20)
def wsX2_told : List Cond := .code yX2_told cX2_told 2 (some .int) :: ([.fieldLink RX2 90 "HiveYardModel" "moves" "I", .fieldLink RX2 32 "HiveYardModel" "ended" "[I", .fieldLink RX2 93 "HiveYardModel" "allMoved" "I", .fieldLink RX2 83 "HiveYardModel" "moved" "I"] ++ wsX20)
def wsX2_move_r1 : List Cond := [Cond.fieldLink RX2 35 "HiveYardModel" "thrown" "I", Cond.methodLink RX2 39 yX2_isBox, Cond.static yX2_isBox, Cond.initialized RX2, Cond.code yX2_isBox cX2_isBox 1 (some .boolean), Cond.methodLink RX2 43 yX2_fail, Cond.instanceMethod yX2_fail, Cond.selects RX2 yX2_fail yX2_fail, Cond.code yX2_fail cX2_fail 2 (some .int), Cond.methodLink RX2 96 yX2_goes, Cond.instanceMethod yX2_goes, Cond.selects RX2 yX2_goes yX2_goes, Cond.code yX2_goes cX2_goes 12 (some .int), Cond.fieldLink RX2 83 "HiveYardModel" "moved" "I", Cond.fieldLink RX2 7 "HiveYardModel" "boxes" "[I", Cond.fieldLink RX2 23 "HiveYardModel" "taken" "[J", Cond.fieldLink RX2 19 "HiveYardModel" "stands" "[J", Cond.fieldLink RX2 26 "HiveYardModel" "kinds" "[I", Cond.methodLink RX2 86 yX2_bars, Cond.instanceMethod yX2_bars, Cond.selects RX2 yX2_bars yX2_bars, Cond.code yX2_bars cX2_bars 9 (some .int), Cond.fieldLink RX2 16 "HiveYardModel" "sizes" "[I", Cond.methodLink RX2 58 yX2_hasRow]
def wsX2_move_r2 : List Cond := [Cond.instanceMethod yX2_hasRow, Cond.selects RX2 yX2_hasRow yX2_hasRow, Cond.code yX2_hasRow cX2_hasRow 2 (some .boolean), Cond.methodLink RX2 55 yX2_what, Cond.instanceMethod yX2_what, Cond.selects RX2 yX2_what yX2_what, Cond.code yX2_what cX2_what 3 (some .int), Cond.fieldLink RX2 13 "HiveYardModel" "sorts" "[I", Cond.methodLink RX2 50 yX2_isOfCombs, Cond.static yX2_isOfCombs, Cond.code yX2_isOfCombs cX2_isOfCombs 1 (some .boolean), Cond.methodLink RX2 79 yX2_isOutside, Cond.static yX2_isOutside, Cond.code yX2_isOutside cX2_isOutside 3 (some .boolean), Cond.methodLink RX2 76 yX2_takes, Cond.static yX2_takes, Cond.code yX2_takes cX2_takes 2 (some .boolean), Cond.methodLink RX2 99 yX2_told, Cond.instanceMethod yX2_told, Cond.selects RX2 yX2_told yX2_told, Cond.code yX2_told cX2_told 2 (some .int), Cond.fieldLink RX2 90 "HiveYardModel" "moves" "I", Cond.fieldLink RX2 32 "HiveYardModel" "ended" "[I", Cond.fieldLink RX2 93 "HiveYardModel" "allMoved" "I"]
def wsX2_move : List Cond := .code yX2_move cX2_move 6 (some .int) :: ((wsX2_move_r1 ++ wsX2_move_r2) ++ wsX20)
def wsX2_pour_r1 : List Cond := [Cond.fieldLink RX2 35 "HiveYardModel" "thrown" "I", Cond.fieldLink RX2 16 "HiveYardModel" "sizes" "[I", Cond.fieldLink RX2 7 "HiveYardModel" "boxes" "[I", Cond.methodLink RX2 39 yX2_isBox, Cond.static yX2_isBox, Cond.initialized RX2, Cond.code yX2_isBox cX2_isBox 1 (some .boolean), Cond.methodLink RX2 43 yX2_fail, Cond.instanceMethod yX2_fail, Cond.selects RX2 yX2_fail yX2_fail, Cond.code yX2_fail cX2_fail 2 (some .int), Cond.methodLink RX2 58 yX2_hasRow, Cond.instanceMethod yX2_hasRow, Cond.selects RX2 yX2_hasRow yX2_hasRow, Cond.code yX2_hasRow cX2_hasRow 2 (some .boolean), Cond.methodLink RX2 96 yX2_goes, Cond.instanceMethod yX2_goes, Cond.selects RX2 yX2_goes yX2_goes, Cond.code yX2_goes cX2_goes 12 (some .int), Cond.fieldLink RX2 83 "HiveYardModel" "moved" "I", Cond.fieldLink RX2 23 "HiveYardModel" "taken" "[J", Cond.fieldLink RX2 19 "HiveYardModel" "stands" "[J", Cond.fieldLink RX2 26 "HiveYardModel" "kinds" "[I", Cond.methodLink RX2 86 yX2_bars]
def wsX2_pour_r2 : List Cond := [Cond.instanceMethod yX2_bars, Cond.selects RX2 yX2_bars yX2_bars, Cond.code yX2_bars cX2_bars 9 (some .int), Cond.methodLink RX2 55 yX2_what, Cond.instanceMethod yX2_what, Cond.selects RX2 yX2_what yX2_what, Cond.code yX2_what cX2_what 3 (some .int), Cond.fieldLink RX2 13 "HiveYardModel" "sorts" "[I", Cond.methodLink RX2 50 yX2_isOfCombs, Cond.static yX2_isOfCombs, Cond.code yX2_isOfCombs cX2_isOfCombs 1 (some .boolean), Cond.methodLink RX2 79 yX2_isOutside, Cond.static yX2_isOutside, Cond.code yX2_isOutside cX2_isOutside 3 (some .boolean), Cond.methodLink RX2 76 yX2_takes, Cond.static yX2_takes, Cond.code yX2_takes cX2_takes 2 (some .boolean), Cond.methodLink RX2 99 yX2_told, Cond.instanceMethod yX2_told, Cond.selects RX2 yX2_told yX2_told, Cond.code yX2_told cX2_told 2 (some .int), Cond.fieldLink RX2 90 "HiveYardModel" "moves" "I", Cond.fieldLink RX2 32 "HiveYardModel" "ended" "[I", Cond.fieldLink RX2 93 "HiveYardModel" "allMoved" "I"]
def wsX2_pour : List Cond := .code yX2_pour cX2_pour 6 (some .int) :: ((wsX2_pour_r1 ++ wsX2_pour_r2) ++ wsX20)
def wsX2_moved : List Cond := .code yX2_moved cX2_moved 1 (some .int) :: ([.fieldLink RX2 35 "HiveYardModel" "thrown" "I", .fieldLink RX2 83 "HiveYardModel" "moved" "I"] ++ wsX20)
def wsX2_at : List Cond := .code yX2_at cX2_at 3 (some .long) :: ([.fieldLink RX2 35 "HiveYardModel" "thrown" "I", .fieldLink RX2 19 "HiveYardModel" "stands" "[J", .fieldLink RX2 7 "HiveYardModel" "boxes" "[I", .methodLink RX2 39 yX2_isBox, .static yX2_isBox, .initialized RX2, .code yX2_isBox cX2_isBox 1 (some .boolean), .methodLink RX2 43 yX2_fail, .instanceMethod yX2_fail, .selects RX2 yX2_fail yX2_fail, .code yX2_fail cX2_fail 2 (some .int), .methodLink RX2 58 yX2_hasRow, .instanceMethod yX2_hasRow, .selects RX2 yX2_hasRow yX2_hasRow, .code yX2_hasRow cX2_hasRow 2 (some .boolean), .methodLink RX2 61 yX2_isPlace, .instanceMethod yX2_isPlace, .selects RX2 yX2_isPlace yX2_isPlace, .code yX2_isPlace cX2_isPlace 3 (some .boolean), .fieldLink RX2 16 "HiveYardModel" "sizes" "[I"] ++ wsX20)
def wsX2_holds : List Cond := .code yX2_holds cX2_holds 2 (some .int) :: ([.fieldLink RX2 35 "HiveYardModel" "thrown" "I", .methodLink RX2 39 yX2_isBox, .static yX2_isBox, .initialized RX2, .code yX2_isBox cX2_isBox 1 (some .boolean), .methodLink RX2 55 yX2_what, .instanceMethod yX2_what, .selects RX2 yX2_what yX2_what, .code yX2_what cX2_what 3 (some .int), .fieldLink RX2 7 "HiveYardModel" "boxes" "[I", .fieldLink RX2 13 "HiveYardModel" "sorts" "[I", .methodLink RX2 43 yX2_fail, .instanceMethod yX2_fail, .selects RX2 yX2_fail yX2_fail, .code yX2_fail cX2_fail 2 (some .int)] ++ wsX20)
def wsX2_places : List Cond := .code yX2_places cX2_places 2 (some .int) :: ([.fieldLink RX2 35 "HiveYardModel" "thrown" "I", .fieldLink RX2 16 "HiveYardModel" "sizes" "[I", .fieldLink RX2 7 "HiveYardModel" "boxes" "[I", .methodLink RX2 39 yX2_isBox, .static yX2_isBox, .initialized RX2, .code yX2_isBox cX2_isBox 1 (some .boolean), .methodLink RX2 43 yX2_fail, .instanceMethod yX2_fail, .selects RX2 yX2_fail yX2_fail, .code yX2_fail cX2_fail 2 (some .int), .methodLink RX2 58 yX2_hasRow, .instanceMethod yX2_hasRow, .selects RX2 yX2_hasRow yX2_hasRow, .code yX2_hasRow cX2_hasRow 2 (some .boolean)] ++ wsX20)
def wsX2_same : List Cond := .code yX2_same cX2_same 3 (some .boolean) :: ([.fieldLink RX2 35 "HiveYardModel" "thrown" "I", .fieldLink RX2 7 "HiveYardModel" "boxes" "[I", .methodLink RX2 39 yX2_isBox, .static yX2_isBox, .initialized RX2, .code yX2_isBox cX2_isBox 1 (some .boolean), .methodLink RX2 43 yX2_fail, .instanceMethod yX2_fail, .selects RX2 yX2_fail yX2_fail, .code yX2_fail cX2_fail 2 (some .int), .methodLink RX2 58 yX2_hasRow, .instanceMethod yX2_hasRow, .selects RX2 yX2_hasRow yX2_hasRow, .code yX2_hasRow cX2_hasRow 2 (some .boolean)] ++ wsX20)
def wsX2_all : List Cond := .code yX2_all cX2_all 9 (some .long) :: ([.fieldLink RX2 35 "HiveYardModel" "thrown" "I", .fieldLink RX2 7 "HiveYardModel" "boxes" "[I", .fieldLink RX2 13 "HiveYardModel" "sorts" "[I", .fieldLink RX2 16 "HiveYardModel" "sizes" "[I", .fieldLink RX2 19 "HiveYardModel" "stands" "[J", .fieldLink RX2 29 "HiveYardModel" "weights" "[I", .methodLink RX2 39 yX2_isBox, .static yX2_isBox, .initialized RX2, .code yX2_isBox cX2_isBox 1 (some .boolean), .methodLink RX2 43 yX2_fail, .instanceMethod yX2_fail, .selects RX2 yX2_fail yX2_fail, .code yX2_fail cX2_fail 2 (some .int), .methodLink RX2 58 yX2_hasRow, .instanceMethod yX2_hasRow, .selects RX2 yX2_hasRow yX2_hasRow, .code yX2_hasRow cX2_hasRow 2 (some .boolean), .methodLink RX2 50 yX2_isOfCombs, .static yX2_isOfCombs, .code yX2_isOfCombs cX2_isOfCombs 1 (some .boolean)] ++ wsX20)
def wsX2_isComb : List Cond := .code yX2_isComb cX2_isComb 2 (some .boolean) :: ([.fieldLink RX2 73 "HiveYardModel" "combs" "I"] ++ wsX20)
def wsX2_feed : List Cond := .code yX2_feed cX2_feed 3 (some .int) :: ([.fieldLink RX2 35 "HiveYardModel" "thrown" "I", .fieldLink RX2 29 "HiveYardModel" "weights" "[I", .methodLink RX2 102 yX2_isComb, .instanceMethod yX2_isComb, .selects RX2 yX2_isComb yX2_isComb, .initialized RX2, .code yX2_isComb cX2_isComb 2 (some .boolean), .fieldLink RX2 73 "HiveYardModel" "combs" "I", .methodLink RX2 43 yX2_fail, .instanceMethod yX2_fail, .selects RX2 yX2_fail yX2_fail, .code yX2_fail cX2_fail 2 (some .int)] ++ wsX20)
def wsX2_kind : List Cond := .code yX2_kind cX2_kind 2 (some .int) :: ([.fieldLink RX2 35 "HiveYardModel" "thrown" "I", .fieldLink RX2 26 "HiveYardModel" "kinds" "[I", .methodLink RX2 102 yX2_isComb, .instanceMethod yX2_isComb, .selects RX2 yX2_isComb yX2_isComb, .initialized RX2, .code yX2_isComb cX2_isComb 2 (some .boolean), .fieldLink RX2 73 "HiveYardModel" "combs" "I", .methodLink RX2 43 yX2_fail, .instanceMethod yX2_fail, .selects RX2 yX2_fail yX2_fail, .code yX2_fail cX2_fail 2 (some .int)] ++ wsX20)
def wsX2_count : List Cond := .code yX2_count cX2_count 2 (some .int) :: ([.fieldLink RX2 35 "HiveYardModel" "thrown" "I", .fieldLink RX2 47 "HiveYardModel" "rows" "I", .fieldLink RX2 73 "HiveYardModel" "combs" "I", .fieldLink RX2 90 "HiveYardModel" "moves" "I", .fieldLink RX2 32 "HiveYardModel" "ended" "[I", .fieldLink RX2 93 "HiveYardModel" "allMoved" "I"] ++ wsX20)
def wsJ9_min_7cf53 : List Cond := .code yJ9_min_7cf53 cJ9_min_7cf53 2 (some .int) :: ([])
set_option maxRecDepth 20000 in
theorem ggX1_init_X0_init : GoodIn wsX1_init wsX0_init := goodIn_r _ [16, 17, 2, 3, 18, 19, 30, 31] (by decide +kernel) (by decide +kernel)
set_option maxRecDepth 20000 in
theorem gX1_init_X0_init : GoodIn wsX1_init (wsX0_init) := ggX1_init_X0_init
set_option maxRecDepth 20000 in
theorem ggX1_row_X1_contentOf : GoodIn wsX1_row wsX1_contentOf := goodIn_ca (goodIn_r _ [11, 6, 12, 13, 10, 14, 15, 16, 33, 34, 35, 36, 37, 38, 39, 40, 41, 42] (by decide +kernel) (by decide +kernel)) (goodIn_sub (fun _ h => List.mem_cons_of_mem _ (List.mem_append_right _ h)) (by decide +kernel))
set_option maxRecDepth 20000 in
theorem gX1_row_X1_contentOf : GoodIn wsX1_row (wsV RX1 32 RX1 yX1_contentOf wsX1_contentOf) := goodIn_app (goodIn_of _ (by decide +kernel)) ggX1_row_X1_contentOf
set_option maxRecDepth 20000 in
theorem ggX1_row_X1_newRow : GoodIn wsX1_row wsX1_newRow := goodIn_r _ [19, 20, 21, 22, 23, 24, 25, 26, 27, 28, 29, 30, 31, 32, 43, 44] (by decide +kernel) (by decide +kernel)
set_option maxRecDepth 20000 in
theorem gX1_row_X1_newRow : GoodIn wsX1_row (va_wsS RX1 54 yX1_newRow wsX1_newRow) := goodIn_app (goodIn_of _ (by decide +kernel)) ggX1_row_X1_newRow
set_option maxRecDepth 20000 in
theorem ggX1_lid_X1_contentOf : GoodIn wsX1_lid wsX1_contentOf := goodIn_ca (goodIn_r _ [7, 1, 8, 9, 6, 10, 11, 12, 13, 14, 15, 16, 17, 18, 19, 20, 21, 22] (by decide +kernel) (by decide +kernel)) (goodIn_sub (fun _ h => List.mem_cons_of_mem _ (List.mem_append_right _ h)) (by decide +kernel))
set_option maxRecDepth 20000 in
theorem gX1_lid_X1_contentOf : GoodIn wsX1_lid (wsV RX1 32 RX1 yX1_contentOf wsX1_contentOf) := goodIn_app (goodIn_of _ (by decide +kernel)) ggX1_lid_X1_contentOf
set_option maxRecDepth 20000 in
theorem ggX1_clear_X1_contentOf : GoodIn wsX1_clear wsX1_contentOf := goodIn_ca (goodIn_r _ [6, 1, 7, 8, 5, 9, 10, 11, 12, 13, 14, 15, 16, 17, 18, 19, 20, 21] (by decide +kernel) (by decide +kernel)) (goodIn_sub (fun _ h => List.mem_cons_of_mem _ (List.mem_append_right _ h)) (by decide +kernel))
set_option maxRecDepth 20000 in
theorem gX1_clear_X1_contentOf : GoodIn wsX1_clear (wsV RX1 32 RX1 yX1_contentOf wsX1_contentOf) := goodIn_app (goodIn_of _ (by decide +kernel)) ggX1_clear_X1_contentOf
set_option maxRecDepth 20000 in
theorem ggX1_share_X1_requireBox : GoodIn wsX1_share wsX1_requireBox := goodIn_ca (goodIn_r _ [5, 6, 7] (by decide +kernel) (by decide +kernel)) (goodIn_sub (fun _ h => List.mem_cons_of_mem _ (List.mem_append_right _ h)) (by decide +kernel))
set_option maxRecDepth 20000 in
theorem gX1_share_X1_requireBox : GoodIn wsX1_share (va_wsS RX1 58 yX1_requireBox wsX1_requireBox) := goodIn_app (goodIn_of _ (by decide +kernel)) ggX1_share_X1_requireBox
set_option maxRecDepth 20000 in
theorem ggX1_share_X1_contentOf : GoodIn wsX1_share wsX1_contentOf := goodIn_ca (goodIn_r _ [11, 1, 2, 3, 4, 5, 6, 7, 16, 17, 18, 19, 20, 21, 22, 23, 24, 25] (by decide +kernel) (by decide +kernel)) (goodIn_sub (fun _ h => List.mem_cons_of_mem _ (List.mem_append_right _ h)) (by decide +kernel))
set_option maxRecDepth 20000 in
theorem gX1_share_X1_contentOf : GoodIn wsX1_share (wsV RX1 32 RX1 yX1_contentOf wsX1_contentOf) := goodIn_app (goodIn_of _ (by decide +kernel)) ggX1_share_X1_contentOf
set_option maxRecDepth 20000 in
theorem ggX1_share_X1_sortOf : GoodIn wsX1_share wsX1_sortOf := goodIn_r _ [14, 15, 26, 27] (by decide +kernel) (by decide +kernel)
set_option maxRecDepth 20000 in
theorem gX1_share_X1_sortOf : GoodIn wsX1_share (va_wsS RX1 62 yX1_sortOf wsX1_sortOf) := goodIn_app (goodIn_of _ (by decide +kernel)) ggX1_share_X1_sortOf
set_option maxRecDepth 20000 in
theorem ggX1_put_X1_contentOf : GoodIn wsX1_put wsX1_contentOf := goodIn_ca (goodIn_r _ [9, 10, 11, 12, 8, 13, 14, 15, 32, 33, 34, 35, 36, 37, 38, 39, 40, 41] (by decide +kernel) (by decide +kernel)) (goodIn_sub (fun _ h => List.mem_cons_of_mem _ (List.mem_append_left _ (List.mem_append_right _ h))) (by decide +kernel))
set_option maxRecDepth 20000 in
theorem gX1_put_X1_contentOf : GoodIn wsX1_put (wsV RX1 32 RX1 yX1_contentOf wsX1_contentOf) := goodIn_app (goodIn_of _ (by decide +kernel)) ggX1_put_X1_contentOf
set_option maxRecDepth 20000 in
theorem ggX1_put_X1_isNumbers : GoodIn wsX1_put wsX1_isNumbers := goodIn_r _ [18, 4, 19, 20, 8, 21, 30, 31] (by decide +kernel) (by decide +kernel)
set_option maxRecDepth 20000 in
theorem gX1_put_X1_isNumbers : GoodIn wsX1_put (va_wsS RX1 66 yX1_isNumbers wsX1_isNumbers) := goodIn_app (goodIn_of _ (by decide +kernel)) ggX1_put_X1_isNumbers
set_option maxRecDepth 20000 in
theorem ggX1_put_X1_requirePlace : GoodIn wsX1_put wsX1_requirePlace := goodIn_ca (goodIn_r _ [24, 25, 26, 3, 30, 31] (by decide +kernel) (by decide +kernel)) (goodIn_sub (fun _ h => List.mem_cons_of_mem _ (List.mem_append_right _ h)) (by decide +kernel))
set_option maxRecDepth 20000 in
theorem gX1_put_X1_requirePlace : GoodIn wsX1_put (va_wsS RX1 75 yX1_requirePlace wsX1_requirePlace) := goodIn_app (goodIn_of _ (by decide +kernel)) ggX1_put_X1_requirePlace
set_option maxRecDepth 20000 in
theorem ggX1_put_X1_lowestBits : GoodIn wsX1_put wsX1_lowestBits := goodIn_r _ [29] (by decide +kernel) (by decide +kernel)
set_option maxRecDepth 20000 in
theorem gX1_put_X1_lowestBits : GoodIn wsX1_put (va_wsS RX1 86 yX1_lowestBits wsX1_lowestBits) := goodIn_app (goodIn_of _ (by decide +kernel)) ggX1_put_X1_lowestBits
set_option maxRecDepth 20000 in
theorem ggX1_lay_X1_contentOf : GoodIn wsX1_lay wsX1_contentOf := goodIn_ca (goodIn_r _ [13, 14, 15, 16, 12, 17, 18, 19, 39, 40, 41, 42, 43, 44, 45, 46, 47, 48] (by decide +kernel) (by decide +kernel)) (goodIn_sub (fun _ h => List.mem_cons_of_mem _ (List.mem_append_left _ (List.mem_append_left _ (List.mem_append_right _ h)))) (by decide +kernel))
set_option maxRecDepth 20000 in
theorem gX1_lay_X1_contentOf : GoodIn wsX1_lay (wsV RX1 32 RX1 yX1_contentOf wsX1_contentOf) := goodIn_app (goodIn_of _ (by decide +kernel)) ggX1_lay_X1_contentOf
set_option maxRecDepth 20000 in
theorem ggX1_lay_X1_requireCombs : GoodIn wsX1_lay wsX1_requireCombs := goodIn_ca (goodIn_r _ [22, 23, 24, 25, 26, 12, 27, 6, 28, 29, 30, 49, 50] (by decide +kernel) (by decide +kernel)) (goodIn_sub (fun _ h => List.mem_cons_of_mem _ (List.mem_append_left _ (List.mem_append_right _ h))) (by decide +kernel))
set_option maxRecDepth 20000 in
theorem gX1_lay_X1_requireCombs : GoodIn wsX1_lay (va_wsS RX1 92 yX1_requireCombs wsX1_requireCombs) := goodIn_app (goodIn_of _ (by decide +kernel)) ggX1_lay_X1_requireCombs
set_option maxRecDepth 20000 in
theorem ggX1_lay_X1_requirePlace : GoodIn wsX1_lay wsX1_requirePlace := goodIn_ca (goodIn_r _ [33, 34, 35, 8, 49, 50] (by decide +kernel) (by decide +kernel)) (goodIn_sub (fun _ h => List.mem_cons_of_mem _ (List.mem_append_right _ h)) (by decide +kernel))
set_option maxRecDepth 20000 in
theorem gX1_lay_X1_requirePlace : GoodIn wsX1_lay (va_wsS RX1 75 yX1_requirePlace wsX1_requirePlace) := goodIn_app (goodIn_of _ (by decide +kernel)) ggX1_lay_X1_requirePlace
set_option maxRecDepth 20000 in
theorem ggX1_lay_X1_takes : GoodIn wsX1_lay wsX1_takes := goodIn_r _ [38] (by decide +kernel) (by decide +kernel)
set_option maxRecDepth 20000 in
theorem gX1_lay_X1_takes : GoodIn wsX1_lay (va_wsS RX1 101 yX1_takes wsX1_takes) := goodIn_app (goodIn_of _ (by decide +kernel)) ggX1_lay_X1_takes
set_option maxRecDepth 20000 in
theorem ggX1_lift_X1_contentOf : GoodIn wsX1_lift wsX1_contentOf := goodIn_ca (goodIn_r _ [7, 8, 9, 10, 6, 11, 12, 13, 33, 34, 35, 36, 37, 38, 39, 40, 41, 42] (by decide +kernel) (by decide +kernel)) (goodIn_sub (fun _ h => List.mem_cons_of_mem _ (List.mem_append_left _ (List.mem_append_left _ (List.mem_append_right _ h)))) (by decide +kernel))
set_option maxRecDepth 20000 in
theorem gX1_lift_X1_contentOf : GoodIn wsX1_lift (wsV RX1 32 RX1 yX1_contentOf wsX1_contentOf) := goodIn_app (goodIn_of _ (by decide +kernel)) ggX1_lift_X1_contentOf
set_option maxRecDepth 20000 in
theorem ggX1_lift_X1_requireCombs : GoodIn wsX1_lift wsX1_requireCombs := goodIn_ca (goodIn_r _ [16, 17, 18, 19, 20, 6, 21, 22, 23, 24, 25, 31, 32] (by decide +kernel) (by decide +kernel)) (goodIn_sub (fun _ h => List.mem_cons_of_mem _ (List.mem_append_left _ (List.mem_append_right _ h))) (by decide +kernel))
set_option maxRecDepth 20000 in
theorem gX1_lift_X1_requireCombs : GoodIn wsX1_lift (va_wsS RX1 92 yX1_requireCombs wsX1_requireCombs) := goodIn_app (goodIn_of _ (by decide +kernel)) ggX1_lift_X1_requireCombs
set_option maxRecDepth 20000 in
theorem ggX1_lift_X1_requirePlace : GoodIn wsX1_lift wsX1_requirePlace := goodIn_ca (goodIn_r _ [28, 29, 30, 1, 31, 32] (by decide +kernel) (by decide +kernel)) (goodIn_sub (fun _ h => List.mem_cons_of_mem _ (List.mem_append_right _ h)) (by decide +kernel))
set_option maxRecDepth 20000 in
theorem gX1_lift_X1_requirePlace : GoodIn wsX1_lift (va_wsS RX1 75 yX1_requirePlace wsX1_requirePlace) := goodIn_app (goodIn_of _ (by decide +kernel)) ggX1_lift_X1_requirePlace
set_option maxRecDepth 20000 in
theorem ggX1_move_X1_contentOf : GoodIn wsX1_move wsX1_contentOf := goodIn_ca (goodIn_r _ [5, 6, 7, 8, 4, 9, 10, 11, 58, 59, 60, 61, 62, 63, 64, 65, 66, 67] (by decide +kernel) (by decide +kernel)) (goodIn_sub (fun _ h => List.mem_cons_of_mem _ (List.mem_append_right _ h)) (by decide +kernel))
set_option maxRecDepth 20000 in
theorem gX1_move_X1_contentOf : GoodIn wsX1_move (wsV RX1 32 RX1 yX1_contentOf wsX1_contentOf) := goodIn_app (goodIn_of _ (by decide +kernel)) ggX1_move_X1_contentOf
set_option maxRecDepth 20000 in
theorem ggX1_move_X1_carry : GoodIn wsX1_move wsX1_carry := goodIn_r _ [15, 16, 17, 18, 19, 20, 21, 22, 23, 4, 24, 25, 26, 27, 28, 29, 30, 31, 32, 33, 34, 35, 36, 37, 38, 39, 40, 41, 42, 43, 44, 45, 46, 47, 48, 49, 50, 51, 52, 53, 54, 55, 56, 57, 68, 69, 58, 59, 60, 61, 62, 63, 64, 65, 66, 67] (by decide +kernel) (by decide +kernel)
set_option maxRecDepth 20000 in
theorem gX1_move_X1_carry : GoodIn wsX1_move (wsV RX1 107 RX1 yX1_carry wsX1_carry) := goodIn_app (goodIn_of _ (by decide +kernel)) ggX1_move_X1_carry
set_option maxRecDepth 20000 in
theorem ggX1_pour_X1_contentOf : GoodIn wsX1_pour wsX1_contentOf := goodIn_ca (goodIn_r _ [9, 10, 11, 12, 8, 13, 14, 15, 65, 66, 67, 68, 69, 70, 71, 72, 73, 74] (by decide +kernel) (by decide +kernel)) (goodIn_sub (fun _ h => List.mem_cons_of_mem _ (List.mem_append_right _ h)) (by decide +kernel))
set_option maxRecDepth 20000 in
theorem gX1_pour_X1_contentOf : GoodIn wsX1_pour (wsV RX1 32 RX1 yX1_contentOf wsX1_contentOf) := goodIn_app (goodIn_of _ (by decide +kernel)) ggX1_pour_X1_contentOf
set_option maxRecDepth 20000 in
theorem ggX1_pour_X1_cellsIn : GoodIn wsX1_pour wsX1_cellsIn := goodIn_r _ [18, 19, 75, 76] (by decide +kernel) (by decide +kernel)
set_option maxRecDepth 20000 in
theorem gX1_pour_X1_cellsIn : GoodIn wsX1_pour (va_wsS RX1 111 yX1_cellsIn wsX1_cellsIn) := goodIn_app (goodIn_of _ (by decide +kernel)) ggX1_pour_X1_cellsIn
set_option maxRecDepth 20000 in
theorem ggX1_pour_X1_carry : GoodIn wsX1_pour wsX1_carry := goodIn_r _ [23, 19, 24, 25, 26, 27, 28, 29, 30, 8, 31, 32, 33, 34, 35, 36, 37, 38, 39, 40, 41, 42, 43, 44, 45, 46, 47, 48, 49, 50, 51, 52, 53, 54, 55, 56, 57, 58, 59, 60, 61, 62, 63, 64, 75, 76, 65, 66, 67, 68, 69, 70, 71, 72, 73, 74] (by decide +kernel) (by decide +kernel)
set_option maxRecDepth 20000 in
theorem gX1_pour_X1_carry : GoodIn wsX1_pour (wsV RX1 107 RX1 yX1_carry wsX1_carry) := goodIn_app (goodIn_of _ (by decide +kernel)) ggX1_pour_X1_carry
set_option maxRecDepth 20000 in
theorem ggX1_at_X1_contentOf : GoodIn wsX1_at wsX1_contentOf := goodIn_ca (goodIn_r _ [6, 7, 8, 9, 5, 10, 11, 12, 29, 30, 31, 32, 33, 34, 35, 36, 37, 38] (by decide +kernel) (by decide +kernel)) (goodIn_sub (fun _ h => List.mem_cons_of_mem _ (List.mem_append_left _ (List.mem_append_left _ (List.mem_append_right _ h)))) (by decide +kernel))
set_option maxRecDepth 20000 in
theorem gX1_at_X1_contentOf : GoodIn wsX1_at (wsV RX1 32 RX1 yX1_contentOf wsX1_contentOf) := goodIn_app (goodIn_of _ (by decide +kernel)) ggX1_at_X1_contentOf
set_option maxRecDepth 20000 in
theorem ggX1_at_X1_requireRow : GoodIn wsX1_at wsX1_requireRow := goodIn_ca (goodIn_r _ [15, 16, 17, 18, 19, 5, 20, 21, 27, 28] (by decide +kernel) (by decide +kernel)) (goodIn_sub (fun _ h => List.mem_cons_of_mem _ (List.mem_append_left _ (List.mem_append_right _ h))) (by decide +kernel))
set_option maxRecDepth 20000 in
theorem gX1_at_X1_requireRow : GoodIn wsX1_at (va_wsS RX1 123 yX1_requireRow wsX1_requireRow) := goodIn_app (goodIn_of _ (by decide +kernel)) ggX1_at_X1_requireRow
set_option maxRecDepth 20000 in
theorem ggX1_at_X1_requirePlace : GoodIn wsX1_at wsX1_requirePlace := goodIn_ca (goodIn_r _ [24, 25, 26, 1, 27, 28] (by decide +kernel) (by decide +kernel)) (goodIn_sub (fun _ h => List.mem_cons_of_mem _ (List.mem_append_right _ h)) (by decide +kernel))
set_option maxRecDepth 20000 in
theorem gX1_at_X1_requirePlace : GoodIn wsX1_at (va_wsS RX1 75 yX1_requirePlace wsX1_requirePlace) := goodIn_app (goodIn_of _ (by decide +kernel)) ggX1_at_X1_requirePlace
set_option maxRecDepth 20000 in
theorem ggX1_holds_X1_contentOf : GoodIn wsX1_holds wsX1_contentOf := goodIn_ca (goodIn_r _ [5, 6, 7, 8, 4, 9, 10, 11, 16, 17, 18, 19, 20, 21, 22, 23, 24, 25] (by decide +kernel) (by decide +kernel)) (goodIn_sub (fun _ h => List.mem_cons_of_mem _ (List.mem_append_right _ h)) (by decide +kernel))
set_option maxRecDepth 20000 in
theorem gX1_holds_X1_contentOf : GoodIn wsX1_holds (wsV RX1 32 RX1 yX1_contentOf wsX1_contentOf) := goodIn_app (goodIn_of _ (by decide +kernel)) ggX1_holds_X1_contentOf
set_option maxRecDepth 20000 in
theorem ggX1_holds_X1_sortOf : GoodIn wsX1_holds wsX1_sortOf := goodIn_r _ [14, 15, 26, 27] (by decide +kernel) (by decide +kernel)
set_option maxRecDepth 20000 in
theorem gX1_holds_X1_sortOf : GoodIn wsX1_holds (va_wsS RX1 62 yX1_sortOf wsX1_sortOf) := goodIn_app (goodIn_of _ (by decide +kernel)) ggX1_holds_X1_sortOf
set_option maxRecDepth 20000 in
theorem ggX1_places_X1_contentOf : GoodIn wsX1_places wsX1_contentOf := goodIn_ca (goodIn_r _ [6, 7, 8, 9, 5, 10, 11, 12, 24, 25, 26, 27, 28, 29, 30, 31, 32, 33] (by decide +kernel) (by decide +kernel)) (goodIn_sub (fun _ h => List.mem_cons_of_mem _ (List.mem_append_left _ (List.mem_append_right _ h))) (by decide +kernel))
set_option maxRecDepth 20000 in
theorem gX1_places_X1_contentOf : GoodIn wsX1_places (wsV RX1 32 RX1 yX1_contentOf wsX1_contentOf) := goodIn_app (goodIn_of _ (by decide +kernel)) ggX1_places_X1_contentOf
set_option maxRecDepth 20000 in
theorem ggX1_places_X1_requireRow : GoodIn wsX1_places wsX1_requireRow := goodIn_ca (goodIn_r _ [15, 16, 17, 18, 19, 5, 20, 21, 22, 23] (by decide +kernel) (by decide +kernel)) (goodIn_sub (fun _ h => List.mem_cons_of_mem _ (List.mem_append_right _ h)) (by decide +kernel))
set_option maxRecDepth 20000 in
theorem gX1_places_X1_requireRow : GoodIn wsX1_places (va_wsS RX1 123 yX1_requireRow wsX1_requireRow) := goodIn_app (goodIn_of _ (by decide +kernel)) ggX1_places_X1_requireRow
set_option maxRecDepth 20000 in
theorem ggX1_same_X1_contentOf : GoodIn wsX1_same wsX1_contentOf := goodIn_ca (goodIn_r _ [5, 6, 7, 8, 4, 9, 10, 11, 16, 17, 18, 19, 20, 21, 22, 23, 24, 25] (by decide +kernel) (by decide +kernel)) (goodIn_sub (fun _ h => List.mem_cons_of_mem _ (List.mem_append_right _ h)) (by decide +kernel))
set_option maxRecDepth 20000 in
theorem gX1_same_X1_contentOf : GoodIn wsX1_same (wsV RX1 32 RX1 yX1_contentOf wsX1_contentOf) := goodIn_app (goodIn_of _ (by decide +kernel)) ggX1_same_X1_contentOf
set_option maxRecDepth 20000 in
theorem ggX1_same_X1_isRow : GoodIn wsX1_same wsX1_isRow := goodIn_r _ [14, 15, 26, 27] (by decide +kernel) (by decide +kernel)
set_option maxRecDepth 20000 in
theorem gX1_same_X1_isRow : GoodIn wsX1_same (va_wsS RX1 126 yX1_isRow wsX1_isRow) := goodIn_app (goodIn_of _ (by decide +kernel)) ggX1_same_X1_isRow
set_option maxRecDepth 20000 in
theorem ggX1_all_X1_contentOf : GoodIn wsX1_all wsX1_contentOf := goodIn_ca (goodIn_r _ [6, 7, 8, 9, 5, 10, 11, 12, 40, 41, 42, 43, 44, 45, 46, 47, 48, 49] (by decide +kernel) (by decide +kernel)) (goodIn_sub (fun _ h => List.mem_cons_of_mem _ (List.mem_append_left _ (List.mem_append_right _ h))) (by decide +kernel))
set_option maxRecDepth 20000 in
theorem gX1_all_X1_contentOf : GoodIn wsX1_all (wsV RX1 32 RX1 yX1_contentOf wsX1_contentOf) := goodIn_app (goodIn_of _ (by decide +kernel)) ggX1_all_X1_contentOf
set_option maxRecDepth 20000 in
theorem ggX1_all_X1_requireRow : GoodIn wsX1_all wsX1_requireRow := goodIn_ca (goodIn_r _ [15, 16, 17, 18, 19, 5, 20, 21, 38, 39] (by decide +kernel) (by decide +kernel)) (goodIn_sub (fun _ h => List.mem_cons_of_mem _ (List.mem_append_right _ h)) (by decide +kernel))
set_option maxRecDepth 20000 in
theorem gX1_all_X1_requireRow : GoodIn wsX1_all (va_wsS RX1 123 yX1_requireRow wsX1_requireRow) := goodIn_app (goodIn_of _ (by decide +kernel)) ggX1_all_X1_requireRow
set_option maxRecDepth 20000 in
theorem ggX1_all_X1_isCombs : GoodIn wsX1_all wsX1_isCombs := goodIn_r _ [24, 21, 18, 19, 5, 20, 38, 39] (by decide +kernel) (by decide +kernel)
set_option maxRecDepth 20000 in
theorem gX1_all_X1_isCombs : GoodIn wsX1_all (va_wsS RX1 129 yX1_isCombs wsX1_isCombs) := goodIn_app (goodIn_of _ (by decide +kernel)) ggX1_all_X1_isCombs
set_option maxRecDepth 20000 in
theorem ggX1_all_X1_sumOfWeights : GoodIn wsX1_all wsX1_sumOfWeights := goodIn_r _ [28, 29, 30, 31, 32, 5, 33, 34, 40, 41, 42, 43, 44, 45, 46, 47, 48, 49] (by decide +kernel) (by decide +kernel)
set_option maxRecDepth 20000 in
theorem gX1_all_X1_sumOfWeights : GoodIn wsX1_all (wsV RX1 132 RX1 yX1_sumOfWeights wsX1_sumOfWeights) := goodIn_app (goodIn_of _ (by decide +kernel)) ggX1_all_X1_sumOfWeights
set_option maxRecDepth 20000 in
theorem ggX1_all_X1_sumOfNumbers : GoodIn wsX1_all wsX1_sumOfNumbers := goodIn_r _ [37] (by decide +kernel) (by decide +kernel)
set_option maxRecDepth 20000 in
theorem gX1_all_X1_sumOfNumbers : GoodIn wsX1_all (va_wsS RX1 136 yX1_sumOfNumbers wsX1_sumOfNumbers) := goodIn_app (goodIn_of _ (by decide +kernel)) ggX1_all_X1_sumOfNumbers
set_option maxRecDepth 20000 in
theorem ggX1_feed_X1_requireComb : GoodIn wsX1_feed wsX1_requireComb := goodIn_ca (goodIn_r _ [6, 7, 8, 9, 10, 11, 5, 12, 13, 14, 15, 16, 17, 18, 19, 20, 21, 22, 23] (by decide +kernel) (by decide +kernel)) (goodIn_sub (fun _ h => List.mem_cons_of_mem _ (List.mem_append_right _ h)) (by decide +kernel))
set_option maxRecDepth 20000 in
theorem gX1_feed_X1_requireComb : GoodIn wsX1_feed (wsV RX1 139 RX1 yX1_requireComb wsX1_requireComb) := goodIn_app (goodIn_of _ (by decide +kernel)) ggX1_feed_X1_requireComb
set_option maxRecDepth 20000 in
theorem ggX1_kind_X1_requireComb : GoodIn wsX1_kind wsX1_requireComb := goodIn_ca (goodIn_r _ [6, 7, 8, 9, 10, 11, 5, 12, 13, 14, 15, 16, 17, 18, 19, 20, 21, 22, 23] (by decide +kernel) (by decide +kernel)) (goodIn_sub (fun _ h => List.mem_cons_of_mem _ (List.mem_append_right _ h)) (by decide +kernel))
set_option maxRecDepth 20000 in
theorem gX1_kind_X1_requireComb : GoodIn wsX1_kind (wsV RX1 139 RX1 yX1_requireComb wsX1_requireComb) := goodIn_app (goodIn_of _ (by decide +kernel)) ggX1_kind_X1_requireComb
set_option maxRecDepth 20000 in
theorem ggX1_count_X1_countOfEnd : GoodIn wsX1_count wsX1_countOfEnd := goodIn_r _ [9, 10, 11, 12, 13, 14, 15, 16, 17, 18, 19, 20] (by decide +kernel) (by decide +kernel)
set_option maxRecDepth 20000 in
theorem gX1_count_X1_countOfEnd : GoodIn wsX1_count (wsV RX1 148 RX1 yX1_countOfEnd wsX1_countOfEnd) := goodIn_app (goodIn_of _ (by decide +kernel)) ggX1_count_X1_countOfEnd
set_option maxRecDepth 20000 in
theorem ggX1_contentOf_X1_requireBox : GoodIn wsX1_contentOf wsX1_requireBox := goodIn_ca (goodIn_r _ [5, 6, 7] (by decide +kernel) (by decide +kernel)) (goodIn_sub (fun _ h => List.mem_cons_of_mem _ (List.mem_append_right _ h)) (by decide +kernel))
set_option maxRecDepth 20000 in
theorem gX1_contentOf_X1_requireBox : GoodIn wsX1_contentOf (va_wsS RX1 58 yX1_requireBox wsX1_requireBox) := goodIn_app (goodIn_of _ (by decide +kernel)) ggX1_contentOf_X1_requireBox
set_option maxRecDepth 20000 in
theorem ggX1_requireRow_X1_isRow : GoodIn wsX1_requireRow wsX1_isRow := goodIn_r _ [6, 7, 8, 9] (by decide +kernel) (by decide +kernel)
set_option maxRecDepth 20000 in
theorem gX1_requireRow_X1_isRow : GoodIn wsX1_requireRow (va_wsS RX1 126 yX1_isRow wsX1_isRow) := goodIn_app (goodIn_of _ (by decide +kernel)) ggX1_requireRow_X1_isRow
set_option maxRecDepth 20000 in
theorem ggX1_requireCombs_X1_isCombs : GoodIn wsX1_requireCombs wsX1_isCombs := goodIn_r _ [6, 7, 8, 9, 5, 10, 11, 12] (by decide +kernel) (by decide +kernel)
set_option maxRecDepth 20000 in
theorem gX1_requireCombs_X1_isCombs : GoodIn wsX1_requireCombs (va_wsS RX1 129 yX1_isCombs wsX1_isCombs) := goodIn_app (goodIn_of _ (by decide +kernel)) ggX1_requireCombs_X1_isCombs
set_option maxRecDepth 20000 in
theorem ggX1_requireComb_X1_isComb : GoodIn wsX1_requireComb wsX1_isComb := goodIn_r _ [7, 8, 9, 10, 11, 12, 13, 14, 15, 16, 17, 18] (by decide +kernel) (by decide +kernel)
set_option maxRecDepth 20000 in
theorem gX1_requireComb_X1_isComb : GoodIn wsX1_requireComb (wsV RX1 166 RX1 yX1_isComb wsX1_isComb) := goodIn_app (goodIn_of _ (by decide +kernel)) ggX1_requireComb_X1_isComb
set_option maxRecDepth 20000 in
theorem ggX1_isNumbers_X1_isRow : GoodIn wsX1_isNumbers wsX1_isRow := goodIn_r _ [5, 1, 6, 7] (by decide +kernel) (by decide +kernel)
set_option maxRecDepth 20000 in
theorem gX1_isNumbers_X1_isRow : GoodIn wsX1_isNumbers (va_wsS RX1 126 yX1_isRow wsX1_isRow) := goodIn_app (goodIn_of _ (by decide +kernel)) ggX1_isNumbers_X1_isRow
set_option maxRecDepth 20000 in
theorem ggX1_isCombs_X1_isRow : GoodIn wsX1_isCombs wsX1_isRow := goodIn_r _ [5, 1, 6, 7] (by decide +kernel) (by decide +kernel)
set_option maxRecDepth 20000 in
theorem gX1_isCombs_X1_isRow : GoodIn wsX1_isCombs (va_wsS RX1 126 yX1_isRow wsX1_isRow) := goodIn_app (goodIn_of _ (by decide +kernel)) ggX1_isCombs_X1_isRow
set_option maxRecDepth 20000 in
theorem ggX1_newRow_X0_init : GoodIn wsX1_newRow wsX0_init := goodIn_r _ [8, 9, 10, 11, 12, 13, 14, 15] (by decide +kernel) (by decide +kernel)
set_option maxRecDepth 20000 in
theorem gX1_newRow_X0_init : GoodIn wsX1_newRow (wsX0_init) := ggX1_newRow_X0_init
set_option maxRecDepth 20000 in
theorem ggX1_carry_X1_ended : GoodIn wsX1_carry wsX1_ended := goodIn_r _ [10, 11, 12, 13, 14, 46, 47, 48, 49, 50, 51, 52, 53, 54, 55] (by decide +kernel) (by decide +kernel)
set_option maxRecDepth 20000 in
theorem gX1_carry_X1_ended : GoodIn wsX1_carry (wsV RX1 172 RX1 yX1_ended wsX1_ended) := goodIn_app (goodIn_of _ (by decide +kernel)) ggX1_carry_X1_ended
set_option maxRecDepth 20000 in
theorem ggX1_carry_X1_isRow : GoodIn wsX1_carry wsX1_isRow := goodIn_r _ [17, 18, 44, 45] (by decide +kernel) (by decide +kernel)
set_option maxRecDepth 20000 in
theorem gX1_carry_X1_isRow : GoodIn wsX1_carry (va_wsS RX1 126 yX1_isRow wsX1_isRow) := goodIn_app (goodIn_of _ (by decide +kernel)) ggX1_carry_X1_isRow
set_option maxRecDepth 20000 in
theorem ggX1_carry_X1_areUnlike : GoodIn wsX1_carry wsX1_areUnlike := goodIn_r _ [21, 18, 22, 23, 9, 24, 15, 16, 17, 44, 45] (by decide +kernel) (by decide +kernel)
set_option maxRecDepth 20000 in
theorem gX1_carry_X1_areUnlike : GoodIn wsX1_carry (va_wsS RX1 175 yX1_areUnlike wsX1_areUnlike) := goodIn_app (goodIn_of _ (by decide +kernel)) ggX1_carry_X1_areUnlike
set_option maxRecDepth 20000 in
theorem ggX1_carry_X1_isOutside : GoodIn wsX1_carry wsX1_isOutside := goodIn_r _ [27, 1, 44, 45] (by decide +kernel) (by decide +kernel)
set_option maxRecDepth 20000 in
theorem gX1_carry_X1_isOutside : GoodIn wsX1_carry (va_wsS RX1 179 yX1_isOutside wsX1_isOutside) := goodIn_app (goodIn_of _ (by decide +kernel)) ggX1_carry_X1_isOutside
set_option maxRecDepth 20000 in
theorem ggX1_carry_X1_howManyFit : GoodIn wsX1_carry wsX1_howManyFit := goodIn_r _ [31, 1, 18, 32, 33, 34, 9, 35, 15, 16, 17, 36, 37, 38, 39, 40, 41, 42, 43, 44, 45, 46, 47, 48, 49, 50, 51, 52, 53, 54, 55] (by decide +kernel) (by decide +kernel)
set_option maxRecDepth 20000 in
theorem gX1_carry_X1_howManyFit : GoodIn wsX1_carry (wsV RX1 183 RX1 yX1_howManyFit wsX1_howManyFit) := goodIn_app (goodIn_of _ (by decide +kernel)) ggX1_carry_X1_howManyFit
set_option maxRecDepth 20000 in
theorem ggX1_areUnlike_X1_isCombs : GoodIn wsX1_areUnlike wsX1_isCombs := goodIn_r _ [5, 1, 6, 7, 4, 8, 9, 10] (by decide +kernel) (by decide +kernel)
set_option maxRecDepth 20000 in
theorem gX1_areUnlike_X1_isCombs : GoodIn wsX1_areUnlike (va_wsS RX1 129 yX1_isCombs wsX1_isCombs) := goodIn_app (goodIn_of _ (by decide +kernel)) ggX1_areUnlike_X1_isCombs
set_option maxRecDepth 20000 in
theorem ggX1_howManyFit_X1_isNumbers : GoodIn wsX1_howManyFit wsX1_isNumbers := goodIn_r _ [7, 2, 8, 9, 6, 10, 19, 20] (by decide +kernel) (by decide +kernel)
set_option maxRecDepth 20000 in
theorem gX1_howManyFit_X1_isNumbers : GoodIn wsX1_howManyFit (va_wsS RX1 66 yX1_isNumbers wsX1_isNumbers) := goodIn_app (goodIn_of _ (by decide +kernel)) ggX1_howManyFit_X1_isNumbers
set_option maxRecDepth 20000 in
theorem ggX1_howManyFit_X1_isComb : GoodIn wsX1_howManyFit wsX1_isComb := goodIn_r _ [14, 15, 21, 22, 23, 24, 25, 26, 27, 28, 29, 30] (by decide +kernel) (by decide +kernel)
set_option maxRecDepth 20000 in
theorem gX1_howManyFit_X1_isComb : GoodIn wsX1_howManyFit (wsV RX1 166 RX1 yX1_isComb wsX1_isComb) := goodIn_app (goodIn_of _ (by decide +kernel)) ggX1_howManyFit_X1_isComb
set_option maxRecDepth 20000 in
theorem ggX1_howManyFit_X1_takes : GoodIn wsX1_howManyFit wsX1_takes := goodIn_r _ [18] (by decide +kernel) (by decide +kernel)
set_option maxRecDepth 20000 in
theorem gX1_howManyFit_X1_takes : GoodIn wsX1_howManyFit (va_wsS RX1 101 yX1_takes wsX1_takes) := goodIn_app (goodIn_of _ (by decide +kernel)) ggX1_howManyFit_X1_takes
set_option maxRecDepth 20000 in
theorem ggX1_sumOfWeights_X1_isComb : GoodIn wsX1_sumOfWeights wsX1_isComb := goodIn_r _ [6, 7, 8, 9, 10, 11, 12, 13, 14, 15, 16, 17] (by decide +kernel) (by decide +kernel)
set_option maxRecDepth 20000 in
theorem gX1_sumOfWeights_X1_isComb : GoodIn wsX1_sumOfWeights (wsV RX1 166 RX1 yX1_isComb wsX1_isComb) := goodIn_app (goodIn_of _ (by decide +kernel)) ggX1_sumOfWeights_X1_isComb
set_option maxRecDepth 20000 in
theorem ggX2_row_X2_isBox : GoodIn wsX2_row wsX2_isBox := goodIn_r _ [11] (by decide +kernel) (by decide +kernel)
set_option maxRecDepth 20000 in
theorem gX2_row_X2_isBox : GoodIn wsX2_row (va_wsS RX2 39 yX2_isBox wsX2_isBox) := goodIn_app (goodIn_of _ (by decide +kernel)) ggX2_row_X2_isBox
set_option maxRecDepth 20000 in
theorem ggX2_row_X2_fail : GoodIn wsX2_row wsX2_fail := goodIn_r _ [15, 1, 19, 20, 21, 22, 23, 24, 25, 26, 27, 28, 29, 30, 31, 32] (by decide +kernel) (by decide +kernel)
set_option maxRecDepth 20000 in
theorem gX2_row_X2_fail : GoodIn wsX2_row (wsV RX2 43 RX2 yX2_fail wsX2_fail) := goodIn_app (goodIn_of _ (by decide +kernel)) ggX2_row_X2_fail
set_option maxRecDepth 20000 in
theorem ggX2_row_X2_isOfCombs : GoodIn wsX2_row wsX2_isOfCombs := goodIn_r _ [18] (by decide +kernel) (by decide +kernel)
set_option maxRecDepth 20000 in
theorem gX2_row_X2_isOfCombs : GoodIn wsX2_row (va_wsS RX2 50 yX2_isOfCombs wsX2_isOfCombs) := goodIn_app (goodIn_of _ (by decide +kernel)) ggX2_row_X2_isOfCombs
set_option maxRecDepth 20000 in
theorem ggX2_lid_X2_isBox : GoodIn wsX2_lid wsX2_isBox := goodIn_r _ [6] (by decide +kernel) (by decide +kernel)
set_option maxRecDepth 20000 in
theorem gX2_lid_X2_isBox : GoodIn wsX2_lid (va_wsS RX2 39 yX2_isBox wsX2_isBox) := goodIn_app (goodIn_of _ (by decide +kernel)) ggX2_lid_X2_isBox
set_option maxRecDepth 20000 in
theorem ggX2_lid_X2_fail : GoodIn wsX2_lid wsX2_fail := goodIn_r _ [10, 1, 11, 12, 13, 14, 15, 16, 17, 18, 19, 20, 21, 22, 23, 24] (by decide +kernel) (by decide +kernel)
set_option maxRecDepth 20000 in
theorem gX2_lid_X2_fail : GoodIn wsX2_lid (wsV RX2 43 RX2 yX2_fail wsX2_fail) := goodIn_app (goodIn_of _ (by decide +kernel)) ggX2_lid_X2_fail
set_option maxRecDepth 20000 in
theorem ggX2_clear_X2_isBox : GoodIn wsX2_clear wsX2_isBox := goodIn_r _ [6] (by decide +kernel) (by decide +kernel)
set_option maxRecDepth 20000 in
theorem gX2_clear_X2_isBox : GoodIn wsX2_clear (va_wsS RX2 39 yX2_isBox wsX2_isBox) := goodIn_app (goodIn_of _ (by decide +kernel)) ggX2_clear_X2_isBox
set_option maxRecDepth 20000 in
theorem ggX2_clear_X2_fail : GoodIn wsX2_clear wsX2_fail := goodIn_r _ [10, 1, 11, 12, 13, 14, 15, 16, 17, 18, 19, 20, 21, 22, 23, 24] (by decide +kernel) (by decide +kernel)
set_option maxRecDepth 20000 in
theorem gX2_clear_X2_fail : GoodIn wsX2_clear (wsV RX2 43 RX2 yX2_fail wsX2_fail) := goodIn_app (goodIn_of _ (by decide +kernel)) ggX2_clear_X2_fail
set_option maxRecDepth 20000 in
theorem ggX2_share_X2_isBox : GoodIn wsX2_share wsX2_isBox := goodIn_r _ [6] (by decide +kernel) (by decide +kernel)
set_option maxRecDepth 20000 in
theorem gX2_share_X2_isBox : GoodIn wsX2_share (va_wsS RX2 39 yX2_isBox wsX2_isBox) := goodIn_app (goodIn_of _ (by decide +kernel)) ggX2_share_X2_isBox
set_option maxRecDepth 20000 in
theorem ggX2_share_X2_fail : GoodIn wsX2_share wsX2_fail := goodIn_r _ [10, 1, 16, 17, 18, 19, 20, 21, 22, 23, 24, 25, 26, 27, 28, 29] (by decide +kernel) (by decide +kernel)
set_option maxRecDepth 20000 in
theorem gX2_share_X2_fail : GoodIn wsX2_share (wsV RX2 43 RX2 yX2_fail wsX2_fail) := goodIn_app (goodIn_of _ (by decide +kernel)) ggX2_share_X2_fail
set_option maxRecDepth 20000 in
theorem ggX2_share_X2_what : GoodIn wsX2_share wsX2_what := goodIn_r _ [14, 2, 15, 16, 17, 18, 19, 20, 21, 22, 23, 24, 25, 26, 27, 28, 29] (by decide +kernel) (by decide +kernel)
set_option maxRecDepth 20000 in
theorem gX2_share_X2_what : GoodIn wsX2_share (wsV RX2 55 RX2 yX2_what wsX2_what) := goodIn_app (goodIn_of _ (by decide +kernel)) ggX2_share_X2_what
set_option maxRecDepth 20000 in
theorem ggX2_barred_X2_hasRow : GoodIn wsX2_barred wsX2_hasRow := goodIn_r _ [5, 6, 20, 21, 22, 23, 24, 25, 26, 27, 28, 29, 30, 31, 32, 33] (by decide +kernel) (by decide +kernel)
set_option maxRecDepth 20000 in
theorem gX2_barred_X2_hasRow : GoodIn wsX2_barred (wsV RX2 58 RX2 yX2_hasRow wsX2_hasRow) := goodIn_app (goodIn_of _ (by decide +kernel)) ggX2_barred_X2_hasRow
set_option maxRecDepth 20000 in
theorem ggX2_barred_X2_what : GoodIn wsX2_barred wsX2_what := goodIn_r _ [10, 6, 11, 20, 21, 22, 23, 24, 25, 26, 27, 28, 29, 30, 31, 32, 33] (by decide +kernel) (by decide +kernel)
set_option maxRecDepth 20000 in
theorem gX2_barred_X2_what : GoodIn wsX2_barred (wsV RX2 55 RX2 yX2_what wsX2_what) := goodIn_app (goodIn_of _ (by decide +kernel)) ggX2_barred_X2_what
set_option maxRecDepth 20000 in
theorem ggX2_barred_X2_isOfCombs : GoodIn wsX2_barred wsX2_isOfCombs := goodIn_r _ [14] (by decide +kernel) (by decide +kernel)
set_option maxRecDepth 20000 in
theorem gX2_barred_X2_isOfCombs : GoodIn wsX2_barred (va_wsS RX2 50 yX2_isOfCombs wsX2_isOfCombs) := goodIn_app (goodIn_of _ (by decide +kernel)) ggX2_barred_X2_isOfCombs
set_option maxRecDepth 20000 in
theorem ggX2_barred_X2_isPlace : GoodIn wsX2_barred wsX2_isPlace := goodIn_r _ [18, 19, 6, 20, 21, 22, 23, 24, 25, 26, 27, 28, 29, 30, 31, 32, 33] (by decide +kernel) (by decide +kernel)
set_option maxRecDepth 20000 in
theorem gX2_barred_X2_isPlace : GoodIn wsX2_barred (wsV RX2 61 RX2 yX2_isPlace wsX2_isPlace) := goodIn_app (goodIn_of _ (by decide +kernel)) ggX2_barred_X2_isPlace
set_option maxRecDepth 20000 in
theorem ggX2_put_X2_isBox : GoodIn wsX2_put wsX2_isBox := goodIn_r _ [7] (by decide +kernel) (by decide +kernel)
set_option maxRecDepth 20000 in
theorem gX2_put_X2_isBox : GoodIn wsX2_put (va_wsS RX2 39 yX2_isBox wsX2_isBox) := goodIn_app (goodIn_of _ (by decide +kernel)) ggX2_put_X2_isBox
set_option maxRecDepth 20000 in
theorem ggX2_put_X2_fail : GoodIn wsX2_put wsX2_fail := goodIn_r _ [11, 1, 36, 37, 38, 39, 40, 41, 42, 43, 44, 45, 46, 47, 48, 49] (by decide +kernel) (by decide +kernel)
set_option maxRecDepth 20000 in
theorem gX2_put_X2_fail : GoodIn wsX2_put (wsV RX2 43 RX2 yX2_fail wsX2_fail) := goodIn_app (goodIn_of _ (by decide +kernel)) ggX2_put_X2_fail
set_option maxRecDepth 20000 in
theorem ggX2_put_X2_barred : GoodIn wsX2_put wsX2_barred := goodIn_r _ [15, 16, 17, 18, 6, 19, 2, 20, 21, 22, 23, 24, 25, 26, 27, 28, 29, 30, 31, 32, 36, 37, 38, 39, 40, 41, 42, 43, 44, 45, 46, 47, 48, 49] (by decide +kernel) (by decide +kernel)
set_option maxRecDepth 20000 in
theorem gX2_put_X2_barred : GoodIn wsX2_put (wsV RX2 65 RX2 yX2_barred wsX2_barred) := goodIn_app (goodIn_of _ (by decide +kernel)) ggX2_put_X2_barred
set_option maxRecDepth 20000 in
theorem ggX2_put_X2_what : GoodIn wsX2_put wsX2_what := goodIn_r _ [23, 2, 24, 36, 37, 38, 39, 40, 41, 42, 43, 44, 45, 46, 47, 48, 49] (by decide +kernel) (by decide +kernel)
set_option maxRecDepth 20000 in
theorem gX2_put_X2_what : GoodIn wsX2_put (wsV RX2 55 RX2 yX2_what wsX2_what) := goodIn_app (goodIn_of _ (by decide +kernel)) ggX2_put_X2_what
set_option maxRecDepth 20000 in
theorem ggX2_put_X2_cut : GoodIn wsX2_put wsX2_cut := goodIn_r _ [35] (by decide +kernel) (by decide +kernel)
set_option maxRecDepth 20000 in
theorem gX2_put_X2_cut : GoodIn wsX2_put (va_wsS RX2 69 yX2_cut wsX2_cut) := goodIn_app (goodIn_of _ (by decide +kernel)) ggX2_put_X2_cut
set_option maxRecDepth 20000 in
theorem ggX2_lay_X2_isBox : GoodIn wsX2_lay wsX2_isBox := goodIn_r _ [10] (by decide +kernel) (by decide +kernel)
set_option maxRecDepth 20000 in
theorem gX2_lay_X2_isBox : GoodIn wsX2_lay (va_wsS RX2 39 yX2_isBox wsX2_isBox) := goodIn_app (goodIn_of _ (by decide +kernel)) ggX2_lay_X2_isBox
set_option maxRecDepth 20000 in
theorem ggX2_lay_X2_fail : GoodIn wsX2_lay wsX2_fail := goodIn_r _ [14, 1, 39, 40, 41, 42, 43, 44, 45, 46, 47, 48, 49, 50, 51, 52] (by decide +kernel) (by decide +kernel)
set_option maxRecDepth 20000 in
theorem gX2_lay_X2_fail : GoodIn wsX2_lay (wsV RX2 43 RX2 yX2_fail wsX2_fail) := goodIn_app (goodIn_of _ (by decide +kernel)) ggX2_lay_X2_fail
set_option maxRecDepth 20000 in
theorem ggX2_lay_X2_barred : GoodIn wsX2_lay wsX2_barred := goodIn_r _ [18, 19, 20, 21, 9, 22, 6, 23, 24, 25, 26, 27, 28, 29, 30, 31, 32, 33, 34, 35, 39, 40, 41, 42, 43, 44, 45, 46, 47, 48, 49, 50, 51, 52] (by decide +kernel) (by decide +kernel)
set_option maxRecDepth 20000 in
theorem gX2_lay_X2_barred : GoodIn wsX2_lay (wsV RX2 65 RX2 yX2_barred wsX2_barred) := goodIn_app (goodIn_of _ (by decide +kernel)) ggX2_lay_X2_barred
set_option maxRecDepth 20000 in
theorem ggX2_lay_X2_what : GoodIn wsX2_lay wsX2_what := goodIn_r _ [26, 6, 27, 39, 40, 41, 42, 43, 44, 45, 46, 47, 48, 49, 50, 51, 52] (by decide +kernel) (by decide +kernel)
set_option maxRecDepth 20000 in
theorem gX2_lay_X2_what : GoodIn wsX2_lay (wsV RX2 55 RX2 yX2_what wsX2_what) := goodIn_app (goodIn_of _ (by decide +kernel)) ggX2_lay_X2_what
set_option maxRecDepth 20000 in
theorem ggX2_lay_X2_takes : GoodIn wsX2_lay wsX2_takes := goodIn_r _ [38] (by decide +kernel) (by decide +kernel)
set_option maxRecDepth 20000 in
theorem gX2_lay_X2_takes : GoodIn wsX2_lay (va_wsS RX2 76 yX2_takes wsX2_takes) := goodIn_app (goodIn_of _ (by decide +kernel)) ggX2_lay_X2_takes
set_option maxRecDepth 20000 in
theorem ggX2_lift_X2_isBox : GoodIn wsX2_lift wsX2_isBox := goodIn_r _ [8] (by decide +kernel) (by decide +kernel)
set_option maxRecDepth 20000 in
theorem gX2_lift_X2_isBox : GoodIn wsX2_lift (va_wsS RX2 39 yX2_isBox wsX2_isBox) := goodIn_app (goodIn_of _ (by decide +kernel)) ggX2_lift_X2_isBox
set_option maxRecDepth 20000 in
theorem ggX2_lift_X2_fail : GoodIn wsX2_lift wsX2_fail := goodIn_r _ [12, 1, 34, 35, 36, 37, 38, 39, 40, 41, 42, 43, 44, 45, 46, 47] (by decide +kernel) (by decide +kernel)
set_option maxRecDepth 20000 in
theorem gX2_lift_X2_fail : GoodIn wsX2_lift (wsV RX2 43 RX2 yX2_fail wsX2_fail) := goodIn_app (goodIn_of _ (by decide +kernel)) ggX2_lift_X2_fail
set_option maxRecDepth 20000 in
theorem ggX2_lift_X2_barred : GoodIn wsX2_lift wsX2_barred := goodIn_r _ [16, 17, 18, 19, 7, 20, 2, 21, 22, 23, 24, 25, 26, 27, 28, 29, 30, 31, 32, 33, 34, 35, 36, 37, 38, 39, 40, 41, 42, 43, 44, 45, 46, 47] (by decide +kernel) (by decide +kernel)
set_option maxRecDepth 20000 in
theorem gX2_lift_X2_barred : GoodIn wsX2_lift (wsV RX2 65 RX2 yX2_barred wsX2_barred) := goodIn_app (goodIn_of _ (by decide +kernel)) ggX2_lift_X2_barred
set_option maxRecDepth 20000 in
theorem ggX2_bars_X2_hasRow : GoodIn wsX2_bars wsX2_hasRow := goodIn_r _ [7, 1, 19, 20, 21, 22, 23, 24, 25, 26, 27, 28, 29, 30, 31, 32] (by decide +kernel) (by decide +kernel)
set_option maxRecDepth 20000 in
theorem gX2_bars_X2_hasRow : GoodIn wsX2_bars (wsV RX2 58 RX2 yX2_hasRow wsX2_hasRow) := goodIn_app (goodIn_of _ (by decide +kernel)) ggX2_bars_X2_hasRow
set_option maxRecDepth 20000 in
theorem ggX2_bars_X2_what : GoodIn wsX2_bars wsX2_what := goodIn_r _ [11, 1, 12, 19, 20, 21, 22, 23, 24, 25, 26, 27, 28, 29, 30, 31, 32] (by decide +kernel) (by decide +kernel)
set_option maxRecDepth 20000 in
theorem gX2_bars_X2_what : GoodIn wsX2_bars (wsV RX2 55 RX2 yX2_what wsX2_what) := goodIn_app (goodIn_of _ (by decide +kernel)) ggX2_bars_X2_what
set_option maxRecDepth 20000 in
theorem ggX2_bars_X2_isOfCombs : GoodIn wsX2_bars wsX2_isOfCombs := goodIn_r _ [15] (by decide +kernel) (by decide +kernel)
set_option maxRecDepth 20000 in
theorem gX2_bars_X2_isOfCombs : GoodIn wsX2_bars (va_wsS RX2 50 yX2_isOfCombs wsX2_isOfCombs) := goodIn_app (goodIn_of _ (by decide +kernel)) ggX2_bars_X2_isOfCombs
set_option maxRecDepth 20000 in
theorem ggX2_bars_X2_isOutside : GoodIn wsX2_bars wsX2_isOutside := goodIn_r _ [18] (by decide +kernel) (by decide +kernel)
set_option maxRecDepth 20000 in
theorem gX2_bars_X2_isOutside : GoodIn wsX2_bars (va_wsS RX2 79 yX2_isOutside wsX2_isOutside) := goodIn_app (goodIn_of _ (by decide +kernel)) ggX2_bars_X2_isOutside
set_option maxRecDepth 20000 in
theorem ggX2_goes_X2_bars : GoodIn wsX2_goes wsX2_bars := goodIn_r _ [10, 2, 11, 12, 13, 14, 9, 15, 16, 17, 18, 19, 20, 21, 22, 23, 24, 25, 26, 30, 31, 32, 33, 34, 35, 36, 37, 38, 39, 40, 41, 42, 43] (by decide +kernel) (by decide +kernel)
set_option maxRecDepth 20000 in
theorem gX2_goes_X2_bars : GoodIn wsX2_goes (wsV RX2 86 RX2 yX2_bars wsX2_bars) := goodIn_app (goodIn_of _ (by decide +kernel)) ggX2_goes_X2_bars
set_option maxRecDepth 20000 in
theorem ggX2_goes_X2_what : GoodIn wsX2_goes wsX2_what := goodIn_r _ [19, 2, 20, 30, 31, 32, 33, 34, 35, 36, 37, 38, 39, 40, 41, 42, 43] (by decide +kernel) (by decide +kernel)
set_option maxRecDepth 20000 in
theorem gX2_goes_X2_what : GoodIn wsX2_goes (wsV RX2 55 RX2 yX2_what wsX2_what) := goodIn_app (goodIn_of _ (by decide +kernel)) ggX2_goes_X2_what
set_option maxRecDepth 20000 in
theorem ggX2_goes_X2_isOfCombs : GoodIn wsX2_goes wsX2_isOfCombs := goodIn_r _ [23] (by decide +kernel) (by decide +kernel)
set_option maxRecDepth 20000 in
theorem gX2_goes_X2_isOfCombs : GoodIn wsX2_goes (va_wsS RX2 50 yX2_isOfCombs wsX2_isOfCombs) := goodIn_app (goodIn_of _ (by decide +kernel)) ggX2_goes_X2_isOfCombs
set_option maxRecDepth 20000 in
theorem ggX2_goes_X2_takes : GoodIn wsX2_goes wsX2_takes := goodIn_r _ [29] (by decide +kernel) (by decide +kernel)
set_option maxRecDepth 20000 in
theorem gX2_goes_X2_takes : GoodIn wsX2_goes (va_wsS RX2 76 yX2_takes wsX2_takes) := goodIn_app (goodIn_of _ (by decide +kernel)) ggX2_goes_X2_takes
set_option maxRecDepth 20000 in
theorem ggX2_move_X2_isBox : GoodIn wsX2_move wsX2_isBox := goodIn_r _ [5] (by decide +kernel) (by decide +kernel)
set_option maxRecDepth 20000 in
theorem gX2_move_X2_isBox : GoodIn wsX2_move (va_wsS RX2 39 yX2_isBox wsX2_isBox) := goodIn_app (goodIn_of _ (by decide +kernel)) ggX2_move_X2_isBox
set_option maxRecDepth 20000 in
theorem ggX2_move_X2_fail : GoodIn wsX2_move wsX2_fail := goodIn_r _ [9, 1, 49, 50, 51, 52, 53, 54, 55, 56, 57, 58, 59, 60, 61, 62] (by decide +kernel) (by decide +kernel)
set_option maxRecDepth 20000 in
theorem gX2_move_X2_fail : GoodIn wsX2_move (wsV RX2 43 RX2 yX2_fail wsX2_fail) := goodIn_app (goodIn_of _ (by decide +kernel)) ggX2_move_X2_fail
set_option maxRecDepth 20000 in
theorem ggX2_move_X2_goes : GoodIn wsX2_move wsX2_goes := goodIn_r _ [13, 14, 15, 16, 17, 18, 19, 20, 21, 4, 22, 23, 24, 25, 26, 27, 28, 29, 30, 31, 32, 33, 34, 35, 36, 37, 38, 39, 40, 41, 49, 50, 51, 52, 53, 54, 55, 56, 57, 58, 59, 60, 61, 62] (by decide +kernel) (by decide +kernel)
set_option maxRecDepth 20000 in
theorem gX2_move_X2_goes : GoodIn wsX2_move (wsV RX2 96 RX2 yX2_goes wsX2_goes) := goodIn_app (goodIn_of _ (by decide +kernel)) ggX2_move_X2_goes
set_option maxRecDepth 20000 in
theorem ggX2_move_X2_told : GoodIn wsX2_move wsX2_told := goodIn_r _ [45, 46, 47, 48, 14, 49, 50, 51, 52, 53, 54, 55, 56, 57, 58, 59, 60, 61, 62] (by decide +kernel) (by decide +kernel)
set_option maxRecDepth 20000 in
theorem gX2_move_X2_told : GoodIn wsX2_move (wsV RX2 99 RX2 yX2_told wsX2_told) := goodIn_app (goodIn_of _ (by decide +kernel)) ggX2_move_X2_told
set_option maxRecDepth 20000 in
theorem ggX2_pour_X2_isBox : GoodIn wsX2_pour wsX2_isBox := goodIn_r _ [7] (by decide +kernel) (by decide +kernel)
set_option maxRecDepth 20000 in
theorem gX2_pour_X2_isBox : GoodIn wsX2_pour (va_wsS RX2 39 yX2_isBox wsX2_isBox) := goodIn_app (goodIn_of _ (by decide +kernel)) ggX2_pour_X2_isBox
set_option maxRecDepth 20000 in
theorem ggX2_pour_X2_fail : GoodIn wsX2_pour wsX2_fail := goodIn_r _ [11, 1, 49, 50, 51, 52, 53, 54, 55, 56, 57, 58, 59, 60, 61, 62] (by decide +kernel) (by decide +kernel)
set_option maxRecDepth 20000 in
theorem gX2_pour_X2_fail : GoodIn wsX2_pour (wsV RX2 43 RX2 yX2_fail wsX2_fail) := goodIn_app (goodIn_of _ (by decide +kernel)) ggX2_pour_X2_fail
set_option maxRecDepth 20000 in
theorem ggX2_pour_X2_hasRow : GoodIn wsX2_pour wsX2_hasRow := goodIn_r _ [15, 3, 49, 50, 51, 52, 53, 54, 55, 56, 57, 58, 59, 60, 61, 62] (by decide +kernel) (by decide +kernel)
set_option maxRecDepth 20000 in
theorem gX2_pour_X2_hasRow : GoodIn wsX2_pour (wsV RX2 58 RX2 yX2_hasRow wsX2_hasRow) := goodIn_app (goodIn_of _ (by decide +kernel)) ggX2_pour_X2_hasRow
set_option maxRecDepth 20000 in
theorem ggX2_pour_X2_goes : GoodIn wsX2_pour wsX2_goes := goodIn_r _ [19, 20, 3, 21, 22, 23, 24, 25, 26, 6, 27, 2, 12, 13, 14, 15, 28, 29, 30, 31, 32, 33, 34, 35, 36, 37, 38, 39, 40, 41, 49, 50, 51, 52, 53, 54, 55, 56, 57, 58, 59, 60, 61, 62] (by decide +kernel) (by decide +kernel)
set_option maxRecDepth 20000 in
theorem gX2_pour_X2_goes : GoodIn wsX2_pour (wsV RX2 96 RX2 yX2_goes wsX2_goes) := goodIn_app (goodIn_of _ (by decide +kernel)) ggX2_pour_X2_goes
set_option maxRecDepth 20000 in
theorem ggX2_pour_X2_told : GoodIn wsX2_pour wsX2_told := goodIn_r _ [45, 46, 47, 48, 20, 49, 50, 51, 52, 53, 54, 55, 56, 57, 58, 59, 60, 61, 62] (by decide +kernel) (by decide +kernel)
set_option maxRecDepth 20000 in
theorem gX2_pour_X2_told : GoodIn wsX2_pour (wsV RX2 99 RX2 yX2_told wsX2_told) := goodIn_app (goodIn_of _ (by decide +kernel)) ggX2_pour_X2_told
set_option maxRecDepth 20000 in
theorem ggX2_at_X2_isBox : GoodIn wsX2_at wsX2_isBox := goodIn_r _ [7] (by decide +kernel) (by decide +kernel)
set_option maxRecDepth 20000 in
theorem gX2_at_X2_isBox : GoodIn wsX2_at (va_wsS RX2 39 yX2_isBox wsX2_isBox) := goodIn_app (goodIn_of _ (by decide +kernel)) ggX2_at_X2_isBox
set_option maxRecDepth 20000 in
theorem ggX2_at_X2_fail : GoodIn wsX2_at wsX2_fail := goodIn_r _ [11, 1, 21, 22, 23, 24, 25, 26, 27, 28, 29, 30, 31, 32, 33, 34] (by decide +kernel) (by decide +kernel)
set_option maxRecDepth 20000 in
theorem gX2_at_X2_fail : GoodIn wsX2_at (wsV RX2 43 RX2 yX2_fail wsX2_fail) := goodIn_app (goodIn_of _ (by decide +kernel)) ggX2_at_X2_fail
set_option maxRecDepth 20000 in
theorem ggX2_at_X2_hasRow : GoodIn wsX2_at wsX2_hasRow := goodIn_r _ [15, 3, 21, 22, 23, 24, 25, 26, 27, 28, 29, 30, 31, 32, 33, 34] (by decide +kernel) (by decide +kernel)
set_option maxRecDepth 20000 in
theorem gX2_at_X2_hasRow : GoodIn wsX2_at (wsV RX2 58 RX2 yX2_hasRow wsX2_hasRow) := goodIn_app (goodIn_of _ (by decide +kernel)) ggX2_at_X2_hasRow
set_option maxRecDepth 20000 in
theorem ggX2_at_X2_isPlace : GoodIn wsX2_at wsX2_isPlace := goodIn_r _ [19, 20, 3, 21, 22, 23, 24, 25, 26, 27, 28, 29, 30, 31, 32, 33, 34] (by decide +kernel) (by decide +kernel)
set_option maxRecDepth 20000 in
theorem gX2_at_X2_isPlace : GoodIn wsX2_at (wsV RX2 61 RX2 yX2_isPlace wsX2_isPlace) := goodIn_app (goodIn_of _ (by decide +kernel)) ggX2_at_X2_isPlace
set_option maxRecDepth 20000 in
theorem ggX2_holds_X2_isBox : GoodIn wsX2_holds wsX2_isBox := goodIn_r _ [5] (by decide +kernel) (by decide +kernel)
set_option maxRecDepth 20000 in
theorem gX2_holds_X2_isBox : GoodIn wsX2_holds (va_wsS RX2 39 yX2_isBox wsX2_isBox) := goodIn_app (goodIn_of _ (by decide +kernel)) ggX2_holds_X2_isBox
set_option maxRecDepth 20000 in
theorem ggX2_holds_X2_what : GoodIn wsX2_holds wsX2_what := goodIn_r _ [9, 10, 11, 16, 17, 18, 19, 20, 21, 22, 23, 24, 25, 26, 27, 28, 29] (by decide +kernel) (by decide +kernel)
set_option maxRecDepth 20000 in
theorem gX2_holds_X2_what : GoodIn wsX2_holds (wsV RX2 55 RX2 yX2_what wsX2_what) := goodIn_app (goodIn_of _ (by decide +kernel)) ggX2_holds_X2_what
set_option maxRecDepth 20000 in
theorem ggX2_holds_X2_fail : GoodIn wsX2_holds wsX2_fail := goodIn_r _ [15, 1, 16, 17, 18, 19, 20, 21, 22, 23, 24, 25, 26, 27, 28, 29] (by decide +kernel) (by decide +kernel)
set_option maxRecDepth 20000 in
theorem gX2_holds_X2_fail : GoodIn wsX2_holds (wsV RX2 43 RX2 yX2_fail wsX2_fail) := goodIn_app (goodIn_of _ (by decide +kernel)) ggX2_holds_X2_fail
set_option maxRecDepth 20000 in
theorem ggX2_places_X2_isBox : GoodIn wsX2_places wsX2_isBox := goodIn_r _ [7] (by decide +kernel) (by decide +kernel)
set_option maxRecDepth 20000 in
theorem gX2_places_X2_isBox : GoodIn wsX2_places (va_wsS RX2 39 yX2_isBox wsX2_isBox) := goodIn_app (goodIn_of _ (by decide +kernel)) ggX2_places_X2_isBox
set_option maxRecDepth 20000 in
theorem ggX2_places_X2_fail : GoodIn wsX2_places wsX2_fail := goodIn_r _ [11, 1, 16, 17, 18, 19, 20, 21, 22, 23, 24, 25, 26, 27, 28, 29] (by decide +kernel) (by decide +kernel)
set_option maxRecDepth 20000 in
theorem gX2_places_X2_fail : GoodIn wsX2_places (wsV RX2 43 RX2 yX2_fail wsX2_fail) := goodIn_app (goodIn_of _ (by decide +kernel)) ggX2_places_X2_fail
set_option maxRecDepth 20000 in
theorem ggX2_places_X2_hasRow : GoodIn wsX2_places wsX2_hasRow := goodIn_r _ [15, 3, 16, 17, 18, 19, 20, 21, 22, 23, 24, 25, 26, 27, 28, 29] (by decide +kernel) (by decide +kernel)
set_option maxRecDepth 20000 in
theorem gX2_places_X2_hasRow : GoodIn wsX2_places (wsV RX2 58 RX2 yX2_hasRow wsX2_hasRow) := goodIn_app (goodIn_of _ (by decide +kernel)) ggX2_places_X2_hasRow
set_option maxRecDepth 20000 in
theorem ggX2_same_X2_isBox : GoodIn wsX2_same wsX2_isBox := goodIn_r _ [6] (by decide +kernel) (by decide +kernel)
set_option maxRecDepth 20000 in
theorem gX2_same_X2_isBox : GoodIn wsX2_same (va_wsS RX2 39 yX2_isBox wsX2_isBox) := goodIn_app (goodIn_of _ (by decide +kernel)) ggX2_same_X2_isBox
set_option maxRecDepth 20000 in
theorem ggX2_same_X2_fail : GoodIn wsX2_same wsX2_fail := goodIn_r _ [10, 1, 15, 16, 17, 18, 19, 20, 21, 22, 23, 24, 25, 26, 27, 28] (by decide +kernel) (by decide +kernel)
set_option maxRecDepth 20000 in
theorem gX2_same_X2_fail : GoodIn wsX2_same (wsV RX2 43 RX2 yX2_fail wsX2_fail) := goodIn_app (goodIn_of _ (by decide +kernel)) ggX2_same_X2_fail
set_option maxRecDepth 20000 in
theorem ggX2_same_X2_hasRow : GoodIn wsX2_same wsX2_hasRow := goodIn_r _ [14, 2, 15, 16, 17, 18, 19, 20, 21, 22, 23, 24, 25, 26, 27, 28] (by decide +kernel) (by decide +kernel)
set_option maxRecDepth 20000 in
theorem gX2_same_X2_hasRow : GoodIn wsX2_same (wsV RX2 58 RX2 yX2_hasRow wsX2_hasRow) := goodIn_app (goodIn_of _ (by decide +kernel)) ggX2_same_X2_hasRow
set_option maxRecDepth 20000 in
theorem ggX2_all_X2_isBox : GoodIn wsX2_all wsX2_isBox := goodIn_r _ [10] (by decide +kernel) (by decide +kernel)
set_option maxRecDepth 20000 in
theorem gX2_all_X2_isBox : GoodIn wsX2_all (va_wsS RX2 39 yX2_isBox wsX2_isBox) := goodIn_app (goodIn_of _ (by decide +kernel)) ggX2_all_X2_isBox
set_option maxRecDepth 20000 in
theorem ggX2_all_X2_fail : GoodIn wsX2_all wsX2_fail := goodIn_r _ [14, 1, 22, 23, 24, 25, 26, 27, 28, 29, 30, 31, 32, 33, 34, 35] (by decide +kernel) (by decide +kernel)
set_option maxRecDepth 20000 in
theorem gX2_all_X2_fail : GoodIn wsX2_all (wsV RX2 43 RX2 yX2_fail wsX2_fail) := goodIn_app (goodIn_of _ (by decide +kernel)) ggX2_all_X2_fail
set_option maxRecDepth 20000 in
theorem ggX2_all_X2_hasRow : GoodIn wsX2_all wsX2_hasRow := goodIn_r _ [18, 2, 22, 23, 24, 25, 26, 27, 28, 29, 30, 31, 32, 33, 34, 35] (by decide +kernel) (by decide +kernel)
set_option maxRecDepth 20000 in
theorem gX2_all_X2_hasRow : GoodIn wsX2_all (wsV RX2 58 RX2 yX2_hasRow wsX2_hasRow) := goodIn_app (goodIn_of _ (by decide +kernel)) ggX2_all_X2_hasRow
set_option maxRecDepth 20000 in
theorem ggX2_all_X2_isOfCombs : GoodIn wsX2_all wsX2_isOfCombs := goodIn_r _ [21] (by decide +kernel) (by decide +kernel)
set_option maxRecDepth 20000 in
theorem gX2_all_X2_isOfCombs : GoodIn wsX2_all (va_wsS RX2 50 yX2_isOfCombs wsX2_isOfCombs) := goodIn_app (goodIn_of _ (by decide +kernel)) ggX2_all_X2_isOfCombs
set_option maxRecDepth 20000 in
theorem ggX2_feed_X2_isComb : GoodIn wsX2_feed wsX2_isComb := goodIn_r _ [7, 8, 13, 14, 15, 16, 17, 18, 19, 20, 21, 22, 23, 24, 25, 26] (by decide +kernel) (by decide +kernel)
set_option maxRecDepth 20000 in
theorem gX2_feed_X2_isComb : GoodIn wsX2_feed (wsV RX2 102 RX2 yX2_isComb wsX2_isComb) := goodIn_app (goodIn_of _ (by decide +kernel)) ggX2_feed_X2_isComb
set_option maxRecDepth 20000 in
theorem ggX2_feed_X2_fail : GoodIn wsX2_feed wsX2_fail := goodIn_r _ [12, 1, 13, 14, 15, 16, 17, 18, 19, 20, 21, 22, 23, 24, 25, 26] (by decide +kernel) (by decide +kernel)
set_option maxRecDepth 20000 in
theorem gX2_feed_X2_fail : GoodIn wsX2_feed (wsV RX2 43 RX2 yX2_fail wsX2_fail) := goodIn_app (goodIn_of _ (by decide +kernel)) ggX2_feed_X2_fail
set_option maxRecDepth 20000 in
theorem ggX2_kind_X2_isComb : GoodIn wsX2_kind wsX2_isComb := goodIn_r _ [7, 8, 13, 14, 15, 16, 17, 18, 19, 20, 21, 22, 23, 24, 25, 26] (by decide +kernel) (by decide +kernel)
set_option maxRecDepth 20000 in
theorem gX2_kind_X2_isComb : GoodIn wsX2_kind (wsV RX2 102 RX2 yX2_isComb wsX2_isComb) := goodIn_app (goodIn_of _ (by decide +kernel)) ggX2_kind_X2_isComb
set_option maxRecDepth 20000 in
theorem ggX2_kind_X2_fail : GoodIn wsX2_kind wsX2_fail := goodIn_r _ [12, 1, 13, 14, 15, 16, 17, 18, 19, 20, 21, 22, 23, 24, 25, 26] (by decide +kernel) (by decide +kernel)
set_option maxRecDepth 20000 in
theorem gX2_kind_X2_fail : GoodIn wsX2_kind (wsV RX2 43 RX2 yX2_fail wsX2_fail) := goodIn_app (goodIn_of _ (by decide +kernel)) ggX2_kind_X2_fail
abbrev vwCl : List vw_C := [(RX0, TX0, 2), (RX1, TX1, 10), (RX2, TX2, 14)]
end
section
theorem dX0_init_0 : decode cX0_init 0 = .ok (.aload_n 0, 1) := by decide +kernel
theorem dX0_init_1 : decode cX0_init 1 = .ok (.invokespecial 1, 3) := by decide +kernel
theorem dX0_init_4 : decode cX0_init 4 = .ok (.aload_n 0, 1) := by decide +kernel
theorem dX0_init_5 : decode cX0_init 5 = .ok (.iload_n 1, 1) := by decide +kernel
theorem dX0_init_6 : decode cX0_init 6 = .ok (.putfield 7, 3) := by decide +kernel
theorem dX0_init_9 : decode cX0_init 9 = .ok (.aload_n 0, 1) := by decide +kernel
theorem dX0_init_10 : decode cX0_init 10 = .ok (.aload_n 2, 1) := by decide +kernel
theorem dX0_init_11 : decode cX0_init 11 = .ok (.putfield 13, 3) := by decide +kernel
theorem dX0_init_14 : decode cX0_init 14 = .ok (.return_, 1) := by decide +kernel
theorem dX1_init_0 : decode cX1_init 0 = .ok (.aload_n 0, 1) := by decide +kernel
theorem dX1_init_1 : decode cX1_init 1 = .ok (.invokespecial 1, 3) := by decide +kernel
theorem dX1_init_4 : decode cX1_init 4 = .ok (.aload_n 0, 1) := by decide +kernel
theorem dX1_init_5 : decode cX1_init 5 = .ok (.bipush 12, 2) := by decide +kernel
theorem dX1_init_7 : decode cX1_init 7 = .ok (.anewarray 9, 3) := by decide +kernel
theorem dX1_init_10 : decode cX1_init 10 = .ok (.putfield 11, 3) := by decide +kernel
theorem dX1_init_13 : decode cX1_init 13 = .ok (.aload_n 0, 1) := by decide +kernel
theorem dX1_init_14 : decode cX1_init 14 = .ok (.new 9, 3) := by decide +kernel
theorem dX1_init_17 : decode cX1_init 17 = .ok (.dup, 1) := by decide +kernel
theorem dX1_init_18 : decode cX1_init 18 = .ok (.bipush 8, 2) := by decide +kernel
theorem dX1_init_20 : decode cX1_init 20 = .ok (.iconst 0, 1) := by decide +kernel
theorem dX1_init_21 : decode cX1_init 21 = .ok (.newarray .long, 2) := by decide +kernel
theorem dX1_init_23 : decode cX1_init 23 = .ok (.invokespecial 15, 3) := by decide +kernel
theorem dX1_init_26 : decode cX1_init 26 = .ok (.putfield 18, 3) := by decide +kernel
theorem dX1_init_29 : decode cX1_init 29 = .ok (.aload_n 0, 1) := by decide +kernel
theorem dX1_init_30 : decode cX1_init 30 = .ok (.bipush 60, 2) := by decide +kernel
theorem dX1_init_32 : decode cX1_init 32 = .ok (.newarray .int, 2) := by decide +kernel
theorem dX1_init_34 : decode cX1_init 34 = .ok (.putfield 22, 3) := by decide +kernel
theorem dX1_init_37 : decode cX1_init 37 = .ok (.aload_n 0, 1) := by decide +kernel
theorem dX1_init_38 : decode cX1_init 38 = .ok (.bipush 60, 2) := by decide +kernel
theorem dX1_init_40 : decode cX1_init 40 = .ok (.newarray .int, 2) := by decide +kernel
theorem dX1_init_42 : decode cX1_init 42 = .ok (.putfield 26, 3) := by decide +kernel
theorem dX1_init_45 : decode cX1_init 45 = .ok (.aload_n 0, 1) := by decide +kernel
theorem dX1_init_46 : decode cX1_init 46 = .ok (.bipush 6, 2) := by decide +kernel
theorem dX1_init_48 : decode cX1_init 48 = .ok (.newarray .int, 2) := by decide +kernel
theorem dX1_init_50 : decode cX1_init 50 = .ok (.putfield 29, 3) := by decide +kernel
theorem dX1_init_53 : decode cX1_init 53 = .ok (.return_, 1) := by decide +kernel
theorem dX1_row_0 : decode cX1_row 0 = .ok (.aload_n 0, 1) := by decide +kernel
theorem dX1_row_1 : decode cX1_row 1 = .ok (.iload_n 1, 1) := by decide +kernel
theorem dX1_row_2 : decode cX1_row 2 = .ok (.invokevirtual 32, 3) := by decide +kernel
theorem dX1_row_5 : decode cX1_row 5 = .ok (.astore 4, 2) := by decide +kernel
theorem dX1_row_7 : decode cX1_row 7 = .ok (.iload_n 2, 1) := by decide +kernel
theorem dX1_row_8 : decode cX1_row 8 = .ok (.ifCond .lt 9, 3) := by decide +kernel
theorem dX1_row_11 : decode cX1_row 11 = .ok (.iload_n 2, 1) := by decide +kernel
theorem dX1_row_12 : decode cX1_row 12 = .ok (.bipush 7, 2) := by decide +kernel
theorem dX1_row_14 : decode cX1_row 14 = .ok (.if_icmp .le 13, 3) := by decide +kernel
theorem dX1_row_17 : decode cX1_row 17 = .ok (.new 36, 3) := by decide +kernel
theorem dX1_row_20 : decode cX1_row 20 = .ok (.dup, 1) := by decide +kernel
theorem dX1_row_21 : decode cX1_row 21 = .ok (.ldc 38, 2) := by decide +kernel
theorem dX1_row_23 : decode cX1_row 23 = .ok (.invokespecial 40, 3) := by decide +kernel
theorem dX1_row_26 : decode cX1_row 26 = .ok (.athrow, 1) := by decide +kernel
theorem dX1_row_27 : decode cX1_row 27 = .ok (.iload_n 3, 1) := by decide +kernel
theorem dX1_row_28 : decode cX1_row 28 = .ok (.ifCond .lt 9, 3) := by decide +kernel
theorem dX1_row_31 : decode cX1_row 31 = .ok (.iload_n 3, 1) := by decide +kernel
theorem dX1_row_32 : decode cX1_row 32 = .ok (.bipush 24, 2) := by decide +kernel
theorem dX1_row_34 : decode cX1_row 34 = .ok (.if_icmp .le 13, 3) := by decide +kernel
theorem dX1_row_37 : decode cX1_row 37 = .ok (.new 36, 3) := by decide +kernel
theorem dX1_row_40 : decode cX1_row 40 = .ok (.dup, 1) := by decide +kernel
theorem dX1_row_41 : decode cX1_row 41 = .ok (.ldc 43, 2) := by decide +kernel
theorem dX1_row_43 : decode cX1_row 43 = .ok (.invokespecial 40, 3) := by decide +kernel
theorem dX1_row_46 : decode cX1_row 46 = .ok (.athrow, 1) := by decide +kernel
theorem dX1_row_47 : decode cX1_row 47 = .ok (.aload_n 0, 1) := by decide +kernel
theorem dX1_row_48 : decode cX1_row 48 = .ok (.getfield 45, 3) := by decide +kernel
theorem dX1_row_51 : decode cX1_row 51 = .ok (.sipush 300, 3) := by decide +kernel
theorem dX1_row_54 : decode cX1_row 54 = .ok (.if_icmp .lt 13, 3) := by decide +kernel
theorem dX1_row_57 : decode cX1_row 57 = .ok (.new 49, 3) := by decide +kernel
theorem dX1_row_60 : decode cX1_row 60 = .ok (.dup, 1) := by decide +kernel
theorem dX1_row_61 : decode cX1_row 61 = .ok (.ldc 51, 2) := by decide +kernel
theorem dX1_row_63 : decode cX1_row 63 = .ok (.invokespecial 53, 3) := by decide +kernel
theorem dX1_row_66 : decode cX1_row 66 = .ok (.athrow, 1) := by decide +kernel
theorem dX1_row_67 : decode cX1_row 67 = .ok (.aload_n 0, 1) := by decide +kernel
theorem dX1_row_68 : decode cX1_row 68 = .ok (.dup, 1) := by decide +kernel
theorem dX1_row_69 : decode cX1_row 69 = .ok (.getfield 45, 3) := by decide +kernel
theorem dX1_row_72 : decode cX1_row 72 = .ok (.iconst 1, 1) := by decide +kernel
theorem dX1_row_73 : decode cX1_row 73 = .ok (.iadd, 1) := by decide +kernel
theorem dX1_row_74 : decode cX1_row 74 = .ok (.putfield 45, 3) := by decide +kernel
theorem dX1_row_77 : decode cX1_row 77 = .ok (.aload_n 0, 1) := by decide +kernel
theorem dX1_row_78 : decode cX1_row 78 = .ok (.getfield 11, 3) := by decide +kernel
theorem dX1_row_81 : decode cX1_row 81 = .ok (.iload_n 1, 1) := by decide +kernel
theorem dX1_row_82 : decode cX1_row 82 = .ok (.iload_n 2, 1) := by decide +kernel
theorem dX1_row_83 : decode cX1_row 83 = .ok (.iload_n 3, 1) := by decide +kernel
theorem dX1_row_84 : decode cX1_row 84 = .ok (.invokestatic 54, 3) := by decide +kernel
theorem dX1_row_87 : decode cX1_row 87 = .ok (.aastore, 1) := by decide +kernel
theorem dX1_row_88 : decode cX1_row 88 = .ok (.aload 4, 2) := by decide +kernel
theorem dX1_row_90 : decode cX1_row 90 = .ok (.ifnonnull 7, 3) := by decide +kernel
theorem dX1_row_93 : decode cX1_row 93 = .ok (.iconst 1, 1) := by decide +kernel
theorem dX1_row_94 : decode cX1_row 94 = .ok (.goto 4, 3) := by decide +kernel
theorem dX1_row_97 : decode cX1_row 97 = .ok (.iconst 0, 1) := by decide +kernel
theorem dX1_row_98 : decode cX1_row 98 = .ok (.ireturn, 1) := by decide +kernel
theorem dX1_lid_0 : decode cX1_lid 0 = .ok (.aload_n 0, 1) := by decide +kernel
theorem dX1_lid_1 : decode cX1_lid 1 = .ok (.iload_n 1, 1) := by decide +kernel
theorem dX1_lid_2 : decode cX1_lid 2 = .ok (.invokevirtual 32, 3) := by decide +kernel
theorem dX1_lid_5 : decode cX1_lid 5 = .ok (.astore_n 2, 1) := by decide +kernel
theorem dX1_lid_6 : decode cX1_lid 6 = .ok (.aload_n 0, 1) := by decide +kernel
theorem dX1_lid_7 : decode cX1_lid 7 = .ok (.getfield 11, 3) := by decide +kernel
theorem dX1_lid_10 : decode cX1_lid 10 = .ok (.iload_n 1, 1) := by decide +kernel
theorem dX1_lid_11 : decode cX1_lid 11 = .ok (.aload_n 0, 1) := by decide +kernel
theorem dX1_lid_12 : decode cX1_lid 12 = .ok (.getfield 18, 3) := by decide +kernel
theorem dX1_lid_15 : decode cX1_lid 15 = .ok (.aastore, 1) := by decide +kernel
theorem dX1_lid_16 : decode cX1_lid 16 = .ok (.aload_n 2, 1) := by decide +kernel
theorem dX1_lid_17 : decode cX1_lid 17 = .ok (.aload_n 0, 1) := by decide +kernel
theorem dX1_lid_18 : decode cX1_lid 18 = .ok (.getfield 18, 3) := by decide +kernel
theorem dX1_lid_21 : decode cX1_lid 21 = .ok (.if_acmp .eq 7, 3) := by decide +kernel
theorem dX1_lid_24 : decode cX1_lid 24 = .ok (.iconst 1, 1) := by decide +kernel
theorem dX1_lid_25 : decode cX1_lid 25 = .ok (.goto 4, 3) := by decide +kernel
theorem dX1_lid_28 : decode cX1_lid 28 = .ok (.iconst 0, 1) := by decide +kernel
theorem dX1_lid_29 : decode cX1_lid 29 = .ok (.ireturn, 1) := by decide +kernel
theorem dX1_clear_0 : decode cX1_clear 0 = .ok (.aload_n 0, 1) := by decide +kernel
theorem dX1_clear_1 : decode cX1_clear 1 = .ok (.iload_n 1, 1) := by decide +kernel
theorem dX1_clear_2 : decode cX1_clear 2 = .ok (.invokevirtual 32, 3) := by decide +kernel
theorem dX1_clear_5 : decode cX1_clear 5 = .ok (.astore_n 2, 1) := by decide +kernel
theorem dX1_clear_6 : decode cX1_clear 6 = .ok (.aload_n 0, 1) := by decide +kernel
theorem dX1_clear_7 : decode cX1_clear 7 = .ok (.getfield 11, 3) := by decide +kernel
theorem dX1_clear_10 : decode cX1_clear 10 = .ok (.iload_n 1, 1) := by decide +kernel
theorem dX1_clear_11 : decode cX1_clear 11 = .ok (.aconst_null, 1) := by decide +kernel
theorem dX1_clear_12 : decode cX1_clear 12 = .ok (.aastore, 1) := by decide +kernel
theorem dX1_clear_13 : decode cX1_clear 13 = .ok (.aload_n 2, 1) := by decide +kernel
theorem dX1_clear_14 : decode cX1_clear 14 = .ok (.ifnull 7, 3) := by decide +kernel
theorem dX1_clear_17 : decode cX1_clear 17 = .ok (.iconst 1, 1) := by decide +kernel
theorem dX1_clear_18 : decode cX1_clear 18 = .ok (.goto 4, 3) := by decide +kernel
theorem dX1_clear_21 : decode cX1_clear 21 = .ok (.iconst 0, 1) := by decide +kernel
theorem dX1_clear_22 : decode cX1_clear 22 = .ok (.ireturn, 1) := by decide +kernel
theorem dX1_share_0 : decode cX1_share 0 = .ok (.iload_n 1, 1) := by decide +kernel
theorem dX1_share_1 : decode cX1_share 1 = .ok (.invokestatic 58, 3) := by decide +kernel
theorem dX1_share_4 : decode cX1_share 4 = .ok (.aload_n 0, 1) := by decide +kernel
theorem dX1_share_5 : decode cX1_share 5 = .ok (.iload_n 2, 1) := by decide +kernel
theorem dX1_share_6 : decode cX1_share 6 = .ok (.invokevirtual 32, 3) := by decide +kernel
theorem dX1_share_9 : decode cX1_share 9 = .ok (.astore_n 3, 1) := by decide +kernel
theorem dX1_share_10 : decode cX1_share 10 = .ok (.aload_n 0, 1) := by decide +kernel
theorem dX1_share_11 : decode cX1_share 11 = .ok (.getfield 11, 3) := by decide +kernel
theorem dX1_share_14 : decode cX1_share 14 = .ok (.iload_n 1, 1) := by decide +kernel
theorem dX1_share_15 : decode cX1_share 15 = .ok (.aload_n 3, 1) := by decide +kernel
theorem dX1_share_16 : decode cX1_share 16 = .ok (.aastore, 1) := by decide +kernel
theorem dX1_share_17 : decode cX1_share 17 = .ok (.aload_n 3, 1) := by decide +kernel
theorem dX1_share_18 : decode cX1_share 18 = .ok (.invokestatic 62, 3) := by decide +kernel
theorem dX1_share_21 : decode cX1_share 21 = .ok (.ireturn, 1) := by decide +kernel
theorem dX1_put_0 : decode cX1_put 0 = .ok (.aload_n 0, 1) := by decide +kernel
theorem dX1_put_1 : decode cX1_put 1 = .ok (.iload_n 1, 1) := by decide +kernel
theorem dX1_put_2 : decode cX1_put 2 = .ok (.invokevirtual 32, 3) := by decide +kernel
theorem dX1_put_5 : decode cX1_put 5 = .ok (.astore 5, 2) := by decide +kernel
theorem dX1_put_7 : decode cX1_put 7 = .ok (.aload 5, 2) := by decide +kernel
theorem dX1_put_9 : decode cX1_put 9 = .ok (.invokestatic 66, 3) := by decide +kernel
theorem dX1_put_12 : decode cX1_put 12 = .ok (.ifCond .ne 13, 3) := by decide +kernel
theorem dX1_put_15 : decode cX1_put 15 = .ok (.new 70, 3) := by decide +kernel
theorem dX1_put_18 : decode cX1_put 18 = .ok (.dup, 1) := by decide +kernel
theorem dX1_put_19 : decode cX1_put 19 = .ok (.ldc 72, 2) := by decide +kernel
theorem dX1_put_21 : decode cX1_put 21 = .ok (.invokespecial 74, 3) := by decide +kernel
theorem dX1_put_24 : decode cX1_put 24 = .ok (.athrow, 1) := by decide +kernel
theorem dX1_put_25 : decode cX1_put 25 = .ok (.aload 5, 2) := by decide +kernel
theorem dX1_put_27 : decode cX1_put 27 = .ok (.iload_n 2, 1) := by decide +kernel
theorem dX1_put_28 : decode cX1_put 28 = .ok (.invokestatic 75, 3) := by decide +kernel
theorem dX1_put_31 : decode cX1_put 31 = .ok (.aload 5, 2) := by decide +kernel
theorem dX1_put_33 : decode cX1_put 33 = .ok (.getfield 79, 3) := by decide +kernel
theorem dX1_put_36 : decode cX1_put 36 = .ok (.iload_n 2, 1) := by decide +kernel
theorem dX1_put_37 : decode cX1_put 37 = .ok (.laload, 1) := by decide +kernel
theorem dX1_put_38 : decode cX1_put 38 = .ok (.lstore 6, 2) := by decide +kernel
theorem dX1_put_40 : decode cX1_put 40 = .ok (.aload 5, 2) := by decide +kernel
theorem dX1_put_42 : decode cX1_put 42 = .ok (.getfield 79, 3) := by decide +kernel
theorem dX1_put_45 : decode cX1_put 45 = .ok (.iload_n 2, 1) := by decide +kernel
theorem dX1_put_46 : decode cX1_put 46 = .ok (.aload 5, 2) := by decide +kernel
theorem dX1_put_48 : decode cX1_put 48 = .ok (.getfield 83, 3) := by decide +kernel
theorem dX1_put_51 : decode cX1_put 51 = .ok (.lload_n 3, 1) := by decide +kernel
theorem dX1_put_52 : decode cX1_put 52 = .ok (.invokestatic 86, 3) := by decide +kernel
theorem dX1_put_55 : decode cX1_put 55 = .ok (.lastore, 1) := by decide +kernel
theorem dX1_put_56 : decode cX1_put 56 = .ok (.lload 6, 2) := by decide +kernel
theorem dX1_put_58 : decode cX1_put 58 = .ok (.lreturn, 1) := by decide +kernel
theorem dX1_lay_0 : decode cX1_lay 0 = .ok (.aload_n 0, 1) := by decide +kernel
theorem dX1_lay_1 : decode cX1_lay 1 = .ok (.iload_n 1, 1) := by decide +kernel
theorem dX1_lay_2 : decode cX1_lay 2 = .ok (.invokevirtual 32, 3) := by decide +kernel
theorem dX1_lay_5 : decode cX1_lay 5 = .ok (.astore 4, 2) := by decide +kernel
theorem dX1_lay_7 : decode cX1_lay 7 = .ok (.iload_n 3, 1) := by decide +kernel
theorem dX1_lay_8 : decode cX1_lay 8 = .ok (.ifCond .lt 8, 3) := by decide +kernel
theorem dX1_lay_11 : decode cX1_lay 11 = .ok (.iload_n 3, 1) := by decide +kernel
theorem dX1_lay_12 : decode cX1_lay 12 = .ok (.iconst 3, 1) := by decide +kernel
theorem dX1_lay_13 : decode cX1_lay 13 = .ok (.if_icmp .le 13, 3) := by decide +kernel
theorem dX1_lay_16 : decode cX1_lay 16 = .ok (.new 36, 3) := by decide +kernel
theorem dX1_lay_19 : decode cX1_lay 19 = .ok (.dup, 1) := by decide +kernel
theorem dX1_lay_20 : decode cX1_lay 20 = .ok (.ldc 90, 2) := by decide +kernel
theorem dX1_lay_22 : decode cX1_lay 22 = .ok (.invokespecial 40, 3) := by decide +kernel
theorem dX1_lay_25 : decode cX1_lay 25 = .ok (.athrow, 1) := by decide +kernel
theorem dX1_lay_26 : decode cX1_lay 26 = .ok (.aload 4, 2) := by decide +kernel
theorem dX1_lay_28 : decode cX1_lay 28 = .ok (.invokestatic 92, 3) := by decide +kernel
theorem dX1_lay_31 : decode cX1_lay 31 = .ok (.aload 4, 2) := by decide +kernel
theorem dX1_lay_33 : decode cX1_lay 33 = .ok (.iload_n 2, 1) := by decide +kernel
theorem dX1_lay_34 : decode cX1_lay 34 = .ok (.invokestatic 75, 3) := by decide +kernel
theorem dX1_lay_37 : decode cX1_lay 37 = .ok (.aload_n 0, 1) := by decide +kernel
theorem dX1_lay_38 : decode cX1_lay 38 = .ok (.getfield 96, 3) := by decide +kernel
theorem dX1_lay_41 : decode cX1_lay 41 = .ok (.bipush 60, 2) := by decide +kernel
theorem dX1_lay_43 : decode cX1_lay 43 = .ok (.if_icmp .lt 13, 3) := by decide +kernel
theorem dX1_lay_46 : decode cX1_lay 46 = .ok (.new 49, 3) := by decide +kernel
theorem dX1_lay_49 : decode cX1_lay 49 = .ok (.dup, 1) := by decide +kernel
theorem dX1_lay_50 : decode cX1_lay 50 = .ok (.ldc 99, 2) := by decide +kernel
theorem dX1_lay_52 : decode cX1_lay 52 = .ok (.invokespecial 53, 3) := by decide +kernel
theorem dX1_lay_55 : decode cX1_lay 55 = .ok (.athrow, 1) := by decide +kernel
theorem dX1_lay_56 : decode cX1_lay 56 = .ok (.aload 4, 2) := by decide +kernel
theorem dX1_lay_58 : decode cX1_lay 58 = .ok (.getfield 83, 3) := by decide +kernel
theorem dX1_lay_61 : decode cX1_lay 61 = .ok (.iload_n 3, 1) := by decide +kernel
theorem dX1_lay_62 : decode cX1_lay 62 = .ok (.invokestatic 101, 3) := by decide +kernel
theorem dX1_lay_65 : decode cX1_lay 65 = .ok (.ifCond .ne 5, 3) := by decide +kernel
theorem dX1_lay_68 : decode cX1_lay 68 = .ok (.iconst (-1), 1) := by decide +kernel
theorem dX1_lay_69 : decode cX1_lay 69 = .ok (.ireturn, 1) := by decide +kernel
theorem dX1_lay_70 : decode cX1_lay 70 = .ok (.aload_n 0, 1) := by decide +kernel
theorem dX1_lay_71 : decode cX1_lay 71 = .ok (.getfield 96, 3) := by decide +kernel
theorem dX1_lay_74 : decode cX1_lay 74 = .ok (.istore 5, 2) := by decide +kernel
theorem dX1_lay_76 : decode cX1_lay 76 = .ok (.aload_n 0, 1) := by decide +kernel
theorem dX1_lay_77 : decode cX1_lay 77 = .ok (.dup, 1) := by decide +kernel
theorem dX1_lay_78 : decode cX1_lay 78 = .ok (.getfield 96, 3) := by decide +kernel
theorem dX1_lay_81 : decode cX1_lay 81 = .ok (.iconst 1, 1) := by decide +kernel
theorem dX1_lay_82 : decode cX1_lay 82 = .ok (.iadd, 1) := by decide +kernel
theorem dX1_lay_83 : decode cX1_lay 83 = .ok (.putfield 96, 3) := by decide +kernel
theorem dX1_lay_86 : decode cX1_lay 86 = .ok (.aload_n 0, 1) := by decide +kernel
theorem dX1_lay_87 : decode cX1_lay 87 = .ok (.getfield 22, 3) := by decide +kernel
theorem dX1_lay_90 : decode cX1_lay 90 = .ok (.iload 5, 2) := by decide +kernel
theorem dX1_lay_92 : decode cX1_lay 92 = .ok (.iload_n 3, 1) := by decide +kernel
theorem dX1_lay_93 : decode cX1_lay 93 = .ok (.iastore, 1) := by decide +kernel
theorem dX1_lay_94 : decode cX1_lay 94 = .ok (.aload 4, 2) := by decide +kernel
theorem dX1_lay_96 : decode cX1_lay 96 = .ok (.getfield 79, 3) := by decide +kernel
theorem dX1_lay_99 : decode cX1_lay 99 = .ok (.iload_n 2, 1) := by decide +kernel
theorem dX1_lay_100 : decode cX1_lay 100 = .ok (.iload 5, 2) := by decide +kernel
theorem dX1_lay_102 : decode cX1_lay 102 = .ok (.i2l, 1) := by decide +kernel
theorem dX1_lay_103 : decode cX1_lay 103 = .ok (.lastore, 1) := by decide +kernel
theorem dX1_lay_104 : decode cX1_lay 104 = .ok (.iload 5, 2) := by decide +kernel
theorem dX1_lay_106 : decode cX1_lay 106 = .ok (.ireturn, 1) := by decide +kernel
theorem dX1_lift_0 : decode cX1_lift 0 = .ok (.aload_n 0, 1) := by decide +kernel
theorem dX1_lift_1 : decode cX1_lift 1 = .ok (.iload_n 1, 1) := by decide +kernel
theorem dX1_lift_2 : decode cX1_lift 2 = .ok (.invokevirtual 32, 3) := by decide +kernel
theorem dX1_lift_5 : decode cX1_lift 5 = .ok (.astore_n 3, 1) := by decide +kernel
theorem dX1_lift_6 : decode cX1_lift 6 = .ok (.aload_n 3, 1) := by decide +kernel
theorem dX1_lift_7 : decode cX1_lift 7 = .ok (.invokestatic 92, 3) := by decide +kernel
theorem dX1_lift_10 : decode cX1_lift 10 = .ok (.aload_n 3, 1) := by decide +kernel
theorem dX1_lift_11 : decode cX1_lift 11 = .ok (.iload_n 2, 1) := by decide +kernel
theorem dX1_lift_12 : decode cX1_lift 12 = .ok (.invokestatic 75, 3) := by decide +kernel
theorem dX1_lift_15 : decode cX1_lift 15 = .ok (.aload_n 3, 1) := by decide +kernel
theorem dX1_lift_16 : decode cX1_lift 16 = .ok (.getfield 79, 3) := by decide +kernel
theorem dX1_lift_19 : decode cX1_lift 19 = .ok (.iload_n 2, 1) := by decide +kernel
theorem dX1_lift_20 : decode cX1_lift 20 = .ok (.laload, 1) := by decide +kernel
theorem dX1_lift_21 : decode cX1_lift 21 = .ok (.l2i, 1) := by decide +kernel
theorem dX1_lift_22 : decode cX1_lift 22 = .ok (.istore 4, 2) := by decide +kernel
theorem dX1_lift_24 : decode cX1_lift 24 = .ok (.aload_n 3, 1) := by decide +kernel
theorem dX1_lift_25 : decode cX1_lift 25 = .ok (.getfield 79, 3) := by decide +kernel
theorem dX1_lift_28 : decode cX1_lift 28 = .ok (.iload_n 2, 1) := by decide +kernel
theorem dX1_lift_29 : decode cX1_lift 29 = .ok (.ldc2_w 105, 3) := by decide +kernel
theorem dX1_lift_32 : decode cX1_lift 32 = .ok (.lastore, 1) := by decide +kernel
theorem dX1_lift_33 : decode cX1_lift 33 = .ok (.iload 4, 2) := by decide +kernel
theorem dX1_lift_35 : decode cX1_lift 35 = .ok (.ireturn, 1) := by decide +kernel
theorem dX1_move_0 : decode cX1_move 0 = .ok (.aload_n 0, 1) := by decide +kernel
theorem dX1_move_1 : decode cX1_move 1 = .ok (.iload_n 1, 1) := by decide +kernel
theorem dX1_move_2 : decode cX1_move 2 = .ok (.invokevirtual 32, 3) := by decide +kernel
theorem dX1_move_5 : decode cX1_move 5 = .ok (.astore 6, 2) := by decide +kernel
theorem dX1_move_7 : decode cX1_move 7 = .ok (.aload_n 0, 1) := by decide +kernel
theorem dX1_move_8 : decode cX1_move 8 = .ok (.iload_n 3, 1) := by decide +kernel
theorem dX1_move_9 : decode cX1_move 9 = .ok (.invokevirtual 32, 3) := by decide +kernel
theorem dX1_move_12 : decode cX1_move 12 = .ok (.astore 7, 2) := by decide +kernel
theorem dX1_move_14 : decode cX1_move 14 = .ok (.aload_n 0, 1) := by decide +kernel
theorem dX1_move_15 : decode cX1_move 15 = .ok (.aload 6, 2) := by decide +kernel
theorem dX1_move_17 : decode cX1_move 17 = .ok (.iload_n 2, 1) := by decide +kernel
theorem dX1_move_18 : decode cX1_move 18 = .ok (.aload 7, 2) := by decide +kernel
theorem dX1_move_20 : decode cX1_move 20 = .ok (.iload 4, 2) := by decide +kernel
theorem dX1_move_22 : decode cX1_move 22 = .ok (.iload 5, 2) := by decide +kernel
theorem dX1_move_24 : decode cX1_move 24 = .ok (.invokevirtual 107, 3) := by decide +kernel
theorem dX1_move_27 : decode cX1_move 27 = .ok (.ireturn, 1) := by decide +kernel
theorem dX1_pour_0 : decode cX1_pour 0 = .ok (.aload_n 0, 1) := by decide +kernel
theorem dX1_pour_1 : decode cX1_pour 1 = .ok (.iload_n 1, 1) := by decide +kernel
theorem dX1_pour_2 : decode cX1_pour 2 = .ok (.invokevirtual 32, 3) := by decide +kernel
theorem dX1_pour_5 : decode cX1_pour 5 = .ok (.astore_n 3, 1) := by decide +kernel
theorem dX1_pour_6 : decode cX1_pour 6 = .ok (.aload_n 0, 1) := by decide +kernel
theorem dX1_pour_7 : decode cX1_pour 7 = .ok (.iload_n 2, 1) := by decide +kernel
theorem dX1_pour_8 : decode cX1_pour 8 = .ok (.invokevirtual 32, 3) := by decide +kernel
theorem dX1_pour_11 : decode cX1_pour 11 = .ok (.astore 4, 2) := by decide +kernel
theorem dX1_pour_13 : decode cX1_pour 13 = .ok (.aload_n 3, 1) := by decide +kernel
theorem dX1_pour_14 : decode cX1_pour 14 = .ok (.invokestatic 111, 3) := by decide +kernel
theorem dX1_pour_17 : decode cX1_pour 17 = .ok (.aload 4, 2) := by decide +kernel
theorem dX1_pour_19 : decode cX1_pour 19 = .ok (.invokestatic 111, 3) := by decide +kernel
theorem dX1_pour_22 : decode cX1_pour 22 = .ok (.invokestatic 114, 3) := by decide +kernel
theorem dX1_pour_25 : decode cX1_pour 25 = .ok (.istore 5, 2) := by decide +kernel
theorem dX1_pour_27 : decode cX1_pour 27 = .ok (.aload_n 0, 1) := by decide +kernel
theorem dX1_pour_28 : decode cX1_pour 28 = .ok (.aload_n 3, 1) := by decide +kernel
theorem dX1_pour_29 : decode cX1_pour 29 = .ok (.iconst 0, 1) := by decide +kernel
theorem dX1_pour_30 : decode cX1_pour 30 = .ok (.aload 4, 2) := by decide +kernel
theorem dX1_pour_32 : decode cX1_pour 32 = .ok (.iconst 0, 1) := by decide +kernel
theorem dX1_pour_33 : decode cX1_pour 33 = .ok (.iload 5, 2) := by decide +kernel
theorem dX1_pour_35 : decode cX1_pour 35 = .ok (.invokevirtual 107, 3) := by decide +kernel
theorem dX1_pour_38 : decode cX1_pour 38 = .ok (.ireturn, 1) := by decide +kernel
theorem dX1_moved_0 : decode cX1_moved 0 = .ok (.aload_n 0, 1) := by decide +kernel
theorem dX1_moved_1 : decode cX1_moved 1 = .ok (.getfield 120, 3) := by decide +kernel
theorem dX1_moved_4 : decode cX1_moved 4 = .ok (.ireturn, 1) := by decide +kernel
theorem dX1_at_0 : decode cX1_at 0 = .ok (.aload_n 0, 1) := by decide +kernel
theorem dX1_at_1 : decode cX1_at 1 = .ok (.iload_n 1, 1) := by decide +kernel
theorem dX1_at_2 : decode cX1_at 2 = .ok (.invokevirtual 32, 3) := by decide +kernel
theorem dX1_at_5 : decode cX1_at 5 = .ok (.astore_n 3, 1) := by decide +kernel
theorem dX1_at_6 : decode cX1_at 6 = .ok (.aload_n 3, 1) := by decide +kernel
theorem dX1_at_7 : decode cX1_at 7 = .ok (.invokestatic 123, 3) := by decide +kernel
theorem dX1_at_10 : decode cX1_at 10 = .ok (.aload_n 3, 1) := by decide +kernel
theorem dX1_at_11 : decode cX1_at 11 = .ok (.iload_n 2, 1) := by decide +kernel
theorem dX1_at_12 : decode cX1_at 12 = .ok (.invokestatic 75, 3) := by decide +kernel
theorem dX1_at_15 : decode cX1_at 15 = .ok (.aload_n 3, 1) := by decide +kernel
theorem dX1_at_16 : decode cX1_at 16 = .ok (.getfield 79, 3) := by decide +kernel
theorem dX1_at_19 : decode cX1_at 19 = .ok (.iload_n 2, 1) := by decide +kernel
theorem dX1_at_20 : decode cX1_at 20 = .ok (.laload, 1) := by decide +kernel
theorem dX1_at_21 : decode cX1_at 21 = .ok (.lreturn, 1) := by decide +kernel
theorem dX1_holds_0 : decode cX1_holds 0 = .ok (.aload_n 0, 1) := by decide +kernel
theorem dX1_holds_1 : decode cX1_holds 1 = .ok (.iload_n 1, 1) := by decide +kernel
theorem dX1_holds_2 : decode cX1_holds 2 = .ok (.invokevirtual 32, 3) := by decide +kernel
theorem dX1_holds_5 : decode cX1_holds 5 = .ok (.invokestatic 62, 3) := by decide +kernel
theorem dX1_holds_8 : decode cX1_holds 8 = .ok (.ireturn, 1) := by decide +kernel
theorem dX1_places_0 : decode cX1_places 0 = .ok (.aload_n 0, 1) := by decide +kernel
theorem dX1_places_1 : decode cX1_places 1 = .ok (.iload_n 1, 1) := by decide +kernel
theorem dX1_places_2 : decode cX1_places 2 = .ok (.invokevirtual 32, 3) := by decide +kernel
theorem dX1_places_5 : decode cX1_places 5 = .ok (.astore_n 2, 1) := by decide +kernel
theorem dX1_places_6 : decode cX1_places 6 = .ok (.aload_n 2, 1) := by decide +kernel
theorem dX1_places_7 : decode cX1_places 7 = .ok (.invokestatic 123, 3) := by decide +kernel
theorem dX1_places_10 : decode cX1_places 10 = .ok (.aload_n 2, 1) := by decide +kernel
theorem dX1_places_11 : decode cX1_places 11 = .ok (.getfield 79, 3) := by decide +kernel
theorem dX1_places_14 : decode cX1_places 14 = .ok (.arraylength, 1) := by decide +kernel
theorem dX1_places_15 : decode cX1_places 15 = .ok (.ireturn, 1) := by decide +kernel
theorem dX1_same_0 : decode cX1_same 0 = .ok (.aload_n 0, 1) := by decide +kernel
theorem dX1_same_1 : decode cX1_same 1 = .ok (.iload_n 1, 1) := by decide +kernel
theorem dX1_same_2 : decode cX1_same 2 = .ok (.invokevirtual 32, 3) := by decide +kernel
theorem dX1_same_5 : decode cX1_same 5 = .ok (.astore_n 3, 1) := by decide +kernel
theorem dX1_same_6 : decode cX1_same 6 = .ok (.aload_n 0, 1) := by decide +kernel
theorem dX1_same_7 : decode cX1_same 7 = .ok (.iload_n 2, 1) := by decide +kernel
theorem dX1_same_8 : decode cX1_same 8 = .ok (.invokevirtual 32, 3) := by decide +kernel
theorem dX1_same_11 : decode cX1_same 11 = .ok (.astore 4, 2) := by decide +kernel
theorem dX1_same_13 : decode cX1_same 13 = .ok (.aload_n 3, 1) := by decide +kernel
theorem dX1_same_14 : decode cX1_same 14 = .ok (.invokestatic 126, 3) := by decide +kernel
theorem dX1_same_17 : decode cX1_same 17 = .ok (.ifCond .eq 13, 3) := by decide +kernel
theorem dX1_same_20 : decode cX1_same 20 = .ok (.aload_n 3, 1) := by decide +kernel
theorem dX1_same_21 : decode cX1_same 21 = .ok (.aload 4, 2) := by decide +kernel
theorem dX1_same_23 : decode cX1_same 23 = .ok (.if_acmp .ne 7, 3) := by decide +kernel
theorem dX1_same_26 : decode cX1_same 26 = .ok (.iconst 1, 1) := by decide +kernel
theorem dX1_same_27 : decode cX1_same 27 = .ok (.goto 4, 3) := by decide +kernel
theorem dX1_same_30 : decode cX1_same 30 = .ok (.iconst 0, 1) := by decide +kernel
theorem dX1_same_31 : decode cX1_same 31 = .ok (.ireturn, 1) := by decide +kernel
theorem dX1_all_0 : decode cX1_all 0 = .ok (.aload_n 0, 1) := by decide +kernel
theorem dX1_all_1 : decode cX1_all 1 = .ok (.iload_n 1, 1) := by decide +kernel
theorem dX1_all_2 : decode cX1_all 2 = .ok (.invokevirtual 32, 3) := by decide +kernel
theorem dX1_all_5 : decode cX1_all 5 = .ok (.astore_n 2, 1) := by decide +kernel
theorem dX1_all_6 : decode cX1_all 6 = .ok (.aload_n 2, 1) := by decide +kernel
theorem dX1_all_7 : decode cX1_all 7 = .ok (.invokestatic 123, 3) := by decide +kernel
theorem dX1_all_10 : decode cX1_all 10 = .ok (.aload_n 2, 1) := by decide +kernel
theorem dX1_all_11 : decode cX1_all 11 = .ok (.invokestatic 129, 3) := by decide +kernel
theorem dX1_all_14 : decode cX1_all 14 = .ok (.ifCond .eq 14, 3) := by decide +kernel
theorem dX1_all_17 : decode cX1_all 17 = .ok (.aload_n 0, 1) := by decide +kernel
theorem dX1_all_18 : decode cX1_all 18 = .ok (.aload_n 2, 1) := by decide +kernel
theorem dX1_all_19 : decode cX1_all 19 = .ok (.getfield 79, 3) := by decide +kernel
theorem dX1_all_22 : decode cX1_all 22 = .ok (.invokevirtual 132, 3) := by decide +kernel
theorem dX1_all_25 : decode cX1_all 25 = .ok (.goto 10, 3) := by decide +kernel
theorem dX1_all_28 : decode cX1_all 28 = .ok (.aload_n 2, 1) := by decide +kernel
theorem dX1_all_29 : decode cX1_all 29 = .ok (.getfield 79, 3) := by decide +kernel
theorem dX1_all_32 : decode cX1_all 32 = .ok (.invokestatic 136, 3) := by decide +kernel
theorem dX1_all_35 : decode cX1_all 35 = .ok (.lreturn, 1) := by decide +kernel
theorem dX1_feed_0 : decode cX1_feed 0 = .ok (.aload_n 0, 1) := by decide +kernel
theorem dX1_feed_1 : decode cX1_feed 1 = .ok (.iload_n 1, 1) := by decide +kernel
theorem dX1_feed_2 : decode cX1_feed 2 = .ok (.invokevirtual 139, 3) := by decide +kernel
theorem dX1_feed_5 : decode cX1_feed 5 = .ok (.aload_n 0, 1) := by decide +kernel
theorem dX1_feed_6 : decode cX1_feed 6 = .ok (.getfield 26, 3) := by decide +kernel
theorem dX1_feed_9 : decode cX1_feed 9 = .ok (.iload_n 1, 1) := by decide +kernel
theorem dX1_feed_10 : decode cX1_feed 10 = .ok (.dup2, 1) := by decide +kernel
theorem dX1_feed_11 : decode cX1_feed 11 = .ok (.iaload, 1) := by decide +kernel
theorem dX1_feed_12 : decode cX1_feed 12 = .ok (.iload_n 2, 1) := by decide +kernel
theorem dX1_feed_13 : decode cX1_feed 13 = .ok (.iadd, 1) := by decide +kernel
theorem dX1_feed_14 : decode cX1_feed 14 = .ok (.iastore, 1) := by decide +kernel
theorem dX1_feed_15 : decode cX1_feed 15 = .ok (.aload_n 0, 1) := by decide +kernel
theorem dX1_feed_16 : decode cX1_feed 16 = .ok (.getfield 26, 3) := by decide +kernel
theorem dX1_feed_19 : decode cX1_feed 19 = .ok (.iload_n 1, 1) := by decide +kernel
theorem dX1_feed_20 : decode cX1_feed 20 = .ok (.iaload, 1) := by decide +kernel
theorem dX1_feed_21 : decode cX1_feed 21 = .ok (.ireturn, 1) := by decide +kernel
theorem dX1_kind_0 : decode cX1_kind 0 = .ok (.aload_n 0, 1) := by decide +kernel
theorem dX1_kind_1 : decode cX1_kind 1 = .ok (.iload_n 1, 1) := by decide +kernel
theorem dX1_kind_2 : decode cX1_kind 2 = .ok (.invokevirtual 139, 3) := by decide +kernel
theorem dX1_kind_5 : decode cX1_kind 5 = .ok (.aload_n 0, 1) := by decide +kernel
theorem dX1_kind_6 : decode cX1_kind 6 = .ok (.getfield 22, 3) := by decide +kernel
theorem dX1_kind_9 : decode cX1_kind 9 = .ok (.iload_n 1, 1) := by decide +kernel
theorem dX1_kind_10 : decode cX1_kind 10 = .ok (.iaload, 1) := by decide +kernel
theorem dX1_kind_11 : decode cX1_kind 11 = .ok (.ireturn, 1) := by decide +kernel
theorem dX1_count_0 : decode cX1_count 0 = .ok (.iload_n 1, 1) := by decide +kernel
theorem dX1_count_1 : decode cX1_count 1 = .ok (.tableswitch 71 0 8 #[51, 56, 61, 71, 71, 71, 71, 71, 66], 51) := by decide +kernel
theorem dX1_count_52 : decode cX1_count 52 = .ok (.aload_n 0, 1) := by decide +kernel
theorem dX1_count_53 : decode cX1_count 53 = .ok (.getfield 45, 3) := by decide +kernel
theorem dX1_count_56 : decode cX1_count 56 = .ok (.ireturn, 1) := by decide +kernel
theorem dX1_count_57 : decode cX1_count 57 = .ok (.aload_n 0, 1) := by decide +kernel
theorem dX1_count_58 : decode cX1_count 58 = .ok (.getfield 96, 3) := by decide +kernel
theorem dX1_count_61 : decode cX1_count 61 = .ok (.ireturn, 1) := by decide +kernel
theorem dX1_count_62 : decode cX1_count 62 = .ok (.aload_n 0, 1) := by decide +kernel
theorem dX1_count_63 : decode cX1_count 63 = .ok (.getfield 142, 3) := by decide +kernel
theorem dX1_count_66 : decode cX1_count 66 = .ok (.ireturn, 1) := by decide +kernel
theorem dX1_count_67 : decode cX1_count 67 = .ok (.aload_n 0, 1) := by decide +kernel
theorem dX1_count_68 : decode cX1_count 68 = .ok (.getfield 145, 3) := by decide +kernel
theorem dX1_count_71 : decode cX1_count 71 = .ok (.ireturn, 1) := by decide +kernel
theorem dX1_count_72 : decode cX1_count 72 = .ok (.aload_n 0, 1) := by decide +kernel
theorem dX1_count_73 : decode cX1_count 73 = .ok (.iload_n 1, 1) := by decide +kernel
theorem dX1_count_74 : decode cX1_count 74 = .ok (.invokevirtual 148, 3) := by decide +kernel
theorem dX1_count_77 : decode cX1_count 77 = .ok (.ireturn, 1) := by decide +kernel
theorem dX1_countOfEnd_0 : decode cX1_countOfEnd 0 = .ok (.iload_n 1, 1) := by decide +kernel
theorem dX1_countOfEnd_1 : decode cX1_countOfEnd 1 = .ok (.iconst 2, 1) := by decide +kernel
theorem dX1_countOfEnd_2 : decode cX1_countOfEnd 2 = .ok (.if_icmp .le 9, 3) := by decide +kernel
theorem dX1_countOfEnd_5 : decode cX1_countOfEnd 5 = .ok (.iload_n 1, 1) := by decide +kernel
theorem dX1_countOfEnd_6 : decode cX1_countOfEnd 6 = .ok (.bipush 8, 2) := by decide +kernel
theorem dX1_countOfEnd_8 : decode cX1_countOfEnd 8 = .ok (.if_icmp .lt 5, 3) := by decide +kernel
theorem dX1_countOfEnd_11 : decode cX1_countOfEnd 11 = .ok (.iconst (-1), 1) := by decide +kernel
theorem dX1_countOfEnd_12 : decode cX1_countOfEnd 12 = .ok (.ireturn, 1) := by decide +kernel
theorem dX1_countOfEnd_13 : decode cX1_countOfEnd 13 = .ok (.aload_n 0, 1) := by decide +kernel
theorem dX1_countOfEnd_14 : decode cX1_countOfEnd 14 = .ok (.getfield 29, 3) := by decide +kernel
theorem dX1_countOfEnd_17 : decode cX1_countOfEnd 17 = .ok (.iload_n 1, 1) := by decide +kernel
theorem dX1_countOfEnd_18 : decode cX1_countOfEnd 18 = .ok (.iconst 2, 1) := by decide +kernel
theorem dX1_countOfEnd_19 : decode cX1_countOfEnd 19 = .ok (.isub, 1) := by decide +kernel
theorem dX1_countOfEnd_20 : decode cX1_countOfEnd 20 = .ok (.iaload, 1) := by decide +kernel
theorem dX1_countOfEnd_21 : decode cX1_countOfEnd 21 = .ok (.ireturn, 1) := by decide +kernel
theorem dX1_requireBox_0 : decode cX1_requireBox 0 = .ok (.iload_n 0, 1) := by decide +kernel
theorem dX1_requireBox_1 : decode cX1_requireBox 1 = .ok (.ifCond .lt 9, 3) := by decide +kernel
theorem dX1_requireBox_4 : decode cX1_requireBox 4 = .ok (.iload_n 0, 1) := by decide +kernel
theorem dX1_requireBox_5 : decode cX1_requireBox 5 = .ok (.bipush 12, 2) := by decide +kernel
theorem dX1_requireBox_7 : decode cX1_requireBox 7 = .ok (.if_icmp .lt 13, 3) := by decide +kernel
theorem dX1_requireBox_10 : decode cX1_requireBox 10 = .ok (.new 152, 3) := by decide +kernel
theorem dX1_requireBox_13 : decode cX1_requireBox 13 = .ok (.dup, 1) := by decide +kernel
theorem dX1_requireBox_14 : decode cX1_requireBox 14 = .ok (.ldc 154, 2) := by decide +kernel
theorem dX1_requireBox_16 : decode cX1_requireBox 16 = .ok (.invokespecial 156, 3) := by decide +kernel
theorem dX1_requireBox_19 : decode cX1_requireBox 19 = .ok (.athrow, 1) := by decide +kernel
theorem dX1_requireBox_20 : decode cX1_requireBox 20 = .ok (.return_, 1) := by decide +kernel
theorem dX1_contentOf_0 : decode cX1_contentOf 0 = .ok (.iload_n 1, 1) := by decide +kernel
theorem dX1_contentOf_1 : decode cX1_contentOf 1 = .ok (.invokestatic 58, 3) := by decide +kernel
theorem dX1_contentOf_4 : decode cX1_contentOf 4 = .ok (.aload_n 0, 1) := by decide +kernel
theorem dX1_contentOf_5 : decode cX1_contentOf 5 = .ok (.getfield 11, 3) := by decide +kernel
theorem dX1_contentOf_8 : decode cX1_contentOf 8 = .ok (.iload_n 1, 1) := by decide +kernel
theorem dX1_contentOf_9 : decode cX1_contentOf 9 = .ok (.aaload, 1) := by decide +kernel
theorem dX1_contentOf_10 : decode cX1_contentOf 10 = .ok (.areturn, 1) := by decide +kernel
theorem dX1_requireRow_0 : decode cX1_requireRow 0 = .ok (.aload_n 0, 1) := by decide +kernel
theorem dX1_requireRow_1 : decode cX1_requireRow 1 = .ok (.invokestatic 126, 3) := by decide +kernel
theorem dX1_requireRow_4 : decode cX1_requireRow 4 = .ok (.ifCond .ne 13, 3) := by decide +kernel
theorem dX1_requireRow_7 : decode cX1_requireRow 7 = .ok (.new 70, 3) := by decide +kernel
theorem dX1_requireRow_10 : decode cX1_requireRow 10 = .ok (.dup, 1) := by decide +kernel
theorem dX1_requireRow_11 : decode cX1_requireRow 11 = .ok (.ldc 157, 2) := by decide +kernel
theorem dX1_requireRow_13 : decode cX1_requireRow 13 = .ok (.invokespecial 74, 3) := by decide +kernel
theorem dX1_requireRow_16 : decode cX1_requireRow 16 = .ok (.athrow, 1) := by decide +kernel
theorem dX1_requireRow_17 : decode cX1_requireRow 17 = .ok (.return_, 1) := by decide +kernel
theorem dX1_requireCombs_0 : decode cX1_requireCombs 0 = .ok (.aload_n 0, 1) := by decide +kernel
theorem dX1_requireCombs_1 : decode cX1_requireCombs 1 = .ok (.invokestatic 129, 3) := by decide +kernel
theorem dX1_requireCombs_4 : decode cX1_requireCombs 4 = .ok (.ifCond .ne 13, 3) := by decide +kernel
theorem dX1_requireCombs_7 : decode cX1_requireCombs 7 = .ok (.new 70, 3) := by decide +kernel
theorem dX1_requireCombs_10 : decode cX1_requireCombs 10 = .ok (.dup, 1) := by decide +kernel
theorem dX1_requireCombs_11 : decode cX1_requireCombs 11 = .ok (.ldc 159, 2) := by decide +kernel
theorem dX1_requireCombs_13 : decode cX1_requireCombs 13 = .ok (.invokespecial 74, 3) := by decide +kernel
theorem dX1_requireCombs_16 : decode cX1_requireCombs 16 = .ok (.athrow, 1) := by decide +kernel
theorem dX1_requireCombs_17 : decode cX1_requireCombs 17 = .ok (.return_, 1) := by decide +kernel
theorem dX1_requirePlace_0 : decode cX1_requirePlace 0 = .ok (.iload_n 1, 1) := by decide +kernel
theorem dX1_requirePlace_1 : decode cX1_requirePlace 1 = .ok (.ifCond .lt 12, 3) := by decide +kernel
theorem dX1_requirePlace_4 : decode cX1_requirePlace 4 = .ok (.iload_n 1, 1) := by decide +kernel
theorem dX1_requirePlace_5 : decode cX1_requirePlace 5 = .ok (.aload_n 0, 1) := by decide +kernel
theorem dX1_requirePlace_6 : decode cX1_requirePlace 6 = .ok (.getfield 79, 3) := by decide +kernel
theorem dX1_requirePlace_9 : decode cX1_requirePlace 9 = .ok (.arraylength, 1) := by decide +kernel
theorem dX1_requirePlace_10 : decode cX1_requirePlace 10 = .ok (.if_icmp .lt 13, 3) := by decide +kernel
theorem dX1_requirePlace_13 : decode cX1_requirePlace 13 = .ok (.new 161, 3) := by decide +kernel
theorem dX1_requirePlace_16 : decode cX1_requirePlace 16 = .ok (.dup, 1) := by decide +kernel
theorem dX1_requirePlace_17 : decode cX1_requirePlace 17 = .ok (.ldc 163, 2) := by decide +kernel
theorem dX1_requirePlace_19 : decode cX1_requirePlace 19 = .ok (.invokespecial 165, 3) := by decide +kernel
theorem dX1_requirePlace_22 : decode cX1_requirePlace 22 = .ok (.athrow, 1) := by decide +kernel
theorem dX1_requirePlace_23 : decode cX1_requirePlace 23 = .ok (.return_, 1) := by decide +kernel
theorem dX1_requireComb_0 : decode cX1_requireComb 0 = .ok (.aload_n 0, 1) := by decide +kernel
theorem dX1_requireComb_1 : decode cX1_requireComb 1 = .ok (.iload_n 1, 1) := by decide +kernel
theorem dX1_requireComb_2 : decode cX1_requireComb 2 = .ok (.i2l, 1) := by decide +kernel
theorem dX1_requireComb_3 : decode cX1_requireComb 3 = .ok (.invokevirtual 166, 3) := by decide +kernel
theorem dX1_requireComb_6 : decode cX1_requireComb 6 = .ok (.ifCond .ne 13, 3) := by decide +kernel
theorem dX1_requireComb_9 : decode cX1_requireComb 9 = .ok (.new 161, 3) := by decide +kernel
theorem dX1_requireComb_12 : decode cX1_requireComb 12 = .ok (.dup, 1) := by decide +kernel
theorem dX1_requireComb_13 : decode cX1_requireComb 13 = .ok (.ldc 170, 2) := by decide +kernel
theorem dX1_requireComb_15 : decode cX1_requireComb 15 = .ok (.invokespecial 165, 3) := by decide +kernel
theorem dX1_requireComb_18 : decode cX1_requireComb 18 = .ok (.athrow, 1) := by decide +kernel
theorem dX1_requireComb_19 : decode cX1_requireComb 19 = .ok (.return_, 1) := by decide +kernel
theorem dX1_isComb_0 : decode cX1_isComb 0 = .ok (.lload_n 1, 1) := by decide +kernel
theorem dX1_isComb_1 : decode cX1_isComb 1 = .ok (.lconst 0, 1) := by decide +kernel
theorem dX1_isComb_2 : decode cX1_isComb 2 = .ok (.lcmp, 1) := by decide +kernel
theorem dX1_isComb_3 : decode cX1_isComb 3 = .ok (.ifCond .lt 17, 3) := by decide +kernel
theorem dX1_isComb_6 : decode cX1_isComb 6 = .ok (.lload_n 1, 1) := by decide +kernel
theorem dX1_isComb_7 : decode cX1_isComb 7 = .ok (.aload_n 0, 1) := by decide +kernel
theorem dX1_isComb_8 : decode cX1_isComb 8 = .ok (.getfield 96, 3) := by decide +kernel
theorem dX1_isComb_11 : decode cX1_isComb 11 = .ok (.i2l, 1) := by decide +kernel
theorem dX1_isComb_12 : decode cX1_isComb 12 = .ok (.lcmp, 1) := by decide +kernel
theorem dX1_isComb_13 : decode cX1_isComb 13 = .ok (.ifCond .ge 7, 3) := by decide +kernel
theorem dX1_isComb_16 : decode cX1_isComb 16 = .ok (.iconst 1, 1) := by decide +kernel
theorem dX1_isComb_17 : decode cX1_isComb 17 = .ok (.goto 4, 3) := by decide +kernel
theorem dX1_isComb_20 : decode cX1_isComb 20 = .ok (.iconst 0, 1) := by decide +kernel
theorem dX1_isComb_21 : decode cX1_isComb 21 = .ok (.ireturn, 1) := by decide +kernel
theorem dX1_isRow_0 : decode cX1_isRow 0 = .ok (.aload_n 0, 1) := by decide +kernel
theorem dX1_isRow_1 : decode cX1_isRow 1 = .ok (.ifnull 16, 3) := by decide +kernel
theorem dX1_isRow_4 : decode cX1_isRow 4 = .ok (.aload_n 0, 1) := by decide +kernel
theorem dX1_isRow_5 : decode cX1_isRow 5 = .ok (.getfield 83, 3) := by decide +kernel
theorem dX1_isRow_8 : decode cX1_isRow 8 = .ok (.bipush 8, 2) := by decide +kernel
theorem dX1_isRow_10 : decode cX1_isRow 10 = .ok (.if_icmp .eq 7, 3) := by decide +kernel
theorem dX1_isRow_13 : decode cX1_isRow 13 = .ok (.iconst 1, 1) := by decide +kernel
theorem dX1_isRow_14 : decode cX1_isRow 14 = .ok (.goto 4, 3) := by decide +kernel
theorem dX1_isRow_17 : decode cX1_isRow 17 = .ok (.iconst 0, 1) := by decide +kernel
theorem dX1_isRow_18 : decode cX1_isRow 18 = .ok (.ireturn, 1) := by decide +kernel
theorem dX1_isNumbers_0 : decode cX1_isNumbers 0 = .ok (.aload_n 0, 1) := by decide +kernel
theorem dX1_isNumbers_1 : decode cX1_isNumbers 1 = .ok (.invokestatic 126, 3) := by decide +kernel
theorem dX1_isNumbers_4 : decode cX1_isNumbers 4 = .ok (.ifCond .eq 15, 3) := by decide +kernel
theorem dX1_isNumbers_7 : decode cX1_isNumbers 7 = .ok (.aload_n 0, 1) := by decide +kernel
theorem dX1_isNumbers_8 : decode cX1_isNumbers 8 = .ok (.getfield 83, 3) := by decide +kernel
theorem dX1_isNumbers_11 : decode cX1_isNumbers 11 = .ok (.iconst 3, 1) := by decide +kernel
theorem dX1_isNumbers_12 : decode cX1_isNumbers 12 = .ok (.if_icmp .gt 7, 3) := by decide +kernel
theorem dX1_isNumbers_15 : decode cX1_isNumbers 15 = .ok (.iconst 1, 1) := by decide +kernel
theorem dX1_isNumbers_16 : decode cX1_isNumbers 16 = .ok (.goto 4, 3) := by decide +kernel
theorem dX1_isNumbers_19 : decode cX1_isNumbers 19 = .ok (.iconst 0, 1) := by decide +kernel
theorem dX1_isNumbers_20 : decode cX1_isNumbers 20 = .ok (.ireturn, 1) := by decide +kernel
theorem dX1_isCombs_0 : decode cX1_isCombs 0 = .ok (.aload_n 0, 1) := by decide +kernel
theorem dX1_isCombs_1 : decode cX1_isCombs 1 = .ok (.invokestatic 126, 3) := by decide +kernel
theorem dX1_isCombs_4 : decode cX1_isCombs 4 = .ok (.ifCond .eq 15, 3) := by decide +kernel
theorem dX1_isCombs_7 : decode cX1_isCombs 7 = .ok (.aload_n 0, 1) := by decide +kernel
theorem dX1_isCombs_8 : decode cX1_isCombs 8 = .ok (.getfield 83, 3) := by decide +kernel
theorem dX1_isCombs_11 : decode cX1_isCombs 11 = .ok (.iconst 4, 1) := by decide +kernel
theorem dX1_isCombs_12 : decode cX1_isCombs 12 = .ok (.if_icmp .lt 7, 3) := by decide +kernel
theorem dX1_isCombs_15 : decode cX1_isCombs 15 = .ok (.iconst 1, 1) := by decide +kernel
theorem dX1_isCombs_16 : decode cX1_isCombs 16 = .ok (.goto 4, 3) := by decide +kernel
theorem dX1_isCombs_19 : decode cX1_isCombs 19 = .ok (.iconst 0, 1) := by decide +kernel
theorem dX1_isCombs_20 : decode cX1_isCombs 20 = .ok (.ireturn, 1) := by decide +kernel
theorem dX1_sortOf_0 : decode cX1_sortOf 0 = .ok (.aload_n 0, 1) := by decide +kernel
theorem dX1_sortOf_1 : decode cX1_sortOf 1 = .ok (.ifnonnull 7, 3) := by decide +kernel
theorem dX1_sortOf_4 : decode cX1_sortOf 4 = .ok (.iconst (-1), 1) := by decide +kernel
theorem dX1_sortOf_5 : decode cX1_sortOf 5 = .ok (.goto 7, 3) := by decide +kernel
theorem dX1_sortOf_8 : decode cX1_sortOf 8 = .ok (.aload_n 0, 1) := by decide +kernel
theorem dX1_sortOf_9 : decode cX1_sortOf 9 = .ok (.getfield 83, 3) := by decide +kernel
theorem dX1_sortOf_12 : decode cX1_sortOf 12 = .ok (.ireturn, 1) := by decide +kernel
theorem dX1_cellsIn_0 : decode cX1_cellsIn 0 = .ok (.aload_n 0, 1) := by decide +kernel
theorem dX1_cellsIn_1 : decode cX1_cellsIn 1 = .ok (.ifnonnull 7, 3) := by decide +kernel
theorem dX1_cellsIn_4 : decode cX1_cellsIn 4 = .ok (.iconst 0, 1) := by decide +kernel
theorem dX1_cellsIn_5 : decode cX1_cellsIn 5 = .ok (.goto 8, 3) := by decide +kernel
theorem dX1_cellsIn_8 : decode cX1_cellsIn 8 = .ok (.aload_n 0, 1) := by decide +kernel
theorem dX1_cellsIn_9 : decode cX1_cellsIn 9 = .ok (.getfield 79, 3) := by decide +kernel
theorem dX1_cellsIn_12 : decode cX1_cellsIn 12 = .ok (.arraylength, 1) := by decide +kernel
theorem dX1_cellsIn_13 : decode cX1_cellsIn 13 = .ok (.ireturn, 1) := by decide +kernel
theorem dX1_newRow_0 : decode cX1_newRow 0 = .ok (.iload_n 1, 1) := by decide +kernel
theorem dX1_newRow_1 : decode cX1_newRow 1 = .ok (.newarray .long, 2) := by decide +kernel
theorem dX1_newRow_3 : decode cX1_newRow 3 = .ok (.astore_n 2, 1) := by decide +kernel
theorem dX1_newRow_4 : decode cX1_newRow 4 = .ok (.iload_n 0, 1) := by decide +kernel
theorem dX1_newRow_5 : decode cX1_newRow 5 = .ok (.iconst 4, 1) := by decide +kernel
theorem dX1_newRow_6 : decode cX1_newRow 6 = .ok (.if_icmp .lt 22, 3) := by decide +kernel
theorem dX1_newRow_9 : decode cX1_newRow 9 = .ok (.iconst 0, 1) := by decide +kernel
theorem dX1_newRow_10 : decode cX1_newRow 10 = .ok (.istore_n 3, 1) := by decide +kernel
theorem dX1_newRow_11 : decode cX1_newRow 11 = .ok (.iload_n 3, 1) := by decide +kernel
theorem dX1_newRow_12 : decode cX1_newRow 12 = .ok (.iload_n 1, 1) := by decide +kernel
theorem dX1_newRow_13 : decode cX1_newRow 13 = .ok (.if_icmp .ge 15, 3) := by decide +kernel
theorem dX1_newRow_16 : decode cX1_newRow 16 = .ok (.aload_n 2, 1) := by decide +kernel
theorem dX1_newRow_17 : decode cX1_newRow 17 = .ok (.iload_n 3, 1) := by decide +kernel
theorem dX1_newRow_18 : decode cX1_newRow 18 = .ok (.ldc2_w 105, 3) := by decide +kernel
theorem dX1_newRow_21 : decode cX1_newRow 21 = .ok (.lastore, 1) := by decide +kernel
theorem dX1_newRow_22 : decode cX1_newRow 22 = .ok (.iinc 3 1, 3) := by decide +kernel
theorem dX1_newRow_25 : decode cX1_newRow 25 = .ok (.goto (-14), 3) := by decide +kernel
theorem dX1_newRow_28 : decode cX1_newRow 28 = .ok (.new 9, 3) := by decide +kernel
theorem dX1_newRow_31 : decode cX1_newRow 31 = .ok (.dup, 1) := by decide +kernel
theorem dX1_newRow_32 : decode cX1_newRow 32 = .ok (.iload_n 0, 1) := by decide +kernel
theorem dX1_newRow_33 : decode cX1_newRow 33 = .ok (.aload_n 2, 1) := by decide +kernel
theorem dX1_newRow_34 : decode cX1_newRow 34 = .ok (.invokespecial 15, 3) := by decide +kernel
theorem dX1_newRow_37 : decode cX1_newRow 37 = .ok (.areturn, 1) := by decide +kernel
theorem dX1_lowestBits_0 : decode cX1_lowestBits 0 = .ok (.iload_n 0, 1) := by decide +kernel
theorem dX1_lowestBits_1 : decode cX1_lowestBits 1 = .ok (.tableswitch 45 0 3 #[31, 45, 35, 40], 31) := by decide +kernel
theorem dX1_lowestBits_32 : decode cX1_lowestBits 32 = .ok (.lload_n 1, 1) := by decide +kernel
theorem dX1_lowestBits_33 : decode cX1_lowestBits 33 = .ok (.l2i, 1) := by decide +kernel
theorem dX1_lowestBits_34 : decode cX1_lowestBits 34 = .ok (.i2l, 1) := by decide +kernel
theorem dX1_lowestBits_35 : decode cX1_lowestBits 35 = .ok (.lreturn, 1) := by decide +kernel
theorem dX1_lowestBits_36 : decode cX1_lowestBits 36 = .ok (.lload_n 1, 1) := by decide +kernel
theorem dX1_lowestBits_37 : decode cX1_lowestBits 37 = .ok (.l2i, 1) := by decide +kernel
theorem dX1_lowestBits_38 : decode cX1_lowestBits 38 = .ok (.i2s, 1) := by decide +kernel
theorem dX1_lowestBits_39 : decode cX1_lowestBits 39 = .ok (.i2l, 1) := by decide +kernel
theorem dX1_lowestBits_40 : decode cX1_lowestBits 40 = .ok (.lreturn, 1) := by decide +kernel
theorem dX1_lowestBits_41 : decode cX1_lowestBits 41 = .ok (.lload_n 1, 1) := by decide +kernel
theorem dX1_lowestBits_42 : decode cX1_lowestBits 42 = .ok (.l2i, 1) := by decide +kernel
theorem dX1_lowestBits_43 : decode cX1_lowestBits 43 = .ok (.i2b, 1) := by decide +kernel
theorem dX1_lowestBits_44 : decode cX1_lowestBits 44 = .ok (.i2l, 1) := by decide +kernel
theorem dX1_lowestBits_45 : decode cX1_lowestBits 45 = .ok (.lreturn, 1) := by decide +kernel
theorem dX1_lowestBits_46 : decode cX1_lowestBits 46 = .ok (.lload_n 1, 1) := by decide +kernel
theorem dX1_lowestBits_47 : decode cX1_lowestBits 47 = .ok (.lreturn, 1) := by decide +kernel
theorem dX1_takes_0 : decode cX1_takes 0 = .ok (.iload_n 0, 1) := by decide +kernel
theorem dX1_takes_1 : decode cX1_takes 1 = .ok (.iconst 4, 1) := by decide +kernel
theorem dX1_takes_2 : decode cX1_takes 2 = .ok (.isub, 1) := by decide +kernel
theorem dX1_takes_3 : decode cX1_takes 3 = .ok (.istore_n 2, 1) := by decide +kernel
theorem dX1_takes_4 : decode cX1_takes 4 = .ok (.iload_n 2, 1) := by decide +kernel
theorem dX1_takes_5 : decode cX1_takes 5 = .ok (.ifCond .eq 18, 3) := by decide +kernel
theorem dX1_takes_8 : decode cX1_takes 8 = .ok (.iload_n 2, 1) := by decide +kernel
theorem dX1_takes_9 : decode cX1_takes 9 = .ok (.iload_n 1, 1) := by decide +kernel
theorem dX1_takes_10 : decode cX1_takes 10 = .ok (.if_icmp .eq 13, 3) := by decide +kernel
theorem dX1_takes_13 : decode cX1_takes 13 = .ok (.iload_n 2, 1) := by decide +kernel
theorem dX1_takes_14 : decode cX1_takes 14 = .ok (.iconst 1, 1) := by decide +kernel
theorem dX1_takes_15 : decode cX1_takes 15 = .ok (.if_icmp .ne 12, 3) := by decide +kernel
theorem dX1_takes_18 : decode cX1_takes 18 = .ok (.iload_n 1, 1) := by decide +kernel
theorem dX1_takes_19 : decode cX1_takes 19 = .ok (.iconst 3, 1) := by decide +kernel
theorem dX1_takes_20 : decode cX1_takes 20 = .ok (.if_icmp .ne 7, 3) := by decide +kernel
theorem dX1_takes_23 : decode cX1_takes 23 = .ok (.iconst 1, 1) := by decide +kernel
theorem dX1_takes_24 : decode cX1_takes 24 = .ok (.goto 4, 3) := by decide +kernel
theorem dX1_takes_27 : decode cX1_takes 27 = .ok (.iconst 0, 1) := by decide +kernel
theorem dX1_takes_28 : decode cX1_takes 28 = .ok (.ireturn, 1) := by decide +kernel
theorem dX1_carry_0 : decode cX1_carry 0 = .ok (.aload_n 1, 1) := by decide +kernel
theorem dX1_carry_1 : decode cX1_carry 1 = .ok (.ifnull 7, 3) := by decide +kernel
theorem dX1_carry_4 : decode cX1_carry 4 = .ok (.aload_n 3, 1) := by decide +kernel
theorem dX1_carry_5 : decode cX1_carry 5 = .ok (.ifnonnull 10, 3) := by decide +kernel
theorem dX1_carry_8 : decode cX1_carry 8 = .ok (.aload_n 0, 1) := by decide +kernel
theorem dX1_carry_9 : decode cX1_carry 9 = .ok (.iconst 1, 1) := by decide +kernel
theorem dX1_carry_10 : decode cX1_carry 10 = .ok (.iconst 0, 1) := by decide +kernel
theorem dX1_carry_11 : decode cX1_carry 11 = .ok (.invokevirtual 172, 3) := by decide +kernel
theorem dX1_carry_14 : decode cX1_carry 14 = .ok (.ireturn, 1) := by decide +kernel
theorem dX1_carry_15 : decode cX1_carry 15 = .ok (.aload_n 1, 1) := by decide +kernel
theorem dX1_carry_16 : decode cX1_carry 16 = .ok (.invokestatic 126, 3) := by decide +kernel
theorem dX1_carry_19 : decode cX1_carry 19 = .ok (.ifCond .eq 10, 3) := by decide +kernel
theorem dX1_carry_22 : decode cX1_carry 22 = .ok (.aload_n 3, 1) := by decide +kernel
theorem dX1_carry_23 : decode cX1_carry 23 = .ok (.invokestatic 126, 3) := by decide +kernel
theorem dX1_carry_26 : decode cX1_carry 26 = .ok (.ifCond .ne 10, 3) := by decide +kernel
theorem dX1_carry_29 : decode cX1_carry 29 = .ok (.aload_n 0, 1) := by decide +kernel
theorem dX1_carry_30 : decode cX1_carry 30 = .ok (.iconst 2, 1) := by decide +kernel
theorem dX1_carry_31 : decode cX1_carry 31 = .ok (.iconst 0, 1) := by decide +kernel
theorem dX1_carry_32 : decode cX1_carry 32 = .ok (.invokevirtual 172, 3) := by decide +kernel
theorem dX1_carry_35 : decode cX1_carry 35 = .ok (.ireturn, 1) := by decide +kernel
theorem dX1_carry_36 : decode cX1_carry 36 = .ok (.aload_n 1, 1) := by decide +kernel
theorem dX1_carry_37 : decode cX1_carry 37 = .ok (.aload_n 3, 1) := by decide +kernel
theorem dX1_carry_38 : decode cX1_carry 38 = .ok (.invokestatic 175, 3) := by decide +kernel
theorem dX1_carry_41 : decode cX1_carry 41 = .ok (.ifCond .eq 10, 3) := by decide +kernel
theorem dX1_carry_44 : decode cX1_carry 44 = .ok (.aload_n 0, 1) := by decide +kernel
theorem dX1_carry_45 : decode cX1_carry 45 = .ok (.iconst 3, 1) := by decide +kernel
theorem dX1_carry_46 : decode cX1_carry 46 = .ok (.iconst 0, 1) := by decide +kernel
theorem dX1_carry_47 : decode cX1_carry 47 = .ok (.invokevirtual 172, 3) := by decide +kernel
theorem dX1_carry_50 : decode cX1_carry 50 = .ok (.ireturn, 1) := by decide +kernel
theorem dX1_carry_51 : decode cX1_carry 51 = .ok (.aload_n 1, 1) := by decide +kernel
theorem dX1_carry_52 : decode cX1_carry 52 = .ok (.iload_n 2, 1) := by decide +kernel
theorem dX1_carry_53 : decode cX1_carry 53 = .ok (.iload 5, 2) := by decide +kernel
theorem dX1_carry_55 : decode cX1_carry 55 = .ok (.invokestatic 179, 3) := by decide +kernel
theorem dX1_carry_58 : decode cX1_carry 58 = .ok (.ifCond .ne 14, 3) := by decide +kernel
theorem dX1_carry_61 : decode cX1_carry 61 = .ok (.aload_n 3, 1) := by decide +kernel
theorem dX1_carry_62 : decode cX1_carry 62 = .ok (.iload 4, 2) := by decide +kernel
theorem dX1_carry_64 : decode cX1_carry 64 = .ok (.iload 5, 2) := by decide +kernel
theorem dX1_carry_66 : decode cX1_carry 66 = .ok (.invokestatic 179, 3) := by decide +kernel
theorem dX1_carry_69 : decode cX1_carry 69 = .ok (.ifCond .eq 10, 3) := by decide +kernel
theorem dX1_carry_72 : decode cX1_carry 72 = .ok (.aload_n 0, 1) := by decide +kernel
theorem dX1_carry_73 : decode cX1_carry 73 = .ok (.iconst 4, 1) := by decide +kernel
theorem dX1_carry_74 : decode cX1_carry 74 = .ok (.iconst 0, 1) := by decide +kernel
theorem dX1_carry_75 : decode cX1_carry 75 = .ok (.invokevirtual 172, 3) := by decide +kernel
theorem dX1_carry_78 : decode cX1_carry 78 = .ok (.ireturn, 1) := by decide +kernel
theorem dX1_carry_79 : decode cX1_carry 79 = .ok (.aload_n 0, 1) := by decide +kernel
theorem dX1_carry_80 : decode cX1_carry 80 = .ok (.aload_n 1, 1) := by decide +kernel
theorem dX1_carry_81 : decode cX1_carry 81 = .ok (.iload_n 2, 1) := by decide +kernel
theorem dX1_carry_82 : decode cX1_carry 82 = .ok (.aload_n 3, 1) := by decide +kernel
theorem dX1_carry_83 : decode cX1_carry 83 = .ok (.iload 5, 2) := by decide +kernel
theorem dX1_carry_85 : decode cX1_carry 85 = .ok (.invokevirtual 183, 3) := by decide +kernel
theorem dX1_carry_88 : decode cX1_carry 88 = .ok (.istore 6, 2) := by decide +kernel
theorem dX1_carry_90 : decode cX1_carry 90 = .ok (.aload_n 1, 1) := by decide +kernel
theorem dX1_carry_91 : decode cX1_carry 91 = .ok (.getfield 79, 3) := by decide +kernel
theorem dX1_carry_94 : decode cX1_carry 94 = .ok (.iload_n 2, 1) := by decide +kernel
theorem dX1_carry_95 : decode cX1_carry 95 = .ok (.aload_n 3, 1) := by decide +kernel
theorem dX1_carry_96 : decode cX1_carry 96 = .ok (.getfield 79, 3) := by decide +kernel
theorem dX1_carry_99 : decode cX1_carry 99 = .ok (.iload 4, 2) := by decide +kernel
theorem dX1_carry_101 : decode cX1_carry 101 = .ok (.iload 6, 2) := by decide +kernel
theorem dX1_carry_103 : decode cX1_carry 103 = .ok (.invokestatic 187, 3) := by decide +kernel
theorem dX1_carry_106 : decode cX1_carry 106 = .ok (.aload_n 0, 1) := by decide +kernel
theorem dX1_carry_107 : decode cX1_carry 107 = .ok (.iload 6, 2) := by decide +kernel
theorem dX1_carry_109 : decode cX1_carry 109 = .ok (.iload 5, 2) := by decide +kernel
theorem dX1_carry_111 : decode cX1_carry 111 = .ok (.if_icmp .ge 7, 3) := by decide +kernel
theorem dX1_carry_114 : decode cX1_carry 114 = .ok (.iconst 5, 1) := by decide +kernel
theorem dX1_carry_115 : decode cX1_carry 115 = .ok (.goto 4, 3) := by decide +kernel
theorem dX1_carry_118 : decode cX1_carry 118 = .ok (.iconst 0, 1) := by decide +kernel
theorem dX1_carry_119 : decode cX1_carry 119 = .ok (.iload 6, 2) := by decide +kernel
theorem dX1_carry_121 : decode cX1_carry 121 = .ok (.invokevirtual 172, 3) := by decide +kernel
theorem dX1_carry_124 : decode cX1_carry 124 = .ok (.ireturn, 1) := by decide +kernel
theorem dX1_areUnlike_0 : decode cX1_areUnlike 0 = .ok (.aload_n 0, 1) := by decide +kernel
theorem dX1_areUnlike_1 : decode cX1_areUnlike 1 = .ok (.getfield 83, 3) := by decide +kernel
theorem dX1_areUnlike_4 : decode cX1_areUnlike 4 = .ok (.aload_n 1, 1) := by decide +kernel
theorem dX1_areUnlike_5 : decode cX1_areUnlike 5 = .ok (.getfield 83, 3) := by decide +kernel
theorem dX1_areUnlike_8 : decode cX1_areUnlike 8 = .ok (.if_icmp .eq 21, 3) := by decide +kernel
theorem dX1_areUnlike_11 : decode cX1_areUnlike 11 = .ok (.aload_n 0, 1) := by decide +kernel
theorem dX1_areUnlike_12 : decode cX1_areUnlike 12 = .ok (.invokestatic 129, 3) := by decide +kernel
theorem dX1_areUnlike_15 : decode cX1_areUnlike 15 = .ok (.ifCond .eq 10, 3) := by decide +kernel
theorem dX1_areUnlike_18 : decode cX1_areUnlike 18 = .ok (.aload_n 1, 1) := by decide +kernel
theorem dX1_areUnlike_19 : decode cX1_areUnlike 19 = .ok (.invokestatic 129, 3) := by decide +kernel
theorem dX1_areUnlike_22 : decode cX1_areUnlike 22 = .ok (.ifCond .ne 7, 3) := by decide +kernel
theorem dX1_areUnlike_25 : decode cX1_areUnlike 25 = .ok (.iconst 1, 1) := by decide +kernel
theorem dX1_areUnlike_26 : decode cX1_areUnlike 26 = .ok (.goto 4, 3) := by decide +kernel
theorem dX1_areUnlike_29 : decode cX1_areUnlike 29 = .ok (.iconst 0, 1) := by decide +kernel
theorem dX1_areUnlike_30 : decode cX1_areUnlike 30 = .ok (.ireturn, 1) := by decide +kernel
theorem dX1_isOutside_0 : decode cX1_isOutside 0 = .ok (.iload_n 1, 1) := by decide +kernel
theorem dX1_isOutside_1 : decode cX1_isOutside 1 = .ok (.ifCond .lt 22, 3) := by decide +kernel
theorem dX1_isOutside_4 : decode cX1_isOutside 4 = .ok (.iload_n 2, 1) := by decide +kernel
theorem dX1_isOutside_5 : decode cX1_isOutside 5 = .ok (.ifCond .lt 18, 3) := by decide +kernel
theorem dX1_isOutside_8 : decode cX1_isOutside 8 = .ok (.iload_n 1, 1) := by decide +kernel
theorem dX1_isOutside_9 : decode cX1_isOutside 9 = .ok (.i2l, 1) := by decide +kernel
theorem dX1_isOutside_10 : decode cX1_isOutside 10 = .ok (.iload_n 2, 1) := by decide +kernel
theorem dX1_isOutside_11 : decode cX1_isOutside 11 = .ok (.i2l, 1) := by decide +kernel
theorem dX1_isOutside_12 : decode cX1_isOutside 12 = .ok (.ladd, 1) := by decide +kernel
theorem dX1_isOutside_13 : decode cX1_isOutside 13 = .ok (.aload_n 0, 1) := by decide +kernel
theorem dX1_isOutside_14 : decode cX1_isOutside 14 = .ok (.getfield 79, 3) := by decide +kernel
theorem dX1_isOutside_17 : decode cX1_isOutside 17 = .ok (.arraylength, 1) := by decide +kernel
theorem dX1_isOutside_18 : decode cX1_isOutside 18 = .ok (.i2l, 1) := by decide +kernel
theorem dX1_isOutside_19 : decode cX1_isOutside 19 = .ok (.lcmp, 1) := by decide +kernel
theorem dX1_isOutside_20 : decode cX1_isOutside 20 = .ok (.ifCond .le 7, 3) := by decide +kernel
theorem dX1_isOutside_23 : decode cX1_isOutside 23 = .ok (.iconst 1, 1) := by decide +kernel
theorem dX1_isOutside_24 : decode cX1_isOutside 24 = .ok (.goto 4, 3) := by decide +kernel
theorem dX1_isOutside_27 : decode cX1_isOutside 27 = .ok (.iconst 0, 1) := by decide +kernel
theorem dX1_isOutside_28 : decode cX1_isOutside 28 = .ok (.ireturn, 1) := by decide +kernel
theorem dX1_howManyFit_0 : decode cX1_howManyFit 0 = .ok (.aload_n 1, 1) := by decide +kernel
theorem dX1_howManyFit_1 : decode cX1_howManyFit 1 = .ok (.invokestatic 66, 3) := by decide +kernel
theorem dX1_howManyFit_4 : decode cX1_howManyFit 4 = .ok (.ifCond .eq 6, 3) := by decide +kernel
theorem dX1_howManyFit_7 : decode cX1_howManyFit 7 = .ok (.iload 4, 2) := by decide +kernel
theorem dX1_howManyFit_9 : decode cX1_howManyFit 9 = .ok (.ireturn, 1) := by decide +kernel
theorem dX1_howManyFit_10 : decode cX1_howManyFit 10 = .ok (.iconst 0, 1) := by decide +kernel
theorem dX1_howManyFit_11 : decode cX1_howManyFit 11 = .ok (.istore 5, 2) := by decide +kernel
theorem dX1_howManyFit_13 : decode cX1_howManyFit 13 = .ok (.iload 5, 2) := by decide +kernel
theorem dX1_howManyFit_15 : decode cX1_howManyFit 15 = .ok (.iload 4, 2) := by decide +kernel
theorem dX1_howManyFit_17 : decode cX1_howManyFit 17 = .ok (.if_icmp .ge 50, 3) := by decide +kernel
theorem dX1_howManyFit_20 : decode cX1_howManyFit 20 = .ok (.aload_n 1, 1) := by decide +kernel
theorem dX1_howManyFit_21 : decode cX1_howManyFit 21 = .ok (.getfield 79, 3) := by decide +kernel
theorem dX1_howManyFit_24 : decode cX1_howManyFit 24 = .ok (.iload_n 2, 1) := by decide +kernel
theorem dX1_howManyFit_25 : decode cX1_howManyFit 25 = .ok (.iload 5, 2) := by decide +kernel
theorem dX1_howManyFit_27 : decode cX1_howManyFit 27 = .ok (.iadd, 1) := by decide +kernel
theorem dX1_howManyFit_28 : decode cX1_howManyFit 28 = .ok (.laload, 1) := by decide +kernel
theorem dX1_howManyFit_29 : decode cX1_howManyFit 29 = .ok (.lstore 6, 2) := by decide +kernel
theorem dX1_howManyFit_31 : decode cX1_howManyFit 31 = .ok (.aload_n 0, 1) := by decide +kernel
theorem dX1_howManyFit_32 : decode cX1_howManyFit 32 = .ok (.lload 6, 2) := by decide +kernel
theorem dX1_howManyFit_34 : decode cX1_howManyFit 34 = .ok (.invokevirtual 166, 3) := by decide +kernel
theorem dX1_howManyFit_37 : decode cX1_howManyFit 37 = .ok (.ifCond .eq 24, 3) := by decide +kernel
theorem dX1_howManyFit_40 : decode cX1_howManyFit 40 = .ok (.aload_n 3, 1) := by decide +kernel
theorem dX1_howManyFit_41 : decode cX1_howManyFit 41 = .ok (.getfield 83, 3) := by decide +kernel
theorem dX1_howManyFit_44 : decode cX1_howManyFit 44 = .ok (.aload_n 0, 1) := by decide +kernel
theorem dX1_howManyFit_45 : decode cX1_howManyFit 45 = .ok (.getfield 22, 3) := by decide +kernel
theorem dX1_howManyFit_48 : decode cX1_howManyFit 48 = .ok (.lload 6, 2) := by decide +kernel
theorem dX1_howManyFit_50 : decode cX1_howManyFit 50 = .ok (.l2i, 1) := by decide +kernel
theorem dX1_howManyFit_51 : decode cX1_howManyFit 51 = .ok (.iaload, 1) := by decide +kernel
theorem dX1_howManyFit_52 : decode cX1_howManyFit 52 = .ok (.invokestatic 101, 3) := by decide +kernel
theorem dX1_howManyFit_55 : decode cX1_howManyFit 55 = .ok (.ifCond .ne 6, 3) := by decide +kernel
theorem dX1_howManyFit_58 : decode cX1_howManyFit 58 = .ok (.iload 5, 2) := by decide +kernel
theorem dX1_howManyFit_60 : decode cX1_howManyFit 60 = .ok (.ireturn, 1) := by decide +kernel
theorem dX1_howManyFit_61 : decode cX1_howManyFit 61 = .ok (.iinc 5 1, 3) := by decide +kernel
theorem dX1_howManyFit_64 : decode cX1_howManyFit 64 = .ok (.goto (-51), 3) := by decide +kernel
theorem dX1_howManyFit_67 : decode cX1_howManyFit 67 = .ok (.iload 4, 2) := by decide +kernel
theorem dX1_howManyFit_69 : decode cX1_howManyFit 69 = .ok (.ireturn, 1) := by decide +kernel
theorem dX1_ended_0 : decode cX1_ended 0 = .ok (.aload_n 0, 1) := by decide +kernel
theorem dX1_ended_1 : decode cX1_ended 1 = .ok (.dup, 1) := by decide +kernel
theorem dX1_ended_2 : decode cX1_ended 2 = .ok (.getfield 142, 3) := by decide +kernel
theorem dX1_ended_5 : decode cX1_ended 5 = .ok (.iconst 1, 1) := by decide +kernel
theorem dX1_ended_6 : decode cX1_ended 6 = .ok (.iadd, 1) := by decide +kernel
theorem dX1_ended_7 : decode cX1_ended 7 = .ok (.putfield 142, 3) := by decide +kernel
theorem dX1_ended_10 : decode cX1_ended 10 = .ok (.aload_n 0, 1) := by decide +kernel
theorem dX1_ended_11 : decode cX1_ended 11 = .ok (.getfield 29, 3) := by decide +kernel
theorem dX1_ended_14 : decode cX1_ended 14 = .ok (.iload_n 1, 1) := by decide +kernel
theorem dX1_ended_15 : decode cX1_ended 15 = .ok (.dup2, 1) := by decide +kernel
theorem dX1_ended_16 : decode cX1_ended 16 = .ok (.iaload, 1) := by decide +kernel
theorem dX1_ended_17 : decode cX1_ended 17 = .ok (.iconst 1, 1) := by decide +kernel
theorem dX1_ended_18 : decode cX1_ended 18 = .ok (.iadd, 1) := by decide +kernel
theorem dX1_ended_19 : decode cX1_ended 19 = .ok (.iastore, 1) := by decide +kernel
theorem dX1_ended_20 : decode cX1_ended 20 = .ok (.aload_n 0, 1) := by decide +kernel
theorem dX1_ended_21 : decode cX1_ended 21 = .ok (.iload_n 2, 1) := by decide +kernel
theorem dX1_ended_22 : decode cX1_ended 22 = .ok (.putfield 120, 3) := by decide +kernel
theorem dX1_ended_25 : decode cX1_ended 25 = .ok (.aload_n 0, 1) := by decide +kernel
theorem dX1_ended_26 : decode cX1_ended 26 = .ok (.dup, 1) := by decide +kernel
theorem dX1_ended_27 : decode cX1_ended 27 = .ok (.getfield 145, 3) := by decide +kernel
theorem dX1_ended_30 : decode cX1_ended 30 = .ok (.iload_n 2, 1) := by decide +kernel
theorem dX1_ended_31 : decode cX1_ended 31 = .ok (.iadd, 1) := by decide +kernel
theorem dX1_ended_32 : decode cX1_ended 32 = .ok (.putfield 145, 3) := by decide +kernel
theorem dX1_ended_35 : decode cX1_ended 35 = .ok (.iload_n 1, 1) := by decide +kernel
theorem dX1_ended_36 : decode cX1_ended 36 = .ok (.ireturn, 1) := by decide +kernel
theorem dX1_sumOfNumbers_0 : decode cX1_sumOfNumbers 0 = .ok (.lconst 0, 1) := by decide +kernel
theorem dX1_sumOfNumbers_1 : decode cX1_sumOfNumbers 1 = .ok (.lstore_n 1, 1) := by decide +kernel
theorem dX1_sumOfNumbers_2 : decode cX1_sumOfNumbers 2 = .ok (.iconst 0, 1) := by decide +kernel
theorem dX1_sumOfNumbers_3 : decode cX1_sumOfNumbers 3 = .ok (.istore_n 3, 1) := by decide +kernel
theorem dX1_sumOfNumbers_4 : decode cX1_sumOfNumbers 4 = .ok (.iload_n 3, 1) := by decide +kernel
theorem dX1_sumOfNumbers_5 : decode cX1_sumOfNumbers 5 = .ok (.aload_n 0, 1) := by decide +kernel
theorem dX1_sumOfNumbers_6 : decode cX1_sumOfNumbers 6 = .ok (.arraylength, 1) := by decide +kernel
theorem dX1_sumOfNumbers_7 : decode cX1_sumOfNumbers 7 = .ok (.if_icmp .ge 15, 3) := by decide +kernel
theorem dX1_sumOfNumbers_10 : decode cX1_sumOfNumbers 10 = .ok (.lload_n 1, 1) := by decide +kernel
theorem dX1_sumOfNumbers_11 : decode cX1_sumOfNumbers 11 = .ok (.aload_n 0, 1) := by decide +kernel
theorem dX1_sumOfNumbers_12 : decode cX1_sumOfNumbers 12 = .ok (.iload_n 3, 1) := by decide +kernel
theorem dX1_sumOfNumbers_13 : decode cX1_sumOfNumbers 13 = .ok (.laload, 1) := by decide +kernel
theorem dX1_sumOfNumbers_14 : decode cX1_sumOfNumbers 14 = .ok (.ladd, 1) := by decide +kernel
theorem dX1_sumOfNumbers_15 : decode cX1_sumOfNumbers 15 = .ok (.lstore_n 1, 1) := by decide +kernel
theorem dX1_sumOfNumbers_16 : decode cX1_sumOfNumbers 16 = .ok (.iinc 3 1, 3) := by decide +kernel
theorem dX1_sumOfNumbers_19 : decode cX1_sumOfNumbers 19 = .ok (.goto (-15), 3) := by decide +kernel
theorem dX1_sumOfNumbers_22 : decode cX1_sumOfNumbers 22 = .ok (.lload_n 1, 1) := by decide +kernel
theorem dX1_sumOfNumbers_23 : decode cX1_sumOfNumbers 23 = .ok (.lreturn, 1) := by decide +kernel
theorem dX1_sumOfWeights_0 : decode cX1_sumOfWeights 0 = .ok (.lconst 0, 1) := by decide +kernel
theorem dX1_sumOfWeights_1 : decode cX1_sumOfWeights 1 = .ok (.lstore_n 2, 1) := by decide +kernel
theorem dX1_sumOfWeights_2 : decode cX1_sumOfWeights 2 = .ok (.iconst 0, 1) := by decide +kernel
theorem dX1_sumOfWeights_3 : decode cX1_sumOfWeights 3 = .ok (.istore 4, 2) := by decide +kernel
theorem dX1_sumOfWeights_5 : decode cX1_sumOfWeights 5 = .ok (.iload 4, 2) := by decide +kernel
theorem dX1_sumOfWeights_7 : decode cX1_sumOfWeights 7 = .ok (.aload_n 1, 1) := by decide +kernel
theorem dX1_sumOfWeights_8 : decode cX1_sumOfWeights 8 = .ok (.arraylength, 1) := by decide +kernel
theorem dX1_sumOfWeights_9 : decode cX1_sumOfWeights 9 = .ok (.if_icmp .ge 34, 3) := by decide +kernel
theorem dX1_sumOfWeights_12 : decode cX1_sumOfWeights 12 = .ok (.aload_n 0, 1) := by decide +kernel
theorem dX1_sumOfWeights_13 : decode cX1_sumOfWeights 13 = .ok (.aload_n 1, 1) := by decide +kernel
theorem dX1_sumOfWeights_14 : decode cX1_sumOfWeights 14 = .ok (.iload 4, 2) := by decide +kernel
theorem dX1_sumOfWeights_16 : decode cX1_sumOfWeights 16 = .ok (.laload, 1) := by decide +kernel
theorem dX1_sumOfWeights_17 : decode cX1_sumOfWeights 17 = .ok (.invokevirtual 166, 3) := by decide +kernel
theorem dX1_sumOfWeights_20 : decode cX1_sumOfWeights 20 = .ok (.ifCond .eq 17, 3) := by decide +kernel
theorem dX1_sumOfWeights_23 : decode cX1_sumOfWeights 23 = .ok (.lload_n 2, 1) := by decide +kernel
theorem dX1_sumOfWeights_24 : decode cX1_sumOfWeights 24 = .ok (.aload_n 0, 1) := by decide +kernel
theorem dX1_sumOfWeights_25 : decode cX1_sumOfWeights 25 = .ok (.getfield 26, 3) := by decide +kernel
theorem dX1_sumOfWeights_28 : decode cX1_sumOfWeights 28 = .ok (.aload_n 1, 1) := by decide +kernel
theorem dX1_sumOfWeights_29 : decode cX1_sumOfWeights 29 = .ok (.iload 4, 2) := by decide +kernel
theorem dX1_sumOfWeights_31 : decode cX1_sumOfWeights 31 = .ok (.laload, 1) := by decide +kernel
theorem dX1_sumOfWeights_32 : decode cX1_sumOfWeights 32 = .ok (.l2i, 1) := by decide +kernel
theorem dX1_sumOfWeights_33 : decode cX1_sumOfWeights 33 = .ok (.iaload, 1) := by decide +kernel
theorem dX1_sumOfWeights_34 : decode cX1_sumOfWeights 34 = .ok (.i2l, 1) := by decide +kernel
theorem dX1_sumOfWeights_35 : decode cX1_sumOfWeights 35 = .ok (.ladd, 1) := by decide +kernel
theorem dX1_sumOfWeights_36 : decode cX1_sumOfWeights 36 = .ok (.lstore_n 2, 1) := by decide +kernel
theorem dX1_sumOfWeights_37 : decode cX1_sumOfWeights 37 = .ok (.iinc 4 1, 3) := by decide +kernel
theorem dX1_sumOfWeights_40 : decode cX1_sumOfWeights 40 = .ok (.goto (-35), 3) := by decide +kernel
theorem dX1_sumOfWeights_43 : decode cX1_sumOfWeights 43 = .ok (.lload_n 2, 1) := by decide +kernel
theorem dX1_sumOfWeights_44 : decode cX1_sumOfWeights 44 = .ok (.lreturn, 1) := by decide +kernel
theorem dJ9_min_7cf53_0 : decode cJ9_min_7cf53 0 = .ok (.iload_n 0, 1) := by decide +kernel
theorem dJ9_min_7cf53_1 : decode cJ9_min_7cf53 1 = .ok (.iload_n 1, 1) := by decide +kernel
theorem dJ9_min_7cf53_2 : decode cJ9_min_7cf53 2 = .ok (.if_icmp .gt 7, 3) := by decide +kernel
theorem dJ9_min_7cf53_5 : decode cJ9_min_7cf53 5 = .ok (.iload_n 0, 1) := by decide +kernel
theorem dJ9_min_7cf53_6 : decode cJ9_min_7cf53 6 = .ok (.goto 4, 3) := by decide +kernel
theorem dJ9_min_7cf53_9 : decode cJ9_min_7cf53 9 = .ok (.iload_n 1, 1) := by decide +kernel
theorem dJ9_min_7cf53_10 : decode cJ9_min_7cf53 10 = .ok (.ireturn, 1) := by decide +kernel
end
section
/-! THE STATE that class and reference are both tied to: what the boxes hold (none: nothing; some 0: the lid; some (r+1): row r), how many rows, their sorts, sizes and contents (row r at r+1; 0 is the lid), how many combs, kinds, weights; moves, moves by end, latest moved, places moved. -/
abbrev hy_S : Type := (Nat → Option Nat) × Nat × (Nat → Int32) × (Nat → Nat) × (Nat → Nat → Int64) × Nat × (Nat → Int32) × (Nat → Int32) × Int32 × (Nat → Int32) × Int32 × Int32
def hy_bx (S : hy_S) : Nat → Option Nat := S.1
def hy_nr (S : hy_S) : Nat := S.2.1
def hy_so (S : hy_S) : Nat → Int32 := S.2.2.1
def hy_le (S : hy_S) : Nat → Nat := S.2.2.2.1
def hy_va (S : hy_S) : Nat → Nat → Int64 := S.2.2.2.2.1
def hy_nc (S : hy_S) : Nat := S.2.2.2.2.2.1
def hy_ki (S : hy_S) : Nat → Int32 := S.2.2.2.2.2.2.1
def hy_we (S : hy_S) : Nat → Int32 := S.2.2.2.2.2.2.2.1
def hy_mo (S : hy_S) : Int32 := S.2.2.2.2.2.2.2.2.1
def hy_en (S : hy_S) : Nat → Int32 := S.2.2.2.2.2.2.2.2.2.1
def hy_lm (S : hy_S) : Int32 := S.2.2.2.2.2.2.2.2.2.2.1
def hy_pm (S : hy_S) : Int32 := S.2.2.2.2.2.2.2.2.2.2.2
/-- what holds of every state that a run comes to -/
def hy_wf (S : hy_S) : Prop := hy_nr S ≤ 300 ∧ hy_nc S ≤ 60 ∧ (∀ i r, hy_bx S i = some r → r ≤ hy_nr S) ∧ hy_so S 0 = 8 ∧ (∀ r, 0 < r → r ≤ hy_nr S → ∃ j : Nat, j < 8 ∧ hy_so S r = nI j) ∧ (∀ r, hy_le S r ≤ 24) ∧ hy_le S 0 = 0 ∧ (∀ r, hy_nr S < r → hy_le S r = 0 ∧ hy_so S r = 0) ∧ (∀ r k, hy_le S r ≤ k → hy_va S r k = 0) ∧
  (∀ r, r ≤ hy_nr S → 4 ≤ hy_so S r → ∀ k, k < hy_le S r → hy_va S r k = -1 ∨ ∃ c : Nat, c < hy_nc S ∧ hy_va S r k = lN c) ∧ (∀ c, hy_nc S ≤ c → hy_we S c = 0) ∧ (∀ c, c < hy_nc S → ∃ j : Nat, j < 4 ∧ hy_ki S c = nI j)
/-- the cells of the class: its object h, the boxes b, kinds k, weights w, ends e; then every Content (ad), then every array of places (ca) -/
def hy_W (cI cJ cB : ClassId) (h b k w e : Nat) (ad ca : Nat → Nat) (S : hy_S) : va_W :=
  (h, .inr (1, [.ref b, .ref (ad 0), .ref k, .ref w, .ref e, .int (nI (hy_nr S)), .int (nI (hy_nc S)), .int (hy_mo S), .int (hy_lm S), .int (hy_pm S)])) ::
  (b, .inl (cB, 12, .inr (.inr (.inr (.inr (fun i => (hy_bx S i).map ad)))))) ::
  (k, .inl (cI, 60, .inl (hy_ki S))) ::
  (w, .inl (cI, 60, .inl (hy_we S))) ::
  (e, .inl (cI, 6, .inl (hy_en S))) ::
  ((List.range (hy_nr S + 1)).map (fun r => (ad r, .inr (0, [.int (hy_so S r), .ref (ca r)]))) ++ (List.range (hy_nr S + 1)).map (fun r => (ca r, .inl (cJ, hy_le S r, .inr (.inl (hy_va S r))))))
abbrev hy_T (cI cJ cB : ClassId) : List (ClassId × FieldType) := [(cI, .int), (cJ, .long), (cB, .object "HiveYard$Content")]
theorem hy_rng {α : Type} (f : Nat → α) {n r : Nat} (h : r < n) : ((List.range n).map f)[r]? = some (f r) := by
  rw [List.getElem?_map, List.getElem?_range h]; rfl
theorem hy_W_row {cI cJ cB : ClassId} {h b k w e : Nat} {ad ca : Nat → Nat} {S : hy_S} {r : Nat} (hr : r ≤ hy_nr S) : (hy_W cI cJ cB h b k w e ad ca S)[5 + r]? = some (ad r, .inr (0, [.int (hy_so S r), .ref (ca r)])) := by
  have h1 : (hy_W cI cJ cB h b k w e ad ca S)[5 + r]? = ((List.range (hy_nr S + 1)).map (fun r => ((ad r, .inr (0, [.int (hy_so S r), .ref (ca r)])) : Nat × va_E)) ++ (List.range (hy_nr S + 1)).map (fun r => ((ca r, .inl (cJ, hy_le S r, .inr (.inl (hy_va S r)))) : Nat × va_E)))[r]? := by
    rw [Nat.add_comm]; rfl
  rw [h1, List.getElem?_append_left (by rw [List.length_map, List.length_range]; omega)]
  exact hy_rng _ (by omega)
theorem hy_W_arr {cI cJ cB : ClassId} {h b k w e : Nat} {ad ca : Nat → Nat} {S : hy_S} {r : Nat} (hr : r ≤ hy_nr S) : (hy_W cI cJ cB h b k w e ad ca S)[5 + (hy_nr S + 1 + r)]? = some (ca r, .inl (cJ, hy_le S r, .inr (.inl (hy_va S r)))) := by
  have h1 : (hy_W cI cJ cB h b k w e ad ca S)[5 + (hy_nr S + 1 + r)]? = ((List.range (hy_nr S + 1)).map (fun r => ((ad r, .inr (0, [.int (hy_so S r), .ref (ca r)])) : Nat × va_E)) ++ (List.range (hy_nr S + 1)).map (fun r => ((ca r, .inl (cJ, hy_le S r, .inr (.inl (hy_va S r)))) : Nat × va_E)))[hy_nr S + 1 + r]? := by
    rw [Nat.add_comm]; rfl
  rw [h1, List.getElem?_append_right (by rw [List.length_map, List.length_range]; omega), List.length_map, List.length_range, show hy_nr S + 1 + r - (hy_nr S + 1) = r by omega]
  exact hy_rng _ (by omega)
/-- worlds by membership -/
theorem hy_P_iff {D : va_G} {cl : List vw_C} {ws : va_W} {H : Heap} : va_P D cl ws H ↔ ∀ q ∈ ws, va_at D cl q H :=
  ⟨fun h q hq => by obtain ⟨i, hi⟩ := List.getElem?_of_mem hq; exact h i q hi, fun h k q hk => h q (List.mem_of_getElem? hk)⟩
theorem hy_D_iff {A : Nat → Prop} {ws : va_W} : va_D A ws ↔ (ws.map (fun q => q.1)).Nodup ∧ ∀ q ∈ ws, A q.1 := by
  constructor
  · intro h
    refine ⟨?_, fun q hq => by obtain ⟨i, hi⟩ := List.getElem?_of_mem hq; exact h.2 i q hi⟩
    rw [List.Nodup, List.pairwise_iff_getElem]
    intro i j hi hj hij he
    rw [List.length_map] at hi hj
    rw [List.getElem_map, List.getElem_map] at he
    have := h.1 i j _ _ (List.getElem?_eq_getElem hi) (List.getElem?_eq_getElem hj) he
    omega
  · intro ⟨h1, h2⟩
    refine ⟨fun i j p q hi hj he => ?_, fun k q hk => h2 q (List.mem_of_getElem? hk)⟩
    have hi' : (ws.map (fun q => q.1))[i]? = some p.1 := by rw [List.getElem?_map, hi]; rfl
    have hj' : (ws.map (fun q => q.1))[j]? = some p.1 := by rw [List.getElem?_map, hj, he]; rfl
    have li := (List.getElem?_eq_some_iff.mp hi').1
    have lj := (List.getElem?_eq_some_iff.mp hj').1
    exact (List.getElem_inj (h₀ := li) (h₁ := lj) h1).mp (by rw [(List.getElem?_eq_some_iff.mp hi').2, (List.getElem?_eq_some_iff.mp hj').2])
theorem hy_P_perm {D : va_G} {cl : List vw_C} {ws ws' : va_W} {H : Heap} (hp : ws.Perm ws') (h : va_P D cl ws H) : va_P D cl ws' H := hy_P_iff.mpr (fun q hq => hy_P_iff.mp h q (hp.mem_iff.mpr hq))
theorem hy_D_perm {A : Nat → Prop} {ws ws' : va_W} (hp : ws.Perm ws') (h : va_D A ws) : va_D A ws' := by
  obtain ⟨h1, h2⟩ := hy_D_iff.mp h
  exact hy_D_iff.mpr ⟨(hp.map _).nodup_iff.mp h1, fun q hq => h2 q (hp.mem_iff.mpr hq)⟩
/-- behind a call that had the first part of the world -/
theorem hy_joinL {A0 : Nat → Prop} {D : va_G} {cl : List vw_C} {X X' Y : va_W} {H H1 : Heap} (hP : va_P D cl (X ++ Y) H) (hD : va_D A0 (X ++ Y)) (hk : ∀ q : Nat, q < H.size → ¬ va_A X H.size q → H1[q]? = H[q]?) (hF : ∀ q, va_A X H.size q → A0 q) (hP1 : va_P D cl X' H1) (hD1 : va_D (va_A X H.size) X') : va_P D cl (X' ++ Y) H1 ∧ va_D A0 (X' ++ Y) := by
  have apart : ∀ q ∈ Y, q.1 < H.size ∧ ¬ va_A X H.size q.1 := by
    intro q hq
    obtain ⟨i, hi⟩ := List.getElem?_of_mem hq
    have hi2 : (X ++ Y)[X.length + i]? = some q := by rw [List.getElem?_append_right (by omega), Nat.add_sub_cancel_left]; exact hi
    have hl := (hP _ q hi2).lt
    refine ⟨hl, fun h => ?_⟩
    rcases h with ⟨k, e, h⟩ | h
    · have hlk := (List.getElem?_eq_some_iff.mp h).1
      have h3 : (X ++ Y)[k]? = some (q.1, e) := by rw [List.getElem?_append_left hlk]; exact h
      have := hD.1 _ _ _ _ hi2 h3 rfl
      omega
    · omega
  refine ⟨va_P.app hP1 (fun k q hq => ?_), va_D.app (hD1.weaken (fun _ q _ h => hF q.1 h)) ?_ (fun i j x y hx hy hxy => ?_)⟩
  · have hm := List.mem_of_getElem? hq
    obtain ⟨g1, g2⟩ := apart q hm
    exact (hy_P_iff.mp hP q (List.mem_append_right _ hm)).kept (hk q.1 g1 g2)
  · obtain ⟨h1, h2⟩ := hy_D_iff.mp hD
    rw [List.map_append] at h1
    exact hy_D_iff.mpr ⟨(List.nodup_append.mp h1).2.1, fun q hq => h2 q (List.mem_append_right _ hq)⟩
  · exact (apart y (List.mem_of_getElem? hy)).2 (by rw [← hxy]; exact hD1.2 i x hx)
theorem hy_swap {D : va_G} {cl : List vw_C} {A : Nat → Prop} {X Y : va_W} {H : Heap} (hP : va_P D cl (X ++ Y) H) (hD : va_D A (X ++ Y)) : va_P D cl (Y ++ X) H ∧ va_D A (Y ++ X) := ⟨hy_P_perm List.perm_append_comm hP, hy_D_perm List.perm_append_comm hD⟩
theorem hy_left {D : va_G} {cl : List vw_C} {A : Nat → Prop} {X Y : va_W} {H : Heap} (hP : va_P D cl (X ++ Y) H) (hD : va_D A (X ++ Y)) : va_P D cl X H ∧ va_D A X := by
  refine ⟨hy_P_iff.mpr (fun q hq => hy_P_iff.mp hP q (List.mem_append_left _ hq)), ?_⟩
  obtain ⟨h1, h2⟩ := hy_D_iff.mp hD
  rw [List.map_append] at h1
  exact hy_D_iff.mpr ⟨(List.nodup_append.mp h1).1, fun q hq => h2 q (List.mem_append_left _ hq)⟩
/-- the places of row r become f -/
def hy_uva (S : hy_S) (r : Nat) (f : Nat → Int64) : hy_S := (S.1, S.2.1, S.2.2.1, S.2.2.2.1, va_up (hy_va S) r f, S.2.2.2.2.2)
theorem hy_W_setArr {cI cJ cB : ClassId} {h b k w e : Nat} {ad ca : Nat → Nat} {S : hy_S} {r : Nat} (hr : r ≤ hy_nr S) (f : Nat → Int64) : (hy_W cI cJ cB h b k w e ad ca S).set (5 + (hy_nr S + 1 + r)) (ca r, .inl (cJ, hy_le S r, .inr (.inl f))) = hy_W cI cJ cB h b k w e ad ca (hy_uva S r f) := by
  have e1 : (((List.range (hy_nr S + 1)).map (fun r => ((ad r, .inr (0, [.int (hy_so S r), .ref (ca r)])) : Nat × va_E)) ++ (List.range (hy_nr S + 1)).map (fun r => ((ca r, .inl (cJ, hy_le S r, .inr (.inl (hy_va S r)))) : Nat × va_E)))).set (hy_nr S + 1 + r) (ca r, .inl (cJ, hy_le S r, .inr (.inl f))) = ((List.range (hy_nr S + 1)).map (fun r => ((ad r, .inr (0, [.int (hy_so S r), .ref (ca r)])) : Nat × va_E)) ++ (List.range (hy_nr S + 1)).map (fun r' => ((ca r', .inl (cJ, hy_le S r', .inr (.inl (va_up (hy_va S) r f r')))) : Nat × va_E))) := by
    rw [List.set_append_right _ _ (by rw [List.length_map, List.length_range]; omega), List.length_map, List.length_range, show hy_nr S + 1 + r - (hy_nr S + 1) = r by omega]
    congr 1
    refine List.ext_getElem? (fun j => ?_)
    by_cases hj : j = r
    · subst hj
      rw [List.getElem?_set_self (by rw [List.length_map, List.length_range]; omega), hy_rng _ (by omega), va_up_self]
    · rw [List.getElem?_set_ne (fun q => hj q.symm), List.getElem?_map, List.getElem?_map]
      cases hq : (List.range (hy_nr S + 1))[j]? with
      | none => rfl
      | some i =>
        have : i = j := by
          obtain ⟨hl, hv⟩ := List.getElem?_eq_some_iff.mp hq
          rw [List.getElem_range] at hv
          exact hv.symm
        subst this
        show some _ = some _
        dsimp only
        rw [va_up_ne _ _ hj]
  rw [Nat.add_comm]
  show _ :: _ :: _ :: _ :: _ :: _ = _ :: _ :: _ :: _ :: _ :: _
  exact congrArg (fun z => _ :: _ :: _ :: _ :: _ :: z) e1
end
section
/-! EXCEPTIONS of the class: what a throw needs of the start, one row for 'throw new E("text")', one row for a call that may throw where the throw goes on to the caller. -/
abbrev hy_xs : List String := ["java/lang/RuntimeException", "java/lang/Exception"]
def hy_Es : List String := ["java/lang/IndexOutOfBoundsException", "java/lang/IllegalArgumentException", "java/lang/UnsupportedOperationException", "java/lang/IllegalStateException", "java/util/NoSuchElementException"]
def hy_strs : List (Nat × String) := [(38, "no such sort"), (43, "a row has 0 to 24 places"), (51, "300 rows were made"), (72, "the box holds no row of numbers"), (90, "no such kind"), (99, "60 combs were made"), (154, "no such box"), (157, "the box holds no row"), (159, "the box holds no row of combs"), (163, "no such place"), (170, "no such comb")]
def hy_E (U : State) : Prop := (∀ E ∈ hy_Es, va_Nw (.castable E E) U) ∧ (∀ Y ∈ (["java/lang/RuntimeException", "java/lang/Exception", "java/lang/Throwable"] : List String), va_Nw (.declares ⟨Y, "<init>", "(Ljava/lang/String;)V"⟩) U) ∧ ∀ q ∈ hy_strs, ∃ sa : Nat, vk_R RX1 q.1 q.2 sa U
theorem hy_E.warm {s U : State} (hW : s.WarmedH U.vm) (h : hy_E s) : hy_E U :=
  ⟨fun E hE => va_Nw.warmC hW (h.1 E hE), fun Y hY => va_Nw.warmD hW (h.2.1 Y hY), fun q hq => by obtain ⟨sa, h9⟩ := h.2.2 q hq; exact ⟨sa, vk_R.warm hW h9⟩⟩
theorem hy_E.same {u U : State} (hv : U.vm = u.vm) (h : hy_E u) : hy_E U :=
  ⟨fun E hE => va_Nw.same rfl hv.symm (h.1 E hE), fun Y hY => va_Nw.same rfl hv.symm (h.2.1 Y hY), fun q hq => by obtain ⟨sa, h9⟩ := h.2.2 q hq; exact ⟨sa, vk_R.same hv h9⟩⟩
def hy_Z (A : Nat → Prop) (U : State) (H : Heap) : Prop := vx_Zq Bundle.tN "UNASSIGNED_STACK" Bundle.steD A U H ∧ vx_Zq Bundle.tN "SUPPRESSED_SENTINEL" Bundle.listD A U H
theorem hy_Z.at {s U : State} {H : Heap} {locs : List Loc} {A : Nat → Prop} (h : hy_Z A s s.heap) (hS : va_S A s.heap H locs) (hA : ∀ q : Nat, s.heap.size ≤ q → A q) (hU : U.heap = H) (hW : s.WarmedH U.vm) : hy_Z (fun q => U.heap.size ≤ q) U U.heap := by
  have hn : ∀ q : Nat, U.heap.size ≤ q → A q := fun q hq => hA q (Nat.le_trans hS.1 (by rw [← hU]; exact hq))
  have e : U.heap = H := hU
  have h1 := vx_Zq.narrow (vx_Zq.moved hW.alike (h.1.kept hS.2.1)) hn
  have h2 := vx_Zq.narrow (vx_Zq.moved hW.alike (h.2.kept hS.2.1)) hn
  rw [← e] at h1 h2
  exact ⟨h1, h2⟩
theorem hy_Z.same {A : Nat → Prop} {u U : State} {H : Heap} (hv : U.vm = u.vm) (h : hy_Z A u H) : hy_Z A U H :=
  ⟨vx_Zq.moved (by rw [hv]; exact Vm.Alike.refl u.vm) h.1, vx_Zq.moved (by rw [hv]; exact Vm.Alike.refl u.vm) h.2⟩
/-- what stands behind a throw of the class: which exception, and that no cell that was there has changed -/
def hy_X (P : String → Prop) : String → State → State → Prop := fun E st t => P E ∧ va_F (fun q => st.heap.size ≤ q) st t
section HYX
variable {p : Program} {l : Launch} {e : Env} {R : Room} {s : State} {m : MethodId} {args : Array Value} {below : List Frame} {meth : Method} {c : Code} {cells slots : Nat}
variable {mc ms mc9 ms9 : Nat} {free : Addr → Prop} {pc : Nat} {ls : Array Slot} {st0 rest : List Value} {Qc : Array Value → State → Outcome → State → Prop} {P P9 : String → Prop} {cc : ByteArray} {Ts : List Cond}
theorem hy_throw (hx : p.tables.exec = Jvm.exec) (hb : c.code = cc) (hl9 : l.stackTraces = false) {cls text : String} {ik is ic : Nat} (hts : ∀ w ∈ Ts, w.before args s = true)
    (hown : s.vm.findClass RX1 = some m.cls) (hE : hy_E s) (hZ : hy_Z (fun q => s.heap.size ≤ q) s s.heap) (hcls : cls ∈ hy_Es) (hstr : (is, text) ∈ hy_strs)
    (hk : Cond.classLink RX1 ik cls ∈ Ts) (hini : Cond.initialized cls ∈ Ts) (hat : ∀ w ∈ (vx_atS RX1 ic cls hy_xs).filter goodWord, w ∈ Ts) (hat2 : ∀ w ∈ (vx_atS RX1 ic cls hy_xs).filter (fun w => !goodWord w), w ∈ ([.castable cls cls, .declares ⟨"java/lang/RuntimeException", "<init>", "(Ljava/lang/String;)V"⟩, .declares ⟨"java/lang/Exception", "<init>", "(Ljava/lang/String;)V"⟩, .declares ⟨"java/lang/Throwable", "<init>", "(Ljava/lang/String;)V"⟩] : List Cond))
    (hgood : ∀ w ∈ Cond.classLink RX1 ik cls :: Cond.initialized cls :: vx_atS RX1 ic cls hy_xs, vx_ot w = true) (hsize : ls.size = c.maxLocals)
    (d0 : decode cc pc = .ok (.new ik, 3)) (d3 : decode cc (pc + 3) = .ok (.dup, 1)) (d4 : decode cc (pc + 4) = .ok (.ldc is, 2)) (d6 : decode cc (pc + 6) = .ok (.invokespecial ic, 3)) (d9 : decode cc (pc + 9) = .ok (.athrow, 1))
    (hno : ∀ x ∈ c.exceptionTable.toList, False) (hlocks : meth.locks = false) (hR : 6 ≤ R.frames ∧ 90 ≤ R.locals) (hr8 : (rest.map fun v => v.category).sum ≤ 8) (hcr : cells + 1 ≤ R.cells) (hsr : slots + 6 ≤ R.slots) (hc : cells + 1 ≤ mc) (hs : slots + 6 ≤ ms) (hP : P cls) :
    W p l e R s m args below meth c s.heap [] cells slots (vx_MQ below Qc (hy_X P) args s mc ms free) (F0 m pc ls rest) := by
  obtain ⟨sa, hsa⟩ := hE.2.2 _ hstr
  have hfit : Bundle.fit cls = true := by
    simp only [hy_Es, List.mem_cons, List.not_mem_nil, or_false] at hcls
    rcases hcls with h | h | h | h | h <;> (rw [h]; decide +kernel)
  refine vx_throwS hx hb hl9 (names := hy_xs) (text := text) (sa := sa) (A := fun q => s.heap.size ≤ q) hown hfit (by decide +kernel) (hts _ hk) (hts _ hini) hsa
    (vx_hat (fun w hw => hts w (hat w hw)) hat2 (vx_c (va_Nw.use rfl (hE.1 cls hcls)) (vx_c (va_Nw.use rfl (hE.2.1 _ List.mem_cons_self)) (vx_c (va_Nw.use rfl (hE.2.1 _ (List.mem_cons_of_mem _ List.mem_cons_self))) (vx_c (va_Nw.use rfl (hE.2.1 _ (List.mem_cons_of_mem _ (List.mem_cons_of_mem _ List.mem_cons_self)))) vx_n)))))
    hgood hZ.1 hZ.2 va_S.rf hsize d0 d3 d4 d6 d9 (fun x hx => (hno x hx).elim) ?_ ?_ hcr hsr hlocks (fun t _ h1 h2 => ⟨hP, h1, fun q hq _ => h2 q hq⟩) (fun z hz => nomatch hz) hc hs
  · show 2 + 3 < R.frames
    omega
  · show _ + (13 * (2 + 1) + 43) ≤ R.locals
    omega
set_option maxHeartbeats 1000000 in
/-- the same for NoSuchElementException -/
theorem hy_throwN (hx : p.tables.exec = Jvm.exec) (hb : c.code = cc) (hl9 : l.stackTraces = false) {text : String} {ik is : Nat} (hts : ∀ w ∈ Ts, w.before args s = true)
    (hown : s.vm.findClass RX1 = some m.cls) (hE : hy_E s) (hZ : hy_Z (fun q => s.heap.size ≤ q) s s.heap) (hstr : (is, text) ∈ hy_strs)
    (hk : Cond.classLink RX1 ik hy_nN ∈ Ts) (hini : Cond.initialized hy_nN ∈ Ts) (hat : ∀ w ∈ (hy_atN RX1 165 hy_nN hy_xs).filter goodWord, w ∈ Ts) (hat2 : ∀ w ∈ (hy_atN RX1 165 hy_nN hy_xs).filter (fun w => !goodWord w), w ∈ ([.castable hy_nN hy_nN, .declares ⟨"java/lang/RuntimeException", "<init>", "(Ljava/lang/String;)V"⟩, .declares ⟨"java/lang/Exception", "<init>", "(Ljava/lang/String;)V"⟩, .declares ⟨"java/lang/Throwable", "<init>", "(Ljava/lang/String;)V"⟩] : List Cond))
    (hgood : ∀ w ∈ Cond.classLink RX1 ik hy_nN :: Cond.initialized hy_nN :: hy_atN RX1 165 hy_nN hy_xs, vx_ot w = true) (hsize : ls.size = c.maxLocals)
    (d0 : decode cc pc = .ok (.new ik, 3)) (d3 : decode cc (pc + 3) = .ok (.dup, 1)) (d4 : decode cc (pc + 4) = .ok (.ldc is, 2)) (d6 : decode cc (pc + 6) = .ok (.invokespecial 165, 3)) (d9 : decode cc (pc + 9) = .ok (.athrow, 1))
    (hno : ∀ x ∈ c.exceptionTable.toList, False) (hlocks : meth.locks = false) (hR : 6 ≤ R.frames ∧ 90 ≤ R.locals) (hr8 : (rest.map fun v => v.category).sum ≤ 8) (hcr : cells + 1 ≤ R.cells) (hsr : slots + 6 ≤ R.slots) (hc : cells + 1 ≤ mc) (hs : slots + 6 ≤ ms) (hP : P hy_nN) :
    W p l e R s m args below meth c s.heap [] cells slots (vx_MQ below Qc (hy_X P) args s mc ms free) (F0 m pc ls rest) := by
  obtain ⟨sa, hsa⟩ := hE.2.2 _ hstr
  have hatA : ∀ w ∈ hy_atN RX1 165 hy_nN hy_xs, w.before args s = true := vx_hat (fun w hw => hts w (hat w hw)) hat2 (vx_c (va_Nw.use rfl (hE.1 hy_nN (by decide +kernel))) (vx_c (va_Nw.use rfl (hE.2.1 _ List.mem_cons_self)) (vx_c (va_Nw.use rfl (hE.2.1 _ (List.mem_cons_of_mem _ List.mem_cons_self))) (vx_c (va_Nw.use rfl (hE.2.1 _ (List.mem_cons_of_mem _ (List.mem_cons_of_mem _ List.mem_cons_self)))) vx_n))))
  intro T hT X
  have htr : e.platform.stackTraces = false := (show e.platform.stackTraces = l.stackTraces by rw [X.admits.platform]).trans hl9
  have Y := vx_rebase X (R' := { frames := R.frames, locals := R.locals, cells := 1, slots := 6 }) (Nat.le_refl _) (Nat.le_refl _) hcr hsr
  obtain ⟨s', hA⟩ : ∃ z, z = (T.setVm s.vm).setFrames (.invoking m args :: below) := ⟨_, rfl⟩
  rw [← hA] at Y
  have hvm : s'.vm = s.vm := by rw [hA]; rfl
  have hhp : s'.heap = s.heap := by rw [hA]; exact hT
  have hW0 : s.WarmedH s'.vm := by rw [hvm]; exact State.WarmedH.refl s
  have hat' : ∀ w ∈ hy_atN RX1 165 hy_nN hy_xs, w.before args s' = true := fun w hw => vx_ot_at hW0 hvm.symm (hgood w (List.mem_cons_of_mem _ (List.mem_cons_of_mem _ hw))) (hatA w hw)
  have hk' : (Cond.classLink RX1 ik hy_nN).before args s' = true := vx_ot_at hW0 hvm.symm (hgood _ List.mem_cons_self) (hts _ hk)
  have hini' : (Cond.initialized hy_nN).before args s' = true := vx_ot_at hW0 hvm.symm (hgood _ (List.mem_cons_of_mem _ List.mem_cons_self)) (hts _ hini)
  have hU' : vx_Zq Bundle.tN "UNASSIGNED_STACK" Bundle.steD (fun q => s.heap.size ≤ q) s' s'.heap := by rw [hhp]; exact vx_Zq.moved hW0.alike hZ.1
  have hN' : vx_Zq Bundle.tN "SUPPRESSED_SENTINEL" Bundle.listD (fun q => s.heap.size ≤ q) s' s'.heap := by rw [hhp]; exact vx_Zq.moved hW0.alike hZ.2
  have h0 : ∀ w ∈ (Bundle.ownAtoms RX1 165 hy_nN hy_xs).filter hy_isN, w.before args s' = true := vx_own (fun w hw => by
    obtain ⟨h1, h2⟩ := List.mem_filter.mp hw
    obtain ⟨h3, h4⟩ := List.mem_filter.mp h1
    exact hat' w (List.mem_append_left _ (List.mem_filter.mpr ⟨List.mem_filter.mpr ⟨h3, h2⟩, h4⟩))) (vx_isRefq hU'.1) (vx_isRefq hN'.1) hU'.2.word hN'.2.word
  have h : ∀ w ∈ Bundle.ownAtoms RX1 165 hy_nN hy_xs, hy_isN w = true → w.before args s' = true := fun w hw hi => h0 w (List.mem_filter.mpr ⟨hw, hi⟩)
  have hown' : s'.vm.findClass RX1 = some m.cls := by rw [hvm]; exact hown
  have hins : (Cond.instantiable hy_nN 6).before args s' = true := h _ (by simp [Bundle.ownAtoms]) (by decide +kernel)
  have hli : (Cond.methodLink RX1 165 (Bundle.initS hy_nN)).before args s' = true := h _ (by simp [Bundle.ownAtoms]) (by decide +kernel)
  have hco : (Cond.code (Bundle.initS hy_nN) prog_15_method_4_code 2 none).before args s' = true := hat' _ (List.mem_append_right _ List.mem_cons_self)
  have hl13 : (Cond.methodLink hy_nN 13 (Bundle.initS hy_nR)).before args s' = true := hat' _ (List.mem_append_right _ (List.mem_cons_of_mem _ List.mem_cons_self))
  obtain ⟨vm₁, cX, kX, hfX, hkX, -, -, X₁, st1⟩ := Y.newCold hx (own := RX1) (C := hy_nN) (index := ik) (n := 6) hown' hk' hins hini'
    (g := F0 m pc ls rest) rfl (by rw [hb]; exact d0) (Nat.le_refl _) (Nat.le_refl _)
  generalize hT1 : (T.setVm vm₁).pushCell { cls := cX, slots := kX.instanceTypes.map defaultValue, vm := .none } = T1 at X₁ st1
  have hcat : (Value.ref T.heap.size).category = 1 := rfl
  have hcellA : T1.heap[T.heap.size]? = some (freshCell cX kX) := by rw [← hT1]; exact State.heap_pushCell_size _ _
  have d3' : decode c.code (pc + 3) = .ok (.dup, 1) := by rw [hb]; exact d3
  have d4' : decode c.code (pc + 4) = .ok (.ldc is, 2) := by rw [hb]; exact d4
  have hstr' : vk_R RX1 is text sa s' := vk_R.warm hW0 hsa
  obtain ⟨U, hsteps, hrun, hend, hW, hsame, ce, hce, hcl0, hcv⟩ := hy_ctorN X₁ hx htr (own := RX1) (ic := 165) hown' h hli hco hl13 (fun x hx => nomatch hx) hfX hkX hcellA (by rw [hhp, hT]; exact Nat.le_refl _) (msg := .ref sa) rfl
    (g := { method := m, pc := pc + 6, locals := ls, stack := .ref sa :: .ref T.heap.size :: .ref T.heap.size :: rest, locked := none }) rfl hsize rfl rfl (rest := rest) rfl
    (by rw [hb]; exact d6) (by rw [hb]; exact d9) (fun x hx => (hno x hx).elim) (by show 5 < R.frames; omega) (by show 2 * 0 + _ + 81 ≤ R.locals; simp only [List.map_cons, List.sum_cons, hcat]; omega) hlocks
  obtain ⟨f1, f2⟩ := vx_frame hsame
  rw [hhp] at f1 f2
  have hWs : s.WarmedH U.vm := State.WarmedH.trans hW0 hW
  have hcl : s.vm.findClass hy_nN = some ce.cls := by
    rw [hvm] at hcl0
    exact hcl0
  have hall : s.sameButNew ({ U with vm := s.vm } : State) [] mc ms := by
    subst hA
    obtain ⟨e1, e2⟩ := hsame
    rw [State.setFrames_setFrames] at e1
    have h2 : (T.setVm s.vm).sameButNew ({ U with vm := s.vm } : State) [] (0 + 1) (0 + 6) := ⟨e1, e2⟩
    have h3 := X.same.trans h2
    rw [List.append_nil] at h3
    exact h3.mono hc hs
  refine ⟨U, ?_, .threw T.heap.size, hrun, hend, Or.inr ⟨T.heap.size, rfl, hy_nN, ce, [], ⟨hP, f1, fun q hq _ => f2 q hq (fun z hz => nomatch hz)⟩, hce, hcv, hcl, hWs, hall, fun z hz => nomatch hz⟩⟩
  refine st1 _ ?_
  show Steps p.tables e below (T1.setTop { method := m, pc := pc + 3, locals := ls, stack := .ref T.heap.size :: rest, locked := none }) _
  jvm_step X₁.here [X₁.here.top, hx, d3', Value.category]
  exact X₁.ldcString hx (own := RX1) (text := text) (index := is) (a := sa) hown' hstr'.1 hstr'.2
    (g := { method := m, pc := pc + 4, locals := ls, stack := .ref T.heap.size :: .ref T.heap.size :: rest, locked := none }) rfl d4' _ hsteps
/-- a call of a reader that may throw: the throw goes on to the caller, else the heap is as it was -/
theorem hy_thru {Qa : State → Outcome → State → Prop} (hr : vx_Run p l e R s m args below meth c s.heap [] cells slots mc ms (F0 m pc ls st0) rest Qa (hy_X P) (fun _ => False)) (hQ : ∀ st v t, Qa st (.returned v) t → t.heap = st.heap)
    (hno : ∀ x ∈ c.exceptionTable.toList, False) (hlocks : meth.locks = false) (hP : ∀ E, P E → P9 E) (hc : cells + mc ≤ mc9) (hs : slots + ms ≤ ms9)
    (kk : ∀ v st t, Qa st (.returned v) t → W p l e R s m args below meth c s.heap [] (cells + mc) (slots + ms) (vx_MQ below Qc (hy_X P9) args s mc9 ms9 free) (F0 m (pc + 3) ls (v.toList ++ rest))) :
    W p l e R s m args below meth c s.heap [] cells slots (vx_MQ below Qc (hy_X P9) args s mc9 ms9 free) (F0 m pc ls st0) := by
  intro T hT X
  rcases hr T hT X with ⟨v, st₀, t, T', L, h0, X', hL, e1, e2, hq, st⟩ | ⟨q, st₀, t, T', L, E, ce, h0, X', hL, e1, e2, ⟨hPE, hF⟩, hce, hcv, hcl, st⟩
  · obtain ⟨t2, a1, b1⟩ := kk v st₀ t hq T' (by rw [e1, hQ _ _ _ hq, h0]) (Stand.forget X' (fun q h => (hL q h).elim))
    exact ⟨t2, st t2 a1, b1⟩
  · have hk := vx_out (p := p) (l := l) (e := e) (R := R) (s := s) (m := m) (args := args) (below := below) (meth := meth) (c := c) (H := T'.heap) (locs := []) (cells := cells + mc) (slots := slots + ms) (free := free) (ls := ls) (rest := rest) (Qc := Qc) (XC := hy_X P9) (pc := pc) (E := E) (ce := ce) (q := q) (mc := mc9) (ms := ms9)
      (fun x hx => (hno x hx).elim) hlocks (by rw [e1]; exact hce) hcv hcl (fun t9 ht9 _ => ⟨hP E hPE, by
        obtain ⟨f1, f2⟩ := hF
        rw [h0] at f1 f2
        exact ⟨by rw [ht9, e1]; exact f1, fun q hq hn => by rw [ht9, e1]; exact f2 q hq hn⟩⟩) (fun z hz => nomatch hz) hc hs
    obtain ⟨t2, a1, b1⟩ := hk T' rfl (Stand.forget X' (fun q h => (hL q h).elim))
    exact ⟨t2, st.trans a1, b1⟩
end HYX
end
section
/-! WHAT THE CLASS'S METHODS ANSWER, as plain functions of the state; the premise of a reader's contract. -/
def hy_I (D : va_G) (cI cJ cB : ClassId) (h b k w z : Nat) (ad ca : Nat → Nat) (S : hy_S) (U : State) : Prop := va_P D vwCl (hy_W cI cJ cB h b k w z ad ca S) U.heap ∧ va_K D vwCl (hy_T cI cJ cB) U
theorem hy_I_blind {D : va_G} {cI cJ cB : ClassId} {h b k w z : Nat} {ad ca : Nat → Nat} {S : hy_S} {av : List Value} : FrameBlind (va_Pc av (hy_I D cI cJ cB h b k w z ad ca S)) :=
  fun a U g mk q => ⟨q.1, q.2.1, va_K.moved (u := U) (U := U.calling g mk a) (Vm.Alike.refl U.vm) q.2.2⟩
theorem hy_I_at {D : va_G} {cI cJ cB : ClassId} {h b k w z : Nat} {ad ca : Nat → Nat} {S : hy_S} {s U : State} {H : Heap} (hU : U.heap = H) (hW : s.WarmedH U.vm) (hP : va_P D vwCl (hy_W cI cJ cB h b k w z ad ca S) H) (hK : va_K D vwCl (hy_T cI cJ cB) s) : hy_I D cI cJ cB h b k w z ad ca S U :=
  ⟨by rw [hU]; exact hP, va_K.moved hW.alike hK⟩
def hy_isRow (S : hy_S) (o : Option Nat) : Int32 := match o with
  | none => 0
  | some r => if hy_so S r = 8 then 0 else 1
def hy_isNum (S : hy_S) (o : Option Nat) : Int32 := match o with
  | none => 0
  | some r => if hy_so S r = 8 then 0 else if 3 < hy_so S r then 0 else 1
def hy_isCo (S : hy_S) (o : Option Nat) : Int32 := match o with
  | none => 0
  | some r => if hy_so S r = 8 then 0 else if hy_so S r < 4 then 0 else 1
def hy_sort (S : hy_S) (o : Option Nat) : Int32 := match o with
  | none => -1
  | some r => hy_so S r
def hy_len (S : hy_S) (o : Option Nat) : Int32 := match o with
  | none => 0
  | some r => nI (hy_le S r)
def hy_takes (a0 a1 : Int32) : Int32 := if a0 - 4 = 0 then 1 else if a0 - 4 = a1 then 1 else if a0 - 4 = 1 then (if a1 = 3 then 1 else 0) else 0
def hy_low (a0 : Int32) (v : Int64) : Int64 := if a0 = 0 then v.toInt32.toInt64 else if a0 = 2 then v.toInt32.toInt16.toInt32.toInt64 else if a0 = 3 then v.toInt32.toInt8.toInt32.toInt64 else v
def hy_isComb (S : hy_S) (n : Int64) : Int32 := if n < 0 then 0 else if (nI (hy_nc S)).toInt64 ≤ n then 0 else 1
def hy_unlike (S : hy_S) (r1 r2 : Nat) : Int32 := if hy_so S r1 = hy_so S r2 then 0 else if hy_isCo S (some r1) = 0 then 1 else if hy_isCo S (some r2) = 0 then 1 else 0
def hy_out (S : hy_S) (r : Nat) (i n : Int32) : Int32 := if i < 0 then 1 else if n < 0 then 1 else if i.toInt64 + n.toInt64 ≤ (nI (hy_le S r)).toInt64 then 0 else 1
def hy_cend (S : hy_S) (a : Int32) : Int32 := if a ≤ 2 then -1 else if a < 8 then hy_en S (a - 2).toNatClampNeg else -1
def hy_count (S : hy_S) (a : Int32) : Int32 := if a = 0 then nI (hy_nr S) else if a = 1 then nI (hy_nc S) else if a = 2 then hy_mo S else if a = 8 then hy_pm S else hy_cend S a
theorem hy_i32 {x : Int32} (k : Int32) (h : x.toInt = k.toInt) : x = k := Int32.toInt_inj.mp h
theorem hy_cend_in {a : Int32} (h1 : ¬ a ≤ 2) (h2 : a < 8) : vp_in (a - 2) 6 := by
  rw [vp_in_iff]
  have e1 : ¬ a.toInt ≤ 2 := fun h => h1 (Int32.le_iff_toInt_le.mpr h)
  have e2 : a.toInt < 8 := Int32.lt_iff_toInt_lt.mp h2
  have e3 : (a - 2).toInt = a.toInt - 2 := by
    rw [Int32.toInt_sub, show (2 : Int32).toInt = 2 from rfl]
    rw [Int.bmod_def]
    omega
  omega
theorem hy_tout0_3 {x : Int32} (h0 : ¬ x = 0) (h1 : ¬ x = 1) (h2 : ¬ x = 2) (h3 : ¬ x = 3) : x.toInt < 0 ∨ 3 < x.toInt := by
  by_cases q0 : x.toInt = 0
  · exact absurd (hy_i32 0 q0) h0
  by_cases q1 : x.toInt = 1
  · exact absurd (hy_i32 1 q1) h1
  by_cases q2 : x.toInt = 2
  · exact absurd (hy_i32 2 q2) h2
  by_cases q3 : x.toInt = 3
  · exact absurd (hy_i32 3 q3) h3
  omega
theorem hy_tout0_8 {x : Int32} (h0 : ¬ x = 0) (h1 : ¬ x = 1) (h2 : ¬ x = 2) (h3 : ¬ x = 3) (h4 : ¬ x = 4) (h5 : ¬ x = 5) (h6 : ¬ x = 6) (h7 : ¬ x = 7) (h8 : ¬ x = 8) : x.toInt < 0 ∨ 8 < x.toInt := by
  rcases hy_tout0_3 h0 h1 h2 h3 with h | h
  · exact Or.inl h
  by_cases q4 : x.toInt = 4
  · exact absurd (hy_i32 4 q4) h4
  by_cases q5 : x.toInt = 5
  · exact absurd (hy_i32 5 q5) h5
  by_cases q6 : x.toInt = 6
  · exact absurd (hy_i32 6 q6) h6
  by_cases q7 : x.toInt = 7
  · exact absurd (hy_i32 7 q7) h7
  by_cases q8 : x.toInt = 8
  · exact absurd (hy_i32 8 q8) h8
  omega
end
section
/-! THE CLASS: methods that only read and never throw. Rows laid by gen.py, specs_y.py. -/
set_option maxHeartbeats 4000000 in
set_option maxRecDepth 100000 in
/-- isRow -/
theorem c_X1_isRow (l : Launch) (D : va_G) (cI cJ cB : ClassId) (h b k w z : Nat) (ad ca : Nat → Nat) (S : hy_S) (o : Option Nat) (ho : ∀ r, o = some r → r ≤ hy_nr S) : Met l yX1_isRow wsX1_isRow ({ frames := 0, cells := 0, slots := 0, locals := 0 }) (va_Pc [va_rf (o.map ad)] (hy_I D cI cJ cB h b k w z ad ca S)) (vp_Si (fun v : Int32 => v = hy_isRow S o)) 0 0 (fun _ => False) := by
  refine Met.ofW (cc := cX1_isRow) (maxL := 1) (ret := (some .boolean)) (by decide) rfl ?_
  intro p e s m args below meth c s₁ B hml hv
  obtain ⟨rfl, hP, hK⟩ := hv
  have hx := B.exec
  have hb := B.bytes
  have hr := B.returns
  have hts := atoms_spec (ws := wsX1_isRow) B.pre
  have hown : s.vm.findClass RX1 = some m.cls := findClass_of_methodNamed B.named
  have hlocks := B.notSynchronized
  have hinX0 : ∀ w ∈ wsX00, w ∈ wsX1_isRow := by decide +kernel
  cases o with
  | none =>
    have hl := lv_entry ([va_rf ((none : Option Nat).map ad)]) (n := 1) (Nat.le_of_ble_eq_true rfl)
    rw [lg_entry_eq]
    generalize (lg_sl ([va_rf ((none : Option Nat).map ad)]) ++ List.replicate (1 - (lg_sl ([va_rf ((none : Option Nat).map ad)])).length) Slot.unset).toArray = ls at hl ⊢
    have hl : lv_has ls 1 [(0, .null)] := hl
    refine lv_aload_nN hx hb dX1_isRow_0 rfl (lv_at hl 0 rfl) ?_
    refine lv_ifnullN (tgt := 17) hx hb dX1_isRow_1 (by decide) ?_
    refine lv_iconst (v := 0) hx hb dX1_isRow_17 (by decide) ?_
    exact W.zret (v := 0) (ty := .boolean) hx hb hr (by decide +kernel) (fun t ht hW => ⟨_, rfl, by first | rfl | (simp [hy_isRow, *]; done) | ((try simp only [lg_cmp_lt, lg_cmp_ge, lg_cmp_le, lg_cmp_gt, lg_cmp_eq] at *); simp only [hy_isRow, *, ↓reduceIte, if_false, if_true, not_false_eq_true, not_true_eq_false]; done) | (simp_all [hy_isRow]; done), ht⟩) (fun q h => nomatch h) dX1_isRow_18
  | some r =>
    have hrw : r ≤ hy_nr S := ho r rfl
    have hl := lv_entry ([va_rf ((some r).map ad)]) (n := 1) (Nat.le_of_ble_eq_true rfl)
    rw [lg_entry_eq]
    generalize (lg_sl ([va_rf ((some r).map ad)]) ++ List.replicate (1 - (lg_sl ([va_rf ((some r).map ad)])).length) Slot.unset).toArray = ls at hl ⊢
    have hl : lv_has ls 1 [(0, .ref (ad r))] := hl
    refine lv_aload_n hx hb dX1_isRow_0 rfl (lv_at hl 0 rfl) ?_
    refine lv_ifnull hx hb dX1_isRow_1 ?_
    refine lv_aload_n hx hb dX1_isRow_4 rfl (lv_at hl 0 rfl) ?_
    refine va_get (D := D) (ci := 0) (v := .int (hy_so S r)) (C := RX0) (T := TX0) (N := 2) hx hb hts hinX0 hown hK hP (5 + r) (hy_W_row hrw) rfl 0 (by decide) (hts (.fieldLink RX1 83 "HiveYard$Content" "sort" "I") (by decide +kernel)) (fun _ h9 => h9) rfl dX1_isRow_5 ?_
    refine lv_bipush (v := 8) hx hb dX1_isRow_8 (by decide) ?_
    refine lv_icmp_eq (tgt := 17) hx hb dX1_isRow_10 (by decide) (fun c_10 => ?_) (fun c_10 => ?_)
    · -- 17
      refine lv_iconst (v := 0) hx hb dX1_isRow_17 (by decide) ?_
      exact W.zret (v := 0) (ty := .boolean) hx hb hr (by decide +kernel) (fun t ht hW => ⟨_, rfl, by first | rfl | (simp [hy_isRow, *]; done) | ((try simp only [lg_cmp_lt, lg_cmp_ge, lg_cmp_le, lg_cmp_gt, lg_cmp_eq] at *); simp only [hy_isRow, *, ↓reduceIte, if_false, if_true, not_false_eq_true, not_true_eq_false]; done) | (simp_all [hy_isRow]; done), ht⟩) (fun q h => nomatch h) dX1_isRow_18
    · -- 13
      refine lv_iconst (v := 1) hx hb dX1_isRow_13 (by decide) ?_
      refine lv_goto (tgt := 18) hx hb dX1_isRow_14 (by decide) ?_
      exact W.zret (v := 1) (ty := .boolean) hx hb hr (by decide +kernel) (fun t ht hW => ⟨_, rfl, by first | rfl | (simp [hy_isRow, *]; done) | ((try simp only [lg_cmp_lt, lg_cmp_ge, lg_cmp_le, lg_cmp_gt, lg_cmp_eq] at *); simp only [hy_isRow, *, ↓reduceIte, if_false, if_true, not_false_eq_true, not_true_eq_false]; done) | (simp_all [hy_isRow]; done), ht⟩) (fun q h => nomatch h) dX1_isRow_18
set_option maxHeartbeats 4000000 in
set_option maxRecDepth 100000 in
theorem c_X1_isNumbers (l : Launch) (D : va_G) (cI cJ cB : ClassId) (h b k w z : Nat) (ad ca : Nat → Nat) (S : hy_S) (o : Option Nat) (ho : ∀ r, o = some r → r ≤ hy_nr S) : Met l yX1_isNumbers wsX1_isNumbers ({ frames := 1, cells := 0, slots := 0, locals := 20 }) (va_Pc [va_rf (o.map ad)] (hy_I D cI cJ cB h b k w z ad ca S)) (vp_Si (fun v : Int32 => v = hy_isNum S o)) 0 0 (fun _ => False) := by
  refine Met.ofW (cc := cX1_isNumbers) (maxL := 1) (ret := (some .boolean)) (by decide) rfl ?_
  intro p e s m args below meth c s₁ B hml hv
  obtain ⟨rfl, hP, hK⟩ := hv
  have hx := B.exec
  have hb := B.bytes
  have hr := B.returns
  have hts := atoms_spec (ws := wsX1_isNumbers) B.pre
  have hown : s.vm.findClass RX1 = some m.cls := findClass_of_methodNamed B.named
  have hlocks := B.notSynchronized
  have hinX0 : ∀ w ∈ wsX00, w ∈ wsX1_isNumbers := by decide +kernel
  cases o with
  | none =>
    have hl := lv_entry ([va_rf ((none : Option Nat).map ad)]) (n := 1) (Nat.le_of_ble_eq_true rfl)
    rw [lg_entry_eq]
    generalize (lg_sl ([va_rf ((none : Option Nat).map ad)]) ++ List.replicate (1 - (lg_sl ([va_rf ((none : Option Nat).map ad)])).length) Slot.unset).toArray = ls at hl ⊢
    have hl : lv_has ls 1 [(0, .null)] := hl
    refine lv_aload_nN hx hb dX1_isNumbers_0 rfl (lv_at hl 0 rfl) ?_
    refine vp_callSi (W.runS (As := [.null]) (rest := []) ⟨hx, hb, hml, hown, hts⟩ (c_X1_isRow l D cI cJ cB h b k w z ad ca S none (fun _ q => nomatch q)) (va_cwS 1 hts gX1_isNumbers_X1_isRow rfl rfl rfl (by decide +kernel) ⟨Nat.le_of_ble_eq_true rfl, Nat.le_of_ble_eq_true rfl⟩) ⟨hy_I_blind, fun U hU hW => ⟨rfl, hy_I_at hU hW hP hK⟩⟩ rfl rfl hl.1 rfl (lv_room (Nat.le_of_ble_eq_true rfl)) dX1_isNumbers_1 ⟨Nat.le_of_ble_eq_true rfl, Nat.le_of_ble_eq_true rfl⟩) (fun v9 e9 => ?_)
    subst e9
    refine lv_if_eq (tgt := 19) hx hb dX1_isNumbers_4 (by decide) (fun c_4 => ?_) (fun c9 => absurd c9 (fun c => c rfl))
    refine lv_iconst (v := 0) hx hb dX1_isNumbers_19 (by decide) ?_
    exact W.zret (v := 0) (ty := .boolean) hx hb hr (by decide +kernel) (fun t ht hW => ⟨_, rfl, by first | rfl | (simp [hy_isRow, hy_isNum, *]; done) | ((try simp only [lg_cmp_lt, lg_cmp_ge, lg_cmp_le, lg_cmp_gt, lg_cmp_eq] at *); simp only [hy_isRow, hy_isNum, *, ↓reduceIte, if_false, if_true, not_false_eq_true, not_true_eq_false]; done) | (simp_all [hy_isRow, hy_isNum]; done), ht⟩) (fun q h => nomatch h) dX1_isNumbers_20
  | some r =>
    have hrw : r ≤ hy_nr S := ho r rfl
    have hl := lv_entry ([va_rf ((some r).map ad)]) (n := 1) (Nat.le_of_ble_eq_true rfl)
    rw [lg_entry_eq]
    generalize (lg_sl ([va_rf ((some r).map ad)]) ++ List.replicate (1 - (lg_sl ([va_rf ((some r).map ad)])).length) Slot.unset).toArray = ls at hl ⊢
    have hl : lv_has ls 1 [(0, .ref (ad r))] := hl
    refine lv_aload_n hx hb dX1_isNumbers_0 rfl (lv_at hl 0 rfl) ?_
    refine vp_callSi (W.runS (As := [.ref (ad r)]) (rest := []) ⟨hx, hb, hml, hown, hts⟩ (c_X1_isRow l D cI cJ cB h b k w z ad ca S (some r) (fun _ q => by cases q; exact hrw)) (va_cwS 1 hts gX1_isNumbers_X1_isRow rfl rfl rfl (by decide +kernel) ⟨Nat.le_of_ble_eq_true rfl, Nat.le_of_ble_eq_true rfl⟩) ⟨hy_I_blind, fun U hU hW => ⟨rfl, hy_I_at hU hW hP hK⟩⟩ rfl rfl hl.1 rfl (lv_room (Nat.le_of_ble_eq_true rfl)) dX1_isNumbers_1 ⟨Nat.le_of_ble_eq_true rfl, Nat.le_of_ble_eq_true rfl⟩) (fun v9 e9 => ?_)
    subst e9
    refine lv_if_eq (tgt := 19) hx hb dX1_isNumbers_4 (by decide) (fun c_4 => ?_) (fun c_4 => ?_)
    · -- 19
      refine lv_iconst (v := 0) hx hb dX1_isNumbers_19 (by decide) ?_
      exact W.zret (v := 0) (ty := .boolean) hx hb hr (by decide +kernel) (fun t ht hW => ⟨_, rfl, by first | rfl | (simp [hy_isRow, hy_isNum, *]; done) | ((try simp only [lg_cmp_lt, lg_cmp_ge, lg_cmp_le, lg_cmp_gt, lg_cmp_eq] at *); simp only [hy_isRow, hy_isNum, *, ↓reduceIte, if_false, if_true, not_false_eq_true, not_true_eq_false]; done) | (simp_all [hy_isRow, hy_isNum]; done), ht⟩) (fun q h => nomatch h) dX1_isNumbers_20
    · -- 7
      refine lv_aload_n hx hb dX1_isNumbers_7 rfl (lv_at hl 0 rfl) ?_
      refine va_get (D := D) (ci := 0) (v := .int (hy_so S r)) (C := RX0) (T := TX0) (N := 2) hx hb hts hinX0 hown hK hP (5 + r) (hy_W_row hrw) rfl 0 (by decide) (hts (.fieldLink RX1 83 "HiveYard$Content" "sort" "I") (by decide +kernel)) (fun _ h9 => h9) rfl dX1_isNumbers_8 ?_
      refine lv_iconst (v := 3) hx hb dX1_isNumbers_11 (by decide) ?_
      refine lv_icmp_gt (tgt := 19) hx hb dX1_isNumbers_12 (by decide) (fun c_12 => ?_) (fun c_12 => ?_)
      · -- 19
        refine lv_iconst (v := 0) hx hb dX1_isNumbers_19 (by decide) ?_
        exact W.zret (v := 0) (ty := .boolean) hx hb hr (by decide +kernel) (fun t ht hW => ⟨_, rfl, by first | rfl | (simp [hy_isRow, hy_isNum, *]; done) | ((try simp only [lg_cmp_lt, lg_cmp_ge, lg_cmp_le, lg_cmp_gt, lg_cmp_eq] at *); simp only [hy_isRow, hy_isNum, *, ↓reduceIte, if_false, if_true, not_false_eq_true, not_true_eq_false]; done) | (simp_all [hy_isRow, hy_isNum]; done), ht⟩) (fun q h => nomatch h) dX1_isNumbers_20
      · -- 15
        refine lv_iconst (v := 1) hx hb dX1_isNumbers_15 (by decide) ?_
        refine lv_goto (tgt := 20) hx hb dX1_isNumbers_16 (by decide) ?_
        exact W.zret (v := 1) (ty := .boolean) hx hb hr (by decide +kernel) (fun t ht hW => ⟨_, rfl, by first | rfl | (simp [hy_isRow, hy_isNum, *]; done) | ((try simp only [lg_cmp_lt, lg_cmp_ge, lg_cmp_le, lg_cmp_gt, lg_cmp_eq] at *); simp only [hy_isRow, hy_isNum, *, ↓reduceIte, if_false, if_true, not_false_eq_true, not_true_eq_false]; done) | (simp_all [hy_isRow, hy_isNum]; done), ht⟩) (fun q h => nomatch h) dX1_isNumbers_20
set_option maxHeartbeats 4000000 in
set_option maxRecDepth 100000 in
theorem c_X1_isCombs (l : Launch) (D : va_G) (cI cJ cB : ClassId) (h b k w z : Nat) (ad ca : Nat → Nat) (S : hy_S) (o : Option Nat) (ho : ∀ r, o = some r → r ≤ hy_nr S) : Met l yX1_isCombs wsX1_isCombs ({ frames := 1, cells := 0, slots := 0, locals := 20 }) (va_Pc [va_rf (o.map ad)] (hy_I D cI cJ cB h b k w z ad ca S)) (vp_Si (fun v : Int32 => v = hy_isCo S o)) 0 0 (fun _ => False) := by
  refine Met.ofW (cc := cX1_isCombs) (maxL := 1) (ret := (some .boolean)) (by decide) rfl ?_
  intro p e s m args below meth c s₁ B hml hv
  obtain ⟨rfl, hP, hK⟩ := hv
  have hx := B.exec
  have hb := B.bytes
  have hr := B.returns
  have hts := atoms_spec (ws := wsX1_isCombs) B.pre
  have hown : s.vm.findClass RX1 = some m.cls := findClass_of_methodNamed B.named
  have hlocks := B.notSynchronized
  have hinX0 : ∀ w ∈ wsX00, w ∈ wsX1_isCombs := by decide +kernel
  cases o with
  | none =>
    have hl := lv_entry ([va_rf ((none : Option Nat).map ad)]) (n := 1) (Nat.le_of_ble_eq_true rfl)
    rw [lg_entry_eq]
    generalize (lg_sl ([va_rf ((none : Option Nat).map ad)]) ++ List.replicate (1 - (lg_sl ([va_rf ((none : Option Nat).map ad)])).length) Slot.unset).toArray = ls at hl ⊢
    have hl : lv_has ls 1 [(0, .null)] := hl
    refine lv_aload_nN hx hb dX1_isCombs_0 rfl (lv_at hl 0 rfl) ?_
    refine vp_callSi (W.runS (As := [.null]) (rest := []) ⟨hx, hb, hml, hown, hts⟩ (c_X1_isRow l D cI cJ cB h b k w z ad ca S none (fun _ q => nomatch q)) (va_cwS 1 hts gX1_isCombs_X1_isRow rfl rfl rfl (by decide +kernel) ⟨Nat.le_of_ble_eq_true rfl, Nat.le_of_ble_eq_true rfl⟩) ⟨hy_I_blind, fun U hU hW => ⟨rfl, hy_I_at hU hW hP hK⟩⟩ rfl rfl hl.1 rfl (lv_room (Nat.le_of_ble_eq_true rfl)) dX1_isCombs_1 ⟨Nat.le_of_ble_eq_true rfl, Nat.le_of_ble_eq_true rfl⟩) (fun v9 e9 => ?_)
    subst e9
    refine lv_if_eq (tgt := 19) hx hb dX1_isCombs_4 (by decide) (fun c_4 => ?_) (fun c9 => absurd c9 (fun c => c rfl))
    refine lv_iconst (v := 0) hx hb dX1_isCombs_19 (by decide) ?_
    exact W.zret (v := 0) (ty := .boolean) hx hb hr (by decide +kernel) (fun t ht hW => ⟨_, rfl, by first | rfl | (simp [hy_isRow, hy_isCo, *]; done) | ((try simp only [lg_cmp_lt, lg_cmp_ge, lg_cmp_le, lg_cmp_gt, lg_cmp_eq] at *); simp only [hy_isRow, hy_isCo, *, ↓reduceIte, if_false, if_true, not_false_eq_true, not_true_eq_false]; done) | (simp_all [hy_isRow, hy_isCo]; done), ht⟩) (fun q h => nomatch h) dX1_isCombs_20
  | some r =>
    have hrw : r ≤ hy_nr S := ho r rfl
    have hl := lv_entry ([va_rf ((some r).map ad)]) (n := 1) (Nat.le_of_ble_eq_true rfl)
    rw [lg_entry_eq]
    generalize (lg_sl ([va_rf ((some r).map ad)]) ++ List.replicate (1 - (lg_sl ([va_rf ((some r).map ad)])).length) Slot.unset).toArray = ls at hl ⊢
    have hl : lv_has ls 1 [(0, .ref (ad r))] := hl
    refine lv_aload_n hx hb dX1_isCombs_0 rfl (lv_at hl 0 rfl) ?_
    refine vp_callSi (W.runS (As := [.ref (ad r)]) (rest := []) ⟨hx, hb, hml, hown, hts⟩ (c_X1_isRow l D cI cJ cB h b k w z ad ca S (some r) (fun _ q => by cases q; exact hrw)) (va_cwS 1 hts gX1_isCombs_X1_isRow rfl rfl rfl (by decide +kernel) ⟨Nat.le_of_ble_eq_true rfl, Nat.le_of_ble_eq_true rfl⟩) ⟨hy_I_blind, fun U hU hW => ⟨rfl, hy_I_at hU hW hP hK⟩⟩ rfl rfl hl.1 rfl (lv_room (Nat.le_of_ble_eq_true rfl)) dX1_isCombs_1 ⟨Nat.le_of_ble_eq_true rfl, Nat.le_of_ble_eq_true rfl⟩) (fun v9 e9 => ?_)
    subst e9
    refine lv_if_eq (tgt := 19) hx hb dX1_isCombs_4 (by decide) (fun c_4 => ?_) (fun c_4 => ?_)
    · -- 19
      refine lv_iconst (v := 0) hx hb dX1_isCombs_19 (by decide) ?_
      exact W.zret (v := 0) (ty := .boolean) hx hb hr (by decide +kernel) (fun t ht hW => ⟨_, rfl, by first | rfl | (simp [hy_isRow, hy_isCo, *]; done) | ((try simp only [lg_cmp_lt, lg_cmp_ge, lg_cmp_le, lg_cmp_gt, lg_cmp_eq] at *); simp only [hy_isRow, hy_isCo, *, ↓reduceIte, if_false, if_true, not_false_eq_true, not_true_eq_false]; done) | (simp_all [hy_isRow, hy_isCo]; done), ht⟩) (fun q h => nomatch h) dX1_isCombs_20
    · -- 7
      refine lv_aload_n hx hb dX1_isCombs_7 rfl (lv_at hl 0 rfl) ?_
      refine va_get (D := D) (ci := 0) (v := .int (hy_so S r)) (C := RX0) (T := TX0) (N := 2) hx hb hts hinX0 hown hK hP (5 + r) (hy_W_row hrw) rfl 0 (by decide) (hts (.fieldLink RX1 83 "HiveYard$Content" "sort" "I") (by decide +kernel)) (fun _ h9 => h9) rfl dX1_isCombs_8 ?_
      refine lv_iconst (v := 4) hx hb dX1_isCombs_11 (by decide) ?_
      refine lv_icmp_lt (tgt := 19) hx hb dX1_isCombs_12 (by decide) (fun c_12 => ?_) (fun c_12 => ?_)
      · -- 19
        refine lv_iconst (v := 0) hx hb dX1_isCombs_19 (by decide) ?_
        exact W.zret (v := 0) (ty := .boolean) hx hb hr (by decide +kernel) (fun t ht hW => ⟨_, rfl, by first | rfl | (simp [hy_isRow, hy_isCo, *]; done) | ((try simp only [lg_cmp_lt, lg_cmp_ge, lg_cmp_le, lg_cmp_gt, lg_cmp_eq] at *); simp only [hy_isRow, hy_isCo, *, ↓reduceIte, if_false, if_true, not_false_eq_true, not_true_eq_false]; done) | (simp_all [hy_isRow, hy_isCo]; done), ht⟩) (fun q h => nomatch h) dX1_isCombs_20
      · -- 15
        refine lv_iconst (v := 1) hx hb dX1_isCombs_15 (by decide) ?_
        refine lv_goto (tgt := 20) hx hb dX1_isCombs_16 (by decide) ?_
        exact W.zret (v := 1) (ty := .boolean) hx hb hr (by decide +kernel) (fun t ht hW => ⟨_, rfl, by first | rfl | (simp [hy_isRow, hy_isCo, *]; done) | ((try simp only [lg_cmp_lt, lg_cmp_ge, lg_cmp_le, lg_cmp_gt, lg_cmp_eq] at *); simp only [hy_isRow, hy_isCo, *, ↓reduceIte, if_false, if_true, not_false_eq_true, not_true_eq_false]; done) | (simp_all [hy_isRow, hy_isCo]; done), ht⟩) (fun q h => nomatch h) dX1_isCombs_20
set_option maxHeartbeats 4000000 in
set_option maxRecDepth 100000 in
theorem c_X1_sortOf (l : Launch) (D : va_G) (cI cJ cB : ClassId) (h b k w z : Nat) (ad ca : Nat → Nat) (S : hy_S) (o : Option Nat) (ho : ∀ r, o = some r → r ≤ hy_nr S) : Met l yX1_sortOf wsX1_sortOf ({ frames := 0, cells := 0, slots := 0, locals := 0 }) (va_Pc [va_rf (o.map ad)] (hy_I D cI cJ cB h b k w z ad ca S)) (vp_Si (fun v : Int32 => v = hy_sort S o)) 0 0 (fun _ => False) := by
  refine Met.ofW (cc := cX1_sortOf) (maxL := 1) (ret := (some .int)) (by decide) rfl ?_
  intro p e s m args below meth c s₁ B hml hv
  obtain ⟨rfl, hP, hK⟩ := hv
  have hx := B.exec
  have hb := B.bytes
  have hr := B.returns
  have hts := atoms_spec (ws := wsX1_sortOf) B.pre
  have hown : s.vm.findClass RX1 = some m.cls := findClass_of_methodNamed B.named
  have hlocks := B.notSynchronized
  have hinX0 : ∀ w ∈ wsX00, w ∈ wsX1_sortOf := by decide +kernel
  cases o with
  | none =>
    have hl := lv_entry ([va_rf ((none : Option Nat).map ad)]) (n := 1) (Nat.le_of_ble_eq_true rfl)
    rw [lg_entry_eq]
    generalize (lg_sl ([va_rf ((none : Option Nat).map ad)]) ++ List.replicate (1 - (lg_sl ([va_rf ((none : Option Nat).map ad)])).length) Slot.unset).toArray = ls at hl ⊢
    have hl : lv_has ls 1 [(0, .null)] := hl
    refine lv_aload_nN hx hb dX1_sortOf_0 rfl (lv_at hl 0 rfl) ?_
    refine lv_ifnonnullN hx hb dX1_sortOf_1 ?_
    refine lv_iconst (v := (-1)) hx hb dX1_sortOf_4 (by decide) ?_
    refine lv_goto (tgt := 12) hx hb dX1_sortOf_5 (by decide) ?_
    exact W.iret (v := (-1)) hx hb hr (fun t ht hW => ⟨_, rfl, by first | rfl | (simp [hy_sort, *]; done) | ((try simp only [lg_cmp_lt, lg_cmp_ge, lg_cmp_le, lg_cmp_gt, lg_cmp_eq] at *); simp only [hy_sort, *, ↓reduceIte, if_false, if_true, not_false_eq_true, not_true_eq_false]; done) | (simp_all [hy_sort]; done), ht⟩) (fun q h => nomatch h) dX1_sortOf_12
  | some r =>
    have hrw : r ≤ hy_nr S := ho r rfl
    have hl := lv_entry ([va_rf ((some r).map ad)]) (n := 1) (Nat.le_of_ble_eq_true rfl)
    rw [lg_entry_eq]
    generalize (lg_sl ([va_rf ((some r).map ad)]) ++ List.replicate (1 - (lg_sl ([va_rf ((some r).map ad)])).length) Slot.unset).toArray = ls at hl ⊢
    have hl : lv_has ls 1 [(0, .ref (ad r))] := hl
    refine lv_aload_n hx hb dX1_sortOf_0 rfl (lv_at hl 0 rfl) ?_
    refine lv_ifnonnull (tgt := 8) hx hb dX1_sortOf_1 (by decide) ?_
    refine lv_aload_n hx hb dX1_sortOf_8 rfl (lv_at hl 0 rfl) ?_
    refine va_get (D := D) (ci := 0) (v := .int (hy_so S r)) (C := RX0) (T := TX0) (N := 2) hx hb hts hinX0 hown hK hP (5 + r) (hy_W_row hrw) rfl 0 (by decide) (hts (.fieldLink RX1 83 "HiveYard$Content" "sort" "I") (by decide +kernel)) (fun _ h9 => h9) rfl dX1_sortOf_9 ?_
    exact W.iret (v := (hy_so S r)) hx hb hr (fun t ht hW => ⟨_, rfl, by first | rfl | (simp [hy_sort, *]; done) | ((try simp only [lg_cmp_lt, lg_cmp_ge, lg_cmp_le, lg_cmp_gt, lg_cmp_eq] at *); simp only [hy_sort, *, ↓reduceIte, if_false, if_true, not_false_eq_true, not_true_eq_false]; done) | (simp_all [hy_sort]; done), ht⟩) (fun q h => nomatch h) dX1_sortOf_12
set_option maxHeartbeats 4000000 in
set_option maxRecDepth 100000 in
theorem c_X1_cellsIn (l : Launch) (D : va_G) (cI cJ cB : ClassId) (h b k w z : Nat) (ad ca : Nat → Nat) (S : hy_S) (o : Option Nat) (ho : ∀ r, o = some r → r ≤ hy_nr S) : Met l yX1_cellsIn wsX1_cellsIn ({ frames := 0, cells := 0, slots := 0, locals := 0 }) (va_Pc [va_rf (o.map ad)] (hy_I D cI cJ cB h b k w z ad ca S)) (vp_Si (fun v : Int32 => v = hy_len S o)) 0 0 (fun _ => False) := by
  refine Met.ofW (cc := cX1_cellsIn) (maxL := 1) (ret := (some .int)) (by decide) rfl ?_
  intro p e s m args below meth c s₁ B hml hv
  obtain ⟨rfl, hP, hK⟩ := hv
  have hx := B.exec
  have hb := B.bytes
  have hr := B.returns
  have hts := atoms_spec (ws := wsX1_cellsIn) B.pre
  have hown : s.vm.findClass RX1 = some m.cls := findClass_of_methodNamed B.named
  have hlocks := B.notSynchronized
  have hinX0 : ∀ w ∈ wsX00, w ∈ wsX1_cellsIn := by decide +kernel
  cases o with
  | none =>
    have hl := lv_entry ([va_rf ((none : Option Nat).map ad)]) (n := 1) (Nat.le_of_ble_eq_true rfl)
    rw [lg_entry_eq]
    generalize (lg_sl ([va_rf ((none : Option Nat).map ad)]) ++ List.replicate (1 - (lg_sl ([va_rf ((none : Option Nat).map ad)])).length) Slot.unset).toArray = ls at hl ⊢
    have hl : lv_has ls 1 [(0, .null)] := hl
    refine lv_aload_nN hx hb dX1_cellsIn_0 rfl (lv_at hl 0 rfl) ?_
    refine lv_ifnonnullN hx hb dX1_cellsIn_1 ?_
    refine lv_iconst (v := 0) hx hb dX1_cellsIn_4 (by decide) ?_
    refine lv_goto (tgt := 13) hx hb dX1_cellsIn_5 (by decide) ?_
    exact W.iret (v := 0) hx hb hr (fun t ht hW => ⟨_, rfl, by first | rfl | (simp [hy_len, *]; done) | ((try simp only [lg_cmp_lt, lg_cmp_ge, lg_cmp_le, lg_cmp_gt, lg_cmp_eq] at *); simp only [hy_len, *, ↓reduceIte, if_false, if_true, not_false_eq_true, not_true_eq_false]; done) | (simp_all [hy_len]; done), ht⟩) (fun q h => nomatch h) dX1_cellsIn_13
  | some r =>
    have hrw : r ≤ hy_nr S := ho r rfl
    have hl := lv_entry ([va_rf ((some r).map ad)]) (n := 1) (Nat.le_of_ble_eq_true rfl)
    rw [lg_entry_eq]
    generalize (lg_sl ([va_rf ((some r).map ad)]) ++ List.replicate (1 - (lg_sl ([va_rf ((some r).map ad)])).length) Slot.unset).toArray = ls at hl ⊢
    have hl : lv_has ls 1 [(0, .ref (ad r))] := hl
    refine lv_aload_n hx hb dX1_cellsIn_0 rfl (lv_at hl 0 rfl) ?_
    refine lv_ifnonnull (tgt := 8) hx hb dX1_cellsIn_1 (by decide) ?_
    refine lv_aload_n hx hb dX1_cellsIn_8 rfl (lv_at hl 0 rfl) ?_
    refine va_get (D := D) (ci := 0) (v := .ref (ca r)) (C := RX0) (T := TX0) (N := 2) hx hb hts hinX0 hown hK hP (5 + r) (hy_W_row hrw) rfl 1 (by decide) (hts (.fieldLink RX1 79 "HiveYard$Content" "cells" "[J") (by decide +kernel)) (fun _ h9 => h9) rfl dX1_cellsIn_9 ?_
    refine va_alen (v := (nI (hy_le S r))) hx hb hK hP (5 + (hy_nr S + 1 + r)) 1 (hy_W_arr hrw) rfl rfl dX1_cellsIn_12 ?_
    exact W.iret (v := (nI (hy_le S r))) hx hb hr (fun t ht hW => ⟨_, rfl, by first | rfl | (simp [hy_len, *]; done) | ((try simp only [lg_cmp_lt, lg_cmp_ge, lg_cmp_le, lg_cmp_gt, lg_cmp_eq] at *); simp only [hy_len, *, ↓reduceIte, if_false, if_true, not_false_eq_true, not_true_eq_false]; done) | (simp_all [hy_len]; done), ht⟩) (fun q h => nomatch h) dX1_cellsIn_13
set_option maxHeartbeats 4000000 in
set_option maxRecDepth 100000 in
theorem c_X1_takes (l : Launch) (a0 a1 : Int32) : Met l yX1_takes wsX1_takes ({ frames := 0, cells := 0, slots := 0, locals := 0 }) (va_Pc [.int a0, .int a1] (fun _ => True)) (vp_Si (fun v : Int32 => v = hy_takes a0 a1)) 0 0 (fun _ => False) := by
  refine Met.ofW (cc := cX1_takes) (maxL := 3) (ret := (some .boolean)) (by decide) rfl ?_
  intro p e s m args below meth c s₁ B hml hv
  obtain ⟨rfl, -⟩ := hv
  have hx := B.exec
  have hb := B.bytes
  have hr := B.returns
  have hts := atoms_spec (ws := wsX1_takes) B.pre
  have hown : s.vm.findClass RX1 = some m.cls := findClass_of_methodNamed B.named
  have hlocks := B.notSynchronized
  have hl := lv_entry ([.int a0, .int a1]) (n := 3) (Nat.le_of_ble_eq_true rfl)
  rw [lg_entry_eq]
  generalize (lg_sl ([.int a0, .int a1]) ++ List.replicate (3 - (lg_sl ([.int a0, .int a1])).length) Slot.unset).toArray = ls at hl ⊢
  have hl : lv_has ls 3 [(0, .int a0), (1, .int a1)] := hl
  refine lv_iload_n hx hb dX1_takes_0 rfl (lv_at hl 0 rfl) ?_
  refine lv_iconst (v := 4) hx hb dX1_takes_1 (by decide) ?_
  refine lv_isub hx hb dX1_takes_2 ?_
  refine lv_istore_n (lv' := [(2, .int (a0 - 4)), (0, .int a0), (1, .int a1)]) hx hb dX1_takes_3 rfl hl (by decide) rfl (fun ls hl => ?_)
  refine lv_iload_n hx hb dX1_takes_4 rfl (lv_at hl 0 rfl) ?_
  refine lv_if_eq (tgt := 23) hx hb dX1_takes_5 (by decide) (fun c_5 => ?_) (fun c_5 => ?_)
  · -- 23
    refine lv_iconst (v := 1) hx hb dX1_takes_23 (by decide) ?_
    refine lv_goto (tgt := 28) hx hb dX1_takes_24 (by decide) ?_
    exact W.zret (v := 1) (ty := .boolean) hx hb hr (by decide +kernel) (fun t ht hW => ⟨_, rfl, by first | rfl | (simp [hy_takes, *]; done) | ((try simp only [lg_cmp_lt, lg_cmp_ge, lg_cmp_le, lg_cmp_gt, lg_cmp_eq] at *); simp only [hy_takes, *, ↓reduceIte, if_false, if_true, not_false_eq_true, not_true_eq_false]; done) | (simp_all [hy_takes]; done), ht⟩) (fun q h => nomatch h) dX1_takes_28
  · -- 8
    refine lv_iload_n hx hb dX1_takes_8 rfl (lv_at hl 0 rfl) ?_
    refine lv_iload_n hx hb dX1_takes_9 rfl (lv_at hl 2 rfl) ?_
    refine lv_icmp_eq (tgt := 23) hx hb dX1_takes_10 (by decide) (fun c_10 => ?_) (fun c_10 => ?_)
    · -- 23
      refine lv_iconst (v := 1) hx hb dX1_takes_23 (by decide) ?_
      refine lv_goto (tgt := 28) hx hb dX1_takes_24 (by decide) ?_
      exact W.zret (v := 1) (ty := .boolean) hx hb hr (by decide +kernel) (fun t ht hW => ⟨_, rfl, by first | rfl | (simp [hy_takes, *]; done) | ((try simp only [lg_cmp_lt, lg_cmp_ge, lg_cmp_le, lg_cmp_gt, lg_cmp_eq] at *); simp only [hy_takes, *, ↓reduceIte, if_false, if_true, not_false_eq_true, not_true_eq_false]; done) | (simp_all [hy_takes]; done), ht⟩) (fun q h => nomatch h) dX1_takes_28
    · -- 13
      refine lv_iload_n hx hb dX1_takes_13 rfl (lv_at hl 0 rfl) ?_
      refine lv_iconst (v := 1) hx hb dX1_takes_14 (by decide) ?_
      refine lv_icmp_ne (tgt := 27) hx hb dX1_takes_15 (by decide) (fun c_15 => ?_) (fun c_15 => ?_)
      · -- 27
        refine lv_iconst (v := 0) hx hb dX1_takes_27 (by decide) ?_
        exact W.zret (v := 0) (ty := .boolean) hx hb hr (by decide +kernel) (fun t ht hW => ⟨_, rfl, by first | rfl | (simp [hy_takes, *]; done) | ((try simp only [lg_cmp_lt, lg_cmp_ge, lg_cmp_le, lg_cmp_gt, lg_cmp_eq] at *); simp only [hy_takes, *, ↓reduceIte, if_false, if_true, not_false_eq_true, not_true_eq_false]; done) | (simp_all [hy_takes]; done), ht⟩) (fun q h => nomatch h) dX1_takes_28
      · -- 18
        refine lv_iload_n hx hb dX1_takes_18 rfl (lv_at hl 2 rfl) ?_
        refine lv_iconst (v := 3) hx hb dX1_takes_19 (by decide) ?_
        refine lv_icmp_ne (tgt := 27) hx hb dX1_takes_20 (by decide) (fun c_20 => ?_) (fun c_20 => ?_)
        · -- 27
          refine lv_iconst (v := 0) hx hb dX1_takes_27 (by decide) ?_
          exact W.zret (v := 0) (ty := .boolean) hx hb hr (by decide +kernel) (fun t ht hW => ⟨_, rfl, by first | rfl | (simp [hy_takes, *]; done) | ((try simp only [lg_cmp_lt, lg_cmp_ge, lg_cmp_le, lg_cmp_gt, lg_cmp_eq] at *); simp only [hy_takes, *, ↓reduceIte, if_false, if_true, not_false_eq_true, not_true_eq_false]; done) | (simp_all [hy_takes]; done), ht⟩) (fun q h => nomatch h) dX1_takes_28
        · -- 23
          refine lv_iconst (v := 1) hx hb dX1_takes_23 (by decide) ?_
          refine lv_goto (tgt := 28) hx hb dX1_takes_24 (by decide) ?_
          exact W.zret (v := 1) (ty := .boolean) hx hb hr (by decide +kernel) (fun t ht hW => ⟨_, rfl, by first | rfl | (simp [hy_takes, *]; done) | ((try simp only [lg_cmp_lt, lg_cmp_ge, lg_cmp_le, lg_cmp_gt, lg_cmp_eq] at *); simp only [hy_takes, *, ↓reduceIte, if_false, if_true, not_false_eq_true, not_true_eq_false]; done) | (simp_all [hy_takes]; done), ht⟩) (fun q h => nomatch h) dX1_takes_28
set_option maxHeartbeats 4000000 in
set_option maxRecDepth 100000 in
theorem c_X1_lowestBits (l : Launch) (a0 : Int32) (a1 : Int64) : Met l yX1_lowestBits wsX1_lowestBits ({ frames := 0, cells := 0, slots := 0, locals := 0 }) (va_Pc [.int a0, .long a1] (fun _ => True)) (vp_Sl (fun v : Int64 => v = hy_low a0 a1)) 0 0 (fun _ => False) := by
  refine Met.ofW (cc := cX1_lowestBits) (maxL := 3) (ret := (some .long)) (by decide) rfl ?_
  intro p e s m args below meth c s₁ B hml hv
  obtain ⟨rfl, -⟩ := hv
  have hx := B.exec
  have hb := B.bytes
  have hr := B.returns
  have hts := atoms_spec (ws := wsX1_lowestBits) B.pre
  have hown : s.vm.findClass RX1 = some m.cls := findClass_of_methodNamed B.named
  have hlocks := B.notSynchronized
  have hl := lv_entry ([.int a0, .long a1]) (n := 3) (Nat.le_of_ble_eq_true rfl)
  rw [lg_entry_eq]
  generalize (lg_sl ([.int a0, .long a1]) ++ List.replicate (3 - (lg_sl ([.int a0, .long a1])).length) Slot.unset).toArray = ls at hl ⊢
  have hl : lv_has ls 3 [(0, .int a0), (1, .long a1)] := hl
  refine lv_iload_n hx hb dX1_lowestBits_0 rfl (lv_at hl 0 rfl) ?_
  by_cases s_1_0 : a0 = 0
  · refine lv_tableIn (tgt := 32) hx hb dX1_lowestBits_1 (by rw [s_1_0]; decide) (by rw [s_1_0]; decide) (by rw [s_1_0]; rfl) (by decide) ?_
    refine lv_lload_n hx hb dX1_lowestBits_32 rfl (lv_at hl 1 rfl) ?_
    refine lv_l2i (v := a1.toInt32) hx hb dX1_lowestBits_33 rfl ?_
    refine lv_i2l (v := a1.toInt32.toInt64) hx hb dX1_lowestBits_34 rfl ?_
    exact W.lret (v := a1.toInt32.toInt64) hx hb hr (fun t ht hW => ⟨_, rfl, by first | rfl | (simp [hy_low, *]; done) | ((try simp only [lg_cmp_lt, lg_cmp_ge, lg_cmp_le, lg_cmp_gt, lg_cmp_eq] at *); simp only [hy_low, *, ↓reduceIte, if_false, if_true, not_false_eq_true, not_true_eq_false]; done) | (simp_all [hy_low]; done), ht⟩) (fun q h => nomatch h) dX1_lowestBits_35
  by_cases s_1_1 : a0 = 1
  · refine lv_tableIn (tgt := 46) hx hb dX1_lowestBits_1 (by rw [s_1_1]; decide) (by rw [s_1_1]; decide) (by rw [s_1_1]; rfl) (by decide) ?_
    refine lv_lload_n hx hb dX1_lowestBits_46 rfl (lv_at hl 1 rfl) ?_
    exact W.lret (v := a1) hx hb hr (fun t ht hW => ⟨_, rfl, by first | rfl | (simp [hy_low, *]; done) | ((try simp only [lg_cmp_lt, lg_cmp_ge, lg_cmp_le, lg_cmp_gt, lg_cmp_eq] at *); simp only [hy_low, *, ↓reduceIte, if_false, if_true, not_false_eq_true, not_true_eq_false]; done) | (simp_all [hy_low]; done), ht⟩) (fun q h => nomatch h) dX1_lowestBits_47
  by_cases s_1_2 : a0 = 2
  · refine lv_tableIn (tgt := 36) hx hb dX1_lowestBits_1 (by rw [s_1_2]; decide) (by rw [s_1_2]; decide) (by rw [s_1_2]; rfl) (by decide) ?_
    refine lv_lload_n hx hb dX1_lowestBits_36 rfl (lv_at hl 1 rfl) ?_
    refine lv_l2i (v := a1.toInt32) hx hb dX1_lowestBits_37 rfl ?_
    refine lv_i2s (v := a1.toInt32.toInt16.toInt32) hx hb dX1_lowestBits_38 rfl ?_
    refine lv_i2l (v := a1.toInt32.toInt16.toInt32.toInt64) hx hb dX1_lowestBits_39 rfl ?_
    exact W.lret (v := a1.toInt32.toInt16.toInt32.toInt64) hx hb hr (fun t ht hW => ⟨_, rfl, by first | rfl | (simp [hy_low, *]; done) | ((try simp only [lg_cmp_lt, lg_cmp_ge, lg_cmp_le, lg_cmp_gt, lg_cmp_eq] at *); simp only [hy_low, *, ↓reduceIte, if_false, if_true, not_false_eq_true, not_true_eq_false]; done) | (simp_all [hy_low]; done), ht⟩) (fun q h => nomatch h) dX1_lowestBits_40
  by_cases s_1_3 : a0 = 3
  · refine lv_tableIn (tgt := 41) hx hb dX1_lowestBits_1 (by rw [s_1_3]; decide) (by rw [s_1_3]; decide) (by rw [s_1_3]; rfl) (by decide) ?_
    refine lv_lload_n hx hb dX1_lowestBits_41 rfl (lv_at hl 1 rfl) ?_
    refine lv_l2i (v := a1.toInt32) hx hb dX1_lowestBits_42 rfl ?_
    refine lv_i2b (v := a1.toInt32.toInt8.toInt32) hx hb dX1_lowestBits_43 rfl ?_
    refine lv_i2l (v := a1.toInt32.toInt8.toInt32.toInt64) hx hb dX1_lowestBits_44 rfl ?_
    exact W.lret (v := a1.toInt32.toInt8.toInt32.toInt64) hx hb hr (fun t ht hW => ⟨_, rfl, by first | rfl | (simp [hy_low, *]; done) | ((try simp only [lg_cmp_lt, lg_cmp_ge, lg_cmp_le, lg_cmp_gt, lg_cmp_eq] at *); simp only [hy_low, *, ↓reduceIte, if_false, if_true, not_false_eq_true, not_true_eq_false]; done) | (simp_all [hy_low]; done), ht⟩) (fun q h => nomatch h) dX1_lowestBits_45
  refine lv_tableOut (tgt := 46) hx hb dX1_lowestBits_1 (hy_tout0_3 s_1_0 s_1_1 s_1_2 s_1_3) (by decide) ?_
  refine lv_lload_n hx hb dX1_lowestBits_46 rfl (lv_at hl 1 rfl) ?_
  exact W.lret (v := a1) hx hb hr (fun t ht hW => ⟨_, rfl, by first | rfl | (simp [hy_low, *]; done) | ((try simp only [lg_cmp_lt, lg_cmp_ge, lg_cmp_le, lg_cmp_gt, lg_cmp_eq] at *); simp only [hy_low, *, ↓reduceIte, if_false, if_true, not_false_eq_true, not_true_eq_false]; done) | (simp_all [hy_low]; done), ht⟩) (fun q h => nomatch h) dX1_lowestBits_47
set_option maxHeartbeats 4000000 in
set_option maxRecDepth 100000 in
theorem c_X1_isComb (l : Launch) (D : va_G) (cI cJ cB : ClassId) (h b k w z : Nat) (ad ca : Nat → Nat) (S : hy_S) (a1 : Int64) : Met l yX1_isComb wsX1_isComb ({ frames := 0, cells := 0, slots := 0, locals := 0 }) (va_Pc [.ref h, .long a1] (hy_I D cI cJ cB h b k w z ad ca S)) (vp_Si (fun v : Int32 => v = hy_isComb S a1)) 0 0 (fun _ => False) := by
  refine Met.ofW (cc := cX1_isComb) (maxL := 3) (ret := (some .boolean)) (by decide) rfl ?_
  intro p e s m args below meth c s₁ B hml hv
  obtain ⟨rfl, hP, hK⟩ := hv
  have hx := B.exec
  have hb := B.bytes
  have hr := B.returns
  have hts := atoms_spec (ws := wsX1_isComb) B.pre
  have hown : s.vm.findClass RX1 = some m.cls := findClass_of_methodNamed B.named
  have hlocks := B.notSynchronized
  have hinX1 : ∀ w ∈ wsX10, w ∈ wsX1_isComb := by decide +kernel
  have hl := lv_entry ([.ref h, .long a1]) (n := 3) (Nat.le_of_ble_eq_true rfl)
  rw [lg_entry_eq]
  generalize (lg_sl ([.ref h, .long a1]) ++ List.replicate (3 - (lg_sl ([.ref h, .long a1])).length) Slot.unset).toArray = ls at hl ⊢
  have hl : lv_has ls 3 [(0, .ref h), (1, .long a1)] := hl
  refine lv_lload_n hx hb dX1_isComb_0 rfl (lv_at hl 1 rfl) ?_
  refine lv_lconst (v := 0) hx hb dX1_isComb_1 (by decide) ?_
  refine W.lcmp hx hb dX1_isComb_2 ?_
  refine lv_if_lt (tgt := 20) hx hb dX1_isComb_3 (by decide) (fun c_3 => ?_) (fun c_3 => ?_)
  · -- 20
    refine lv_iconst (v := 0) hx hb dX1_isComb_20 (by decide) ?_
    exact W.zret (v := 0) (ty := .boolean) hx hb hr (by decide +kernel) (fun t ht hW => ⟨_, rfl, by first | rfl | (simp [hy_isComb, *]; done) | ((try simp only [lg_cmp_lt, lg_cmp_ge, lg_cmp_le, lg_cmp_gt, lg_cmp_eq] at *); simp only [hy_isComb, *, ↓reduceIte, if_false, if_true, not_false_eq_true, not_true_eq_false]; done) | (simp_all [hy_isComb]; done), ht⟩) (fun q h => nomatch h) dX1_isComb_21
  · -- 6
    refine lv_lload_n hx hb dX1_isComb_6 rfl (lv_at hl 1 rfl) ?_
    refine lv_aload_n hx hb dX1_isComb_7 rfl (lv_at hl 0 rfl) ?_
    refine va_get (D := D) (ci := 1) (v := .int (nI (hy_nc S))) (C := RX1) (T := TX1) (N := 10) hx hb hts hinX1 hown hK hP 0 rfl rfl 6 (by decide) (hts (.fieldLink RX1 96 "HiveYard" "combsMade" "I") (by decide +kernel)) (fun _ h9 => h9) rfl dX1_isComb_8 ?_
    refine lv_i2l (v := (nI (hy_nc S)).toInt64) hx hb dX1_isComb_11 rfl ?_
    refine W.lcmp hx hb dX1_isComb_12 ?_
    refine lv_if_ge (tgt := 20) hx hb dX1_isComb_13 (by decide) (fun c_13 => ?_) (fun c_13 => ?_)
    · -- 20
      refine lv_iconst (v := 0) hx hb dX1_isComb_20 (by decide) ?_
      exact W.zret (v := 0) (ty := .boolean) hx hb hr (by decide +kernel) (fun t ht hW => ⟨_, rfl, by first | rfl | (simp [hy_isComb, *]; done) | ((try simp only [lg_cmp_lt, lg_cmp_ge, lg_cmp_le, lg_cmp_gt, lg_cmp_eq] at *); simp only [hy_isComb, *, ↓reduceIte, if_false, if_true, not_false_eq_true, not_true_eq_false]; done) | (simp_all [hy_isComb]; done), ht⟩) (fun q h => nomatch h) dX1_isComb_21
    · -- 16
      refine lv_iconst (v := 1) hx hb dX1_isComb_16 (by decide) ?_
      refine lv_goto (tgt := 21) hx hb dX1_isComb_17 (by decide) ?_
      exact W.zret (v := 1) (ty := .boolean) hx hb hr (by decide +kernel) (fun t ht hW => ⟨_, rfl, by first | rfl | (simp [hy_isComb, *]; done) | ((try simp only [lg_cmp_lt, lg_cmp_ge, lg_cmp_le, lg_cmp_gt, lg_cmp_eq] at *); simp only [hy_isComb, *, ↓reduceIte, if_false, if_true, not_false_eq_true, not_true_eq_false]; done) | (simp_all [hy_isComb]; done), ht⟩) (fun q h => nomatch h) dX1_isComb_21
set_option maxHeartbeats 4000000 in
set_option maxRecDepth 100000 in
theorem c_X1_areUnlike (l : Launch) (D : va_G) (cI cJ cB : ClassId) (h b k w z : Nat) (ad ca : Nat → Nat) (S : hy_S) (r1 r2 : Nat) (h1 : r1 ≤ hy_nr S) (h2 : r2 ≤ hy_nr S) : Met l yX1_areUnlike wsX1_areUnlike ({ frames := 2, cells := 0, slots := 0, locals := 40 }) (va_Pc [.ref (ad r1), .ref (ad r2)] (hy_I D cI cJ cB h b k w z ad ca S)) (vp_Si (fun v : Int32 => v = hy_unlike S r1 r2)) 0 0 (fun _ => False) := by
  refine Met.ofW (cc := cX1_areUnlike) (maxL := 2) (ret := (some .boolean)) (by decide) rfl ?_
  intro p e s m args below meth c s₁ B hml hv
  obtain ⟨rfl, hP, hK⟩ := hv
  have hx := B.exec
  have hb := B.bytes
  have hr := B.returns
  have hts := atoms_spec (ws := wsX1_areUnlike) B.pre
  have hown : s.vm.findClass RX1 = some m.cls := findClass_of_methodNamed B.named
  have hlocks := B.notSynchronized
  have hinX0 : ∀ w ∈ wsX00, w ∈ wsX1_areUnlike := by decide +kernel
  have hl := lv_entry ([.ref (ad r1), .ref (ad r2)]) (n := 2) (Nat.le_of_ble_eq_true rfl)
  rw [lg_entry_eq]
  generalize (lg_sl ([.ref (ad r1), .ref (ad r2)]) ++ List.replicate (2 - (lg_sl ([.ref (ad r1), .ref (ad r2)])).length) Slot.unset).toArray = ls at hl ⊢
  have hl : lv_has ls 2 [(0, .ref (ad r1)), (1, .ref (ad r2))] := hl
  refine lv_aload_n hx hb dX1_areUnlike_0 rfl (lv_at hl 0 rfl) ?_
  refine va_get (D := D) (ci := 0) (v := .int (hy_so S r1)) (C := RX0) (T := TX0) (N := 2) hx hb hts hinX0 hown hK hP (5 + r1) (hy_W_row h1) rfl 0 (by decide) (hts (.fieldLink RX1 83 "HiveYard$Content" "sort" "I") (by decide +kernel)) (fun _ h9 => h9) rfl dX1_areUnlike_1 ?_
  refine lv_aload_n hx hb dX1_areUnlike_4 rfl (lv_at hl 1 rfl) ?_
  refine va_get (D := D) (ci := 0) (v := .int (hy_so S r2)) (C := RX0) (T := TX0) (N := 2) hx hb hts hinX0 hown hK hP (5 + r2) (hy_W_row h2) rfl 0 (by decide) (hts (.fieldLink RX1 83 "HiveYard$Content" "sort" "I") (by decide +kernel)) (fun _ h9 => h9) rfl dX1_areUnlike_5 ?_
  refine lv_icmp_eq (tgt := 29) hx hb dX1_areUnlike_8 (by decide) (fun c_8 => ?_) (fun c_8 => ?_)
  · -- 29
    refine lv_iconst (v := 0) hx hb dX1_areUnlike_29 (by decide) ?_
    exact W.zret (v := 0) (ty := .boolean) hx hb hr (by decide +kernel) (fun t ht hW => ⟨_, rfl, by first | rfl | (simp [hy_unlike, *]; done) | ((try simp only [lg_cmp_lt, lg_cmp_ge, lg_cmp_le, lg_cmp_gt, lg_cmp_eq] at *); simp only [hy_unlike, *, ↓reduceIte, if_false, if_true, not_false_eq_true, not_true_eq_false]; done) | (simp_all [hy_unlike]; done), ht⟩) (fun q h => nomatch h) dX1_areUnlike_30
  · -- 11
    refine lv_aload_n hx hb dX1_areUnlike_11 rfl (lv_at hl 0 rfl) ?_
    refine vp_callSi (W.runS (As := [.ref (ad r1)]) (rest := []) ⟨hx, hb, hml, hown, hts⟩ (c_X1_isCombs l D cI cJ cB h b k w z ad ca S (some r1) (fun _ q => by cases q; exact h1)) (va_cwS 1 hts gX1_areUnlike_X1_isCombs rfl rfl rfl (by decide +kernel) ⟨Nat.le_of_ble_eq_true rfl, Nat.le_of_ble_eq_true rfl⟩) ⟨hy_I_blind, fun U hU hW => ⟨rfl, hy_I_at hU hW hP hK⟩⟩ rfl rfl hl.1 rfl (lv_room (Nat.le_of_ble_eq_true rfl)) dX1_areUnlike_12 ⟨Nat.le_of_ble_eq_true rfl, Nat.le_of_ble_eq_true rfl⟩) (fun v9 e9 => ?_)
    subst e9
    refine lv_if_eq (tgt := 25) hx hb dX1_areUnlike_15 (by decide) (fun c_15 => ?_) (fun c_15 => ?_)
    · -- 25
      refine lv_iconst (v := 1) hx hb dX1_areUnlike_25 (by decide) ?_
      refine lv_goto (tgt := 30) hx hb dX1_areUnlike_26 (by decide) ?_
      exact W.zret (v := 1) (ty := .boolean) hx hb hr (by decide +kernel) (fun t ht hW => ⟨_, rfl, by first | rfl | (simp [hy_unlike, *]; done) | ((try simp only [lg_cmp_lt, lg_cmp_ge, lg_cmp_le, lg_cmp_gt, lg_cmp_eq] at *); simp only [hy_unlike, *, ↓reduceIte, if_false, if_true, not_false_eq_true, not_true_eq_false]; done) | (simp_all [hy_unlike]; done), ht⟩) (fun q h => nomatch h) dX1_areUnlike_30
    · -- 18
      refine lv_aload_n hx hb dX1_areUnlike_18 rfl (lv_at hl 1 rfl) ?_
      refine vp_callSi (W.runS (As := [.ref (ad r2)]) (rest := []) ⟨hx, hb, hml, hown, hts⟩ (c_X1_isCombs l D cI cJ cB h b k w z ad ca S (some r2) (fun _ q => by cases q; exact h2)) (va_cwS 1 hts gX1_areUnlike_X1_isCombs rfl rfl rfl (by decide +kernel) ⟨Nat.le_of_ble_eq_true rfl, Nat.le_of_ble_eq_true rfl⟩) ⟨hy_I_blind, fun U hU hW => ⟨rfl, hy_I_at hU hW hP hK⟩⟩ rfl rfl hl.1 rfl (lv_room (Nat.le_of_ble_eq_true rfl)) dX1_areUnlike_19 ⟨Nat.le_of_ble_eq_true rfl, Nat.le_of_ble_eq_true rfl⟩) (fun v9 e9 => ?_)
      subst e9
      refine lv_if_ne (tgt := 29) hx hb dX1_areUnlike_22 (by decide) (fun c_22 => ?_) (fun c_22 => ?_)
      · -- 29
        refine lv_iconst (v := 0) hx hb dX1_areUnlike_29 (by decide) ?_
        exact W.zret (v := 0) (ty := .boolean) hx hb hr (by decide +kernel) (fun t ht hW => ⟨_, rfl, by first | rfl | (simp [hy_unlike, *]; done) | ((try simp only [lg_cmp_lt, lg_cmp_ge, lg_cmp_le, lg_cmp_gt, lg_cmp_eq] at *); simp only [hy_unlike, *, ↓reduceIte, if_false, if_true, not_false_eq_true, not_true_eq_false]; done) | (simp_all [hy_unlike]; done), ht⟩) (fun q h => nomatch h) dX1_areUnlike_30
      · -- 25
        refine lv_iconst (v := 1) hx hb dX1_areUnlike_25 (by decide) ?_
        refine lv_goto (tgt := 30) hx hb dX1_areUnlike_26 (by decide) ?_
        exact W.zret (v := 1) (ty := .boolean) hx hb hr (by decide +kernel) (fun t ht hW => ⟨_, rfl, by first | rfl | (simp [hy_unlike, *]; done) | ((try simp only [lg_cmp_lt, lg_cmp_ge, lg_cmp_le, lg_cmp_gt, lg_cmp_eq] at *); simp only [hy_unlike, *, ↓reduceIte, if_false, if_true, not_false_eq_true, not_true_eq_false]; done) | (simp_all [hy_unlike]; done), ht⟩) (fun q h => nomatch h) dX1_areUnlike_30
set_option maxHeartbeats 4000000 in
set_option maxRecDepth 100000 in
theorem c_X1_isOutside (l : Launch) (D : va_G) (cI cJ cB : ClassId) (h b k w z : Nat) (ad ca : Nat → Nat) (S : hy_S) (r : Nat) (hr0 : r ≤ hy_nr S) (a1 a2 : Int32) : Met l yX1_isOutside wsX1_isOutside ({ frames := 0, cells := 0, slots := 0, locals := 0 }) (va_Pc [.ref (ad r), .int a1, .int a2] (hy_I D cI cJ cB h b k w z ad ca S)) (vp_Si (fun v : Int32 => v = hy_out S r a1 a2)) 0 0 (fun _ => False) := by
  refine Met.ofW (cc := cX1_isOutside) (maxL := 3) (ret := (some .boolean)) (by decide) rfl ?_
  intro p e s m args below meth c s₁ B hml hv
  obtain ⟨rfl, hP, hK⟩ := hv
  have hx := B.exec
  have hb := B.bytes
  have hr := B.returns
  have hts := atoms_spec (ws := wsX1_isOutside) B.pre
  have hown : s.vm.findClass RX1 = some m.cls := findClass_of_methodNamed B.named
  have hlocks := B.notSynchronized
  have hinX0 : ∀ w ∈ wsX00, w ∈ wsX1_isOutside := by decide +kernel
  have hl := lv_entry ([.ref (ad r), .int a1, .int a2]) (n := 3) (Nat.le_of_ble_eq_true rfl)
  rw [lg_entry_eq]
  generalize (lg_sl ([.ref (ad r), .int a1, .int a2]) ++ List.replicate (3 - (lg_sl ([.ref (ad r), .int a1, .int a2])).length) Slot.unset).toArray = ls at hl ⊢
  have hl : lv_has ls 3 [(0, .ref (ad r)), (1, .int a1), (2, .int a2)] := hl
  refine lv_iload_n hx hb dX1_isOutside_0 rfl (lv_at hl 1 rfl) ?_
  refine lv_if_lt (tgt := 23) hx hb dX1_isOutside_1 (by decide) (fun c_1 => ?_) (fun c_1 => ?_)
  · -- 23
    refine lv_iconst (v := 1) hx hb dX1_isOutside_23 (by decide) ?_
    refine lv_goto (tgt := 28) hx hb dX1_isOutside_24 (by decide) ?_
    exact W.zret (v := 1) (ty := .boolean) hx hb hr (by decide +kernel) (fun t ht hW => ⟨_, rfl, by first | rfl | (simp [hy_out, *]; done) | ((try simp only [lg_cmp_lt, lg_cmp_ge, lg_cmp_le, lg_cmp_gt, lg_cmp_eq] at *); simp only [hy_out, *, ↓reduceIte, if_false, if_true, not_false_eq_true, not_true_eq_false]; done) | (simp_all [hy_out]; done), ht⟩) (fun q h => nomatch h) dX1_isOutside_28
  · -- 4
    refine lv_iload_n hx hb dX1_isOutside_4 rfl (lv_at hl 2 rfl) ?_
    refine lv_if_lt (tgt := 23) hx hb dX1_isOutside_5 (by decide) (fun c_5 => ?_) (fun c_5 => ?_)
    · -- 23
      refine lv_iconst (v := 1) hx hb dX1_isOutside_23 (by decide) ?_
      refine lv_goto (tgt := 28) hx hb dX1_isOutside_24 (by decide) ?_
      exact W.zret (v := 1) (ty := .boolean) hx hb hr (by decide +kernel) (fun t ht hW => ⟨_, rfl, by first | rfl | (simp [hy_out, *]; done) | ((try simp only [lg_cmp_lt, lg_cmp_ge, lg_cmp_le, lg_cmp_gt, lg_cmp_eq] at *); simp only [hy_out, *, ↓reduceIte, if_false, if_true, not_false_eq_true, not_true_eq_false]; done) | (simp_all [hy_out]; done), ht⟩) (fun q h => nomatch h) dX1_isOutside_28
    · -- 8
      refine lv_iload_n hx hb dX1_isOutside_8 rfl (lv_at hl 1 rfl) ?_
      refine lv_i2l (v := a1.toInt64) hx hb dX1_isOutside_9 rfl ?_
      refine lv_iload_n hx hb dX1_isOutside_10 rfl (lv_at hl 2 rfl) ?_
      refine lv_i2l (v := a2.toInt64) hx hb dX1_isOutside_11 rfl ?_
      refine lv_ladd hx hb dX1_isOutside_12 ?_
      refine lv_aload_n hx hb dX1_isOutside_13 rfl (lv_at hl 0 rfl) ?_
      refine va_get (D := D) (ci := 0) (v := .ref (ca r)) (C := RX0) (T := TX0) (N := 2) hx hb hts hinX0 hown hK hP (5 + r) (hy_W_row hr0) rfl 1 (by decide) (hts (.fieldLink RX1 79 "HiveYard$Content" "cells" "[J") (by decide +kernel)) (fun _ h9 => h9) rfl dX1_isOutside_14 ?_
      refine va_alen (v := (nI (hy_le S r))) hx hb hK hP (5 + (hy_nr S + 1 + r)) 1 (hy_W_arr hr0) rfl rfl dX1_isOutside_17 ?_
      refine lv_i2l (v := (nI (hy_le S r)).toInt64) hx hb dX1_isOutside_18 rfl ?_
      refine W.lcmp hx hb dX1_isOutside_19 ?_
      refine lv_if_le (tgt := 27) hx hb dX1_isOutside_20 (by decide) (fun c_20 => ?_) (fun c_20 => ?_)
      · -- 27
        refine lv_iconst (v := 0) hx hb dX1_isOutside_27 (by decide) ?_
        exact W.zret (v := 0) (ty := .boolean) hx hb hr (by decide +kernel) (fun t ht hW => ⟨_, rfl, by first | rfl | (simp [hy_out, *]; done) | ((try simp only [lg_cmp_lt, lg_cmp_ge, lg_cmp_le, lg_cmp_gt, lg_cmp_eq] at *); simp only [hy_out, *, ↓reduceIte, if_false, if_true, not_false_eq_true, not_true_eq_false]; done) | (simp_all [hy_out]; done), ht⟩) (fun q h => nomatch h) dX1_isOutside_28
      · -- 23
        refine lv_iconst (v := 1) hx hb dX1_isOutside_23 (by decide) ?_
        refine lv_goto (tgt := 28) hx hb dX1_isOutside_24 (by decide) ?_
        exact W.zret (v := 1) (ty := .boolean) hx hb hr (by decide +kernel) (fun t ht hW => ⟨_, rfl, by first | rfl | (simp [hy_out, *]; done) | ((try simp only [lg_cmp_lt, lg_cmp_ge, lg_cmp_le, lg_cmp_gt, lg_cmp_eq] at *); simp only [hy_out, *, ↓reduceIte, if_false, if_true, not_false_eq_true, not_true_eq_false]; done) | (simp_all [hy_out]; done), ht⟩) (fun q h => nomatch h) dX1_isOutside_28
set_option maxHeartbeats 4000000 in
set_option maxRecDepth 100000 in
theorem c_X1_moved (l : Launch) (D : va_G) (cI cJ cB : ClassId) (h b k w z : Nat) (ad ca : Nat → Nat) (S : hy_S)  : Met l yX1_moved wsX1_moved ({ frames := 0, cells := 0, slots := 0, locals := 0 }) (va_Pc [.ref h] (hy_I D cI cJ cB h b k w z ad ca S)) (vp_Si (fun v : Int32 => v = hy_lm S)) 0 0 (fun _ => False) := by
  refine Met.ofW (cc := cX1_moved) (maxL := 1) (ret := (some .int)) (by decide) rfl ?_
  intro p e s m args below meth c s₁ B hml hv
  obtain ⟨rfl, hP, hK⟩ := hv
  have hx := B.exec
  have hb := B.bytes
  have hr := B.returns
  have hts := atoms_spec (ws := wsX1_moved) B.pre
  have hown : s.vm.findClass RX1 = some m.cls := findClass_of_methodNamed B.named
  have hlocks := B.notSynchronized
  have hinX1 : ∀ w ∈ wsX10, w ∈ wsX1_moved := by decide +kernel
  have hl := lv_entry ([.ref h]) (n := 1) (Nat.le_of_ble_eq_true rfl)
  rw [lg_entry_eq]
  generalize (lg_sl ([.ref h]) ++ List.replicate (1 - (lg_sl ([.ref h])).length) Slot.unset).toArray = ls at hl ⊢
  have hl : lv_has ls 1 [(0, .ref h)] := hl
  refine lv_aload_n hx hb dX1_moved_0 rfl (lv_at hl 0 rfl) ?_
  refine va_get (D := D) (ci := 1) (v := .int (hy_lm S)) (C := RX1) (T := TX1) (N := 10) hx hb hts hinX1 hown hK hP 0 rfl rfl 8 (by decide) (hts (.fieldLink RX1 120 "HiveYard" "latestMoved" "I") (by decide +kernel)) (fun _ h9 => h9) rfl dX1_moved_1 ?_
  exact W.iret (v := (hy_lm S)) hx hb hr (fun t ht hW => ⟨_, rfl, by first | rfl | (simp [*]; done) | ((try simp only [lg_cmp_lt, lg_cmp_ge, lg_cmp_le, lg_cmp_gt, lg_cmp_eq] at *); simp only [*, ↓reduceIte, if_false, if_true, not_false_eq_true, not_true_eq_false]; done) | (simp_all []; done), ht⟩) (fun q h => nomatch h) dX1_moved_4
set_option maxHeartbeats 4000000 in
set_option maxRecDepth 100000 in
theorem c_X1_countOfEnd (l : Launch) (D : va_G) (cI cJ cB : ClassId) (h b k w z : Nat) (ad ca : Nat → Nat) (S : hy_S) (a1 : Int32) : Met l yX1_countOfEnd wsX1_countOfEnd ({ frames := 0, cells := 0, slots := 0, locals := 0 }) (va_Pc [.ref h, .int a1] (hy_I D cI cJ cB h b k w z ad ca S)) (vp_Si (fun v : Int32 => v = hy_cend S a1)) 0 0 (fun _ => False) := by
  refine Met.ofW (cc := cX1_countOfEnd) (maxL := 2) (ret := (some .int)) (by decide) rfl ?_
  intro p e s m args below meth c s₁ B hml hv
  obtain ⟨rfl, hP, hK⟩ := hv
  have hx := B.exec
  have hb := B.bytes
  have hr := B.returns
  have hts := atoms_spec (ws := wsX1_countOfEnd) B.pre
  have hown : s.vm.findClass RX1 = some m.cls := findClass_of_methodNamed B.named
  have hlocks := B.notSynchronized
  have hinX1 : ∀ w ∈ wsX10, w ∈ wsX1_countOfEnd := by decide +kernel
  have hl := lv_entry ([.ref h, .int a1]) (n := 2) (Nat.le_of_ble_eq_true rfl)
  rw [lg_entry_eq]
  generalize (lg_sl ([.ref h, .int a1]) ++ List.replicate (2 - (lg_sl ([.ref h, .int a1])).length) Slot.unset).toArray = ls at hl ⊢
  have hl : lv_has ls 2 [(0, .ref h), (1, .int a1)] := hl
  refine lv_iload_n hx hb dX1_countOfEnd_0 rfl (lv_at hl 1 rfl) ?_
  refine lv_iconst (v := 2) hx hb dX1_countOfEnd_1 (by decide) ?_
  refine lv_icmp_le (tgt := 11) hx hb dX1_countOfEnd_2 (by decide) (fun c_2 => ?_) (fun c_2 => ?_)
  · -- 11
    refine lv_iconst (v := (-1)) hx hb dX1_countOfEnd_11 (by decide) ?_
    exact W.iret (v := (-1)) hx hb hr (fun t ht hW => ⟨_, rfl, by first | rfl | (simp [hy_cend, *]; done) | ((try simp only [lg_cmp_lt, lg_cmp_ge, lg_cmp_le, lg_cmp_gt, lg_cmp_eq] at *); simp only [hy_cend, *, ↓reduceIte, if_false, if_true, not_false_eq_true, not_true_eq_false]; done) | (simp_all [hy_cend]; done), ht⟩) (fun q h => nomatch h) dX1_countOfEnd_12
  · -- 5
    refine lv_iload_n hx hb dX1_countOfEnd_5 rfl (lv_at hl 1 rfl) ?_
    refine lv_bipush (v := 8) hx hb dX1_countOfEnd_6 (by decide) ?_
    refine lv_icmp_lt (tgt := 13) hx hb dX1_countOfEnd_8 (by decide) (fun c_8 => ?_) (fun c_8 => ?_)
    · -- 13
      refine lv_aload_n hx hb dX1_countOfEnd_13 rfl (lv_at hl 0 rfl) ?_
      refine va_get (D := D) (ci := 1) (v := .ref z) (C := RX1) (T := TX1) (N := 10) hx hb hts hinX1 hown hK hP 0 rfl rfl 4 (by decide) (hts (.fieldLink RX1 29 "HiveYard" "movesByEnd" "[I") (by decide +kernel)) (fun _ h9 => h9) rfl dX1_countOfEnd_14 ?_
      refine lv_iload_n hx hb dX1_countOfEnd_17 rfl (lv_at hl 1 rfl) ?_
      refine lv_iconst (v := 2) hx hb dX1_countOfEnd_18 (by decide) ?_
      refine lv_isub hx hb dX1_countOfEnd_19 ?_
      refine va_iald hx hb hK hP 4 0 rfl rfl (hy_cend_in c_2 c_8) dX1_countOfEnd_20 ?_
      exact W.iret (v := ((hy_en S) (a1 - 2).toNatClampNeg)) hx hb hr (fun t ht hW => ⟨_, rfl, by first | rfl | (simp [hy_cend, *]; done) | ((try simp only [lg_cmp_lt, lg_cmp_ge, lg_cmp_le, lg_cmp_gt, lg_cmp_eq] at *); simp only [hy_cend, *, ↓reduceIte, if_false, if_true, not_false_eq_true, not_true_eq_false]; done) | (simp_all [hy_cend]; done), ht⟩) (fun q h => nomatch h) dX1_countOfEnd_21
    · -- 11
      refine lv_iconst (v := (-1)) hx hb dX1_countOfEnd_11 (by decide) ?_
      exact W.iret (v := (-1)) hx hb hr (fun t ht hW => ⟨_, rfl, by first | rfl | (simp [hy_cend, *]; done) | ((try simp only [lg_cmp_lt, lg_cmp_ge, lg_cmp_le, lg_cmp_gt, lg_cmp_eq] at *); simp only [hy_cend, *, ↓reduceIte, if_false, if_true, not_false_eq_true, not_true_eq_false]; done) | (simp_all [hy_cend]; done), ht⟩) (fun q h => nomatch h) dX1_countOfEnd_12
set_option maxHeartbeats 4000000 in
set_option maxRecDepth 100000 in
theorem c_X1_count (l : Launch) (D : va_G) (cI cJ cB : ClassId) (h b k w z : Nat) (ad ca : Nat → Nat) (S : hy_S) (a1 : Int32) : Met l yX1_count wsX1_count ({ frames := 1, cells := 0, slots := 0, locals := 21 }) (va_Pc [.ref h, .int a1] (hy_I D cI cJ cB h b k w z ad ca S)) (vp_Si (fun v : Int32 => v = hy_count S a1)) 0 0 (fun _ => False) := by
  refine Met.ofW (cc := cX1_count) (maxL := 2) (ret := (some .int)) (by decide) rfl ?_
  intro p e s m args below meth c s₁ B hml hv
  obtain ⟨rfl, hP, hK⟩ := hv
  have hx := B.exec
  have hb := B.bytes
  have hr := B.returns
  have hts := atoms_spec (ws := wsX1_count) B.pre
  have hown : s.vm.findClass RX1 = some m.cls := findClass_of_methodNamed B.named
  have hlocks := B.notSynchronized
  have hinX1 : ∀ w ∈ wsX10, w ∈ wsX1_count := by decide +kernel
  have hl := lv_entry ([.ref h, .int a1]) (n := 2) (Nat.le_of_ble_eq_true rfl)
  rw [lg_entry_eq]
  generalize (lg_sl ([.ref h, .int a1]) ++ List.replicate (2 - (lg_sl ([.ref h, .int a1])).length) Slot.unset).toArray = ls at hl ⊢
  have hl : lv_has ls 2 [(0, .ref h), (1, .int a1)] := hl
  refine lv_iload_n hx hb dX1_count_0 rfl (lv_at hl 1 rfl) ?_
  by_cases s_1_0 : a1 = 0
  · refine lv_tableIn (tgt := 52) hx hb dX1_count_1 (by rw [s_1_0]; decide) (by rw [s_1_0]; decide) (by rw [s_1_0]; rfl) (by decide) ?_
    refine lv_aload_n hx hb dX1_count_52 rfl (lv_at hl 0 rfl) ?_
    refine va_get (D := D) (ci := 1) (v := .int (nI (hy_nr S))) (C := RX1) (T := TX1) (N := 10) hx hb hts hinX1 hown hK hP 0 rfl rfl 5 (by decide) (hts (.fieldLink RX1 45 "HiveYard" "rowsMade" "I") (by decide +kernel)) (fun _ h9 => h9) rfl dX1_count_53 ?_
    exact W.iret (v := (nI (hy_nr S))) hx hb hr (fun t ht hW => ⟨_, rfl, by first | rfl | (simp [hy_count, *]; done) | ((try simp only [lg_cmp_lt, lg_cmp_ge, lg_cmp_le, lg_cmp_gt, lg_cmp_eq] at *); simp only [hy_count, *, ↓reduceIte, if_false, if_true, not_false_eq_true, not_true_eq_false]; done) | (simp_all [hy_count]; done), ht⟩) (fun q h => nomatch h) dX1_count_56
  by_cases s_1_1 : a1 = 1
  · refine lv_tableIn (tgt := 57) hx hb dX1_count_1 (by rw [s_1_1]; decide) (by rw [s_1_1]; decide) (by rw [s_1_1]; rfl) (by decide) ?_
    refine lv_aload_n hx hb dX1_count_57 rfl (lv_at hl 0 rfl) ?_
    refine va_get (D := D) (ci := 1) (v := .int (nI (hy_nc S))) (C := RX1) (T := TX1) (N := 10) hx hb hts hinX1 hown hK hP 0 rfl rfl 6 (by decide) (hts (.fieldLink RX1 96 "HiveYard" "combsMade" "I") (by decide +kernel)) (fun _ h9 => h9) rfl dX1_count_58 ?_
    exact W.iret (v := (nI (hy_nc S))) hx hb hr (fun t ht hW => ⟨_, rfl, by first | rfl | (simp [hy_count, *]; done) | ((try simp only [lg_cmp_lt, lg_cmp_ge, lg_cmp_le, lg_cmp_gt, lg_cmp_eq] at *); simp only [hy_count, *, ↓reduceIte, if_false, if_true, not_false_eq_true, not_true_eq_false]; done) | (simp_all [hy_count]; done), ht⟩) (fun q h => nomatch h) dX1_count_61
  by_cases s_1_2 : a1 = 2
  · refine lv_tableIn (tgt := 62) hx hb dX1_count_1 (by rw [s_1_2]; decide) (by rw [s_1_2]; decide) (by rw [s_1_2]; rfl) (by decide) ?_
    refine lv_aload_n hx hb dX1_count_62 rfl (lv_at hl 0 rfl) ?_
    refine va_get (D := D) (ci := 1) (v := .int (hy_mo S)) (C := RX1) (T := TX1) (N := 10) hx hb hts hinX1 hown hK hP 0 rfl rfl 7 (by decide) (hts (.fieldLink RX1 142 "HiveYard" "movesMade" "I") (by decide +kernel)) (fun _ h9 => h9) rfl dX1_count_63 ?_
    exact W.iret (v := (hy_mo S)) hx hb hr (fun t ht hW => ⟨_, rfl, by first | rfl | (simp [hy_count, *]; done) | ((try simp only [lg_cmp_lt, lg_cmp_ge, lg_cmp_le, lg_cmp_gt, lg_cmp_eq] at *); simp only [hy_count, *, ↓reduceIte, if_false, if_true, not_false_eq_true, not_true_eq_false]; done) | (simp_all [hy_count]; done), ht⟩) (fun q h => nomatch h) dX1_count_66
  by_cases s_1_3 : a1 = 3
  · refine lv_tableIn (tgt := 72) hx hb dX1_count_1 (by rw [s_1_3]; decide) (by rw [s_1_3]; decide) (by rw [s_1_3]; rfl) (by decide) ?_
    refine lv_aload_n hx hb dX1_count_72 rfl (lv_at hl 0 rfl) ?_
    refine lv_iload_n hx hb dX1_count_73 rfl (lv_at hl 1 rfl) ?_
    refine vp_callSi (W.runV (As := [.int a1]) (rest := []) ⟨hx, hb, hml, hown, hts⟩ (c_X1_countOfEnd l D cI cJ cB h b k w z ad ca S a1) (cwV 1 hts gX1_count_X1_countOfEnd rfl rfl rfl (by decide +kernel) ⟨Nat.le_of_ble_eq_true rfl, Nat.le_of_ble_eq_true rfl⟩) ⟨hy_I_blind, va_recv hK hP (ci := 1) (q0 := 0) rfl rfl, fun U hU hW => ⟨rfl, hy_I_at hU hW hP hK⟩⟩ rfl rfl hl.1 rfl (lv_room (Nat.le_of_ble_eq_true rfl)) dX1_count_74 ⟨Nat.le_of_ble_eq_true rfl, Nat.le_of_ble_eq_true rfl⟩) (fun v9 e9 => ?_)
    subst e9
    exact W.iret (v := (hy_cend S a1)) hx hb hr (fun t ht hW => ⟨_, rfl, by first | rfl | (simp [hy_count, *]; done) | ((try simp only [lg_cmp_lt, lg_cmp_ge, lg_cmp_le, lg_cmp_gt, lg_cmp_eq] at *); simp only [hy_count, *, ↓reduceIte, if_false, if_true, not_false_eq_true, not_true_eq_false]; done) | (simp_all [hy_count]; done), ht⟩) (fun q h => nomatch h) dX1_count_77
  by_cases s_1_4 : a1 = 4
  · refine lv_tableIn (tgt := 72) hx hb dX1_count_1 (by rw [s_1_4]; decide) (by rw [s_1_4]; decide) (by rw [s_1_4]; rfl) (by decide) ?_
    refine lv_aload_n hx hb dX1_count_72 rfl (lv_at hl 0 rfl) ?_
    refine lv_iload_n hx hb dX1_count_73 rfl (lv_at hl 1 rfl) ?_
    refine vp_callSi (W.runV (As := [.int a1]) (rest := []) ⟨hx, hb, hml, hown, hts⟩ (c_X1_countOfEnd l D cI cJ cB h b k w z ad ca S a1) (cwV 1 hts gX1_count_X1_countOfEnd rfl rfl rfl (by decide +kernel) ⟨Nat.le_of_ble_eq_true rfl, Nat.le_of_ble_eq_true rfl⟩) ⟨hy_I_blind, va_recv hK hP (ci := 1) (q0 := 0) rfl rfl, fun U hU hW => ⟨rfl, hy_I_at hU hW hP hK⟩⟩ rfl rfl hl.1 rfl (lv_room (Nat.le_of_ble_eq_true rfl)) dX1_count_74 ⟨Nat.le_of_ble_eq_true rfl, Nat.le_of_ble_eq_true rfl⟩) (fun v9 e9 => ?_)
    subst e9
    exact W.iret (v := (hy_cend S a1)) hx hb hr (fun t ht hW => ⟨_, rfl, by first | rfl | (simp [hy_count, *]; done) | ((try simp only [lg_cmp_lt, lg_cmp_ge, lg_cmp_le, lg_cmp_gt, lg_cmp_eq] at *); simp only [hy_count, *, ↓reduceIte, if_false, if_true, not_false_eq_true, not_true_eq_false]; done) | (simp_all [hy_count]; done), ht⟩) (fun q h => nomatch h) dX1_count_77
  by_cases s_1_5 : a1 = 5
  · refine lv_tableIn (tgt := 72) hx hb dX1_count_1 (by rw [s_1_5]; decide) (by rw [s_1_5]; decide) (by rw [s_1_5]; rfl) (by decide) ?_
    refine lv_aload_n hx hb dX1_count_72 rfl (lv_at hl 0 rfl) ?_
    refine lv_iload_n hx hb dX1_count_73 rfl (lv_at hl 1 rfl) ?_
    refine vp_callSi (W.runV (As := [.int a1]) (rest := []) ⟨hx, hb, hml, hown, hts⟩ (c_X1_countOfEnd l D cI cJ cB h b k w z ad ca S a1) (cwV 1 hts gX1_count_X1_countOfEnd rfl rfl rfl (by decide +kernel) ⟨Nat.le_of_ble_eq_true rfl, Nat.le_of_ble_eq_true rfl⟩) ⟨hy_I_blind, va_recv hK hP (ci := 1) (q0 := 0) rfl rfl, fun U hU hW => ⟨rfl, hy_I_at hU hW hP hK⟩⟩ rfl rfl hl.1 rfl (lv_room (Nat.le_of_ble_eq_true rfl)) dX1_count_74 ⟨Nat.le_of_ble_eq_true rfl, Nat.le_of_ble_eq_true rfl⟩) (fun v9 e9 => ?_)
    subst e9
    exact W.iret (v := (hy_cend S a1)) hx hb hr (fun t ht hW => ⟨_, rfl, by first | rfl | (simp [hy_count, *]; done) | ((try simp only [lg_cmp_lt, lg_cmp_ge, lg_cmp_le, lg_cmp_gt, lg_cmp_eq] at *); simp only [hy_count, *, ↓reduceIte, if_false, if_true, not_false_eq_true, not_true_eq_false]; done) | (simp_all [hy_count]; done), ht⟩) (fun q h => nomatch h) dX1_count_77
  by_cases s_1_6 : a1 = 6
  · refine lv_tableIn (tgt := 72) hx hb dX1_count_1 (by rw [s_1_6]; decide) (by rw [s_1_6]; decide) (by rw [s_1_6]; rfl) (by decide) ?_
    refine lv_aload_n hx hb dX1_count_72 rfl (lv_at hl 0 rfl) ?_
    refine lv_iload_n hx hb dX1_count_73 rfl (lv_at hl 1 rfl) ?_
    refine vp_callSi (W.runV (As := [.int a1]) (rest := []) ⟨hx, hb, hml, hown, hts⟩ (c_X1_countOfEnd l D cI cJ cB h b k w z ad ca S a1) (cwV 1 hts gX1_count_X1_countOfEnd rfl rfl rfl (by decide +kernel) ⟨Nat.le_of_ble_eq_true rfl, Nat.le_of_ble_eq_true rfl⟩) ⟨hy_I_blind, va_recv hK hP (ci := 1) (q0 := 0) rfl rfl, fun U hU hW => ⟨rfl, hy_I_at hU hW hP hK⟩⟩ rfl rfl hl.1 rfl (lv_room (Nat.le_of_ble_eq_true rfl)) dX1_count_74 ⟨Nat.le_of_ble_eq_true rfl, Nat.le_of_ble_eq_true rfl⟩) (fun v9 e9 => ?_)
    subst e9
    exact W.iret (v := (hy_cend S a1)) hx hb hr (fun t ht hW => ⟨_, rfl, by first | rfl | (simp [hy_count, *]; done) | ((try simp only [lg_cmp_lt, lg_cmp_ge, lg_cmp_le, lg_cmp_gt, lg_cmp_eq] at *); simp only [hy_count, *, ↓reduceIte, if_false, if_true, not_false_eq_true, not_true_eq_false]; done) | (simp_all [hy_count]; done), ht⟩) (fun q h => nomatch h) dX1_count_77
  by_cases s_1_7 : a1 = 7
  · refine lv_tableIn (tgt := 72) hx hb dX1_count_1 (by rw [s_1_7]; decide) (by rw [s_1_7]; decide) (by rw [s_1_7]; rfl) (by decide) ?_
    refine lv_aload_n hx hb dX1_count_72 rfl (lv_at hl 0 rfl) ?_
    refine lv_iload_n hx hb dX1_count_73 rfl (lv_at hl 1 rfl) ?_
    refine vp_callSi (W.runV (As := [.int a1]) (rest := []) ⟨hx, hb, hml, hown, hts⟩ (c_X1_countOfEnd l D cI cJ cB h b k w z ad ca S a1) (cwV 1 hts gX1_count_X1_countOfEnd rfl rfl rfl (by decide +kernel) ⟨Nat.le_of_ble_eq_true rfl, Nat.le_of_ble_eq_true rfl⟩) ⟨hy_I_blind, va_recv hK hP (ci := 1) (q0 := 0) rfl rfl, fun U hU hW => ⟨rfl, hy_I_at hU hW hP hK⟩⟩ rfl rfl hl.1 rfl (lv_room (Nat.le_of_ble_eq_true rfl)) dX1_count_74 ⟨Nat.le_of_ble_eq_true rfl, Nat.le_of_ble_eq_true rfl⟩) (fun v9 e9 => ?_)
    subst e9
    exact W.iret (v := (hy_cend S a1)) hx hb hr (fun t ht hW => ⟨_, rfl, by first | rfl | (simp [hy_count, *]; done) | ((try simp only [lg_cmp_lt, lg_cmp_ge, lg_cmp_le, lg_cmp_gt, lg_cmp_eq] at *); simp only [hy_count, *, ↓reduceIte, if_false, if_true, not_false_eq_true, not_true_eq_false]; done) | (simp_all [hy_count]; done), ht⟩) (fun q h => nomatch h) dX1_count_77
  by_cases s_1_8 : a1 = 8
  · refine lv_tableIn (tgt := 67) hx hb dX1_count_1 (by rw [s_1_8]; decide) (by rw [s_1_8]; decide) (by rw [s_1_8]; rfl) (by decide) ?_
    refine lv_aload_n hx hb dX1_count_67 rfl (lv_at hl 0 rfl) ?_
    refine va_get (D := D) (ci := 1) (v := .int (hy_pm S)) (C := RX1) (T := TX1) (N := 10) hx hb hts hinX1 hown hK hP 0 rfl rfl 9 (by decide) (hts (.fieldLink RX1 145 "HiveYard" "placesMoved" "I") (by decide +kernel)) (fun _ h9 => h9) rfl dX1_count_68 ?_
    exact W.iret (v := (hy_pm S)) hx hb hr (fun t ht hW => ⟨_, rfl, by first | rfl | (simp [hy_count, *]; done) | ((try simp only [lg_cmp_lt, lg_cmp_ge, lg_cmp_le, lg_cmp_gt, lg_cmp_eq] at *); simp only [hy_count, *, ↓reduceIte, if_false, if_true, not_false_eq_true, not_true_eq_false]; done) | (simp_all [hy_count]; done), ht⟩) (fun q h => nomatch h) dX1_count_71
  refine lv_tableOut (tgt := 72) hx hb dX1_count_1 (hy_tout0_8 s_1_0 s_1_1 s_1_2 s_1_3 s_1_4 s_1_5 s_1_6 s_1_7 s_1_8) (by decide) ?_
  refine lv_aload_n hx hb dX1_count_72 rfl (lv_at hl 0 rfl) ?_
  refine lv_iload_n hx hb dX1_count_73 rfl (lv_at hl 1 rfl) ?_
  refine vp_callSi (W.runV (As := [.int a1]) (rest := []) ⟨hx, hb, hml, hown, hts⟩ (c_X1_countOfEnd l D cI cJ cB h b k w z ad ca S a1) (cwV 1 hts gX1_count_X1_countOfEnd rfl rfl rfl (by decide +kernel) ⟨Nat.le_of_ble_eq_true rfl, Nat.le_of_ble_eq_true rfl⟩) ⟨hy_I_blind, va_recv hK hP (ci := 1) (q0 := 0) rfl rfl, fun U hU hW => ⟨rfl, hy_I_at hU hW hP hK⟩⟩ rfl rfl hl.1 rfl (lv_room (Nat.le_of_ble_eq_true rfl)) dX1_count_74 ⟨Nat.le_of_ble_eq_true rfl, Nat.le_of_ble_eq_true rfl⟩) (fun v9 e9 => ?_)
  subst e9
  exact W.iret (v := (hy_cend S a1)) hx hb hr (fun t ht hW => ⟨_, rfl, by first | rfl | (simp [hy_count, *]; done) | ((try simp only [lg_cmp_lt, lg_cmp_ge, lg_cmp_le, lg_cmp_gt, lg_cmp_eq] at *); simp only [hy_count, *, ↓reduceIte, if_false, if_true, not_false_eq_true, not_true_eq_false]; done) | (simp_all [hy_count]; done), ht⟩) (fun q h => nomatch h) dX1_count_77
end
section
/-! Premises of the contracts that may throw, and their calls. -/
def hy_IX (D : va_G) (cI cJ cB : ClassId) (h b k w z : Nat) (ad ca : Nat → Nat) (S : hy_S) (U : State) : Prop := hy_I D cI cJ cB h b k w z ad ca S U ∧ hy_E U ∧ hy_Z (fun q => U.heap.size ≤ q) U U.heap
theorem hy_IX_blind {D : va_G} {cI cJ cB : ClassId} {h b k w z : Nat} {ad ca : Nat → Nat} {S : hy_S} {av : List Value} : FrameBlind (va_Pc av (hy_IX D cI cJ cB h b k w z ad ca S)) :=
  fun a U g mk q => ⟨q.1, ⟨q.2.1.1, va_K.moved (u := U) (U := U.calling g mk a) (Vm.Alike.refl U.vm) q.2.1.2⟩, hy_E.same rfl q.2.2.1, hy_Z.same rfl q.2.2.2⟩
theorem hy_IX_at {D : va_G} {cI cJ cB : ClassId} {h b k w z : Nat} {ad ca : Nat → Nat} {S : hy_S} {s U : State} (hU : U.heap = s.heap) (hW : s.WarmedH U.vm) (hP : va_P D vwCl (hy_W cI cJ cB h b k w z ad ca S) s.heap) (hK : va_K D vwCl (hy_T cI cJ cB) s) (hE : hy_E s) (hZ : hy_Z (fun q => s.heap.size ≤ q) s s.heap) : hy_IX D cI cJ cB h b k w z ad ca S U :=
  ⟨hy_I_at hU hW hP hK, hE.warm hW, hZ.at va_S.rf (fun _ q => q) hU hW⟩
def hy_ok (a : Int32) : Prop := ¬ a < 0 ∧ a < 12
theorem hy_ok_in {a : Int32} (h : hy_ok a) : vp_in a 12 := by
  rw [vp_in_iff]
  have e1 : ¬ a.toInt < 0 := fun q => h.1 (Int32.lt_iff_toInt_lt.mpr q)
  have e2 : a.toInt < 12 := Int32.lt_iff_toInt_lt.mp h.2
  omega
/-- a place of row r -/
def hy_pl (S : hy_S) (r : Nat) (a : Int32) : Prop := ¬ a < 0 ∧ a < nI (hy_le S r)
theorem hy_pl_in {S : hy_S} {r : Nat} {a : Int32} (hw : hy_wf S) (h : hy_pl S r a) : vp_in a (hy_le S r) := by
  rw [vp_in_iff]
  have h24 := hw.2.2.2.2.2.1 r
  have e1 : ¬ a.toInt < 0 := fun q => h.1 (Int32.lt_iff_toInt_lt.mpr q)
  have e2 : a.toInt < (nI (hy_le S r)).toInt := Int32.lt_iff_toInt_lt.mp h.2
  rw [nI_toInt (by omega)] at e2
  omega
/-- which exception of a list: the code that the law gives it -/
def hy_nm (L : List String) (k : Int32) (E : String) : Prop := ∃ j : Nat, L[j]? = some E ∧ k = nI (j + 1)
section HYT
variable {p : Program} {l : Launch} {e : Env} {R : Room} {s : State} {m : MethodId} {args : Array Value} {below : List Frame} {meth : Method} {c : Code} {cells slots : Nat}
variable {mc ms mc9 ms9 : Nat} {free : Addr → Prop} {pc : Nat} {ls : Array Slot} {st0 rest : List Value} {Qc : Array Value → State → Outcome → State → Prop} {P P9 : String → Prop} {a : Array Value}
theorem hy_thruv {post : Unit → Prop} (hr : vx_Run p l e R s m args below meth c s.heap [] cells slots mc ms (F0 m pc ls st0) rest (va_Sv post a) (hy_X P) (fun _ => False))
    (hno : ∀ x ∈ c.exceptionTable.toList, False) (hlocks : meth.locks = false) (hP : ∀ E, P E → P9 E) (hc : cells + mc ≤ mc9) (hs : slots + ms ≤ ms9)
    (kk : post () → W p l e R s m args below meth c s.heap [] (cells + mc) (slots + ms) (vx_MQ below Qc (hy_X P9) args s mc9 ms9 free) (F0 m (pc + 3) ls rest)) :
    W p l e R s m args below meth c s.heap [] cells slots (vx_MQ below Qc (hy_X P9) args s mc9 ms9 free) (F0 m pc ls st0) := by
  refine hy_thru hr (fun st v t q => q.2.2) hno hlocks hP hc hs (fun v st t q => ?_)
  obtain ⟨h1, h2, -⟩ := q
  cases h1
  exact kk h2
theorem hy_thruq {post : Option Nat → Prop} (hr : vx_Run p l e R s m args below meth c s.heap [] cells slots mc ms (F0 m pc ls st0) rest (va_Sq post a) (hy_X P) (fun _ => False))
    (hno : ∀ x ∈ c.exceptionTable.toList, False) (hlocks : meth.locks = false) (hP : ∀ E, P E → P9 E) (hc : cells + mc ≤ mc9) (hs : slots + ms ≤ ms9)
    (kk : ∀ r : Option Nat, post r → W p l e R s m args below meth c s.heap [] (cells + mc) (slots + ms) (vx_MQ below Qc (hy_X P9) args s mc9 ms9 free) (F0 m (pc + 3) ls (va_rf r :: rest))) :
    W p l e R s m args below meth c s.heap [] cells slots (vx_MQ below Qc (hy_X P9) args s mc9 ms9 free) (F0 m pc ls st0) := by
  refine hy_thru hr (fun st v t q => by obtain ⟨r, -, -, h⟩ := q; exact h) hno hlocks hP hc hs (fun v st t q => ?_)
  obtain ⟨r, h1, h2, -⟩ := q
  cases h1
  exact kk r h2
end HYT
end
section
/-! THE CLASS: readers that may throw. Rows laid by gen.py, specs_x.py. -/
set_option maxHeartbeats 4000000 in
set_option maxRecDepth 100000 in
theorem c_X1_requireBox (l : Launch) (D : va_G) (cI cJ cB : ClassId) (h b k w z : Nat) (ad ca : Nat → Nat) (S : hy_S) (hl9 : l.stackTraces = false) (a0 : Int32) : vx_Met l yX1_requireBox wsX1_requireBox ({ frames := 6, cells := 1, slots := 6, locals := 90 }) (va_Pc [.int a0] (hy_IX D cI cJ cB h b k w z ad ca S)) (va_Sv (fun _ => hy_ok a0)) (hy_X (fun E => E = "java/lang/IndexOutOfBoundsException" ∧ ¬ hy_ok a0)) 1 6 (fun _ => False) := by
  refine vx_ofW (cc := cX1_requireBox) (maxL := 1) (ret := none) (by decide) rfl ?_
  intro p e s m args below meth c s₁ B hml hno hv
  obtain ⟨rfl, ⟨hP, hK⟩, hE, hZ⟩ := hv
  have hx := B.exec
  have hb := B.bytes
  have hr := B.returns
  have hts := atoms_spec (ws := wsX1_requireBox) B.pre
  have hown : s.vm.findClass RX1 = some m.cls := findClass_of_methodNamed B.named
  have hlocks := B.notSynchronized
  have hl := lv_entry ([.int a0]) (n := 1) (Nat.le_of_ble_eq_true rfl)
  rw [lg_entry_eq]
  generalize (lg_sl ([.int a0]) ++ List.replicate (1 - (lg_sl ([.int a0])).length) Slot.unset).toArray = ls at hl ⊢
  have hl : lv_has ls 1 [(0, .int a0)] := hl
  refine lv_iload_n hx hb dX1_requireBox_0 rfl (lv_at hl 0 rfl) ?_
  refine lv_if_lt (tgt := 10) hx hb dX1_requireBox_1 (by decide) (fun c_1 => ?_) (fun c_1 => ?_)
  · -- 10
    exact hy_throw (cls := "java/lang/IndexOutOfBoundsException") (text := "no such box") (ik := 152) (is := 154) (ic := 156) hx hb hl9 hts hown hE hZ (by decide +kernel) (by decide +kernel) (by decide +kernel) (by decide +kernel) (by decide +kernel) (by decide +kernel) (by decide +kernel) (hl.1.trans hml.symm) dX1_requireBox_10 dX1_requireBox_13 dX1_requireBox_14 dX1_requireBox_16 dX1_requireBox_19 hno hlocks ⟨Nat.le_of_ble_eq_true rfl, Nat.le_of_ble_eq_true rfl⟩ (Nat.le_of_ble_eq_true rfl) (Nat.le_of_ble_eq_true rfl) (Nat.le_of_ble_eq_true rfl) (Nat.le_of_ble_eq_true rfl) (Nat.le_of_ble_eq_true rfl) (⟨rfl, fun q => by first | exact q.1 c_1 | exact c_7 q.2⟩)
  · -- 4
    refine lv_iload_n hx hb dX1_requireBox_4 rfl (lv_at hl 0 rfl) ?_
    refine lv_bipush (v := 12) hx hb dX1_requireBox_5 (by decide) ?_
    refine lv_icmp_lt (tgt := 20) hx hb dX1_requireBox_7 (by decide) (fun c_7 => ?_) (fun c_7 => ?_)
    · -- 20
      exact vx_ret (W.widen (k := 1) (n := 6) (by decide) (by decide) (W.vret hx hb hr (fun t ht hW => ⟨rfl, ⟨c_1, c_7⟩, ht⟩) (fun q h => nomatch h) dX1_requireBox_20))
    · -- 10
      exact hy_throw (cls := "java/lang/IndexOutOfBoundsException") (text := "no such box") (ik := 152) (is := 154) (ic := 156) hx hb hl9 hts hown hE hZ (by decide +kernel) (by decide +kernel) (by decide +kernel) (by decide +kernel) (by decide +kernel) (by decide +kernel) (by decide +kernel) (hl.1.trans hml.symm) dX1_requireBox_10 dX1_requireBox_13 dX1_requireBox_14 dX1_requireBox_16 dX1_requireBox_19 hno hlocks ⟨Nat.le_of_ble_eq_true rfl, Nat.le_of_ble_eq_true rfl⟩ (Nat.le_of_ble_eq_true rfl) (Nat.le_of_ble_eq_true rfl) (Nat.le_of_ble_eq_true rfl) (Nat.le_of_ble_eq_true rfl) (Nat.le_of_ble_eq_true rfl) (⟨rfl, fun q => by first | exact q.1 c_1 | exact c_7 q.2⟩)
set_option maxHeartbeats 4000000 in
set_option maxRecDepth 100000 in
theorem c_X1_contentOf (l : Launch) (D : va_G) (cI cJ cB : ClassId) (h b k w z : Nat) (ad ca : Nat → Nat) (S : hy_S) (hl9 : l.stackTraces = false) (a1 : Int32) : vx_Met l yX1_contentOf wsX1_contentOf ({ frames := 7, cells := 1, slots := 6, locals := 110 }) (va_Pc [.ref h, .int a1] (hy_IX D cI cJ cB h b k w z ad ca S)) (va_Sq (fun r9 => r9 = (hy_bx S a1.toNatClampNeg).map ad ∧ hy_ok a1)) (hy_X (fun E => E = "java/lang/IndexOutOfBoundsException" ∧ ¬ hy_ok a1)) 1 6 (fun _ => False) := by
  refine vx_ofW (cc := cX1_contentOf) (maxL := 2) (ret := (some (.object "HiveYard$Content"))) (by decide) rfl ?_
  intro p e s m args below meth c s₁ B hml hno hv
  obtain ⟨rfl, ⟨hP, hK⟩, hE, hZ⟩ := hv
  have hx := B.exec
  have hb := B.bytes
  have hr := B.returns
  have hts := atoms_spec (ws := wsX1_contentOf) B.pre
  have hown : s.vm.findClass RX1 = some m.cls := findClass_of_methodNamed B.named
  have hlocks := B.notSynchronized
  have hinX1 : ∀ w ∈ wsX10, w ∈ wsX1_contentOf := by decide +kernel
  have hl := lv_entry ([.ref h, .int a1]) (n := 2) (Nat.le_of_ble_eq_true rfl)
  rw [lg_entry_eq]
  generalize (lg_sl ([.ref h, .int a1]) ++ List.replicate (2 - (lg_sl ([.ref h, .int a1])).length) Slot.unset).toArray = ls at hl ⊢
  have hl : lv_has ls 2 [(0, .ref h), (1, .int a1)] := hl
  refine lv_iload_n hx hb dX1_contentOf_0 rfl (lv_at hl 1 rfl) ?_
  refine hy_thruv (vx_runS (As := [.int a1]) (rest := []) ⟨hx, hb, hml, hown, hts⟩ (c_X1_requireBox l D cI cJ cB h b k w z ad ca S hl9 a1) (va_cwS 1 hts gX1_contentOf_X1_requireBox rfl rfl rfl (by decide +kernel) ⟨Nat.le_of_ble_eq_true rfl, Nat.le_of_ble_eq_true rfl⟩) ⟨hy_IX_blind, fun U hU hW => ⟨rfl, hy_IX_at hU hW hP hK hE hZ⟩⟩ rfl rfl hl.1 rfl (lv_room (Nat.le_of_ble_eq_true rfl)) dX1_contentOf_1 ⟨Nat.le_of_ble_eq_true rfl, Nat.le_of_ble_eq_true rfl⟩) hno hlocks (fun _ q => q) (Nat.le_of_ble_eq_true rfl) (Nat.le_of_ble_eq_true rfl) (fun f_1 => ?_)
  refine lv_aload_n hx hb dX1_contentOf_4 rfl (lv_at hl 0 rfl) ?_
  refine va_get (D := D) (ci := 1) (v := .ref b) (C := RX1) (T := TX1) (N := 10) hx hb hts hinX1 hown hK hP 0 rfl rfl 0 (by decide) (hts (.fieldLink RX1 11 "HiveYard" "boxes" "[LHiveYard$Content;") (by decide +kernel)) (fun _ h9 => h9) rfl dX1_contentOf_5 ?_
  refine lv_iload_n hx hb dX1_contentOf_8 rfl (lv_at hl 1 rfl) ?_
  refine va_aldq hx hb hK hP 1 2 rfl rfl (hy_ok_in f_1) dX1_contentOf_9 ?_
  exact vx_ret (W.widen (k := 1) (n := 6) (by decide) (by decide) (W.aret (rt := .object "HiveYard$Content") hx hb hr (Or.inl ⟨_, rfl⟩) (va_rf_or _) (fun t ht hW => ⟨_, rfl, ⟨rfl, f_1⟩, ht⟩) (fun q h => nomatch h) dX1_contentOf_10))
set_option maxHeartbeats 4000000 in
set_option maxRecDepth 100000 in
theorem c_X1_requireRow (l : Launch) (D : va_G) (cI cJ cB : ClassId) (h b k w z : Nat) (ad ca : Nat → Nat) (S : hy_S) (hl9 : l.stackTraces = false) (o : Option Nat) (ho : ∀ r, o = some r → r ≤ hy_nr S) : vx_Met l yX1_requireRow wsX1_requireRow ({ frames := 6, cells := 1, slots := 6, locals := 90 }) (va_Pc [va_rf (o.map ad)] (hy_IX D cI cJ cB h b k w z ad ca S)) (va_Sv (fun _ => hy_isRow S o ≠ 0)) (hy_X (fun E => E = "java/lang/IllegalStateException" ∧ hy_isRow S o = 0)) 1 6 (fun _ => False) := by
  refine vx_ofW (cc := cX1_requireRow) (maxL := 1) (ret := none) (by decide) rfl ?_
  intro p e s m args below meth c s₁ B hml hno hv
  obtain ⟨rfl, ⟨hP, hK⟩, hE, hZ⟩ := hv
  have hx := B.exec
  have hb := B.bytes
  have hr := B.returns
  have hts := atoms_spec (ws := wsX1_requireRow) B.pre
  have hown : s.vm.findClass RX1 = some m.cls := findClass_of_methodNamed B.named
  have hlocks := B.notSynchronized
  cases o with
  | none =>
    have hl := lv_entry ([va_rf ((none : Option Nat).map ad)]) (n := 1) (Nat.le_of_ble_eq_true rfl)
    rw [lg_entry_eq]
    generalize (lg_sl ([va_rf ((none : Option Nat).map ad)]) ++ List.replicate (1 - (lg_sl ([va_rf ((none : Option Nat).map ad)])).length) Slot.unset).toArray = ls at hl ⊢
    have hl : lv_has ls 1 [(0, .null)] := hl
    refine lv_aload_nN hx hb dX1_requireRow_0 rfl (lv_at hl 0 rfl) ?_
    refine vp_callSi (W.runS (As := [.null]) (rest := []) ⟨hx, hb, hml, hown, hts⟩ (c_X1_isRow l D cI cJ cB h b k w z ad ca S none (fun _ q => nomatch q)) (va_cwS 1 hts gX1_requireRow_X1_isRow rfl rfl rfl (by decide +kernel) ⟨Nat.le_of_ble_eq_true rfl, Nat.le_of_ble_eq_true rfl⟩) ⟨hy_I_blind, fun U hU hW => ⟨rfl, hy_I_at hU hW hP hK⟩⟩ rfl rfl hl.1 rfl (lv_room (Nat.le_of_ble_eq_true rfl)) dX1_requireRow_1 ⟨Nat.le_of_ble_eq_true rfl, Nat.le_of_ble_eq_true rfl⟩) (fun v9 e9 => ?_)
    subst e9
    refine lv_if_ne (tgt := 17) hx hb dX1_requireRow_4 (by decide) (fun c9 => absurd c9 (fun c => c rfl)) (fun c_4 => ?_)
    exact hy_throw (cls := "java/lang/IllegalStateException") (text := "the box holds no row") (ik := 70) (is := 157) (ic := 74) hx hb hl9 hts hown hE hZ (by decide +kernel) (by decide +kernel) (by decide +kernel) (by decide +kernel) (by decide +kernel) (by decide +kernel) (by decide +kernel) (hl.1.trans hml.symm) dX1_requireRow_7 dX1_requireRow_10 dX1_requireRow_11 dX1_requireRow_13 dX1_requireRow_16 hno hlocks ⟨Nat.le_of_ble_eq_true rfl, Nat.le_of_ble_eq_true rfl⟩ (Nat.le_of_ble_eq_true rfl) (Nat.le_of_ble_eq_true rfl) (Nat.le_of_ble_eq_true rfl) (Nat.le_of_ble_eq_true rfl) (Nat.le_of_ble_eq_true rfl) (⟨rfl, c_4⟩)
  | some r =>
    have hrw : r ≤ hy_nr S := ho r rfl
    have hl := lv_entry ([va_rf ((some r).map ad)]) (n := 1) (Nat.le_of_ble_eq_true rfl)
    rw [lg_entry_eq]
    generalize (lg_sl ([va_rf ((some r).map ad)]) ++ List.replicate (1 - (lg_sl ([va_rf ((some r).map ad)])).length) Slot.unset).toArray = ls at hl ⊢
    have hl : lv_has ls 1 [(0, .ref (ad r))] := hl
    refine lv_aload_n hx hb dX1_requireRow_0 rfl (lv_at hl 0 rfl) ?_
    refine vp_callSi (W.runS (As := [.ref (ad r)]) (rest := []) ⟨hx, hb, hml, hown, hts⟩ (c_X1_isRow l D cI cJ cB h b k w z ad ca S (some r) (fun _ q => by cases q; exact hrw)) (va_cwS 1 hts gX1_requireRow_X1_isRow rfl rfl rfl (by decide +kernel) ⟨Nat.le_of_ble_eq_true rfl, Nat.le_of_ble_eq_true rfl⟩) ⟨hy_I_blind, fun U hU hW => ⟨rfl, hy_I_at hU hW hP hK⟩⟩ rfl rfl hl.1 rfl (lv_room (Nat.le_of_ble_eq_true rfl)) dX1_requireRow_1 ⟨Nat.le_of_ble_eq_true rfl, Nat.le_of_ble_eq_true rfl⟩) (fun v9 e9 => ?_)
    subst e9
    refine lv_if_ne (tgt := 17) hx hb dX1_requireRow_4 (by decide) (fun c_4 => ?_) (fun c_4 => ?_)
    · -- 17
      exact vx_ret (W.widen (k := 1) (n := 6) (by decide) (by decide) (W.vret hx hb hr (fun t ht hW => ⟨rfl, c_4, ht⟩) (fun q h => nomatch h) dX1_requireRow_17))
    · -- 7
      exact hy_throw (cls := "java/lang/IllegalStateException") (text := "the box holds no row") (ik := 70) (is := 157) (ic := 74) hx hb hl9 hts hown hE hZ (by decide +kernel) (by decide +kernel) (by decide +kernel) (by decide +kernel) (by decide +kernel) (by decide +kernel) (by decide +kernel) (hl.1.trans hml.symm) dX1_requireRow_7 dX1_requireRow_10 dX1_requireRow_11 dX1_requireRow_13 dX1_requireRow_16 hno hlocks ⟨Nat.le_of_ble_eq_true rfl, Nat.le_of_ble_eq_true rfl⟩ (Nat.le_of_ble_eq_true rfl) (Nat.le_of_ble_eq_true rfl) (Nat.le_of_ble_eq_true rfl) (Nat.le_of_ble_eq_true rfl) (Nat.le_of_ble_eq_true rfl) (⟨rfl, c_4⟩)
set_option maxHeartbeats 4000000 in
set_option maxRecDepth 100000 in
theorem c_X1_requireCombs (l : Launch) (D : va_G) (cI cJ cB : ClassId) (h b k w z : Nat) (ad ca : Nat → Nat) (S : hy_S) (hl9 : l.stackTraces = false) (o : Option Nat) (ho : ∀ r, o = some r → r ≤ hy_nr S) : vx_Met l yX1_requireCombs wsX1_requireCombs ({ frames := 6, cells := 1, slots := 6, locals := 90 }) (va_Pc [va_rf (o.map ad)] (hy_IX D cI cJ cB h b k w z ad ca S)) (va_Sv (fun _ => hy_isCo S o ≠ 0)) (hy_X (fun E => E = "java/lang/IllegalStateException" ∧ hy_isCo S o = 0)) 1 6 (fun _ => False) := by
  refine vx_ofW (cc := cX1_requireCombs) (maxL := 1) (ret := none) (by decide) rfl ?_
  intro p e s m args below meth c s₁ B hml hno hv
  obtain ⟨rfl, ⟨hP, hK⟩, hE, hZ⟩ := hv
  have hx := B.exec
  have hb := B.bytes
  have hr := B.returns
  have hts := atoms_spec (ws := wsX1_requireCombs) B.pre
  have hown : s.vm.findClass RX1 = some m.cls := findClass_of_methodNamed B.named
  have hlocks := B.notSynchronized
  cases o with
  | none =>
    have hl := lv_entry ([va_rf ((none : Option Nat).map ad)]) (n := 1) (Nat.le_of_ble_eq_true rfl)
    rw [lg_entry_eq]
    generalize (lg_sl ([va_rf ((none : Option Nat).map ad)]) ++ List.replicate (1 - (lg_sl ([va_rf ((none : Option Nat).map ad)])).length) Slot.unset).toArray = ls at hl ⊢
    have hl : lv_has ls 1 [(0, .null)] := hl
    refine lv_aload_nN hx hb dX1_requireCombs_0 rfl (lv_at hl 0 rfl) ?_
    refine vp_callSi (W.runS (As := [.null]) (rest := []) ⟨hx, hb, hml, hown, hts⟩ (c_X1_isCombs l D cI cJ cB h b k w z ad ca S none (fun _ q => nomatch q)) (va_cwS 1 hts gX1_requireCombs_X1_isCombs rfl rfl rfl (by decide +kernel) ⟨Nat.le_of_ble_eq_true rfl, Nat.le_of_ble_eq_true rfl⟩) ⟨hy_I_blind, fun U hU hW => ⟨rfl, hy_I_at hU hW hP hK⟩⟩ rfl rfl hl.1 rfl (lv_room (Nat.le_of_ble_eq_true rfl)) dX1_requireCombs_1 ⟨Nat.le_of_ble_eq_true rfl, Nat.le_of_ble_eq_true rfl⟩) (fun v9 e9 => ?_)
    subst e9
    refine lv_if_ne (tgt := 17) hx hb dX1_requireCombs_4 (by decide) (fun c9 => absurd c9 (fun c => c rfl)) (fun c_4 => ?_)
    exact hy_throw (cls := "java/lang/IllegalStateException") (text := "the box holds no row of combs") (ik := 70) (is := 159) (ic := 74) hx hb hl9 hts hown hE hZ (by decide +kernel) (by decide +kernel) (by decide +kernel) (by decide +kernel) (by decide +kernel) (by decide +kernel) (by decide +kernel) (hl.1.trans hml.symm) dX1_requireCombs_7 dX1_requireCombs_10 dX1_requireCombs_11 dX1_requireCombs_13 dX1_requireCombs_16 hno hlocks ⟨Nat.le_of_ble_eq_true rfl, Nat.le_of_ble_eq_true rfl⟩ (Nat.le_of_ble_eq_true rfl) (Nat.le_of_ble_eq_true rfl) (Nat.le_of_ble_eq_true rfl) (Nat.le_of_ble_eq_true rfl) (Nat.le_of_ble_eq_true rfl) (⟨rfl, c_4⟩)
  | some r =>
    have hrw : r ≤ hy_nr S := ho r rfl
    have hl := lv_entry ([va_rf ((some r).map ad)]) (n := 1) (Nat.le_of_ble_eq_true rfl)
    rw [lg_entry_eq]
    generalize (lg_sl ([va_rf ((some r).map ad)]) ++ List.replicate (1 - (lg_sl ([va_rf ((some r).map ad)])).length) Slot.unset).toArray = ls at hl ⊢
    have hl : lv_has ls 1 [(0, .ref (ad r))] := hl
    refine lv_aload_n hx hb dX1_requireCombs_0 rfl (lv_at hl 0 rfl) ?_
    refine vp_callSi (W.runS (As := [.ref (ad r)]) (rest := []) ⟨hx, hb, hml, hown, hts⟩ (c_X1_isCombs l D cI cJ cB h b k w z ad ca S (some r) (fun _ q => by cases q; exact hrw)) (va_cwS 1 hts gX1_requireCombs_X1_isCombs rfl rfl rfl (by decide +kernel) ⟨Nat.le_of_ble_eq_true rfl, Nat.le_of_ble_eq_true rfl⟩) ⟨hy_I_blind, fun U hU hW => ⟨rfl, hy_I_at hU hW hP hK⟩⟩ rfl rfl hl.1 rfl (lv_room (Nat.le_of_ble_eq_true rfl)) dX1_requireCombs_1 ⟨Nat.le_of_ble_eq_true rfl, Nat.le_of_ble_eq_true rfl⟩) (fun v9 e9 => ?_)
    subst e9
    refine lv_if_ne (tgt := 17) hx hb dX1_requireCombs_4 (by decide) (fun c_4 => ?_) (fun c_4 => ?_)
    · -- 17
      exact vx_ret (W.widen (k := 1) (n := 6) (by decide) (by decide) (W.vret hx hb hr (fun t ht hW => ⟨rfl, c_4, ht⟩) (fun q h => nomatch h) dX1_requireCombs_17))
    · -- 7
      exact hy_throw (cls := "java/lang/IllegalStateException") (text := "the box holds no row of combs") (ik := 70) (is := 159) (ic := 74) hx hb hl9 hts hown hE hZ (by decide +kernel) (by decide +kernel) (by decide +kernel) (by decide +kernel) (by decide +kernel) (by decide +kernel) (by decide +kernel) (hl.1.trans hml.symm) dX1_requireCombs_7 dX1_requireCombs_10 dX1_requireCombs_11 dX1_requireCombs_13 dX1_requireCombs_16 hno hlocks ⟨Nat.le_of_ble_eq_true rfl, Nat.le_of_ble_eq_true rfl⟩ (Nat.le_of_ble_eq_true rfl) (Nat.le_of_ble_eq_true rfl) (Nat.le_of_ble_eq_true rfl) (Nat.le_of_ble_eq_true rfl) (Nat.le_of_ble_eq_true rfl) (⟨rfl, c_4⟩)
set_option maxHeartbeats 4000000 in
set_option maxRecDepth 100000 in
theorem c_X1_requirePlace (l : Launch) (D : va_G) (cI cJ cB : ClassId) (h b k w z : Nat) (ad ca : Nat → Nat) (S : hy_S) (hl9 : l.stackTraces = false) (r : Nat) (hrw : r ≤ hy_nr S) (a1 : Int32) : vx_Met l yX1_requirePlace wsX1_requirePlace ({ frames := 6, cells := 1, slots := 6, locals := 90 }) (va_Pc [.ref (ad r), .int a1] (hy_IX D cI cJ cB h b k w z ad ca S)) (va_Sv (fun _ => hy_pl S r a1)) (hy_X (fun E => E = "java/util/NoSuchElementException" ∧ ¬ hy_pl S r a1)) 1 6 (fun _ => False) := by
  refine vx_ofW (cc := cX1_requirePlace) (maxL := 2) (ret := none) (by decide) rfl ?_
  intro p e s m args below meth c s₁ B hml hno hv
  obtain ⟨rfl, ⟨hP, hK⟩, hE, hZ⟩ := hv
  have hx := B.exec
  have hb := B.bytes
  have hr := B.returns
  have hts := atoms_spec (ws := wsX1_requirePlace) B.pre
  have hown : s.vm.findClass RX1 = some m.cls := findClass_of_methodNamed B.named
  have hlocks := B.notSynchronized
  have hinX0 : ∀ w ∈ wsX00, w ∈ wsX1_requirePlace := by decide +kernel
  have hl := lv_entry ([.ref (ad r), .int a1]) (n := 2) (Nat.le_of_ble_eq_true rfl)
  rw [lg_entry_eq]
  generalize (lg_sl ([.ref (ad r), .int a1]) ++ List.replicate (2 - (lg_sl ([.ref (ad r), .int a1])).length) Slot.unset).toArray = ls at hl ⊢
  have hl : lv_has ls 2 [(0, .ref (ad r)), (1, .int a1)] := hl
  refine lv_iload_n hx hb dX1_requirePlace_0 rfl (lv_at hl 1 rfl) ?_
  refine lv_if_lt (tgt := 13) hx hb dX1_requirePlace_1 (by decide) (fun c_1 => ?_) (fun c_1 => ?_)
  · -- 13
    exact hy_throwN (text := "no such place") (ik := 161) (is := 163) hx hb hl9 hts hown hE hZ (by decide +kernel) (by decide +kernel) (by decide +kernel) (by decide +kernel) (by decide +kernel) (by decide +kernel) (hl.1.trans hml.symm) dX1_requirePlace_13 dX1_requirePlace_16 dX1_requirePlace_17 dX1_requirePlace_19 dX1_requirePlace_22 hno hlocks ⟨Nat.le_of_ble_eq_true rfl, Nat.le_of_ble_eq_true rfl⟩ (Nat.le_of_ble_eq_true rfl) (Nat.le_of_ble_eq_true rfl) (Nat.le_of_ble_eq_true rfl) (Nat.le_of_ble_eq_true rfl) (Nat.le_of_ble_eq_true rfl) (⟨rfl, fun q => by first | exact q.1 c_1 | exact c_10 q.2⟩)
  · -- 4
    refine lv_iload_n hx hb dX1_requirePlace_4 rfl (lv_at hl 1 rfl) ?_
    refine lv_aload_n hx hb dX1_requirePlace_5 rfl (lv_at hl 0 rfl) ?_
    refine va_get (D := D) (ci := 0) (v := .ref (ca r)) (C := RX0) (T := TX0) (N := 2) hx hb hts hinX0 hown hK hP (5 + r) (hy_W_row hrw) rfl 1 (by decide) (hts (.fieldLink RX1 79 "HiveYard$Content" "cells" "[J") (by decide +kernel)) (fun _ h9 => h9) rfl dX1_requirePlace_6 ?_
    refine va_alen (v := (nI (hy_le S r))) hx hb hK hP (5 + (hy_nr S + 1 + r)) 1 (hy_W_arr hrw) rfl rfl dX1_requirePlace_9 ?_
    refine lv_icmp_lt (tgt := 23) hx hb dX1_requirePlace_10 (by decide) (fun c_10 => ?_) (fun c_10 => ?_)
    · -- 23
      exact vx_ret (W.widen (k := 1) (n := 6) (by decide) (by decide) (W.vret hx hb hr (fun t ht hW => ⟨rfl, ⟨c_1, c_10⟩, ht⟩) (fun q h => nomatch h) dX1_requirePlace_23))
    · -- 13
      exact hy_throwN (text := "no such place") (ik := 161) (is := 163) hx hb hl9 hts hown hE hZ (by decide +kernel) (by decide +kernel) (by decide +kernel) (by decide +kernel) (by decide +kernel) (by decide +kernel) (hl.1.trans hml.symm) dX1_requirePlace_13 dX1_requirePlace_16 dX1_requirePlace_17 dX1_requirePlace_19 dX1_requirePlace_22 hno hlocks ⟨Nat.le_of_ble_eq_true rfl, Nat.le_of_ble_eq_true rfl⟩ (Nat.le_of_ble_eq_true rfl) (Nat.le_of_ble_eq_true rfl) (Nat.le_of_ble_eq_true rfl) (Nat.le_of_ble_eq_true rfl) (Nat.le_of_ble_eq_true rfl) (⟨rfl, fun q => by first | exact q.1 c_1 | exact c_10 q.2⟩)
set_option maxHeartbeats 4000000 in
set_option maxRecDepth 100000 in
theorem c_X1_requireComb (l : Launch) (D : va_G) (cI cJ cB : ClassId) (h b k w z : Nat) (ad ca : Nat → Nat) (S : hy_S) (hl9 : l.stackTraces = false) (a1 : Int32) : vx_Met l yX1_requireComb wsX1_requireComb ({ frames := 6, cells := 1, slots := 6, locals := 90 }) (va_Pc [.ref h, .int a1] (hy_IX D cI cJ cB h b k w z ad ca S)) (va_Sv (fun _ => hy_isComb S a1.toInt64 ≠ 0)) (hy_X (fun E => E = "java/util/NoSuchElementException" ∧ hy_isComb S a1.toInt64 = 0)) 1 6 (fun _ => False) := by
  refine vx_ofW (cc := cX1_requireComb) (maxL := 2) (ret := none) (by decide) rfl ?_
  intro p e s m args below meth c s₁ B hml hno hv
  obtain ⟨rfl, ⟨hP, hK⟩, hE, hZ⟩ := hv
  have hx := B.exec
  have hb := B.bytes
  have hr := B.returns
  have hts := atoms_spec (ws := wsX1_requireComb) B.pre
  have hown : s.vm.findClass RX1 = some m.cls := findClass_of_methodNamed B.named
  have hlocks := B.notSynchronized
  have hl := lv_entry ([.ref h, .int a1]) (n := 2) (Nat.le_of_ble_eq_true rfl)
  rw [lg_entry_eq]
  generalize (lg_sl ([.ref h, .int a1]) ++ List.replicate (2 - (lg_sl ([.ref h, .int a1])).length) Slot.unset).toArray = ls at hl ⊢
  have hl : lv_has ls 2 [(0, .ref h), (1, .int a1)] := hl
  refine lv_aload_n hx hb dX1_requireComb_0 rfl (lv_at hl 0 rfl) ?_
  refine lv_iload_n hx hb dX1_requireComb_1 rfl (lv_at hl 1 rfl) ?_
  refine lv_i2l (v := a1.toInt64) hx hb dX1_requireComb_2 rfl ?_
  refine vp_callSi (W.runV (As := [.long a1.toInt64]) (rest := []) ⟨hx, hb, hml, hown, hts⟩ (c_X1_isComb l D cI cJ cB h b k w z ad ca S a1.toInt64) (cwV 1 hts gX1_requireComb_X1_isComb rfl rfl rfl (by decide +kernel) ⟨Nat.le_of_ble_eq_true rfl, Nat.le_of_ble_eq_true rfl⟩) ⟨hy_I_blind, va_recv hK hP (ci := 1) (q0 := 0) rfl rfl, fun U hU hW => ⟨rfl, hy_I_at hU hW hP hK⟩⟩ rfl rfl hl.1 rfl (lv_room (Nat.le_of_ble_eq_true rfl)) dX1_requireComb_3 ⟨Nat.le_of_ble_eq_true rfl, Nat.le_of_ble_eq_true rfl⟩) (fun v9 e9 => ?_)
  subst e9
  refine lv_if_ne (tgt := 19) hx hb dX1_requireComb_6 (by decide) (fun c_6 => ?_) (fun c_6 => ?_)
  · -- 19
    exact vx_ret (W.widen (k := 1) (n := 6) (by decide) (by decide) (W.vret hx hb hr (fun t ht hW => ⟨rfl, c_6, ht⟩) (fun q h => nomatch h) dX1_requireComb_19))
  · -- 9
    exact hy_throwN (text := "no such comb") (ik := 161) (is := 170) hx hb hl9 hts hown hE hZ (by decide +kernel) (by decide +kernel) (by decide +kernel) (by decide +kernel) (by decide +kernel) (by decide +kernel) (hl.1.trans hml.symm) dX1_requireComb_9 dX1_requireComb_12 dX1_requireComb_13 dX1_requireComb_15 dX1_requireComb_18 hno hlocks ⟨Nat.le_of_ble_eq_true rfl, Nat.le_of_ble_eq_true rfl⟩ (Nat.le_of_ble_eq_true rfl) (Nat.le_of_ble_eq_true rfl) (Nat.le_of_ble_eq_true rfl) (Nat.le_of_ble_eq_true rfl) (Nat.le_of_ble_eq_true rfl) (⟨rfl, c_6⟩)
end
