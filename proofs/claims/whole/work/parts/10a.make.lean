/-! THE CLASS: what makes objects: Content's constructor, newRow, row, the class's constructor. Rows written with mk10.py. -/
theorem hy_sameT {D : va_G} {cl : List vw_C} {tys : List (ClassId × FieldType)} {U : State} {t0 : Nat} {c1 c2 : ClassId} {ty : FieldType} (hK : va_K D cl (tys ++ [(c2, ty)]) U) (h : tys[t0]? = some (c1, ty)) : c2 = c1 := by
  have h1 := (hK.2 t0 (c1, ty) (by rw [List.getElem?_append_left (List.getElem?_eq_some_iff.mp h).1]; exact h)).2
  have h2 := (hK.2 tys.length (c2, ty) (by rw [List.getElem?_append_right (Nat.le_refl _), Nat.sub_self]; rfl)).2
  cases ty <;> first | exact Option.some.inj (h2.symm.trans h1) | (obtain ⟨_, _, -, -, -, q1⟩ := h1; obtain ⟨_, _, -, -, -, q2⟩ := h2; exact Option.some.inj (q2.symm.trans q1))
theorem hy_KL {D : va_G} {cl : List vw_C} {t1 t2 : List (ClassId × FieldType)} {U : State} (hK : va_K D cl (t1 ++ t2) U) : va_K D cl t1 U := ⟨hK.1, fun k q hk => hK.2 k q (by rw [List.getElem?_append_left (List.getElem?_eq_some_iff.mp hk).1]; exact hk)⟩
def hy_fill (i : Nat) : Nat → Int64 := fun k => if k < i then -1 else 0
def hy_new (a0 : Int32) (n0 : Nat) : Nat → Int64 := if a0 < 4 then fun _ => 0 else hy_fill n0
theorem hy_fill_up (i : Nat) : vp_updL (hy_fill i) i (-1) = hy_fill (i + 1) := by
  funext k
  simp only [vp_updL, hy_fill]
  by_cases h : k = i
  · rw [if_pos h, if_pos (by omega)]
  · rw [if_neg h]
    by_cases h2 : k < i
    · rw [if_pos h2, if_pos (by omega)]
    · rw [if_neg h2, if_neg (by omega)]
set_option maxHeartbeats 4000000 in
set_option maxRecDepth 100000 in
/-- Content(sort, cells) -/
theorem c_X0_init (l : Launch) (D : va_G) (q sz : Nat) (f0 a1 : Int32) (ar : Nat) : Met l yX0_init wsX0_init ({ frames := 1, cells := 0, slots := 0, locals := 12 }) (va_Pc [.ref q, .int a1, .ref ar] (fun U => U.heap.size = sz ∧ va_P D vwCl [(q, .inr (0, [.int f0, .null]))] U.heap ∧ va_K D vwCl [] U ∧ va_D (fun _ => True) [(q, .inr (0, [.int f0, .null]))])) (va_Qv (fun _ : Unit => True) (fun _ t => va_P D vwCl [(q, .inr (0, [.int a1, .ref ar]))] t.heap ∧ va_K D vwCl [] t ∧ va_D (va_A [(q, .inr (0, [.int f0, .null]))] sz) [(q, .inr (0, [.int a1, .ref ar]))]) (va_A [(q, .inr (0, [.int f0, .null]))] sz)) 0 0 (va_A [(q, .inr (0, [.int f0, .null]))] sz) := by
  refine Met.ofW (cc := cX0_init) (maxL := 3) (ret := none) (by decide) rfl ?_
  intro p e s m args below meth c s₁ B hml hv
  obtain ⟨rfl, hsz, hP, hK, hD0⟩ := hv
  have hx := B.exec
  have hb := B.bytes
  have hr := B.returns
  have hts := atoms_spec (ws := wsX0_init) B.pre
  have hown : s.vm.findClass RX0 = some m.cls := findClass_of_methodNamed B.named
  have hlocks := B.notSynchronized
  have hin : meth.name = "<init>" := (name_of_methodNamed B.named B.method).1
  subst hsz
  have hD := hD0.self (sz := s.heap.size)
  generalize hAe : va_A [(q, .inr (0, [.int f0, .null]))] s.heap.size = A at hD ⊢
  have hA : ∀ q : Nat, s.heap.size ≤ q → A q := fun q h => by rw [← hAe]; exact Or.inr h
  have hS : va_S A s.heap s.heap [] := va_S.rf
  have hinX0 : ∀ w ∈ wsX00, w ∈ wsX0_init := by decide +kernel
  have hl := lv_entry ([.ref q, .int a1, .ref ar]) (n := 3) (Nat.le_of_ble_eq_true rfl)
  rw [lg_entry_eq]
  generalize (lg_sl ([.ref q, .int a1, .ref ar]) ++ List.replicate (3 - (lg_sl ([.ref q, .int a1, .ref ar])).length) Slot.unset).toArray = ls at hl ⊢
  have hl : lv_has ls 3 [(0, .ref q), (1, .int a1), (2, .ref ar)] := hl
  refine lv_aload_n hx hb dX0_init_0 rfl (lv_at hl 0 rfl) ?_
  refine W.objInit hx hb hown (hts (.methodLink RX0 1 objectInit) (by decide +kernel)) (hts (.instanceMethod objectInit) (by decide +kernel)) (hts _ (List.mem_cons_of_mem _ (List.mem_append_left _ (List.mem_of_getElem? (i := 2) rfl)))) rfl (by rw [hml]; exact hl.1) rfl dX0_init_1 (Nat.le_of_ble_eq_true rfl) (Nat.le_of_ble_eq_true rfl) ?_
  refine W.eq (g2 := F0 m 4 ls []) rfl ?_
  refine lv_aload_n hx hb dX0_init_4 rfl (lv_at hl 0 rfl) ?_
  refine lv_iload_n hx hb dX0_init_5 rfl (lv_at hl 1 rfl) ?_
  refine va_putF (D := D) (ci := 0) (v := .int a1) (ty := .int) (C := RX0) (T := TX0) (N := 2) hx hb hts hinX0 tyX0 tyX0_ok nmX0 hown hK hP hD hS 0 rfl rfl 0 (by decide) (hts (.fieldLink RX0 7 "HiveYard$Content" "sort" "I") (by decide +kernel)) (fun _ h9 => h9) rfl hin rfl (by decide +kernel) rfl rfl (Nat.le_of_ble_eq_true rfl) dX0_init_6 (fun H locs hP hD hS => ?_)
  have hP : va_P D vwCl [(q, .inr (0, [.int a1, .null]))] H := hP
  have hD : va_D A [(q, .inr (0, [.int a1, .null]))] := hD
  refine lv_aload_n hx hb dX0_init_9 rfl (lv_at hl 0 rfl) ?_
  refine lv_aload_n hx hb dX0_init_10 rfl (lv_at hl 2 rfl) ?_
  refine va_putF (D := D) (ci := 0) (v := .ref ar) (ty := .array .long) (C := RX0) (T := TX0) (N := 2) hx hb hts hinX0 tyX0 tyX0_ok nmX0 hown hK hP hD hS 0 rfl rfl 1 (by decide) (hts (.fieldLink RX0 13 "HiveYard$Content" "cells" "[J") (by decide +kernel)) (fun _ h9 => h9) rfl hin rfl (by decide +kernel) rfl rfl (Nat.le_of_ble_eq_true rfl) dX0_init_11 (fun H locs hP hD hS => ?_)
  have hP : va_P D vwCl [(q, .inr (0, [.int a1, .ref ar]))] H := hP
  have hD : va_D A [(q, .inr (0, [.int a1, .ref ar]))] := hD
  exact W.vret hx hb hr (fun t ht hW => ⟨⟨(), rfl, trivial, by rw [ht]; exact hP, va_K.moved hW.alike hK, hD⟩, hS.F ht⟩) hS.2.2 dX0_init_14
set_option maxHeartbeats 4000000 in
set_option maxRecDepth 100000 in
/-- newRow(sort, n): a Content and its places -/
theorem c_X1_newRow (l : Launch) (D : va_G) (cI cJ cB : ClassId) (sz n0 : Nat) (a0 : Int32) (hn : n0 ≤ 24) : Met l yX1_newRow wsX1_newRow ({ frames := 2, cells := 2, slots := 26, locals := 34 }) (va_Pc [.int a0, .int (nI n0)] (fun U => U.heap.size = sz ∧ va_K D vwCl (hy_T cI cJ cB) U)) (va_Qr (fun _ : Unit => True) (fun _ q t => ∃ qa : Nat, va_P D vwCl [(qa, .inl (cJ, n0, .inr (.inl (hy_new a0 n0)))), (q, .inr (0, [.int a0, .ref qa]))] t.heap ∧ va_K D vwCl [] t ∧ va_D (va_A [] sz) [(qa, .inl (cJ, n0, .inr (.inl (hy_new a0 n0)))), (q, .inr (0, [.int a0, .ref qa]))]) (va_A [] sz)) 2 26 (va_A [] sz) := by
  refine Met.ofW (cc := cX1_newRow) (maxL := 4) (ret := (some (.object "HiveYard$Content"))) (by decide) rfl ?_
  intro p e s m args below meth c s₁ B hml hv
  obtain ⟨rfl, hsz, hK⟩ := hv
  have hx := B.exec
  have hb := B.bytes
  have hr := B.returns
  have hts := atoms_spec (ws := wsX1_newRow) B.pre
  have hown : s.vm.findClass RX1 = some m.cls := findClass_of_methodNamed B.named
  have hlocks := B.notSynchronized
  subst hsz
  have hP : va_P D vwCl [] s.heap := fun k q h => by simp at h
  have hD : va_D (va_A [] s.heap.size) [] := ⟨fun i j p q h => by simp at h, fun k q h => by simp at h⟩
  generalize hAe : va_A [] s.heap.size = A at hD ⊢
  have hA : ∀ q : Nat, s.heap.size ≤ q → A q := fun q h => by rw [← hAe]; exact Or.inr h
  have hS : va_S A s.heap s.heap [] := va_S.rf
  have hinX0 : ∀ w ∈ wsX00, w ∈ wsX1_newRow := by decide +kernel
  have hl := lv_entry ([.int a0, .int (nI n0)]) (n := 4) (Nat.le_of_ble_eq_true rfl)
  rw [lg_entry_eq]
  generalize (lg_sl ([.int a0, .int (nI n0)]) ++ List.replicate (4 - (lg_sl ([.int a0, .int (nI n0)])).length) Slot.unset).toArray = ls at hl ⊢
  have hl : lv_has ls 4 [(0, .int a0), (1, .int (nI n0))] := hl
  refine lv_iload_n hx hb dX1_newRow_0 rfl (lv_at hl 1 rfl) ?_
  refine va_newa (atype := .long) (ty := .long) (a0 := (n0, .inr (.inl (fun _ => 0)))) (N' := n0) hx hb (hts (.arrayClass .long) (by decide +kernel)) rfl hK hP hD hS hA (fun _ => rfl) (nI_pos (by omega)) (nI_clamp (by omega)) (by show n0 * 8 ≤ 536870912; omega) (Nat.le_of_ble_eq_true rfl) (by show 0 + n0 ≤ 26; omega) dX1_newRow_1 (fun qa cA H hK2 hP hD hS => ?_)
  obtain rfl : cA = cJ := hy_sameT (t0 := 1) hK2 rfl
  refine W.widen (k := 1) (n := 24) (Nat.le_of_ble_eq_true rfl) (by omega) ?_
  have hP : va_P D vwCl [(qa, .inl (cA, n0, .inr (.inl (fun _ => 0))))] H := hP
  have hD : va_D A [(qa, .inl (cA, n0, .inr (.inl (fun _ => 0))))] := hD
  refine lv_astore_n (lv' := [(2, .ref qa), (0, .int a0), (1, .int (nI n0))]) hx hb dX1_newRow_3 rfl hl (by decide) rfl (fun ls hl => ?_)
  refine lv_iload_n hx hb dX1_newRow_4 rfl (lv_at hl 1 rfl) ?_
  refine lv_iconst (v := 4) hx hb dX1_newRow_5 (by decide) ?_
  refine lv_icmp_lt (tgt := 28) hx hb dX1_newRow_6 (by decide) (fun c_6 => ?_) (fun c_6 => ?_)
  · have EF : hy_new a0 n0 = fun _ => 0 := by rw [hy_new, if_pos c_6]
    refine va_new (ci := 0) (fs := [.int 0, .null]) (C := RX0) (T := TX0) (N := 2) hx hb hts hinX0 tyX0 tyX0_ok hown (hts (.classLink RX1 9 RX0) (by decide +kernel)) (hts (.instantiable RX0 2) (by decide +kernel)) (hts (.initialized RX0) (by decide +kernel)) hK hP hD hS hA rfl (fun j hj => by rcases (show j = 0 ∨ j = 1 by omega) with rfl | rfl <;> rfl) (Nat.le_of_ble_eq_true rfl) (Nat.le_of_ble_eq_true rfl) dX1_newRow_28 (fun q H hP hD hS => ?_)
    have hP : va_P D vwCl [(qa, .inl (cA, n0, .inr (.inl (fun _ => 0)))), (q, .inr (0, [.int 0, .null]))] H := hP
    have hD : va_D A [(qa, .inl (cA, n0, .inr (.inl (fun _ => 0)))), (q, .inr (0, [.int 0, .null]))] := hD
    refine W.widen (k := 2) (n := 26) (Nat.le_of_ble_eq_true rfl) (Nat.le_of_ble_eq_true rfl) ?_
    refine lv_dup hx hb dX1_newRow_31 rfl ?_
    refine lv_iload_n hx hb dX1_newRow_32 rfl (lv_at hl 1 rfl) ?_
    refine lv_aload_n hx hb dX1_newRow_33 rfl (lv_at hl 0 rfl) ?_
    have hPc := hP.sub (ws' := [(q, .inr (0, [.int 0, .null]))]) [1] rfl
    have hDc := hD.sub (ws' := [(q, .inr (0, [.int 0, .null]))]) [1] (by decide) rfl
    have hKc := hK.sub (tys' := []) [] rfl
    have hFc := va_free (wc := [(q, .inr (0, [.int 0, .null]))]) hD hS hA [1] rfl
    refine va_callv (va_runI (As := [.int a0, .ref qa]) (rest := [.ref q]) ⟨hx, hb, hml, hown, hts⟩ (c_X0_init l D q H.size 0 a0 qa) (cwI 2 hts gX1_newRow_X0_init rfl rfl rfl (hts (.initialized RX0) (by decide +kernel)) (hts (.methodLink RX1 15 yX0_init) (by decide +kernel)) (hts (.instanceMethod yX0_init) (by decide +kernel)) rfl (by decide +kernel) ⟨Nat.le_of_ble_eq_true rfl, Nat.le_of_ble_eq_true rfl⟩) ⟨fun a U g mk q => by obtain ⟨q0, q1, qP, qK, qD⟩ := q; exact ⟨q0, q1, qP, va_K.moved (u := U) (U := U.calling g mk a) (Vm.Alike.refl U.vm) qK, qD⟩, fun U hU hW => ⟨rfl, by rw [hU], by rw [hU]; exact hPc, va_K.moved hW.alike hKc, hDc.weaken (fun _ _ _ _ => trivial)⟩⟩ rfl rfl hl.1 rfl (lv_room (Nat.le_of_ble_eq_true rfl)) dX1_newRow_34 ⟨Nat.le_of_ble_eq_true rfl, Nat.le_of_ble_eq_true rfl⟩) hS (fun q _ h => hFc q h) hFc (fun u t H1 locs ht hvm hw hB hz1 hk1 hS => ?_)
    obtain ⟨hP1, hK1, hD1⟩ := hB
    rw [ht] at hP1
    obtain ⟨hP, hD⟩ := va_join (wr := [(qa, .inl (cA, n0, .inr (.inl (fun _ => 0))))]) (w1 := [(q, .inr (0, [.int a0, .ref qa]))]) hP hD [1] [0] rfl rfl (by decide) (by decide) hk1 hFc hP1 hD1
    have hP : va_P D vwCl [(qa, .inl (cA, n0, .inr (.inl (fun _ => 0)))), (q, .inr (0, [.int a0, .ref qa]))] H1 := hP
    have hD : va_D A [(qa, .inl (cA, n0, .inr (.inl (fun _ => 0)))), (q, .inr (0, [.int a0, .ref qa]))] := hD
    exact W.aret (v := .ref q) (rt := .object "HiveYard$Content") hx hb hr (Or.inl ⟨_, rfl⟩) (Or.inr ⟨q, rfl⟩) (fun t ht hW => ⟨⟨(), q, rfl, trivial, qa, by rw [ht, EF]; exact hP, va_K.moved hW.alike (hK.sub (tys' := []) [] rfl), by rw [EF]; exact hD⟩, hS.F ht⟩) hS.2.2 dX1_newRow_37
  · have EF : hy_new a0 n0 = hy_fill n0 := by rw [hy_new, if_neg c_6]
    have e0 : (fun _ => (0 : Int64)) = hy_fill 0 := by funext k; rfl
    rw [e0] at hP hD
    refine lv_iconst (v := 0) hx hb dX1_newRow_9 (by decide) ?_
    refine lv_istore_n (lv' := [(3, .int 0), (2, .ref qa), (0, .int a0), (1, .int (nI n0))]) hx hb dX1_newRow_10 rfl hl (by decide) rfl (fun ls hl => ?_)
    refine hy_forH (G := fun H locs ls => W p l e _ s m _ below meth c H locs _ _ _ (F0 m 11 ls [])) (H0 := H) (L0 := []) (ls0 := ls) (fun i H locs ls => lv_has ls 4 [(3, .int (nI i)), (2, .ref qa), (0, .int a0), (1, .int (nI n0))] ∧ va_P D vwCl [(qa, .inl (cA, n0, .inr (.inl (hy_fill i))))] H ∧ va_D A [(qa, .inl (cA, n0, .inr (.inl (hy_fill i))))] ∧ va_S A s.heap H locs) n0 ⟨lv_sub hl [0, 1, 2, 3] rfl, hP, hD, hS⟩ (fun H locs ls hI => ?_) (fun i H locs ls hi hI ih => ?_)
    · obtain ⟨hl, hP, hD, hS⟩ := hI
      refine lv_iload_n hx hb dX1_newRow_11 rfl (lv_at hl 0 rfl) ?_
      refine lv_iload_n hx hb dX1_newRow_12 rfl (lv_at hl 3 rfl) ?_
      refine lv_icmp_ge (tgt := 28) hx hb dX1_newRow_13 (by decide) (fun c_13 => ?_) (fun c9 => absurd (Int32.le_refl _) c9)
      have hl := lv_sub hl (l' := [(2, .ref qa), (0, .int a0), (1, .int (nI n0))]) [1, 2, 3] rfl
      refine va_new (ci := 0) (fs := [.int 0, .null]) (C := RX0) (T := TX0) (N := 2) hx hb hts hinX0 tyX0 tyX0_ok hown (hts (.classLink RX1 9 RX0) (by decide +kernel)) (hts (.instantiable RX0 2) (by decide +kernel)) (hts (.initialized RX0) (by decide +kernel)) hK hP hD hS hA rfl (fun j hj => by rcases (show j = 0 ∨ j = 1 by omega) with rfl | rfl <;> rfl) (Nat.le_of_ble_eq_true rfl) (Nat.le_of_ble_eq_true rfl) dX1_newRow_28 (fun q H hP hD hS => ?_)
      have hP : va_P D vwCl [(qa, .inl (cA, n0, .inr (.inl (hy_fill n0)))), (q, .inr (0, [.int 0, .null]))] H := hP
      have hD : va_D A [(qa, .inl (cA, n0, .inr (.inl (hy_fill n0)))), (q, .inr (0, [.int 0, .null]))] := hD
      refine W.widen (k := 2) (n := 26) (Nat.le_of_ble_eq_true rfl) (Nat.le_of_ble_eq_true rfl) ?_
      refine lv_dup hx hb dX1_newRow_31 rfl ?_
      refine lv_iload_n hx hb dX1_newRow_32 rfl (lv_at hl 1 rfl) ?_
      refine lv_aload_n hx hb dX1_newRow_33 rfl (lv_at hl 0 rfl) ?_
      have hPc := hP.sub (ws' := [(q, .inr (0, [.int 0, .null]))]) [1] rfl
      have hDc := hD.sub (ws' := [(q, .inr (0, [.int 0, .null]))]) [1] (by decide) rfl
      have hKc := hK.sub (tys' := []) [] rfl
      have hFc := va_free (wc := [(q, .inr (0, [.int 0, .null]))]) hD hS hA [1] rfl
      refine va_callv (va_runI (As := [.int a0, .ref qa]) (rest := [.ref q]) ⟨hx, hb, hml, hown, hts⟩ (c_X0_init l D q H.size 0 a0 qa) (cwI 2 hts gX1_newRow_X0_init rfl rfl rfl (hts (.initialized RX0) (by decide +kernel)) (hts (.methodLink RX1 15 yX0_init) (by decide +kernel)) (hts (.instanceMethod yX0_init) (by decide +kernel)) rfl (by decide +kernel) ⟨Nat.le_of_ble_eq_true rfl, Nat.le_of_ble_eq_true rfl⟩) ⟨fun a U g mk q => by obtain ⟨q0, q1, qP, qK, qD⟩ := q; exact ⟨q0, q1, qP, va_K.moved (u := U) (U := U.calling g mk a) (Vm.Alike.refl U.vm) qK, qD⟩, fun U hU hW => ⟨rfl, by rw [hU], by rw [hU]; exact hPc, va_K.moved hW.alike hKc, hDc.weaken (fun _ _ _ _ => trivial)⟩⟩ rfl rfl hl.1 rfl (lv_room (Nat.le_of_ble_eq_true rfl)) dX1_newRow_34 ⟨Nat.le_of_ble_eq_true rfl, Nat.le_of_ble_eq_true rfl⟩) hS (fun q _ h => hFc q h) hFc (fun u t H1 locs ht hvm hw hB hz1 hk1 hS => ?_)
      obtain ⟨hP1, hK1, hD1⟩ := hB
      rw [ht] at hP1
      obtain ⟨hP, hD⟩ := va_join (wr := [(qa, .inl (cA, n0, .inr (.inl (hy_fill n0))))]) (w1 := [(q, .inr (0, [.int a0, .ref qa]))]) hP hD [1] [0] rfl rfl (by decide) (by decide) hk1 hFc hP1 hD1
      have hP : va_P D vwCl [(qa, .inl (cA, n0, .inr (.inl (hy_fill n0)))), (q, .inr (0, [.int a0, .ref qa]))] H1 := hP
      have hD : va_D A [(qa, .inl (cA, n0, .inr (.inl (hy_fill n0)))), (q, .inr (0, [.int a0, .ref qa]))] := hD
      exact W.aret (v := .ref q) (rt := .object "HiveYard$Content") hx hb hr (Or.inl ⟨_, rfl⟩) (Or.inr ⟨q, rfl⟩) (fun t ht hW => ⟨⟨(), q, rfl, trivial, qa, by rw [ht, EF]; exact hP, va_K.moved hW.alike (hK.sub (tys' := []) [] rfl), by rw [EF]; exact hD⟩, hS.F ht⟩) hS.2.2 dX1_newRow_37
    · obtain ⟨hl, hP, hD, hS⟩ := hI
      refine lv_iload_n hx hb dX1_newRow_11 rfl (lv_at hl 0 rfl) ?_
      refine lv_iload_n hx hb dX1_newRow_12 rfl (lv_at hl 3 rfl) ?_
      refine lv_icmp_ge (tgt := 28) hx hb dX1_newRow_13 (by decide) (fun c9 => absurd c9 (nI_ge hi (by omega))) (fun c_13 => ?_)
      refine lv_aload_n hx hb dX1_newRow_16 rfl (lv_at hl 1 rfl) ?_
      refine lv_iload_n hx hb dX1_newRow_17 rfl (lv_at hl 0 rfl) ?_
      refine lv_ldc2 (v := (-1)) hx hb hown (hts (.constantLong RX1 105 (-1)) (by decide +kernel)) dX1_newRow_18 ?_
      refine va_last hx hb hK hP hD hS 0 1 rfl rfl (vp_in_nI hi (by omega)) dX1_newRow_21 (fun H locs hP hD hS => ?_)
      have e1 : vp_updL (hy_fill i) (nI i).toNatClampNeg (-1) = hy_fill (i + 1) := by rw [nI_clamp (by omega)]; exact hy_fill_up i
      rw [e1] at hP hD
      refine lv_iinc (v := nI (i + 1)) (lv' := [(3, .int (nI (i + 1))), (2, .ref qa), (0, .int a0), (1, .int (nI n0))]) hx hb dX1_newRow_22 hl (k := 0) rfl (nI_1 i) (by decide) rfl (fun ls hl => ?_)
      refine lv_goto (tgt := 11) hx hb dX1_newRow_25 (by decide) ?_
      exact ih H locs ls ⟨hl, hP, hD, hS⟩
