/-! THE CLASS: its constructor. Rows written with mk11.py. -/
/-- the state of a new object -/
def hy_S0 : hy_S := (fun _ => none, 0, va_up (fun _ => 0) 0 8, fun _ => 0, fun _ _ => 0, 0, fun _ => 0, fun _ => 0, 0, fun _ => 0, 0, 0)
set_option maxHeartbeats 4000000 in
set_option maxRecDepth 100000 in
/-- HiveYard() -/
theorem c_X1_init (l : Launch) (D : va_G) (h sz : Nat) : Met l yX1_init wsX1_init ({ frames := 2, cells := 6, slots := 140, locals := 34 }) (va_Pc [.ref h] (fun U => U.heap.size = sz ∧ va_P D vwCl [(h, .inr (1, [.null, .null, .null, .null, .null, .int 0, .int 0, .int 0, .int 0, .int 0]))] U.heap ∧ va_K D vwCl [] U ∧ va_AO RX0 U ∧ va_D (fun _ => True) [(h, .inr (1, [.null, .null, .null, .null, .null, .int 0, .int 0, .int 0, .int 0, .int 0]))])) (va_Qv (fun _ : Unit => True) (fun _ t => ∃ cI cJ cB : ClassId, hy_At D cI cJ cB h hy_S0 (va_A [(h, .inr (1, [.null, .null, .null, .null, .null, .int 0, .int 0, .int 0, .int 0, .int 0]))] sz) t) (va_A [(h, .inr (1, [.null, .null, .null, .null, .null, .int 0, .int 0, .int 0, .int 0, .int 0]))] sz)) 6 140 (va_A [(h, .inr (1, [.null, .null, .null, .null, .null, .int 0, .int 0, .int 0, .int 0, .int 0]))] sz) := by
  refine Met.ofW (cc := cX1_init) (maxL := 1) (ret := none) (by decide) rfl ?_
  intro p e s m args below meth c s₁ B hml hv
  obtain ⟨rfl, hsz, hP, hK, hAO, hD0⟩ := hv
  have hx := B.exec
  have hb := B.bytes
  have hr := B.returns
  have hts := atoms_spec (ws := wsX1_init) B.pre
  have hown : s.vm.findClass RX1 = some m.cls := findClass_of_methodNamed B.named
  have hlocks := B.notSynchronized
  have hin : meth.name = "<init>" := (name_of_methodNamed B.named B.method).1
  subst hsz
  have hD := hD0.self (sz := s.heap.size)
  generalize hAe : va_A [(h, .inr (1, [.null, .null, .null, .null, .null, .int 0, .int 0, .int 0, .int 0, .int 0]))] s.heap.size = A at hD ⊢
  have hA : ∀ q : Nat, s.heap.size ≤ q → A q := fun q h => by rw [← hAe]; exact Or.inr h
  have hS : va_S A s.heap s.heap [] := va_S.rf
  have hinX0 : ∀ w ∈ wsX00, w ∈ wsX1_init := by decide +kernel
  have hinX1 : ∀ w ∈ wsX10, w ∈ wsX1_init := by decide +kernel
  have hl := lv_entry ([.ref h]) (n := 1) (Nat.le_of_ble_eq_true rfl)
  rw [lg_entry_eq]
  generalize (lg_sl ([.ref h]) ++ List.replicate (1 - (lg_sl ([.ref h])).length) Slot.unset).toArray = ls at hl ⊢
  have hl : lv_has ls 1 [(0, .ref h)] := hl
  refine lv_aload_n hx hb dX1_init_0 rfl (lv_at hl 0 rfl) ?_
  refine W.objInit hx hb hown (hts (.methodLink RX1 1 objectInit) (by decide +kernel)) (hts (.instanceMethod objectInit) (by decide +kernel)) (hts _ (List.mem_cons_of_mem _ (List.mem_append_left _ (List.mem_append_left _ (List.mem_of_getElem? (i := 2) rfl))))) rfl (by rw [hml]; exact hl.1) rfl dX1_init_1 (Nat.le_of_ble_eq_true rfl) (Nat.le_of_ble_eq_true rfl) ?_
  refine W.eq (g2 := F0 m 4 ls []) rfl ?_
  refine lv_aload_n hx hb dX1_init_4 rfl (lv_at hl 0 rfl) ?_
  refine lv_bipush (v := 12) hx hb dX1_init_5 (by decide) ?_
  refine va_newq (N' := 12) hx hb hown (hts (.classLink RX1 9 RX0) (by decide +kernel)) hAO hK hP hD hS hA (by decide) (by decide) (by decide) (Nat.le_of_ble_eq_true rfl) (Nat.le_of_ble_eq_true rfl) dX1_init_7 (fun q1 cB H hK hP hD hS => ?_)
  have hP : va_P D vwCl [(h, .inr (1, [.null, .null, .null, .null, .null, .int 0, .int 0, .int 0, .int 0, .int 0])), (q1, .inl (cB, 12, .inr (.inr (.inr (.inr (fun _ => none))))))] H := hP
  have hD : va_D A [(h, .inr (1, [.null, .null, .null, .null, .null, .int 0, .int 0, .int 0, .int 0, .int 0])), (q1, .inl (cB, 12, .inr (.inr (.inr (.inr (fun _ => none))))))] := hD
  refine W.widen (k := 1) (n := 12) (Nat.le_of_ble_eq_true rfl) (Nat.le_of_ble_eq_true rfl) ?_
  refine va_putF (D := D) (ci := 1) (v := .ref q1) (ty := .array (.object "HiveYard$Content")) (C := RX1) (T := TX1) (N := 10) hx hb hts hinX1 tyX1 tyX1_ok nmX1 hown hK hP hD hS 0 rfl rfl 0 (by decide) (hts (.fieldLink RX1 11 "HiveYard" "boxes" "[LHiveYard$Content;") (by decide +kernel)) (fun _ h9 => h9) rfl hin rfl (by decide +kernel) rfl rfl (Nat.le_of_ble_eq_true rfl) dX1_init_10 (fun H locs hP hD hS => ?_)
  have hP : va_P D vwCl [(h, .inr (1, [.ref q1, .null, .null, .null, .null, .int 0, .int 0, .int 0, .int 0, .int 0])), (q1, .inl (cB, 12, .inr (.inr (.inr (.inr (fun _ => none))))))] H := hP
  have hD : va_D A [(h, .inr (1, [.ref q1, .null, .null, .null, .null, .int 0, .int 0, .int 0, .int 0, .int 0])), (q1, .inl (cB, 12, .inr (.inr (.inr (.inr (fun _ => none))))))] := hD
  refine lv_aload_n hx hb dX1_init_13 rfl (lv_at hl 0 rfl) ?_
  refine va_new (ci := 0) (fs := [.int 0, .null]) (C := RX0) (T := TX0) (N := 2) hx hb hts hinX0 tyX0 tyX0_ok hown (hts (.classLink RX1 9 RX0) (by decide +kernel)) (hts (.instantiable RX0 2) (by decide +kernel)) (hts (.initialized RX0) (by decide +kernel)) hK hP hD hS hA rfl (fun j hj => by rcases (show j = 0 ∨ j = 1 by omega) with rfl | rfl <;> rfl) (Nat.le_of_ble_eq_true rfl) (Nat.le_of_ble_eq_true rfl) dX1_init_14 (fun q2 H hP hD hS => ?_)
  have hP : va_P D vwCl [(h, .inr (1, [.ref q1, .null, .null, .null, .null, .int 0, .int 0, .int 0, .int 0, .int 0])), (q1, .inl (cB, 12, .inr (.inr (.inr (.inr (fun _ => none)))))), (q2, .inr (0, [.int 0, .null]))] H := hP
  have hD : va_D A [(h, .inr (1, [.ref q1, .null, .null, .null, .null, .int 0, .int 0, .int 0, .int 0, .int 0])), (q1, .inl (cB, 12, .inr (.inr (.inr (.inr (fun _ => none)))))), (q2, .inr (0, [.int 0, .null]))] := hD
  refine W.widen (k := 2) (n := 14) (Nat.le_of_ble_eq_true rfl) (Nat.le_of_ble_eq_true rfl) ?_
  refine lv_dup hx hb dX1_init_17 rfl ?_
  refine lv_bipush (v := 8) hx hb dX1_init_18 (by decide) ?_
  refine lv_iconst (v := 0) hx hb dX1_init_20 (by decide) ?_
  refine va_newa (atype := .long) (ty := .long) (a0 := (0, .inr (.inl (fun _ => 0)))) (N' := 0) hx hb (hts (.arrayClass .long) (by decide +kernel)) rfl hK hP hD hS hA (fun _ => rfl) (by decide) (by decide) (by decide) (Nat.le_of_ble_eq_true rfl) (Nat.le_of_ble_eq_true rfl) dX1_init_21 (fun q3 cJ H hK hP hD hS => ?_)
  have hP : va_P D vwCl [(h, .inr (1, [.ref q1, .null, .null, .null, .null, .int 0, .int 0, .int 0, .int 0, .int 0])), (q1, .inl (cB, 12, .inr (.inr (.inr (.inr (fun _ => none)))))), (q2, .inr (0, [.int 0, .null])), (q3, .inl (cJ, 0, .inr (.inl (fun _ => 0))))] H := hP
  have hD : va_D A [(h, .inr (1, [.ref q1, .null, .null, .null, .null, .int 0, .int 0, .int 0, .int 0, .int 0])), (q1, .inl (cB, 12, .inr (.inr (.inr (.inr (fun _ => none)))))), (q2, .inr (0, [.int 0, .null])), (q3, .inl (cJ, 0, .inr (.inl (fun _ => 0))))] := hD
  refine W.widen (k := 3) (n := 14) (Nat.le_of_ble_eq_true rfl) (Nat.le_of_ble_eq_true rfl) ?_
  have hPc := hP.sub (ws' := [(q2, .inr (0, [.int 0, .null]))]) [2] rfl
  have hDc := hD.sub (ws' := [(q2, .inr (0, [.int 0, .null]))]) [2] (by decide) rfl
  have hKc := hK.sub (tys' := []) [] rfl
  have hFc := va_free (wc := [(q2, .inr (0, [.int 0, .null]))]) hD hS hA [2] rfl
  refine va_callv (va_runI (As := [.int 8, .ref q3]) (rest := [.ref q2, .ref h]) ⟨hx, hb, hml, hown, hts⟩ (c_X0_init l D q2 H.size 0 8 q3) (cwI 2 hts gX1_init_X0_init rfl rfl rfl (hts (.initialized RX0) (by decide +kernel)) (hts (.methodLink RX1 15 yX0_init) (by decide +kernel)) (hts (.instanceMethod yX0_init) (by decide +kernel)) rfl (by decide +kernel) ⟨Nat.le_of_ble_eq_true rfl, Nat.le_of_ble_eq_true rfl⟩) ⟨fun a U g mk q => by obtain ⟨q0, q1, qP, qK, qD⟩ := q; exact ⟨q0, q1, qP, va_K.moved (u := U) (U := U.calling g mk a) (Vm.Alike.refl U.vm) qK, qD⟩, fun U hU hW => ⟨rfl, by rw [hU], by rw [hU]; exact hPc, va_K.moved hW.alike hKc, hDc.weaken (fun _ _ _ _ => trivial)⟩⟩ rfl rfl hl.1 rfl (lv_room (Nat.le_of_ble_eq_true rfl)) dX1_init_23 ⟨Nat.le_of_ble_eq_true rfl, Nat.le_of_ble_eq_true rfl⟩) hS (fun q _ h => hFc q h) hFc (fun u t H1 locs ht hvm hw hB hz1 hk1 hS => ?_)
  obtain ⟨hP1, hK1, hD1⟩ := hB
  rw [ht] at hP1
  obtain ⟨hP, hD⟩ := va_join (wr := [(h, .inr (1, [.ref q1, .null, .null, .null, .null, .int 0, .int 0, .int 0, .int 0, .int 0])), (q1, .inl (cB, 12, .inr (.inr (.inr (.inr (fun _ => none)))))), (q3, .inl (cJ, 0, .inr (.inl (fun _ => 0))))]) (w1 := [(q2, .inr (0, [.int 8, .ref q3]))]) hP hD [2] [0, 1, 3] rfl rfl (by decide) (by decide) hk1 hFc hP1 hD1
  generalize H1 = H at hP hS ⊢
  have hP : va_P D vwCl [(h, .inr (1, [.ref q1, .null, .null, .null, .null, .int 0, .int 0, .int 0, .int 0, .int 0])), (q1, .inl (cB, 12, .inr (.inr (.inr (.inr (fun _ => none)))))), (q3, .inl (cJ, 0, .inr (.inl (fun _ => 0)))), (q2, .inr (0, [.int 8, .ref q3]))] H := hP
  have hD : va_D A [(h, .inr (1, [.ref q1, .null, .null, .null, .null, .int 0, .int 0, .int 0, .int 0, .int 0])), (q1, .inl (cB, 12, .inr (.inr (.inr (.inr (fun _ => none)))))), (q3, .inl (cJ, 0, .inr (.inl (fun _ => 0)))), (q2, .inr (0, [.int 8, .ref q3]))] := hD
  refine va_putF (D := D) (ci := 1) (v := .ref q2) (ty := .object "HiveYard$Content") (C := RX1) (T := TX1) (N := 10) hx hb hts hinX1 tyX1 tyX1_ok nmX1 hown hK hP hD hS 0 rfl rfl 1 (by decide) (hts (.fieldLink RX1 18 "HiveYard" "oneLid" "LHiveYard$Content;") (by decide +kernel)) (fun _ h9 => h9) rfl hin rfl (by decide +kernel) rfl rfl (Nat.le_of_ble_eq_true rfl) dX1_init_26 (fun H locs hP hD hS => ?_)
  have hP : va_P D vwCl [(h, .inr (1, [.ref q1, .ref q2, .null, .null, .null, .int 0, .int 0, .int 0, .int 0, .int 0])), (q1, .inl (cB, 12, .inr (.inr (.inr (.inr (fun _ => none)))))), (q3, .inl (cJ, 0, .inr (.inl (fun _ => 0)))), (q2, .inr (0, [.int 8, .ref q3]))] H := hP
  have hD : va_D A [(h, .inr (1, [.ref q1, .ref q2, .null, .null, .null, .int 0, .int 0, .int 0, .int 0, .int 0])), (q1, .inl (cB, 12, .inr (.inr (.inr (.inr (fun _ => none)))))), (q3, .inl (cJ, 0, .inr (.inl (fun _ => 0)))), (q2, .inr (0, [.int 8, .ref q3]))] := hD
  refine lv_aload_n hx hb dX1_init_29 rfl (lv_at hl 0 rfl) ?_
  refine lv_bipush (v := 60) hx hb dX1_init_30 (by decide) ?_
  refine va_newa (atype := .int) (ty := .int) (a0 := (60, .inl (fun _ => 0))) (N' := 60) hx hb (hts (.arrayClass .int) (by decide +kernel)) rfl hK hP hD hS hA (fun _ => rfl) (by decide) (by decide) (by decide) (Nat.le_of_ble_eq_true rfl) (Nat.le_of_ble_eq_true rfl) dX1_init_32 (fun q4 cI H hK2 hP hD hS => ?_)
  have hK := hK2
  have hP : va_P D vwCl [(h, .inr (1, [.ref q1, .ref q2, .null, .null, .null, .int 0, .int 0, .int 0, .int 0, .int 0])), (q1, .inl (cB, 12, .inr (.inr (.inr (.inr (fun _ => none)))))), (q3, .inl (cJ, 0, .inr (.inl (fun _ => 0)))), (q2, .inr (0, [.int 8, .ref q3])), (q4, .inl (cI, 60, .inl (fun _ => 0)))] H := hP
  have hD : va_D A [(h, .inr (1, [.ref q1, .ref q2, .null, .null, .null, .int 0, .int 0, .int 0, .int 0, .int 0])), (q1, .inl (cB, 12, .inr (.inr (.inr (.inr (fun _ => none)))))), (q3, .inl (cJ, 0, .inr (.inl (fun _ => 0)))), (q2, .inr (0, [.int 8, .ref q3])), (q4, .inl (cI, 60, .inl (fun _ => 0)))] := hD
  refine W.widen (k := 4) (n := 74) (Nat.le_of_ble_eq_true rfl) (Nat.le_of_ble_eq_true rfl) ?_
  refine va_putF (D := D) (ci := 1) (v := .ref q4) (ty := .array .int) (C := RX1) (T := TX1) (N := 10) hx hb hts hinX1 tyX1 tyX1_ok nmX1 hown hK hP hD hS 0 rfl rfl 2 (by decide) (hts (.fieldLink RX1 22 "HiveYard" "kindOfComb" "[I") (by decide +kernel)) (fun _ h9 => h9) rfl hin rfl (by decide +kernel) rfl rfl (Nat.le_of_ble_eq_true rfl) dX1_init_34 (fun H locs hP hD hS => ?_)
  have hP : va_P D vwCl [(h, .inr (1, [.ref q1, .ref q2, .ref q4, .null, .null, .int 0, .int 0, .int 0, .int 0, .int 0])), (q1, .inl (cB, 12, .inr (.inr (.inr (.inr (fun _ => none)))))), (q3, .inl (cJ, 0, .inr (.inl (fun _ => 0)))), (q2, .inr (0, [.int 8, .ref q3])), (q4, .inl (cI, 60, .inl (fun _ => 0)))] H := hP
  have hD : va_D A [(h, .inr (1, [.ref q1, .ref q2, .ref q4, .null, .null, .int 0, .int 0, .int 0, .int 0, .int 0])), (q1, .inl (cB, 12, .inr (.inr (.inr (.inr (fun _ => none)))))), (q3, .inl (cJ, 0, .inr (.inl (fun _ => 0)))), (q2, .inr (0, [.int 8, .ref q3])), (q4, .inl (cI, 60, .inl (fun _ => 0)))] := hD
  refine lv_aload_n hx hb dX1_init_37 rfl (lv_at hl 0 rfl) ?_
  refine lv_bipush (v := 60) hx hb dX1_init_38 (by decide) ?_
  refine va_newa (atype := .int) (ty := .int) (a0 := (60, .inl (fun _ => 0))) (N' := 60) hx hb (hts (.arrayClass .int) (by decide +kernel)) rfl hK hP hD hS hA (fun _ => rfl) (by decide) (by decide) (by decide) (Nat.le_of_ble_eq_true rfl) (Nat.le_of_ble_eq_true rfl) dX1_init_40 (fun q5 cI9 H hK2 hP hD hS => ?_)
  have e9 : cI9 = cI := hy_sameT (t0 := 2) hK2 rfl
  rw [e9] at hP hD
  have hP : va_P D vwCl [(h, .inr (1, [.ref q1, .ref q2, .ref q4, .null, .null, .int 0, .int 0, .int 0, .int 0, .int 0])), (q1, .inl (cB, 12, .inr (.inr (.inr (.inr (fun _ => none)))))), (q3, .inl (cJ, 0, .inr (.inl (fun _ => 0)))), (q2, .inr (0, [.int 8, .ref q3])), (q4, .inl (cI, 60, .inl (fun _ => 0))), (q5, .inl (cI, 60, .inl (fun _ => 0)))] H := hP
  have hD : va_D A [(h, .inr (1, [.ref q1, .ref q2, .ref q4, .null, .null, .int 0, .int 0, .int 0, .int 0, .int 0])), (q1, .inl (cB, 12, .inr (.inr (.inr (.inr (fun _ => none)))))), (q3, .inl (cJ, 0, .inr (.inl (fun _ => 0)))), (q2, .inr (0, [.int 8, .ref q3])), (q4, .inl (cI, 60, .inl (fun _ => 0))), (q5, .inl (cI, 60, .inl (fun _ => 0)))] := hD
  refine W.widen (k := 5) (n := 134) (Nat.le_of_ble_eq_true rfl) (Nat.le_of_ble_eq_true rfl) ?_
  refine va_putF (D := D) (ci := 1) (v := .ref q5) (ty := .array .int) (C := RX1) (T := TX1) (N := 10) hx hb hts hinX1 tyX1 tyX1_ok nmX1 hown hK hP hD hS 0 rfl rfl 3 (by decide) (hts (.fieldLink RX1 26 "HiveYard" "weightOfComb" "[I") (by decide +kernel)) (fun _ h9 => h9) rfl hin rfl (by decide +kernel) rfl rfl (Nat.le_of_ble_eq_true rfl) dX1_init_42 (fun H locs hP hD hS => ?_)
  have hP : va_P D vwCl [(h, .inr (1, [.ref q1, .ref q2, .ref q4, .ref q5, .null, .int 0, .int 0, .int 0, .int 0, .int 0])), (q1, .inl (cB, 12, .inr (.inr (.inr (.inr (fun _ => none)))))), (q3, .inl (cJ, 0, .inr (.inl (fun _ => 0)))), (q2, .inr (0, [.int 8, .ref q3])), (q4, .inl (cI, 60, .inl (fun _ => 0))), (q5, .inl (cI, 60, .inl (fun _ => 0)))] H := hP
  have hD : va_D A [(h, .inr (1, [.ref q1, .ref q2, .ref q4, .ref q5, .null, .int 0, .int 0, .int 0, .int 0, .int 0])), (q1, .inl (cB, 12, .inr (.inr (.inr (.inr (fun _ => none)))))), (q3, .inl (cJ, 0, .inr (.inl (fun _ => 0)))), (q2, .inr (0, [.int 8, .ref q3])), (q4, .inl (cI, 60, .inl (fun _ => 0))), (q5, .inl (cI, 60, .inl (fun _ => 0)))] := hD
  refine lv_aload_n hx hb dX1_init_45 rfl (lv_at hl 0 rfl) ?_
  refine lv_bipush (v := 6) hx hb dX1_init_46 (by decide) ?_
  refine va_newa (atype := .int) (ty := .int) (a0 := (6, .inl (fun _ => 0))) (N' := 6) hx hb (hts (.arrayClass .int) (by decide +kernel)) rfl hK hP hD hS hA (fun _ => rfl) (by decide) (by decide) (by decide) (Nat.le_of_ble_eq_true rfl) (Nat.le_of_ble_eq_true rfl) dX1_init_48 (fun q6 cI9 H hK2 hP hD hS => ?_)
  have e9 : cI9 = cI := hy_sameT (t0 := 2) hK2 rfl
  rw [e9] at hP hD
  have hP : va_P D vwCl [(h, .inr (1, [.ref q1, .ref q2, .ref q4, .ref q5, .null, .int 0, .int 0, .int 0, .int 0, .int 0])), (q1, .inl (cB, 12, .inr (.inr (.inr (.inr (fun _ => none)))))), (q3, .inl (cJ, 0, .inr (.inl (fun _ => 0)))), (q2, .inr (0, [.int 8, .ref q3])), (q4, .inl (cI, 60, .inl (fun _ => 0))), (q5, .inl (cI, 60, .inl (fun _ => 0))), (q6, .inl (cI, 6, .inl (fun _ => 0)))] H := hP
  have hD : va_D A [(h, .inr (1, [.ref q1, .ref q2, .ref q4, .ref q5, .null, .int 0, .int 0, .int 0, .int 0, .int 0])), (q1, .inl (cB, 12, .inr (.inr (.inr (.inr (fun _ => none)))))), (q3, .inl (cJ, 0, .inr (.inl (fun _ => 0)))), (q2, .inr (0, [.int 8, .ref q3])), (q4, .inl (cI, 60, .inl (fun _ => 0))), (q5, .inl (cI, 60, .inl (fun _ => 0))), (q6, .inl (cI, 6, .inl (fun _ => 0)))] := hD
  refine W.widen (k := 6) (n := 140) (Nat.le_of_ble_eq_true rfl) (Nat.le_of_ble_eq_true rfl) ?_
  refine va_putF (D := D) (ci := 1) (v := .ref q6) (ty := .array .int) (C := RX1) (T := TX1) (N := 10) hx hb hts hinX1 tyX1 tyX1_ok nmX1 hown hK hP hD hS 0 rfl rfl 4 (by decide) (hts (.fieldLink RX1 29 "HiveYard" "movesByEnd" "[I") (by decide +kernel)) (fun _ h9 => h9) rfl hin rfl (by decide +kernel) rfl rfl (Nat.le_of_ble_eq_true rfl) dX1_init_50 (fun H locs hP hD hS => ?_)
  have hP : va_P D vwCl [(h, .inr (1, [.ref q1, .ref q2, .ref q4, .ref q5, .ref q6, .int 0, .int 0, .int 0, .int 0, .int 0])), (q1, .inl (cB, 12, .inr (.inr (.inr (.inr (fun _ => none)))))), (q3, .inl (cJ, 0, .inr (.inl (fun _ => 0)))), (q2, .inr (0, [.int 8, .ref q3])), (q4, .inl (cI, 60, .inl (fun _ => 0))), (q5, .inl (cI, 60, .inl (fun _ => 0))), (q6, .inl (cI, 6, .inl (fun _ => 0)))] H := hP
  have hD : va_D A [(h, .inr (1, [.ref q1, .ref q2, .ref q4, .ref q5, .ref q6, .int 0, .int 0, .int 0, .int 0, .int 0])), (q1, .inl (cB, 12, .inr (.inr (.inr (.inr (fun _ => none)))))), (q3, .inl (cJ, 0, .inr (.inl (fun _ => 0)))), (q2, .inr (0, [.int 8, .ref q3])), (q4, .inl (cI, 60, .inl (fun _ => 0))), (q5, .inl (cI, 60, .inl (fun _ => 0))), (q6, .inl (cI, 6, .inl (fun _ => 0)))] := hD
  have hPz : va_P D vwCl (hy_W cI cJ cB h q1 q4 q5 q6 (fun _ => q2) (fun _ => q3) hy_S0) H := hP.sub [0, 1, 4, 5, 6, 3, 2] rfl
  have hDz : va_D A (hy_W cI cJ cB h q1 q4 q5 q6 (fun _ => q2) (fun _ => q3) hy_S0) := hD.sub [0, 1, 4, 5, 6, 3, 2] (by decide) rfl
  have hKz : va_K D vwCl (hy_T cI cJ cB) s := hK.sub [2, 1, 0] rfl
  exact W.vret hx hb hr (fun t ht hW => ⟨⟨(), rfl, trivial, cI, cJ, cB, q1, q4, q5, q6, fun _ => q2, fun _ => q3, by rw [ht]; exact hPz, va_K.moved hW.alike hKz, hDz⟩, hS.F ht⟩) hS.2.2 dX1_init_53
