/-! THE REFERENCE: its constructor. Rows written with mk17.py. -/
theorem hy_arrV_congr (cA : ClassId) (n : Nat) (f g : Nat → Value) (h : ∀ j, j < n → f j = g j) : arrV cA n f = arrV cA n g := by
  have e : (fun j : Fin n => f j.val) = fun j => g j.val := by
    funext j
    exact h j.1 j.2
  unfold arrV
  rw [e]
def hy_mf (i : Nat) : Nat → Int32 := fun k => if k < i then -1 else 0
theorem hy_mf_up (i : Nat) : upd (hy_mf i) i (-1) = hy_mf (i + 1) := by
  funext k
  simp only [upd, hy_mf]
  by_cases h : k = i
  · rw [if_pos h, if_pos (by omega)]
  · rw [if_neg h]
    by_cases h2 : k < i
    · rw [if_pos h2, if_pos (by omega)]
    · rw [if_neg h2, if_neg (by omega)]
theorem hy_mf0 : (fun _ => (0 : Int32)) = hy_mf 0 := by
  funext k
  simp only [hy_mf]
  rw [if_neg (by omega)]
theorem hy_mfP {D : va_G} {cl : List vw_C} {a : Nat} {c : ClassId} {H : Heap} (h : va_at D cl (a, .inl (c, 12, .inl (hy_mf 12))) H) : va_at D cl (a, .inl (c, 12, .inl (fun _ => -1))) H := by
  have e := hy_arrV_congr c 12 (fun j => .int (hy_mf 12 j)) (fun _ => .int (-1)) (fun j hj => congrArg Value.int (if_pos hj))
  have h1 : H[a]? = some (arrV c 12 (fun j => .int (hy_mf 12 j))) := h
  rw [e] at h1
  exact h1
theorem hy_so0 : (fun j => hy_so hy_S0 (j + 1)) = fun _ => (0 : Int32) := by
  funext j
  exact va_up_ne (fun _ => (0 : Int32)) 8 (Nat.succ_ne_zero j)
set_option maxHeartbeats 4000000 in
set_option maxRecDepth 100000 in
/-- HiveYardModel() -/
theorem c_X2_init (l : Launch) (D : va_G) (cI cJ cB : ClassId) (n0 sz : Nat) : Met l yX2_init wsX2_init ({ frames := 2, cells := 8, slots := 7962, locals := 38 }) (va_Pc [.ref n0] (fun U => U.heap.size = sz ∧ va_P D vwCl [(n0, .inr (2, [.int 0, .null, .int 0, .null, .null, .null, .null, .int 0, .null, .null, .int 0, .int 0, .int 0, .null]))] U.heap ∧ va_K D vwCl (hy_T cI cJ cB) U ∧ va_D (fun _ => True) [(n0, .inr (2, [.int 0, .null, .int 0, .null, .null, .null, .null, .int 0, .null, .null, .int 0, .int 0, .int 0, .null]))])) (va_Qv (fun _ : Unit => True) (fun _ t => ∃ bM sM zM tM xM kM wM eM : Nat, hy_AtM D cI cJ cB n0 bM sM zM tM xM kM wM eM hy_S0 0 (va_A [(n0, .inr (2, [.int 0, .null, .int 0, .null, .null, .null, .null, .int 0, .null, .null, .int 0, .int 0, .int 0, .null]))] sz) t) (va_A [(n0, .inr (2, [.int 0, .null, .int 0, .null, .null, .null, .null, .int 0, .null, .null, .int 0, .int 0, .int 0, .null]))] sz)) 8 7962 (va_A [(n0, .inr (2, [.int 0, .null, .int 0, .null, .null, .null, .null, .int 0, .null, .null, .int 0, .int 0, .int 0, .null]))] sz) := by
  refine Met.ofW (cc := cX2_init) (maxL := 2) (ret := none) (by decide) rfl ?_
  intro p e s m args below meth c s₁ B hml hv
  obtain ⟨rfl, hsz, hP, hK, hD0⟩ := hv
  have hx := B.exec
  have hb := B.bytes
  have hr := B.returns
  have hts := atoms_spec (ws := wsX2_init) B.pre
  have hown : s.vm.findClass RX2 = some m.cls := findClass_of_methodNamed B.named
  have hlocks := B.notSynchronized
  have hin : meth.name = "<init>" := (name_of_methodNamed B.named B.method).1
  subst hsz
  have hD := hD0.self (sz := s.heap.size)
  generalize hAe : va_A [(n0, .inr (2, [.int 0, .null, .int 0, .null, .null, .null, .null, .int 0, .null, .null, .int 0, .int 0, .int 0, .null]))] s.heap.size = A at hD ⊢
  have hA : ∀ q : Nat, s.heap.size ≤ q → A q := fun q h => by rw [← hAe]; exact Or.inr h
  have hS : va_S A s.heap s.heap [] := va_S.rf
  have hinX2 : ∀ w ∈ wsX20, w ∈ wsX2_init := by decide +kernel
  have hl := lv_entry ([.ref n0]) (n := 2) (Nat.le_of_ble_eq_true rfl)
  rw [lg_entry_eq]
  generalize (lg_sl ([.ref n0]) ++ List.replicate (2 - (lg_sl ([.ref n0])).length) Slot.unset).toArray = ls at hl ⊢
  have hl : lv_has ls 2 [(0, .ref n0)] := hl
  refine lv_aload_n hx hb dX2_init_0 rfl (lv_at hl 0 rfl) ?_
  refine W.objInit hx hb hown (hts (.methodLink RX2 1 objectInit) (by decide +kernel)) (hts (.instanceMethod objectInit) (by decide +kernel)) (hts _ (List.mem_cons_of_mem _ (List.mem_append_left _ (List.mem_of_getElem? (i := 2) rfl)))) rfl (by rw [hml]; exact hl.1) rfl dX2_init_1 (Nat.le_of_ble_eq_true rfl) (Nat.le_of_ble_eq_true rfl) ?_
  refine W.eq (g2 := F0 m 4 ls []) rfl ?_
  refine lv_aload_n hx hb dX2_init_4 rfl (lv_at hl 0 rfl) ?_
  refine lv_bipush (v := 12) hx hb dX2_init_5 (by decide) ?_
  refine va_newa (atype := .int) (ty := .int) (a0 := (12, .inl (fun _ => 0))) (N' := 12) hx hb (hts (.arrayClass .int) (by decide +kernel)) rfl hK hP hD hS hA (fun _ => rfl) (by decide) (by decide) (by decide) (Nat.le_of_ble_eq_true rfl) (Nat.le_of_ble_eq_true rfl) dX2_init_7 (fun bM c9 H hK2 hP hD hS => ?_)
  obtain rfl : cI = c9 := (hy_sameT (t0 := 0) hK2 rfl).symm
  have hP : va_P D vwCl [(n0, .inr (2, [.int 0, .null, .int 0, .null, .null, .null, .null, .int 0, .null, .null, .int 0, .int 0, .int 0, .null])), (bM, .inl (cI, 12, .inl (fun _ => 0)))] H := hP
  have hD : va_D A [(n0, .inr (2, [.int 0, .null, .int 0, .null, .null, .null, .null, .int 0, .null, .null, .int 0, .int 0, .int 0, .null])), (bM, .inl (cI, 12, .inl (fun _ => 0)))] := hD
  refine W.widen (k := 1) (n := 12) (Nat.le_of_ble_eq_true rfl) (Nat.le_of_ble_eq_true rfl) ?_
  refine va_putF (D := D) (ci := 2) (v := .ref bM) (ty := .array .int) (C := RX2) (T := TX2) (N := 14) hx hb hts hinX2 tyX2 tyX2_ok nmX2 hown hK hP hD hS 0 rfl rfl 1 (by decide) (hts (.fieldLink RX2 7 "HiveYardModel" "boxes" "[I") (by decide +kernel)) (fun _ h9 => h9) rfl hin rfl (by decide +kernel) rfl rfl (Nat.le_of_ble_eq_true rfl) dX2_init_9 (fun H locs hP hD hS => ?_)
  have hP : va_P D vwCl [(n0, .inr (2, [.int 0, .ref bM, .int 0, .null, .null, .null, .null, .int 0, .null, .null, .int 0, .int 0, .int 0, .null])), (bM, .inl (cI, 12, .inl (fun _ => 0)))] H := hP
  have hD : va_D A [(n0, .inr (2, [.int 0, .ref bM, .int 0, .null, .null, .null, .null, .int 0, .null, .null, .int 0, .int 0, .int 0, .null])), (bM, .inl (cI, 12, .inl (fun _ => 0)))] := hD
  refine lv_aload_n hx hb dX2_init_12 rfl (lv_at hl 0 rfl) ?_
  refine lv_sipush (v := 300) hx hb dX2_init_13 (by decide) ?_
  refine va_newa (atype := .int) (ty := .int) (a0 := (300, .inl (fun _ => 0))) (N' := 300) hx hb (hts (.arrayClass .int) (by decide +kernel)) rfl hK hP hD hS hA (fun _ => rfl) (by decide) (by decide) (by decide) (Nat.le_of_ble_eq_true rfl) (Nat.le_of_ble_eq_true rfl) dX2_init_16 (fun sM c9 H hK2 hP hD hS => ?_)
  obtain rfl : cI = c9 := (hy_sameT (t0 := 0) hK2 rfl).symm
  have hP : va_P D vwCl [(n0, .inr (2, [.int 0, .ref bM, .int 0, .null, .null, .null, .null, .int 0, .null, .null, .int 0, .int 0, .int 0, .null])), (bM, .inl (cI, 12, .inl (fun _ => 0))), (sM, .inl (cI, 300, .inl (fun _ => 0)))] H := hP
  have hD : va_D A [(n0, .inr (2, [.int 0, .ref bM, .int 0, .null, .null, .null, .null, .int 0, .null, .null, .int 0, .int 0, .int 0, .null])), (bM, .inl (cI, 12, .inl (fun _ => 0))), (sM, .inl (cI, 300, .inl (fun _ => 0)))] := hD
  refine W.widen (k := 2) (n := 312) (Nat.le_of_ble_eq_true rfl) (Nat.le_of_ble_eq_true rfl) ?_
  refine va_putF (D := D) (ci := 2) (v := .ref sM) (ty := .array .int) (C := RX2) (T := TX2) (N := 14) hx hb hts hinX2 tyX2 tyX2_ok nmX2 hown hK hP hD hS 0 rfl rfl 3 (by decide) (hts (.fieldLink RX2 13 "HiveYardModel" "sorts" "[I") (by decide +kernel)) (fun _ h9 => h9) rfl hin rfl (by decide +kernel) rfl rfl (Nat.le_of_ble_eq_true rfl) dX2_init_18 (fun H locs hP hD hS => ?_)
  have hP : va_P D vwCl [(n0, .inr (2, [.int 0, .ref bM, .int 0, .ref sM, .null, .null, .null, .int 0, .null, .null, .int 0, .int 0, .int 0, .null])), (bM, .inl (cI, 12, .inl (fun _ => 0))), (sM, .inl (cI, 300, .inl (fun _ => 0)))] H := hP
  have hD : va_D A [(n0, .inr (2, [.int 0, .ref bM, .int 0, .ref sM, .null, .null, .null, .int 0, .null, .null, .int 0, .int 0, .int 0, .null])), (bM, .inl (cI, 12, .inl (fun _ => 0))), (sM, .inl (cI, 300, .inl (fun _ => 0)))] := hD
  refine lv_aload_n hx hb dX2_init_21 rfl (lv_at hl 0 rfl) ?_
  refine lv_sipush (v := 300) hx hb dX2_init_22 (by decide) ?_
  refine va_newa (atype := .int) (ty := .int) (a0 := (300, .inl (fun _ => 0))) (N' := 300) hx hb (hts (.arrayClass .int) (by decide +kernel)) rfl hK hP hD hS hA (fun _ => rfl) (by decide) (by decide) (by decide) (Nat.le_of_ble_eq_true rfl) (Nat.le_of_ble_eq_true rfl) dX2_init_25 (fun zM c9 H hK2 hP hD hS => ?_)
  obtain rfl : cI = c9 := (hy_sameT (t0 := 0) hK2 rfl).symm
  have hP : va_P D vwCl [(n0, .inr (2, [.int 0, .ref bM, .int 0, .ref sM, .null, .null, .null, .int 0, .null, .null, .int 0, .int 0, .int 0, .null])), (bM, .inl (cI, 12, .inl (fun _ => 0))), (sM, .inl (cI, 300, .inl (fun _ => 0))), (zM, .inl (cI, 300, .inl (fun _ => 0)))] H := hP
  have hD : va_D A [(n0, .inr (2, [.int 0, .ref bM, .int 0, .ref sM, .null, .null, .null, .int 0, .null, .null, .int 0, .int 0, .int 0, .null])), (bM, .inl (cI, 12, .inl (fun _ => 0))), (sM, .inl (cI, 300, .inl (fun _ => 0))), (zM, .inl (cI, 300, .inl (fun _ => 0)))] := hD
  refine W.widen (k := 3) (n := 612) (Nat.le_of_ble_eq_true rfl) (Nat.le_of_ble_eq_true rfl) ?_
  refine va_putF (D := D) (ci := 2) (v := .ref zM) (ty := .array .int) (C := RX2) (T := TX2) (N := 14) hx hb hts hinX2 tyX2 tyX2_ok nmX2 hown hK hP hD hS 0 rfl rfl 4 (by decide) (hts (.fieldLink RX2 16 "HiveYardModel" "sizes" "[I") (by decide +kernel)) (fun _ h9 => h9) rfl hin rfl (by decide +kernel) rfl rfl (Nat.le_of_ble_eq_true rfl) dX2_init_27 (fun H locs hP hD hS => ?_)
  have hP : va_P D vwCl [(n0, .inr (2, [.int 0, .ref bM, .int 0, .ref sM, .ref zM, .null, .null, .int 0, .null, .null, .int 0, .int 0, .int 0, .null])), (bM, .inl (cI, 12, .inl (fun _ => 0))), (sM, .inl (cI, 300, .inl (fun _ => 0))), (zM, .inl (cI, 300, .inl (fun _ => 0)))] H := hP
  have hD : va_D A [(n0, .inr (2, [.int 0, .ref bM, .int 0, .ref sM, .ref zM, .null, .null, .int 0, .null, .null, .int 0, .int 0, .int 0, .null])), (bM, .inl (cI, 12, .inl (fun _ => 0))), (sM, .inl (cI, 300, .inl (fun _ => 0))), (zM, .inl (cI, 300, .inl (fun _ => 0)))] := hD
  refine lv_aload_n hx hb dX2_init_30 rfl (lv_at hl 0 rfl) ?_
  refine lv_sipush (v := 7200) hx hb dX2_init_31 (by decide) ?_
  refine va_newa (atype := .long) (ty := .long) (a0 := (7200, .inr (.inl (fun _ => 0)))) (N' := 7200) hx hb (hts (.arrayClass .long) (by decide +kernel)) rfl hK hP hD hS hA (fun _ => rfl) (by decide) (by decide) (by decide) (Nat.le_of_ble_eq_true rfl) (Nat.le_of_ble_eq_true rfl) dX2_init_34 (fun tM c9 H hK2 hP hD hS => ?_)
  obtain rfl : cJ = c9 := (hy_sameT (t0 := 1) hK2 rfl).symm
  have hP : va_P D vwCl [(n0, .inr (2, [.int 0, .ref bM, .int 0, .ref sM, .ref zM, .null, .null, .int 0, .null, .null, .int 0, .int 0, .int 0, .null])), (bM, .inl (cI, 12, .inl (fun _ => 0))), (sM, .inl (cI, 300, .inl (fun _ => 0))), (zM, .inl (cI, 300, .inl (fun _ => 0))), (tM, .inl (cJ, 7200, .inr (.inl (fun _ => 0))))] H := hP
  have hD : va_D A [(n0, .inr (2, [.int 0, .ref bM, .int 0, .ref sM, .ref zM, .null, .null, .int 0, .null, .null, .int 0, .int 0, .int 0, .null])), (bM, .inl (cI, 12, .inl (fun _ => 0))), (sM, .inl (cI, 300, .inl (fun _ => 0))), (zM, .inl (cI, 300, .inl (fun _ => 0))), (tM, .inl (cJ, 7200, .inr (.inl (fun _ => 0))))] := hD
  refine W.widen (k := 4) (n := 7812) (Nat.le_of_ble_eq_true rfl) (Nat.le_of_ble_eq_true rfl) ?_
  refine va_putF (D := D) (ci := 2) (v := .ref tM) (ty := .array .long) (C := RX2) (T := TX2) (N := 14) hx hb hts hinX2 tyX2 tyX2_ok nmX2 hown hK hP hD hS 0 rfl rfl 5 (by decide) (hts (.fieldLink RX2 19 "HiveYardModel" "stands" "[J") (by decide +kernel)) (fun _ h9 => h9) rfl hin rfl (by decide +kernel) rfl rfl (Nat.le_of_ble_eq_true rfl) dX2_init_36 (fun H locs hP hD hS => ?_)
  have hP : va_P D vwCl [(n0, .inr (2, [.int 0, .ref bM, .int 0, .ref sM, .ref zM, .ref tM, .null, .int 0, .null, .null, .int 0, .int 0, .int 0, .null])), (bM, .inl (cI, 12, .inl (fun _ => 0))), (sM, .inl (cI, 300, .inl (fun _ => 0))), (zM, .inl (cI, 300, .inl (fun _ => 0))), (tM, .inl (cJ, 7200, .inr (.inl (fun _ => 0))))] H := hP
  have hD : va_D A [(n0, .inr (2, [.int 0, .ref bM, .int 0, .ref sM, .ref zM, .ref tM, .null, .int 0, .null, .null, .int 0, .int 0, .int 0, .null])), (bM, .inl (cI, 12, .inl (fun _ => 0))), (sM, .inl (cI, 300, .inl (fun _ => 0))), (zM, .inl (cI, 300, .inl (fun _ => 0))), (tM, .inl (cJ, 7200, .inr (.inl (fun _ => 0))))] := hD
  refine lv_aload_n hx hb dX2_init_39 rfl (lv_at hl 0 rfl) ?_
  refine lv_bipush (v := 24) hx hb dX2_init_40 (by decide) ?_
  refine va_newa (atype := .long) (ty := .long) (a0 := (24, .inr (.inl (fun _ => 0)))) (N' := 24) hx hb (hts (.arrayClass .long) (by decide +kernel)) rfl hK hP hD hS hA (fun _ => rfl) (by decide) (by decide) (by decide) (Nat.le_of_ble_eq_true rfl) (Nat.le_of_ble_eq_true rfl) dX2_init_42 (fun xM c9 H hK2 hP hD hS => ?_)
  obtain rfl : cJ = c9 := (hy_sameT (t0 := 1) hK2 rfl).symm
  have hP : va_P D vwCl [(n0, .inr (2, [.int 0, .ref bM, .int 0, .ref sM, .ref zM, .ref tM, .null, .int 0, .null, .null, .int 0, .int 0, .int 0, .null])), (bM, .inl (cI, 12, .inl (fun _ => 0))), (sM, .inl (cI, 300, .inl (fun _ => 0))), (zM, .inl (cI, 300, .inl (fun _ => 0))), (tM, .inl (cJ, 7200, .inr (.inl (fun _ => 0)))), (xM, .inl (cJ, 24, .inr (.inl (fun _ => 0))))] H := hP
  have hD : va_D A [(n0, .inr (2, [.int 0, .ref bM, .int 0, .ref sM, .ref zM, .ref tM, .null, .int 0, .null, .null, .int 0, .int 0, .int 0, .null])), (bM, .inl (cI, 12, .inl (fun _ => 0))), (sM, .inl (cI, 300, .inl (fun _ => 0))), (zM, .inl (cI, 300, .inl (fun _ => 0))), (tM, .inl (cJ, 7200, .inr (.inl (fun _ => 0)))), (xM, .inl (cJ, 24, .inr (.inl (fun _ => 0))))] := hD
  refine W.widen (k := 5) (n := 7836) (Nat.le_of_ble_eq_true rfl) (Nat.le_of_ble_eq_true rfl) ?_
  refine va_putF (D := D) (ci := 2) (v := .ref xM) (ty := .array .long) (C := RX2) (T := TX2) (N := 14) hx hb hts hinX2 tyX2 tyX2_ok nmX2 hown hK hP hD hS 0 rfl rfl 6 (by decide) (hts (.fieldLink RX2 23 "HiveYardModel" "taken" "[J") (by decide +kernel)) (fun _ h9 => h9) rfl hin rfl (by decide +kernel) rfl rfl (Nat.le_of_ble_eq_true rfl) dX2_init_44 (fun H locs hP hD hS => ?_)
  have hP : va_P D vwCl [(n0, .inr (2, [.int 0, .ref bM, .int 0, .ref sM, .ref zM, .ref tM, .ref xM, .int 0, .null, .null, .int 0, .int 0, .int 0, .null])), (bM, .inl (cI, 12, .inl (fun _ => 0))), (sM, .inl (cI, 300, .inl (fun _ => 0))), (zM, .inl (cI, 300, .inl (fun _ => 0))), (tM, .inl (cJ, 7200, .inr (.inl (fun _ => 0)))), (xM, .inl (cJ, 24, .inr (.inl (fun _ => 0))))] H := hP
  have hD : va_D A [(n0, .inr (2, [.int 0, .ref bM, .int 0, .ref sM, .ref zM, .ref tM, .ref xM, .int 0, .null, .null, .int 0, .int 0, .int 0, .null])), (bM, .inl (cI, 12, .inl (fun _ => 0))), (sM, .inl (cI, 300, .inl (fun _ => 0))), (zM, .inl (cI, 300, .inl (fun _ => 0))), (tM, .inl (cJ, 7200, .inr (.inl (fun _ => 0)))), (xM, .inl (cJ, 24, .inr (.inl (fun _ => 0))))] := hD
  refine lv_aload_n hx hb dX2_init_47 rfl (lv_at hl 0 rfl) ?_
  refine lv_bipush (v := 60) hx hb dX2_init_48 (by decide) ?_
  refine va_newa (atype := .int) (ty := .int) (a0 := (60, .inl (fun _ => 0))) (N' := 60) hx hb (hts (.arrayClass .int) (by decide +kernel)) rfl hK hP hD hS hA (fun _ => rfl) (by decide) (by decide) (by decide) (Nat.le_of_ble_eq_true rfl) (Nat.le_of_ble_eq_true rfl) dX2_init_50 (fun kM c9 H hK2 hP hD hS => ?_)
  obtain rfl : cI = c9 := (hy_sameT (t0 := 0) hK2 rfl).symm
  have hP : va_P D vwCl [(n0, .inr (2, [.int 0, .ref bM, .int 0, .ref sM, .ref zM, .ref tM, .ref xM, .int 0, .null, .null, .int 0, .int 0, .int 0, .null])), (bM, .inl (cI, 12, .inl (fun _ => 0))), (sM, .inl (cI, 300, .inl (fun _ => 0))), (zM, .inl (cI, 300, .inl (fun _ => 0))), (tM, .inl (cJ, 7200, .inr (.inl (fun _ => 0)))), (xM, .inl (cJ, 24, .inr (.inl (fun _ => 0)))), (kM, .inl (cI, 60, .inl (fun _ => 0)))] H := hP
  have hD : va_D A [(n0, .inr (2, [.int 0, .ref bM, .int 0, .ref sM, .ref zM, .ref tM, .ref xM, .int 0, .null, .null, .int 0, .int 0, .int 0, .null])), (bM, .inl (cI, 12, .inl (fun _ => 0))), (sM, .inl (cI, 300, .inl (fun _ => 0))), (zM, .inl (cI, 300, .inl (fun _ => 0))), (tM, .inl (cJ, 7200, .inr (.inl (fun _ => 0)))), (xM, .inl (cJ, 24, .inr (.inl (fun _ => 0)))), (kM, .inl (cI, 60, .inl (fun _ => 0)))] := hD
  refine W.widen (k := 6) (n := 7896) (Nat.le_of_ble_eq_true rfl) (Nat.le_of_ble_eq_true rfl) ?_
  refine va_putF (D := D) (ci := 2) (v := .ref kM) (ty := .array .int) (C := RX2) (T := TX2) (N := 14) hx hb hts hinX2 tyX2 tyX2_ok nmX2 hown hK hP hD hS 0 rfl rfl 8 (by decide) (hts (.fieldLink RX2 26 "HiveYardModel" "kinds" "[I") (by decide +kernel)) (fun _ h9 => h9) rfl hin rfl (by decide +kernel) rfl rfl (Nat.le_of_ble_eq_true rfl) dX2_init_52 (fun H locs hP hD hS => ?_)
  have hP : va_P D vwCl [(n0, .inr (2, [.int 0, .ref bM, .int 0, .ref sM, .ref zM, .ref tM, .ref xM, .int 0, .ref kM, .null, .int 0, .int 0, .int 0, .null])), (bM, .inl (cI, 12, .inl (fun _ => 0))), (sM, .inl (cI, 300, .inl (fun _ => 0))), (zM, .inl (cI, 300, .inl (fun _ => 0))), (tM, .inl (cJ, 7200, .inr (.inl (fun _ => 0)))), (xM, .inl (cJ, 24, .inr (.inl (fun _ => 0)))), (kM, .inl (cI, 60, .inl (fun _ => 0)))] H := hP
  have hD : va_D A [(n0, .inr (2, [.int 0, .ref bM, .int 0, .ref sM, .ref zM, .ref tM, .ref xM, .int 0, .ref kM, .null, .int 0, .int 0, .int 0, .null])), (bM, .inl (cI, 12, .inl (fun _ => 0))), (sM, .inl (cI, 300, .inl (fun _ => 0))), (zM, .inl (cI, 300, .inl (fun _ => 0))), (tM, .inl (cJ, 7200, .inr (.inl (fun _ => 0)))), (xM, .inl (cJ, 24, .inr (.inl (fun _ => 0)))), (kM, .inl (cI, 60, .inl (fun _ => 0)))] := hD
  refine lv_aload_n hx hb dX2_init_55 rfl (lv_at hl 0 rfl) ?_
  refine lv_bipush (v := 60) hx hb dX2_init_56 (by decide) ?_
  refine va_newa (atype := .int) (ty := .int) (a0 := (60, .inl (fun _ => 0))) (N' := 60) hx hb (hts (.arrayClass .int) (by decide +kernel)) rfl hK hP hD hS hA (fun _ => rfl) (by decide) (by decide) (by decide) (Nat.le_of_ble_eq_true rfl) (Nat.le_of_ble_eq_true rfl) dX2_init_58 (fun wM c9 H hK2 hP hD hS => ?_)
  obtain rfl : cI = c9 := (hy_sameT (t0 := 0) hK2 rfl).symm
  have hP : va_P D vwCl [(n0, .inr (2, [.int 0, .ref bM, .int 0, .ref sM, .ref zM, .ref tM, .ref xM, .int 0, .ref kM, .null, .int 0, .int 0, .int 0, .null])), (bM, .inl (cI, 12, .inl (fun _ => 0))), (sM, .inl (cI, 300, .inl (fun _ => 0))), (zM, .inl (cI, 300, .inl (fun _ => 0))), (tM, .inl (cJ, 7200, .inr (.inl (fun _ => 0)))), (xM, .inl (cJ, 24, .inr (.inl (fun _ => 0)))), (kM, .inl (cI, 60, .inl (fun _ => 0))), (wM, .inl (cI, 60, .inl (fun _ => 0)))] H := hP
  have hD : va_D A [(n0, .inr (2, [.int 0, .ref bM, .int 0, .ref sM, .ref zM, .ref tM, .ref xM, .int 0, .ref kM, .null, .int 0, .int 0, .int 0, .null])), (bM, .inl (cI, 12, .inl (fun _ => 0))), (sM, .inl (cI, 300, .inl (fun _ => 0))), (zM, .inl (cI, 300, .inl (fun _ => 0))), (tM, .inl (cJ, 7200, .inr (.inl (fun _ => 0)))), (xM, .inl (cJ, 24, .inr (.inl (fun _ => 0)))), (kM, .inl (cI, 60, .inl (fun _ => 0))), (wM, .inl (cI, 60, .inl (fun _ => 0)))] := hD
  refine W.widen (k := 7) (n := 7956) (Nat.le_of_ble_eq_true rfl) (Nat.le_of_ble_eq_true rfl) ?_
  refine va_putF (D := D) (ci := 2) (v := .ref wM) (ty := .array .int) (C := RX2) (T := TX2) (N := 14) hx hb hts hinX2 tyX2 tyX2_ok nmX2 hown hK hP hD hS 0 rfl rfl 9 (by decide) (hts (.fieldLink RX2 29 "HiveYardModel" "weights" "[I") (by decide +kernel)) (fun _ h9 => h9) rfl hin rfl (by decide +kernel) rfl rfl (Nat.le_of_ble_eq_true rfl) dX2_init_60 (fun H locs hP hD hS => ?_)
  have hP : va_P D vwCl [(n0, .inr (2, [.int 0, .ref bM, .int 0, .ref sM, .ref zM, .ref tM, .ref xM, .int 0, .ref kM, .ref wM, .int 0, .int 0, .int 0, .null])), (bM, .inl (cI, 12, .inl (fun _ => 0))), (sM, .inl (cI, 300, .inl (fun _ => 0))), (zM, .inl (cI, 300, .inl (fun _ => 0))), (tM, .inl (cJ, 7200, .inr (.inl (fun _ => 0)))), (xM, .inl (cJ, 24, .inr (.inl (fun _ => 0)))), (kM, .inl (cI, 60, .inl (fun _ => 0))), (wM, .inl (cI, 60, .inl (fun _ => 0)))] H := hP
  have hD : va_D A [(n0, .inr (2, [.int 0, .ref bM, .int 0, .ref sM, .ref zM, .ref tM, .ref xM, .int 0, .ref kM, .ref wM, .int 0, .int 0, .int 0, .null])), (bM, .inl (cI, 12, .inl (fun _ => 0))), (sM, .inl (cI, 300, .inl (fun _ => 0))), (zM, .inl (cI, 300, .inl (fun _ => 0))), (tM, .inl (cJ, 7200, .inr (.inl (fun _ => 0)))), (xM, .inl (cJ, 24, .inr (.inl (fun _ => 0)))), (kM, .inl (cI, 60, .inl (fun _ => 0))), (wM, .inl (cI, 60, .inl (fun _ => 0)))] := hD
  refine lv_aload_n hx hb dX2_init_63 rfl (lv_at hl 0 rfl) ?_
  refine lv_bipush (v := 6) hx hb dX2_init_64 (by decide) ?_
  refine va_newa (atype := .int) (ty := .int) (a0 := (6, .inl (fun _ => 0))) (N' := 6) hx hb (hts (.arrayClass .int) (by decide +kernel)) rfl hK hP hD hS hA (fun _ => rfl) (by decide) (by decide) (by decide) (Nat.le_of_ble_eq_true rfl) (Nat.le_of_ble_eq_true rfl) dX2_init_66 (fun eM c9 H hK2 hP hD hS => ?_)
  obtain rfl : cI = c9 := (hy_sameT (t0 := 0) hK2 rfl).symm
  have hP : va_P D vwCl [(n0, .inr (2, [.int 0, .ref bM, .int 0, .ref sM, .ref zM, .ref tM, .ref xM, .int 0, .ref kM, .ref wM, .int 0, .int 0, .int 0, .null])), (bM, .inl (cI, 12, .inl (fun _ => 0))), (sM, .inl (cI, 300, .inl (fun _ => 0))), (zM, .inl (cI, 300, .inl (fun _ => 0))), (tM, .inl (cJ, 7200, .inr (.inl (fun _ => 0)))), (xM, .inl (cJ, 24, .inr (.inl (fun _ => 0)))), (kM, .inl (cI, 60, .inl (fun _ => 0))), (wM, .inl (cI, 60, .inl (fun _ => 0))), (eM, .inl (cI, 6, .inl (fun _ => 0)))] H := hP
  have hD : va_D A [(n0, .inr (2, [.int 0, .ref bM, .int 0, .ref sM, .ref zM, .ref tM, .ref xM, .int 0, .ref kM, .ref wM, .int 0, .int 0, .int 0, .null])), (bM, .inl (cI, 12, .inl (fun _ => 0))), (sM, .inl (cI, 300, .inl (fun _ => 0))), (zM, .inl (cI, 300, .inl (fun _ => 0))), (tM, .inl (cJ, 7200, .inr (.inl (fun _ => 0)))), (xM, .inl (cJ, 24, .inr (.inl (fun _ => 0)))), (kM, .inl (cI, 60, .inl (fun _ => 0))), (wM, .inl (cI, 60, .inl (fun _ => 0))), (eM, .inl (cI, 6, .inl (fun _ => 0)))] := hD
  refine W.widen (k := 8) (n := 7962) (Nat.le_of_ble_eq_true rfl) (Nat.le_of_ble_eq_true rfl) ?_
  refine va_putF (D := D) (ci := 2) (v := .ref eM) (ty := .array .int) (C := RX2) (T := TX2) (N := 14) hx hb hts hinX2 tyX2 tyX2_ok nmX2 hown hK hP hD hS 0 rfl rfl 13 (by decide) (hts (.fieldLink RX2 32 "HiveYardModel" "ended" "[I") (by decide +kernel)) (fun _ h9 => h9) rfl hin rfl (by decide +kernel) rfl rfl (Nat.le_of_ble_eq_true rfl) dX2_init_68 (fun H locs hP hD hS => ?_)
  have hP : va_P D vwCl [(n0, .inr (2, [.int 0, .ref bM, .int 0, .ref sM, .ref zM, .ref tM, .ref xM, .int 0, .ref kM, .ref wM, .int 0, .int 0, .int 0, .ref eM])), (bM, .inl (cI, 12, .inl (fun _ => 0))), (sM, .inl (cI, 300, .inl (fun _ => 0))), (zM, .inl (cI, 300, .inl (fun _ => 0))), (tM, .inl (cJ, 7200, .inr (.inl (fun _ => 0)))), (xM, .inl (cJ, 24, .inr (.inl (fun _ => 0)))), (kM, .inl (cI, 60, .inl (fun _ => 0))), (wM, .inl (cI, 60, .inl (fun _ => 0))), (eM, .inl (cI, 6, .inl (fun _ => 0)))] H := hP
  have hD : va_D A [(n0, .inr (2, [.int 0, .ref bM, .int 0, .ref sM, .ref zM, .ref tM, .ref xM, .int 0, .ref kM, .ref wM, .int 0, .int 0, .int 0, .ref eM])), (bM, .inl (cI, 12, .inl (fun _ => 0))), (sM, .inl (cI, 300, .inl (fun _ => 0))), (zM, .inl (cI, 300, .inl (fun _ => 0))), (tM, .inl (cJ, 7200, .inr (.inl (fun _ => 0)))), (xM, .inl (cJ, 24, .inr (.inl (fun _ => 0)))), (kM, .inl (cI, 60, .inl (fun _ => 0))), (wM, .inl (cI, 60, .inl (fun _ => 0))), (eM, .inl (cI, 6, .inl (fun _ => 0)))] := hD
  have e0 := hy_mf0
  have hP : va_P D vwCl [(n0, .inr (2, [.int 0, .ref bM, .int 0, .ref sM, .ref zM, .ref tM, .ref xM, .int 0, .ref kM, .ref wM, .int 0, .int 0, .int 0, .ref eM])), (bM, .inl (cI, 12, .inl (hy_mf 0))), (sM, .inl (cI, 300, .inl (fun _ => 0))), (zM, .inl (cI, 300, .inl (fun _ => 0))), (tM, .inl (cJ, 7200, .inr (.inl (fun _ => 0)))), (xM, .inl (cJ, 24, .inr (.inl (fun _ => 0)))), (kM, .inl (cI, 60, .inl (fun _ => 0))), (wM, .inl (cI, 60, .inl (fun _ => 0))), (eM, .inl (cI, 6, .inl (fun _ => 0)))] H := by rw [← hy_mf0]; exact hP
  have hD : va_D A [(n0, .inr (2, [.int 0, .ref bM, .int 0, .ref sM, .ref zM, .ref tM, .ref xM, .int 0, .ref kM, .ref wM, .int 0, .int 0, .int 0, .ref eM])), (bM, .inl (cI, 12, .inl (hy_mf 0))), (sM, .inl (cI, 300, .inl (fun _ => 0))), (zM, .inl (cI, 300, .inl (fun _ => 0))), (tM, .inl (cJ, 7200, .inr (.inl (fun _ => 0)))), (xM, .inl (cJ, 24, .inr (.inl (fun _ => 0)))), (kM, .inl (cI, 60, .inl (fun _ => 0))), (wM, .inl (cI, 60, .inl (fun _ => 0))), (eM, .inl (cI, 6, .inl (fun _ => 0)))] := by rw [← hy_mf0]; exact hD
  refine lv_iconst (v := 0) hx hb dX2_init_71 (by decide) ?_
  refine lv_istore_n (lv' := [(1, .int 0), (0, .ref n0)]) hx hb dX2_init_72 rfl hl (by decide) rfl (fun ls hl => ?_)
  refine hy_forH (G := fun H locs ls => W p l e _ s m _ below meth c H locs _ _ _ (F0 m 73 ls [])) (H0 := H) (L0 := locs) (ls0 := ls) (fun i H locs ls => lv_has ls 2 [(1, .int (nI i)), (0, .ref n0)] ∧ va_P D vwCl [(n0, .inr (2, [.int 0, .ref bM, .int 0, .ref sM, .ref zM, .ref tM, .ref xM, .int 0, .ref kM, .ref wM, .int 0, .int 0, .int 0, .ref eM])), (bM, .inl (cI, 12, .inl (hy_mf i))), (sM, .inl (cI, 300, .inl (fun _ => 0))), (zM, .inl (cI, 300, .inl (fun _ => 0))), (tM, .inl (cJ, 7200, .inr (.inl (fun _ => 0)))), (xM, .inl (cJ, 24, .inr (.inl (fun _ => 0)))), (kM, .inl (cI, 60, .inl (fun _ => 0))), (wM, .inl (cI, 60, .inl (fun _ => 0))), (eM, .inl (cI, 6, .inl (fun _ => 0)))] H ∧ va_D A [(n0, .inr (2, [.int 0, .ref bM, .int 0, .ref sM, .ref zM, .ref tM, .ref xM, .int 0, .ref kM, .ref wM, .int 0, .int 0, .int 0, .ref eM])), (bM, .inl (cI, 12, .inl (hy_mf i))), (sM, .inl (cI, 300, .inl (fun _ => 0))), (zM, .inl (cI, 300, .inl (fun _ => 0))), (tM, .inl (cJ, 7200, .inr (.inl (fun _ => 0)))), (xM, .inl (cJ, 24, .inr (.inl (fun _ => 0)))), (kM, .inl (cI, 60, .inl (fun _ => 0))), (wM, .inl (cI, 60, .inl (fun _ => 0))), (eM, .inl (cI, 6, .inl (fun _ => 0)))] ∧ va_S A s.heap H locs) 12 ⟨lv_sub hl [0, 1] rfl, hP, hD, hS⟩ (fun H locs ls hI => ?_) (fun i H locs ls hi hI ih => ?_)
  · obtain ⟨hl, hP, hD, hS⟩ := hI
    refine lv_iload_n hx hb dX2_init_73 rfl (lv_at hl 0 rfl) ?_
    refine lv_bipush (v := 12) hx hb dX2_init_74 (by decide) ?_
    refine lv_icmp_ge (tgt := 92) hx hb dX2_init_76 (by decide) (fun c_76 => ?_) (fun c9 => absurd (by decide) c9)
    have hPz : va_P D vwCl (hy_M cI cJ n0 bM sM zM tM xM kM wM eM hy_S0 0 (fun _ => 0)) H := by
      unfold hy_M
      rw [hy_so0]
      intro k q hk
      match k, hk with
      | 0, hk => cases hk; exact hP 0 _ rfl
      | 1, hk => cases hk; exact hy_mfP (hP 1 _ rfl)
      | 2, hk => cases hk; exact hP 2 _ rfl
      | 3, hk => cases hk; exact hP 3 _ rfl
      | 4, hk => cases hk; exact hP 4 _ rfl
      | 5, hk => cases hk; exact hP 5 _ rfl
      | 6, hk => cases hk; exact hP 6 _ rfl
      | 7, hk => cases hk; exact hP 7 _ rfl
      | 8, hk => cases hk; exact hP 8 _ rfl
    have hDz : va_D A (hy_M cI cJ n0 bM sM zM tM xM kM wM eM hy_S0 0 (fun _ => 0)) := hy_D_iff.mpr ⟨(hy_D_iff.mp hD).1, fun q hq => ?_⟩
    · exact W.vret hx hb hr (fun t ht hW => ⟨⟨(), rfl, trivial, bM, sM, zM, tM, xM, kM, wM, eM, fun _ => 0, by rw [ht]; exact hPz, va_K.moved hW.alike hK, hDz⟩, hS.F ht⟩) hS.2.2 dX2_init_92
    · obtain ⟨k, hk⟩ := List.getElem?_of_mem hq
      match k, hk with
      | 0, hk => cases hk; exact hD.2 0 _ rfl
      | 1, hk => cases hk; exact hD.2 1 (bM, .inl (cI, 12, .inl (hy_mf 12))) rfl
      | 2, hk => cases hk; exact hD.2 2 _ rfl
      | 3, hk => cases hk; exact hD.2 3 _ rfl
      | 4, hk => cases hk; exact hD.2 4 _ rfl
      | 5, hk => cases hk; exact hD.2 5 _ rfl
      | 6, hk => cases hk; exact hD.2 6 _ rfl
      | 7, hk => cases hk; exact hD.2 7 _ rfl
      | 8, hk => cases hk; exact hD.2 8 _ rfl
  · obtain ⟨hl, hP, hD, hS⟩ := hI
    refine lv_iload_n hx hb dX2_init_73 rfl (lv_at hl 0 rfl) ?_
    refine lv_bipush (v := 12) hx hb dX2_init_74 (by decide) ?_
    refine lv_icmp_ge (tgt := 92) hx hb dX2_init_76 (by decide) (fun c9 => absurd c9 (nI_ge (b := 12) hi (by omega))) (fun c_76 => ?_)
    refine lv_aload_n hx hb dX2_init_79 rfl (lv_at hl 1 rfl) ?_
    refine va_get (D := D) (ci := 2) (v := .ref bM) (C := RX2) (T := TX2) (N := 14) hx hb hts hinX2 hown hK hP 0 rfl rfl 1 (by decide) (hts (.fieldLink RX2 7 "HiveYardModel" "boxes" "[I") (by decide +kernel)) (fun _ h9 => h9) rfl dX2_init_80 ?_
    refine lv_iload_n hx hb dX2_init_83 rfl (lv_at hl 0 rfl) ?_
    refine lv_iconst (v := -1) hx hb dX2_init_84 (by decide) ?_
    refine va_iast hx hb hK hP hD hS 1 0 rfl rfl (vp_in_nI hi (by omega)) dX2_init_85 (fun H locs hP hD hS => ?_)
    rw [nI_clamp (by omega), hy_mf_up] at hP hD
    refine lv_iinc (v := nI (i + 1)) (lv' := [(1, .int (nI (i + 1))), (0, .ref n0)]) hx hb dX2_init_86 hl (k := 0) rfl (nI_1 i) (by decide) rfl (fun ls hl => ?_)
    refine lv_goto (tgt := 73) hx hb dX2_init_89 (by decide) ?_
    exact ih H locs ls ⟨lv_sub hl [0, 1] rfl, hP, hD, hS⟩
