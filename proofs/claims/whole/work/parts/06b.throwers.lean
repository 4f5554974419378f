/-! THE CLASS: readers that may throw. Rows laid by gen.py, specs_x.py. -/
set_option maxHeartbeats 4000000 in
set_option maxRecDepth 100000 in
theorem c_X1_requireBox (l : Launch) (D : va_G) (cI cJ cB : ClassId) (h b k w z : Nat) (ad ca : Nat → Nat) (S : hy_S) (hl9 : l.stackTraces = false) (a0 : Int32) : vx_Met l yX1_requireBox wsX1_requireBox ({ frames := 6, cells := 1, slots := 6, locals := 90 }) (va_Pc [.int a0] (hy_IX D cI cJ cB h b k w z ad ca S)) (va_Sv (fun _ => hy_ok a0)) (hy_X (fun E => E = "java/lang/IndexOutOfBoundsException" ∧ ¬ hy_ok a0)) 1 6 (fun _ => False) := by
  refine vx_ofW (cc := cX1_requireBox) (maxL := 1) (ret := none) (by decide) rfl ?_
  intro p e s m args below meth c s₁ B hml hno hv
  obtain ⟨rfl, ⟨hP, hK⟩, hE, hZ⟩ := hv
  have hx := B.exec
  have hb := B.bytes
  have hr := B.returns
  have hts := atoms_spec (ws := wsX1_requireBox) B.pre
  have hown : s.vm.findClass RX1 = some m.cls := findClass_of_methodNamed B.named
  have hlocks := B.notSynchronized
  have hl := lv_entry ([.int a0]) (n := 1) (Nat.le_of_ble_eq_true rfl)
  rw [lg_entry_eq]
  generalize (lg_sl ([.int a0]) ++ List.replicate (1 - (lg_sl ([.int a0])).length) Slot.unset).toArray = ls at hl ⊢
  have hl : lv_has ls 1 [(0, .int a0)] := hl
  refine lv_iload_n hx hb dX1_requireBox_0 rfl (lv_at hl 0 rfl) ?_
  refine lv_if_lt (tgt := 10) hx hb dX1_requireBox_1 (by decide) (fun c_1 => ?_) (fun c_1 => ?_)
  · -- 10
    exact hy_throw (cls := "java/lang/IndexOutOfBoundsException") (text := "no such box") (ik := 152) (is := 154) (ic := 156) hx hb hl9 hts hown hE hZ (by decide +kernel) (by decide +kernel) (by decide +kernel) (by decide +kernel) (by decide +kernel) (by decide +kernel) (by decide +kernel) (hl.1.trans hml.symm) dX1_requireBox_10 dX1_requireBox_13 dX1_requireBox_14 dX1_requireBox_16 dX1_requireBox_19 hno hlocks ⟨Nat.le_of_ble_eq_true rfl, Nat.le_of_ble_eq_true rfl⟩ (Nat.le_of_ble_eq_true rfl) (Nat.le_of_ble_eq_true rfl) (Nat.le_of_ble_eq_true rfl) (Nat.le_of_ble_eq_true rfl) (Nat.le_of_ble_eq_true rfl) (⟨rfl, fun q => by first | exact q.1 c_1 | exact c_7 q.2⟩)
  · -- 4
    refine lv_iload_n hx hb dX1_requireBox_4 rfl (lv_at hl 0 rfl) ?_
    refine lv_bipush (v := 12) hx hb dX1_requireBox_5 (by decide) ?_
    refine lv_icmp_lt (tgt := 20) hx hb dX1_requireBox_7 (by decide) (fun c_7 => ?_) (fun c_7 => ?_)
    · -- 20
      exact vx_ret (W.widen (k := 1) (n := 6) (by decide) (by decide) (W.vret hx hb hr (fun t ht hW => ⟨rfl, ⟨c_1, c_7⟩, ht⟩) (fun q h => nomatch h) dX1_requireBox_20))
    · -- 10
      exact hy_throw (cls := "java/lang/IndexOutOfBoundsException") (text := "no such box") (ik := 152) (is := 154) (ic := 156) hx hb hl9 hts hown hE hZ (by decide +kernel) (by decide +kernel) (by decide +kernel) (by decide +kernel) (by decide +kernel) (by decide +kernel) (by decide +kernel) (hl.1.trans hml.symm) dX1_requireBox_10 dX1_requireBox_13 dX1_requireBox_14 dX1_requireBox_16 dX1_requireBox_19 hno hlocks ⟨Nat.le_of_ble_eq_true rfl, Nat.le_of_ble_eq_true rfl⟩ (Nat.le_of_ble_eq_true rfl) (Nat.le_of_ble_eq_true rfl) (Nat.le_of_ble_eq_true rfl) (Nat.le_of_ble_eq_true rfl) (Nat.le_of_ble_eq_true rfl) (⟨rfl, fun q => by first | exact q.1 c_1 | exact c_7 q.2⟩)
set_option maxHeartbeats 4000000 in
set_option maxRecDepth 100000 in
theorem c_X1_contentOf (l : Launch) (D : va_G) (cI cJ cB : ClassId) (h b k w z : Nat) (ad ca : Nat → Nat) (S : hy_S) (hl9 : l.stackTraces = false) (a1 : Int32) : vx_Met l yX1_contentOf wsX1_contentOf ({ frames := 7, cells := 1, slots := 6, locals := 110 }) (va_Pc [.ref h, .int a1] (hy_IX D cI cJ cB h b k w z ad ca S)) (va_Sq (fun r9 => r9 = (hy_bx S a1.toNatClampNeg).map ad ∧ hy_ok a1)) (hy_X (fun E => E = "java/lang/IndexOutOfBoundsException" ∧ ¬ hy_ok a1)) 1 6 (fun _ => False) := by
  refine vx_ofW (cc := cX1_contentOf) (maxL := 2) (ret := (some (.object "HiveYard$Content"))) (by decide) rfl ?_
  intro p e s m args below meth c s₁ B hml hno hv
  obtain ⟨rfl, ⟨hP, hK⟩, hE, hZ⟩ := hv
  have hx := B.exec
  have hb := B.bytes
  have hr := B.returns
  have hts := atoms_spec (ws := wsX1_contentOf) B.pre
  have hown : s.vm.findClass RX1 = some m.cls := findClass_of_methodNamed B.named
  have hlocks := B.notSynchronized
  have hinX1 : ∀ w ∈ wsX10, w ∈ wsX1_contentOf := by decide +kernel
  have hl := lv_entry ([.ref h, .int a1]) (n := 2) (Nat.le_of_ble_eq_true rfl)
  rw [lg_entry_eq]
  generalize (lg_sl ([.ref h, .int a1]) ++ List.replicate (2 - (lg_sl ([.ref h, .int a1])).length) Slot.unset).toArray = ls at hl ⊢
  have hl : lv_has ls 2 [(0, .ref h), (1, .int a1)] := hl
  refine lv_iload_n hx hb dX1_contentOf_0 rfl (lv_at hl 1 rfl) ?_
  refine hy_thruv (vx_runS (As := [.int a1]) (rest := []) ⟨hx, hb, hml, hown, hts⟩ (c_X1_requireBox l D cI cJ cB h b k w z ad ca S hl9 a1) (va_cwS 1 hts gX1_contentOf_X1_requireBox rfl rfl rfl (by decide +kernel) ⟨Nat.le_of_ble_eq_true rfl, Nat.le_of_ble_eq_true rfl⟩) ⟨hy_IX_blind, fun U hU hW => ⟨rfl, hy_IX_at hU hW hP hK hE hZ⟩⟩ rfl rfl hl.1 rfl (lv_room (Nat.le_of_ble_eq_true rfl)) dX1_contentOf_1 ⟨Nat.le_of_ble_eq_true rfl, Nat.le_of_ble_eq_true rfl⟩) hno hlocks (fun _ q => q) (Nat.le_of_ble_eq_true rfl) (Nat.le_of_ble_eq_true rfl) (fun f_1 => ?_)
  refine lv_aload_n hx hb dX1_contentOf_4 rfl (lv_at hl 0 rfl) ?_
  refine va_get (D := D) (ci := 1) (v := .ref b) (C := RX1) (T := TX1) (N := 10) hx hb hts hinX1 hown hK hP 0 rfl rfl 0 (by decide) (hts (.fieldLink RX1 11 "HiveYard" "boxes" "[LHiveYard$Content;") (by decide +kernel)) (fun _ h9 => h9) rfl dX1_contentOf_5 ?_
  refine lv_iload_n hx hb dX1_contentOf_8 rfl (lv_at hl 1 rfl) ?_
  refine va_aldq hx hb hK hP 1 2 rfl rfl (hy_ok_in f_1) dX1_contentOf_9 ?_
  exact vx_ret (W.widen (k := 1) (n := 6) (by decide) (by decide) (W.aret (rt := .object "HiveYard$Content") hx hb hr (Or.inl ⟨_, rfl⟩) (va_rf_or _) (fun t ht hW => ⟨_, rfl, ⟨rfl, f_1⟩, ht⟩) (fun q h => nomatch h) dX1_contentOf_10))
set_option maxHeartbeats 4000000 in
set_option maxRecDepth 100000 in
theorem c_X1_requireRow (l : Launch) (D : va_G) (cI cJ cB : ClassId) (h b k w z : Nat) (ad ca : Nat → Nat) (S : hy_S) (hl9 : l.stackTraces = false) (o : Option Nat) (ho : ∀ r, o = some r → r ≤ hy_nr S) : vx_Met l yX1_requireRow wsX1_requireRow ({ frames := 6, cells := 1, slots := 6, locals := 90 }) (va_Pc [va_rf (o.map ad)] (hy_IX D cI cJ cB h b k w z ad ca S)) (va_Sv (fun _ => hy_isRow S o ≠ 0)) (hy_X (fun E => E = "java/lang/IllegalStateException" ∧ hy_isRow S o = 0)) 1 6 (fun _ => False) := by
  refine vx_ofW (cc := cX1_requireRow) (maxL := 1) (ret := none) (by decide) rfl ?_
  intro p e s m args below meth c s₁ B hml hno hv
  obtain ⟨rfl, ⟨hP, hK⟩, hE, hZ⟩ := hv
  have hx := B.exec
  have hb := B.bytes
  have hr := B.returns
  have hts := atoms_spec (ws := wsX1_requireRow) B.pre
  have hown : s.vm.findClass RX1 = some m.cls := findClass_of_methodNamed B.named
  have hlocks := B.notSynchronized
  cases o with
  | none =>
    have hl := lv_entry ([va_rf ((none : Option Nat).map ad)]) (n := 1) (Nat.le_of_ble_eq_true rfl)
    rw [lg_entry_eq]
    generalize (lg_sl ([va_rf ((none : Option Nat).map ad)]) ++ List.replicate (1 - (lg_sl ([va_rf ((none : Option Nat).map ad)])).length) Slot.unset).toArray = ls at hl ⊢
    have hl : lv_has ls 1 [(0, .null)] := hl
    refine lv_aload_nN hx hb dX1_requireRow_0 rfl (lv_at hl 0 rfl) ?_
    refine vp_callSi (W.runS (As := [.null]) (rest := []) ⟨hx, hb, hml, hown, hts⟩ (c_X1_isRow l D cI cJ cB h b k w z ad ca S none (fun _ q => nomatch q)) (va_cwS 1 hts gX1_requireRow_X1_isRow rfl rfl rfl (by decide +kernel) ⟨Nat.le_of_ble_eq_true rfl, Nat.le_of_ble_eq_true rfl⟩) ⟨hy_I_blind, fun U hU hW => ⟨rfl, hy_I_at hU hW hP hK⟩⟩ rfl rfl hl.1 rfl (lv_room (Nat.le_of_ble_eq_true rfl)) dX1_requireRow_1 ⟨Nat.le_of_ble_eq_true rfl, Nat.le_of_ble_eq_true rfl⟩) (fun v9 e9 => ?_)
    subst e9
    refine lv_if_ne (tgt := 17) hx hb dX1_requireRow_4 (by decide) (fun c9 => absurd c9 (fun c => c rfl)) (fun c_4 => ?_)
    exact hy_throw (cls := "java/lang/IllegalStateException") (text := "the box holds no row") (ik := 70) (is := 157) (ic := 74) hx hb hl9 hts hown hE hZ (by decide +kernel) (by decide +kernel) (by decide +kernel) (by decide +kernel) (by decide +kernel) (by decide +kernel) (by decide +kernel) (hl.1.trans hml.symm) dX1_requireRow_7 dX1_requireRow_10 dX1_requireRow_11 dX1_requireRow_13 dX1_requireRow_16 hno hlocks ⟨Nat.le_of_ble_eq_true rfl, Nat.le_of_ble_eq_true rfl⟩ (Nat.le_of_ble_eq_true rfl) (Nat.le_of_ble_eq_true rfl) (Nat.le_of_ble_eq_true rfl) (Nat.le_of_ble_eq_true rfl) (Nat.le_of_ble_eq_true rfl) (⟨rfl, c_4⟩)
  | some r =>
    have hrw : r ≤ hy_nr S := ho r rfl
    have hl := lv_entry ([va_rf ((some r).map ad)]) (n := 1) (Nat.le_of_ble_eq_true rfl)
    rw [lg_entry_eq]
    generalize (lg_sl ([va_rf ((some r).map ad)]) ++ List.replicate (1 - (lg_sl ([va_rf ((some r).map ad)])).length) Slot.unset).toArray = ls at hl ⊢
    have hl : lv_has ls 1 [(0, .ref (ad r))] := hl
    refine lv_aload_n hx hb dX1_requireRow_0 rfl (lv_at hl 0 rfl) ?_
    refine vp_callSi (W.runS (As := [.ref (ad r)]) (rest := []) ⟨hx, hb, hml, hown, hts⟩ (c_X1_isRow l D cI cJ cB h b k w z ad ca S (some r) (fun _ q => by cases q; exact hrw)) (va_cwS 1 hts gX1_requireRow_X1_isRow rfl rfl rfl (by decide +kernel) ⟨Nat.le_of_ble_eq_true rfl, Nat.le_of_ble_eq_true rfl⟩) ⟨hy_I_blind, fun U hU hW => ⟨rfl, hy_I_at hU hW hP hK⟩⟩ rfl rfl hl.1 rfl (lv_room (Nat.le_of_ble_eq_true rfl)) dX1_requireRow_1 ⟨Nat.le_of_ble_eq_true rfl, Nat.le_of_ble_eq_true rfl⟩) (fun v9 e9 => ?_)
    subst e9
    refine lv_if_ne (tgt := 17) hx hb dX1_requireRow_4 (by decide) (fun c_4 => ?_) (fun c_4 => ?_)
    · -- 17
      exact vx_ret (W.widen (k := 1) (n := 6) (by decide) (by decide) (W.vret hx hb hr (fun t ht hW => ⟨rfl, c_4, ht⟩) (fun q h => nomatch h) dX1_requireRow_17))
    · -- 7
      exact hy_throw (cls := "java/lang/IllegalStateException") (text := "the box holds no row") (ik := 70) (is := 157) (ic := 74) hx hb hl9 hts hown hE hZ (by decide +kernel) (by decide +kernel) (by decide +kernel) (by decide +kernel) (by decide +kernel) (by decide +kernel) (by decide +kernel) (hl.1.trans hml.symm) dX1_requireRow_7 dX1_requireRow_10 dX1_requireRow_11 dX1_requireRow_13 dX1_requireRow_16 hno hlocks ⟨Nat.le_of_ble_eq_true rfl, Nat.le_of_ble_eq_true rfl⟩ (Nat.le_of_ble_eq_true rfl) (Nat.le_of_ble_eq_true rfl) (Nat.le_of_ble_eq_true rfl) (Nat.le_of_ble_eq_true rfl) (Nat.le_of_ble_eq_true rfl) (⟨rfl, c_4⟩)
set_option maxHeartbeats 4000000 in
set_option maxRecDepth 100000 in
theorem c_X1_requireCombs (l : Launch) (D : va_G) (cI cJ cB : ClassId) (h b k w z : Nat) (ad ca : Nat → Nat) (S : hy_S) (hl9 : l.stackTraces = false) (o : Option Nat) (ho : ∀ r, o = some r → r ≤ hy_nr S) : vx_Met l yX1_requireCombs wsX1_requireCombs ({ frames := 6, cells := 1, slots := 6, locals := 90 }) (va_Pc [va_rf (o.map ad)] (hy_IX D cI cJ cB h b k w z ad ca S)) (va_Sv (fun _ => hy_isCo S o ≠ 0)) (hy_X (fun E => E = "java/lang/IllegalStateException" ∧ hy_isCo S o = 0)) 1 6 (fun _ => False) := by
  refine vx_ofW (cc := cX1_requireCombs) (maxL := 1) (ret := none) (by decide) rfl ?_
  intro p e s m args below meth c s₁ B hml hno hv
  obtain ⟨rfl, ⟨hP, hK⟩, hE, hZ⟩ := hv
  have hx := B.exec
  have hb := B.bytes
  have hr := B.returns
  have hts := atoms_spec (ws := wsX1_requireCombs) B.pre
  have hown : s.vm.findClass RX1 = some m.cls := findClass_of_methodNamed B.named
  have hlocks := B.notSynchronized
  cases o with
  | none =>
    have hl := lv_entry ([va_rf ((none : Option Nat).map ad)]) (n := 1) (Nat.le_of_ble_eq_true rfl)
    rw [lg_entry_eq]
    generalize (lg_sl ([va_rf ((none : Option Nat).map ad)]) ++ List.replicate (1 - (lg_sl ([va_rf ((none : Option Nat).map ad)])).length) Slot.unset).toArray = ls at hl ⊢
    have hl : lv_has ls 1 [(0, .null)] := hl
    refine lv_aload_nN hx hb dX1_requireCombs_0 rfl (lv_at hl 0 rfl) ?_
    refine vp_callSi (W.runS (As := [.null]) (rest := []) ⟨hx, hb, hml, hown, hts⟩ (c_X1_isCombs l D cI cJ cB h b k w z ad ca S none (fun _ q => nomatch q)) (va_cwS 1 hts gX1_requireCombs_X1_isCombs rfl rfl rfl (by decide +kernel) ⟨Nat.le_of_ble_eq_true rfl, Nat.le_of_ble_eq_true rfl⟩) ⟨hy_I_blind, fun U hU hW => ⟨rfl, hy_I_at hU hW hP hK⟩⟩ rfl rfl hl.1 rfl (lv_room (Nat.le_of_ble_eq_true rfl)) dX1_requireCombs_1 ⟨Nat.le_of_ble_eq_true rfl, Nat.le_of_ble_eq_true rfl⟩) (fun v9 e9 => ?_)
    subst e9
    refine lv_if_ne (tgt := 17) hx hb dX1_requireCombs_4 (by decide) (fun c9 => absurd c9 (fun c => c rfl)) (fun c_4 => ?_)
    exact hy_throw (cls := "java/lang/IllegalStateException") (text := "the box holds no row of combs") (ik := 70) (is := 159) (ic := 74) hx hb hl9 hts hown hE hZ (by decide +kernel) (by decide +kernel) (by decide +kernel) (by decide +kernel) (by decide +kernel) (by decide +kernel) (by decide +kernel) (hl.1.trans hml.symm) dX1_requireCombs_7 dX1_requireCombs_10 dX1_requireCombs_11 dX1_requireCombs_13 dX1_requireCombs_16 hno hlocks ⟨Nat.le_of_ble_eq_true rfl, Nat.le_of_ble_eq_true rfl⟩ (Nat.le_of_ble_eq_true rfl) (Nat.le_of_ble_eq_true rfl) (Nat.le_of_ble_eq_true rfl) (Nat.le_of_ble_eq_true rfl) (Nat.le_of_ble_eq_true rfl) (⟨rfl, c_4⟩)
  | some r =>
    have hrw : r ≤ hy_nr S := ho r rfl
    have hl := lv_entry ([va_rf ((some r).map ad)]) (n := 1) (Nat.le_of_ble_eq_true rfl)
    rw [lg_entry_eq]
    generalize (lg_sl ([va_rf ((some r).map ad)]) ++ List.replicate (1 - (lg_sl ([va_rf ((some r).map ad)])).length) Slot.unset).toArray = ls at hl ⊢
    have hl : lv_has ls 1 [(0, .ref (ad r))] := hl
    refine lv_aload_n hx hb dX1_requireCombs_0 rfl (lv_at hl 0 rfl) ?_
    refine vp_callSi (W.runS (As := [.ref (ad r)]) (rest := []) ⟨hx, hb, hml, hown, hts⟩ (c_X1_isCombs l D cI cJ cB h b k w z ad ca S (some r) (fun _ q => by cases q; exact hrw)) (va_cwS 1 hts gX1_requireCombs_X1_isCombs rfl rfl rfl (by decide +kernel) ⟨Nat.le_of_ble_eq_true rfl, Nat.le_of_ble_eq_true rfl⟩) ⟨hy_I_blind, fun U hU hW => ⟨rfl, hy_I_at hU hW hP hK⟩⟩ rfl rfl hl.1 rfl (lv_room (Nat.le_of_ble_eq_true rfl)) dX1_requireCombs_1 ⟨Nat.le_of_ble_eq_true rfl, Nat.le_of_ble_eq_true rfl⟩) (fun v9 e9 => ?_)
    subst e9
    refine lv_if_ne (tgt := 17) hx hb dX1_requireCombs_4 (by decide) (fun c_4 => ?_) (fun c_4 => ?_)
    · -- 17
      exact vx_ret (W.widen (k := 1) (n := 6) (by decide) (by decide) (W.vret hx hb hr (fun t ht hW => ⟨rfl, c_4, ht⟩) (fun q h => nomatch h) dX1_requireCombs_17))
    · -- 7
      exact hy_throw (cls := "java/lang/IllegalStateException") (text := "the box holds no row of combs") (ik := 70) (is := 159) (ic := 74) hx hb hl9 hts hown hE hZ (by decide +kernel) (by decide +kernel) (by decide +kernel) (by decide +kernel) (by decide +kernel) (by decide +kernel) (by decide +kernel) (hl.1.trans hml.symm) dX1_requireCombs_7 dX1_requireCombs_10 dX1_requireCombs_11 dX1_requireCombs_13 dX1_requireCombs_16 hno hlocks ⟨Nat.le_of_ble_eq_true rfl, Nat.le_of_ble_eq_true rfl⟩ (Nat.le_of_ble_eq_true rfl) (Nat.le_of_ble_eq_true rfl) (Nat.le_of_ble_eq_true rfl) (Nat.le_of_ble_eq_true rfl) (Nat.le_of_ble_eq_true rfl) (⟨rfl, c_4⟩)
set_option maxHeartbeats 4000000 in
set_option maxRecDepth 100000 in
theorem c_X1_requirePlace (l : Launch) (D : va_G) (cI cJ cB : ClassId) (h b k w z : Nat) (ad ca : Nat → Nat) (S : hy_S) (hl9 : l.stackTraces = false) (r : Nat) (hrw : r ≤ hy_nr S) (a1 : Int32) : vx_Met l yX1_requirePlace wsX1_requirePlace ({ frames := 6, cells := 1, slots := 6, locals := 90 }) (va_Pc [.ref (ad r), .int a1] (hy_IX D cI cJ cB h b k w z ad ca S)) (va_Sv (fun _ => hy_pl S r a1)) (hy_X (fun E => E = "java/util/NoSuchElementException" ∧ ¬ hy_pl S r a1)) 1 6 (fun _ => False) := by
  refine vx_ofW (cc := cX1_requirePlace) (maxL := 2) (ret := none) (by decide) rfl ?_
  intro p e s m args below meth c s₁ B hml hno hv
  obtain ⟨rfl, ⟨hP, hK⟩, hE, hZ⟩ := hv
  have hx := B.exec
  have hb := B.bytes
  have hr := B.returns
  have hts := atoms_spec (ws := wsX1_requirePlace) B.pre
  have hown : s.vm.findClass RX1 = some m.cls := findClass_of_methodNamed B.named
  have hlocks := B.notSynchronized
  have hinX0 : ∀ w ∈ wsX00, w ∈ wsX1_requirePlace := by decide +kernel
  have hl := lv_entry ([.ref (ad r), .int a1]) (n := 2) (Nat.le_of_ble_eq_true rfl)
  rw [lg_entry_eq]
  generalize (lg_sl ([.ref (ad r), .int a1]) ++ List.replicate (2 - (lg_sl ([.ref (ad r), .int a1])).length) Slot.unset).toArray = ls at hl ⊢
  have hl : lv_has ls 2 [(0, .ref (ad r)), (1, .int a1)] := hl
  refine lv_iload_n hx hb dX1_requirePlace_0 rfl (lv_at hl 1 rfl) ?_
  refine lv_if_lt (tgt := 13) hx hb dX1_requirePlace_1 (by decide) (fun c_1 => ?_) (fun c_1 => ?_)
  · -- 13
    exact hy_throwN (text := "no such place") (ik := 161) (is := 163) hx hb hl9 hts hown hE hZ (by decide +kernel) (by decide +kernel) (by decide +kernel) (by decide +kernel) (by decide +kernel) (by decide +kernel) (hl.1.trans hml.symm) dX1_requirePlace_13 dX1_requirePlace_16 dX1_requirePlace_17 dX1_requirePlace_19 dX1_requirePlace_22 hno hlocks ⟨Nat.le_of_ble_eq_true rfl, Nat.le_of_ble_eq_true rfl⟩ (Nat.le_of_ble_eq_true rfl) (Nat.le_of_ble_eq_true rfl) (Nat.le_of_ble_eq_true rfl) (Nat.le_of_ble_eq_true rfl) (Nat.le_of_ble_eq_true rfl) (⟨rfl, fun q => by first | exact q.1 c_1 | exact c_10 q.2⟩)
  · -- 4
    refine lv_iload_n hx hb dX1_requirePlace_4 rfl (lv_at hl 1 rfl) ?_
    refine lv_aload_n hx hb dX1_requirePlace_5 rfl (lv_at hl 0 rfl) ?_
    refine va_get (D := D) (ci := 0) (v := .ref (ca r)) (C := RX0) (T := TX0) (N := 2) hx hb hts hinX0 hown hK hP (5 + r) (hy_W_row hrw) rfl 1 (by decide) (hts (.fieldLink RX1 79 "HiveYard$Content" "cells" "[J") (by decide +kernel)) (fun _ h9 => h9) rfl dX1_requirePlace_6 ?_
    refine va_alen (v := (nI (hy_le S r))) hx hb hK hP (5 + (hy_nr S + 1 + r)) 1 (hy_W_arr hrw) rfl rfl dX1_requirePlace_9 ?_
    refine lv_icmp_lt (tgt := 23) hx hb dX1_requirePlace_10 (by decide) (fun c_10 => ?_) (fun c_10 => ?_)
    · -- 23
      exact vx_ret (W.widen (k := 1) (n := 6) (by decide) (by decide) (W.vret hx hb hr (fun t ht hW => ⟨rfl, ⟨c_1, c_10⟩, ht⟩) (fun q h => nomatch h) dX1_requirePlace_23))
    · -- 13
      exact hy_throwN (text := "no such place") (ik := 161) (is := 163) hx hb hl9 hts hown hE hZ (by decide +kernel) (by decide +kernel) (by decide +kernel) (by decide +kernel) (by decide +kernel) (by decide +kernel) (hl.1.trans hml.symm) dX1_requirePlace_13 dX1_requirePlace_16 dX1_requirePlace_17 dX1_requirePlace_19 dX1_requirePlace_22 hno hlocks ⟨Nat.le_of_ble_eq_true rfl, Nat.le_of_ble_eq_true rfl⟩ (Nat.le_of_ble_eq_true rfl) (Nat.le_of_ble_eq_true rfl) (Nat.le_of_ble_eq_true rfl) (Nat.le_of_ble_eq_true rfl) (Nat.le_of_ble_eq_true rfl) (⟨rfl, fun q => by first | exact q.1 c_1 | exact c_10 q.2⟩)
set_option maxHeartbeats 4000000 in
set_option maxRecDepth 100000 in
theorem c_X1_requireComb (l : Launch) (D : va_G) (cI cJ cB : ClassId) (h b k w z : Nat) (ad ca : Nat → Nat) (S : hy_S) (hl9 : l.stackTraces = false) (a1 : Int32) : vx_Met l yX1_requireComb wsX1_requireComb ({ frames := 6, cells := 1, slots := 6, locals := 90 }) (va_Pc [.ref h, .int a1] (hy_IX D cI cJ cB h b k w z ad ca S)) (va_Sv (fun _ => hy_isComb S a1.toInt64 ≠ 0)) (hy_X (fun E => E = "java/util/NoSuchElementException" ∧ hy_isComb S a1.toInt64 = 0)) 1 6 (fun _ => False) := by
  refine vx_ofW (cc := cX1_requireComb) (maxL := 2) (ret := none) (by decide) rfl ?_
  intro p e s m args below meth c s₁ B hml hno hv
  obtain ⟨rfl, ⟨hP, hK⟩, hE, hZ⟩ := hv
  have hx := B.exec
  have hb := B.bytes
  have hr := B.returns
  have hts := atoms_spec (ws := wsX1_requireComb) B.pre
  have hown : s.vm.findClass RX1 = some m.cls := findClass_of_methodNamed B.named
  have hlocks := B.notSynchronized
  have hl := lv_entry ([.ref h, .int a1]) (n := 2) (Nat.le_of_ble_eq_true rfl)
  rw [lg_entry_eq]
  generalize (lg_sl ([.ref h, .int a1]) ++ List.replicate (2 - (lg_sl ([.ref h, .int a1])).length) Slot.unset).toArray = ls at hl ⊢
  have hl : lv_has ls 2 [(0, .ref h), (1, .int a1)] := hl
  refine lv_aload_n hx hb dX1_requireComb_0 rfl (lv_at hl 0 rfl) ?_
  refine lv_iload_n hx hb dX1_requireComb_1 rfl (lv_at hl 1 rfl) ?_
  refine lv_i2l (v := a1.toInt64) hx hb dX1_requireComb_2 rfl ?_
  refine vp_callSi (W.runV (As := [.long a1.toInt64]) (rest := []) ⟨hx, hb, hml, hown, hts⟩ (c_X1_isComb l D cI cJ cB h b k w z ad ca S a1.toInt64) (cwV 1 hts gX1_requireComb_X1_isComb rfl rfl rfl (by decide +kernel) ⟨Nat.le_of_ble_eq_true rfl, Nat.le_of_ble_eq_true rfl⟩) ⟨hy_I_blind, va_recv hK hP (ci := 1) (q0 := 0) rfl rfl, fun U hU hW => ⟨rfl, hy_I_at hU hW hP hK⟩⟩ rfl rfl hl.1 rfl (lv_room (Nat.le_of_ble_eq_true rfl)) dX1_requireComb_3 ⟨Nat.le_of_ble_eq_true rfl, Nat.le_of_ble_eq_true rfl⟩) (fun v9 e9 => ?_)
  subst e9
  refine lv_if_ne (tgt := 19) hx hb dX1_requireComb_6 (by decide) (fun c_6 => ?_) (fun c_6 => ?_)
  · -- 19
    exact vx_ret (W.widen (k := 1) (n := 6) (by decide) (by decide) (W.vret hx hb hr (fun t ht hW => ⟨rfl, c_6, ht⟩) (fun q h => nomatch h) dX1_requireComb_19))
  · -- 9
    exact hy_throwN (text := "no such comb") (ik := 161) (is := 170) hx hb hl9 hts hown hE hZ (by decide +kernel) (by decide +kernel) (by decide +kernel) (by decide +kernel) (by decide +kernel) (by decide +kernel) (hl.1.trans hml.symm) dX1_requireComb_9 dX1_requireComb_12 dX1_requireComb_13 dX1_requireComb_15 dX1_requireComb_18 hno hlocks ⟨Nat.le_of_ble_eq_true rfl, Nat.le_of_ble_eq_true rfl⟩ (Nat.le_of_ble_eq_true rfl) (Nat.le_of_ble_eq_true rfl) (Nat.le_of_ble_eq_true rfl) (Nat.le_of_ble_eq_true rfl) (Nat.le_of_ble_eq_true rfl) (⟨rfl, c_6⟩)
