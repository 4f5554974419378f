/-! THE CLASS: carry. Rows laid by gen.py, specs_c.py. -/
set_option maxHeartbeats 4000000 in
set_option maxRecDepth 100000 in
theorem c_X1_carry (l : Launch) (D : va_G) (cI cJ cB : ClassId) (h b k w z : Nat) (ad ca : Nat → Nat) (S : hy_S) (hwf : hy_wf S) (sz : Nat) (o1 o2 : Option Nat) (ho1 : ∀ r, o1 = some r → r ≤ hy_nr S) (ho2 : ∀ r, o2 = some r → r ≤ hy_nr S) (a2 a4 a5 : Int32) : Met l yX1_carry wsX1_carry ({ frames := 3, cells := 0, slots := 0, locals := 80 }) (va_Pc [.ref h, va_rf (o1.map ad), .int a2, va_rf (o2.map ad), .int a4, .int a5] (hy_IM D cI cJ cB h b k w z ad ca S sz)) (va_Qi (fun (r9 : Int32) (_ : Unit) => r9 = (hy_carry S o1 o2 a2 a4 a5).1) (fun _ => hy_AtS D cI cJ cB h b k w z ad ca (hy_cS S o1 o2 a2 a4 a5) (va_A (hy_W cI cJ cB h b k w z ad ca S) sz)) (va_A (hy_W cI cJ cB h b k w z ad ca S) sz)) 0 0 (va_A (hy_W cI cJ cB h b k w z ad ca S) sz) := by
  refine Met.ofW (cc := cX1_carry) (maxL := 7) (ret := (some .int)) (by decide) rfl ?_
  intro p e s m args below meth c s₁ B hml hv
  obtain ⟨rfl, hsz, ⟨hP, hK⟩, hD0⟩ := hv
  have hx := B.exec
  have hb := B.bytes
  have hr := B.returns
  have hts := atoms_spec (ws := wsX1_carry) B.pre
  have hown : s.vm.findClass RX1 = some m.cls := findClass_of_methodNamed B.named
  have hlocks := B.notSynchronized
  subst hsz
  have hD := hD0.self (sz := s.heap.size)
  generalize hAe : va_A (hy_W cI cJ cB h b k w z ad ca S) s.heap.size = A at hD ⊢
  have hA : ∀ q : Nat, s.heap.size ≤ q → A q := fun q h => by rw [← hAe]; exact Or.inr h
  have hS : va_S A s.heap s.heap [] := va_S.rf
  have hinX0 : ∀ w ∈ wsX00, w ∈ wsX1_carry := by decide +kernel
  cases o1 with
  | none =>
    cases o2 with
    | none =>
      have hl := lv_entry ([.ref h, va_rf ((none : Option Nat).map ad), .int a2, va_rf ((none : Option Nat).map ad), .int a4, .int a5]) (n := 7) (Nat.le_of_ble_eq_true rfl)
      rw [lg_entry_eq]
      generalize (lg_sl ([.ref h, va_rf ((none : Option Nat).map ad), .int a2, va_rf ((none : Option Nat).map ad), .int a4, .int a5]) ++ List.replicate (7 - (lg_sl ([.ref h, va_rf ((none : Option Nat).map ad), .int a2, va_rf ((none : Option Nat).map ad), .int a4, .int a5])).length) Slot.unset).toArray = ls at hl ⊢
      have hl : lv_has ls 7 [(0, .ref h), (1, .null), (2, .int a2), (3, .null), (4, .int a4), (5, .int a5)] := hl
      refine lv_aload_nN hx hb dX1_carry_0 rfl (lv_at hl 1 rfl) ?_
      refine lv_ifnullN (tgt := 8) hx hb dX1_carry_1 (by decide) ?_
      refine lv_aload_n hx hb dX1_carry_8 rfl (lv_at hl 0 rfl) ?_
      refine lv_iconst (v := 1) hx hb dX1_carry_9 (by decide) ?_
      refine lv_iconst (v := 0) hx hb dX1_carry_10 (by decide) ?_
      have hFc := hy_free hD hS hA
      refine va_calli (va_runV (As := [.int 1, .int 0]) (rest := []) ⟨hx, hb, hml, hown, hts⟩ (c_X1_ended l D cI cJ cB h b k w z ad ca S s.heap.size 1 0 (by rw [vp_in_iff]; decide +kernel)) (cwV 2 hts gX1_carry_X1_ended rfl rfl rfl (by decide +kernel) ⟨Nat.le_of_ble_eq_true rfl, Nat.le_of_ble_eq_true rfl⟩) ⟨hy_IM_blind, va_recv hK hP (ci := 1) (q0 := 0) rfl rfl, fun U hU hW => ⟨rfl, by rw [hU], hy_I_at hU hW hP hK, hD.weaken (fun _ _ _ _ => trivial)⟩⟩ rfl rfl hl.1 rfl (lv_room (Nat.le_of_ble_eq_true rfl)) dX1_carry_11 ⟨Nat.le_of_ble_eq_true rfl, Nat.le_of_ble_eq_true rfl⟩) hS (fun q _ h => hFc q h) hFc (fun r9 u t H locs ht hvm hw hB hz1 hk1 hS => ?_)
      obtain ⟨hP1, hK1, hD1⟩ := hB
      rw [ht] at hP1
      have hP : va_P D vwCl (hy_W cI cJ cB h b k w z ad ca (hy_end S 1 0)) H := hP1
      have hD : va_D A (hy_W cI cJ cB h b k w z ad ca (hy_end S 1 0)) := hD1.weaken (fun _ q _ h => hFc q.1 h)
      clear hP1 hK1 hD1 hFc
      subst hw
      have eS : (hy_W cI cJ cB h b k w z ad ca (hy_end S 1 0)) = (hy_W cI cJ cB h b k w z ad ca (hy_cS S none none a2 a4 a5)) := congrArg (hy_W cI cJ cB h b k w z ad ca) (hy_cS_of (rfl : hy_carry S _ _ a2 a4 a5 = (1, 0, S)))
      have hPz : va_P D vwCl (hy_W cI cJ cB h b k w z ad ca (hy_cS S none none a2 a4 a5)) H := by rw [← eS]; exact hP
      have hDz : va_D A (hy_W cI cJ cB h b k w z ad ca (hy_cS S none none a2 a4 a5)) := by rw [← eS]; exact hD
      exact W.iret (v := (1)) hx hb hr (fun t ht hW => ⟨⟨_, (), rfl, hy_ce_of (rfl : hy_carry S _ _ a2 a4 a5 = (1, 0, S)), by rw [ht]; exact hPz, va_K.moved hW.alike hK, hDz⟩, hS.F ht⟩) hS.2.2 dX1_carry_14
    | some r2 =>
      have hl := lv_entry ([.ref h, va_rf ((none : Option Nat).map ad), .int a2, va_rf ((some r2).map ad), .int a4, .int a5]) (n := 7) (Nat.le_of_ble_eq_true rfl)
      rw [lg_entry_eq]
      generalize (lg_sl ([.ref h, va_rf ((none : Option Nat).map ad), .int a2, va_rf ((some r2).map ad), .int a4, .int a5]) ++ List.replicate (7 - (lg_sl ([.ref h, va_rf ((none : Option Nat).map ad), .int a2, va_rf ((some r2).map ad), .int a4, .int a5])).length) Slot.unset).toArray = ls at hl ⊢
      have hl : lv_has ls 7 [(0, .ref h), (1, .null), (2, .int a2), (3, .ref (ad r2)), (4, .int a4), (5, .int a5)] := hl
      refine lv_aload_nN hx hb dX1_carry_0 rfl (lv_at hl 1 rfl) ?_
      refine lv_ifnullN (tgt := 8) hx hb dX1_carry_1 (by decide) ?_
      refine lv_aload_n hx hb dX1_carry_8 rfl (lv_at hl 0 rfl) ?_
      refine lv_iconst (v := 1) hx hb dX1_carry_9 (by decide) ?_
      refine lv_iconst (v := 0) hx hb dX1_carry_10 (by decide) ?_
      have hFc := hy_free hD hS hA
      refine va_calli (va_runV (As := [.int 1, .int 0]) (rest := []) ⟨hx, hb, hml, hown, hts⟩ (c_X1_ended l D cI cJ cB h b k w z ad ca S s.heap.size 1 0 (by rw [vp_in_iff]; decide +kernel)) (cwV 2 hts gX1_carry_X1_ended rfl rfl rfl (by decide +kernel) ⟨Nat.le_of_ble_eq_true rfl, Nat.le_of_ble_eq_true rfl⟩) ⟨hy_IM_blind, va_recv hK hP (ci := 1) (q0 := 0) rfl rfl, fun U hU hW => ⟨rfl, by rw [hU], hy_I_at hU hW hP hK, hD.weaken (fun _ _ _ _ => trivial)⟩⟩ rfl rfl hl.1 rfl (lv_room (Nat.le_of_ble_eq_true rfl)) dX1_carry_11 ⟨Nat.le_of_ble_eq_true rfl, Nat.le_of_ble_eq_true rfl⟩) hS (fun q _ h => hFc q h) hFc (fun r9 u t H locs ht hvm hw hB hz1 hk1 hS => ?_)
      obtain ⟨hP1, hK1, hD1⟩ := hB
      rw [ht] at hP1
      have hP : va_P D vwCl (hy_W cI cJ cB h b k w z ad ca (hy_end S 1 0)) H := hP1
      have hD : va_D A (hy_W cI cJ cB h b k w z ad ca (hy_end S 1 0)) := hD1.weaken (fun _ q _ h => hFc q.1 h)
      clear hP1 hK1 hD1 hFc
      subst hw
      have eS : (hy_W cI cJ cB h b k w z ad ca (hy_end S 1 0)) = (hy_W cI cJ cB h b k w z ad ca (hy_cS S none (some r2) a2 a4 a5)) := congrArg (hy_W cI cJ cB h b k w z ad ca) (hy_cS_of (rfl : hy_carry S _ _ a2 a4 a5 = (1, 0, S)))
      have hPz : va_P D vwCl (hy_W cI cJ cB h b k w z ad ca (hy_cS S none (some r2) a2 a4 a5)) H := by rw [← eS]; exact hP
      have hDz : va_D A (hy_W cI cJ cB h b k w z ad ca (hy_cS S none (some r2) a2 a4 a5)) := by rw [← eS]; exact hD
      exact W.iret (v := (1)) hx hb hr (fun t ht hW => ⟨⟨_, (), rfl, hy_ce_of (rfl : hy_carry S _ _ a2 a4 a5 = (1, 0, S)), by rw [ht]; exact hPz, va_K.moved hW.alike hK, hDz⟩, hS.F ht⟩) hS.2.2 dX1_carry_14
  | some r1 =>
    have h1 : r1 ≤ hy_nr S := ho1 r1 rfl
    cases o2 with
    | none =>
      have hl := lv_entry ([.ref h, va_rf ((some r1).map ad), .int a2, va_rf ((none : Option Nat).map ad), .int a4, .int a5]) (n := 7) (Nat.le_of_ble_eq_true rfl)
      rw [lg_entry_eq]
      generalize (lg_sl ([.ref h, va_rf ((some r1).map ad), .int a2, va_rf ((none : Option Nat).map ad), .int a4, .int a5]) ++ List.replicate (7 - (lg_sl ([.ref h, va_rf ((some r1).map ad), .int a2, va_rf ((none : Option Nat).map ad), .int a4, .int a5])).length) Slot.unset).toArray = ls at hl ⊢
      have hl : lv_has ls 7 [(0, .ref h), (1, .ref (ad r1)), (2, .int a2), (3, .null), (4, .int a4), (5, .int a5)] := hl
      refine lv_aload_n hx hb dX1_carry_0 rfl (lv_at hl 1 rfl) ?_
      refine lv_ifnull hx hb dX1_carry_1 ?_
      refine lv_aload_nN hx hb dX1_carry_4 rfl (lv_at hl 3 rfl) ?_
      refine lv_ifnonnullN hx hb dX1_carry_5 ?_
      refine lv_aload_n hx hb dX1_carry_8 rfl (lv_at hl 0 rfl) ?_
      refine lv_iconst (v := 1) hx hb dX1_carry_9 (by decide) ?_
      refine lv_iconst (v := 0) hx hb dX1_carry_10 (by decide) ?_
      have hFc := hy_free hD hS hA
      refine va_calli (va_runV (As := [.int 1, .int 0]) (rest := []) ⟨hx, hb, hml, hown, hts⟩ (c_X1_ended l D cI cJ cB h b k w z ad ca S s.heap.size 1 0 (by rw [vp_in_iff]; decide +kernel)) (cwV 2 hts gX1_carry_X1_ended rfl rfl rfl (by decide +kernel) ⟨Nat.le_of_ble_eq_true rfl, Nat.le_of_ble_eq_true rfl⟩) ⟨hy_IM_blind, va_recv hK hP (ci := 1) (q0 := 0) rfl rfl, fun U hU hW => ⟨rfl, by rw [hU], hy_I_at hU hW hP hK, hD.weaken (fun _ _ _ _ => trivial)⟩⟩ rfl rfl hl.1 rfl (lv_room (Nat.le_of_ble_eq_true rfl)) dX1_carry_11 ⟨Nat.le_of_ble_eq_true rfl, Nat.le_of_ble_eq_true rfl⟩) hS (fun q _ h => hFc q h) hFc (fun r9 u t H locs ht hvm hw hB hz1 hk1 hS => ?_)
      obtain ⟨hP1, hK1, hD1⟩ := hB
      rw [ht] at hP1
      have hP : va_P D vwCl (hy_W cI cJ cB h b k w z ad ca (hy_end S 1 0)) H := hP1
      have hD : va_D A (hy_W cI cJ cB h b k w z ad ca (hy_end S 1 0)) := hD1.weaken (fun _ q _ h => hFc q.1 h)
      clear hP1 hK1 hD1 hFc
      subst hw
      have eS : (hy_W cI cJ cB h b k w z ad ca (hy_end S 1 0)) = (hy_W cI cJ cB h b k w z ad ca (hy_cS S (some r1) none a2 a4 a5)) := congrArg (hy_W cI cJ cB h b k w z ad ca) (hy_cS_of (rfl : hy_carry S _ _ a2 a4 a5 = (1, 0, S)))
      have hPz : va_P D vwCl (hy_W cI cJ cB h b k w z ad ca (hy_cS S (some r1) none a2 a4 a5)) H := by rw [← eS]; exact hP
      have hDz : va_D A (hy_W cI cJ cB h b k w z ad ca (hy_cS S (some r1) none a2 a4 a5)) := by rw [← eS]; exact hD
      exact W.iret (v := (1)) hx hb hr (fun t ht hW => ⟨⟨_, (), rfl, hy_ce_of (rfl : hy_carry S _ _ a2 a4 a5 = (1, 0, S)), by rw [ht]; exact hPz, va_K.moved hW.alike hK, hDz⟩, hS.F ht⟩) hS.2.2 dX1_carry_14
    | some r2 =>
      have h2 : r2 ≤ hy_nr S := ho2 r2 rfl
      have hl := lv_entry ([.ref h, va_rf ((some r1).map ad), .int a2, va_rf ((some r2).map ad), .int a4, .int a5]) (n := 7) (Nat.le_of_ble_eq_true rfl)
      rw [lg_entry_eq]
      generalize (lg_sl ([.ref h, va_rf ((some r1).map ad), .int a2, va_rf ((some r2).map ad), .int a4, .int a5]) ++ List.replicate (7 - (lg_sl ([.ref h, va_rf ((some r1).map ad), .int a2, va_rf ((some r2).map ad), .int a4, .int a5])).length) Slot.unset).toArray = ls at hl ⊢
      have hl : lv_has ls 7 [(0, .ref h), (1, .ref (ad r1)), (2, .int a2), (3, .ref (ad r2)), (4, .int a4), (5, .int a5)] := hl
      refine lv_aload_n hx hb dX1_carry_0 rfl (lv_at hl 1 rfl) ?_
      refine lv_ifnull hx hb dX1_carry_1 ?_
      refine lv_aload_n hx hb dX1_carry_4 rfl (lv_at hl 3 rfl) ?_
      refine lv_ifnonnull (tgt := 15) hx hb dX1_carry_5 (by decide) ?_
      refine lv_aload_n hx hb dX1_carry_15 rfl (lv_at hl 1 rfl) ?_
      refine vp_callSi (W.runS (As := [.ref (ad r1)]) (rest := []) ⟨hx, hb, hml, hown, hts⟩ (c_X1_isRow l D cI cJ cB h b k w z ad ca S (some r1) (fun _ q => by cases q; exact h1)) (va_cwS 1 hts gX1_carry_X1_isRow rfl rfl rfl (by decide +kernel) ⟨Nat.le_of_ble_eq_true rfl, Nat.le_of_ble_eq_true rfl⟩) ⟨hy_I_blind, fun U hU hW => ⟨rfl, hy_I_at hU hW hP hK⟩⟩ rfl rfl hl.1 rfl (lv_room (Nat.le_of_ble_eq_true rfl)) dX1_carry_16 ⟨Nat.le_of_ble_eq_true rfl, Nat.le_of_ble_eq_true rfl⟩) (fun v9 e9 => ?_)
      subst e9
      refine lv_if_eq (tgt := 29) hx hb dX1_carry_19 (by decide) (fun c_19 => ?_) (fun c_19 => ?_)
      · -- 29
        refine lv_aload_n hx hb dX1_carry_29 rfl (lv_at hl 0 rfl) ?_
        refine lv_iconst (v := 2) hx hb dX1_carry_30 (by decide) ?_
        refine lv_iconst (v := 0) hx hb dX1_carry_31 (by decide) ?_
        have hFc := hy_free hD hS hA
        refine va_calli (va_runV (As := [.int 2, .int 0]) (rest := []) ⟨hx, hb, hml, hown, hts⟩ (c_X1_ended l D cI cJ cB h b k w z ad ca S s.heap.size 2 0 (by rw [vp_in_iff]; decide +kernel)) (cwV 2 hts gX1_carry_X1_ended rfl rfl rfl (by decide +kernel) ⟨Nat.le_of_ble_eq_true rfl, Nat.le_of_ble_eq_true rfl⟩) ⟨hy_IM_blind, va_recv hK hP (ci := 1) (q0 := 0) rfl rfl, fun U hU hW => ⟨rfl, by rw [hU], hy_I_at hU hW hP hK, hD.weaken (fun _ _ _ _ => trivial)⟩⟩ rfl rfl hl.1 rfl (lv_room (Nat.le_of_ble_eq_true rfl)) dX1_carry_32 ⟨Nat.le_of_ble_eq_true rfl, Nat.le_of_ble_eq_true rfl⟩) hS (fun q _ h => hFc q h) hFc (fun r9 u t H locs ht hvm hw hB hz1 hk1 hS => ?_)
        obtain ⟨hP1, hK1, hD1⟩ := hB
        rw [ht] at hP1
        have hP : va_P D vwCl (hy_W cI cJ cB h b k w z ad ca (hy_end S 2 0)) H := hP1
        have hD : va_D A (hy_W cI cJ cB h b k w z ad ca (hy_end S 2 0)) := hD1.weaken (fun _ q _ h => hFc q.1 h)
        clear hP1 hK1 hD1 hFc
        subst hw
        have eS : (hy_W cI cJ cB h b k w z ad ca (hy_end S 2 0)) = (hy_W cI cJ cB h b k w z ad ca (hy_cS S (some r1) (some r2) a2 a4 a5)) := congrArg (hy_W cI cJ cB h b k w z ad ca) (hy_cS_of (by first | exact hy_carry_2a c_19 | exact hy_carry_2b c_19 c_26 : hy_carry S (some r1) (some r2) a2 a4 a5 = (2, 0, S)))
        have hPz : va_P D vwCl (hy_W cI cJ cB h b k w z ad ca (hy_cS S (some r1) (some r2) a2 a4 a5)) H := by rw [← eS]; exact hP
        have hDz : va_D A (hy_W cI cJ cB h b k w z ad ca (hy_cS S (some r1) (some r2) a2 a4 a5)) := by rw [← eS]; exact hD
        exact W.iret (v := (2)) hx hb hr (fun t ht hW => ⟨⟨_, (), rfl, hy_ce_of (by first | exact hy_carry_2a c_19 | exact hy_carry_2b c_19 c_26 : hy_carry S (some r1) (some r2) a2 a4 a5 = (2, 0, S)), by rw [ht]; exact hPz, va_K.moved hW.alike hK, hDz⟩, hS.F ht⟩) hS.2.2 dX1_carry_35
      · -- 22
        refine lv_aload_n hx hb dX1_carry_22 rfl (lv_at hl 3 rfl) ?_
        refine vp_callSi (W.runS (As := [.ref (ad r2)]) (rest := []) ⟨hx, hb, hml, hown, hts⟩ (c_X1_isRow l D cI cJ cB h b k w z ad ca S (some r2) (fun _ q => by cases q; exact h2)) (va_cwS 1 hts gX1_carry_X1_isRow rfl rfl rfl (by decide +kernel) ⟨Nat.le_of_ble_eq_true rfl, Nat.le_of_ble_eq_true rfl⟩) ⟨hy_I_blind, fun U hU hW => ⟨rfl, hy_I_at hU hW hP hK⟩⟩ rfl rfl hl.1 rfl (lv_room (Nat.le_of_ble_eq_true rfl)) dX1_carry_23 ⟨Nat.le_of_ble_eq_true rfl, Nat.le_of_ble_eq_true rfl⟩) (fun v9 e9 => ?_)
        subst e9
        refine lv_if_ne (tgt := 36) hx hb dX1_carry_26 (by decide) (fun c_26 => ?_) (fun c_26 => ?_)
        · -- 36
          refine lv_aload_n hx hb dX1_carry_36 rfl (lv_at hl 1 rfl) ?_
          refine lv_aload_n hx hb dX1_carry_37 rfl (lv_at hl 3 rfl) ?_
          refine vp_callSi (W.runS (As := [.ref (ad r1), .ref (ad r2)]) (rest := []) ⟨hx, hb, hml, hown, hts⟩ (c_X1_areUnlike l D cI cJ cB h b k w z ad ca S r1 r2 h1 h2) (va_cwS 2 hts gX1_carry_X1_areUnlike rfl rfl rfl (by decide +kernel) ⟨Nat.le_of_ble_eq_true rfl, Nat.le_of_ble_eq_true rfl⟩) ⟨hy_I_blind, fun U hU hW => ⟨rfl, hy_I_at hU hW hP hK⟩⟩ rfl rfl hl.1 rfl (lv_room (Nat.le_of_ble_eq_true rfl)) dX1_carry_38 ⟨Nat.le_of_ble_eq_true rfl, Nat.le_of_ble_eq_true rfl⟩) (fun v9 e9 => ?_)
          subst e9
          refine lv_if_eq (tgt := 51) hx hb dX1_carry_41 (by decide) (fun c_41 => ?_) (fun c_41 => ?_)
          · -- 51
            refine lv_aload_n hx hb dX1_carry_51 rfl (lv_at hl 1 rfl) ?_
            refine lv_iload_n hx hb dX1_carry_52 rfl (lv_at hl 2 rfl) ?_
            refine lv_iload hx hb dX1_carry_53 (lv_at hl 5 rfl) ?_
            refine vp_callSi (W.runS (As := [.ref (ad r1), .int a2, .int a5]) (rest := []) ⟨hx, hb, hml, hown, hts⟩ (c_X1_isOutside l D cI cJ cB h b k w z ad ca S r1 h1 a2 a5) (va_cwS 3 hts gX1_carry_X1_isOutside rfl rfl rfl (by decide +kernel) ⟨Nat.le_of_ble_eq_true rfl, Nat.le_of_ble_eq_true rfl⟩) ⟨hy_I_blind, fun U hU hW => ⟨rfl, hy_I_at hU hW hP hK⟩⟩ rfl rfl hl.1 rfl (lv_room (Nat.le_of_ble_eq_true rfl)) dX1_carry_55 ⟨Nat.le_of_ble_eq_true rfl, Nat.le_of_ble_eq_true rfl⟩) (fun v9 e9 => ?_)
            subst e9
            refine lv_if_ne (tgt := 72) hx hb dX1_carry_58 (by decide) (fun c_58 => ?_) (fun c_58 => ?_)
            · -- 72
              refine lv_aload_n hx hb dX1_carry_72 rfl (lv_at hl 0 rfl) ?_
              refine lv_iconst (v := 4) hx hb dX1_carry_73 (by decide) ?_
              refine lv_iconst (v := 0) hx hb dX1_carry_74 (by decide) ?_
              have hFc := hy_free hD hS hA
              refine va_calli (va_runV (As := [.int 4, .int 0]) (rest := []) ⟨hx, hb, hml, hown, hts⟩ (c_X1_ended l D cI cJ cB h b k w z ad ca S s.heap.size 4 0 (by rw [vp_in_iff]; decide +kernel)) (cwV 2 hts gX1_carry_X1_ended rfl rfl rfl (by decide +kernel) ⟨Nat.le_of_ble_eq_true rfl, Nat.le_of_ble_eq_true rfl⟩) ⟨hy_IM_blind, va_recv hK hP (ci := 1) (q0 := 0) rfl rfl, fun U hU hW => ⟨rfl, by rw [hU], hy_I_at hU hW hP hK, hD.weaken (fun _ _ _ _ => trivial)⟩⟩ rfl rfl hl.1 rfl (lv_room (Nat.le_of_ble_eq_true rfl)) dX1_carry_75 ⟨Nat.le_of_ble_eq_true rfl, Nat.le_of_ble_eq_true rfl⟩) hS (fun q _ h => hFc q h) hFc (fun r9 u t H locs ht hvm hw hB hz1 hk1 hS => ?_)
              obtain ⟨hP1, hK1, hD1⟩ := hB
              rw [ht] at hP1
              have hP : va_P D vwCl (hy_W cI cJ cB h b k w z ad ca (hy_end S 4 0)) H := hP1
              have hD : va_D A (hy_W cI cJ cB h b k w z ad ca (hy_end S 4 0)) := hD1.weaken (fun _ q _ h => hFc q.1 h)
              clear hP1 hK1 hD1 hFc
              subst hw
              have eS : (hy_W cI cJ cB h b k w z ad ca (hy_end S 4 0)) = (hy_W cI cJ cB h b k w z ad ca (hy_cS S (some r1) (some r2) a2 a4 a5)) := congrArg (hy_W cI cJ cB h b k w z ad ca) (hy_cS_of (by first | exact hy_carry_4a c_19 c_26 c_41 c_58 | exact hy_carry_4b c_19 c_26 c_41 c_58 c_69 : hy_carry S (some r1) (some r2) a2 a4 a5 = (4, 0, S)))
              have hPz : va_P D vwCl (hy_W cI cJ cB h b k w z ad ca (hy_cS S (some r1) (some r2) a2 a4 a5)) H := by rw [← eS]; exact hP
              have hDz : va_D A (hy_W cI cJ cB h b k w z ad ca (hy_cS S (some r1) (some r2) a2 a4 a5)) := by rw [← eS]; exact hD
              exact W.iret (v := (4)) hx hb hr (fun t ht hW => ⟨⟨_, (), rfl, hy_ce_of (by first | exact hy_carry_4a c_19 c_26 c_41 c_58 | exact hy_carry_4b c_19 c_26 c_41 c_58 c_69 : hy_carry S (some r1) (some r2) a2 a4 a5 = (4, 0, S)), by rw [ht]; exact hPz, va_K.moved hW.alike hK, hDz⟩, hS.F ht⟩) hS.2.2 dX1_carry_78
            · -- 61
              refine lv_aload_n hx hb dX1_carry_61 rfl (lv_at hl 3 rfl) ?_
              refine lv_iload hx hb dX1_carry_62 (lv_at hl 4 rfl) ?_
              refine lv_iload hx hb dX1_carry_64 (lv_at hl 5 rfl) ?_
              refine vp_callSi (W.runS (As := [.ref (ad r2), .int a4, .int a5]) (rest := []) ⟨hx, hb, hml, hown, hts⟩ (c_X1_isOutside l D cI cJ cB h b k w z ad ca S r2 h2 a4 a5) (va_cwS 3 hts gX1_carry_X1_isOutside rfl rfl rfl (by decide +kernel) ⟨Nat.le_of_ble_eq_true rfl, Nat.le_of_ble_eq_true rfl⟩) ⟨hy_I_blind, fun U hU hW => ⟨rfl, hy_I_at hU hW hP hK⟩⟩ rfl rfl hl.1 rfl (lv_room (Nat.le_of_ble_eq_true rfl)) dX1_carry_66 ⟨Nat.le_of_ble_eq_true rfl, Nat.le_of_ble_eq_true rfl⟩) (fun v9 e9 => ?_)
              subst e9
              refine lv_if_eq (tgt := 79) hx hb dX1_carry_69 (by decide) (fun c_69 => ?_) (fun c_69 => ?_)
              · -- 79
                have q1 := hwf.2.2.2.2.2.1 r1
                have q2 := hwf.2.2.2.2.2.1 r2
                obtain ⟨i0, n0, rfl, rfl, hin0⟩ := hy_out_0 q1 c_58
                obtain ⟨j0, n1, rfl, hn1, hjn⟩ := hy_out_0 q2 c_69
                obtain rfl : n0 = n1 := (nI_eq (by omega) (by omega)).mp hn1
                have hfl := hy_fit_le S r1 i0 r2 n0
                refine lv_aload_n hx hb dX1_carry_79 rfl (lv_at hl 0 rfl) ?_
                refine lv_aload_n hx hb dX1_carry_80 rfl (lv_at hl 1 rfl) ?_
                refine lv_iload_n hx hb dX1_carry_81 rfl (lv_at hl 2 rfl) ?_
                refine lv_aload_n hx hb dX1_carry_82 rfl (lv_at hl 3 rfl) ?_
                refine lv_iload hx hb dX1_carry_83 (lv_at hl 5 rfl) ?_
                refine vp_callSi (W.runV (As := [.ref (ad r1), .int (nI i0), .ref (ad r2), .int (nI n0)]) (rest := []) ⟨hx, hb, hml, hown, hts⟩ (c_X1_howManyFit l D cI cJ cB h b k w z ad ca S r1 r2 i0 n0 h1 h2 hin0 (hwf.2.2.2.2.2.1 _) hwf.2.1) (cwV 4 hts gX1_carry_X1_howManyFit rfl rfl rfl (by decide +kernel) ⟨Nat.le_of_ble_eq_true rfl, Nat.le_of_ble_eq_true rfl⟩) ⟨hy_I_blind, va_recv hK hP (ci := 1) (q0 := 0) rfl rfl, fun U hU hW => ⟨rfl, hy_I_at hU hW hP hK⟩⟩ rfl rfl hl.1 rfl (lv_room (Nat.le_of_ble_eq_true rfl)) dX1_carry_85 ⟨Nat.le_of_ble_eq_true rfl, Nat.le_of_ble_eq_true rfl⟩) (fun v9 e9 => ?_)
                subst e9
                refine lv_istore (lv' := [(6, .int (nI (hy_fit S r1 i0 r2 n0))), (0, .ref h), (1, .ref (ad r1)), (2, .int (nI i0)), (3, .ref (ad r2)), (4, .int (nI j0)), (5, .int (nI n0))]) hx hb dX1_carry_88 hl (by decide) rfl (fun ls hl => ?_)
                refine lv_aload_n hx hb dX1_carry_90 rfl (lv_at hl 2 rfl) ?_
                refine va_get (D := D) (ci := 0) (v := .ref (ca r1)) (C := RX0) (T := TX0) (N := 2) hx hb hts hinX0 hown hK hP (5 + r1) (hy_W_row h1) rfl 1 (by decide) (hts (.fieldLink RX1 79 "HiveYard$Content" "cells" "[J") (by decide +kernel)) (fun _ h9 => h9) rfl dX1_carry_91 ?_
                refine lv_iload_n hx hb dX1_carry_94 rfl (lv_at hl 3 rfl) ?_
                refine lv_aload_n hx hb dX1_carry_95 rfl (lv_at hl 4 rfl) ?_
                refine va_get (D := D) (ci := 0) (v := .ref (ca r2)) (C := RX0) (T := TX0) (N := 2) hx hb hts hinX0 hown hK hP (5 + r2) (hy_W_row h2) rfl 1 (by decide) (hts (.fieldLink RX1 79 "HiveYard$Content" "cells" "[J") (by decide +kernel)) (fun _ h9 => h9) rfl dX1_carry_96 ?_
                refine lv_iload hx hb dX1_carry_99 (lv_at hl 5 rfl) ?_
                refine lv_iload hx hb dX1_carry_101 (lv_at hl 0 rfl) ?_
                refine va_copyl hx hb (hml.trans hl.1.symm) hown (hts (.methodLink RX1 187 arraycopyName) (by decide +kernel)) (hts (.native arraycopyName) (by decide +kernel)) (hts (.static arraycopyName) (by decide +kernel)) (hts (.initialized "java/lang/System") (by decide +kernel)) hK hP hD hS (5 + (hy_nr S + 1 + r1)) (5 + (hy_nr S + 1 + r2)) 1 1 (hy_W_arr h1) (hy_W_arr h2) rfl rfl rfl (nI_pos (by omega)) (nI_pos (by omega)) (nI_pos (by omega)) (by rw [nI_clamp (by omega), nI_clamp (by omega)]; omega) (by rw [nI_clamp (by omega), nI_clamp (by omega)]; omega) (fun _ _ => rfl) (Nat.le_of_ble_eq_true rfl) (by decide +kernel) dX1_carry_103 (fun H locs hP hD hS => ?_)
                have hP : va_P D vwCl (hy_W cI cJ cB h b k w z ad ca (hy_uva S r2 (va_cpy (hy_va S r1) (hy_va S r2) (nI i0).toNatClampNeg (nI j0).toNatClampNeg (nI (hy_fit S r1 i0 r2 n0)).toNatClampNeg))) H := by rw [← hy_W_setArr h2 (va_cpy (hy_va S r1) (hy_va S r2) (nI i0).toNatClampNeg (nI j0).toNatClampNeg (nI (hy_fit S r1 i0 r2 n0)).toNatClampNeg)]; exact hP
                have hD : va_D A (hy_W cI cJ cB h b k w z ad ca (hy_uva S r2 (va_cpy (hy_va S r1) (hy_va S r2) (nI i0).toNatClampNeg (nI j0).toNatClampNeg (nI (hy_fit S r1 i0 r2 n0)).toNatClampNeg))) := by rw [← hy_W_setArr h2 (va_cpy (hy_va S r1) (hy_va S r2) (nI i0).toNatClampNeg (nI j0).toNatClampNeg (nI (hy_fit S r1 i0 r2 n0)).toNatClampNeg)]; exact hD
                refine lv_aload_n hx hb dX1_carry_106 rfl (lv_at hl 1 rfl) ?_
                refine lv_iload hx hb dX1_carry_107 (lv_at hl 0 rfl) ?_
                refine lv_iload hx hb dX1_carry_109 (lv_at hl 6 rfl) ?_
                refine lv_icmp_ge (tgt := 118) hx hb dX1_carry_111 (by decide) (fun c_111 => ?_) (fun c_111 => ?_)
                · -- 118
                  refine lv_iconst (v := 0) hx hb dX1_carry_118 (by decide) ?_
                  refine lv_iload hx hb dX1_carry_119 (lv_at hl 0 rfl) ?_
                  have hFc := hy_free hD hS hA
                  refine va_calli (va_runV (As := [.int 0, .int (nI (hy_fit S r1 i0 r2 n0))]) (rest := []) ⟨hx, hb, hml, hown, hts⟩ (c_X1_ended l D cI cJ cB h b k w z ad ca (hy_uva S r2 (va_cpy (hy_va S r1) (hy_va S r2) (nI i0).toNatClampNeg (nI j0).toNatClampNeg (nI (hy_fit S r1 i0 r2 n0)).toNatClampNeg)) H.size 0 (nI (hy_fit S r1 i0 r2 n0)) (by rw [vp_in_iff]; decide +kernel)) (cwV 2 hts gX1_carry_X1_ended rfl rfl rfl (by decide +kernel) ⟨Nat.le_of_ble_eq_true rfl, Nat.le_of_ble_eq_true rfl⟩) ⟨hy_IM_blind, va_recv hK hP (ci := 1) (q0 := 0) rfl rfl, fun U hU hW => ⟨rfl, by rw [hU], hy_I_at hU hW hP hK, hD.weaken (fun _ _ _ _ => trivial)⟩⟩ rfl rfl hl.1 rfl (lv_room (Nat.le_of_ble_eq_true rfl)) dX1_carry_121 ⟨Nat.le_of_ble_eq_true rfl, Nat.le_of_ble_eq_true rfl⟩) hS (fun q _ h => hFc q h) hFc (fun r9 u t H locs ht hvm hw hB hz1 hk1 hS => ?_)
                  obtain ⟨hP1, hK1, hD1⟩ := hB
                  rw [ht] at hP1
                  have hP : va_P D vwCl (hy_W cI cJ cB h b k w z ad ca (hy_end (hy_uva S r2 (va_cpy (hy_va S r1) (hy_va S r2) (nI i0).toNatClampNeg (nI j0).toNatClampNeg (nI (hy_fit S r1 i0 r2 n0)).toNatClampNeg)) 0 (nI (hy_fit S r1 i0 r2 n0)))) H := hP1
                  have hD : va_D A (hy_W cI cJ cB h b k w z ad ca (hy_end (hy_uva S r2 (va_cpy (hy_va S r1) (hy_va S r2) (nI i0).toNatClampNeg (nI j0).toNatClampNeg (nI (hy_fit S r1 i0 r2 n0)).toNatClampNeg)) 0 (nI (hy_fit S r1 i0 r2 n0)))) := hD1.weaken (fun _ q _ h => hFc q.1 h)
                  clear hP1 hK1 hD1 hFc
                  subst hw
                  have eS : (hy_W cI cJ cB h b k w z ad ca (hy_end (hy_uva S r2 (va_cpy (hy_va S r1) (hy_va S r2) (nI i0).toNatClampNeg (nI j0).toNatClampNeg (nI (hy_fit S r1 i0 r2 n0)).toNatClampNeg)) 0 (nI (hy_fit S r1 i0 r2 n0)))) = (hy_W cI cJ cB h b k w z ad ca (hy_cS S (some r1) (some r2) (nI i0) (nI j0) (nI n0))) := congrArg (hy_W cI cJ cB h b k w z ad ca) (hy_cS_of ((hy_carry_5 (by omega) (by omega) c_19 c_26 c_41 c_58 c_69).trans (by rw [if_pos c_111])))
                  have hPz : va_P D vwCl (hy_W cI cJ cB h b k w z ad ca (hy_cS S (some r1) (some r2) (nI i0) (nI j0) (nI n0))) H := by rw [← eS]; exact hP
                  have hDz : va_D A (hy_W cI cJ cB h b k w z ad ca (hy_cS S (some r1) (some r2) (nI i0) (nI j0) (nI n0))) := by rw [← eS]; exact hD
                  exact W.iret (v := (0)) hx hb hr (fun t ht hW => ⟨⟨_, (), rfl, hy_ce_of ((hy_carry_5 (by omega) (by omega) c_19 c_26 c_41 c_58 c_69).trans (by rw [if_pos c_111])), by rw [ht]; exact hPz, va_K.moved hW.alike hK, hDz⟩, hS.F ht⟩) hS.2.2 dX1_carry_124
                · -- 114
                  refine lv_iconst (v := 5) hx hb dX1_carry_114 (by decide) ?_
                  refine lv_goto (tgt := 119) hx hb dX1_carry_115 (by decide) ?_
                  refine lv_iload hx hb dX1_carry_119 (lv_at hl 0 rfl) ?_
                  have hFc := hy_free hD hS hA
                  refine va_calli (va_runV (As := [.int 5, .int (nI (hy_fit S r1 i0 r2 n0))]) (rest := []) ⟨hx, hb, hml, hown, hts⟩ (c_X1_ended l D cI cJ cB h b k w z ad ca (hy_uva S r2 (va_cpy (hy_va S r1) (hy_va S r2) (nI i0).toNatClampNeg (nI j0).toNatClampNeg (nI (hy_fit S r1 i0 r2 n0)).toNatClampNeg)) H.size 5 (nI (hy_fit S r1 i0 r2 n0)) (by rw [vp_in_iff]; decide +kernel)) (cwV 2 hts gX1_carry_X1_ended rfl rfl rfl (by decide +kernel) ⟨Nat.le_of_ble_eq_true rfl, Nat.le_of_ble_eq_true rfl⟩) ⟨hy_IM_blind, va_recv hK hP (ci := 1) (q0 := 0) rfl rfl, fun U hU hW => ⟨rfl, by rw [hU], hy_I_at hU hW hP hK, hD.weaken (fun _ _ _ _ => trivial)⟩⟩ rfl rfl hl.1 rfl (lv_room (Nat.le_of_ble_eq_true rfl)) dX1_carry_121 ⟨Nat.le_of_ble_eq_true rfl, Nat.le_of_ble_eq_true rfl⟩) hS (fun q _ h => hFc q h) hFc (fun r9 u t H locs ht hvm hw hB hz1 hk1 hS => ?_)
                  obtain ⟨hP1, hK1, hD1⟩ := hB
                  rw [ht] at hP1
                  have hP : va_P D vwCl (hy_W cI cJ cB h b k w z ad ca (hy_end (hy_uva S r2 (va_cpy (hy_va S r1) (hy_va S r2) (nI i0).toNatClampNeg (nI j0).toNatClampNeg (nI (hy_fit S r1 i0 r2 n0)).toNatClampNeg)) 5 (nI (hy_fit S r1 i0 r2 n0)))) H := hP1
                  have hD : va_D A (hy_W cI cJ cB h b k w z ad ca (hy_end (hy_uva S r2 (va_cpy (hy_va S r1) (hy_va S r2) (nI i0).toNatClampNeg (nI j0).toNatClampNeg (nI (hy_fit S r1 i0 r2 n0)).toNatClampNeg)) 5 (nI (hy_fit S r1 i0 r2 n0)))) := hD1.weaken (fun _ q _ h => hFc q.1 h)
                  clear hP1 hK1 hD1 hFc
                  subst hw
                  have eS : (hy_W cI cJ cB h b k w z ad ca (hy_end (hy_uva S r2 (va_cpy (hy_va S r1) (hy_va S r2) (nI i0).toNatClampNeg (nI j0).toNatClampNeg (nI (hy_fit S r1 i0 r2 n0)).toNatClampNeg)) 5 (nI (hy_fit S r1 i0 r2 n0)))) = (hy_W cI cJ cB h b k w z ad ca (hy_cS S (some r1) (some r2) (nI i0) (nI j0) (nI n0))) := congrArg (hy_W cI cJ cB h b k w z ad ca) (hy_cS_of ((hy_carry_5 (by omega) (by omega) c_19 c_26 c_41 c_58 c_69).trans (by rw [if_neg c_111])))
                  have hPz : va_P D vwCl (hy_W cI cJ cB h b k w z ad ca (hy_cS S (some r1) (some r2) (nI i0) (nI j0) (nI n0))) H := by rw [← eS]; exact hP
                  have hDz : va_D A (hy_W cI cJ cB h b k w z ad ca (hy_cS S (some r1) (some r2) (nI i0) (nI j0) (nI n0))) := by rw [← eS]; exact hD
                  exact W.iret (v := (5)) hx hb hr (fun t ht hW => ⟨⟨_, (), rfl, hy_ce_of ((hy_carry_5 (by omega) (by omega) c_19 c_26 c_41 c_58 c_69).trans (by rw [if_neg c_111])), by rw [ht]; exact hPz, va_K.moved hW.alike hK, hDz⟩, hS.F ht⟩) hS.2.2 dX1_carry_124
              · -- 72
                refine lv_aload_n hx hb dX1_carry_72 rfl (lv_at hl 0 rfl) ?_
                refine lv_iconst (v := 4) hx hb dX1_carry_73 (by decide) ?_
                refine lv_iconst (v := 0) hx hb dX1_carry_74 (by decide) ?_
                have hFc := hy_free hD hS hA
                refine va_calli (va_runV (As := [.int 4, .int 0]) (rest := []) ⟨hx, hb, hml, hown, hts⟩ (c_X1_ended l D cI cJ cB h b k w z ad ca S s.heap.size 4 0 (by rw [vp_in_iff]; decide +kernel)) (cwV 2 hts gX1_carry_X1_ended rfl rfl rfl (by decide +kernel) ⟨Nat.le_of_ble_eq_true rfl, Nat.le_of_ble_eq_true rfl⟩) ⟨hy_IM_blind, va_recv hK hP (ci := 1) (q0 := 0) rfl rfl, fun U hU hW => ⟨rfl, by rw [hU], hy_I_at hU hW hP hK, hD.weaken (fun _ _ _ _ => trivial)⟩⟩ rfl rfl hl.1 rfl (lv_room (Nat.le_of_ble_eq_true rfl)) dX1_carry_75 ⟨Nat.le_of_ble_eq_true rfl, Nat.le_of_ble_eq_true rfl⟩) hS (fun q _ h => hFc q h) hFc (fun r9 u t H locs ht hvm hw hB hz1 hk1 hS => ?_)
                obtain ⟨hP1, hK1, hD1⟩ := hB
                rw [ht] at hP1
                have hP : va_P D vwCl (hy_W cI cJ cB h b k w z ad ca (hy_end S 4 0)) H := hP1
                have hD : va_D A (hy_W cI cJ cB h b k w z ad ca (hy_end S 4 0)) := hD1.weaken (fun _ q _ h => hFc q.1 h)
                clear hP1 hK1 hD1 hFc
                subst hw
                have eS : (hy_W cI cJ cB h b k w z ad ca (hy_end S 4 0)) = (hy_W cI cJ cB h b k w z ad ca (hy_cS S (some r1) (some r2) a2 a4 a5)) := congrArg (hy_W cI cJ cB h b k w z ad ca) (hy_cS_of (by first | exact hy_carry_4a c_19 c_26 c_41 c_58 | exact hy_carry_4b c_19 c_26 c_41 c_58 c_69 : hy_carry S (some r1) (some r2) a2 a4 a5 = (4, 0, S)))
                have hPz : va_P D vwCl (hy_W cI cJ cB h b k w z ad ca (hy_cS S (some r1) (some r2) a2 a4 a5)) H := by rw [← eS]; exact hP
                have hDz : va_D A (hy_W cI cJ cB h b k w z ad ca (hy_cS S (some r1) (some r2) a2 a4 a5)) := by rw [← eS]; exact hD
                exact W.iret (v := (4)) hx hb hr (fun t ht hW => ⟨⟨_, (), rfl, hy_ce_of (by first | exact hy_carry_4a c_19 c_26 c_41 c_58 | exact hy_carry_4b c_19 c_26 c_41 c_58 c_69 : hy_carry S (some r1) (some r2) a2 a4 a5 = (4, 0, S)), by rw [ht]; exact hPz, va_K.moved hW.alike hK, hDz⟩, hS.F ht⟩) hS.2.2 dX1_carry_78
          · -- 44
            refine lv_aload_n hx hb dX1_carry_44 rfl (lv_at hl 0 rfl) ?_
            refine lv_iconst (v := 3) hx hb dX1_carry_45 (by decide) ?_
            refine lv_iconst (v := 0) hx hb dX1_carry_46 (by decide) ?_
            have hFc := hy_free hD hS hA
            refine va_calli (va_runV (As := [.int 3, .int 0]) (rest := []) ⟨hx, hb, hml, hown, hts⟩ (c_X1_ended l D cI cJ cB h b k w z ad ca S s.heap.size 3 0 (by rw [vp_in_iff]; decide +kernel)) (cwV 2 hts gX1_carry_X1_ended rfl rfl rfl (by decide +kernel) ⟨Nat.le_of_ble_eq_true rfl, Nat.le_of_ble_eq_true rfl⟩) ⟨hy_IM_blind, va_recv hK hP (ci := 1) (q0 := 0) rfl rfl, fun U hU hW => ⟨rfl, by rw [hU], hy_I_at hU hW hP hK, hD.weaken (fun _ _ _ _ => trivial)⟩⟩ rfl rfl hl.1 rfl (lv_room (Nat.le_of_ble_eq_true rfl)) dX1_carry_47 ⟨Nat.le_of_ble_eq_true rfl, Nat.le_of_ble_eq_true rfl⟩) hS (fun q _ h => hFc q h) hFc (fun r9 u t H locs ht hvm hw hB hz1 hk1 hS => ?_)
            obtain ⟨hP1, hK1, hD1⟩ := hB
            rw [ht] at hP1
            have hP : va_P D vwCl (hy_W cI cJ cB h b k w z ad ca (hy_end S 3 0)) H := hP1
            have hD : va_D A (hy_W cI cJ cB h b k w z ad ca (hy_end S 3 0)) := hD1.weaken (fun _ q _ h => hFc q.1 h)
            clear hP1 hK1 hD1 hFc
            subst hw
            have eS : (hy_W cI cJ cB h b k w z ad ca (hy_end S 3 0)) = (hy_W cI cJ cB h b k w z ad ca (hy_cS S (some r1) (some r2) a2 a4 a5)) := congrArg (hy_W cI cJ cB h b k w z ad ca) (hy_cS_of (hy_carry_3 c_19 c_26 c_41))
            have hPz : va_P D vwCl (hy_W cI cJ cB h b k w z ad ca (hy_cS S (some r1) (some r2) a2 a4 a5)) H := by rw [← eS]; exact hP
            have hDz : va_D A (hy_W cI cJ cB h b k w z ad ca (hy_cS S (some r1) (some r2) a2 a4 a5)) := by rw [← eS]; exact hD
            exact W.iret (v := (3)) hx hb hr (fun t ht hW => ⟨⟨_, (), rfl, hy_ce_of (hy_carry_3 c_19 c_26 c_41), by rw [ht]; exact hPz, va_K.moved hW.alike hK, hDz⟩, hS.F ht⟩) hS.2.2 dX1_carry_50
        · -- 29
          refine lv_aload_n hx hb dX1_carry_29 rfl (lv_at hl 0 rfl) ?_
          refine lv_iconst (v := 2) hx hb dX1_carry_30 (by decide) ?_
          refine lv_iconst (v := 0) hx hb dX1_carry_31 (by decide) ?_
          have hFc := hy_free hD hS hA
          refine va_calli (va_runV (As := [.int 2, .int 0]) (rest := []) ⟨hx, hb, hml, hown, hts⟩ (c_X1_ended l D cI cJ cB h b k w z ad ca S s.heap.size 2 0 (by rw [vp_in_iff]; decide +kernel)) (cwV 2 hts gX1_carry_X1_ended rfl rfl rfl (by decide +kernel) ⟨Nat.le_of_ble_eq_true rfl, Nat.le_of_ble_eq_true rfl⟩) ⟨hy_IM_blind, va_recv hK hP (ci := 1) (q0 := 0) rfl rfl, fun U hU hW => ⟨rfl, by rw [hU], hy_I_at hU hW hP hK, hD.weaken (fun _ _ _ _ => trivial)⟩⟩ rfl rfl hl.1 rfl (lv_room (Nat.le_of_ble_eq_true rfl)) dX1_carry_32 ⟨Nat.le_of_ble_eq_true rfl, Nat.le_of_ble_eq_true rfl⟩) hS (fun q _ h => hFc q h) hFc (fun r9 u t H locs ht hvm hw hB hz1 hk1 hS => ?_)
          obtain ⟨hP1, hK1, hD1⟩ := hB
          rw [ht] at hP1
          have hP : va_P D vwCl (hy_W cI cJ cB h b k w z ad ca (hy_end S 2 0)) H := hP1
          have hD : va_D A (hy_W cI cJ cB h b k w z ad ca (hy_end S 2 0)) := hD1.weaken (fun _ q _ h => hFc q.1 h)
          clear hP1 hK1 hD1 hFc
          subst hw
          have eS : (hy_W cI cJ cB h b k w z ad ca (hy_end S 2 0)) = (hy_W cI cJ cB h b k w z ad ca (hy_cS S (some r1) (some r2) a2 a4 a5)) := congrArg (hy_W cI cJ cB h b k w z ad ca) (hy_cS_of (by first | exact hy_carry_2a c_19 | exact hy_carry_2b c_19 c_26 : hy_carry S (some r1) (some r2) a2 a4 a5 = (2, 0, S)))
          have hPz : va_P D vwCl (hy_W cI cJ cB h b k w z ad ca (hy_cS S (some r1) (some r2) a2 a4 a5)) H := by rw [← eS]; exact hP
          have hDz : va_D A (hy_W cI cJ cB h b k w z ad ca (hy_cS S (some r1) (some r2) a2 a4 a5)) := by rw [← eS]; exact hD
          exact W.iret (v := (2)) hx hb hr (fun t ht hW => ⟨⟨_, (), rfl, hy_ce_of (by first | exact hy_carry_2a c_19 | exact hy_carry_2b c_19 c_26 : hy_carry S (some r1) (some r2) a2 a4 a5 = (2, 0, S)), by rw [ht]; exact hPz, va_K.moved hW.alike hK, hDz⟩, hS.F ht⟩) hS.2.2 dX1_carry_35
