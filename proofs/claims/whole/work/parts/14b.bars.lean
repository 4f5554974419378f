/-! THE REFERENCE: bars, told. Rows laid by gen.py, mbars.py. -/
set_option maxHeartbeats 4000000 in
set_option maxRecDepth 100000 in
theorem c_X2_bars (l : Launch) (D : va_G) (cI cJ cB : ClassId) (n0 bM sM zM tM xM kM wM eM : Nat) (S : hy_S) (th : Int32) (tk : Nat → Int64) (a1 a2 a3 a4 a5 : Int32) (ok1 : hy_ok a1) (ok3 : hy_ok a3) (hwf : hy_wf S) : Met l yX2_bars wsX2_bars ({ frames := 1, cells := 0, slots := 0, locals := 22 }) (va_Pc [.ref n0, .int a1, .int a2, .int a3, .int a4, .int a5] (hy_J D cI cJ cB n0 bM sM zM tM xM kM wM eM S th tk)) (vp_Si (fun v : Int32 => v = hy_cbar S (hy_bx S a1.toNatClampNeg) (hy_bx S a3.toNatClampNeg) a2 a4 a5)) 0 0 (fun _ => False) := by
  refine Met.ofW (cc := cX2_bars) (maxL := 9) (ret := (some .int)) (by decide) rfl ?_
  intro p e s m args below meth c s₁ B hml hv
  obtain ⟨rfl, hP, hK⟩ := hv
  have hx := B.exec
  have hb := B.bytes
  have hr := B.returns
  have hts := atoms_spec (ws := wsX2_bars) B.pre
  have hown : s.vm.findClass RX2 = some m.cls := findClass_of_methodNamed B.named
  have hlocks := B.notSynchronized
  have hinX2 : ∀ w ∈ wsX20, w ∈ wsX2_bars := by decide +kernel
  cases ho1 : hy_bx S a1.toNatClampNeg with
  | none =>
    cases ho2 : hy_bx S a3.toNatClampNeg with
    | none =>
      have hl := lv_entry ([.ref n0, .int a1, .int a2, .int a3, .int a4, .int a5]) (n := 9) (Nat.le_of_ble_eq_true rfl)
      rw [lg_entry_eq]
      generalize (lg_sl ([.ref n0, .int a1, .int a2, .int a3, .int a4, .int a5]) ++ List.replicate (9 - (lg_sl ([.ref n0, .int a1, .int a2, .int a3, .int a4, .int a5])).length) Slot.unset).toArray = ls at hl ⊢
      have hl : lv_has ls 9 [(0, .ref n0), (1, .int a1), (2, .int a2), (3, .int a3), (4, .int a4), (5, .int a5)] := hl
      refine lv_aload_n hx hb dX2_bars_0 rfl (lv_at hl 0 rfl) ?_
      refine va_get (D := D) (ci := 2) (v := .ref bM) (C := RX2) (T := TX2) (N := 14) hx hb hts hinX2 hown hK hP 0 rfl rfl 1 (by decide) (hts (.fieldLink RX2 7 "HiveYardModel" "boxes" "[I") (by decide +kernel)) (fun _ h9 => h9) rfl dX2_bars_1 ?_
      refine lv_iload_n hx hb dX2_bars_4 rfl (lv_at hl 1 rfl) ?_
      refine va_iald hx hb hK hP 1 0 rfl rfl (hy_ok_in ok1) dX2_bars_5 ?_
      refine lv_topi (fun v9 e9 => ?_)
      obtain rfl : v9 = (-1) := e9.trans (by show hy_enc (hy_bx S a1.toNatClampNeg) = _; rw [ho1]; rfl)
      clear e9
      refine lv_iconst (v := (-1)) hx hb dX2_bars_6 (by decide) ?_
      refine lv_icmp_eq (tgt := 20) hx hb dX2_bars_7 (by decide) (fun c_7 => ?_) (fun c9 => absurd c9 (fun c => c rfl))
      refine lv_iconst (v := 1) hx hb dX2_bars_20 (by decide) ?_
      exact W.iret (v := 1) hx hb hr (fun t ht hW => ⟨_, rfl, by first | rfl | exact hy_cbar_z1 hwf | exact hy_cbar_z2 hwf hl1 | exact hy_cbar_3 hwf hl1 hl2 c_58 (Or.inl c_66) | exact hy_cbar_3 hwf hl1 hl2 c_58 (Or.inr c_74), ht⟩) (fun q h => nomatch h) dX2_bars_21
    | some q2 =>
      cases q2 with
      | zero =>
        have hl := lv_entry ([.ref n0, .int a1, .int a2, .int a3, .int a4, .int a5]) (n := 9) (Nat.le_of_ble_eq_true rfl)
        rw [lg_entry_eq]
        generalize (lg_sl ([.ref n0, .int a1, .int a2, .int a3, .int a4, .int a5]) ++ List.replicate (9 - (lg_sl ([.ref n0, .int a1, .int a2, .int a3, .int a4, .int a5])).length) Slot.unset).toArray = ls at hl ⊢
        have hl : lv_has ls 9 [(0, .ref n0), (1, .int a1), (2, .int a2), (3, .int a3), (4, .int a4), (5, .int a5)] := hl
        refine lv_aload_n hx hb dX2_bars_0 rfl (lv_at hl 0 rfl) ?_
        refine va_get (D := D) (ci := 2) (v := .ref bM) (C := RX2) (T := TX2) (N := 14) hx hb hts hinX2 hown hK hP 0 rfl rfl 1 (by decide) (hts (.fieldLink RX2 7 "HiveYardModel" "boxes" "[I") (by decide +kernel)) (fun _ h9 => h9) rfl dX2_bars_1 ?_
        refine lv_iload_n hx hb dX2_bars_4 rfl (lv_at hl 1 rfl) ?_
        refine va_iald hx hb hK hP 1 0 rfl rfl (hy_ok_in ok1) dX2_bars_5 ?_
        refine lv_topi (fun v9 e9 => ?_)
        obtain rfl : v9 = (-1) := e9.trans (by show hy_enc (hy_bx S a1.toNatClampNeg) = _; rw [ho1]; rfl)
        clear e9
        refine lv_iconst (v := (-1)) hx hb dX2_bars_6 (by decide) ?_
        refine lv_icmp_eq (tgt := 20) hx hb dX2_bars_7 (by decide) (fun c_7 => ?_) (fun c9 => absurd c9 (fun c => c rfl))
        refine lv_iconst (v := 1) hx hb dX2_bars_20 (by decide) ?_
        exact W.iret (v := 1) hx hb hr (fun t ht hW => ⟨_, rfl, by first | rfl | exact hy_cbar_z1 hwf | exact hy_cbar_z2 hwf hl1 | exact hy_cbar_3 hwf hl1 hl2 c_58 (Or.inl c_66) | exact hy_cbar_3 hwf hl1 hl2 c_58 (Or.inr c_74), ht⟩) (fun q h => nomatch h) dX2_bars_21
      | succ r2 =>
        have hl2 := hwf.2.2.1 _ _ ho2
        have h300 := hwf.1
        have hl := lv_entry ([.ref n0, .int a1, .int a2, .int a3, .int a4, .int a5]) (n := 9) (Nat.le_of_ble_eq_true rfl)
        rw [lg_entry_eq]
        generalize (lg_sl ([.ref n0, .int a1, .int a2, .int a3, .int a4, .int a5]) ++ List.replicate (9 - (lg_sl ([.ref n0, .int a1, .int a2, .int a3, .int a4, .int a5])).length) Slot.unset).toArray = ls at hl ⊢
        have hl : lv_has ls 9 [(0, .ref n0), (1, .int a1), (2, .int a2), (3, .int a3), (4, .int a4), (5, .int a5)] := hl
        refine lv_aload_n hx hb dX2_bars_0 rfl (lv_at hl 0 rfl) ?_
        refine va_get (D := D) (ci := 2) (v := .ref bM) (C := RX2) (T := TX2) (N := 14) hx hb hts hinX2 hown hK hP 0 rfl rfl 1 (by decide) (hts (.fieldLink RX2 7 "HiveYardModel" "boxes" "[I") (by decide +kernel)) (fun _ h9 => h9) rfl dX2_bars_1 ?_
        refine lv_iload_n hx hb dX2_bars_4 rfl (lv_at hl 1 rfl) ?_
        refine va_iald hx hb hK hP 1 0 rfl rfl (hy_ok_in ok1) dX2_bars_5 ?_
        refine lv_topi (fun v9 e9 => ?_)
        obtain rfl : v9 = (-1) := e9.trans (by show hy_enc (hy_bx S a1.toNatClampNeg) = _; rw [ho1]; rfl)
        clear e9
        refine lv_iconst (v := (-1)) hx hb dX2_bars_6 (by decide) ?_
        refine lv_icmp_eq (tgt := 20) hx hb dX2_bars_7 (by decide) (fun c_7 => ?_) (fun c9 => absurd c9 (fun c => c rfl))
        refine lv_iconst (v := 1) hx hb dX2_bars_20 (by decide) ?_
        exact W.iret (v := 1) hx hb hr (fun t ht hW => ⟨_, rfl, by first | rfl | exact hy_cbar_z1 hwf | exact hy_cbar_z2 hwf hl1 | exact hy_cbar_3 hwf hl1 hl2 c_58 (Or.inl c_66) | exact hy_cbar_3 hwf hl1 hl2 c_58 (Or.inr c_74), ht⟩) (fun q h => nomatch h) dX2_bars_21
  | some q1 =>
    cases q1 with
    | zero =>
      cases ho2 : hy_bx S a3.toNatClampNeg with
      | none =>
        have hl := lv_entry ([.ref n0, .int a1, .int a2, .int a3, .int a4, .int a5]) (n := 9) (Nat.le_of_ble_eq_true rfl)
        rw [lg_entry_eq]
        generalize (lg_sl ([.ref n0, .int a1, .int a2, .int a3, .int a4, .int a5]) ++ List.replicate (9 - (lg_sl ([.ref n0, .int a1, .int a2, .int a3, .int a4, .int a5])).length) Slot.unset).toArray = ls at hl ⊢
        have hl : lv_has ls 9 [(0, .ref n0), (1, .int a1), (2, .int a2), (3, .int a3), (4, .int a4), (5, .int a5)] := hl
        refine lv_aload_n hx hb dX2_bars_0 rfl (lv_at hl 0 rfl) ?_
        refine va_get (D := D) (ci := 2) (v := .ref bM) (C := RX2) (T := TX2) (N := 14) hx hb hts hinX2 hown hK hP 0 rfl rfl 1 (by decide) (hts (.fieldLink RX2 7 "HiveYardModel" "boxes" "[I") (by decide +kernel)) (fun _ h9 => h9) rfl dX2_bars_1 ?_
        refine lv_iload_n hx hb dX2_bars_4 rfl (lv_at hl 1 rfl) ?_
        refine va_iald hx hb hK hP 1 0 rfl rfl (hy_ok_in ok1) dX2_bars_5 ?_
        refine lv_topi (fun v9 e9 => ?_)
        obtain rfl : v9 = (-2) := e9.trans (by show hy_enc (hy_bx S a1.toNatClampNeg) = _; rw [ho1]; rfl)
        clear e9
        refine lv_iconst (v := (-1)) hx hb dX2_bars_6 (by decide) ?_
        refine lv_icmp_eq (tgt := 20) hx hb dX2_bars_7 (by decide) (fun c9 => absurd c9 (by decide)) (fun c_7 => ?_)
        refine lv_aload_n hx hb dX2_bars_10 rfl (lv_at hl 0 rfl) ?_
        refine va_get (D := D) (ci := 2) (v := .ref bM) (C := RX2) (T := TX2) (N := 14) hx hb hts hinX2 hown hK hP 0 rfl rfl 1 (by decide) (hts (.fieldLink RX2 7 "HiveYardModel" "boxes" "[I") (by decide +kernel)) (fun _ h9 => h9) rfl dX2_bars_11 ?_
        refine lv_iload_n hx hb dX2_bars_14 rfl (lv_at hl 3 rfl) ?_
        refine va_iald hx hb hK hP 1 0 rfl rfl (hy_ok_in ok3) dX2_bars_15 ?_
        refine lv_topi (fun v9 e9 => ?_)
        obtain rfl : v9 = (-1) := e9.trans (by show hy_enc (hy_bx S a3.toNatClampNeg) = _; rw [ho2]; rfl)
        clear e9
        refine lv_iconst (v := (-1)) hx hb dX2_bars_16 (by decide) ?_
        refine lv_icmp_ne (tgt := 22) hx hb dX2_bars_17 (by decide) (fun c9 => absurd c9 (fun c => c rfl)) (fun c_17 => ?_)
        refine lv_iconst (v := 1) hx hb dX2_bars_20 (by decide) ?_
        exact W.iret (v := 1) hx hb hr (fun t ht hW => ⟨_, rfl, by first | rfl | exact hy_cbar_z1 hwf | exact hy_cbar_z2 hwf hl1 | exact hy_cbar_3 hwf hl1 hl2 c_58 (Or.inl c_66) | exact hy_cbar_3 hwf hl1 hl2 c_58 (Or.inr c_74), ht⟩) (fun q h => nomatch h) dX2_bars_21
      | some q2 =>
        cases q2 with
        | zero =>
          have hl := lv_entry ([.ref n0, .int a1, .int a2, .int a3, .int a4, .int a5]) (n := 9) (Nat.le_of_ble_eq_true rfl)
          rw [lg_entry_eq]
          generalize (lg_sl ([.ref n0, .int a1, .int a2, .int a3, .int a4, .int a5]) ++ List.replicate (9 - (lg_sl ([.ref n0, .int a1, .int a2, .int a3, .int a4, .int a5])).length) Slot.unset).toArray = ls at hl ⊢
          have hl : lv_has ls 9 [(0, .ref n0), (1, .int a1), (2, .int a2), (3, .int a3), (4, .int a4), (5, .int a5)] := hl
          refine lv_aload_n hx hb dX2_bars_0 rfl (lv_at hl 0 rfl) ?_
          refine va_get (D := D) (ci := 2) (v := .ref bM) (C := RX2) (T := TX2) (N := 14) hx hb hts hinX2 hown hK hP 0 rfl rfl 1 (by decide) (hts (.fieldLink RX2 7 "HiveYardModel" "boxes" "[I") (by decide +kernel)) (fun _ h9 => h9) rfl dX2_bars_1 ?_
          refine lv_iload_n hx hb dX2_bars_4 rfl (lv_at hl 1 rfl) ?_
          refine va_iald hx hb hK hP 1 0 rfl rfl (hy_ok_in ok1) dX2_bars_5 ?_
          refine lv_topi (fun v9 e9 => ?_)
          obtain rfl : v9 = (-2) := e9.trans (by show hy_enc (hy_bx S a1.toNatClampNeg) = _; rw [ho1]; rfl)
          clear e9
          refine lv_iconst (v := (-1)) hx hb dX2_bars_6 (by decide) ?_
          refine lv_icmp_eq (tgt := 20) hx hb dX2_bars_7 (by decide) (fun c9 => absurd c9 (by decide)) (fun c_7 => ?_)
          refine lv_aload_n hx hb dX2_bars_10 rfl (lv_at hl 0 rfl) ?_
          refine va_get (D := D) (ci := 2) (v := .ref bM) (C := RX2) (T := TX2) (N := 14) hx hb hts hinX2 hown hK hP 0 rfl rfl 1 (by decide) (hts (.fieldLink RX2 7 "HiveYardModel" "boxes" "[I") (by decide +kernel)) (fun _ h9 => h9) rfl dX2_bars_11 ?_
          refine lv_iload_n hx hb dX2_bars_14 rfl (lv_at hl 3 rfl) ?_
          refine va_iald hx hb hK hP 1 0 rfl rfl (hy_ok_in ok3) dX2_bars_15 ?_
          refine lv_topi (fun v9 e9 => ?_)
          obtain rfl : v9 = (-2) := e9.trans (by show hy_enc (hy_bx S a3.toNatClampNeg) = _; rw [ho2]; rfl)
          clear e9
          refine lv_iconst (v := (-1)) hx hb dX2_bars_16 (by decide) ?_
          refine lv_icmp_ne (tgt := 22) hx hb dX2_bars_17 (by decide) (fun c_17 => ?_) (fun c9 => absurd c9 (by decide))
          refine lv_aload_n hx hb dX2_bars_22 rfl (lv_at hl 0 rfl) ?_
          refine lv_iload_n hx hb dX2_bars_23 rfl (lv_at hl 1 rfl) ?_
          refine vp_callSi (W.runV (As := [.int a1]) (rest := []) ⟨hx, hb, hml, hown, hts⟩ (c_X2_hasRow l D cI cJ cB n0 bM sM zM tM xM kM wM eM S th tk a1 ok1 (some 0) ho1 hwf) (cwV 1 hts gX2_bars_X2_hasRow rfl rfl rfl (by decide +kernel) ⟨Nat.le_of_ble_eq_true rfl, Nat.le_of_ble_eq_true rfl⟩) ⟨hy_J_blind, va_recv hK hP (ci := 2) (q0 := 0) rfl rfl, fun U hU hW => ⟨rfl, hy_J_at hU hW hP hK⟩⟩ rfl rfl hl.1 rfl (lv_room (Nat.le_of_ble_eq_true rfl)) dX2_bars_24 ⟨Nat.le_of_ble_eq_true rfl, Nat.le_of_ble_eq_true rfl⟩) (fun v9 e9 => ?_)
          subst e9
          refine lv_if_eq (tgt := 38) hx hb dX2_bars_27 (by decide) (fun c_27 => ?_) (fun c9 => absurd c9 (fun c => c rfl))
          refine lv_iconst (v := 2) hx hb dX2_bars_38 (by decide) ?_
          exact W.iret (v := 2) hx hb hr (fun t ht hW => ⟨_, rfl, by first | rfl | exact hy_cbar_z1 hwf | exact hy_cbar_z2 hwf hl1 | exact hy_cbar_3 hwf hl1 hl2 c_58 (Or.inl c_66) | exact hy_cbar_3 hwf hl1 hl2 c_58 (Or.inr c_74), ht⟩) (fun q h => nomatch h) dX2_bars_39
        | succ r2 =>
          have hl2 := hwf.2.2.1 _ _ ho2
          have h300 := hwf.1
          have hl := lv_entry ([.ref n0, .int a1, .int a2, .int a3, .int a4, .int a5]) (n := 9) (Nat.le_of_ble_eq_true rfl)
          rw [lg_entry_eq]
          generalize (lg_sl ([.ref n0, .int a1, .int a2, .int a3, .int a4, .int a5]) ++ List.replicate (9 - (lg_sl ([.ref n0, .int a1, .int a2, .int a3, .int a4, .int a5])).length) Slot.unset).toArray = ls at hl ⊢
          have hl : lv_has ls 9 [(0, .ref n0), (1, .int a1), (2, .int a2), (3, .int a3), (4, .int a4), (5, .int a5)] := hl
          refine lv_aload_n hx hb dX2_bars_0 rfl (lv_at hl 0 rfl) ?_
          refine va_get (D := D) (ci := 2) (v := .ref bM) (C := RX2) (T := TX2) (N := 14) hx hb hts hinX2 hown hK hP 0 rfl rfl 1 (by decide) (hts (.fieldLink RX2 7 "HiveYardModel" "boxes" "[I") (by decide +kernel)) (fun _ h9 => h9) rfl dX2_bars_1 ?_
          refine lv_iload_n hx hb dX2_bars_4 rfl (lv_at hl 1 rfl) ?_
          refine va_iald hx hb hK hP 1 0 rfl rfl (hy_ok_in ok1) dX2_bars_5 ?_
          refine lv_topi (fun v9 e9 => ?_)
          obtain rfl : v9 = (-2) := e9.trans (by show hy_enc (hy_bx S a1.toNatClampNeg) = _; rw [ho1]; rfl)
          clear e9
          refine lv_iconst (v := (-1)) hx hb dX2_bars_6 (by decide) ?_
          refine lv_icmp_eq (tgt := 20) hx hb dX2_bars_7 (by decide) (fun c9 => absurd c9 (by decide)) (fun c_7 => ?_)
          refine lv_aload_n hx hb dX2_bars_10 rfl (lv_at hl 0 rfl) ?_
          refine va_get (D := D) (ci := 2) (v := .ref bM) (C := RX2) (T := TX2) (N := 14) hx hb hts hinX2 hown hK hP 0 rfl rfl 1 (by decide) (hts (.fieldLink RX2 7 "HiveYardModel" "boxes" "[I") (by decide +kernel)) (fun _ h9 => h9) rfl dX2_bars_11 ?_
          refine lv_iload_n hx hb dX2_bars_14 rfl (lv_at hl 3 rfl) ?_
          refine va_iald hx hb hK hP 1 0 rfl rfl (hy_ok_in ok3) dX2_bars_15 ?_
          refine lv_topi (fun v9 e9 => ?_)
          obtain rfl : v9 = (nI r2) := e9.trans (by show hy_enc (hy_bx S a3.toNatClampNeg) = _; rw [ho2]; rfl)
          clear e9
          refine lv_iconst (v := (-1)) hx hb dX2_bars_16 (by decide) ?_
          refine lv_icmp_ne (tgt := 22) hx hb dX2_bars_17 (by decide) (fun c_17 => ?_) (fun c9 => absurd c9 (hy_nI_ne (by omega) (by decide)))
          refine lv_aload_n hx hb dX2_bars_22 rfl (lv_at hl 0 rfl) ?_
          refine lv_iload_n hx hb dX2_bars_23 rfl (lv_at hl 1 rfl) ?_
          refine vp_callSi (W.runV (As := [.int a1]) (rest := []) ⟨hx, hb, hml, hown, hts⟩ (c_X2_hasRow l D cI cJ cB n0 bM sM zM tM xM kM wM eM S th tk a1 ok1 (some 0) ho1 hwf) (cwV 1 hts gX2_bars_X2_hasRow rfl rfl rfl (by decide +kernel) ⟨Nat.le_of_ble_eq_true rfl, Nat.le_of_ble_eq_true rfl⟩) ⟨hy_J_blind, va_recv hK hP (ci := 2) (q0 := 0) rfl rfl, fun U hU hW => ⟨rfl, hy_J_at hU hW hP hK⟩⟩ rfl rfl hl.1 rfl (lv_room (Nat.le_of_ble_eq_true rfl)) dX2_bars_24 ⟨Nat.le_of_ble_eq_true rfl, Nat.le_of_ble_eq_true rfl⟩) (fun v9 e9 => ?_)
          subst e9
          refine lv_if_eq (tgt := 38) hx hb dX2_bars_27 (by decide) (fun c_27 => ?_) (fun c9 => absurd c9 (fun c => c rfl))
          refine lv_iconst (v := 2) hx hb dX2_bars_38 (by decide) ?_
          exact W.iret (v := 2) hx hb hr (fun t ht hW => ⟨_, rfl, by first | rfl | exact hy_cbar_z1 hwf | exact hy_cbar_z2 hwf hl1 | exact hy_cbar_3 hwf hl1 hl2 c_58 (Or.inl c_66) | exact hy_cbar_3 hwf hl1 hl2 c_58 (Or.inr c_74), ht⟩) (fun q h => nomatch h) dX2_bars_39
    | succ r1 =>
      have hl1 := hwf.2.2.1 _ _ ho1
      have h300 := hwf.1
      cases ho2 : hy_bx S a3.toNatClampNeg with
      | none =>
        have hl := lv_entry ([.ref n0, .int a1, .int a2, .int a3, .int a4, .int a5]) (n := 9) (Nat.le_of_ble_eq_true rfl)
        rw [lg_entry_eq]
        generalize (lg_sl ([.ref n0, .int a1, .int a2, .int a3, .int a4, .int a5]) ++ List.replicate (9 - (lg_sl ([.ref n0, .int a1, .int a2, .int a3, .int a4, .int a5])).length) Slot.unset).toArray = ls at hl ⊢
        have hl : lv_has ls 9 [(0, .ref n0), (1, .int a1), (2, .int a2), (3, .int a3), (4, .int a4), (5, .int a5)] := hl
        refine lv_aload_n hx hb dX2_bars_0 rfl (lv_at hl 0 rfl) ?_
        refine va_get (D := D) (ci := 2) (v := .ref bM) (C := RX2) (T := TX2) (N := 14) hx hb hts hinX2 hown hK hP 0 rfl rfl 1 (by decide) (hts (.fieldLink RX2 7 "HiveYardModel" "boxes" "[I") (by decide +kernel)) (fun _ h9 => h9) rfl dX2_bars_1 ?_
        refine lv_iload_n hx hb dX2_bars_4 rfl (lv_at hl 1 rfl) ?_
        refine va_iald hx hb hK hP 1 0 rfl rfl (hy_ok_in ok1) dX2_bars_5 ?_
        refine lv_topi (fun v9 e9 => ?_)
        obtain rfl : v9 = (nI r1) := e9.trans (by show hy_enc (hy_bx S a1.toNatClampNeg) = _; rw [ho1]; rfl)
        clear e9
        refine lv_iconst (v := (-1)) hx hb dX2_bars_6 (by decide) ?_
        refine lv_icmp_eq (tgt := 20) hx hb dX2_bars_7 (by decide) (fun c9 => absurd c9 (hy_nI_ne (by omega) (by decide))) (fun c_7 => ?_)
        refine lv_aload_n hx hb dX2_bars_10 rfl (lv_at hl 0 rfl) ?_
        refine va_get (D := D) (ci := 2) (v := .ref bM) (C := RX2) (T := TX2) (N := 14) hx hb hts hinX2 hown hK hP 0 rfl rfl 1 (by decide) (hts (.fieldLink RX2 7 "HiveYardModel" "boxes" "[I") (by decide +kernel)) (fun _ h9 => h9) rfl dX2_bars_11 ?_
        refine lv_iload_n hx hb dX2_bars_14 rfl (lv_at hl 3 rfl) ?_
        refine va_iald hx hb hK hP 1 0 rfl rfl (hy_ok_in ok3) dX2_bars_15 ?_
        refine lv_topi (fun v9 e9 => ?_)
        obtain rfl : v9 = (-1) := e9.trans (by show hy_enc (hy_bx S a3.toNatClampNeg) = _; rw [ho2]; rfl)
        clear e9
        refine lv_iconst (v := (-1)) hx hb dX2_bars_16 (by decide) ?_
        refine lv_icmp_ne (tgt := 22) hx hb dX2_bars_17 (by decide) (fun c9 => absurd c9 (fun c => c rfl)) (fun c_17 => ?_)
        refine lv_iconst (v := 1) hx hb dX2_bars_20 (by decide) ?_
        exact W.iret (v := 1) hx hb hr (fun t ht hW => ⟨_, rfl, by first | rfl | exact hy_cbar_z1 hwf | exact hy_cbar_z2 hwf hl1 | exact hy_cbar_3 hwf hl1 hl2 c_58 (Or.inl c_66) | exact hy_cbar_3 hwf hl1 hl2 c_58 (Or.inr c_74), ht⟩) (fun q h => nomatch h) dX2_bars_21
      | some q2 =>
        cases q2 with
        | zero =>
          have hl := lv_entry ([.ref n0, .int a1, .int a2, .int a3, .int a4, .int a5]) (n := 9) (Nat.le_of_ble_eq_true rfl)
          rw [lg_entry_eq]
          generalize (lg_sl ([.ref n0, .int a1, .int a2, .int a3, .int a4, .int a5]) ++ List.replicate (9 - (lg_sl ([.ref n0, .int a1, .int a2, .int a3, .int a4, .int a5])).length) Slot.unset).toArray = ls at hl ⊢
          have hl : lv_has ls 9 [(0, .ref n0), (1, .int a1), (2, .int a2), (3, .int a3), (4, .int a4), (5, .int a5)] := hl
          refine lv_aload_n hx hb dX2_bars_0 rfl (lv_at hl 0 rfl) ?_
          refine va_get (D := D) (ci := 2) (v := .ref bM) (C := RX2) (T := TX2) (N := 14) hx hb hts hinX2 hown hK hP 0 rfl rfl 1 (by decide) (hts (.fieldLink RX2 7 "HiveYardModel" "boxes" "[I") (by decide +kernel)) (fun _ h9 => h9) rfl dX2_bars_1 ?_
          refine lv_iload_n hx hb dX2_bars_4 rfl (lv_at hl 1 rfl) ?_
          refine va_iald hx hb hK hP 1 0 rfl rfl (hy_ok_in ok1) dX2_bars_5 ?_
          refine lv_topi (fun v9 e9 => ?_)
          obtain rfl : v9 = (nI r1) := e9.trans (by show hy_enc (hy_bx S a1.toNatClampNeg) = _; rw [ho1]; rfl)
          clear e9
          refine lv_iconst (v := (-1)) hx hb dX2_bars_6 (by decide) ?_
          refine lv_icmp_eq (tgt := 20) hx hb dX2_bars_7 (by decide) (fun c9 => absurd c9 (hy_nI_ne (by omega) (by decide))) (fun c_7 => ?_)
          refine lv_aload_n hx hb dX2_bars_10 rfl (lv_at hl 0 rfl) ?_
          refine va_get (D := D) (ci := 2) (v := .ref bM) (C := RX2) (T := TX2) (N := 14) hx hb hts hinX2 hown hK hP 0 rfl rfl 1 (by decide) (hts (.fieldLink RX2 7 "HiveYardModel" "boxes" "[I") (by decide +kernel)) (fun _ h9 => h9) rfl dX2_bars_11 ?_
          refine lv_iload_n hx hb dX2_bars_14 rfl (lv_at hl 3 rfl) ?_
          refine va_iald hx hb hK hP 1 0 rfl rfl (hy_ok_in ok3) dX2_bars_15 ?_
          refine lv_topi (fun v9 e9 => ?_)
          obtain rfl : v9 = (-2) := e9.trans (by show hy_enc (hy_bx S a3.toNatClampNeg) = _; rw [ho2]; rfl)
          clear e9
          refine lv_iconst (v := (-1)) hx hb dX2_bars_16 (by decide) ?_
          refine lv_icmp_ne (tgt := 22) hx hb dX2_bars_17 (by decide) (fun c_17 => ?_) (fun c9 => absurd c9 (by decide))
          refine lv_aload_n hx hb dX2_bars_22 rfl (lv_at hl 0 rfl) ?_
          refine lv_iload_n hx hb dX2_bars_23 rfl (lv_at hl 1 rfl) ?_
          refine vp_callSi (W.runV (As := [.int a1]) (rest := []) ⟨hx, hb, hml, hown, hts⟩ (c_X2_hasRow l D cI cJ cB n0 bM sM zM tM xM kM wM eM S th tk a1 ok1 (some (r1 + 1)) ho1 hwf) (cwV 1 hts gX2_bars_X2_hasRow rfl rfl rfl (by decide +kernel) ⟨Nat.le_of_ble_eq_true rfl, Nat.le_of_ble_eq_true rfl⟩) ⟨hy_J_blind, va_recv hK hP (ci := 2) (q0 := 0) rfl rfl, fun U hU hW => ⟨rfl, hy_J_at hU hW hP hK⟩⟩ rfl rfl hl.1 rfl (lv_room (Nat.le_of_ble_eq_true rfl)) dX2_bars_24 ⟨Nat.le_of_ble_eq_true rfl, Nat.le_of_ble_eq_true rfl⟩) (fun v9 e9 => ?_)
          subst e9
          refine lv_if_eq (tgt := 38) hx hb dX2_bars_27 (by decide) (fun c9 => absurd c9 (fun c => nomatch c)) (fun c_27 => ?_)
          refine lv_aload_n hx hb dX2_bars_30 rfl (lv_at hl 0 rfl) ?_
          refine lv_iload_n hx hb dX2_bars_31 rfl (lv_at hl 3 rfl) ?_
          refine vp_callSi (W.runV (As := [.int a3]) (rest := []) ⟨hx, hb, hml, hown, hts⟩ (c_X2_hasRow l D cI cJ cB n0 bM sM zM tM xM kM wM eM S th tk a3 ok3 (some 0) ho2 hwf) (cwV 1 hts gX2_bars_X2_hasRow rfl rfl rfl (by decide +kernel) ⟨Nat.le_of_ble_eq_true rfl, Nat.le_of_ble_eq_true rfl⟩) ⟨hy_J_blind, va_recv hK hP (ci := 2) (q0 := 0) rfl rfl, fun U hU hW => ⟨rfl, hy_J_at hU hW hP hK⟩⟩ rfl rfl hl.1 rfl (lv_room (Nat.le_of_ble_eq_true rfl)) dX2_bars_32 ⟨Nat.le_of_ble_eq_true rfl, Nat.le_of_ble_eq_true rfl⟩) (fun v9 e9 => ?_)
          subst e9
          refine lv_if_ne (tgt := 40) hx hb dX2_bars_35 (by decide) (fun c9 => absurd c9 (fun c => c rfl)) (fun c_35 => ?_)
          refine lv_iconst (v := 2) hx hb dX2_bars_38 (by decide) ?_
          exact W.iret (v := 2) hx hb hr (fun t ht hW => ⟨_, rfl, by first | rfl | exact hy_cbar_z1 hwf | exact hy_cbar_z2 hwf hl1 | exact hy_cbar_3 hwf hl1 hl2 c_58 (Or.inl c_66) | exact hy_cbar_3 hwf hl1 hl2 c_58 (Or.inr c_74), ht⟩) (fun q h => nomatch h) dX2_bars_39
        | succ r2 =>
          have hl2 := hwf.2.2.1 _ _ ho2
          have h300 := hwf.1
          have hl := lv_entry ([.ref n0, .int a1, .int a2, .int a3, .int a4, .int a5]) (n := 9) (Nat.le_of_ble_eq_true rfl)
          rw [lg_entry_eq]
          generalize (lg_sl ([.ref n0, .int a1, .int a2, .int a3, .int a4, .int a5]) ++ List.replicate (9 - (lg_sl ([.ref n0, .int a1, .int a2, .int a3, .int a4, .int a5])).length) Slot.unset).toArray = ls at hl ⊢
          have hl : lv_has ls 9 [(0, .ref n0), (1, .int a1), (2, .int a2), (3, .int a3), (4, .int a4), (5, .int a5)] := hl
          refine lv_aload_n hx hb dX2_bars_0 rfl (lv_at hl 0 rfl) ?_
          refine va_get (D := D) (ci := 2) (v := .ref bM) (C := RX2) (T := TX2) (N := 14) hx hb hts hinX2 hown hK hP 0 rfl rfl 1 (by decide) (hts (.fieldLink RX2 7 "HiveYardModel" "boxes" "[I") (by decide +kernel)) (fun _ h9 => h9) rfl dX2_bars_1 ?_
          refine lv_iload_n hx hb dX2_bars_4 rfl (lv_at hl 1 rfl) ?_
          refine va_iald hx hb hK hP 1 0 rfl rfl (hy_ok_in ok1) dX2_bars_5 ?_
          refine lv_topi (fun v9 e9 => ?_)
          obtain rfl : v9 = (nI r1) := e9.trans (by show hy_enc (hy_bx S a1.toNatClampNeg) = _; rw [ho1]; rfl)
          clear e9
          refine lv_iconst (v := (-1)) hx hb dX2_bars_6 (by decide) ?_
          refine lv_icmp_eq (tgt := 20) hx hb dX2_bars_7 (by decide) (fun c9 => absurd c9 (hy_nI_ne (by omega) (by decide))) (fun c_7 => ?_)
          refine lv_aload_n hx hb dX2_bars_10 rfl (lv_at hl 0 rfl) ?_
          refine va_get (D := D) (ci := 2) (v := .ref bM) (C := RX2) (T := TX2) (N := 14) hx hb hts hinX2 hown hK hP 0 rfl rfl 1 (by decide) (hts (.fieldLink RX2 7 "HiveYardModel" "boxes" "[I") (by decide +kernel)) (fun _ h9 => h9) rfl dX2_bars_11 ?_
          refine lv_iload_n hx hb dX2_bars_14 rfl (lv_at hl 3 rfl) ?_
          refine va_iald hx hb hK hP 1 0 rfl rfl (hy_ok_in ok3) dX2_bars_15 ?_
          refine lv_topi (fun v9 e9 => ?_)
          obtain rfl : v9 = (nI r2) := e9.trans (by show hy_enc (hy_bx S a3.toNatClampNeg) = _; rw [ho2]; rfl)
          clear e9
          refine lv_iconst (v := (-1)) hx hb dX2_bars_16 (by decide) ?_
          refine lv_icmp_ne (tgt := 22) hx hb dX2_bars_17 (by decide) (fun c_17 => ?_) (fun c9 => absurd c9 (hy_nI_ne (by omega) (by decide)))
          refine lv_aload_n hx hb dX2_bars_22 rfl (lv_at hl 0 rfl) ?_
          refine lv_iload_n hx hb dX2_bars_23 rfl (lv_at hl 1 rfl) ?_
          refine vp_callSi (W.runV (As := [.int a1]) (rest := []) ⟨hx, hb, hml, hown, hts⟩ (c_X2_hasRow l D cI cJ cB n0 bM sM zM tM xM kM wM eM S th tk a1 ok1 (some (r1 + 1)) ho1 hwf) (cwV 1 hts gX2_bars_X2_hasRow rfl rfl rfl (by decide +kernel) ⟨Nat.le_of_ble_eq_true rfl, Nat.le_of_ble_eq_true rfl⟩) ⟨hy_J_blind, va_recv hK hP (ci := 2) (q0 := 0) rfl rfl, fun U hU hW => ⟨rfl, hy_J_at hU hW hP hK⟩⟩ rfl rfl hl.1 rfl (lv_room (Nat.le_of_ble_eq_true rfl)) dX2_bars_24 ⟨Nat.le_of_ble_eq_true rfl, Nat.le_of_ble_eq_true rfl⟩) (fun v9 e9 => ?_)
          subst e9
          refine lv_if_eq (tgt := 38) hx hb dX2_bars_27 (by decide) (fun c9 => absurd c9 (fun c => nomatch c)) (fun c_27 => ?_)
          refine lv_aload_n hx hb dX2_bars_30 rfl (lv_at hl 0 rfl) ?_
          refine lv_iload_n hx hb dX2_bars_31 rfl (lv_at hl 3 rfl) ?_
          refine vp_callSi (W.runV (As := [.int a3]) (rest := []) ⟨hx, hb, hml, hown, hts⟩ (c_X2_hasRow l D cI cJ cB n0 bM sM zM tM xM kM wM eM S th tk a3 ok3 (some (r2 + 1)) ho2 hwf) (cwV 1 hts gX2_bars_X2_hasRow rfl rfl rfl (by decide +kernel) ⟨Nat.le_of_ble_eq_true rfl, Nat.le_of_ble_eq_true rfl⟩) ⟨hy_J_blind, va_recv hK hP (ci := 2) (q0 := 0) rfl rfl, fun U hU hW => ⟨rfl, hy_J_at hU hW hP hK⟩⟩ rfl rfl hl.1 rfl (lv_room (Nat.le_of_ble_eq_true rfl)) dX2_bars_32 ⟨Nat.le_of_ble_eq_true rfl, Nat.le_of_ble_eq_true rfl⟩) (fun v9 e9 => ?_)
          subst e9
          refine lv_if_ne (tgt := 40) hx hb dX2_bars_35 (by decide) (fun c_35 => ?_) (fun c9 => absurd c9 (fun c => nomatch c))
          refine lv_aload_n hx hb dX2_bars_40 rfl (lv_at hl 0 rfl) ?_
          refine lv_iload_n hx hb dX2_bars_41 rfl (lv_at hl 1 rfl) ?_
          refine vp_callSi (W.runV (As := [.int a1]) (rest := []) ⟨hx, hb, hml, hown, hts⟩ (c_X2_what l D cI cJ cB n0 bM sM zM tM xM kM wM eM S th tk a1 ok1 (some (r1 + 1)) ho1 hwf) (cwV 1 hts gX2_bars_X2_what rfl rfl rfl (by decide +kernel) ⟨Nat.le_of_ble_eq_true rfl, Nat.le_of_ble_eq_true rfl⟩) ⟨hy_J_blind, va_recv hK hP (ci := 2) (q0 := 0) rfl rfl, fun U hU hW => ⟨rfl, hy_J_at hU hW hP hK⟩⟩ rfl rfl hl.1 rfl (lv_room (Nat.le_of_ble_eq_true rfl)) dX2_bars_42 ⟨Nat.le_of_ble_eq_true rfl, Nat.le_of_ble_eq_true rfl⟩) (fun v9 e9 => ?_)
          subst e9
          refine lv_istore (lv' := [(6, .int (hy_sort S (some (r1 + 1)))), (0, .ref n0), (1, .int a1), (2, .int a2), (3, .int a3), (4, .int a4), (5, .int a5)]) hx hb dX2_bars_45 hl (by decide) rfl (fun ls hl => ?_)
          refine lv_aload_n hx hb dX2_bars_47 rfl (lv_at hl 1 rfl) ?_
          refine lv_iload_n hx hb dX2_bars_48 rfl (lv_at hl 4 rfl) ?_
          refine vp_callSi (W.runV (As := [.int a3]) (rest := []) ⟨hx, hb, hml, hown, hts⟩ (c_X2_what l D cI cJ cB n0 bM sM zM tM xM kM wM eM S th tk a3 ok3 (some (r2 + 1)) ho2 hwf) (cwV 1 hts gX2_bars_X2_what rfl rfl rfl (by decide +kernel) ⟨Nat.le_of_ble_eq_true rfl, Nat.le_of_ble_eq_true rfl⟩) ⟨hy_J_blind, va_recv hK hP (ci := 2) (q0 := 0) rfl rfl, fun U hU hW => ⟨rfl, hy_J_at hU hW hP hK⟩⟩ rfl rfl hl.1 rfl (lv_room (Nat.le_of_ble_eq_true rfl)) dX2_bars_49 ⟨Nat.le_of_ble_eq_true rfl, Nat.le_of_ble_eq_true rfl⟩) (fun v9 e9 => ?_)
          subst e9
          refine lv_istore (lv' := [(7, .int (hy_sort S (some (r2 + 1)))), (6, .int (hy_sort S (some (r1 + 1)))), (0, .ref n0), (1, .int a1), (2, .int a2), (3, .int a3), (4, .int a4), (5, .int a5)]) hx hb dX2_bars_52 hl (by decide) rfl (fun ls hl => ?_)
          refine lv_iload hx hb dX2_bars_54 (lv_at hl 1 rfl) ?_
          refine lv_iload hx hb dX2_bars_56 (lv_at hl 0 rfl) ?_
          refine lv_icmp_eq (tgt := 79) hx hb dX2_bars_58 (by decide) (fun c_58 => ?_) (fun c_58 => ?_)
          · -- 79
            refine lv_iload hx hb dX2_bars_79 (lv_at hl 7 rfl) ?_
            refine lv_if_lt (tgt := 125) hx hb dX2_bars_81 (by decide) (fun c_81 => ?_) (fun c_81 => ?_)
            · -- 125
              refine lv_iconst (v := 1) hx hb dX2_bars_125 (by decide) ?_
              refine lv_goto (tgt := 130) hx hb dX2_bars_126 (by decide) ?_
              refine lv_istore (lv' := [(8, .int 1), (7, .int (hy_sort S (some (r2 + 1)))), (6, .int (hy_sort S (some (r1 + 1)))), (0, .ref n0), (1, .int a1), (2, .int a2), (3, .int a3), (4, .int a4), (5, .int a5)]) hx hb dX2_bars_130 hl (by decide) rfl (fun ls hl => ?_)
              refine lv_iload hx hb dX2_bars_132 (lv_at hl 0 rfl) ?_
              refine lv_if_eq (tgt := 141) hx hb dX2_bars_134 (by decide) (fun c9 => absurd c9 (by decide)) (fun c_134 => ?_)
              refine lv_iconst (v := 4) hx hb dX2_bars_137 (by decide) ?_
              refine lv_goto (tgt := 142) hx hb dX2_bars_138 (by decide) ?_
              exact W.iret (v := 4) hx hb hr (fun t ht hW => ⟨_, rfl, by first | exact hy_cbar_n hwf hl1 hl2 (by first | exact Or.inl c_58 | exact Or.inr ⟨c_66, c_74⟩) c_81 | exact hy_cbar_a hwf hl1 hl2 (by first | exact Or.inl c_58 | exact Or.inr ⟨c_66, c_74⟩) c_81 c_101 | exact hy_cbar_b hwf hl1 hl2 (by first | exact Or.inl c_58 | exact Or.inr ⟨c_66, c_74⟩) c_81 c_101 c_122, ht⟩) (fun q h => nomatch h) dX2_bars_142
            · -- 84
              refine lv_iload_n hx hb dX2_bars_84 rfl (lv_at hl 4 rfl) ?_
              refine lv_iload hx hb dX2_bars_85 (lv_at hl 7 rfl) ?_
              refine lv_aload_n hx hb dX2_bars_87 rfl (lv_at hl 2 rfl) ?_
              refine va_get (D := D) (ci := 2) (v := .ref zM) (C := RX2) (T := TX2) (N := 14) hx hb hts hinX2 hown hK hP 0 rfl rfl 4 (by decide) (hts (.fieldLink RX2 16 "HiveYardModel" "sizes" "[I") (by decide +kernel)) (fun _ h9 => h9) rfl dX2_bars_88 ?_
              refine lv_aload_n hx hb dX2_bars_91 rfl (lv_at hl 2 rfl) ?_
              refine va_get (D := D) (ci := 2) (v := .ref bM) (C := RX2) (T := TX2) (N := 14) hx hb hts hinX2 hown hK hP 0 rfl rfl 1 (by decide) (hts (.fieldLink RX2 7 "HiveYardModel" "boxes" "[I") (by decide +kernel)) (fun _ h9 => h9) rfl dX2_bars_92 ?_
              refine lv_iload_n hx hb dX2_bars_95 rfl (lv_at hl 3 rfl) ?_
              refine va_iald hx hb hK hP 1 0 rfl rfl (hy_ok_in ok1) dX2_bars_96 ?_
              refine lv_topi (fun v9 e9 => ?_)
              obtain rfl : v9 = (nI r1) := e9.trans (by show hy_enc (hy_bx S a1.toNatClampNeg) = _; rw [ho1]; rfl)
              clear e9
              refine va_iald hx hb hK hP 3 0 rfl rfl (vp_in_nI (by omega) (by omega)) dX2_bars_97 ?_
              refine lv_topi (fun v9 e9 => ?_)
              obtain rfl : v9 = (nI (hy_le S (r1 + 1))) := e9.trans (by rw [nI_clamp (by omega)])
              clear e9
              refine vp_callSi (W.runS (As := [.int a2, .int a5, .int (nI (hy_le S (r1 + 1)))]) (rest := []) ⟨hx, hb, hml, hown, hts⟩ (c_X2_isOutside l a2 a5 (nI (hy_le S (r1 + 1)))) (va_cwS 3 hts gX2_bars_X2_isOutside rfl rfl rfl (by decide +kernel) ⟨Nat.le_of_ble_eq_true rfl, Nat.le_of_ble_eq_true rfl⟩) ⟨fun _ _ _ _ q => q, fun U hU hW => ⟨rfl, trivial⟩⟩ rfl rfl hl.1 rfl (lv_room (Nat.le_of_ble_eq_true rfl)) dX2_bars_98 ⟨Nat.le_of_ble_eq_true rfl, Nat.le_of_ble_eq_true rfl⟩) (fun v9 e9 => ?_)
              subst e9
              refine lv_if_ne (tgt := 125) hx hb dX2_bars_101 (by decide) (fun c_101 => ?_) (fun c_101 => ?_)
              · -- 125
                refine lv_iconst (v := 1) hx hb dX2_bars_125 (by decide) ?_
                refine lv_goto (tgt := 130) hx hb dX2_bars_126 (by decide) ?_
                refine lv_istore (lv' := [(8, .int 1), (7, .int (hy_sort S (some (r2 + 1)))), (6, .int (hy_sort S (some (r1 + 1)))), (0, .ref n0), (1, .int a1), (2, .int a2), (3, .int a3), (4, .int a4), (5, .int a5)]) hx hb dX2_bars_130 hl (by decide) rfl (fun ls hl => ?_)
                refine lv_iload hx hb dX2_bars_132 (lv_at hl 0 rfl) ?_
                refine lv_if_eq (tgt := 141) hx hb dX2_bars_134 (by decide) (fun c9 => absurd c9 (by decide)) (fun c_134 => ?_)
                refine lv_iconst (v := 4) hx hb dX2_bars_137 (by decide) ?_
                refine lv_goto (tgt := 142) hx hb dX2_bars_138 (by decide) ?_
                exact W.iret (v := 4) hx hb hr (fun t ht hW => ⟨_, rfl, by first | exact hy_cbar_n hwf hl1 hl2 (by first | exact Or.inl c_58 | exact Or.inr ⟨c_66, c_74⟩) c_81 | exact hy_cbar_a hwf hl1 hl2 (by first | exact Or.inl c_58 | exact Or.inr ⟨c_66, c_74⟩) c_81 c_101 | exact hy_cbar_b hwf hl1 hl2 (by first | exact Or.inl c_58 | exact Or.inr ⟨c_66, c_74⟩) c_81 c_101 c_122, ht⟩) (fun q h => nomatch h) dX2_bars_142
              · -- 104
                refine lv_iload hx hb dX2_bars_104 (lv_at hl 6 rfl) ?_
                refine lv_iload hx hb dX2_bars_106 (lv_at hl 7 rfl) ?_
                refine lv_aload_n hx hb dX2_bars_108 rfl (lv_at hl 2 rfl) ?_
                refine va_get (D := D) (ci := 2) (v := .ref zM) (C := RX2) (T := TX2) (N := 14) hx hb hts hinX2 hown hK hP 0 rfl rfl 4 (by decide) (hts (.fieldLink RX2 16 "HiveYardModel" "sizes" "[I") (by decide +kernel)) (fun _ h9 => h9) rfl dX2_bars_109 ?_
                refine lv_aload_n hx hb dX2_bars_112 rfl (lv_at hl 2 rfl) ?_
                refine va_get (D := D) (ci := 2) (v := .ref bM) (C := RX2) (T := TX2) (N := 14) hx hb hts hinX2 hown hK hP 0 rfl rfl 1 (by decide) (hts (.fieldLink RX2 7 "HiveYardModel" "boxes" "[I") (by decide +kernel)) (fun _ h9 => h9) rfl dX2_bars_113 ?_
                refine lv_iload_n hx hb dX2_bars_116 rfl (lv_at hl 5 rfl) ?_
                refine va_iald hx hb hK hP 1 0 rfl rfl (hy_ok_in ok3) dX2_bars_117 ?_
                refine lv_topi (fun v9 e9 => ?_)
                obtain rfl : v9 = (nI r2) := e9.trans (by show hy_enc (hy_bx S a3.toNatClampNeg) = _; rw [ho2]; rfl)
                clear e9
                refine va_iald hx hb hK hP 3 0 rfl rfl (vp_in_nI (by omega) (by omega)) dX2_bars_118 ?_
                refine lv_topi (fun v9 e9 => ?_)
                obtain rfl : v9 = (nI (hy_le S (r2 + 1))) := e9.trans (by rw [nI_clamp (by omega)])
                clear e9
                refine vp_callSi (W.runS (As := [.int a4, .int a5, .int (nI (hy_le S (r2 + 1)))]) (rest := []) ⟨hx, hb, hml, hown, hts⟩ (c_X2_isOutside l a4 a5 (nI (hy_le S (r2 + 1)))) (va_cwS 3 hts gX2_bars_X2_isOutside rfl rfl rfl (by decide +kernel) ⟨Nat.le_of_ble_eq_true rfl, Nat.le_of_ble_eq_true rfl⟩) ⟨fun _ _ _ _ q => q, fun U hU hW => ⟨rfl, trivial⟩⟩ rfl rfl hl.1 rfl (lv_room (Nat.le_of_ble_eq_true rfl)) dX2_bars_119 ⟨Nat.le_of_ble_eq_true rfl, Nat.le_of_ble_eq_true rfl⟩) (fun v9 e9 => ?_)
                subst e9
                refine lv_if_eq (tgt := 129) hx hb dX2_bars_122 (by decide) (fun c_122 => ?_) (fun c_122 => ?_)
                · -- 129
                  refine lv_iconst (v := 0) hx hb dX2_bars_129 (by decide) ?_
                  refine lv_istore (lv' := [(8, .int 0), (7, .int (hy_sort S (some (r2 + 1)))), (6, .int (hy_sort S (some (r1 + 1)))), (0, .ref n0), (1, .int a1), (2, .int a2), (3, .int a3), (4, .int a4), (5, .int a5)]) hx hb dX2_bars_130 hl (by decide) rfl (fun ls hl => ?_)
                  refine lv_iload hx hb dX2_bars_132 (lv_at hl 0 rfl) ?_
                  refine lv_if_eq (tgt := 141) hx hb dX2_bars_134 (by decide) (fun c_134 => ?_) (fun c9 => absurd c9 (fun c => c rfl))
                  refine lv_iconst (v := 0) hx hb dX2_bars_141 (by decide) ?_
                  exact W.iret (v := 0) hx hb hr (fun t ht hW => ⟨_, rfl, by exact hy_cbar_0 hwf hl1 hl2 (by first | exact Or.inl c_58 | exact Or.inr ⟨c_66, c_74⟩) c_81 c_101 c_122, ht⟩) (fun q h => nomatch h) dX2_bars_142
                · -- 125
                  refine lv_iconst (v := 1) hx hb dX2_bars_125 (by decide) ?_
                  refine lv_goto (tgt := 130) hx hb dX2_bars_126 (by decide) ?_
                  refine lv_istore (lv' := [(8, .int 1), (7, .int (hy_sort S (some (r2 + 1)))), (6, .int (hy_sort S (some (r1 + 1)))), (0, .ref n0), (1, .int a1), (2, .int a2), (3, .int a3), (4, .int a4), (5, .int a5)]) hx hb dX2_bars_130 hl (by decide) rfl (fun ls hl => ?_)
                  refine lv_iload hx hb dX2_bars_132 (lv_at hl 0 rfl) ?_
                  refine lv_if_eq (tgt := 141) hx hb dX2_bars_134 (by decide) (fun c9 => absurd c9 (by decide)) (fun c_134 => ?_)
                  refine lv_iconst (v := 4) hx hb dX2_bars_137 (by decide) ?_
                  refine lv_goto (tgt := 142) hx hb dX2_bars_138 (by decide) ?_
                  exact W.iret (v := 4) hx hb hr (fun t ht hW => ⟨_, rfl, by first | exact hy_cbar_n hwf hl1 hl2 (by first | exact Or.inl c_58 | exact Or.inr ⟨c_66, c_74⟩) c_81 | exact hy_cbar_a hwf hl1 hl2 (by first | exact Or.inl c_58 | exact Or.inr ⟨c_66, c_74⟩) c_81 c_101 | exact hy_cbar_b hwf hl1 hl2 (by first | exact Or.inl c_58 | exact Or.inr ⟨c_66, c_74⟩) c_81 c_101 c_122, ht⟩) (fun q h => nomatch h) dX2_bars_142
          · -- 61
            refine lv_iload hx hb dX2_bars_61 (lv_at hl 1 rfl) ?_
            refine vp_callSi (W.runS (As := [.int (hy_sort S (some (r1 + 1)))]) (rest := []) ⟨hx, hb, hml, hown, hts⟩ (c_X2_isOfCombs l (hy_sort S (some (r1 + 1)))) (va_cwS 1 hts gX2_bars_X2_isOfCombs rfl rfl rfl (by decide +kernel) ⟨Nat.le_of_ble_eq_true rfl, Nat.le_of_ble_eq_true rfl⟩) ⟨fun _ _ _ _ q => q, fun U hU hW => ⟨rfl, trivial⟩⟩ rfl rfl hl.1 rfl (lv_room (Nat.le_of_ble_eq_true rfl)) dX2_bars_63 ⟨Nat.le_of_ble_eq_true rfl, Nat.le_of_ble_eq_true rfl⟩) (fun v9 e9 => ?_)
            subst e9
            refine lv_if_eq (tgt := 77) hx hb dX2_bars_66 (by decide) (fun c_66 => ?_) (fun c_66 => ?_)
            · -- 77
              refine lv_iconst (v := 3) hx hb dX2_bars_77 (by decide) ?_
              exact W.iret (v := 3) hx hb hr (fun t ht hW => ⟨_, rfl, by first | rfl | exact hy_cbar_z1 hwf | exact hy_cbar_z2 hwf hl1 | exact hy_cbar_3 hwf hl1 hl2 c_58 (Or.inl c_66) | exact hy_cbar_3 hwf hl1 hl2 c_58 (Or.inr c_74), ht⟩) (fun q h => nomatch h) dX2_bars_78
            · -- 69
              refine lv_iload hx hb dX2_bars_69 (lv_at hl 0 rfl) ?_
              refine vp_callSi (W.runS (As := [.int (hy_sort S (some (r2 + 1)))]) (rest := []) ⟨hx, hb, hml, hown, hts⟩ (c_X2_isOfCombs l (hy_sort S (some (r2 + 1)))) (va_cwS 1 hts gX2_bars_X2_isOfCombs rfl rfl rfl (by decide +kernel) ⟨Nat.le_of_ble_eq_true rfl, Nat.le_of_ble_eq_true rfl⟩) ⟨fun _ _ _ _ q => q, fun U hU hW => ⟨rfl, trivial⟩⟩ rfl rfl hl.1 rfl (lv_room (Nat.le_of_ble_eq_true rfl)) dX2_bars_71 ⟨Nat.le_of_ble_eq_true rfl, Nat.le_of_ble_eq_true rfl⟩) (fun v9 e9 => ?_)
              subst e9
              refine lv_if_ne (tgt := 79) hx hb dX2_bars_74 (by decide) (fun c_74 => ?_) (fun c_74 => ?_)
              · -- 79
                refine lv_iload hx hb dX2_bars_79 (lv_at hl 7 rfl) ?_
                refine lv_if_lt (tgt := 125) hx hb dX2_bars_81 (by decide) (fun c_81 => ?_) (fun c_81 => ?_)
                · -- 125
                  refine lv_iconst (v := 1) hx hb dX2_bars_125 (by decide) ?_
                  refine lv_goto (tgt := 130) hx hb dX2_bars_126 (by decide) ?_
                  refine lv_istore (lv' := [(8, .int 1), (7, .int (hy_sort S (some (r2 + 1)))), (6, .int (hy_sort S (some (r1 + 1)))), (0, .ref n0), (1, .int a1), (2, .int a2), (3, .int a3), (4, .int a4), (5, .int a5)]) hx hb dX2_bars_130 hl (by decide) rfl (fun ls hl => ?_)
                  refine lv_iload hx hb dX2_bars_132 (lv_at hl 0 rfl) ?_
                  refine lv_if_eq (tgt := 141) hx hb dX2_bars_134 (by decide) (fun c9 => absurd c9 (by decide)) (fun c_134 => ?_)
                  refine lv_iconst (v := 4) hx hb dX2_bars_137 (by decide) ?_
                  refine lv_goto (tgt := 142) hx hb dX2_bars_138 (by decide) ?_
                  exact W.iret (v := 4) hx hb hr (fun t ht hW => ⟨_, rfl, by first | exact hy_cbar_n hwf hl1 hl2 (by first | exact Or.inl c_58 | exact Or.inr ⟨c_66, c_74⟩) c_81 | exact hy_cbar_a hwf hl1 hl2 (by first | exact Or.inl c_58 | exact Or.inr ⟨c_66, c_74⟩) c_81 c_101 | exact hy_cbar_b hwf hl1 hl2 (by first | exact Or.inl c_58 | exact Or.inr ⟨c_66, c_74⟩) c_81 c_101 c_122, ht⟩) (fun q h => nomatch h) dX2_bars_142
                · -- 84
                  refine lv_iload_n hx hb dX2_bars_84 rfl (lv_at hl 4 rfl) ?_
                  refine lv_iload hx hb dX2_bars_85 (lv_at hl 7 rfl) ?_
                  refine lv_aload_n hx hb dX2_bars_87 rfl (lv_at hl 2 rfl) ?_
                  refine va_get (D := D) (ci := 2) (v := .ref zM) (C := RX2) (T := TX2) (N := 14) hx hb hts hinX2 hown hK hP 0 rfl rfl 4 (by decide) (hts (.fieldLink RX2 16 "HiveYardModel" "sizes" "[I") (by decide +kernel)) (fun _ h9 => h9) rfl dX2_bars_88 ?_
                  refine lv_aload_n hx hb dX2_bars_91 rfl (lv_at hl 2 rfl) ?_
                  refine va_get (D := D) (ci := 2) (v := .ref bM) (C := RX2) (T := TX2) (N := 14) hx hb hts hinX2 hown hK hP 0 rfl rfl 1 (by decide) (hts (.fieldLink RX2 7 "HiveYardModel" "boxes" "[I") (by decide +kernel)) (fun _ h9 => h9) rfl dX2_bars_92 ?_
                  refine lv_iload_n hx hb dX2_bars_95 rfl (lv_at hl 3 rfl) ?_
                  refine va_iald hx hb hK hP 1 0 rfl rfl (hy_ok_in ok1) dX2_bars_96 ?_
                  refine lv_topi (fun v9 e9 => ?_)
                  obtain rfl : v9 = (nI r1) := e9.trans (by show hy_enc (hy_bx S a1.toNatClampNeg) = _; rw [ho1]; rfl)
                  clear e9
                  refine va_iald hx hb hK hP 3 0 rfl rfl (vp_in_nI (by omega) (by omega)) dX2_bars_97 ?_
                  refine lv_topi (fun v9 e9 => ?_)
                  obtain rfl : v9 = (nI (hy_le S (r1 + 1))) := e9.trans (by rw [nI_clamp (by omega)])
                  clear e9
                  refine vp_callSi (W.runS (As := [.int a2, .int a5, .int (nI (hy_le S (r1 + 1)))]) (rest := []) ⟨hx, hb, hml, hown, hts⟩ (c_X2_isOutside l a2 a5 (nI (hy_le S (r1 + 1)))) (va_cwS 3 hts gX2_bars_X2_isOutside rfl rfl rfl (by decide +kernel) ⟨Nat.le_of_ble_eq_true rfl, Nat.le_of_ble_eq_true rfl⟩) ⟨fun _ _ _ _ q => q, fun U hU hW => ⟨rfl, trivial⟩⟩ rfl rfl hl.1 rfl (lv_room (Nat.le_of_ble_eq_true rfl)) dX2_bars_98 ⟨Nat.le_of_ble_eq_true rfl, Nat.le_of_ble_eq_true rfl⟩) (fun v9 e9 => ?_)
                  subst e9
                  refine lv_if_ne (tgt := 125) hx hb dX2_bars_101 (by decide) (fun c_101 => ?_) (fun c_101 => ?_)
                  · -- 125
                    refine lv_iconst (v := 1) hx hb dX2_bars_125 (by decide) ?_
                    refine lv_goto (tgt := 130) hx hb dX2_bars_126 (by decide) ?_
                    refine lv_istore (lv' := [(8, .int 1), (7, .int (hy_sort S (some (r2 + 1)))), (6, .int (hy_sort S (some (r1 + 1)))), (0, .ref n0), (1, .int a1), (2, .int a2), (3, .int a3), (4, .int a4), (5, .int a5)]) hx hb dX2_bars_130 hl (by decide) rfl (fun ls hl => ?_)
                    refine lv_iload hx hb dX2_bars_132 (lv_at hl 0 rfl) ?_
                    refine lv_if_eq (tgt := 141) hx hb dX2_bars_134 (by decide) (fun c9 => absurd c9 (by decide)) (fun c_134 => ?_)
                    refine lv_iconst (v := 4) hx hb dX2_bars_137 (by decide) ?_
                    refine lv_goto (tgt := 142) hx hb dX2_bars_138 (by decide) ?_
                    exact W.iret (v := 4) hx hb hr (fun t ht hW => ⟨_, rfl, by first | exact hy_cbar_n hwf hl1 hl2 (by first | exact Or.inl c_58 | exact Or.inr ⟨c_66, c_74⟩) c_81 | exact hy_cbar_a hwf hl1 hl2 (by first | exact Or.inl c_58 | exact Or.inr ⟨c_66, c_74⟩) c_81 c_101 | exact hy_cbar_b hwf hl1 hl2 (by first | exact Or.inl c_58 | exact Or.inr ⟨c_66, c_74⟩) c_81 c_101 c_122, ht⟩) (fun q h => nomatch h) dX2_bars_142
                  · -- 104
                    refine lv_iload hx hb dX2_bars_104 (lv_at hl 6 rfl) ?_
                    refine lv_iload hx hb dX2_bars_106 (lv_at hl 7 rfl) ?_
                    refine lv_aload_n hx hb dX2_bars_108 rfl (lv_at hl 2 rfl) ?_
                    refine va_get (D := D) (ci := 2) (v := .ref zM) (C := RX2) (T := TX2) (N := 14) hx hb hts hinX2 hown hK hP 0 rfl rfl 4 (by decide) (hts (.fieldLink RX2 16 "HiveYardModel" "sizes" "[I") (by decide +kernel)) (fun _ h9 => h9) rfl dX2_bars_109 ?_
                    refine lv_aload_n hx hb dX2_bars_112 rfl (lv_at hl 2 rfl) ?_
                    refine va_get (D := D) (ci := 2) (v := .ref bM) (C := RX2) (T := TX2) (N := 14) hx hb hts hinX2 hown hK hP 0 rfl rfl 1 (by decide) (hts (.fieldLink RX2 7 "HiveYardModel" "boxes" "[I") (by decide +kernel)) (fun _ h9 => h9) rfl dX2_bars_113 ?_
                    refine lv_iload_n hx hb dX2_bars_116 rfl (lv_at hl 5 rfl) ?_
                    refine va_iald hx hb hK hP 1 0 rfl rfl (hy_ok_in ok3) dX2_bars_117 ?_
                    refine lv_topi (fun v9 e9 => ?_)
                    obtain rfl : v9 = (nI r2) := e9.trans (by show hy_enc (hy_bx S a3.toNatClampNeg) = _; rw [ho2]; rfl)
                    clear e9
                    refine va_iald hx hb hK hP 3 0 rfl rfl (vp_in_nI (by omega) (by omega)) dX2_bars_118 ?_
                    refine lv_topi (fun v9 e9 => ?_)
                    obtain rfl : v9 = (nI (hy_le S (r2 + 1))) := e9.trans (by rw [nI_clamp (by omega)])
                    clear e9
                    refine vp_callSi (W.runS (As := [.int a4, .int a5, .int (nI (hy_le S (r2 + 1)))]) (rest := []) ⟨hx, hb, hml, hown, hts⟩ (c_X2_isOutside l a4 a5 (nI (hy_le S (r2 + 1)))) (va_cwS 3 hts gX2_bars_X2_isOutside rfl rfl rfl (by decide +kernel) ⟨Nat.le_of_ble_eq_true rfl, Nat.le_of_ble_eq_true rfl⟩) ⟨fun _ _ _ _ q => q, fun U hU hW => ⟨rfl, trivial⟩⟩ rfl rfl hl.1 rfl (lv_room (Nat.le_of_ble_eq_true rfl)) dX2_bars_119 ⟨Nat.le_of_ble_eq_true rfl, Nat.le_of_ble_eq_true rfl⟩) (fun v9 e9 => ?_)
                    subst e9
                    refine lv_if_eq (tgt := 129) hx hb dX2_bars_122 (by decide) (fun c_122 => ?_) (fun c_122 => ?_)
                    · -- 129
                      refine lv_iconst (v := 0) hx hb dX2_bars_129 (by decide) ?_
                      refine lv_istore (lv' := [(8, .int 0), (7, .int (hy_sort S (some (r2 + 1)))), (6, .int (hy_sort S (some (r1 + 1)))), (0, .ref n0), (1, .int a1), (2, .int a2), (3, .int a3), (4, .int a4), (5, .int a5)]) hx hb dX2_bars_130 hl (by decide) rfl (fun ls hl => ?_)
                      refine lv_iload hx hb dX2_bars_132 (lv_at hl 0 rfl) ?_
                      refine lv_if_eq (tgt := 141) hx hb dX2_bars_134 (by decide) (fun c_134 => ?_) (fun c9 => absurd c9 (fun c => c rfl))
                      refine lv_iconst (v := 0) hx hb dX2_bars_141 (by decide) ?_
                      exact W.iret (v := 0) hx hb hr (fun t ht hW => ⟨_, rfl, by exact hy_cbar_0 hwf hl1 hl2 (by first | exact Or.inl c_58 | exact Or.inr ⟨c_66, c_74⟩) c_81 c_101 c_122, ht⟩) (fun q h => nomatch h) dX2_bars_142
                    · -- 125
                      refine lv_iconst (v := 1) hx hb dX2_bars_125 (by decide) ?_
                      refine lv_goto (tgt := 130) hx hb dX2_bars_126 (by decide) ?_
                      refine lv_istore (lv' := [(8, .int 1), (7, .int (hy_sort S (some (r2 + 1)))), (6, .int (hy_sort S (some (r1 + 1)))), (0, .ref n0), (1, .int a1), (2, .int a2), (3, .int a3), (4, .int a4), (5, .int a5)]) hx hb dX2_bars_130 hl (by decide) rfl (fun ls hl => ?_)
                      refine lv_iload hx hb dX2_bars_132 (lv_at hl 0 rfl) ?_
                      refine lv_if_eq (tgt := 141) hx hb dX2_bars_134 (by decide) (fun c9 => absurd c9 (by decide)) (fun c_134 => ?_)
                      refine lv_iconst (v := 4) hx hb dX2_bars_137 (by decide) ?_
                      refine lv_goto (tgt := 142) hx hb dX2_bars_138 (by decide) ?_
                      exact W.iret (v := 4) hx hb hr (fun t ht hW => ⟨_, rfl, by first | exact hy_cbar_n hwf hl1 hl2 (by first | exact Or.inl c_58 | exact Or.inr ⟨c_66, c_74⟩) c_81 | exact hy_cbar_a hwf hl1 hl2 (by first | exact Or.inl c_58 | exact Or.inr ⟨c_66, c_74⟩) c_81 c_101 | exact hy_cbar_b hwf hl1 hl2 (by first | exact Or.inl c_58 | exact Or.inr ⟨c_66, c_74⟩) c_81 c_101 c_122, ht⟩) (fun q h => nomatch h) dX2_bars_142
              · -- 77
                refine lv_iconst (v := 3) hx hb dX2_bars_77 (by decide) ?_
                exact W.iret (v := 3) hx hb hr (fun t ht hW => ⟨_, rfl, by first | rfl | exact hy_cbar_z1 hwf | exact hy_cbar_z2 hwf hl1 | exact hy_cbar_3 hwf hl1 hl2 c_58 (Or.inl c_66) | exact hy_cbar_3 hwf hl1 hl2 c_58 (Or.inr c_74), ht⟩) (fun q h => nomatch h) dX2_bars_78
set_option maxHeartbeats 4000000 in
set_option maxRecDepth 100000 in
theorem c_X2_told (l : Launch) (D : va_G) (cI cJ cB : ClassId) (n0 bM sM zM tM xM kM wM eM : Nat) (S : hy_S) (th : Int32) (tk : Nat → Int64) (sz : Nat) (a1 : Int32) (hin : vp_in a1 6) : Met l yX2_told wsX2_told ({ frames := 0, cells := 0, slots := 0, locals := 0 }) (va_Pc [.ref n0, .int a1] (hy_JM D cI cJ cB n0 bM sM zM tM xM kM wM eM S th tk sz)) (va_Qi (fun (r9 : Int32) (_ : Unit) => r9 = a1) (fun _ => hy_AtM D cI cJ cB n0 bM sM zM tM xM kM wM eM (hy_told S a1) th (va_A (hy_M cI cJ n0 bM sM zM tM xM kM wM eM S th tk) sz)) (va_A (hy_M cI cJ n0 bM sM zM tM xM kM wM eM S th tk) sz)) 0 0 (va_A (hy_M cI cJ n0 bM sM zM tM xM kM wM eM S th tk) sz) := by
  refine Met.ofW (cc := cX2_told) (maxL := 2) (ret := (some .int)) (by decide) rfl ?_
  intro p e s m args below meth c s₁ B hml hv
  obtain ⟨rfl, hsz, ⟨hP, hK⟩, hD0⟩ := hv
  have hx := B.exec
  have hb := B.bytes
  have hr := B.returns
  have hts := atoms_spec (ws := wsX2_told) B.pre
  have hown : s.vm.findClass RX2 = some m.cls := findClass_of_methodNamed B.named
  have hlocks := B.notSynchronized
  subst hsz
  have hD := hD0.self (sz := s.heap.size)
  generalize hAe : va_A (hy_M cI cJ n0 bM sM zM tM xM kM wM eM S th tk) s.heap.size = A at hD ⊢
  have hA : ∀ q : Nat, s.heap.size ≤ q → A q := fun q h => by rw [← hAe]; exact Or.inr h
  have hS : va_S A s.heap s.heap [] := va_S.rf
  have hinX2 : ∀ w ∈ wsX20, w ∈ wsX2_told := by decide +kernel
  have hl := lv_entry ([.ref n0, .int a1]) (n := 2) (Nat.le_of_ble_eq_true rfl)
  rw [lg_entry_eq]
  generalize (lg_sl ([.ref n0, .int a1]) ++ List.replicate (2 - (lg_sl ([.ref n0, .int a1])).length) Slot.unset).toArray = ls at hl ⊢
  have hl : lv_has ls 2 [(0, .ref n0), (1, .int a1)] := hl
  refine lv_aload_n hx hb dX2_told_0 rfl (lv_at hl 0 rfl) ?_
  refine lv_dup hx hb dX2_told_1 rfl ?_
  refine va_get (D := D) (ci := 2) (v := .int (hy_mo S)) (C := RX2) (T := TX2) (N := 14) hx hb hts hinX2 hown hK hP 0 rfl rfl 11 (by decide) (hts (.fieldLink RX2 90 "HiveYardModel" "moves" "I") (by decide +kernel)) (fun _ h9 => h9) rfl dX2_told_2 ?_
  refine lv_iconst (v := 1) hx hb dX2_told_5 (by decide) ?_
  refine lv_iadd hx hb dX2_told_6 ?_
  refine va_put (D := D) (ci := 2) (v := .int ((hy_mo S) + 1)) (ty := .int) (C := RX2) (T := TX2) (N := 14) hx hb hts hinX2 tyX2 tyX2_ok nmX2 hown hK hP hD hS 0 rfl rfl 11 (by decide) (hts (.fieldLink RX2 90 "HiveYardModel" "moves" "I") (by decide +kernel)) (fun _ h9 => h9) rfl (by decide +kernel) rfl rfl (Nat.le_of_ble_eq_true rfl) dX2_told_7 (fun H locs hP hD hS => ?_)
  have hP : va_P D vwCl (hy_M cI cJ n0 bM sM zM tM xM kM wM eM (hy_umo S ((hy_mo S) + 1)) th tk) H := by rw [← hy_M_umo]; exact hP
  have hD : va_D A (hy_M cI cJ n0 bM sM zM tM xM kM wM eM (hy_umo S ((hy_mo S) + 1)) th tk) := by rw [← hy_M_umo]; exact hD
  refine lv_aload_n hx hb dX2_told_10 rfl (lv_at hl 0 rfl) ?_
  refine va_get (D := D) (ci := 2) (v := .ref eM) (C := RX2) (T := TX2) (N := 14) hx hb hts hinX2 hown hK hP 0 rfl rfl 13 (by decide) (hts (.fieldLink RX2 32 "HiveYardModel" "ended" "[I") (by decide +kernel)) (fun _ h9 => h9) rfl dX2_told_11 ?_
  refine lv_iload_n hx hb dX2_told_14 rfl (lv_at hl 1 rfl) ?_
  refine lv_dup2_11 hx hb dX2_told_15 rfl rfl ?_
  refine va_iald hx hb hK hP 8 0 rfl rfl (hin) dX2_told_16 ?_
  refine lv_iconst (v := 1) hx hb dX2_told_17 (by decide) ?_
  refine lv_iadd hx hb dX2_told_18 ?_
  refine va_iast hx hb hK hP hD hS 8 0 rfl rfl (hin) dX2_told_19 (fun H locs hP hD hS => ?_)
  have hP : va_P D vwCl (hy_M cI cJ n0 bM sM zM tM xM kM wM eM (hy_uen (hy_umo S ((hy_mo S) + 1)) (upd (hy_en S) a1.toNatClampNeg (((hy_en S) a1.toNatClampNeg) + 1))) th tk) H := by rw [← hy_M_uen]; exact hP
  have hD : va_D A (hy_M cI cJ n0 bM sM zM tM xM kM wM eM (hy_uen (hy_umo S ((hy_mo S) + 1)) (upd (hy_en S) a1.toNatClampNeg (((hy_en S) a1.toNatClampNeg) + 1))) th tk) := by rw [← hy_M_uen]; exact hD
  refine lv_aload_n hx hb dX2_told_20 rfl (lv_at hl 0 rfl) ?_
  refine lv_dup hx hb dX2_told_21 rfl ?_
  refine va_get (D := D) (ci := 2) (v := .int (hy_pm S)) (C := RX2) (T := TX2) (N := 14) hx hb hts hinX2 hown hK hP 0 rfl rfl 12 (by decide) (hts (.fieldLink RX2 93 "HiveYardModel" "allMoved" "I") (by decide +kernel)) (fun _ h9 => h9) rfl dX2_told_22 ?_
  refine lv_aload_n hx hb dX2_told_25 rfl (lv_at hl 0 rfl) ?_
  refine va_get (D := D) (ci := 2) (v := .int (hy_lm S)) (C := RX2) (T := TX2) (N := 14) hx hb hts hinX2 hown hK hP 0 rfl rfl 10 (by decide) (hts (.fieldLink RX2 83 "HiveYardModel" "moved" "I") (by decide +kernel)) (fun _ h9 => h9) rfl dX2_told_26 ?_
  refine lv_iadd hx hb dX2_told_29 ?_
  refine va_put (D := D) (ci := 2) (v := .int ((hy_pm S) + (hy_lm S))) (ty := .int) (C := RX2) (T := TX2) (N := 14) hx hb hts hinX2 tyX2 tyX2_ok nmX2 hown hK hP hD hS 0 rfl rfl 12 (by decide) (hts (.fieldLink RX2 93 "HiveYardModel" "allMoved" "I") (by decide +kernel)) (fun _ h9 => h9) rfl (by decide +kernel) rfl rfl (Nat.le_of_ble_eq_true rfl) dX2_told_30 (fun H locs hP hD hS => ?_)
  have hP : va_P D vwCl (hy_M cI cJ n0 bM sM zM tM xM kM wM eM (hy_upm (hy_uen (hy_umo S ((hy_mo S) + 1)) (upd (hy_en S) a1.toNatClampNeg (((hy_en S) a1.toNatClampNeg) + 1))) ((hy_pm S) + (hy_lm S))) th tk) H := by rw [← hy_M_upm]; exact hP
  have hD : va_D A (hy_M cI cJ n0 bM sM zM tM xM kM wM eM (hy_upm (hy_uen (hy_umo S ((hy_mo S) + 1)) (upd (hy_en S) a1.toNatClampNeg (((hy_en S) a1.toNatClampNeg) + 1))) ((hy_pm S) + (hy_lm S))) th tk) := by rw [← hy_M_upm]; exact hD
  refine lv_iload_n hx hb dX2_told_33 rfl (lv_at hl 1 rfl) ?_
  have eS : (hy_M cI cJ n0 bM sM zM tM xM kM wM eM (hy_upm (hy_uen (hy_umo S ((hy_mo S) + 1)) (upd (hy_en S) a1.toNatClampNeg (((hy_en S) a1.toNatClampNeg) + 1))) ((hy_pm S) + (hy_lm S))) th tk) = (hy_M cI cJ n0 bM sM zM tM xM kM wM eM (hy_told S a1) th tk) := rfl
  have hPz : va_P D vwCl (hy_M cI cJ n0 bM sM zM tM xM kM wM eM (hy_told S a1) th tk) H := by rw [← eS]; exact hP
  have hDz : va_D A (hy_M cI cJ n0 bM sM zM tM xM kM wM eM (hy_told S a1) th tk) := by rw [← eS]; exact hD
  exact W.iret (v := a1) hx hb hr (fun t ht hW => ⟨⟨_, (), rfl, rfl, tk, by rw [ht]; exact hPz, va_K.moved hW.alike hK, hDz⟩, hS.F ht⟩) hS.2.2 dX2_told_34
