/-! THE REFERENCE: goes. Rows laid by gen.py, mgoes.py. -/
set_option maxHeartbeats 4000000 in
set_option maxRecDepth 100000 in
theorem c_X2_goes (l : Launch) (D : va_G) (cI cJ cB : ClassId) (n0 bM sM zM tM xM kM wM eM : Nat) (S : hy_S) (th : Int32) (tk : Nat → Int64) (hwf : hy_wf S) (sz : Nat) (a1 a2 a3 a4 a5 : Int32) (ok1 : hy_ok a1) (ok3 : hy_ok a3) : Met l yX2_goes wsX2_goes ({ frames := 2, cells := 0, slots := 0, locals := 50 }) (va_Pc [.ref n0, .int a1, .int a2, .int a3, .int a4, .int a5] (hy_JM D cI cJ cB n0 bM sM zM tM xM kM wM eM S th tk sz)) (va_Qi (fun (r9 : Int32) (_ : Unit) => r9 = (hy_C S a1 a2 a3 a4 a5).1) (fun _ => hy_AtM D cI cJ cB n0 bM sM zM tM xM kM wM eM (hy_gS S a1 a2 a3 a4 a5) th (va_A (hy_M cI cJ n0 bM sM zM tM xM kM wM eM S th tk) sz)) (va_A (hy_M cI cJ n0 bM sM zM tM xM kM wM eM S th tk) sz)) 0 0 (va_A (hy_M cI cJ n0 bM sM zM tM xM kM wM eM S th tk) sz) := by
  refine Met.ofW (cc := cX2_goes) (maxL := 12) (ret := (some .int)) (by decide) rfl ?_
  intro p e s m args below meth c s₁ B hml hv
  obtain ⟨rfl, hsz, ⟨hP, hK⟩, hD0⟩ := hv
  have hx := B.exec
  have hb := B.bytes
  have hr := B.returns
  have hts := atoms_spec (ws := wsX2_goes) B.pre
  have hown : s.vm.findClass RX2 = some m.cls := findClass_of_methodNamed B.named
  have hlocks := B.notSynchronized
  subst hsz
  have hD := hD0.self (sz := s.heap.size)
  generalize hAe : va_A (hy_M cI cJ n0 bM sM zM tM xM kM wM eM S th tk) s.heap.size = A at hD ⊢
  have hA : ∀ q : Nat, s.heap.size ≤ q → A q := fun q h => by rw [← hAe]; exact Or.inr h
  have hS : va_S A s.heap s.heap [] := va_S.rf
  have hinX2 : ∀ w ∈ wsX20, w ∈ wsX2_goes := by decide +kernel
  have hl := lv_entry ([.ref n0, .int a1, .int a2, .int a3, .int a4, .int a5]) (n := 12) (Nat.le_of_ble_eq_true rfl)
  rw [lg_entry_eq]
  generalize (lg_sl ([.ref n0, .int a1, .int a2, .int a3, .int a4, .int a5]) ++ List.replicate (12 - (lg_sl ([.ref n0, .int a1, .int a2, .int a3, .int a4, .int a5])).length) Slot.unset).toArray = ls at hl ⊢
  have hl : lv_has ls 12 [(0, .ref n0), (1, .int a1), (2, .int a2), (3, .int a3), (4, .int a4), (5, .int a5)] := hl
  refine lv_aload_n hx hb dX2_goes_0 rfl (lv_at hl 0 rfl) ?_
  refine lv_iconst (v := 0) hx hb dX2_goes_1 (by decide) ?_
  refine va_put (D := D) (ci := 2) (v := .int 0) (ty := .int) (C := RX2) (T := TX2) (N := 14) hx hb hts hinX2 tyX2 tyX2_ok nmX2 hown hK hP hD hS 0 rfl rfl 10 (by decide) (hts (.fieldLink RX2 83 "HiveYardModel" "moved" "I") (by decide +kernel)) (fun _ h9 => h9) rfl (by decide +kernel) rfl rfl (Nat.le_of_ble_eq_true rfl) dX2_goes_2 (fun H locs hP hD hS => ?_)
  have hP : va_P D vwCl (hy_M cI cJ n0 bM sM zM tM xM kM wM eM (hy_ulm S 0) th tk) H := by rw [← hy_M_ulm]; exact hP
  have hD : va_D A (hy_M cI cJ n0 bM sM zM tM xM kM wM eM (hy_ulm S 0) th tk) := by rw [← hy_M_ulm]; exact hD
  refine lv_aload_n hx hb dX2_goes_5 rfl (lv_at hl 0 rfl) ?_
  refine lv_iload_n hx hb dX2_goes_6 rfl (lv_at hl 1 rfl) ?_
  refine lv_iload_n hx hb dX2_goes_7 rfl (lv_at hl 2 rfl) ?_
  refine lv_iload_n hx hb dX2_goes_8 rfl (lv_at hl 3 rfl) ?_
  refine lv_iload hx hb dX2_goes_9 (lv_at hl 4 rfl) ?_
  refine lv_iload hx hb dX2_goes_11 (lv_at hl 5 rfl) ?_
  refine vp_callSi (W.runV (As := [.int a1, .int a2, .int a3, .int a4, .int a5]) (rest := []) ⟨hx, hb, hml, hown, hts⟩ (c_X2_bars l D cI cJ cB n0 bM sM zM tM xM kM wM eM (hy_ulm S 0) th tk a1 a2 a3 a4 a5 ok1 ok3 hwf) (cwV 5 hts gX2_goes_X2_bars rfl rfl rfl (by decide +kernel) ⟨Nat.le_of_ble_eq_true rfl, Nat.le_of_ble_eq_true rfl⟩) ⟨hy_J_blind, va_recv hK hP (ci := 2) (q0 := 0) rfl rfl, fun U hU hW => ⟨rfl, hy_J_at hU hW hP hK⟩⟩ rfl rfl hl.1 rfl (lv_room (Nat.le_of_ble_eq_true rfl)) dX2_goes_13 ⟨Nat.le_of_ble_eq_true rfl, Nat.le_of_ble_eq_true rfl⟩) (fun v9 e9 => ?_)
  obtain rfl : v9 = hy_cbar S (hy_bx S a1.toNatClampNeg) (hy_bx S a3.toNatClampNeg) a2 a4 a5 := e9
  refine lv_istore (lv' := [(6, .int (hy_cbar S (hy_bx S a1.toNatClampNeg) (hy_bx S a3.toNatClampNeg) a2 a4 a5)), (0, .ref n0), (1, .int a1), (2, .int a2), (3, .int a3), (4, .int a4), (5, .int a5)]) hx hb dX2_goes_16 hl (by decide) rfl (fun ls hl => ?_)
  refine lv_iload hx hb dX2_goes_18 (lv_at hl 0 rfl) ?_
  refine lv_if_eq (tgt := 26) hx hb dX2_goes_20 (by decide) (fun c_20 => ?_) (fun c_20 => ?_)
  · -- 26
    obtain ⟨r1, r2, i0, j0, m0, hb1, hb2, rfl, rfl, rfl, hi0, hj0, hl1, hl2, hmc, hC⟩ := hy_cbar_ok hwf (hwf.2.2.1 _) (hwf.2.2.1 _) c_20
    have h300 := hwf.1
    have q1 := hwf.2.2.2.2.2.1 (r1 + 1)
    have q2 := hwf.2.2.2.2.2.1 (r2 + 1)
    have hl := lv_sub hl (l' := [(0, .ref n0), (1, .int a1), (2, .int (nI i0)), (3, .int a3), (4, .int (nI j0)), (5, .int (nI m0))]) [1, 2, 3, 4, 5, 6] rfl
    refine lv_bipush (v := 24) hx hb dX2_goes_26 (by decide) ?_
    refine lv_aload_n hx hb dX2_goes_28 rfl (lv_at hl 0 rfl) ?_
    refine va_get (D := D) (ci := 2) (v := .ref bM) (C := RX2) (T := TX2) (N := 14) hx hb hts hinX2 hown hK hP 0 rfl rfl 1 (by decide) (hts (.fieldLink RX2 7 "HiveYardModel" "boxes" "[I") (by decide +kernel)) (fun _ h9 => h9) rfl dX2_goes_29 ?_
    refine lv_iload_n hx hb dX2_goes_32 rfl (lv_at hl 1 rfl) ?_
    refine va_iald hx hb hK hP 1 0 rfl rfl (hy_ok_in ok1) dX2_goes_33 ?_
    refine lv_topi (fun v9 e9 => ?_)
    obtain rfl : v9 = (nI r1) := e9.trans (by show hy_enc (hy_bx S a1.toNatClampNeg) = _; rw [hb1]; rfl)
    clear e9
    refine lv_imul hx hb dX2_goes_34 ?_
    refine lv_topi (fun v9 e9 => ?_)
    obtain rfl : v9 = (nI (24 * r1)) := e9.trans (hy_24 _)
    clear e9
    refine lv_iload_n hx hb dX2_goes_35 rfl (lv_at hl 2 rfl) ?_
    refine lv_iadd hx hb dX2_goes_36 ?_
    refine lv_topi (fun v9 e9 => ?_)
    obtain rfl : v9 = (nI (24 * r1 + i0)) := e9.trans (nI_add _ _)
    clear e9
    refine lv_istore (lv' := [(7, .int (nI (24 * r1 + i0))), (0, .ref n0), (1, .int a1), (2, .int (nI i0)), (3, .int a3), (4, .int (nI j0)), (5, .int (nI m0))]) hx hb dX2_goes_37 hl (by decide) rfl (fun ls hl => ?_)
    refine lv_bipush (v := 24) hx hb dX2_goes_39 (by decide) ?_
    refine lv_aload_n hx hb dX2_goes_41 rfl (lv_at hl 1 rfl) ?_
    refine va_get (D := D) (ci := 2) (v := .ref bM) (C := RX2) (T := TX2) (N := 14) hx hb hts hinX2 hown hK hP 0 rfl rfl 1 (by decide) (hts (.fieldLink RX2 7 "HiveYardModel" "boxes" "[I") (by decide +kernel)) (fun _ h9 => h9) rfl dX2_goes_42 ?_
    refine lv_iload_n hx hb dX2_goes_45 rfl (lv_at hl 4 rfl) ?_
    refine va_iald hx hb hK hP 1 0 rfl rfl (hy_ok_in ok3) dX2_goes_46 ?_
    refine lv_topi (fun v9 e9 => ?_)
    obtain rfl : v9 = (nI r2) := e9.trans (by show hy_enc (hy_bx S a3.toNatClampNeg) = _; rw [hb2]; rfl)
    clear e9
    refine lv_imul hx hb dX2_goes_47 ?_
    refine lv_topi (fun v9 e9 => ?_)
    obtain rfl : v9 = (nI (24 * r2)) := e9.trans (hy_24 _)
    clear e9
    refine lv_iload hx hb dX2_goes_48 (lv_at hl 5 rfl) ?_
    refine lv_iadd hx hb dX2_goes_50 ?_
    refine lv_topi (fun v9 e9 => ?_)
    obtain rfl : v9 = (nI (24 * r2 + j0)) := e9.trans (nI_add _ _)
    clear e9
    refine lv_istore (lv' := [(8, .int (nI (24 * r2 + j0))), (7, .int (nI (24 * r1 + i0))), (0, .ref n0), (1, .int a1), (2, .int (nI i0)), (3, .int a3), (4, .int (nI j0)), (5, .int (nI m0))]) hx hb dX2_goes_51 hl (by decide) rfl (fun ls hl => ?_)
    refine lv_aload_n hx hb dX2_goes_53 rfl (lv_at hl 2 rfl) ?_
    refine lv_iload_n hx hb dX2_goes_54 rfl (lv_at hl 5 rfl) ?_
    refine vp_callSi (W.runV (As := [.int a3]) (rest := []) ⟨hx, hb, hml, hown, hts⟩ (c_X2_what l D cI cJ cB n0 bM sM zM tM xM kM wM eM (hy_ulm S 0) th tk a3 ok3 (some (r2 + 1)) hb2 hwf) (cwV 1 hts gX2_goes_X2_what rfl rfl rfl (by decide +kernel) ⟨Nat.le_of_ble_eq_true rfl, Nat.le_of_ble_eq_true rfl⟩) ⟨hy_J_blind, va_recv hK hP (ci := 2) (q0 := 0) rfl rfl, fun U hU hW => ⟨rfl, hy_J_at hU hW hP hK⟩⟩ rfl rfl hl.1 rfl (lv_room (Nat.le_of_ble_eq_true rfl)) dX2_goes_55 ⟨Nat.le_of_ble_eq_true rfl, Nat.le_of_ble_eq_true rfl⟩) (fun v9 e9 => ?_)
    obtain rfl : v9 = hy_so S (r2 + 1) := e9
    refine lv_istore (lv' := [(9, .int (hy_so S (r2 + 1))), (8, .int (nI (24 * r2 + j0))), (7, .int (nI (24 * r1 + i0))), (0, .ref n0), (1, .int a1), (2, .int (nI i0)), (3, .int a3), (4, .int (nI j0)), (5, .int (nI m0))]) hx hb dX2_goes_58 hl (by decide) rfl (fun ls hl => ?_)
    refine lv_iconst (v := 0) hx hb dX2_goes_60 (by decide) ?_
    refine lv_istore (lv' := [(10, .int 0), (9, .int (hy_so S (r2 + 1))), (8, .int (nI (24 * r2 + j0))), (7, .int (nI (24 * r1 + i0))), (0, .ref n0), (1, .int a1), (2, .int (nI i0)), (3, .int a3), (4, .int (nI j0)), (5, .int (nI m0))]) hx hb dX2_goes_61 hl (by decide) rfl (fun ls hl => ?_)
    refine hy_forH (G := fun H locs ls => W p l e _ s m _ below meth c H locs _ _ _ (F0 m 63 ls [])) (H0 := H) (L0 := locs) (ls0 := ls) (fun i H locs ls => ∃ tk : Nat → Int64, lv_has ls 12 [(10, .int (nI i)), (0, .ref n0), (1, .int a1), (2, .int (nI i0)), (3, .int a3), (4, .int (nI j0)), (5, .int (nI m0)), (7, .int (nI (24 * r1 + i0))), (8, .int (nI (24 * r2 + j0))), (9, .int (hy_so S (r2 + 1)))] ∧ va_P D vwCl (hy_M cI cJ n0 bM sM zM tM xM kM wM eM (hy_ulm S 0) th tk) H ∧ va_D A (hy_M cI cJ n0 bM sM zM tM xM kM wM eM (hy_ulm S 0) th tk) ∧ va_S A s.heap H locs ∧ ∀ q, q < i → tk q = hy_va S (r1 + 1) (i0 + q)) m0 ⟨tk, lv_sub hl [0, 4, 5, 6, 7, 8, 9, 3, 2, 1] rfl, hP, hD, hS, fun q hq => absurd hq (by omega)⟩ (fun H locs ls hI => ?_) (fun i H locs ls hi hI ih => ?_)
    · -- exit
      obtain ⟨tk, hl, hP, hD, hS, htk⟩ := hI
      refine lv_iload hx hb dX2_goes_63 (lv_at hl 0 rfl) ?_
      refine lv_iload hx hb dX2_goes_65 (lv_at hl 6 rfl) ?_
      refine lv_icmp_ge (tgt := 93) hx hb dX2_goes_67 (by decide) (fun c_67 => ?_) (fun c9 => absurd c9 (fun c => c (Int32.le_refl _)))
      refine lv_iconst (v := 0) hx hb dX2_goes_93 (by decide) ?_
      refine lv_istore (lv' := [(10, .int 0), (0, .ref n0), (1, .int a1), (2, .int (nI i0)), (3, .int a3), (4, .int (nI j0)), (5, .int (nI m0)), (7, .int (nI (24 * r1 + i0))), (8, .int (nI (24 * r2 + j0))), (9, .int (hy_so S (r2 + 1)))]) hx hb dX2_goes_94 hl (by decide) rfl (fun ls hl => ?_)
      have eG := congrArg (fun s9 => hy_M cI cJ n0 bM sM zM tM xM kM wM eM s9 th tk) (hy_g0 S (r2 + 1) i0 j0 (hy_va S (r1 + 1)))
      rw [eG] at hP hD
      refine hy_forH (G := fun H locs ls => W p l e _ s m _ below meth c H locs _ _ _ (F0 m 96 ls [])) (H0 := H) (L0 := locs) (ls0 := ls) (fun i H locs ls => lv_has ls 12 [(10, .int (nI i)), (0, .ref n0), (1, .int a1), (2, .int (nI i0)), (3, .int a3), (4, .int (nI j0)), (5, .int (nI m0)), (7, .int (nI (24 * r1 + i0))), (8, .int (nI (24 * r2 + j0))), (9, .int (hy_so S (r2 + 1)))] ∧ va_P D vwCl (hy_M cI cJ n0 bM sM zM tM xM kM wM eM (hy_ulm (hy_uva S (r2 + 1) (va_cpy (hy_va S (r1 + 1)) (hy_va S (r2 + 1)) i0 j0 i)) (nI i)) th tk) H ∧ va_D A (hy_M cI cJ n0 bM sM zM tM xM kM wM eM (hy_ulm (hy_uva S (r2 + 1) (va_cpy (hy_va S (r1 + 1)) (hy_va S (r2 + 1)) i0 j0 i)) (nI i)) th tk) ∧ va_S A s.heap H locs ∧ (hy_isNum S (some (r1 + 1)) = 0 → hy_FG S r1 i0 r2 (m0 - i) i = hy_FG S r1 i0 r2 m0 0)) m0 ⟨lv_sub hl [0, 1, 2, 3, 4, 5, 6, 7, 8, 9] rfl, hP, hD, hS, fun _ => rfl⟩ (fun H locs ls hI => ?_) (fun i H locs ls hi hI ih => ?_)
      · -- exit
        obtain ⟨hl, hP, hD, hS, hf⟩ := hI
        refine lv_iload hx hb dX2_goes_96 (lv_at hl 0 rfl) ?_
        refine lv_iload hx hb dX2_goes_98 (lv_at hl 6 rfl) ?_
        refine lv_icmp_ge (tgt := 191) hx hb dX2_goes_100 (by decide) (fun c_100 => ?_) (fun c9 => absurd c9 (fun c => c (Int32.le_refl _)))
        refine lv_iconst (v := 0) hx hb dX2_goes_191 (by decide) ?_
        have hfi : hy_fit S (r1 + 1) i0 (r2 + 1) m0 = m0 := by
          by_cases hnm : hy_isNum S (some (r1 + 1)) = 0
          · rw [hy_fit, if_pos hnm]; have := hf hnm; rw [Nat.sub_self] at this; exact this.symm
          · rw [hy_fit, if_neg hnm]
        have hC9 : hy_C S a1 (nI i0) a3 (nI j0) (nI m0) = (0, nI m0, hy_uva S (r2 + 1) (va_cpy (hy_va S (r1 + 1)) (hy_va S (r2 + 1)) i0 j0 m0)) := by rw [hy_C, hC, hfi, if_pos (Int32.le_refl _)]
        have hCe := hy_C_end hC9
        have eS : (hy_M cI cJ n0 bM sM zM tM xM kM wM eM (hy_ulm (hy_uva S (r2 + 1) (va_cpy (hy_va S (r1 + 1)) (hy_va S (r2 + 1)) i0 j0 m0)) (nI m0)) th tk) = (hy_M cI cJ n0 bM sM zM tM xM kM wM eM (hy_gS S a1 (nI i0) a3 (nI j0) (nI m0)) th tk) := congrArg (fun s9 => hy_M cI cJ n0 bM sM zM tM xM kM wM eM s9 th tk) hCe.1
        have hPz : va_P D vwCl (hy_M cI cJ n0 bM sM zM tM xM kM wM eM (hy_gS S a1 (nI i0) a3 (nI j0) (nI m0)) th tk) H := by rw [← eS]; exact hP
        have hDz : va_D A (hy_M cI cJ n0 bM sM zM tM xM kM wM eM (hy_gS S a1 (nI i0) a3 (nI j0) (nI m0)) th tk) := by rw [← eS]; exact hD
        exact W.iret (v := 0) hx hb hr (fun t ht hW => ⟨⟨_, (), rfl, hCe.2, tk, by rw [ht]; exact hPz, va_K.moved hW.alike hK, hDz⟩, hS.F ht⟩) hS.2.2 dX2_goes_192
      · -- step
        obtain ⟨hl, hP, hD, hS, hf⟩ := hI
        refine lv_iload hx hb dX2_goes_96 (lv_at hl 0 rfl) ?_
        refine lv_iload hx hb dX2_goes_98 (lv_at hl 6 rfl) ?_
        refine lv_icmp_ge (tgt := 191) hx hb dX2_goes_100 (by decide) (fun c9 => absurd c9 (nI_ge hi (by omega))) (fun c_100 => ?_)
        refine lv_iload hx hb dX2_goes_103 (lv_at hl 9 rfl) ?_
        refine vp_callSi (W.runS (As := [.int (hy_so S (r2 + 1))]) (rest := []) ⟨hx, hb, hml, hown, hts⟩ (c_X2_isOfCombs l (hy_so S (r2 + 1))) (va_cwS 1 hts gX2_goes_X2_isOfCombs rfl rfl rfl (by decide +kernel) ⟨Nat.le_of_ble_eq_true rfl, Nat.le_of_ble_eq_true rfl⟩) ⟨fun _ _ _ _ q => q, fun U hU hW => ⟨rfl, trivial⟩⟩ rfl rfl hl.1 rfl (lv_room (Nat.le_of_ble_eq_true rfl)) dX2_goes_105 ⟨Nat.le_of_ble_eq_true rfl, Nat.le_of_ble_eq_true rfl⟩) (fun v9 e9 => ?_)
        subst e9
        refine lv_if_eq (tgt := 144) hx hb dX2_goes_108 (by decide) (fun c_108 => ?_) (fun c_108 => ?_)
        · -- 144
          have hfn : hy_isNum S (some (r1 + 1)) = 0 → hy_FG S r1 i0 r2 (m0 - (i + 1)) (i + 1) = hy_FG S r1 i0 r2 m0 0 := fun q => absurd q (hy_fit_num (i0 := i0) (r2 := r2) (m0 := m0) hwf hl1 (hmc.trans c_108))
          refine lv_iconst (v := 1) hx hb dX2_goes_144 (by decide) ?_
          refine lv_goto (tgt := 149) hx hb dX2_goes_145 (by decide) ?_
          refine lv_istore (lv' := [(11, .int 1), (10, .int (nI i)), (0, .ref n0), (1, .int a1), (2, .int (nI i0)), (3, .int a3), (4, .int (nI j0)), (5, .int (nI m0)), (7, .int (nI (24 * r1 + i0))), (8, .int (nI (24 * r2 + j0))), (9, .int (hy_so S (r2 + 1)))]) hx hb dX2_goes_149 hl (by decide) rfl (fun ls hl => ?_)
          refine lv_iload hx hb dX2_goes_151 (lv_at hl 0 rfl) ?_
          refine lv_if_ne (tgt := 158) hx hb dX2_goes_153 (by decide) (fun c_153 => ?_) (fun c9 => absurd c9 (by decide))
          refine lv_aload_n hx hb dX2_goes_158 rfl (lv_at hl 2 rfl) ?_
          refine va_get (D := D) (ci := 2) (v := .ref tM) (C := RX2) (T := TX2) (N := 14) hx hb hts hinX2 hown hK hP 0 rfl rfl 5 (by decide) (hts (.fieldLink RX2 19 "HiveYardModel" "stands" "[J") (by decide +kernel)) (fun _ h9 => h9) rfl dX2_goes_159 ?_
          refine lv_iload hx hb dX2_goes_162 (lv_at hl 9 rfl) ?_
          refine lv_iload hx hb dX2_goes_164 (lv_at hl 1 rfl) ?_
          refine lv_iadd hx hb dX2_goes_166 ?_
          refine lv_topi (fun v9 e9 => ?_)
          obtain rfl : v9 = (nI (24 * r2 + (j0 + i))) := e9.trans (by rw [nI_add, Nat.add_assoc])
          clear e9
          refine lv_aload_n hx hb dX2_goes_167 rfl (lv_at hl 2 rfl) ?_
          refine va_get (D := D) (ci := 2) (v := .ref xM) (C := RX2) (T := TX2) (N := 14) hx hb hts hinX2 hown hK hP 0 rfl rfl 6 (by decide) (hts (.fieldLink RX2 23 "HiveYardModel" "taken" "[J") (by decide +kernel)) (fun _ h9 => h9) rfl dX2_goes_168 ?_
          refine lv_iload hx hb dX2_goes_171 (lv_at hl 1 rfl) ?_
          refine va_lald hx hb hK hP 5 1 rfl rfl (vp_in_nI (by omega) (by omega)) dX2_goes_173 ?_
          refine lv_topl (fun v9 e9 => ?_)
          obtain rfl : v9 = (hy_va S (r1 + 1) (i0 + i)) := e9.trans (by rw [nI_clamp (by omega)]; exact htk i hi)
          clear e9
          refine va_last hx hb hK hP hD hS 4 1 rfl rfl (vp_in_nI (by omega) (by omega)) dX2_goes_174 (fun H locs hP hD hS => ?_)
          rw [nI_clamp (n := 24 * r2 + (j0 + i)) (by omega)] at hP hD
          have hP : va_P D vwCl (hy_M cI cJ n0 bM sM zM tM xM kM wM eM (hy_uva (hy_ulm (hy_uva S (r2 + 1) (va_cpy (hy_va S (r1 + 1)) (hy_va S (r2 + 1)) i0 j0 i)) (nI i)) (r2 + 1) (vp_updL (hy_va (hy_ulm (hy_uva S (r2 + 1) (va_cpy (hy_va S (r1 + 1)) (hy_va S (r2 + 1)) i0 j0 i)) (nI i)) (r2 + 1)) (j0 + i) (hy_va S (r1 + 1) (i0 + i)))) th tk) H := by rw [← hy_M_uva (S := (hy_ulm (hy_uva S (r2 + 1) (va_cpy (hy_va S (r1 + 1)) (hy_va S (r2 + 1)) i0 j0 i)) (nI i))) (r := r2) (k := (j0 + i)) (by omega) (hy_va S (r1 + 1) (i0 + i))]; exact hP
          have hD : va_D A (hy_M cI cJ n0 bM sM zM tM xM kM wM eM (hy_uva (hy_ulm (hy_uva S (r2 + 1) (va_cpy (hy_va S (r1 + 1)) (hy_va S (r2 + 1)) i0 j0 i)) (nI i)) (r2 + 1) (vp_updL (hy_va (hy_ulm (hy_uva S (r2 + 1) (va_cpy (hy_va S (r1 + 1)) (hy_va S (r2 + 1)) i0 j0 i)) (nI i)) (r2 + 1)) (j0 + i) (hy_va S (r1 + 1) (i0 + i)))) th tk) := by rw [← hy_M_uva (S := (hy_ulm (hy_uva S (r2 + 1) (va_cpy (hy_va S (r1 + 1)) (hy_va S (r2 + 1)) i0 j0 i)) (nI i))) (r := r2) (k := (j0 + i)) (by omega) (hy_va S (r1 + 1) (i0 + i))]; exact hD
          refine lv_aload_n hx hb dX2_goes_175 rfl (lv_at hl 2 rfl) ?_
          refine lv_dup hx hb dX2_goes_176 rfl ?_
          refine va_get (D := D) (ci := 2) (v := .int (nI i)) (C := RX2) (T := TX2) (N := 14) hx hb hts hinX2 hown hK hP 0 rfl rfl 10 (by decide) (hts (.fieldLink RX2 83 "HiveYardModel" "moved" "I") (by decide +kernel)) (fun _ h9 => h9) rfl dX2_goes_177 ?_
          refine lv_iconst (v := 1) hx hb dX2_goes_180 (by decide) ?_
          refine lv_iadd hx hb dX2_goes_181 ?_
          refine lv_topi (fun v9 e9 => ?_)
          obtain rfl : v9 = (nI (i + 1)) := e9.trans (nI_1 i)
          clear e9
          refine va_put (D := D) (ci := 2) (v := .int (nI (i + 1))) (ty := .int) (C := RX2) (T := TX2) (N := 14) hx hb hts hinX2 tyX2 tyX2_ok nmX2 hown hK hP hD hS 0 rfl rfl 10 (by decide) (hts (.fieldLink RX2 83 "HiveYardModel" "moved" "I") (by decide +kernel)) (fun _ h9 => h9) rfl (by decide +kernel) rfl rfl (Nat.le_of_ble_eq_true rfl) dX2_goes_182 (fun H locs hP hD hS => ?_)
          have hP : va_P D vwCl (hy_M cI cJ n0 bM sM zM tM xM kM wM eM (hy_ulm (hy_uva (hy_ulm (hy_uva S (r2 + 1) (va_cpy (hy_va S (r1 + 1)) (hy_va S (r2 + 1)) i0 j0 i)) (nI i)) (r2 + 1) (vp_updL (hy_va (hy_ulm (hy_uva S (r2 + 1) (va_cpy (hy_va S (r1 + 1)) (hy_va S (r2 + 1)) i0 j0 i)) (nI i)) (r2 + 1)) (j0 + i) (hy_va S (r1 + 1) (i0 + i)))) (nI (i + 1))) th tk) H := by rw [← hy_M_ulm]; exact hP
          have hD : va_D A (hy_M cI cJ n0 bM sM zM tM xM kM wM eM (hy_ulm (hy_uva (hy_ulm (hy_uva S (r2 + 1) (va_cpy (hy_va S (r1 + 1)) (hy_va S (r2 + 1)) i0 j0 i)) (nI i)) (r2 + 1) (vp_updL (hy_va (hy_ulm (hy_uva S (r2 + 1) (va_cpy (hy_va S (r1 + 1)) (hy_va S (r2 + 1)) i0 j0 i)) (nI i)) (r2 + 1)) (j0 + i) (hy_va S (r1 + 1) (i0 + i)))) (nI (i + 1))) th tk) := by rw [← hy_M_ulm]; exact hD
          refine lv_iinc (v := (nI (i + 1))) (lv' := [(10, .int (nI (i + 1))), (11, .int 1), (0, .ref n0), (1, .int a1), (2, .int (nI i0)), (3, .int a3), (4, .int (nI j0)), (5, .int (nI m0)), (7, .int (nI (24 * r1 + i0))), (8, .int (nI (24 * r2 + j0))), (9, .int (hy_so S (r2 + 1)))]) hx hb dX2_goes_185 hl (k := 1) rfl (nI_1 i) (by decide) rfl (fun ls hl => ?_)
          refine lv_goto (tgt := 96) hx hb dX2_goes_188 (by decide) ?_
          have eG := congrArg (fun s9 => hy_M cI cJ n0 bM sM zM tM xM kM wM eM s9 th tk) (hy_gstep S (r2 + 1) i0 j0 i (hy_va S (r1 + 1)) (nI i) (nI (i + 1)))
          have hP : va_P D vwCl (hy_M cI cJ n0 bM sM zM tM xM kM wM eM (hy_ulm (hy_uva S (r2 + 1) (va_cpy (hy_va S (r1 + 1)) (hy_va S (r2 + 1)) i0 j0 (i + 1))) (nI (i + 1))) th tk) H := by rw [← eG]; exact hP
          have hD : va_D A (hy_M cI cJ n0 bM sM zM tM xM kM wM eM (hy_ulm (hy_uva S (r2 + 1) (va_cpy (hy_va S (r1 + 1)) (hy_va S (r2 + 1)) i0 j0 (i + 1))) (nI (i + 1))) th tk) := by rw [← eG]; exact hD
          exact ih H locs ls ⟨lv_sub hl [0, 2, 3, 4, 5, 6, 7, 8, 9, 10] rfl, hP, hD, hS, hfn⟩
        · -- 111
          have hmc2 : hy_miscombs (hy_so S (r2 + 1)) = 1 := (hy_mc01 _).resolve_left c_108
          have hmc1 := hmc.trans hmc2
          have hcv := hy_combval hwf hl1 hmc1 (k := i0 + i) (by omega)
          refine lv_aload_n hx hb dX2_goes_111 rfl (lv_at hl 1 rfl) ?_
          refine va_get (D := D) (ci := 2) (v := .ref xM) (C := RX2) (T := TX2) (N := 14) hx hb hts hinX2 hown hK hP 0 rfl rfl 6 (by decide) (hts (.fieldLink RX2 23 "HiveYardModel" "taken" "[J") (by decide +kernel)) (fun _ h9 => h9) rfl dX2_goes_112 ?_
          refine lv_iload hx hb dX2_goes_115 (lv_at hl 0 rfl) ?_
          refine va_lald hx hb hK hP 5 1 rfl rfl (vp_in_nI (by omega) (by omega)) dX2_goes_117 ?_
          refine lv_topl (fun v9 e9 => ?_)
          obtain rfl : v9 = (hy_va S (r1 + 1) (i0 + i)) := e9.trans (by rw [nI_clamp (by omega)]; exact htk i hi)
          clear e9
          refine lv_lconst (v := 0) hx hb dX2_goes_118 (by decide) ?_
          refine W.lcmp hx hb dX2_goes_119 ?_
          refine lv_if_lt (tgt := 144) hx hb dX2_goes_120 (by decide) (fun c_120 => ?_) (fun c_120 => ?_)
          · -- 144
            have hfn : hy_isNum S (some (r1 + 1)) = 0 → hy_FG S r1 i0 r2 (m0 - (i + 1)) (i + 1) = hy_FG S r1 i0 r2 m0 0 := fun q => hy_fg_ok hi (Or.inl (hy_neg1 ((lg_cmp_lt _ _).mp c_120))) (hf q)
            refine lv_iconst (v := 1) hx hb dX2_goes_144 (by decide) ?_
            refine lv_goto (tgt := 149) hx hb dX2_goes_145 (by decide) ?_
            refine lv_istore (lv' := [(11, .int 1), (10, .int (nI i)), (0, .ref n0), (1, .int a1), (2, .int (nI i0)), (3, .int a3), (4, .int (nI j0)), (5, .int (nI m0)), (7, .int (nI (24 * r1 + i0))), (8, .int (nI (24 * r2 + j0))), (9, .int (hy_so S (r2 + 1)))]) hx hb dX2_goes_149 hl (by decide) rfl (fun ls hl => ?_)
            refine lv_iload hx hb dX2_goes_151 (lv_at hl 0 rfl) ?_
            refine lv_if_ne (tgt := 158) hx hb dX2_goes_153 (by decide) (fun c_153 => ?_) (fun c9 => absurd c9 (by decide))
            refine lv_aload_n hx hb dX2_goes_158 rfl (lv_at hl 2 rfl) ?_
            refine va_get (D := D) (ci := 2) (v := .ref tM) (C := RX2) (T := TX2) (N := 14) hx hb hts hinX2 hown hK hP 0 rfl rfl 5 (by decide) (hts (.fieldLink RX2 19 "HiveYardModel" "stands" "[J") (by decide +kernel)) (fun _ h9 => h9) rfl dX2_goes_159 ?_
            refine lv_iload hx hb dX2_goes_162 (lv_at hl 9 rfl) ?_
            refine lv_iload hx hb dX2_goes_164 (lv_at hl 1 rfl) ?_
            refine lv_iadd hx hb dX2_goes_166 ?_
            refine lv_topi (fun v9 e9 => ?_)
            obtain rfl : v9 = (nI (24 * r2 + (j0 + i))) := e9.trans (by rw [nI_add, Nat.add_assoc])
            clear e9
            refine lv_aload_n hx hb dX2_goes_167 rfl (lv_at hl 2 rfl) ?_
            refine va_get (D := D) (ci := 2) (v := .ref xM) (C := RX2) (T := TX2) (N := 14) hx hb hts hinX2 hown hK hP 0 rfl rfl 6 (by decide) (hts (.fieldLink RX2 23 "HiveYardModel" "taken" "[J") (by decide +kernel)) (fun _ h9 => h9) rfl dX2_goes_168 ?_
            refine lv_iload hx hb dX2_goes_171 (lv_at hl 1 rfl) ?_
            refine va_lald hx hb hK hP 5 1 rfl rfl (vp_in_nI (by omega) (by omega)) dX2_goes_173 ?_
            refine lv_topl (fun v9 e9 => ?_)
            obtain rfl : v9 = (hy_va S (r1 + 1) (i0 + i)) := e9.trans (by rw [nI_clamp (by omega)]; exact htk i hi)
            clear e9
            refine va_last hx hb hK hP hD hS 4 1 rfl rfl (vp_in_nI (by omega) (by omega)) dX2_goes_174 (fun H locs hP hD hS => ?_)
            rw [nI_clamp (n := 24 * r2 + (j0 + i)) (by omega)] at hP hD
            have hP : va_P D vwCl (hy_M cI cJ n0 bM sM zM tM xM kM wM eM (hy_uva (hy_ulm (hy_uva S (r2 + 1) (va_cpy (hy_va S (r1 + 1)) (hy_va S (r2 + 1)) i0 j0 i)) (nI i)) (r2 + 1) (vp_updL (hy_va (hy_ulm (hy_uva S (r2 + 1) (va_cpy (hy_va S (r1 + 1)) (hy_va S (r2 + 1)) i0 j0 i)) (nI i)) (r2 + 1)) (j0 + i) (hy_va S (r1 + 1) (i0 + i)))) th tk) H := by rw [← hy_M_uva (S := (hy_ulm (hy_uva S (r2 + 1) (va_cpy (hy_va S (r1 + 1)) (hy_va S (r2 + 1)) i0 j0 i)) (nI i))) (r := r2) (k := (j0 + i)) (by omega) (hy_va S (r1 + 1) (i0 + i))]; exact hP
            have hD : va_D A (hy_M cI cJ n0 bM sM zM tM xM kM wM eM (hy_uva (hy_ulm (hy_uva S (r2 + 1) (va_cpy (hy_va S (r1 + 1)) (hy_va S (r2 + 1)) i0 j0 i)) (nI i)) (r2 + 1) (vp_updL (hy_va (hy_ulm (hy_uva S (r2 + 1) (va_cpy (hy_va S (r1 + 1)) (hy_va S (r2 + 1)) i0 j0 i)) (nI i)) (r2 + 1)) (j0 + i) (hy_va S (r1 + 1) (i0 + i)))) th tk) := by rw [← hy_M_uva (S := (hy_ulm (hy_uva S (r2 + 1) (va_cpy (hy_va S (r1 + 1)) (hy_va S (r2 + 1)) i0 j0 i)) (nI i))) (r := r2) (k := (j0 + i)) (by omega) (hy_va S (r1 + 1) (i0 + i))]; exact hD
            refine lv_aload_n hx hb dX2_goes_175 rfl (lv_at hl 2 rfl) ?_
            refine lv_dup hx hb dX2_goes_176 rfl ?_
            refine va_get (D := D) (ci := 2) (v := .int (nI i)) (C := RX2) (T := TX2) (N := 14) hx hb hts hinX2 hown hK hP 0 rfl rfl 10 (by decide) (hts (.fieldLink RX2 83 "HiveYardModel" "moved" "I") (by decide +kernel)) (fun _ h9 => h9) rfl dX2_goes_177 ?_
            refine lv_iconst (v := 1) hx hb dX2_goes_180 (by decide) ?_
            refine lv_iadd hx hb dX2_goes_181 ?_
            refine lv_topi (fun v9 e9 => ?_)
            obtain rfl : v9 = (nI (i + 1)) := e9.trans (nI_1 i)
            clear e9
            refine va_put (D := D) (ci := 2) (v := .int (nI (i + 1))) (ty := .int) (C := RX2) (T := TX2) (N := 14) hx hb hts hinX2 tyX2 tyX2_ok nmX2 hown hK hP hD hS 0 rfl rfl 10 (by decide) (hts (.fieldLink RX2 83 "HiveYardModel" "moved" "I") (by decide +kernel)) (fun _ h9 => h9) rfl (by decide +kernel) rfl rfl (Nat.le_of_ble_eq_true rfl) dX2_goes_182 (fun H locs hP hD hS => ?_)
            have hP : va_P D vwCl (hy_M cI cJ n0 bM sM zM tM xM kM wM eM (hy_ulm (hy_uva (hy_ulm (hy_uva S (r2 + 1) (va_cpy (hy_va S (r1 + 1)) (hy_va S (r2 + 1)) i0 j0 i)) (nI i)) (r2 + 1) (vp_updL (hy_va (hy_ulm (hy_uva S (r2 + 1) (va_cpy (hy_va S (r1 + 1)) (hy_va S (r2 + 1)) i0 j0 i)) (nI i)) (r2 + 1)) (j0 + i) (hy_va S (r1 + 1) (i0 + i)))) (nI (i + 1))) th tk) H := by rw [← hy_M_ulm]; exact hP
            have hD : va_D A (hy_M cI cJ n0 bM sM zM tM xM kM wM eM (hy_ulm (hy_uva (hy_ulm (hy_uva S (r2 + 1) (va_cpy (hy_va S (r1 + 1)) (hy_va S (r2 + 1)) i0 j0 i)) (nI i)) (r2 + 1) (vp_updL (hy_va (hy_ulm (hy_uva S (r2 + 1) (va_cpy (hy_va S (r1 + 1)) (hy_va S (r2 + 1)) i0 j0 i)) (nI i)) (r2 + 1)) (j0 + i) (hy_va S (r1 + 1) (i0 + i)))) (nI (i + 1))) th tk) := by rw [← hy_M_ulm]; exact hD
            refine lv_iinc (v := (nI (i + 1))) (lv' := [(10, .int (nI (i + 1))), (11, .int 1), (0, .ref n0), (1, .int a1), (2, .int (nI i0)), (3, .int a3), (4, .int (nI j0)), (5, .int (nI m0)), (7, .int (nI (24 * r1 + i0))), (8, .int (nI (24 * r2 + j0))), (9, .int (hy_so S (r2 + 1)))]) hx hb dX2_goes_185 hl (k := 1) rfl (nI_1 i) (by decide) rfl (fun ls hl => ?_)
            refine lv_goto (tgt := 96) hx hb dX2_goes_188 (by decide) ?_
            have eG := congrArg (fun s9 => hy_M cI cJ n0 bM sM zM tM xM kM wM eM s9 th tk) (hy_gstep S (r2 + 1) i0 j0 i (hy_va S (r1 + 1)) (nI i) (nI (i + 1)))
            have hP : va_P D vwCl (hy_M cI cJ n0 bM sM zM tM xM kM wM eM (hy_ulm (hy_uva S (r2 + 1) (va_cpy (hy_va S (r1 + 1)) (hy_va S (r2 + 1)) i0 j0 (i + 1))) (nI (i + 1))) th tk) H := by rw [← eG]; exact hP
            have hD : va_D A (hy_M cI cJ n0 bM sM zM tM xM kM wM eM (hy_ulm (hy_uva S (r2 + 1) (va_cpy (hy_va S (r1 + 1)) (hy_va S (r2 + 1)) i0 j0 (i + 1))) (nI (i + 1))) th tk) := by rw [← eG]; exact hD
            exact ih H locs ls ⟨lv_sub hl [0, 2, 3, 4, 5, 6, 7, 8, 9, 10] rfl, hP, hD, hS, hfn⟩
          · -- 123
            have hic : ¬ hy_isComb S (hy_va S (r1 + 1) (i0 + i)) = 0 := hy_comb_nn hwf.2.1 hcv (fun q => c_120 ((lg_cmp_lt _ _).mpr q))
            refine lv_iload hx hb dX2_goes_123 (lv_at hl 9 rfl) ?_
            refine lv_aload_n hx hb dX2_goes_125 rfl (lv_at hl 1 rfl) ?_
            refine va_get (D := D) (ci := 2) (v := .ref kM) (C := RX2) (T := TX2) (N := 14) hx hb hts hinX2 hown hK hP 0 rfl rfl 8 (by decide) (hts (.fieldLink RX2 26 "HiveYardModel" "kinds" "[I") (by decide +kernel)) (fun _ h9 => h9) rfl dX2_goes_126 ?_
            refine lv_aload_n hx hb dX2_goes_129 rfl (lv_at hl 1 rfl) ?_
            refine va_get (D := D) (ci := 2) (v := .ref xM) (C := RX2) (T := TX2) (N := 14) hx hb hts hinX2 hown hK hP 0 rfl rfl 6 (by decide) (hts (.fieldLink RX2 23 "HiveYardModel" "taken" "[J") (by decide +kernel)) (fun _ h9 => h9) rfl dX2_goes_130 ?_
            refine lv_iload hx hb dX2_goes_133 (lv_at hl 0 rfl) ?_
            refine va_lald hx hb hK hP 5 1 rfl rfl (vp_in_nI (by omega) (by omega)) dX2_goes_135 ?_
            refine lv_topl (fun v9 e9 => ?_)
            obtain rfl : v9 = (hy_va S (r1 + 1) (i0 + i)) := e9.trans (by rw [nI_clamp (by omega)]; exact htk i hi)
            clear e9
            refine lv_l2i (v := (hy_va S (r1 + 1) (i0 + i)).toInt32) hx hb dX2_goes_136 rfl ?_
            refine va_iald hx hb hK hP 6 0 rfl rfl (hy_comb_vp hwf.2.1 hic) dX2_goes_137 ?_
            refine lv_topi (fun v9 e9 => ?_)
            obtain rfl : v9 = (hy_ki S (hy_va S (r1 + 1) (i0 + i)).toInt32.toNatClampNeg) := e9.trans (rfl)
            clear e9
            refine vp_callSi (W.runS (As := [.int (hy_so S (r2 + 1)), .int (hy_ki S (hy_va S (r1 + 1) (i0 + i)).toInt32.toNatClampNeg)]) (rest := []) ⟨hx, hb, hml, hown, hts⟩ (c_X2_takes l (hy_so S (r2 + 1)) (hy_ki S (hy_va S (r1 + 1) (i0 + i)).toInt32.toNatClampNeg)) (va_cwS 2 hts gX2_goes_X2_takes rfl rfl rfl (by decide +kernel) ⟨Nat.le_of_ble_eq_true rfl, Nat.le_of_ble_eq_true rfl⟩) ⟨fun _ _ _ _ q => q, fun U hU hW => ⟨rfl, trivial⟩⟩ rfl rfl hl.1 rfl (lv_room (Nat.le_of_ble_eq_true rfl)) dX2_goes_138 ⟨Nat.le_of_ble_eq_true rfl, Nat.le_of_ble_eq_true rfl⟩) (fun v9 e9 => ?_)
            subst e9
            refine lv_if_eq (tgt := 148) hx hb dX2_goes_141 (by decide) (fun c_141 => ?_) (fun c_141 => ?_)
            · -- 148
              have htk0 : hy_takes (hy_so S (r2 + 1)) (hy_ki S (hy_va S (r1 + 1) (i0 + i)).toInt32.toNatClampNeg) = 0 := (hy_takes_m hwf hl2 hmc2 _).trans c_141
              have hnm : hy_isNum S (some (r1 + 1)) = 0 := by rw [hy_isNum_m hwf hl1, hmc1]; rfl
              refine lv_iconst (v := 0) hx hb dX2_goes_148 (by decide) ?_
              refine lv_istore (lv' := [(11, .int 0), (10, .int (nI i)), (0, .ref n0), (1, .int a1), (2, .int (nI i0)), (3, .int a3), (4, .int (nI j0)), (5, .int (nI m0)), (7, .int (nI (24 * r1 + i0))), (8, .int (nI (24 * r2 + j0))), (9, .int (hy_so S (r2 + 1)))]) hx hb dX2_goes_149 hl (by decide) rfl (fun ls hl => ?_)
              refine lv_iload hx hb dX2_goes_151 (lv_at hl 0 rfl) ?_
              refine lv_if_ne (tgt := 158) hx hb dX2_goes_153 (by decide) (fun c9 => absurd c9 (fun c => c rfl)) (fun c_153 => ?_)
              refine lv_iconst (v := 5) hx hb dX2_goes_156 (by decide) ?_
              have hfi : hy_fit S (r1 + 1) i0 (r2 + 1) m0 = i := by rw [hy_fit, if_pos hnm]; exact hy_fg_bad hi hic htk0 (hf hnm)
              have hC9 : hy_C S a1 (nI i0) a3 (nI j0) (nI m0) = (5, nI i, hy_uva S (r2 + 1) (va_cpy (hy_va S (r1 + 1)) (hy_va S (r2 + 1)) i0 j0 i)) := by rw [hy_C, hC, hfi, if_neg (nI_ge hi (by omega))]
              have hCe := hy_C_end hC9
              have eS : (hy_M cI cJ n0 bM sM zM tM xM kM wM eM (hy_ulm (hy_uva S (r2 + 1) (va_cpy (hy_va S (r1 + 1)) (hy_va S (r2 + 1)) i0 j0 i)) (nI i)) th tk) = (hy_M cI cJ n0 bM sM zM tM xM kM wM eM (hy_gS S a1 (nI i0) a3 (nI j0) (nI m0)) th tk) := congrArg (fun s9 => hy_M cI cJ n0 bM sM zM tM xM kM wM eM s9 th tk) hCe.1
              have hPz : va_P D vwCl (hy_M cI cJ n0 bM sM zM tM xM kM wM eM (hy_gS S a1 (nI i0) a3 (nI j0) (nI m0)) th tk) H := by rw [← eS]; exact hP
              have hDz : va_D A (hy_M cI cJ n0 bM sM zM tM xM kM wM eM (hy_gS S a1 (nI i0) a3 (nI j0) (nI m0)) th tk) := by rw [← eS]; exact hD
              exact W.iret (v := 5) hx hb hr (fun t ht hW => ⟨⟨_, (), rfl, hCe.2, tk, by rw [ht]; exact hPz, va_K.moved hW.alike hK, hDz⟩, hS.F ht⟩) hS.2.2 dX2_goes_157
            · -- 144
              have hfn : hy_isNum S (some (r1 + 1)) = 0 → hy_FG S r1 i0 r2 (m0 - (i + 1)) (i + 1) = hy_FG S r1 i0 r2 m0 0 := fun q => hy_fg_ok hi (Or.inr (fun z => c_141 ((hy_takes_m hwf hl2 hmc2 _).symm.trans z))) (hf q)
              refine lv_iconst (v := 1) hx hb dX2_goes_144 (by decide) ?_
              refine lv_goto (tgt := 149) hx hb dX2_goes_145 (by decide) ?_
              refine lv_istore (lv' := [(11, .int 1), (10, .int (nI i)), (0, .ref n0), (1, .int a1), (2, .int (nI i0)), (3, .int a3), (4, .int (nI j0)), (5, .int (nI m0)), (7, .int (nI (24 * r1 + i0))), (8, .int (nI (24 * r2 + j0))), (9, .int (hy_so S (r2 + 1)))]) hx hb dX2_goes_149 hl (by decide) rfl (fun ls hl => ?_)
              refine lv_iload hx hb dX2_goes_151 (lv_at hl 0 rfl) ?_
              refine lv_if_ne (tgt := 158) hx hb dX2_goes_153 (by decide) (fun c_153 => ?_) (fun c9 => absurd c9 (by decide))
              refine lv_aload_n hx hb dX2_goes_158 rfl (lv_at hl 2 rfl) ?_
              refine va_get (D := D) (ci := 2) (v := .ref tM) (C := RX2) (T := TX2) (N := 14) hx hb hts hinX2 hown hK hP 0 rfl rfl 5 (by decide) (hts (.fieldLink RX2 19 "HiveYardModel" "stands" "[J") (by decide +kernel)) (fun _ h9 => h9) rfl dX2_goes_159 ?_
              refine lv_iload hx hb dX2_goes_162 (lv_at hl 9 rfl) ?_
              refine lv_iload hx hb dX2_goes_164 (lv_at hl 1 rfl) ?_
              refine lv_iadd hx hb dX2_goes_166 ?_
              refine lv_topi (fun v9 e9 => ?_)
              obtain rfl : v9 = (nI (24 * r2 + (j0 + i))) := e9.trans (by rw [nI_add, Nat.add_assoc])
              clear e9
              refine lv_aload_n hx hb dX2_goes_167 rfl (lv_at hl 2 rfl) ?_
              refine va_get (D := D) (ci := 2) (v := .ref xM) (C := RX2) (T := TX2) (N := 14) hx hb hts hinX2 hown hK hP 0 rfl rfl 6 (by decide) (hts (.fieldLink RX2 23 "HiveYardModel" "taken" "[J") (by decide +kernel)) (fun _ h9 => h9) rfl dX2_goes_168 ?_
              refine lv_iload hx hb dX2_goes_171 (lv_at hl 1 rfl) ?_
              refine va_lald hx hb hK hP 5 1 rfl rfl (vp_in_nI (by omega) (by omega)) dX2_goes_173 ?_
              refine lv_topl (fun v9 e9 => ?_)
              obtain rfl : v9 = (hy_va S (r1 + 1) (i0 + i)) := e9.trans (by rw [nI_clamp (by omega)]; exact htk i hi)
              clear e9
              refine va_last hx hb hK hP hD hS 4 1 rfl rfl (vp_in_nI (by omega) (by omega)) dX2_goes_174 (fun H locs hP hD hS => ?_)
              rw [nI_clamp (n := 24 * r2 + (j0 + i)) (by omega)] at hP hD
              have hP : va_P D vwCl (hy_M cI cJ n0 bM sM zM tM xM kM wM eM (hy_uva (hy_ulm (hy_uva S (r2 + 1) (va_cpy (hy_va S (r1 + 1)) (hy_va S (r2 + 1)) i0 j0 i)) (nI i)) (r2 + 1) (vp_updL (hy_va (hy_ulm (hy_uva S (r2 + 1) (va_cpy (hy_va S (r1 + 1)) (hy_va S (r2 + 1)) i0 j0 i)) (nI i)) (r2 + 1)) (j0 + i) (hy_va S (r1 + 1) (i0 + i)))) th tk) H := by rw [← hy_M_uva (S := (hy_ulm (hy_uva S (r2 + 1) (va_cpy (hy_va S (r1 + 1)) (hy_va S (r2 + 1)) i0 j0 i)) (nI i))) (r := r2) (k := (j0 + i)) (by omega) (hy_va S (r1 + 1) (i0 + i))]; exact hP
              have hD : va_D A (hy_M cI cJ n0 bM sM zM tM xM kM wM eM (hy_uva (hy_ulm (hy_uva S (r2 + 1) (va_cpy (hy_va S (r1 + 1)) (hy_va S (r2 + 1)) i0 j0 i)) (nI i)) (r2 + 1) (vp_updL (hy_va (hy_ulm (hy_uva S (r2 + 1) (va_cpy (hy_va S (r1 + 1)) (hy_va S (r2 + 1)) i0 j0 i)) (nI i)) (r2 + 1)) (j0 + i) (hy_va S (r1 + 1) (i0 + i)))) th tk) := by rw [← hy_M_uva (S := (hy_ulm (hy_uva S (r2 + 1) (va_cpy (hy_va S (r1 + 1)) (hy_va S (r2 + 1)) i0 j0 i)) (nI i))) (r := r2) (k := (j0 + i)) (by omega) (hy_va S (r1 + 1) (i0 + i))]; exact hD
              refine lv_aload_n hx hb dX2_goes_175 rfl (lv_at hl 2 rfl) ?_
              refine lv_dup hx hb dX2_goes_176 rfl ?_
              refine va_get (D := D) (ci := 2) (v := .int (nI i)) (C := RX2) (T := TX2) (N := 14) hx hb hts hinX2 hown hK hP 0 rfl rfl 10 (by decide) (hts (.fieldLink RX2 83 "HiveYardModel" "moved" "I") (by decide +kernel)) (fun _ h9 => h9) rfl dX2_goes_177 ?_
              refine lv_iconst (v := 1) hx hb dX2_goes_180 (by decide) ?_
              refine lv_iadd hx hb dX2_goes_181 ?_
              refine lv_topi (fun v9 e9 => ?_)
              obtain rfl : v9 = (nI (i + 1)) := e9.trans (nI_1 i)
              clear e9
              refine va_put (D := D) (ci := 2) (v := .int (nI (i + 1))) (ty := .int) (C := RX2) (T := TX2) (N := 14) hx hb hts hinX2 tyX2 tyX2_ok nmX2 hown hK hP hD hS 0 rfl rfl 10 (by decide) (hts (.fieldLink RX2 83 "HiveYardModel" "moved" "I") (by decide +kernel)) (fun _ h9 => h9) rfl (by decide +kernel) rfl rfl (Nat.le_of_ble_eq_true rfl) dX2_goes_182 (fun H locs hP hD hS => ?_)
              have hP : va_P D vwCl (hy_M cI cJ n0 bM sM zM tM xM kM wM eM (hy_ulm (hy_uva (hy_ulm (hy_uva S (r2 + 1) (va_cpy (hy_va S (r1 + 1)) (hy_va S (r2 + 1)) i0 j0 i)) (nI i)) (r2 + 1) (vp_updL (hy_va (hy_ulm (hy_uva S (r2 + 1) (va_cpy (hy_va S (r1 + 1)) (hy_va S (r2 + 1)) i0 j0 i)) (nI i)) (r2 + 1)) (j0 + i) (hy_va S (r1 + 1) (i0 + i)))) (nI (i + 1))) th tk) H := by rw [← hy_M_ulm]; exact hP
              have hD : va_D A (hy_M cI cJ n0 bM sM zM tM xM kM wM eM (hy_ulm (hy_uva (hy_ulm (hy_uva S (r2 + 1) (va_cpy (hy_va S (r1 + 1)) (hy_va S (r2 + 1)) i0 j0 i)) (nI i)) (r2 + 1) (vp_updL (hy_va (hy_ulm (hy_uva S (r2 + 1) (va_cpy (hy_va S (r1 + 1)) (hy_va S (r2 + 1)) i0 j0 i)) (nI i)) (r2 + 1)) (j0 + i) (hy_va S (r1 + 1) (i0 + i)))) (nI (i + 1))) th tk) := by rw [← hy_M_ulm]; exact hD
              refine lv_iinc (v := (nI (i + 1))) (lv' := [(10, .int (nI (i + 1))), (11, .int 1), (0, .ref n0), (1, .int a1), (2, .int (nI i0)), (3, .int a3), (4, .int (nI j0)), (5, .int (nI m0)), (7, .int (nI (24 * r1 + i0))), (8, .int (nI (24 * r2 + j0))), (9, .int (hy_so S (r2 + 1)))]) hx hb dX2_goes_185 hl (k := 1) rfl (nI_1 i) (by decide) rfl (fun ls hl => ?_)
              refine lv_goto (tgt := 96) hx hb dX2_goes_188 (by decide) ?_
              have eG := congrArg (fun s9 => hy_M cI cJ n0 bM sM zM tM xM kM wM eM s9 th tk) (hy_gstep S (r2 + 1) i0 j0 i (hy_va S (r1 + 1)) (nI i) (nI (i + 1)))
              have hP : va_P D vwCl (hy_M cI cJ n0 bM sM zM tM xM kM wM eM (hy_ulm (hy_uva S (r2 + 1) (va_cpy (hy_va S (r1 + 1)) (hy_va S (r2 + 1)) i0 j0 (i + 1))) (nI (i + 1))) th tk) H := by rw [← eG]; exact hP
              have hD : va_D A (hy_M cI cJ n0 bM sM zM tM xM kM wM eM (hy_ulm (hy_uva S (r2 + 1) (va_cpy (hy_va S (r1 + 1)) (hy_va S (r2 + 1)) i0 j0 (i + 1))) (nI (i + 1))) th tk) := by rw [← eG]; exact hD
              exact ih H locs ls ⟨lv_sub hl [0, 2, 3, 4, 5, 6, 7, 8, 9, 10] rfl, hP, hD, hS, hfn⟩
    · -- step
      obtain ⟨tk, hl, hP, hD, hS, htk⟩ := hI
      refine lv_iload hx hb dX2_goes_63 (lv_at hl 0 rfl) ?_
      refine lv_iload hx hb dX2_goes_65 (lv_at hl 6 rfl) ?_
      refine lv_icmp_ge (tgt := 93) hx hb dX2_goes_67 (by decide) (fun c9 => absurd c9 (nI_ge hi (by omega))) (fun c_67 => ?_)
      refine lv_aload_n hx hb dX2_goes_70 rfl (lv_at hl 1 rfl) ?_
      refine va_get (D := D) (ci := 2) (v := .ref xM) (C := RX2) (T := TX2) (N := 14) hx hb hts hinX2 hown hK hP 0 rfl rfl 6 (by decide) (hts (.fieldLink RX2 23 "HiveYardModel" "taken" "[J") (by decide +kernel)) (fun _ h9 => h9) rfl dX2_goes_71 ?_
      refine lv_iload hx hb dX2_goes_74 (lv_at hl 0 rfl) ?_
      refine lv_aload_n hx hb dX2_goes_76 rfl (lv_at hl 1 rfl) ?_
      refine va_get (D := D) (ci := 2) (v := .ref tM) (C := RX2) (T := TX2) (N := 14) hx hb hts hinX2 hown hK hP 0 rfl rfl 5 (by decide) (hts (.fieldLink RX2 19 "HiveYardModel" "stands" "[J") (by decide +kernel)) (fun _ h9 => h9) rfl dX2_goes_77 ?_
      refine lv_iload hx hb dX2_goes_80 (lv_at hl 7 rfl) ?_
      refine lv_iload hx hb dX2_goes_82 (lv_at hl 0 rfl) ?_
      refine lv_iadd hx hb dX2_goes_84 ?_
      refine lv_topi (fun v9 e9 => ?_)
      obtain rfl : v9 = (nI (24 * r1 + i0 + i)) := e9.trans (nI_add _ _)
      clear e9
      refine va_lald hx hb hK hP 4 1 rfl rfl (vp_in_nI (by omega) (by omega)) dX2_goes_85 ?_
      refine lv_topl (fun v9 e9 => ?_)
      obtain rfl : v9 = (hy_va S (r1 + 1) (i0 + i)) := e9.trans (by rw [nI_clamp (by omega), show 24 * r1 + i0 + i = 24 * r1 + (i0 + i) by omega]; exact hy_st_at (S := S) (by omega))
      clear e9
      refine va_last hx hb hK hP hD hS 5 1 rfl rfl (vp_in_nI (by omega) (by omega)) dX2_goes_86 (fun H locs hP hD hS => ?_)
      have hP : va_P D vwCl (hy_M cI cJ n0 bM sM zM tM xM kM wM eM (hy_ulm S 0) th (vp_updL tk (nI i).toNatClampNeg (hy_va S (r1 + 1) (i0 + i)))) H := by rw [← hy_M_utk]; exact hP
      have hD : va_D A (hy_M cI cJ n0 bM sM zM tM xM kM wM eM (hy_ulm S 0) th (vp_updL tk (nI i).toNatClampNeg (hy_va S (r1 + 1) (i0 + i)))) := by rw [← hy_M_utk]; exact hD
      refine lv_iinc (v := (nI (i + 1))) (lv' := [(10, .int (nI (i + 1))), (0, .ref n0), (1, .int a1), (2, .int (nI i0)), (3, .int a3), (4, .int (nI j0)), (5, .int (nI m0)), (7, .int (nI (24 * r1 + i0))), (8, .int (nI (24 * r2 + j0))), (9, .int (hy_so S (r2 + 1)))]) hx hb dX2_goes_87 hl (k := 0) rfl (nI_1 i) (by decide) rfl (fun ls hl => ?_)
      refine lv_goto (tgt := 63) hx hb dX2_goes_90 (by decide) ?_
      exact ih H locs ls ⟨(vp_updL tk (nI i).toNatClampNeg (hy_va S (r1 + 1) (i0 + i))), lv_sub hl [0, 1, 2, 3, 4, 5, 6, 7, 8, 9] rfl, hP, hD, hS, fun q hq => by
        rw [nI_clamp (by omega)]
        by_cases hqi : q = i
        · rw [hqi]; exact pk_uLs
        · rw [pk_uLn hqi]; exact htk q (by omega)⟩
  · -- 23
    refine lv_iload hx hb dX2_goes_23 (lv_at hl 0 rfl) ?_
    have hC := hy_C_end (hy_C_bar c_20 : hy_C S a1 a2 a3 a4 a5 = _)
    have eS : (hy_M cI cJ n0 bM sM zM tM xM kM wM eM (hy_ulm S 0) th tk) = (hy_M cI cJ n0 bM sM zM tM xM kM wM eM (hy_gS S a1 a2 a3 a4 a5) th tk) := congrArg (fun s9 => hy_M cI cJ n0 bM sM zM tM xM kM wM eM s9 th tk) hC.1
    have hPz : va_P D vwCl (hy_M cI cJ n0 bM sM zM tM xM kM wM eM (hy_gS S a1 a2 a3 a4 a5) th tk) H := by rw [← eS]; exact hP
    have hDz : va_D A (hy_M cI cJ n0 bM sM zM tM xM kM wM eM (hy_gS S a1 a2 a3 a4 a5) th tk) := by rw [← eS]; exact hD
    exact W.iret (v := (hy_cbar S (hy_bx S a1.toNatClampNeg) (hy_bx S a3.toNatClampNeg) a2 a4 a5)) hx hb hr (fun t ht hW => ⟨⟨_, (), rfl, hC.2, tk, by rw [ht]; exact hPz, va_K.moved hW.alike hK, hDz⟩, hS.F ht⟩) hS.2.2 dX2_goes_25
