/-! THE REFERENCE: row. Rows laid by gen.py, mrow.py. -/
set_option maxHeartbeats 4000000 in
set_option maxRecDepth 100000 in
theorem c_X2_row (l : Launch) (D : va_G) (cI cJ cB : ClassId) (n0 bM sM zM tM xM kM wM eM : Nat) (S : hy_S) (th : Int32) (tk : Nat → Int64) (hwf : hy_wf S) (sz : Nat) (a1 a2 a3 : Int32) : Met l yX2_row wsX2_row ({ frames := 1, cells := 0, slots := 0, locals := 21 }) (va_Pc [.ref n0, .int a1, .int a2, .int a3] (hy_JM D cI cJ cB n0 bM sM zM tM xM kM wM eM S th tk sz)) (va_Qi (fun (r9 : Int32) (_ : Unit) => (hy_krw S a1 a2 a3 = 0 → r9 = hy_vrow S a1)) (fun _ => hy_AtM D cI cJ cB n0 bM sM zM tM xM kM wM eM (hy_if (hy_krw S a1 a2 a3) (hy_srow S a1 a2 a3) S) (hy_krw S a1 a2 a3) (va_A (hy_M cI cJ n0 bM sM zM tM xM kM wM eM S th tk) sz)) (va_A (hy_M cI cJ n0 bM sM zM tM xM kM wM eM S th tk) sz)) 0 0 (va_A (hy_M cI cJ n0 bM sM zM tM xM kM wM eM S th tk) sz) := by
  refine Met.ofW (cc := cX2_row) (maxL := 7) (ret := (some .boolean)) (by decide) rfl ?_
  intro p e s m args below meth c s₁ B hml hv
  obtain ⟨rfl, hsz, ⟨hP, hK⟩, hD0⟩ := hv
  have hx := B.exec
  have hb := B.bytes
  have hr := B.returns
  have hts := atoms_spec (ws := wsX2_row) B.pre
  have hown : s.vm.findClass RX2 = some m.cls := findClass_of_methodNamed B.named
  have hlocks := B.notSynchronized
  subst hsz
  have hD := hD0.self (sz := s.heap.size)
  generalize hAe : va_A (hy_M cI cJ n0 bM sM zM tM xM kM wM eM S th tk) s.heap.size = A at hD ⊢
  have hA : ∀ q : Nat, s.heap.size ≤ q → A q := fun q h => by rw [← hAe]; exact Or.inr h
  have hS : va_S A s.heap s.heap [] := va_S.rf
  have hinX2 : ∀ w ∈ wsX20, w ∈ wsX2_row := by decide +kernel
  have hl := lv_entry ([.ref n0, .int a1, .int a2, .int a3]) (n := 7) (Nat.le_of_ble_eq_true rfl)
  rw [lg_entry_eq]
  generalize (lg_sl ([.ref n0, .int a1, .int a2, .int a3]) ++ List.replicate (7 - (lg_sl ([.ref n0, .int a1, .int a2, .int a3])).length) Slot.unset).toArray = ls at hl ⊢
  have hl : lv_has ls 7 [(0, .ref n0), (1, .int a1), (2, .int a2), (3, .int a3)] := hl
  refine lv_aload_n hx hb dX2_row_0 rfl (lv_at hl 0 rfl) ?_
  refine lv_iconst (v := 0) hx hb dX2_row_1 (by decide) ?_
  refine va_put (D := D) (ci := 2) (v := .int 0) (ty := .int) (C := RX2) (T := TX2) (N := 14) hx hb hts hinX2 tyX2 tyX2_ok nmX2 hown hK hP hD hS 0 rfl rfl 0 (by decide) (hts (.fieldLink RX2 35 "HiveYardModel" "thrown" "I") (by decide +kernel)) (fun _ h9 => h9) rfl (by decide +kernel) rfl rfl (Nat.le_of_ble_eq_true rfl) dX2_row_2 (fun H locs hP hD hS => ?_)
  have hP : va_P D vwCl (hy_M cI cJ n0 bM sM zM tM xM kM wM eM S 0 tk) H := by rw [← hy_M_uth]; exact hP
  have hD : va_D A (hy_M cI cJ n0 bM sM zM tM xM kM wM eM S 0 tk) := by rw [← hy_M_uth]; exact hD
  refine lv_iload_n hx hb dX2_row_5 rfl (lv_at hl 1 rfl) ?_
  refine vp_callSi (W.runS (As := [.int a1]) (rest := []) ⟨hx, hb, hml, hown, hts⟩ (c_X2_isBox l a1) (va_cwS 1 hts gX2_row_X2_isBox rfl rfl rfl (by decide +kernel) ⟨Nat.le_of_ble_eq_true rfl, Nat.le_of_ble_eq_true rfl⟩) ⟨fun _ _ _ _ q => q, fun U hU hW => ⟨rfl, trivial⟩⟩ rfl rfl hl.1 rfl (lv_room (Nat.le_of_ble_eq_true rfl)) dX2_row_6 ⟨Nat.le_of_ble_eq_true rfl, Nat.le_of_ble_eq_true rfl⟩) (fun v9 e9 => ?_)
  subst e9
  refine lv_if_ne (tgt := 26) hx hb dX2_row_9 (by decide) (fun c_9 => ?_) (fun c_9 => ?_)
  · -- 26
    have ok9 : hy_ok a1 := hy_misbox_ok c_9
    refine lv_iload_n hx hb dX2_row_26 rfl (lv_at hl 2 rfl) ?_
    refine lv_if_lt (tgt := 46) hx hb dX2_row_27 (by decide) (fun c_27 => ?_) (fun c_27 => ?_)
    · -- 46
      refine lv_aload_n hx hb dX2_row_46 rfl (lv_at hl 0 rfl) ?_
      refine lv_iconst (v := 2) hx hb dX2_row_47 (by decide) ?_
      have hFc := hy_free hD hS hA
      refine va_calli (va_runV (As := [.int 2]) (rest := []) ⟨hx, hb, hml, hown, hts⟩ (c_X2_fail l D cI cJ cB n0 bM sM zM tM xM kM wM eM S 0 tk H.size 2) (cwV 1 hts gX2_row_X2_fail rfl rfl rfl (by decide +kernel) ⟨Nat.le_of_ble_eq_true rfl, Nat.le_of_ble_eq_true rfl⟩) ⟨hy_JM_blind, va_recv hK hP (ci := 2) (q0 := 0) rfl rfl, fun U hU hW => ⟨rfl, by rw [hU], hy_J_at hU hW hP hK, hD.weaken (fun _ _ _ _ => trivial)⟩⟩ rfl rfl hl.1 rfl (lv_room (Nat.le_of_ble_eq_true rfl)) dX2_row_48 ⟨Nat.le_of_ble_eq_true rfl, Nat.le_of_ble_eq_true rfl⟩) hS (fun q _ h => hFc q h) hFc (fun v9 u t H locs ht hvm hw hB hz1 hk1 hS => ?_)
      obtain ⟨tk48, hP1, hK1, hD1⟩ := hB
      rw [ht] at hP1
      have hP : va_P D vwCl (hy_M cI cJ n0 bM sM zM tM xM kM wM eM S 2 tk48) H := hP1
      have hD : va_D A (hy_M cI cJ n0 bM sM zM tM xM kM wM eM S 2 tk48) := hD1.weaken (fun _ q _ h => hFc q.1 h)
      clear hP1 hK1 hD1 hFc
      subst hw
      refine lv_if_le (tgt := 58) hx hb dX2_row_51 (by decide) (fun c_51 => ?_) (fun c9 => absurd c9 (fun c => c (by decide)))
      refine lv_iconst (v := 0) hx hb dX2_row_58 (by decide) ?_
      have hk9 : hy_krw S a1 a2 a3 = 2 := hy_krw_2 ok9 (by first | exact Or.inl c_27 | exact Or.inr (Or.inl c_33) | exact Or.inr (Or.inr (Or.inl c_37)) | exact Or.inr (Or.inr (Or.inr c_43)))
      have eS : (hy_M cI cJ n0 bM sM zM tM xM kM wM eM S 2 tk48) = (hy_M cI cJ n0 bM sM zM tM xM kM wM eM (hy_if (hy_krw S a1 a2 a3) (hy_srow S a1 a2 a3) S) (hy_krw S a1 a2 a3) tk48) := by rw [hk9]; exact congrArg (fun s9 => hy_M cI cJ n0 bM sM zM tM xM kM wM eM s9 2 tk48) (hy_if_n (by decide) _ _).symm
      have hPz : va_P D vwCl (hy_M cI cJ n0 bM sM zM tM xM kM wM eM (hy_if (hy_krw S a1 a2 a3) (hy_srow S a1 a2 a3) S) (hy_krw S a1 a2 a3) tk48) H := by rw [← eS]; exact hP
      have hDz : va_D A (hy_M cI cJ n0 bM sM zM tM xM kM wM eM (hy_if (hy_krw S a1 a2 a3) (hy_srow S a1 a2 a3) S) (hy_krw S a1 a2 a3) tk48) := by rw [← eS]; exact hD
      exact W.zret (v := 0) (ty := .boolean) hx hb hr (by decide +kernel) (fun t ht hW => ⟨⟨_, (), rfl, fun q => absurd (hk9.symm.trans q) (by decide), tk48, by rw [ht]; exact hPz, va_K.moved hW.alike hK, hDz⟩, hS.F ht⟩) hS.2.2 dX2_row_59
    · -- 30
      refine lv_iload_n hx hb dX2_row_30 rfl (lv_at hl 2 rfl) ?_
      refine lv_bipush (v := 8) hx hb dX2_row_31 (by decide) ?_
      refine lv_icmp_ge (tgt := 46) hx hb dX2_row_33 (by decide) (fun c_33 => ?_) (fun c_33 => ?_)
      · -- 46
        refine lv_aload_n hx hb dX2_row_46 rfl (lv_at hl 0 rfl) ?_
        refine lv_iconst (v := 2) hx hb dX2_row_47 (by decide) ?_
        have hFc := hy_free hD hS hA
        refine va_calli (va_runV (As := [.int 2]) (rest := []) ⟨hx, hb, hml, hown, hts⟩ (c_X2_fail l D cI cJ cB n0 bM sM zM tM xM kM wM eM S 0 tk H.size 2) (cwV 1 hts gX2_row_X2_fail rfl rfl rfl (by decide +kernel) ⟨Nat.le_of_ble_eq_true rfl, Nat.le_of_ble_eq_true rfl⟩) ⟨hy_JM_blind, va_recv hK hP (ci := 2) (q0 := 0) rfl rfl, fun U hU hW => ⟨rfl, by rw [hU], hy_J_at hU hW hP hK, hD.weaken (fun _ _ _ _ => trivial)⟩⟩ rfl rfl hl.1 rfl (lv_room (Nat.le_of_ble_eq_true rfl)) dX2_row_48 ⟨Nat.le_of_ble_eq_true rfl, Nat.le_of_ble_eq_true rfl⟩) hS (fun q _ h => hFc q h) hFc (fun v9 u t H locs ht hvm hw hB hz1 hk1 hS => ?_)
        obtain ⟨tk48, hP1, hK1, hD1⟩ := hB
        rw [ht] at hP1
        have hP : va_P D vwCl (hy_M cI cJ n0 bM sM zM tM xM kM wM eM S 2 tk48) H := hP1
        have hD : va_D A (hy_M cI cJ n0 bM sM zM tM xM kM wM eM S 2 tk48) := hD1.weaken (fun _ q _ h => hFc q.1 h)
        clear hP1 hK1 hD1 hFc
        subst hw
        refine lv_if_le (tgt := 58) hx hb dX2_row_51 (by decide) (fun c_51 => ?_) (fun c9 => absurd c9 (fun c => c (by decide)))
        refine lv_iconst (v := 0) hx hb dX2_row_58 (by decide) ?_
        have hk9 : hy_krw S a1 a2 a3 = 2 := hy_krw_2 ok9 (by first | exact Or.inl c_27 | exact Or.inr (Or.inl c_33) | exact Or.inr (Or.inr (Or.inl c_37)) | exact Or.inr (Or.inr (Or.inr c_43)))
        have eS : (hy_M cI cJ n0 bM sM zM tM xM kM wM eM S 2 tk48) = (hy_M cI cJ n0 bM sM zM tM xM kM wM eM (hy_if (hy_krw S a1 a2 a3) (hy_srow S a1 a2 a3) S) (hy_krw S a1 a2 a3) tk48) := by rw [hk9]; exact congrArg (fun s9 => hy_M cI cJ n0 bM sM zM tM xM kM wM eM s9 2 tk48) (hy_if_n (by decide) _ _).symm
        have hPz : va_P D vwCl (hy_M cI cJ n0 bM sM zM tM xM kM wM eM (hy_if (hy_krw S a1 a2 a3) (hy_srow S a1 a2 a3) S) (hy_krw S a1 a2 a3) tk48) H := by rw [← eS]; exact hP
        have hDz : va_D A (hy_M cI cJ n0 bM sM zM tM xM kM wM eM (hy_if (hy_krw S a1 a2 a3) (hy_srow S a1 a2 a3) S) (hy_krw S a1 a2 a3) tk48) := by rw [← eS]; exact hD
        exact W.zret (v := 0) (ty := .boolean) hx hb hr (by decide +kernel) (fun t ht hW => ⟨⟨_, (), rfl, fun q => absurd (hk9.symm.trans q) (by decide), tk48, by rw [ht]; exact hPz, va_K.moved hW.alike hK, hDz⟩, hS.F ht⟩) hS.2.2 dX2_row_59
      · -- 36
        refine lv_iload_n hx hb dX2_row_36 rfl (lv_at hl 3 rfl) ?_
        refine lv_if_lt (tgt := 46) hx hb dX2_row_37 (by decide) (fun c_37 => ?_) (fun c_37 => ?_)
        · -- 46
          refine lv_aload_n hx hb dX2_row_46 rfl (lv_at hl 0 rfl) ?_
          refine lv_iconst (v := 2) hx hb dX2_row_47 (by decide) ?_
          have hFc := hy_free hD hS hA
          refine va_calli (va_runV (As := [.int 2]) (rest := []) ⟨hx, hb, hml, hown, hts⟩ (c_X2_fail l D cI cJ cB n0 bM sM zM tM xM kM wM eM S 0 tk H.size 2) (cwV 1 hts gX2_row_X2_fail rfl rfl rfl (by decide +kernel) ⟨Nat.le_of_ble_eq_true rfl, Nat.le_of_ble_eq_true rfl⟩) ⟨hy_JM_blind, va_recv hK hP (ci := 2) (q0 := 0) rfl rfl, fun U hU hW => ⟨rfl, by rw [hU], hy_J_at hU hW hP hK, hD.weaken (fun _ _ _ _ => trivial)⟩⟩ rfl rfl hl.1 rfl (lv_room (Nat.le_of_ble_eq_true rfl)) dX2_row_48 ⟨Nat.le_of_ble_eq_true rfl, Nat.le_of_ble_eq_true rfl⟩) hS (fun q _ h => hFc q h) hFc (fun v9 u t H locs ht hvm hw hB hz1 hk1 hS => ?_)
          obtain ⟨tk48, hP1, hK1, hD1⟩ := hB
          rw [ht] at hP1
          have hP : va_P D vwCl (hy_M cI cJ n0 bM sM zM tM xM kM wM eM S 2 tk48) H := hP1
          have hD : va_D A (hy_M cI cJ n0 bM sM zM tM xM kM wM eM S 2 tk48) := hD1.weaken (fun _ q _ h => hFc q.1 h)
          clear hP1 hK1 hD1 hFc
          subst hw
          refine lv_if_le (tgt := 58) hx hb dX2_row_51 (by decide) (fun c_51 => ?_) (fun c9 => absurd c9 (fun c => c (by decide)))
          refine lv_iconst (v := 0) hx hb dX2_row_58 (by decide) ?_
          have hk9 : hy_krw S a1 a2 a3 = 2 := hy_krw_2 ok9 (by first | exact Or.inl c_27 | exact Or.inr (Or.inl c_33) | exact Or.inr (Or.inr (Or.inl c_37)) | exact Or.inr (Or.inr (Or.inr c_43)))
          have eS : (hy_M cI cJ n0 bM sM zM tM xM kM wM eM S 2 tk48) = (hy_M cI cJ n0 bM sM zM tM xM kM wM eM (hy_if (hy_krw S a1 a2 a3) (hy_srow S a1 a2 a3) S) (hy_krw S a1 a2 a3) tk48) := by rw [hk9]; exact congrArg (fun s9 => hy_M cI cJ n0 bM sM zM tM xM kM wM eM s9 2 tk48) (hy_if_n (by decide) _ _).symm
          have hPz : va_P D vwCl (hy_M cI cJ n0 bM sM zM tM xM kM wM eM (hy_if (hy_krw S a1 a2 a3) (hy_srow S a1 a2 a3) S) (hy_krw S a1 a2 a3) tk48) H := by rw [← eS]; exact hP
          have hDz : va_D A (hy_M cI cJ n0 bM sM zM tM xM kM wM eM (hy_if (hy_krw S a1 a2 a3) (hy_srow S a1 a2 a3) S) (hy_krw S a1 a2 a3) tk48) := by rw [← eS]; exact hD
          exact W.zret (v := 0) (ty := .boolean) hx hb hr (by decide +kernel) (fun t ht hW => ⟨⟨_, (), rfl, fun q => absurd (hk9.symm.trans q) (by decide), tk48, by rw [ht]; exact hPz, va_K.moved hW.alike hK, hDz⟩, hS.F ht⟩) hS.2.2 dX2_row_59
        · -- 40
          refine lv_iload_n hx hb dX2_row_40 rfl (lv_at hl 3 rfl) ?_
          refine lv_bipush (v := 24) hx hb dX2_row_41 (by decide) ?_
          refine lv_icmp_le (tgt := 60) hx hb dX2_row_43 (by decide) (fun c_43 => ?_) (fun c_43 => ?_)
          · -- 60
            refine lv_aload_n hx hb dX2_row_60 rfl (lv_at hl 0 rfl) ?_
            refine va_get (D := D) (ci := 2) (v := .int (nI (hy_nr S))) (C := RX2) (T := TX2) (N := 14) hx hb hts hinX2 hown hK hP 0 rfl rfl 2 (by decide) (hts (.fieldLink RX2 47 "HiveYardModel" "rows" "I") (by decide +kernel)) (fun _ h9 => h9) rfl dX2_row_61 ?_
            refine lv_sipush (v := 300) hx hb dX2_row_64 (by decide) ?_
            refine lv_icmp_ne (tgt := 84) hx hb dX2_row_67 (by decide) (fun c_67 => ?_) (fun c_67 => ?_)
            · -- 84
              have hnr := (hy_nr_ne hwf c_67).2
              obtain ⟨m0, hm0, rfl⟩ := nI_of2 (M := 24) (n := 24) rfl c_37 c_43
              refine lv_aload_n hx hb dX2_row_84 rfl (lv_at hl 0 rfl) ?_
              refine va_get (D := D) (ci := 2) (v := .ref bM) (C := RX2) (T := TX2) (N := 14) hx hb hts hinX2 hown hK hP 0 rfl rfl 1 (by decide) (hts (.fieldLink RX2 7 "HiveYardModel" "boxes" "[I") (by decide +kernel)) (fun _ h9 => h9) rfl dX2_row_85 ?_
              refine lv_iload_n hx hb dX2_row_88 rfl (lv_at hl 1 rfl) ?_
              refine va_iald hx hb hK hP 1 0 rfl rfl (hy_ok_in ok9) dX2_row_89 ?_
              refine lv_iconst (v := (-1)) hx hb dX2_row_90 (by decide) ?_
              refine lv_icmp_ne (tgt := 98) hx hb dX2_row_91 (by decide) (fun c_91 => ?_) (fun c_91 => ?_)
              · -- 98
                refine lv_iconst (v := 0) hx hb dX2_row_98 (by decide) ?_
                refine lv_istore (lv' := [(4, .int 0), (0, .ref n0), (1, .int a1), (2, .int a2), (3, .int (nI m0))]) hx hb dX2_row_99 hl (by decide) rfl (fun ls hl => ?_)
                refine lv_aload_n hx hb dX2_row_101 rfl (lv_at hl 1 rfl) ?_
                refine va_get (D := D) (ci := 2) (v := .int (nI (hy_nr S))) (C := RX2) (T := TX2) (N := 14) hx hb hts hinX2 hown hK hP 0 rfl rfl 2 (by decide) (hts (.fieldLink RX2 47 "HiveYardModel" "rows" "I") (by decide +kernel)) (fun _ h9 => h9) rfl dX2_row_102 ?_
                refine lv_istore (lv' := [(5, .int (nI (hy_nr S))), (4, .int 0), (0, .ref n0), (1, .int a1), (2, .int a2), (3, .int (nI m0))]) hx hb dX2_row_105 hl (by decide) rfl (fun ls hl => ?_)
                refine lv_aload_n hx hb dX2_row_107 rfl (lv_at hl 2 rfl) ?_
                refine lv_dup hx hb dX2_row_108 rfl ?_
                refine va_get (D := D) (ci := 2) (v := .int (nI (hy_nr S))) (C := RX2) (T := TX2) (N := 14) hx hb hts hinX2 hown hK hP 0 rfl rfl 2 (by decide) (hts (.fieldLink RX2 47 "HiveYardModel" "rows" "I") (by decide +kernel)) (fun _ h9 => h9) rfl dX2_row_109 ?_
                refine lv_iconst (v := 1) hx hb dX2_row_112 (by decide) ?_
                refine lv_iadd hx hb dX2_row_113 ?_
                refine lv_topi (fun v9 e9 => ?_)
                obtain rfl : v9 = (nI (hy_nr S + 1)) := e9.trans (nI_1 _)
                clear e9
                refine va_put (D := D) (ci := 2) (v := .int (nI (hy_nr S + 1))) (ty := .int) (C := RX2) (T := TX2) (N := 14) hx hb hts hinX2 tyX2 tyX2_ok nmX2 hown hK hP hD hS 0 rfl rfl 2 (by decide) (hts (.fieldLink RX2 47 "HiveYardModel" "rows" "I") (by decide +kernel)) (fun _ h9 => h9) rfl (by decide +kernel) rfl rfl (Nat.le_of_ble_eq_true rfl) dX2_row_114 (fun H locs hP hD hS => ?_)
                have hP : va_P D vwCl (hy_M cI cJ n0 bM sM zM tM xM kM wM eM (hy_unr S (hy_nr S + 1)) 0 tk) H := by rw [← hy_M_unr]; exact hP
                have hD : va_D A (hy_M cI cJ n0 bM sM zM tM xM kM wM eM (hy_unr S (hy_nr S + 1)) 0 tk) := by rw [← hy_M_unr]; exact hD
                refine lv_aload_n hx hb dX2_row_117 rfl (lv_at hl 2 rfl) ?_
                refine va_get (D := D) (ci := 2) (v := .ref sM) (C := RX2) (T := TX2) (N := 14) hx hb hts hinX2 hown hK hP 0 rfl rfl 3 (by decide) (hts (.fieldLink RX2 13 "HiveYardModel" "sorts" "[I") (by decide +kernel)) (fun _ h9 => h9) rfl dX2_row_118 ?_
                refine lv_iload hx hb dX2_row_121 (lv_at hl 0 rfl) ?_
                refine lv_iload_n hx hb dX2_row_123 rfl (lv_at hl 4 rfl) ?_
                refine va_iast hx hb hK hP hD hS 2 0 rfl rfl (vp_in_nI (by omega) (by omega)) dX2_row_124 (fun H locs hP hD hS => ?_)
                rw [nI_clamp (n := (hy_nr S)) (by omega)] at hP hD
                have hP : va_P D vwCl (hy_M cI cJ n0 bM sM zM tM xM kM wM eM (hy_uso (hy_unr S (hy_nr S + 1)) (va_up (hy_so (hy_unr S (hy_nr S + 1))) ((hy_nr S) + 1) a2)) 0 tk) H := by rw [← hy_M_uso (hy_nr S) a2]; exact hP
                have hD : va_D A (hy_M cI cJ n0 bM sM zM tM xM kM wM eM (hy_uso (hy_unr S (hy_nr S + 1)) (va_up (hy_so (hy_unr S (hy_nr S + 1))) ((hy_nr S) + 1) a2)) 0 tk) := by rw [← hy_M_uso (hy_nr S) a2]; exact hD
                refine lv_aload_n hx hb dX2_row_125 rfl (lv_at hl 2 rfl) ?_
                refine va_get (D := D) (ci := 2) (v := .ref zM) (C := RX2) (T := TX2) (N := 14) hx hb hts hinX2 hown hK hP 0 rfl rfl 4 (by decide) (hts (.fieldLink RX2 16 "HiveYardModel" "sizes" "[I") (by decide +kernel)) (fun _ h9 => h9) rfl dX2_row_126 ?_
                refine lv_iload hx hb dX2_row_129 (lv_at hl 0 rfl) ?_
                refine lv_iload_n hx hb dX2_row_131 rfl (lv_at hl 5 rfl) ?_
                refine va_iast hx hb hK hP hD hS 3 0 rfl rfl (vp_in_nI (by omega) (by omega)) dX2_row_132 (fun H locs hP hD hS => ?_)
                rw [nI_clamp (n := (hy_nr S)) (by omega)] at hP hD
                have hP : va_P D vwCl (hy_M cI cJ n0 bM sM zM tM xM kM wM eM (hy_ule (hy_uso (hy_unr S (hy_nr S + 1)) (va_up (hy_so (hy_unr S (hy_nr S + 1))) ((hy_nr S) + 1) a2)) (va_up (hy_le (hy_uso (hy_unr S (hy_nr S + 1)) (va_up (hy_so (hy_unr S (hy_nr S + 1))) ((hy_nr S) + 1) a2))) ((hy_nr S) + 1) m0)) 0 tk) H := by rw [← hy_M_ule (hy_nr S) m0]; exact hP
                have hD : va_D A (hy_M cI cJ n0 bM sM zM tM xM kM wM eM (hy_ule (hy_uso (hy_unr S (hy_nr S + 1)) (va_up (hy_so (hy_unr S (hy_nr S + 1))) ((hy_nr S) + 1) a2)) (va_up (hy_le (hy_uso (hy_unr S (hy_nr S + 1)) (va_up (hy_so (hy_unr S (hy_nr S + 1))) ((hy_nr S) + 1) a2))) ((hy_nr S) + 1) m0)) 0 tk) := by rw [← hy_M_ule (hy_nr S) m0]; exact hD
                refine lv_iconst (v := 0) hx hb dX2_row_133 (by decide) ?_
                refine lv_istore (lv' := [(6, .int 0), (5, .int (nI (hy_nr S))), (4, .int 0), (0, .ref n0), (1, .int a1), (2, .int a2), (3, .int (nI m0))]) hx hb dX2_row_134 hl (by decide) rfl (fun ls hl => ?_)
                have eG : (hy_M cI cJ n0 bM sM zM tM xM kM wM eM (hy_ule (hy_uso (hy_unr S (hy_nr S + 1)) (va_up (hy_so (hy_unr S (hy_nr S + 1))) ((hy_nr S) + 1) a2)) (va_up (hy_le (hy_uso (hy_unr S (hy_nr S + 1)) (va_up (hy_so (hy_unr S (hy_nr S + 1))) ((hy_nr S) + 1) a2))) ((hy_nr S) + 1) m0)) 0 tk) = hy_M cI cJ n0 bM sM zM tM xM kM wM eM (hy_ri S a2 m0 (hy_nf (hy_miscombs a2) 0)) 0 tk := congrArg (fun s9 => hy_M cI cJ n0 bM sM zM tM xM kM wM eM s9 0 tk) (hy_ri0 hwf a2 m0 (hy_miscombs a2))
                rw [eG] at hP hD
                refine hy_forH (G := fun H locs ls => W p l e _ s m _ below meth c H locs _ _ _ (F0 m 136 ls [])) (H0 := H) (L0 := locs) (ls0 := ls) (fun i H locs ls => lv_has ls 7 [(6, .int (nI i)), (5, .int (nI (hy_nr S))), (4, .int 0), (0, .ref n0), (1, .int a1), (2, .int a2), (3, .int (nI m0))] ∧ va_P D vwCl (hy_M cI cJ n0 bM sM zM tM xM kM wM eM (hy_ri S a2 m0 (hy_nf (hy_miscombs a2) i)) 0 tk) H ∧ va_D A (hy_M cI cJ n0 bM sM zM tM xM kM wM eM (hy_ri S a2 m0 (hy_nf (hy_miscombs a2) i)) 0 tk) ∧ va_S A s.heap H locs) m0 ⟨lv_sub hl [0, 1, 2, 3, 4, 5, 6] rfl, hP, hD, hS⟩ (fun H locs ls hI => ?_) (fun i H locs ls hi hI ih => ?_)
                · -- exit
                  obtain ⟨hl, hP, hD, hS⟩ := hI
                  refine lv_iload hx hb dX2_row_136 (lv_at hl 0 rfl) ?_
                  refine lv_iload_n hx hb dX2_row_138 rfl (lv_at hl 6 rfl) ?_
                  refine lv_icmp_ge (tgt := 175) hx hb dX2_row_139 (by decide) (fun c_139 => ?_) (fun c9 => absurd c9 (fun c => c (Int32.le_refl _)))
                  refine lv_aload_n hx hb dX2_row_175 rfl (lv_at hl 3 rfl) ?_
                  refine va_get (D := D) (ci := 2) (v := .ref bM) (C := RX2) (T := TX2) (N := 14) hx hb hts hinX2 hown hK hP 0 rfl rfl 1 (by decide) (hts (.fieldLink RX2 7 "HiveYardModel" "boxes" "[I") (by decide +kernel)) (fun _ h9 => h9) rfl dX2_row_176 ?_
                  refine lv_iload_n hx hb dX2_row_179 rfl (lv_at hl 4 rfl) ?_
                  refine lv_iload hx hb dX2_row_180 (lv_at hl 1 rfl) ?_
                  refine va_iast hx hb hK hP hD hS 1 0 rfl rfl (hy_ok_in ok9) dX2_row_182 (fun H locs hP hD hS => ?_)
                  have hP : va_P D vwCl (hy_M cI cJ n0 bM sM zM tM xM kM wM eM (hy_ubx (hy_ri S a2 m0 (hy_nf (hy_miscombs a2) m0)) (va_up (hy_bx (hy_ri S a2 m0 (hy_nf (hy_miscombs a2) m0))) a1.toNatClampNeg (some ((hy_nr S) + 1)))) 0 tk) H := by rw [← hy_M_ubx a1.toNatClampNeg (some ((hy_nr S) + 1))]; exact hP
                  have hD : va_D A (hy_M cI cJ n0 bM sM zM tM xM kM wM eM (hy_ubx (hy_ri S a2 m0 (hy_nf (hy_miscombs a2) m0)) (va_up (hy_bx (hy_ri S a2 m0 (hy_nf (hy_miscombs a2) m0))) a1.toNatClampNeg (some ((hy_nr S) + 1)))) 0 tk) := by rw [← hy_M_ubx a1.toNatClampNeg (some ((hy_nr S) + 1))]; exact hD
                  refine lv_iload hx hb dX2_row_183 (lv_at hl 2 rfl) ?_
                  have hk9 : hy_krw S a1 a2 (nI m0) = 0 := (hy_krw_ok ok9 c_27 c_33 c_37 c_43).trans (if_pos (hy_nr_ne hwf c_67).1)
                  have eS : (hy_M cI cJ n0 bM sM zM tM xM kM wM eM (hy_ubx (hy_ri S a2 m0 (hy_nf (hy_miscombs a2) m0)) (va_up (hy_bx (hy_ri S a2 m0 (hy_nf (hy_miscombs a2) m0))) a1.toNatClampNeg (some ((hy_nr S) + 1)))) 0 tk) = (hy_M cI cJ n0 bM sM zM tM xM kM wM eM (hy_if (hy_krw S a1 a2 (nI m0)) (hy_srow S a1 a2 (nI m0)) S) (hy_krw S a1 a2 (nI m0)) tk) := by rw [hk9]; exact congrArg (fun s9 => hy_M cI cJ n0 bM sM zM tM xM kM wM eM s9 0 tk) (Eq.trans (by rw [hy_srow, nI_clamp (by omega), ← hy_new_nf c_27 c_33]; rfl : (hy_ubx (hy_ri S a2 m0 (hy_nf (hy_miscombs a2) m0)) (va_up (hy_bx (hy_ri S a2 m0 (hy_nf (hy_miscombs a2) m0))) a1.toNatClampNeg (some ((hy_nr S) + 1)))) = (hy_srow S a1 a2 (nI m0))) (hy_if_0 _ _).symm)
                  have hPz : va_P D vwCl (hy_M cI cJ n0 bM sM zM tM xM kM wM eM (hy_if (hy_krw S a1 a2 (nI m0)) (hy_srow S a1 a2 (nI m0)) S) (hy_krw S a1 a2 (nI m0)) tk) H := by rw [← eS]; exact hP
                  have hDz : va_D A (hy_M cI cJ n0 bM sM zM tM xM kM wM eM (hy_if (hy_krw S a1 a2 (nI m0)) (hy_srow S a1 a2 (nI m0)) S) (hy_krw S a1 a2 (nI m0)) tk) := by rw [← eS]; exact hD
                  exact W.zret (v := 0) (ty := .boolean) hx hb hr (by decide +kernel) (fun t ht hW => ⟨⟨_, (), rfl, fun _ => hy_vrow_0 hwf c_91, tk, by rw [ht]; exact hPz, va_K.moved hW.alike hK, hDz⟩, hS.F ht⟩) hS.2.2 dX2_row_185
                · -- step
                  obtain ⟨hl, hP, hD, hS⟩ := hI
                  refine lv_iload hx hb dX2_row_136 (lv_at hl 0 rfl) ?_
                  refine lv_iload_n hx hb dX2_row_138 rfl (lv_at hl 6 rfl) ?_
                  refine lv_icmp_ge (tgt := 175) hx hb dX2_row_139 (by decide) (fun c9 => absurd c9 (nI_ge hi (by omega))) (fun c_139 => ?_)
                  refine lv_aload_n hx hb dX2_row_142 rfl (lv_at hl 3 rfl) ?_
                  refine va_get (D := D) (ci := 2) (v := .ref tM) (C := RX2) (T := TX2) (N := 14) hx hb hts hinX2 hown hK hP 0 rfl rfl 5 (by decide) (hts (.fieldLink RX2 19 "HiveYardModel" "stands" "[J") (by decide +kernel)) (fun _ h9 => h9) rfl dX2_row_143 ?_
                  refine lv_bipush (v := 24) hx hb dX2_row_146 (by decide) ?_
                  refine lv_iload hx hb dX2_row_148 (lv_at hl 1 rfl) ?_
                  refine lv_imul hx hb dX2_row_150 ?_
                  refine lv_topi (fun v9 e9 => ?_)
                  obtain rfl : v9 = (nI (24 * (hy_nr S))) := e9.trans (hy_24 _)
                  clear e9
                  refine lv_iload hx hb dX2_row_151 (lv_at hl 0 rfl) ?_
                  refine lv_iadd hx hb dX2_row_153 ?_
                  refine lv_topi (fun v9 e9 => ?_)
                  obtain rfl : v9 = (nI (24 * (hy_nr S) + i)) := e9.trans (nI_add _ _)
                  clear e9
                  refine lv_iload_n hx hb dX2_row_154 rfl (lv_at hl 5 rfl) ?_
                  refine vp_callSi (W.runS (As := [.int a2]) (rest := [.int (nI (24 * (hy_nr S) + i)), .ref tM]) ⟨hx, hb, hml, hown, hts⟩ (c_X2_isOfCombs l a2) (va_cwS 1 hts gX2_row_X2_isOfCombs rfl rfl rfl (by decide +kernel) ⟨Nat.le_of_ble_eq_true rfl, Nat.le_of_ble_eq_true rfl⟩) ⟨fun _ _ _ _ q => q, fun U hU hW => ⟨rfl, trivial⟩⟩ rfl rfl hl.1 rfl (lv_room (Nat.le_of_ble_eq_true rfl)) dX2_row_155 ⟨Nat.le_of_ble_eq_true rfl, Nat.le_of_ble_eq_true rfl⟩) (fun v9 e9 => ?_)
                  subst e9
                  refine lv_if_eq (tgt := 167) hx hb dX2_row_158 (by decide) (fun c_158 => ?_) (fun c_158 => ?_)
                  · -- 167
                    refine lv_lconst (v := 0) hx hb dX2_row_167 (by decide) ?_
                    refine va_last hx hb hK hP hD hS 4 1 rfl rfl (vp_in_nI (by omega) (by omega)) dX2_row_168 (fun H locs hP hD hS => ?_)
                    rw [nI_clamp (n := 24 * (hy_nr S) + i) (by omega)] at hP hD
                    have hP : va_P D vwCl (hy_M cI cJ n0 bM sM zM tM xM kM wM eM (hy_uva (hy_ri S a2 m0 (hy_nf (hy_miscombs a2) i)) ((hy_nr S) + 1) (vp_updL (hy_va (hy_ri S a2 m0 (hy_nf (hy_miscombs a2) i)) ((hy_nr S) + 1)) i 0)) 0 tk) H := by rw [← hy_M_uva (S := (hy_ri S a2 m0 (hy_nf (hy_miscombs a2) i))) (r := (hy_nr S)) (k := i) (by omega) 0]; exact hP
                    have hD : va_D A (hy_M cI cJ n0 bM sM zM tM xM kM wM eM (hy_uva (hy_ri S a2 m0 (hy_nf (hy_miscombs a2) i)) ((hy_nr S) + 1) (vp_updL (hy_va (hy_ri S a2 m0 (hy_nf (hy_miscombs a2) i)) ((hy_nr S) + 1)) i 0)) 0 tk) := by rw [← hy_M_uva (S := (hy_ri S a2 m0 (hy_nf (hy_miscombs a2) i))) (r := (hy_nr S)) (k := i) (by omega) 0]; exact hD
                    refine lv_iinc (v := (nI (i + 1))) (lv' := [(6, .int (nI (i + 1))), (5, .int (nI (hy_nr S))), (4, .int 0), (0, .ref n0), (1, .int a1), (2, .int a2), (3, .int (nI m0))]) hx hb dX2_row_169 hl (k := 0) rfl (nI_1 i) (by decide) rfl (fun ls hl => ?_)
                    refine lv_goto (tgt := 136) hx hb dX2_row_172 (by decide) ?_
                    have eG := congrArg (fun s9 => hy_M cI cJ n0 bM sM zM tM xM kM wM eM s9 0 tk) (hy_ri1 S a2 m0 (hy_nf (hy_miscombs a2) i) (hy_nf (hy_miscombs a2) (i + 1)) i 0 (by rw [c_158]; exact hy_nf_up0 i))
                    have hP : va_P D vwCl (hy_M cI cJ n0 bM sM zM tM xM kM wM eM (hy_ri S a2 m0 (hy_nf (hy_miscombs a2) (i + 1))) 0 tk) H := by rw [← eG]; exact hP
                    have hD : va_D A (hy_M cI cJ n0 bM sM zM tM xM kM wM eM (hy_ri S a2 m0 (hy_nf (hy_miscombs a2) (i + 1))) 0 tk) := by rw [← eG]; exact hD
                    exact ih H locs ls ⟨lv_sub hl [0, 1, 2, 3, 4, 5, 6] rfl, hP, hD, hS⟩
                  · -- 161
                    refine lv_ldc2 (v := (-1)) hx hb hown (hts (.constantLong RX2 53 (-1)) (by decide +kernel)) dX2_row_161 ?_
                    refine lv_goto (tgt := 168) hx hb dX2_row_164 (by decide) ?_
                    refine va_last hx hb hK hP hD hS 4 1 rfl rfl (vp_in_nI (by omega) (by omega)) dX2_row_168 (fun H locs hP hD hS => ?_)
                    rw [nI_clamp (n := 24 * (hy_nr S) + i) (by omega)] at hP hD
                    have hP : va_P D vwCl (hy_M cI cJ n0 bM sM zM tM xM kM wM eM (hy_uva (hy_ri S a2 m0 (hy_nf (hy_miscombs a2) i)) ((hy_nr S) + 1) (vp_updL (hy_va (hy_ri S a2 m0 (hy_nf (hy_miscombs a2) i)) ((hy_nr S) + 1)) i (-1))) 0 tk) H := by rw [← hy_M_uva (S := (hy_ri S a2 m0 (hy_nf (hy_miscombs a2) i))) (r := (hy_nr S)) (k := i) (by omega) (-1)]; exact hP
                    have hD : va_D A (hy_M cI cJ n0 bM sM zM tM xM kM wM eM (hy_uva (hy_ri S a2 m0 (hy_nf (hy_miscombs a2) i)) ((hy_nr S) + 1) (vp_updL (hy_va (hy_ri S a2 m0 (hy_nf (hy_miscombs a2) i)) ((hy_nr S) + 1)) i (-1))) 0 tk) := by rw [← hy_M_uva (S := (hy_ri S a2 m0 (hy_nf (hy_miscombs a2) i))) (r := (hy_nr S)) (k := i) (by omega) (-1)]; exact hD
                    refine lv_iinc (v := (nI (i + 1))) (lv' := [(6, .int (nI (i + 1))), (5, .int (nI (hy_nr S))), (4, .int 0), (0, .ref n0), (1, .int a1), (2, .int a2), (3, .int (nI m0))]) hx hb dX2_row_169 hl (k := 0) rfl (nI_1 i) (by decide) rfl (fun ls hl => ?_)
                    refine lv_goto (tgt := 136) hx hb dX2_row_172 (by decide) ?_
                    have eG := congrArg (fun s9 => hy_M cI cJ n0 bM sM zM tM xM kM wM eM s9 0 tk) (hy_ri1 S a2 m0 (hy_nf (hy_miscombs a2) i) (hy_nf (hy_miscombs a2) (i + 1)) i (-1) (hy_nf_up1 c_158 i))
                    have hP : va_P D vwCl (hy_M cI cJ n0 bM sM zM tM xM kM wM eM (hy_ri S a2 m0 (hy_nf (hy_miscombs a2) (i + 1))) 0 tk) H := by rw [← eG]; exact hP
                    have hD : va_D A (hy_M cI cJ n0 bM sM zM tM xM kM wM eM (hy_ri S a2 m0 (hy_nf (hy_miscombs a2) (i + 1))) 0 tk) := by rw [← eG]; exact hD
                    exact ih H locs ls ⟨lv_sub hl [0, 1, 2, 3, 4, 5, 6] rfl, hP, hD, hS⟩
              · -- 94
                refine lv_iconst (v := 1) hx hb dX2_row_94 (by decide) ?_
                refine lv_goto (tgt := 99) hx hb dX2_row_95 (by decide) ?_
                refine lv_istore (lv' := [(4, .int 1), (0, .ref n0), (1, .int a1), (2, .int a2), (3, .int (nI m0))]) hx hb dX2_row_99 hl (by decide) rfl (fun ls hl => ?_)
                refine lv_aload_n hx hb dX2_row_101 rfl (lv_at hl 1 rfl) ?_
                refine va_get (D := D) (ci := 2) (v := .int (nI (hy_nr S))) (C := RX2) (T := TX2) (N := 14) hx hb hts hinX2 hown hK hP 0 rfl rfl 2 (by decide) (hts (.fieldLink RX2 47 "HiveYardModel" "rows" "I") (by decide +kernel)) (fun _ h9 => h9) rfl dX2_row_102 ?_
                refine lv_istore (lv' := [(5, .int (nI (hy_nr S))), (4, .int 1), (0, .ref n0), (1, .int a1), (2, .int a2), (3, .int (nI m0))]) hx hb dX2_row_105 hl (by decide) rfl (fun ls hl => ?_)
                refine lv_aload_n hx hb dX2_row_107 rfl (lv_at hl 2 rfl) ?_
                refine lv_dup hx hb dX2_row_108 rfl ?_
                refine va_get (D := D) (ci := 2) (v := .int (nI (hy_nr S))) (C := RX2) (T := TX2) (N := 14) hx hb hts hinX2 hown hK hP 0 rfl rfl 2 (by decide) (hts (.fieldLink RX2 47 "HiveYardModel" "rows" "I") (by decide +kernel)) (fun _ h9 => h9) rfl dX2_row_109 ?_
                refine lv_iconst (v := 1) hx hb dX2_row_112 (by decide) ?_
                refine lv_iadd hx hb dX2_row_113 ?_
                refine lv_topi (fun v9 e9 => ?_)
                obtain rfl : v9 = (nI (hy_nr S + 1)) := e9.trans (nI_1 _)
                clear e9
                refine va_put (D := D) (ci := 2) (v := .int (nI (hy_nr S + 1))) (ty := .int) (C := RX2) (T := TX2) (N := 14) hx hb hts hinX2 tyX2 tyX2_ok nmX2 hown hK hP hD hS 0 rfl rfl 2 (by decide) (hts (.fieldLink RX2 47 "HiveYardModel" "rows" "I") (by decide +kernel)) (fun _ h9 => h9) rfl (by decide +kernel) rfl rfl (Nat.le_of_ble_eq_true rfl) dX2_row_114 (fun H locs hP hD hS => ?_)
                have hP : va_P D vwCl (hy_M cI cJ n0 bM sM zM tM xM kM wM eM (hy_unr S (hy_nr S + 1)) 0 tk) H := by rw [← hy_M_unr]; exact hP
                have hD : va_D A (hy_M cI cJ n0 bM sM zM tM xM kM wM eM (hy_unr S (hy_nr S + 1)) 0 tk) := by rw [← hy_M_unr]; exact hD
                refine lv_aload_n hx hb dX2_row_117 rfl (lv_at hl 2 rfl) ?_
                refine va_get (D := D) (ci := 2) (v := .ref sM) (C := RX2) (T := TX2) (N := 14) hx hb hts hinX2 hown hK hP 0 rfl rfl 3 (by decide) (hts (.fieldLink RX2 13 "HiveYardModel" "sorts" "[I") (by decide +kernel)) (fun _ h9 => h9) rfl dX2_row_118 ?_
                refine lv_iload hx hb dX2_row_121 (lv_at hl 0 rfl) ?_
                refine lv_iload_n hx hb dX2_row_123 rfl (lv_at hl 4 rfl) ?_
                refine va_iast hx hb hK hP hD hS 2 0 rfl rfl (vp_in_nI (by omega) (by omega)) dX2_row_124 (fun H locs hP hD hS => ?_)
                rw [nI_clamp (n := (hy_nr S)) (by omega)] at hP hD
                have hP : va_P D vwCl (hy_M cI cJ n0 bM sM zM tM xM kM wM eM (hy_uso (hy_unr S (hy_nr S + 1)) (va_up (hy_so (hy_unr S (hy_nr S + 1))) ((hy_nr S) + 1) a2)) 0 tk) H := by rw [← hy_M_uso (hy_nr S) a2]; exact hP
                have hD : va_D A (hy_M cI cJ n0 bM sM zM tM xM kM wM eM (hy_uso (hy_unr S (hy_nr S + 1)) (va_up (hy_so (hy_unr S (hy_nr S + 1))) ((hy_nr S) + 1) a2)) 0 tk) := by rw [← hy_M_uso (hy_nr S) a2]; exact hD
                refine lv_aload_n hx hb dX2_row_125 rfl (lv_at hl 2 rfl) ?_
                refine va_get (D := D) (ci := 2) (v := .ref zM) (C := RX2) (T := TX2) (N := 14) hx hb hts hinX2 hown hK hP 0 rfl rfl 4 (by decide) (hts (.fieldLink RX2 16 "HiveYardModel" "sizes" "[I") (by decide +kernel)) (fun _ h9 => h9) rfl dX2_row_126 ?_
                refine lv_iload hx hb dX2_row_129 (lv_at hl 0 rfl) ?_
                refine lv_iload_n hx hb dX2_row_131 rfl (lv_at hl 5 rfl) ?_
                refine va_iast hx hb hK hP hD hS 3 0 rfl rfl (vp_in_nI (by omega) (by omega)) dX2_row_132 (fun H locs hP hD hS => ?_)
                rw [nI_clamp (n := (hy_nr S)) (by omega)] at hP hD
                have hP : va_P D vwCl (hy_M cI cJ n0 bM sM zM tM xM kM wM eM (hy_ule (hy_uso (hy_unr S (hy_nr S + 1)) (va_up (hy_so (hy_unr S (hy_nr S + 1))) ((hy_nr S) + 1) a2)) (va_up (hy_le (hy_uso (hy_unr S (hy_nr S + 1)) (va_up (hy_so (hy_unr S (hy_nr S + 1))) ((hy_nr S) + 1) a2))) ((hy_nr S) + 1) m0)) 0 tk) H := by rw [← hy_M_ule (hy_nr S) m0]; exact hP
                have hD : va_D A (hy_M cI cJ n0 bM sM zM tM xM kM wM eM (hy_ule (hy_uso (hy_unr S (hy_nr S + 1)) (va_up (hy_so (hy_unr S (hy_nr S + 1))) ((hy_nr S) + 1) a2)) (va_up (hy_le (hy_uso (hy_unr S (hy_nr S + 1)) (va_up (hy_so (hy_unr S (hy_nr S + 1))) ((hy_nr S) + 1) a2))) ((hy_nr S) + 1) m0)) 0 tk) := by rw [← hy_M_ule (hy_nr S) m0]; exact hD
                refine lv_iconst (v := 0) hx hb dX2_row_133 (by decide) ?_
                refine lv_istore (lv' := [(6, .int 0), (5, .int (nI (hy_nr S))), (4, .int 1), (0, .ref n0), (1, .int a1), (2, .int a2), (3, .int (nI m0))]) hx hb dX2_row_134 hl (by decide) rfl (fun ls hl => ?_)
                have eG : (hy_M cI cJ n0 bM sM zM tM xM kM wM eM (hy_ule (hy_uso (hy_unr S (hy_nr S + 1)) (va_up (hy_so (hy_unr S (hy_nr S + 1))) ((hy_nr S) + 1) a2)) (va_up (hy_le (hy_uso (hy_unr S (hy_nr S + 1)) (va_up (hy_so (hy_unr S (hy_nr S + 1))) ((hy_nr S) + 1) a2))) ((hy_nr S) + 1) m0)) 0 tk) = hy_M cI cJ n0 bM sM zM tM xM kM wM eM (hy_ri S a2 m0 (hy_nf (hy_miscombs a2) 0)) 0 tk := congrArg (fun s9 => hy_M cI cJ n0 bM sM zM tM xM kM wM eM s9 0 tk) (hy_ri0 hwf a2 m0 (hy_miscombs a2))
                rw [eG] at hP hD
                refine hy_forH (G := fun H locs ls => W p l e _ s m _ below meth c H locs _ _ _ (F0 m 136 ls [])) (H0 := H) (L0 := locs) (ls0 := ls) (fun i H locs ls => lv_has ls 7 [(6, .int (nI i)), (5, .int (nI (hy_nr S))), (4, .int 1), (0, .ref n0), (1, .int a1), (2, .int a2), (3, .int (nI m0))] ∧ va_P D vwCl (hy_M cI cJ n0 bM sM zM tM xM kM wM eM (hy_ri S a2 m0 (hy_nf (hy_miscombs a2) i)) 0 tk) H ∧ va_D A (hy_M cI cJ n0 bM sM zM tM xM kM wM eM (hy_ri S a2 m0 (hy_nf (hy_miscombs a2) i)) 0 tk) ∧ va_S A s.heap H locs) m0 ⟨lv_sub hl [0, 1, 2, 3, 4, 5, 6] rfl, hP, hD, hS⟩ (fun H locs ls hI => ?_) (fun i H locs ls hi hI ih => ?_)
                · -- exit
                  obtain ⟨hl, hP, hD, hS⟩ := hI
                  refine lv_iload hx hb dX2_row_136 (lv_at hl 0 rfl) ?_
                  refine lv_iload_n hx hb dX2_row_138 rfl (lv_at hl 6 rfl) ?_
                  refine lv_icmp_ge (tgt := 175) hx hb dX2_row_139 (by decide) (fun c_139 => ?_) (fun c9 => absurd c9 (fun c => c (Int32.le_refl _)))
                  refine lv_aload_n hx hb dX2_row_175 rfl (lv_at hl 3 rfl) ?_
                  refine va_get (D := D) (ci := 2) (v := .ref bM) (C := RX2) (T := TX2) (N := 14) hx hb hts hinX2 hown hK hP 0 rfl rfl 1 (by decide) (hts (.fieldLink RX2 7 "HiveYardModel" "boxes" "[I") (by decide +kernel)) (fun _ h9 => h9) rfl dX2_row_176 ?_
                  refine lv_iload_n hx hb dX2_row_179 rfl (lv_at hl 4 rfl) ?_
                  refine lv_iload hx hb dX2_row_180 (lv_at hl 1 rfl) ?_
                  refine va_iast hx hb hK hP hD hS 1 0 rfl rfl (hy_ok_in ok9) dX2_row_182 (fun H locs hP hD hS => ?_)
                  have hP : va_P D vwCl (hy_M cI cJ n0 bM sM zM tM xM kM wM eM (hy_ubx (hy_ri S a2 m0 (hy_nf (hy_miscombs a2) m0)) (va_up (hy_bx (hy_ri S a2 m0 (hy_nf (hy_miscombs a2) m0))) a1.toNatClampNeg (some ((hy_nr S) + 1)))) 0 tk) H := by rw [← hy_M_ubx a1.toNatClampNeg (some ((hy_nr S) + 1))]; exact hP
                  have hD : va_D A (hy_M cI cJ n0 bM sM zM tM xM kM wM eM (hy_ubx (hy_ri S a2 m0 (hy_nf (hy_miscombs a2) m0)) (va_up (hy_bx (hy_ri S a2 m0 (hy_nf (hy_miscombs a2) m0))) a1.toNatClampNeg (some ((hy_nr S) + 1)))) 0 tk) := by rw [← hy_M_ubx a1.toNatClampNeg (some ((hy_nr S) + 1))]; exact hD
                  refine lv_iload hx hb dX2_row_183 (lv_at hl 2 rfl) ?_
                  have hk9 : hy_krw S a1 a2 (nI m0) = 0 := (hy_krw_ok ok9 c_27 c_33 c_37 c_43).trans (if_pos (hy_nr_ne hwf c_67).1)
                  have eS : (hy_M cI cJ n0 bM sM zM tM xM kM wM eM (hy_ubx (hy_ri S a2 m0 (hy_nf (hy_miscombs a2) m0)) (va_up (hy_bx (hy_ri S a2 m0 (hy_nf (hy_miscombs a2) m0))) a1.toNatClampNeg (some ((hy_nr S) + 1)))) 0 tk) = (hy_M cI cJ n0 bM sM zM tM xM kM wM eM (hy_if (hy_krw S a1 a2 (nI m0)) (hy_srow S a1 a2 (nI m0)) S) (hy_krw S a1 a2 (nI m0)) tk) := by rw [hk9]; exact congrArg (fun s9 => hy_M cI cJ n0 bM sM zM tM xM kM wM eM s9 0 tk) (Eq.trans (by rw [hy_srow, nI_clamp (by omega), ← hy_new_nf c_27 c_33]; rfl : (hy_ubx (hy_ri S a2 m0 (hy_nf (hy_miscombs a2) m0)) (va_up (hy_bx (hy_ri S a2 m0 (hy_nf (hy_miscombs a2) m0))) a1.toNatClampNeg (some ((hy_nr S) + 1)))) = (hy_srow S a1 a2 (nI m0))) (hy_if_0 _ _).symm)
                  have hPz : va_P D vwCl (hy_M cI cJ n0 bM sM zM tM xM kM wM eM (hy_if (hy_krw S a1 a2 (nI m0)) (hy_srow S a1 a2 (nI m0)) S) (hy_krw S a1 a2 (nI m0)) tk) H := by rw [← eS]; exact hP
                  have hDz : va_D A (hy_M cI cJ n0 bM sM zM tM xM kM wM eM (hy_if (hy_krw S a1 a2 (nI m0)) (hy_srow S a1 a2 (nI m0)) S) (hy_krw S a1 a2 (nI m0)) tk) := by rw [← eS]; exact hD
                  exact W.zret (v := 1) (ty := .boolean) hx hb hr (by decide +kernel) (fun t ht hW => ⟨⟨_, (), rfl, fun _ => hy_vrow_1 hwf c_91, tk, by rw [ht]; exact hPz, va_K.moved hW.alike hK, hDz⟩, hS.F ht⟩) hS.2.2 dX2_row_185
                · -- step
                  obtain ⟨hl, hP, hD, hS⟩ := hI
                  refine lv_iload hx hb dX2_row_136 (lv_at hl 0 rfl) ?_
                  refine lv_iload_n hx hb dX2_row_138 rfl (lv_at hl 6 rfl) ?_
                  refine lv_icmp_ge (tgt := 175) hx hb dX2_row_139 (by decide) (fun c9 => absurd c9 (nI_ge hi (by omega))) (fun c_139 => ?_)
                  refine lv_aload_n hx hb dX2_row_142 rfl (lv_at hl 3 rfl) ?_
                  refine va_get (D := D) (ci := 2) (v := .ref tM) (C := RX2) (T := TX2) (N := 14) hx hb hts hinX2 hown hK hP 0 rfl rfl 5 (by decide) (hts (.fieldLink RX2 19 "HiveYardModel" "stands" "[J") (by decide +kernel)) (fun _ h9 => h9) rfl dX2_row_143 ?_
                  refine lv_bipush (v := 24) hx hb dX2_row_146 (by decide) ?_
                  refine lv_iload hx hb dX2_row_148 (lv_at hl 1 rfl) ?_
                  refine lv_imul hx hb dX2_row_150 ?_
                  refine lv_topi (fun v9 e9 => ?_)
                  obtain rfl : v9 = (nI (24 * (hy_nr S))) := e9.trans (hy_24 _)
                  clear e9
                  refine lv_iload hx hb dX2_row_151 (lv_at hl 0 rfl) ?_
                  refine lv_iadd hx hb dX2_row_153 ?_
                  refine lv_topi (fun v9 e9 => ?_)
                  obtain rfl : v9 = (nI (24 * (hy_nr S) + i)) := e9.trans (nI_add _ _)
                  clear e9
                  refine lv_iload_n hx hb dX2_row_154 rfl (lv_at hl 5 rfl) ?_
                  refine vp_callSi (W.runS (As := [.int a2]) (rest := [.int (nI (24 * (hy_nr S) + i)), .ref tM]) ⟨hx, hb, hml, hown, hts⟩ (c_X2_isOfCombs l a2) (va_cwS 1 hts gX2_row_X2_isOfCombs rfl rfl rfl (by decide +kernel) ⟨Nat.le_of_ble_eq_true rfl, Nat.le_of_ble_eq_true rfl⟩) ⟨fun _ _ _ _ q => q, fun U hU hW => ⟨rfl, trivial⟩⟩ rfl rfl hl.1 rfl (lv_room (Nat.le_of_ble_eq_true rfl)) dX2_row_155 ⟨Nat.le_of_ble_eq_true rfl, Nat.le_of_ble_eq_true rfl⟩) (fun v9 e9 => ?_)
                  subst e9
                  refine lv_if_eq (tgt := 167) hx hb dX2_row_158 (by decide) (fun c_158 => ?_) (fun c_158 => ?_)
                  · -- 167
                    refine lv_lconst (v := 0) hx hb dX2_row_167 (by decide) ?_
                    refine va_last hx hb hK hP hD hS 4 1 rfl rfl (vp_in_nI (by omega) (by omega)) dX2_row_168 (fun H locs hP hD hS => ?_)
                    rw [nI_clamp (n := 24 * (hy_nr S) + i) (by omega)] at hP hD
                    have hP : va_P D vwCl (hy_M cI cJ n0 bM sM zM tM xM kM wM eM (hy_uva (hy_ri S a2 m0 (hy_nf (hy_miscombs a2) i)) ((hy_nr S) + 1) (vp_updL (hy_va (hy_ri S a2 m0 (hy_nf (hy_miscombs a2) i)) ((hy_nr S) + 1)) i 0)) 0 tk) H := by rw [← hy_M_uva (S := (hy_ri S a2 m0 (hy_nf (hy_miscombs a2) i))) (r := (hy_nr S)) (k := i) (by omega) 0]; exact hP
                    have hD : va_D A (hy_M cI cJ n0 bM sM zM tM xM kM wM eM (hy_uva (hy_ri S a2 m0 (hy_nf (hy_miscombs a2) i)) ((hy_nr S) + 1) (vp_updL (hy_va (hy_ri S a2 m0 (hy_nf (hy_miscombs a2) i)) ((hy_nr S) + 1)) i 0)) 0 tk) := by rw [← hy_M_uva (S := (hy_ri S a2 m0 (hy_nf (hy_miscombs a2) i))) (r := (hy_nr S)) (k := i) (by omega) 0]; exact hD
                    refine lv_iinc (v := (nI (i + 1))) (lv' := [(6, .int (nI (i + 1))), (5, .int (nI (hy_nr S))), (4, .int 1), (0, .ref n0), (1, .int a1), (2, .int a2), (3, .int (nI m0))]) hx hb dX2_row_169 hl (k := 0) rfl (nI_1 i) (by decide) rfl (fun ls hl => ?_)
                    refine lv_goto (tgt := 136) hx hb dX2_row_172 (by decide) ?_
                    have eG := congrArg (fun s9 => hy_M cI cJ n0 bM sM zM tM xM kM wM eM s9 0 tk) (hy_ri1 S a2 m0 (hy_nf (hy_miscombs a2) i) (hy_nf (hy_miscombs a2) (i + 1)) i 0 (by rw [c_158]; exact hy_nf_up0 i))
                    have hP : va_P D vwCl (hy_M cI cJ n0 bM sM zM tM xM kM wM eM (hy_ri S a2 m0 (hy_nf (hy_miscombs a2) (i + 1))) 0 tk) H := by rw [← eG]; exact hP
                    have hD : va_D A (hy_M cI cJ n0 bM sM zM tM xM kM wM eM (hy_ri S a2 m0 (hy_nf (hy_miscombs a2) (i + 1))) 0 tk) := by rw [← eG]; exact hD
                    exact ih H locs ls ⟨lv_sub hl [0, 1, 2, 3, 4, 5, 6] rfl, hP, hD, hS⟩
                  · -- 161
                    refine lv_ldc2 (v := (-1)) hx hb hown (hts (.constantLong RX2 53 (-1)) (by decide +kernel)) dX2_row_161 ?_
                    refine lv_goto (tgt := 168) hx hb dX2_row_164 (by decide) ?_
                    refine va_last hx hb hK hP hD hS 4 1 rfl rfl (vp_in_nI (by omega) (by omega)) dX2_row_168 (fun H locs hP hD hS => ?_)
                    rw [nI_clamp (n := 24 * (hy_nr S) + i) (by omega)] at hP hD
                    have hP : va_P D vwCl (hy_M cI cJ n0 bM sM zM tM xM kM wM eM (hy_uva (hy_ri S a2 m0 (hy_nf (hy_miscombs a2) i)) ((hy_nr S) + 1) (vp_updL (hy_va (hy_ri S a2 m0 (hy_nf (hy_miscombs a2) i)) ((hy_nr S) + 1)) i (-1))) 0 tk) H := by rw [← hy_M_uva (S := (hy_ri S a2 m0 (hy_nf (hy_miscombs a2) i))) (r := (hy_nr S)) (k := i) (by omega) (-1)]; exact hP
                    have hD : va_D A (hy_M cI cJ n0 bM sM zM tM xM kM wM eM (hy_uva (hy_ri S a2 m0 (hy_nf (hy_miscombs a2) i)) ((hy_nr S) + 1) (vp_updL (hy_va (hy_ri S a2 m0 (hy_nf (hy_miscombs a2) i)) ((hy_nr S) + 1)) i (-1))) 0 tk) := by rw [← hy_M_uva (S := (hy_ri S a2 m0 (hy_nf (hy_miscombs a2) i))) (r := (hy_nr S)) (k := i) (by omega) (-1)]; exact hD
                    refine lv_iinc (v := (nI (i + 1))) (lv' := [(6, .int (nI (i + 1))), (5, .int (nI (hy_nr S))), (4, .int 1), (0, .ref n0), (1, .int a1), (2, .int a2), (3, .int (nI m0))]) hx hb dX2_row_169 hl (k := 0) rfl (nI_1 i) (by decide) rfl (fun ls hl => ?_)
                    refine lv_goto (tgt := 136) hx hb dX2_row_172 (by decide) ?_
                    have eG := congrArg (fun s9 => hy_M cI cJ n0 bM sM zM tM xM kM wM eM s9 0 tk) (hy_ri1 S a2 m0 (hy_nf (hy_miscombs a2) i) (hy_nf (hy_miscombs a2) (i + 1)) i (-1) (hy_nf_up1 c_158 i))
                    have hP : va_P D vwCl (hy_M cI cJ n0 bM sM zM tM xM kM wM eM (hy_ri S a2 m0 (hy_nf (hy_miscombs a2) (i + 1))) 0 tk) H := by rw [← eG]; exact hP
                    have hD : va_D A (hy_M cI cJ n0 bM sM zM tM xM kM wM eM (hy_ri S a2 m0 (hy_nf (hy_miscombs a2) (i + 1))) 0 tk) := by rw [← eG]; exact hD
                    exact ih H locs ls ⟨lv_sub hl [0, 1, 2, 3, 4, 5, 6] rfl, hP, hD, hS⟩
            · -- 70
              refine lv_aload_n hx hb dX2_row_70 rfl (lv_at hl 0 rfl) ?_
              refine lv_iconst (v := 3) hx hb dX2_row_71 (by decide) ?_
              have hFc := hy_free hD hS hA
              refine va_calli (va_runV (As := [.int 3]) (rest := []) ⟨hx, hb, hml, hown, hts⟩ (c_X2_fail l D cI cJ cB n0 bM sM zM tM xM kM wM eM S 0 tk H.size 3) (cwV 1 hts gX2_row_X2_fail rfl rfl rfl (by decide +kernel) ⟨Nat.le_of_ble_eq_true rfl, Nat.le_of_ble_eq_true rfl⟩) ⟨hy_JM_blind, va_recv hK hP (ci := 2) (q0 := 0) rfl rfl, fun U hU hW => ⟨rfl, by rw [hU], hy_J_at hU hW hP hK, hD.weaken (fun _ _ _ _ => trivial)⟩⟩ rfl rfl hl.1 rfl (lv_room (Nat.le_of_ble_eq_true rfl)) dX2_row_72 ⟨Nat.le_of_ble_eq_true rfl, Nat.le_of_ble_eq_true rfl⟩) hS (fun q _ h => hFc q h) hFc (fun v9 u t H locs ht hvm hw hB hz1 hk1 hS => ?_)
              obtain ⟨tk72, hP1, hK1, hD1⟩ := hB
              rw [ht] at hP1
              have hP : va_P D vwCl (hy_M cI cJ n0 bM sM zM tM xM kM wM eM S 3 tk72) H := hP1
              have hD : va_D A (hy_M cI cJ n0 bM sM zM tM xM kM wM eM S 3 tk72) := hD1.weaken (fun _ q _ h => hFc q.1 h)
              clear hP1 hK1 hD1 hFc
              subst hw
              refine lv_if_le (tgt := 82) hx hb dX2_row_75 (by decide) (fun c_75 => ?_) (fun c9 => absurd c9 (fun c => c (by decide)))
              refine lv_iconst (v := 0) hx hb dX2_row_82 (by decide) ?_
              have hk9 : hy_krw S a1 a2 a3 = 3 := (hy_krw_ok ok9 c_27 c_33 c_37 c_43).trans (if_neg (by rw [c_67]; decide))
              have eS : (hy_M cI cJ n0 bM sM zM tM xM kM wM eM S 3 tk72) = (hy_M cI cJ n0 bM sM zM tM xM kM wM eM (hy_if (hy_krw S a1 a2 a3) (hy_srow S a1 a2 a3) S) (hy_krw S a1 a2 a3) tk72) := by rw [hk9]; exact congrArg (fun s9 => hy_M cI cJ n0 bM sM zM tM xM kM wM eM s9 3 tk72) (hy_if_n (by decide) _ _).symm
              have hPz : va_P D vwCl (hy_M cI cJ n0 bM sM zM tM xM kM wM eM (hy_if (hy_krw S a1 a2 a3) (hy_srow S a1 a2 a3) S) (hy_krw S a1 a2 a3) tk72) H := by rw [← eS]; exact hP
              have hDz : va_D A (hy_M cI cJ n0 bM sM zM tM xM kM wM eM (hy_if (hy_krw S a1 a2 a3) (hy_srow S a1 a2 a3) S) (hy_krw S a1 a2 a3) tk72) := by rw [← eS]; exact hD
              exact W.zret (v := 0) (ty := .boolean) hx hb hr (by decide +kernel) (fun t ht hW => ⟨⟨_, (), rfl, fun q => absurd (hk9.symm.trans q) (by decide), tk72, by rw [ht]; exact hPz, va_K.moved hW.alike hK, hDz⟩, hS.F ht⟩) hS.2.2 dX2_row_83
          · -- 46
            refine lv_aload_n hx hb dX2_row_46 rfl (lv_at hl 0 rfl) ?_
            refine lv_iconst (v := 2) hx hb dX2_row_47 (by decide) ?_
            have hFc := hy_free hD hS hA
            refine va_calli (va_runV (As := [.int 2]) (rest := []) ⟨hx, hb, hml, hown, hts⟩ (c_X2_fail l D cI cJ cB n0 bM sM zM tM xM kM wM eM S 0 tk H.size 2) (cwV 1 hts gX2_row_X2_fail rfl rfl rfl (by decide +kernel) ⟨Nat.le_of_ble_eq_true rfl, Nat.le_of_ble_eq_true rfl⟩) ⟨hy_JM_blind, va_recv hK hP (ci := 2) (q0 := 0) rfl rfl, fun U hU hW => ⟨rfl, by rw [hU], hy_J_at hU hW hP hK, hD.weaken (fun _ _ _ _ => trivial)⟩⟩ rfl rfl hl.1 rfl (lv_room (Nat.le_of_ble_eq_true rfl)) dX2_row_48 ⟨Nat.le_of_ble_eq_true rfl, Nat.le_of_ble_eq_true rfl⟩) hS (fun q _ h => hFc q h) hFc (fun v9 u t H locs ht hvm hw hB hz1 hk1 hS => ?_)
            obtain ⟨tk48, hP1, hK1, hD1⟩ := hB
            rw [ht] at hP1
            have hP : va_P D vwCl (hy_M cI cJ n0 bM sM zM tM xM kM wM eM S 2 tk48) H := hP1
            have hD : va_D A (hy_M cI cJ n0 bM sM zM tM xM kM wM eM S 2 tk48) := hD1.weaken (fun _ q _ h => hFc q.1 h)
            clear hP1 hK1 hD1 hFc
            subst hw
            refine lv_if_le (tgt := 58) hx hb dX2_row_51 (by decide) (fun c_51 => ?_) (fun c9 => absurd c9 (fun c => c (by decide)))
            refine lv_iconst (v := 0) hx hb dX2_row_58 (by decide) ?_
            have hk9 : hy_krw S a1 a2 a3 = 2 := hy_krw_2 ok9 (by first | exact Or.inl c_27 | exact Or.inr (Or.inl c_33) | exact Or.inr (Or.inr (Or.inl c_37)) | exact Or.inr (Or.inr (Or.inr c_43)))
            have eS : (hy_M cI cJ n0 bM sM zM tM xM kM wM eM S 2 tk48) = (hy_M cI cJ n0 bM sM zM tM xM kM wM eM (hy_if (hy_krw S a1 a2 a3) (hy_srow S a1 a2 a3) S) (hy_krw S a1 a2 a3) tk48) := by rw [hk9]; exact congrArg (fun s9 => hy_M cI cJ n0 bM sM zM tM xM kM wM eM s9 2 tk48) (hy_if_n (by decide) _ _).symm
            have hPz : va_P D vwCl (hy_M cI cJ n0 bM sM zM tM xM kM wM eM (hy_if (hy_krw S a1 a2 a3) (hy_srow S a1 a2 a3) S) (hy_krw S a1 a2 a3) tk48) H := by rw [← eS]; exact hP
            have hDz : va_D A (hy_M cI cJ n0 bM sM zM tM xM kM wM eM (hy_if (hy_krw S a1 a2 a3) (hy_srow S a1 a2 a3) S) (hy_krw S a1 a2 a3) tk48) := by rw [← eS]; exact hD
            exact W.zret (v := 0) (ty := .boolean) hx hb hr (by decide +kernel) (fun t ht hW => ⟨⟨_, (), rfl, fun q => absurd (hk9.symm.trans q) (by decide), tk48, by rw [ht]; exact hPz, va_K.moved hW.alike hK, hDz⟩, hS.F ht⟩) hS.2.2 dX2_row_59
  · -- 12
    refine lv_aload_n hx hb dX2_row_12 rfl (lv_at hl 0 rfl) ?_
    refine lv_iconst (v := 1) hx hb dX2_row_13 (by decide) ?_
    have hFc := hy_free hD hS hA
    refine va_calli (va_runV (As := [.int 1]) (rest := []) ⟨hx, hb, hml, hown, hts⟩ (c_X2_fail l D cI cJ cB n0 bM sM zM tM xM kM wM eM S 0 tk H.size 1) (cwV 1 hts gX2_row_X2_fail rfl rfl rfl (by decide +kernel) ⟨Nat.le_of_ble_eq_true rfl, Nat.le_of_ble_eq_true rfl⟩) ⟨hy_JM_blind, va_recv hK hP (ci := 2) (q0 := 0) rfl rfl, fun U hU hW => ⟨rfl, by rw [hU], hy_J_at hU hW hP hK, hD.weaken (fun _ _ _ _ => trivial)⟩⟩ rfl rfl hl.1 rfl (lv_room (Nat.le_of_ble_eq_true rfl)) dX2_row_14 ⟨Nat.le_of_ble_eq_true rfl, Nat.le_of_ble_eq_true rfl⟩) hS (fun q _ h => hFc q h) hFc (fun v9 u t H locs ht hvm hw hB hz1 hk1 hS => ?_)
    obtain ⟨tk14, hP1, hK1, hD1⟩ := hB
    rw [ht] at hP1
    have hP : va_P D vwCl (hy_M cI cJ n0 bM sM zM tM xM kM wM eM S 1 tk14) H := hP1
    have hD : va_D A (hy_M cI cJ n0 bM sM zM tM xM kM wM eM S 1 tk14) := hD1.weaken (fun _ q _ h => hFc q.1 h)
    clear hP1 hK1 hD1 hFc
    subst hw
    refine lv_if_le (tgt := 24) hx hb dX2_row_17 (by decide) (fun c_17 => ?_) (fun c9 => absurd c9 (fun c => c (by decide)))
    refine lv_iconst (v := 0) hx hb dX2_row_24 (by decide) ?_
    have hk9 : hy_krw S a1 a2 a3 = 1 := by simp only [hy_krw, if_neg (hy_kbox1 (hy_misbox_no c_9))]
    have eS : (hy_M cI cJ n0 bM sM zM tM xM kM wM eM S 1 tk14) = (hy_M cI cJ n0 bM sM zM tM xM kM wM eM (hy_if (hy_krw S a1 a2 a3) (hy_srow S a1 a2 a3) S) (hy_krw S a1 a2 a3) tk14) := by rw [hk9]; exact congrArg (fun s9 => hy_M cI cJ n0 bM sM zM tM xM kM wM eM s9 1 tk14) (hy_if_n (by decide) _ _).symm
    have hPz : va_P D vwCl (hy_M cI cJ n0 bM sM zM tM xM kM wM eM (hy_if (hy_krw S a1 a2 a3) (hy_srow S a1 a2 a3) S) (hy_krw S a1 a2 a3) tk14) H := by rw [← eS]; exact hP
    have hDz : va_D A (hy_M cI cJ n0 bM sM zM tM xM kM wM eM (hy_if (hy_krw S a1 a2 a3) (hy_srow S a1 a2 a3) S) (hy_krw S a1 a2 a3) tk14) := by rw [← eS]; exact hD
    exact W.zret (v := 0) (ty := .boolean) hx hb hr (by decide +kernel) (fun t ht hW => ⟨⟨_, (), rfl, fun q => absurd (hk9.symm.trans q) (by decide), tk14, by rw [ht]; exact hPz, va_K.moved hW.alike hK, hDz⟩, hS.F ht⟩) hS.2.2 dX2_row_25
