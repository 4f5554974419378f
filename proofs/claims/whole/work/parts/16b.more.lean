/-! THE REFERENCE: move, pour, all. Rows laid by gen.py, mmore.py. -/
set_option maxHeartbeats 4000000 in
set_option maxRecDepth 100000 in
theorem c_X2_move (l : Launch) (D : va_G) (cI cJ cB : ClassId) (n0 bM sM zM tM xM kM wM eM : Nat) (S : hy_S) (th : Int32) (tk : Nat → Int64) (hwf : hy_wf S) (sz : Nat) (a1 a2 a3 a4 a5 : Int32) : Met l yX2_move wsX2_move ({ frames := 3, cells := 0, slots := 0, locals := 81 }) (va_Pc [.ref n0, .int a1, .int a2, .int a3, .int a4, .int a5] (hy_JM D cI cJ cB n0 bM sM zM tM xM kM wM eM S th tk sz)) (va_Qi (fun (r9 : Int32) (_ : Unit) => (hy_k2b a1 a3 = 0 → r9 = hy_vmove S a1 a2 a3 a4 a5)) (fun _ => hy_AtM D cI cJ cB n0 bM sM zM tM xM kM wM eM (hy_if (hy_k2b a1 a3) (hy_smove S a1 a2 a3 a4 a5) S) (hy_k2b a1 a3) (va_A (hy_M cI cJ n0 bM sM zM tM xM kM wM eM S th tk) sz)) (va_A (hy_M cI cJ n0 bM sM zM tM xM kM wM eM S th tk) sz)) 0 0 (va_A (hy_M cI cJ n0 bM sM zM tM xM kM wM eM S th tk) sz) := by
  refine Met.ofW (cc := cX2_move) (maxL := 6) (ret := (some .int)) (by decide) rfl ?_
  intro p e s m args below meth c s₁ B hml hv
  obtain ⟨rfl, hsz, ⟨hP, hK⟩, hD0⟩ := hv
  have hx := B.exec
  have hb := B.bytes
  have hr := B.returns
  have hts := atoms_spec (ws := wsX2_move) B.pre
  have hown : s.vm.findClass RX2 = some m.cls := findClass_of_methodNamed B.named
  have hlocks := B.notSynchronized
  subst hsz
  have hD := hD0.self (sz := s.heap.size)
  generalize hAe : va_A (hy_M cI cJ n0 bM sM zM tM xM kM wM eM S th tk) s.heap.size = A at hD ⊢
  have hA : ∀ q : Nat, s.heap.size ≤ q → A q := fun q h => by rw [← hAe]; exact Or.inr h
  have hS : va_S A s.heap s.heap [] := va_S.rf
  have hinX2 : ∀ w ∈ wsX20, w ∈ wsX2_move := by decide +kernel
  have hl := lv_entry ([.ref n0, .int a1, .int a2, .int a3, .int a4, .int a5]) (n := 6) (Nat.le_of_ble_eq_true rfl)
  rw [lg_entry_eq]
  generalize (lg_sl ([.ref n0, .int a1, .int a2, .int a3, .int a4, .int a5]) ++ List.replicate (6 - (lg_sl ([.ref n0, .int a1, .int a2, .int a3, .int a4, .int a5])).length) Slot.unset).toArray = ls at hl ⊢
  have hl : lv_has ls 6 [(0, .ref n0), (1, .int a1), (2, .int a2), (3, .int a3), (4, .int a4), (5, .int a5)] := hl
  refine lv_aload_n hx hb dX2_move_0 rfl (lv_at hl 0 rfl) ?_
  refine lv_iconst (v := 0) hx hb dX2_move_1 (by decide) ?_
  refine va_put (D := D) (ci := 2) (v := .int 0) (ty := .int) (C := RX2) (T := TX2) (N := 14) hx hb hts hinX2 tyX2 tyX2_ok nmX2 hown hK hP hD hS 0 rfl rfl 0 (by decide) (hts (.fieldLink RX2 35 "HiveYardModel" "thrown" "I") (by decide +kernel)) (fun _ h9 => h9) rfl (by decide +kernel) rfl rfl (Nat.le_of_ble_eq_true rfl) dX2_move_2 (fun H locs hP hD hS => ?_)
  have hP : va_P D vwCl (hy_M cI cJ n0 bM sM zM tM xM kM wM eM S 0 tk) H := by rw [← hy_M_uth]; exact hP
  have hD : va_D A (hy_M cI cJ n0 bM sM zM tM xM kM wM eM S 0 tk) := by rw [← hy_M_uth]; exact hD
  refine lv_iload_n hx hb dX2_move_5 rfl (lv_at hl 1 rfl) ?_
  refine vp_callSi (W.runS (As := [.int a1]) (rest := []) ⟨hx, hb, hml, hown, hts⟩ (c_X2_isBox l a1) (va_cwS 1 hts gX2_move_X2_isBox rfl rfl rfl (by decide +kernel) ⟨Nat.le_of_ble_eq_true rfl, Nat.le_of_ble_eq_true rfl⟩) ⟨fun _ _ _ _ q => q, fun U hU hW => ⟨rfl, trivial⟩⟩ rfl rfl hl.1 rfl (lv_room (Nat.le_of_ble_eq_true rfl)) dX2_move_6 ⟨Nat.le_of_ble_eq_true rfl, Nat.le_of_ble_eq_true rfl⟩) (fun v9 e9 => ?_)
  subst e9
  refine lv_if_eq (tgt := 19) hx hb dX2_move_9 (by decide) (fun c_9 => ?_) (fun c_9 => ?_)
  · -- 19
    refine lv_aload_n hx hb dX2_move_19 rfl (lv_at hl 0 rfl) ?_
    refine lv_iconst (v := 1) hx hb dX2_move_20 (by decide) ?_
    have hFc := hy_free hD hS hA
    refine va_calli (va_runV (As := [.int 1]) (rest := []) ⟨hx, hb, hml, hown, hts⟩ (c_X2_fail l D cI cJ cB n0 bM sM zM tM xM kM wM eM S 0 tk H.size 1) (cwV 1 hts gX2_move_X2_fail rfl rfl rfl (by decide +kernel) ⟨Nat.le_of_ble_eq_true rfl, Nat.le_of_ble_eq_true rfl⟩) ⟨hy_JM_blind, va_recv hK hP (ci := 2) (q0 := 0) rfl rfl, fun U hU hW => ⟨rfl, by rw [hU], hy_J_at hU hW hP hK, hD.weaken (fun _ _ _ _ => trivial)⟩⟩ rfl rfl hl.1 rfl (lv_room (Nat.le_of_ble_eq_true rfl)) dX2_move_21 ⟨Nat.le_of_ble_eq_true rfl, Nat.le_of_ble_eq_true rfl⟩) hS (fun q _ h => hFc q h) hFc (fun v9 u t H locs ht hvm hw hB hz1 hk1 hS => ?_)
    obtain ⟨tk21, hP1, hK1, hD1⟩ := hB
    rw [ht] at hP1
    have hP : va_P D vwCl (hy_M cI cJ n0 bM sM zM tM xM kM wM eM S 1 tk21) H := hP1
    have hD : va_D A (hy_M cI cJ n0 bM sM zM tM xM kM wM eM S 1 tk21) := hD1.weaken (fun _ q _ h => hFc q.1 h)
    clear hP1 hK1 hD1 hFc
    subst hw
    have hk9 : hy_k2b a1 a3 = 1 := by simp only [hy_k2b, if_neg (hy_kbox1 (hy_misbox_no c_9))]
    have eS : (hy_M cI cJ n0 bM sM zM tM xM kM wM eM S 1 tk21) = (hy_M cI cJ n0 bM sM zM tM xM kM wM eM (hy_if (hy_k2b a1 a3) (hy_smove S a1 a2 a3 a4 a5) S) (hy_k2b a1 a3) tk21) := by rw [hk9]; exact congrArg (fun s9 => hy_M cI cJ n0 bM sM zM tM xM kM wM eM s9 1 tk21) (hy_if_n (by decide) _ _).symm
    have hPz : va_P D vwCl (hy_M cI cJ n0 bM sM zM tM xM kM wM eM (hy_if (hy_k2b a1 a3) (hy_smove S a1 a2 a3 a4 a5) S) (hy_k2b a1 a3) tk21) H := by rw [← eS]; exact hP
    have hDz : va_D A (hy_M cI cJ n0 bM sM zM tM xM kM wM eM (hy_if (hy_k2b a1 a3) (hy_smove S a1 a2 a3 a4 a5) S) (hy_k2b a1 a3) tk21) := by rw [← eS]; exact hD
    exact W.iret (v := ((0 : Int32))) hx hb hr (fun t ht hW => ⟨⟨_, (), rfl, fun q => absurd (hk9.symm.trans q) (by decide), tk21, by rw [ht]; exact hPz, va_K.moved hW.alike hK, hDz⟩, hS.F ht⟩) hS.2.2 dX2_move_24
  · -- 12
    have ok9 : hy_ok a1 := hy_misbox_ok c_9
    refine lv_iload_n hx hb dX2_move_12 rfl (lv_at hl 3 rfl) ?_
    refine vp_callSi (W.runS (As := [.int a3]) (rest := []) ⟨hx, hb, hml, hown, hts⟩ (c_X2_isBox l a3) (va_cwS 1 hts gX2_move_X2_isBox rfl rfl rfl (by decide +kernel) ⟨Nat.le_of_ble_eq_true rfl, Nat.le_of_ble_eq_true rfl⟩) ⟨fun _ _ _ _ q => q, fun U hU hW => ⟨rfl, trivial⟩⟩ rfl rfl hl.1 rfl (lv_room (Nat.le_of_ble_eq_true rfl)) dX2_move_13 ⟨Nat.le_of_ble_eq_true rfl, Nat.le_of_ble_eq_true rfl⟩) (fun v9 e9 => ?_)
    subst e9
    refine lv_if_ne (tgt := 25) hx hb dX2_move_16 (by decide) (fun c_16 => ?_) (fun c_16 => ?_)
    · -- 25
      have ok16 : hy_ok a3 := hy_misbox_ok c_16
      refine lv_aload_n hx hb dX2_move_25 rfl (lv_at hl 0 rfl) ?_
      refine lv_aload_n hx hb dX2_move_26 rfl (lv_at hl 0 rfl) ?_
      refine lv_iload_n hx hb dX2_move_27 rfl (lv_at hl 1 rfl) ?_
      refine lv_iload_n hx hb dX2_move_28 rfl (lv_at hl 2 rfl) ?_
      refine lv_iload_n hx hb dX2_move_29 rfl (lv_at hl 3 rfl) ?_
      refine lv_iload hx hb dX2_move_30 (lv_at hl 4 rfl) ?_
      refine lv_iload hx hb dX2_move_32 (lv_at hl 5 rfl) ?_
      have hFc := hy_free hD hS hA
      refine va_calli (va_runV (As := [.int a1, .int a2, .int a3, .int a4, .int a5]) (rest := [.ref n0]) ⟨hx, hb, hml, hown, hts⟩ (c_X2_goes l D cI cJ cB n0 bM sM zM tM xM kM wM eM S 0 tk hwf H.size a1 a2 a3 a4 a5 ok9 ok16) (cwV 5 hts gX2_move_X2_goes rfl rfl rfl (by decide +kernel) ⟨Nat.le_of_ble_eq_true rfl, Nat.le_of_ble_eq_true rfl⟩) ⟨hy_JM_blind, va_recv hK hP (ci := 2) (q0 := 0) rfl rfl, fun U hU hW => ⟨rfl, by rw [hU], hy_J_at hU hW hP hK, hD.weaken (fun _ _ _ _ => trivial)⟩⟩ rfl rfl hl.1 rfl (lv_room (Nat.le_of_ble_eq_true rfl)) dX2_move_34 ⟨Nat.le_of_ble_eq_true rfl, Nat.le_of_ble_eq_true rfl⟩) hS (fun q _ h => hFc q h) hFc (fun v9 u t H locs ht hvm hw hB hz1 hk1 hS => ?_)
      obtain ⟨tk34, hP1, hK1, hD1⟩ := hB
      rw [ht] at hP1
      have hP : va_P D vwCl (hy_M cI cJ n0 bM sM zM tM xM kM wM eM (hy_gS S a1 a2 a3 a4 a5) 0 tk34) H := hP1
      have hD : va_D A (hy_M cI cJ n0 bM sM zM tM xM kM wM eM (hy_gS S a1 a2 a3 a4 a5) 0 tk34) := hD1.weaken (fun _ q _ h => hFc q.1 h)
      clear hP1 hK1 hD1 hFc
      subst hw
      have hFc := hy_free hD hS hA
      refine va_calli (va_runV (As := [.int ((hy_C S a1 a2 a3 a4 a5).1)]) (rest := []) ⟨hx, hb, hml, hown, hts⟩ (c_X2_told l D cI cJ cB n0 bM sM zM tM xM kM wM eM (hy_gS S a1 a2 a3 a4 a5) 0 tk34 H.size ((hy_C S a1 a2 a3 a4 a5).1) (hy_C1_in _ _ _ _ _ _)) (cwV 1 hts gX2_move_X2_told rfl rfl rfl (by decide +kernel) ⟨Nat.le_of_ble_eq_true rfl, Nat.le_of_ble_eq_true rfl⟩) ⟨hy_JM_blind, va_recv hK hP (ci := 2) (q0 := 0) rfl rfl, fun U hU hW => ⟨rfl, by rw [hU], hy_J_at hU hW hP hK, hD.weaken (fun _ _ _ _ => trivial)⟩⟩ rfl rfl hl.1 rfl (lv_room (Nat.le_of_ble_eq_true rfl)) dX2_move_37 ⟨Nat.le_of_ble_eq_true rfl, Nat.le_of_ble_eq_true rfl⟩) hS (fun q _ h => hFc q h) hFc (fun v9 u t H locs ht hvm hw hB hz1 hk1 hS => ?_)
      obtain ⟨tk37, hP1, hK1, hD1⟩ := hB
      rw [ht] at hP1
      have hP : va_P D vwCl (hy_M cI cJ n0 bM sM zM tM xM kM wM eM (hy_told (hy_gS S a1 a2 a3 a4 a5) ((hy_C S a1 a2 a3 a4 a5).1)) 0 tk37) H := hP1
      have hD : va_D A (hy_M cI cJ n0 bM sM zM tM xM kM wM eM (hy_told (hy_gS S a1 a2 a3 a4 a5) ((hy_C S a1 a2 a3 a4 a5).1)) 0 tk37) := hD1.weaken (fun _ q _ h => hFc q.1 h)
      clear hP1 hK1 hD1 hFc
      subst hw
      have hk9 : hy_k2b a1 a3 = 0 := by simp only [hy_k2b, if_pos (hy_kbox0 ok9), hy_kbox0 ok16]
      have eS : (hy_M cI cJ n0 bM sM zM tM xM kM wM eM (hy_told (hy_gS S a1 a2 a3 a4 a5) ((hy_C S a1 a2 a3 a4 a5).1)) 0 tk37) = (hy_M cI cJ n0 bM sM zM tM xM kM wM eM (hy_if (hy_k2b a1 a3) (hy_smove S a1 a2 a3 a4 a5) S) (hy_k2b a1 a3) tk37) := by rw [hk9]; exact congrArg (fun s9 => hy_M cI cJ n0 bM sM zM tM xM kM wM eM s9 0 tk37) (Eq.trans (hy_told_end _ _ _ : (hy_told (hy_gS S a1 a2 a3 a4 a5) ((hy_C S a1 a2 a3 a4 a5).1)) = (hy_smove S a1 a2 a3 a4 a5)) (hy_if_0 _ _).symm)
      have hPz : va_P D vwCl (hy_M cI cJ n0 bM sM zM tM xM kM wM eM (hy_if (hy_k2b a1 a3) (hy_smove S a1 a2 a3 a4 a5) S) (hy_k2b a1 a3) tk37) H := by rw [← eS]; exact hP
      have hDz : va_D A (hy_M cI cJ n0 bM sM zM tM xM kM wM eM (hy_if (hy_k2b a1 a3) (hy_smove S a1 a2 a3 a4 a5) S) (hy_k2b a1 a3) tk37) := by rw [← eS]; exact hD
      exact W.iret (v := (((hy_C S a1 a2 a3 a4 a5).1))) hx hb hr (fun t ht hW => ⟨⟨_, (), rfl, fun _ => rfl, tk37, by rw [ht]; exact hPz, va_K.moved hW.alike hK, hDz⟩, hS.F ht⟩) hS.2.2 dX2_move_40
    · -- 19
      refine lv_aload_n hx hb dX2_move_19 rfl (lv_at hl 0 rfl) ?_
      refine lv_iconst (v := 1) hx hb dX2_move_20 (by decide) ?_
      have hFc := hy_free hD hS hA
      refine va_calli (va_runV (As := [.int 1]) (rest := []) ⟨hx, hb, hml, hown, hts⟩ (c_X2_fail l D cI cJ cB n0 bM sM zM tM xM kM wM eM S 0 tk H.size 1) (cwV 1 hts gX2_move_X2_fail rfl rfl rfl (by decide +kernel) ⟨Nat.le_of_ble_eq_true rfl, Nat.le_of_ble_eq_true rfl⟩) ⟨hy_JM_blind, va_recv hK hP (ci := 2) (q0 := 0) rfl rfl, fun U hU hW => ⟨rfl, by rw [hU], hy_J_at hU hW hP hK, hD.weaken (fun _ _ _ _ => trivial)⟩⟩ rfl rfl hl.1 rfl (lv_room (Nat.le_of_ble_eq_true rfl)) dX2_move_21 ⟨Nat.le_of_ble_eq_true rfl, Nat.le_of_ble_eq_true rfl⟩) hS (fun q _ h => hFc q h) hFc (fun v9 u t H locs ht hvm hw hB hz1 hk1 hS => ?_)
      obtain ⟨tk21, hP1, hK1, hD1⟩ := hB
      rw [ht] at hP1
      have hP : va_P D vwCl (hy_M cI cJ n0 bM sM zM tM xM kM wM eM S 1 tk21) H := hP1
      have hD : va_D A (hy_M cI cJ n0 bM sM zM tM xM kM wM eM S 1 tk21) := hD1.weaken (fun _ q _ h => hFc q.1 h)
      clear hP1 hK1 hD1 hFc
      subst hw
      have hk9 : hy_k2b a1 a3 = 1 := by simp only [hy_k2b, if_pos (hy_kbox0 ok9), hy_kbox1e (hy_misbox_no c_16)]
      have eS : (hy_M cI cJ n0 bM sM zM tM xM kM wM eM S 1 tk21) = (hy_M cI cJ n0 bM sM zM tM xM kM wM eM (hy_if (hy_k2b a1 a3) (hy_smove S a1 a2 a3 a4 a5) S) (hy_k2b a1 a3) tk21) := by rw [hk9]; exact congrArg (fun s9 => hy_M cI cJ n0 bM sM zM tM xM kM wM eM s9 1 tk21) (hy_if_n (by decide) _ _).symm
      have hPz : va_P D vwCl (hy_M cI cJ n0 bM sM zM tM xM kM wM eM (hy_if (hy_k2b a1 a3) (hy_smove S a1 a2 a3 a4 a5) S) (hy_k2b a1 a3) tk21) H := by rw [← eS]; exact hP
      have hDz : va_D A (hy_M cI cJ n0 bM sM zM tM xM kM wM eM (hy_if (hy_k2b a1 a3) (hy_smove S a1 a2 a3 a4 a5) S) (hy_k2b a1 a3) tk21) := by rw [← eS]; exact hD
      exact W.iret (v := ((0 : Int32))) hx hb hr (fun t ht hW => ⟨⟨_, (), rfl, fun q => absurd (hk9.symm.trans q) (by decide), tk21, by rw [ht]; exact hPz, va_K.moved hW.alike hK, hDz⟩, hS.F ht⟩) hS.2.2 dX2_move_24
set_option maxHeartbeats 4000000 in
set_option maxRecDepth 100000 in
theorem c_X2_pour (l : Launch) (D : va_G) (cI cJ cB : ClassId) (n0 bM sM zM tM xM kM wM eM : Nat) (S : hy_S) (th : Int32) (tk : Nat → Int64) (hwf : hy_wf S) (sz : Nat) (a1 a2 : Int32) : Met l yX2_pour wsX2_pour ({ frames := 3, cells := 0, slots := 0, locals := 81 }) (va_Pc [.ref n0, .int a1, .int a2] (hy_JM D cI cJ cB n0 bM sM zM tM xM kM wM eM S th tk sz)) (va_Qi (fun (r9 : Int32) (_ : Unit) => (hy_k2b a1 a2 = 0 → r9 = hy_vpour S a1 a2)) (fun _ => hy_AtM D cI cJ cB n0 bM sM zM tM xM kM wM eM (hy_if (hy_k2b a1 a2) (hy_spour S a1 a2) S) (hy_k2b a1 a2) (va_A (hy_M cI cJ n0 bM sM zM tM xM kM wM eM S th tk) sz)) (va_A (hy_M cI cJ n0 bM sM zM tM xM kM wM eM S th tk) sz)) 0 0 (va_A (hy_M cI cJ n0 bM sM zM tM xM kM wM eM S th tk) sz) := by
  refine Met.ofW (cc := cX2_pour) (maxL := 6) (ret := (some .int)) (by decide) rfl ?_
  intro p e s m args below meth c s₁ B hml hv
  obtain ⟨rfl, hsz, ⟨hP, hK⟩, hD0⟩ := hv
  have hx := B.exec
  have hb := B.bytes
  have hr := B.returns
  have hts := atoms_spec (ws := wsX2_pour) B.pre
  have hown : s.vm.findClass RX2 = some m.cls := findClass_of_methodNamed B.named
  have hlocks := B.notSynchronized
  subst hsz
  have hD := hD0.self (sz := s.heap.size)
  generalize hAe : va_A (hy_M cI cJ n0 bM sM zM tM xM kM wM eM S th tk) s.heap.size = A at hD ⊢
  have hA : ∀ q : Nat, s.heap.size ≤ q → A q := fun q h => by rw [← hAe]; exact Or.inr h
  have hS : va_S A s.heap s.heap [] := va_S.rf
  have hinX2 : ∀ w ∈ wsX20, w ∈ wsX2_pour := by decide +kernel
  have hl := lv_entry ([.ref n0, .int a1, .int a2]) (n := 6) (Nat.le_of_ble_eq_true rfl)
  rw [lg_entry_eq]
  generalize (lg_sl ([.ref n0, .int a1, .int a2]) ++ List.replicate (6 - (lg_sl ([.ref n0, .int a1, .int a2])).length) Slot.unset).toArray = ls at hl ⊢
  have hl : lv_has ls 6 [(0, .ref n0), (1, .int a1), (2, .int a2)] := hl
  refine lv_aload_n hx hb dX2_pour_0 rfl (lv_at hl 0 rfl) ?_
  refine lv_iconst (v := 0) hx hb dX2_pour_1 (by decide) ?_
  refine va_put (D := D) (ci := 2) (v := .int 0) (ty := .int) (C := RX2) (T := TX2) (N := 14) hx hb hts hinX2 tyX2 tyX2_ok nmX2 hown hK hP hD hS 0 rfl rfl 0 (by decide) (hts (.fieldLink RX2 35 "HiveYardModel" "thrown" "I") (by decide +kernel)) (fun _ h9 => h9) rfl (by decide +kernel) rfl rfl (Nat.le_of_ble_eq_true rfl) dX2_pour_2 (fun H locs hP hD hS => ?_)
  have hP : va_P D vwCl (hy_M cI cJ n0 bM sM zM tM xM kM wM eM S 0 tk) H := by rw [← hy_M_uth]; exact hP
  have hD : va_D A (hy_M cI cJ n0 bM sM zM tM xM kM wM eM S 0 tk) := by rw [← hy_M_uth]; exact hD
  refine lv_iload_n hx hb dX2_pour_5 rfl (lv_at hl 1 rfl) ?_
  refine vp_callSi (W.runS (As := [.int a1]) (rest := []) ⟨hx, hb, hml, hown, hts⟩ (c_X2_isBox l a1) (va_cwS 1 hts gX2_pour_X2_isBox rfl rfl rfl (by decide +kernel) ⟨Nat.le_of_ble_eq_true rfl, Nat.le_of_ble_eq_true rfl⟩) ⟨fun _ _ _ _ q => q, fun U hU hW => ⟨rfl, trivial⟩⟩ rfl rfl hl.1 rfl (lv_room (Nat.le_of_ble_eq_true rfl)) dX2_pour_6 ⟨Nat.le_of_ble_eq_true rfl, Nat.le_of_ble_eq_true rfl⟩) (fun v9 e9 => ?_)
  subst e9
  refine lv_if_eq (tgt := 19) hx hb dX2_pour_9 (by decide) (fun c_9 => ?_) (fun c_9 => ?_)
  · -- 19
    refine lv_aload_n hx hb dX2_pour_19 rfl (lv_at hl 0 rfl) ?_
    refine lv_iconst (v := 1) hx hb dX2_pour_20 (by decide) ?_
    have hFc := hy_free hD hS hA
    refine va_calli (va_runV (As := [.int 1]) (rest := []) ⟨hx, hb, hml, hown, hts⟩ (c_X2_fail l D cI cJ cB n0 bM sM zM tM xM kM wM eM S 0 tk H.size 1) (cwV 1 hts gX2_pour_X2_fail rfl rfl rfl (by decide +kernel) ⟨Nat.le_of_ble_eq_true rfl, Nat.le_of_ble_eq_true rfl⟩) ⟨hy_JM_blind, va_recv hK hP (ci := 2) (q0 := 0) rfl rfl, fun U hU hW => ⟨rfl, by rw [hU], hy_J_at hU hW hP hK, hD.weaken (fun _ _ _ _ => trivial)⟩⟩ rfl rfl hl.1 rfl (lv_room (Nat.le_of_ble_eq_true rfl)) dX2_pour_21 ⟨Nat.le_of_ble_eq_true rfl, Nat.le_of_ble_eq_true rfl⟩) hS (fun q _ h => hFc q h) hFc (fun v9 u t H locs ht hvm hw hB hz1 hk1 hS => ?_)
    obtain ⟨tk21, hP1, hK1, hD1⟩ := hB
    rw [ht] at hP1
    have hP : va_P D vwCl (hy_M cI cJ n0 bM sM zM tM xM kM wM eM S 1 tk21) H := hP1
    have hD : va_D A (hy_M cI cJ n0 bM sM zM tM xM kM wM eM S 1 tk21) := hD1.weaken (fun _ q _ h => hFc q.1 h)
    clear hP1 hK1 hD1 hFc
    subst hw
    have hk9 : hy_k2b a1 a2 = 1 := by simp only [hy_k2b, if_neg (hy_kbox1 (hy_misbox_no c_9))]
    have eS : (hy_M cI cJ n0 bM sM zM tM xM kM wM eM S 1 tk21) = (hy_M cI cJ n0 bM sM zM tM xM kM wM eM (hy_if (hy_k2b a1 a2) (hy_spour S a1 a2) S) (hy_k2b a1 a2) tk21) := by rw [hk9]; exact congrArg (fun s9 => hy_M cI cJ n0 bM sM zM tM xM kM wM eM s9 1 tk21) (hy_if_n (by decide) _ _).symm
    have hPz : va_P D vwCl (hy_M cI cJ n0 bM sM zM tM xM kM wM eM (hy_if (hy_k2b a1 a2) (hy_spour S a1 a2) S) (hy_k2b a1 a2) tk21) H := by rw [← eS]; exact hP
    have hDz : va_D A (hy_M cI cJ n0 bM sM zM tM xM kM wM eM (hy_if (hy_k2b a1 a2) (hy_spour S a1 a2) S) (hy_k2b a1 a2) tk21) := by rw [← eS]; exact hD
    exact W.iret (v := ((0 : Int32))) hx hb hr (fun t ht hW => ⟨⟨_, (), rfl, fun q => absurd (hk9.symm.trans q) (by decide), tk21, by rw [ht]; exact hPz, va_K.moved hW.alike hK, hDz⟩, hS.F ht⟩) hS.2.2 dX2_pour_24
  · -- 12
    have ok9 : hy_ok a1 := hy_misbox_ok c_9
    refine lv_iload_n hx hb dX2_pour_12 rfl (lv_at hl 2 rfl) ?_
    refine vp_callSi (W.runS (As := [.int a2]) (rest := []) ⟨hx, hb, hml, hown, hts⟩ (c_X2_isBox l a2) (va_cwS 1 hts gX2_pour_X2_isBox rfl rfl rfl (by decide +kernel) ⟨Nat.le_of_ble_eq_true rfl, Nat.le_of_ble_eq_true rfl⟩) ⟨fun _ _ _ _ q => q, fun U hU hW => ⟨rfl, trivial⟩⟩ rfl rfl hl.1 rfl (lv_room (Nat.le_of_ble_eq_true rfl)) dX2_pour_13 ⟨Nat.le_of_ble_eq_true rfl, Nat.le_of_ble_eq_true rfl⟩) (fun v9 e9 => ?_)
    subst e9
    refine lv_if_ne (tgt := 25) hx hb dX2_pour_16 (by decide) (fun c_16 => ?_) (fun c_16 => ?_)
    · -- 25
      have ok16 : hy_ok a2 := hy_misbox_ok c_16
      refine lv_iconst (v := 0) hx hb dX2_pour_25 (by decide) ?_
      refine lv_istore_n (lv' := [(3, .int 0), (0, .ref n0), (1, .int a1), (2, .int a2)]) hx hb dX2_pour_26 rfl hl (by decide) rfl (fun ls hl => ?_)
      refine lv_aload_n hx hb dX2_pour_27 rfl (lv_at hl 1 rfl) ?_
      refine lv_iload_n hx hb dX2_pour_28 rfl (lv_at hl 2 rfl) ?_
      refine vp_callSi (W.runV (As := [.int a1]) (rest := []) ⟨hx, hb, hml, hown, hts⟩ (c_X2_hasRow l D cI cJ cB n0 bM sM zM tM xM kM wM eM S 0 tk a1 ok9 (hy_bx S a1.toNatClampNeg) rfl hwf) (cwV 1 hts gX2_pour_X2_hasRow rfl rfl rfl (by decide +kernel) ⟨Nat.le_of_ble_eq_true rfl, Nat.le_of_ble_eq_true rfl⟩) ⟨hy_J_blind, va_recv hK hP (ci := 2) (q0 := 0) rfl rfl, fun U hU hW => ⟨rfl, hy_J_at hU hW hP hK⟩⟩ rfl rfl hl.1 rfl (lv_room (Nat.le_of_ble_eq_true rfl)) dX2_pour_29 ⟨Nat.le_of_ble_eq_true rfl, Nat.le_of_ble_eq_true rfl⟩) (fun v9 e9 => ?_)
      subst e9
      refine lv_if_eq (tgt := 84) hx hb dX2_pour_32 (by decide) (fun c_32 => ?_) (fun c_32 => ?_)
      · -- 84
        have i32 : hy_isRow S (hy_bx S a1.toNatClampNeg) = 0 := by rw [hy_isRow_m hwf (hwf.2.2.1 _)]; exact c_32
        have hn9 : 0 = hy_min (hy_vlen S a1) (hy_vlen S a2) := by first | exact hy_min_0a hwf c_32 | exact hy_min_0b hwf c_40 | exact hy_min_ge hb32 hb40 c_73 | exact hy_min_lt hb32 hb40 c_73
        refine lv_aload_n hx hb dX2_pour_84 rfl (lv_at hl 1 rfl) ?_
        refine lv_aload_n hx hb dX2_pour_85 rfl (lv_at hl 1 rfl) ?_
        refine lv_iload_n hx hb dX2_pour_86 rfl (lv_at hl 2 rfl) ?_
        refine lv_iconst (v := 0) hx hb dX2_pour_87 (by decide) ?_
        refine lv_iload_n hx hb dX2_pour_88 rfl (lv_at hl 3 rfl) ?_
        refine lv_iconst (v := 0) hx hb dX2_pour_89 (by decide) ?_
        refine lv_iload_n hx hb dX2_pour_90 rfl (lv_at hl 0 rfl) ?_
        have hFc := hy_free hD hS hA
        refine va_calli (va_runV (As := [.int a1, .int 0, .int a2, .int 0, .int 0]) (rest := [.ref n0]) ⟨hx, hb, hml, hown, hts⟩ (c_X2_goes l D cI cJ cB n0 bM sM zM tM xM kM wM eM S 0 tk hwf H.size a1 0 a2 0 0 ok9 ok16) (cwV 5 hts gX2_pour_X2_goes rfl rfl rfl (by decide +kernel) ⟨Nat.le_of_ble_eq_true rfl, Nat.le_of_ble_eq_true rfl⟩) ⟨hy_JM_blind, va_recv hK hP (ci := 2) (q0 := 0) rfl rfl, fun U hU hW => ⟨rfl, by rw [hU], hy_J_at hU hW hP hK, hD.weaken (fun _ _ _ _ => trivial)⟩⟩ rfl rfl hl.1 rfl (lv_room (Nat.le_of_ble_eq_true rfl)) dX2_pour_91 ⟨Nat.le_of_ble_eq_true rfl, Nat.le_of_ble_eq_true rfl⟩) hS (fun q _ h => hFc q h) hFc (fun v9 u t H locs ht hvm hw hB hz1 hk1 hS => ?_)
        obtain ⟨tk91, hP1, hK1, hD1⟩ := hB
        rw [ht] at hP1
        have hP : va_P D vwCl (hy_M cI cJ n0 bM sM zM tM xM kM wM eM (hy_gS S a1 0 a2 0 0) 0 tk91) H := hP1
        have hD : va_D A (hy_M cI cJ n0 bM sM zM tM xM kM wM eM (hy_gS S a1 0 a2 0 0) 0 tk91) := hD1.weaken (fun _ q _ h => hFc q.1 h)
        clear hP1 hK1 hD1 hFc
        subst hw
        have hFc := hy_free hD hS hA
        refine va_calli (va_runV (As := [.int ((hy_C S a1 0 a2 0 0).1)]) (rest := []) ⟨hx, hb, hml, hown, hts⟩ (c_X2_told l D cI cJ cB n0 bM sM zM tM xM kM wM eM (hy_gS S a1 0 a2 0 0) 0 tk91 H.size ((hy_C S a1 0 a2 0 0).1) (hy_C1_in _ _ _ _ _ _)) (cwV 1 hts gX2_pour_X2_told rfl rfl rfl (by decide +kernel) ⟨Nat.le_of_ble_eq_true rfl, Nat.le_of_ble_eq_true rfl⟩) ⟨hy_JM_blind, va_recv hK hP (ci := 2) (q0 := 0) rfl rfl, fun U hU hW => ⟨rfl, by rw [hU], hy_J_at hU hW hP hK, hD.weaken (fun _ _ _ _ => trivial)⟩⟩ rfl rfl hl.1 rfl (lv_room (Nat.le_of_ble_eq_true rfl)) dX2_pour_94 ⟨Nat.le_of_ble_eq_true rfl, Nat.le_of_ble_eq_true rfl⟩) hS (fun q _ h => hFc q h) hFc (fun v9 u t H locs ht hvm hw hB hz1 hk1 hS => ?_)
        obtain ⟨tk94, hP1, hK1, hD1⟩ := hB
        rw [ht] at hP1
        have hP : va_P D vwCl (hy_M cI cJ n0 bM sM zM tM xM kM wM eM (hy_told (hy_gS S a1 0 a2 0 0) ((hy_C S a1 0 a2 0 0).1)) 0 tk94) H := hP1
        have hD : va_D A (hy_M cI cJ n0 bM sM zM tM xM kM wM eM (hy_told (hy_gS S a1 0 a2 0 0) ((hy_C S a1 0 a2 0 0).1)) 0 tk94) := hD1.weaken (fun _ q _ h => hFc q.1 h)
        clear hP1 hK1 hD1 hFc
        subst hw
        have hk9 : hy_k2b a1 a2 = 0 := by simp only [hy_k2b, if_pos (hy_kbox0 ok9), hy_kbox0 ok16]
        have eS : (hy_M cI cJ n0 bM sM zM tM xM kM wM eM (hy_told (hy_gS S a1 0 a2 0 0) ((hy_C S a1 0 a2 0 0).1)) 0 tk94) = (hy_M cI cJ n0 bM sM zM tM xM kM wM eM (hy_if (hy_k2b a1 a2) (hy_spour S a1 a2) S) (hy_k2b a1 a2) tk94) := by rw [hk9]; exact congrArg (fun s9 => hy_M cI cJ n0 bM sM zM tM xM kM wM eM s9 0 tk94) (Eq.trans (by rw [hy_spour, ← hn9]; exact hy_told_end _ _ _ : (hy_told (hy_gS S a1 0 a2 0 0) ((hy_C S a1 0 a2 0 0).1)) = (hy_spour S a1 a2)) (hy_if_0 _ _).symm)
        have hPz : va_P D vwCl (hy_M cI cJ n0 bM sM zM tM xM kM wM eM (hy_if (hy_k2b a1 a2) (hy_spour S a1 a2) S) (hy_k2b a1 a2) tk94) H := by rw [← eS]; exact hP
        have hDz : va_D A (hy_M cI cJ n0 bM sM zM tM xM kM wM eM (hy_if (hy_k2b a1 a2) (hy_spour S a1 a2) S) (hy_k2b a1 a2) tk94) := by rw [← eS]; exact hD
        exact W.iret (v := (((hy_C S a1 0 a2 0 0).1))) hx hb hr (fun t ht hW => ⟨⟨_, (), rfl, fun _ => by rw [hy_vpour, ← hn9]; rfl, tk94, by rw [ht]; exact hPz, va_K.moved hW.alike hK, hDz⟩, hS.F ht⟩) hS.2.2 dX2_pour_97
      · -- 35
        have i32 : ¬ hy_isRow S (hy_bx S a1.toNatClampNeg) = 0 := by rw [hy_isRow_m hwf (hwf.2.2.1 _)]; exact c_32
        obtain ⟨r32, hb32⟩ := hy_mrow_some c_32
        have hl32 := hwf.2.2.1 _ _ hb32
        have h300 := hwf.1
        have h2432 := hwf.2.2.2.2.2.1 (r32 + 1)
        refine lv_aload_n hx hb dX2_pour_35 rfl (lv_at hl 1 rfl) ?_
        refine lv_iload_n hx hb dX2_pour_36 rfl (lv_at hl 3 rfl) ?_
        refine vp_callSi (W.runV (As := [.int a2]) (rest := []) ⟨hx, hb, hml, hown, hts⟩ (c_X2_hasRow l D cI cJ cB n0 bM sM zM tM xM kM wM eM S 0 tk a2 ok16 (hy_bx S a2.toNatClampNeg) rfl hwf) (cwV 1 hts gX2_pour_X2_hasRow rfl rfl rfl (by decide +kernel) ⟨Nat.le_of_ble_eq_true rfl, Nat.le_of_ble_eq_true rfl⟩) ⟨hy_J_blind, va_recv hK hP (ci := 2) (q0 := 0) rfl rfl, fun U hU hW => ⟨rfl, hy_J_at hU hW hP hK⟩⟩ rfl rfl hl.1 rfl (lv_room (Nat.le_of_ble_eq_true rfl)) dX2_pour_37 ⟨Nat.le_of_ble_eq_true rfl, Nat.le_of_ble_eq_true rfl⟩) (fun v9 e9 => ?_)
        subst e9
        refine lv_if_eq (tgt := 84) hx hb dX2_pour_40 (by decide) (fun c_40 => ?_) (fun c_40 => ?_)
        · -- 84
          have i40 : hy_isRow S (hy_bx S a2.toNatClampNeg) = 0 := by rw [hy_isRow_m hwf (hwf.2.2.1 _)]; exact c_40
          have hn9 : 0 = hy_min (hy_vlen S a1) (hy_vlen S a2) := by first | exact hy_min_0a hwf c_32 | exact hy_min_0b hwf c_40 | exact hy_min_ge hb32 hb40 c_73 | exact hy_min_lt hb32 hb40 c_73
          refine lv_aload_n hx hb dX2_pour_84 rfl (lv_at hl 1 rfl) ?_
          refine lv_aload_n hx hb dX2_pour_85 rfl (lv_at hl 1 rfl) ?_
          refine lv_iload_n hx hb dX2_pour_86 rfl (lv_at hl 2 rfl) ?_
          refine lv_iconst (v := 0) hx hb dX2_pour_87 (by decide) ?_
          refine lv_iload_n hx hb dX2_pour_88 rfl (lv_at hl 3 rfl) ?_
          refine lv_iconst (v := 0) hx hb dX2_pour_89 (by decide) ?_
          refine lv_iload_n hx hb dX2_pour_90 rfl (lv_at hl 0 rfl) ?_
          have hFc := hy_free hD hS hA
          refine va_calli (va_runV (As := [.int a1, .int 0, .int a2, .int 0, .int 0]) (rest := [.ref n0]) ⟨hx, hb, hml, hown, hts⟩ (c_X2_goes l D cI cJ cB n0 bM sM zM tM xM kM wM eM S 0 tk hwf H.size a1 0 a2 0 0 ok9 ok16) (cwV 5 hts gX2_pour_X2_goes rfl rfl rfl (by decide +kernel) ⟨Nat.le_of_ble_eq_true rfl, Nat.le_of_ble_eq_true rfl⟩) ⟨hy_JM_blind, va_recv hK hP (ci := 2) (q0 := 0) rfl rfl, fun U hU hW => ⟨rfl, by rw [hU], hy_J_at hU hW hP hK, hD.weaken (fun _ _ _ _ => trivial)⟩⟩ rfl rfl hl.1 rfl (lv_room (Nat.le_of_ble_eq_true rfl)) dX2_pour_91 ⟨Nat.le_of_ble_eq_true rfl, Nat.le_of_ble_eq_true rfl⟩) hS (fun q _ h => hFc q h) hFc (fun v9 u t H locs ht hvm hw hB hz1 hk1 hS => ?_)
          obtain ⟨tk91, hP1, hK1, hD1⟩ := hB
          rw [ht] at hP1
          have hP : va_P D vwCl (hy_M cI cJ n0 bM sM zM tM xM kM wM eM (hy_gS S a1 0 a2 0 0) 0 tk91) H := hP1
          have hD : va_D A (hy_M cI cJ n0 bM sM zM tM xM kM wM eM (hy_gS S a1 0 a2 0 0) 0 tk91) := hD1.weaken (fun _ q _ h => hFc q.1 h)
          clear hP1 hK1 hD1 hFc
          subst hw
          have hFc := hy_free hD hS hA
          refine va_calli (va_runV (As := [.int ((hy_C S a1 0 a2 0 0).1)]) (rest := []) ⟨hx, hb, hml, hown, hts⟩ (c_X2_told l D cI cJ cB n0 bM sM zM tM xM kM wM eM (hy_gS S a1 0 a2 0 0) 0 tk91 H.size ((hy_C S a1 0 a2 0 0).1) (hy_C1_in _ _ _ _ _ _)) (cwV 1 hts gX2_pour_X2_told rfl rfl rfl (by decide +kernel) ⟨Nat.le_of_ble_eq_true rfl, Nat.le_of_ble_eq_true rfl⟩) ⟨hy_JM_blind, va_recv hK hP (ci := 2) (q0 := 0) rfl rfl, fun U hU hW => ⟨rfl, by rw [hU], hy_J_at hU hW hP hK, hD.weaken (fun _ _ _ _ => trivial)⟩⟩ rfl rfl hl.1 rfl (lv_room (Nat.le_of_ble_eq_true rfl)) dX2_pour_94 ⟨Nat.le_of_ble_eq_true rfl, Nat.le_of_ble_eq_true rfl⟩) hS (fun q _ h => hFc q h) hFc (fun v9 u t H locs ht hvm hw hB hz1 hk1 hS => ?_)
          obtain ⟨tk94, hP1, hK1, hD1⟩ := hB
          rw [ht] at hP1
          have hP : va_P D vwCl (hy_M cI cJ n0 bM sM zM tM xM kM wM eM (hy_told (hy_gS S a1 0 a2 0 0) ((hy_C S a1 0 a2 0 0).1)) 0 tk94) H := hP1
          have hD : va_D A (hy_M cI cJ n0 bM sM zM tM xM kM wM eM (hy_told (hy_gS S a1 0 a2 0 0) ((hy_C S a1 0 a2 0 0).1)) 0 tk94) := hD1.weaken (fun _ q _ h => hFc q.1 h)
          clear hP1 hK1 hD1 hFc
          subst hw
          have hk9 : hy_k2b a1 a2 = 0 := by simp only [hy_k2b, if_pos (hy_kbox0 ok9), hy_kbox0 ok16]
          have eS : (hy_M cI cJ n0 bM sM zM tM xM kM wM eM (hy_told (hy_gS S a1 0 a2 0 0) ((hy_C S a1 0 a2 0 0).1)) 0 tk94) = (hy_M cI cJ n0 bM sM zM tM xM kM wM eM (hy_if (hy_k2b a1 a2) (hy_spour S a1 a2) S) (hy_k2b a1 a2) tk94) := by rw [hk9]; exact congrArg (fun s9 => hy_M cI cJ n0 bM sM zM tM xM kM wM eM s9 0 tk94) (Eq.trans (by rw [hy_spour, ← hn9]; exact hy_told_end _ _ _ : (hy_told (hy_gS S a1 0 a2 0 0) ((hy_C S a1 0 a2 0 0).1)) = (hy_spour S a1 a2)) (hy_if_0 _ _).symm)
          have hPz : va_P D vwCl (hy_M cI cJ n0 bM sM zM tM xM kM wM eM (hy_if (hy_k2b a1 a2) (hy_spour S a1 a2) S) (hy_k2b a1 a2) tk94) H := by rw [← eS]; exact hP
          have hDz : va_D A (hy_M cI cJ n0 bM sM zM tM xM kM wM eM (hy_if (hy_k2b a1 a2) (hy_spour S a1 a2) S) (hy_k2b a1 a2) tk94) := by rw [← eS]; exact hD
          exact W.iret (v := (((hy_C S a1 0 a2 0 0).1))) hx hb hr (fun t ht hW => ⟨⟨_, (), rfl, fun _ => by rw [hy_vpour, ← hn9]; rfl, tk94, by rw [ht]; exact hPz, va_K.moved hW.alike hK, hDz⟩, hS.F ht⟩) hS.2.2 dX2_pour_97
        · -- 43
          have i40 : ¬ hy_isRow S (hy_bx S a2.toNatClampNeg) = 0 := by rw [hy_isRow_m hwf (hwf.2.2.1 _)]; exact c_40
          obtain ⟨r40, hb40⟩ := hy_mrow_some c_40
          have hl40 := hwf.2.2.1 _ _ hb40
          have h300 := hwf.1
          have h2440 := hwf.2.2.2.2.2.1 (r40 + 1)
          refine lv_aload_n hx hb dX2_pour_43 rfl (lv_at hl 1 rfl) ?_
          refine va_get (D := D) (ci := 2) (v := .ref zM) (C := RX2) (T := TX2) (N := 14) hx hb hts hinX2 hown hK hP 0 rfl rfl 4 (by decide) (hts (.fieldLink RX2 16 "HiveYardModel" "sizes" "[I") (by decide +kernel)) (fun _ h9 => h9) rfl dX2_pour_44 ?_
          refine lv_aload_n hx hb dX2_pour_47 rfl (lv_at hl 1 rfl) ?_
          refine va_get (D := D) (ci := 2) (v := .ref bM) (C := RX2) (T := TX2) (N := 14) hx hb hts hinX2 hown hK hP 0 rfl rfl 1 (by decide) (hts (.fieldLink RX2 7 "HiveYardModel" "boxes" "[I") (by decide +kernel)) (fun _ h9 => h9) rfl dX2_pour_48 ?_
          refine lv_iload_n hx hb dX2_pour_51 rfl (lv_at hl 2 rfl) ?_
          refine va_iald hx hb hK hP 1 0 rfl rfl (hy_ok_in ok9) dX2_pour_52 ?_
          refine lv_topi (fun v9 e9 => ?_)
          obtain rfl : v9 = (nI r32) := e9.trans (by show hy_enc (hy_bx S a1.toNatClampNeg) = _; rw [hb32]; rfl)
          clear e9
          refine va_iald hx hb hK hP 3 0 rfl rfl (vp_in_nI (by omega) (by omega)) dX2_pour_53 ?_
          refine lv_topi (fun v9 e9 => ?_)
          obtain rfl : v9 = (nI (hy_le S (r32 + 1))) := e9.trans (by rw [nI_clamp (by omega)])
          clear e9
          refine lv_istore (lv' := [(4, .int (nI (hy_le S (r32 + 1)))), (3, .int 0), (0, .ref n0), (1, .int a1), (2, .int a2)]) hx hb dX2_pour_54 hl (by decide) rfl (fun ls hl => ?_)
          refine lv_aload_n hx hb dX2_pour_56 rfl (lv_at hl 2 rfl) ?_
          refine va_get (D := D) (ci := 2) (v := .ref zM) (C := RX2) (T := TX2) (N := 14) hx hb hts hinX2 hown hK hP 0 rfl rfl 4 (by decide) (hts (.fieldLink RX2 16 "HiveYardModel" "sizes" "[I") (by decide +kernel)) (fun _ h9 => h9) rfl dX2_pour_57 ?_
          refine lv_aload_n hx hb dX2_pour_60 rfl (lv_at hl 2 rfl) ?_
          refine va_get (D := D) (ci := 2) (v := .ref bM) (C := RX2) (T := TX2) (N := 14) hx hb hts hinX2 hown hK hP 0 rfl rfl 1 (by decide) (hts (.fieldLink RX2 7 "HiveYardModel" "boxes" "[I") (by decide +kernel)) (fun _ h9 => h9) rfl dX2_pour_61 ?_
          refine lv_iload_n hx hb dX2_pour_64 rfl (lv_at hl 4 rfl) ?_
          refine va_iald hx hb hK hP 1 0 rfl rfl (hy_ok_in ok16) dX2_pour_65 ?_
          refine lv_topi (fun v9 e9 => ?_)
          obtain rfl : v9 = (nI r40) := e9.trans (by show hy_enc (hy_bx S a2.toNatClampNeg) = _; rw [hb40]; rfl)
          clear e9
          refine va_iald hx hb hK hP 3 0 rfl rfl (vp_in_nI (by omega) (by omega)) dX2_pour_66 ?_
          refine lv_topi (fun v9 e9 => ?_)
          obtain rfl : v9 = (nI (hy_le S (r40 + 1))) := e9.trans (by rw [nI_clamp (by omega)])
          clear e9
          refine lv_istore (lv' := [(5, .int (nI (hy_le S (r40 + 1)))), (4, .int (nI (hy_le S (r32 + 1)))), (3, .int 0), (0, .ref n0), (1, .int a1), (2, .int a2)]) hx hb dX2_pour_67 hl (by decide) rfl (fun ls hl => ?_)
          refine lv_iload hx hb dX2_pour_69 (lv_at hl 1 rfl) ?_
          refine lv_iload hx hb dX2_pour_71 (lv_at hl 0 rfl) ?_
          refine lv_icmp_ge (tgt := 81) hx hb dX2_pour_73 (by decide) (fun c_73 => ?_) (fun c_73 => ?_)
          · -- 81
            refine lv_iload hx hb dX2_pour_81 (lv_at hl 0 rfl) ?_
            refine lv_istore_n (lv' := [(3, .int (nI (hy_le S (r40 + 1)))), (5, .int (nI (hy_le S (r40 + 1)))), (4, .int (nI (hy_le S (r32 + 1)))), (0, .ref n0), (1, .int a1), (2, .int a2)]) hx hb dX2_pour_83 rfl hl (by decide) rfl (fun ls hl => ?_)
            have hn9 : (nI (hy_le S (r40 + 1))) = hy_min (hy_vlen S a1) (hy_vlen S a2) := by first | exact hy_min_0a hwf c_32 | exact hy_min_0b hwf c_40 | exact hy_min_ge hb32 hb40 c_73 | exact hy_min_lt hb32 hb40 c_73
            refine lv_aload_n hx hb dX2_pour_84 rfl (lv_at hl 3 rfl) ?_
            refine lv_aload_n hx hb dX2_pour_85 rfl (lv_at hl 3 rfl) ?_
            refine lv_iload_n hx hb dX2_pour_86 rfl (lv_at hl 4 rfl) ?_
            refine lv_iconst (v := 0) hx hb dX2_pour_87 (by decide) ?_
            refine lv_iload_n hx hb dX2_pour_88 rfl (lv_at hl 5 rfl) ?_
            refine lv_iconst (v := 0) hx hb dX2_pour_89 (by decide) ?_
            refine lv_iload_n hx hb dX2_pour_90 rfl (lv_at hl 0 rfl) ?_
            have hFc := hy_free hD hS hA
            refine va_calli (va_runV (As := [.int a1, .int 0, .int a2, .int 0, .int (nI (hy_le S (r40 + 1)))]) (rest := [.ref n0]) ⟨hx, hb, hml, hown, hts⟩ (c_X2_goes l D cI cJ cB n0 bM sM zM tM xM kM wM eM S 0 tk hwf H.size a1 0 a2 0 (nI (hy_le S (r40 + 1))) ok9 ok16) (cwV 5 hts gX2_pour_X2_goes rfl rfl rfl (by decide +kernel) ⟨Nat.le_of_ble_eq_true rfl, Nat.le_of_ble_eq_true rfl⟩) ⟨hy_JM_blind, va_recv hK hP (ci := 2) (q0 := 0) rfl rfl, fun U hU hW => ⟨rfl, by rw [hU], hy_J_at hU hW hP hK, hD.weaken (fun _ _ _ _ => trivial)⟩⟩ rfl rfl hl.1 rfl (lv_room (Nat.le_of_ble_eq_true rfl)) dX2_pour_91 ⟨Nat.le_of_ble_eq_true rfl, Nat.le_of_ble_eq_true rfl⟩) hS (fun q _ h => hFc q h) hFc (fun v9 u t H locs ht hvm hw hB hz1 hk1 hS => ?_)
            obtain ⟨tk91, hP1, hK1, hD1⟩ := hB
            rw [ht] at hP1
            have hP : va_P D vwCl (hy_M cI cJ n0 bM sM zM tM xM kM wM eM (hy_gS S a1 0 a2 0 (nI (hy_le S (r40 + 1)))) 0 tk91) H := hP1
            have hD : va_D A (hy_M cI cJ n0 bM sM zM tM xM kM wM eM (hy_gS S a1 0 a2 0 (nI (hy_le S (r40 + 1)))) 0 tk91) := hD1.weaken (fun _ q _ h => hFc q.1 h)
            clear hP1 hK1 hD1 hFc
            subst hw
            have hFc := hy_free hD hS hA
            refine va_calli (va_runV (As := [.int ((hy_C S a1 0 a2 0 (nI (hy_le S (r40 + 1)))).1)]) (rest := []) ⟨hx, hb, hml, hown, hts⟩ (c_X2_told l D cI cJ cB n0 bM sM zM tM xM kM wM eM (hy_gS S a1 0 a2 0 (nI (hy_le S (r40 + 1)))) 0 tk91 H.size ((hy_C S a1 0 a2 0 (nI (hy_le S (r40 + 1)))).1) (hy_C1_in _ _ _ _ _ _)) (cwV 1 hts gX2_pour_X2_told rfl rfl rfl (by decide +kernel) ⟨Nat.le_of_ble_eq_true rfl, Nat.le_of_ble_eq_true rfl⟩) ⟨hy_JM_blind, va_recv hK hP (ci := 2) (q0 := 0) rfl rfl, fun U hU hW => ⟨rfl, by rw [hU], hy_J_at hU hW hP hK, hD.weaken (fun _ _ _ _ => trivial)⟩⟩ rfl rfl hl.1 rfl (lv_room (Nat.le_of_ble_eq_true rfl)) dX2_pour_94 ⟨Nat.le_of_ble_eq_true rfl, Nat.le_of_ble_eq_true rfl⟩) hS (fun q _ h => hFc q h) hFc (fun v9 u t H locs ht hvm hw hB hz1 hk1 hS => ?_)
            obtain ⟨tk94, hP1, hK1, hD1⟩ := hB
            rw [ht] at hP1
            have hP : va_P D vwCl (hy_M cI cJ n0 bM sM zM tM xM kM wM eM (hy_told (hy_gS S a1 0 a2 0 (nI (hy_le S (r40 + 1)))) ((hy_C S a1 0 a2 0 (nI (hy_le S (r40 + 1)))).1)) 0 tk94) H := hP1
            have hD : va_D A (hy_M cI cJ n0 bM sM zM tM xM kM wM eM (hy_told (hy_gS S a1 0 a2 0 (nI (hy_le S (r40 + 1)))) ((hy_C S a1 0 a2 0 (nI (hy_le S (r40 + 1)))).1)) 0 tk94) := hD1.weaken (fun _ q _ h => hFc q.1 h)
            clear hP1 hK1 hD1 hFc
            subst hw
            have hk9 : hy_k2b a1 a2 = 0 := by simp only [hy_k2b, if_pos (hy_kbox0 ok9), hy_kbox0 ok16]
            have eS : (hy_M cI cJ n0 bM sM zM tM xM kM wM eM (hy_told (hy_gS S a1 0 a2 0 (nI (hy_le S (r40 + 1)))) ((hy_C S a1 0 a2 0 (nI (hy_le S (r40 + 1)))).1)) 0 tk94) = (hy_M cI cJ n0 bM sM zM tM xM kM wM eM (hy_if (hy_k2b a1 a2) (hy_spour S a1 a2) S) (hy_k2b a1 a2) tk94) := by rw [hk9]; exact congrArg (fun s9 => hy_M cI cJ n0 bM sM zM tM xM kM wM eM s9 0 tk94) (Eq.trans (by rw [hy_spour, ← hn9]; exact hy_told_end _ _ _ : (hy_told (hy_gS S a1 0 a2 0 (nI (hy_le S (r40 + 1)))) ((hy_C S a1 0 a2 0 (nI (hy_le S (r40 + 1)))).1)) = (hy_spour S a1 a2)) (hy_if_0 _ _).symm)
            have hPz : va_P D vwCl (hy_M cI cJ n0 bM sM zM tM xM kM wM eM (hy_if (hy_k2b a1 a2) (hy_spour S a1 a2) S) (hy_k2b a1 a2) tk94) H := by rw [← eS]; exact hP
            have hDz : va_D A (hy_M cI cJ n0 bM sM zM tM xM kM wM eM (hy_if (hy_k2b a1 a2) (hy_spour S a1 a2) S) (hy_k2b a1 a2) tk94) := by rw [← eS]; exact hD
            exact W.iret (v := (((hy_C S a1 0 a2 0 (nI (hy_le S (r40 + 1)))).1))) hx hb hr (fun t ht hW => ⟨⟨_, (), rfl, fun _ => by rw [hy_vpour, ← hn9]; rfl, tk94, by rw [ht]; exact hPz, va_K.moved hW.alike hK, hDz⟩, hS.F ht⟩) hS.2.2 dX2_pour_97
          · -- 76
            refine lv_iload hx hb dX2_pour_76 (lv_at hl 1 rfl) ?_
            refine lv_goto (tgt := 83) hx hb dX2_pour_78 (by decide) ?_
            refine lv_istore_n (lv' := [(3, .int (nI (hy_le S (r32 + 1)))), (5, .int (nI (hy_le S (r40 + 1)))), (4, .int (nI (hy_le S (r32 + 1)))), (0, .ref n0), (1, .int a1), (2, .int a2)]) hx hb dX2_pour_83 rfl hl (by decide) rfl (fun ls hl => ?_)
            have hn9 : (nI (hy_le S (r32 + 1))) = hy_min (hy_vlen S a1) (hy_vlen S a2) := by first | exact hy_min_0a hwf c_32 | exact hy_min_0b hwf c_40 | exact hy_min_ge hb32 hb40 c_73 | exact hy_min_lt hb32 hb40 c_73
            refine lv_aload_n hx hb dX2_pour_84 rfl (lv_at hl 3 rfl) ?_
            refine lv_aload_n hx hb dX2_pour_85 rfl (lv_at hl 3 rfl) ?_
            refine lv_iload_n hx hb dX2_pour_86 rfl (lv_at hl 4 rfl) ?_
            refine lv_iconst (v := 0) hx hb dX2_pour_87 (by decide) ?_
            refine lv_iload_n hx hb dX2_pour_88 rfl (lv_at hl 5 rfl) ?_
            refine lv_iconst (v := 0) hx hb dX2_pour_89 (by decide) ?_
            refine lv_iload_n hx hb dX2_pour_90 rfl (lv_at hl 0 rfl) ?_
            have hFc := hy_free hD hS hA
            refine va_calli (va_runV (As := [.int a1, .int 0, .int a2, .int 0, .int (nI (hy_le S (r32 + 1)))]) (rest := [.ref n0]) ⟨hx, hb, hml, hown, hts⟩ (c_X2_goes l D cI cJ cB n0 bM sM zM tM xM kM wM eM S 0 tk hwf H.size a1 0 a2 0 (nI (hy_le S (r32 + 1))) ok9 ok16) (cwV 5 hts gX2_pour_X2_goes rfl rfl rfl (by decide +kernel) ⟨Nat.le_of_ble_eq_true rfl, Nat.le_of_ble_eq_true rfl⟩) ⟨hy_JM_blind, va_recv hK hP (ci := 2) (q0 := 0) rfl rfl, fun U hU hW => ⟨rfl, by rw [hU], hy_J_at hU hW hP hK, hD.weaken (fun _ _ _ _ => trivial)⟩⟩ rfl rfl hl.1 rfl (lv_room (Nat.le_of_ble_eq_true rfl)) dX2_pour_91 ⟨Nat.le_of_ble_eq_true rfl, Nat.le_of_ble_eq_true rfl⟩) hS (fun q _ h => hFc q h) hFc (fun v9 u t H locs ht hvm hw hB hz1 hk1 hS => ?_)
            obtain ⟨tk91, hP1, hK1, hD1⟩ := hB
            rw [ht] at hP1
            have hP : va_P D vwCl (hy_M cI cJ n0 bM sM zM tM xM kM wM eM (hy_gS S a1 0 a2 0 (nI (hy_le S (r32 + 1)))) 0 tk91) H := hP1
            have hD : va_D A (hy_M cI cJ n0 bM sM zM tM xM kM wM eM (hy_gS S a1 0 a2 0 (nI (hy_le S (r32 + 1)))) 0 tk91) := hD1.weaken (fun _ q _ h => hFc q.1 h)
            clear hP1 hK1 hD1 hFc
            subst hw
            have hFc := hy_free hD hS hA
            refine va_calli (va_runV (As := [.int ((hy_C S a1 0 a2 0 (nI (hy_le S (r32 + 1)))).1)]) (rest := []) ⟨hx, hb, hml, hown, hts⟩ (c_X2_told l D cI cJ cB n0 bM sM zM tM xM kM wM eM (hy_gS S a1 0 a2 0 (nI (hy_le S (r32 + 1)))) 0 tk91 H.size ((hy_C S a1 0 a2 0 (nI (hy_le S (r32 + 1)))).1) (hy_C1_in _ _ _ _ _ _)) (cwV 1 hts gX2_pour_X2_told rfl rfl rfl (by decide +kernel) ⟨Nat.le_of_ble_eq_true rfl, Nat.le_of_ble_eq_true rfl⟩) ⟨hy_JM_blind, va_recv hK hP (ci := 2) (q0 := 0) rfl rfl, fun U hU hW => ⟨rfl, by rw [hU], hy_J_at hU hW hP hK, hD.weaken (fun _ _ _ _ => trivial)⟩⟩ rfl rfl hl.1 rfl (lv_room (Nat.le_of_ble_eq_true rfl)) dX2_pour_94 ⟨Nat.le_of_ble_eq_true rfl, Nat.le_of_ble_eq_true rfl⟩) hS (fun q _ h => hFc q h) hFc (fun v9 u t H locs ht hvm hw hB hz1 hk1 hS => ?_)
            obtain ⟨tk94, hP1, hK1, hD1⟩ := hB
            rw [ht] at hP1
            have hP : va_P D vwCl (hy_M cI cJ n0 bM sM zM tM xM kM wM eM (hy_told (hy_gS S a1 0 a2 0 (nI (hy_le S (r32 + 1)))) ((hy_C S a1 0 a2 0 (nI (hy_le S (r32 + 1)))).1)) 0 tk94) H := hP1
            have hD : va_D A (hy_M cI cJ n0 bM sM zM tM xM kM wM eM (hy_told (hy_gS S a1 0 a2 0 (nI (hy_le S (r32 + 1)))) ((hy_C S a1 0 a2 0 (nI (hy_le S (r32 + 1)))).1)) 0 tk94) := hD1.weaken (fun _ q _ h => hFc q.1 h)
            clear hP1 hK1 hD1 hFc
            subst hw
            have hk9 : hy_k2b a1 a2 = 0 := by simp only [hy_k2b, if_pos (hy_kbox0 ok9), hy_kbox0 ok16]
            have eS : (hy_M cI cJ n0 bM sM zM tM xM kM wM eM (hy_told (hy_gS S a1 0 a2 0 (nI (hy_le S (r32 + 1)))) ((hy_C S a1 0 a2 0 (nI (hy_le S (r32 + 1)))).1)) 0 tk94) = (hy_M cI cJ n0 bM sM zM tM xM kM wM eM (hy_if (hy_k2b a1 a2) (hy_spour S a1 a2) S) (hy_k2b a1 a2) tk94) := by rw [hk9]; exact congrArg (fun s9 => hy_M cI cJ n0 bM sM zM tM xM kM wM eM s9 0 tk94) (Eq.trans (by rw [hy_spour, ← hn9]; exact hy_told_end _ _ _ : (hy_told (hy_gS S a1 0 a2 0 (nI (hy_le S (r32 + 1)))) ((hy_C S a1 0 a2 0 (nI (hy_le S (r32 + 1)))).1)) = (hy_spour S a1 a2)) (hy_if_0 _ _).symm)
            have hPz : va_P D vwCl (hy_M cI cJ n0 bM sM zM tM xM kM wM eM (hy_if (hy_k2b a1 a2) (hy_spour S a1 a2) S) (hy_k2b a1 a2) tk94) H := by rw [← eS]; exact hP
            have hDz : va_D A (hy_M cI cJ n0 bM sM zM tM xM kM wM eM (hy_if (hy_k2b a1 a2) (hy_spour S a1 a2) S) (hy_k2b a1 a2) tk94) := by rw [← eS]; exact hD
            exact W.iret (v := (((hy_C S a1 0 a2 0 (nI (hy_le S (r32 + 1)))).1))) hx hb hr (fun t ht hW => ⟨⟨_, (), rfl, fun _ => by rw [hy_vpour, ← hn9]; rfl, tk94, by rw [ht]; exact hPz, va_K.moved hW.alike hK, hDz⟩, hS.F ht⟩) hS.2.2 dX2_pour_97
    · -- 19
      refine lv_aload_n hx hb dX2_pour_19 rfl (lv_at hl 0 rfl) ?_
      refine lv_iconst (v := 1) hx hb dX2_pour_20 (by decide) ?_
      have hFc := hy_free hD hS hA
      refine va_calli (va_runV (As := [.int 1]) (rest := []) ⟨hx, hb, hml, hown, hts⟩ (c_X2_fail l D cI cJ cB n0 bM sM zM tM xM kM wM eM S 0 tk H.size 1) (cwV 1 hts gX2_pour_X2_fail rfl rfl rfl (by decide +kernel) ⟨Nat.le_of_ble_eq_true rfl, Nat.le_of_ble_eq_true rfl⟩) ⟨hy_JM_blind, va_recv hK hP (ci := 2) (q0 := 0) rfl rfl, fun U hU hW => ⟨rfl, by rw [hU], hy_J_at hU hW hP hK, hD.weaken (fun _ _ _ _ => trivial)⟩⟩ rfl rfl hl.1 rfl (lv_room (Nat.le_of_ble_eq_true rfl)) dX2_pour_21 ⟨Nat.le_of_ble_eq_true rfl, Nat.le_of_ble_eq_true rfl⟩) hS (fun q _ h => hFc q h) hFc (fun v9 u t H locs ht hvm hw hB hz1 hk1 hS => ?_)
      obtain ⟨tk21, hP1, hK1, hD1⟩ := hB
      rw [ht] at hP1
      have hP : va_P D vwCl (hy_M cI cJ n0 bM sM zM tM xM kM wM eM S 1 tk21) H := hP1
      have hD : va_D A (hy_M cI cJ n0 bM sM zM tM xM kM wM eM S 1 tk21) := hD1.weaken (fun _ q _ h => hFc q.1 h)
      clear hP1 hK1 hD1 hFc
      subst hw
      have hk9 : hy_k2b a1 a2 = 1 := by simp only [hy_k2b, if_pos (hy_kbox0 ok9), hy_kbox1e (hy_misbox_no c_16)]
      have eS : (hy_M cI cJ n0 bM sM zM tM xM kM wM eM S 1 tk21) = (hy_M cI cJ n0 bM sM zM tM xM kM wM eM (hy_if (hy_k2b a1 a2) (hy_spour S a1 a2) S) (hy_k2b a1 a2) tk21) := by rw [hk9]; exact congrArg (fun s9 => hy_M cI cJ n0 bM sM zM tM xM kM wM eM s9 1 tk21) (hy_if_n (by decide) _ _).symm
      have hPz : va_P D vwCl (hy_M cI cJ n0 bM sM zM tM xM kM wM eM (hy_if (hy_k2b a1 a2) (hy_spour S a1 a2) S) (hy_k2b a1 a2) tk21) H := by rw [← eS]; exact hP
      have hDz : va_D A (hy_M cI cJ n0 bM sM zM tM xM kM wM eM (hy_if (hy_k2b a1 a2) (hy_spour S a1 a2) S) (hy_k2b a1 a2) tk21) := by rw [← eS]; exact hD
      exact W.iret (v := ((0 : Int32))) hx hb hr (fun t ht hW => ⟨⟨_, (), rfl, fun q => absurd (hk9.symm.trans q) (by decide), tk21, by rw [ht]; exact hPz, va_K.moved hW.alike hK, hDz⟩, hS.F ht⟩) hS.2.2 dX2_pour_24
set_option maxHeartbeats 4000000 in
set_option maxRecDepth 100000 in
theorem c_X2_all (l : Launch) (D : va_G) (cI cJ cB : ClassId) (n0 bM sM zM tM xM kM wM eM : Nat) (S : hy_S) (th : Int32) (tk : Nat → Int64) (hwf : hy_wf S) (sz : Nat) (a1 : Int32) : Met l yX2_all wsX2_all ({ frames := 1, cells := 0, slots := 0, locals := 21 }) (va_Pc [.ref n0, .int a1] (hy_JM D cI cJ cB n0 bM sM zM tM xM kM wM eM S th tk sz)) (va_Ql (fun (r9 : Int64) (_ : Unit) => (hy_krow S a1 = 0 → r9 = hy_vall S a1)) (fun _ => hy_AtM D cI cJ cB n0 bM sM zM tM xM kM wM eM (hy_if (hy_krow S a1) S S) (hy_krow S a1) (va_A (hy_M cI cJ n0 bM sM zM tM xM kM wM eM S th tk) sz)) (va_A (hy_M cI cJ n0 bM sM zM tM xM kM wM eM S th tk) sz)) 0 0 (va_A (hy_M cI cJ n0 bM sM zM tM xM kM wM eM S th tk) sz) := by
  refine Met.ofW (cc := cX2_all) (maxL := 9) (ret := (some .long)) (by decide) rfl ?_
  intro p e s m args below meth c s₁ B hml hv
  obtain ⟨rfl, hsz, ⟨hP, hK⟩, hD0⟩ := hv
  have hx := B.exec
  have hb := B.bytes
  have hr := B.returns
  have hts := atoms_spec (ws := wsX2_all) B.pre
  have hown : s.vm.findClass RX2 = some m.cls := findClass_of_methodNamed B.named
  have hlocks := B.notSynchronized
  subst hsz
  have hD := hD0.self (sz := s.heap.size)
  generalize hAe : va_A (hy_M cI cJ n0 bM sM zM tM xM kM wM eM S th tk) s.heap.size = A at hD ⊢
  have hA : ∀ q : Nat, s.heap.size ≤ q → A q := fun q h => by rw [← hAe]; exact Or.inr h
  have hS : va_S A s.heap s.heap [] := va_S.rf
  have hinX2 : ∀ w ∈ wsX20, w ∈ wsX2_all := by decide +kernel
  have hl := lv_entry ([.ref n0, .int a1]) (n := 9) (Nat.le_of_ble_eq_true rfl)
  rw [lg_entry_eq]
  generalize (lg_sl ([.ref n0, .int a1]) ++ List.replicate (9 - (lg_sl ([.ref n0, .int a1])).length) Slot.unset).toArray = ls at hl ⊢
  have hl : lv_has ls 9 [(0, .ref n0), (1, .int a1)] := hl
  refine lv_aload_n hx hb dX2_all_0 rfl (lv_at hl 0 rfl) ?_
  refine lv_iconst (v := 0) hx hb dX2_all_1 (by decide) ?_
  refine va_put (D := D) (ci := 2) (v := .int 0) (ty := .int) (C := RX2) (T := TX2) (N := 14) hx hb hts hinX2 tyX2 tyX2_ok nmX2 hown hK hP hD hS 0 rfl rfl 0 (by decide) (hts (.fieldLink RX2 35 "HiveYardModel" "thrown" "I") (by decide +kernel)) (fun _ h9 => h9) rfl (by decide +kernel) rfl rfl (Nat.le_of_ble_eq_true rfl) dX2_all_2 (fun H locs hP hD hS => ?_)
  have hP : va_P D vwCl (hy_M cI cJ n0 bM sM zM tM xM kM wM eM S 0 tk) H := by rw [← hy_M_uth]; exact hP
  have hD : va_D A (hy_M cI cJ n0 bM sM zM tM xM kM wM eM S 0 tk) := by rw [← hy_M_uth]; exact hD
  refine lv_iload_n hx hb dX2_all_5 rfl (lv_at hl 1 rfl) ?_
  refine vp_callSi (W.runS (As := [.int a1]) (rest := []) ⟨hx, hb, hml, hown, hts⟩ (c_X2_isBox l a1) (va_cwS 1 hts gX2_all_X2_isBox rfl rfl rfl (by decide +kernel) ⟨Nat.le_of_ble_eq_true rfl, Nat.le_of_ble_eq_true rfl⟩) ⟨fun _ _ _ _ q => q, fun U hU hW => ⟨rfl, trivial⟩⟩ rfl rfl hl.1 rfl (lv_room (Nat.le_of_ble_eq_true rfl)) dX2_all_6 ⟨Nat.le_of_ble_eq_true rfl, Nat.le_of_ble_eq_true rfl⟩) (fun v9 e9 => ?_)
  subst e9
  refine lv_if_ne (tgt := 19) hx hb dX2_all_9 (by decide) (fun c_9 => ?_) (fun c_9 => ?_)
  · -- 19
    have ok9 : hy_ok a1 := hy_misbox_ok c_9
    refine lv_aload_n hx hb dX2_all_19 rfl (lv_at hl 0 rfl) ?_
    refine lv_iload_n hx hb dX2_all_20 rfl (lv_at hl 1 rfl) ?_
    refine vp_callSi (W.runV (As := [.int a1]) (rest := []) ⟨hx, hb, hml, hown, hts⟩ (c_X2_hasRow l D cI cJ cB n0 bM sM zM tM xM kM wM eM S 0 tk a1 ok9 (hy_bx S a1.toNatClampNeg) rfl hwf) (cwV 1 hts gX2_all_X2_hasRow rfl rfl rfl (by decide +kernel) ⟨Nat.le_of_ble_eq_true rfl, Nat.le_of_ble_eq_true rfl⟩) ⟨hy_J_blind, va_recv hK hP (ci := 2) (q0 := 0) rfl rfl, fun U hU hW => ⟨rfl, hy_J_at hU hW hP hK⟩⟩ rfl rfl hl.1 rfl (lv_room (Nat.le_of_ble_eq_true rfl)) dX2_all_21 ⟨Nat.le_of_ble_eq_true rfl, Nat.le_of_ble_eq_true rfl⟩) (fun v9 e9 => ?_)
    subst e9
    refine lv_if_ne (tgt := 34) hx hb dX2_all_24 (by decide) (fun c_24 => ?_) (fun c_24 => ?_)
    · -- 34
      have i24 : ¬ hy_isRow S (hy_bx S a1.toNatClampNeg) = 0 := by rw [hy_isRow_m hwf (hwf.2.2.1 _)]; exact c_24
      obtain ⟨r24, hb24⟩ := hy_mrow_some c_24
      have hl24 := hwf.2.2.1 _ _ hb24
      have h300 := hwf.1
      have h2424 := hwf.2.2.2.2.2.1 (r24 + 1)
      refine lv_aload_n hx hb dX2_all_34 rfl (lv_at hl 0 rfl) ?_
      refine va_get (D := D) (ci := 2) (v := .ref bM) (C := RX2) (T := TX2) (N := 14) hx hb hts hinX2 hown hK hP 0 rfl rfl 1 (by decide) (hts (.fieldLink RX2 7 "HiveYardModel" "boxes" "[I") (by decide +kernel)) (fun _ h9 => h9) rfl dX2_all_35 ?_
      refine lv_iload_n hx hb dX2_all_38 rfl (lv_at hl 1 rfl) ?_
      refine va_iald hx hb hK hP 1 0 rfl rfl (hy_ok_in ok9) dX2_all_39 ?_
      refine lv_topi (fun v9 e9 => ?_)
      obtain rfl : v9 = (nI r24) := e9.trans (by show hy_enc (hy_bx S a1.toNatClampNeg) = _; rw [hb24]; rfl)
      clear e9
      refine lv_istore_n (lv' := [(2, .int (nI r24)), (0, .ref n0), (1, .int a1)]) hx hb dX2_all_40 rfl hl (by decide) rfl (fun ls hl => ?_)
      refine lv_aload_n hx hb dX2_all_41 rfl (lv_at hl 1 rfl) ?_
      refine va_get (D := D) (ci := 2) (v := .ref sM) (C := RX2) (T := TX2) (N := 14) hx hb hts hinX2 hown hK hP 0 rfl rfl 3 (by decide) (hts (.fieldLink RX2 13 "HiveYardModel" "sorts" "[I") (by decide +kernel)) (fun _ h9 => h9) rfl dX2_all_42 ?_
      refine lv_iload_n hx hb dX2_all_45 rfl (lv_at hl 0 rfl) ?_
      refine va_iald hx hb hK hP 2 0 rfl rfl (vp_in_nI (by omega) (by omega)) dX2_all_46 ?_
      refine lv_topi (fun v9 e9 => ?_)
      obtain rfl : v9 = (hy_so S (r24 + 1)) := e9.trans (by rw [nI_clamp (by omega)])
      clear e9
      refine vp_callSi (W.runS (As := [.int (hy_so S (r24 + 1))]) (rest := []) ⟨hx, hb, hml, hown, hts⟩ (c_X2_isOfCombs l (hy_so S (r24 + 1))) (va_cwS 1 hts gX2_all_X2_isOfCombs rfl rfl rfl (by decide +kernel) ⟨Nat.le_of_ble_eq_true rfl, Nat.le_of_ble_eq_true rfl⟩) ⟨fun _ _ _ _ q => q, fun U hU hW => ⟨rfl, trivial⟩⟩ rfl rfl hl.1 rfl (lv_room (Nat.le_of_ble_eq_true rfl)) dX2_all_47 ⟨Nat.le_of_ble_eq_true rfl, Nat.le_of_ble_eq_true rfl⟩) (fun v9 e9 => ?_)
      subst e9
      rcases hy_mc01 (hy_so S (r24 + 1)) with hmc | hmc
      · rw [hmc]
        refine lv_istore_n (lv' := [(3, .int 0), (2, .int (nI r24)), (0, .ref n0), (1, .int a1)]) hx hb dX2_all_50 rfl hl (by decide) rfl (fun ls hl => ?_)
        refine lv_lconst (v := 0) hx hb dX2_all_51 (by decide) ?_
        refine lv_lstore (lv' := [(4, .long 0), (3, .int 0), (2, .int (nI r24)), (0, .ref n0), (1, .int a1)]) hx hb dX2_all_52 hl (by decide) rfl (fun ls hl => ?_)
        refine lv_bipush (v := 24) hx hb dX2_all_54 (by decide) ?_
        refine lv_iload_n hx hb dX2_all_56 rfl (lv_at hl 2 rfl) ?_
        refine lv_imul hx hb dX2_all_57 ?_
        refine lv_topi (fun v9 e9 => ?_)
        obtain rfl : v9 = (nI (24 * r24)) := e9.trans (hy_24 _)
        clear e9
        refine lv_istore (lv' := [(6, .int (nI (24 * r24))), (4, .long 0), (3, .int 0), (2, .int (nI r24)), (0, .ref n0), (1, .int a1)]) hx hb dX2_all_58 hl (by decide) rfl (fun ls hl => ?_)
        refine hy_for (G := fun ls => W p l e _ s m _ below meth c _ _ _ _ _ (F0 m 60 ls [])) (ls0 := ls) (fun i ls => lv_has ls 9 [(6, .int (nI (24 * r24 + i))), (4, .long (hy_sum (hy_va S (r24 + 1)) i)), (3, .int 0), (2, .int (nI r24)), (1, .int a1), (0, .ref n0)]) (hy_le S (r24 + 1)) (lv_sub hl [0, 1, 2, 3, 5, 4] rfl) (fun ls hl => ?_) (fun i ls hi hl ih => ?_)
        · -- exit
          refine lv_iload hx hb dX2_all_60 (lv_at hl 0 rfl) ?_
          refine lv_bipush (v := 24) hx hb dX2_all_62 (by decide) ?_
          refine lv_iload_n hx hb dX2_all_64 rfl (lv_at hl 3 rfl) ?_
          refine lv_imul hx hb dX2_all_65 ?_
          refine lv_topi (fun v9 e9 => ?_)
          obtain rfl : v9 = (nI (24 * r24)) := e9.trans (hy_24 _)
          clear e9
          refine lv_aload_n hx hb dX2_all_66 rfl (lv_at hl 5 rfl) ?_
          refine va_get (D := D) (ci := 2) (v := .ref zM) (C := RX2) (T := TX2) (N := 14) hx hb hts hinX2 hown hK hP 0 rfl rfl 4 (by decide) (hts (.fieldLink RX2 16 "HiveYardModel" "sizes" "[I") (by decide +kernel)) (fun _ h9 => h9) rfl dX2_all_67 ?_
          refine lv_iload_n hx hb dX2_all_70 rfl (lv_at hl 3 rfl) ?_
          refine va_iald hx hb hK hP 3 0 rfl rfl (vp_in_nI (by omega) (by omega)) dX2_all_71 ?_
          refine lv_topi (fun v9 e9 => ?_)
          obtain rfl : v9 = (nI (hy_le S (r24 + 1))) := e9.trans (by rw [nI_clamp (by omega)])
          clear e9
          refine lv_iadd hx hb dX2_all_72 ?_
          refine lv_topi (fun v9 e9 => ?_)
          obtain rfl : v9 = (nI (24 * r24 + hy_le S (r24 + 1))) := e9.trans (nI_add _ _)
          clear e9
          refine lv_icmp_ge (tgt := 125) hx hb dX2_all_73 (by decide) (fun c_73 => ?_) (fun c9 => absurd c9 (fun c => c (Int32.le_refl _)))
          refine lv_lload hx hb dX2_all_125 (lv_at hl 1 rfl) ?_
          have hk9 : hy_krow S a1 = 0 := by simp only [hy_krow, if_pos (hy_kbox0 ok9), if_neg i24]
          have eS : (hy_M cI cJ n0 bM sM zM tM xM kM wM eM S 0 tk) = (hy_M cI cJ n0 bM sM zM tM xM kM wM eM (hy_if (hy_krow S a1) S S) (hy_krow S a1) tk) := by rw [hk9]; exact congrArg (fun s9 => hy_M cI cJ n0 bM sM zM tM xM kM wM eM s9 0 tk) (Eq.trans (rfl : S = S) (hy_if_0 _ _).symm)
          have hPz : va_P D vwCl (hy_M cI cJ n0 bM sM zM tM xM kM wM eM (hy_if (hy_krow S a1) S S) (hy_krow S a1) tk) H := by rw [← eS]; exact hP
          have hDz : va_D A (hy_M cI cJ n0 bM sM zM tM xM kM wM eM (hy_if (hy_krow S a1) S S) (hy_krow S a1) tk) := by rw [← eS]; exact hD
          exact W.lret (v := (hy_sum (hy_va S (r24 + 1)) (hy_le S (r24 + 1)))) hx hb hr (fun t ht hW => ⟨⟨_, (), rfl, fun _ => by rw [hy_vall, hb24]; exact (if_pos ((hy_isCo_m hwf hl24).trans hmc)).symm, tk, by rw [ht]; exact hPz, va_K.moved hW.alike hK, hDz⟩, hS.F ht⟩) hS.2.2 dX2_all_127
        · -- step
          refine lv_iload hx hb dX2_all_60 (lv_at hl 0 rfl) ?_
          refine lv_bipush (v := 24) hx hb dX2_all_62 (by decide) ?_
          refine lv_iload_n hx hb dX2_all_64 rfl (lv_at hl 3 rfl) ?_
          refine lv_imul hx hb dX2_all_65 ?_
          refine lv_topi (fun v9 e9 => ?_)
          obtain rfl : v9 = (nI (24 * r24)) := e9.trans (hy_24 _)
          clear e9
          refine lv_aload_n hx hb dX2_all_66 rfl (lv_at hl 5 rfl) ?_
          refine va_get (D := D) (ci := 2) (v := .ref zM) (C := RX2) (T := TX2) (N := 14) hx hb hts hinX2 hown hK hP 0 rfl rfl 4 (by decide) (hts (.fieldLink RX2 16 "HiveYardModel" "sizes" "[I") (by decide +kernel)) (fun _ h9 => h9) rfl dX2_all_67 ?_
          refine lv_iload_n hx hb dX2_all_70 rfl (lv_at hl 3 rfl) ?_
          refine va_iald hx hb hK hP 3 0 rfl rfl (vp_in_nI (by omega) (by omega)) dX2_all_71 ?_
          refine lv_topi (fun v9 e9 => ?_)
          obtain rfl : v9 = (nI (hy_le S (r24 + 1))) := e9.trans (by rw [nI_clamp (by omega)])
          clear e9
          refine lv_iadd hx hb dX2_all_72 ?_
          refine lv_topi (fun v9 e9 => ?_)
          obtain rfl : v9 = (nI (24 * r24 + hy_le S (r24 + 1))) := e9.trans (nI_add _ _)
          clear e9
          refine lv_icmp_ge (tgt := 125) hx hb dX2_all_73 (by decide) (fun c9 => absurd c9 (nI_ge (by omega) (by omega))) (fun c_73 => ?_)
          refine lv_aload_n hx hb dX2_all_76 rfl (lv_at hl 5 rfl) ?_
          refine va_get (D := D) (ci := 2) (v := .ref tM) (C := RX2) (T := TX2) (N := 14) hx hb hts hinX2 hown hK hP 0 rfl rfl 5 (by decide) (hts (.fieldLink RX2 19 "HiveYardModel" "stands" "[J") (by decide +kernel)) (fun _ h9 => h9) rfl dX2_all_77 ?_
          refine lv_iload hx hb dX2_all_80 (lv_at hl 0 rfl) ?_
          refine va_lald hx hb hK hP 4 1 rfl rfl (vp_in_nI (by omega) (by omega)) dX2_all_82 ?_
          refine lv_topl (fun v9 e9 => ?_)
          obtain rfl : v9 = ((hy_va S (r24 + 1)) i) := e9.trans (by rw [nI_clamp (by omega)]; exact hy_st_at (by omega))
          clear e9
          refine lv_lstore (lv' := [(7, .long ((hy_va S (r24 + 1)) i)), (6, .int (nI (24 * r24 + i))), (4, .long (hy_sum (hy_va S (r24 + 1)) i)), (3, .int 0), (2, .int (nI r24)), (1, .int a1), (0, .ref n0)]) hx hb dX2_all_83 hl (by decide) rfl (fun ls hl => ?_)
          refine lv_lload hx hb dX2_all_85 (lv_at hl 2 rfl) ?_
          refine lv_iload_n hx hb dX2_all_87 rfl (lv_at hl 3 rfl) ?_
          refine lv_if_ne (tgt := 96) hx hb dX2_all_88 (by decide) (fun c9 => absurd c9 (fun c => c rfl)) (fun c_88 => ?_)
          refine lv_lload hx hb dX2_all_91 (lv_at hl 0 rfl) ?_
          refine lv_goto (tgt := 116) hx hb dX2_all_93 (by decide) ?_
          refine lv_ladd hx hb dX2_all_116 ?_
          refine lv_topl (fun v9 e9 => ?_)
          obtain rfl : v9 = (hy_sum (hy_va S (r24 + 1)) (i + 1)) := e9.trans (rfl)
          clear e9
          refine lv_lstore (lv' := [(4, .long (hy_sum (hy_va S (r24 + 1)) (i + 1))), (7, .long ((hy_va S (r24 + 1)) i)), (6, .int (nI (24 * r24 + i))), (3, .int 0), (2, .int (nI r24)), (1, .int a1), (0, .ref n0)]) hx hb dX2_all_117 hl (by decide) rfl (fun ls hl => ?_)
          refine lv_iinc (v := (nI (24 * r24 + (i + 1)))) (lv' := [(6, .int (nI (24 * r24 + (i + 1)))), (4, .long (hy_sum (hy_va S (r24 + 1)) (i + 1))), (7, .long ((hy_va S (r24 + 1)) i)), (3, .int 0), (2, .int (nI r24)), (1, .int a1), (0, .ref n0)]) hx hb dX2_all_119 hl (k := 2) rfl (nI_1 (24 * r24 + i)) (by decide) rfl (fun ls hl => ?_)
          refine lv_goto (tgt := 60) hx hb dX2_all_122 (by decide) ?_
          exact ih ls (lv_sub hl [0, 1, 3, 4, 5, 6] rfl)
      · rw [hmc]
        refine lv_istore_n (lv' := [(3, .int 1), (2, .int (nI r24)), (0, .ref n0), (1, .int a1)]) hx hb dX2_all_50 rfl hl (by decide) rfl (fun ls hl => ?_)
        refine lv_lconst (v := 0) hx hb dX2_all_51 (by decide) ?_
        refine lv_lstore (lv' := [(4, .long 0), (3, .int 1), (2, .int (nI r24)), (0, .ref n0), (1, .int a1)]) hx hb dX2_all_52 hl (by decide) rfl (fun ls hl => ?_)
        refine lv_bipush (v := 24) hx hb dX2_all_54 (by decide) ?_
        refine lv_iload_n hx hb dX2_all_56 rfl (lv_at hl 2 rfl) ?_
        refine lv_imul hx hb dX2_all_57 ?_
        refine lv_topi (fun v9 e9 => ?_)
        obtain rfl : v9 = (nI (24 * r24)) := e9.trans (hy_24 _)
        clear e9
        refine lv_istore (lv' := [(6, .int (nI (24 * r24))), (4, .long 0), (3, .int 1), (2, .int (nI r24)), (0, .ref n0), (1, .int a1)]) hx hb dX2_all_58 hl (by decide) rfl (fun ls hl => ?_)
        refine hy_for (G := fun ls => W p l e _ s m _ below meth c _ _ _ _ _ (F0 m 60 ls [])) (ls0 := ls) (fun i ls => lv_has ls 9 [(6, .int (nI (24 * r24 + i))), (4, .long (hy_wsum S (hy_va S (r24 + 1)) i)), (3, .int 1), (2, .int (nI r24)), (1, .int a1), (0, .ref n0)]) (hy_le S (r24 + 1)) (lv_sub hl [0, 1, 2, 3, 5, 4] rfl) (fun ls hl => ?_) (fun i ls hi hl ih => ?_)
        · -- exit
          refine lv_iload hx hb dX2_all_60 (lv_at hl 0 rfl) ?_
          refine lv_bipush (v := 24) hx hb dX2_all_62 (by decide) ?_
          refine lv_iload_n hx hb dX2_all_64 rfl (lv_at hl 3 rfl) ?_
          refine lv_imul hx hb dX2_all_65 ?_
          refine lv_topi (fun v9 e9 => ?_)
          obtain rfl : v9 = (nI (24 * r24)) := e9.trans (hy_24 _)
          clear e9
          refine lv_aload_n hx hb dX2_all_66 rfl (lv_at hl 5 rfl) ?_
          refine va_get (D := D) (ci := 2) (v := .ref zM) (C := RX2) (T := TX2) (N := 14) hx hb hts hinX2 hown hK hP 0 rfl rfl 4 (by decide) (hts (.fieldLink RX2 16 "HiveYardModel" "sizes" "[I") (by decide +kernel)) (fun _ h9 => h9) rfl dX2_all_67 ?_
          refine lv_iload_n hx hb dX2_all_70 rfl (lv_at hl 3 rfl) ?_
          refine va_iald hx hb hK hP 3 0 rfl rfl (vp_in_nI (by omega) (by omega)) dX2_all_71 ?_
          refine lv_topi (fun v9 e9 => ?_)
          obtain rfl : v9 = (nI (hy_le S (r24 + 1))) := e9.trans (by rw [nI_clamp (by omega)])
          clear e9
          refine lv_iadd hx hb dX2_all_72 ?_
          refine lv_topi (fun v9 e9 => ?_)
          obtain rfl : v9 = (nI (24 * r24 + hy_le S (r24 + 1))) := e9.trans (nI_add _ _)
          clear e9
          refine lv_icmp_ge (tgt := 125) hx hb dX2_all_73 (by decide) (fun c_73 => ?_) (fun c9 => absurd c9 (fun c => c (Int32.le_refl _)))
          refine lv_lload hx hb dX2_all_125 (lv_at hl 1 rfl) ?_
          have hk9 : hy_krow S a1 = 0 := by simp only [hy_krow, if_pos (hy_kbox0 ok9), if_neg i24]
          have eS : (hy_M cI cJ n0 bM sM zM tM xM kM wM eM S 0 tk) = (hy_M cI cJ n0 bM sM zM tM xM kM wM eM (hy_if (hy_krow S a1) S S) (hy_krow S a1) tk) := by rw [hk9]; exact congrArg (fun s9 => hy_M cI cJ n0 bM sM zM tM xM kM wM eM s9 0 tk) (Eq.trans (rfl : S = S) (hy_if_0 _ _).symm)
          have hPz : va_P D vwCl (hy_M cI cJ n0 bM sM zM tM xM kM wM eM (hy_if (hy_krow S a1) S S) (hy_krow S a1) tk) H := by rw [← eS]; exact hP
          have hDz : va_D A (hy_M cI cJ n0 bM sM zM tM xM kM wM eM (hy_if (hy_krow S a1) S S) (hy_krow S a1) tk) := by rw [← eS]; exact hD
          exact W.lret (v := (hy_wsum S (hy_va S (r24 + 1)) (hy_le S (r24 + 1)))) hx hb hr (fun t ht hW => ⟨⟨_, (), rfl, fun _ => by rw [hy_vall, hb24]; exact (if_neg (fun q => absurd (hmc.symm.trans ((hy_isCo_m hwf hl24).symm.trans q)) (by decide))).symm, tk, by rw [ht]; exact hPz, va_K.moved hW.alike hK, hDz⟩, hS.F ht⟩) hS.2.2 dX2_all_127
        · -- step
          refine lv_iload hx hb dX2_all_60 (lv_at hl 0 rfl) ?_
          refine lv_bipush (v := 24) hx hb dX2_all_62 (by decide) ?_
          refine lv_iload_n hx hb dX2_all_64 rfl (lv_at hl 3 rfl) ?_
          refine lv_imul hx hb dX2_all_65 ?_
          refine lv_topi (fun v9 e9 => ?_)
          obtain rfl : v9 = (nI (24 * r24)) := e9.trans (hy_24 _)
          clear e9
          refine lv_aload_n hx hb dX2_all_66 rfl (lv_at hl 5 rfl) ?_
          refine va_get (D := D) (ci := 2) (v := .ref zM) (C := RX2) (T := TX2) (N := 14) hx hb hts hinX2 hown hK hP 0 rfl rfl 4 (by decide) (hts (.fieldLink RX2 16 "HiveYardModel" "sizes" "[I") (by decide +kernel)) (fun _ h9 => h9) rfl dX2_all_67 ?_
          refine lv_iload_n hx hb dX2_all_70 rfl (lv_at hl 3 rfl) ?_
          refine va_iald hx hb hK hP 3 0 rfl rfl (vp_in_nI (by omega) (by omega)) dX2_all_71 ?_
          refine lv_topi (fun v9 e9 => ?_)
          obtain rfl : v9 = (nI (hy_le S (r24 + 1))) := e9.trans (by rw [nI_clamp (by omega)])
          clear e9
          refine lv_iadd hx hb dX2_all_72 ?_
          refine lv_topi (fun v9 e9 => ?_)
          obtain rfl : v9 = (nI (24 * r24 + hy_le S (r24 + 1))) := e9.trans (nI_add _ _)
          clear e9
          refine lv_icmp_ge (tgt := 125) hx hb dX2_all_73 (by decide) (fun c9 => absurd c9 (nI_ge (by omega) (by omega))) (fun c_73 => ?_)
          refine lv_aload_n hx hb dX2_all_76 rfl (lv_at hl 5 rfl) ?_
          refine va_get (D := D) (ci := 2) (v := .ref tM) (C := RX2) (T := TX2) (N := 14) hx hb hts hinX2 hown hK hP 0 rfl rfl 5 (by decide) (hts (.fieldLink RX2 19 "HiveYardModel" "stands" "[J") (by decide +kernel)) (fun _ h9 => h9) rfl dX2_all_77 ?_
          refine lv_iload hx hb dX2_all_80 (lv_at hl 0 rfl) ?_
          refine va_lald hx hb hK hP 4 1 rfl rfl (vp_in_nI (by omega) (by omega)) dX2_all_82 ?_
          refine lv_topl (fun v9 e9 => ?_)
          obtain rfl : v9 = ((hy_va S (r24 + 1)) i) := e9.trans (by rw [nI_clamp (by omega)]; exact hy_st_at (by omega))
          clear e9
          refine lv_lstore (lv' := [(7, .long ((hy_va S (r24 + 1)) i)), (6, .int (nI (24 * r24 + i))), (4, .long (hy_wsum S (hy_va S (r24 + 1)) i)), (3, .int 1), (2, .int (nI r24)), (1, .int a1), (0, .ref n0)]) hx hb dX2_all_83 hl (by decide) rfl (fun ls hl => ?_)
          refine lv_lload hx hb dX2_all_85 (lv_at hl 2 rfl) ?_
          refine lv_iload_n hx hb dX2_all_87 rfl (lv_at hl 3 rfl) ?_
          refine lv_if_ne (tgt := 96) hx hb dX2_all_88 (by decide) (fun c_88 => ?_) (fun c9 => absurd c9 (by decide))
          refine lv_lload hx hb dX2_all_96 (lv_at hl 0 rfl) ?_
          refine lv_lconst (v := 0) hx hb dX2_all_98 (by decide) ?_
          refine W.lcmp hx hb dX2_all_99 ?_
          refine lv_if_ge (tgt := 107) hx hb dX2_all_100 (by decide) (fun c_100 => ?_) (fun c_100 => ?_)
          · -- 107
            have hic : ¬ hy_isComb S ((hy_va S (r24 + 1)) i) = 0 := hy_comb_nn hwf.2.1 (hy_combval hwf hl24 hmc hi) (Int64.not_lt.mpr ((lg_cmp_ge _ _).mp c_100))
            refine lv_aload_n hx hb dX2_all_107 rfl (lv_at hl 6 rfl) ?_
            refine va_get (D := D) (ci := 2) (v := .ref wM) (C := RX2) (T := TX2) (N := 14) hx hb hts hinX2 hown hK hP 0 rfl rfl 9 (by decide) (hts (.fieldLink RX2 29 "HiveYardModel" "weights" "[I") (by decide +kernel)) (fun _ h9 => h9) rfl dX2_all_108 ?_
            refine lv_lload hx hb dX2_all_111 (lv_at hl 0 rfl) ?_
            refine lv_l2i (v := ((hy_va S (r24 + 1)) i).toInt32) hx hb dX2_all_113 rfl ?_
            refine va_iald hx hb hK hP 7 0 rfl rfl (hy_comb_vp hwf.2.1 hic) dX2_all_114 ?_
            refine lv_i2l (v := ((hy_we S) (((hy_va S (r24 + 1)) i).toInt32).toNatClampNeg).toInt64) hx hb dX2_all_115 rfl ?_
            refine lv_ladd hx hb dX2_all_116 ?_
            refine lv_topl (fun v9 e9 => ?_)
            obtain rfl : v9 = (hy_wsum S (hy_va S (r24 + 1)) (i + 1)) := e9.trans (by rw [hy_wsum, if_neg hic])
            clear e9
            refine lv_lstore (lv' := [(4, .long (hy_wsum S (hy_va S (r24 + 1)) (i + 1))), (7, .long ((hy_va S (r24 + 1)) i)), (6, .int (nI (24 * r24 + i))), (3, .int 1), (2, .int (nI r24)), (1, .int a1), (0, .ref n0)]) hx hb dX2_all_117 hl (by decide) rfl (fun ls hl => ?_)
            refine lv_iinc (v := (nI (24 * r24 + (i + 1)))) (lv' := [(6, .int (nI (24 * r24 + (i + 1)))), (4, .long (hy_wsum S (hy_va S (r24 + 1)) (i + 1))), (7, .long ((hy_va S (r24 + 1)) i)), (3, .int 1), (2, .int (nI r24)), (1, .int a1), (0, .ref n0)]) hx hb dX2_all_119 hl (k := 2) rfl (nI_1 (24 * r24 + i)) (by decide) rfl (fun ls hl => ?_)
            refine lv_goto (tgt := 60) hx hb dX2_all_122 (by decide) ?_
            exact ih ls (lv_sub hl [0, 1, 3, 4, 5, 6] rfl)
          · -- 103
            refine lv_lconst (v := 0) hx hb dX2_all_103 (by decide) ?_
            refine lv_goto (tgt := 116) hx hb dX2_all_104 (by decide) ?_
            refine lv_ladd hx hb dX2_all_116 ?_
            refine lv_topl (fun v9 e9 => ?_)
            obtain rfl : v9 = (hy_wsum S (hy_va S (r24 + 1)) (i + 1)) := e9.trans (by rw [hy_wsum, if_pos (hy_neg1 (Int64.not_le.mp (fun q => c_100 ((lg_cmp_ge _ _).mpr q)))), Int64.add_zero])
            clear e9
            refine lv_lstore (lv' := [(4, .long (hy_wsum S (hy_va S (r24 + 1)) (i + 1))), (7, .long ((hy_va S (r24 + 1)) i)), (6, .int (nI (24 * r24 + i))), (3, .int 1), (2, .int (nI r24)), (1, .int a1), (0, .ref n0)]) hx hb dX2_all_117 hl (by decide) rfl (fun ls hl => ?_)
            refine lv_iinc (v := (nI (24 * r24 + (i + 1)))) (lv' := [(6, .int (nI (24 * r24 + (i + 1)))), (4, .long (hy_wsum S (hy_va S (r24 + 1)) (i + 1))), (7, .long ((hy_va S (r24 + 1)) i)), (3, .int 1), (2, .int (nI r24)), (1, .int a1), (0, .ref n0)]) hx hb dX2_all_119 hl (k := 2) rfl (nI_1 (24 * r24 + i)) (by decide) rfl (fun ls hl => ?_)
            refine lv_goto (tgt := 60) hx hb dX2_all_122 (by decide) ?_
            exact ih ls (lv_sub hl [0, 1, 3, 4, 5, 6] rfl)
    · -- 27
      have i24 : hy_isRow S (hy_bx S a1.toNatClampNeg) = 0 := by rw [hy_isRow_m hwf (hwf.2.2.1 _)]; exact c_24
      refine lv_aload_n hx hb dX2_all_27 rfl (lv_at hl 0 rfl) ?_
      refine lv_iconst (v := 2) hx hb dX2_all_28 (by decide) ?_
      have hFc := hy_free hD hS hA
      refine va_calli (va_runV (As := [.int 2]) (rest := []) ⟨hx, hb, hml, hown, hts⟩ (c_X2_fail l D cI cJ cB n0 bM sM zM tM xM kM wM eM S 0 tk H.size 2) (cwV 1 hts gX2_all_X2_fail rfl rfl rfl (by decide +kernel) ⟨Nat.le_of_ble_eq_true rfl, Nat.le_of_ble_eq_true rfl⟩) ⟨hy_JM_blind, va_recv hK hP (ci := 2) (q0 := 0) rfl rfl, fun U hU hW => ⟨rfl, by rw [hU], hy_J_at hU hW hP hK, hD.weaken (fun _ _ _ _ => trivial)⟩⟩ rfl rfl hl.1 rfl (lv_room (Nat.le_of_ble_eq_true rfl)) dX2_all_29 ⟨Nat.le_of_ble_eq_true rfl, Nat.le_of_ble_eq_true rfl⟩) hS (fun q _ h => hFc q h) hFc (fun v9 u t H locs ht hvm hw hB hz1 hk1 hS => ?_)
      obtain ⟨tk29, hP1, hK1, hD1⟩ := hB
      rw [ht] at hP1
      have hP : va_P D vwCl (hy_M cI cJ n0 bM sM zM tM xM kM wM eM S 2 tk29) H := hP1
      have hD : va_D A (hy_M cI cJ n0 bM sM zM tM xM kM wM eM S 2 tk29) := hD1.weaken (fun _ q _ h => hFc q.1 h)
      clear hP1 hK1 hD1 hFc
      subst hw
      refine lv_i2l (v := ((0 : Int32)).toInt64) hx hb dX2_all_32 rfl ?_
      have hk9 : hy_krow S a1 = 2 := by simp only [hy_krow, if_pos (hy_kbox0 ok9), if_pos i24]
      have eS : (hy_M cI cJ n0 bM sM zM tM xM kM wM eM S 2 tk29) = (hy_M cI cJ n0 bM sM zM tM xM kM wM eM (hy_if (hy_krow S a1) S S) (hy_krow S a1) tk29) := by rw [hk9]; exact congrArg (fun s9 => hy_M cI cJ n0 bM sM zM tM xM kM wM eM s9 2 tk29) (hy_if_n (by decide) _ _).symm
      have hPz : va_P D vwCl (hy_M cI cJ n0 bM sM zM tM xM kM wM eM (hy_if (hy_krow S a1) S S) (hy_krow S a1) tk29) H := by rw [← eS]; exact hP
      have hDz : va_D A (hy_M cI cJ n0 bM sM zM tM xM kM wM eM (hy_if (hy_krow S a1) S S) (hy_krow S a1) tk29) := by rw [← eS]; exact hD
      exact W.lret (v := ((0 : Int32)).toInt64) hx hb hr (fun t ht hW => ⟨⟨_, (), rfl, fun q => absurd (hk9.symm.trans q) (by decide), tk29, by rw [ht]; exact hPz, va_K.moved hW.alike hK, hDz⟩, hS.F ht⟩) hS.2.2 dX2_all_33
  · -- 12
    refine lv_aload_n hx hb dX2_all_12 rfl (lv_at hl 0 rfl) ?_
    refine lv_iconst (v := 1) hx hb dX2_all_13 (by decide) ?_
    have hFc := hy_free hD hS hA
    refine va_calli (va_runV (As := [.int 1]) (rest := []) ⟨hx, hb, hml, hown, hts⟩ (c_X2_fail l D cI cJ cB n0 bM sM zM tM xM kM wM eM S 0 tk H.size 1) (cwV 1 hts gX2_all_X2_fail rfl rfl rfl (by decide +kernel) ⟨Nat.le_of_ble_eq_true rfl, Nat.le_of_ble_eq_true rfl⟩) ⟨hy_JM_blind, va_recv hK hP (ci := 2) (q0 := 0) rfl rfl, fun U hU hW => ⟨rfl, by rw [hU], hy_J_at hU hW hP hK, hD.weaken (fun _ _ _ _ => trivial)⟩⟩ rfl rfl hl.1 rfl (lv_room (Nat.le_of_ble_eq_true rfl)) dX2_all_14 ⟨Nat.le_of_ble_eq_true rfl, Nat.le_of_ble_eq_true rfl⟩) hS (fun q _ h => hFc q h) hFc (fun v9 u t H locs ht hvm hw hB hz1 hk1 hS => ?_)
    obtain ⟨tk14, hP1, hK1, hD1⟩ := hB
    rw [ht] at hP1
    have hP : va_P D vwCl (hy_M cI cJ n0 bM sM zM tM xM kM wM eM S 1 tk14) H := hP1
    have hD : va_D A (hy_M cI cJ n0 bM sM zM tM xM kM wM eM S 1 tk14) := hD1.weaken (fun _ q _ h => hFc q.1 h)
    clear hP1 hK1 hD1 hFc
    subst hw
    refine lv_i2l (v := ((0 : Int32)).toInt64) hx hb dX2_all_17 rfl ?_
    have hk9 : hy_krow S a1 = 1 := by simp only [hy_krow, if_neg (hy_kbox1 (hy_misbox_no c_9))]
    have eS : (hy_M cI cJ n0 bM sM zM tM xM kM wM eM S 1 tk14) = (hy_M cI cJ n0 bM sM zM tM xM kM wM eM (hy_if (hy_krow S a1) S S) (hy_krow S a1) tk14) := by rw [hk9]; exact congrArg (fun s9 => hy_M cI cJ n0 bM sM zM tM xM kM wM eM s9 1 tk14) (hy_if_n (by decide) _ _).symm
    have hPz : va_P D vwCl (hy_M cI cJ n0 bM sM zM tM xM kM wM eM (hy_if (hy_krow S a1) S S) (hy_krow S a1) tk14) H := by rw [← eS]; exact hP
    have hDz : va_D A (hy_M cI cJ n0 bM sM zM tM xM kM wM eM (hy_if (hy_krow S a1) S S) (hy_krow S a1) tk14) := by rw [← eS]; exact hD
    exact W.lret (v := ((0 : Int32)).toInt64) hx hb hr (fun t ht hW => ⟨⟨_, (), rfl, fun q => absurd (hk9.symm.trans q) (by decide), tk14, by rw [ht]; exact hPz, va_K.moved hW.alike hK, hDz⟩, hS.F ht⟩) hS.2.2 dX2_all_18
