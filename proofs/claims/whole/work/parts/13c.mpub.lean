/-! THE REFERENCE: public methods. Rows laid by gen.py, mpub.py. -/
set_option maxHeartbeats 4000000 in
set_option maxRecDepth 100000 in
theorem c_X2_fail (l : Launch) (D : va_G) (cI cJ cB : ClassId) (n0 bM sM zM tM xM kM wM eM : Nat) (S : hy_S) (th : Int32) (tk : Nat → Int64) (sz : Nat) (a1 : Int32) : Met l yX2_fail wsX2_fail ({ frames := 0, cells := 0, slots := 0, locals := 0 }) (va_Pc [.ref n0, .int a1] (hy_JM D cI cJ cB n0 bM sM zM tM xM kM wM eM S th tk sz)) (va_Qi (fun (r9 : Int32) (_ : Unit) => r9 = 0) (fun _ => hy_AtM D cI cJ cB n0 bM sM zM tM xM kM wM eM S a1 (va_A (hy_M cI cJ n0 bM sM zM tM xM kM wM eM S th tk) sz)) (va_A (hy_M cI cJ n0 bM sM zM tM xM kM wM eM S th tk) sz)) 0 0 (va_A (hy_M cI cJ n0 bM sM zM tM xM kM wM eM S th tk) sz) := by
  refine Met.ofW (cc := cX2_fail) (maxL := 2) (ret := (some .int)) (by decide) rfl ?_
  intro p e s m args below meth c s₁ B hml hv
  obtain ⟨rfl, hsz, ⟨hP, hK⟩, hD0⟩ := hv
  have hx := B.exec
  have hb := B.bytes
  have hr := B.returns
  have hts := atoms_spec (ws := wsX2_fail) B.pre
  have hown : s.vm.findClass RX2 = some m.cls := findClass_of_methodNamed B.named
  have hlocks := B.notSynchronized
  subst hsz
  have hD := hD0.self (sz := s.heap.size)
  generalize hAe : va_A (hy_M cI cJ n0 bM sM zM tM xM kM wM eM S th tk) s.heap.size = A at hD ⊢
  have hA : ∀ q : Nat, s.heap.size ≤ q → A q := fun q h => by rw [← hAe]; exact Or.inr h
  have hS : va_S A s.heap s.heap [] := va_S.rf
  have hinX2 : ∀ w ∈ wsX20, w ∈ wsX2_fail := by decide +kernel
  have hl := lv_entry ([.ref n0, .int a1]) (n := 2) (Nat.le_of_ble_eq_true rfl)
  rw [lg_entry_eq]
  generalize (lg_sl ([.ref n0, .int a1]) ++ List.replicate (2 - (lg_sl ([.ref n0, .int a1])).length) Slot.unset).toArray = ls at hl ⊢
  have hl : lv_has ls 2 [(0, .ref n0), (1, .int a1)] := hl
  refine lv_aload_n hx hb dX2_fail_0 rfl (lv_at hl 0 rfl) ?_
  refine lv_iload_n hx hb dX2_fail_1 rfl (lv_at hl 1 rfl) ?_
  refine va_put (D := D) (ci := 2) (v := .int a1) (ty := .int) (C := RX2) (T := TX2) (N := 14) hx hb hts hinX2 tyX2 tyX2_ok nmX2 hown hK hP hD hS 0 rfl rfl 0 (by decide) (hts (.fieldLink RX2 35 "HiveYardModel" "thrown" "I") (by decide +kernel)) (fun _ h9 => h9) rfl (by decide +kernel) rfl rfl (Nat.le_of_ble_eq_true rfl) dX2_fail_2 (fun H locs hP hD hS => ?_)
  have hP : va_P D vwCl (hy_M cI cJ n0 bM sM zM tM xM kM wM eM S a1 tk) H := by rw [← hy_M_uth]; exact hP
  have hD : va_D A (hy_M cI cJ n0 bM sM zM tM xM kM wM eM S a1 tk) := by rw [← hy_M_uth]; exact hD
  refine lv_iconst (v := 0) hx hb dX2_fail_5 (by decide) ?_
  have eS : (hy_M cI cJ n0 bM sM zM tM xM kM wM eM S a1 tk) = (hy_M cI cJ n0 bM sM zM tM xM kM wM eM S a1 tk) := rfl
  have hPz : va_P D vwCl (hy_M cI cJ n0 bM sM zM tM xM kM wM eM S a1 tk) H := by rw [← eS]; exact hP
  have hDz : va_D A (hy_M cI cJ n0 bM sM zM tM xM kM wM eM S a1 tk) := by rw [← eS]; exact hD
  exact W.iret (v := 0) hx hb hr (fun t ht hW => ⟨⟨_, (), rfl, rfl, tk, by rw [ht]; exact hPz, va_K.moved hW.alike hK, hDz⟩, hS.F ht⟩) hS.2.2 dX2_fail_6
set_option maxHeartbeats 4000000 in
set_option maxRecDepth 100000 in
theorem c_X2_lid (l : Launch) (D : va_G) (cI cJ cB : ClassId) (n0 bM sM zM tM xM kM wM eM : Nat) (S : hy_S) (th : Int32) (tk : Nat → Int64) (hwf : hy_wf S) (sz : Nat) (a1 : Int32) : Met l yX2_lid wsX2_lid ({ frames := 1, cells := 0, slots := 0, locals := 21 }) (va_Pc [.ref n0, .int a1] (hy_JM D cI cJ cB n0 bM sM zM tM xM kM wM eM S th tk sz)) (va_Qi (fun (r9 : Int32) (_ : Unit) => (hy_kbox a1 = 0 → r9 = hy_vlid S a1)) (fun _ => hy_AtM D cI cJ cB n0 bM sM zM tM xM kM wM eM (hy_if (hy_kbox a1) (hy_ubx S (va_up (hy_bx S) a1.toNatClampNeg (some 0))) S) (hy_kbox a1) (va_A (hy_M cI cJ n0 bM sM zM tM xM kM wM eM S th tk) sz)) (va_A (hy_M cI cJ n0 bM sM zM tM xM kM wM eM S th tk) sz)) 0 0 (va_A (hy_M cI cJ n0 bM sM zM tM xM kM wM eM S th tk) sz) := by
  refine Met.ofW (cc := cX2_lid) (maxL := 3) (ret := (some .boolean)) (by decide) rfl ?_
  intro p e s m args below meth c s₁ B hml hv
  obtain ⟨rfl, hsz, ⟨hP, hK⟩, hD0⟩ := hv
  have hx := B.exec
  have hb := B.bytes
  have hr := B.returns
  have hts := atoms_spec (ws := wsX2_lid) B.pre
  have hown : s.vm.findClass RX2 = some m.cls := findClass_of_methodNamed B.named
  have hlocks := B.notSynchronized
  subst hsz
  have hD := hD0.self (sz := s.heap.size)
  generalize hAe : va_A (hy_M cI cJ n0 bM sM zM tM xM kM wM eM S th tk) s.heap.size = A at hD ⊢
  have hA : ∀ q : Nat, s.heap.size ≤ q → A q := fun q h => by rw [← hAe]; exact Or.inr h
  have hS : va_S A s.heap s.heap [] := va_S.rf
  have hinX2 : ∀ w ∈ wsX20, w ∈ wsX2_lid := by decide +kernel
  have hl := lv_entry ([.ref n0, .int a1]) (n := 3) (Nat.le_of_ble_eq_true rfl)
  rw [lg_entry_eq]
  generalize (lg_sl ([.ref n0, .int a1]) ++ List.replicate (3 - (lg_sl ([.ref n0, .int a1])).length) Slot.unset).toArray = ls at hl ⊢
  have hl : lv_has ls 3 [(0, .ref n0), (1, .int a1)] := hl
  refine lv_aload_n hx hb dX2_lid_0 rfl (lv_at hl 0 rfl) ?_
  refine lv_iconst (v := 0) hx hb dX2_lid_1 (by decide) ?_
  refine va_put (D := D) (ci := 2) (v := .int 0) (ty := .int) (C := RX2) (T := TX2) (N := 14) hx hb hts hinX2 tyX2 tyX2_ok nmX2 hown hK hP hD hS 0 rfl rfl 0 (by decide) (hts (.fieldLink RX2 35 "HiveYardModel" "thrown" "I") (by decide +kernel)) (fun _ h9 => h9) rfl (by decide +kernel) rfl rfl (Nat.le_of_ble_eq_true rfl) dX2_lid_2 (fun H locs hP hD hS => ?_)
  have hP : va_P D vwCl (hy_M cI cJ n0 bM sM zM tM xM kM wM eM S 0 tk) H := by rw [← hy_M_uth]; exact hP
  have hD : va_D A (hy_M cI cJ n0 bM sM zM tM xM kM wM eM S 0 tk) := by rw [← hy_M_uth]; exact hD
  refine lv_iload_n hx hb dX2_lid_5 rfl (lv_at hl 1 rfl) ?_
  refine vp_callSi (W.runS (As := [.int a1]) (rest := []) ⟨hx, hb, hml, hown, hts⟩ (c_X2_isBox l a1) (va_cwS 1 hts gX2_lid_X2_isBox rfl rfl rfl (by decide +kernel) ⟨Nat.le_of_ble_eq_true rfl, Nat.le_of_ble_eq_true rfl⟩) ⟨fun _ _ _ _ q => q, fun U hU hW => ⟨rfl, trivial⟩⟩ rfl rfl hl.1 rfl (lv_room (Nat.le_of_ble_eq_true rfl)) dX2_lid_6 ⟨Nat.le_of_ble_eq_true rfl, Nat.le_of_ble_eq_true rfl⟩) (fun v9 e9 => ?_)
  subst e9
  refine lv_if_ne (tgt := 26) hx hb dX2_lid_9 (by decide) (fun c_9 => ?_) (fun c_9 => ?_)
  · -- 26
    have ok9 : hy_ok a1 := hy_misbox_ok c_9
    refine lv_aload_n hx hb dX2_lid_26 rfl (lv_at hl 0 rfl) ?_
    refine va_get (D := D) (ci := 2) (v := .ref bM) (C := RX2) (T := TX2) (N := 14) hx hb hts hinX2 hown hK hP 0 rfl rfl 1 (by decide) (hts (.fieldLink RX2 7 "HiveYardModel" "boxes" "[I") (by decide +kernel)) (fun _ h9 => h9) rfl dX2_lid_27 ?_
    refine lv_iload_n hx hb dX2_lid_30 rfl (lv_at hl 1 rfl) ?_
    refine va_iald hx hb hK hP 1 0 rfl rfl (hy_ok_in ok9) dX2_lid_31 ?_
    refine lv_bipush (v := (-2)) hx hb dX2_lid_32 (by decide) ?_
    refine lv_icmp_eq (tgt := 41) hx hb dX2_lid_34 (by decide) (fun c_34 => ?_) (fun c_34 => ?_)
    · -- 41
      refine lv_iconst (v := 0) hx hb dX2_lid_41 (by decide) ?_
      refine lv_istore_n (lv' := [(2, .int 0), (0, .ref n0), (1, .int a1)]) hx hb dX2_lid_42 rfl hl (by decide) rfl (fun ls hl => ?_)
      refine lv_aload_n hx hb dX2_lid_43 rfl (lv_at hl 1 rfl) ?_
      refine va_get (D := D) (ci := 2) (v := .ref bM) (C := RX2) (T := TX2) (N := 14) hx hb hts hinX2 hown hK hP 0 rfl rfl 1 (by decide) (hts (.fieldLink RX2 7 "HiveYardModel" "boxes" "[I") (by decide +kernel)) (fun _ h9 => h9) rfl dX2_lid_44 ?_
      refine lv_iload_n hx hb dX2_lid_47 rfl (lv_at hl 2 rfl) ?_
      refine lv_bipush (v := (-2)) hx hb dX2_lid_48 (by decide) ?_
      refine va_iast hx hb hK hP hD hS 1 0 rfl rfl (hy_ok_in ok9) dX2_lid_50 (fun H locs hP hD hS => ?_)
      have hP : va_P D vwCl (hy_M cI cJ n0 bM sM zM tM xM kM wM eM (hy_ubx S (va_up (hy_bx S) a1.toNatClampNeg (some 0))) 0 tk) H := by rw [← hy_M_ubx a1.toNatClampNeg (some 0)]; exact hP
      have hD : va_D A (hy_M cI cJ n0 bM sM zM tM xM kM wM eM (hy_ubx S (va_up (hy_bx S) a1.toNatClampNeg (some 0))) 0 tk) := by rw [← hy_M_ubx a1.toNatClampNeg (some 0)]; exact hD
      refine lv_iload_n hx hb dX2_lid_51 rfl (lv_at hl 0 rfl) ?_
      have hk9 : hy_kbox a1 = 0 := by simp only [hy_kbox0 ok9]
      have eS : (hy_M cI cJ n0 bM sM zM tM xM kM wM eM (hy_ubx S (va_up (hy_bx S) a1.toNatClampNeg (some 0))) 0 tk) = (hy_M cI cJ n0 bM sM zM tM xM kM wM eM (hy_if (hy_kbox a1) (hy_ubx S (va_up (hy_bx S) a1.toNatClampNeg (some 0))) S) (hy_kbox a1) tk) := by rw [hk9]; exact congrArg (fun s9 => hy_M cI cJ n0 bM sM zM tM xM kM wM eM s9 0 tk) (Eq.trans (rfl : (hy_ubx S (va_up (hy_bx S) a1.toNatClampNeg (some 0))) = (hy_ubx S (va_up (hy_bx S) a1.toNatClampNeg (some 0)))) (hy_if_0 _ _).symm)
      have hPz : va_P D vwCl (hy_M cI cJ n0 bM sM zM tM xM kM wM eM (hy_if (hy_kbox a1) (hy_ubx S (va_up (hy_bx S) a1.toNatClampNeg (some 0))) S) (hy_kbox a1) tk) H := by rw [← eS]; exact hP
      have hDz : va_D A (hy_M cI cJ n0 bM sM zM tM xM kM wM eM (hy_if (hy_kbox a1) (hy_ubx S (va_up (hy_bx S) a1.toNatClampNeg (some 0))) S) (hy_kbox a1) tk) := by rw [← eS]; exact hD
      exact W.zret (v := 0) (ty := .boolean) hx hb hr (by decide +kernel) (fun t ht hW => ⟨⟨_, (), rfl, fun _ => hy_vlid_0 hwf c_34, tk, by rw [ht]; exact hPz, va_K.moved hW.alike hK, hDz⟩, hS.F ht⟩) hS.2.2 dX2_lid_52
    · -- 37
      refine lv_iconst (v := 1) hx hb dX2_lid_37 (by decide) ?_
      refine lv_goto (tgt := 42) hx hb dX2_lid_38 (by decide) ?_
      refine lv_istore_n (lv' := [(2, .int 1), (0, .ref n0), (1, .int a1)]) hx hb dX2_lid_42 rfl hl (by decide) rfl (fun ls hl => ?_)
      refine lv_aload_n hx hb dX2_lid_43 rfl (lv_at hl 1 rfl) ?_
      refine va_get (D := D) (ci := 2) (v := .ref bM) (C := RX2) (T := TX2) (N := 14) hx hb hts hinX2 hown hK hP 0 rfl rfl 1 (by decide) (hts (.fieldLink RX2 7 "HiveYardModel" "boxes" "[I") (by decide +kernel)) (fun _ h9 => h9) rfl dX2_lid_44 ?_
      refine lv_iload_n hx hb dX2_lid_47 rfl (lv_at hl 2 rfl) ?_
      refine lv_bipush (v := (-2)) hx hb dX2_lid_48 (by decide) ?_
      refine va_iast hx hb hK hP hD hS 1 0 rfl rfl (hy_ok_in ok9) dX2_lid_50 (fun H locs hP hD hS => ?_)
      have hP : va_P D vwCl (hy_M cI cJ n0 bM sM zM tM xM kM wM eM (hy_ubx S (va_up (hy_bx S) a1.toNatClampNeg (some 0))) 0 tk) H := by rw [← hy_M_ubx a1.toNatClampNeg (some 0)]; exact hP
      have hD : va_D A (hy_M cI cJ n0 bM sM zM tM xM kM wM eM (hy_ubx S (va_up (hy_bx S) a1.toNatClampNeg (some 0))) 0 tk) := by rw [← hy_M_ubx a1.toNatClampNeg (some 0)]; exact hD
      refine lv_iload_n hx hb dX2_lid_51 rfl (lv_at hl 0 rfl) ?_
      have hk9 : hy_kbox a1 = 0 := by simp only [hy_kbox0 ok9]
      have eS : (hy_M cI cJ n0 bM sM zM tM xM kM wM eM (hy_ubx S (va_up (hy_bx S) a1.toNatClampNeg (some 0))) 0 tk) = (hy_M cI cJ n0 bM sM zM tM xM kM wM eM (hy_if (hy_kbox a1) (hy_ubx S (va_up (hy_bx S) a1.toNatClampNeg (some 0))) S) (hy_kbox a1) tk) := by rw [hk9]; exact congrArg (fun s9 => hy_M cI cJ n0 bM sM zM tM xM kM wM eM s9 0 tk) (Eq.trans (rfl : (hy_ubx S (va_up (hy_bx S) a1.toNatClampNeg (some 0))) = (hy_ubx S (va_up (hy_bx S) a1.toNatClampNeg (some 0)))) (hy_if_0 _ _).symm)
      have hPz : va_P D vwCl (hy_M cI cJ n0 bM sM zM tM xM kM wM eM (hy_if (hy_kbox a1) (hy_ubx S (va_up (hy_bx S) a1.toNatClampNeg (some 0))) S) (hy_kbox a1) tk) H := by rw [← eS]; exact hP
      have hDz : va_D A (hy_M cI cJ n0 bM sM zM tM xM kM wM eM (hy_if (hy_kbox a1) (hy_ubx S (va_up (hy_bx S) a1.toNatClampNeg (some 0))) S) (hy_kbox a1) tk) := by rw [← eS]; exact hD
      exact W.zret (v := 1) (ty := .boolean) hx hb hr (by decide +kernel) (fun t ht hW => ⟨⟨_, (), rfl, fun _ => hy_vlid_1 hwf c_34, tk, by rw [ht]; exact hPz, va_K.moved hW.alike hK, hDz⟩, hS.F ht⟩) hS.2.2 dX2_lid_52
  · -- 12
    refine lv_aload_n hx hb dX2_lid_12 rfl (lv_at hl 0 rfl) ?_
    refine lv_iconst (v := 1) hx hb dX2_lid_13 (by decide) ?_
    have hFc := hy_free hD hS hA
    refine va_calli (va_runV (As := [.int 1]) (rest := []) ⟨hx, hb, hml, hown, hts⟩ (c_X2_fail l D cI cJ cB n0 bM sM zM tM xM kM wM eM S 0 tk H.size 1) (cwV 1 hts gX2_lid_X2_fail rfl rfl rfl (by decide +kernel) ⟨Nat.le_of_ble_eq_true rfl, Nat.le_of_ble_eq_true rfl⟩) ⟨hy_JM_blind, va_recv hK hP (ci := 2) (q0 := 0) rfl rfl, fun U hU hW => ⟨rfl, by rw [hU], hy_J_at hU hW hP hK, hD.weaken (fun _ _ _ _ => trivial)⟩⟩ rfl rfl hl.1 rfl (lv_room (Nat.le_of_ble_eq_true rfl)) dX2_lid_14 ⟨Nat.le_of_ble_eq_true rfl, Nat.le_of_ble_eq_true rfl⟩) hS (fun q _ h => hFc q h) hFc (fun v9 u t H locs ht hvm hw hB hz1 hk1 hS => ?_)
    obtain ⟨tk14, hP1, hK1, hD1⟩ := hB
    rw [ht] at hP1
    have hP : va_P D vwCl (hy_M cI cJ n0 bM sM zM tM xM kM wM eM S 1 tk14) H := hP1
    have hD : va_D A (hy_M cI cJ n0 bM sM zM tM xM kM wM eM S 1 tk14) := hD1.weaken (fun _ q _ h => hFc q.1 h)
    clear hP1 hK1 hD1 hFc
    subst hw
    refine lv_if_le (tgt := 24) hx hb dX2_lid_17 (by decide) (fun c_17 => ?_) (fun c9 => absurd c9 (fun c => c (by decide)))
    refine lv_iconst (v := 0) hx hb dX2_lid_24 (by decide) ?_
    have hk9 : hy_kbox a1 = 1 := by simp only [hy_kbox1e (hy_misbox_no c_9)]
    have eS : (hy_M cI cJ n0 bM sM zM tM xM kM wM eM S 1 tk14) = (hy_M cI cJ n0 bM sM zM tM xM kM wM eM (hy_if (hy_kbox a1) (hy_ubx S (va_up (hy_bx S) a1.toNatClampNeg (some 0))) S) (hy_kbox a1) tk14) := by rw [hk9]; exact congrArg (fun s9 => hy_M cI cJ n0 bM sM zM tM xM kM wM eM s9 1 tk14) (hy_if_n (by decide) _ _).symm
    have hPz : va_P D vwCl (hy_M cI cJ n0 bM sM zM tM xM kM wM eM (hy_if (hy_kbox a1) (hy_ubx S (va_up (hy_bx S) a1.toNatClampNeg (some 0))) S) (hy_kbox a1) tk14) H := by rw [← eS]; exact hP
    have hDz : va_D A (hy_M cI cJ n0 bM sM zM tM xM kM wM eM (hy_if (hy_kbox a1) (hy_ubx S (va_up (hy_bx S) a1.toNatClampNeg (some 0))) S) (hy_kbox a1) tk14) := by rw [← eS]; exact hD
    exact W.zret (v := 0) (ty := .boolean) hx hb hr (by decide +kernel) (fun t ht hW => ⟨⟨_, (), rfl, fun q => absurd (hk9.symm.trans q) (by decide), tk14, by rw [ht]; exact hPz, va_K.moved hW.alike hK, hDz⟩, hS.F ht⟩) hS.2.2 dX2_lid_25
set_option maxHeartbeats 4000000 in
set_option maxRecDepth 100000 in
theorem c_X2_clear (l : Launch) (D : va_G) (cI cJ cB : ClassId) (n0 bM sM zM tM xM kM wM eM : Nat) (S : hy_S) (th : Int32) (tk : Nat → Int64) (hwf : hy_wf S) (sz : Nat) (a1 : Int32) : Met l yX2_clear wsX2_clear ({ frames := 1, cells := 0, slots := 0, locals := 21 }) (va_Pc [.ref n0, .int a1] (hy_JM D cI cJ cB n0 bM sM zM tM xM kM wM eM S th tk sz)) (va_Qi (fun (r9 : Int32) (_ : Unit) => (hy_kbox a1 = 0 → r9 = hy_vclear S a1)) (fun _ => hy_AtM D cI cJ cB n0 bM sM zM tM xM kM wM eM (hy_if (hy_kbox a1) (hy_ubx S (va_up (hy_bx S) a1.toNatClampNeg none)) S) (hy_kbox a1) (va_A (hy_M cI cJ n0 bM sM zM tM xM kM wM eM S th tk) sz)) (va_A (hy_M cI cJ n0 bM sM zM tM xM kM wM eM S th tk) sz)) 0 0 (va_A (hy_M cI cJ n0 bM sM zM tM xM kM wM eM S th tk) sz) := by
  refine Met.ofW (cc := cX2_clear) (maxL := 3) (ret := (some .boolean)) (by decide) rfl ?_
  intro p e s m args below meth c s₁ B hml hv
  obtain ⟨rfl, hsz, ⟨hP, hK⟩, hD0⟩ := hv
  have hx := B.exec
  have hb := B.bytes
  have hr := B.returns
  have hts := atoms_spec (ws := wsX2_clear) B.pre
  have hown : s.vm.findClass RX2 = some m.cls := findClass_of_methodNamed B.named
  have hlocks := B.notSynchronized
  subst hsz
  have hD := hD0.self (sz := s.heap.size)
  generalize hAe : va_A (hy_M cI cJ n0 bM sM zM tM xM kM wM eM S th tk) s.heap.size = A at hD ⊢
  have hA : ∀ q : Nat, s.heap.size ≤ q → A q := fun q h => by rw [← hAe]; exact Or.inr h
  have hS : va_S A s.heap s.heap [] := va_S.rf
  have hinX2 : ∀ w ∈ wsX20, w ∈ wsX2_clear := by decide +kernel
  have hl := lv_entry ([.ref n0, .int a1]) (n := 3) (Nat.le_of_ble_eq_true rfl)
  rw [lg_entry_eq]
  generalize (lg_sl ([.ref n0, .int a1]) ++ List.replicate (3 - (lg_sl ([.ref n0, .int a1])).length) Slot.unset).toArray = ls at hl ⊢
  have hl : lv_has ls 3 [(0, .ref n0), (1, .int a1)] := hl
  refine lv_aload_n hx hb dX2_clear_0 rfl (lv_at hl 0 rfl) ?_
  refine lv_iconst (v := 0) hx hb dX2_clear_1 (by decide) ?_
  refine va_put (D := D) (ci := 2) (v := .int 0) (ty := .int) (C := RX2) (T := TX2) (N := 14) hx hb hts hinX2 tyX2 tyX2_ok nmX2 hown hK hP hD hS 0 rfl rfl 0 (by decide) (hts (.fieldLink RX2 35 "HiveYardModel" "thrown" "I") (by decide +kernel)) (fun _ h9 => h9) rfl (by decide +kernel) rfl rfl (Nat.le_of_ble_eq_true rfl) dX2_clear_2 (fun H locs hP hD hS => ?_)
  have hP : va_P D vwCl (hy_M cI cJ n0 bM sM zM tM xM kM wM eM S 0 tk) H := by rw [← hy_M_uth]; exact hP
  have hD : va_D A (hy_M cI cJ n0 bM sM zM tM xM kM wM eM S 0 tk) := by rw [← hy_M_uth]; exact hD
  refine lv_iload_n hx hb dX2_clear_5 rfl (lv_at hl 1 rfl) ?_
  refine vp_callSi (W.runS (As := [.int a1]) (rest := []) ⟨hx, hb, hml, hown, hts⟩ (c_X2_isBox l a1) (va_cwS 1 hts gX2_clear_X2_isBox rfl rfl rfl (by decide +kernel) ⟨Nat.le_of_ble_eq_true rfl, Nat.le_of_ble_eq_true rfl⟩) ⟨fun _ _ _ _ q => q, fun U hU hW => ⟨rfl, trivial⟩⟩ rfl rfl hl.1 rfl (lv_room (Nat.le_of_ble_eq_true rfl)) dX2_clear_6 ⟨Nat.le_of_ble_eq_true rfl, Nat.le_of_ble_eq_true rfl⟩) (fun v9 e9 => ?_)
  subst e9
  refine lv_if_ne (tgt := 26) hx hb dX2_clear_9 (by decide) (fun c_9 => ?_) (fun c_9 => ?_)
  · -- 26
    have ok9 : hy_ok a1 := hy_misbox_ok c_9
    refine lv_aload_n hx hb dX2_clear_26 rfl (lv_at hl 0 rfl) ?_
    refine va_get (D := D) (ci := 2) (v := .ref bM) (C := RX2) (T := TX2) (N := 14) hx hb hts hinX2 hown hK hP 0 rfl rfl 1 (by decide) (hts (.fieldLink RX2 7 "HiveYardModel" "boxes" "[I") (by decide +kernel)) (fun _ h9 => h9) rfl dX2_clear_27 ?_
    refine lv_iload_n hx hb dX2_clear_30 rfl (lv_at hl 1 rfl) ?_
    refine va_iald hx hb hK hP 1 0 rfl rfl (hy_ok_in ok9) dX2_clear_31 ?_
    refine lv_iconst (v := (-1)) hx hb dX2_clear_32 (by decide) ?_
    refine lv_icmp_eq (tgt := 40) hx hb dX2_clear_33 (by decide) (fun c_33 => ?_) (fun c_33 => ?_)
    · -- 40
      refine lv_iconst (v := 0) hx hb dX2_clear_40 (by decide) ?_
      refine lv_istore_n (lv' := [(2, .int 0), (0, .ref n0), (1, .int a1)]) hx hb dX2_clear_41 rfl hl (by decide) rfl (fun ls hl => ?_)
      refine lv_aload_n hx hb dX2_clear_42 rfl (lv_at hl 1 rfl) ?_
      refine va_get (D := D) (ci := 2) (v := .ref bM) (C := RX2) (T := TX2) (N := 14) hx hb hts hinX2 hown hK hP 0 rfl rfl 1 (by decide) (hts (.fieldLink RX2 7 "HiveYardModel" "boxes" "[I") (by decide +kernel)) (fun _ h9 => h9) rfl dX2_clear_43 ?_
      refine lv_iload_n hx hb dX2_clear_46 rfl (lv_at hl 2 rfl) ?_
      refine lv_iconst (v := (-1)) hx hb dX2_clear_47 (by decide) ?_
      refine va_iast hx hb hK hP hD hS 1 0 rfl rfl (hy_ok_in ok9) dX2_clear_48 (fun H locs hP hD hS => ?_)
      have hP : va_P D vwCl (hy_M cI cJ n0 bM sM zM tM xM kM wM eM (hy_ubx S (va_up (hy_bx S) a1.toNatClampNeg none)) 0 tk) H := by rw [← hy_M_ubx a1.toNatClampNeg none]; exact hP
      have hD : va_D A (hy_M cI cJ n0 bM sM zM tM xM kM wM eM (hy_ubx S (va_up (hy_bx S) a1.toNatClampNeg none)) 0 tk) := by rw [← hy_M_ubx a1.toNatClampNeg none]; exact hD
      refine lv_iload_n hx hb dX2_clear_49 rfl (lv_at hl 0 rfl) ?_
      have hk9 : hy_kbox a1 = 0 := by simp only [hy_kbox0 ok9]
      have eS : (hy_M cI cJ n0 bM sM zM tM xM kM wM eM (hy_ubx S (va_up (hy_bx S) a1.toNatClampNeg none)) 0 tk) = (hy_M cI cJ n0 bM sM zM tM xM kM wM eM (hy_if (hy_kbox a1) (hy_ubx S (va_up (hy_bx S) a1.toNatClampNeg none)) S) (hy_kbox a1) tk) := by rw [hk9]; exact congrArg (fun s9 => hy_M cI cJ n0 bM sM zM tM xM kM wM eM s9 0 tk) (Eq.trans (rfl : (hy_ubx S (va_up (hy_bx S) a1.toNatClampNeg none)) = (hy_ubx S (va_up (hy_bx S) a1.toNatClampNeg none))) (hy_if_0 _ _).symm)
      have hPz : va_P D vwCl (hy_M cI cJ n0 bM sM zM tM xM kM wM eM (hy_if (hy_kbox a1) (hy_ubx S (va_up (hy_bx S) a1.toNatClampNeg none)) S) (hy_kbox a1) tk) H := by rw [← eS]; exact hP
      have hDz : va_D A (hy_M cI cJ n0 bM sM zM tM xM kM wM eM (hy_if (hy_kbox a1) (hy_ubx S (va_up (hy_bx S) a1.toNatClampNeg none)) S) (hy_kbox a1) tk) := by rw [← eS]; exact hD
      exact W.zret (v := 0) (ty := .boolean) hx hb hr (by decide +kernel) (fun t ht hW => ⟨⟨_, (), rfl, fun _ => hy_vclear_0 hwf c_33, tk, by rw [ht]; exact hPz, va_K.moved hW.alike hK, hDz⟩, hS.F ht⟩) hS.2.2 dX2_clear_50
    · -- 36
      refine lv_iconst (v := 1) hx hb dX2_clear_36 (by decide) ?_
      refine lv_goto (tgt := 41) hx hb dX2_clear_37 (by decide) ?_
      refine lv_istore_n (lv' := [(2, .int 1), (0, .ref n0), (1, .int a1)]) hx hb dX2_clear_41 rfl hl (by decide) rfl (fun ls hl => ?_)
      refine lv_aload_n hx hb dX2_clear_42 rfl (lv_at hl 1 rfl) ?_
      refine va_get (D := D) (ci := 2) (v := .ref bM) (C := RX2) (T := TX2) (N := 14) hx hb hts hinX2 hown hK hP 0 rfl rfl 1 (by decide) (hts (.fieldLink RX2 7 "HiveYardModel" "boxes" "[I") (by decide +kernel)) (fun _ h9 => h9) rfl dX2_clear_43 ?_
      refine lv_iload_n hx hb dX2_clear_46 rfl (lv_at hl 2 rfl) ?_
      refine lv_iconst (v := (-1)) hx hb dX2_clear_47 (by decide) ?_
      refine va_iast hx hb hK hP hD hS 1 0 rfl rfl (hy_ok_in ok9) dX2_clear_48 (fun H locs hP hD hS => ?_)
      have hP : va_P D vwCl (hy_M cI cJ n0 bM sM zM tM xM kM wM eM (hy_ubx S (va_up (hy_bx S) a1.toNatClampNeg none)) 0 tk) H := by rw [← hy_M_ubx a1.toNatClampNeg none]; exact hP
      have hD : va_D A (hy_M cI cJ n0 bM sM zM tM xM kM wM eM (hy_ubx S (va_up (hy_bx S) a1.toNatClampNeg none)) 0 tk) := by rw [← hy_M_ubx a1.toNatClampNeg none]; exact hD
      refine lv_iload_n hx hb dX2_clear_49 rfl (lv_at hl 0 rfl) ?_
      have hk9 : hy_kbox a1 = 0 := by simp only [hy_kbox0 ok9]
      have eS : (hy_M cI cJ n0 bM sM zM tM xM kM wM eM (hy_ubx S (va_up (hy_bx S) a1.toNatClampNeg none)) 0 tk) = (hy_M cI cJ n0 bM sM zM tM xM kM wM eM (hy_if (hy_kbox a1) (hy_ubx S (va_up (hy_bx S) a1.toNatClampNeg none)) S) (hy_kbox a1) tk) := by rw [hk9]; exact congrArg (fun s9 => hy_M cI cJ n0 bM sM zM tM xM kM wM eM s9 0 tk) (Eq.trans (rfl : (hy_ubx S (va_up (hy_bx S) a1.toNatClampNeg none)) = (hy_ubx S (va_up (hy_bx S) a1.toNatClampNeg none))) (hy_if_0 _ _).symm)
      have hPz : va_P D vwCl (hy_M cI cJ n0 bM sM zM tM xM kM wM eM (hy_if (hy_kbox a1) (hy_ubx S (va_up (hy_bx S) a1.toNatClampNeg none)) S) (hy_kbox a1) tk) H := by rw [← eS]; exact hP
      have hDz : va_D A (hy_M cI cJ n0 bM sM zM tM xM kM wM eM (hy_if (hy_kbox a1) (hy_ubx S (va_up (hy_bx S) a1.toNatClampNeg none)) S) (hy_kbox a1) tk) := by rw [← eS]; exact hD
      exact W.zret (v := 1) (ty := .boolean) hx hb hr (by decide +kernel) (fun t ht hW => ⟨⟨_, (), rfl, fun _ => hy_vclear_1 hwf c_33, tk, by rw [ht]; exact hPz, va_K.moved hW.alike hK, hDz⟩, hS.F ht⟩) hS.2.2 dX2_clear_50
  · -- 12
    refine lv_aload_n hx hb dX2_clear_12 rfl (lv_at hl 0 rfl) ?_
    refine lv_iconst (v := 1) hx hb dX2_clear_13 (by decide) ?_
    have hFc := hy_free hD hS hA
    refine va_calli (va_runV (As := [.int 1]) (rest := []) ⟨hx, hb, hml, hown, hts⟩ (c_X2_fail l D cI cJ cB n0 bM sM zM tM xM kM wM eM S 0 tk H.size 1) (cwV 1 hts gX2_clear_X2_fail rfl rfl rfl (by decide +kernel) ⟨Nat.le_of_ble_eq_true rfl, Nat.le_of_ble_eq_true rfl⟩) ⟨hy_JM_blind, va_recv hK hP (ci := 2) (q0 := 0) rfl rfl, fun U hU hW => ⟨rfl, by rw [hU], hy_J_at hU hW hP hK, hD.weaken (fun _ _ _ _ => trivial)⟩⟩ rfl rfl hl.1 rfl (lv_room (Nat.le_of_ble_eq_true rfl)) dX2_clear_14 ⟨Nat.le_of_ble_eq_true rfl, Nat.le_of_ble_eq_true rfl⟩) hS (fun q _ h => hFc q h) hFc (fun v9 u t H locs ht hvm hw hB hz1 hk1 hS => ?_)
    obtain ⟨tk14, hP1, hK1, hD1⟩ := hB
    rw [ht] at hP1
    have hP : va_P D vwCl (hy_M cI cJ n0 bM sM zM tM xM kM wM eM S 1 tk14) H := hP1
    have hD : va_D A (hy_M cI cJ n0 bM sM zM tM xM kM wM eM S 1 tk14) := hD1.weaken (fun _ q _ h => hFc q.1 h)
    clear hP1 hK1 hD1 hFc
    subst hw
    refine lv_if_le (tgt := 24) hx hb dX2_clear_17 (by decide) (fun c_17 => ?_) (fun c9 => absurd c9 (fun c => c (by decide)))
    refine lv_iconst (v := 0) hx hb dX2_clear_24 (by decide) ?_
    have hk9 : hy_kbox a1 = 1 := by simp only [hy_kbox1e (hy_misbox_no c_9)]
    have eS : (hy_M cI cJ n0 bM sM zM tM xM kM wM eM S 1 tk14) = (hy_M cI cJ n0 bM sM zM tM xM kM wM eM (hy_if (hy_kbox a1) (hy_ubx S (va_up (hy_bx S) a1.toNatClampNeg none)) S) (hy_kbox a1) tk14) := by rw [hk9]; exact congrArg (fun s9 => hy_M cI cJ n0 bM sM zM tM xM kM wM eM s9 1 tk14) (hy_if_n (by decide) _ _).symm
    have hPz : va_P D vwCl (hy_M cI cJ n0 bM sM zM tM xM kM wM eM (hy_if (hy_kbox a1) (hy_ubx S (va_up (hy_bx S) a1.toNatClampNeg none)) S) (hy_kbox a1) tk14) H := by rw [← eS]; exact hP
    have hDz : va_D A (hy_M cI cJ n0 bM sM zM tM xM kM wM eM (hy_if (hy_kbox a1) (hy_ubx S (va_up (hy_bx S) a1.toNatClampNeg none)) S) (hy_kbox a1) tk14) := by rw [← eS]; exact hD
    exact W.zret (v := 0) (ty := .boolean) hx hb hr (by decide +kernel) (fun t ht hW => ⟨⟨_, (), rfl, fun q => absurd (hk9.symm.trans q) (by decide), tk14, by rw [ht]; exact hPz, va_K.moved hW.alike hK, hDz⟩, hS.F ht⟩) hS.2.2 dX2_clear_25
set_option maxHeartbeats 4000000 in
set_option maxRecDepth 100000 in
theorem c_X2_holds (l : Launch) (D : va_G) (cI cJ cB : ClassId) (n0 bM sM zM tM xM kM wM eM : Nat) (S : hy_S) (th : Int32) (tk : Nat → Int64) (hwf : hy_wf S) (sz : Nat) (a1 : Int32) : Met l yX2_holds wsX2_holds ({ frames := 1, cells := 0, slots := 0, locals := 22 }) (va_Pc [.ref n0, .int a1] (hy_JM D cI cJ cB n0 bM sM zM tM xM kM wM eM S th tk sz)) (va_Qi (fun (r9 : Int32) (_ : Unit) => (hy_kbox a1 = 0 → r9 = hy_vhold S a1)) (fun _ => hy_AtM D cI cJ cB n0 bM sM zM tM xM kM wM eM (hy_if (hy_kbox a1) S S) (hy_kbox a1) (va_A (hy_M cI cJ n0 bM sM zM tM xM kM wM eM S th tk) sz)) (va_A (hy_M cI cJ n0 bM sM zM tM xM kM wM eM S th tk) sz)) 0 0 (va_A (hy_M cI cJ n0 bM sM zM tM xM kM wM eM S th tk) sz) := by
  refine Met.ofW (cc := cX2_holds) (maxL := 2) (ret := (some .int)) (by decide) rfl ?_
  intro p e s m args below meth c s₁ B hml hv
  obtain ⟨rfl, hsz, ⟨hP, hK⟩, hD0⟩ := hv
  have hx := B.exec
  have hb := B.bytes
  have hr := B.returns
  have hts := atoms_spec (ws := wsX2_holds) B.pre
  have hown : s.vm.findClass RX2 = some m.cls := findClass_of_methodNamed B.named
  have hlocks := B.notSynchronized
  subst hsz
  have hD := hD0.self (sz := s.heap.size)
  generalize hAe : va_A (hy_M cI cJ n0 bM sM zM tM xM kM wM eM S th tk) s.heap.size = A at hD ⊢
  have hA : ∀ q : Nat, s.heap.size ≤ q → A q := fun q h => by rw [← hAe]; exact Or.inr h
  have hS : va_S A s.heap s.heap [] := va_S.rf
  have hinX2 : ∀ w ∈ wsX20, w ∈ wsX2_holds := by decide +kernel
  have hl := lv_entry ([.ref n0, .int a1]) (n := 2) (Nat.le_of_ble_eq_true rfl)
  rw [lg_entry_eq]
  generalize (lg_sl ([.ref n0, .int a1]) ++ List.replicate (2 - (lg_sl ([.ref n0, .int a1])).length) Slot.unset).toArray = ls at hl ⊢
  have hl : lv_has ls 2 [(0, .ref n0), (1, .int a1)] := hl
  refine lv_aload_n hx hb dX2_holds_0 rfl (lv_at hl 0 rfl) ?_
  refine lv_iconst (v := 0) hx hb dX2_holds_1 (by decide) ?_
  refine va_put (D := D) (ci := 2) (v := .int 0) (ty := .int) (C := RX2) (T := TX2) (N := 14) hx hb hts hinX2 tyX2 tyX2_ok nmX2 hown hK hP hD hS 0 rfl rfl 0 (by decide) (hts (.fieldLink RX2 35 "HiveYardModel" "thrown" "I") (by decide +kernel)) (fun _ h9 => h9) rfl (by decide +kernel) rfl rfl (Nat.le_of_ble_eq_true rfl) dX2_holds_2 (fun H locs hP hD hS => ?_)
  have hP : va_P D vwCl (hy_M cI cJ n0 bM sM zM tM xM kM wM eM S 0 tk) H := by rw [← hy_M_uth]; exact hP
  have hD : va_D A (hy_M cI cJ n0 bM sM zM tM xM kM wM eM S 0 tk) := by rw [← hy_M_uth]; exact hD
  refine lv_iload_n hx hb dX2_holds_5 rfl (lv_at hl 1 rfl) ?_
  refine vp_callSi (W.runS (As := [.int a1]) (rest := []) ⟨hx, hb, hml, hown, hts⟩ (c_X2_isBox l a1) (va_cwS 1 hts gX2_holds_X2_isBox rfl rfl rfl (by decide +kernel) ⟨Nat.le_of_ble_eq_true rfl, Nat.le_of_ble_eq_true rfl⟩) ⟨fun _ _ _ _ q => q, fun U hU hW => ⟨rfl, trivial⟩⟩ rfl rfl hl.1 rfl (lv_room (Nat.le_of_ble_eq_true rfl)) dX2_holds_6 ⟨Nat.le_of_ble_eq_true rfl, Nat.le_of_ble_eq_true rfl⟩) (fun v9 e9 => ?_)
  subst e9
  refine lv_if_eq (tgt := 20) hx hb dX2_holds_9 (by decide) (fun c_9 => ?_) (fun c_9 => ?_)
  · -- 20
    refine lv_aload_n hx hb dX2_holds_20 rfl (lv_at hl 0 rfl) ?_
    refine lv_iconst (v := 1) hx hb dX2_holds_21 (by decide) ?_
    have hFc := hy_free hD hS hA
    refine va_calli (va_runV (As := [.int 1]) (rest := []) ⟨hx, hb, hml, hown, hts⟩ (c_X2_fail l D cI cJ cB n0 bM sM zM tM xM kM wM eM S 0 tk H.size 1) (cwV 1 hts gX2_holds_X2_fail rfl rfl rfl (by decide +kernel) ⟨Nat.le_of_ble_eq_true rfl, Nat.le_of_ble_eq_true rfl⟩) ⟨hy_JM_blind, va_recv hK hP (ci := 2) (q0 := 0) rfl rfl, fun U hU hW => ⟨rfl, by rw [hU], hy_J_at hU hW hP hK, hD.weaken (fun _ _ _ _ => trivial)⟩⟩ rfl rfl hl.1 rfl (lv_room (Nat.le_of_ble_eq_true rfl)) dX2_holds_22 ⟨Nat.le_of_ble_eq_true rfl, Nat.le_of_ble_eq_true rfl⟩) hS (fun q _ h => hFc q h) hFc (fun v9 u t H locs ht hvm hw hB hz1 hk1 hS => ?_)
    obtain ⟨tk22, hP1, hK1, hD1⟩ := hB
    rw [ht] at hP1
    have hP : va_P D vwCl (hy_M cI cJ n0 bM sM zM tM xM kM wM eM S 1 tk22) H := hP1
    have hD : va_D A (hy_M cI cJ n0 bM sM zM tM xM kM wM eM S 1 tk22) := hD1.weaken (fun _ q _ h => hFc q.1 h)
    clear hP1 hK1 hD1 hFc
    subst hw
    have hk9 : hy_kbox a1 = 1 := by simp only [hy_kbox1e (hy_misbox_no c_9)]
    have eS : (hy_M cI cJ n0 bM sM zM tM xM kM wM eM S 1 tk22) = (hy_M cI cJ n0 bM sM zM tM xM kM wM eM (hy_if (hy_kbox a1) S S) (hy_kbox a1) tk22) := by rw [hk9]; exact congrArg (fun s9 => hy_M cI cJ n0 bM sM zM tM xM kM wM eM s9 1 tk22) (hy_if_n (by decide) _ _).symm
    have hPz : va_P D vwCl (hy_M cI cJ n0 bM sM zM tM xM kM wM eM (hy_if (hy_kbox a1) S S) (hy_kbox a1) tk22) H := by rw [← eS]; exact hP
    have hDz : va_D A (hy_M cI cJ n0 bM sM zM tM xM kM wM eM (hy_if (hy_kbox a1) S S) (hy_kbox a1) tk22) := by rw [← eS]; exact hD
    exact W.iret (v := ((0 : Int32))) hx hb hr (fun t ht hW => ⟨⟨_, (), rfl, fun q => absurd (hk9.symm.trans q) (by decide), tk22, by rw [ht]; exact hPz, va_K.moved hW.alike hK, hDz⟩, hS.F ht⟩) hS.2.2 dX2_holds_25
  · -- 12
    have ok9 : hy_ok a1 := hy_misbox_ok c_9
    refine lv_aload_n hx hb dX2_holds_12 rfl (lv_at hl 0 rfl) ?_
    refine lv_iload_n hx hb dX2_holds_13 rfl (lv_at hl 1 rfl) ?_
    refine vp_callSi (W.runV (As := [.int a1]) (rest := []) ⟨hx, hb, hml, hown, hts⟩ (c_X2_what l D cI cJ cB n0 bM sM zM tM xM kM wM eM S 0 tk a1 ok9 (hy_bx S a1.toNatClampNeg) rfl hwf) (cwV 1 hts gX2_holds_X2_what rfl rfl rfl (by decide +kernel) ⟨Nat.le_of_ble_eq_true rfl, Nat.le_of_ble_eq_true rfl⟩) ⟨hy_J_blind, va_recv hK hP (ci := 2) (q0 := 0) rfl rfl, fun U hU hW => ⟨rfl, hy_J_at hU hW hP hK⟩⟩ rfl rfl hl.1 rfl (lv_room (Nat.le_of_ble_eq_true rfl)) dX2_holds_14 ⟨Nat.le_of_ble_eq_true rfl, Nat.le_of_ble_eq_true rfl⟩) (fun v9 e9 => ?_)
    subst e9
    refine lv_goto (tgt := 25) hx hb dX2_holds_17 (by decide) ?_
    have hk9 : hy_kbox a1 = 0 := by simp only [hy_kbox0 ok9]
    have eS : (hy_M cI cJ n0 bM sM zM tM xM kM wM eM S 0 tk) = (hy_M cI cJ n0 bM sM zM tM xM kM wM eM (hy_if (hy_kbox a1) S S) (hy_kbox a1) tk) := by rw [hk9]; exact congrArg (fun s9 => hy_M cI cJ n0 bM sM zM tM xM kM wM eM s9 0 tk) (Eq.trans (rfl : S = S) (hy_if_0 _ _).symm)
    have hPz : va_P D vwCl (hy_M cI cJ n0 bM sM zM tM xM kM wM eM (hy_if (hy_kbox a1) S S) (hy_kbox a1) tk) H := by rw [← eS]; exact hP
    have hDz : va_D A (hy_M cI cJ n0 bM sM zM tM xM kM wM eM (hy_if (hy_kbox a1) S S) (hy_kbox a1) tk) := by rw [← eS]; exact hD
    exact W.iret (v := (hy_sort S (hy_bx S a1.toNatClampNeg))) hx hb hr (fun t ht hW => ⟨⟨_, (), rfl, fun _ => rfl, tk, by rw [ht]; exact hPz, va_K.moved hW.alike hK, hDz⟩, hS.F ht⟩) hS.2.2 dX2_holds_25
set_option maxHeartbeats 4000000 in
set_option maxRecDepth 100000 in
theorem c_X2_moved (l : Launch) (D : va_G) (cI cJ cB : ClassId) (n0 bM sM zM tM xM kM wM eM : Nat) (S : hy_S) (th : Int32) (tk : Nat → Int64) (hwf : hy_wf S) (sz : Nat)  : Met l yX2_moved wsX2_moved ({ frames := 0, cells := 0, slots := 0, locals := 0 }) (va_Pc [.ref n0] (hy_JM D cI cJ cB n0 bM sM zM tM xM kM wM eM S th tk sz)) (va_Qi (fun (r9 : Int32) (_ : Unit) => ((0 : Int32) = 0 → r9 = hy_lm S)) (fun _ => hy_AtM D cI cJ cB n0 bM sM zM tM xM kM wM eM (hy_if ((0 : Int32)) S S) ((0 : Int32)) (va_A (hy_M cI cJ n0 bM sM zM tM xM kM wM eM S th tk) sz)) (va_A (hy_M cI cJ n0 bM sM zM tM xM kM wM eM S th tk) sz)) 0 0 (va_A (hy_M cI cJ n0 bM sM zM tM xM kM wM eM S th tk) sz) := by
  refine Met.ofW (cc := cX2_moved) (maxL := 1) (ret := (some .int)) (by decide) rfl ?_
  intro p e s m args below meth c s₁ B hml hv
  obtain ⟨rfl, hsz, ⟨hP, hK⟩, hD0⟩ := hv
  have hx := B.exec
  have hb := B.bytes
  have hr := B.returns
  have hts := atoms_spec (ws := wsX2_moved) B.pre
  have hown : s.vm.findClass RX2 = some m.cls := findClass_of_methodNamed B.named
  have hlocks := B.notSynchronized
  subst hsz
  have hD := hD0.self (sz := s.heap.size)
  generalize hAe : va_A (hy_M cI cJ n0 bM sM zM tM xM kM wM eM S th tk) s.heap.size = A at hD ⊢
  have hA : ∀ q : Nat, s.heap.size ≤ q → A q := fun q h => by rw [← hAe]; exact Or.inr h
  have hS : va_S A s.heap s.heap [] := va_S.rf
  have hinX2 : ∀ w ∈ wsX20, w ∈ wsX2_moved := by decide +kernel
  have hl := lv_entry ([.ref n0]) (n := 1) (Nat.le_of_ble_eq_true rfl)
  rw [lg_entry_eq]
  generalize (lg_sl ([.ref n0]) ++ List.replicate (1 - (lg_sl ([.ref n0])).length) Slot.unset).toArray = ls at hl ⊢
  have hl : lv_has ls 1 [(0, .ref n0)] := hl
  refine lv_aload_n hx hb dX2_moved_0 rfl (lv_at hl 0 rfl) ?_
  refine lv_iconst (v := 0) hx hb dX2_moved_1 (by decide) ?_
  refine va_put (D := D) (ci := 2) (v := .int 0) (ty := .int) (C := RX2) (T := TX2) (N := 14) hx hb hts hinX2 tyX2 tyX2_ok nmX2 hown hK hP hD hS 0 rfl rfl 0 (by decide) (hts (.fieldLink RX2 35 "HiveYardModel" "thrown" "I") (by decide +kernel)) (fun _ h9 => h9) rfl (by decide +kernel) rfl rfl (Nat.le_of_ble_eq_true rfl) dX2_moved_2 (fun H locs hP hD hS => ?_)
  have hP : va_P D vwCl (hy_M cI cJ n0 bM sM zM tM xM kM wM eM S 0 tk) H := by rw [← hy_M_uth]; exact hP
  have hD : va_D A (hy_M cI cJ n0 bM sM zM tM xM kM wM eM S 0 tk) := by rw [← hy_M_uth]; exact hD
  refine lv_aload_n hx hb dX2_moved_5 rfl (lv_at hl 0 rfl) ?_
  refine va_get (D := D) (ci := 2) (v := .int (hy_lm S)) (C := RX2) (T := TX2) (N := 14) hx hb hts hinX2 hown hK hP 0 rfl rfl 10 (by decide) (hts (.fieldLink RX2 83 "HiveYardModel" "moved" "I") (by decide +kernel)) (fun _ h9 => h9) rfl dX2_moved_6 ?_
  have hk9 : (0 : Int32) = 0 := rfl
  have eS : (hy_M cI cJ n0 bM sM zM tM xM kM wM eM S 0 tk) = (hy_M cI cJ n0 bM sM zM tM xM kM wM eM (hy_if ((0 : Int32)) S S) ((0 : Int32)) tk) := by rw [hk9]; exact congrArg (fun s9 => hy_M cI cJ n0 bM sM zM tM xM kM wM eM s9 0 tk) (Eq.trans (rfl : S = S) (hy_if_0 _ _).symm)
  have hPz : va_P D vwCl (hy_M cI cJ n0 bM sM zM tM xM kM wM eM (hy_if ((0 : Int32)) S S) ((0 : Int32)) tk) H := by rw [← eS]; exact hP
  have hDz : va_D A (hy_M cI cJ n0 bM sM zM tM xM kM wM eM (hy_if ((0 : Int32)) S S) ((0 : Int32)) tk) := by rw [← eS]; exact hD
  exact W.iret (v := (hy_lm S)) hx hb hr (fun t ht hW => ⟨⟨_, (), rfl, fun _ => by first | rfl | (simp only []; done), tk, by rw [ht]; exact hPz, va_K.moved hW.alike hK, hDz⟩, hS.F ht⟩) hS.2.2 dX2_moved_9
set_option maxHeartbeats 4000000 in
set_option maxRecDepth 100000 in
theorem c_X2_feed (l : Launch) (D : va_G) (cI cJ cB : ClassId) (n0 bM sM zM tM xM kM wM eM : Nat) (S : hy_S) (th : Int32) (tk : Nat → Int64) (hwf : hy_wf S) (sz : Nat) (a1 a2 : Int32) : Met l yX2_feed wsX2_feed ({ frames := 1, cells := 0, slots := 0, locals := 21 }) (va_Pc [.ref n0, .int a1, .int a2] (hy_JM D cI cJ cB n0 bM sM zM tM xM kM wM eM S th tk sz)) (va_Qi (fun (r9 : Int32) (_ : Unit) => (hy_kcomb S a1 = 0 → r9 = (hy_we S a1.toNatClampNeg + a2))) (fun _ => hy_AtM D cI cJ cB n0 bM sM zM tM xM kM wM eM (hy_if (hy_kcomb S a1) (hy_uwe S (upd (hy_we S) a1.toNatClampNeg (hy_we S a1.toNatClampNeg + a2))) S) (hy_kcomb S a1) (va_A (hy_M cI cJ n0 bM sM zM tM xM kM wM eM S th tk) sz)) (va_A (hy_M cI cJ n0 bM sM zM tM xM kM wM eM S th tk) sz)) 0 0 (va_A (hy_M cI cJ n0 bM sM zM tM xM kM wM eM S th tk) sz) := by
  refine Met.ofW (cc := cX2_feed) (maxL := 3) (ret := (some .int)) (by decide) rfl ?_
  intro p e s m args below meth c s₁ B hml hv
  obtain ⟨rfl, hsz, ⟨hP, hK⟩, hD0⟩ := hv
  have hx := B.exec
  have hb := B.bytes
  have hr := B.returns
  have hts := atoms_spec (ws := wsX2_feed) B.pre
  have hown : s.vm.findClass RX2 = some m.cls := findClass_of_methodNamed B.named
  have hlocks := B.notSynchronized
  subst hsz
  have hD := hD0.self (sz := s.heap.size)
  generalize hAe : va_A (hy_M cI cJ n0 bM sM zM tM xM kM wM eM S th tk) s.heap.size = A at hD ⊢
  have hA : ∀ q : Nat, s.heap.size ≤ q → A q := fun q h => by rw [← hAe]; exact Or.inr h
  have hS : va_S A s.heap s.heap [] := va_S.rf
  have hinX2 : ∀ w ∈ wsX20, w ∈ wsX2_feed := by decide +kernel
  have hl := lv_entry ([.ref n0, .int a1, .int a2]) (n := 3) (Nat.le_of_ble_eq_true rfl)
  rw [lg_entry_eq]
  generalize (lg_sl ([.ref n0, .int a1, .int a2]) ++ List.replicate (3 - (lg_sl ([.ref n0, .int a1, .int a2])).length) Slot.unset).toArray = ls at hl ⊢
  have hl : lv_has ls 3 [(0, .ref n0), (1, .int a1), (2, .int a2)] := hl
  refine lv_aload_n hx hb dX2_feed_0 rfl (lv_at hl 0 rfl) ?_
  refine lv_iconst (v := 0) hx hb dX2_feed_1 (by decide) ?_
  refine va_put (D := D) (ci := 2) (v := .int 0) (ty := .int) (C := RX2) (T := TX2) (N := 14) hx hb hts hinX2 tyX2 tyX2_ok nmX2 hown hK hP hD hS 0 rfl rfl 0 (by decide) (hts (.fieldLink RX2 35 "HiveYardModel" "thrown" "I") (by decide +kernel)) (fun _ h9 => h9) rfl (by decide +kernel) rfl rfl (Nat.le_of_ble_eq_true rfl) dX2_feed_2 (fun H locs hP hD hS => ?_)
  have hP : va_P D vwCl (hy_M cI cJ n0 bM sM zM tM xM kM wM eM S 0 tk) H := by rw [← hy_M_uth]; exact hP
  have hD : va_D A (hy_M cI cJ n0 bM sM zM tM xM kM wM eM S 0 tk) := by rw [← hy_M_uth]; exact hD
  refine lv_aload_n hx hb dX2_feed_5 rfl (lv_at hl 0 rfl) ?_
  refine lv_iload_n hx hb dX2_feed_6 rfl (lv_at hl 1 rfl) ?_
  refine vp_callSi (W.runV (As := [.int a1]) (rest := []) ⟨hx, hb, hml, hown, hts⟩ (c_X2_isComb l D cI cJ cB n0 bM sM zM tM xM kM wM eM S 0 tk a1) (cwV 1 hts gX2_feed_X2_isComb rfl rfl rfl (by decide +kernel) ⟨Nat.le_of_ble_eq_true rfl, Nat.le_of_ble_eq_true rfl⟩) ⟨hy_J_blind, va_recv hK hP (ci := 2) (q0 := 0) rfl rfl, fun U hU hW => ⟨rfl, hy_J_at hU hW hP hK⟩⟩ rfl rfl hl.1 rfl (lv_room (Nat.le_of_ble_eq_true rfl)) dX2_feed_7 ⟨Nat.le_of_ble_eq_true rfl, Nat.le_of_ble_eq_true rfl⟩) (fun v9 e9 => ?_)
  subst e9
  refine lv_if_ne (tgt := 19) hx hb dX2_feed_10 (by decide) (fun c_10 => ?_) (fun c_10 => ?_)
  · -- 19
    refine lv_aload_n hx hb dX2_feed_19 rfl (lv_at hl 0 rfl) ?_
    refine va_get (D := D) (ci := 2) (v := .ref wM) (C := RX2) (T := TX2) (N := 14) hx hb hts hinX2 hown hK hP 0 rfl rfl 9 (by decide) (hts (.fieldLink RX2 29 "HiveYardModel" "weights" "[I") (by decide +kernel)) (fun _ h9 => h9) rfl dX2_feed_20 ?_
    refine lv_iload_n hx hb dX2_feed_23 rfl (lv_at hl 1 rfl) ?_
    refine lv_dup2_11 hx hb dX2_feed_24 rfl rfl ?_
    refine va_iald hx hb hK hP 7 0 rfl rfl (hy_mcomb_in hwf c_10) dX2_feed_25 ?_
    refine lv_iload_n hx hb dX2_feed_26 rfl (lv_at hl 2 rfl) ?_
    refine lv_iadd hx hb dX2_feed_27 ?_
    refine va_iast hx hb hK hP hD hS 7 0 rfl rfl (hy_mcomb_in hwf c_10) dX2_feed_28 (fun H locs hP hD hS => ?_)
    have hP : va_P D vwCl (hy_M cI cJ n0 bM sM zM tM xM kM wM eM (hy_uwe S (upd (hy_we S) a1.toNatClampNeg (((hy_we S) a1.toNatClampNeg) + a2))) 0 tk) H := by rw [← hy_M_uwe]; exact hP
    have hD : va_D A (hy_M cI cJ n0 bM sM zM tM xM kM wM eM (hy_uwe S (upd (hy_we S) a1.toNatClampNeg (((hy_we S) a1.toNatClampNeg) + a2))) 0 tk) := by rw [← hy_M_uwe]; exact hD
    refine lv_aload_n hx hb dX2_feed_29 rfl (lv_at hl 0 rfl) ?_
    refine va_get (D := D) (ci := 2) (v := .ref wM) (C := RX2) (T := TX2) (N := 14) hx hb hts hinX2 hown hK hP 0 rfl rfl 9 (by decide) (hts (.fieldLink RX2 29 "HiveYardModel" "weights" "[I") (by decide +kernel)) (fun _ h9 => h9) rfl dX2_feed_30 ?_
    refine lv_iload_n hx hb dX2_feed_33 rfl (lv_at hl 1 rfl) ?_
    refine va_iald hx hb hK hP 7 0 rfl rfl (hy_mcomb_in hwf c_10) dX2_feed_34 ?_
    have hk9 : hy_kcomb S a1 = 0 := hy_kcomb_0 hwf c_10
    have eS : (hy_M cI cJ n0 bM sM zM tM xM kM wM eM (hy_uwe S (upd (hy_we S) a1.toNatClampNeg (((hy_we S) a1.toNatClampNeg) + a2))) 0 tk) = (hy_M cI cJ n0 bM sM zM tM xM kM wM eM (hy_if (hy_kcomb S a1) (hy_uwe S (upd (hy_we S) a1.toNatClampNeg (hy_we S a1.toNatClampNeg + a2))) S) (hy_kcomb S a1) tk) := by rw [hk9]; exact congrArg (fun s9 => hy_M cI cJ n0 bM sM zM tM xM kM wM eM s9 0 tk) (Eq.trans (by first | rfl | (simp only []; done) : (hy_uwe S (upd (hy_we S) a1.toNatClampNeg (((hy_we S) a1.toNatClampNeg) + a2))) = (hy_uwe S (upd (hy_we S) a1.toNatClampNeg (hy_we S a1.toNatClampNeg + a2)))) (hy_if_0 _ _).symm)
    have hPz : va_P D vwCl (hy_M cI cJ n0 bM sM zM tM xM kM wM eM (hy_if (hy_kcomb S a1) (hy_uwe S (upd (hy_we S) a1.toNatClampNeg (hy_we S a1.toNatClampNeg + a2))) S) (hy_kcomb S a1) tk) H := by rw [← eS]; exact hP
    have hDz : va_D A (hy_M cI cJ n0 bM sM zM tM xM kM wM eM (hy_if (hy_kcomb S a1) (hy_uwe S (upd (hy_we S) a1.toNatClampNeg (hy_we S a1.toNatClampNeg + a2))) S) (hy_kcomb S a1) tk) := by rw [← eS]; exact hD
    exact W.iret (v := (((upd (hy_we S) a1.toNatClampNeg (((hy_we S) a1.toNatClampNeg) + a2))) a1.toNatClampNeg)) hx hb hr (fun t ht hW => ⟨⟨_, (), rfl, fun _ => pk_us, tk, by rw [ht]; exact hPz, va_K.moved hW.alike hK, hDz⟩, hS.F ht⟩) hS.2.2 dX2_feed_35
  · -- 13
    refine lv_aload_n hx hb dX2_feed_13 rfl (lv_at hl 0 rfl) ?_
    refine lv_iconst (v := 1) hx hb dX2_feed_14 (by decide) ?_
    have hFc := hy_free hD hS hA
    refine va_calli (va_runV (As := [.int 1]) (rest := []) ⟨hx, hb, hml, hown, hts⟩ (c_X2_fail l D cI cJ cB n0 bM sM zM tM xM kM wM eM S 0 tk H.size 1) (cwV 1 hts gX2_feed_X2_fail rfl rfl rfl (by decide +kernel) ⟨Nat.le_of_ble_eq_true rfl, Nat.le_of_ble_eq_true rfl⟩) ⟨hy_JM_blind, va_recv hK hP (ci := 2) (q0 := 0) rfl rfl, fun U hU hW => ⟨rfl, by rw [hU], hy_J_at hU hW hP hK, hD.weaken (fun _ _ _ _ => trivial)⟩⟩ rfl rfl hl.1 rfl (lv_room (Nat.le_of_ble_eq_true rfl)) dX2_feed_15 ⟨Nat.le_of_ble_eq_true rfl, Nat.le_of_ble_eq_true rfl⟩) hS (fun q _ h => hFc q h) hFc (fun v9 u t H locs ht hvm hw hB hz1 hk1 hS => ?_)
    obtain ⟨tk15, hP1, hK1, hD1⟩ := hB
    rw [ht] at hP1
    have hP : va_P D vwCl (hy_M cI cJ n0 bM sM zM tM xM kM wM eM S 1 tk15) H := hP1
    have hD : va_D A (hy_M cI cJ n0 bM sM zM tM xM kM wM eM S 1 tk15) := hD1.weaken (fun _ q _ h => hFc q.1 h)
    clear hP1 hK1 hD1 hFc
    subst hw
    have hk9 : hy_kcomb S a1 = 1 := hy_kcomb_1 hwf c_10
    have eS : (hy_M cI cJ n0 bM sM zM tM xM kM wM eM S 1 tk15) = (hy_M cI cJ n0 bM sM zM tM xM kM wM eM (hy_if (hy_kcomb S a1) (hy_uwe S (upd (hy_we S) a1.toNatClampNeg (hy_we S a1.toNatClampNeg + a2))) S) (hy_kcomb S a1) tk15) := by rw [hk9]; exact congrArg (fun s9 => hy_M cI cJ n0 bM sM zM tM xM kM wM eM s9 1 tk15) (hy_if_n (by decide) _ _).symm
    have hPz : va_P D vwCl (hy_M cI cJ n0 bM sM zM tM xM kM wM eM (hy_if (hy_kcomb S a1) (hy_uwe S (upd (hy_we S) a1.toNatClampNeg (hy_we S a1.toNatClampNeg + a2))) S) (hy_kcomb S a1) tk15) H := by rw [← eS]; exact hP
    have hDz : va_D A (hy_M cI cJ n0 bM sM zM tM xM kM wM eM (hy_if (hy_kcomb S a1) (hy_uwe S (upd (hy_we S) a1.toNatClampNeg (hy_we S a1.toNatClampNeg + a2))) S) (hy_kcomb S a1) tk15) := by rw [← eS]; exact hD
    exact W.iret (v := ((0 : Int32))) hx hb hr (fun t ht hW => ⟨⟨_, (), rfl, fun q => absurd (hk9.symm.trans q) (by decide), tk15, by rw [ht]; exact hPz, va_K.moved hW.alike hK, hDz⟩, hS.F ht⟩) hS.2.2 dX2_feed_18
set_option maxHeartbeats 4000000 in
set_option maxRecDepth 100000 in
theorem c_X2_kind (l : Launch) (D : va_G) (cI cJ cB : ClassId) (n0 bM sM zM tM xM kM wM eM : Nat) (S : hy_S) (th : Int32) (tk : Nat → Int64) (hwf : hy_wf S) (sz : Nat) (a1 : Int32) : Met l yX2_kind wsX2_kind ({ frames := 1, cells := 0, slots := 0, locals := 21 }) (va_Pc [.ref n0, .int a1] (hy_JM D cI cJ cB n0 bM sM zM tM xM kM wM eM S th tk sz)) (va_Qi (fun (r9 : Int32) (_ : Unit) => (hy_kcomb S a1 = 0 → r9 = hy_ki S a1.toNatClampNeg)) (fun _ => hy_AtM D cI cJ cB n0 bM sM zM tM xM kM wM eM (hy_if (hy_kcomb S a1) S S) (hy_kcomb S a1) (va_A (hy_M cI cJ n0 bM sM zM tM xM kM wM eM S th tk) sz)) (va_A (hy_M cI cJ n0 bM sM zM tM xM kM wM eM S th tk) sz)) 0 0 (va_A (hy_M cI cJ n0 bM sM zM tM xM kM wM eM S th tk) sz) := by
  refine Met.ofW (cc := cX2_kind) (maxL := 2) (ret := (some .int)) (by decide) rfl ?_
  intro p e s m args below meth c s₁ B hml hv
  obtain ⟨rfl, hsz, ⟨hP, hK⟩, hD0⟩ := hv
  have hx := B.exec
  have hb := B.bytes
  have hr := B.returns
  have hts := atoms_spec (ws := wsX2_kind) B.pre
  have hown : s.vm.findClass RX2 = some m.cls := findClass_of_methodNamed B.named
  have hlocks := B.notSynchronized
  subst hsz
  have hD := hD0.self (sz := s.heap.size)
  generalize hAe : va_A (hy_M cI cJ n0 bM sM zM tM xM kM wM eM S th tk) s.heap.size = A at hD ⊢
  have hA : ∀ q : Nat, s.heap.size ≤ q → A q := fun q h => by rw [← hAe]; exact Or.inr h
  have hS : va_S A s.heap s.heap [] := va_S.rf
  have hinX2 : ∀ w ∈ wsX20, w ∈ wsX2_kind := by decide +kernel
  have hl := lv_entry ([.ref n0, .int a1]) (n := 2) (Nat.le_of_ble_eq_true rfl)
  rw [lg_entry_eq]
  generalize (lg_sl ([.ref n0, .int a1]) ++ List.replicate (2 - (lg_sl ([.ref n0, .int a1])).length) Slot.unset).toArray = ls at hl ⊢
  have hl : lv_has ls 2 [(0, .ref n0), (1, .int a1)] := hl
  refine lv_aload_n hx hb dX2_kind_0 rfl (lv_at hl 0 rfl) ?_
  refine lv_iconst (v := 0) hx hb dX2_kind_1 (by decide) ?_
  refine va_put (D := D) (ci := 2) (v := .int 0) (ty := .int) (C := RX2) (T := TX2) (N := 14) hx hb hts hinX2 tyX2 tyX2_ok nmX2 hown hK hP hD hS 0 rfl rfl 0 (by decide) (hts (.fieldLink RX2 35 "HiveYardModel" "thrown" "I") (by decide +kernel)) (fun _ h9 => h9) rfl (by decide +kernel) rfl rfl (Nat.le_of_ble_eq_true rfl) dX2_kind_2 (fun H locs hP hD hS => ?_)
  have hP : va_P D vwCl (hy_M cI cJ n0 bM sM zM tM xM kM wM eM S 0 tk) H := by rw [← hy_M_uth]; exact hP
  have hD : va_D A (hy_M cI cJ n0 bM sM zM tM xM kM wM eM S 0 tk) := by rw [← hy_M_uth]; exact hD
  refine lv_aload_n hx hb dX2_kind_5 rfl (lv_at hl 0 rfl) ?_
  refine lv_iload_n hx hb dX2_kind_6 rfl (lv_at hl 1 rfl) ?_
  refine vp_callSi (W.runV (As := [.int a1]) (rest := []) ⟨hx, hb, hml, hown, hts⟩ (c_X2_isComb l D cI cJ cB n0 bM sM zM tM xM kM wM eM S 0 tk a1) (cwV 1 hts gX2_kind_X2_isComb rfl rfl rfl (by decide +kernel) ⟨Nat.le_of_ble_eq_true rfl, Nat.le_of_ble_eq_true rfl⟩) ⟨hy_J_blind, va_recv hK hP (ci := 2) (q0 := 0) rfl rfl, fun U hU hW => ⟨rfl, hy_J_at hU hW hP hK⟩⟩ rfl rfl hl.1 rfl (lv_room (Nat.le_of_ble_eq_true rfl)) dX2_kind_7 ⟨Nat.le_of_ble_eq_true rfl, Nat.le_of_ble_eq_true rfl⟩) (fun v9 e9 => ?_)
  subst e9
  refine lv_if_eq (tgt := 22) hx hb dX2_kind_10 (by decide) (fun c_10 => ?_) (fun c_10 => ?_)
  · -- 22
    refine lv_aload_n hx hb dX2_kind_22 rfl (lv_at hl 0 rfl) ?_
    refine lv_iconst (v := 1) hx hb dX2_kind_23 (by decide) ?_
    have hFc := hy_free hD hS hA
    refine va_calli (va_runV (As := [.int 1]) (rest := []) ⟨hx, hb, hml, hown, hts⟩ (c_X2_fail l D cI cJ cB n0 bM sM zM tM xM kM wM eM S 0 tk H.size 1) (cwV 1 hts gX2_kind_X2_fail rfl rfl rfl (by decide +kernel) ⟨Nat.le_of_ble_eq_true rfl, Nat.le_of_ble_eq_true rfl⟩) ⟨hy_JM_blind, va_recv hK hP (ci := 2) (q0 := 0) rfl rfl, fun U hU hW => ⟨rfl, by rw [hU], hy_J_at hU hW hP hK, hD.weaken (fun _ _ _ _ => trivial)⟩⟩ rfl rfl hl.1 rfl (lv_room (Nat.le_of_ble_eq_true rfl)) dX2_kind_24 ⟨Nat.le_of_ble_eq_true rfl, Nat.le_of_ble_eq_true rfl⟩) hS (fun q _ h => hFc q h) hFc (fun v9 u t H locs ht hvm hw hB hz1 hk1 hS => ?_)
    obtain ⟨tk24, hP1, hK1, hD1⟩ := hB
    rw [ht] at hP1
    have hP : va_P D vwCl (hy_M cI cJ n0 bM sM zM tM xM kM wM eM S 1 tk24) H := hP1
    have hD : va_D A (hy_M cI cJ n0 bM sM zM tM xM kM wM eM S 1 tk24) := hD1.weaken (fun _ q _ h => hFc q.1 h)
    clear hP1 hK1 hD1 hFc
    subst hw
    have hk9 : hy_kcomb S a1 = 1 := hy_kcomb_1 hwf c_10
    have eS : (hy_M cI cJ n0 bM sM zM tM xM kM wM eM S 1 tk24) = (hy_M cI cJ n0 bM sM zM tM xM kM wM eM (hy_if (hy_kcomb S a1) S S) (hy_kcomb S a1) tk24) := by rw [hk9]; exact congrArg (fun s9 => hy_M cI cJ n0 bM sM zM tM xM kM wM eM s9 1 tk24) (hy_if_n (by decide) _ _).symm
    have hPz : va_P D vwCl (hy_M cI cJ n0 bM sM zM tM xM kM wM eM (hy_if (hy_kcomb S a1) S S) (hy_kcomb S a1) tk24) H := by rw [← eS]; exact hP
    have hDz : va_D A (hy_M cI cJ n0 bM sM zM tM xM kM wM eM (hy_if (hy_kcomb S a1) S S) (hy_kcomb S a1) tk24) := by rw [← eS]; exact hD
    exact W.iret (v := ((0 : Int32))) hx hb hr (fun t ht hW => ⟨⟨_, (), rfl, fun q => absurd (hk9.symm.trans q) (by decide), tk24, by rw [ht]; exact hPz, va_K.moved hW.alike hK, hDz⟩, hS.F ht⟩) hS.2.2 dX2_kind_27
  · -- 13
    refine lv_aload_n hx hb dX2_kind_13 rfl (lv_at hl 0 rfl) ?_
    refine va_get (D := D) (ci := 2) (v := .ref kM) (C := RX2) (T := TX2) (N := 14) hx hb hts hinX2 hown hK hP 0 rfl rfl 8 (by decide) (hts (.fieldLink RX2 26 "HiveYardModel" "kinds" "[I") (by decide +kernel)) (fun _ h9 => h9) rfl dX2_kind_14 ?_
    refine lv_iload_n hx hb dX2_kind_17 rfl (lv_at hl 1 rfl) ?_
    refine va_iald hx hb hK hP 6 0 rfl rfl (hy_mcomb_in hwf c_10) dX2_kind_18 ?_
    refine lv_goto (tgt := 27) hx hb dX2_kind_19 (by decide) ?_
    have hk9 : hy_kcomb S a1 = 0 := hy_kcomb_0 hwf c_10
    have eS : (hy_M cI cJ n0 bM sM zM tM xM kM wM eM S 0 tk) = (hy_M cI cJ n0 bM sM zM tM xM kM wM eM (hy_if (hy_kcomb S a1) S S) (hy_kcomb S a1) tk) := by rw [hk9]; exact congrArg (fun s9 => hy_M cI cJ n0 bM sM zM tM xM kM wM eM s9 0 tk) (Eq.trans (rfl : S = S) (hy_if_0 _ _).symm)
    have hPz : va_P D vwCl (hy_M cI cJ n0 bM sM zM tM xM kM wM eM (hy_if (hy_kcomb S a1) S S) (hy_kcomb S a1) tk) H := by rw [← eS]; exact hP
    have hDz : va_D A (hy_M cI cJ n0 bM sM zM tM xM kM wM eM (hy_if (hy_kcomb S a1) S S) (hy_kcomb S a1) tk) := by rw [← eS]; exact hD
    exact W.iret (v := ((hy_ki S) a1.toNatClampNeg)) hx hb hr (fun t ht hW => ⟨⟨_, (), rfl, fun _ => rfl, tk, by rw [ht]; exact hPz, va_K.moved hW.alike hK, hDz⟩, hS.F ht⟩) hS.2.2 dX2_kind_27
set_option maxHeartbeats 4000000 in
set_option maxRecDepth 100000 in
theorem c_X2_count (l : Launch) (D : va_G) (cI cJ cB : ClassId) (n0 bM sM zM tM xM kM wM eM : Nat) (S : hy_S) (th : Int32) (tk : Nat → Int64) (hwf : hy_wf S) (sz : Nat) (a1 : Int32) : Met l yX2_count wsX2_count ({ frames := 0, cells := 0, slots := 0, locals := 0 }) (va_Pc [.ref n0, .int a1] (hy_JM D cI cJ cB n0 bM sM zM tM xM kM wM eM S th tk sz)) (va_Qi (fun (r9 : Int32) (_ : Unit) => ((0 : Int32) = 0 → r9 = hy_count S a1)) (fun _ => hy_AtM D cI cJ cB n0 bM sM zM tM xM kM wM eM (hy_if ((0 : Int32)) S S) ((0 : Int32)) (va_A (hy_M cI cJ n0 bM sM zM tM xM kM wM eM S th tk) sz)) (va_A (hy_M cI cJ n0 bM sM zM tM xM kM wM eM S th tk) sz)) 0 0 (va_A (hy_M cI cJ n0 bM sM zM tM xM kM wM eM S th tk) sz) := by
  refine Met.ofW (cc := cX2_count) (maxL := 2) (ret := (some .int)) (by decide) rfl ?_
  intro p e s m args below meth c s₁ B hml hv
  obtain ⟨rfl, hsz, ⟨hP, hK⟩, hD0⟩ := hv
  have hx := B.exec
  have hb := B.bytes
  have hr := B.returns
  have hts := atoms_spec (ws := wsX2_count) B.pre
  have hown : s.vm.findClass RX2 = some m.cls := findClass_of_methodNamed B.named
  have hlocks := B.notSynchronized
  subst hsz
  have hD := hD0.self (sz := s.heap.size)
  generalize hAe : va_A (hy_M cI cJ n0 bM sM zM tM xM kM wM eM S th tk) s.heap.size = A at hD ⊢
  have hA : ∀ q : Nat, s.heap.size ≤ q → A q := fun q h => by rw [← hAe]; exact Or.inr h
  have hS : va_S A s.heap s.heap [] := va_S.rf
  have hinX2 : ∀ w ∈ wsX20, w ∈ wsX2_count := by decide +kernel
  have hl := lv_entry ([.ref n0, .int a1]) (n := 2) (Nat.le_of_ble_eq_true rfl)
  rw [lg_entry_eq]
  generalize (lg_sl ([.ref n0, .int a1]) ++ List.replicate (2 - (lg_sl ([.ref n0, .int a1])).length) Slot.unset).toArray = ls at hl ⊢
  have hl : lv_has ls 2 [(0, .ref n0), (1, .int a1)] := hl
  refine lv_aload_n hx hb dX2_count_0 rfl (lv_at hl 0 rfl) ?_
  refine lv_iconst (v := 0) hx hb dX2_count_1 (by decide) ?_
  refine va_put (D := D) (ci := 2) (v := .int 0) (ty := .int) (C := RX2) (T := TX2) (N := 14) hx hb hts hinX2 tyX2 tyX2_ok nmX2 hown hK hP hD hS 0 rfl rfl 0 (by decide) (hts (.fieldLink RX2 35 "HiveYardModel" "thrown" "I") (by decide +kernel)) (fun _ h9 => h9) rfl (by decide +kernel) rfl rfl (Nat.le_of_ble_eq_true rfl) dX2_count_2 (fun H locs hP hD hS => ?_)
  have hP : va_P D vwCl (hy_M cI cJ n0 bM sM zM tM xM kM wM eM S 0 tk) H := by rw [← hy_M_uth]; exact hP
  have hD : va_D A (hy_M cI cJ n0 bM sM zM tM xM kM wM eM S 0 tk) := by rw [← hy_M_uth]; exact hD
  refine lv_iload_n hx hb dX2_count_5 rfl (lv_at hl 1 rfl) ?_
  refine lv_if_ne (tgt := 14) hx hb dX2_count_6 (by decide) (fun c_6 => ?_) (fun c_6 => ?_)
  · -- 14
    refine lv_iload_n hx hb dX2_count_14 rfl (lv_at hl 1 rfl) ?_
    refine lv_iconst (v := 1) hx hb dX2_count_15 (by decide) ?_
    refine lv_icmp_ne (tgt := 24) hx hb dX2_count_16 (by decide) (fun c_16 => ?_) (fun c_16 => ?_)
    · -- 24
      refine lv_iload_n hx hb dX2_count_24 rfl (lv_at hl 1 rfl) ?_
      refine lv_iconst (v := 2) hx hb dX2_count_25 (by decide) ?_
      refine lv_icmp_ne (tgt := 34) hx hb dX2_count_26 (by decide) (fun c_26 => ?_) (fun c_26 => ?_)
      · -- 34
        refine lv_iload_n hx hb dX2_count_34 rfl (lv_at hl 1 rfl) ?_
        refine lv_iconst (v := 3) hx hb dX2_count_35 (by decide) ?_
        refine lv_icmp_lt (tgt := 54) hx hb dX2_count_36 (by decide) (fun c_36 => ?_) (fun c_36 => ?_)
        · -- 54
          refine lv_iload_n hx hb dX2_count_54 rfl (lv_at hl 1 rfl) ?_
          refine lv_bipush (v := 8) hx hb dX2_count_55 (by decide) ?_
          refine lv_icmp_ne (tgt := 67) hx hb dX2_count_57 (by decide) (fun c_57 => ?_) (fun c_57 => ?_)
          · -- 67
            refine lv_iconst (v := (-1)) hx hb dX2_count_67 (by decide) ?_
            have hk9 : (0 : Int32) = 0 := rfl
            have eS : (hy_M cI cJ n0 bM sM zM tM xM kM wM eM S 0 tk) = (hy_M cI cJ n0 bM sM zM tM xM kM wM eM (hy_if ((0 : Int32)) S S) ((0 : Int32)) tk) := by rw [hk9]; exact congrArg (fun s9 => hy_M cI cJ n0 bM sM zM tM xM kM wM eM s9 0 tk) (Eq.trans (rfl : S = S) (hy_if_0 _ _).symm)
            have hPz : va_P D vwCl (hy_M cI cJ n0 bM sM zM tM xM kM wM eM (hy_if ((0 : Int32)) S S) ((0 : Int32)) tk) H := by rw [← eS]; exact hP
            have hDz : va_D A (hy_M cI cJ n0 bM sM zM tM xM kM wM eM (hy_if ((0 : Int32)) S S) ((0 : Int32)) tk) := by rw [← eS]; exact hD
            exact W.iret (v := (-1)) hx hb hr (fun t ht hW => ⟨⟨_, (), rfl, fun _ => hy_count_n c_6 c_16 c_26 (by first | exact Or.inl c_36 | exact Or.inr c_42) c_57, tk, by rw [ht]; exact hPz, va_K.moved hW.alike hK, hDz⟩, hS.F ht⟩) hS.2.2 dX2_count_68
          · -- 60
            refine lv_aload_n hx hb dX2_count_60 rfl (lv_at hl 0 rfl) ?_
            refine va_get (D := D) (ci := 2) (v := .int (hy_pm S)) (C := RX2) (T := TX2) (N := 14) hx hb hts hinX2 hown hK hP 0 rfl rfl 12 (by decide) (hts (.fieldLink RX2 93 "HiveYardModel" "allMoved" "I") (by decide +kernel)) (fun _ h9 => h9) rfl dX2_count_61 ?_
            refine lv_goto (tgt := 68) hx hb dX2_count_64 (by decide) ?_
            have hk9 : (0 : Int32) = 0 := rfl
            have eS : (hy_M cI cJ n0 bM sM zM tM xM kM wM eM S 0 tk) = (hy_M cI cJ n0 bM sM zM tM xM kM wM eM (hy_if ((0 : Int32)) S S) ((0 : Int32)) tk) := by rw [hk9]; exact congrArg (fun s9 => hy_M cI cJ n0 bM sM zM tM xM kM wM eM s9 0 tk) (Eq.trans (rfl : S = S) (hy_if_0 _ _).symm)
            have hPz : va_P D vwCl (hy_M cI cJ n0 bM sM zM tM xM kM wM eM (hy_if ((0 : Int32)) S S) ((0 : Int32)) tk) H := by rw [← eS]; exact hP
            have hDz : va_D A (hy_M cI cJ n0 bM sM zM tM xM kM wM eM (hy_if ((0 : Int32)) S S) ((0 : Int32)) tk) := by rw [← eS]; exact hD
            exact W.iret (v := (hy_pm S)) hx hb hr (fun t ht hW => ⟨⟨_, (), rfl, fun _ => hy_count_8 c_6 c_16 c_26 (by first | exact Or.inl c_36 | exact Or.inr c_42) c_57, tk, by rw [ht]; exact hPz, va_K.moved hW.alike hK, hDz⟩, hS.F ht⟩) hS.2.2 dX2_count_68
        · -- 39
          refine lv_iload_n hx hb dX2_count_39 rfl (lv_at hl 1 rfl) ?_
          refine lv_bipush (v := 7) hx hb dX2_count_40 (by decide) ?_
          refine lv_icmp_gt (tgt := 54) hx hb dX2_count_42 (by decide) (fun c_42 => ?_) (fun c_42 => ?_)
          · -- 54
            refine lv_iload_n hx hb dX2_count_54 rfl (lv_at hl 1 rfl) ?_
            refine lv_bipush (v := 8) hx hb dX2_count_55 (by decide) ?_
            refine lv_icmp_ne (tgt := 67) hx hb dX2_count_57 (by decide) (fun c_57 => ?_) (fun c_57 => ?_)
            · -- 67
              refine lv_iconst (v := (-1)) hx hb dX2_count_67 (by decide) ?_
              have hk9 : (0 : Int32) = 0 := rfl
              have eS : (hy_M cI cJ n0 bM sM zM tM xM kM wM eM S 0 tk) = (hy_M cI cJ n0 bM sM zM tM xM kM wM eM (hy_if ((0 : Int32)) S S) ((0 : Int32)) tk) := by rw [hk9]; exact congrArg (fun s9 => hy_M cI cJ n0 bM sM zM tM xM kM wM eM s9 0 tk) (Eq.trans (rfl : S = S) (hy_if_0 _ _).symm)
              have hPz : va_P D vwCl (hy_M cI cJ n0 bM sM zM tM xM kM wM eM (hy_if ((0 : Int32)) S S) ((0 : Int32)) tk) H := by rw [← eS]; exact hP
              have hDz : va_D A (hy_M cI cJ n0 bM sM zM tM xM kM wM eM (hy_if ((0 : Int32)) S S) ((0 : Int32)) tk) := by rw [← eS]; exact hD
              exact W.iret (v := (-1)) hx hb hr (fun t ht hW => ⟨⟨_, (), rfl, fun _ => hy_count_n c_6 c_16 c_26 (by first | exact Or.inl c_36 | exact Or.inr c_42) c_57, tk, by rw [ht]; exact hPz, va_K.moved hW.alike hK, hDz⟩, hS.F ht⟩) hS.2.2 dX2_count_68
            · -- 60
              refine lv_aload_n hx hb dX2_count_60 rfl (lv_at hl 0 rfl) ?_
              refine va_get (D := D) (ci := 2) (v := .int (hy_pm S)) (C := RX2) (T := TX2) (N := 14) hx hb hts hinX2 hown hK hP 0 rfl rfl 12 (by decide) (hts (.fieldLink RX2 93 "HiveYardModel" "allMoved" "I") (by decide +kernel)) (fun _ h9 => h9) rfl dX2_count_61 ?_
              refine lv_goto (tgt := 68) hx hb dX2_count_64 (by decide) ?_
              have hk9 : (0 : Int32) = 0 := rfl
              have eS : (hy_M cI cJ n0 bM sM zM tM xM kM wM eM S 0 tk) = (hy_M cI cJ n0 bM sM zM tM xM kM wM eM (hy_if ((0 : Int32)) S S) ((0 : Int32)) tk) := by rw [hk9]; exact congrArg (fun s9 => hy_M cI cJ n0 bM sM zM tM xM kM wM eM s9 0 tk) (Eq.trans (rfl : S = S) (hy_if_0 _ _).symm)
              have hPz : va_P D vwCl (hy_M cI cJ n0 bM sM zM tM xM kM wM eM (hy_if ((0 : Int32)) S S) ((0 : Int32)) tk) H := by rw [← eS]; exact hP
              have hDz : va_D A (hy_M cI cJ n0 bM sM zM tM xM kM wM eM (hy_if ((0 : Int32)) S S) ((0 : Int32)) tk) := by rw [← eS]; exact hD
              exact W.iret (v := (hy_pm S)) hx hb hr (fun t ht hW => ⟨⟨_, (), rfl, fun _ => hy_count_8 c_6 c_16 c_26 (by first | exact Or.inl c_36 | exact Or.inr c_42) c_57, tk, by rw [ht]; exact hPz, va_K.moved hW.alike hK, hDz⟩, hS.F ht⟩) hS.2.2 dX2_count_68
          · -- 45
            refine lv_aload_n hx hb dX2_count_45 rfl (lv_at hl 0 rfl) ?_
            refine va_get (D := D) (ci := 2) (v := .ref eM) (C := RX2) (T := TX2) (N := 14) hx hb hts hinX2 hown hK hP 0 rfl rfl 13 (by decide) (hts (.fieldLink RX2 32 "HiveYardModel" "ended" "[I") (by decide +kernel)) (fun _ h9 => h9) rfl dX2_count_46 ?_
            refine lv_iload_n hx hb dX2_count_49 rfl (lv_at hl 1 rfl) ?_
            refine lv_iconst (v := 2) hx hb dX2_count_50 (by decide) ?_
            refine lv_isub hx hb dX2_count_51 ?_
            refine va_iald hx hb hK hP 8 0 rfl rfl (hy_mcend_in c_36 c_42) dX2_count_52 ?_
            have hk9 : (0 : Int32) = 0 := rfl
            have eS : (hy_M cI cJ n0 bM sM zM tM xM kM wM eM S 0 tk) = (hy_M cI cJ n0 bM sM zM tM xM kM wM eM (hy_if ((0 : Int32)) S S) ((0 : Int32)) tk) := by rw [hk9]; exact congrArg (fun s9 => hy_M cI cJ n0 bM sM zM tM xM kM wM eM s9 0 tk) (Eq.trans (rfl : S = S) (hy_if_0 _ _).symm)
            have hPz : va_P D vwCl (hy_M cI cJ n0 bM sM zM tM xM kM wM eM (hy_if ((0 : Int32)) S S) ((0 : Int32)) tk) H := by rw [← eS]; exact hP
            have hDz : va_D A (hy_M cI cJ n0 bM sM zM tM xM kM wM eM (hy_if ((0 : Int32)) S S) ((0 : Int32)) tk) := by rw [← eS]; exact hD
            exact W.iret (v := ((hy_en S) (a1 - 2).toNatClampNeg)) hx hb hr (fun t ht hW => ⟨⟨_, (), rfl, fun _ => hy_count_e c_6 c_16 c_26 c_36 c_42, tk, by rw [ht]; exact hPz, va_K.moved hW.alike hK, hDz⟩, hS.F ht⟩) hS.2.2 dX2_count_53
      · -- 29
        refine lv_aload_n hx hb dX2_count_29 rfl (lv_at hl 0 rfl) ?_
        refine va_get (D := D) (ci := 2) (v := .int (hy_mo S)) (C := RX2) (T := TX2) (N := 14) hx hb hts hinX2 hown hK hP 0 rfl rfl 11 (by decide) (hts (.fieldLink RX2 90 "HiveYardModel" "moves" "I") (by decide +kernel)) (fun _ h9 => h9) rfl dX2_count_30 ?_
        have hk9 : (0 : Int32) = 0 := rfl
        have eS : (hy_M cI cJ n0 bM sM zM tM xM kM wM eM S 0 tk) = (hy_M cI cJ n0 bM sM zM tM xM kM wM eM (hy_if ((0 : Int32)) S S) ((0 : Int32)) tk) := by rw [hk9]; exact congrArg (fun s9 => hy_M cI cJ n0 bM sM zM tM xM kM wM eM s9 0 tk) (Eq.trans (rfl : S = S) (hy_if_0 _ _).symm)
        have hPz : va_P D vwCl (hy_M cI cJ n0 bM sM zM tM xM kM wM eM (hy_if ((0 : Int32)) S S) ((0 : Int32)) tk) H := by rw [← eS]; exact hP
        have hDz : va_D A (hy_M cI cJ n0 bM sM zM tM xM kM wM eM (hy_if ((0 : Int32)) S S) ((0 : Int32)) tk) := by rw [← eS]; exact hD
        exact W.iret (v := (hy_mo S)) hx hb hr (fun t ht hW => ⟨⟨_, (), rfl, fun _ => by rw [hy_count, if_neg c_6, if_neg c_16, if_pos c_26], tk, by rw [ht]; exact hPz, va_K.moved hW.alike hK, hDz⟩, hS.F ht⟩) hS.2.2 dX2_count_33
    · -- 19
      refine lv_aload_n hx hb dX2_count_19 rfl (lv_at hl 0 rfl) ?_
      refine va_get (D := D) (ci := 2) (v := .int (nI (hy_nc S))) (C := RX2) (T := TX2) (N := 14) hx hb hts hinX2 hown hK hP 0 rfl rfl 7 (by decide) (hts (.fieldLink RX2 73 "HiveYardModel" "combs" "I") (by decide +kernel)) (fun _ h9 => h9) rfl dX2_count_20 ?_
      have hk9 : (0 : Int32) = 0 := rfl
      have eS : (hy_M cI cJ n0 bM sM zM tM xM kM wM eM S 0 tk) = (hy_M cI cJ n0 bM sM zM tM xM kM wM eM (hy_if ((0 : Int32)) S S) ((0 : Int32)) tk) := by rw [hk9]; exact congrArg (fun s9 => hy_M cI cJ n0 bM sM zM tM xM kM wM eM s9 0 tk) (Eq.trans (rfl : S = S) (hy_if_0 _ _).symm)
      have hPz : va_P D vwCl (hy_M cI cJ n0 bM sM zM tM xM kM wM eM (hy_if ((0 : Int32)) S S) ((0 : Int32)) tk) H := by rw [← eS]; exact hP
      have hDz : va_D A (hy_M cI cJ n0 bM sM zM tM xM kM wM eM (hy_if ((0 : Int32)) S S) ((0 : Int32)) tk) := by rw [← eS]; exact hD
      exact W.iret (v := (nI (hy_nc S))) hx hb hr (fun t ht hW => ⟨⟨_, (), rfl, fun _ => by rw [hy_count, if_neg c_6, if_pos c_16], tk, by rw [ht]; exact hPz, va_K.moved hW.alike hK, hDz⟩, hS.F ht⟩) hS.2.2 dX2_count_23
  · -- 9
    refine lv_aload_n hx hb dX2_count_9 rfl (lv_at hl 0 rfl) ?_
    refine va_get (D := D) (ci := 2) (v := .int (nI (hy_nr S))) (C := RX2) (T := TX2) (N := 14) hx hb hts hinX2 hown hK hP 0 rfl rfl 2 (by decide) (hts (.fieldLink RX2 47 "HiveYardModel" "rows" "I") (by decide +kernel)) (fun _ h9 => h9) rfl dX2_count_10 ?_
    have hk9 : (0 : Int32) = 0 := rfl
    have eS : (hy_M cI cJ n0 bM sM zM tM xM kM wM eM S 0 tk) = (hy_M cI cJ n0 bM sM zM tM xM kM wM eM (hy_if ((0 : Int32)) S S) ((0 : Int32)) tk) := by rw [hk9]; exact congrArg (fun s9 => hy_M cI cJ n0 bM sM zM tM xM kM wM eM s9 0 tk) (Eq.trans (rfl : S = S) (hy_if_0 _ _).symm)
    have hPz : va_P D vwCl (hy_M cI cJ n0 bM sM zM tM xM kM wM eM (hy_if ((0 : Int32)) S S) ((0 : Int32)) tk) H := by rw [← eS]; exact hP
    have hDz : va_D A (hy_M cI cJ n0 bM sM zM tM xM kM wM eM (hy_if ((0 : Int32)) S S) ((0 : Int32)) tk) := by rw [← eS]; exact hD
    exact W.iret (v := (nI (hy_nr S))) hx hb hr (fun t ht hW => ⟨⟨_, (), rfl, fun _ => by rw [hy_count, if_pos c_6], tk, by rw [ht]; exact hPz, va_K.moved hW.alike hK, hDz⟩, hS.F ht⟩) hS.2.2 dX2_count_13
set_option maxHeartbeats 4000000 in
set_option maxRecDepth 100000 in
theorem c_X2_places (l : Launch) (D : va_G) (cI cJ cB : ClassId) (n0 bM sM zM tM xM kM wM eM : Nat) (S : hy_S) (th : Int32) (tk : Nat → Int64) (hwf : hy_wf S) (sz : Nat) (a1 : Int32) : Met l yX2_places wsX2_places ({ frames := 1, cells := 0, slots := 0, locals := 21 }) (va_Pc [.ref n0, .int a1] (hy_JM D cI cJ cB n0 bM sM zM tM xM kM wM eM S th tk sz)) (va_Qi (fun (r9 : Int32) (_ : Unit) => (hy_krow S a1 = 0 → r9 = hy_vlen S a1)) (fun _ => hy_AtM D cI cJ cB n0 bM sM zM tM xM kM wM eM (hy_if (hy_krow S a1) S S) (hy_krow S a1) (va_A (hy_M cI cJ n0 bM sM zM tM xM kM wM eM S th tk) sz)) (va_A (hy_M cI cJ n0 bM sM zM tM xM kM wM eM S th tk) sz)) 0 0 (va_A (hy_M cI cJ n0 bM sM zM tM xM kM wM eM S th tk) sz) := by
  refine Met.ofW (cc := cX2_places) (maxL := 2) (ret := (some .int)) (by decide) rfl ?_
  intro p e s m args below meth c s₁ B hml hv
  obtain ⟨rfl, hsz, ⟨hP, hK⟩, hD0⟩ := hv
  have hx := B.exec
  have hb := B.bytes
  have hr := B.returns
  have hts := atoms_spec (ws := wsX2_places) B.pre
  have hown : s.vm.findClass RX2 = some m.cls := findClass_of_methodNamed B.named
  have hlocks := B.notSynchronized
  subst hsz
  have hD := hD0.self (sz := s.heap.size)
  generalize hAe : va_A (hy_M cI cJ n0 bM sM zM tM xM kM wM eM S th tk) s.heap.size = A at hD ⊢
  have hA : ∀ q : Nat, s.heap.size ≤ q → A q := fun q h => by rw [← hAe]; exact Or.inr h
  have hS : va_S A s.heap s.heap [] := va_S.rf
  have hinX2 : ∀ w ∈ wsX20, w ∈ wsX2_places := by decide +kernel
  have hl := lv_entry ([.ref n0, .int a1]) (n := 2) (Nat.le_of_ble_eq_true rfl)
  rw [lg_entry_eq]
  generalize (lg_sl ([.ref n0, .int a1]) ++ List.replicate (2 - (lg_sl ([.ref n0, .int a1])).length) Slot.unset).toArray = ls at hl ⊢
  have hl : lv_has ls 2 [(0, .ref n0), (1, .int a1)] := hl
  refine lv_aload_n hx hb dX2_places_0 rfl (lv_at hl 0 rfl) ?_
  refine lv_iconst (v := 0) hx hb dX2_places_1 (by decide) ?_
  refine va_put (D := D) (ci := 2) (v := .int 0) (ty := .int) (C := RX2) (T := TX2) (N := 14) hx hb hts hinX2 tyX2 tyX2_ok nmX2 hown hK hP hD hS 0 rfl rfl 0 (by decide) (hts (.fieldLink RX2 35 "HiveYardModel" "thrown" "I") (by decide +kernel)) (fun _ h9 => h9) rfl (by decide +kernel) rfl rfl (Nat.le_of_ble_eq_true rfl) dX2_places_2 (fun H locs hP hD hS => ?_)
  have hP : va_P D vwCl (hy_M cI cJ n0 bM sM zM tM xM kM wM eM S 0 tk) H := by rw [← hy_M_uth]; exact hP
  have hD : va_D A (hy_M cI cJ n0 bM sM zM tM xM kM wM eM S 0 tk) := by rw [← hy_M_uth]; exact hD
  refine lv_iload_n hx hb dX2_places_5 rfl (lv_at hl 1 rfl) ?_
  refine vp_callSi (W.runS (As := [.int a1]) (rest := []) ⟨hx, hb, hml, hown, hts⟩ (c_X2_isBox l a1) (va_cwS 1 hts gX2_places_X2_isBox rfl rfl rfl (by decide +kernel) ⟨Nat.le_of_ble_eq_true rfl, Nat.le_of_ble_eq_true rfl⟩) ⟨fun _ _ _ _ q => q, fun U hU hW => ⟨rfl, trivial⟩⟩ rfl rfl hl.1 rfl (lv_room (Nat.le_of_ble_eq_true rfl)) dX2_places_6 ⟨Nat.le_of_ble_eq_true rfl, Nat.le_of_ble_eq_true rfl⟩) (fun v9 e9 => ?_)
  subst e9
  refine lv_if_ne (tgt := 18) hx hb dX2_places_9 (by decide) (fun c_9 => ?_) (fun c_9 => ?_)
  · -- 18
    have ok9 : hy_ok a1 := hy_misbox_ok c_9
    refine lv_aload_n hx hb dX2_places_18 rfl (lv_at hl 0 rfl) ?_
    refine lv_iload_n hx hb dX2_places_19 rfl (lv_at hl 1 rfl) ?_
    refine vp_callSi (W.runV (As := [.int a1]) (rest := []) ⟨hx, hb, hml, hown, hts⟩ (c_X2_hasRow l D cI cJ cB n0 bM sM zM tM xM kM wM eM S 0 tk a1 ok9 (hy_bx S a1.toNatClampNeg) rfl hwf) (cwV 1 hts gX2_places_X2_hasRow rfl rfl rfl (by decide +kernel) ⟨Nat.le_of_ble_eq_true rfl, Nat.le_of_ble_eq_true rfl⟩) ⟨hy_J_blind, va_recv hK hP (ci := 2) (q0 := 0) rfl rfl, fun U hU hW => ⟨rfl, hy_J_at hU hW hP hK⟩⟩ rfl rfl hl.1 rfl (lv_room (Nat.le_of_ble_eq_true rfl)) dX2_places_20 ⟨Nat.le_of_ble_eq_true rfl, Nat.le_of_ble_eq_true rfl⟩) (fun v9 e9 => ?_)
    subst e9
    refine lv_if_eq (tgt := 40) hx hb dX2_places_23 (by decide) (fun c_23 => ?_) (fun c_23 => ?_)
    · -- 40
      have i23 : hy_isRow S (hy_bx S a1.toNatClampNeg) = 0 := by rw [hy_isRow_m hwf (hwf.2.2.1 _)]; exact c_23
      refine lv_aload_n hx hb dX2_places_40 rfl (lv_at hl 0 rfl) ?_
      refine lv_iconst (v := 2) hx hb dX2_places_41 (by decide) ?_
      have hFc := hy_free hD hS hA
      refine va_calli (va_runV (As := [.int 2]) (rest := []) ⟨hx, hb, hml, hown, hts⟩ (c_X2_fail l D cI cJ cB n0 bM sM zM tM xM kM wM eM S 0 tk H.size 2) (cwV 1 hts gX2_places_X2_fail rfl rfl rfl (by decide +kernel) ⟨Nat.le_of_ble_eq_true rfl, Nat.le_of_ble_eq_true rfl⟩) ⟨hy_JM_blind, va_recv hK hP (ci := 2) (q0 := 0) rfl rfl, fun U hU hW => ⟨rfl, by rw [hU], hy_J_at hU hW hP hK, hD.weaken (fun _ _ _ _ => trivial)⟩⟩ rfl rfl hl.1 rfl (lv_room (Nat.le_of_ble_eq_true rfl)) dX2_places_42 ⟨Nat.le_of_ble_eq_true rfl, Nat.le_of_ble_eq_true rfl⟩) hS (fun q _ h => hFc q h) hFc (fun v9 u t H locs ht hvm hw hB hz1 hk1 hS => ?_)
      obtain ⟨tk42, hP1, hK1, hD1⟩ := hB
      rw [ht] at hP1
      have hP : va_P D vwCl (hy_M cI cJ n0 bM sM zM tM xM kM wM eM S 2 tk42) H := hP1
      have hD : va_D A (hy_M cI cJ n0 bM sM zM tM xM kM wM eM S 2 tk42) := hD1.weaken (fun _ q _ h => hFc q.1 h)
      clear hP1 hK1 hD1 hFc
      subst hw
      have hk9 : hy_krow S a1 = 2 := by simp only [hy_krow, if_pos (hy_kbox0 ok9), if_pos i23]
      have eS : (hy_M cI cJ n0 bM sM zM tM xM kM wM eM S 2 tk42) = (hy_M cI cJ n0 bM sM zM tM xM kM wM eM (hy_if (hy_krow S a1) S S) (hy_krow S a1) tk42) := by rw [hk9]; exact congrArg (fun s9 => hy_M cI cJ n0 bM sM zM tM xM kM wM eM s9 2 tk42) (hy_if_n (by decide) _ _).symm
      have hPz : va_P D vwCl (hy_M cI cJ n0 bM sM zM tM xM kM wM eM (hy_if (hy_krow S a1) S S) (hy_krow S a1) tk42) H := by rw [← eS]; exact hP
      have hDz : va_D A (hy_M cI cJ n0 bM sM zM tM xM kM wM eM (hy_if (hy_krow S a1) S S) (hy_krow S a1) tk42) := by rw [← eS]; exact hD
      exact W.iret (v := ((0 : Int32))) hx hb hr (fun t ht hW => ⟨⟨_, (), rfl, fun q => absurd (hk9.symm.trans q) (by decide), tk42, by rw [ht]; exact hPz, va_K.moved hW.alike hK, hDz⟩, hS.F ht⟩) hS.2.2 dX2_places_45
    · -- 26
      have i23 : ¬ hy_isRow S (hy_bx S a1.toNatClampNeg) = 0 := by rw [hy_isRow_m hwf (hwf.2.2.1 _)]; exact c_23
      obtain ⟨r23, hb23⟩ := hy_mrow_some c_23
      have hl23 := hwf.2.2.1 _ _ hb23
      have h300 := hwf.1
      have h2423 := hwf.2.2.2.2.2.1 (r23 + 1)
      refine lv_aload_n hx hb dX2_places_26 rfl (lv_at hl 0 rfl) ?_
      refine va_get (D := D) (ci := 2) (v := .ref zM) (C := RX2) (T := TX2) (N := 14) hx hb hts hinX2 hown hK hP 0 rfl rfl 4 (by decide) (hts (.fieldLink RX2 16 "HiveYardModel" "sizes" "[I") (by decide +kernel)) (fun _ h9 => h9) rfl dX2_places_27 ?_
      refine lv_aload_n hx hb dX2_places_30 rfl (lv_at hl 0 rfl) ?_
      refine va_get (D := D) (ci := 2) (v := .ref bM) (C := RX2) (T := TX2) (N := 14) hx hb hts hinX2 hown hK hP 0 rfl rfl 1 (by decide) (hts (.fieldLink RX2 7 "HiveYardModel" "boxes" "[I") (by decide +kernel)) (fun _ h9 => h9) rfl dX2_places_31 ?_
      refine lv_iload_n hx hb dX2_places_34 rfl (lv_at hl 1 rfl) ?_
      refine va_iald hx hb hK hP 1 0 rfl rfl (hy_ok_in ok9) dX2_places_35 ?_
      refine lv_topi (fun v9 e9 => ?_)
      obtain rfl : v9 = (nI r23) := e9.trans (by show hy_enc (hy_bx S a1.toNatClampNeg) = _; rw [hb23]; rfl)
      clear e9
      refine va_iald hx hb hK hP 3 0 rfl rfl (vp_in_nI (by omega) (by omega)) dX2_places_36 ?_
      refine lv_topi (fun v9 e9 => ?_)
      obtain rfl : v9 = (nI (hy_le S (r23 + 1))) := e9.trans (by rw [nI_clamp (by omega)])
      clear e9
      refine lv_goto (tgt := 45) hx hb dX2_places_37 (by decide) ?_
      have hk9 : hy_krow S a1 = 0 := by simp only [hy_krow, if_pos (hy_kbox0 ok9), if_neg i23]
      have eS : (hy_M cI cJ n0 bM sM zM tM xM kM wM eM S 0 tk) = (hy_M cI cJ n0 bM sM zM tM xM kM wM eM (hy_if (hy_krow S a1) S S) (hy_krow S a1) tk) := by rw [hk9]; exact congrArg (fun s9 => hy_M cI cJ n0 bM sM zM tM xM kM wM eM s9 0 tk) (Eq.trans (rfl : S = S) (hy_if_0 _ _).symm)
      have hPz : va_P D vwCl (hy_M cI cJ n0 bM sM zM tM xM kM wM eM (hy_if (hy_krow S a1) S S) (hy_krow S a1) tk) H := by rw [← eS]; exact hP
      have hDz : va_D A (hy_M cI cJ n0 bM sM zM tM xM kM wM eM (hy_if (hy_krow S a1) S S) (hy_krow S a1) tk) := by rw [← eS]; exact hD
      exact W.iret (v := (nI (hy_le S (r23 + 1)))) hx hb hr (fun t ht hW => ⟨⟨_, (), rfl, fun _ => by rw [hy_vlen, hb23]; rfl, tk, by rw [ht]; exact hPz, va_K.moved hW.alike hK, hDz⟩, hS.F ht⟩) hS.2.2 dX2_places_45
  · -- 12
    refine lv_aload_n hx hb dX2_places_12 rfl (lv_at hl 0 rfl) ?_
    refine lv_iconst (v := 1) hx hb dX2_places_13 (by decide) ?_
    have hFc := hy_free hD hS hA
    refine va_calli (va_runV (As := [.int 1]) (rest := []) ⟨hx, hb, hml, hown, hts⟩ (c_X2_fail l D cI cJ cB n0 bM sM zM tM xM kM wM eM S 0 tk H.size 1) (cwV 1 hts gX2_places_X2_fail rfl rfl rfl (by decide +kernel) ⟨Nat.le_of_ble_eq_true rfl, Nat.le_of_ble_eq_true rfl⟩) ⟨hy_JM_blind, va_recv hK hP (ci := 2) (q0 := 0) rfl rfl, fun U hU hW => ⟨rfl, by rw [hU], hy_J_at hU hW hP hK, hD.weaken (fun _ _ _ _ => trivial)⟩⟩ rfl rfl hl.1 rfl (lv_room (Nat.le_of_ble_eq_true rfl)) dX2_places_14 ⟨Nat.le_of_ble_eq_true rfl, Nat.le_of_ble_eq_true rfl⟩) hS (fun q _ h => hFc q h) hFc (fun v9 u t H locs ht hvm hw hB hz1 hk1 hS => ?_)
    obtain ⟨tk14, hP1, hK1, hD1⟩ := hB
    rw [ht] at hP1
    have hP : va_P D vwCl (hy_M cI cJ n0 bM sM zM tM xM kM wM eM S 1 tk14) H := hP1
    have hD : va_D A (hy_M cI cJ n0 bM sM zM tM xM kM wM eM S 1 tk14) := hD1.weaken (fun _ q _ h => hFc q.1 h)
    clear hP1 hK1 hD1 hFc
    subst hw
    have hk9 : hy_krow S a1 = 1 := by simp only [hy_krow, if_neg (hy_kbox1 (hy_misbox_no c_9))]
    have eS : (hy_M cI cJ n0 bM sM zM tM xM kM wM eM S 1 tk14) = (hy_M cI cJ n0 bM sM zM tM xM kM wM eM (hy_if (hy_krow S a1) S S) (hy_krow S a1) tk14) := by rw [hk9]; exact congrArg (fun s9 => hy_M cI cJ n0 bM sM zM tM xM kM wM eM s9 1 tk14) (hy_if_n (by decide) _ _).symm
    have hPz : va_P D vwCl (hy_M cI cJ n0 bM sM zM tM xM kM wM eM (hy_if (hy_krow S a1) S S) (hy_krow S a1) tk14) H := by rw [← eS]; exact hP
    have hDz : va_D A (hy_M cI cJ n0 bM sM zM tM xM kM wM eM (hy_if (hy_krow S a1) S S) (hy_krow S a1) tk14) := by rw [← eS]; exact hD
    exact W.iret (v := ((0 : Int32))) hx hb hr (fun t ht hW => ⟨⟨_, (), rfl, fun q => absurd (hk9.symm.trans q) (by decide), tk14, by rw [ht]; exact hPz, va_K.moved hW.alike hK, hDz⟩, hS.F ht⟩) hS.2.2 dX2_places_17
set_option maxHeartbeats 4000000 in
set_option maxRecDepth 100000 in
theorem c_X2_at (l : Launch) (D : va_G) (cI cJ cB : ClassId) (n0 bM sM zM tM xM kM wM eM : Nat) (S : hy_S) (th : Int32) (tk : Nat → Int64) (hwf : hy_wf S) (sz : Nat) (a1 a2 : Int32) : Met l yX2_at wsX2_at ({ frames := 1, cells := 0, slots := 0, locals := 22 }) (va_Pc [.ref n0, .int a1, .int a2] (hy_JM D cI cJ cB n0 bM sM zM tM xM kM wM eM S th tk sz)) (va_Ql (fun (r9 : Int64) (_ : Unit) => (hy_kat S a1 a2 = 0 → r9 = hy_at S a1 a2)) (fun _ => hy_AtM D cI cJ cB n0 bM sM zM tM xM kM wM eM (hy_if (hy_kat S a1 a2) S S) (hy_kat S a1 a2) (va_A (hy_M cI cJ n0 bM sM zM tM xM kM wM eM S th tk) sz)) (va_A (hy_M cI cJ n0 bM sM zM tM xM kM wM eM S th tk) sz)) 0 0 (va_A (hy_M cI cJ n0 bM sM zM tM xM kM wM eM S th tk) sz) := by
  refine Met.ofW (cc := cX2_at) (maxL := 3) (ret := (some .long)) (by decide) rfl ?_
  intro p e s m args below meth c s₁ B hml hv
  obtain ⟨rfl, hsz, ⟨hP, hK⟩, hD0⟩ := hv
  have hx := B.exec
  have hb := B.bytes
  have hr := B.returns
  have hts := atoms_spec (ws := wsX2_at) B.pre
  have hown : s.vm.findClass RX2 = some m.cls := findClass_of_methodNamed B.named
  have hlocks := B.notSynchronized
  subst hsz
  have hD := hD0.self (sz := s.heap.size)
  generalize hAe : va_A (hy_M cI cJ n0 bM sM zM tM xM kM wM eM S th tk) s.heap.size = A at hD ⊢
  have hA : ∀ q : Nat, s.heap.size ≤ q → A q := fun q h => by rw [← hAe]; exact Or.inr h
  have hS : va_S A s.heap s.heap [] := va_S.rf
  have hinX2 : ∀ w ∈ wsX20, w ∈ wsX2_at := by decide +kernel
  have hl := lv_entry ([.ref n0, .int a1, .int a2]) (n := 3) (Nat.le_of_ble_eq_true rfl)
  rw [lg_entry_eq]
  generalize (lg_sl ([.ref n0, .int a1, .int a2]) ++ List.replicate (3 - (lg_sl ([.ref n0, .int a1, .int a2])).length) Slot.unset).toArray = ls at hl ⊢
  have hl : lv_has ls 3 [(0, .ref n0), (1, .int a1), (2, .int a2)] := hl
  refine lv_aload_n hx hb dX2_at_0 rfl (lv_at hl 0 rfl) ?_
  refine lv_iconst (v := 0) hx hb dX2_at_1 (by decide) ?_
  refine va_put (D := D) (ci := 2) (v := .int 0) (ty := .int) (C := RX2) (T := TX2) (N := 14) hx hb hts hinX2 tyX2 tyX2_ok nmX2 hown hK hP hD hS 0 rfl rfl 0 (by decide) (hts (.fieldLink RX2 35 "HiveYardModel" "thrown" "I") (by decide +kernel)) (fun _ h9 => h9) rfl (by decide +kernel) rfl rfl (Nat.le_of_ble_eq_true rfl) dX2_at_2 (fun H locs hP hD hS => ?_)
  have hP : va_P D vwCl (hy_M cI cJ n0 bM sM zM tM xM kM wM eM S 0 tk) H := by rw [← hy_M_uth]; exact hP
  have hD : va_D A (hy_M cI cJ n0 bM sM zM tM xM kM wM eM S 0 tk) := by rw [← hy_M_uth]; exact hD
  refine lv_iload_n hx hb dX2_at_5 rfl (lv_at hl 1 rfl) ?_
  refine vp_callSi (W.runS (As := [.int a1]) (rest := []) ⟨hx, hb, hml, hown, hts⟩ (c_X2_isBox l a1) (va_cwS 1 hts gX2_at_X2_isBox rfl rfl rfl (by decide +kernel) ⟨Nat.le_of_ble_eq_true rfl, Nat.le_of_ble_eq_true rfl⟩) ⟨fun _ _ _ _ q => q, fun U hU hW => ⟨rfl, trivial⟩⟩ rfl rfl hl.1 rfl (lv_room (Nat.le_of_ble_eq_true rfl)) dX2_at_6 ⟨Nat.le_of_ble_eq_true rfl, Nat.le_of_ble_eq_true rfl⟩) (fun v9 e9 => ?_)
  subst e9
  refine lv_if_ne (tgt := 19) hx hb dX2_at_9 (by decide) (fun c_9 => ?_) (fun c_9 => ?_)
  · -- 19
    have ok9 : hy_ok a1 := hy_misbox_ok c_9
    refine lv_aload_n hx hb dX2_at_19 rfl (lv_at hl 0 rfl) ?_
    refine lv_iload_n hx hb dX2_at_20 rfl (lv_at hl 1 rfl) ?_
    refine vp_callSi (W.runV (As := [.int a1]) (rest := []) ⟨hx, hb, hml, hown, hts⟩ (c_X2_hasRow l D cI cJ cB n0 bM sM zM tM xM kM wM eM S 0 tk a1 ok9 (hy_bx S a1.toNatClampNeg) rfl hwf) (cwV 1 hts gX2_at_X2_hasRow rfl rfl rfl (by decide +kernel) ⟨Nat.le_of_ble_eq_true rfl, Nat.le_of_ble_eq_true rfl⟩) ⟨hy_J_blind, va_recv hK hP (ci := 2) (q0 := 0) rfl rfl, fun U hU hW => ⟨rfl, hy_J_at hU hW hP hK⟩⟩ rfl rfl hl.1 rfl (lv_room (Nat.le_of_ble_eq_true rfl)) dX2_at_21 ⟨Nat.le_of_ble_eq_true rfl, Nat.le_of_ble_eq_true rfl⟩) (fun v9 e9 => ?_)
    subst e9
    refine lv_if_ne (tgt := 34) hx hb dX2_at_24 (by decide) (fun c_24 => ?_) (fun c_24 => ?_)
    · -- 34
      have i24 : ¬ hy_isRow S (hy_bx S a1.toNatClampNeg) = 0 := by rw [hy_isRow_m hwf (hwf.2.2.1 _)]; exact c_24
      obtain ⟨r24, hb24⟩ := hy_mrow_some c_24
      have hl24 := hwf.2.2.1 _ _ hb24
      have h300 := hwf.1
      have h2424 := hwf.2.2.2.2.2.1 (r24 + 1)
      refine lv_aload_n hx hb dX2_at_34 rfl (lv_at hl 0 rfl) ?_
      refine lv_iload_n hx hb dX2_at_35 rfl (lv_at hl 1 rfl) ?_
      refine lv_iload_n hx hb dX2_at_36 rfl (lv_at hl 2 rfl) ?_
      refine vp_callSi (W.runV (As := [.int a1, .int a2]) (rest := []) ⟨hx, hb, hml, hown, hts⟩ (c_X2_isPlace l D cI cJ cB n0 bM sM zM tM xM kM wM eM S 0 tk a1 a2 ok9 r24 hb24 hwf) (cwV 2 hts gX2_at_X2_isPlace rfl rfl rfl (by decide +kernel) ⟨Nat.le_of_ble_eq_true rfl, Nat.le_of_ble_eq_true rfl⟩) ⟨hy_J_blind, va_recv hK hP (ci := 2) (q0 := 0) rfl rfl, fun U hU hW => ⟨rfl, hy_J_at hU hW hP hK⟩⟩ rfl rfl hl.1 rfl (lv_room (Nat.le_of_ble_eq_true rfl)) dX2_at_37 ⟨Nat.le_of_ble_eq_true rfl, Nat.le_of_ble_eq_true rfl⟩) (fun v9 e9 => ?_)
      subst e9
      refine lv_if_eq (tgt := 62) hx hb dX2_at_40 (by decide) (fun c_40 => ?_) (fun c_40 => ?_)
      · -- 62
        have p40 : ¬ hy_kpl S (hy_bx S a1.toNatClampNeg) a2 = 0 := by rw [hb24]; exact fun q => hy_kpl_m.mp q c_40
        refine lv_aload_n hx hb dX2_at_62 rfl (lv_at hl 0 rfl) ?_
        refine lv_iconst (v := 3) hx hb dX2_at_63 (by decide) ?_
        have hFc := hy_free hD hS hA
        refine va_calli (va_runV (As := [.int 3]) (rest := []) ⟨hx, hb, hml, hown, hts⟩ (c_X2_fail l D cI cJ cB n0 bM sM zM tM xM kM wM eM S 0 tk H.size 3) (cwV 1 hts gX2_at_X2_fail rfl rfl rfl (by decide +kernel) ⟨Nat.le_of_ble_eq_true rfl, Nat.le_of_ble_eq_true rfl⟩) ⟨hy_JM_blind, va_recv hK hP (ci := 2) (q0 := 0) rfl rfl, fun U hU hW => ⟨rfl, by rw [hU], hy_J_at hU hW hP hK, hD.weaken (fun _ _ _ _ => trivial)⟩⟩ rfl rfl hl.1 rfl (lv_room (Nat.le_of_ble_eq_true rfl)) dX2_at_64 ⟨Nat.le_of_ble_eq_true rfl, Nat.le_of_ble_eq_true rfl⟩) hS (fun q _ h => hFc q h) hFc (fun v9 u t H locs ht hvm hw hB hz1 hk1 hS => ?_)
        obtain ⟨tk64, hP1, hK1, hD1⟩ := hB
        rw [ht] at hP1
        have hP : va_P D vwCl (hy_M cI cJ n0 bM sM zM tM xM kM wM eM S 3 tk64) H := hP1
        have hD : va_D A (hy_M cI cJ n0 bM sM zM tM xM kM wM eM S 3 tk64) := hD1.weaken (fun _ q _ h => hFc q.1 h)
        clear hP1 hK1 hD1 hFc
        subst hw
        refine lv_i2l (v := ((0 : Int32)).toInt64) hx hb dX2_at_67 rfl ?_
        have hk9 : hy_kat S a1 a2 = 3 := by simp only [hy_kat, if_pos (hy_kbox0 ok9), if_neg i24, if_neg p40]
        have eS : (hy_M cI cJ n0 bM sM zM tM xM kM wM eM S 3 tk64) = (hy_M cI cJ n0 bM sM zM tM xM kM wM eM (hy_if (hy_kat S a1 a2) S S) (hy_kat S a1 a2) tk64) := by rw [hk9]; exact congrArg (fun s9 => hy_M cI cJ n0 bM sM zM tM xM kM wM eM s9 3 tk64) (hy_if_n (by decide) _ _).symm
        have hPz : va_P D vwCl (hy_M cI cJ n0 bM sM zM tM xM kM wM eM (hy_if (hy_kat S a1 a2) S S) (hy_kat S a1 a2) tk64) H := by rw [← eS]; exact hP
        have hDz : va_D A (hy_M cI cJ n0 bM sM zM tM xM kM wM eM (hy_if (hy_kat S a1 a2) S S) (hy_kat S a1 a2) tk64) := by rw [← eS]; exact hD
        exact W.lret (v := ((0 : Int32)).toInt64) hx hb hr (fun t ht hW => ⟨⟨_, (), rfl, fun q => absurd (hk9.symm.trans q) (by decide), tk64, by rw [ht]; exact hPz, va_K.moved hW.alike hK, hDz⟩, hS.F ht⟩) hS.2.2 dX2_at_68
      · -- 43
        have p40 : hy_kpl S (hy_bx S a1.toNatClampNeg) a2 = 0 := by rw [hb24]; exact hy_kpl_m.mpr c_40
        obtain ⟨k40, hk40, rfl⟩ := hy_mpl_some hwf c_40
        refine lv_aload_n hx hb dX2_at_43 rfl (lv_at hl 0 rfl) ?_
        refine va_get (D := D) (ci := 2) (v := .ref tM) (C := RX2) (T := TX2) (N := 14) hx hb hts hinX2 hown hK hP 0 rfl rfl 5 (by decide) (hts (.fieldLink RX2 19 "HiveYardModel" "stands" "[J") (by decide +kernel)) (fun _ h9 => h9) rfl dX2_at_44 ?_
        refine lv_bipush (v := 24) hx hb dX2_at_47 (by decide) ?_
        refine lv_aload_n hx hb dX2_at_49 rfl (lv_at hl 0 rfl) ?_
        refine va_get (D := D) (ci := 2) (v := .ref bM) (C := RX2) (T := TX2) (N := 14) hx hb hts hinX2 hown hK hP 0 rfl rfl 1 (by decide) (hts (.fieldLink RX2 7 "HiveYardModel" "boxes" "[I") (by decide +kernel)) (fun _ h9 => h9) rfl dX2_at_50 ?_
        refine lv_iload_n hx hb dX2_at_53 rfl (lv_at hl 1 rfl) ?_
        refine va_iald hx hb hK hP 1 0 rfl rfl (hy_ok_in ok9) dX2_at_54 ?_
        refine lv_topi (fun v9 e9 => ?_)
        obtain rfl : v9 = (nI r24) := e9.trans (by show hy_enc (hy_bx S a1.toNatClampNeg) = _; rw [hb24]; rfl)
        clear e9
        refine lv_imul hx hb dX2_at_55 ?_
        refine lv_topi (fun v9 e9 => ?_)
        obtain rfl : v9 = (nI (24 * r24)) := e9.trans (hy_24 _)
        clear e9
        refine lv_iload_n hx hb dX2_at_56 rfl (lv_at hl 2 rfl) ?_
        refine lv_iadd hx hb dX2_at_57 ?_
        refine lv_topi (fun v9 e9 => ?_)
        obtain rfl : v9 = (nI (24 * r24 + k40)) := e9.trans (nI_add _ _)
        clear e9
        refine va_lald hx hb hK hP 4 1 rfl rfl (vp_in_nI (by omega) (by omega)) dX2_at_58 ?_
        refine lv_topl (fun v9 e9 => ?_)
        obtain rfl : v9 = (hy_va S (r24 + 1) k40) := e9.trans (by rw [nI_clamp (by omega), hy_st_at (by omega)])
        clear e9
        refine lv_goto (tgt := 68) hx hb dX2_at_59 (by decide) ?_
        have hk9 : hy_kat S a1 (nI k40) = 0 := by simp only [hy_kat, if_pos (hy_kbox0 ok9), if_neg i24, if_pos p40]
        have eS : (hy_M cI cJ n0 bM sM zM tM xM kM wM eM S 0 tk) = (hy_M cI cJ n0 bM sM zM tM xM kM wM eM (hy_if (hy_kat S a1 (nI k40)) S S) (hy_kat S a1 (nI k40)) tk) := by rw [hk9]; exact congrArg (fun s9 => hy_M cI cJ n0 bM sM zM tM xM kM wM eM s9 0 tk) (Eq.trans (rfl : S = S) (hy_if_0 _ _).symm)
        have hPz : va_P D vwCl (hy_M cI cJ n0 bM sM zM tM xM kM wM eM (hy_if (hy_kat S a1 (nI k40)) S S) (hy_kat S a1 (nI k40)) tk) H := by rw [← eS]; exact hP
        have hDz : va_D A (hy_M cI cJ n0 bM sM zM tM xM kM wM eM (hy_if (hy_kat S a1 (nI k40)) S S) (hy_kat S a1 (nI k40)) tk) := by rw [← eS]; exact hD
        exact W.lret (v := (hy_va S (r24 + 1) k40)) hx hb hr (fun t ht hW => ⟨⟨_, (), rfl, fun _ => by rw [hy_at, hb24, nI_clamp (by omega)], tk, by rw [ht]; exact hPz, va_K.moved hW.alike hK, hDz⟩, hS.F ht⟩) hS.2.2 dX2_at_68
    · -- 27
      have i24 : hy_isRow S (hy_bx S a1.toNatClampNeg) = 0 := by rw [hy_isRow_m hwf (hwf.2.2.1 _)]; exact c_24
      refine lv_aload_n hx hb dX2_at_27 rfl (lv_at hl 0 rfl) ?_
      refine lv_iconst (v := 2) hx hb dX2_at_28 (by decide) ?_
      have hFc := hy_free hD hS hA
      refine va_calli (va_runV (As := [.int 2]) (rest := []) ⟨hx, hb, hml, hown, hts⟩ (c_X2_fail l D cI cJ cB n0 bM sM zM tM xM kM wM eM S 0 tk H.size 2) (cwV 1 hts gX2_at_X2_fail rfl rfl rfl (by decide +kernel) ⟨Nat.le_of_ble_eq_true rfl, Nat.le_of_ble_eq_true rfl⟩) ⟨hy_JM_blind, va_recv hK hP (ci := 2) (q0 := 0) rfl rfl, fun U hU hW => ⟨rfl, by rw [hU], hy_J_at hU hW hP hK, hD.weaken (fun _ _ _ _ => trivial)⟩⟩ rfl rfl hl.1 rfl (lv_room (Nat.le_of_ble_eq_true rfl)) dX2_at_29 ⟨Nat.le_of_ble_eq_true rfl, Nat.le_of_ble_eq_true rfl⟩) hS (fun q _ h => hFc q h) hFc (fun v9 u t H locs ht hvm hw hB hz1 hk1 hS => ?_)
      obtain ⟨tk29, hP1, hK1, hD1⟩ := hB
      rw [ht] at hP1
      have hP : va_P D vwCl (hy_M cI cJ n0 bM sM zM tM xM kM wM eM S 2 tk29) H := hP1
      have hD : va_D A (hy_M cI cJ n0 bM sM zM tM xM kM wM eM S 2 tk29) := hD1.weaken (fun _ q _ h => hFc q.1 h)
      clear hP1 hK1 hD1 hFc
      subst hw
      refine lv_i2l (v := ((0 : Int32)).toInt64) hx hb dX2_at_32 rfl ?_
      have hk9 : hy_kat S a1 a2 = 2 := by simp only [hy_kat, if_pos (hy_kbox0 ok9), if_pos i24]
      have eS : (hy_M cI cJ n0 bM sM zM tM xM kM wM eM S 2 tk29) = (hy_M cI cJ n0 bM sM zM tM xM kM wM eM (hy_if (hy_kat S a1 a2) S S) (hy_kat S a1 a2) tk29) := by rw [hk9]; exact congrArg (fun s9 => hy_M cI cJ n0 bM sM zM tM xM kM wM eM s9 2 tk29) (hy_if_n (by decide) _ _).symm
      have hPz : va_P D vwCl (hy_M cI cJ n0 bM sM zM tM xM kM wM eM (hy_if (hy_kat S a1 a2) S S) (hy_kat S a1 a2) tk29) H := by rw [← eS]; exact hP
      have hDz : va_D A (hy_M cI cJ n0 bM sM zM tM xM kM wM eM (hy_if (hy_kat S a1 a2) S S) (hy_kat S a1 a2) tk29) := by rw [← eS]; exact hD
      exact W.lret (v := ((0 : Int32)).toInt64) hx hb hr (fun t ht hW => ⟨⟨_, (), rfl, fun q => absurd (hk9.symm.trans q) (by decide), tk29, by rw [ht]; exact hPz, va_K.moved hW.alike hK, hDz⟩, hS.F ht⟩) hS.2.2 dX2_at_33
  · -- 12
    refine lv_aload_n hx hb dX2_at_12 rfl (lv_at hl 0 rfl) ?_
    refine lv_iconst (v := 1) hx hb dX2_at_13 (by decide) ?_
    have hFc := hy_free hD hS hA
    refine va_calli (va_runV (As := [.int 1]) (rest := []) ⟨hx, hb, hml, hown, hts⟩ (c_X2_fail l D cI cJ cB n0 bM sM zM tM xM kM wM eM S 0 tk H.size 1) (cwV 1 hts gX2_at_X2_fail rfl rfl rfl (by decide +kernel) ⟨Nat.le_of_ble_eq_true rfl, Nat.le_of_ble_eq_true rfl⟩) ⟨hy_JM_blind, va_recv hK hP (ci := 2) (q0 := 0) rfl rfl, fun U hU hW => ⟨rfl, by rw [hU], hy_J_at hU hW hP hK, hD.weaken (fun _ _ _ _ => trivial)⟩⟩ rfl rfl hl.1 rfl (lv_room (Nat.le_of_ble_eq_true rfl)) dX2_at_14 ⟨Nat.le_of_ble_eq_true rfl, Nat.le_of_ble_eq_true rfl⟩) hS (fun q _ h => hFc q h) hFc (fun v9 u t H locs ht hvm hw hB hz1 hk1 hS => ?_)
    obtain ⟨tk14, hP1, hK1, hD1⟩ := hB
    rw [ht] at hP1
    have hP : va_P D vwCl (hy_M cI cJ n0 bM sM zM tM xM kM wM eM S 1 tk14) H := hP1
    have hD : va_D A (hy_M cI cJ n0 bM sM zM tM xM kM wM eM S 1 tk14) := hD1.weaken (fun _ q _ h => hFc q.1 h)
    clear hP1 hK1 hD1 hFc
    subst hw
    refine lv_i2l (v := ((0 : Int32)).toInt64) hx hb dX2_at_17 rfl ?_
    have hk9 : hy_kat S a1 a2 = 1 := by simp only [hy_kat, if_neg (hy_kbox1 (hy_misbox_no c_9))]
    have eS : (hy_M cI cJ n0 bM sM zM tM xM kM wM eM S 1 tk14) = (hy_M cI cJ n0 bM sM zM tM xM kM wM eM (hy_if (hy_kat S a1 a2) S S) (hy_kat S a1 a2) tk14) := by rw [hk9]; exact congrArg (fun s9 => hy_M cI cJ n0 bM sM zM tM xM kM wM eM s9 1 tk14) (hy_if_n (by decide) _ _).symm
    have hPz : va_P D vwCl (hy_M cI cJ n0 bM sM zM tM xM kM wM eM (hy_if (hy_kat S a1 a2) S S) (hy_kat S a1 a2) tk14) H := by rw [← eS]; exact hP
    have hDz : va_D A (hy_M cI cJ n0 bM sM zM tM xM kM wM eM (hy_if (hy_kat S a1 a2) S S) (hy_kat S a1 a2) tk14) := by rw [← eS]; exact hD
    exact W.lret (v := ((0 : Int32)).toInt64) hx hb hr (fun t ht hW => ⟨⟨_, (), rfl, fun q => absurd (hk9.symm.trans q) (by decide), tk14, by rw [ht]; exact hPz, va_K.moved hW.alike hK, hDz⟩, hS.F ht⟩) hS.2.2 dX2_at_18
set_option maxHeartbeats 4000000 in
set_option maxRecDepth 100000 in
theorem c_X2_share (l : Launch) (D : va_G) (cI cJ cB : ClassId) (n0 bM sM zM tM xM kM wM eM : Nat) (S : hy_S) (th : Int32) (tk : Nat → Int64) (hwf : hy_wf S) (sz : Nat) (a1 a2 : Int32) : Met l yX2_share wsX2_share ({ frames := 1, cells := 0, slots := 0, locals := 22 }) (va_Pc [.ref n0, .int a1, .int a2] (hy_JM D cI cJ cB n0 bM sM zM tM xM kM wM eM S th tk sz)) (va_Qi (fun (r9 : Int32) (_ : Unit) => (hy_k2b a1 a2 = 0 → r9 = hy_vhold S a2)) (fun _ => hy_AtM D cI cJ cB n0 bM sM zM tM xM kM wM eM (hy_if (hy_k2b a1 a2) (hy_sshare S a1 a2) S) (hy_k2b a1 a2) (va_A (hy_M cI cJ n0 bM sM zM tM xM kM wM eM S th tk) sz)) (va_A (hy_M cI cJ n0 bM sM zM tM xM kM wM eM S th tk) sz)) 0 0 (va_A (hy_M cI cJ n0 bM sM zM tM xM kM wM eM S th tk) sz) := by
  refine Met.ofW (cc := cX2_share) (maxL := 3) (ret := (some .int)) (by decide) rfl ?_
  intro p e s m args below meth c s₁ B hml hv
  obtain ⟨rfl, hsz, ⟨hP, hK⟩, hD0⟩ := hv
  have hx := B.exec
  have hb := B.bytes
  have hr := B.returns
  have hts := atoms_spec (ws := wsX2_share) B.pre
  have hown : s.vm.findClass RX2 = some m.cls := findClass_of_methodNamed B.named
  have hlocks := B.notSynchronized
  subst hsz
  have hD := hD0.self (sz := s.heap.size)
  generalize hAe : va_A (hy_M cI cJ n0 bM sM zM tM xM kM wM eM S th tk) s.heap.size = A at hD ⊢
  have hA : ∀ q : Nat, s.heap.size ≤ q → A q := fun q h => by rw [← hAe]; exact Or.inr h
  have hS : va_S A s.heap s.heap [] := va_S.rf
  have hinX2 : ∀ w ∈ wsX20, w ∈ wsX2_share := by decide +kernel
  have hl := lv_entry ([.ref n0, .int a1, .int a2]) (n := 3) (Nat.le_of_ble_eq_true rfl)
  rw [lg_entry_eq]
  generalize (lg_sl ([.ref n0, .int a1, .int a2]) ++ List.replicate (3 - (lg_sl ([.ref n0, .int a1, .int a2])).length) Slot.unset).toArray = ls at hl ⊢
  have hl : lv_has ls 3 [(0, .ref n0), (1, .int a1), (2, .int a2)] := hl
  refine lv_aload_n hx hb dX2_share_0 rfl (lv_at hl 0 rfl) ?_
  refine lv_iconst (v := 0) hx hb dX2_share_1 (by decide) ?_
  refine va_put (D := D) (ci := 2) (v := .int 0) (ty := .int) (C := RX2) (T := TX2) (N := 14) hx hb hts hinX2 tyX2 tyX2_ok nmX2 hown hK hP hD hS 0 rfl rfl 0 (by decide) (hts (.fieldLink RX2 35 "HiveYardModel" "thrown" "I") (by decide +kernel)) (fun _ h9 => h9) rfl (by decide +kernel) rfl rfl (Nat.le_of_ble_eq_true rfl) dX2_share_2 (fun H locs hP hD hS => ?_)
  have hP : va_P D vwCl (hy_M cI cJ n0 bM sM zM tM xM kM wM eM S 0 tk) H := by rw [← hy_M_uth]; exact hP
  have hD : va_D A (hy_M cI cJ n0 bM sM zM tM xM kM wM eM S 0 tk) := by rw [← hy_M_uth]; exact hD
  refine lv_iload_n hx hb dX2_share_5 rfl (lv_at hl 1 rfl) ?_
  refine vp_callSi (W.runS (As := [.int a1]) (rest := []) ⟨hx, hb, hml, hown, hts⟩ (c_X2_isBox l a1) (va_cwS 1 hts gX2_share_X2_isBox rfl rfl rfl (by decide +kernel) ⟨Nat.le_of_ble_eq_true rfl, Nat.le_of_ble_eq_true rfl⟩) ⟨fun _ _ _ _ q => q, fun U hU hW => ⟨rfl, trivial⟩⟩ rfl rfl hl.1 rfl (lv_room (Nat.le_of_ble_eq_true rfl)) dX2_share_6 ⟨Nat.le_of_ble_eq_true rfl, Nat.le_of_ble_eq_true rfl⟩) (fun v9 e9 => ?_)
  subst e9
  refine lv_if_eq (tgt := 19) hx hb dX2_share_9 (by decide) (fun c_9 => ?_) (fun c_9 => ?_)
  · -- 19
    refine lv_aload_n hx hb dX2_share_19 rfl (lv_at hl 0 rfl) ?_
    refine lv_iconst (v := 1) hx hb dX2_share_20 (by decide) ?_
    have hFc := hy_free hD hS hA
    refine va_calli (va_runV (As := [.int 1]) (rest := []) ⟨hx, hb, hml, hown, hts⟩ (c_X2_fail l D cI cJ cB n0 bM sM zM tM xM kM wM eM S 0 tk H.size 1) (cwV 1 hts gX2_share_X2_fail rfl rfl rfl (by decide +kernel) ⟨Nat.le_of_ble_eq_true rfl, Nat.le_of_ble_eq_true rfl⟩) ⟨hy_JM_blind, va_recv hK hP (ci := 2) (q0 := 0) rfl rfl, fun U hU hW => ⟨rfl, by rw [hU], hy_J_at hU hW hP hK, hD.weaken (fun _ _ _ _ => trivial)⟩⟩ rfl rfl hl.1 rfl (lv_room (Nat.le_of_ble_eq_true rfl)) dX2_share_21 ⟨Nat.le_of_ble_eq_true rfl, Nat.le_of_ble_eq_true rfl⟩) hS (fun q _ h => hFc q h) hFc (fun v9 u t H locs ht hvm hw hB hz1 hk1 hS => ?_)
    obtain ⟨tk21, hP1, hK1, hD1⟩ := hB
    rw [ht] at hP1
    have hP : va_P D vwCl (hy_M cI cJ n0 bM sM zM tM xM kM wM eM S 1 tk21) H := hP1
    have hD : va_D A (hy_M cI cJ n0 bM sM zM tM xM kM wM eM S 1 tk21) := hD1.weaken (fun _ q _ h => hFc q.1 h)
    clear hP1 hK1 hD1 hFc
    subst hw
    have hk9 : hy_k2b a1 a2 = 1 := by simp only [hy_k2b, if_neg (hy_kbox1 (hy_misbox_no c_9))]
    have eS : (hy_M cI cJ n0 bM sM zM tM xM kM wM eM S 1 tk21) = (hy_M cI cJ n0 bM sM zM tM xM kM wM eM (hy_if (hy_k2b a1 a2) (hy_sshare S a1 a2) S) (hy_k2b a1 a2) tk21) := by rw [hk9]; exact congrArg (fun s9 => hy_M cI cJ n0 bM sM zM tM xM kM wM eM s9 1 tk21) (hy_if_n (by decide) _ _).symm
    have hPz : va_P D vwCl (hy_M cI cJ n0 bM sM zM tM xM kM wM eM (hy_if (hy_k2b a1 a2) (hy_sshare S a1 a2) S) (hy_k2b a1 a2) tk21) H := by rw [← eS]; exact hP
    have hDz : va_D A (hy_M cI cJ n0 bM sM zM tM xM kM wM eM (hy_if (hy_k2b a1 a2) (hy_sshare S a1 a2) S) (hy_k2b a1 a2) tk21) := by rw [← eS]; exact hD
    exact W.iret (v := ((0 : Int32))) hx hb hr (fun t ht hW => ⟨⟨_, (), rfl, fun q => absurd (hk9.symm.trans q) (by decide), tk21, by rw [ht]; exact hPz, va_K.moved hW.alike hK, hDz⟩, hS.F ht⟩) hS.2.2 dX2_share_24
  · -- 12
    have ok9 : hy_ok a1 := hy_misbox_ok c_9
    refine lv_iload_n hx hb dX2_share_12 rfl (lv_at hl 2 rfl) ?_
    refine vp_callSi (W.runS (As := [.int a2]) (rest := []) ⟨hx, hb, hml, hown, hts⟩ (c_X2_isBox l a2) (va_cwS 1 hts gX2_share_X2_isBox rfl rfl rfl (by decide +kernel) ⟨Nat.le_of_ble_eq_true rfl, Nat.le_of_ble_eq_true rfl⟩) ⟨fun _ _ _ _ q => q, fun U hU hW => ⟨rfl, trivial⟩⟩ rfl rfl hl.1 rfl (lv_room (Nat.le_of_ble_eq_true rfl)) dX2_share_13 ⟨Nat.le_of_ble_eq_true rfl, Nat.le_of_ble_eq_true rfl⟩) (fun v9 e9 => ?_)
    subst e9
    refine lv_if_ne (tgt := 25) hx hb dX2_share_16 (by decide) (fun c_16 => ?_) (fun c_16 => ?_)
    · -- 25
      have ok16 : hy_ok a2 := hy_misbox_ok c_16
      refine lv_aload_n hx hb dX2_share_25 rfl (lv_at hl 0 rfl) ?_
      refine va_get (D := D) (ci := 2) (v := .ref bM) (C := RX2) (T := TX2) (N := 14) hx hb hts hinX2 hown hK hP 0 rfl rfl 1 (by decide) (hts (.fieldLink RX2 7 "HiveYardModel" "boxes" "[I") (by decide +kernel)) (fun _ h9 => h9) rfl dX2_share_26 ?_
      refine lv_iload_n hx hb dX2_share_29 rfl (lv_at hl 1 rfl) ?_
      refine lv_aload_n hx hb dX2_share_30 rfl (lv_at hl 0 rfl) ?_
      refine va_get (D := D) (ci := 2) (v := .ref bM) (C := RX2) (T := TX2) (N := 14) hx hb hts hinX2 hown hK hP 0 rfl rfl 1 (by decide) (hts (.fieldLink RX2 7 "HiveYardModel" "boxes" "[I") (by decide +kernel)) (fun _ h9 => h9) rfl dX2_share_31 ?_
      refine lv_iload_n hx hb dX2_share_34 rfl (lv_at hl 2 rfl) ?_
      refine va_iald hx hb hK hP 1 0 rfl rfl (hy_ok_in ok16) dX2_share_35 ?_
      refine va_iast hx hb hK hP hD hS 1 0 rfl rfl (hy_ok_in ok9) dX2_share_36 (fun H locs hP hD hS => ?_)
      have hP : va_P D vwCl (hy_M cI cJ n0 bM sM zM tM xM kM wM eM (hy_ubx S (va_up (hy_bx S) a1.toNatClampNeg ((hy_bx S) a2.toNatClampNeg))) 0 tk) H := by rw [← hy_M_ubx a1.toNatClampNeg ((hy_bx S) a2.toNatClampNeg)]; exact hP
      have hD : va_D A (hy_M cI cJ n0 bM sM zM tM xM kM wM eM (hy_ubx S (va_up (hy_bx S) a1.toNatClampNeg ((hy_bx S) a2.toNatClampNeg))) 0 tk) := by rw [← hy_M_ubx a1.toNatClampNeg ((hy_bx S) a2.toNatClampNeg)]; exact hD
      refine lv_aload_n hx hb dX2_share_37 rfl (lv_at hl 0 rfl) ?_
      refine lv_iload_n hx hb dX2_share_38 rfl (lv_at hl 1 rfl) ?_
      refine vp_callSi (W.runV (As := [.int a1]) (rest := []) ⟨hx, hb, hml, hown, hts⟩ (c_X2_what l D cI cJ cB n0 bM sM zM tM xM kM wM eM (hy_ubx S (va_up (hy_bx S) a1.toNatClampNeg ((hy_bx S) a2.toNatClampNeg))) 0 tk a1 ok9 (hy_bx S a2.toNatClampNeg) (va_up_self _ _ _) (hy_wf_ubx hwf _ (hwf.2.2.1 _))) (cwV 1 hts gX2_share_X2_what rfl rfl rfl (by decide +kernel) ⟨Nat.le_of_ble_eq_true rfl, Nat.le_of_ble_eq_true rfl⟩) ⟨hy_J_blind, va_recv hK hP (ci := 2) (q0 := 0) rfl rfl, fun U hU hW => ⟨rfl, hy_J_at hU hW hP hK⟩⟩ rfl rfl hl.1 rfl (lv_room (Nat.le_of_ble_eq_true rfl)) dX2_share_39 ⟨Nat.le_of_ble_eq_true rfl, Nat.le_of_ble_eq_true rfl⟩) (fun v9 e9 => ?_)
      obtain rfl : v9 = hy_vhold S a2 := e9
      have hk9 : hy_k2b a1 a2 = 0 := by simp only [hy_k2b, if_pos (hy_kbox0 ok9), hy_kbox0 ok16]
      have eS : (hy_M cI cJ n0 bM sM zM tM xM kM wM eM (hy_ubx S (va_up (hy_bx S) a1.toNatClampNeg ((hy_bx S) a2.toNatClampNeg))) 0 tk) = (hy_M cI cJ n0 bM sM zM tM xM kM wM eM (hy_if (hy_k2b a1 a2) (hy_sshare S a1 a2) S) (hy_k2b a1 a2) tk) := by rw [hk9]; exact congrArg (fun s9 => hy_M cI cJ n0 bM sM zM tM xM kM wM eM s9 0 tk) (Eq.trans (by first | rfl | (simp only [hy_k2b, if_pos (hy_kbox0 ok9), hy_kbox0 ok16]; done) : (hy_ubx S (va_up (hy_bx S) a1.toNatClampNeg ((hy_bx S) a2.toNatClampNeg))) = (hy_sshare S a1 a2)) (hy_if_0 _ _).symm)
      have hPz : va_P D vwCl (hy_M cI cJ n0 bM sM zM tM xM kM wM eM (hy_if (hy_k2b a1 a2) (hy_sshare S a1 a2) S) (hy_k2b a1 a2) tk) H := by rw [← eS]; exact hP
      have hDz : va_D A (hy_M cI cJ n0 bM sM zM tM xM kM wM eM (hy_if (hy_k2b a1 a2) (hy_sshare S a1 a2) S) (hy_k2b a1 a2) tk) := by rw [← eS]; exact hD
      exact W.iret (v := (hy_vhold S a2)) hx hb hr (fun t ht hW => ⟨⟨_, (), rfl, fun _ => rfl, tk, by rw [ht]; exact hPz, va_K.moved hW.alike hK, hDz⟩, hS.F ht⟩) hS.2.2 dX2_share_42
    · -- 19
      refine lv_aload_n hx hb dX2_share_19 rfl (lv_at hl 0 rfl) ?_
      refine lv_iconst (v := 1) hx hb dX2_share_20 (by decide) ?_
      have hFc := hy_free hD hS hA
      refine va_calli (va_runV (As := [.int 1]) (rest := []) ⟨hx, hb, hml, hown, hts⟩ (c_X2_fail l D cI cJ cB n0 bM sM zM tM xM kM wM eM S 0 tk H.size 1) (cwV 1 hts gX2_share_X2_fail rfl rfl rfl (by decide +kernel) ⟨Nat.le_of_ble_eq_true rfl, Nat.le_of_ble_eq_true rfl⟩) ⟨hy_JM_blind, va_recv hK hP (ci := 2) (q0 := 0) rfl rfl, fun U hU hW => ⟨rfl, by rw [hU], hy_J_at hU hW hP hK, hD.weaken (fun _ _ _ _ => trivial)⟩⟩ rfl rfl hl.1 rfl (lv_room (Nat.le_of_ble_eq_true rfl)) dX2_share_21 ⟨Nat.le_of_ble_eq_true rfl, Nat.le_of_ble_eq_true rfl⟩) hS (fun q _ h => hFc q h) hFc (fun v9 u t H locs ht hvm hw hB hz1 hk1 hS => ?_)
      obtain ⟨tk21, hP1, hK1, hD1⟩ := hB
      rw [ht] at hP1
      have hP : va_P D vwCl (hy_M cI cJ n0 bM sM zM tM xM kM wM eM S 1 tk21) H := hP1
      have hD : va_D A (hy_M cI cJ n0 bM sM zM tM xM kM wM eM S 1 tk21) := hD1.weaken (fun _ q _ h => hFc q.1 h)
      clear hP1 hK1 hD1 hFc
      subst hw
      have hk9 : hy_k2b a1 a2 = 1 := by simp only [hy_k2b, if_pos (hy_kbox0 ok9), hy_kbox1e (hy_misbox_no c_16)]
      have eS : (hy_M cI cJ n0 bM sM zM tM xM kM wM eM S 1 tk21) = (hy_M cI cJ n0 bM sM zM tM xM kM wM eM (hy_if (hy_k2b a1 a2) (hy_sshare S a1 a2) S) (hy_k2b a1 a2) tk21) := by rw [hk9]; exact congrArg (fun s9 => hy_M cI cJ n0 bM sM zM tM xM kM wM eM s9 1 tk21) (hy_if_n (by decide) _ _).symm
      have hPz : va_P D vwCl (hy_M cI cJ n0 bM sM zM tM xM kM wM eM (hy_if (hy_k2b a1 a2) (hy_sshare S a1 a2) S) (hy_k2b a1 a2) tk21) H := by rw [← eS]; exact hP
      have hDz : va_D A (hy_M cI cJ n0 bM sM zM tM xM kM wM eM (hy_if (hy_k2b a1 a2) (hy_sshare S a1 a2) S) (hy_k2b a1 a2) tk21) := by rw [← eS]; exact hD
      exact W.iret (v := ((0 : Int32))) hx hb hr (fun t ht hW => ⟨⟨_, (), rfl, fun q => absurd (hk9.symm.trans q) (by decide), tk21, by rw [ht]; exact hPz, va_K.moved hW.alike hK, hDz⟩, hS.F ht⟩) hS.2.2 dX2_share_24
set_option maxHeartbeats 4000000 in
set_option maxRecDepth 100000 in
theorem c_X2_put (l : Launch) (D : va_G) (cI cJ cB : ClassId) (n0 bM sM zM tM xM kM wM eM : Nat) (S : hy_S) (th : Int32) (tk : Nat → Int64) (hwf : hy_wf S) (sz : Nat) (a1 a2 : Int32) (a3 : Int64) : Met l yX2_put wsX2_put ({ frames := 2, cells := 0, slots := 0, locals := 46 }) (va_Pc [.ref n0, .int a1, .int a2, .long a3] (hy_JM D cI cJ cB n0 bM sM zM tM xM kM wM eM S th tk sz)) (va_Ql (fun (r9 : Int64) (_ : Unit) => (hy_kput S a1 a2 = 0 → r9 = hy_at S a1 a2)) (fun _ => hy_AtM D cI cJ cB n0 bM sM zM tM xM kM wM eM (hy_if (hy_kput S a1 a2) (hy_sput S a1 a2 a3) S) (hy_kput S a1 a2) (va_A (hy_M cI cJ n0 bM sM zM tM xM kM wM eM S th tk) sz)) (va_A (hy_M cI cJ n0 bM sM zM tM xM kM wM eM S th tk) sz)) 0 0 (va_A (hy_M cI cJ n0 bM sM zM tM xM kM wM eM S th tk) sz) := by
  refine Met.ofW (cc := cX2_put) (maxL := 9) (ret := (some .long)) (by decide) rfl ?_
  intro p e s m args below meth c s₁ B hml hv
  obtain ⟨rfl, hsz, ⟨hP, hK⟩, hD0⟩ := hv
  have hx := B.exec
  have hb := B.bytes
  have hr := B.returns
  have hts := atoms_spec (ws := wsX2_put) B.pre
  have hown : s.vm.findClass RX2 = some m.cls := findClass_of_methodNamed B.named
  have hlocks := B.notSynchronized
  subst hsz
  have hD := hD0.self (sz := s.heap.size)
  generalize hAe : va_A (hy_M cI cJ n0 bM sM zM tM xM kM wM eM S th tk) s.heap.size = A at hD ⊢
  have hA : ∀ q : Nat, s.heap.size ≤ q → A q := fun q h => by rw [← hAe]; exact Or.inr h
  have hS : va_S A s.heap s.heap [] := va_S.rf
  have hinX2 : ∀ w ∈ wsX20, w ∈ wsX2_put := by decide +kernel
  have hl := lv_entry ([.ref n0, .int a1, .int a2, .long a3]) (n := 9) (Nat.le_of_ble_eq_true rfl)
  rw [lg_entry_eq]
  generalize (lg_sl ([.ref n0, .int a1, .int a2, .long a3]) ++ List.replicate (9 - (lg_sl ([.ref n0, .int a1, .int a2, .long a3])).length) Slot.unset).toArray = ls at hl ⊢
  have hl : lv_has ls 9 [(0, .ref n0), (1, .int a1), (2, .int a2), (3, .long a3)] := hl
  refine lv_aload_n hx hb dX2_put_0 rfl (lv_at hl 0 rfl) ?_
  refine lv_iconst (v := 0) hx hb dX2_put_1 (by decide) ?_
  refine va_put (D := D) (ci := 2) (v := .int 0) (ty := .int) (C := RX2) (T := TX2) (N := 14) hx hb hts hinX2 tyX2 tyX2_ok nmX2 hown hK hP hD hS 0 rfl rfl 0 (by decide) (hts (.fieldLink RX2 35 "HiveYardModel" "thrown" "I") (by decide +kernel)) (fun _ h9 => h9) rfl (by decide +kernel) rfl rfl (Nat.le_of_ble_eq_true rfl) dX2_put_2 (fun H locs hP hD hS => ?_)
  have hP : va_P D vwCl (hy_M cI cJ n0 bM sM zM tM xM kM wM eM S 0 tk) H := by rw [← hy_M_uth]; exact hP
  have hD : va_D A (hy_M cI cJ n0 bM sM zM tM xM kM wM eM S 0 tk) := by rw [← hy_M_uth]; exact hD
  refine lv_iload_n hx hb dX2_put_5 rfl (lv_at hl 1 rfl) ?_
  refine vp_callSi (W.runS (As := [.int a1]) (rest := []) ⟨hx, hb, hml, hown, hts⟩ (c_X2_isBox l a1) (va_cwS 1 hts gX2_put_X2_isBox rfl rfl rfl (by decide +kernel) ⟨Nat.le_of_ble_eq_true rfl, Nat.le_of_ble_eq_true rfl⟩) ⟨fun _ _ _ _ q => q, fun U hU hW => ⟨rfl, trivial⟩⟩ rfl rfl hl.1 rfl (lv_room (Nat.le_of_ble_eq_true rfl)) dX2_put_6 ⟨Nat.le_of_ble_eq_true rfl, Nat.le_of_ble_eq_true rfl⟩) (fun v9 e9 => ?_)
  subst e9
  refine lv_if_ne (tgt := 19) hx hb dX2_put_9 (by decide) (fun c_9 => ?_) (fun c_9 => ?_)
  · -- 19
    have ok9 : hy_ok a1 := hy_misbox_ok c_9
    refine lv_aload_n hx hb dX2_put_19 rfl (lv_at hl 0 rfl) ?_
    refine lv_iload_n hx hb dX2_put_20 rfl (lv_at hl 1 rfl) ?_
    refine lv_iload_n hx hb dX2_put_21 rfl (lv_at hl 2 rfl) ?_
    refine lv_iconst (v := 0) hx hb dX2_put_22 (by decide) ?_
    refine lv_iconst (v := 2) hx hb dX2_put_23 (by decide) ?_
    refine vp_callSi (W.runV (As := [.int a1, .int a2, .int 0, .int 2]) (rest := []) ⟨hx, hb, hml, hown, hts⟩ (c_X2_barred l D cI cJ cB n0 bM sM zM tM xM kM wM eM S 0 tk a1 a2 0 2 ok9 hwf) (cwV 4 hts gX2_put_X2_barred rfl rfl rfl (by decide +kernel) ⟨Nat.le_of_ble_eq_true rfl, Nat.le_of_ble_eq_true rfl⟩) ⟨hy_J_blind, va_recv hK hP (ci := 2) (q0 := 0) rfl rfl, fun U hU hW => ⟨rfl, hy_J_at hU hW hP hK⟩⟩ rfl rfl hl.1 rfl (lv_room (Nat.le_of_ble_eq_true rfl)) dX2_put_24 ⟨Nat.le_of_ble_eq_true rfl, Nat.le_of_ble_eq_true rfl⟩) (fun v9 e9 => ?_)
    subst e9
    refine lv_istore (lv' := [(5, .int (hy_mbar S (hy_bx S a1.toNatClampNeg) a2 0 2)), (0, .ref n0), (1, .int a1), (2, .int a2), (3, .long a3)]) hx hb dX2_put_27 hl (by decide) rfl (fun ls hl => ?_)
    refine lv_iload hx hb dX2_put_29 (lv_at hl 0 rfl) ?_
    refine lv_if_le (tgt := 42) hx hb dX2_put_31 (by decide) (fun c_31 => ?_) (fun c_31 => ?_)
    · -- 42
      obtain ⟨bar0, r, k, hbr, hco, rfl, hkl⟩ := hy_mbar0 hwf (by decide) (by decide) c_31
      have hrl := hwf.2.2.1 _ _ hbr
      have h300 := hwf.1
      have h24 := hwf.2.2.2.2.2.1 (r + 1)
      refine lv_bipush (v := 24) hx hb dX2_put_42 (by decide) ?_
      refine lv_aload_n hx hb dX2_put_44 rfl (lv_at hl 1 rfl) ?_
      refine va_get (D := D) (ci := 2) (v := .ref bM) (C := RX2) (T := TX2) (N := 14) hx hb hts hinX2 hown hK hP 0 rfl rfl 1 (by decide) (hts (.fieldLink RX2 7 "HiveYardModel" "boxes" "[I") (by decide +kernel)) (fun _ h9 => h9) rfl dX2_put_45 ?_
      refine lv_iload_n hx hb dX2_put_48 rfl (lv_at hl 2 rfl) ?_
      refine va_iald hx hb hK hP 1 0 rfl rfl (hy_ok_in ok9) dX2_put_49 ?_
      refine lv_topi (fun v9 e9 => ?_)
      obtain rfl : v9 = (nI r) := e9.trans (by show hy_enc (hy_bx S a1.toNatClampNeg) = _; rw [hbr]; rfl)
      clear e9
      refine lv_imul hx hb dX2_put_50 ?_
      refine lv_topi (fun v9 e9 => ?_)
      obtain rfl : v9 = (nI (24 * r)) := e9.trans (hy_24 _)
      clear e9
      refine lv_iload_n hx hb dX2_put_51 rfl (lv_at hl 3 rfl) ?_
      refine lv_iadd hx hb dX2_put_52 ?_
      refine lv_topi (fun v9 e9 => ?_)
      obtain rfl : v9 = (nI (24 * r + k)) := e9.trans (nI_add _ _)
      clear e9
      refine lv_istore (lv' := [(6, .int (nI (24 * r + k))), (5, .int (hy_mbar S (hy_bx S a1.toNatClampNeg) (nI k) 0 2)), (0, .ref n0), (1, .int a1), (2, .int (nI k)), (3, .long a3)]) hx hb dX2_put_53 hl (by decide) rfl (fun ls hl => ?_)
      refine lv_aload_n hx hb dX2_put_55 rfl (lv_at hl 2 rfl) ?_
      refine va_get (D := D) (ci := 2) (v := .ref tM) (C := RX2) (T := TX2) (N := 14) hx hb hts hinX2 hown hK hP 0 rfl rfl 5 (by decide) (hts (.fieldLink RX2 19 "HiveYardModel" "stands" "[J") (by decide +kernel)) (fun _ h9 => h9) rfl dX2_put_56 ?_
      refine lv_iload hx hb dX2_put_59 (lv_at hl 0 rfl) ?_
      refine va_lald hx hb hK hP 4 1 rfl rfl (vp_in_nI (by omega) (by omega)) dX2_put_61 ?_
      refine lv_topl (fun v9 e9 => ?_)
      obtain rfl : v9 = (hy_va S (r + 1) k) := e9.trans (by rw [nI_clamp (by omega), hy_st_at (by omega)])
      clear e9
      refine lv_lstore (lv' := [(7, .long (hy_va S (r + 1) k)), (6, .int (nI (24 * r + k))), (5, .int (hy_mbar S (hy_bx S a1.toNatClampNeg) (nI k) 0 2)), (0, .ref n0), (1, .int a1), (2, .int (nI k)), (3, .long a3)]) hx hb dX2_put_62 hl (by decide) rfl (fun ls hl => ?_)
      refine lv_aload_n hx hb dX2_put_64 rfl (lv_at hl 3 rfl) ?_
      refine va_get (D := D) (ci := 2) (v := .ref tM) (C := RX2) (T := TX2) (N := 14) hx hb hts hinX2 hown hK hP 0 rfl rfl 5 (by decide) (hts (.fieldLink RX2 19 "HiveYardModel" "stands" "[J") (by decide +kernel)) (fun _ h9 => h9) rfl dX2_put_65 ?_
      refine lv_iload hx hb dX2_put_68 (lv_at hl 1 rfl) ?_
      refine lv_aload_n hx hb dX2_put_70 rfl (lv_at hl 3 rfl) ?_
      refine lv_iload_n hx hb dX2_put_71 rfl (lv_at hl 4 rfl) ?_
      refine vp_callSi (W.runV (As := [.int a1]) (rest := [.int (nI (24 * r + k)), .ref tM]) ⟨hx, hb, hml, hown, hts⟩ (c_X2_what l D cI cJ cB n0 bM sM zM tM xM kM wM eM S 0 tk a1 ok9 (some (r + 1)) hbr hwf) (cwV 1 hts gX2_put_X2_what rfl rfl rfl (by decide +kernel) ⟨Nat.le_of_ble_eq_true rfl, Nat.le_of_ble_eq_true rfl⟩) ⟨hy_J_blind, va_recv hK hP (ci := 2) (q0 := 0) rfl rfl, fun U hU hW => ⟨rfl, hy_J_at hU hW hP hK⟩⟩ rfl rfl hl.1 rfl (lv_room (Nat.le_of_ble_eq_true rfl)) dX2_put_72 ⟨Nat.le_of_ble_eq_true rfl, Nat.le_of_ble_eq_true rfl⟩) (fun v9 e9 => ?_)
      subst e9
      refine lv_lload_n hx hb dX2_put_75 rfl (lv_at hl 6 rfl) ?_
      refine vp_callSl (W.runS (As := [.int (hy_sort S (some (r + 1))), .long a3]) (rest := [.int (nI (24 * r + k)), .ref tM]) ⟨hx, hb, hml, hown, hts⟩ (c_X2_cut l (hy_sort S (some (r + 1))) a3) (va_cwS 2 hts gX2_put_X2_cut rfl rfl rfl (by decide +kernel) ⟨Nat.le_of_ble_eq_true rfl, Nat.le_of_ble_eq_true rfl⟩) ⟨fun _ _ _ _ q => q, fun U hU hW => ⟨rfl, trivial⟩⟩ rfl rfl hl.1 rfl (lv_room (Nat.le_of_ble_eq_true rfl)) dX2_put_76 ⟨Nat.le_of_ble_eq_true rfl, Nat.le_of_ble_eq_true rfl⟩) (fun v9 e9 => ?_)
      subst e9
      refine va_last hx hb hK hP hD hS 4 1 rfl rfl (vp_in_nI (by omega) (by omega)) dX2_put_79 (fun H locs hP hD hS => ?_)
      rw [nI_clamp (n := 24 * r + k) (by omega)] at hP hD
      have hP : va_P D vwCl (hy_M cI cJ n0 bM sM zM tM xM kM wM eM (hy_uva S (r + 1) (vp_updL (hy_va S (r + 1)) k (hy_mcut (hy_sort S (some (r + 1))) a3))) 0 tk) H := by rw [← hy_M_uva (S := S) (r := r) (k := k) (by omega) (hy_mcut (hy_sort S (some (r + 1))) a3)]; exact hP
      have hD : va_D A (hy_M cI cJ n0 bM sM zM tM xM kM wM eM (hy_uva S (r + 1) (vp_updL (hy_va S (r + 1)) k (hy_mcut (hy_sort S (some (r + 1))) a3))) 0 tk) := by rw [← hy_M_uva (S := S) (r := r) (k := k) (by omega) (hy_mcut (hy_sort S (some (r + 1))) a3)]; exact hD
      refine lv_lload hx hb dX2_put_80 (lv_at hl 0 rfl) ?_
      have hk9 : hy_kput S a1 (nI k) = 0 := (hy_kput_m hwf ok9 _).trans bar0
      have eS : (hy_M cI cJ n0 bM sM zM tM xM kM wM eM (hy_uva S (r + 1) (vp_updL (hy_va S (r + 1)) k (hy_mcut (hy_sort S (some (r + 1))) a3))) 0 tk) = (hy_M cI cJ n0 bM sM zM tM xM kM wM eM (hy_if (hy_kput S a1 (nI k)) (hy_sput S a1 (nI k) a3) S) (hy_kput S a1 (nI k)) tk) := by rw [hk9]; exact congrArg (fun s9 => hy_M cI cJ n0 bM sM zM tM xM kM wM eM s9 0 tk) (Eq.trans (by rw [hy_sput, hbr]; show _ = hy_uva S (r + 1) (vp_updL (hy_va S (r + 1)) (nI k).toNatClampNeg (hy_low (hy_so S (r + 1)) a3)); rw [nI_clamp (by omega), hy_low_m hwf hrl hco]; rfl : (hy_uva S (r + 1) (vp_updL (hy_va S (r + 1)) k (hy_mcut (hy_sort S (some (r + 1))) a3))) = (hy_sput S a1 (nI k) a3)) (hy_if_0 _ _).symm)
      have hPz : va_P D vwCl (hy_M cI cJ n0 bM sM zM tM xM kM wM eM (hy_if (hy_kput S a1 (nI k)) (hy_sput S a1 (nI k) a3) S) (hy_kput S a1 (nI k)) tk) H := by rw [← eS]; exact hP
      have hDz : va_D A (hy_M cI cJ n0 bM sM zM tM xM kM wM eM (hy_if (hy_kput S a1 (nI k)) (hy_sput S a1 (nI k) a3) S) (hy_kput S a1 (nI k)) tk) := by rw [← eS]; exact hD
      exact W.lret (v := (hy_va S (r + 1) k)) hx hb hr (fun t ht hW => ⟨⟨_, (), rfl, fun _ => by rw [hy_at, hbr, nI_clamp (by omega)], tk, by rw [ht]; exact hPz, va_K.moved hW.alike hK, hDz⟩, hS.F ht⟩) hS.2.2 dX2_put_82
    · -- 34
      refine lv_aload_n hx hb dX2_put_34 rfl (lv_at hl 1 rfl) ?_
      refine lv_iload hx hb dX2_put_35 (lv_at hl 0 rfl) ?_
      have hFc := hy_free hD hS hA
      refine va_calli (va_runV (As := [.int (hy_mbar S (hy_bx S a1.toNatClampNeg) a2 0 2)]) (rest := []) ⟨hx, hb, hml, hown, hts⟩ (c_X2_fail l D cI cJ cB n0 bM sM zM tM xM kM wM eM S 0 tk H.size (hy_mbar S (hy_bx S a1.toNatClampNeg) a2 0 2)) (cwV 1 hts gX2_put_X2_fail rfl rfl rfl (by decide +kernel) ⟨Nat.le_of_ble_eq_true rfl, Nat.le_of_ble_eq_true rfl⟩) ⟨hy_JM_blind, va_recv hK hP (ci := 2) (q0 := 0) rfl rfl, fun U hU hW => ⟨rfl, by rw [hU], hy_J_at hU hW hP hK, hD.weaken (fun _ _ _ _ => trivial)⟩⟩ rfl rfl hl.1 rfl (lv_room (Nat.le_of_ble_eq_true rfl)) dX2_put_37 ⟨Nat.le_of_ble_eq_true rfl, Nat.le_of_ble_eq_true rfl⟩) hS (fun q _ h => hFc q h) hFc (fun v9 u t H locs ht hvm hw hB hz1 hk1 hS => ?_)
      obtain ⟨tk37, hP1, hK1, hD1⟩ := hB
      rw [ht] at hP1
      have hP : va_P D vwCl (hy_M cI cJ n0 bM sM zM tM xM kM wM eM S (hy_mbar S (hy_bx S a1.toNatClampNeg) a2 0 2) tk37) H := hP1
      have hD : va_D A (hy_M cI cJ n0 bM sM zM tM xM kM wM eM S (hy_mbar S (hy_bx S a1.toNatClampNeg) a2 0 2) tk37) := hD1.weaken (fun _ q _ h => hFc q.1 h)
      clear hP1 hK1 hD1 hFc
      subst hw
      refine lv_i2l (v := ((0 : Int32)).toInt64) hx hb dX2_put_40 rfl ?_
      have hk9 : hy_kput S a1 a2 = (hy_mbar S (hy_bx S a1.toNatClampNeg) a2 0 2) := hy_kput_m hwf ok9 a2
      have hn9 : ¬ (hy_mbar S (hy_bx S a1.toNatClampNeg) a2 0 2) = 0 := fun q => c_31 (by rw [q]; decide)
      have eS : (hy_M cI cJ n0 bM sM zM tM xM kM wM eM S (hy_mbar S (hy_bx S a1.toNatClampNeg) a2 0 2) tk37) = (hy_M cI cJ n0 bM sM zM tM xM kM wM eM (hy_if (hy_kput S a1 a2) (hy_sput S a1 a2 a3) S) (hy_kput S a1 a2) tk37) := by rw [hk9]; exact congrArg (fun s9 => hy_M cI cJ n0 bM sM zM tM xM kM wM eM s9 (hy_mbar S (hy_bx S a1.toNatClampNeg) a2 0 2) tk37) (hy_if_n hn9 _ _).symm
      have hPz : va_P D vwCl (hy_M cI cJ n0 bM sM zM tM xM kM wM eM (hy_if (hy_kput S a1 a2) (hy_sput S a1 a2 a3) S) (hy_kput S a1 a2) tk37) H := by rw [← eS]; exact hP
      have hDz : va_D A (hy_M cI cJ n0 bM sM zM tM xM kM wM eM (hy_if (hy_kput S a1 a2) (hy_sput S a1 a2 a3) S) (hy_kput S a1 a2) tk37) := by rw [← eS]; exact hD
      exact W.lret (v := ((0 : Int32)).toInt64) hx hb hr (fun t ht hW => ⟨⟨_, (), rfl, fun q => absurd (hk9.symm.trans q) hn9, tk37, by rw [ht]; exact hPz, va_K.moved hW.alike hK, hDz⟩, hS.F ht⟩) hS.2.2 dX2_put_41
  · -- 12
    refine lv_aload_n hx hb dX2_put_12 rfl (lv_at hl 0 rfl) ?_
    refine lv_iconst (v := 1) hx hb dX2_put_13 (by decide) ?_
    have hFc := hy_free hD hS hA
    refine va_calli (va_runV (As := [.int 1]) (rest := []) ⟨hx, hb, hml, hown, hts⟩ (c_X2_fail l D cI cJ cB n0 bM sM zM tM xM kM wM eM S 0 tk H.size 1) (cwV 1 hts gX2_put_X2_fail rfl rfl rfl (by decide +kernel) ⟨Nat.le_of_ble_eq_true rfl, Nat.le_of_ble_eq_true rfl⟩) ⟨hy_JM_blind, va_recv hK hP (ci := 2) (q0 := 0) rfl rfl, fun U hU hW => ⟨rfl, by rw [hU], hy_J_at hU hW hP hK, hD.weaken (fun _ _ _ _ => trivial)⟩⟩ rfl rfl hl.1 rfl (lv_room (Nat.le_of_ble_eq_true rfl)) dX2_put_14 ⟨Nat.le_of_ble_eq_true rfl, Nat.le_of_ble_eq_true rfl⟩) hS (fun q _ h => hFc q h) hFc (fun v9 u t H locs ht hvm hw hB hz1 hk1 hS => ?_)
    obtain ⟨tk14, hP1, hK1, hD1⟩ := hB
    rw [ht] at hP1
    have hP : va_P D vwCl (hy_M cI cJ n0 bM sM zM tM xM kM wM eM S 1 tk14) H := hP1
    have hD : va_D A (hy_M cI cJ n0 bM sM zM tM xM kM wM eM S 1 tk14) := hD1.weaken (fun _ q _ h => hFc q.1 h)
    clear hP1 hK1 hD1 hFc
    subst hw
    refine lv_i2l (v := ((0 : Int32)).toInt64) hx hb dX2_put_17 rfl ?_
    have hk9 : hy_kput S a1 a2 = 1 := by simp only [hy_kput, if_neg (hy_kbox1 (hy_misbox_no c_9))]
    have eS : (hy_M cI cJ n0 bM sM zM tM xM kM wM eM S 1 tk14) = (hy_M cI cJ n0 bM sM zM tM xM kM wM eM (hy_if (hy_kput S a1 a2) (hy_sput S a1 a2 a3) S) (hy_kput S a1 a2) tk14) := by rw [hk9]; exact congrArg (fun s9 => hy_M cI cJ n0 bM sM zM tM xM kM wM eM s9 1 tk14) (hy_if_n (by decide) _ _).symm
    have hPz : va_P D vwCl (hy_M cI cJ n0 bM sM zM tM xM kM wM eM (hy_if (hy_kput S a1 a2) (hy_sput S a1 a2 a3) S) (hy_kput S a1 a2) tk14) H := by rw [← eS]; exact hP
    have hDz : va_D A (hy_M cI cJ n0 bM sM zM tM xM kM wM eM (hy_if (hy_kput S a1 a2) (hy_sput S a1 a2 a3) S) (hy_kput S a1 a2) tk14) := by rw [← eS]; exact hD
    exact W.lret (v := ((0 : Int32)).toInt64) hx hb hr (fun t ht hW => ⟨⟨_, (), rfl, fun q => absurd (hk9.symm.trans q) (by decide), tk14, by rw [ht]; exact hPz, va_K.moved hW.alike hK, hDz⟩, hS.F ht⟩) hS.2.2 dX2_put_18
set_option maxHeartbeats 4000000 in
set_option maxRecDepth 100000 in
theorem c_X2_lift (l : Launch) (D : va_G) (cI cJ cB : ClassId) (n0 bM sM zM tM xM kM wM eM : Nat) (S : hy_S) (th : Int32) (tk : Nat → Int64) (hwf : hy_wf S) (sz : Nat) (a1 a2 : Int32) : Met l yX2_lift wsX2_lift ({ frames := 2, cells := 0, slots := 0, locals := 46 }) (va_Pc [.ref n0, .int a1, .int a2] (hy_JM D cI cJ cB n0 bM sM zM tM xM kM wM eM S th tk sz)) (va_Qi (fun (r9 : Int32) (_ : Unit) => (hy_klift S a1 a2 = 0 → r9 = (hy_at S a1 a2).toInt32)) (fun _ => hy_AtM D cI cJ cB n0 bM sM zM tM xM kM wM eM (hy_if (hy_klift S a1 a2) (hy_slift S a1 a2) S) (hy_klift S a1 a2) (va_A (hy_M cI cJ n0 bM sM zM tM xM kM wM eM S th tk) sz)) (va_A (hy_M cI cJ n0 bM sM zM tM xM kM wM eM S th tk) sz)) 0 0 (va_A (hy_M cI cJ n0 bM sM zM tM xM kM wM eM S th tk) sz) := by
  refine Met.ofW (cc := cX2_lift) (maxL := 6) (ret := (some .int)) (by decide) rfl ?_
  intro p e s m args below meth c s₁ B hml hv
  obtain ⟨rfl, hsz, ⟨hP, hK⟩, hD0⟩ := hv
  have hx := B.exec
  have hb := B.bytes
  have hr := B.returns
  have hts := atoms_spec (ws := wsX2_lift) B.pre
  have hown : s.vm.findClass RX2 = some m.cls := findClass_of_methodNamed B.named
  have hlocks := B.notSynchronized
  subst hsz
  have hD := hD0.self (sz := s.heap.size)
  generalize hAe : va_A (hy_M cI cJ n0 bM sM zM tM xM kM wM eM S th tk) s.heap.size = A at hD ⊢
  have hA : ∀ q : Nat, s.heap.size ≤ q → A q := fun q h => by rw [← hAe]; exact Or.inr h
  have hS : va_S A s.heap s.heap [] := va_S.rf
  have hinX2 : ∀ w ∈ wsX20, w ∈ wsX2_lift := by decide +kernel
  have hl := lv_entry ([.ref n0, .int a1, .int a2]) (n := 6) (Nat.le_of_ble_eq_true rfl)
  rw [lg_entry_eq]
  generalize (lg_sl ([.ref n0, .int a1, .int a2]) ++ List.replicate (6 - (lg_sl ([.ref n0, .int a1, .int a2])).length) Slot.unset).toArray = ls at hl ⊢
  have hl : lv_has ls 6 [(0, .ref n0), (1, .int a1), (2, .int a2)] := hl
  refine lv_aload_n hx hb dX2_lift_0 rfl (lv_at hl 0 rfl) ?_
  refine lv_iconst (v := 0) hx hb dX2_lift_1 (by decide) ?_
  refine va_put (D := D) (ci := 2) (v := .int 0) (ty := .int) (C := RX2) (T := TX2) (N := 14) hx hb hts hinX2 tyX2 tyX2_ok nmX2 hown hK hP hD hS 0 rfl rfl 0 (by decide) (hts (.fieldLink RX2 35 "HiveYardModel" "thrown" "I") (by decide +kernel)) (fun _ h9 => h9) rfl (by decide +kernel) rfl rfl (Nat.le_of_ble_eq_true rfl) dX2_lift_2 (fun H locs hP hD hS => ?_)
  have hP : va_P D vwCl (hy_M cI cJ n0 bM sM zM tM xM kM wM eM S 0 tk) H := by rw [← hy_M_uth]; exact hP
  have hD : va_D A (hy_M cI cJ n0 bM sM zM tM xM kM wM eM S 0 tk) := by rw [← hy_M_uth]; exact hD
  refine lv_iload_n hx hb dX2_lift_5 rfl (lv_at hl 1 rfl) ?_
  refine vp_callSi (W.runS (As := [.int a1]) (rest := []) ⟨hx, hb, hml, hown, hts⟩ (c_X2_isBox l a1) (va_cwS 1 hts gX2_lift_X2_isBox rfl rfl rfl (by decide +kernel) ⟨Nat.le_of_ble_eq_true rfl, Nat.le_of_ble_eq_true rfl⟩) ⟨fun _ _ _ _ q => q, fun U hU hW => ⟨rfl, trivial⟩⟩ rfl rfl hl.1 rfl (lv_room (Nat.le_of_ble_eq_true rfl)) dX2_lift_6 ⟨Nat.le_of_ble_eq_true rfl, Nat.le_of_ble_eq_true rfl⟩) (fun v9 e9 => ?_)
  subst e9
  refine lv_if_ne (tgt := 18) hx hb dX2_lift_9 (by decide) (fun c_9 => ?_) (fun c_9 => ?_)
  · -- 18
    have ok9 : hy_ok a1 := hy_misbox_ok c_9
    refine lv_aload_n hx hb dX2_lift_18 rfl (lv_at hl 0 rfl) ?_
    refine lv_iload_n hx hb dX2_lift_19 rfl (lv_at hl 1 rfl) ?_
    refine lv_iload_n hx hb dX2_lift_20 rfl (lv_at hl 2 rfl) ?_
    refine lv_iconst (v := 1) hx hb dX2_lift_21 (by decide) ?_
    refine lv_iconst (v := 2) hx hb dX2_lift_22 (by decide) ?_
    refine vp_callSi (W.runV (As := [.int a1, .int a2, .int 1, .int 2]) (rest := []) ⟨hx, hb, hml, hown, hts⟩ (c_X2_barred l D cI cJ cB n0 bM sM zM tM xM kM wM eM S 0 tk a1 a2 1 2 ok9 hwf) (cwV 4 hts gX2_lift_X2_barred rfl rfl rfl (by decide +kernel) ⟨Nat.le_of_ble_eq_true rfl, Nat.le_of_ble_eq_true rfl⟩) ⟨hy_J_blind, va_recv hK hP (ci := 2) (q0 := 0) rfl rfl, fun U hU hW => ⟨rfl, hy_J_at hU hW hP hK⟩⟩ rfl rfl hl.1 rfl (lv_room (Nat.le_of_ble_eq_true rfl)) dX2_lift_23 ⟨Nat.le_of_ble_eq_true rfl, Nat.le_of_ble_eq_true rfl⟩) (fun v9 e9 => ?_)
    subst e9
    refine lv_istore_n (lv' := [(3, .int (hy_mbar S (hy_bx S a1.toNatClampNeg) a2 1 2)), (0, .ref n0), (1, .int a1), (2, .int a2)]) hx hb dX2_lift_26 rfl hl (by decide) rfl (fun ls hl => ?_)
    refine lv_iload_n hx hb dX2_lift_27 rfl (lv_at hl 0 rfl) ?_
    refine lv_if_le (tgt := 37) hx hb dX2_lift_28 (by decide) (fun c_28 => ?_) (fun c_28 => ?_)
    · -- 37
      obtain ⟨bar0, r, k, hbr, hco, rfl, hkl⟩ := hy_mbar0 hwf (by decide) (by decide) c_28
      have hrl := hwf.2.2.1 _ _ hbr
      have h300 := hwf.1
      have h24 := hwf.2.2.2.2.2.1 (r + 1)
      refine lv_bipush (v := 24) hx hb dX2_lift_37 (by decide) ?_
      refine lv_aload_n hx hb dX2_lift_39 rfl (lv_at hl 1 rfl) ?_
      refine va_get (D := D) (ci := 2) (v := .ref bM) (C := RX2) (T := TX2) (N := 14) hx hb hts hinX2 hown hK hP 0 rfl rfl 1 (by decide) (hts (.fieldLink RX2 7 "HiveYardModel" "boxes" "[I") (by decide +kernel)) (fun _ h9 => h9) rfl dX2_lift_40 ?_
      refine lv_iload_n hx hb dX2_lift_43 rfl (lv_at hl 2 rfl) ?_
      refine va_iald hx hb hK hP 1 0 rfl rfl (hy_ok_in ok9) dX2_lift_44 ?_
      refine lv_topi (fun v9 e9 => ?_)
      obtain rfl : v9 = (nI r) := e9.trans (by show hy_enc (hy_bx S a1.toNatClampNeg) = _; rw [hbr]; rfl)
      clear e9
      refine lv_imul hx hb dX2_lift_45 ?_
      refine lv_topi (fun v9 e9 => ?_)
      obtain rfl : v9 = (nI (24 * r)) := e9.trans (hy_24 _)
      clear e9
      refine lv_iload_n hx hb dX2_lift_46 rfl (lv_at hl 3 rfl) ?_
      refine lv_iadd hx hb dX2_lift_47 ?_
      refine lv_topi (fun v9 e9 => ?_)
      obtain rfl : v9 = (nI (24 * r + k)) := e9.trans (nI_add _ _)
      clear e9
      refine lv_istore (lv' := [(4, .int (nI (24 * r + k))), (3, .int (hy_mbar S (hy_bx S a1.toNatClampNeg) (nI k) 1 2)), (0, .ref n0), (1, .int a1), (2, .int (nI k))]) hx hb dX2_lift_48 hl (by decide) rfl (fun ls hl => ?_)
      refine lv_aload_n hx hb dX2_lift_50 rfl (lv_at hl 2 rfl) ?_
      refine va_get (D := D) (ci := 2) (v := .ref tM) (C := RX2) (T := TX2) (N := 14) hx hb hts hinX2 hown hK hP 0 rfl rfl 5 (by decide) (hts (.fieldLink RX2 19 "HiveYardModel" "stands" "[J") (by decide +kernel)) (fun _ h9 => h9) rfl dX2_lift_51 ?_
      refine lv_iload hx hb dX2_lift_54 (lv_at hl 0 rfl) ?_
      refine va_lald hx hb hK hP 4 1 rfl rfl (vp_in_nI (by omega) (by omega)) dX2_lift_56 ?_
      refine lv_topl (fun v9 e9 => ?_)
      obtain rfl : v9 = (hy_va S (r + 1) k) := e9.trans (by rw [nI_clamp (by omega), hy_st_at (by omega)])
      clear e9
      refine lv_l2i (v := (hy_va S (r + 1) k).toInt32) hx hb dX2_lift_57 rfl ?_
      refine lv_istore (lv' := [(5, .int (hy_va S (r + 1) k).toInt32), (4, .int (nI (24 * r + k))), (3, .int (hy_mbar S (hy_bx S a1.toNatClampNeg) (nI k) 1 2)), (0, .ref n0), (1, .int a1), (2, .int (nI k))]) hx hb dX2_lift_58 hl (by decide) rfl (fun ls hl => ?_)
      refine lv_aload_n hx hb dX2_lift_60 rfl (lv_at hl 3 rfl) ?_
      refine va_get (D := D) (ci := 2) (v := .ref tM) (C := RX2) (T := TX2) (N := 14) hx hb hts hinX2 hown hK hP 0 rfl rfl 5 (by decide) (hts (.fieldLink RX2 19 "HiveYardModel" "stands" "[J") (by decide +kernel)) (fun _ h9 => h9) rfl dX2_lift_61 ?_
      refine lv_iload hx hb dX2_lift_64 (lv_at hl 1 rfl) ?_
      refine lv_ldc2 (v := (-1)) hx hb hown (hts (.constantLong RX2 53 (-1)) (by decide +kernel)) dX2_lift_66 ?_
      refine va_last hx hb hK hP hD hS 4 1 rfl rfl (vp_in_nI (by omega) (by omega)) dX2_lift_69 (fun H locs hP hD hS => ?_)
      rw [nI_clamp (n := 24 * r + k) (by omega)] at hP hD
      have hP : va_P D vwCl (hy_M cI cJ n0 bM sM zM tM xM kM wM eM (hy_uva S (r + 1) (vp_updL (hy_va S (r + 1)) k (-1))) 0 tk) H := by rw [← hy_M_uva (S := S) (r := r) (k := k) (by omega) (-1)]; exact hP
      have hD : va_D A (hy_M cI cJ n0 bM sM zM tM xM kM wM eM (hy_uva S (r + 1) (vp_updL (hy_va S (r + 1)) k (-1))) 0 tk) := by rw [← hy_M_uva (S := S) (r := r) (k := k) (by omega) (-1)]; exact hD
      refine lv_iload hx hb dX2_lift_70 (lv_at hl 0 rfl) ?_
      have hk9 : hy_klift S a1 (nI k) = 0 := (hy_klift_m hwf ok9 _).trans bar0
      have eS : (hy_M cI cJ n0 bM sM zM tM xM kM wM eM (hy_uva S (r + 1) (vp_updL (hy_va S (r + 1)) k (-1))) 0 tk) = (hy_M cI cJ n0 bM sM zM tM xM kM wM eM (hy_if (hy_klift S a1 (nI k)) (hy_slift S a1 (nI k)) S) (hy_klift S a1 (nI k)) tk) := by rw [hk9]; exact congrArg (fun s9 => hy_M cI cJ n0 bM sM zM tM xM kM wM eM s9 0 tk) (Eq.trans (by rw [hy_slift, hbr, nI_clamp (by omega)] : (hy_uva S (r + 1) (vp_updL (hy_va S (r + 1)) k (-1))) = (hy_slift S a1 (nI k))) (hy_if_0 _ _).symm)
      have hPz : va_P D vwCl (hy_M cI cJ n0 bM sM zM tM xM kM wM eM (hy_if (hy_klift S a1 (nI k)) (hy_slift S a1 (nI k)) S) (hy_klift S a1 (nI k)) tk) H := by rw [← eS]; exact hP
      have hDz : va_D A (hy_M cI cJ n0 bM sM zM tM xM kM wM eM (hy_if (hy_klift S a1 (nI k)) (hy_slift S a1 (nI k)) S) (hy_klift S a1 (nI k)) tk) := by rw [← eS]; exact hD
      exact W.iret (v := (hy_va S (r + 1) k).toInt32) hx hb hr (fun t ht hW => ⟨⟨_, (), rfl, fun _ => by rw [hy_at, hbr, nI_clamp (by omega)], tk, by rw [ht]; exact hPz, va_K.moved hW.alike hK, hDz⟩, hS.F ht⟩) hS.2.2 dX2_lift_72
    · -- 31
      refine lv_aload_n hx hb dX2_lift_31 rfl (lv_at hl 1 rfl) ?_
      refine lv_iload_n hx hb dX2_lift_32 rfl (lv_at hl 0 rfl) ?_
      have hFc := hy_free hD hS hA
      refine va_calli (va_runV (As := [.int (hy_mbar S (hy_bx S a1.toNatClampNeg) a2 1 2)]) (rest := []) ⟨hx, hb, hml, hown, hts⟩ (c_X2_fail l D cI cJ cB n0 bM sM zM tM xM kM wM eM S 0 tk H.size (hy_mbar S (hy_bx S a1.toNatClampNeg) a2 1 2)) (cwV 1 hts gX2_lift_X2_fail rfl rfl rfl (by decide +kernel) ⟨Nat.le_of_ble_eq_true rfl, Nat.le_of_ble_eq_true rfl⟩) ⟨hy_JM_blind, va_recv hK hP (ci := 2) (q0 := 0) rfl rfl, fun U hU hW => ⟨rfl, by rw [hU], hy_J_at hU hW hP hK, hD.weaken (fun _ _ _ _ => trivial)⟩⟩ rfl rfl hl.1 rfl (lv_room (Nat.le_of_ble_eq_true rfl)) dX2_lift_33 ⟨Nat.le_of_ble_eq_true rfl, Nat.le_of_ble_eq_true rfl⟩) hS (fun q _ h => hFc q h) hFc (fun v9 u t H locs ht hvm hw hB hz1 hk1 hS => ?_)
      obtain ⟨tk33, hP1, hK1, hD1⟩ := hB
      rw [ht] at hP1
      have hP : va_P D vwCl (hy_M cI cJ n0 bM sM zM tM xM kM wM eM S (hy_mbar S (hy_bx S a1.toNatClampNeg) a2 1 2) tk33) H := hP1
      have hD : va_D A (hy_M cI cJ n0 bM sM zM tM xM kM wM eM S (hy_mbar S (hy_bx S a1.toNatClampNeg) a2 1 2) tk33) := hD1.weaken (fun _ q _ h => hFc q.1 h)
      clear hP1 hK1 hD1 hFc
      subst hw
      have hk9 : hy_klift S a1 a2 = (hy_mbar S (hy_bx S a1.toNatClampNeg) a2 1 2) := hy_klift_m hwf ok9 a2
      have hn9 : ¬ (hy_mbar S (hy_bx S a1.toNatClampNeg) a2 1 2) = 0 := fun q => c_28 (by rw [q]; decide)
      have eS : (hy_M cI cJ n0 bM sM zM tM xM kM wM eM S (hy_mbar S (hy_bx S a1.toNatClampNeg) a2 1 2) tk33) = (hy_M cI cJ n0 bM sM zM tM xM kM wM eM (hy_if (hy_klift S a1 a2) (hy_slift S a1 a2) S) (hy_klift S a1 a2) tk33) := by rw [hk9]; exact congrArg (fun s9 => hy_M cI cJ n0 bM sM zM tM xM kM wM eM s9 (hy_mbar S (hy_bx S a1.toNatClampNeg) a2 1 2) tk33) (hy_if_n hn9 _ _).symm
      have hPz : va_P D vwCl (hy_M cI cJ n0 bM sM zM tM xM kM wM eM (hy_if (hy_klift S a1 a2) (hy_slift S a1 a2) S) (hy_klift S a1 a2) tk33) H := by rw [← eS]; exact hP
      have hDz : va_D A (hy_M cI cJ n0 bM sM zM tM xM kM wM eM (hy_if (hy_klift S a1 a2) (hy_slift S a1 a2) S) (hy_klift S a1 a2) tk33) := by rw [← eS]; exact hD
      exact W.iret (v := ((0 : Int32))) hx hb hr (fun t ht hW => ⟨⟨_, (), rfl, fun q => absurd (hk9.symm.trans q) hn9, tk33, by rw [ht]; exact hPz, va_K.moved hW.alike hK, hDz⟩, hS.F ht⟩) hS.2.2 dX2_lift_36
  · -- 12
    refine lv_aload_n hx hb dX2_lift_12 rfl (lv_at hl 0 rfl) ?_
    refine lv_iconst (v := 1) hx hb dX2_lift_13 (by decide) ?_
    have hFc := hy_free hD hS hA
    refine va_calli (va_runV (As := [.int 1]) (rest := []) ⟨hx, hb, hml, hown, hts⟩ (c_X2_fail l D cI cJ cB n0 bM sM zM tM xM kM wM eM S 0 tk H.size 1) (cwV 1 hts gX2_lift_X2_fail rfl rfl rfl (by decide +kernel) ⟨Nat.le_of_ble_eq_true rfl, Nat.le_of_ble_eq_true rfl⟩) ⟨hy_JM_blind, va_recv hK hP (ci := 2) (q0 := 0) rfl rfl, fun U hU hW => ⟨rfl, by rw [hU], hy_J_at hU hW hP hK, hD.weaken (fun _ _ _ _ => trivial)⟩⟩ rfl rfl hl.1 rfl (lv_room (Nat.le_of_ble_eq_true rfl)) dX2_lift_14 ⟨Nat.le_of_ble_eq_true rfl, Nat.le_of_ble_eq_true rfl⟩) hS (fun q _ h => hFc q h) hFc (fun v9 u t H locs ht hvm hw hB hz1 hk1 hS => ?_)
    obtain ⟨tk14, hP1, hK1, hD1⟩ := hB
    rw [ht] at hP1
    have hP : va_P D vwCl (hy_M cI cJ n0 bM sM zM tM xM kM wM eM S 1 tk14) H := hP1
    have hD : va_D A (hy_M cI cJ n0 bM sM zM tM xM kM wM eM S 1 tk14) := hD1.weaken (fun _ q _ h => hFc q.1 h)
    clear hP1 hK1 hD1 hFc
    subst hw
    have hk9 : hy_klift S a1 a2 = 1 := by simp only [hy_klift, if_neg (hy_kbox1 (hy_misbox_no c_9))]
    have eS : (hy_M cI cJ n0 bM sM zM tM xM kM wM eM S 1 tk14) = (hy_M cI cJ n0 bM sM zM tM xM kM wM eM (hy_if (hy_klift S a1 a2) (hy_slift S a1 a2) S) (hy_klift S a1 a2) tk14) := by rw [hk9]; exact congrArg (fun s9 => hy_M cI cJ n0 bM sM zM tM xM kM wM eM s9 1 tk14) (hy_if_n (by decide) _ _).symm
    have hPz : va_P D vwCl (hy_M cI cJ n0 bM sM zM tM xM kM wM eM (hy_if (hy_klift S a1 a2) (hy_slift S a1 a2) S) (hy_klift S a1 a2) tk14) H := by rw [← eS]; exact hP
    have hDz : va_D A (hy_M cI cJ n0 bM sM zM tM xM kM wM eM (hy_if (hy_klift S a1 a2) (hy_slift S a1 a2) S) (hy_klift S a1 a2) tk14) := by rw [← eS]; exact hD
    exact W.iret (v := ((0 : Int32))) hx hb hr (fun t ht hW => ⟨⟨_, (), rfl, fun q => absurd (hk9.symm.trans q) (by decide), tk14, by rw [ht]; exact hPz, va_K.moved hW.alike hK, hDz⟩, hS.F ht⟩) hS.2.2 dX2_lift_17
set_option maxHeartbeats 4000000 in
set_option maxRecDepth 100000 in
theorem c_X2_lay (l : Launch) (D : va_G) (cI cJ cB : ClassId) (n0 bM sM zM tM xM kM wM eM : Nat) (S : hy_S) (th : Int32) (tk : Nat → Int64) (hwf : hy_wf S) (sz : Nat) (a1 a2 a3 : Int32) : Met l yX2_lay wsX2_lay ({ frames := 2, cells := 0, slots := 0, locals := 46 }) (va_Pc [.ref n0, .int a1, .int a2, .int a3] (hy_JM D cI cJ cB n0 bM sM zM tM xM kM wM eM S th tk sz)) (va_Qi (fun (r9 : Int32) (_ : Unit) => (hy_klay S a1 a2 a3 = 0 → r9 = hy_vlay S a1 a3)) (fun _ => hy_AtM D cI cJ cB n0 bM sM zM tM xM kM wM eM (hy_if (hy_klay S a1 a2 a3) (hy_slay S a1 a2 a3) S) (hy_klay S a1 a2 a3) (va_A (hy_M cI cJ n0 bM sM zM tM xM kM wM eM S th tk) sz)) (va_A (hy_M cI cJ n0 bM sM zM tM xM kM wM eM S th tk) sz)) 0 0 (va_A (hy_M cI cJ n0 bM sM zM tM xM kM wM eM S th tk) sz) := by
  refine Met.ofW (cc := cX2_lay) (maxL := 6) (ret := (some .int)) (by decide) rfl ?_
  intro p e s m args below meth c s₁ B hml hv
  obtain ⟨rfl, hsz, ⟨hP, hK⟩, hD0⟩ := hv
  have hx := B.exec
  have hb := B.bytes
  have hr := B.returns
  have hts := atoms_spec (ws := wsX2_lay) B.pre
  have hown : s.vm.findClass RX2 = some m.cls := findClass_of_methodNamed B.named
  have hlocks := B.notSynchronized
  subst hsz
  have hD := hD0.self (sz := s.heap.size)
  generalize hAe : va_A (hy_M cI cJ n0 bM sM zM tM xM kM wM eM S th tk) s.heap.size = A at hD ⊢
  have hA : ∀ q : Nat, s.heap.size ≤ q → A q := fun q h => by rw [← hAe]; exact Or.inr h
  have hS : va_S A s.heap s.heap [] := va_S.rf
  have hinX2 : ∀ w ∈ wsX20, w ∈ wsX2_lay := by decide +kernel
  have hl := lv_entry ([.ref n0, .int a1, .int a2, .int a3]) (n := 6) (Nat.le_of_ble_eq_true rfl)
  rw [lg_entry_eq]
  generalize (lg_sl ([.ref n0, .int a1, .int a2, .int a3]) ++ List.replicate (6 - (lg_sl ([.ref n0, .int a1, .int a2, .int a3])).length) Slot.unset).toArray = ls at hl ⊢
  have hl : lv_has ls 6 [(0, .ref n0), (1, .int a1), (2, .int a2), (3, .int a3)] := hl
  refine lv_aload_n hx hb dX2_lay_0 rfl (lv_at hl 0 rfl) ?_
  refine lv_iconst (v := 0) hx hb dX2_lay_1 (by decide) ?_
  refine va_put (D := D) (ci := 2) (v := .int 0) (ty := .int) (C := RX2) (T := TX2) (N := 14) hx hb hts hinX2 tyX2 tyX2_ok nmX2 hown hK hP hD hS 0 rfl rfl 0 (by decide) (hts (.fieldLink RX2 35 "HiveYardModel" "thrown" "I") (by decide +kernel)) (fun _ h9 => h9) rfl (by decide +kernel) rfl rfl (Nat.le_of_ble_eq_true rfl) dX2_lay_2 (fun H locs hP hD hS => ?_)
  have hP : va_P D vwCl (hy_M cI cJ n0 bM sM zM tM xM kM wM eM S 0 tk) H := by rw [← hy_M_uth]; exact hP
  have hD : va_D A (hy_M cI cJ n0 bM sM zM tM xM kM wM eM S 0 tk) := by rw [← hy_M_uth]; exact hD
  refine lv_iload_n hx hb dX2_lay_5 rfl (lv_at hl 1 rfl) ?_
  refine vp_callSi (W.runS (As := [.int a1]) (rest := []) ⟨hx, hb, hml, hown, hts⟩ (c_X2_isBox l a1) (va_cwS 1 hts gX2_lay_X2_isBox rfl rfl rfl (by decide +kernel) ⟨Nat.le_of_ble_eq_true rfl, Nat.le_of_ble_eq_true rfl⟩) ⟨fun _ _ _ _ q => q, fun U hU hW => ⟨rfl, trivial⟩⟩ rfl rfl hl.1 rfl (lv_room (Nat.le_of_ble_eq_true rfl)) dX2_lay_6 ⟨Nat.le_of_ble_eq_true rfl, Nat.le_of_ble_eq_true rfl⟩) (fun v9 e9 => ?_)
  subst e9
  refine lv_if_ne (tgt := 18) hx hb dX2_lay_9 (by decide) (fun c_9 => ?_) (fun c_9 => ?_)
  · -- 18
    have ok9 : hy_ok a1 := hy_misbox_ok c_9
    refine lv_iload_n hx hb dX2_lay_18 rfl (lv_at hl 3 rfl) ?_
    refine lv_if_lt (tgt := 27) hx hb dX2_lay_19 (by decide) (fun c_19 => ?_) (fun c_19 => ?_)
    · -- 27
      refine lv_aload_n hx hb dX2_lay_27 rfl (lv_at hl 0 rfl) ?_
      refine lv_iconst (v := 2) hx hb dX2_lay_28 (by decide) ?_
      have hFc := hy_free hD hS hA
      refine va_calli (va_runV (As := [.int 2]) (rest := []) ⟨hx, hb, hml, hown, hts⟩ (c_X2_fail l D cI cJ cB n0 bM sM zM tM xM kM wM eM S 0 tk H.size 2) (cwV 1 hts gX2_lay_X2_fail rfl rfl rfl (by decide +kernel) ⟨Nat.le_of_ble_eq_true rfl, Nat.le_of_ble_eq_true rfl⟩) ⟨hy_JM_blind, va_recv hK hP (ci := 2) (q0 := 0) rfl rfl, fun U hU hW => ⟨rfl, by rw [hU], hy_J_at hU hW hP hK, hD.weaken (fun _ _ _ _ => trivial)⟩⟩ rfl rfl hl.1 rfl (lv_room (Nat.le_of_ble_eq_true rfl)) dX2_lay_29 ⟨Nat.le_of_ble_eq_true rfl, Nat.le_of_ble_eq_true rfl⟩) hS (fun q _ h => hFc q h) hFc (fun v9 u t H locs ht hvm hw hB hz1 hk1 hS => ?_)
      obtain ⟨tk29, hP1, hK1, hD1⟩ := hB
      rw [ht] at hP1
      have hP : va_P D vwCl (hy_M cI cJ n0 bM sM zM tM xM kM wM eM S 2 tk29) H := hP1
      have hD : va_D A (hy_M cI cJ n0 bM sM zM tM xM kM wM eM S 2 tk29) := hD1.weaken (fun _ q _ h => hFc q.1 h)
      clear hP1 hK1 hD1 hFc
      subst hw
      have hk9 : hy_klay S a1 a2 a3 = 2 := by simp only [hy_klay, if_pos (hy_kbox0 ok9), if_pos c_19]
      have eS : (hy_M cI cJ n0 bM sM zM tM xM kM wM eM S 2 tk29) = (hy_M cI cJ n0 bM sM zM tM xM kM wM eM (hy_if (hy_klay S a1 a2 a3) (hy_slay S a1 a2 a3) S) (hy_klay S a1 a2 a3) tk29) := by rw [hk9]; exact congrArg (fun s9 => hy_M cI cJ n0 bM sM zM tM xM kM wM eM s9 2 tk29) (hy_if_n (by decide) _ _).symm
      have hPz : va_P D vwCl (hy_M cI cJ n0 bM sM zM tM xM kM wM eM (hy_if (hy_klay S a1 a2 a3) (hy_slay S a1 a2 a3) S) (hy_klay S a1 a2 a3) tk29) H := by rw [← eS]; exact hP
      have hDz : va_D A (hy_M cI cJ n0 bM sM zM tM xM kM wM eM (hy_if (hy_klay S a1 a2 a3) (hy_slay S a1 a2 a3) S) (hy_klay S a1 a2 a3) tk29) := by rw [← eS]; exact hD
      exact W.iret (v := ((0 : Int32))) hx hb hr (fun t ht hW => ⟨⟨_, (), rfl, fun q => absurd (hk9.symm.trans q) (by decide), tk29, by rw [ht]; exact hPz, va_K.moved hW.alike hK, hDz⟩, hS.F ht⟩) hS.2.2 dX2_lay_32
    · -- 22
      refine lv_iload_n hx hb dX2_lay_22 rfl (lv_at hl 3 rfl) ?_
      refine lv_iconst (v := 3) hx hb dX2_lay_23 (by decide) ?_
      refine lv_icmp_le (tgt := 33) hx hb dX2_lay_24 (by decide) (fun c_24 => ?_) (fun c_24 => ?_)
      · -- 33
        refine lv_aload_n hx hb dX2_lay_33 rfl (lv_at hl 0 rfl) ?_
        refine lv_iload_n hx hb dX2_lay_34 rfl (lv_at hl 1 rfl) ?_
        refine lv_iload_n hx hb dX2_lay_35 rfl (lv_at hl 2 rfl) ?_
        refine lv_iconst (v := 1) hx hb dX2_lay_36 (by decide) ?_
        refine lv_iconst (v := 3) hx hb dX2_lay_37 (by decide) ?_
        refine vp_callSi (W.runV (As := [.int a1, .int a2, .int 1, .int 3]) (rest := []) ⟨hx, hb, hml, hown, hts⟩ (c_X2_barred l D cI cJ cB n0 bM sM zM tM xM kM wM eM S 0 tk a1 a2 1 3 ok9 hwf) (cwV 4 hts gX2_lay_X2_barred rfl rfl rfl (by decide +kernel) ⟨Nat.le_of_ble_eq_true rfl, Nat.le_of_ble_eq_true rfl⟩) ⟨hy_J_blind, va_recv hK hP (ci := 2) (q0 := 0) rfl rfl, fun U hU hW => ⟨rfl, hy_J_at hU hW hP hK⟩⟩ rfl rfl hl.1 rfl (lv_room (Nat.le_of_ble_eq_true rfl)) dX2_lay_38 ⟨Nat.le_of_ble_eq_true rfl, Nat.le_of_ble_eq_true rfl⟩) (fun v9 e9 => ?_)
        subst e9
        refine lv_istore (lv' := [(4, .int (hy_mbar S (hy_bx S a1.toNatClampNeg) a2 1 3)), (0, .ref n0), (1, .int a1), (2, .int a2), (3, .int a3)]) hx hb dX2_lay_41 hl (by decide) rfl (fun ls hl => ?_)
        refine lv_iload hx hb dX2_lay_43 (lv_at hl 0 rfl) ?_
        refine lv_if_le (tgt := 55) hx hb dX2_lay_45 (by decide) (fun c_45 => ?_) (fun c_45 => ?_)
        · -- 55
          obtain ⟨bar0, r, k, hbr, hco, rfl, hkl⟩ := hy_mbar0 hwf (by decide) (by decide) c_45
          have hrl := hwf.2.2.1 _ _ hbr
          have h300 := hwf.1
          have h24 := hwf.2.2.2.2.2.1 (r + 1)
          refine lv_aload_n hx hb dX2_lay_55 rfl (lv_at hl 1 rfl) ?_
          refine va_get (D := D) (ci := 2) (v := .int (nI (hy_nc S))) (C := RX2) (T := TX2) (N := 14) hx hb hts hinX2 hown hK hP 0 rfl rfl 7 (by decide) (hts (.fieldLink RX2 73 "HiveYardModel" "combs" "I") (by decide +kernel)) (fun _ h9 => h9) rfl dX2_lay_56 ?_
          refine lv_bipush (v := 60) hx hb dX2_lay_59 (by decide) ?_
          refine lv_icmp_ne (tgt := 70) hx hb dX2_lay_61 (by decide) (fun c_61 => ?_) (fun c_61 => ?_)
          · -- 70
            refine lv_aload_n hx hb dX2_lay_70 rfl (lv_at hl 1 rfl) ?_
            refine lv_iload_n hx hb dX2_lay_71 rfl (lv_at hl 2 rfl) ?_
            refine vp_callSi (W.runV (As := [.int a1]) (rest := []) ⟨hx, hb, hml, hown, hts⟩ (c_X2_what l D cI cJ cB n0 bM sM zM tM xM kM wM eM S 0 tk a1 ok9 (some (r + 1)) hbr hwf) (cwV 1 hts gX2_lay_X2_what rfl rfl rfl (by decide +kernel) ⟨Nat.le_of_ble_eq_true rfl, Nat.le_of_ble_eq_true rfl⟩) ⟨hy_J_blind, va_recv hK hP (ci := 2) (q0 := 0) rfl rfl, fun U hU hW => ⟨rfl, hy_J_at hU hW hP hK⟩⟩ rfl rfl hl.1 rfl (lv_room (Nat.le_of_ble_eq_true rfl)) dX2_lay_72 ⟨Nat.le_of_ble_eq_true rfl, Nat.le_of_ble_eq_true rfl⟩) (fun v9 e9 => ?_)
            subst e9
            refine lv_iload_n hx hb dX2_lay_75 rfl (lv_at hl 4 rfl) ?_
            refine vp_callSi (W.runS (As := [.int (hy_sort S (some (r + 1))), .int a3]) (rest := []) ⟨hx, hb, hml, hown, hts⟩ (c_X2_takes l (hy_sort S (some (r + 1))) a3) (va_cwS 2 hts gX2_lay_X2_takes rfl rfl rfl (by decide +kernel) ⟨Nat.le_of_ble_eq_true rfl, Nat.le_of_ble_eq_true rfl⟩) ⟨fun _ _ _ _ q => q, fun U hU hW => ⟨rfl, trivial⟩⟩ rfl rfl hl.1 rfl (lv_room (Nat.le_of_ble_eq_true rfl)) dX2_lay_76 ⟨Nat.le_of_ble_eq_true rfl, Nat.le_of_ble_eq_true rfl⟩) (fun v9 e9 => ?_)
            subst e9
            refine lv_if_ne (tgt := 84) hx hb dX2_lay_79 (by decide) (fun c_79 => ?_) (fun c_79 => ?_)
            · -- 84
              refine lv_aload_n hx hb dX2_lay_84 rfl (lv_at hl 1 rfl) ?_
              refine va_get (D := D) (ci := 2) (v := .int (nI (hy_nc S))) (C := RX2) (T := TX2) (N := 14) hx hb hts hinX2 hown hK hP 0 rfl rfl 7 (by decide) (hts (.fieldLink RX2 73 "HiveYardModel" "combs" "I") (by decide +kernel)) (fun _ h9 => h9) rfl dX2_lay_85 ?_
              refine lv_istore (lv' := [(5, .int (nI (hy_nc S))), (4, .int (hy_mbar S (hy_bx S a1.toNatClampNeg) (nI k) 1 3)), (0, .ref n0), (1, .int a1), (2, .int (nI k)), (3, .int a3)]) hx hb dX2_lay_88 hl (by decide) rfl (fun ls hl => ?_)
              refine lv_aload_n hx hb dX2_lay_90 rfl (lv_at hl 2 rfl) ?_
              refine lv_dup hx hb dX2_lay_91 rfl ?_
              refine va_get (D := D) (ci := 2) (v := .int (nI (hy_nc S))) (C := RX2) (T := TX2) (N := 14) hx hb hts hinX2 hown hK hP 0 rfl rfl 7 (by decide) (hts (.fieldLink RX2 73 "HiveYardModel" "combs" "I") (by decide +kernel)) (fun _ h9 => h9) rfl dX2_lay_92 ?_
              refine lv_iconst (v := 1) hx hb dX2_lay_95 (by decide) ?_
              refine lv_iadd hx hb dX2_lay_96 ?_
              refine lv_topi (fun v9 e9 => ?_)
              obtain rfl : v9 = (nI (hy_nc S + 1)) := e9.trans (nI_1 _)
              clear e9
              refine va_put (D := D) (ci := 2) (v := .int (nI (hy_nc S + 1))) (ty := .int) (C := RX2) (T := TX2) (N := 14) hx hb hts hinX2 tyX2 tyX2_ok nmX2 hown hK hP hD hS 0 rfl rfl 7 (by decide) (hts (.fieldLink RX2 73 "HiveYardModel" "combs" "I") (by decide +kernel)) (fun _ h9 => h9) rfl (by decide +kernel) rfl rfl (Nat.le_of_ble_eq_true rfl) dX2_lay_97 (fun H locs hP hD hS => ?_)
              have hP : va_P D vwCl (hy_M cI cJ n0 bM sM zM tM xM kM wM eM (hy_unc S (hy_nc S + 1)) 0 tk) H := by rw [← hy_M_unc]; exact hP
              have hD : va_D A (hy_M cI cJ n0 bM sM zM tM xM kM wM eM (hy_unc S (hy_nc S + 1)) 0 tk) := by rw [← hy_M_unc]; exact hD
              refine lv_aload_n hx hb dX2_lay_100 rfl (lv_at hl 2 rfl) ?_
              refine va_get (D := D) (ci := 2) (v := .ref kM) (C := RX2) (T := TX2) (N := 14) hx hb hts hinX2 hown hK hP 0 rfl rfl 8 (by decide) (hts (.fieldLink RX2 26 "HiveYardModel" "kinds" "[I") (by decide +kernel)) (fun _ h9 => h9) rfl dX2_lay_101 ?_
              refine lv_iload hx hb dX2_lay_104 (lv_at hl 0 rfl) ?_
              refine lv_iload_n hx hb dX2_lay_106 rfl (lv_at hl 5 rfl) ?_
              refine va_iast hx hb hK hP hD hS 6 0 rfl rfl (hy_nc60 hwf.2.1 (hy_nc_ne hwf c_61)) dX2_lay_107 (fun H locs hP hD hS => ?_)
              have hP : va_P D vwCl (hy_M cI cJ n0 bM sM zM tM xM kM wM eM (hy_uki (hy_unc S (hy_nc S + 1)) (upd (hy_ki S) (nI (hy_nc S)).toNatClampNeg a3)) 0 tk) H := by rw [← hy_M_uki]; exact hP
              have hD : va_D A (hy_M cI cJ n0 bM sM zM tM xM kM wM eM (hy_uki (hy_unc S (hy_nc S + 1)) (upd (hy_ki S) (nI (hy_nc S)).toNatClampNeg a3)) 0 tk) := by rw [← hy_M_uki]; exact hD
              refine lv_aload_n hx hb dX2_lay_108 rfl (lv_at hl 2 rfl) ?_
              refine va_get (D := D) (ci := 2) (v := .ref wM) (C := RX2) (T := TX2) (N := 14) hx hb hts hinX2 hown hK hP 0 rfl rfl 9 (by decide) (hts (.fieldLink RX2 29 "HiveYardModel" "weights" "[I") (by decide +kernel)) (fun _ h9 => h9) rfl dX2_lay_109 ?_
              refine lv_iload hx hb dX2_lay_112 (lv_at hl 0 rfl) ?_
              refine lv_iconst (v := 0) hx hb dX2_lay_114 (by decide) ?_
              refine va_iast hx hb hK hP hD hS 7 0 rfl rfl (hy_nc60 hwf.2.1 (hy_nc_ne hwf c_61)) dX2_lay_115 (fun H locs hP hD hS => ?_)
              have hP : va_P D vwCl (hy_M cI cJ n0 bM sM zM tM xM kM wM eM (hy_uwe (hy_uki (hy_unc S (hy_nc S + 1)) (upd (hy_ki S) (nI (hy_nc S)).toNatClampNeg a3)) (upd (hy_we S) (nI (hy_nc S)).toNatClampNeg 0)) 0 tk) H := by rw [← hy_M_uwe]; exact hP
              have hD : va_D A (hy_M cI cJ n0 bM sM zM tM xM kM wM eM (hy_uwe (hy_uki (hy_unc S (hy_nc S + 1)) (upd (hy_ki S) (nI (hy_nc S)).toNatClampNeg a3)) (upd (hy_we S) (nI (hy_nc S)).toNatClampNeg 0)) 0 tk) := by rw [← hy_M_uwe]; exact hD
              refine lv_aload_n hx hb dX2_lay_116 rfl (lv_at hl 2 rfl) ?_
              refine va_get (D := D) (ci := 2) (v := .ref tM) (C := RX2) (T := TX2) (N := 14) hx hb hts hinX2 hown hK hP 0 rfl rfl 5 (by decide) (hts (.fieldLink RX2 19 "HiveYardModel" "stands" "[J") (by decide +kernel)) (fun _ h9 => h9) rfl dX2_lay_117 ?_
              refine lv_bipush (v := 24) hx hb dX2_lay_120 (by decide) ?_
              refine lv_aload_n hx hb dX2_lay_122 rfl (lv_at hl 2 rfl) ?_
              refine va_get (D := D) (ci := 2) (v := .ref bM) (C := RX2) (T := TX2) (N := 14) hx hb hts hinX2 hown hK hP 0 rfl rfl 1 (by decide) (hts (.fieldLink RX2 7 "HiveYardModel" "boxes" "[I") (by decide +kernel)) (fun _ h9 => h9) rfl dX2_lay_123 ?_
              refine lv_iload_n hx hb dX2_lay_126 rfl (lv_at hl 3 rfl) ?_
              refine va_iald hx hb hK hP 1 0 rfl rfl (hy_ok_in ok9) dX2_lay_127 ?_
              refine lv_topi (fun v9 e9 => ?_)
              obtain rfl : v9 = (nI r) := e9.trans (by show hy_enc (hy_bx S a1.toNatClampNeg) = _; rw [hbr]; rfl)
              clear e9
              refine lv_imul hx hb dX2_lay_128 ?_
              refine lv_topi (fun v9 e9 => ?_)
              obtain rfl : v9 = (nI (24 * r)) := e9.trans (hy_24 _)
              clear e9
              refine lv_iload_n hx hb dX2_lay_129 rfl (lv_at hl 4 rfl) ?_
              refine lv_iadd hx hb dX2_lay_130 ?_
              refine lv_topi (fun v9 e9 => ?_)
              obtain rfl : v9 = (nI (24 * r + k)) := e9.trans (nI_add _ _)
              clear e9
              refine lv_iload hx hb dX2_lay_131 (lv_at hl 0 rfl) ?_
              refine lv_i2l (v := (nI (hy_nc S)).toInt64) hx hb dX2_lay_133 rfl ?_
              refine va_last hx hb hK hP hD hS 4 1 rfl rfl (vp_in_nI (by omega) (by omega)) dX2_lay_134 (fun H locs hP hD hS => ?_)
              rw [nI_clamp (n := 24 * r + k) (by omega)] at hP hD
              have hP : va_P D vwCl (hy_M cI cJ n0 bM sM zM tM xM kM wM eM (hy_uva (hy_uwe (hy_uki (hy_unc S (hy_nc S + 1)) (upd (hy_ki S) (nI (hy_nc S)).toNatClampNeg a3)) (upd (hy_we S) (nI (hy_nc S)).toNatClampNeg 0)) (r + 1) (vp_updL (hy_va (hy_uwe (hy_uki (hy_unc S (hy_nc S + 1)) (upd (hy_ki S) (nI (hy_nc S)).toNatClampNeg a3)) (upd (hy_we S) (nI (hy_nc S)).toNatClampNeg 0)) (r + 1)) k ((nI (hy_nc S)).toInt64))) 0 tk) H := by rw [← hy_M_uva (S := (hy_uwe (hy_uki (hy_unc S (hy_nc S + 1)) (upd (hy_ki S) (nI (hy_nc S)).toNatClampNeg a3)) (upd (hy_we S) (nI (hy_nc S)).toNatClampNeg 0))) (r := r) (k := k) (by omega) ((nI (hy_nc S)).toInt64)]; exact hP
              have hD : va_D A (hy_M cI cJ n0 bM sM zM tM xM kM wM eM (hy_uva (hy_uwe (hy_uki (hy_unc S (hy_nc S + 1)) (upd (hy_ki S) (nI (hy_nc S)).toNatClampNeg a3)) (upd (hy_we S) (nI (hy_nc S)).toNatClampNeg 0)) (r + 1) (vp_updL (hy_va (hy_uwe (hy_uki (hy_unc S (hy_nc S + 1)) (upd (hy_ki S) (nI (hy_nc S)).toNatClampNeg a3)) (upd (hy_we S) (nI (hy_nc S)).toNatClampNeg 0)) (r + 1)) k ((nI (hy_nc S)).toInt64))) 0 tk) := by rw [← hy_M_uva (S := (hy_uwe (hy_uki (hy_unc S (hy_nc S + 1)) (upd (hy_ki S) (nI (hy_nc S)).toNatClampNeg a3)) (upd (hy_we S) (nI (hy_nc S)).toNatClampNeg 0))) (r := r) (k := k) (by omega) ((nI (hy_nc S)).toInt64)]; exact hD
              refine lv_iload hx hb dX2_lay_135 (lv_at hl 0 rfl) ?_
              have hk9 : hy_klay S a1 (nI k) a3 = 0 := (hy_klay_m0 hwf ok9 c_19 c_24 _ bar0).trans (if_pos (hy_nc_ne hwf c_61))
              have eS : (hy_M cI cJ n0 bM sM zM tM xM kM wM eM (hy_uva (hy_uwe (hy_uki (hy_unc S (hy_nc S + 1)) (upd (hy_ki S) (nI (hy_nc S)).toNatClampNeg a3)) (upd (hy_we S) (nI (hy_nc S)).toNatClampNeg 0)) (r + 1) (vp_updL (hy_va (hy_uwe (hy_uki (hy_unc S (hy_nc S + 1)) (upd (hy_ki S) (nI (hy_nc S)).toNatClampNeg a3)) (upd (hy_we S) (nI (hy_nc S)).toNatClampNeg 0)) (r + 1)) k ((nI (hy_nc S)).toInt64))) 0 tk) = (hy_M cI cJ n0 bM sM zM tM xM kM wM eM (hy_if (hy_klay S a1 (nI k) a3) (hy_slay S a1 (nI k) a3) S) (hy_klay S a1 (nI k) a3) tk) := by rw [hk9]; exact congrArg (fun s9 => hy_M cI cJ n0 bM sM zM tM xM kM wM eM s9 0 tk) (Eq.trans (by rw [hy_slay, hbr, hy_slay_m hwf, nI_clamp (show k < 2 ^ 31 by omega)]; exact (if_neg (fun q => c_79 ((hy_takes_m hwf hrl hco a3).symm.trans q))).symm : (hy_uva (hy_uwe (hy_uki (hy_unc S (hy_nc S + 1)) (upd (hy_ki S) (nI (hy_nc S)).toNatClampNeg a3)) (upd (hy_we S) (nI (hy_nc S)).toNatClampNeg 0)) (r + 1) (vp_updL (hy_va (hy_uwe (hy_uki (hy_unc S (hy_nc S + 1)) (upd (hy_ki S) (nI (hy_nc S)).toNatClampNeg a3)) (upd (hy_we S) (nI (hy_nc S)).toNatClampNeg 0)) (r + 1)) k ((nI (hy_nc S)).toInt64))) = (hy_slay S a1 (nI k) a3)) (hy_if_0 _ _).symm)
              have hPz : va_P D vwCl (hy_M cI cJ n0 bM sM zM tM xM kM wM eM (hy_if (hy_klay S a1 (nI k) a3) (hy_slay S a1 (nI k) a3) S) (hy_klay S a1 (nI k) a3) tk) H := by rw [← eS]; exact hP
              have hDz : va_D A (hy_M cI cJ n0 bM sM zM tM xM kM wM eM (hy_if (hy_klay S a1 (nI k) a3) (hy_slay S a1 (nI k) a3) S) (hy_klay S a1 (nI k) a3) tk) := by rw [← eS]; exact hD
              exact W.iret (v := (nI (hy_nc S))) hx hb hr (fun t ht hW => ⟨⟨_, (), rfl, fun _ => by rw [hy_vlay, hbr]; exact (if_neg (fun q => c_79 ((hy_takes_m hwf hrl hco a3).symm.trans q))).symm, tk, by rw [ht]; exact hPz, va_K.moved hW.alike hK, hDz⟩, hS.F ht⟩) hS.2.2 dX2_lay_137
            · -- 82
              refine lv_iconst (v := (-1)) hx hb dX2_lay_82 (by decide) ?_
              have hk9 : hy_klay S a1 (nI k) a3 = 0 := (hy_klay_m0 hwf ok9 c_19 c_24 _ bar0).trans (if_pos (hy_nc_ne hwf c_61))
              have eS : (hy_M cI cJ n0 bM sM zM tM xM kM wM eM S 0 tk) = (hy_M cI cJ n0 bM sM zM tM xM kM wM eM (hy_if (hy_klay S a1 (nI k) a3) (hy_slay S a1 (nI k) a3) S) (hy_klay S a1 (nI k) a3) tk) := by rw [hk9]; exact congrArg (fun s9 => hy_M cI cJ n0 bM sM zM tM xM kM wM eM s9 0 tk) (Eq.trans (by rw [hy_slay, hbr]; exact (if_pos ((hy_takes_m hwf hrl hco a3).trans c_79)).symm : S = (hy_slay S a1 (nI k) a3)) (hy_if_0 _ _).symm)
              have hPz : va_P D vwCl (hy_M cI cJ n0 bM sM zM tM xM kM wM eM (hy_if (hy_klay S a1 (nI k) a3) (hy_slay S a1 (nI k) a3) S) (hy_klay S a1 (nI k) a3) tk) H := by rw [← eS]; exact hP
              have hDz : va_D A (hy_M cI cJ n0 bM sM zM tM xM kM wM eM (hy_if (hy_klay S a1 (nI k) a3) (hy_slay S a1 (nI k) a3) S) (hy_klay S a1 (nI k) a3) tk) := by rw [← eS]; exact hD
              exact W.iret (v := (-1)) hx hb hr (fun t ht hW => ⟨⟨_, (), rfl, fun _ => by rw [hy_vlay, hbr]; exact (if_pos ((hy_takes_m hwf hrl hco a3).trans c_79)).symm, tk, by rw [ht]; exact hPz, va_K.moved hW.alike hK, hDz⟩, hS.F ht⟩) hS.2.2 dX2_lay_83
          · -- 64
            refine lv_aload_n hx hb dX2_lay_64 rfl (lv_at hl 1 rfl) ?_
            refine lv_iconst (v := 5) hx hb dX2_lay_65 (by decide) ?_
            have hFc := hy_free hD hS hA
            refine va_calli (va_runV (As := [.int 5]) (rest := []) ⟨hx, hb, hml, hown, hts⟩ (c_X2_fail l D cI cJ cB n0 bM sM zM tM xM kM wM eM S 0 tk H.size 5) (cwV 1 hts gX2_lay_X2_fail rfl rfl rfl (by decide +kernel) ⟨Nat.le_of_ble_eq_true rfl, Nat.le_of_ble_eq_true rfl⟩) ⟨hy_JM_blind, va_recv hK hP (ci := 2) (q0 := 0) rfl rfl, fun U hU hW => ⟨rfl, by rw [hU], hy_J_at hU hW hP hK, hD.weaken (fun _ _ _ _ => trivial)⟩⟩ rfl rfl hl.1 rfl (lv_room (Nat.le_of_ble_eq_true rfl)) dX2_lay_66 ⟨Nat.le_of_ble_eq_true rfl, Nat.le_of_ble_eq_true rfl⟩) hS (fun q _ h => hFc q h) hFc (fun v9 u t H locs ht hvm hw hB hz1 hk1 hS => ?_)
            obtain ⟨tk66, hP1, hK1, hD1⟩ := hB
            rw [ht] at hP1
            have hP : va_P D vwCl (hy_M cI cJ n0 bM sM zM tM xM kM wM eM S 5 tk66) H := hP1
            have hD : va_D A (hy_M cI cJ n0 bM sM zM tM xM kM wM eM S 5 tk66) := hD1.weaken (fun _ q _ h => hFc q.1 h)
            clear hP1 hK1 hD1 hFc
            subst hw
            have hk9 : hy_klay S a1 (nI k) a3 = 5 := (hy_klay_m0 hwf ok9 c_19 c_24 _ bar0).trans (if_neg (hy_nc_eq c_61))
            have eS : (hy_M cI cJ n0 bM sM zM tM xM kM wM eM S 5 tk66) = (hy_M cI cJ n0 bM sM zM tM xM kM wM eM (hy_if (hy_klay S a1 (nI k) a3) (hy_slay S a1 (nI k) a3) S) (hy_klay S a1 (nI k) a3) tk66) := by rw [hk9]; exact congrArg (fun s9 => hy_M cI cJ n0 bM sM zM tM xM kM wM eM s9 5 tk66) (hy_if_n (by decide) _ _).symm
            have hPz : va_P D vwCl (hy_M cI cJ n0 bM sM zM tM xM kM wM eM (hy_if (hy_klay S a1 (nI k) a3) (hy_slay S a1 (nI k) a3) S) (hy_klay S a1 (nI k) a3) tk66) H := by rw [← eS]; exact hP
            have hDz : va_D A (hy_M cI cJ n0 bM sM zM tM xM kM wM eM (hy_if (hy_klay S a1 (nI k) a3) (hy_slay S a1 (nI k) a3) S) (hy_klay S a1 (nI k) a3) tk66) := by rw [← eS]; exact hD
            exact W.iret (v := ((0 : Int32))) hx hb hr (fun t ht hW => ⟨⟨_, (), rfl, fun q => absurd (hk9.symm.trans q) (by decide), tk66, by rw [ht]; exact hPz, va_K.moved hW.alike hK, hDz⟩, hS.F ht⟩) hS.2.2 dX2_lay_69
        · -- 48
          refine lv_aload_n hx hb dX2_lay_48 rfl (lv_at hl 1 rfl) ?_
          refine lv_iload hx hb dX2_lay_49 (lv_at hl 0 rfl) ?_
          have hFc := hy_free hD hS hA
          refine va_calli (va_runV (As := [.int (hy_mbar S (hy_bx S a1.toNatClampNeg) a2 1 3)]) (rest := []) ⟨hx, hb, hml, hown, hts⟩ (c_X2_fail l D cI cJ cB n0 bM sM zM tM xM kM wM eM S 0 tk H.size (hy_mbar S (hy_bx S a1.toNatClampNeg) a2 1 3)) (cwV 1 hts gX2_lay_X2_fail rfl rfl rfl (by decide +kernel) ⟨Nat.le_of_ble_eq_true rfl, Nat.le_of_ble_eq_true rfl⟩) ⟨hy_JM_blind, va_recv hK hP (ci := 2) (q0 := 0) rfl rfl, fun U hU hW => ⟨rfl, by rw [hU], hy_J_at hU hW hP hK, hD.weaken (fun _ _ _ _ => trivial)⟩⟩ rfl rfl hl.1 rfl (lv_room (Nat.le_of_ble_eq_true rfl)) dX2_lay_51 ⟨Nat.le_of_ble_eq_true rfl, Nat.le_of_ble_eq_true rfl⟩) hS (fun q _ h => hFc q h) hFc (fun v9 u t H locs ht hvm hw hB hz1 hk1 hS => ?_)
          obtain ⟨tk51, hP1, hK1, hD1⟩ := hB
          rw [ht] at hP1
          have hP : va_P D vwCl (hy_M cI cJ n0 bM sM zM tM xM kM wM eM S (hy_mbar S (hy_bx S a1.toNatClampNeg) a2 1 3) tk51) H := hP1
          have hD : va_D A (hy_M cI cJ n0 bM sM zM tM xM kM wM eM S (hy_mbar S (hy_bx S a1.toNatClampNeg) a2 1 3) tk51) := hD1.weaken (fun _ q _ h => hFc q.1 h)
          clear hP1 hK1 hD1 hFc
          subst hw
          have hk9 : hy_klay S a1 a2 a3 = (hy_mbar S (hy_bx S a1.toNatClampNeg) a2 1 3) := hy_klay_m1 hwf ok9 c_19 c_24 a2 c_45
          have hn9 : ¬ (hy_mbar S (hy_bx S a1.toNatClampNeg) a2 1 3) = 0 := fun q => c_45 (by rw [q]; decide)
          have eS : (hy_M cI cJ n0 bM sM zM tM xM kM wM eM S (hy_mbar S (hy_bx S a1.toNatClampNeg) a2 1 3) tk51) = (hy_M cI cJ n0 bM sM zM tM xM kM wM eM (hy_if (hy_klay S a1 a2 a3) (hy_slay S a1 a2 a3) S) (hy_klay S a1 a2 a3) tk51) := by rw [hk9]; exact congrArg (fun s9 => hy_M cI cJ n0 bM sM zM tM xM kM wM eM s9 (hy_mbar S (hy_bx S a1.toNatClampNeg) a2 1 3) tk51) (hy_if_n hn9 _ _).symm
          have hPz : va_P D vwCl (hy_M cI cJ n0 bM sM zM tM xM kM wM eM (hy_if (hy_klay S a1 a2 a3) (hy_slay S a1 a2 a3) S) (hy_klay S a1 a2 a3) tk51) H := by rw [← eS]; exact hP
          have hDz : va_D A (hy_M cI cJ n0 bM sM zM tM xM kM wM eM (hy_if (hy_klay S a1 a2 a3) (hy_slay S a1 a2 a3) S) (hy_klay S a1 a2 a3) tk51) := by rw [← eS]; exact hD
          exact W.iret (v := ((0 : Int32))) hx hb hr (fun t ht hW => ⟨⟨_, (), rfl, fun q => absurd (hk9.symm.trans q) hn9, tk51, by rw [ht]; exact hPz, va_K.moved hW.alike hK, hDz⟩, hS.F ht⟩) hS.2.2 dX2_lay_54
      · -- 27
        refine lv_aload_n hx hb dX2_lay_27 rfl (lv_at hl 0 rfl) ?_
        refine lv_iconst (v := 2) hx hb dX2_lay_28 (by decide) ?_
        have hFc := hy_free hD hS hA
        refine va_calli (va_runV (As := [.int 2]) (rest := []) ⟨hx, hb, hml, hown, hts⟩ (c_X2_fail l D cI cJ cB n0 bM sM zM tM xM kM wM eM S 0 tk H.size 2) (cwV 1 hts gX2_lay_X2_fail rfl rfl rfl (by decide +kernel) ⟨Nat.le_of_ble_eq_true rfl, Nat.le_of_ble_eq_true rfl⟩) ⟨hy_JM_blind, va_recv hK hP (ci := 2) (q0 := 0) rfl rfl, fun U hU hW => ⟨rfl, by rw [hU], hy_J_at hU hW hP hK, hD.weaken (fun _ _ _ _ => trivial)⟩⟩ rfl rfl hl.1 rfl (lv_room (Nat.le_of_ble_eq_true rfl)) dX2_lay_29 ⟨Nat.le_of_ble_eq_true rfl, Nat.le_of_ble_eq_true rfl⟩) hS (fun q _ h => hFc q h) hFc (fun v9 u t H locs ht hvm hw hB hz1 hk1 hS => ?_)
        obtain ⟨tk29, hP1, hK1, hD1⟩ := hB
        rw [ht] at hP1
        have hP : va_P D vwCl (hy_M cI cJ n0 bM sM zM tM xM kM wM eM S 2 tk29) H := hP1
        have hD : va_D A (hy_M cI cJ n0 bM sM zM tM xM kM wM eM S 2 tk29) := hD1.weaken (fun _ q _ h => hFc q.1 h)
        clear hP1 hK1 hD1 hFc
        subst hw
        have hk9 : hy_klay S a1 a2 a3 = 2 := by simp only [hy_klay, if_pos (hy_kbox0 ok9), if_neg c_19, if_neg c_24]
        have eS : (hy_M cI cJ n0 bM sM zM tM xM kM wM eM S 2 tk29) = (hy_M cI cJ n0 bM sM zM tM xM kM wM eM (hy_if (hy_klay S a1 a2 a3) (hy_slay S a1 a2 a3) S) (hy_klay S a1 a2 a3) tk29) := by rw [hk9]; exact congrArg (fun s9 => hy_M cI cJ n0 bM sM zM tM xM kM wM eM s9 2 tk29) (hy_if_n (by decide) _ _).symm
        have hPz : va_P D vwCl (hy_M cI cJ n0 bM sM zM tM xM kM wM eM (hy_if (hy_klay S a1 a2 a3) (hy_slay S a1 a2 a3) S) (hy_klay S a1 a2 a3) tk29) H := by rw [← eS]; exact hP
        have hDz : va_D A (hy_M cI cJ n0 bM sM zM tM xM kM wM eM (hy_if (hy_klay S a1 a2 a3) (hy_slay S a1 a2 a3) S) (hy_klay S a1 a2 a3) tk29) := by rw [← eS]; exact hD
        exact W.iret (v := ((0 : Int32))) hx hb hr (fun t ht hW => ⟨⟨_, (), rfl, fun q => absurd (hk9.symm.trans q) (by decide), tk29, by rw [ht]; exact hPz, va_K.moved hW.alike hK, hDz⟩, hS.F ht⟩) hS.2.2 dX2_lay_32
  · -- 12
    refine lv_aload_n hx hb dX2_lay_12 rfl (lv_at hl 0 rfl) ?_
    refine lv_iconst (v := 1) hx hb dX2_lay_13 (by decide) ?_
    have hFc := hy_free hD hS hA
    refine va_calli (va_runV (As := [.int 1]) (rest := []) ⟨hx, hb, hml, hown, hts⟩ (c_X2_fail l D cI cJ cB n0 bM sM zM tM xM kM wM eM S 0 tk H.size 1) (cwV 1 hts gX2_lay_X2_fail rfl rfl rfl (by decide +kernel) ⟨Nat.le_of_ble_eq_true rfl, Nat.le_of_ble_eq_true rfl⟩) ⟨hy_JM_blind, va_recv hK hP (ci := 2) (q0 := 0) rfl rfl, fun U hU hW => ⟨rfl, by rw [hU], hy_J_at hU hW hP hK, hD.weaken (fun _ _ _ _ => trivial)⟩⟩ rfl rfl hl.1 rfl (lv_room (Nat.le_of_ble_eq_true rfl)) dX2_lay_14 ⟨Nat.le_of_ble_eq_true rfl, Nat.le_of_ble_eq_true rfl⟩) hS (fun q _ h => hFc q h) hFc (fun v9 u t H locs ht hvm hw hB hz1 hk1 hS => ?_)
    obtain ⟨tk14, hP1, hK1, hD1⟩ := hB
    rw [ht] at hP1
    have hP : va_P D vwCl (hy_M cI cJ n0 bM sM zM tM xM kM wM eM S 1 tk14) H := hP1
    have hD : va_D A (hy_M cI cJ n0 bM sM zM tM xM kM wM eM S 1 tk14) := hD1.weaken (fun _ q _ h => hFc q.1 h)
    clear hP1 hK1 hD1 hFc
    subst hw
    have hk9 : hy_klay S a1 a2 a3 = 1 := by simp only [hy_klay, if_neg (hy_kbox1 (hy_misbox_no c_9))]
    have eS : (hy_M cI cJ n0 bM sM zM tM xM kM wM eM S 1 tk14) = (hy_M cI cJ n0 bM sM zM tM xM kM wM eM (hy_if (hy_klay S a1 a2 a3) (hy_slay S a1 a2 a3) S) (hy_klay S a1 a2 a3) tk14) := by rw [hk9]; exact congrArg (fun s9 => hy_M cI cJ n0 bM sM zM tM xM kM wM eM s9 1 tk14) (hy_if_n (by decide) _ _).symm
    have hPz : va_P D vwCl (hy_M cI cJ n0 bM sM zM tM xM kM wM eM (hy_if (hy_klay S a1 a2 a3) (hy_slay S a1 a2 a3) S) (hy_klay S a1 a2 a3) tk14) H := by rw [← eS]; exact hP
    have hDz : va_D A (hy_M cI cJ n0 bM sM zM tM xM kM wM eM (hy_if (hy_klay S a1 a2 a3) (hy_slay S a1 a2 a3) S) (hy_klay S a1 a2 a3) tk14) := by rw [← eS]; exact hD
    exact W.iret (v := ((0 : Int32))) hx hb hr (fun t ht hW => ⟨⟨_, (), rfl, fun q => absurd (hk9.symm.trans q) (by decide), tk14, by rw [ht]; exact hPz, va_K.moved hW.alike hK, hDz⟩, hS.F ht⟩) hS.2.2 dX2_lay_17
set_option maxHeartbeats 4000000 in
set_option maxRecDepth 100000 in
theorem c_X2_same (l : Launch) (D : va_G) (cI cJ cB : ClassId) (n0 bM sM zM tM xM kM wM eM : Nat) (S : hy_S) (th : Int32) (tk : Nat → Int64) (hwf : hy_wf S) (sz : Nat) (a1 a2 : Int32) : Met l yX2_same wsX2_same ({ frames := 1, cells := 0, slots := 0, locals := 21 }) (va_Pc [.ref n0, .int a1, .int a2] (hy_JM D cI cJ cB n0 bM sM zM tM xM kM wM eM S th tk sz)) (va_Qi (fun (r9 : Int32) (_ : Unit) => (hy_k2b a1 a2 = 0 → r9 = hy_vsame S a1 a2)) (fun _ => hy_AtM D cI cJ cB n0 bM sM zM tM xM kM wM eM (hy_if (hy_k2b a1 a2) S S) (hy_k2b a1 a2) (va_A (hy_M cI cJ n0 bM sM zM tM xM kM wM eM S th tk) sz)) (va_A (hy_M cI cJ n0 bM sM zM tM xM kM wM eM S th tk) sz)) 0 0 (va_A (hy_M cI cJ n0 bM sM zM tM xM kM wM eM S th tk) sz) := by
  refine Met.ofW (cc := cX2_same) (maxL := 3) (ret := (some .boolean)) (by decide) rfl ?_
  intro p e s m args below meth c s₁ B hml hv
  obtain ⟨rfl, hsz, ⟨hP, hK⟩, hD0⟩ := hv
  have hx := B.exec
  have hb := B.bytes
  have hr := B.returns
  have hts := atoms_spec (ws := wsX2_same) B.pre
  have hown : s.vm.findClass RX2 = some m.cls := findClass_of_methodNamed B.named
  have hlocks := B.notSynchronized
  subst hsz
  have hD := hD0.self (sz := s.heap.size)
  generalize hAe : va_A (hy_M cI cJ n0 bM sM zM tM xM kM wM eM S th tk) s.heap.size = A at hD ⊢
  have hA : ∀ q : Nat, s.heap.size ≤ q → A q := fun q h => by rw [← hAe]; exact Or.inr h
  have hS : va_S A s.heap s.heap [] := va_S.rf
  have hinX2 : ∀ w ∈ wsX20, w ∈ wsX2_same := by decide +kernel
  have hl := lv_entry ([.ref n0, .int a1, .int a2]) (n := 3) (Nat.le_of_ble_eq_true rfl)
  rw [lg_entry_eq]
  generalize (lg_sl ([.ref n0, .int a1, .int a2]) ++ List.replicate (3 - (lg_sl ([.ref n0, .int a1, .int a2])).length) Slot.unset).toArray = ls at hl ⊢
  have hl : lv_has ls 3 [(0, .ref n0), (1, .int a1), (2, .int a2)] := hl
  refine lv_aload_n hx hb dX2_same_0 rfl (lv_at hl 0 rfl) ?_
  refine lv_iconst (v := 0) hx hb dX2_same_1 (by decide) ?_
  refine va_put (D := D) (ci := 2) (v := .int 0) (ty := .int) (C := RX2) (T := TX2) (N := 14) hx hb hts hinX2 tyX2 tyX2_ok nmX2 hown hK hP hD hS 0 rfl rfl 0 (by decide) (hts (.fieldLink RX2 35 "HiveYardModel" "thrown" "I") (by decide +kernel)) (fun _ h9 => h9) rfl (by decide +kernel) rfl rfl (Nat.le_of_ble_eq_true rfl) dX2_same_2 (fun H locs hP hD hS => ?_)
  have hP : va_P D vwCl (hy_M cI cJ n0 bM sM zM tM xM kM wM eM S 0 tk) H := by rw [← hy_M_uth]; exact hP
  have hD : va_D A (hy_M cI cJ n0 bM sM zM tM xM kM wM eM S 0 tk) := by rw [← hy_M_uth]; exact hD
  refine lv_iload_n hx hb dX2_same_5 rfl (lv_at hl 1 rfl) ?_
  refine vp_callSi (W.runS (As := [.int a1]) (rest := []) ⟨hx, hb, hml, hown, hts⟩ (c_X2_isBox l a1) (va_cwS 1 hts gX2_same_X2_isBox rfl rfl rfl (by decide +kernel) ⟨Nat.le_of_ble_eq_true rfl, Nat.le_of_ble_eq_true rfl⟩) ⟨fun _ _ _ _ q => q, fun U hU hW => ⟨rfl, trivial⟩⟩ rfl rfl hl.1 rfl (lv_room (Nat.le_of_ble_eq_true rfl)) dX2_same_6 ⟨Nat.le_of_ble_eq_true rfl, Nat.le_of_ble_eq_true rfl⟩) (fun v9 e9 => ?_)
  subst e9
  refine lv_if_eq (tgt := 19) hx hb dX2_same_9 (by decide) (fun c_9 => ?_) (fun c_9 => ?_)
  · -- 19
    refine lv_aload_n hx hb dX2_same_19 rfl (lv_at hl 0 rfl) ?_
    refine lv_iconst (v := 1) hx hb dX2_same_20 (by decide) ?_
    have hFc := hy_free hD hS hA
    refine va_calli (va_runV (As := [.int 1]) (rest := []) ⟨hx, hb, hml, hown, hts⟩ (c_X2_fail l D cI cJ cB n0 bM sM zM tM xM kM wM eM S 0 tk H.size 1) (cwV 1 hts gX2_same_X2_fail rfl rfl rfl (by decide +kernel) ⟨Nat.le_of_ble_eq_true rfl, Nat.le_of_ble_eq_true rfl⟩) ⟨hy_JM_blind, va_recv hK hP (ci := 2) (q0 := 0) rfl rfl, fun U hU hW => ⟨rfl, by rw [hU], hy_J_at hU hW hP hK, hD.weaken (fun _ _ _ _ => trivial)⟩⟩ rfl rfl hl.1 rfl (lv_room (Nat.le_of_ble_eq_true rfl)) dX2_same_21 ⟨Nat.le_of_ble_eq_true rfl, Nat.le_of_ble_eq_true rfl⟩) hS (fun q _ h => hFc q h) hFc (fun v9 u t H locs ht hvm hw hB hz1 hk1 hS => ?_)
    obtain ⟨tk21, hP1, hK1, hD1⟩ := hB
    rw [ht] at hP1
    have hP : va_P D vwCl (hy_M cI cJ n0 bM sM zM tM xM kM wM eM S 1 tk21) H := hP1
    have hD : va_D A (hy_M cI cJ n0 bM sM zM tM xM kM wM eM S 1 tk21) := hD1.weaken (fun _ q _ h => hFc q.1 h)
    clear hP1 hK1 hD1 hFc
    subst hw
    refine lv_if_le (tgt := 31) hx hb dX2_same_24 (by decide) (fun c_24 => ?_) (fun c9 => absurd c9 (fun c => c (by decide)))
    refine lv_iconst (v := 0) hx hb dX2_same_31 (by decide) ?_
    have hk9 : hy_k2b a1 a2 = 1 := by simp only [hy_k2b, if_neg (hy_kbox1 (hy_misbox_no c_9))]
    have eS : (hy_M cI cJ n0 bM sM zM tM xM kM wM eM S 1 tk21) = (hy_M cI cJ n0 bM sM zM tM xM kM wM eM (hy_if (hy_k2b a1 a2) S S) (hy_k2b a1 a2) tk21) := by rw [hk9]; exact congrArg (fun s9 => hy_M cI cJ n0 bM sM zM tM xM kM wM eM s9 1 tk21) (hy_if_n (by decide) _ _).symm
    have hPz : va_P D vwCl (hy_M cI cJ n0 bM sM zM tM xM kM wM eM (hy_if (hy_k2b a1 a2) S S) (hy_k2b a1 a2) tk21) H := by rw [← eS]; exact hP
    have hDz : va_D A (hy_M cI cJ n0 bM sM zM tM xM kM wM eM (hy_if (hy_k2b a1 a2) S S) (hy_k2b a1 a2) tk21) := by rw [← eS]; exact hD
    exact W.zret (v := 0) (ty := .boolean) hx hb hr (by decide +kernel) (fun t ht hW => ⟨⟨_, (), rfl, fun q => absurd (hk9.symm.trans q) (by decide), tk21, by rw [ht]; exact hPz, va_K.moved hW.alike hK, hDz⟩, hS.F ht⟩) hS.2.2 dX2_same_32
  · -- 12
    have ok9 : hy_ok a1 := hy_misbox_ok c_9
    refine lv_iload_n hx hb dX2_same_12 rfl (lv_at hl 2 rfl) ?_
    refine vp_callSi (W.runS (As := [.int a2]) (rest := []) ⟨hx, hb, hml, hown, hts⟩ (c_X2_isBox l a2) (va_cwS 1 hts gX2_same_X2_isBox rfl rfl rfl (by decide +kernel) ⟨Nat.le_of_ble_eq_true rfl, Nat.le_of_ble_eq_true rfl⟩) ⟨fun _ _ _ _ q => q, fun U hU hW => ⟨rfl, trivial⟩⟩ rfl rfl hl.1 rfl (lv_room (Nat.le_of_ble_eq_true rfl)) dX2_same_13 ⟨Nat.le_of_ble_eq_true rfl, Nat.le_of_ble_eq_true rfl⟩) (fun v9 e9 => ?_)
    subst e9
    refine lv_if_ne (tgt := 33) hx hb dX2_same_16 (by decide) (fun c_16 => ?_) (fun c_16 => ?_)
    · -- 33
      have ok16 : hy_ok a2 := hy_misbox_ok c_16
      refine lv_aload_n hx hb dX2_same_33 rfl (lv_at hl 0 rfl) ?_
      refine lv_iload_n hx hb dX2_same_34 rfl (lv_at hl 1 rfl) ?_
      refine vp_callSi (W.runV (As := [.int a1]) (rest := []) ⟨hx, hb, hml, hown, hts⟩ (c_X2_hasRow l D cI cJ cB n0 bM sM zM tM xM kM wM eM S 0 tk a1 ok9 (hy_bx S a1.toNatClampNeg) rfl hwf) (cwV 1 hts gX2_same_X2_hasRow rfl rfl rfl (by decide +kernel) ⟨Nat.le_of_ble_eq_true rfl, Nat.le_of_ble_eq_true rfl⟩) ⟨hy_J_blind, va_recv hK hP (ci := 2) (q0 := 0) rfl rfl, fun U hU hW => ⟨rfl, hy_J_at hU hW hP hK⟩⟩ rfl rfl hl.1 rfl (lv_room (Nat.le_of_ble_eq_true rfl)) dX2_same_35 ⟨Nat.le_of_ble_eq_true rfl, Nat.le_of_ble_eq_true rfl⟩) (fun v9 e9 => ?_)
      subst e9
      refine lv_if_eq (tgt := 60) hx hb dX2_same_38 (by decide) (fun c_38 => ?_) (fun c_38 => ?_)
      · -- 60
        have i38 : hy_isRow S (hy_bx S a1.toNatClampNeg) = 0 := by rw [hy_isRow_m hwf (hwf.2.2.1 _)]; exact c_38
        refine lv_iconst (v := 0) hx hb dX2_same_60 (by decide) ?_
        have hk9 : hy_k2b a1 a2 = 0 := by simp only [hy_k2b, if_pos (hy_kbox0 ok9), hy_kbox0 ok16]
        have eS : (hy_M cI cJ n0 bM sM zM tM xM kM wM eM S 0 tk) = (hy_M cI cJ n0 bM sM zM tM xM kM wM eM (hy_if (hy_k2b a1 a2) S S) (hy_k2b a1 a2) tk) := by rw [hk9]; exact congrArg (fun s9 => hy_M cI cJ n0 bM sM zM tM xM kM wM eM s9 0 tk) (Eq.trans (rfl : S = S) (hy_if_0 _ _).symm)
        have hPz : va_P D vwCl (hy_M cI cJ n0 bM sM zM tM xM kM wM eM (hy_if (hy_k2b a1 a2) S S) (hy_k2b a1 a2) tk) H := by rw [← eS]; exact hP
        have hDz : va_D A (hy_M cI cJ n0 bM sM zM tM xM kM wM eM (hy_if (hy_k2b a1 a2) S S) (hy_k2b a1 a2) tk) := by rw [← eS]; exact hD
        exact W.zret (v := 0) (ty := .boolean) hx hb hr (by decide +kernel) (fun t ht hW => ⟨⟨_, (), rfl, fun _ => by rw [hy_vsame]; first | exact (if_pos i38).symm | (rw [if_neg i38]; first | exact (if_pos (hy_enc_inj hwf (by rw [hb38]; exact c_53))).symm | exact (if_neg (fun q => c_53 (by rw [← q, hb38]; rfl))).symm), tk, by rw [ht]; exact hPz, va_K.moved hW.alike hK, hDz⟩, hS.F ht⟩) hS.2.2 dX2_same_61
      · -- 41
        have i38 : ¬ hy_isRow S (hy_bx S a1.toNatClampNeg) = 0 := by rw [hy_isRow_m hwf (hwf.2.2.1 _)]; exact c_38
        obtain ⟨r38, hb38⟩ := hy_mrow_some c_38
        have hl38 := hwf.2.2.1 _ _ hb38
        have h300 := hwf.1
        have h2438 := hwf.2.2.2.2.2.1 (r38 + 1)
        refine lv_aload_n hx hb dX2_same_41 rfl (lv_at hl 0 rfl) ?_
        refine va_get (D := D) (ci := 2) (v := .ref bM) (C := RX2) (T := TX2) (N := 14) hx hb hts hinX2 hown hK hP 0 rfl rfl 1 (by decide) (hts (.fieldLink RX2 7 "HiveYardModel" "boxes" "[I") (by decide +kernel)) (fun _ h9 => h9) rfl dX2_same_42 ?_
        refine lv_iload_n hx hb dX2_same_45 rfl (lv_at hl 1 rfl) ?_
        refine va_iald hx hb hK hP 1 0 rfl rfl (hy_ok_in ok9) dX2_same_46 ?_
        refine lv_topi (fun v9 e9 => ?_)
        obtain rfl : v9 = (nI r38) := e9.trans (by show hy_enc (hy_bx S a1.toNatClampNeg) = _; rw [hb38]; rfl)
        clear e9
        refine lv_aload_n hx hb dX2_same_47 rfl (lv_at hl 0 rfl) ?_
        refine va_get (D := D) (ci := 2) (v := .ref bM) (C := RX2) (T := TX2) (N := 14) hx hb hts hinX2 hown hK hP 0 rfl rfl 1 (by decide) (hts (.fieldLink RX2 7 "HiveYardModel" "boxes" "[I") (by decide +kernel)) (fun _ h9 => h9) rfl dX2_same_48 ?_
        refine lv_iload_n hx hb dX2_same_51 rfl (lv_at hl 2 rfl) ?_
        refine va_iald hx hb hK hP 1 0 rfl rfl (hy_ok_in ok16) dX2_same_52 ?_
        refine lv_icmp_ne (tgt := 60) hx hb dX2_same_53 (by decide) (fun c_53 => ?_) (fun c_53 => ?_)
        · -- 60
          refine lv_iconst (v := 0) hx hb dX2_same_60 (by decide) ?_
          have hk9 : hy_k2b a1 a2 = 0 := by simp only [hy_k2b, if_pos (hy_kbox0 ok9), hy_kbox0 ok16]
          have eS : (hy_M cI cJ n0 bM sM zM tM xM kM wM eM S 0 tk) = (hy_M cI cJ n0 bM sM zM tM xM kM wM eM (hy_if (hy_k2b a1 a2) S S) (hy_k2b a1 a2) tk) := by rw [hk9]; exact congrArg (fun s9 => hy_M cI cJ n0 bM sM zM tM xM kM wM eM s9 0 tk) (Eq.trans (rfl : S = S) (hy_if_0 _ _).symm)
          have hPz : va_P D vwCl (hy_M cI cJ n0 bM sM zM tM xM kM wM eM (hy_if (hy_k2b a1 a2) S S) (hy_k2b a1 a2) tk) H := by rw [← eS]; exact hP
          have hDz : va_D A (hy_M cI cJ n0 bM sM zM tM xM kM wM eM (hy_if (hy_k2b a1 a2) S S) (hy_k2b a1 a2) tk) := by rw [← eS]; exact hD
          exact W.zret (v := 0) (ty := .boolean) hx hb hr (by decide +kernel) (fun t ht hW => ⟨⟨_, (), rfl, fun _ => by rw [hy_vsame]; first | exact (if_pos i38).symm | (rw [if_neg i38]; first | exact (if_pos (hy_enc_inj hwf (by rw [hb38]; exact c_53))).symm | exact (if_neg (fun q => c_53 (by rw [← q, hb38]; rfl))).symm), tk, by rw [ht]; exact hPz, va_K.moved hW.alike hK, hDz⟩, hS.F ht⟩) hS.2.2 dX2_same_61
        · -- 56
          refine lv_iconst (v := 1) hx hb dX2_same_56 (by decide) ?_
          refine lv_goto (tgt := 61) hx hb dX2_same_57 (by decide) ?_
          have hk9 : hy_k2b a1 a2 = 0 := by simp only [hy_k2b, if_pos (hy_kbox0 ok9), hy_kbox0 ok16]
          have eS : (hy_M cI cJ n0 bM sM zM tM xM kM wM eM S 0 tk) = (hy_M cI cJ n0 bM sM zM tM xM kM wM eM (hy_if (hy_k2b a1 a2) S S) (hy_k2b a1 a2) tk) := by rw [hk9]; exact congrArg (fun s9 => hy_M cI cJ n0 bM sM zM tM xM kM wM eM s9 0 tk) (Eq.trans (rfl : S = S) (hy_if_0 _ _).symm)
          have hPz : va_P D vwCl (hy_M cI cJ n0 bM sM zM tM xM kM wM eM (hy_if (hy_k2b a1 a2) S S) (hy_k2b a1 a2) tk) H := by rw [← eS]; exact hP
          have hDz : va_D A (hy_M cI cJ n0 bM sM zM tM xM kM wM eM (hy_if (hy_k2b a1 a2) S S) (hy_k2b a1 a2) tk) := by rw [← eS]; exact hD
          exact W.zret (v := 1) (ty := .boolean) hx hb hr (by decide +kernel) (fun t ht hW => ⟨⟨_, (), rfl, fun _ => by rw [hy_vsame]; first | exact (if_pos i38).symm | (rw [if_neg i38]; first | exact (if_pos (hy_enc_inj hwf (by rw [hb38]; exact c_53))).symm | exact (if_neg (fun q => c_53 (by rw [← q, hb38]; rfl))).symm), tk, by rw [ht]; exact hPz, va_K.moved hW.alike hK, hDz⟩, hS.F ht⟩) hS.2.2 dX2_same_61
    · -- 19
      refine lv_aload_n hx hb dX2_same_19 rfl (lv_at hl 0 rfl) ?_
      refine lv_iconst (v := 1) hx hb dX2_same_20 (by decide) ?_
      have hFc := hy_free hD hS hA
      refine va_calli (va_runV (As := [.int 1]) (rest := []) ⟨hx, hb, hml, hown, hts⟩ (c_X2_fail l D cI cJ cB n0 bM sM zM tM xM kM wM eM S 0 tk H.size 1) (cwV 1 hts gX2_same_X2_fail rfl rfl rfl (by decide +kernel) ⟨Nat.le_of_ble_eq_true rfl, Nat.le_of_ble_eq_true rfl⟩) ⟨hy_JM_blind, va_recv hK hP (ci := 2) (q0 := 0) rfl rfl, fun U hU hW => ⟨rfl, by rw [hU], hy_J_at hU hW hP hK, hD.weaken (fun _ _ _ _ => trivial)⟩⟩ rfl rfl hl.1 rfl (lv_room (Nat.le_of_ble_eq_true rfl)) dX2_same_21 ⟨Nat.le_of_ble_eq_true rfl, Nat.le_of_ble_eq_true rfl⟩) hS (fun q _ h => hFc q h) hFc (fun v9 u t H locs ht hvm hw hB hz1 hk1 hS => ?_)
      obtain ⟨tk21, hP1, hK1, hD1⟩ := hB
      rw [ht] at hP1
      have hP : va_P D vwCl (hy_M cI cJ n0 bM sM zM tM xM kM wM eM S 1 tk21) H := hP1
      have hD : va_D A (hy_M cI cJ n0 bM sM zM tM xM kM wM eM S 1 tk21) := hD1.weaken (fun _ q _ h => hFc q.1 h)
      clear hP1 hK1 hD1 hFc
      subst hw
      refine lv_if_le (tgt := 31) hx hb dX2_same_24 (by decide) (fun c_24 => ?_) (fun c9 => absurd c9 (fun c => c (by decide)))
      refine lv_iconst (v := 0) hx hb dX2_same_31 (by decide) ?_
      have hk9 : hy_k2b a1 a2 = 1 := by simp only [hy_k2b, if_pos (hy_kbox0 ok9), hy_kbox1e (hy_misbox_no c_16)]
      have eS : (hy_M cI cJ n0 bM sM zM tM xM kM wM eM S 1 tk21) = (hy_M cI cJ n0 bM sM zM tM xM kM wM eM (hy_if (hy_k2b a1 a2) S S) (hy_k2b a1 a2) tk21) := by rw [hk9]; exact congrArg (fun s9 => hy_M cI cJ n0 bM sM zM tM xM kM wM eM s9 1 tk21) (hy_if_n (by decide) _ _).symm
      have hPz : va_P D vwCl (hy_M cI cJ n0 bM sM zM tM xM kM wM eM (hy_if (hy_k2b a1 a2) S S) (hy_k2b a1 a2) tk21) H := by rw [← eS]; exact hP
      have hDz : va_D A (hy_M cI cJ n0 bM sM zM tM xM kM wM eM (hy_if (hy_k2b a1 a2) S S) (hy_k2b a1 a2) tk21) := by rw [← eS]; exact hD
      exact W.zret (v := 0) (ty := .boolean) hx hb hr (by decide +kernel) (fun t ht hW => ⟨⟨_, (), rfl, fun q => absurd (hk9.symm.trans q) (by decide), tk21, by rw [ht]; exact hPz, va_K.moved hW.alike hK, hDz⟩, hS.F ht⟩) hS.2.2 dX2_same_32
