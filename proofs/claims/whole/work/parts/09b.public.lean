/-! THE CLASS: its public methods but row. Rows laid by gen.py, specs_p.py. -/
set_option maxHeartbeats 4000000 in
set_option maxRecDepth 100000 in
theorem c_X1_lid (l : Launch) (D : va_G) (cI cJ cB : ClassId) (h b k w z : Nat) (ad ca : Nat → Nat) (S : hy_S) (hl9 : l.stackTraces = false) (hwf : hy_wf S) (sz : Nat) (a1 : Int32) : vx_Met l yX1_lid wsX1_lid ({ frames := 8, cells := 1, slots := 6, locals := 131 }) (va_Pc [.ref h, .int a1] (hy_IP D cI cJ cB h b k w z ad ca S sz)) (va_Qi (fun (r9 : Int32) (_ : Unit) => hy_kbox a1 = 0 ∧ r9 = hy_vlid S a1) (fun _ => hy_At D cI cJ cB h (hy_ubx S (va_up (hy_bx S) a1.toNatClampNeg (some 0))) (va_A (hy_W cI cJ cB h b k w z ad ca S) sz)) (va_A (hy_W cI cJ cB h b k w z ad ca S) sz)) (hy_X (hy_nm ["java/lang/IndexOutOfBoundsException"] (hy_kbox a1))) 1 6 (va_A (hy_W cI cJ cB h b k w z ad ca S) sz) := by
  refine vx_ofW (cc := cX1_lid) (maxL := 3) (ret := (some .boolean)) (by decide) rfl ?_
  intro p e s m args below meth c s₁ B hml hno hv
  obtain ⟨rfl, hsz, ⟨⟨hP, hK⟩, hE, hZ⟩, hD0⟩ := hv
  have hx := B.exec
  have hb := B.bytes
  have hr := B.returns
  have hts := atoms_spec (ws := wsX1_lid) B.pre
  have hown : s.vm.findClass RX1 = some m.cls := findClass_of_methodNamed B.named
  have hlocks := B.notSynchronized
  subst hsz
  have hD := hD0.self (sz := s.heap.size)
  generalize hAe : va_A (hy_W cI cJ cB h b k w z ad ca S) s.heap.size = A at hD ⊢
  have hA : ∀ q : Nat, s.heap.size ≤ q → A q := fun q h => by rw [← hAe]; exact Or.inr h
  have hS : va_S A s.heap s.heap [] := va_S.rf
  have hinX1 : ∀ w ∈ wsX10, w ∈ wsX1_lid := by decide +kernel
  have hl := lv_entry ([.ref h, .int a1]) (n := 3) (Nat.le_of_ble_eq_true rfl)
  rw [lg_entry_eq]
  generalize (lg_sl ([.ref h, .int a1]) ++ List.replicate (3 - (lg_sl ([.ref h, .int a1])).length) Slot.unset).toArray = ls at hl ⊢
  have hl : lv_has ls 3 [(0, .ref h), (1, .int a1)] := hl
  refine lv_aload_n hx hb dX1_lid_0 rfl (lv_at hl 0 rfl) ?_
  refine lv_iload_n hx hb dX1_lid_1 rfl (lv_at hl 1 rfl) ?_
  refine hy_thruq (vx_runV (As := [.int a1]) (rest := []) ⟨hx, hb, hml, hown, hts⟩ (c_X1_contentOf l D cI cJ cB h b k w z ad ca S hl9 a1) (cwV 1 hts gX1_lid_X1_contentOf rfl rfl rfl (by decide +kernel) ⟨Nat.le_of_ble_eq_true rfl, Nat.le_of_ble_eq_true rfl⟩) ⟨hy_IX_blind, va_recv hK hP (ci := 1) (q0 := 0) rfl rfl, fun U hU hW => ⟨rfl, hy_IX_at hU hW hP hK hE hZ⟩⟩ rfl rfl hl.1 rfl (lv_room (Nat.le_of_ble_eq_true rfl)) dX1_lid_2 ⟨Nat.le_of_ble_eq_true rfl, Nat.le_of_ble_eq_true rfl⟩) hno hlocks (fun E q => ⟨0, by rw [q.1]; rfl, (by simp only [hy_kbox1e q.2] : hy_kbox a1 = 1).trans (by decide +kernel)⟩) (Nat.le_of_ble_eq_true rfl) (Nat.le_of_ble_eq_true rfl) (fun r9 e9 => ?_)
  obtain ⟨rfl, f_2⟩ := e9
  cases hb2 : hy_bx S a1.toNatClampNeg with
  | none =>
    refine W.eq (g2 := F0 m 5 ls [.null]) rfl ?_
    refine lv_astore_nN (lv' := [(2, .null), (0, .ref h), (1, .int a1)]) hx hb dX1_lid_5 rfl hl (by decide) rfl (fun ls hl => ?_)
    refine lv_aload_n hx hb dX1_lid_6 rfl (lv_at hl 1 rfl) ?_
    refine va_get (D := D) (ci := 1) (v := .ref b) (C := RX1) (T := TX1) (N := 10) hx hb hts hinX1 hown hK hP 0 rfl rfl 0 (by decide) (hts (.fieldLink RX1 11 "HiveYard" "boxes" "[LHiveYard$Content;") (by decide +kernel)) (fun _ h9 => h9) rfl dX1_lid_7 ?_
    refine lv_iload_n hx hb dX1_lid_10 rfl (lv_at hl 2 rfl) ?_
    refine lv_aload_n hx hb dX1_lid_11 rfl (lv_at hl 1 rfl) ?_
    refine va_get (D := D) (ci := 1) (v := .ref (ad 0)) (C := RX1) (T := TX1) (N := 10) hx hb hts hinX1 hown hK hP 0 rfl rfl 1 (by decide) (hts (.fieldLink RX1 18 "HiveYard" "oneLid" "LHiveYard$Content;") (by decide +kernel)) (fun _ h9 => h9) rfl dX1_lid_12 ?_
    refine va_astq hx hb hK hP hD hS 1 2 (5 + 0) 0 rfl rfl (hy_W_row (Nat.zero_le _)) rfl (hy_ok_in f_2) dX1_lid_15 (fun H locs hP hD hS => ?_)
    have hP : va_P D vwCl (hy_W cI cJ cB h b k w z ad ca (hy_ubx S (va_up (hy_bx S) a1.toNatClampNeg (some 0)))) H := by rw [← hy_W_setBox a1.toNatClampNeg (some 0)]; exact hP
    have hD : va_D A (hy_W cI cJ cB h b k w z ad ca (hy_ubx S (va_up (hy_bx S) a1.toNatClampNeg (some 0)))) := by rw [← hy_W_setBox a1.toNatClampNeg (some 0)]; exact hD
    refine lv_aload_nN hx hb dX1_lid_16 rfl (lv_at hl 0 rfl) ?_
    refine lv_aload_n hx hb dX1_lid_17 rfl (lv_at hl 1 rfl) ?_
    refine va_get (D := D) (ci := 1) (v := .ref (ad 0)) (C := RX1) (T := TX1) (N := 10) hx hb hts hinX1 hown hK hP 0 rfl rfl 1 (by decide) (hts (.fieldLink RX1 18 "HiveYard" "oneLid" "LHiveYard$Content;") (by decide +kernel)) (fun _ h9 => h9) rfl dX1_lid_18 ?_
    refine lv_acmp_eq (rx := (none : Option Nat)) (ry := (some (ad 0))) (tgt := 28) hx hb dX1_lid_21 (by decide) (fun c_21 => ?_) (fun c_21 => ?_)
    · -- 28
      refine lv_iconst (v := 0) hx hb dX1_lid_28 (by decide) ?_
      exact vx_ret (W.widen (k := 1) (n := 6) (by decide) (by decide) (W.zret (v := 0) (ty := .boolean) hx hb hr (by decide +kernel) (fun t ht hW => ⟨⟨_, (), rfl, ⟨hy_kbox0 f_2, by rw [hy_vlid, hb2]; first | rfl | exact absurd c_21 (fun q => nomatch q)⟩, b, k, w, z, ad, ca, by rw [ht]; exact hP, va_K.moved hW.alike hK, hD⟩, hS.F ht⟩) hS.2.2 dX1_lid_29))
    · -- 24
      refine lv_iconst (v := 1) hx hb dX1_lid_24 (by decide) ?_
      refine lv_goto (tgt := 29) hx hb dX1_lid_25 (by decide) ?_
      exact vx_ret (W.widen (k := 1) (n := 6) (by decide) (by decide) (W.zret (v := 1) (ty := .boolean) hx hb hr (by decide +kernel) (fun t ht hW => ⟨⟨_, (), rfl, ⟨hy_kbox0 f_2, by rw [hy_vlid, hb2]; first | rfl | exact absurd c_21 (fun q => nomatch q)⟩, b, k, w, z, ad, ca, by rw [ht]; exact hP, va_K.moved hW.alike hK, hD⟩, hS.F ht⟩) hS.2.2 dX1_lid_29))
  | some r2 =>
    have hr2 : r2 ≤ hy_nr S := hwf.2.2.1 _ _ hb2
    refine W.eq (g2 := F0 m 5 ls [.ref (ad r2)]) rfl ?_
    refine lv_astore_n (lv' := [(2, .ref (ad r2)), (0, .ref h), (1, .int a1)]) hx hb dX1_lid_5 rfl hl (by decide) rfl (fun ls hl => ?_)
    refine lv_aload_n hx hb dX1_lid_6 rfl (lv_at hl 1 rfl) ?_
    refine va_get (D := D) (ci := 1) (v := .ref b) (C := RX1) (T := TX1) (N := 10) hx hb hts hinX1 hown hK hP 0 rfl rfl 0 (by decide) (hts (.fieldLink RX1 11 "HiveYard" "boxes" "[LHiveYard$Content;") (by decide +kernel)) (fun _ h9 => h9) rfl dX1_lid_7 ?_
    refine lv_iload_n hx hb dX1_lid_10 rfl (lv_at hl 2 rfl) ?_
    refine lv_aload_n hx hb dX1_lid_11 rfl (lv_at hl 1 rfl) ?_
    refine va_get (D := D) (ci := 1) (v := .ref (ad 0)) (C := RX1) (T := TX1) (N := 10) hx hb hts hinX1 hown hK hP 0 rfl rfl 1 (by decide) (hts (.fieldLink RX1 18 "HiveYard" "oneLid" "LHiveYard$Content;") (by decide +kernel)) (fun _ h9 => h9) rfl dX1_lid_12 ?_
    refine va_astq hx hb hK hP hD hS 1 2 (5 + 0) 0 rfl rfl (hy_W_row (Nat.zero_le _)) rfl (hy_ok_in f_2) dX1_lid_15 (fun H locs hP hD hS => ?_)
    have hP : va_P D vwCl (hy_W cI cJ cB h b k w z ad ca (hy_ubx S (va_up (hy_bx S) a1.toNatClampNeg (some 0)))) H := by rw [← hy_W_setBox a1.toNatClampNeg (some 0)]; exact hP
    have hD : va_D A (hy_W cI cJ cB h b k w z ad ca (hy_ubx S (va_up (hy_bx S) a1.toNatClampNeg (some 0)))) := by rw [← hy_W_setBox a1.toNatClampNeg (some 0)]; exact hD
    refine lv_aload_n hx hb dX1_lid_16 rfl (lv_at hl 0 rfl) ?_
    refine lv_aload_n hx hb dX1_lid_17 rfl (lv_at hl 1 rfl) ?_
    refine va_get (D := D) (ci := 1) (v := .ref (ad 0)) (C := RX1) (T := TX1) (N := 10) hx hb hts hinX1 hown hK hP 0 rfl rfl 1 (by decide) (hts (.fieldLink RX1 18 "HiveYard" "oneLid" "LHiveYard$Content;") (by decide +kernel)) (fun _ h9 => h9) rfl dX1_lid_18 ?_
    refine lv_acmp_eq (rx := (some (ad r2))) (ry := (some (ad 0))) (tgt := 28) hx hb dX1_lid_21 (by decide) (fun c_21 => ?_) (fun c_21 => ?_)
    · -- 28
      refine lv_iconst (v := 0) hx hb dX1_lid_28 (by decide) ?_
      exact vx_ret (W.widen (k := 1) (n := 6) (by decide) (by decide) (W.zret (v := 0) (ty := .boolean) hx hb hr (by decide +kernel) (fun t ht hW => ⟨⟨_, (), rfl, ⟨hy_kbox0 f_2, by rw [hy_vlid, hb2]; first | exact (if_pos (congrArg some (hy_adinj hD hr2 (Nat.zero_le _) (Option.some.inj c_21)))).symm | exact (if_neg (fun q => c_21 (congrArg (fun x => some (ad x)) (Option.some.inj q)))).symm⟩, b, k, w, z, ad, ca, by rw [ht]; exact hP, va_K.moved hW.alike hK, hD⟩, hS.F ht⟩) hS.2.2 dX1_lid_29))
    · -- 24
      refine lv_iconst (v := 1) hx hb dX1_lid_24 (by decide) ?_
      refine lv_goto (tgt := 29) hx hb dX1_lid_25 (by decide) ?_
      exact vx_ret (W.widen (k := 1) (n := 6) (by decide) (by decide) (W.zret (v := 1) (ty := .boolean) hx hb hr (by decide +kernel) (fun t ht hW => ⟨⟨_, (), rfl, ⟨hy_kbox0 f_2, by rw [hy_vlid, hb2]; first | exact (if_pos (congrArg some (hy_adinj hD hr2 (Nat.zero_le _) (Option.some.inj c_21)))).symm | exact (if_neg (fun q => c_21 (congrArg (fun x => some (ad x)) (Option.some.inj q)))).symm⟩, b, k, w, z, ad, ca, by rw [ht]; exact hP, va_K.moved hW.alike hK, hD⟩, hS.F ht⟩) hS.2.2 dX1_lid_29))
set_option maxHeartbeats 4000000 in
set_option maxRecDepth 100000 in
theorem c_X1_clear (l : Launch) (D : va_G) (cI cJ cB : ClassId) (h b k w z : Nat) (ad ca : Nat → Nat) (S : hy_S) (hl9 : l.stackTraces = false) (hwf : hy_wf S) (sz : Nat) (a1 : Int32) : vx_Met l yX1_clear wsX1_clear ({ frames := 8, cells := 1, slots := 6, locals := 131 }) (va_Pc [.ref h, .int a1] (hy_IP D cI cJ cB h b k w z ad ca S sz)) (va_Qi (fun (r9 : Int32) (_ : Unit) => hy_kbox a1 = 0 ∧ r9 = hy_vclear S a1) (fun _ => hy_At D cI cJ cB h (hy_ubx S (va_up (hy_bx S) a1.toNatClampNeg none)) (va_A (hy_W cI cJ cB h b k w z ad ca S) sz)) (va_A (hy_W cI cJ cB h b k w z ad ca S) sz)) (hy_X (hy_nm ["java/lang/IndexOutOfBoundsException"] (hy_kbox a1))) 1 6 (va_A (hy_W cI cJ cB h b k w z ad ca S) sz) := by
  refine vx_ofW (cc := cX1_clear) (maxL := 3) (ret := (some .boolean)) (by decide) rfl ?_
  intro p e s m args below meth c s₁ B hml hno hv
  obtain ⟨rfl, hsz, ⟨⟨hP, hK⟩, hE, hZ⟩, hD0⟩ := hv
  have hx := B.exec
  have hb := B.bytes
  have hr := B.returns
  have hts := atoms_spec (ws := wsX1_clear) B.pre
  have hown : s.vm.findClass RX1 = some m.cls := findClass_of_methodNamed B.named
  have hlocks := B.notSynchronized
  subst hsz
  have hD := hD0.self (sz := s.heap.size)
  generalize hAe : va_A (hy_W cI cJ cB h b k w z ad ca S) s.heap.size = A at hD ⊢
  have hA : ∀ q : Nat, s.heap.size ≤ q → A q := fun q h => by rw [← hAe]; exact Or.inr h
  have hS : va_S A s.heap s.heap [] := va_S.rf
  have hinX1 : ∀ w ∈ wsX10, w ∈ wsX1_clear := by decide +kernel
  have hl := lv_entry ([.ref h, .int a1]) (n := 3) (Nat.le_of_ble_eq_true rfl)
  rw [lg_entry_eq]
  generalize (lg_sl ([.ref h, .int a1]) ++ List.replicate (3 - (lg_sl ([.ref h, .int a1])).length) Slot.unset).toArray = ls at hl ⊢
  have hl : lv_has ls 3 [(0, .ref h), (1, .int a1)] := hl
  refine lv_aload_n hx hb dX1_clear_0 rfl (lv_at hl 0 rfl) ?_
  refine lv_iload_n hx hb dX1_clear_1 rfl (lv_at hl 1 rfl) ?_
  refine hy_thruq (vx_runV (As := [.int a1]) (rest := []) ⟨hx, hb, hml, hown, hts⟩ (c_X1_contentOf l D cI cJ cB h b k w z ad ca S hl9 a1) (cwV 1 hts gX1_clear_X1_contentOf rfl rfl rfl (by decide +kernel) ⟨Nat.le_of_ble_eq_true rfl, Nat.le_of_ble_eq_true rfl⟩) ⟨hy_IX_blind, va_recv hK hP (ci := 1) (q0 := 0) rfl rfl, fun U hU hW => ⟨rfl, hy_IX_at hU hW hP hK hE hZ⟩⟩ rfl rfl hl.1 rfl (lv_room (Nat.le_of_ble_eq_true rfl)) dX1_clear_2 ⟨Nat.le_of_ble_eq_true rfl, Nat.le_of_ble_eq_true rfl⟩) hno hlocks (fun E q => ⟨0, by rw [q.1]; rfl, (by simp only [hy_vclear, hy_kbox1e q.2] : hy_kbox a1 = 1).trans (by decide +kernel)⟩) (Nat.le_of_ble_eq_true rfl) (Nat.le_of_ble_eq_true rfl) (fun r9 e9 => ?_)
  obtain ⟨rfl, f_2⟩ := e9
  cases hb2 : hy_bx S a1.toNatClampNeg with
  | none =>
    refine W.eq (g2 := F0 m 5 ls [.null]) rfl ?_
    refine lv_astore_nN (lv' := [(2, .null), (0, .ref h), (1, .int a1)]) hx hb dX1_clear_5 rfl hl (by decide) rfl (fun ls hl => ?_)
    refine lv_aload_n hx hb dX1_clear_6 rfl (lv_at hl 1 rfl) ?_
    refine va_get (D := D) (ci := 1) (v := .ref b) (C := RX1) (T := TX1) (N := 10) hx hb hts hinX1 hown hK hP 0 rfl rfl 0 (by decide) (hts (.fieldLink RX1 11 "HiveYard" "boxes" "[LHiveYard$Content;") (by decide +kernel)) (fun _ h9 => h9) rfl dX1_clear_7 ?_
    refine lv_iload_n hx hb dX1_clear_10 rfl (lv_at hl 2 rfl) ?_
    refine lv_null hx hb dX1_clear_11 ?_
    refine va_astqN hx hb hK hP hD hS 1 2 rfl rfl (hy_ok_in f_2) dX1_clear_12 (fun H locs hP hD hS => ?_)
    have hP : va_P D vwCl (hy_W cI cJ cB h b k w z ad ca (hy_ubx S (va_up (hy_bx S) a1.toNatClampNeg none))) H := by rw [← hy_W_setBox a1.toNatClampNeg none]; exact hP
    have hD : va_D A (hy_W cI cJ cB h b k w z ad ca (hy_ubx S (va_up (hy_bx S) a1.toNatClampNeg none))) := by rw [← hy_W_setBox a1.toNatClampNeg none]; exact hD
    refine lv_aload_nN hx hb dX1_clear_13 rfl (lv_at hl 0 rfl) ?_
    refine lv_ifnullN (tgt := 21) hx hb dX1_clear_14 (by decide) ?_
    refine lv_iconst (v := 0) hx hb dX1_clear_21 (by decide) ?_
    exact vx_ret (W.widen (k := 1) (n := 6) (by decide) (by decide) (W.zret (v := 0) (ty := .boolean) hx hb hr (by decide +kernel) (fun t ht hW => ⟨⟨_, (), rfl, ⟨hy_kbox0 f_2, by first | rfl | (simp only [hy_vclear, if_pos (hy_kbox0 f_2), hb2]; done)⟩, b, k, w, z, ad, ca, by rw [ht]; exact hP, va_K.moved hW.alike hK, hD⟩, hS.F ht⟩) hS.2.2 dX1_clear_22))
  | some r2 =>
    have hr2 : r2 ≤ hy_nr S := hwf.2.2.1 _ _ hb2
    refine W.eq (g2 := F0 m 5 ls [.ref (ad r2)]) rfl ?_
    refine lv_astore_n (lv' := [(2, .ref (ad r2)), (0, .ref h), (1, .int a1)]) hx hb dX1_clear_5 rfl hl (by decide) rfl (fun ls hl => ?_)
    refine lv_aload_n hx hb dX1_clear_6 rfl (lv_at hl 1 rfl) ?_
    refine va_get (D := D) (ci := 1) (v := .ref b) (C := RX1) (T := TX1) (N := 10) hx hb hts hinX1 hown hK hP 0 rfl rfl 0 (by decide) (hts (.fieldLink RX1 11 "HiveYard" "boxes" "[LHiveYard$Content;") (by decide +kernel)) (fun _ h9 => h9) rfl dX1_clear_7 ?_
    refine lv_iload_n hx hb dX1_clear_10 rfl (lv_at hl 2 rfl) ?_
    refine lv_null hx hb dX1_clear_11 ?_
    refine va_astqN hx hb hK hP hD hS 1 2 rfl rfl (hy_ok_in f_2) dX1_clear_12 (fun H locs hP hD hS => ?_)
    have hP : va_P D vwCl (hy_W cI cJ cB h b k w z ad ca (hy_ubx S (va_up (hy_bx S) a1.toNatClampNeg none))) H := by rw [← hy_W_setBox a1.toNatClampNeg none]; exact hP
    have hD : va_D A (hy_W cI cJ cB h b k w z ad ca (hy_ubx S (va_up (hy_bx S) a1.toNatClampNeg none))) := by rw [← hy_W_setBox a1.toNatClampNeg none]; exact hD
    refine lv_aload_n hx hb dX1_clear_13 rfl (lv_at hl 0 rfl) ?_
    refine lv_ifnull hx hb dX1_clear_14 ?_
    refine lv_iconst (v := 1) hx hb dX1_clear_17 (by decide) ?_
    refine lv_goto (tgt := 22) hx hb dX1_clear_18 (by decide) ?_
    exact vx_ret (W.widen (k := 1) (n := 6) (by decide) (by decide) (W.zret (v := 1) (ty := .boolean) hx hb hr (by decide +kernel) (fun t ht hW => ⟨⟨_, (), rfl, ⟨hy_kbox0 f_2, by first | rfl | (simp only [hy_vclear, if_pos (hy_kbox0 f_2), hb2]; done)⟩, b, k, w, z, ad, ca, by rw [ht]; exact hP, va_K.moved hW.alike hK, hD⟩, hS.F ht⟩) hS.2.2 dX1_clear_22))
set_option maxHeartbeats 4000000 in
set_option maxRecDepth 100000 in
theorem c_X1_share (l : Launch) (D : va_G) (cI cJ cB : ClassId) (h b k w z : Nat) (ad ca : Nat → Nat) (S : hy_S) (hl9 : l.stackTraces = false) (hwf : hy_wf S) (sz : Nat) (a1 a2 : Int32) : vx_Met l yX1_share wsX1_share ({ frames := 8, cells := 2, slots := 12, locals := 131 }) (va_Pc [.ref h, .int a1, .int a2] (hy_IP D cI cJ cB h b k w z ad ca S sz)) (va_Qi (fun (r9 : Int32) (_ : Unit) => hy_k2b a1 a2 = 0 ∧ r9 = hy_vhold S a2) (fun _ => hy_At D cI cJ cB h (hy_sshare S a1 a2) (va_A (hy_W cI cJ cB h b k w z ad ca S) sz)) (va_A (hy_W cI cJ cB h b k w z ad ca S) sz)) (hy_X (hy_nm ["java/lang/IndexOutOfBoundsException"] (hy_k2b a1 a2))) 2 12 (va_A (hy_W cI cJ cB h b k w z ad ca S) sz) := by
  refine vx_ofW (cc := cX1_share) (maxL := 4) (ret := (some .int)) (by decide) rfl ?_
  intro p e s m args below meth c s₁ B hml hno hv
  obtain ⟨rfl, hsz, ⟨⟨hP, hK⟩, hE, hZ⟩, hD0⟩ := hv
  have hx := B.exec
  have hb := B.bytes
  have hr := B.returns
  have hts := atoms_spec (ws := wsX1_share) B.pre
  have hown : s.vm.findClass RX1 = some m.cls := findClass_of_methodNamed B.named
  have hlocks := B.notSynchronized
  subst hsz
  have hD := hD0.self (sz := s.heap.size)
  generalize hAe : va_A (hy_W cI cJ cB h b k w z ad ca S) s.heap.size = A at hD ⊢
  have hA : ∀ q : Nat, s.heap.size ≤ q → A q := fun q h => by rw [← hAe]; exact Or.inr h
  have hS : va_S A s.heap s.heap [] := va_S.rf
  have hinX1 : ∀ w ∈ wsX10, w ∈ wsX1_share := by decide +kernel
  have hl := lv_entry ([.ref h, .int a1, .int a2]) (n := 4) (Nat.le_of_ble_eq_true rfl)
  rw [lg_entry_eq]
  generalize (lg_sl ([.ref h, .int a1, .int a2]) ++ List.replicate (4 - (lg_sl ([.ref h, .int a1, .int a2])).length) Slot.unset).toArray = ls at hl ⊢
  have hl : lv_has ls 4 [(0, .ref h), (1, .int a1), (2, .int a2)] := hl
  refine lv_iload_n hx hb dX1_share_0 rfl (lv_at hl 1 rfl) ?_
  refine hy_thruv (vx_runS (As := [.int a1]) (rest := []) ⟨hx, hb, hml, hown, hts⟩ (c_X1_requireBox l D cI cJ cB h b k w z ad ca S hl9 a1) (va_cwS 1 hts gX1_share_X1_requireBox rfl rfl rfl (by decide +kernel) ⟨Nat.le_of_ble_eq_true rfl, Nat.le_of_ble_eq_true rfl⟩) ⟨hy_IX_blind, fun U hU hW => ⟨rfl, hy_IX_at hU hW hP hK hE hZ⟩⟩ rfl rfl hl.1 rfl (lv_room (Nat.le_of_ble_eq_true rfl)) dX1_share_1 ⟨Nat.le_of_ble_eq_true rfl, Nat.le_of_ble_eq_true rfl⟩) hno hlocks (fun E q => ⟨0, by rw [q.1]; rfl, (by simp only [hy_k2b, if_neg (hy_kbox1 q.2)] : hy_k2b a1 a2 = 1).trans (by decide +kernel)⟩) (Nat.le_of_ble_eq_true rfl) (Nat.le_of_ble_eq_true rfl) (fun f_1 => ?_)
  refine lv_aload_n hx hb dX1_share_4 rfl (lv_at hl 0 rfl) ?_
  refine lv_iload_n hx hb dX1_share_5 rfl (lv_at hl 2 rfl) ?_
  refine hy_thruq (vx_runV (As := [.int a2]) (rest := []) ⟨hx, hb, hml, hown, hts⟩ (c_X1_contentOf l D cI cJ cB h b k w z ad ca S hl9 a2) (cwV 1 hts gX1_share_X1_contentOf rfl rfl rfl (by decide +kernel) ⟨Nat.le_of_ble_eq_true rfl, Nat.le_of_ble_eq_true rfl⟩) ⟨hy_IX_blind, va_recv hK hP (ci := 1) (q0 := 0) rfl rfl, fun U hU hW => ⟨rfl, hy_IX_at hU hW hP hK hE hZ⟩⟩ rfl rfl hl.1 rfl (lv_room (Nat.le_of_ble_eq_true rfl)) dX1_share_6 ⟨Nat.le_of_ble_eq_true rfl, Nat.le_of_ble_eq_true rfl⟩) hno hlocks (fun E q => ⟨0, by rw [q.1]; rfl, (by simp only [hy_k2b, if_pos (hy_kbox0 f_1), hy_kbox1e q.2] : hy_k2b a1 a2 = 1).trans (by decide +kernel)⟩) (Nat.le_of_ble_eq_true rfl) (Nat.le_of_ble_eq_true rfl) (fun r9 e9 => ?_)
  obtain ⟨rfl, f_6⟩ := e9
  cases hb6 : hy_bx S a2.toNatClampNeg with
  | none =>
    refine W.eq (g2 := F0 m 9 ls [.null]) rfl ?_
    refine lv_astore_nN (lv' := [(3, .null), (0, .ref h), (1, .int a1), (2, .int a2)]) hx hb dX1_share_9 rfl hl (by decide) rfl (fun ls hl => ?_)
    refine lv_aload_n hx hb dX1_share_10 rfl (lv_at hl 1 rfl) ?_
    refine va_get (D := D) (ci := 1) (v := .ref b) (C := RX1) (T := TX1) (N := 10) hx hb hts hinX1 hown hK hP 0 rfl rfl 0 (by decide) (hts (.fieldLink RX1 11 "HiveYard" "boxes" "[LHiveYard$Content;") (by decide +kernel)) (fun _ h9 => h9) rfl dX1_share_11 ?_
    refine lv_iload_n hx hb dX1_share_14 rfl (lv_at hl 2 rfl) ?_
    refine lv_aload_nN hx hb dX1_share_15 rfl (lv_at hl 0 rfl) ?_
    refine va_astqN hx hb hK hP hD hS 1 2 rfl rfl (hy_ok_in f_1) dX1_share_16 (fun H locs hP hD hS => ?_)
    have hP : va_P D vwCl (hy_W cI cJ cB h b k w z ad ca (hy_ubx S (va_up (hy_bx S) a1.toNatClampNeg none))) H := by rw [← hy_W_setBox a1.toNatClampNeg none]; exact hP
    have hD : va_D A (hy_W cI cJ cB h b k w z ad ca (hy_ubx S (va_up (hy_bx S) a1.toNatClampNeg none))) := by rw [← hy_W_setBox a1.toNatClampNeg none]; exact hD
    refine lv_aload_nN hx hb dX1_share_17 rfl (lv_at hl 0 rfl) ?_
    refine vp_callSi (W.runS (As := [.null]) (rest := []) ⟨hx, hb, hml, hown, hts⟩ (c_X1_sortOf l D cI cJ cB h b k w z ad ca (hy_ubx S (va_up (hy_bx S) a1.toNatClampNeg none)) none (fun _ q => nomatch q)) (va_cwS 1 hts gX1_share_X1_sortOf rfl rfl rfl (by decide +kernel) ⟨Nat.le_of_ble_eq_true rfl, Nat.le_of_ble_eq_true rfl⟩) ⟨hy_I_blind, fun U hU hW => ⟨rfl, hy_I_at hU hW hP hK⟩⟩ rfl rfl hl.1 rfl (lv_room (Nat.le_of_ble_eq_true rfl)) dX1_share_18 ⟨Nat.le_of_ble_eq_true rfl, Nat.le_of_ble_eq_true rfl⟩) (fun v9 e9 => ?_)
    subst e9
    have eS : (hy_W cI cJ cB h b k w z ad ca (hy_ubx S (va_up (hy_bx S) a1.toNatClampNeg none))) = (hy_W cI cJ cB h b k w z ad ca (hy_sshare S a1 a2)) := congrArg (hy_W cI cJ cB h b k w z ad ca) (by rw [hy_sshare, hb6])
    have hP : va_P D vwCl (hy_W cI cJ cB h b k w z ad ca (hy_sshare S a1 a2)) H := by rw [← eS]; exact hP
    have hD : va_D A (hy_W cI cJ cB h b k w z ad ca (hy_sshare S a1 a2)) := by rw [← eS]; exact hD
    exact vx_ret (W.widen (k := 2) (n := 12) (by decide) (by decide) (W.iret (v := (hy_sort (hy_ubx S (va_up (hy_bx S) a1.toNatClampNeg none)) none)) hx hb hr (fun t ht hW => ⟨⟨_, (), rfl, ⟨by simp only [hy_k2b, if_pos (hy_kbox0 f_1), hy_kbox0 f_6], by rw [hy_vhold, hb6]; rfl⟩, b, k, w, z, ad, ca, by rw [ht]; exact hP, va_K.moved hW.alike hK, hD⟩, hS.F ht⟩) hS.2.2 dX1_share_21))
  | some r6 =>
    have hr6 : r6 ≤ hy_nr S := hwf.2.2.1 _ _ hb6
    refine W.eq (g2 := F0 m 9 ls [.ref (ad r6)]) rfl ?_
    refine lv_astore_n (lv' := [(3, .ref (ad r6)), (0, .ref h), (1, .int a1), (2, .int a2)]) hx hb dX1_share_9 rfl hl (by decide) rfl (fun ls hl => ?_)
    refine lv_aload_n hx hb dX1_share_10 rfl (lv_at hl 1 rfl) ?_
    refine va_get (D := D) (ci := 1) (v := .ref b) (C := RX1) (T := TX1) (N := 10) hx hb hts hinX1 hown hK hP 0 rfl rfl 0 (by decide) (hts (.fieldLink RX1 11 "HiveYard" "boxes" "[LHiveYard$Content;") (by decide +kernel)) (fun _ h9 => h9) rfl dX1_share_11 ?_
    refine lv_iload_n hx hb dX1_share_14 rfl (lv_at hl 2 rfl) ?_
    refine lv_aload_n hx hb dX1_share_15 rfl (lv_at hl 0 rfl) ?_
    refine va_astq hx hb hK hP hD hS 1 2 (5 + r6) 0 rfl rfl (hy_W_row hr6) rfl (hy_ok_in f_1) dX1_share_16 (fun H locs hP hD hS => ?_)
    have hP : va_P D vwCl (hy_W cI cJ cB h b k w z ad ca (hy_ubx S (va_up (hy_bx S) a1.toNatClampNeg (some r6)))) H := by rw [← hy_W_setBox a1.toNatClampNeg (some r6)]; exact hP
    have hD : va_D A (hy_W cI cJ cB h b k w z ad ca (hy_ubx S (va_up (hy_bx S) a1.toNatClampNeg (some r6)))) := by rw [← hy_W_setBox a1.toNatClampNeg (some r6)]; exact hD
    refine lv_aload_n hx hb dX1_share_17 rfl (lv_at hl 0 rfl) ?_
    refine vp_callSi (W.runS (As := [.ref (ad r6)]) (rest := []) ⟨hx, hb, hml, hown, hts⟩ (c_X1_sortOf l D cI cJ cB h b k w z ad ca (hy_ubx S (va_up (hy_bx S) a1.toNatClampNeg (some r6))) (some r6) (fun _ q => by cases q; exact hr6)) (va_cwS 1 hts gX1_share_X1_sortOf rfl rfl rfl (by decide +kernel) ⟨Nat.le_of_ble_eq_true rfl, Nat.le_of_ble_eq_true rfl⟩) ⟨hy_I_blind, fun U hU hW => ⟨rfl, hy_I_at hU hW hP hK⟩⟩ rfl rfl hl.1 rfl (lv_room (Nat.le_of_ble_eq_true rfl)) dX1_share_18 ⟨Nat.le_of_ble_eq_true rfl, Nat.le_of_ble_eq_true rfl⟩) (fun v9 e9 => ?_)
    subst e9
    have eS : (hy_W cI cJ cB h b k w z ad ca (hy_ubx S (va_up (hy_bx S) a1.toNatClampNeg (some r6)))) = (hy_W cI cJ cB h b k w z ad ca (hy_sshare S a1 a2)) := congrArg (hy_W cI cJ cB h b k w z ad ca) (by rw [hy_sshare, hb6])
    have hP : va_P D vwCl (hy_W cI cJ cB h b k w z ad ca (hy_sshare S a1 a2)) H := by rw [← eS]; exact hP
    have hD : va_D A (hy_W cI cJ cB h b k w z ad ca (hy_sshare S a1 a2)) := by rw [← eS]; exact hD
    exact vx_ret (W.widen (k := 2) (n := 12) (by decide) (by decide) (W.iret (v := (hy_sort (hy_ubx S (va_up (hy_bx S) a1.toNatClampNeg (some r6))) (some r6))) hx hb hr (fun t ht hW => ⟨⟨_, (), rfl, ⟨by simp only [hy_k2b, if_pos (hy_kbox0 f_1), hy_kbox0 f_6], by rw [hy_vhold, hb6]; rfl⟩, b, k, w, z, ad, ca, by rw [ht]; exact hP, va_K.moved hW.alike hK, hD⟩, hS.F ht⟩) hS.2.2 dX1_share_21))
set_option maxHeartbeats 4000000 in
set_option maxRecDepth 100000 in
theorem c_X1_put (l : Launch) (D : va_G) (cI cJ cB : ClassId) (h b k w z : Nat) (ad ca : Nat → Nat) (S : hy_S) (hl9 : l.stackTraces = false) (hwf : hy_wf S) (sz : Nat) (a1 a2 : Int32) (a3 : Int64) : vx_Met l yX1_put wsX1_put ({ frames := 8, cells := 2, slots := 12, locals := 131 }) (va_Pc [.ref h, .int a1, .int a2, .long a3] (hy_IP D cI cJ cB h b k w z ad ca S sz)) (va_Ql (fun (r9 : Int64) (_ : Unit) => hy_kput S a1 a2 = 0 ∧ r9 = hy_at S a1 a2) (fun _ => hy_At D cI cJ cB h (hy_sput S a1 a2 a3) (va_A (hy_W cI cJ cB h b k w z ad ca S) sz)) (va_A (hy_W cI cJ cB h b k w z ad ca S) sz)) (hy_X (hy_nm ["java/lang/IndexOutOfBoundsException", "java/lang/IllegalStateException", "java/util/NoSuchElementException"] (hy_kput S a1 a2))) 2 12 (va_A (hy_W cI cJ cB h b k w z ad ca S) sz) := by
  refine vx_ofW (cc := cX1_put) (maxL := 8) (ret := (some .long)) (by decide) rfl ?_
  intro p e s m args below meth c s₁ B hml hno hv
  obtain ⟨rfl, hsz, ⟨⟨hP, hK⟩, hE, hZ⟩, hD0⟩ := hv
  have hx := B.exec
  have hb := B.bytes
  have hr := B.returns
  have hts := atoms_spec (ws := wsX1_put) B.pre
  have hown : s.vm.findClass RX1 = some m.cls := findClass_of_methodNamed B.named
  have hlocks := B.notSynchronized
  subst hsz
  have hD := hD0.self (sz := s.heap.size)
  generalize hAe : va_A (hy_W cI cJ cB h b k w z ad ca S) s.heap.size = A at hD ⊢
  have hA : ∀ q : Nat, s.heap.size ≤ q → A q := fun q h => by rw [← hAe]; exact Or.inr h
  have hS : va_S A s.heap s.heap [] := va_S.rf
  have hinX0 : ∀ w ∈ wsX00, w ∈ wsX1_put := by decide +kernel
  have hl := lv_entry ([.ref h, .int a1, .int a2, .long a3]) (n := 8) (Nat.le_of_ble_eq_true rfl)
  rw [lg_entry_eq]
  generalize (lg_sl ([.ref h, .int a1, .int a2, .long a3]) ++ List.replicate (8 - (lg_sl ([.ref h, .int a1, .int a2, .long a3])).length) Slot.unset).toArray = ls at hl ⊢
  have hl : lv_has ls 8 [(0, .ref h), (1, .int a1), (2, .int a2), (3, .long a3)] := hl
  refine lv_aload_n hx hb dX1_put_0 rfl (lv_at hl 0 rfl) ?_
  refine lv_iload_n hx hb dX1_put_1 rfl (lv_at hl 1 rfl) ?_
  refine hy_thruq (vx_runV (As := [.int a1]) (rest := []) ⟨hx, hb, hml, hown, hts⟩ (c_X1_contentOf l D cI cJ cB h b k w z ad ca S hl9 a1) (cwV 1 hts gX1_put_X1_contentOf rfl rfl rfl (by decide +kernel) ⟨Nat.le_of_ble_eq_true rfl, Nat.le_of_ble_eq_true rfl⟩) ⟨hy_IX_blind, va_recv hK hP (ci := 1) (q0 := 0) rfl rfl, fun U hU hW => ⟨rfl, hy_IX_at hU hW hP hK hE hZ⟩⟩ rfl rfl hl.1 rfl (lv_room (Nat.le_of_ble_eq_true rfl)) dX1_put_2 ⟨Nat.le_of_ble_eq_true rfl, Nat.le_of_ble_eq_true rfl⟩) hno hlocks (fun E q => ⟨0, by rw [q.1]; rfl, (by simp only [hy_kput, hy_at, hy_sput, if_neg (hy_kbox1 q.2)] : hy_kput S a1 a2 = 1).trans (by decide +kernel)⟩) (Nat.le_of_ble_eq_true rfl) (Nat.le_of_ble_eq_true rfl) (fun r9 e9 => ?_)
  obtain ⟨rfl, f_2⟩ := e9
  cases hb2 : hy_bx S a1.toNatClampNeg with
  | none =>
    refine W.eq (g2 := F0 m 5 ls [.null]) rfl ?_
    refine lv_astoreN (lv' := [(5, .null), (0, .ref h), (1, .int a1), (2, .int a2), (3, .long a3)]) hx hb dX1_put_5 hl (by decide) rfl (fun ls hl => ?_)
    refine lv_aloadN hx hb dX1_put_7 (lv_at hl 0 rfl) ?_
    refine vp_callSi (W.runS (As := [.null]) (rest := []) ⟨hx, hb, hml, hown, hts⟩ (c_X1_isNumbers l D cI cJ cB h b k w z ad ca S none (fun _ q => nomatch q)) (va_cwS 1 hts gX1_put_X1_isNumbers rfl rfl rfl (by decide +kernel) ⟨Nat.le_of_ble_eq_true rfl, Nat.le_of_ble_eq_true rfl⟩) ⟨hy_I_blind, fun U hU hW => ⟨rfl, hy_I_at hU hW hP hK⟩⟩ rfl rfl hl.1 rfl (lv_room (Nat.le_of_ble_eq_true rfl)) dX1_put_9 ⟨Nat.le_of_ble_eq_true rfl, Nat.le_of_ble_eq_true rfl⟩) (fun v9 e9 => ?_)
    subst e9
    refine lv_if_ne (tgt := 25) hx hb dX1_put_12 (by decide) (fun c9 => absurd c9 (fun c => c rfl)) (fun c_12 => ?_)
    exact hy_throw (cls := "java/lang/IllegalStateException") (text := "the box holds no row of numbers") (ik := 70) (is := 72) (ic := 74) hx hb hl9 hts hown hE hZ (by decide +kernel) (by decide +kernel) (by decide +kernel) (by decide +kernel) (by decide +kernel) (by decide +kernel) (by decide +kernel) (hl.1.trans hml.symm) dX1_put_15 dX1_put_18 dX1_put_19 dX1_put_21 dX1_put_24 hno hlocks ⟨Nat.le_of_ble_eq_true rfl, Nat.le_of_ble_eq_true rfl⟩ (Nat.le_of_ble_eq_true rfl) (Nat.le_of_ble_eq_true rfl) (Nat.le_of_ble_eq_true rfl) (Nat.le_of_ble_eq_true rfl) (Nat.le_of_ble_eq_true rfl) (⟨1, rfl, (by first | (simp only [hy_kput, hy_at, hy_sput, if_pos (hy_kbox0 f_2), hb2, if_pos c_12]) : hy_kput S a1 a2 = 2).trans (by decide +kernel)⟩)
  | some r2 =>
    have hr2 : r2 ≤ hy_nr S := hwf.2.2.1 _ _ hb2
    refine W.eq (g2 := F0 m 5 ls [.ref (ad r2)]) rfl ?_
    refine lv_astore (lv' := [(5, .ref (ad r2)), (0, .ref h), (1, .int a1), (2, .int a2), (3, .long a3)]) hx hb dX1_put_5 hl (by decide) rfl (fun ls hl => ?_)
    refine lv_aload hx hb dX1_put_7 (lv_at hl 0 rfl) ?_
    refine vp_callSi (W.runS (As := [.ref (ad r2)]) (rest := []) ⟨hx, hb, hml, hown, hts⟩ (c_X1_isNumbers l D cI cJ cB h b k w z ad ca S (some r2) (fun _ q => by cases q; exact hr2)) (va_cwS 1 hts gX1_put_X1_isNumbers rfl rfl rfl (by decide +kernel) ⟨Nat.le_of_ble_eq_true rfl, Nat.le_of_ble_eq_true rfl⟩) ⟨hy_I_blind, fun U hU hW => ⟨rfl, hy_I_at hU hW hP hK⟩⟩ rfl rfl hl.1 rfl (lv_room (Nat.le_of_ble_eq_true rfl)) dX1_put_9 ⟨Nat.le_of_ble_eq_true rfl, Nat.le_of_ble_eq_true rfl⟩) (fun v9 e9 => ?_)
    subst e9
    refine lv_if_ne (tgt := 25) hx hb dX1_put_12 (by decide) (fun c_12 => ?_) (fun c_12 => ?_)
    · -- 25
      refine lv_aload hx hb dX1_put_25 (lv_at hl 0 rfl) ?_
      refine lv_iload_n hx hb dX1_put_27 rfl (lv_at hl 3 rfl) ?_
      refine hy_thruv (vx_runS (As := [.ref (ad r2), .int a2]) (rest := []) ⟨hx, hb, hml, hown, hts⟩ (c_X1_requirePlace l D cI cJ cB h b k w z ad ca S hl9 r2 hr2 a2) (va_cwS 2 hts gX1_put_X1_requirePlace rfl rfl rfl (by decide +kernel) ⟨Nat.le_of_ble_eq_true rfl, Nat.le_of_ble_eq_true rfl⟩) ⟨hy_IX_blind, fun U hU hW => ⟨rfl, hy_IX_at hU hW hP hK hE hZ⟩⟩ rfl rfl hl.1 rfl (lv_room (Nat.le_of_ble_eq_true rfl)) dX1_put_28 ⟨Nat.le_of_ble_eq_true rfl, Nat.le_of_ble_eq_true rfl⟩) hno hlocks (fun E q => ⟨2, by rw [q.1]; rfl, (by simp only [hy_kput, hy_at, hy_sput, if_pos (hy_kbox0 f_2), hb2, if_neg c_12, if_neg (hy_kpl1 q.2)] : hy_kput S a1 a2 = 3).trans (by decide +kernel)⟩) (Nat.le_of_ble_eq_true rfl) (Nat.le_of_ble_eq_true rfl) (fun f_28 => ?_)
      refine lv_aload hx hb dX1_put_31 (lv_at hl 0 rfl) ?_
      refine va_get (D := D) (ci := 0) (v := .ref (ca r2)) (C := RX0) (T := TX0) (N := 2) hx hb hts hinX0 hown hK hP (5 + r2) (hy_W_row hr2) rfl 1 (by decide) (hts (.fieldLink RX1 79 "HiveYard$Content" "cells" "[J") (by decide +kernel)) (fun _ h9 => h9) rfl dX1_put_33 ?_
      refine lv_iload_n hx hb dX1_put_36 rfl (lv_at hl 3 rfl) ?_
      refine va_lald hx hb hK hP (5 + (hy_nr S + 1 + r2)) 1 (hy_W_arr hr2) rfl (hy_pl_in hwf f_28) dX1_put_37 ?_
      refine lv_lstore (lv' := [(6, .long ((hy_va S r2) a2.toNatClampNeg)), (5, .ref (ad r2)), (0, .ref h), (1, .int a1), (2, .int a2), (3, .long a3)]) hx hb dX1_put_38 hl (by decide) rfl (fun ls hl => ?_)
      refine lv_aload hx hb dX1_put_40 (lv_at hl 1 rfl) ?_
      refine va_get (D := D) (ci := 0) (v := .ref (ca r2)) (C := RX0) (T := TX0) (N := 2) hx hb hts hinX0 hown hK hP (5 + r2) (hy_W_row hr2) rfl 1 (by decide) (hts (.fieldLink RX1 79 "HiveYard$Content" "cells" "[J") (by decide +kernel)) (fun _ h9 => h9) rfl dX1_put_42 ?_
      refine lv_iload_n hx hb dX1_put_45 rfl (lv_at hl 4 rfl) ?_
      refine lv_aload hx hb dX1_put_46 (lv_at hl 1 rfl) ?_
      refine va_get (D := D) (ci := 0) (v := .int (hy_so S r2)) (C := RX0) (T := TX0) (N := 2) hx hb hts hinX0 hown hK hP (5 + r2) (hy_W_row hr2) rfl 0 (by decide) (hts (.fieldLink RX1 83 "HiveYard$Content" "sort" "I") (by decide +kernel)) (fun _ h9 => h9) rfl dX1_put_48 ?_
      refine lv_lload_n hx hb dX1_put_51 rfl (lv_at hl 5 rfl) ?_
      refine vp_callSl (W.runS (As := [.int (hy_so S r2), .long a3]) (rest := [.int a2, .ref (ca r2)]) ⟨hx, hb, hml, hown, hts⟩ (c_X1_lowestBits l (hy_so S r2) a3) (va_cwS 2 hts gX1_put_X1_lowestBits rfl rfl rfl (by decide +kernel) ⟨Nat.le_of_ble_eq_true rfl, Nat.le_of_ble_eq_true rfl⟩) ⟨fun _ _ _ _ q => q, fun U hU hW => ⟨rfl, trivial⟩⟩ rfl rfl hl.1 rfl (lv_room (Nat.le_of_ble_eq_true rfl)) dX1_put_52 ⟨Nat.le_of_ble_eq_true rfl, Nat.le_of_ble_eq_true rfl⟩) (fun v9 e9 => ?_)
      subst e9
      refine va_last hx hb hK hP hD hS (5 + (hy_nr S + 1 + r2)) 1 (hy_W_arr hr2) rfl (hy_pl_in hwf f_28) dX1_put_55 (fun H locs hP hD hS => ?_)
      have hP : va_P D vwCl (hy_W cI cJ cB h b k w z ad ca (hy_uva S r2 (vp_updL (hy_va S r2) a2.toNatClampNeg (hy_low (hy_so S r2) a3)))) H := by rw [← hy_W_setArr (S := S) hr2 (vp_updL (hy_va S r2) a2.toNatClampNeg (hy_low (hy_so S r2) a3))]; exact hP
      have hD : va_D A (hy_W cI cJ cB h b k w z ad ca (hy_uva S r2 (vp_updL (hy_va S r2) a2.toNatClampNeg (hy_low (hy_so S r2) a3)))) := by rw [← hy_W_setArr (S := S) hr2 (vp_updL (hy_va S r2) a2.toNatClampNeg (hy_low (hy_so S r2) a3))]; exact hD
      refine lv_lload hx hb dX1_put_56 (lv_at hl 0 rfl) ?_
      have eS : (hy_W cI cJ cB h b k w z ad ca (hy_uva S r2 (vp_updL (hy_va S r2) a2.toNatClampNeg (hy_low (hy_so S r2) a3)))) = (hy_W cI cJ cB h b k w z ad ca (hy_sput S a1 a2 a3)) := congrArg (hy_W cI cJ cB h b k w z ad ca) (by first | rfl | (simp only [hy_kput, hy_at, hy_sput, if_pos (hy_kbox0 f_2), hb2, if_neg c_12, if_pos (hy_kpl0 f_28)]; done))
      have hP : va_P D vwCl (hy_W cI cJ cB h b k w z ad ca (hy_sput S a1 a2 a3)) H := by rw [← eS]; exact hP
      have hD : va_D A (hy_W cI cJ cB h b k w z ad ca (hy_sput S a1 a2 a3)) := by rw [← eS]; exact hD
      exact vx_ret (W.widen (k := 2) (n := 12) (by decide) (by decide) (W.lret (v := ((hy_va S r2) a2.toNatClampNeg)) hx hb hr (fun t ht hW => ⟨⟨_, (), rfl, ⟨by simp only [hy_kput, hy_at, hy_sput, if_pos (hy_kbox0 f_2), hb2, if_neg c_12, if_pos (hy_kpl0 f_28)], by first | rfl | (simp only [hy_kput, hy_at, hy_sput, if_pos (hy_kbox0 f_2), hb2, if_neg c_12, if_pos (hy_kpl0 f_28)]; done)⟩, b, k, w, z, ad, ca, by rw [ht]; exact hP, va_K.moved hW.alike hK, hD⟩, hS.F ht⟩) hS.2.2 dX1_put_58))
    · -- 15
      exact hy_throw (cls := "java/lang/IllegalStateException") (text := "the box holds no row of numbers") (ik := 70) (is := 72) (ic := 74) hx hb hl9 hts hown hE hZ (by decide +kernel) (by decide +kernel) (by decide +kernel) (by decide +kernel) (by decide +kernel) (by decide +kernel) (by decide +kernel) (hl.1.trans hml.symm) dX1_put_15 dX1_put_18 dX1_put_19 dX1_put_21 dX1_put_24 hno hlocks ⟨Nat.le_of_ble_eq_true rfl, Nat.le_of_ble_eq_true rfl⟩ (Nat.le_of_ble_eq_true rfl) (Nat.le_of_ble_eq_true rfl) (Nat.le_of_ble_eq_true rfl) (Nat.le_of_ble_eq_true rfl) (Nat.le_of_ble_eq_true rfl) (⟨1, rfl, (by first | (simp only [hy_kput, hy_at, hy_sput, if_pos (hy_kbox0 f_2), hb2, if_pos c_12]) : hy_kput S a1 a2 = 2).trans (by decide +kernel)⟩)
set_option maxHeartbeats 4000000 in
set_option maxRecDepth 100000 in
theorem c_X1_lay (l : Launch) (D : va_G) (cI cJ cB : ClassId) (h b k w z : Nat) (ad ca : Nat → Nat) (S : hy_S) (hl9 : l.stackTraces = false) (hwf : hy_wf S) (sz : Nat) (a1 a2 a3 : Int32) : vx_Met l yX1_lay wsX1_lay ({ frames := 8, cells := 4, slots := 24, locals := 131 }) (va_Pc [.ref h, .int a1, .int a2, .int a3] (hy_IP D cI cJ cB h b k w z ad ca S sz)) (va_Qi (fun (r9 : Int32) (_ : Unit) => hy_klay S a1 a2 a3 = 0 ∧ r9 = hy_vlay S a1 a3) (fun _ => hy_At D cI cJ cB h (hy_slay S a1 a2 a3) (va_A (hy_W cI cJ cB h b k w z ad ca S) sz)) (va_A (hy_W cI cJ cB h b k w z ad ca S) sz)) (hy_X (hy_nm ["java/lang/IndexOutOfBoundsException", "java/lang/IllegalArgumentException", "java/lang/IllegalStateException", "java/util/NoSuchElementException", "java/lang/UnsupportedOperationException"] (hy_klay S a1 a2 a3))) 4 24 (va_A (hy_W cI cJ cB h b k w z ad ca S) sz) := by
  refine vx_ofW (cc := cX1_lay) (maxL := 6) (ret := (some .int)) (by decide) rfl ?_
  intro p e s m args below meth c s₁ B hml hno hv
  obtain ⟨rfl, hsz, ⟨⟨hP, hK⟩, hE, hZ⟩, hD0⟩ := hv
  have hx := B.exec
  have hb := B.bytes
  have hr := B.returns
  have hts := atoms_spec (ws := wsX1_lay) B.pre
  have hown : s.vm.findClass RX1 = some m.cls := findClass_of_methodNamed B.named
  have hlocks := B.notSynchronized
  subst hsz
  have hD := hD0.self (sz := s.heap.size)
  generalize hAe : va_A (hy_W cI cJ cB h b k w z ad ca S) s.heap.size = A at hD ⊢
  have hA : ∀ q : Nat, s.heap.size ≤ q → A q := fun q h => by rw [← hAe]; exact Or.inr h
  have hS : va_S A s.heap s.heap [] := va_S.rf
  have hinX0 : ∀ w ∈ wsX00, w ∈ wsX1_lay := by decide +kernel
  have hinX1 : ∀ w ∈ wsX10, w ∈ wsX1_lay := by decide +kernel
  have hl := lv_entry ([.ref h, .int a1, .int a2, .int a3]) (n := 6) (Nat.le_of_ble_eq_true rfl)
  rw [lg_entry_eq]
  generalize (lg_sl ([.ref h, .int a1, .int a2, .int a3]) ++ List.replicate (6 - (lg_sl ([.ref h, .int a1, .int a2, .int a3])).length) Slot.unset).toArray = ls at hl ⊢
  have hl : lv_has ls 6 [(0, .ref h), (1, .int a1), (2, .int a2), (3, .int a3)] := hl
  refine lv_aload_n hx hb dX1_lay_0 rfl (lv_at hl 0 rfl) ?_
  refine lv_iload_n hx hb dX1_lay_1 rfl (lv_at hl 1 rfl) ?_
  refine hy_thruq (vx_runV (As := [.int a1]) (rest := []) ⟨hx, hb, hml, hown, hts⟩ (c_X1_contentOf l D cI cJ cB h b k w z ad ca S hl9 a1) (cwV 1 hts gX1_lay_X1_contentOf rfl rfl rfl (by decide +kernel) ⟨Nat.le_of_ble_eq_true rfl, Nat.le_of_ble_eq_true rfl⟩) ⟨hy_IX_blind, va_recv hK hP (ci := 1) (q0 := 0) rfl rfl, fun U hU hW => ⟨rfl, hy_IX_at hU hW hP hK hE hZ⟩⟩ rfl rfl hl.1 rfl (lv_room (Nat.le_of_ble_eq_true rfl)) dX1_lay_2 ⟨Nat.le_of_ble_eq_true rfl, Nat.le_of_ble_eq_true rfl⟩) hno hlocks (fun E q => ⟨0, by rw [q.1]; rfl, (by simp only [hy_klay, hy_vlay, hy_slay, if_neg (hy_kbox1 q.2)] : hy_klay S a1 a2 a3 = 1).trans (by decide +kernel)⟩) (Nat.le_of_ble_eq_true rfl) (Nat.le_of_ble_eq_true rfl) (fun r9 e9 => ?_)
  obtain ⟨rfl, f_2⟩ := e9
  cases hb2 : hy_bx S a1.toNatClampNeg with
  | none =>
    refine W.eq (g2 := F0 m 5 ls [.null]) rfl ?_
    refine lv_astoreN (lv' := [(4, .null), (0, .ref h), (1, .int a1), (2, .int a2), (3, .int a3)]) hx hb dX1_lay_5 hl (by decide) rfl (fun ls hl => ?_)
    refine lv_iload_n hx hb dX1_lay_7 rfl (lv_at hl 4 rfl) ?_
    refine lv_if_lt (tgt := 16) hx hb dX1_lay_8 (by decide) (fun c_8 => ?_) (fun c_8 => ?_)
    · -- 16
      exact hy_throw (cls := "java/lang/IllegalArgumentException") (text := "no such kind") (ik := 36) (is := 90) (ic := 40) hx hb hl9 hts hown hE hZ (by decide +kernel) (by decide +kernel) (by decide +kernel) (by decide +kernel) (by decide +kernel) (by decide +kernel) (by decide +kernel) (hl.1.trans hml.symm) dX1_lay_16 dX1_lay_19 dX1_lay_20 dX1_lay_22 dX1_lay_25 hno hlocks ⟨Nat.le_of_ble_eq_true rfl, Nat.le_of_ble_eq_true rfl⟩ (Nat.le_of_ble_eq_true rfl) (Nat.le_of_ble_eq_true rfl) (Nat.le_of_ble_eq_true rfl) (Nat.le_of_ble_eq_true rfl) (Nat.le_of_ble_eq_true rfl) (⟨1, rfl, (by first | (simp only [hy_klay, hy_vlay, hy_slay, if_pos (hy_kbox0 f_2), hb2, if_pos c_8]) : hy_klay S a1 a2 a3 = 2).trans (by decide +kernel)⟩)
    · -- 11
      refine lv_iload_n hx hb dX1_lay_11 rfl (lv_at hl 4 rfl) ?_
      refine lv_iconst (v := 3) hx hb dX1_lay_12 (by decide) ?_
      refine lv_icmp_le (tgt := 26) hx hb dX1_lay_13 (by decide) (fun c_13 => ?_) (fun c_13 => ?_)
      · -- 26
        refine lv_aloadN hx hb dX1_lay_26 (lv_at hl 0 rfl) ?_
        refine hy_thruv (vx_runS (As := [.null]) (rest := []) ⟨hx, hb, hml, hown, hts⟩ (c_X1_requireCombs l D cI cJ cB h b k w z ad ca S hl9 none (fun _ q => nomatch q)) (va_cwS 1 hts gX1_lay_X1_requireCombs rfl rfl rfl (by decide +kernel) ⟨Nat.le_of_ble_eq_true rfl, Nat.le_of_ble_eq_true rfl⟩) ⟨hy_IX_blind, fun U hU hW => ⟨rfl, hy_IX_at hU hW hP hK hE hZ⟩⟩ rfl rfl hl.1 rfl (lv_room (Nat.le_of_ble_eq_true rfl)) dX1_lay_28 ⟨Nat.le_of_ble_eq_true rfl, Nat.le_of_ble_eq_true rfl⟩) hno hlocks (fun E q => ⟨2, by rw [q.1]; rfl, (by simp only [hy_klay, hy_vlay, hy_slay, if_pos (hy_kbox0 f_2), hb2, if_neg c_8, if_pos c_13, if_pos q.2] : hy_klay S a1 a2 a3 = 3).trans (by decide +kernel)⟩) (Nat.le_of_ble_eq_true rfl) (Nat.le_of_ble_eq_true rfl) (fun f_28 => ?_)
        exact absurd rfl f_28
      · -- 16
        exact hy_throw (cls := "java/lang/IllegalArgumentException") (text := "no such kind") (ik := 36) (is := 90) (ic := 40) hx hb hl9 hts hown hE hZ (by decide +kernel) (by decide +kernel) (by decide +kernel) (by decide +kernel) (by decide +kernel) (by decide +kernel) (by decide +kernel) (hl.1.trans hml.symm) dX1_lay_16 dX1_lay_19 dX1_lay_20 dX1_lay_22 dX1_lay_25 hno hlocks ⟨Nat.le_of_ble_eq_true rfl, Nat.le_of_ble_eq_true rfl⟩ (Nat.le_of_ble_eq_true rfl) (Nat.le_of_ble_eq_true rfl) (Nat.le_of_ble_eq_true rfl) (Nat.le_of_ble_eq_true rfl) (Nat.le_of_ble_eq_true rfl) (⟨1, rfl, (by first | (simp only [hy_klay, hy_vlay, hy_slay, if_pos (hy_kbox0 f_2), hb2, if_neg c_8, if_neg c_13]) : hy_klay S a1 a2 a3 = 2).trans (by decide +kernel)⟩)
  | some r2 =>
    have hr2 : r2 ≤ hy_nr S := hwf.2.2.1 _ _ hb2
    refine W.eq (g2 := F0 m 5 ls [.ref (ad r2)]) rfl ?_
    refine lv_astore (lv' := [(4, .ref (ad r2)), (0, .ref h), (1, .int a1), (2, .int a2), (3, .int a3)]) hx hb dX1_lay_5 hl (by decide) rfl (fun ls hl => ?_)
    refine lv_iload_n hx hb dX1_lay_7 rfl (lv_at hl 4 rfl) ?_
    refine lv_if_lt (tgt := 16) hx hb dX1_lay_8 (by decide) (fun c_8 => ?_) (fun c_8 => ?_)
    · -- 16
      exact hy_throw (cls := "java/lang/IllegalArgumentException") (text := "no such kind") (ik := 36) (is := 90) (ic := 40) hx hb hl9 hts hown hE hZ (by decide +kernel) (by decide +kernel) (by decide +kernel) (by decide +kernel) (by decide +kernel) (by decide +kernel) (by decide +kernel) (hl.1.trans hml.symm) dX1_lay_16 dX1_lay_19 dX1_lay_20 dX1_lay_22 dX1_lay_25 hno hlocks ⟨Nat.le_of_ble_eq_true rfl, Nat.le_of_ble_eq_true rfl⟩ (Nat.le_of_ble_eq_true rfl) (Nat.le_of_ble_eq_true rfl) (Nat.le_of_ble_eq_true rfl) (Nat.le_of_ble_eq_true rfl) (Nat.le_of_ble_eq_true rfl) (⟨1, rfl, (by first | (simp only [hy_klay, hy_vlay, hy_slay, if_pos (hy_kbox0 f_2), hb2, if_pos c_8]) : hy_klay S a1 a2 a3 = 2).trans (by decide +kernel)⟩)
    · -- 11
      refine lv_iload_n hx hb dX1_lay_11 rfl (lv_at hl 4 rfl) ?_
      refine lv_iconst (v := 3) hx hb dX1_lay_12 (by decide) ?_
      refine lv_icmp_le (tgt := 26) hx hb dX1_lay_13 (by decide) (fun c_13 => ?_) (fun c_13 => ?_)
      · -- 26
        refine lv_aload hx hb dX1_lay_26 (lv_at hl 0 rfl) ?_
        refine hy_thruv (vx_runS (As := [.ref (ad r2)]) (rest := []) ⟨hx, hb, hml, hown, hts⟩ (c_X1_requireCombs l D cI cJ cB h b k w z ad ca S hl9 (some r2) (fun _ q => by cases q; exact hr2)) (va_cwS 1 hts gX1_lay_X1_requireCombs rfl rfl rfl (by decide +kernel) ⟨Nat.le_of_ble_eq_true rfl, Nat.le_of_ble_eq_true rfl⟩) ⟨hy_IX_blind, fun U hU hW => ⟨rfl, hy_IX_at hU hW hP hK hE hZ⟩⟩ rfl rfl hl.1 rfl (lv_room (Nat.le_of_ble_eq_true rfl)) dX1_lay_28 ⟨Nat.le_of_ble_eq_true rfl, Nat.le_of_ble_eq_true rfl⟩) hno hlocks (fun E q => ⟨2, by rw [q.1]; rfl, (by simp only [hy_klay, hy_vlay, hy_slay, if_pos (hy_kbox0 f_2), hb2, if_neg c_8, if_pos c_13, if_pos q.2] : hy_klay S a1 a2 a3 = 3).trans (by decide +kernel)⟩) (Nat.le_of_ble_eq_true rfl) (Nat.le_of_ble_eq_true rfl) (fun f_28 => ?_)
        refine lv_aload hx hb dX1_lay_31 (lv_at hl 0 rfl) ?_
        refine lv_iload_n hx hb dX1_lay_33 rfl (lv_at hl 3 rfl) ?_
        refine hy_thruv (vx_runS (As := [.ref (ad r2), .int a2]) (rest := []) ⟨hx, hb, hml, hown, hts⟩ (c_X1_requirePlace l D cI cJ cB h b k w z ad ca S hl9 r2 hr2 a2) (va_cwS 2 hts gX1_lay_X1_requirePlace rfl rfl rfl (by decide +kernel) ⟨Nat.le_of_ble_eq_true rfl, Nat.le_of_ble_eq_true rfl⟩) ⟨hy_IX_blind, fun U hU hW => ⟨rfl, hy_IX_at hU hW hP hK hE hZ⟩⟩ rfl rfl hl.1 rfl (lv_room (Nat.le_of_ble_eq_true rfl)) dX1_lay_34 ⟨Nat.le_of_ble_eq_true rfl, Nat.le_of_ble_eq_true rfl⟩) hno hlocks (fun E q => ⟨3, by rw [q.1]; rfl, (by simp only [hy_klay, hy_vlay, hy_slay, if_pos (hy_kbox0 f_2), hb2, if_neg c_8, if_pos c_13, if_neg f_28, if_neg (hy_kpl1 q.2)] : hy_klay S a1 a2 a3 = 4).trans (by decide +kernel)⟩) (Nat.le_of_ble_eq_true rfl) (Nat.le_of_ble_eq_true rfl) (fun f_34 => ?_)
        refine lv_aload_n hx hb dX1_lay_37 rfl (lv_at hl 1 rfl) ?_
        refine va_get (D := D) (ci := 1) (v := .int (nI (hy_nc S))) (C := RX1) (T := TX1) (N := 10) hx hb hts hinX1 hown hK hP 0 rfl rfl 6 (by decide) (hts (.fieldLink RX1 96 "HiveYard" "combsMade" "I") (by decide +kernel)) (fun _ h9 => h9) rfl dX1_lay_38 ?_
        refine lv_bipush (v := 60) hx hb dX1_lay_41 (by decide) ?_
        refine lv_icmp_lt (tgt := 56) hx hb dX1_lay_43 (by decide) (fun c_43 => ?_) (fun c_43 => ?_)
        · -- 56
          refine lv_aload hx hb dX1_lay_56 (lv_at hl 0 rfl) ?_
          refine va_get (D := D) (ci := 0) (v := .int (hy_so S r2)) (C := RX0) (T := TX0) (N := 2) hx hb hts hinX0 hown hK hP (5 + r2) (hy_W_row hr2) rfl 0 (by decide) (hts (.fieldLink RX1 83 "HiveYard$Content" "sort" "I") (by decide +kernel)) (fun _ h9 => h9) rfl dX1_lay_58 ?_
          refine lv_iload_n hx hb dX1_lay_61 rfl (lv_at hl 4 rfl) ?_
          refine vp_callSi (W.runS (As := [.int (hy_so S r2), .int a3]) (rest := []) ⟨hx, hb, hml, hown, hts⟩ (c_X1_takes l (hy_so S r2) a3) (va_cwS 2 hts gX1_lay_X1_takes rfl rfl rfl (by decide +kernel) ⟨Nat.le_of_ble_eq_true rfl, Nat.le_of_ble_eq_true rfl⟩) ⟨fun _ _ _ _ q => q, fun U hU hW => ⟨rfl, trivial⟩⟩ rfl rfl hl.1 rfl (lv_room (Nat.le_of_ble_eq_true rfl)) dX1_lay_62 ⟨Nat.le_of_ble_eq_true rfl, Nat.le_of_ble_eq_true rfl⟩) (fun v9 e9 => ?_)
          subst e9
          refine lv_if_ne (tgt := 70) hx hb dX1_lay_65 (by decide) (fun c_65 => ?_) (fun c_65 => ?_)
          · -- 70
            refine lv_aload_n hx hb dX1_lay_70 rfl (lv_at hl 1 rfl) ?_
            refine va_get (D := D) (ci := 1) (v := .int (nI (hy_nc S))) (C := RX1) (T := TX1) (N := 10) hx hb hts hinX1 hown hK hP 0 rfl rfl 6 (by decide) (hts (.fieldLink RX1 96 "HiveYard" "combsMade" "I") (by decide +kernel)) (fun _ h9 => h9) rfl dX1_lay_71 ?_
            refine lv_istore (lv' := [(5, .int (nI (hy_nc S))), (4, .ref (ad r2)), (0, .ref h), (1, .int a1), (2, .int a2), (3, .int a3)]) hx hb dX1_lay_74 hl (by decide) rfl (fun ls hl => ?_)
            refine lv_aload_n hx hb dX1_lay_76 rfl (lv_at hl 2 rfl) ?_
            refine lv_dup hx hb dX1_lay_77 rfl ?_
            refine va_get (D := D) (ci := 1) (v := .int (nI (hy_nc S))) (C := RX1) (T := TX1) (N := 10) hx hb hts hinX1 hown hK hP 0 rfl rfl 6 (by decide) (hts (.fieldLink RX1 96 "HiveYard" "combsMade" "I") (by decide +kernel)) (fun _ h9 => h9) rfl dX1_lay_78 ?_
            refine lv_iconst (v := 1) hx hb dX1_lay_81 (by decide) ?_
            refine lv_iadd hx hb dX1_lay_82 ?_
            refine lv_topi (fun v9 e9 => ?_)
            obtain rfl : v9 = (nI (hy_nc S + 1)) := e9.trans (nI_1 _)
            clear e9
            refine va_put (D := D) (ci := 1) (v := .int (nI (hy_nc S + 1))) (ty := .int) (C := RX1) (T := TX1) (N := 10) hx hb hts hinX1 tyX1 tyX1_ok nmX1 hown hK hP hD hS 0 rfl rfl 6 (by decide) (hts (.fieldLink RX1 96 "HiveYard" "combsMade" "I") (by decide +kernel)) (fun _ h9 => h9) rfl (by decide +kernel) rfl rfl (Nat.le_of_ble_eq_true rfl) dX1_lay_83 (fun H locs hP hD hS => ?_)
            have hP : va_P D vwCl (hy_W cI cJ cB h b k w z ad ca (hy_unc S (hy_nc S + 1))) H := by rw [← hy_W_unc]; exact hP
            have hD : va_D A (hy_W cI cJ cB h b k w z ad ca (hy_unc S (hy_nc S + 1))) := by rw [← hy_W_unc]; exact hD
            refine lv_aload_n hx hb dX1_lay_86 rfl (lv_at hl 2 rfl) ?_
            refine va_get (D := D) (ci := 1) (v := .ref k) (C := RX1) (T := TX1) (N := 10) hx hb hts hinX1 hown hK hP 0 rfl rfl 2 (by decide) (hts (.fieldLink RX1 22 "HiveYard" "kindOfComb" "[I") (by decide +kernel)) (fun _ h9 => h9) rfl dX1_lay_87 ?_
            refine lv_iload hx hb dX1_lay_90 (lv_at hl 0 rfl) ?_
            refine lv_iload_n hx hb dX1_lay_92 rfl (lv_at hl 5 rfl) ?_
            refine va_iast hx hb hK hP hD hS 2 0 rfl rfl (hy_nc60 hwf.2.1 c_43) dX1_lay_93 (fun H locs hP hD hS => ?_)
            have hP : va_P D vwCl (hy_W cI cJ cB h b k w z ad ca (hy_uki (hy_unc S (hy_nc S + 1)) (upd (hy_ki S) (nI (hy_nc S)).toNatClampNeg a3))) H := by rw [← hy_W_uki]; exact hP
            have hD : va_D A (hy_W cI cJ cB h b k w z ad ca (hy_uki (hy_unc S (hy_nc S + 1)) (upd (hy_ki S) (nI (hy_nc S)).toNatClampNeg a3))) := by rw [← hy_W_uki]; exact hD
            refine lv_aload hx hb dX1_lay_94 (lv_at hl 1 rfl) ?_
            refine va_get (D := D) (ci := 0) (v := .ref (ca r2)) (C := RX0) (T := TX0) (N := 2) hx hb hts hinX0 hown hK hP (5 + r2) (hy_W_row hr2) rfl 1 (by decide) (hts (.fieldLink RX1 79 "HiveYard$Content" "cells" "[J") (by decide +kernel)) (fun _ h9 => h9) rfl dX1_lay_96 ?_
            refine lv_iload_n hx hb dX1_lay_99 rfl (lv_at hl 4 rfl) ?_
            refine lv_iload hx hb dX1_lay_100 (lv_at hl 0 rfl) ?_
            refine lv_i2l (v := (nI (hy_nc S)).toInt64) hx hb dX1_lay_102 rfl ?_
            refine va_last hx hb hK hP hD hS (5 + (hy_nr S + 1 + r2)) 1 (hy_W_arr hr2) rfl (hy_pl_in (S := S) hwf f_34) dX1_lay_103 (fun H locs hP hD hS => ?_)
            have hP : va_P D vwCl (hy_W cI cJ cB h b k w z ad ca (hy_uva (hy_uki (hy_unc S (hy_nc S + 1)) (upd (hy_ki S) (nI (hy_nc S)).toNatClampNeg a3)) r2 (vp_updL (hy_va S r2) a2.toNatClampNeg ((nI (hy_nc S)).toInt64)))) H := by rw [← hy_W_setArr (S := (hy_uki (hy_unc S (hy_nc S + 1)) (upd (hy_ki S) (nI (hy_nc S)).toNatClampNeg a3))) hr2 (vp_updL (hy_va S r2) a2.toNatClampNeg ((nI (hy_nc S)).toInt64))]; exact hP
            have hD : va_D A (hy_W cI cJ cB h b k w z ad ca (hy_uva (hy_uki (hy_unc S (hy_nc S + 1)) (upd (hy_ki S) (nI (hy_nc S)).toNatClampNeg a3)) r2 (vp_updL (hy_va S r2) a2.toNatClampNeg ((nI (hy_nc S)).toInt64)))) := by rw [← hy_W_setArr (S := (hy_uki (hy_unc S (hy_nc S + 1)) (upd (hy_ki S) (nI (hy_nc S)).toNatClampNeg a3))) hr2 (vp_updL (hy_va S r2) a2.toNatClampNeg ((nI (hy_nc S)).toInt64))]; exact hD
            refine lv_iload hx hb dX1_lay_104 (lv_at hl 0 rfl) ?_
            have eS : (hy_W cI cJ cB h b k w z ad ca (hy_uva (hy_uki (hy_unc S (hy_nc S + 1)) (upd (hy_ki S) (nI (hy_nc S)).toNatClampNeg a3)) r2 (vp_updL (hy_va S r2) a2.toNatClampNeg ((nI (hy_nc S)).toInt64)))) = (hy_W cI cJ cB h b k w z ad ca (hy_slay S a1 a2 a3)) := congrArg (hy_W cI cJ cB h b k w z ad ca) (by first | rfl | (simp only [hy_klay, hy_vlay, hy_slay, if_pos (hy_kbox0 f_2), hb2, if_neg c_8, if_pos c_13, if_neg f_28, if_pos (hy_kpl0 f_34), if_pos c_43, if_neg c_65]; done))
            have hP : va_P D vwCl (hy_W cI cJ cB h b k w z ad ca (hy_slay S a1 a2 a3)) H := by rw [← eS]; exact hP
            have hD : va_D A (hy_W cI cJ cB h b k w z ad ca (hy_slay S a1 a2 a3)) := by rw [← eS]; exact hD
            exact vx_ret (W.widen (k := 4) (n := 24) (by decide) (by decide) (W.iret (v := (nI (hy_nc S))) hx hb hr (fun t ht hW => ⟨⟨_, (), rfl, ⟨by simp only [hy_klay, hy_vlay, hy_slay, if_pos (hy_kbox0 f_2), hb2, if_neg c_8, if_pos c_13, if_neg f_28, if_pos (hy_kpl0 f_34), if_pos c_43, if_neg c_65], by first | rfl | (simp only [hy_klay, hy_vlay, hy_slay, if_pos (hy_kbox0 f_2), hb2, if_neg c_8, if_pos c_13, if_neg f_28, if_pos (hy_kpl0 f_34), if_pos c_43, if_neg c_65]; done)⟩, b, k, w, z, ad, ca, by rw [ht]; exact hP, va_K.moved hW.alike hK, hD⟩, hS.F ht⟩) hS.2.2 dX1_lay_106))
          · -- 68
            refine lv_iconst (v := (-1)) hx hb dX1_lay_68 (by decide) ?_
            have eS : (hy_W cI cJ cB h b k w z ad ca S) = (hy_W cI cJ cB h b k w z ad ca (hy_slay S a1 a2 a3)) := congrArg (hy_W cI cJ cB h b k w z ad ca) (by first | rfl | (simp only [hy_klay, hy_vlay, hy_slay, if_pos (hy_kbox0 f_2), hb2, if_neg c_8, if_pos c_13, if_neg f_28, if_pos (hy_kpl0 f_34), if_pos c_43, if_pos c_65]; done))
            have hP : va_P D vwCl (hy_W cI cJ cB h b k w z ad ca (hy_slay S a1 a2 a3)) s.heap := by rw [← eS]; exact hP
            have hD : va_D A (hy_W cI cJ cB h b k w z ad ca (hy_slay S a1 a2 a3)) := by rw [← eS]; exact hD
            exact vx_ret (W.widen (k := 4) (n := 24) (by decide) (by decide) (W.iret (v := (-1)) hx hb hr (fun t ht hW => ⟨⟨_, (), rfl, ⟨by simp only [hy_klay, hy_vlay, hy_slay, if_pos (hy_kbox0 f_2), hb2, if_neg c_8, if_pos c_13, if_neg f_28, if_pos (hy_kpl0 f_34), if_pos c_43, if_pos c_65], by first | rfl | (simp only [hy_klay, hy_vlay, hy_slay, if_pos (hy_kbox0 f_2), hb2, if_neg c_8, if_pos c_13, if_neg f_28, if_pos (hy_kpl0 f_34), if_pos c_43, if_pos c_65]; done)⟩, b, k, w, z, ad, ca, by rw [ht]; exact hP, va_K.moved hW.alike hK, hD⟩, hS.F ht⟩) hS.2.2 dX1_lay_69))
        · -- 46
          exact hy_throw (cls := "java/lang/UnsupportedOperationException") (text := "60 combs were made") (ik := 49) (is := 99) (ic := 53) hx hb hl9 hts hown hE hZ (by decide +kernel) (by decide +kernel) (by decide +kernel) (by decide +kernel) (by decide +kernel) (by decide +kernel) (by decide +kernel) (hl.1.trans hml.symm) dX1_lay_46 dX1_lay_49 dX1_lay_50 dX1_lay_52 dX1_lay_55 hno hlocks ⟨Nat.le_of_ble_eq_true rfl, Nat.le_of_ble_eq_true rfl⟩ (Nat.le_of_ble_eq_true rfl) (Nat.le_of_ble_eq_true rfl) (Nat.le_of_ble_eq_true rfl) (Nat.le_of_ble_eq_true rfl) (Nat.le_of_ble_eq_true rfl) (⟨4, rfl, (by first | (simp only [hy_klay, hy_vlay, hy_slay, if_pos (hy_kbox0 f_2), hb2, if_neg c_8, if_pos c_13, if_neg f_28, if_pos (hy_kpl0 f_34), if_neg c_43]) : hy_klay S a1 a2 a3 = 5).trans (by decide +kernel)⟩)
      · -- 16
        exact hy_throw (cls := "java/lang/IllegalArgumentException") (text := "no such kind") (ik := 36) (is := 90) (ic := 40) hx hb hl9 hts hown hE hZ (by decide +kernel) (by decide +kernel) (by decide +kernel) (by decide +kernel) (by decide +kernel) (by decide +kernel) (by decide +kernel) (hl.1.trans hml.symm) dX1_lay_16 dX1_lay_19 dX1_lay_20 dX1_lay_22 dX1_lay_25 hno hlocks ⟨Nat.le_of_ble_eq_true rfl, Nat.le_of_ble_eq_true rfl⟩ (Nat.le_of_ble_eq_true rfl) (Nat.le_of_ble_eq_true rfl) (Nat.le_of_ble_eq_true rfl) (Nat.le_of_ble_eq_true rfl) (Nat.le_of_ble_eq_true rfl) (⟨1, rfl, (by first | (simp only [hy_klay, hy_vlay, hy_slay, if_pos (hy_kbox0 f_2), hb2, if_neg c_8, if_neg c_13]) : hy_klay S a1 a2 a3 = 2).trans (by decide +kernel)⟩)
set_option maxHeartbeats 4000000 in
set_option maxRecDepth 100000 in
theorem c_X1_lift (l : Launch) (D : va_G) (cI cJ cB : ClassId) (h b k w z : Nat) (ad ca : Nat → Nat) (S : hy_S) (hl9 : l.stackTraces = false) (hwf : hy_wf S) (sz : Nat) (a1 a2 : Int32) : vx_Met l yX1_lift wsX1_lift ({ frames := 8, cells := 3, slots := 18, locals := 131 }) (va_Pc [.ref h, .int a1, .int a2] (hy_IP D cI cJ cB h b k w z ad ca S sz)) (va_Qi (fun (r9 : Int32) (_ : Unit) => hy_klift S a1 a2 = 0 ∧ r9 = (hy_at S a1 a2).toInt32) (fun _ => hy_At D cI cJ cB h (hy_slift S a1 a2) (va_A (hy_W cI cJ cB h b k w z ad ca S) sz)) (va_A (hy_W cI cJ cB h b k w z ad ca S) sz)) (hy_X (hy_nm ["java/lang/IndexOutOfBoundsException", "java/lang/IllegalStateException", "java/util/NoSuchElementException"] (hy_klift S a1 a2))) 3 18 (va_A (hy_W cI cJ cB h b k w z ad ca S) sz) := by
  refine vx_ofW (cc := cX1_lift) (maxL := 5) (ret := (some .int)) (by decide) rfl ?_
  intro p e s m args below meth c s₁ B hml hno hv
  obtain ⟨rfl, hsz, ⟨⟨hP, hK⟩, hE, hZ⟩, hD0⟩ := hv
  have hx := B.exec
  have hb := B.bytes
  have hr := B.returns
  have hts := atoms_spec (ws := wsX1_lift) B.pre
  have hown : s.vm.findClass RX1 = some m.cls := findClass_of_methodNamed B.named
  have hlocks := B.notSynchronized
  subst hsz
  have hD := hD0.self (sz := s.heap.size)
  generalize hAe : va_A (hy_W cI cJ cB h b k w z ad ca S) s.heap.size = A at hD ⊢
  have hA : ∀ q : Nat, s.heap.size ≤ q → A q := fun q h => by rw [← hAe]; exact Or.inr h
  have hS : va_S A s.heap s.heap [] := va_S.rf
  have hinX0 : ∀ w ∈ wsX00, w ∈ wsX1_lift := by decide +kernel
  have hl := lv_entry ([.ref h, .int a1, .int a2]) (n := 5) (Nat.le_of_ble_eq_true rfl)
  rw [lg_entry_eq]
  generalize (lg_sl ([.ref h, .int a1, .int a2]) ++ List.replicate (5 - (lg_sl ([.ref h, .int a1, .int a2])).length) Slot.unset).toArray = ls at hl ⊢
  have hl : lv_has ls 5 [(0, .ref h), (1, .int a1), (2, .int a2)] := hl
  refine lv_aload_n hx hb dX1_lift_0 rfl (lv_at hl 0 rfl) ?_
  refine lv_iload_n hx hb dX1_lift_1 rfl (lv_at hl 1 rfl) ?_
  refine hy_thruq (vx_runV (As := [.int a1]) (rest := []) ⟨hx, hb, hml, hown, hts⟩ (c_X1_contentOf l D cI cJ cB h b k w z ad ca S hl9 a1) (cwV 1 hts gX1_lift_X1_contentOf rfl rfl rfl (by decide +kernel) ⟨Nat.le_of_ble_eq_true rfl, Nat.le_of_ble_eq_true rfl⟩) ⟨hy_IX_blind, va_recv hK hP (ci := 1) (q0 := 0) rfl rfl, fun U hU hW => ⟨rfl, hy_IX_at hU hW hP hK hE hZ⟩⟩ rfl rfl hl.1 rfl (lv_room (Nat.le_of_ble_eq_true rfl)) dX1_lift_2 ⟨Nat.le_of_ble_eq_true rfl, Nat.le_of_ble_eq_true rfl⟩) hno hlocks (fun E q => ⟨0, by rw [q.1]; rfl, (by simp only [hy_klift, hy_at, hy_slift, if_neg (hy_kbox1 q.2)] : hy_klift S a1 a2 = 1).trans (by decide +kernel)⟩) (Nat.le_of_ble_eq_true rfl) (Nat.le_of_ble_eq_true rfl) (fun r9 e9 => ?_)
  obtain ⟨rfl, f_2⟩ := e9
  cases hb2 : hy_bx S a1.toNatClampNeg with
  | none =>
    refine W.eq (g2 := F0 m 5 ls [.null]) rfl ?_
    refine lv_astore_nN (lv' := [(3, .null), (0, .ref h), (1, .int a1), (2, .int a2)]) hx hb dX1_lift_5 rfl hl (by decide) rfl (fun ls hl => ?_)
    refine lv_aload_nN hx hb dX1_lift_6 rfl (lv_at hl 0 rfl) ?_
    refine hy_thruv (vx_runS (As := [.null]) (rest := []) ⟨hx, hb, hml, hown, hts⟩ (c_X1_requireCombs l D cI cJ cB h b k w z ad ca S hl9 none (fun _ q => nomatch q)) (va_cwS 1 hts gX1_lift_X1_requireCombs rfl rfl rfl (by decide +kernel) ⟨Nat.le_of_ble_eq_true rfl, Nat.le_of_ble_eq_true rfl⟩) ⟨hy_IX_blind, fun U hU hW => ⟨rfl, hy_IX_at hU hW hP hK hE hZ⟩⟩ rfl rfl hl.1 rfl (lv_room (Nat.le_of_ble_eq_true rfl)) dX1_lift_7 ⟨Nat.le_of_ble_eq_true rfl, Nat.le_of_ble_eq_true rfl⟩) hno hlocks (fun E q => ⟨1, by rw [q.1]; rfl, (by simp only [hy_klift, hy_at, hy_slift, if_pos (hy_kbox0 f_2), hb2, if_pos q.2] : hy_klift S a1 a2 = 2).trans (by decide +kernel)⟩) (Nat.le_of_ble_eq_true rfl) (Nat.le_of_ble_eq_true rfl) (fun f_7 => ?_)
    exact absurd rfl f_7
  | some r2 =>
    have hr2 : r2 ≤ hy_nr S := hwf.2.2.1 _ _ hb2
    refine W.eq (g2 := F0 m 5 ls [.ref (ad r2)]) rfl ?_
    refine lv_astore_n (lv' := [(3, .ref (ad r2)), (0, .ref h), (1, .int a1), (2, .int a2)]) hx hb dX1_lift_5 rfl hl (by decide) rfl (fun ls hl => ?_)
    refine lv_aload_n hx hb dX1_lift_6 rfl (lv_at hl 0 rfl) ?_
    refine hy_thruv (vx_runS (As := [.ref (ad r2)]) (rest := []) ⟨hx, hb, hml, hown, hts⟩ (c_X1_requireCombs l D cI cJ cB h b k w z ad ca S hl9 (some r2) (fun _ q => by cases q; exact hr2)) (va_cwS 1 hts gX1_lift_X1_requireCombs rfl rfl rfl (by decide +kernel) ⟨Nat.le_of_ble_eq_true rfl, Nat.le_of_ble_eq_true rfl⟩) ⟨hy_IX_blind, fun U hU hW => ⟨rfl, hy_IX_at hU hW hP hK hE hZ⟩⟩ rfl rfl hl.1 rfl (lv_room (Nat.le_of_ble_eq_true rfl)) dX1_lift_7 ⟨Nat.le_of_ble_eq_true rfl, Nat.le_of_ble_eq_true rfl⟩) hno hlocks (fun E q => ⟨1, by rw [q.1]; rfl, (by simp only [hy_klift, hy_at, hy_slift, if_pos (hy_kbox0 f_2), hb2, if_pos q.2] : hy_klift S a1 a2 = 2).trans (by decide +kernel)⟩) (Nat.le_of_ble_eq_true rfl) (Nat.le_of_ble_eq_true rfl) (fun f_7 => ?_)
    refine lv_aload_n hx hb dX1_lift_10 rfl (lv_at hl 0 rfl) ?_
    refine lv_iload_n hx hb dX1_lift_11 rfl (lv_at hl 3 rfl) ?_
    refine hy_thruv (vx_runS (As := [.ref (ad r2), .int a2]) (rest := []) ⟨hx, hb, hml, hown, hts⟩ (c_X1_requirePlace l D cI cJ cB h b k w z ad ca S hl9 r2 hr2 a2) (va_cwS 2 hts gX1_lift_X1_requirePlace rfl rfl rfl (by decide +kernel) ⟨Nat.le_of_ble_eq_true rfl, Nat.le_of_ble_eq_true rfl⟩) ⟨hy_IX_blind, fun U hU hW => ⟨rfl, hy_IX_at hU hW hP hK hE hZ⟩⟩ rfl rfl hl.1 rfl (lv_room (Nat.le_of_ble_eq_true rfl)) dX1_lift_12 ⟨Nat.le_of_ble_eq_true rfl, Nat.le_of_ble_eq_true rfl⟩) hno hlocks (fun E q => ⟨2, by rw [q.1]; rfl, (by simp only [hy_klift, hy_at, hy_slift, if_pos (hy_kbox0 f_2), hb2, if_neg f_7, if_neg (hy_kpl1 q.2)] : hy_klift S a1 a2 = 3).trans (by decide +kernel)⟩) (Nat.le_of_ble_eq_true rfl) (Nat.le_of_ble_eq_true rfl) (fun f_12 => ?_)
    refine lv_aload_n hx hb dX1_lift_15 rfl (lv_at hl 0 rfl) ?_
    refine va_get (D := D) (ci := 0) (v := .ref (ca r2)) (C := RX0) (T := TX0) (N := 2) hx hb hts hinX0 hown hK hP (5 + r2) (hy_W_row hr2) rfl 1 (by decide) (hts (.fieldLink RX1 79 "HiveYard$Content" "cells" "[J") (by decide +kernel)) (fun _ h9 => h9) rfl dX1_lift_16 ?_
    refine lv_iload_n hx hb dX1_lift_19 rfl (lv_at hl 3 rfl) ?_
    refine va_lald hx hb hK hP (5 + (hy_nr S + 1 + r2)) 1 (hy_W_arr hr2) rfl (hy_pl_in hwf f_12) dX1_lift_20 ?_
    refine lv_l2i (v := ((hy_va S r2) a2.toNatClampNeg).toInt32) hx hb dX1_lift_21 rfl ?_
    refine lv_istore (lv' := [(4, .int ((hy_va S r2) a2.toNatClampNeg).toInt32), (3, .ref (ad r2)), (0, .ref h), (1, .int a1), (2, .int a2)]) hx hb dX1_lift_22 hl (by decide) rfl (fun ls hl => ?_)
    refine lv_aload_n hx hb dX1_lift_24 rfl (lv_at hl 1 rfl) ?_
    refine va_get (D := D) (ci := 0) (v := .ref (ca r2)) (C := RX0) (T := TX0) (N := 2) hx hb hts hinX0 hown hK hP (5 + r2) (hy_W_row hr2) rfl 1 (by decide) (hts (.fieldLink RX1 79 "HiveYard$Content" "cells" "[J") (by decide +kernel)) (fun _ h9 => h9) rfl dX1_lift_25 ?_
    refine lv_iload_n hx hb dX1_lift_28 rfl (lv_at hl 4 rfl) ?_
    refine lv_ldc2 (v := (-1)) hx hb hown (hts (.constantLong RX1 105 (-1)) (by decide +kernel)) dX1_lift_29 ?_
    refine va_last hx hb hK hP hD hS (5 + (hy_nr S + 1 + r2)) 1 (hy_W_arr hr2) rfl (hy_pl_in hwf f_12) dX1_lift_32 (fun H locs hP hD hS => ?_)
    have hP : va_P D vwCl (hy_W cI cJ cB h b k w z ad ca (hy_uva S r2 (vp_updL (hy_va S r2) a2.toNatClampNeg (-1)))) H := by rw [← hy_W_setArr (S := S) hr2 (vp_updL (hy_va S r2) a2.toNatClampNeg (-1))]; exact hP
    have hD : va_D A (hy_W cI cJ cB h b k w z ad ca (hy_uva S r2 (vp_updL (hy_va S r2) a2.toNatClampNeg (-1)))) := by rw [← hy_W_setArr (S := S) hr2 (vp_updL (hy_va S r2) a2.toNatClampNeg (-1))]; exact hD
    refine lv_iload hx hb dX1_lift_33 (lv_at hl 0 rfl) ?_
    have eS : (hy_W cI cJ cB h b k w z ad ca (hy_uva S r2 (vp_updL (hy_va S r2) a2.toNatClampNeg (-1)))) = (hy_W cI cJ cB h b k w z ad ca (hy_slift S a1 a2)) := congrArg (hy_W cI cJ cB h b k w z ad ca) (by first | rfl | (simp only [hy_klift, hy_at, hy_slift, if_pos (hy_kbox0 f_2), hb2, if_neg f_7, if_pos (hy_kpl0 f_12)]; done))
    have hP : va_P D vwCl (hy_W cI cJ cB h b k w z ad ca (hy_slift S a1 a2)) H := by rw [← eS]; exact hP
    have hD : va_D A (hy_W cI cJ cB h b k w z ad ca (hy_slift S a1 a2)) := by rw [← eS]; exact hD
    exact vx_ret (W.widen (k := 3) (n := 18) (by decide) (by decide) (W.iret (v := ((hy_va S r2) a2.toNatClampNeg).toInt32) hx hb hr (fun t ht hW => ⟨⟨_, (), rfl, ⟨by simp only [hy_klift, hy_at, hy_slift, if_pos (hy_kbox0 f_2), hb2, if_neg f_7, if_pos (hy_kpl0 f_12)], by first | rfl | (simp only [hy_klift, hy_at, hy_slift, if_pos (hy_kbox0 f_2), hb2, if_neg f_7, if_pos (hy_kpl0 f_12)]; done)⟩, b, k, w, z, ad, ca, by rw [ht]; exact hP, va_K.moved hW.alike hK, hD⟩, hS.F ht⟩) hS.2.2 dX1_lift_35))
set_option maxHeartbeats 4000000 in
set_option maxRecDepth 100000 in
theorem c_X1_move (l : Launch) (D : va_G) (cI cJ cB : ClassId) (h b k w z : Nat) (ad ca : Nat → Nat) (S : hy_S) (hl9 : l.stackTraces = false) (hwf : hy_wf S) (sz : Nat) (a1 a2 a3 a4 a5 : Int32) : vx_Met l yX1_move wsX1_move ({ frames := 8, cells := 2, slots := 12, locals := 131 }) (va_Pc [.ref h, .int a1, .int a2, .int a3, .int a4, .int a5] (hy_IP D cI cJ cB h b k w z ad ca S sz)) (va_Qi (fun (r9 : Int32) (_ : Unit) => hy_k2b a1 a3 = 0 ∧ r9 = hy_vmove S a1 a2 a3 a4 a5) (fun _ => hy_At D cI cJ cB h (hy_smove S a1 a2 a3 a4 a5) (va_A (hy_W cI cJ cB h b k w z ad ca S) sz)) (va_A (hy_W cI cJ cB h b k w z ad ca S) sz)) (hy_X (hy_nm ["java/lang/IndexOutOfBoundsException"] (hy_k2b a1 a3))) 2 12 (va_A (hy_W cI cJ cB h b k w z ad ca S) sz) := by
  refine vx_ofW (cc := cX1_move) (maxL := 8) (ret := (some .int)) (by decide) rfl ?_
  intro p e s m args below meth c s₁ B hml hno hv
  obtain ⟨rfl, hsz, ⟨⟨hP, hK⟩, hE, hZ⟩, hD0⟩ := hv
  have hx := B.exec
  have hb := B.bytes
  have hr := B.returns
  have hts := atoms_spec (ws := wsX1_move) B.pre
  have hown : s.vm.findClass RX1 = some m.cls := findClass_of_methodNamed B.named
  have hlocks := B.notSynchronized
  subst hsz
  have hD := hD0.self (sz := s.heap.size)
  generalize hAe : va_A (hy_W cI cJ cB h b k w z ad ca S) s.heap.size = A at hD ⊢
  have hA : ∀ q : Nat, s.heap.size ≤ q → A q := fun q h => by rw [← hAe]; exact Or.inr h
  have hS : va_S A s.heap s.heap [] := va_S.rf
  have hl := lv_entry ([.ref h, .int a1, .int a2, .int a3, .int a4, .int a5]) (n := 8) (Nat.le_of_ble_eq_true rfl)
  rw [lg_entry_eq]
  generalize (lg_sl ([.ref h, .int a1, .int a2, .int a3, .int a4, .int a5]) ++ List.replicate (8 - (lg_sl ([.ref h, .int a1, .int a2, .int a3, .int a4, .int a5])).length) Slot.unset).toArray = ls at hl ⊢
  have hl : lv_has ls 8 [(0, .ref h), (1, .int a1), (2, .int a2), (3, .int a3), (4, .int a4), (5, .int a5)] := hl
  refine lv_aload_n hx hb dX1_move_0 rfl (lv_at hl 0 rfl) ?_
  refine lv_iload_n hx hb dX1_move_1 rfl (lv_at hl 1 rfl) ?_
  refine hy_thruq (vx_runV (As := [.int a1]) (rest := []) ⟨hx, hb, hml, hown, hts⟩ (c_X1_contentOf l D cI cJ cB h b k w z ad ca S hl9 a1) (cwV 1 hts gX1_move_X1_contentOf rfl rfl rfl (by decide +kernel) ⟨Nat.le_of_ble_eq_true rfl, Nat.le_of_ble_eq_true rfl⟩) ⟨hy_IX_blind, va_recv hK hP (ci := 1) (q0 := 0) rfl rfl, fun U hU hW => ⟨rfl, hy_IX_at hU hW hP hK hE hZ⟩⟩ rfl rfl hl.1 rfl (lv_room (Nat.le_of_ble_eq_true rfl)) dX1_move_2 ⟨Nat.le_of_ble_eq_true rfl, Nat.le_of_ble_eq_true rfl⟩) hno hlocks (fun E q => ⟨0, by rw [q.1]; rfl, (by simp only [hy_k2b, if_neg (hy_kbox1 q.2)] : hy_k2b a1 a3 = 1).trans (by decide +kernel)⟩) (Nat.le_of_ble_eq_true rfl) (Nat.le_of_ble_eq_true rfl) (fun r9 e9 => ?_)
  obtain ⟨rfl, f_2⟩ := e9
  cases hb2 : hy_bx S a1.toNatClampNeg with
  | none =>
    refine W.eq (g2 := F0 m 5 ls [.null]) rfl ?_
    refine lv_astoreN (lv' := [(6, .null), (0, .ref h), (1, .int a1), (2, .int a2), (3, .int a3), (4, .int a4), (5, .int a5)]) hx hb dX1_move_5 hl (by decide) rfl (fun ls hl => ?_)
    refine lv_aload_n hx hb dX1_move_7 rfl (lv_at hl 1 rfl) ?_
    refine lv_iload_n hx hb dX1_move_8 rfl (lv_at hl 4 rfl) ?_
    refine hy_thruq (vx_runV (As := [.int a3]) (rest := []) ⟨hx, hb, hml, hown, hts⟩ (c_X1_contentOf l D cI cJ cB h b k w z ad ca S hl9 a3) (cwV 1 hts gX1_move_X1_contentOf rfl rfl rfl (by decide +kernel) ⟨Nat.le_of_ble_eq_true rfl, Nat.le_of_ble_eq_true rfl⟩) ⟨hy_IX_blind, va_recv hK hP (ci := 1) (q0 := 0) rfl rfl, fun U hU hW => ⟨rfl, hy_IX_at hU hW hP hK hE hZ⟩⟩ rfl rfl hl.1 rfl (lv_room (Nat.le_of_ble_eq_true rfl)) dX1_move_9 ⟨Nat.le_of_ble_eq_true rfl, Nat.le_of_ble_eq_true rfl⟩) hno hlocks (fun E q => ⟨0, by rw [q.1]; rfl, (by simp only [hy_k2b, if_pos (hy_kbox0 f_2), hb2, hy_kbox1e q.2] : hy_k2b a1 a3 = 1).trans (by decide +kernel)⟩) (Nat.le_of_ble_eq_true rfl) (Nat.le_of_ble_eq_true rfl) (fun r9 e9 => ?_)
    obtain ⟨rfl, f_9⟩ := e9
    cases hb9 : hy_bx S a3.toNatClampNeg with
    | none =>
      refine W.eq (g2 := F0 m 12 ls [.null]) rfl ?_
      refine lv_astoreN (lv' := [(7, .null), (6, .null), (0, .ref h), (1, .int a1), (2, .int a2), (3, .int a3), (4, .int a4), (5, .int a5)]) hx hb dX1_move_12 hl (by decide) rfl (fun ls hl => ?_)
      refine lv_aload_n hx hb dX1_move_14 rfl (lv_at hl 2 rfl) ?_
      refine lv_aloadN hx hb dX1_move_15 (lv_at hl 1 rfl) ?_
      refine lv_iload_n hx hb dX1_move_17 rfl (lv_at hl 4 rfl) ?_
      refine lv_aloadN hx hb dX1_move_18 (lv_at hl 0 rfl) ?_
      refine lv_iload hx hb dX1_move_20 (lv_at hl 6 rfl) ?_
      refine lv_iload hx hb dX1_move_22 (lv_at hl 7 rfl) ?_
      have hFc := hy_free hD hS hA
      refine va_calli (va_runV (As := [.null, .int a2, .null, .int a4, .int a5]) (rest := []) ⟨hx, hb, hml, hown, hts⟩ (c_X1_carry l D cI cJ cB h b k w z ad ca S hwf s.heap.size none none (fun _ q => nomatch q) (fun _ q => nomatch q) a2 a4 a5) (cwV 5 hts gX1_move_X1_carry rfl rfl rfl (by decide +kernel) ⟨Nat.le_of_ble_eq_true rfl, Nat.le_of_ble_eq_true rfl⟩) ⟨hy_IM_blind, va_recv hK hP (ci := 1) (q0 := 0) rfl rfl, fun U hU hW => ⟨rfl, by rw [hU], hy_I_at hU hW hP hK, hD.weaken (fun _ _ _ _ => trivial)⟩⟩ rfl rfl hl.1 rfl (lv_room (Nat.le_of_ble_eq_true rfl)) dX1_move_24 ⟨Nat.le_of_ble_eq_true rfl, Nat.le_of_ble_eq_true rfl⟩) hS (fun q _ h => hFc q h) hFc (fun v9 u t H locs ht hvm hw hB hz1 hk1 hS => ?_)
      obtain ⟨hP1, hK1, hD1⟩ := hB
      rw [ht] at hP1
      have hP : va_P D vwCl (hy_W cI cJ cB h b k w z ad ca (hy_cS S none none a2 a4 a5)) H := hP1
      have hD : va_D A (hy_W cI cJ cB h b k w z ad ca (hy_cS S none none a2 a4 a5)) := hD1.weaken (fun _ q _ h => hFc q.1 h)
      clear hP1 hK1 hD1 hFc
      subst hw
      have eS : (hy_W cI cJ cB h b k w z ad ca (hy_cS S none none a2 a4 a5)) = (hy_W cI cJ cB h b k w z ad ca (hy_smove S a1 a2 a3 a4 a5)) := congrArg (hy_W cI cJ cB h b k w z ad ca) (by rw [hy_smove, hb2, hb9])
      have hP : va_P D vwCl (hy_W cI cJ cB h b k w z ad ca (hy_smove S a1 a2 a3 a4 a5)) H := by rw [← eS]; exact hP
      have hD : va_D A (hy_W cI cJ cB h b k w z ad ca (hy_smove S a1 a2 a3 a4 a5)) := by rw [← eS]; exact hD
      exact vx_ret (W.widen (k := 2) (n := 12) (by decide) (by decide) (W.iret (v := ((hy_carry S none none a2 a4 a5).1)) hx hb hr (fun t ht hW => ⟨⟨_, (), rfl, ⟨by simp only [hy_k2b, if_pos (hy_kbox0 f_2), hy_kbox0 f_9], by rw [hy_vmove, hb2, hb9]⟩, b, k, w, z, ad, ca, by rw [ht]; exact hP, va_K.moved hW.alike hK, hD⟩, hS.F ht⟩) hS.2.2 dX1_move_27))
    | some r9 =>
      have hr9 : r9 ≤ hy_nr S := hwf.2.2.1 _ _ hb9
      refine W.eq (g2 := F0 m 12 ls [.ref (ad r9)]) rfl ?_
      refine lv_astore (lv' := [(7, .ref (ad r9)), (6, .null), (0, .ref h), (1, .int a1), (2, .int a2), (3, .int a3), (4, .int a4), (5, .int a5)]) hx hb dX1_move_12 hl (by decide) rfl (fun ls hl => ?_)
      refine lv_aload_n hx hb dX1_move_14 rfl (lv_at hl 2 rfl) ?_
      refine lv_aloadN hx hb dX1_move_15 (lv_at hl 1 rfl) ?_
      refine lv_iload_n hx hb dX1_move_17 rfl (lv_at hl 4 rfl) ?_
      refine lv_aload hx hb dX1_move_18 (lv_at hl 0 rfl) ?_
      refine lv_iload hx hb dX1_move_20 (lv_at hl 6 rfl) ?_
      refine lv_iload hx hb dX1_move_22 (lv_at hl 7 rfl) ?_
      have hFc := hy_free hD hS hA
      refine va_calli (va_runV (As := [.null, .int a2, .ref (ad r9), .int a4, .int a5]) (rest := []) ⟨hx, hb, hml, hown, hts⟩ (c_X1_carry l D cI cJ cB h b k w z ad ca S hwf s.heap.size none (some r9) (fun _ q => nomatch q) (fun _ q => by cases q; exact hr9) a2 a4 a5) (cwV 5 hts gX1_move_X1_carry rfl rfl rfl (by decide +kernel) ⟨Nat.le_of_ble_eq_true rfl, Nat.le_of_ble_eq_true rfl⟩) ⟨hy_IM_blind, va_recv hK hP (ci := 1) (q0 := 0) rfl rfl, fun U hU hW => ⟨rfl, by rw [hU], hy_I_at hU hW hP hK, hD.weaken (fun _ _ _ _ => trivial)⟩⟩ rfl rfl hl.1 rfl (lv_room (Nat.le_of_ble_eq_true rfl)) dX1_move_24 ⟨Nat.le_of_ble_eq_true rfl, Nat.le_of_ble_eq_true rfl⟩) hS (fun q _ h => hFc q h) hFc (fun v9 u t H locs ht hvm hw hB hz1 hk1 hS => ?_)
      obtain ⟨hP1, hK1, hD1⟩ := hB
      rw [ht] at hP1
      have hP : va_P D vwCl (hy_W cI cJ cB h b k w z ad ca (hy_cS S none (some r9) a2 a4 a5)) H := hP1
      have hD : va_D A (hy_W cI cJ cB h b k w z ad ca (hy_cS S none (some r9) a2 a4 a5)) := hD1.weaken (fun _ q _ h => hFc q.1 h)
      clear hP1 hK1 hD1 hFc
      subst hw
      have eS : (hy_W cI cJ cB h b k w z ad ca (hy_cS S none (some r9) a2 a4 a5)) = (hy_W cI cJ cB h b k w z ad ca (hy_smove S a1 a2 a3 a4 a5)) := congrArg (hy_W cI cJ cB h b k w z ad ca) (by rw [hy_smove, hb2, hb9])
      have hP : va_P D vwCl (hy_W cI cJ cB h b k w z ad ca (hy_smove S a1 a2 a3 a4 a5)) H := by rw [← eS]; exact hP
      have hD : va_D A (hy_W cI cJ cB h b k w z ad ca (hy_smove S a1 a2 a3 a4 a5)) := by rw [← eS]; exact hD
      exact vx_ret (W.widen (k := 2) (n := 12) (by decide) (by decide) (W.iret (v := ((hy_carry S none (some r9) a2 a4 a5).1)) hx hb hr (fun t ht hW => ⟨⟨_, (), rfl, ⟨by simp only [hy_k2b, if_pos (hy_kbox0 f_2), hy_kbox0 f_9], by rw [hy_vmove, hb2, hb9]⟩, b, k, w, z, ad, ca, by rw [ht]; exact hP, va_K.moved hW.alike hK, hD⟩, hS.F ht⟩) hS.2.2 dX1_move_27))
  | some r2 =>
    have hr2 : r2 ≤ hy_nr S := hwf.2.2.1 _ _ hb2
    refine W.eq (g2 := F0 m 5 ls [.ref (ad r2)]) rfl ?_
    refine lv_astore (lv' := [(6, .ref (ad r2)), (0, .ref h), (1, .int a1), (2, .int a2), (3, .int a3), (4, .int a4), (5, .int a5)]) hx hb dX1_move_5 hl (by decide) rfl (fun ls hl => ?_)
    refine lv_aload_n hx hb dX1_move_7 rfl (lv_at hl 1 rfl) ?_
    refine lv_iload_n hx hb dX1_move_8 rfl (lv_at hl 4 rfl) ?_
    refine hy_thruq (vx_runV (As := [.int a3]) (rest := []) ⟨hx, hb, hml, hown, hts⟩ (c_X1_contentOf l D cI cJ cB h b k w z ad ca S hl9 a3) (cwV 1 hts gX1_move_X1_contentOf rfl rfl rfl (by decide +kernel) ⟨Nat.le_of_ble_eq_true rfl, Nat.le_of_ble_eq_true rfl⟩) ⟨hy_IX_blind, va_recv hK hP (ci := 1) (q0 := 0) rfl rfl, fun U hU hW => ⟨rfl, hy_IX_at hU hW hP hK hE hZ⟩⟩ rfl rfl hl.1 rfl (lv_room (Nat.le_of_ble_eq_true rfl)) dX1_move_9 ⟨Nat.le_of_ble_eq_true rfl, Nat.le_of_ble_eq_true rfl⟩) hno hlocks (fun E q => ⟨0, by rw [q.1]; rfl, (by simp only [hy_k2b, if_pos (hy_kbox0 f_2), hb2, hy_kbox1e q.2] : hy_k2b a1 a3 = 1).trans (by decide +kernel)⟩) (Nat.le_of_ble_eq_true rfl) (Nat.le_of_ble_eq_true rfl) (fun r9 e9 => ?_)
    obtain ⟨rfl, f_9⟩ := e9
    cases hb9 : hy_bx S a3.toNatClampNeg with
    | none =>
      refine W.eq (g2 := F0 m 12 ls [.null]) rfl ?_
      refine lv_astoreN (lv' := [(7, .null), (6, .ref (ad r2)), (0, .ref h), (1, .int a1), (2, .int a2), (3, .int a3), (4, .int a4), (5, .int a5)]) hx hb dX1_move_12 hl (by decide) rfl (fun ls hl => ?_)
      refine lv_aload_n hx hb dX1_move_14 rfl (lv_at hl 2 rfl) ?_
      refine lv_aload hx hb dX1_move_15 (lv_at hl 1 rfl) ?_
      refine lv_iload_n hx hb dX1_move_17 rfl (lv_at hl 4 rfl) ?_
      refine lv_aloadN hx hb dX1_move_18 (lv_at hl 0 rfl) ?_
      refine lv_iload hx hb dX1_move_20 (lv_at hl 6 rfl) ?_
      refine lv_iload hx hb dX1_move_22 (lv_at hl 7 rfl) ?_
      have hFc := hy_free hD hS hA
      refine va_calli (va_runV (As := [.ref (ad r2), .int a2, .null, .int a4, .int a5]) (rest := []) ⟨hx, hb, hml, hown, hts⟩ (c_X1_carry l D cI cJ cB h b k w z ad ca S hwf s.heap.size (some r2) none (fun _ q => by cases q; exact hr2) (fun _ q => nomatch q) a2 a4 a5) (cwV 5 hts gX1_move_X1_carry rfl rfl rfl (by decide +kernel) ⟨Nat.le_of_ble_eq_true rfl, Nat.le_of_ble_eq_true rfl⟩) ⟨hy_IM_blind, va_recv hK hP (ci := 1) (q0 := 0) rfl rfl, fun U hU hW => ⟨rfl, by rw [hU], hy_I_at hU hW hP hK, hD.weaken (fun _ _ _ _ => trivial)⟩⟩ rfl rfl hl.1 rfl (lv_room (Nat.le_of_ble_eq_true rfl)) dX1_move_24 ⟨Nat.le_of_ble_eq_true rfl, Nat.le_of_ble_eq_true rfl⟩) hS (fun q _ h => hFc q h) hFc (fun v9 u t H locs ht hvm hw hB hz1 hk1 hS => ?_)
      obtain ⟨hP1, hK1, hD1⟩ := hB
      rw [ht] at hP1
      have hP : va_P D vwCl (hy_W cI cJ cB h b k w z ad ca (hy_cS S (some r2) none a2 a4 a5)) H := hP1
      have hD : va_D A (hy_W cI cJ cB h b k w z ad ca (hy_cS S (some r2) none a2 a4 a5)) := hD1.weaken (fun _ q _ h => hFc q.1 h)
      clear hP1 hK1 hD1 hFc
      subst hw
      have eS : (hy_W cI cJ cB h b k w z ad ca (hy_cS S (some r2) none a2 a4 a5)) = (hy_W cI cJ cB h b k w z ad ca (hy_smove S a1 a2 a3 a4 a5)) := congrArg (hy_W cI cJ cB h b k w z ad ca) (by rw [hy_smove, hb2, hb9])
      have hP : va_P D vwCl (hy_W cI cJ cB h b k w z ad ca (hy_smove S a1 a2 a3 a4 a5)) H := by rw [← eS]; exact hP
      have hD : va_D A (hy_W cI cJ cB h b k w z ad ca (hy_smove S a1 a2 a3 a4 a5)) := by rw [← eS]; exact hD
      exact vx_ret (W.widen (k := 2) (n := 12) (by decide) (by decide) (W.iret (v := ((hy_carry S (some r2) none a2 a4 a5).1)) hx hb hr (fun t ht hW => ⟨⟨_, (), rfl, ⟨by simp only [hy_k2b, if_pos (hy_kbox0 f_2), hy_kbox0 f_9], by rw [hy_vmove, hb2, hb9]⟩, b, k, w, z, ad, ca, by rw [ht]; exact hP, va_K.moved hW.alike hK, hD⟩, hS.F ht⟩) hS.2.2 dX1_move_27))
    | some r9 =>
      have hr9 : r9 ≤ hy_nr S := hwf.2.2.1 _ _ hb9
      refine W.eq (g2 := F0 m 12 ls [.ref (ad r9)]) rfl ?_
      refine lv_astore (lv' := [(7, .ref (ad r9)), (6, .ref (ad r2)), (0, .ref h), (1, .int a1), (2, .int a2), (3, .int a3), (4, .int a4), (5, .int a5)]) hx hb dX1_move_12 hl (by decide) rfl (fun ls hl => ?_)
      refine lv_aload_n hx hb dX1_move_14 rfl (lv_at hl 2 rfl) ?_
      refine lv_aload hx hb dX1_move_15 (lv_at hl 1 rfl) ?_
      refine lv_iload_n hx hb dX1_move_17 rfl (lv_at hl 4 rfl) ?_
      refine lv_aload hx hb dX1_move_18 (lv_at hl 0 rfl) ?_
      refine lv_iload hx hb dX1_move_20 (lv_at hl 6 rfl) ?_
      refine lv_iload hx hb dX1_move_22 (lv_at hl 7 rfl) ?_
      have hFc := hy_free hD hS hA
      refine va_calli (va_runV (As := [.ref (ad r2), .int a2, .ref (ad r9), .int a4, .int a5]) (rest := []) ⟨hx, hb, hml, hown, hts⟩ (c_X1_carry l D cI cJ cB h b k w z ad ca S hwf s.heap.size (some r2) (some r9) (fun _ q => by cases q; exact hr2) (fun _ q => by cases q; exact hr9) a2 a4 a5) (cwV 5 hts gX1_move_X1_carry rfl rfl rfl (by decide +kernel) ⟨Nat.le_of_ble_eq_true rfl, Nat.le_of_ble_eq_true rfl⟩) ⟨hy_IM_blind, va_recv hK hP (ci := 1) (q0 := 0) rfl rfl, fun U hU hW => ⟨rfl, by rw [hU], hy_I_at hU hW hP hK, hD.weaken (fun _ _ _ _ => trivial)⟩⟩ rfl rfl hl.1 rfl (lv_room (Nat.le_of_ble_eq_true rfl)) dX1_move_24 ⟨Nat.le_of_ble_eq_true rfl, Nat.le_of_ble_eq_true rfl⟩) hS (fun q _ h => hFc q h) hFc (fun v9 u t H locs ht hvm hw hB hz1 hk1 hS => ?_)
      obtain ⟨hP1, hK1, hD1⟩ := hB
      rw [ht] at hP1
      have hP : va_P D vwCl (hy_W cI cJ cB h b k w z ad ca (hy_cS S (some r2) (some r9) a2 a4 a5)) H := hP1
      have hD : va_D A (hy_W cI cJ cB h b k w z ad ca (hy_cS S (some r2) (some r9) a2 a4 a5)) := hD1.weaken (fun _ q _ h => hFc q.1 h)
      clear hP1 hK1 hD1 hFc
      subst hw
      have eS : (hy_W cI cJ cB h b k w z ad ca (hy_cS S (some r2) (some r9) a2 a4 a5)) = (hy_W cI cJ cB h b k w z ad ca (hy_smove S a1 a2 a3 a4 a5)) := congrArg (hy_W cI cJ cB h b k w z ad ca) (by rw [hy_smove, hb2, hb9])
      have hP : va_P D vwCl (hy_W cI cJ cB h b k w z ad ca (hy_smove S a1 a2 a3 a4 a5)) H := by rw [← eS]; exact hP
      have hD : va_D A (hy_W cI cJ cB h b k w z ad ca (hy_smove S a1 a2 a3 a4 a5)) := by rw [← eS]; exact hD
      exact vx_ret (W.widen (k := 2) (n := 12) (by decide) (by decide) (W.iret (v := ((hy_carry S (some r2) (some r9) a2 a4 a5).1)) hx hb hr (fun t ht hW => ⟨⟨_, (), rfl, ⟨by simp only [hy_k2b, if_pos (hy_kbox0 f_2), hy_kbox0 f_9], by rw [hy_vmove, hb2, hb9]⟩, b, k, w, z, ad, ca, by rw [ht]; exact hP, va_K.moved hW.alike hK, hD⟩, hS.F ht⟩) hS.2.2 dX1_move_27))
set_option maxHeartbeats 4000000 in
set_option maxRecDepth 100000 in
theorem c_X1_pour (l : Launch) (D : va_G) (cI cJ cB : ClassId) (h b k w z : Nat) (ad ca : Nat → Nat) (S : hy_S) (hl9 : l.stackTraces = false) (hwf : hy_wf S) (sz : Nat) (a1 a2 : Int32) : vx_Met l yX1_pour wsX1_pour ({ frames := 8, cells := 2, slots := 12, locals := 131 }) (va_Pc [.ref h, .int a1, .int a2] (hy_IP D cI cJ cB h b k w z ad ca S sz)) (va_Qi (fun (r9 : Int32) (_ : Unit) => hy_k2b a1 a2 = 0 ∧ r9 = hy_vpour S a1 a2) (fun _ => hy_At D cI cJ cB h (hy_spour S a1 a2) (va_A (hy_W cI cJ cB h b k w z ad ca S) sz)) (va_A (hy_W cI cJ cB h b k w z ad ca S) sz)) (hy_X (hy_nm ["java/lang/IndexOutOfBoundsException"] (hy_k2b a1 a2))) 2 12 (va_A (hy_W cI cJ cB h b k w z ad ca S) sz) := by
  refine vx_ofW (cc := cX1_pour) (maxL := 6) (ret := (some .int)) (by decide) rfl ?_
  intro p e s m args below meth c s₁ B hml hno hv
  obtain ⟨rfl, hsz, ⟨⟨hP, hK⟩, hE, hZ⟩, hD0⟩ := hv
  have hx := B.exec
  have hb := B.bytes
  have hr := B.returns
  have hts := atoms_spec (ws := wsX1_pour) B.pre
  have hown : s.vm.findClass RX1 = some m.cls := findClass_of_methodNamed B.named
  have hlocks := B.notSynchronized
  subst hsz
  have hD := hD0.self (sz := s.heap.size)
  generalize hAe : va_A (hy_W cI cJ cB h b k w z ad ca S) s.heap.size = A at hD ⊢
  have hA : ∀ q : Nat, s.heap.size ≤ q → A q := fun q h => by rw [← hAe]; exact Or.inr h
  have hS : va_S A s.heap s.heap [] := va_S.rf
  have hl := lv_entry ([.ref h, .int a1, .int a2]) (n := 6) (Nat.le_of_ble_eq_true rfl)
  rw [lg_entry_eq]
  generalize (lg_sl ([.ref h, .int a1, .int a2]) ++ List.replicate (6 - (lg_sl ([.ref h, .int a1, .int a2])).length) Slot.unset).toArray = ls at hl ⊢
  have hl : lv_has ls 6 [(0, .ref h), (1, .int a1), (2, .int a2)] := hl
  refine lv_aload_n hx hb dX1_pour_0 rfl (lv_at hl 0 rfl) ?_
  refine lv_iload_n hx hb dX1_pour_1 rfl (lv_at hl 1 rfl) ?_
  refine hy_thruq (vx_runV (As := [.int a1]) (rest := []) ⟨hx, hb, hml, hown, hts⟩ (c_X1_contentOf l D cI cJ cB h b k w z ad ca S hl9 a1) (cwV 1 hts gX1_pour_X1_contentOf rfl rfl rfl (by decide +kernel) ⟨Nat.le_of_ble_eq_true rfl, Nat.le_of_ble_eq_true rfl⟩) ⟨hy_IX_blind, va_recv hK hP (ci := 1) (q0 := 0) rfl rfl, fun U hU hW => ⟨rfl, hy_IX_at hU hW hP hK hE hZ⟩⟩ rfl rfl hl.1 rfl (lv_room (Nat.le_of_ble_eq_true rfl)) dX1_pour_2 ⟨Nat.le_of_ble_eq_true rfl, Nat.le_of_ble_eq_true rfl⟩) hno hlocks (fun E q => ⟨0, by rw [q.1]; rfl, (by simp only [hy_k2b, if_neg (hy_kbox1 q.2)] : hy_k2b a1 a2 = 1).trans (by decide +kernel)⟩) (Nat.le_of_ble_eq_true rfl) (Nat.le_of_ble_eq_true rfl) (fun r9 e9 => ?_)
  obtain ⟨rfl, f_2⟩ := e9
  cases hb2 : hy_bx S a1.toNatClampNeg with
  | none =>
    refine W.eq (g2 := F0 m 5 ls [.null]) rfl ?_
    refine lv_astore_nN (lv' := [(3, .null), (0, .ref h), (1, .int a1), (2, .int a2)]) hx hb dX1_pour_5 rfl hl (by decide) rfl (fun ls hl => ?_)
    refine lv_aload_n hx hb dX1_pour_6 rfl (lv_at hl 1 rfl) ?_
    refine lv_iload_n hx hb dX1_pour_7 rfl (lv_at hl 3 rfl) ?_
    refine hy_thruq (vx_runV (As := [.int a2]) (rest := []) ⟨hx, hb, hml, hown, hts⟩ (c_X1_contentOf l D cI cJ cB h b k w z ad ca S hl9 a2) (cwV 1 hts gX1_pour_X1_contentOf rfl rfl rfl (by decide +kernel) ⟨Nat.le_of_ble_eq_true rfl, Nat.le_of_ble_eq_true rfl⟩) ⟨hy_IX_blind, va_recv hK hP (ci := 1) (q0 := 0) rfl rfl, fun U hU hW => ⟨rfl, hy_IX_at hU hW hP hK hE hZ⟩⟩ rfl rfl hl.1 rfl (lv_room (Nat.le_of_ble_eq_true rfl)) dX1_pour_8 ⟨Nat.le_of_ble_eq_true rfl, Nat.le_of_ble_eq_true rfl⟩) hno hlocks (fun E q => ⟨0, by rw [q.1]; rfl, (by simp only [hy_k2b, if_pos (hy_kbox0 f_2), hb2, hy_kbox1e q.2] : hy_k2b a1 a2 = 1).trans (by decide +kernel)⟩) (Nat.le_of_ble_eq_true rfl) (Nat.le_of_ble_eq_true rfl) (fun r9 e9 => ?_)
    obtain ⟨rfl, f_8⟩ := e9
    cases hb8 : hy_bx S a2.toNatClampNeg with
    | none =>
      refine W.eq (g2 := F0 m 11 ls [.null]) rfl ?_
      refine lv_astoreN (lv' := [(4, .null), (3, .null), (0, .ref h), (1, .int a1), (2, .int a2)]) hx hb dX1_pour_11 hl (by decide) rfl (fun ls hl => ?_)
      refine lv_aload_nN hx hb dX1_pour_13 rfl (lv_at hl 1 rfl) ?_
      refine vp_callSi (W.runS (As := [.null]) (rest := []) ⟨hx, hb, hml, hown, hts⟩ (c_X1_cellsIn l D cI cJ cB h b k w z ad ca S none (fun _ q => nomatch q)) (va_cwS 1 hts gX1_pour_X1_cellsIn rfl rfl rfl (by decide +kernel) ⟨Nat.le_of_ble_eq_true rfl, Nat.le_of_ble_eq_true rfl⟩) ⟨hy_I_blind, fun U hU hW => ⟨rfl, hy_I_at hU hW hP hK⟩⟩ rfl rfl hl.1 rfl (lv_room (Nat.le_of_ble_eq_true rfl)) dX1_pour_14 ⟨Nat.le_of_ble_eq_true rfl, Nat.le_of_ble_eq_true rfl⟩) (fun v9 e9 => ?_)
      subst e9
      refine lv_aloadN hx hb dX1_pour_17 (lv_at hl 0 rfl) ?_
      refine vp_callSi (W.runS (As := [.null]) (rest := [.int (hy_len S none)]) ⟨hx, hb, hml, hown, hts⟩ (c_X1_cellsIn l D cI cJ cB h b k w z ad ca S none (fun _ q => nomatch q)) (va_cwS 1 hts gX1_pour_X1_cellsIn rfl rfl rfl (by decide +kernel) ⟨Nat.le_of_ble_eq_true rfl, Nat.le_of_ble_eq_true rfl⟩) ⟨hy_I_blind, fun U hU hW => ⟨rfl, hy_I_at hU hW hP hK⟩⟩ rfl rfl hl.1 rfl (lv_room (Nat.le_of_ble_eq_true rfl)) dX1_pour_19 ⟨Nat.le_of_ble_eq_true rfl, Nat.le_of_ble_eq_true rfl⟩) (fun v9 e9 => ?_)
      subst e9
      refine va_mmin hx hb (hml.trans hl.1.symm) hown (hts (.methodLink RX1 114 Lib.Math.min.name) (by decide +kernel)) (hts (.static Lib.Math.min.name) (by decide +kernel)) (hts (.initialized "java/lang/Math") (by decide +kernel)) (hts (.code Lib.Math.min.name Lib.Math.min.code 2 (some .int)) (by decide +kernel)) (Nat.le_of_ble_eq_true rfl) (Nat.le_of_ble_eq_true rfl) (Nat.le_of_ble_eq_true rfl) (Nat.le_of_ble_eq_true rfl) dX1_pour_22 ?_
      refine lv_istore (lv' := [(5, .int (hy_min (hy_len S none) (hy_len S none))), (4, .null), (3, .null), (0, .ref h), (1, .int a1), (2, .int a2)]) hx hb dX1_pour_25 hl (by decide) rfl (fun ls hl => ?_)
      refine lv_aload_n hx hb dX1_pour_27 rfl (lv_at hl 3 rfl) ?_
      refine lv_aload_nN hx hb dX1_pour_28 rfl (lv_at hl 2 rfl) ?_
      refine lv_iconst (v := 0) hx hb dX1_pour_29 (by decide) ?_
      refine lv_aloadN hx hb dX1_pour_30 (lv_at hl 1 rfl) ?_
      refine lv_iconst (v := 0) hx hb dX1_pour_32 (by decide) ?_
      refine lv_iload hx hb dX1_pour_33 (lv_at hl 0 rfl) ?_
      have hFc := hy_free hD hS hA
      refine va_calli (va_runV (As := [.null, .int 0, .null, .int 0, .int (hy_min (hy_len S none) (hy_len S none))]) (rest := []) ⟨hx, hb, hml, hown, hts⟩ (c_X1_carry l D cI cJ cB h b k w z ad ca S hwf s.heap.size none none (fun _ q => nomatch q) (fun _ q => nomatch q) 0 0 (hy_min (hy_len S none) (hy_len S none))) (cwV 5 hts gX1_pour_X1_carry rfl rfl rfl (by decide +kernel) ⟨Nat.le_of_ble_eq_true rfl, Nat.le_of_ble_eq_true rfl⟩) ⟨hy_IM_blind, va_recv hK hP (ci := 1) (q0 := 0) rfl rfl, fun U hU hW => ⟨rfl, by rw [hU], hy_I_at hU hW hP hK, hD.weaken (fun _ _ _ _ => trivial)⟩⟩ rfl rfl hl.1 rfl (lv_room (Nat.le_of_ble_eq_true rfl)) dX1_pour_35 ⟨Nat.le_of_ble_eq_true rfl, Nat.le_of_ble_eq_true rfl⟩) hS (fun q _ h => hFc q h) hFc (fun v9 u t H locs ht hvm hw hB hz1 hk1 hS => ?_)
      obtain ⟨hP1, hK1, hD1⟩ := hB
      rw [ht] at hP1
      have hP : va_P D vwCl (hy_W cI cJ cB h b k w z ad ca (hy_cS S none none 0 0 (hy_min (hy_len S none) (hy_len S none)))) H := hP1
      have hD : va_D A (hy_W cI cJ cB h b k w z ad ca (hy_cS S none none 0 0 (hy_min (hy_len S none) (hy_len S none)))) := hD1.weaken (fun _ q _ h => hFc q.1 h)
      clear hP1 hK1 hD1 hFc
      subst hw
      have eS : (hy_W cI cJ cB h b k w z ad ca (hy_cS S none none 0 0 (hy_min (hy_len S none) (hy_len S none)))) = (hy_W cI cJ cB h b k w z ad ca (hy_spour S a1 a2)) := congrArg (hy_W cI cJ cB h b k w z ad ca) (by rw [hy_spour, hy_smove, hy_vlen, hy_vlen, hb2, hb8])
      have hP : va_P D vwCl (hy_W cI cJ cB h b k w z ad ca (hy_spour S a1 a2)) H := by rw [← eS]; exact hP
      have hD : va_D A (hy_W cI cJ cB h b k w z ad ca (hy_spour S a1 a2)) := by rw [← eS]; exact hD
      exact vx_ret (W.widen (k := 2) (n := 12) (by decide) (by decide) (W.iret (v := ((hy_carry S none none 0 0 (hy_min (hy_len S none) (hy_len S none))).1)) hx hb hr (fun t ht hW => ⟨⟨_, (), rfl, ⟨by simp only [hy_k2b, if_pos (hy_kbox0 f_2), hy_kbox0 f_8], by rw [hy_vpour, hy_vmove, hy_vlen, hy_vlen, hb2, hb8]⟩, b, k, w, z, ad, ca, by rw [ht]; exact hP, va_K.moved hW.alike hK, hD⟩, hS.F ht⟩) hS.2.2 dX1_pour_38))
    | some r8 =>
      have hr8 : r8 ≤ hy_nr S := hwf.2.2.1 _ _ hb8
      refine W.eq (g2 := F0 m 11 ls [.ref (ad r8)]) rfl ?_
      refine lv_astore (lv' := [(4, .ref (ad r8)), (3, .null), (0, .ref h), (1, .int a1), (2, .int a2)]) hx hb dX1_pour_11 hl (by decide) rfl (fun ls hl => ?_)
      refine lv_aload_nN hx hb dX1_pour_13 rfl (lv_at hl 1 rfl) ?_
      refine vp_callSi (W.runS (As := [.null]) (rest := []) ⟨hx, hb, hml, hown, hts⟩ (c_X1_cellsIn l D cI cJ cB h b k w z ad ca S none (fun _ q => nomatch q)) (va_cwS 1 hts gX1_pour_X1_cellsIn rfl rfl rfl (by decide +kernel) ⟨Nat.le_of_ble_eq_true rfl, Nat.le_of_ble_eq_true rfl⟩) ⟨hy_I_blind, fun U hU hW => ⟨rfl, hy_I_at hU hW hP hK⟩⟩ rfl rfl hl.1 rfl (lv_room (Nat.le_of_ble_eq_true rfl)) dX1_pour_14 ⟨Nat.le_of_ble_eq_true rfl, Nat.le_of_ble_eq_true rfl⟩) (fun v9 e9 => ?_)
      subst e9
      refine lv_aload hx hb dX1_pour_17 (lv_at hl 0 rfl) ?_
      refine vp_callSi (W.runS (As := [.ref (ad r8)]) (rest := [.int (hy_len S none)]) ⟨hx, hb, hml, hown, hts⟩ (c_X1_cellsIn l D cI cJ cB h b k w z ad ca S (some r8) (fun _ q => by cases q; exact hr8)) (va_cwS 1 hts gX1_pour_X1_cellsIn rfl rfl rfl (by decide +kernel) ⟨Nat.le_of_ble_eq_true rfl, Nat.le_of_ble_eq_true rfl⟩) ⟨hy_I_blind, fun U hU hW => ⟨rfl, hy_I_at hU hW hP hK⟩⟩ rfl rfl hl.1 rfl (lv_room (Nat.le_of_ble_eq_true rfl)) dX1_pour_19 ⟨Nat.le_of_ble_eq_true rfl, Nat.le_of_ble_eq_true rfl⟩) (fun v9 e9 => ?_)
      subst e9
      refine va_mmin hx hb (hml.trans hl.1.symm) hown (hts (.methodLink RX1 114 Lib.Math.min.name) (by decide +kernel)) (hts (.static Lib.Math.min.name) (by decide +kernel)) (hts (.initialized "java/lang/Math") (by decide +kernel)) (hts (.code Lib.Math.min.name Lib.Math.min.code 2 (some .int)) (by decide +kernel)) (Nat.le_of_ble_eq_true rfl) (Nat.le_of_ble_eq_true rfl) (Nat.le_of_ble_eq_true rfl) (Nat.le_of_ble_eq_true rfl) dX1_pour_22 ?_
      refine lv_istore (lv' := [(5, .int (hy_min (hy_len S none) (hy_len S (some r8)))), (4, .ref (ad r8)), (3, .null), (0, .ref h), (1, .int a1), (2, .int a2)]) hx hb dX1_pour_25 hl (by decide) rfl (fun ls hl => ?_)
      refine lv_aload_n hx hb dX1_pour_27 rfl (lv_at hl 3 rfl) ?_
      refine lv_aload_nN hx hb dX1_pour_28 rfl (lv_at hl 2 rfl) ?_
      refine lv_iconst (v := 0) hx hb dX1_pour_29 (by decide) ?_
      refine lv_aload hx hb dX1_pour_30 (lv_at hl 1 rfl) ?_
      refine lv_iconst (v := 0) hx hb dX1_pour_32 (by decide) ?_
      refine lv_iload hx hb dX1_pour_33 (lv_at hl 0 rfl) ?_
      have hFc := hy_free hD hS hA
      refine va_calli (va_runV (As := [.null, .int 0, .ref (ad r8), .int 0, .int (hy_min (hy_len S none) (hy_len S (some r8)))]) (rest := []) ⟨hx, hb, hml, hown, hts⟩ (c_X1_carry l D cI cJ cB h b k w z ad ca S hwf s.heap.size none (some r8) (fun _ q => nomatch q) (fun _ q => by cases q; exact hr8) 0 0 (hy_min (hy_len S none) (hy_len S (some r8)))) (cwV 5 hts gX1_pour_X1_carry rfl rfl rfl (by decide +kernel) ⟨Nat.le_of_ble_eq_true rfl, Nat.le_of_ble_eq_true rfl⟩) ⟨hy_IM_blind, va_recv hK hP (ci := 1) (q0 := 0) rfl rfl, fun U hU hW => ⟨rfl, by rw [hU], hy_I_at hU hW hP hK, hD.weaken (fun _ _ _ _ => trivial)⟩⟩ rfl rfl hl.1 rfl (lv_room (Nat.le_of_ble_eq_true rfl)) dX1_pour_35 ⟨Nat.le_of_ble_eq_true rfl, Nat.le_of_ble_eq_true rfl⟩) hS (fun q _ h => hFc q h) hFc (fun v9 u t H locs ht hvm hw hB hz1 hk1 hS => ?_)
      obtain ⟨hP1, hK1, hD1⟩ := hB
      rw [ht] at hP1
      have hP : va_P D vwCl (hy_W cI cJ cB h b k w z ad ca (hy_cS S none (some r8) 0 0 (hy_min (hy_len S none) (hy_len S (some r8))))) H := hP1
      have hD : va_D A (hy_W cI cJ cB h b k w z ad ca (hy_cS S none (some r8) 0 0 (hy_min (hy_len S none) (hy_len S (some r8))))) := hD1.weaken (fun _ q _ h => hFc q.1 h)
      clear hP1 hK1 hD1 hFc
      subst hw
      have eS : (hy_W cI cJ cB h b k w z ad ca (hy_cS S none (some r8) 0 0 (hy_min (hy_len S none) (hy_len S (some r8))))) = (hy_W cI cJ cB h b k w z ad ca (hy_spour S a1 a2)) := congrArg (hy_W cI cJ cB h b k w z ad ca) (by rw [hy_spour, hy_smove, hy_vlen, hy_vlen, hb2, hb8])
      have hP : va_P D vwCl (hy_W cI cJ cB h b k w z ad ca (hy_spour S a1 a2)) H := by rw [← eS]; exact hP
      have hD : va_D A (hy_W cI cJ cB h b k w z ad ca (hy_spour S a1 a2)) := by rw [← eS]; exact hD
      exact vx_ret (W.widen (k := 2) (n := 12) (by decide) (by decide) (W.iret (v := ((hy_carry S none (some r8) 0 0 (hy_min (hy_len S none) (hy_len S (some r8)))).1)) hx hb hr (fun t ht hW => ⟨⟨_, (), rfl, ⟨by simp only [hy_k2b, if_pos (hy_kbox0 f_2), hy_kbox0 f_8], by rw [hy_vpour, hy_vmove, hy_vlen, hy_vlen, hb2, hb8]⟩, b, k, w, z, ad, ca, by rw [ht]; exact hP, va_K.moved hW.alike hK, hD⟩, hS.F ht⟩) hS.2.2 dX1_pour_38))
  | some r2 =>
    have hr2 : r2 ≤ hy_nr S := hwf.2.2.1 _ _ hb2
    refine W.eq (g2 := F0 m 5 ls [.ref (ad r2)]) rfl ?_
    refine lv_astore_n (lv' := [(3, .ref (ad r2)), (0, .ref h), (1, .int a1), (2, .int a2)]) hx hb dX1_pour_5 rfl hl (by decide) rfl (fun ls hl => ?_)
    refine lv_aload_n hx hb dX1_pour_6 rfl (lv_at hl 1 rfl) ?_
    refine lv_iload_n hx hb dX1_pour_7 rfl (lv_at hl 3 rfl) ?_
    refine hy_thruq (vx_runV (As := [.int a2]) (rest := []) ⟨hx, hb, hml, hown, hts⟩ (c_X1_contentOf l D cI cJ cB h b k w z ad ca S hl9 a2) (cwV 1 hts gX1_pour_X1_contentOf rfl rfl rfl (by decide +kernel) ⟨Nat.le_of_ble_eq_true rfl, Nat.le_of_ble_eq_true rfl⟩) ⟨hy_IX_blind, va_recv hK hP (ci := 1) (q0 := 0) rfl rfl, fun U hU hW => ⟨rfl, hy_IX_at hU hW hP hK hE hZ⟩⟩ rfl rfl hl.1 rfl (lv_room (Nat.le_of_ble_eq_true rfl)) dX1_pour_8 ⟨Nat.le_of_ble_eq_true rfl, Nat.le_of_ble_eq_true rfl⟩) hno hlocks (fun E q => ⟨0, by rw [q.1]; rfl, (by simp only [hy_k2b, if_pos (hy_kbox0 f_2), hb2, hy_kbox1e q.2] : hy_k2b a1 a2 = 1).trans (by decide +kernel)⟩) (Nat.le_of_ble_eq_true rfl) (Nat.le_of_ble_eq_true rfl) (fun r9 e9 => ?_)
    obtain ⟨rfl, f_8⟩ := e9
    cases hb8 : hy_bx S a2.toNatClampNeg with
    | none =>
      refine W.eq (g2 := F0 m 11 ls [.null]) rfl ?_
      refine lv_astoreN (lv' := [(4, .null), (3, .ref (ad r2)), (0, .ref h), (1, .int a1), (2, .int a2)]) hx hb dX1_pour_11 hl (by decide) rfl (fun ls hl => ?_)
      refine lv_aload_n hx hb dX1_pour_13 rfl (lv_at hl 1 rfl) ?_
      refine vp_callSi (W.runS (As := [.ref (ad r2)]) (rest := []) ⟨hx, hb, hml, hown, hts⟩ (c_X1_cellsIn l D cI cJ cB h b k w z ad ca S (some r2) (fun _ q => by cases q; exact hr2)) (va_cwS 1 hts gX1_pour_X1_cellsIn rfl rfl rfl (by decide +kernel) ⟨Nat.le_of_ble_eq_true rfl, Nat.le_of_ble_eq_true rfl⟩) ⟨hy_I_blind, fun U hU hW => ⟨rfl, hy_I_at hU hW hP hK⟩⟩ rfl rfl hl.1 rfl (lv_room (Nat.le_of_ble_eq_true rfl)) dX1_pour_14 ⟨Nat.le_of_ble_eq_true rfl, Nat.le_of_ble_eq_true rfl⟩) (fun v9 e9 => ?_)
      subst e9
      refine lv_aloadN hx hb dX1_pour_17 (lv_at hl 0 rfl) ?_
      refine vp_callSi (W.runS (As := [.null]) (rest := [.int (hy_len S (some r2))]) ⟨hx, hb, hml, hown, hts⟩ (c_X1_cellsIn l D cI cJ cB h b k w z ad ca S none (fun _ q => nomatch q)) (va_cwS 1 hts gX1_pour_X1_cellsIn rfl rfl rfl (by decide +kernel) ⟨Nat.le_of_ble_eq_true rfl, Nat.le_of_ble_eq_true rfl⟩) ⟨hy_I_blind, fun U hU hW => ⟨rfl, hy_I_at hU hW hP hK⟩⟩ rfl rfl hl.1 rfl (lv_room (Nat.le_of_ble_eq_true rfl)) dX1_pour_19 ⟨Nat.le_of_ble_eq_true rfl, Nat.le_of_ble_eq_true rfl⟩) (fun v9 e9 => ?_)
      subst e9
      refine va_mmin hx hb (hml.trans hl.1.symm) hown (hts (.methodLink RX1 114 Lib.Math.min.name) (by decide +kernel)) (hts (.static Lib.Math.min.name) (by decide +kernel)) (hts (.initialized "java/lang/Math") (by decide +kernel)) (hts (.code Lib.Math.min.name Lib.Math.min.code 2 (some .int)) (by decide +kernel)) (Nat.le_of_ble_eq_true rfl) (Nat.le_of_ble_eq_true rfl) (Nat.le_of_ble_eq_true rfl) (Nat.le_of_ble_eq_true rfl) dX1_pour_22 ?_
      refine lv_istore (lv' := [(5, .int (hy_min (hy_len S (some r2)) (hy_len S none))), (4, .null), (3, .ref (ad r2)), (0, .ref h), (1, .int a1), (2, .int a2)]) hx hb dX1_pour_25 hl (by decide) rfl (fun ls hl => ?_)
      refine lv_aload_n hx hb dX1_pour_27 rfl (lv_at hl 3 rfl) ?_
      refine lv_aload_n hx hb dX1_pour_28 rfl (lv_at hl 2 rfl) ?_
      refine lv_iconst (v := 0) hx hb dX1_pour_29 (by decide) ?_
      refine lv_aloadN hx hb dX1_pour_30 (lv_at hl 1 rfl) ?_
      refine lv_iconst (v := 0) hx hb dX1_pour_32 (by decide) ?_
      refine lv_iload hx hb dX1_pour_33 (lv_at hl 0 rfl) ?_
      have hFc := hy_free hD hS hA
      refine va_calli (va_runV (As := [.ref (ad r2), .int 0, .null, .int 0, .int (hy_min (hy_len S (some r2)) (hy_len S none))]) (rest := []) ⟨hx, hb, hml, hown, hts⟩ (c_X1_carry l D cI cJ cB h b k w z ad ca S hwf s.heap.size (some r2) none (fun _ q => by cases q; exact hr2) (fun _ q => nomatch q) 0 0 (hy_min (hy_len S (some r2)) (hy_len S none))) (cwV 5 hts gX1_pour_X1_carry rfl rfl rfl (by decide +kernel) ⟨Nat.le_of_ble_eq_true rfl, Nat.le_of_ble_eq_true rfl⟩) ⟨hy_IM_blind, va_recv hK hP (ci := 1) (q0 := 0) rfl rfl, fun U hU hW => ⟨rfl, by rw [hU], hy_I_at hU hW hP hK, hD.weaken (fun _ _ _ _ => trivial)⟩⟩ rfl rfl hl.1 rfl (lv_room (Nat.le_of_ble_eq_true rfl)) dX1_pour_35 ⟨Nat.le_of_ble_eq_true rfl, Nat.le_of_ble_eq_true rfl⟩) hS (fun q _ h => hFc q h) hFc (fun v9 u t H locs ht hvm hw hB hz1 hk1 hS => ?_)
      obtain ⟨hP1, hK1, hD1⟩ := hB
      rw [ht] at hP1
      have hP : va_P D vwCl (hy_W cI cJ cB h b k w z ad ca (hy_cS S (some r2) none 0 0 (hy_min (hy_len S (some r2)) (hy_len S none)))) H := hP1
      have hD : va_D A (hy_W cI cJ cB h b k w z ad ca (hy_cS S (some r2) none 0 0 (hy_min (hy_len S (some r2)) (hy_len S none)))) := hD1.weaken (fun _ q _ h => hFc q.1 h)
      clear hP1 hK1 hD1 hFc
      subst hw
      have eS : (hy_W cI cJ cB h b k w z ad ca (hy_cS S (some r2) none 0 0 (hy_min (hy_len S (some r2)) (hy_len S none)))) = (hy_W cI cJ cB h b k w z ad ca (hy_spour S a1 a2)) := congrArg (hy_W cI cJ cB h b k w z ad ca) (by rw [hy_spour, hy_smove, hy_vlen, hy_vlen, hb2, hb8])
      have hP : va_P D vwCl (hy_W cI cJ cB h b k w z ad ca (hy_spour S a1 a2)) H := by rw [← eS]; exact hP
      have hD : va_D A (hy_W cI cJ cB h b k w z ad ca (hy_spour S a1 a2)) := by rw [← eS]; exact hD
      exact vx_ret (W.widen (k := 2) (n := 12) (by decide) (by decide) (W.iret (v := ((hy_carry S (some r2) none 0 0 (hy_min (hy_len S (some r2)) (hy_len S none))).1)) hx hb hr (fun t ht hW => ⟨⟨_, (), rfl, ⟨by simp only [hy_k2b, if_pos (hy_kbox0 f_2), hy_kbox0 f_8], by rw [hy_vpour, hy_vmove, hy_vlen, hy_vlen, hb2, hb8]⟩, b, k, w, z, ad, ca, by rw [ht]; exact hP, va_K.moved hW.alike hK, hD⟩, hS.F ht⟩) hS.2.2 dX1_pour_38))
    | some r8 =>
      have hr8 : r8 ≤ hy_nr S := hwf.2.2.1 _ _ hb8
      refine W.eq (g2 := F0 m 11 ls [.ref (ad r8)]) rfl ?_
      refine lv_astore (lv' := [(4, .ref (ad r8)), (3, .ref (ad r2)), (0, .ref h), (1, .int a1), (2, .int a2)]) hx hb dX1_pour_11 hl (by decide) rfl (fun ls hl => ?_)
      refine lv_aload_n hx hb dX1_pour_13 rfl (lv_at hl 1 rfl) ?_
      refine vp_callSi (W.runS (As := [.ref (ad r2)]) (rest := []) ⟨hx, hb, hml, hown, hts⟩ (c_X1_cellsIn l D cI cJ cB h b k w z ad ca S (some r2) (fun _ q => by cases q; exact hr2)) (va_cwS 1 hts gX1_pour_X1_cellsIn rfl rfl rfl (by decide +kernel) ⟨Nat.le_of_ble_eq_true rfl, Nat.le_of_ble_eq_true rfl⟩) ⟨hy_I_blind, fun U hU hW => ⟨rfl, hy_I_at hU hW hP hK⟩⟩ rfl rfl hl.1 rfl (lv_room (Nat.le_of_ble_eq_true rfl)) dX1_pour_14 ⟨Nat.le_of_ble_eq_true rfl, Nat.le_of_ble_eq_true rfl⟩) (fun v9 e9 => ?_)
      subst e9
      refine lv_aload hx hb dX1_pour_17 (lv_at hl 0 rfl) ?_
      refine vp_callSi (W.runS (As := [.ref (ad r8)]) (rest := [.int (hy_len S (some r2))]) ⟨hx, hb, hml, hown, hts⟩ (c_X1_cellsIn l D cI cJ cB h b k w z ad ca S (some r8) (fun _ q => by cases q; exact hr8)) (va_cwS 1 hts gX1_pour_X1_cellsIn rfl rfl rfl (by decide +kernel) ⟨Nat.le_of_ble_eq_true rfl, Nat.le_of_ble_eq_true rfl⟩) ⟨hy_I_blind, fun U hU hW => ⟨rfl, hy_I_at hU hW hP hK⟩⟩ rfl rfl hl.1 rfl (lv_room (Nat.le_of_ble_eq_true rfl)) dX1_pour_19 ⟨Nat.le_of_ble_eq_true rfl, Nat.le_of_ble_eq_true rfl⟩) (fun v9 e9 => ?_)
      subst e9
      refine va_mmin hx hb (hml.trans hl.1.symm) hown (hts (.methodLink RX1 114 Lib.Math.min.name) (by decide +kernel)) (hts (.static Lib.Math.min.name) (by decide +kernel)) (hts (.initialized "java/lang/Math") (by decide +kernel)) (hts (.code Lib.Math.min.name Lib.Math.min.code 2 (some .int)) (by decide +kernel)) (Nat.le_of_ble_eq_true rfl) (Nat.le_of_ble_eq_true rfl) (Nat.le_of_ble_eq_true rfl) (Nat.le_of_ble_eq_true rfl) dX1_pour_22 ?_
      refine lv_istore (lv' := [(5, .int (hy_min (hy_len S (some r2)) (hy_len S (some r8)))), (4, .ref (ad r8)), (3, .ref (ad r2)), (0, .ref h), (1, .int a1), (2, .int a2)]) hx hb dX1_pour_25 hl (by decide) rfl (fun ls hl => ?_)
      refine lv_aload_n hx hb dX1_pour_27 rfl (lv_at hl 3 rfl) ?_
      refine lv_aload_n hx hb dX1_pour_28 rfl (lv_at hl 2 rfl) ?_
      refine lv_iconst (v := 0) hx hb dX1_pour_29 (by decide) ?_
      refine lv_aload hx hb dX1_pour_30 (lv_at hl 1 rfl) ?_
      refine lv_iconst (v := 0) hx hb dX1_pour_32 (by decide) ?_
      refine lv_iload hx hb dX1_pour_33 (lv_at hl 0 rfl) ?_
      have hFc := hy_free hD hS hA
      refine va_calli (va_runV (As := [.ref (ad r2), .int 0, .ref (ad r8), .int 0, .int (hy_min (hy_len S (some r2)) (hy_len S (some r8)))]) (rest := []) ⟨hx, hb, hml, hown, hts⟩ (c_X1_carry l D cI cJ cB h b k w z ad ca S hwf s.heap.size (some r2) (some r8) (fun _ q => by cases q; exact hr2) (fun _ q => by cases q; exact hr8) 0 0 (hy_min (hy_len S (some r2)) (hy_len S (some r8)))) (cwV 5 hts gX1_pour_X1_carry rfl rfl rfl (by decide +kernel) ⟨Nat.le_of_ble_eq_true rfl, Nat.le_of_ble_eq_true rfl⟩) ⟨hy_IM_blind, va_recv hK hP (ci := 1) (q0 := 0) rfl rfl, fun U hU hW => ⟨rfl, by rw [hU], hy_I_at hU hW hP hK, hD.weaken (fun _ _ _ _ => trivial)⟩⟩ rfl rfl hl.1 rfl (lv_room (Nat.le_of_ble_eq_true rfl)) dX1_pour_35 ⟨Nat.le_of_ble_eq_true rfl, Nat.le_of_ble_eq_true rfl⟩) hS (fun q _ h => hFc q h) hFc (fun v9 u t H locs ht hvm hw hB hz1 hk1 hS => ?_)
      obtain ⟨hP1, hK1, hD1⟩ := hB
      rw [ht] at hP1
      have hP : va_P D vwCl (hy_W cI cJ cB h b k w z ad ca (hy_cS S (some r2) (some r8) 0 0 (hy_min (hy_len S (some r2)) (hy_len S (some r8))))) H := hP1
      have hD : va_D A (hy_W cI cJ cB h b k w z ad ca (hy_cS S (some r2) (some r8) 0 0 (hy_min (hy_len S (some r2)) (hy_len S (some r8))))) := hD1.weaken (fun _ q _ h => hFc q.1 h)
      clear hP1 hK1 hD1 hFc
      subst hw
      have eS : (hy_W cI cJ cB h b k w z ad ca (hy_cS S (some r2) (some r8) 0 0 (hy_min (hy_len S (some r2)) (hy_len S (some r8))))) = (hy_W cI cJ cB h b k w z ad ca (hy_spour S a1 a2)) := congrArg (hy_W cI cJ cB h b k w z ad ca) (by rw [hy_spour, hy_smove, hy_vlen, hy_vlen, hb2, hb8])
      have hP : va_P D vwCl (hy_W cI cJ cB h b k w z ad ca (hy_spour S a1 a2)) H := by rw [← eS]; exact hP
      have hD : va_D A (hy_W cI cJ cB h b k w z ad ca (hy_spour S a1 a2)) := by rw [← eS]; exact hD
      exact vx_ret (W.widen (k := 2) (n := 12) (by decide) (by decide) (W.iret (v := ((hy_carry S (some r2) (some r8) 0 0 (hy_min (hy_len S (some r2)) (hy_len S (some r8)))).1)) hx hb hr (fun t ht hW => ⟨⟨_, (), rfl, ⟨by simp only [hy_k2b, if_pos (hy_kbox0 f_2), hy_kbox0 f_8], by rw [hy_vpour, hy_vmove, hy_vlen, hy_vlen, hb2, hb8]⟩, b, k, w, z, ad, ca, by rw [ht]; exact hP, va_K.moved hW.alike hK, hD⟩, hS.F ht⟩) hS.2.2 dX1_pour_38))
set_option maxHeartbeats 4000000 in
set_option maxRecDepth 100000 in
theorem c_X1_at (l : Launch) (D : va_G) (cI cJ cB : ClassId) (h b k w z : Nat) (ad ca : Nat → Nat) (S : hy_S) (hl9 : l.stackTraces = false) (hwf : hy_wf S) (sz : Nat) (a1 a2 : Int32) : vx_Met l yX1_at wsX1_at ({ frames := 8, cells := 3, slots := 18, locals := 131 }) (va_Pc [.ref h, .int a1, .int a2] (hy_IP D cI cJ cB h b k w z ad ca S sz)) (va_Ql (fun (r9 : Int64) (_ : Unit) => hy_kat S a1 a2 = 0 ∧ r9 = hy_at S a1 a2) (fun _ => hy_At D cI cJ cB h S (va_A (hy_W cI cJ cB h b k w z ad ca S) sz)) (va_A (hy_W cI cJ cB h b k w z ad ca S) sz)) (hy_X (hy_nm ["java/lang/IndexOutOfBoundsException", "java/lang/IllegalStateException", "java/util/NoSuchElementException"] (hy_kat S a1 a2))) 3 18 (va_A (hy_W cI cJ cB h b k w z ad ca S) sz) := by
  refine vx_ofW (cc := cX1_at) (maxL := 4) (ret := (some .long)) (by decide) rfl ?_
  intro p e s m args below meth c s₁ B hml hno hv
  obtain ⟨rfl, hsz, ⟨⟨hP, hK⟩, hE, hZ⟩, hD0⟩ := hv
  have hx := B.exec
  have hb := B.bytes
  have hr := B.returns
  have hts := atoms_spec (ws := wsX1_at) B.pre
  have hown : s.vm.findClass RX1 = some m.cls := findClass_of_methodNamed B.named
  have hlocks := B.notSynchronized
  subst hsz
  have hD := hD0.self (sz := s.heap.size)
  generalize hAe : va_A (hy_W cI cJ cB h b k w z ad ca S) s.heap.size = A at hD ⊢
  have hA : ∀ q : Nat, s.heap.size ≤ q → A q := fun q h => by rw [← hAe]; exact Or.inr h
  have hS : va_S A s.heap s.heap [] := va_S.rf
  have hinX0 : ∀ w ∈ wsX00, w ∈ wsX1_at := by decide +kernel
  have hl := lv_entry ([.ref h, .int a1, .int a2]) (n := 4) (Nat.le_of_ble_eq_true rfl)
  rw [lg_entry_eq]
  generalize (lg_sl ([.ref h, .int a1, .int a2]) ++ List.replicate (4 - (lg_sl ([.ref h, .int a1, .int a2])).length) Slot.unset).toArray = ls at hl ⊢
  have hl : lv_has ls 4 [(0, .ref h), (1, .int a1), (2, .int a2)] := hl
  refine lv_aload_n hx hb dX1_at_0 rfl (lv_at hl 0 rfl) ?_
  refine lv_iload_n hx hb dX1_at_1 rfl (lv_at hl 1 rfl) ?_
  refine hy_thruq (vx_runV (As := [.int a1]) (rest := []) ⟨hx, hb, hml, hown, hts⟩ (c_X1_contentOf l D cI cJ cB h b k w z ad ca S hl9 a1) (cwV 1 hts gX1_at_X1_contentOf rfl rfl rfl (by decide +kernel) ⟨Nat.le_of_ble_eq_true rfl, Nat.le_of_ble_eq_true rfl⟩) ⟨hy_IX_blind, va_recv hK hP (ci := 1) (q0 := 0) rfl rfl, fun U hU hW => ⟨rfl, hy_IX_at hU hW hP hK hE hZ⟩⟩ rfl rfl hl.1 rfl (lv_room (Nat.le_of_ble_eq_true rfl)) dX1_at_2 ⟨Nat.le_of_ble_eq_true rfl, Nat.le_of_ble_eq_true rfl⟩) hno hlocks (fun E q => ⟨0, by rw [q.1]; rfl, (by simp only [hy_kat, hy_at, if_neg (hy_kbox1 q.2)] : hy_kat S a1 a2 = 1).trans (by decide +kernel)⟩) (Nat.le_of_ble_eq_true rfl) (Nat.le_of_ble_eq_true rfl) (fun r9 e9 => ?_)
  obtain ⟨rfl, f_2⟩ := e9
  cases hb2 : hy_bx S a1.toNatClampNeg with
  | none =>
    refine W.eq (g2 := F0 m 5 ls [.null]) rfl ?_
    refine lv_astore_nN (lv' := [(3, .null), (0, .ref h), (1, .int a1), (2, .int a2)]) hx hb dX1_at_5 rfl hl (by decide) rfl (fun ls hl => ?_)
    refine lv_aload_nN hx hb dX1_at_6 rfl (lv_at hl 0 rfl) ?_
    refine hy_thruv (vx_runS (As := [.null]) (rest := []) ⟨hx, hb, hml, hown, hts⟩ (c_X1_requireRow l D cI cJ cB h b k w z ad ca S hl9 none (fun _ q => nomatch q)) (va_cwS 1 hts gX1_at_X1_requireRow rfl rfl rfl (by decide +kernel) ⟨Nat.le_of_ble_eq_true rfl, Nat.le_of_ble_eq_true rfl⟩) ⟨hy_IX_blind, fun U hU hW => ⟨rfl, hy_IX_at hU hW hP hK hE hZ⟩⟩ rfl rfl hl.1 rfl (lv_room (Nat.le_of_ble_eq_true rfl)) dX1_at_7 ⟨Nat.le_of_ble_eq_true rfl, Nat.le_of_ble_eq_true rfl⟩) hno hlocks (fun E q => ⟨1, by rw [q.1]; rfl, (by simp only [hy_kat, hy_at, if_pos (hy_kbox0 f_2), hb2, if_pos q.2] : hy_kat S a1 a2 = 2).trans (by decide +kernel)⟩) (Nat.le_of_ble_eq_true rfl) (Nat.le_of_ble_eq_true rfl) (fun f_7 => ?_)
    exact absurd rfl f_7
  | some r2 =>
    have hr2 : r2 ≤ hy_nr S := hwf.2.2.1 _ _ hb2
    refine W.eq (g2 := F0 m 5 ls [.ref (ad r2)]) rfl ?_
    refine lv_astore_n (lv' := [(3, .ref (ad r2)), (0, .ref h), (1, .int a1), (2, .int a2)]) hx hb dX1_at_5 rfl hl (by decide) rfl (fun ls hl => ?_)
    refine lv_aload_n hx hb dX1_at_6 rfl (lv_at hl 0 rfl) ?_
    refine hy_thruv (vx_runS (As := [.ref (ad r2)]) (rest := []) ⟨hx, hb, hml, hown, hts⟩ (c_X1_requireRow l D cI cJ cB h b k w z ad ca S hl9 (some r2) (fun _ q => by cases q; exact hr2)) (va_cwS 1 hts gX1_at_X1_requireRow rfl rfl rfl (by decide +kernel) ⟨Nat.le_of_ble_eq_true rfl, Nat.le_of_ble_eq_true rfl⟩) ⟨hy_IX_blind, fun U hU hW => ⟨rfl, hy_IX_at hU hW hP hK hE hZ⟩⟩ rfl rfl hl.1 rfl (lv_room (Nat.le_of_ble_eq_true rfl)) dX1_at_7 ⟨Nat.le_of_ble_eq_true rfl, Nat.le_of_ble_eq_true rfl⟩) hno hlocks (fun E q => ⟨1, by rw [q.1]; rfl, (by simp only [hy_kat, hy_at, if_pos (hy_kbox0 f_2), hb2, if_pos q.2] : hy_kat S a1 a2 = 2).trans (by decide +kernel)⟩) (Nat.le_of_ble_eq_true rfl) (Nat.le_of_ble_eq_true rfl) (fun f_7 => ?_)
    refine lv_aload_n hx hb dX1_at_10 rfl (lv_at hl 0 rfl) ?_
    refine lv_iload_n hx hb dX1_at_11 rfl (lv_at hl 3 rfl) ?_
    refine hy_thruv (vx_runS (As := [.ref (ad r2), .int a2]) (rest := []) ⟨hx, hb, hml, hown, hts⟩ (c_X1_requirePlace l D cI cJ cB h b k w z ad ca S hl9 r2 hr2 a2) (va_cwS 2 hts gX1_at_X1_requirePlace rfl rfl rfl (by decide +kernel) ⟨Nat.le_of_ble_eq_true rfl, Nat.le_of_ble_eq_true rfl⟩) ⟨hy_IX_blind, fun U hU hW => ⟨rfl, hy_IX_at hU hW hP hK hE hZ⟩⟩ rfl rfl hl.1 rfl (lv_room (Nat.le_of_ble_eq_true rfl)) dX1_at_12 ⟨Nat.le_of_ble_eq_true rfl, Nat.le_of_ble_eq_true rfl⟩) hno hlocks (fun E q => ⟨2, by rw [q.1]; rfl, (by simp only [hy_kat, hy_at, if_pos (hy_kbox0 f_2), hb2, if_neg f_7, if_neg (hy_kpl1 q.2)] : hy_kat S a1 a2 = 3).trans (by decide +kernel)⟩) (Nat.le_of_ble_eq_true rfl) (Nat.le_of_ble_eq_true rfl) (fun f_12 => ?_)
    refine lv_aload_n hx hb dX1_at_15 rfl (lv_at hl 0 rfl) ?_
    refine va_get (D := D) (ci := 0) (v := .ref (ca r2)) (C := RX0) (T := TX0) (N := 2) hx hb hts hinX0 hown hK hP (5 + r2) (hy_W_row hr2) rfl 1 (by decide) (hts (.fieldLink RX1 79 "HiveYard$Content" "cells" "[J") (by decide +kernel)) (fun _ h9 => h9) rfl dX1_at_16 ?_
    refine lv_iload_n hx hb dX1_at_19 rfl (lv_at hl 3 rfl) ?_
    refine va_lald hx hb hK hP (5 + (hy_nr S + 1 + r2)) 1 (hy_W_arr hr2) rfl (hy_pl_in hwf f_12) dX1_at_20 ?_
    exact vx_ret (W.widen (k := 3) (n := 18) (by decide) (by decide) (W.lret (v := ((hy_va S r2) a2.toNatClampNeg)) hx hb hr (fun t ht hW => ⟨⟨_, (), rfl, ⟨by simp only [hy_kat, hy_at, if_pos (hy_kbox0 f_2), hb2, if_neg f_7, if_pos (hy_kpl0 f_12)], by first | rfl | (simp only [hy_kat, hy_at, if_pos (hy_kbox0 f_2), hb2, if_neg f_7, if_pos (hy_kpl0 f_12)]; done)⟩, b, k, w, z, ad, ca, by rw [ht]; exact hP, va_K.moved hW.alike hK, hD⟩, hS.F ht⟩) hS.2.2 dX1_at_21))
set_option maxHeartbeats 4000000 in
set_option maxRecDepth 100000 in
theorem c_X1_holds (l : Launch) (D : va_G) (cI cJ cB : ClassId) (h b k w z : Nat) (ad ca : Nat → Nat) (S : hy_S) (hl9 : l.stackTraces = false) (hwf : hy_wf S) (sz : Nat) (a1 : Int32) : vx_Met l yX1_holds wsX1_holds ({ frames := 8, cells := 1, slots := 6, locals := 131 }) (va_Pc [.ref h, .int a1] (hy_IP D cI cJ cB h b k w z ad ca S sz)) (va_Qi (fun (r9 : Int32) (_ : Unit) => hy_kbox a1 = 0 ∧ r9 = hy_vhold S a1) (fun _ => hy_At D cI cJ cB h S (va_A (hy_W cI cJ cB h b k w z ad ca S) sz)) (va_A (hy_W cI cJ cB h b k w z ad ca S) sz)) (hy_X (hy_nm ["java/lang/IndexOutOfBoundsException"] (hy_kbox a1))) 1 6 (va_A (hy_W cI cJ cB h b k w z ad ca S) sz) := by
  refine vx_ofW (cc := cX1_holds) (maxL := 2) (ret := (some .int)) (by decide) rfl ?_
  intro p e s m args below meth c s₁ B hml hno hv
  obtain ⟨rfl, hsz, ⟨⟨hP, hK⟩, hE, hZ⟩, hD0⟩ := hv
  have hx := B.exec
  have hb := B.bytes
  have hr := B.returns
  have hts := atoms_spec (ws := wsX1_holds) B.pre
  have hown : s.vm.findClass RX1 = some m.cls := findClass_of_methodNamed B.named
  have hlocks := B.notSynchronized
  subst hsz
  have hD := hD0.self (sz := s.heap.size)
  generalize hAe : va_A (hy_W cI cJ cB h b k w z ad ca S) s.heap.size = A at hD ⊢
  have hA : ∀ q : Nat, s.heap.size ≤ q → A q := fun q h => by rw [← hAe]; exact Or.inr h
  have hS : va_S A s.heap s.heap [] := va_S.rf
  have hl := lv_entry ([.ref h, .int a1]) (n := 2) (Nat.le_of_ble_eq_true rfl)
  rw [lg_entry_eq]
  generalize (lg_sl ([.ref h, .int a1]) ++ List.replicate (2 - (lg_sl ([.ref h, .int a1])).length) Slot.unset).toArray = ls at hl ⊢
  have hl : lv_has ls 2 [(0, .ref h), (1, .int a1)] := hl
  refine lv_aload_n hx hb dX1_holds_0 rfl (lv_at hl 0 rfl) ?_
  refine lv_iload_n hx hb dX1_holds_1 rfl (lv_at hl 1 rfl) ?_
  refine hy_thruq (vx_runV (As := [.int a1]) (rest := []) ⟨hx, hb, hml, hown, hts⟩ (c_X1_contentOf l D cI cJ cB h b k w z ad ca S hl9 a1) (cwV 1 hts gX1_holds_X1_contentOf rfl rfl rfl (by decide +kernel) ⟨Nat.le_of_ble_eq_true rfl, Nat.le_of_ble_eq_true rfl⟩) ⟨hy_IX_blind, va_recv hK hP (ci := 1) (q0 := 0) rfl rfl, fun U hU hW => ⟨rfl, hy_IX_at hU hW hP hK hE hZ⟩⟩ rfl rfl hl.1 rfl (lv_room (Nat.le_of_ble_eq_true rfl)) dX1_holds_2 ⟨Nat.le_of_ble_eq_true rfl, Nat.le_of_ble_eq_true rfl⟩) hno hlocks (fun E q => ⟨0, by rw [q.1]; rfl, (by simp only [hy_kbox1e q.2] : hy_kbox a1 = 1).trans (by decide +kernel)⟩) (Nat.le_of_ble_eq_true rfl) (Nat.le_of_ble_eq_true rfl) (fun r9 e9 => ?_)
  obtain ⟨rfl, f_2⟩ := e9
  cases hb2 : hy_bx S a1.toNatClampNeg with
  | none =>
    refine W.eq (g2 := F0 m 5 ls [.null]) rfl ?_
    refine vp_callSi (W.runS (As := [.null]) (rest := []) ⟨hx, hb, hml, hown, hts⟩ (c_X1_sortOf l D cI cJ cB h b k w z ad ca S none (fun _ q => nomatch q)) (va_cwS 1 hts gX1_holds_X1_sortOf rfl rfl rfl (by decide +kernel) ⟨Nat.le_of_ble_eq_true rfl, Nat.le_of_ble_eq_true rfl⟩) ⟨hy_I_blind, fun U hU hW => ⟨rfl, hy_I_at hU hW hP hK⟩⟩ rfl rfl hl.1 rfl (lv_room (Nat.le_of_ble_eq_true rfl)) dX1_holds_5 ⟨Nat.le_of_ble_eq_true rfl, Nat.le_of_ble_eq_true rfl⟩) (fun v9 e9 => ?_)
    subst e9
    exact vx_ret (W.widen (k := 1) (n := 6) (by decide) (by decide) (W.iret (v := (hy_sort S none)) hx hb hr (fun t ht hW => ⟨⟨_, (), rfl, ⟨hy_kbox0 f_2, by rw [hy_vhold, hb2]⟩, b, k, w, z, ad, ca, by rw [ht]; exact hP, va_K.moved hW.alike hK, hD⟩, hS.F ht⟩) hS.2.2 dX1_holds_8))
  | some r2 =>
    have hr2 : r2 ≤ hy_nr S := hwf.2.2.1 _ _ hb2
    refine W.eq (g2 := F0 m 5 ls [.ref (ad r2)]) rfl ?_
    refine vp_callSi (W.runS (As := [.ref (ad r2)]) (rest := []) ⟨hx, hb, hml, hown, hts⟩ (c_X1_sortOf l D cI cJ cB h b k w z ad ca S (some r2) (fun _ q => by cases q; exact hr2)) (va_cwS 1 hts gX1_holds_X1_sortOf rfl rfl rfl (by decide +kernel) ⟨Nat.le_of_ble_eq_true rfl, Nat.le_of_ble_eq_true rfl⟩) ⟨hy_I_blind, fun U hU hW => ⟨rfl, hy_I_at hU hW hP hK⟩⟩ rfl rfl hl.1 rfl (lv_room (Nat.le_of_ble_eq_true rfl)) dX1_holds_5 ⟨Nat.le_of_ble_eq_true rfl, Nat.le_of_ble_eq_true rfl⟩) (fun v9 e9 => ?_)
    subst e9
    exact vx_ret (W.widen (k := 1) (n := 6) (by decide) (by decide) (W.iret (v := (hy_sort S (some r2))) hx hb hr (fun t ht hW => ⟨⟨_, (), rfl, ⟨hy_kbox0 f_2, by rw [hy_vhold, hb2]⟩, b, k, w, z, ad, ca, by rw [ht]; exact hP, va_K.moved hW.alike hK, hD⟩, hS.F ht⟩) hS.2.2 dX1_holds_8))
set_option maxHeartbeats 4000000 in
set_option maxRecDepth 100000 in
theorem c_X1_places (l : Launch) (D : va_G) (cI cJ cB : ClassId) (h b k w z : Nat) (ad ca : Nat → Nat) (S : hy_S) (hl9 : l.stackTraces = false) (hwf : hy_wf S) (sz : Nat) (a1 : Int32) : vx_Met l yX1_places wsX1_places ({ frames := 8, cells := 2, slots := 12, locals := 131 }) (va_Pc [.ref h, .int a1] (hy_IP D cI cJ cB h b k w z ad ca S sz)) (va_Qi (fun (r9 : Int32) (_ : Unit) => hy_krow S a1 = 0 ∧ r9 = hy_vlen S a1) (fun _ => hy_At D cI cJ cB h S (va_A (hy_W cI cJ cB h b k w z ad ca S) sz)) (va_A (hy_W cI cJ cB h b k w z ad ca S) sz)) (hy_X (hy_nm ["java/lang/IndexOutOfBoundsException", "java/lang/IllegalStateException"] (hy_krow S a1))) 2 12 (va_A (hy_W cI cJ cB h b k w z ad ca S) sz) := by
  refine vx_ofW (cc := cX1_places) (maxL := 3) (ret := (some .int)) (by decide) rfl ?_
  intro p e s m args below meth c s₁ B hml hno hv
  obtain ⟨rfl, hsz, ⟨⟨hP, hK⟩, hE, hZ⟩, hD0⟩ := hv
  have hx := B.exec
  have hb := B.bytes
  have hr := B.returns
  have hts := atoms_spec (ws := wsX1_places) B.pre
  have hown : s.vm.findClass RX1 = some m.cls := findClass_of_methodNamed B.named
  have hlocks := B.notSynchronized
  subst hsz
  have hD := hD0.self (sz := s.heap.size)
  generalize hAe : va_A (hy_W cI cJ cB h b k w z ad ca S) s.heap.size = A at hD ⊢
  have hA : ∀ q : Nat, s.heap.size ≤ q → A q := fun q h => by rw [← hAe]; exact Or.inr h
  have hS : va_S A s.heap s.heap [] := va_S.rf
  have hinX0 : ∀ w ∈ wsX00, w ∈ wsX1_places := by decide +kernel
  have hl := lv_entry ([.ref h, .int a1]) (n := 3) (Nat.le_of_ble_eq_true rfl)
  rw [lg_entry_eq]
  generalize (lg_sl ([.ref h, .int a1]) ++ List.replicate (3 - (lg_sl ([.ref h, .int a1])).length) Slot.unset).toArray = ls at hl ⊢
  have hl : lv_has ls 3 [(0, .ref h), (1, .int a1)] := hl
  refine lv_aload_n hx hb dX1_places_0 rfl (lv_at hl 0 rfl) ?_
  refine lv_iload_n hx hb dX1_places_1 rfl (lv_at hl 1 rfl) ?_
  refine hy_thruq (vx_runV (As := [.int a1]) (rest := []) ⟨hx, hb, hml, hown, hts⟩ (c_X1_contentOf l D cI cJ cB h b k w z ad ca S hl9 a1) (cwV 1 hts gX1_places_X1_contentOf rfl rfl rfl (by decide +kernel) ⟨Nat.le_of_ble_eq_true rfl, Nat.le_of_ble_eq_true rfl⟩) ⟨hy_IX_blind, va_recv hK hP (ci := 1) (q0 := 0) rfl rfl, fun U hU hW => ⟨rfl, hy_IX_at hU hW hP hK hE hZ⟩⟩ rfl rfl hl.1 rfl (lv_room (Nat.le_of_ble_eq_true rfl)) dX1_places_2 ⟨Nat.le_of_ble_eq_true rfl, Nat.le_of_ble_eq_true rfl⟩) hno hlocks (fun E q => ⟨0, by rw [q.1]; rfl, (by simp only [hy_krow, if_neg (hy_kbox1 q.2)] : hy_krow S a1 = 1).trans (by decide +kernel)⟩) (Nat.le_of_ble_eq_true rfl) (Nat.le_of_ble_eq_true rfl) (fun r9 e9 => ?_)
  obtain ⟨rfl, f_2⟩ := e9
  cases hb2 : hy_bx S a1.toNatClampNeg with
  | none =>
    refine W.eq (g2 := F0 m 5 ls [.null]) rfl ?_
    refine lv_astore_nN (lv' := [(2, .null), (0, .ref h), (1, .int a1)]) hx hb dX1_places_5 rfl hl (by decide) rfl (fun ls hl => ?_)
    refine lv_aload_nN hx hb dX1_places_6 rfl (lv_at hl 0 rfl) ?_
    refine hy_thruv (vx_runS (As := [.null]) (rest := []) ⟨hx, hb, hml, hown, hts⟩ (c_X1_requireRow l D cI cJ cB h b k w z ad ca S hl9 none (fun _ q => nomatch q)) (va_cwS 1 hts gX1_places_X1_requireRow rfl rfl rfl (by decide +kernel) ⟨Nat.le_of_ble_eq_true rfl, Nat.le_of_ble_eq_true rfl⟩) ⟨hy_IX_blind, fun U hU hW => ⟨rfl, hy_IX_at hU hW hP hK hE hZ⟩⟩ rfl rfl hl.1 rfl (lv_room (Nat.le_of_ble_eq_true rfl)) dX1_places_7 ⟨Nat.le_of_ble_eq_true rfl, Nat.le_of_ble_eq_true rfl⟩) hno hlocks (fun E q => ⟨1, by rw [q.1]; rfl, (by simp only [hy_krow, if_pos (hy_kbox0 f_2), hb2, if_pos q.2] : hy_krow S a1 = 2).trans (by decide +kernel)⟩) (Nat.le_of_ble_eq_true rfl) (Nat.le_of_ble_eq_true rfl) (fun f_7 => ?_)
    exact absurd rfl f_7
  | some r2 =>
    have hr2 : r2 ≤ hy_nr S := hwf.2.2.1 _ _ hb2
    refine W.eq (g2 := F0 m 5 ls [.ref (ad r2)]) rfl ?_
    refine lv_astore_n (lv' := [(2, .ref (ad r2)), (0, .ref h), (1, .int a1)]) hx hb dX1_places_5 rfl hl (by decide) rfl (fun ls hl => ?_)
    refine lv_aload_n hx hb dX1_places_6 rfl (lv_at hl 0 rfl) ?_
    refine hy_thruv (vx_runS (As := [.ref (ad r2)]) (rest := []) ⟨hx, hb, hml, hown, hts⟩ (c_X1_requireRow l D cI cJ cB h b k w z ad ca S hl9 (some r2) (fun _ q => by cases q; exact hr2)) (va_cwS 1 hts gX1_places_X1_requireRow rfl rfl rfl (by decide +kernel) ⟨Nat.le_of_ble_eq_true rfl, Nat.le_of_ble_eq_true rfl⟩) ⟨hy_IX_blind, fun U hU hW => ⟨rfl, hy_IX_at hU hW hP hK hE hZ⟩⟩ rfl rfl hl.1 rfl (lv_room (Nat.le_of_ble_eq_true rfl)) dX1_places_7 ⟨Nat.le_of_ble_eq_true rfl, Nat.le_of_ble_eq_true rfl⟩) hno hlocks (fun E q => ⟨1, by rw [q.1]; rfl, (by simp only [hy_krow, if_pos (hy_kbox0 f_2), hb2, if_pos q.2] : hy_krow S a1 = 2).trans (by decide +kernel)⟩) (Nat.le_of_ble_eq_true rfl) (Nat.le_of_ble_eq_true rfl) (fun f_7 => ?_)
    refine lv_aload_n hx hb dX1_places_10 rfl (lv_at hl 0 rfl) ?_
    refine va_get (D := D) (ci := 0) (v := .ref (ca r2)) (C := RX0) (T := TX0) (N := 2) hx hb hts hinX0 hown hK hP (5 + r2) (hy_W_row hr2) rfl 1 (by decide) (hts (.fieldLink RX1 79 "HiveYard$Content" "cells" "[J") (by decide +kernel)) (fun _ h9 => h9) rfl dX1_places_11 ?_
    refine va_alen (v := (nI (hy_le S r2))) hx hb hK hP (5 + (hy_nr S + 1 + r2)) 1 (hy_W_arr hr2) rfl rfl dX1_places_14 ?_
    exact vx_ret (W.widen (k := 2) (n := 12) (by decide) (by decide) (W.iret (v := (nI (hy_le S r2))) hx hb hr (fun t ht hW => ⟨⟨_, (), rfl, ⟨by simp only [hy_krow, if_pos (hy_kbox0 f_2), hb2, if_neg f_7], by rw [hy_vlen, hb2]; rfl⟩, b, k, w, z, ad, ca, by rw [ht]; exact hP, va_K.moved hW.alike hK, hD⟩, hS.F ht⟩) hS.2.2 dX1_places_15))
set_option maxHeartbeats 4000000 in
set_option maxRecDepth 100000 in
theorem c_X1_same (l : Launch) (D : va_G) (cI cJ cB : ClassId) (h b k w z : Nat) (ad ca : Nat → Nat) (S : hy_S) (hl9 : l.stackTraces = false) (hwf : hy_wf S) (sz : Nat) (a1 a2 : Int32) : vx_Met l yX1_same wsX1_same ({ frames := 8, cells := 2, slots := 12, locals := 131 }) (va_Pc [.ref h, .int a1, .int a2] (hy_IP D cI cJ cB h b k w z ad ca S sz)) (va_Qi (fun (r9 : Int32) (_ : Unit) => hy_k2b a1 a2 = 0 ∧ r9 = hy_vsame S a1 a2) (fun _ => hy_At D cI cJ cB h S (va_A (hy_W cI cJ cB h b k w z ad ca S) sz)) (va_A (hy_W cI cJ cB h b k w z ad ca S) sz)) (hy_X (hy_nm ["java/lang/IndexOutOfBoundsException"] (hy_k2b a1 a2))) 2 12 (va_A (hy_W cI cJ cB h b k w z ad ca S) sz) := by
  refine vx_ofW (cc := cX1_same) (maxL := 5) (ret := (some .boolean)) (by decide) rfl ?_
  intro p e s m args below meth c s₁ B hml hno hv
  obtain ⟨rfl, hsz, ⟨⟨hP, hK⟩, hE, hZ⟩, hD0⟩ := hv
  have hx := B.exec
  have hb := B.bytes
  have hr := B.returns
  have hts := atoms_spec (ws := wsX1_same) B.pre
  have hown : s.vm.findClass RX1 = some m.cls := findClass_of_methodNamed B.named
  have hlocks := B.notSynchronized
  subst hsz
  have hD := hD0.self (sz := s.heap.size)
  generalize hAe : va_A (hy_W cI cJ cB h b k w z ad ca S) s.heap.size = A at hD ⊢
  have hA : ∀ q : Nat, s.heap.size ≤ q → A q := fun q h => by rw [← hAe]; exact Or.inr h
  have hS : va_S A s.heap s.heap [] := va_S.rf
  have hl := lv_entry ([.ref h, .int a1, .int a2]) (n := 5) (Nat.le_of_ble_eq_true rfl)
  rw [lg_entry_eq]
  generalize (lg_sl ([.ref h, .int a1, .int a2]) ++ List.replicate (5 - (lg_sl ([.ref h, .int a1, .int a2])).length) Slot.unset).toArray = ls at hl ⊢
  have hl : lv_has ls 5 [(0, .ref h), (1, .int a1), (2, .int a2)] := hl
  refine lv_aload_n hx hb dX1_same_0 rfl (lv_at hl 0 rfl) ?_
  refine lv_iload_n hx hb dX1_same_1 rfl (lv_at hl 1 rfl) ?_
  refine hy_thruq (vx_runV (As := [.int a1]) (rest := []) ⟨hx, hb, hml, hown, hts⟩ (c_X1_contentOf l D cI cJ cB h b k w z ad ca S hl9 a1) (cwV 1 hts gX1_same_X1_contentOf rfl rfl rfl (by decide +kernel) ⟨Nat.le_of_ble_eq_true rfl, Nat.le_of_ble_eq_true rfl⟩) ⟨hy_IX_blind, va_recv hK hP (ci := 1) (q0 := 0) rfl rfl, fun U hU hW => ⟨rfl, hy_IX_at hU hW hP hK hE hZ⟩⟩ rfl rfl hl.1 rfl (lv_room (Nat.le_of_ble_eq_true rfl)) dX1_same_2 ⟨Nat.le_of_ble_eq_true rfl, Nat.le_of_ble_eq_true rfl⟩) hno hlocks (fun E q => ⟨0, by rw [q.1]; rfl, (by simp only [hy_k2b, if_neg (hy_kbox1 q.2)] : hy_k2b a1 a2 = 1).trans (by decide +kernel)⟩) (Nat.le_of_ble_eq_true rfl) (Nat.le_of_ble_eq_true rfl) (fun r9 e9 => ?_)
  obtain ⟨rfl, f_2⟩ := e9
  cases hb2 : hy_bx S a1.toNatClampNeg with
  | none =>
    refine W.eq (g2 := F0 m 5 ls [.null]) rfl ?_
    refine lv_astore_nN (lv' := [(3, .null), (0, .ref h), (1, .int a1), (2, .int a2)]) hx hb dX1_same_5 rfl hl (by decide) rfl (fun ls hl => ?_)
    refine lv_aload_n hx hb dX1_same_6 rfl (lv_at hl 1 rfl) ?_
    refine lv_iload_n hx hb dX1_same_7 rfl (lv_at hl 3 rfl) ?_
    refine hy_thruq (vx_runV (As := [.int a2]) (rest := []) ⟨hx, hb, hml, hown, hts⟩ (c_X1_contentOf l D cI cJ cB h b k w z ad ca S hl9 a2) (cwV 1 hts gX1_same_X1_contentOf rfl rfl rfl (by decide +kernel) ⟨Nat.le_of_ble_eq_true rfl, Nat.le_of_ble_eq_true rfl⟩) ⟨hy_IX_blind, va_recv hK hP (ci := 1) (q0 := 0) rfl rfl, fun U hU hW => ⟨rfl, hy_IX_at hU hW hP hK hE hZ⟩⟩ rfl rfl hl.1 rfl (lv_room (Nat.le_of_ble_eq_true rfl)) dX1_same_8 ⟨Nat.le_of_ble_eq_true rfl, Nat.le_of_ble_eq_true rfl⟩) hno hlocks (fun E q => ⟨0, by rw [q.1]; rfl, (by simp only [hy_k2b, if_pos (hy_kbox0 f_2), hb2, hy_kbox1e q.2] : hy_k2b a1 a2 = 1).trans (by decide +kernel)⟩) (Nat.le_of_ble_eq_true rfl) (Nat.le_of_ble_eq_true rfl) (fun r9 e9 => ?_)
    obtain ⟨rfl, f_8⟩ := e9
    cases hb8 : hy_bx S a2.toNatClampNeg with
    | none =>
      refine W.eq (g2 := F0 m 11 ls [.null]) rfl ?_
      refine lv_astoreN (lv' := [(4, .null), (3, .null), (0, .ref h), (1, .int a1), (2, .int a2)]) hx hb dX1_same_11 hl (by decide) rfl (fun ls hl => ?_)
      refine lv_aload_nN hx hb dX1_same_13 rfl (lv_at hl 1 rfl) ?_
      refine vp_callSi (W.runS (As := [.null]) (rest := []) ⟨hx, hb, hml, hown, hts⟩ (c_X1_isRow l D cI cJ cB h b k w z ad ca S none (fun _ q => nomatch q)) (va_cwS 1 hts gX1_same_X1_isRow rfl rfl rfl (by decide +kernel) ⟨Nat.le_of_ble_eq_true rfl, Nat.le_of_ble_eq_true rfl⟩) ⟨hy_I_blind, fun U hU hW => ⟨rfl, hy_I_at hU hW hP hK⟩⟩ rfl rfl hl.1 rfl (lv_room (Nat.le_of_ble_eq_true rfl)) dX1_same_14 ⟨Nat.le_of_ble_eq_true rfl, Nat.le_of_ble_eq_true rfl⟩) (fun v9 e9 => ?_)
      subst e9
      refine lv_if_eq (tgt := 30) hx hb dX1_same_17 (by decide) (fun c_17 => ?_) (fun c9 => absurd c9 (fun c => c rfl))
      refine lv_iconst (v := 0) hx hb dX1_same_30 (by decide) ?_
      exact vx_ret (W.widen (k := 2) (n := 12) (by decide) (by decide) (W.zret (v := 0) (ty := .boolean) hx hb hr (by decide +kernel) (fun t ht hW => ⟨⟨_, (), rfl, ⟨by simp only [hy_k2b, if_pos (hy_kbox0 f_2), hy_kbox0 f_8], by rw [hy_vsame, hb2, hb8]; first | exact (if_pos c_17).symm | (rw [if_neg c_17]; first | exact (if_pos (congrArg some (hy_adinj hD hr2 hr8 (Option.some.inj c_23)))).symm | exact (if_neg (fun q => c_23 (by rw [Option.some.inj q]))).symm | exact (if_neg (fun q => nomatch q)).symm | exact absurd c_23 (fun q => nomatch q))⟩, b, k, w, z, ad, ca, by rw [ht]; exact hP, va_K.moved hW.alike hK, hD⟩, hS.F ht⟩) hS.2.2 dX1_same_31))
    | some r8 =>
      have hr8 : r8 ≤ hy_nr S := hwf.2.2.1 _ _ hb8
      refine W.eq (g2 := F0 m 11 ls [.ref (ad r8)]) rfl ?_
      refine lv_astore (lv' := [(4, .ref (ad r8)), (3, .null), (0, .ref h), (1, .int a1), (2, .int a2)]) hx hb dX1_same_11 hl (by decide) rfl (fun ls hl => ?_)
      refine lv_aload_nN hx hb dX1_same_13 rfl (lv_at hl 1 rfl) ?_
      refine vp_callSi (W.runS (As := [.null]) (rest := []) ⟨hx, hb, hml, hown, hts⟩ (c_X1_isRow l D cI cJ cB h b k w z ad ca S none (fun _ q => nomatch q)) (va_cwS 1 hts gX1_same_X1_isRow rfl rfl rfl (by decide +kernel) ⟨Nat.le_of_ble_eq_true rfl, Nat.le_of_ble_eq_true rfl⟩) ⟨hy_I_blind, fun U hU hW => ⟨rfl, hy_I_at hU hW hP hK⟩⟩ rfl rfl hl.1 rfl (lv_room (Nat.le_of_ble_eq_true rfl)) dX1_same_14 ⟨Nat.le_of_ble_eq_true rfl, Nat.le_of_ble_eq_true rfl⟩) (fun v9 e9 => ?_)
      subst e9
      refine lv_if_eq (tgt := 30) hx hb dX1_same_17 (by decide) (fun c_17 => ?_) (fun c9 => absurd c9 (fun c => c rfl))
      refine lv_iconst (v := 0) hx hb dX1_same_30 (by decide) ?_
      exact vx_ret (W.widen (k := 2) (n := 12) (by decide) (by decide) (W.zret (v := 0) (ty := .boolean) hx hb hr (by decide +kernel) (fun t ht hW => ⟨⟨_, (), rfl, ⟨by simp only [hy_k2b, if_pos (hy_kbox0 f_2), hy_kbox0 f_8], by rw [hy_vsame, hb2, hb8]; first | exact (if_pos c_17).symm | (rw [if_neg c_17]; first | exact (if_pos (congrArg some (hy_adinj hD hr2 hr8 (Option.some.inj c_23)))).symm | exact (if_neg (fun q => c_23 (by rw [Option.some.inj q]))).symm | exact (if_neg (fun q => nomatch q)).symm | exact absurd c_23 (fun q => nomatch q))⟩, b, k, w, z, ad, ca, by rw [ht]; exact hP, va_K.moved hW.alike hK, hD⟩, hS.F ht⟩) hS.2.2 dX1_same_31))
  | some r2 =>
    have hr2 : r2 ≤ hy_nr S := hwf.2.2.1 _ _ hb2
    refine W.eq (g2 := F0 m 5 ls [.ref (ad r2)]) rfl ?_
    refine lv_astore_n (lv' := [(3, .ref (ad r2)), (0, .ref h), (1, .int a1), (2, .int a2)]) hx hb dX1_same_5 rfl hl (by decide) rfl (fun ls hl => ?_)
    refine lv_aload_n hx hb dX1_same_6 rfl (lv_at hl 1 rfl) ?_
    refine lv_iload_n hx hb dX1_same_7 rfl (lv_at hl 3 rfl) ?_
    refine hy_thruq (vx_runV (As := [.int a2]) (rest := []) ⟨hx, hb, hml, hown, hts⟩ (c_X1_contentOf l D cI cJ cB h b k w z ad ca S hl9 a2) (cwV 1 hts gX1_same_X1_contentOf rfl rfl rfl (by decide +kernel) ⟨Nat.le_of_ble_eq_true rfl, Nat.le_of_ble_eq_true rfl⟩) ⟨hy_IX_blind, va_recv hK hP (ci := 1) (q0 := 0) rfl rfl, fun U hU hW => ⟨rfl, hy_IX_at hU hW hP hK hE hZ⟩⟩ rfl rfl hl.1 rfl (lv_room (Nat.le_of_ble_eq_true rfl)) dX1_same_8 ⟨Nat.le_of_ble_eq_true rfl, Nat.le_of_ble_eq_true rfl⟩) hno hlocks (fun E q => ⟨0, by rw [q.1]; rfl, (by simp only [hy_k2b, if_pos (hy_kbox0 f_2), hb2, hy_kbox1e q.2] : hy_k2b a1 a2 = 1).trans (by decide +kernel)⟩) (Nat.le_of_ble_eq_true rfl) (Nat.le_of_ble_eq_true rfl) (fun r9 e9 => ?_)
    obtain ⟨rfl, f_8⟩ := e9
    cases hb8 : hy_bx S a2.toNatClampNeg with
    | none =>
      refine W.eq (g2 := F0 m 11 ls [.null]) rfl ?_
      refine lv_astoreN (lv' := [(4, .null), (3, .ref (ad r2)), (0, .ref h), (1, .int a1), (2, .int a2)]) hx hb dX1_same_11 hl (by decide) rfl (fun ls hl => ?_)
      refine lv_aload_n hx hb dX1_same_13 rfl (lv_at hl 1 rfl) ?_
      refine vp_callSi (W.runS (As := [.ref (ad r2)]) (rest := []) ⟨hx, hb, hml, hown, hts⟩ (c_X1_isRow l D cI cJ cB h b k w z ad ca S (some r2) (fun _ q => by cases q; exact hr2)) (va_cwS 1 hts gX1_same_X1_isRow rfl rfl rfl (by decide +kernel) ⟨Nat.le_of_ble_eq_true rfl, Nat.le_of_ble_eq_true rfl⟩) ⟨hy_I_blind, fun U hU hW => ⟨rfl, hy_I_at hU hW hP hK⟩⟩ rfl rfl hl.1 rfl (lv_room (Nat.le_of_ble_eq_true rfl)) dX1_same_14 ⟨Nat.le_of_ble_eq_true rfl, Nat.le_of_ble_eq_true rfl⟩) (fun v9 e9 => ?_)
      subst e9
      refine lv_if_eq (tgt := 30) hx hb dX1_same_17 (by decide) (fun c_17 => ?_) (fun c_17 => ?_)
      · -- 30
        refine lv_iconst (v := 0) hx hb dX1_same_30 (by decide) ?_
        exact vx_ret (W.widen (k := 2) (n := 12) (by decide) (by decide) (W.zret (v := 0) (ty := .boolean) hx hb hr (by decide +kernel) (fun t ht hW => ⟨⟨_, (), rfl, ⟨by simp only [hy_k2b, if_pos (hy_kbox0 f_2), hy_kbox0 f_8], by rw [hy_vsame, hb2, hb8]; first | exact (if_pos c_17).symm | (rw [if_neg c_17]; first | exact (if_pos (congrArg some (hy_adinj hD hr2 hr8 (Option.some.inj c_23)))).symm | exact (if_neg (fun q => c_23 (by rw [Option.some.inj q]))).symm | exact (if_neg (fun q => nomatch q)).symm | exact absurd c_23 (fun q => nomatch q))⟩, b, k, w, z, ad, ca, by rw [ht]; exact hP, va_K.moved hW.alike hK, hD⟩, hS.F ht⟩) hS.2.2 dX1_same_31))
      · -- 20
        refine lv_aload_n hx hb dX1_same_20 rfl (lv_at hl 1 rfl) ?_
        refine lv_aloadN hx hb dX1_same_21 (lv_at hl 0 rfl) ?_
        refine lv_acmp_ne (rx := (some (ad r2))) (ry := (none : Option Nat)) (tgt := 30) hx hb dX1_same_23 (by decide) (fun c_23 => ?_) (fun c_23 => ?_)
        · -- 30
          refine lv_iconst (v := 0) hx hb dX1_same_30 (by decide) ?_
          exact vx_ret (W.widen (k := 2) (n := 12) (by decide) (by decide) (W.zret (v := 0) (ty := .boolean) hx hb hr (by decide +kernel) (fun t ht hW => ⟨⟨_, (), rfl, ⟨by simp only [hy_k2b, if_pos (hy_kbox0 f_2), hy_kbox0 f_8], by rw [hy_vsame, hb2, hb8]; first | exact (if_pos c_17).symm | (rw [if_neg c_17]; first | exact (if_pos (congrArg some (hy_adinj hD hr2 hr8 (Option.some.inj c_23)))).symm | exact (if_neg (fun q => c_23 (by rw [Option.some.inj q]))).symm | exact (if_neg (fun q => nomatch q)).symm | exact absurd c_23 (fun q => nomatch q))⟩, b, k, w, z, ad, ca, by rw [ht]; exact hP, va_K.moved hW.alike hK, hD⟩, hS.F ht⟩) hS.2.2 dX1_same_31))
        · -- 26
          refine lv_iconst (v := 1) hx hb dX1_same_26 (by decide) ?_
          refine lv_goto (tgt := 31) hx hb dX1_same_27 (by decide) ?_
          exact vx_ret (W.widen (k := 2) (n := 12) (by decide) (by decide) (W.zret (v := 1) (ty := .boolean) hx hb hr (by decide +kernel) (fun t ht hW => ⟨⟨_, (), rfl, ⟨by simp only [hy_k2b, if_pos (hy_kbox0 f_2), hy_kbox0 f_8], by rw [hy_vsame, hb2, hb8]; first | exact (if_pos c_17).symm | (rw [if_neg c_17]; first | exact (if_pos (congrArg some (hy_adinj hD hr2 hr8 (Option.some.inj c_23)))).symm | exact (if_neg (fun q => c_23 (by rw [Option.some.inj q]))).symm | exact (if_neg (fun q => nomatch q)).symm | exact absurd c_23 (fun q => nomatch q))⟩, b, k, w, z, ad, ca, by rw [ht]; exact hP, va_K.moved hW.alike hK, hD⟩, hS.F ht⟩) hS.2.2 dX1_same_31))
    | some r8 =>
      have hr8 : r8 ≤ hy_nr S := hwf.2.2.1 _ _ hb8
      refine W.eq (g2 := F0 m 11 ls [.ref (ad r8)]) rfl ?_
      refine lv_astore (lv' := [(4, .ref (ad r8)), (3, .ref (ad r2)), (0, .ref h), (1, .int a1), (2, .int a2)]) hx hb dX1_same_11 hl (by decide) rfl (fun ls hl => ?_)
      refine lv_aload_n hx hb dX1_same_13 rfl (lv_at hl 1 rfl) ?_
      refine vp_callSi (W.runS (As := [.ref (ad r2)]) (rest := []) ⟨hx, hb, hml, hown, hts⟩ (c_X1_isRow l D cI cJ cB h b k w z ad ca S (some r2) (fun _ q => by cases q; exact hr2)) (va_cwS 1 hts gX1_same_X1_isRow rfl rfl rfl (by decide +kernel) ⟨Nat.le_of_ble_eq_true rfl, Nat.le_of_ble_eq_true rfl⟩) ⟨hy_I_blind, fun U hU hW => ⟨rfl, hy_I_at hU hW hP hK⟩⟩ rfl rfl hl.1 rfl (lv_room (Nat.le_of_ble_eq_true rfl)) dX1_same_14 ⟨Nat.le_of_ble_eq_true rfl, Nat.le_of_ble_eq_true rfl⟩) (fun v9 e9 => ?_)
      subst e9
      refine lv_if_eq (tgt := 30) hx hb dX1_same_17 (by decide) (fun c_17 => ?_) (fun c_17 => ?_)
      · -- 30
        refine lv_iconst (v := 0) hx hb dX1_same_30 (by decide) ?_
        exact vx_ret (W.widen (k := 2) (n := 12) (by decide) (by decide) (W.zret (v := 0) (ty := .boolean) hx hb hr (by decide +kernel) (fun t ht hW => ⟨⟨_, (), rfl, ⟨by simp only [hy_k2b, if_pos (hy_kbox0 f_2), hy_kbox0 f_8], by rw [hy_vsame, hb2, hb8]; first | exact (if_pos c_17).symm | (rw [if_neg c_17]; first | exact (if_pos (congrArg some (hy_adinj hD hr2 hr8 (Option.some.inj c_23)))).symm | exact (if_neg (fun q => c_23 (by rw [Option.some.inj q]))).symm | exact (if_neg (fun q => nomatch q)).symm | exact absurd c_23 (fun q => nomatch q))⟩, b, k, w, z, ad, ca, by rw [ht]; exact hP, va_K.moved hW.alike hK, hD⟩, hS.F ht⟩) hS.2.2 dX1_same_31))
      · -- 20
        refine lv_aload_n hx hb dX1_same_20 rfl (lv_at hl 1 rfl) ?_
        refine lv_aload hx hb dX1_same_21 (lv_at hl 0 rfl) ?_
        refine lv_acmp_ne (rx := (some (ad r2))) (ry := (some (ad r8))) (tgt := 30) hx hb dX1_same_23 (by decide) (fun c_23 => ?_) (fun c_23 => ?_)
        · -- 30
          refine lv_iconst (v := 0) hx hb dX1_same_30 (by decide) ?_
          exact vx_ret (W.widen (k := 2) (n := 12) (by decide) (by decide) (W.zret (v := 0) (ty := .boolean) hx hb hr (by decide +kernel) (fun t ht hW => ⟨⟨_, (), rfl, ⟨by simp only [hy_k2b, if_pos (hy_kbox0 f_2), hy_kbox0 f_8], by rw [hy_vsame, hb2, hb8]; first | exact (if_pos c_17).symm | (rw [if_neg c_17]; first | exact (if_pos (congrArg some (hy_adinj hD hr2 hr8 (Option.some.inj c_23)))).symm | exact (if_neg (fun q => c_23 (by rw [Option.some.inj q]))).symm | exact (if_neg (fun q => nomatch q)).symm | exact absurd c_23 (fun q => nomatch q))⟩, b, k, w, z, ad, ca, by rw [ht]; exact hP, va_K.moved hW.alike hK, hD⟩, hS.F ht⟩) hS.2.2 dX1_same_31))
        · -- 26
          refine lv_iconst (v := 1) hx hb dX1_same_26 (by decide) ?_
          refine lv_goto (tgt := 31) hx hb dX1_same_27 (by decide) ?_
          exact vx_ret (W.widen (k := 2) (n := 12) (by decide) (by decide) (W.zret (v := 1) (ty := .boolean) hx hb hr (by decide +kernel) (fun t ht hW => ⟨⟨_, (), rfl, ⟨by simp only [hy_k2b, if_pos (hy_kbox0 f_2), hy_kbox0 f_8], by rw [hy_vsame, hb2, hb8]; first | exact (if_pos c_17).symm | (rw [if_neg c_17]; first | exact (if_pos (congrArg some (hy_adinj hD hr2 hr8 (Option.some.inj c_23)))).symm | exact (if_neg (fun q => c_23 (by rw [Option.some.inj q]))).symm | exact (if_neg (fun q => nomatch q)).symm | exact absurd c_23 (fun q => nomatch q))⟩, b, k, w, z, ad, ca, by rw [ht]; exact hP, va_K.moved hW.alike hK, hD⟩, hS.F ht⟩) hS.2.2 dX1_same_31))
set_option maxHeartbeats 4000000 in
set_option maxRecDepth 100000 in
theorem c_X1_all (l : Launch) (D : va_G) (cI cJ cB : ClassId) (h b k w z : Nat) (ad ca : Nat → Nat) (S : hy_S) (hl9 : l.stackTraces = false) (hwf : hy_wf S) (sz : Nat) (a1 : Int32) : vx_Met l yX1_all wsX1_all ({ frames := 8, cells := 2, slots := 12, locals := 131 }) (va_Pc [.ref h, .int a1] (hy_IP D cI cJ cB h b k w z ad ca S sz)) (va_Ql (fun (r9 : Int64) (_ : Unit) => hy_krow S a1 = 0 ∧ r9 = hy_vall S a1) (fun _ => hy_At D cI cJ cB h S (va_A (hy_W cI cJ cB h b k w z ad ca S) sz)) (va_A (hy_W cI cJ cB h b k w z ad ca S) sz)) (hy_X (hy_nm ["java/lang/IndexOutOfBoundsException", "java/lang/IllegalStateException"] (hy_krow S a1))) 2 12 (va_A (hy_W cI cJ cB h b k w z ad ca S) sz) := by
  refine vx_ofW (cc := cX1_all) (maxL := 3) (ret := (some .long)) (by decide) rfl ?_
  intro p e s m args below meth c s₁ B hml hno hv
  obtain ⟨rfl, hsz, ⟨⟨hP, hK⟩, hE, hZ⟩, hD0⟩ := hv
  have hx := B.exec
  have hb := B.bytes
  have hr := B.returns
  have hts := atoms_spec (ws := wsX1_all) B.pre
  have hown : s.vm.findClass RX1 = some m.cls := findClass_of_methodNamed B.named
  have hlocks := B.notSynchronized
  subst hsz
  have hD := hD0.self (sz := s.heap.size)
  generalize hAe : va_A (hy_W cI cJ cB h b k w z ad ca S) s.heap.size = A at hD ⊢
  have hA : ∀ q : Nat, s.heap.size ≤ q → A q := fun q h => by rw [← hAe]; exact Or.inr h
  have hS : va_S A s.heap s.heap [] := va_S.rf
  have hinX0 : ∀ w ∈ wsX00, w ∈ wsX1_all := by decide +kernel
  have hl := lv_entry ([.ref h, .int a1]) (n := 3) (Nat.le_of_ble_eq_true rfl)
  rw [lg_entry_eq]
  generalize (lg_sl ([.ref h, .int a1]) ++ List.replicate (3 - (lg_sl ([.ref h, .int a1])).length) Slot.unset).toArray = ls at hl ⊢
  have hl : lv_has ls 3 [(0, .ref h), (1, .int a1)] := hl
  refine lv_aload_n hx hb dX1_all_0 rfl (lv_at hl 0 rfl) ?_
  refine lv_iload_n hx hb dX1_all_1 rfl (lv_at hl 1 rfl) ?_
  refine hy_thruq (vx_runV (As := [.int a1]) (rest := []) ⟨hx, hb, hml, hown, hts⟩ (c_X1_contentOf l D cI cJ cB h b k w z ad ca S hl9 a1) (cwV 1 hts gX1_all_X1_contentOf rfl rfl rfl (by decide +kernel) ⟨Nat.le_of_ble_eq_true rfl, Nat.le_of_ble_eq_true rfl⟩) ⟨hy_IX_blind, va_recv hK hP (ci := 1) (q0 := 0) rfl rfl, fun U hU hW => ⟨rfl, hy_IX_at hU hW hP hK hE hZ⟩⟩ rfl rfl hl.1 rfl (lv_room (Nat.le_of_ble_eq_true rfl)) dX1_all_2 ⟨Nat.le_of_ble_eq_true rfl, Nat.le_of_ble_eq_true rfl⟩) hno hlocks (fun E q => ⟨0, by rw [q.1]; rfl, (by simp only [hy_krow, hy_vall, if_neg (hy_kbox1 q.2)] : hy_krow S a1 = 1).trans (by decide +kernel)⟩) (Nat.le_of_ble_eq_true rfl) (Nat.le_of_ble_eq_true rfl) (fun r9 e9 => ?_)
  obtain ⟨rfl, f_2⟩ := e9
  cases hb2 : hy_bx S a1.toNatClampNeg with
  | none =>
    refine W.eq (g2 := F0 m 5 ls [.null]) rfl ?_
    refine lv_astore_nN (lv' := [(2, .null), (0, .ref h), (1, .int a1)]) hx hb dX1_all_5 rfl hl (by decide) rfl (fun ls hl => ?_)
    refine lv_aload_nN hx hb dX1_all_6 rfl (lv_at hl 0 rfl) ?_
    refine hy_thruv (vx_runS (As := [.null]) (rest := []) ⟨hx, hb, hml, hown, hts⟩ (c_X1_requireRow l D cI cJ cB h b k w z ad ca S hl9 none (fun _ q => nomatch q)) (va_cwS 1 hts gX1_all_X1_requireRow rfl rfl rfl (by decide +kernel) ⟨Nat.le_of_ble_eq_true rfl, Nat.le_of_ble_eq_true rfl⟩) ⟨hy_IX_blind, fun U hU hW => ⟨rfl, hy_IX_at hU hW hP hK hE hZ⟩⟩ rfl rfl hl.1 rfl (lv_room (Nat.le_of_ble_eq_true rfl)) dX1_all_7 ⟨Nat.le_of_ble_eq_true rfl, Nat.le_of_ble_eq_true rfl⟩) hno hlocks (fun E q => ⟨1, by rw [q.1]; rfl, (by simp only [hy_krow, hy_vall, if_pos (hy_kbox0 f_2), hb2, if_pos q.2] : hy_krow S a1 = 2).trans (by decide +kernel)⟩) (Nat.le_of_ble_eq_true rfl) (Nat.le_of_ble_eq_true rfl) (fun f_7 => ?_)
    exact absurd rfl f_7
  | some r2 =>
    have hr2 : r2 ≤ hy_nr S := hwf.2.2.1 _ _ hb2
    refine W.eq (g2 := F0 m 5 ls [.ref (ad r2)]) rfl ?_
    refine lv_astore_n (lv' := [(2, .ref (ad r2)), (0, .ref h), (1, .int a1)]) hx hb dX1_all_5 rfl hl (by decide) rfl (fun ls hl => ?_)
    refine lv_aload_n hx hb dX1_all_6 rfl (lv_at hl 0 rfl) ?_
    refine hy_thruv (vx_runS (As := [.ref (ad r2)]) (rest := []) ⟨hx, hb, hml, hown, hts⟩ (c_X1_requireRow l D cI cJ cB h b k w z ad ca S hl9 (some r2) (fun _ q => by cases q; exact hr2)) (va_cwS 1 hts gX1_all_X1_requireRow rfl rfl rfl (by decide +kernel) ⟨Nat.le_of_ble_eq_true rfl, Nat.le_of_ble_eq_true rfl⟩) ⟨hy_IX_blind, fun U hU hW => ⟨rfl, hy_IX_at hU hW hP hK hE hZ⟩⟩ rfl rfl hl.1 rfl (lv_room (Nat.le_of_ble_eq_true rfl)) dX1_all_7 ⟨Nat.le_of_ble_eq_true rfl, Nat.le_of_ble_eq_true rfl⟩) hno hlocks (fun E q => ⟨1, by rw [q.1]; rfl, (by simp only [hy_krow, hy_vall, if_pos (hy_kbox0 f_2), hb2, if_pos q.2] : hy_krow S a1 = 2).trans (by decide +kernel)⟩) (Nat.le_of_ble_eq_true rfl) (Nat.le_of_ble_eq_true rfl) (fun f_7 => ?_)
    refine lv_aload_n hx hb dX1_all_10 rfl (lv_at hl 0 rfl) ?_
    refine vp_callSi (W.runS (As := [.ref (ad r2)]) (rest := []) ⟨hx, hb, hml, hown, hts⟩ (c_X1_isCombs l D cI cJ cB h b k w z ad ca S (some r2) (fun _ q => by cases q; exact hr2)) (va_cwS 1 hts gX1_all_X1_isCombs rfl rfl rfl (by decide +kernel) ⟨Nat.le_of_ble_eq_true rfl, Nat.le_of_ble_eq_true rfl⟩) ⟨hy_I_blind, fun U hU hW => ⟨rfl, hy_I_at hU hW hP hK⟩⟩ rfl rfl hl.1 rfl (lv_room (Nat.le_of_ble_eq_true rfl)) dX1_all_11 ⟨Nat.le_of_ble_eq_true rfl, Nat.le_of_ble_eq_true rfl⟩) (fun v9 e9 => ?_)
    subst e9
    refine lv_if_eq (tgt := 28) hx hb dX1_all_14 (by decide) (fun c_14 => ?_) (fun c_14 => ?_)
    · -- 28
      refine lv_aload_n hx hb dX1_all_28 rfl (lv_at hl 0 rfl) ?_
      refine va_get (D := D) (ci := 0) (v := .ref (ca r2)) (C := RX0) (T := TX0) (N := 2) hx hb hts hinX0 hown hK hP (5 + r2) (hy_W_row hr2) rfl 1 (by decide) (hts (.fieldLink RX1 79 "HiveYard$Content" "cells" "[J") (by decide +kernel)) (fun _ h9 => h9) rfl dX1_all_29 ?_
      refine vp_callSl (W.runS (As := [.ref (ca r2)]) (rest := []) ⟨hx, hb, hml, hown, hts⟩ (c_X1_sumOfNumbers l D cI cJ cB h b k w z ad ca S r2 hr2 (hwf.2.2.2.2.2.1 _)) (va_cwS 1 hts gX1_all_X1_sumOfNumbers rfl rfl rfl (by decide +kernel) ⟨Nat.le_of_ble_eq_true rfl, Nat.le_of_ble_eq_true rfl⟩) ⟨hy_I_blind, fun U hU hW => ⟨rfl, hy_I_at hU hW hP hK⟩⟩ rfl rfl hl.1 rfl (lv_room (Nat.le_of_ble_eq_true rfl)) dX1_all_32 ⟨Nat.le_of_ble_eq_true rfl, Nat.le_of_ble_eq_true rfl⟩) (fun v9 e9 => ?_)
      subst e9
      exact vx_ret (W.widen (k := 2) (n := 12) (by decide) (by decide) (W.lret (v := (hy_sum (hy_va S r2) (hy_le S r2))) hx hb hr (fun t ht hW => ⟨⟨_, (), rfl, ⟨by simp only [hy_krow, hy_vall, if_pos (hy_kbox0 f_2), hb2, if_neg f_7, if_pos c_14], by first | rfl | (simp only [hy_krow, hy_vall, if_pos (hy_kbox0 f_2), hb2, if_neg f_7, if_pos c_14]; done)⟩, b, k, w, z, ad, ca, by rw [ht]; exact hP, va_K.moved hW.alike hK, hD⟩, hS.F ht⟩) hS.2.2 dX1_all_35))
    · -- 17
      refine lv_aload_n hx hb dX1_all_17 rfl (lv_at hl 1 rfl) ?_
      refine lv_aload_n hx hb dX1_all_18 rfl (lv_at hl 0 rfl) ?_
      refine va_get (D := D) (ci := 0) (v := .ref (ca r2)) (C := RX0) (T := TX0) (N := 2) hx hb hts hinX0 hown hK hP (5 + r2) (hy_W_row hr2) rfl 1 (by decide) (hts (.fieldLink RX1 79 "HiveYard$Content" "cells" "[J") (by decide +kernel)) (fun _ h9 => h9) rfl dX1_all_19 ?_
      refine vp_callSl (W.runV (As := [.ref (ca r2)]) (rest := []) ⟨hx, hb, hml, hown, hts⟩ (c_X1_sumOfWeights l D cI cJ cB h b k w z ad ca S r2 hr2 (hwf.2.2.2.2.2.1 _) hwf.2.1) (cwV 1 hts gX1_all_X1_sumOfWeights rfl rfl rfl (by decide +kernel) ⟨Nat.le_of_ble_eq_true rfl, Nat.le_of_ble_eq_true rfl⟩) ⟨hy_I_blind, va_recv hK hP (ci := 1) (q0 := 0) rfl rfl, fun U hU hW => ⟨rfl, hy_I_at hU hW hP hK⟩⟩ rfl rfl hl.1 rfl (lv_room (Nat.le_of_ble_eq_true rfl)) dX1_all_22 ⟨Nat.le_of_ble_eq_true rfl, Nat.le_of_ble_eq_true rfl⟩) (fun v9 e9 => ?_)
      subst e9
      refine lv_goto (tgt := 35) hx hb dX1_all_25 (by decide) ?_
      exact vx_ret (W.widen (k := 2) (n := 12) (by decide) (by decide) (W.lret (v := (hy_wsum S (hy_va S r2) (hy_le S r2))) hx hb hr (fun t ht hW => ⟨⟨_, (), rfl, ⟨by simp only [hy_krow, hy_vall, if_pos (hy_kbox0 f_2), hb2, if_neg f_7, if_neg c_14], by first | rfl | (simp only [hy_krow, hy_vall, if_pos (hy_kbox0 f_2), hb2, if_neg f_7, if_neg c_14]; done)⟩, b, k, w, z, ad, ca, by rw [ht]; exact hP, va_K.moved hW.alike hK, hD⟩, hS.F ht⟩) hS.2.2 dX1_all_35))
set_option maxHeartbeats 4000000 in
set_option maxRecDepth 100000 in
theorem c_X1_feed (l : Launch) (D : va_G) (cI cJ cB : ClassId) (h b k w z : Nat) (ad ca : Nat → Nat) (S : hy_S) (hl9 : l.stackTraces = false) (hwf : hy_wf S) (sz : Nat) (a1 a2 : Int32) : vx_Met l yX1_feed wsX1_feed ({ frames := 7, cells := 1, slots := 6, locals := 111 }) (va_Pc [.ref h, .int a1, .int a2] (hy_IP D cI cJ cB h b k w z ad ca S sz)) (va_Qi (fun (r9 : Int32) (_ : Unit) => hy_kcomb S a1 = 0 ∧ r9 = (hy_we S a1.toNatClampNeg + a2)) (fun _ => hy_At D cI cJ cB h (hy_uwe S (upd (hy_we S) a1.toNatClampNeg (hy_we S a1.toNatClampNeg + a2))) (va_A (hy_W cI cJ cB h b k w z ad ca S) sz)) (va_A (hy_W cI cJ cB h b k w z ad ca S) sz)) (hy_X (hy_nm ["java/util/NoSuchElementException"] (hy_kcomb S a1))) 1 6 (va_A (hy_W cI cJ cB h b k w z ad ca S) sz) := by
  refine vx_ofW (cc := cX1_feed) (maxL := 3) (ret := (some .int)) (by decide) rfl ?_
  intro p e s m args below meth c s₁ B hml hno hv
  obtain ⟨rfl, hsz, ⟨⟨hP, hK⟩, hE, hZ⟩, hD0⟩ := hv
  have hx := B.exec
  have hb := B.bytes
  have hr := B.returns
  have hts := atoms_spec (ws := wsX1_feed) B.pre
  have hown : s.vm.findClass RX1 = some m.cls := findClass_of_methodNamed B.named
  have hlocks := B.notSynchronized
  subst hsz
  have hD := hD0.self (sz := s.heap.size)
  generalize hAe : va_A (hy_W cI cJ cB h b k w z ad ca S) s.heap.size = A at hD ⊢
  have hA : ∀ q : Nat, s.heap.size ≤ q → A q := fun q h => by rw [← hAe]; exact Or.inr h
  have hS : va_S A s.heap s.heap [] := va_S.rf
  have hinX1 : ∀ w ∈ wsX10, w ∈ wsX1_feed := by decide +kernel
  have hl := lv_entry ([.ref h, .int a1, .int a2]) (n := 3) (Nat.le_of_ble_eq_true rfl)
  rw [lg_entry_eq]
  generalize (lg_sl ([.ref h, .int a1, .int a2]) ++ List.replicate (3 - (lg_sl ([.ref h, .int a1, .int a2])).length) Slot.unset).toArray = ls at hl ⊢
  have hl : lv_has ls 3 [(0, .ref h), (1, .int a1), (2, .int a2)] := hl
  refine lv_aload_n hx hb dX1_feed_0 rfl (lv_at hl 0 rfl) ?_
  refine lv_iload_n hx hb dX1_feed_1 rfl (lv_at hl 1 rfl) ?_
  refine hy_thruv (vx_runV (As := [.int a1]) (rest := []) ⟨hx, hb, hml, hown, hts⟩ (c_X1_requireComb l D cI cJ cB h b k w z ad ca S hl9 a1) (cwV 1 hts gX1_feed_X1_requireComb rfl rfl rfl (by decide +kernel) ⟨Nat.le_of_ble_eq_true rfl, Nat.le_of_ble_eq_true rfl⟩) ⟨hy_IX_blind, va_recv hK hP (ci := 1) (q0 := 0) rfl rfl, fun U hU hW => ⟨rfl, hy_IX_at hU hW hP hK hE hZ⟩⟩ rfl rfl hl.1 rfl (lv_room (Nat.le_of_ble_eq_true rfl)) dX1_feed_2 ⟨Nat.le_of_ble_eq_true rfl, Nat.le_of_ble_eq_true rfl⟩) hno hlocks (fun E q => ⟨0, by rw [q.1]; rfl, (by simp only [hy_kcomb, if_pos q.2] : hy_kcomb S a1 = 1).trans (by decide +kernel)⟩) (Nat.le_of_ble_eq_true rfl) (Nat.le_of_ble_eq_true rfl) (fun f_2 => ?_)
  refine lv_aload_n hx hb dX1_feed_5 rfl (lv_at hl 0 rfl) ?_
  refine va_get (D := D) (ci := 1) (v := .ref w) (C := RX1) (T := TX1) (N := 10) hx hb hts hinX1 hown hK hP 0 rfl rfl 3 (by decide) (hts (.fieldLink RX1 26 "HiveYard" "weightOfComb" "[I") (by decide +kernel)) (fun _ h9 => h9) rfl dX1_feed_6 ?_
  refine lv_iload_n hx hb dX1_feed_9 rfl (lv_at hl 1 rfl) ?_
  refine lv_dup2_11 hx hb dX1_feed_10 rfl rfl ?_
  refine va_iald hx hb hK hP 3 0 rfl rfl (hy_combI hwf.2.1 f_2) dX1_feed_11 ?_
  refine lv_iload_n hx hb dX1_feed_12 rfl (lv_at hl 2 rfl) ?_
  refine lv_iadd hx hb dX1_feed_13 ?_
  refine va_iast hx hb hK hP hD hS 3 0 rfl rfl (hy_combI hwf.2.1 f_2) dX1_feed_14 (fun H locs hP hD hS => ?_)
  have hP : va_P D vwCl (hy_W cI cJ cB h b k w z ad ca (hy_uwe S (upd (hy_we S) a1.toNatClampNeg (((hy_we S) a1.toNatClampNeg) + a2)))) H := by rw [← hy_W_uwe]; exact hP
  have hD : va_D A (hy_W cI cJ cB h b k w z ad ca (hy_uwe S (upd (hy_we S) a1.toNatClampNeg (((hy_we S) a1.toNatClampNeg) + a2)))) := by rw [← hy_W_uwe]; exact hD
  refine lv_aload_n hx hb dX1_feed_15 rfl (lv_at hl 0 rfl) ?_
  refine va_get (D := D) (ci := 1) (v := .ref w) (C := RX1) (T := TX1) (N := 10) hx hb hts hinX1 hown hK hP 0 rfl rfl 3 (by decide) (hts (.fieldLink RX1 26 "HiveYard" "weightOfComb" "[I") (by decide +kernel)) (fun _ h9 => h9) rfl dX1_feed_16 ?_
  refine lv_iload_n hx hb dX1_feed_19 rfl (lv_at hl 1 rfl) ?_
  refine va_iald hx hb hK hP 3 0 rfl rfl (hy_combI hwf.2.1 f_2) dX1_feed_20 ?_
  have eS : (hy_W cI cJ cB h b k w z ad ca (hy_uwe S (upd (hy_we S) a1.toNatClampNeg (((hy_we S) a1.toNatClampNeg) + a2)))) = (hy_W cI cJ cB h b k w z ad ca (hy_uwe S (upd (hy_we S) a1.toNatClampNeg (hy_we S a1.toNatClampNeg + a2)))) := rfl
  have hP : va_P D vwCl (hy_W cI cJ cB h b k w z ad ca (hy_uwe S (upd (hy_we S) a1.toNatClampNeg (hy_we S a1.toNatClampNeg + a2)))) H := by rw [← eS]; exact hP
  have hD : va_D A (hy_W cI cJ cB h b k w z ad ca (hy_uwe S (upd (hy_we S) a1.toNatClampNeg (hy_we S a1.toNatClampNeg + a2)))) := by rw [← eS]; exact hD
  exact vx_ret (W.widen (k := 1) (n := 6) (by decide) (by decide) (W.iret (v := (((upd (hy_we S) a1.toNatClampNeg (((hy_we S) a1.toNatClampNeg) + a2))) a1.toNatClampNeg)) hx hb hr (fun t ht hW => ⟨⟨_, (), rfl, ⟨by simp only [hy_kcomb, if_neg f_2], pk_us⟩, b, k, w, z, ad, ca, by rw [ht]; exact hP, va_K.moved hW.alike hK, hD⟩, hS.F ht⟩) hS.2.2 dX1_feed_21))
set_option maxHeartbeats 4000000 in
set_option maxRecDepth 100000 in
theorem c_X1_kind (l : Launch) (D : va_G) (cI cJ cB : ClassId) (h b k w z : Nat) (ad ca : Nat → Nat) (S : hy_S) (hl9 : l.stackTraces = false) (hwf : hy_wf S) (sz : Nat) (a1 : Int32) : vx_Met l yX1_kind wsX1_kind ({ frames := 7, cells := 1, slots := 6, locals := 111 }) (va_Pc [.ref h, .int a1] (hy_IP D cI cJ cB h b k w z ad ca S sz)) (va_Qi (fun (r9 : Int32) (_ : Unit) => hy_kcomb S a1 = 0 ∧ r9 = hy_ki S a1.toNatClampNeg) (fun _ => hy_At D cI cJ cB h S (va_A (hy_W cI cJ cB h b k w z ad ca S) sz)) (va_A (hy_W cI cJ cB h b k w z ad ca S) sz)) (hy_X (hy_nm ["java/util/NoSuchElementException"] (hy_kcomb S a1))) 1 6 (va_A (hy_W cI cJ cB h b k w z ad ca S) sz) := by
  refine vx_ofW (cc := cX1_kind) (maxL := 2) (ret := (some .int)) (by decide) rfl ?_
  intro p e s m args below meth c s₁ B hml hno hv
  obtain ⟨rfl, hsz, ⟨⟨hP, hK⟩, hE, hZ⟩, hD0⟩ := hv
  have hx := B.exec
  have hb := B.bytes
  have hr := B.returns
  have hts := atoms_spec (ws := wsX1_kind) B.pre
  have hown : s.vm.findClass RX1 = some m.cls := findClass_of_methodNamed B.named
  have hlocks := B.notSynchronized
  subst hsz
  have hD := hD0.self (sz := s.heap.size)
  generalize hAe : va_A (hy_W cI cJ cB h b k w z ad ca S) s.heap.size = A at hD ⊢
  have hA : ∀ q : Nat, s.heap.size ≤ q → A q := fun q h => by rw [← hAe]; exact Or.inr h
  have hS : va_S A s.heap s.heap [] := va_S.rf
  have hinX1 : ∀ w ∈ wsX10, w ∈ wsX1_kind := by decide +kernel
  have hl := lv_entry ([.ref h, .int a1]) (n := 2) (Nat.le_of_ble_eq_true rfl)
  rw [lg_entry_eq]
  generalize (lg_sl ([.ref h, .int a1]) ++ List.replicate (2 - (lg_sl ([.ref h, .int a1])).length) Slot.unset).toArray = ls at hl ⊢
  have hl : lv_has ls 2 [(0, .ref h), (1, .int a1)] := hl
  refine lv_aload_n hx hb dX1_kind_0 rfl (lv_at hl 0 rfl) ?_
  refine lv_iload_n hx hb dX1_kind_1 rfl (lv_at hl 1 rfl) ?_
  refine hy_thruv (vx_runV (As := [.int a1]) (rest := []) ⟨hx, hb, hml, hown, hts⟩ (c_X1_requireComb l D cI cJ cB h b k w z ad ca S hl9 a1) (cwV 1 hts gX1_kind_X1_requireComb rfl rfl rfl (by decide +kernel) ⟨Nat.le_of_ble_eq_true rfl, Nat.le_of_ble_eq_true rfl⟩) ⟨hy_IX_blind, va_recv hK hP (ci := 1) (q0 := 0) rfl rfl, fun U hU hW => ⟨rfl, hy_IX_at hU hW hP hK hE hZ⟩⟩ rfl rfl hl.1 rfl (lv_room (Nat.le_of_ble_eq_true rfl)) dX1_kind_2 ⟨Nat.le_of_ble_eq_true rfl, Nat.le_of_ble_eq_true rfl⟩) hno hlocks (fun E q => ⟨0, by rw [q.1]; rfl, (by simp only [hy_kcomb, if_pos q.2] : hy_kcomb S a1 = 1).trans (by decide +kernel)⟩) (Nat.le_of_ble_eq_true rfl) (Nat.le_of_ble_eq_true rfl) (fun f_2 => ?_)
  refine lv_aload_n hx hb dX1_kind_5 rfl (lv_at hl 0 rfl) ?_
  refine va_get (D := D) (ci := 1) (v := .ref k) (C := RX1) (T := TX1) (N := 10) hx hb hts hinX1 hown hK hP 0 rfl rfl 2 (by decide) (hts (.fieldLink RX1 22 "HiveYard" "kindOfComb" "[I") (by decide +kernel)) (fun _ h9 => h9) rfl dX1_kind_6 ?_
  refine lv_iload_n hx hb dX1_kind_9 rfl (lv_at hl 1 rfl) ?_
  refine va_iald hx hb hK hP 2 0 rfl rfl (hy_combI hwf.2.1 f_2) dX1_kind_10 ?_
  exact vx_ret (W.widen (k := 1) (n := 6) (by decide) (by decide) (W.iret (v := ((hy_ki S) a1.toNatClampNeg)) hx hb hr (fun t ht hW => ⟨⟨_, (), rfl, ⟨by simp only [hy_kcomb, if_neg f_2], by first | rfl | (simp only [hy_kcomb, if_neg f_2]; done)⟩, b, k, w, z, ad, ca, by rw [ht]; exact hP, va_K.moved hW.alike hK, hD⟩, hS.F ht⟩) hS.2.2 dX1_kind_11))
