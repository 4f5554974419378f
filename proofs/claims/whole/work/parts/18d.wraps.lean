/-! THE LAW'S WRAPPERS. Rows laid by mwrap.py. -/
set_option maxHeartbeats 4000000 in
set_option maxRecDepth 100000 in
theorem c_L_row (l : Launch) (D : va_G) (cI cJ cB : ClassId) (h b0 k0 w0 z0 : Nat) (ad0 ca0 : Nat → Nat) (S : hy_S) (o : Nat) (f : Nat → Int64) (hl9 : l.stackTraces = false) (hwf : hy_wf S) (sz : Nat) (a1 a2 a3 : Int32) : Met l yL_row wsL_row ({ frames := 9, cells := 3, slots := 32, locals := 155 }) (va_Pc [.ref h, .int a1, .int a2, .int a3, .ref o] (hy_IW D cI cJ cB h b0 k0 w0 z0 ad0 ca0 S o f sz)) (va_Qi (fun (r : Int32) (_ : Unit) => r = (hy_krw S a1 a2 a3)) (fun _ => hy_AtO D cI cJ cB h o (hy_zl (hy_vrow S a1)) (hy_srow S a1 a2 a3) S (hy_krw S a1 a2 a3) (va_A (hy_O cJ o f :: hy_W cI cJ cB h b0 k0 w0 z0 ad0 ca0 S) sz)) (va_A (hy_O cJ o f :: hy_W cI cJ cB h b0 k0 w0 z0 ad0 ca0 S) sz)) 3 32 (va_A (hy_O cJ o f :: hy_W cI cJ cB h b0 k0 w0 z0 ad0 ca0 S) sz) := by
  refine va_MetW (cc := cL_row) (maxL := 6) (ret := some .int) (hh := [(0, 19, 22, 13), (0, 19, 26, 15), (0, 19, 30, 17)]) (by decide) rfl ?_
  intro p e s m args below meth c s₁ B hml hv
  obtain ⟨rfl, hsz, hP, hK, hD0, hE, hZ, hN⟩ := hv
  have hx := B.exec
  have hb := B.bytes
  have hr := B.returns
  have hts := atoms_spec (ws := wsL_row) B.pre
  have hown : s.vm.findClass RL = some m.cls := findClass_of_methodNamed B.named
  have hlocks := B.notSynchronized
  have htab := vx_table (x := yL_row) B (hts _ List.mem_cons_self)
  subst hsz
  have hl := lv_entry ([.ref h, .int a1, .int a2, .int a3, .ref o]) (n := 6) (Nat.le_of_ble_eq_true rfl)
  rw [lg_entry_eq]
  generalize (lg_sl ([.ref h, .int a1, .int a2, .int a3, .ref o]) ++ List.replicate (6 - (lg_sl ([.ref h, .int a1, .int a2, .int a3, .ref o])).length) Slot.unset).toArray = ls at hl ⊢
  have hl : lv_has ls 6 [(0, .ref h), (1, .int a1), (2, .int a2), (3, .int a3), (4, .ref o)] := hl
  refine lv_aload hx hb dL_row_0 (lv_at hl 4 rfl) ?_
  refine lv_iconst (v := 0) hx hb dL_row_2 (by decide) ?_
  refine lv_aload_n hx hb dL_row_3 rfl (lv_at hl 0 rfl) ?_
  refine lv_iload_n hx hb dL_row_4 rfl (lv_at hl 1 rfl) ?_
  refine lv_iload_n hx hb dL_row_5 rfl (lv_at hl 2 rfl) ?_
  refine lv_iload_n hx hb dL_row_6 rfl (lv_at hl 3 rfl) ?_
  have hPw : va_P D vwCl (hy_W cI cJ cB h b0 k0 w0 z0 ad0 ca0 S) s.heap := fun k9 q9 h9 => hP (k9 + 1) q9 h9
  have hDw : va_D (fun _ => True) (hy_W cI cJ cB h b0 k0 w0 z0 ad0 ca0 S) := (hy_left (hy_swap (X := [hy_O cJ o f]) (Y := hy_W cI cJ cB h b0 k0 w0 z0 ad0 ca0 S) hP hD0).1 (hy_swap (X := [hy_O cJ o f]) (Y := hy_W cI cJ cB h b0 k0 w0 z0 ad0 ca0 S) hP hD0).2).2
  refine hy_wcall (L := ["java/lang/IndexOutOfBoundsException", "java/lang/IllegalArgumentException", "java/lang/UnsupportedOperationException"]) (K := (hy_krw S a1 a2 a3)) (V := .int (hy_vrow S a1)) (S2 := (hy_srow S a1 a2 a3)) (vx_runV (As := [.int a1, .int a2, .int a3]) (rest := [.int 0, .ref o]) ⟨hx, hb, hml, hown, hts⟩ (c_X1_row l D cI cJ cB h b0 k0 w0 z0 ad0 ca0 S hl9 hwf s.heap.size a1 a2 a3) (cwV 3 hts gL_row_X1_row rfl rfl rfl (by decide +kernel) ⟨Nat.le_of_ble_eq_true rfl, Nat.le_of_ble_eq_true rfl⟩) ⟨hy_IP_blind, va_recv hK hPw (ci := 1) (q0 := 0) rfl rfl, fun U hU hW => ⟨rfl, by rw [hU], hy_IX_at hU hW hPw hK hE hZ, hDw⟩⟩ rfl rfl hl.1 rfl (lv_room (Nat.le_of_ble_eq_true rfl)) dL_row_7 ⟨Nat.le_of_ble_eq_true rfl, Nat.le_of_ble_eq_true rfl⟩) (fun st v t q9 => hy_Qi (fun r u q => q) q9) hP hD0 (fun b k w z ad ca H locs hk hP hD hS => ?_) (fun E ce q j H locs hj hk hP hD hS hcell hcv hcl => ?_)
  · refine W.widen (k := 3) (n := 32) (Nat.le_of_ble_eq_true rfl) (Nat.le_of_ble_eq_true rfl) ?_
    refine lv_if_eq (tgt := 17) hx hb dL_row_10 (by decide) (fun c0 => ?_) (fun c0 => ?_)
    · refine lv_lconst (v := 0) hx hb dL_row_17 (by decide) ?_
      refine va_last hx hb hK hP hD hS 0 1 rfl rfl (vp_in_nI (n := 0) (by decide) (by decide)) dL_row_18 (fun H locs hP hD hS => ?_)
      have hP : va_P D vwCl (hy_O cJ o (vp_updL f 0 0) :: hy_W cI cJ cB h b k w z ad ca (hy_srow S a1 a2 a3)) H := hP
      have hD : va_D (va_A (hy_O cJ o f :: hy_W cI cJ cB h b0 k0 w0 z0 ad0 ca0 S) s.heap.size) (hy_O cJ o (vp_updL f 0 0) :: hy_W cI cJ cB h b k w z ad ca (hy_srow S a1 a2 a3)) := hD
      refine lv_goto (tgt := 34) hx hb dL_row_19 (by decide) ?_
      refine lv_iconst (v := 0) hx hb dL_row_34 (by decide) ?_
      exact W.iret (v := 0) hx hb hr (fun t ht hW => ⟨⟨_, (), rfl, hk.symm, b, k, w, z, ad, ca, vp_updL f 0 0, (hy_srow S a1 a2 a3), fun _ => ⟨(if_pos rfl : _ = (0 : Int64)).trans (if_pos c0).symm, rfl⟩, fun q => absurd hk q, by rw [ht]; exact hP, va_K.moved hW.alike hK, hD⟩, hS.F ht⟩) hS.2.2 dL_row_35
    · refine lv_lconst (v := 1) hx hb dL_row_13 (by decide) ?_
      refine lv_goto (tgt := 18) hx hb dL_row_14 (by decide) ?_
      refine va_last hx hb hK hP hD hS 0 1 rfl rfl (vp_in_nI (n := 0) (by decide) (by decide)) dL_row_18 (fun H locs hP hD hS => ?_)
      have hP : va_P D vwCl (hy_O cJ o (vp_updL f 0 1) :: hy_W cI cJ cB h b k w z ad ca (hy_srow S a1 a2 a3)) H := hP
      have hD : va_D (va_A (hy_O cJ o f :: hy_W cI cJ cB h b0 k0 w0 z0 ad0 ca0 S) s.heap.size) (hy_O cJ o (vp_updL f 0 1) :: hy_W cI cJ cB h b k w z ad ca (hy_srow S a1 a2 a3)) := hD
      refine lv_goto (tgt := 34) hx hb dL_row_19 (by decide) ?_
      refine lv_iconst (v := 0) hx hb dL_row_34 (by decide) ?_
      exact W.iret (v := 0) hx hb hr (fun t ht hW => ⟨⟨_, (), rfl, hk.symm, b, k, w, z, ad, ca, vp_updL f 0 1, (hy_srow S a1 a2 a3), fun _ => ⟨(if_pos rfl : _ = (1 : Int64)).trans (if_neg c0).symm, rfl⟩, fun q => absurd hk q, by rw [ht]; exact hP, va_K.moved hW.alike hK, hD⟩, hS.F ht⟩) hS.2.2 dL_row_35
  · match j, hj, hk with
    | 0, hj, hk =>
      cases Option.some.inj hj
      refine vx_catch (name := "java/lang/IndexOutOfBoundsException") hown [] ⟨0, 19, 22, 13⟩ [⟨0, 19, 26, 15⟩, ⟨0, 19, 30, 17⟩] htab (fun _ h9 => nomatch h9) (by decide) (by decide) (hts (.classLink RL 13 "java/lang/IndexOutOfBoundsException") (by decide +kernel)) (va_Nw.use rfl (hE.1 _ (by decide +kernel))) hcell hcv hcl ?_
      refine W.widen (k := 3) (n := 32) (Nat.le_of_ble_eq_true rfl) (Nat.le_of_ble_eq_true rfl) ?_
      refine lv_astore (lv' := [(5, .ref q), (0, .ref h), (1, .int a1), (2, .int a2), (3, .int a3), (4, .ref o)]) hx hb dL_row_22 hl (by decide) rfl (fun ls hl => ?_)
      refine lv_iconst (v := 1) hx hb dL_row_24 (by decide) ?_
      have hk1 : (hy_krw S a1 a2 a3) = 1 := hk.trans (by decide +kernel)
      exact W.iret (v := 1) hx hb hr (fun t ht hW => ⟨⟨_, (), rfl, hk1.symm, b0, k0, w0, z0, ad0, ca0, f, S, fun q => absurd (hk1.symm.trans q) (by decide), fun _ => rfl, by rw [ht]; exact hP, va_K.moved hW.alike hK, hD⟩, hS.F ht⟩) hS.2.2 dL_row_25
    | 1, hj, hk =>
      cases Option.some.inj hj
      refine vx_catch (name := "java/lang/IllegalArgumentException") hown [⟨0, 19, 22, 13⟩] ⟨0, 19, 26, 15⟩ [⟨0, 19, 30, 17⟩] htab (List.forall_mem_cons.mpr ⟨Or.inr ⟨by decide, "java/lang/IndexOutOfBoundsException", hts (.classLink RL 13 "java/lang/IndexOutOfBoundsException") (by decide +kernel), hN _ (by decide +kernel) _ (by decide +kernel) (by decide +kernel)⟩, fun _ h9 => nomatch h9⟩) (by decide) (by decide) (hts (.classLink RL 15 "java/lang/IllegalArgumentException") (by decide +kernel)) (va_Nw.use rfl (hE.1 _ (by decide +kernel))) hcell hcv hcl ?_
      refine W.widen (k := 3) (n := 32) (Nat.le_of_ble_eq_true rfl) (Nat.le_of_ble_eq_true rfl) ?_
      refine lv_astore (lv' := [(5, .ref q), (0, .ref h), (1, .int a1), (2, .int a2), (3, .int a3), (4, .ref o)]) hx hb dL_row_26 hl (by decide) rfl (fun ls hl => ?_)
      refine lv_iconst (v := 2) hx hb dL_row_28 (by decide) ?_
      have hk1 : (hy_krw S a1 a2 a3) = 2 := hk.trans (by decide +kernel)
      exact W.iret (v := 2) hx hb hr (fun t ht hW => ⟨⟨_, (), rfl, hk1.symm, b0, k0, w0, z0, ad0, ca0, f, S, fun q => absurd (hk1.symm.trans q) (by decide), fun _ => rfl, by rw [ht]; exact hP, va_K.moved hW.alike hK, hD⟩, hS.F ht⟩) hS.2.2 dL_row_29
    | 2, hj, hk =>
      cases Option.some.inj hj
      refine vx_catch (name := "java/lang/UnsupportedOperationException") hown [⟨0, 19, 22, 13⟩, ⟨0, 19, 26, 15⟩] ⟨0, 19, 30, 17⟩ [] htab (List.forall_mem_cons.mpr ⟨Or.inr ⟨by decide, "java/lang/IndexOutOfBoundsException", hts (.classLink RL 13 "java/lang/IndexOutOfBoundsException") (by decide +kernel), hN _ (by decide +kernel) _ (by decide +kernel) (by decide +kernel)⟩, List.forall_mem_cons.mpr ⟨Or.inr ⟨by decide, "java/lang/IllegalArgumentException", hts (.classLink RL 15 "java/lang/IllegalArgumentException") (by decide +kernel), hN _ (by decide +kernel) _ (by decide +kernel) (by decide +kernel)⟩, fun _ h9 => nomatch h9⟩⟩) (by decide) (by decide) (hts (.classLink RL 17 "java/lang/UnsupportedOperationException") (by decide +kernel)) (va_Nw.use rfl (hE.1 _ (by decide +kernel))) hcell hcv hcl ?_
      refine W.widen (k := 3) (n := 32) (Nat.le_of_ble_eq_true rfl) (Nat.le_of_ble_eq_true rfl) ?_
      refine lv_astore (lv' := [(5, .ref q), (0, .ref h), (1, .int a1), (2, .int a2), (3, .int a3), (4, .ref o)]) hx hb dL_row_30 hl (by decide) rfl (fun ls hl => ?_)
      refine lv_iconst (v := 3) hx hb dL_row_32 (by decide) ?_
      have hk1 : (hy_krw S a1 a2 a3) = 3 := hk.trans (by decide +kernel)
      exact W.iret (v := 3) hx hb hr (fun t ht hW => ⟨⟨_, (), rfl, hk1.symm, b0, k0, w0, z0, ad0, ca0, f, S, fun q => absurd (hk1.symm.trans q) (by decide), fun _ => rfl, by rw [ht]; exact hP, va_K.moved hW.alike hK, hD⟩, hS.F ht⟩) hS.2.2 dL_row_33
    | j + 3, hj, hk => exact absurd hj (by simp)
set_option maxHeartbeats 4000000 in
set_option maxRecDepth 100000 in
theorem c_L_lid (l : Launch) (D : va_G) (cI cJ cB : ClassId) (h b0 k0 w0 z0 : Nat) (ad0 ca0 : Nat → Nat) (S : hy_S) (o : Nat) (f : Nat → Int64) (hl9 : l.stackTraces = false) (hwf : hy_wf S) (sz : Nat) (a1 : Int32) : Met l yL_lid wsL_lid ({ frames := 9, cells := 1, slots := 6, locals := 153 }) (va_Pc [.ref h, .int a1, .ref o] (hy_IW D cI cJ cB h b0 k0 w0 z0 ad0 ca0 S o f sz)) (va_Qi (fun (r : Int32) (_ : Unit) => r = (hy_kbox a1)) (fun _ => hy_AtO D cI cJ cB h o (hy_zl (hy_vlid S a1)) (hy_ubx S (va_up (hy_bx S) a1.toNatClampNeg (some 0))) S (hy_kbox a1) (va_A (hy_O cJ o f :: hy_W cI cJ cB h b0 k0 w0 z0 ad0 ca0 S) sz)) (va_A (hy_O cJ o f :: hy_W cI cJ cB h b0 k0 w0 z0 ad0 ca0 S) sz)) 1 6 (va_A (hy_O cJ o f :: hy_W cI cJ cB h b0 k0 w0 z0 ad0 ca0 S) sz) := by
  refine va_MetW (cc := cL_lid) (maxL := 4) (ret := some .int) (hh := [(0, 16, 19, 13)]) (by decide) rfl ?_
  intro p e s m args below meth c s₁ B hml hv
  obtain ⟨rfl, hsz, hP, hK, hD0, hE, hZ, hN⟩ := hv
  have hx := B.exec
  have hb := B.bytes
  have hr := B.returns
  have hts := atoms_spec (ws := wsL_lid) B.pre
  have hown : s.vm.findClass RL = some m.cls := findClass_of_methodNamed B.named
  have hlocks := B.notSynchronized
  have htab := vx_table (x := yL_lid) B (hts _ List.mem_cons_self)
  subst hsz
  have hl := lv_entry ([.ref h, .int a1, .ref o]) (n := 4) (Nat.le_of_ble_eq_true rfl)
  rw [lg_entry_eq]
  generalize (lg_sl ([.ref h, .int a1, .ref o]) ++ List.replicate (4 - (lg_sl ([.ref h, .int a1, .ref o])).length) Slot.unset).toArray = ls at hl ⊢
  have hl : lv_has ls 4 [(0, .ref h), (1, .int a1), (2, .ref o)] := hl
  refine lv_aload_n hx hb dL_lid_0 rfl (lv_at hl 2 rfl) ?_
  refine lv_iconst (v := 0) hx hb dL_lid_1 (by decide) ?_
  refine lv_aload_n hx hb dL_lid_2 rfl (lv_at hl 0 rfl) ?_
  refine lv_iload_n hx hb dL_lid_3 rfl (lv_at hl 1 rfl) ?_
  have hPw : va_P D vwCl (hy_W cI cJ cB h b0 k0 w0 z0 ad0 ca0 S) s.heap := fun k9 q9 h9 => hP (k9 + 1) q9 h9
  have hDw : va_D (fun _ => True) (hy_W cI cJ cB h b0 k0 w0 z0 ad0 ca0 S) := (hy_left (hy_swap (X := [hy_O cJ o f]) (Y := hy_W cI cJ cB h b0 k0 w0 z0 ad0 ca0 S) hP hD0).1 (hy_swap (X := [hy_O cJ o f]) (Y := hy_W cI cJ cB h b0 k0 w0 z0 ad0 ca0 S) hP hD0).2).2
  refine hy_wcall (L := ["java/lang/IndexOutOfBoundsException"]) (K := (hy_kbox a1)) (V := .int (hy_vlid S a1)) (S2 := (hy_ubx S (va_up (hy_bx S) a1.toNatClampNeg (some 0)))) (vx_runV (As := [.int a1]) (rest := [.int 0, .ref o]) ⟨hx, hb, hml, hown, hts⟩ (c_X1_lid l D cI cJ cB h b0 k0 w0 z0 ad0 ca0 S hl9 hwf s.heap.size a1) (cwV 1 hts gL_lid_X1_lid rfl rfl rfl (by decide +kernel) ⟨Nat.le_of_ble_eq_true rfl, Nat.le_of_ble_eq_true rfl⟩) ⟨hy_IP_blind, va_recv hK hPw (ci := 1) (q0 := 0) rfl rfl, fun U hU hW => ⟨rfl, by rw [hU], hy_IX_at hU hW hPw hK hE hZ, hDw⟩⟩ rfl rfl hl.1 rfl (lv_room (Nat.le_of_ble_eq_true rfl)) dL_lid_4 ⟨Nat.le_of_ble_eq_true rfl, Nat.le_of_ble_eq_true rfl⟩) (fun st v t q9 => hy_Qi (fun r u q => q) q9) hP hD0 (fun b k w z ad ca H locs hk hP hD hS => ?_) (fun E ce q j H locs hj hk hP hD hS hcell hcv hcl => ?_)
  · refine W.widen (k := 1) (n := 6) (Nat.le_of_ble_eq_true rfl) (Nat.le_of_ble_eq_true rfl) ?_
    refine lv_if_eq (tgt := 14) hx hb dL_lid_7 (by decide) (fun c0 => ?_) (fun c0 => ?_)
    · refine lv_lconst (v := 0) hx hb dL_lid_14 (by decide) ?_
      refine va_last hx hb hK hP hD hS 0 1 rfl rfl (vp_in_nI (n := 0) (by decide) (by decide)) dL_lid_15 (fun H locs hP hD hS => ?_)
      have hP : va_P D vwCl (hy_O cJ o (vp_updL f 0 0) :: hy_W cI cJ cB h b k w z ad ca (hy_ubx S (va_up (hy_bx S) a1.toNatClampNeg (some 0)))) H := hP
      have hD : va_D (va_A (hy_O cJ o f :: hy_W cI cJ cB h b0 k0 w0 z0 ad0 ca0 S) s.heap.size) (hy_O cJ o (vp_updL f 0 0) :: hy_W cI cJ cB h b k w z ad ca (hy_ubx S (va_up (hy_bx S) a1.toNatClampNeg (some 0)))) := hD
      refine lv_goto (tgt := 22) hx hb dL_lid_16 (by decide) ?_
      refine lv_iconst (v := 0) hx hb dL_lid_22 (by decide) ?_
      exact W.iret (v := 0) hx hb hr (fun t ht hW => ⟨⟨_, (), rfl, hk.symm, b, k, w, z, ad, ca, vp_updL f 0 0, (hy_ubx S (va_up (hy_bx S) a1.toNatClampNeg (some 0))), fun _ => ⟨(if_pos rfl : _ = (0 : Int64)).trans (if_pos c0).symm, rfl⟩, fun q => absurd hk q, by rw [ht]; exact hP, va_K.moved hW.alike hK, hD⟩, hS.F ht⟩) hS.2.2 dL_lid_23
    · refine lv_lconst (v := 1) hx hb dL_lid_10 (by decide) ?_
      refine lv_goto (tgt := 15) hx hb dL_lid_11 (by decide) ?_
      refine va_last hx hb hK hP hD hS 0 1 rfl rfl (vp_in_nI (n := 0) (by decide) (by decide)) dL_lid_15 (fun H locs hP hD hS => ?_)
      have hP : va_P D vwCl (hy_O cJ o (vp_updL f 0 1) :: hy_W cI cJ cB h b k w z ad ca (hy_ubx S (va_up (hy_bx S) a1.toNatClampNeg (some 0)))) H := hP
      have hD : va_D (va_A (hy_O cJ o f :: hy_W cI cJ cB h b0 k0 w0 z0 ad0 ca0 S) s.heap.size) (hy_O cJ o (vp_updL f 0 1) :: hy_W cI cJ cB h b k w z ad ca (hy_ubx S (va_up (hy_bx S) a1.toNatClampNeg (some 0)))) := hD
      refine lv_goto (tgt := 22) hx hb dL_lid_16 (by decide) ?_
      refine lv_iconst (v := 0) hx hb dL_lid_22 (by decide) ?_
      exact W.iret (v := 0) hx hb hr (fun t ht hW => ⟨⟨_, (), rfl, hk.symm, b, k, w, z, ad, ca, vp_updL f 0 1, (hy_ubx S (va_up (hy_bx S) a1.toNatClampNeg (some 0))), fun _ => ⟨(if_pos rfl : _ = (1 : Int64)).trans (if_neg c0).symm, rfl⟩, fun q => absurd hk q, by rw [ht]; exact hP, va_K.moved hW.alike hK, hD⟩, hS.F ht⟩) hS.2.2 dL_lid_23
  · match j, hj, hk with
    | 0, hj, hk =>
      cases Option.some.inj hj
      refine vx_catch (name := "java/lang/IndexOutOfBoundsException") hown [] ⟨0, 16, 19, 13⟩ [] htab (fun _ h9 => nomatch h9) (by decide) (by decide) (hts (.classLink RL 13 "java/lang/IndexOutOfBoundsException") (by decide +kernel)) (va_Nw.use rfl (hE.1 _ (by decide +kernel))) hcell hcv hcl ?_
      refine W.widen (k := 1) (n := 6) (Nat.le_of_ble_eq_true rfl) (Nat.le_of_ble_eq_true rfl) ?_
      refine lv_astore_n (lv' := [(3, .ref q), (0, .ref h), (1, .int a1), (2, .ref o)]) hx hb dL_lid_19 rfl hl (by decide) rfl (fun ls hl => ?_)
      refine lv_iconst (v := 1) hx hb dL_lid_20 (by decide) ?_
      have hk1 : (hy_kbox a1) = 1 := hk.trans (by decide +kernel)
      exact W.iret (v := 1) hx hb hr (fun t ht hW => ⟨⟨_, (), rfl, hk1.symm, b0, k0, w0, z0, ad0, ca0, f, S, fun q => absurd (hk1.symm.trans q) (by decide), fun _ => rfl, by rw [ht]; exact hP, va_K.moved hW.alike hK, hD⟩, hS.F ht⟩) hS.2.2 dL_lid_21
    | j + 1, hj, hk => exact absurd hj (by simp)
set_option maxHeartbeats 4000000 in
set_option maxRecDepth 100000 in
theorem c_L_clear (l : Launch) (D : va_G) (cI cJ cB : ClassId) (h b0 k0 w0 z0 : Nat) (ad0 ca0 : Nat → Nat) (S : hy_S) (o : Nat) (f : Nat → Int64) (hl9 : l.stackTraces = false) (hwf : hy_wf S) (sz : Nat) (a1 : Int32) : Met l yL_clear wsL_clear ({ frames := 9, cells := 1, slots := 6, locals := 153 }) (va_Pc [.ref h, .int a1, .ref o] (hy_IW D cI cJ cB h b0 k0 w0 z0 ad0 ca0 S o f sz)) (va_Qi (fun (r : Int32) (_ : Unit) => r = (hy_kbox a1)) (fun _ => hy_AtO D cI cJ cB h o (hy_zl (hy_vclear S a1)) (hy_ubx S (va_up (hy_bx S) a1.toNatClampNeg none)) S (hy_kbox a1) (va_A (hy_O cJ o f :: hy_W cI cJ cB h b0 k0 w0 z0 ad0 ca0 S) sz)) (va_A (hy_O cJ o f :: hy_W cI cJ cB h b0 k0 w0 z0 ad0 ca0 S) sz)) 1 6 (va_A (hy_O cJ o f :: hy_W cI cJ cB h b0 k0 w0 z0 ad0 ca0 S) sz) := by
  refine va_MetW (cc := cL_clear) (maxL := 4) (ret := some .int) (hh := [(0, 16, 19, 13)]) (by decide) rfl ?_
  intro p e s m args below meth c s₁ B hml hv
  obtain ⟨rfl, hsz, hP, hK, hD0, hE, hZ, hN⟩ := hv
  have hx := B.exec
  have hb := B.bytes
  have hr := B.returns
  have hts := atoms_spec (ws := wsL_clear) B.pre
  have hown : s.vm.findClass RL = some m.cls := findClass_of_methodNamed B.named
  have hlocks := B.notSynchronized
  have htab := vx_table (x := yL_clear) B (hts _ List.mem_cons_self)
  subst hsz
  have hl := lv_entry ([.ref h, .int a1, .ref o]) (n := 4) (Nat.le_of_ble_eq_true rfl)
  rw [lg_entry_eq]
  generalize (lg_sl ([.ref h, .int a1, .ref o]) ++ List.replicate (4 - (lg_sl ([.ref h, .int a1, .ref o])).length) Slot.unset).toArray = ls at hl ⊢
  have hl : lv_has ls 4 [(0, .ref h), (1, .int a1), (2, .ref o)] := hl
  refine lv_aload_n hx hb dL_clear_0 rfl (lv_at hl 2 rfl) ?_
  refine lv_iconst (v := 0) hx hb dL_clear_1 (by decide) ?_
  refine lv_aload_n hx hb dL_clear_2 rfl (lv_at hl 0 rfl) ?_
  refine lv_iload_n hx hb dL_clear_3 rfl (lv_at hl 1 rfl) ?_
  have hPw : va_P D vwCl (hy_W cI cJ cB h b0 k0 w0 z0 ad0 ca0 S) s.heap := fun k9 q9 h9 => hP (k9 + 1) q9 h9
  have hDw : va_D (fun _ => True) (hy_W cI cJ cB h b0 k0 w0 z0 ad0 ca0 S) := (hy_left (hy_swap (X := [hy_O cJ o f]) (Y := hy_W cI cJ cB h b0 k0 w0 z0 ad0 ca0 S) hP hD0).1 (hy_swap (X := [hy_O cJ o f]) (Y := hy_W cI cJ cB h b0 k0 w0 z0 ad0 ca0 S) hP hD0).2).2
  refine hy_wcall (L := ["java/lang/IndexOutOfBoundsException"]) (K := (hy_kbox a1)) (V := .int (hy_vclear S a1)) (S2 := (hy_ubx S (va_up (hy_bx S) a1.toNatClampNeg none))) (vx_runV (As := [.int a1]) (rest := [.int 0, .ref o]) ⟨hx, hb, hml, hown, hts⟩ (c_X1_clear l D cI cJ cB h b0 k0 w0 z0 ad0 ca0 S hl9 hwf s.heap.size a1) (cwV 1 hts gL_clear_X1_clear rfl rfl rfl (by decide +kernel) ⟨Nat.le_of_ble_eq_true rfl, Nat.le_of_ble_eq_true rfl⟩) ⟨hy_IP_blind, va_recv hK hPw (ci := 1) (q0 := 0) rfl rfl, fun U hU hW => ⟨rfl, by rw [hU], hy_IX_at hU hW hPw hK hE hZ, hDw⟩⟩ rfl rfl hl.1 rfl (lv_room (Nat.le_of_ble_eq_true rfl)) dL_clear_4 ⟨Nat.le_of_ble_eq_true rfl, Nat.le_of_ble_eq_true rfl⟩) (fun st v t q9 => hy_Qi (fun r u q => q) q9) hP hD0 (fun b k w z ad ca H locs hk hP hD hS => ?_) (fun E ce q j H locs hj hk hP hD hS hcell hcv hcl => ?_)
  · refine W.widen (k := 1) (n := 6) (Nat.le_of_ble_eq_true rfl) (Nat.le_of_ble_eq_true rfl) ?_
    refine lv_if_eq (tgt := 14) hx hb dL_clear_7 (by decide) (fun c0 => ?_) (fun c0 => ?_)
    · refine lv_lconst (v := 0) hx hb dL_clear_14 (by decide) ?_
      refine va_last hx hb hK hP hD hS 0 1 rfl rfl (vp_in_nI (n := 0) (by decide) (by decide)) dL_clear_15 (fun H locs hP hD hS => ?_)
      have hP : va_P D vwCl (hy_O cJ o (vp_updL f 0 0) :: hy_W cI cJ cB h b k w z ad ca (hy_ubx S (va_up (hy_bx S) a1.toNatClampNeg none))) H := hP
      have hD : va_D (va_A (hy_O cJ o f :: hy_W cI cJ cB h b0 k0 w0 z0 ad0 ca0 S) s.heap.size) (hy_O cJ o (vp_updL f 0 0) :: hy_W cI cJ cB h b k w z ad ca (hy_ubx S (va_up (hy_bx S) a1.toNatClampNeg none))) := hD
      refine lv_goto (tgt := 22) hx hb dL_clear_16 (by decide) ?_
      refine lv_iconst (v := 0) hx hb dL_clear_22 (by decide) ?_
      exact W.iret (v := 0) hx hb hr (fun t ht hW => ⟨⟨_, (), rfl, hk.symm, b, k, w, z, ad, ca, vp_updL f 0 0, (hy_ubx S (va_up (hy_bx S) a1.toNatClampNeg none)), fun _ => ⟨(if_pos rfl : _ = (0 : Int64)).trans (if_pos c0).symm, rfl⟩, fun q => absurd hk q, by rw [ht]; exact hP, va_K.moved hW.alike hK, hD⟩, hS.F ht⟩) hS.2.2 dL_clear_23
    · refine lv_lconst (v := 1) hx hb dL_clear_10 (by decide) ?_
      refine lv_goto (tgt := 15) hx hb dL_clear_11 (by decide) ?_
      refine va_last hx hb hK hP hD hS 0 1 rfl rfl (vp_in_nI (n := 0) (by decide) (by decide)) dL_clear_15 (fun H locs hP hD hS => ?_)
      have hP : va_P D vwCl (hy_O cJ o (vp_updL f 0 1) :: hy_W cI cJ cB h b k w z ad ca (hy_ubx S (va_up (hy_bx S) a1.toNatClampNeg none))) H := hP
      have hD : va_D (va_A (hy_O cJ o f :: hy_W cI cJ cB h b0 k0 w0 z0 ad0 ca0 S) s.heap.size) (hy_O cJ o (vp_updL f 0 1) :: hy_W cI cJ cB h b k w z ad ca (hy_ubx S (va_up (hy_bx S) a1.toNatClampNeg none))) := hD
      refine lv_goto (tgt := 22) hx hb dL_clear_16 (by decide) ?_
      refine lv_iconst (v := 0) hx hb dL_clear_22 (by decide) ?_
      exact W.iret (v := 0) hx hb hr (fun t ht hW => ⟨⟨_, (), rfl, hk.symm, b, k, w, z, ad, ca, vp_updL f 0 1, (hy_ubx S (va_up (hy_bx S) a1.toNatClampNeg none)), fun _ => ⟨(if_pos rfl : _ = (1 : Int64)).trans (if_neg c0).symm, rfl⟩, fun q => absurd hk q, by rw [ht]; exact hP, va_K.moved hW.alike hK, hD⟩, hS.F ht⟩) hS.2.2 dL_clear_23
  · match j, hj, hk with
    | 0, hj, hk =>
      cases Option.some.inj hj
      refine vx_catch (name := "java/lang/IndexOutOfBoundsException") hown [] ⟨0, 16, 19, 13⟩ [] htab (fun _ h9 => nomatch h9) (by decide) (by decide) (hts (.classLink RL 13 "java/lang/IndexOutOfBoundsException") (by decide +kernel)) (va_Nw.use rfl (hE.1 _ (by decide +kernel))) hcell hcv hcl ?_
      refine W.widen (k := 1) (n := 6) (Nat.le_of_ble_eq_true rfl) (Nat.le_of_ble_eq_true rfl) ?_
      refine lv_astore_n (lv' := [(3, .ref q), (0, .ref h), (1, .int a1), (2, .ref o)]) hx hb dL_clear_19 rfl hl (by decide) rfl (fun ls hl => ?_)
      refine lv_iconst (v := 1) hx hb dL_clear_20 (by decide) ?_
      have hk1 : (hy_kbox a1) = 1 := hk.trans (by decide +kernel)
      exact W.iret (v := 1) hx hb hr (fun t ht hW => ⟨⟨_, (), rfl, hk1.symm, b0, k0, w0, z0, ad0, ca0, f, S, fun q => absurd (hk1.symm.trans q) (by decide), fun _ => rfl, by rw [ht]; exact hP, va_K.moved hW.alike hK, hD⟩, hS.F ht⟩) hS.2.2 dL_clear_21
    | j + 1, hj, hk => exact absurd hj (by simp)
set_option maxHeartbeats 4000000 in
set_option maxRecDepth 100000 in
theorem c_L_share (l : Launch) (D : va_G) (cI cJ cB : ClassId) (h b0 k0 w0 z0 : Nat) (ad0 ca0 : Nat → Nat) (S : hy_S) (o : Nat) (f : Nat → Int64) (hl9 : l.stackTraces = false) (hwf : hy_wf S) (sz : Nat) (a1 a2 : Int32) : Met l yL_share wsL_share ({ frames := 9, cells := 2, slots := 12, locals := 154 }) (va_Pc [.ref h, .int a1, .int a2, .ref o] (hy_IW D cI cJ cB h b0 k0 w0 z0 ad0 ca0 S o f sz)) (va_Qi (fun (r : Int32) (_ : Unit) => r = (hy_k2b a1 a2)) (fun _ => hy_AtO D cI cJ cB h o ((hy_vhold S a2).toInt64) (hy_sshare S a1 a2) S (hy_k2b a1 a2) (va_A (hy_O cJ o f :: hy_W cI cJ cB h b0 k0 w0 z0 ad0 ca0 S) sz)) (va_A (hy_O cJ o f :: hy_W cI cJ cB h b0 k0 w0 z0 ad0 ca0 S) sz)) 2 12 (va_A (hy_O cJ o f :: hy_W cI cJ cB h b0 k0 w0 z0 ad0 ca0 S) sz) := by
  refine va_MetW (cc := cL_share) (maxL := 5) (ret := some .int) (hh := [(0, 10, 13, 13)]) (by decide) rfl ?_
  intro p e s m args below meth c s₁ B hml hv
  obtain ⟨rfl, hsz, hP, hK, hD0, hE, hZ, hN⟩ := hv
  have hx := B.exec
  have hb := B.bytes
  have hr := B.returns
  have hts := atoms_spec (ws := wsL_share) B.pre
  have hown : s.vm.findClass RL = some m.cls := findClass_of_methodNamed B.named
  have hlocks := B.notSynchronized
  have htab := vx_table (x := yL_share) B (hts _ List.mem_cons_self)
  subst hsz
  have hl := lv_entry ([.ref h, .int a1, .int a2, .ref o]) (n := 5) (Nat.le_of_ble_eq_true rfl)
  rw [lg_entry_eq]
  generalize (lg_sl ([.ref h, .int a1, .int a2, .ref o]) ++ List.replicate (5 - (lg_sl ([.ref h, .int a1, .int a2, .ref o])).length) Slot.unset).toArray = ls at hl ⊢
  have hl : lv_has ls 5 [(0, .ref h), (1, .int a1), (2, .int a2), (3, .ref o)] := hl
  refine lv_aload_n hx hb dL_share_0 rfl (lv_at hl 3 rfl) ?_
  refine lv_iconst (v := 0) hx hb dL_share_1 (by decide) ?_
  refine lv_aload_n hx hb dL_share_2 rfl (lv_at hl 0 rfl) ?_
  refine lv_iload_n hx hb dL_share_3 rfl (lv_at hl 1 rfl) ?_
  refine lv_iload_n hx hb dL_share_4 rfl (lv_at hl 2 rfl) ?_
  have hPw : va_P D vwCl (hy_W cI cJ cB h b0 k0 w0 z0 ad0 ca0 S) s.heap := fun k9 q9 h9 => hP (k9 + 1) q9 h9
  have hDw : va_D (fun _ => True) (hy_W cI cJ cB h b0 k0 w0 z0 ad0 ca0 S) := (hy_left (hy_swap (X := [hy_O cJ o f]) (Y := hy_W cI cJ cB h b0 k0 w0 z0 ad0 ca0 S) hP hD0).1 (hy_swap (X := [hy_O cJ o f]) (Y := hy_W cI cJ cB h b0 k0 w0 z0 ad0 ca0 S) hP hD0).2).2
  refine hy_wcall (L := ["java/lang/IndexOutOfBoundsException"]) (K := (hy_k2b a1 a2)) (V := .int (hy_vhold S a2)) (S2 := (hy_sshare S a1 a2)) (vx_runV (As := [.int a1, .int a2]) (rest := [.int 0, .ref o]) ⟨hx, hb, hml, hown, hts⟩ (c_X1_share l D cI cJ cB h b0 k0 w0 z0 ad0 ca0 S hl9 hwf s.heap.size a1 a2) (cwV 2 hts gL_share_X1_share rfl rfl rfl (by decide +kernel) ⟨Nat.le_of_ble_eq_true rfl, Nat.le_of_ble_eq_true rfl⟩) ⟨hy_IP_blind, va_recv hK hPw (ci := 1) (q0 := 0) rfl rfl, fun U hU hW => ⟨rfl, by rw [hU], hy_IX_at hU hW hPw hK hE hZ, hDw⟩⟩ rfl rfl hl.1 rfl (lv_room (Nat.le_of_ble_eq_true rfl)) dL_share_5 ⟨Nat.le_of_ble_eq_true rfl, Nat.le_of_ble_eq_true rfl⟩) (fun st v t q9 => hy_Qi (fun r u q => q) q9) hP hD0 (fun b k w z ad ca H locs hk hP hD hS => ?_) (fun E ce q j H locs hj hk hP hD hS hcell hcv hcl => ?_)
  · refine W.widen (k := 2) (n := 12) (Nat.le_of_ble_eq_true rfl) (Nat.le_of_ble_eq_true rfl) ?_
    refine lv_i2l (v := ((hy_vhold S a2).toInt64)) hx hb dL_share_8 rfl ?_
    refine va_last hx hb hK hP hD hS 0 1 rfl rfl (vp_in_nI (n := 0) (by decide) (by decide)) dL_share_9 (fun H locs hP hD hS => ?_)
    have hP : va_P D vwCl (hy_O cJ o (vp_updL f 0 ((hy_vhold S a2).toInt64)) :: hy_W cI cJ cB h b k w z ad ca (hy_sshare S a1 a2)) H := hP
    have hD : va_D (va_A (hy_O cJ o f :: hy_W cI cJ cB h b0 k0 w0 z0 ad0 ca0 S) s.heap.size) (hy_O cJ o (vp_updL f 0 ((hy_vhold S a2).toInt64)) :: hy_W cI cJ cB h b k w z ad ca (hy_sshare S a1 a2)) := hD
    refine lv_goto (tgt := 17) hx hb dL_share_10 (by decide) ?_
    refine lv_iconst (v := 0) hx hb dL_share_17 (by decide) ?_
    exact W.iret (v := 0) hx hb hr (fun t ht hW => ⟨⟨_, (), rfl, hk.symm, b, k, w, z, ad, ca, vp_updL f 0 ((hy_vhold S a2).toInt64), (hy_sshare S a1 a2), fun _ => ⟨if_pos rfl, rfl⟩, fun q => absurd hk q, by rw [ht]; exact hP, va_K.moved hW.alike hK, hD⟩, hS.F ht⟩) hS.2.2 dL_share_18
  · match j, hj, hk with
    | 0, hj, hk =>
      cases Option.some.inj hj
      refine vx_catch (name := "java/lang/IndexOutOfBoundsException") hown [] ⟨0, 10, 13, 13⟩ [] htab (fun _ h9 => nomatch h9) (by decide) (by decide) (hts (.classLink RL 13 "java/lang/IndexOutOfBoundsException") (by decide +kernel)) (va_Nw.use rfl (hE.1 _ (by decide +kernel))) hcell hcv hcl ?_
      refine W.widen (k := 2) (n := 12) (Nat.le_of_ble_eq_true rfl) (Nat.le_of_ble_eq_true rfl) ?_
      refine lv_astore (lv' := [(4, .ref q), (0, .ref h), (1, .int a1), (2, .int a2), (3, .ref o)]) hx hb dL_share_13 hl (by decide) rfl (fun ls hl => ?_)
      refine lv_iconst (v := 1) hx hb dL_share_15 (by decide) ?_
      have hk1 : (hy_k2b a1 a2) = 1 := hk.trans (by decide +kernel)
      exact W.iret (v := 1) hx hb hr (fun t ht hW => ⟨⟨_, (), rfl, hk1.symm, b0, k0, w0, z0, ad0, ca0, f, S, fun q => absurd (hk1.symm.trans q) (by decide), fun _ => rfl, by rw [ht]; exact hP, va_K.moved hW.alike hK, hD⟩, hS.F ht⟩) hS.2.2 dL_share_16
    | j + 1, hj, hk => exact absurd hj (by simp)
set_option maxHeartbeats 4000000 in
set_option maxRecDepth 100000 in
theorem c_L_put (l : Launch) (D : va_G) (cI cJ cB : ClassId) (h b0 k0 w0 z0 : Nat) (ad0 ca0 : Nat → Nat) (S : hy_S) (o : Nat) (f : Nat → Int64) (hl9 : l.stackTraces = false) (hwf : hy_wf S) (sz : Nat) (a1 a2 : Int32) (a3 : Int64) : Met l yL_put wsL_put ({ frames := 9, cells := 2, slots := 12, locals := 158 }) (va_Pc [.ref h, .int a1, .int a2, .long a3, .ref o] (hy_IW D cI cJ cB h b0 k0 w0 z0 ad0 ca0 S o f sz)) (va_Qi (fun (r : Int32) (_ : Unit) => r = (hy_kput S a1 a2)) (fun _ => hy_AtO D cI cJ cB h o (hy_at S a1 a2) (hy_sput S a1 a2 a3) S (hy_kput S a1 a2) (va_A (hy_O cJ o f :: hy_W cI cJ cB h b0 k0 w0 z0 ad0 ca0 S) sz)) (va_A (hy_O cJ o f :: hy_W cI cJ cB h b0 k0 w0 z0 ad0 ca0 S) sz)) 2 12 (va_A (hy_O cJ o f :: hy_W cI cJ cB h b0 k0 w0 z0 ad0 ca0 S) sz) := by
  refine va_MetW (cc := cL_put) (maxL := 7) (ret := some .int) (hh := [(0, 11, 14, 13), (0, 11, 18, 34), (0, 11, 22, 36)]) (by decide) rfl ?_
  intro p e s m args below meth c s₁ B hml hv
  obtain ⟨rfl, hsz, hP, hK, hD0, hE, hZ, hN⟩ := hv
  have hx := B.exec
  have hb := B.bytes
  have hr := B.returns
  have hts := atoms_spec (ws := wsL_put) B.pre
  have hown : s.vm.findClass RL = some m.cls := findClass_of_methodNamed B.named
  have hlocks := B.notSynchronized
  have htab := vx_table (x := yL_put) B (hts _ List.mem_cons_self)
  subst hsz
  have hl := lv_entry ([.ref h, .int a1, .int a2, .long a3, .ref o]) (n := 7) (Nat.le_of_ble_eq_true rfl)
  rw [lg_entry_eq]
  generalize (lg_sl ([.ref h, .int a1, .int a2, .long a3, .ref o]) ++ List.replicate (7 - (lg_sl ([.ref h, .int a1, .int a2, .long a3, .ref o])).length) Slot.unset).toArray = ls at hl ⊢
  have hl : lv_has ls 7 [(0, .ref h), (1, .int a1), (2, .int a2), (3, .long a3), (5, .ref o)] := hl
  refine lv_aload hx hb dL_put_0 (lv_at hl 4 rfl) ?_
  refine lv_iconst (v := 0) hx hb dL_put_2 (by decide) ?_
  refine lv_aload_n hx hb dL_put_3 rfl (lv_at hl 0 rfl) ?_
  refine lv_iload_n hx hb dL_put_4 rfl (lv_at hl 1 rfl) ?_
  refine lv_iload_n hx hb dL_put_5 rfl (lv_at hl 2 rfl) ?_
  refine lv_lload_n hx hb dL_put_6 rfl (lv_at hl 3 rfl) ?_
  have hPw : va_P D vwCl (hy_W cI cJ cB h b0 k0 w0 z0 ad0 ca0 S) s.heap := fun k9 q9 h9 => hP (k9 + 1) q9 h9
  have hDw : va_D (fun _ => True) (hy_W cI cJ cB h b0 k0 w0 z0 ad0 ca0 S) := (hy_left (hy_swap (X := [hy_O cJ o f]) (Y := hy_W cI cJ cB h b0 k0 w0 z0 ad0 ca0 S) hP hD0).1 (hy_swap (X := [hy_O cJ o f]) (Y := hy_W cI cJ cB h b0 k0 w0 z0 ad0 ca0 S) hP hD0).2).2
  refine hy_wcall (L := ["java/lang/IndexOutOfBoundsException", "java/lang/IllegalStateException", "java/util/NoSuchElementException"]) (K := (hy_kput S a1 a2)) (V := .long (hy_at S a1 a2)) (S2 := (hy_sput S a1 a2 a3)) (vx_runV (As := [.int a1, .int a2, .long a3]) (rest := [.int 0, .ref o]) ⟨hx, hb, hml, hown, hts⟩ (c_X1_put l D cI cJ cB h b0 k0 w0 z0 ad0 ca0 S hl9 hwf s.heap.size a1 a2 a3) (cwV 3 hts gL_put_X1_put rfl rfl rfl (by decide +kernel) ⟨Nat.le_of_ble_eq_true rfl, Nat.le_of_ble_eq_true rfl⟩) ⟨hy_IP_blind, va_recv hK hPw (ci := 1) (q0 := 0) rfl rfl, fun U hU hW => ⟨rfl, by rw [hU], hy_IX_at hU hW hPw hK hE hZ, hDw⟩⟩ rfl rfl hl.1 rfl (lv_room (Nat.le_of_ble_eq_true rfl)) dL_put_7 ⟨Nat.le_of_ble_eq_true rfl, Nat.le_of_ble_eq_true rfl⟩) (fun st v t q9 => hy_Ql (fun r u q => q) q9) hP hD0 (fun b k w z ad ca H locs hk hP hD hS => ?_) (fun E ce q j H locs hj hk hP hD hS hcell hcv hcl => ?_)
  · refine W.widen (k := 2) (n := 12) (Nat.le_of_ble_eq_true rfl) (Nat.le_of_ble_eq_true rfl) ?_
    refine va_last hx hb hK hP hD hS 0 1 rfl rfl (vp_in_nI (n := 0) (by decide) (by decide)) dL_put_10 (fun H locs hP hD hS => ?_)
    have hP : va_P D vwCl (hy_O cJ o (vp_updL f 0 (hy_at S a1 a2)) :: hy_W cI cJ cB h b k w z ad ca (hy_sput S a1 a2 a3)) H := hP
    have hD : va_D (va_A (hy_O cJ o f :: hy_W cI cJ cB h b0 k0 w0 z0 ad0 ca0 S) s.heap.size) (hy_O cJ o (vp_updL f 0 (hy_at S a1 a2)) :: hy_W cI cJ cB h b k w z ad ca (hy_sput S a1 a2 a3)) := hD
    refine lv_goto (tgt := 26) hx hb dL_put_11 (by decide) ?_
    refine lv_iconst (v := 0) hx hb dL_put_26 (by decide) ?_
    exact W.iret (v := 0) hx hb hr (fun t ht hW => ⟨⟨_, (), rfl, hk.symm, b, k, w, z, ad, ca, vp_updL f 0 (hy_at S a1 a2), (hy_sput S a1 a2 a3), fun _ => ⟨if_pos rfl, rfl⟩, fun q => absurd hk q, by rw [ht]; exact hP, va_K.moved hW.alike hK, hD⟩, hS.F ht⟩) hS.2.2 dL_put_27
  · match j, hj, hk with
    | 0, hj, hk =>
      cases Option.some.inj hj
      refine vx_catch (name := "java/lang/IndexOutOfBoundsException") hown [] ⟨0, 11, 14, 13⟩ [⟨0, 11, 18, 34⟩, ⟨0, 11, 22, 36⟩] htab (fun _ h9 => nomatch h9) (by decide) (by decide) (hts (.classLink RL 13 "java/lang/IndexOutOfBoundsException") (by decide +kernel)) (va_Nw.use rfl (hE.1 _ (by decide +kernel))) hcell hcv hcl ?_
      refine W.widen (k := 2) (n := 12) (Nat.le_of_ble_eq_true rfl) (Nat.le_of_ble_eq_true rfl) ?_
      refine lv_astore (lv' := [(6, .ref q), (0, .ref h), (1, .int a1), (2, .int a2), (3, .long a3), (5, .ref o)]) hx hb dL_put_14 hl (by decide) rfl (fun ls hl => ?_)
      refine lv_iconst (v := 1) hx hb dL_put_16 (by decide) ?_
      have hk1 : (hy_kput S a1 a2) = 1 := hk.trans (by decide +kernel)
      exact W.iret (v := 1) hx hb hr (fun t ht hW => ⟨⟨_, (), rfl, hk1.symm, b0, k0, w0, z0, ad0, ca0, f, S, fun q => absurd (hk1.symm.trans q) (by decide), fun _ => rfl, by rw [ht]; exact hP, va_K.moved hW.alike hK, hD⟩, hS.F ht⟩) hS.2.2 dL_put_17
    | 1, hj, hk =>
      cases Option.some.inj hj
      refine vx_catch (name := "java/lang/IllegalStateException") hown [⟨0, 11, 14, 13⟩] ⟨0, 11, 18, 34⟩ [⟨0, 11, 22, 36⟩] htab (List.forall_mem_cons.mpr ⟨Or.inr ⟨by decide, "java/lang/IndexOutOfBoundsException", hts (.classLink RL 13 "java/lang/IndexOutOfBoundsException") (by decide +kernel), hN _ (by decide +kernel) _ (by decide +kernel) (by decide +kernel)⟩, fun _ h9 => nomatch h9⟩) (by decide) (by decide) (hts (.classLink RL 34 "java/lang/IllegalStateException") (by decide +kernel)) (va_Nw.use rfl (hE.1 _ (by decide +kernel))) hcell hcv hcl ?_
      refine W.widen (k := 2) (n := 12) (Nat.le_of_ble_eq_true rfl) (Nat.le_of_ble_eq_true rfl) ?_
      refine lv_astore (lv' := [(6, .ref q), (0, .ref h), (1, .int a1), (2, .int a2), (3, .long a3), (5, .ref o)]) hx hb dL_put_18 hl (by decide) rfl (fun ls hl => ?_)
      refine lv_iconst (v := 2) hx hb dL_put_20 (by decide) ?_
      have hk1 : (hy_kput S a1 a2) = 2 := hk.trans (by decide +kernel)
      exact W.iret (v := 2) hx hb hr (fun t ht hW => ⟨⟨_, (), rfl, hk1.symm, b0, k0, w0, z0, ad0, ca0, f, S, fun q => absurd (hk1.symm.trans q) (by decide), fun _ => rfl, by rw [ht]; exact hP, va_K.moved hW.alike hK, hD⟩, hS.F ht⟩) hS.2.2 dL_put_21
    | 2, hj, hk =>
      cases Option.some.inj hj
      refine vx_catch (name := "java/util/NoSuchElementException") hown [⟨0, 11, 14, 13⟩, ⟨0, 11, 18, 34⟩] ⟨0, 11, 22, 36⟩ [] htab (List.forall_mem_cons.mpr ⟨Or.inr ⟨by decide, "java/lang/IndexOutOfBoundsException", hts (.classLink RL 13 "java/lang/IndexOutOfBoundsException") (by decide +kernel), hN _ (by decide +kernel) _ (by decide +kernel) (by decide +kernel)⟩, List.forall_mem_cons.mpr ⟨Or.inr ⟨by decide, "java/lang/IllegalStateException", hts (.classLink RL 34 "java/lang/IllegalStateException") (by decide +kernel), hN _ (by decide +kernel) _ (by decide +kernel) (by decide +kernel)⟩, fun _ h9 => nomatch h9⟩⟩) (by decide) (by decide) (hts (.classLink RL 36 "java/util/NoSuchElementException") (by decide +kernel)) (va_Nw.use rfl (hE.1 _ (by decide +kernel))) hcell hcv hcl ?_
      refine W.widen (k := 2) (n := 12) (Nat.le_of_ble_eq_true rfl) (Nat.le_of_ble_eq_true rfl) ?_
      refine lv_astore (lv' := [(6, .ref q), (0, .ref h), (1, .int a1), (2, .int a2), (3, .long a3), (5, .ref o)]) hx hb dL_put_22 hl (by decide) rfl (fun ls hl => ?_)
      refine lv_iconst (v := 3) hx hb dL_put_24 (by decide) ?_
      have hk1 : (hy_kput S a1 a2) = 3 := hk.trans (by decide +kernel)
      exact W.iret (v := 3) hx hb hr (fun t ht hW => ⟨⟨_, (), rfl, hk1.symm, b0, k0, w0, z0, ad0, ca0, f, S, fun q => absurd (hk1.symm.trans q) (by decide), fun _ => rfl, by rw [ht]; exact hP, va_K.moved hW.alike hK, hD⟩, hS.F ht⟩) hS.2.2 dL_put_25
    | j + 3, hj, hk => exact absurd hj (by simp)
set_option maxHeartbeats 4000000 in
set_option maxRecDepth 100000 in
theorem c_L_lay (l : Launch) (D : va_G) (cI cJ cB : ClassId) (h b0 k0 w0 z0 : Nat) (ad0 ca0 : Nat → Nat) (S : hy_S) (o : Nat) (f : Nat → Int64) (hl9 : l.stackTraces = false) (hwf : hy_wf S) (sz : Nat) (a1 a2 a3 : Int32) : Met l yL_lay wsL_lay ({ frames := 9, cells := 4, slots := 24, locals := 156 }) (va_Pc [.ref h, .int a1, .int a2, .int a3, .ref o] (hy_IW D cI cJ cB h b0 k0 w0 z0 ad0 ca0 S o f sz)) (va_Qi (fun (r : Int32) (_ : Unit) => r = (hy_klay S a1 a2 a3)) (fun _ => hy_AtO D cI cJ cB h o ((hy_vlay S a1 a3).toInt64) (hy_slay S a1 a2 a3) S (hy_klay S a1 a2 a3) (va_A (hy_O cJ o f :: hy_W cI cJ cB h b0 k0 w0 z0 ad0 ca0 S) sz)) (va_A (hy_O cJ o f :: hy_W cI cJ cB h b0 k0 w0 z0 ad0 ca0 S) sz)) 4 24 (va_A (hy_O cJ o f :: hy_W cI cJ cB h b0 k0 w0 z0 ad0 ca0 S) sz) := by
  refine va_MetW (cc := cL_lay) (maxL := 6) (ret := some .int) (hh := [(0, 12, 15, 13), (0, 12, 19, 15), (0, 12, 23, 34), (0, 12, 27, 36), (0, 12, 31, 17)]) (by decide) rfl ?_
  intro p e s m args below meth c s₁ B hml hv
  obtain ⟨rfl, hsz, hP, hK, hD0, hE, hZ, hN⟩ := hv
  have hx := B.exec
  have hb := B.bytes
  have hr := B.returns
  have hts := atoms_spec (ws := wsL_lay) B.pre
  have hown : s.vm.findClass RL = some m.cls := findClass_of_methodNamed B.named
  have hlocks := B.notSynchronized
  have htab := vx_table (x := yL_lay) B (hts _ List.mem_cons_self)
  subst hsz
  have hl := lv_entry ([.ref h, .int a1, .int a2, .int a3, .ref o]) (n := 6) (Nat.le_of_ble_eq_true rfl)
  rw [lg_entry_eq]
  generalize (lg_sl ([.ref h, .int a1, .int a2, .int a3, .ref o]) ++ List.replicate (6 - (lg_sl ([.ref h, .int a1, .int a2, .int a3, .ref o])).length) Slot.unset).toArray = ls at hl ⊢
  have hl : lv_has ls 6 [(0, .ref h), (1, .int a1), (2, .int a2), (3, .int a3), (4, .ref o)] := hl
  refine lv_aload hx hb dL_lay_0 (lv_at hl 4 rfl) ?_
  refine lv_iconst (v := 0) hx hb dL_lay_2 (by decide) ?_
  refine lv_aload_n hx hb dL_lay_3 rfl (lv_at hl 0 rfl) ?_
  refine lv_iload_n hx hb dL_lay_4 rfl (lv_at hl 1 rfl) ?_
  refine lv_iload_n hx hb dL_lay_5 rfl (lv_at hl 2 rfl) ?_
  refine lv_iload_n hx hb dL_lay_6 rfl (lv_at hl 3 rfl) ?_
  have hPw : va_P D vwCl (hy_W cI cJ cB h b0 k0 w0 z0 ad0 ca0 S) s.heap := fun k9 q9 h9 => hP (k9 + 1) q9 h9
  have hDw : va_D (fun _ => True) (hy_W cI cJ cB h b0 k0 w0 z0 ad0 ca0 S) := (hy_left (hy_swap (X := [hy_O cJ o f]) (Y := hy_W cI cJ cB h b0 k0 w0 z0 ad0 ca0 S) hP hD0).1 (hy_swap (X := [hy_O cJ o f]) (Y := hy_W cI cJ cB h b0 k0 w0 z0 ad0 ca0 S) hP hD0).2).2
  refine hy_wcall (L := ["java/lang/IndexOutOfBoundsException", "java/lang/IllegalArgumentException", "java/lang/IllegalStateException", "java/util/NoSuchElementException", "java/lang/UnsupportedOperationException"]) (K := (hy_klay S a1 a2 a3)) (V := .int (hy_vlay S a1 a3)) (S2 := (hy_slay S a1 a2 a3)) (vx_runV (As := [.int a1, .int a2, .int a3]) (rest := [.int 0, .ref o]) ⟨hx, hb, hml, hown, hts⟩ (c_X1_lay l D cI cJ cB h b0 k0 w0 z0 ad0 ca0 S hl9 hwf s.heap.size a1 a2 a3) (cwV 3 hts gL_lay_X1_lay rfl rfl rfl (by decide +kernel) ⟨Nat.le_of_ble_eq_true rfl, Nat.le_of_ble_eq_true rfl⟩) ⟨hy_IP_blind, va_recv hK hPw (ci := 1) (q0 := 0) rfl rfl, fun U hU hW => ⟨rfl, by rw [hU], hy_IX_at hU hW hPw hK hE hZ, hDw⟩⟩ rfl rfl hl.1 rfl (lv_room (Nat.le_of_ble_eq_true rfl)) dL_lay_7 ⟨Nat.le_of_ble_eq_true rfl, Nat.le_of_ble_eq_true rfl⟩) (fun st v t q9 => hy_Qi (fun r u q => q) q9) hP hD0 (fun b k w z ad ca H locs hk hP hD hS => ?_) (fun E ce q j H locs hj hk hP hD hS hcell hcv hcl => ?_)
  · refine W.widen (k := 4) (n := 24) (Nat.le_of_ble_eq_true rfl) (Nat.le_of_ble_eq_true rfl) ?_
    refine lv_i2l (v := ((hy_vlay S a1 a3).toInt64)) hx hb dL_lay_10 rfl ?_
    refine va_last hx hb hK hP hD hS 0 1 rfl rfl (vp_in_nI (n := 0) (by decide) (by decide)) dL_lay_11 (fun H locs hP hD hS => ?_)
    have hP : va_P D vwCl (hy_O cJ o (vp_updL f 0 ((hy_vlay S a1 a3).toInt64)) :: hy_W cI cJ cB h b k w z ad ca (hy_slay S a1 a2 a3)) H := hP
    have hD : va_D (va_A (hy_O cJ o f :: hy_W cI cJ cB h b0 k0 w0 z0 ad0 ca0 S) s.heap.size) (hy_O cJ o (vp_updL f 0 ((hy_vlay S a1 a3).toInt64)) :: hy_W cI cJ cB h b k w z ad ca (hy_slay S a1 a2 a3)) := hD
    refine lv_goto (tgt := 35) hx hb dL_lay_12 (by decide) ?_
    refine lv_iconst (v := 0) hx hb dL_lay_35 (by decide) ?_
    exact W.iret (v := 0) hx hb hr (fun t ht hW => ⟨⟨_, (), rfl, hk.symm, b, k, w, z, ad, ca, vp_updL f 0 ((hy_vlay S a1 a3).toInt64), (hy_slay S a1 a2 a3), fun _ => ⟨if_pos rfl, rfl⟩, fun q => absurd hk q, by rw [ht]; exact hP, va_K.moved hW.alike hK, hD⟩, hS.F ht⟩) hS.2.2 dL_lay_36
  · match j, hj, hk with
    | 0, hj, hk =>
      cases Option.some.inj hj
      refine vx_catch (name := "java/lang/IndexOutOfBoundsException") hown [] ⟨0, 12, 15, 13⟩ [⟨0, 12, 19, 15⟩, ⟨0, 12, 23, 34⟩, ⟨0, 12, 27, 36⟩, ⟨0, 12, 31, 17⟩] htab (fun _ h9 => nomatch h9) (by decide) (by decide) (hts (.classLink RL 13 "java/lang/IndexOutOfBoundsException") (by decide +kernel)) (va_Nw.use rfl (hE.1 _ (by decide +kernel))) hcell hcv hcl ?_
      refine W.widen (k := 4) (n := 24) (Nat.le_of_ble_eq_true rfl) (Nat.le_of_ble_eq_true rfl) ?_
      refine lv_astore (lv' := [(5, .ref q), (0, .ref h), (1, .int a1), (2, .int a2), (3, .int a3), (4, .ref o)]) hx hb dL_lay_15 hl (by decide) rfl (fun ls hl => ?_)
      refine lv_iconst (v := 1) hx hb dL_lay_17 (by decide) ?_
      have hk1 : (hy_klay S a1 a2 a3) = 1 := hk.trans (by decide +kernel)
      exact W.iret (v := 1) hx hb hr (fun t ht hW => ⟨⟨_, (), rfl, hk1.symm, b0, k0, w0, z0, ad0, ca0, f, S, fun q => absurd (hk1.symm.trans q) (by decide), fun _ => rfl, by rw [ht]; exact hP, va_K.moved hW.alike hK, hD⟩, hS.F ht⟩) hS.2.2 dL_lay_18
    | 1, hj, hk =>
      cases Option.some.inj hj
      refine vx_catch (name := "java/lang/IllegalArgumentException") hown [⟨0, 12, 15, 13⟩] ⟨0, 12, 19, 15⟩ [⟨0, 12, 23, 34⟩, ⟨0, 12, 27, 36⟩, ⟨0, 12, 31, 17⟩] htab (List.forall_mem_cons.mpr ⟨Or.inr ⟨by decide, "java/lang/IndexOutOfBoundsException", hts (.classLink RL 13 "java/lang/IndexOutOfBoundsException") (by decide +kernel), hN _ (by decide +kernel) _ (by decide +kernel) (by decide +kernel)⟩, fun _ h9 => nomatch h9⟩) (by decide) (by decide) (hts (.classLink RL 15 "java/lang/IllegalArgumentException") (by decide +kernel)) (va_Nw.use rfl (hE.1 _ (by decide +kernel))) hcell hcv hcl ?_
      refine W.widen (k := 4) (n := 24) (Nat.le_of_ble_eq_true rfl) (Nat.le_of_ble_eq_true rfl) ?_
      refine lv_astore (lv' := [(5, .ref q), (0, .ref h), (1, .int a1), (2, .int a2), (3, .int a3), (4, .ref o)]) hx hb dL_lay_19 hl (by decide) rfl (fun ls hl => ?_)
      refine lv_iconst (v := 2) hx hb dL_lay_21 (by decide) ?_
      have hk1 : (hy_klay S a1 a2 a3) = 2 := hk.trans (by decide +kernel)
      exact W.iret (v := 2) hx hb hr (fun t ht hW => ⟨⟨_, (), rfl, hk1.symm, b0, k0, w0, z0, ad0, ca0, f, S, fun q => absurd (hk1.symm.trans q) (by decide), fun _ => rfl, by rw [ht]; exact hP, va_K.moved hW.alike hK, hD⟩, hS.F ht⟩) hS.2.2 dL_lay_22
    | 2, hj, hk =>
      cases Option.some.inj hj
      refine vx_catch (name := "java/lang/IllegalStateException") hown [⟨0, 12, 15, 13⟩, ⟨0, 12, 19, 15⟩] ⟨0, 12, 23, 34⟩ [⟨0, 12, 27, 36⟩, ⟨0, 12, 31, 17⟩] htab (List.forall_mem_cons.mpr ⟨Or.inr ⟨by decide, "java/lang/IndexOutOfBoundsException", hts (.classLink RL 13 "java/lang/IndexOutOfBoundsException") (by decide +kernel), hN _ (by decide +kernel) _ (by decide +kernel) (by decide +kernel)⟩, List.forall_mem_cons.mpr ⟨Or.inr ⟨by decide, "java/lang/IllegalArgumentException", hts (.classLink RL 15 "java/lang/IllegalArgumentException") (by decide +kernel), hN _ (by decide +kernel) _ (by decide +kernel) (by decide +kernel)⟩, fun _ h9 => nomatch h9⟩⟩) (by decide) (by decide) (hts (.classLink RL 34 "java/lang/IllegalStateException") (by decide +kernel)) (va_Nw.use rfl (hE.1 _ (by decide +kernel))) hcell hcv hcl ?_
      refine W.widen (k := 4) (n := 24) (Nat.le_of_ble_eq_true rfl) (Nat.le_of_ble_eq_true rfl) ?_
      refine lv_astore (lv' := [(5, .ref q), (0, .ref h), (1, .int a1), (2, .int a2), (3, .int a3), (4, .ref o)]) hx hb dL_lay_23 hl (by decide) rfl (fun ls hl => ?_)
      refine lv_iconst (v := 3) hx hb dL_lay_25 (by decide) ?_
      have hk1 : (hy_klay S a1 a2 a3) = 3 := hk.trans (by decide +kernel)
      exact W.iret (v := 3) hx hb hr (fun t ht hW => ⟨⟨_, (), rfl, hk1.symm, b0, k0, w0, z0, ad0, ca0, f, S, fun q => absurd (hk1.symm.trans q) (by decide), fun _ => rfl, by rw [ht]; exact hP, va_K.moved hW.alike hK, hD⟩, hS.F ht⟩) hS.2.2 dL_lay_26
    | 3, hj, hk =>
      cases Option.some.inj hj
      refine vx_catch (name := "java/util/NoSuchElementException") hown [⟨0, 12, 15, 13⟩, ⟨0, 12, 19, 15⟩, ⟨0, 12, 23, 34⟩] ⟨0, 12, 27, 36⟩ [⟨0, 12, 31, 17⟩] htab (List.forall_mem_cons.mpr ⟨Or.inr ⟨by decide, "java/lang/IndexOutOfBoundsException", hts (.classLink RL 13 "java/lang/IndexOutOfBoundsException") (by decide +kernel), hN _ (by decide +kernel) _ (by decide +kernel) (by decide +kernel)⟩, List.forall_mem_cons.mpr ⟨Or.inr ⟨by decide, "java/lang/IllegalArgumentException", hts (.classLink RL 15 "java/lang/IllegalArgumentException") (by decide +kernel), hN _ (by decide +kernel) _ (by decide +kernel) (by decide +kernel)⟩, List.forall_mem_cons.mpr ⟨Or.inr ⟨by decide, "java/lang/IllegalStateException", hts (.classLink RL 34 "java/lang/IllegalStateException") (by decide +kernel), hN _ (by decide +kernel) _ (by decide +kernel) (by decide +kernel)⟩, fun _ h9 => nomatch h9⟩⟩⟩) (by decide) (by decide) (hts (.classLink RL 36 "java/util/NoSuchElementException") (by decide +kernel)) (va_Nw.use rfl (hE.1 _ (by decide +kernel))) hcell hcv hcl ?_
      refine W.widen (k := 4) (n := 24) (Nat.le_of_ble_eq_true rfl) (Nat.le_of_ble_eq_true rfl) ?_
      refine lv_astore (lv' := [(5, .ref q), (0, .ref h), (1, .int a1), (2, .int a2), (3, .int a3), (4, .ref o)]) hx hb dL_lay_27 hl (by decide) rfl (fun ls hl => ?_)
      refine lv_iconst (v := 4) hx hb dL_lay_29 (by decide) ?_
      have hk1 : (hy_klay S a1 a2 a3) = 4 := hk.trans (by decide +kernel)
      exact W.iret (v := 4) hx hb hr (fun t ht hW => ⟨⟨_, (), rfl, hk1.symm, b0, k0, w0, z0, ad0, ca0, f, S, fun q => absurd (hk1.symm.trans q) (by decide), fun _ => rfl, by rw [ht]; exact hP, va_K.moved hW.alike hK, hD⟩, hS.F ht⟩) hS.2.2 dL_lay_30
    | 4, hj, hk =>
      cases Option.some.inj hj
      refine vx_catch (name := "java/lang/UnsupportedOperationException") hown [⟨0, 12, 15, 13⟩, ⟨0, 12, 19, 15⟩, ⟨0, 12, 23, 34⟩, ⟨0, 12, 27, 36⟩] ⟨0, 12, 31, 17⟩ [] htab (List.forall_mem_cons.mpr ⟨Or.inr ⟨by decide, "java/lang/IndexOutOfBoundsException", hts (.classLink RL 13 "java/lang/IndexOutOfBoundsException") (by decide +kernel), hN _ (by decide +kernel) _ (by decide +kernel) (by decide +kernel)⟩, List.forall_mem_cons.mpr ⟨Or.inr ⟨by decide, "java/lang/IllegalArgumentException", hts (.classLink RL 15 "java/lang/IllegalArgumentException") (by decide +kernel), hN _ (by decide +kernel) _ (by decide +kernel) (by decide +kernel)⟩, List.forall_mem_cons.mpr ⟨Or.inr ⟨by decide, "java/lang/IllegalStateException", hts (.classLink RL 34 "java/lang/IllegalStateException") (by decide +kernel), hN _ (by decide +kernel) _ (by decide +kernel) (by decide +kernel)⟩, List.forall_mem_cons.mpr ⟨Or.inr ⟨by decide, "java/util/NoSuchElementException", hts (.classLink RL 36 "java/util/NoSuchElementException") (by decide +kernel), hN _ (by decide +kernel) _ (by decide +kernel) (by decide +kernel)⟩, fun _ h9 => nomatch h9⟩⟩⟩⟩) (by decide) (by decide) (hts (.classLink RL 17 "java/lang/UnsupportedOperationException") (by decide +kernel)) (va_Nw.use rfl (hE.1 _ (by decide +kernel))) hcell hcv hcl ?_
      refine W.widen (k := 4) (n := 24) (Nat.le_of_ble_eq_true rfl) (Nat.le_of_ble_eq_true rfl) ?_
      refine lv_astore (lv' := [(5, .ref q), (0, .ref h), (1, .int a1), (2, .int a2), (3, .int a3), (4, .ref o)]) hx hb dL_lay_31 hl (by decide) rfl (fun ls hl => ?_)
      refine lv_iconst (v := 5) hx hb dL_lay_33 (by decide) ?_
      have hk1 : (hy_klay S a1 a2 a3) = 5 := hk.trans (by decide +kernel)
      exact W.iret (v := 5) hx hb hr (fun t ht hW => ⟨⟨_, (), rfl, hk1.symm, b0, k0, w0, z0, ad0, ca0, f, S, fun q => absurd (hk1.symm.trans q) (by decide), fun _ => rfl, by rw [ht]; exact hP, va_K.moved hW.alike hK, hD⟩, hS.F ht⟩) hS.2.2 dL_lay_34
    | j + 5, hj, hk => exact absurd hj (by simp)
set_option maxHeartbeats 4000000 in
set_option maxRecDepth 100000 in
theorem c_L_lift (l : Launch) (D : va_G) (cI cJ cB : ClassId) (h b0 k0 w0 z0 : Nat) (ad0 ca0 : Nat → Nat) (S : hy_S) (o : Nat) (f : Nat → Int64) (hl9 : l.stackTraces = false) (hwf : hy_wf S) (sz : Nat) (a1 a2 : Int32) : Met l yL_lift wsL_lift ({ frames := 9, cells := 3, slots := 18, locals := 155 }) (va_Pc [.ref h, .int a1, .int a2, .ref o] (hy_IW D cI cJ cB h b0 k0 w0 z0 ad0 ca0 S o f sz)) (va_Qi (fun (r : Int32) (_ : Unit) => r = (hy_klift S a1 a2)) (fun _ => hy_AtO D cI cJ cB h o (((hy_at S a1 a2).toInt32).toInt64) (hy_slift S a1 a2) S (hy_klift S a1 a2) (va_A (hy_O cJ o f :: hy_W cI cJ cB h b0 k0 w0 z0 ad0 ca0 S) sz)) (va_A (hy_O cJ o f :: hy_W cI cJ cB h b0 k0 w0 z0 ad0 ca0 S) sz)) 3 18 (va_A (hy_O cJ o f :: hy_W cI cJ cB h b0 k0 w0 z0 ad0 ca0 S) sz) := by
  refine va_MetW (cc := cL_lift) (maxL := 5) (ret := some .int) (hh := [(0, 10, 13, 13), (0, 10, 17, 34), (0, 10, 21, 36)]) (by decide) rfl ?_
  intro p e s m args below meth c s₁ B hml hv
  obtain ⟨rfl, hsz, hP, hK, hD0, hE, hZ, hN⟩ := hv
  have hx := B.exec
  have hb := B.bytes
  have hr := B.returns
  have hts := atoms_spec (ws := wsL_lift) B.pre
  have hown : s.vm.findClass RL = some m.cls := findClass_of_methodNamed B.named
  have hlocks := B.notSynchronized
  have htab := vx_table (x := yL_lift) B (hts _ List.mem_cons_self)
  subst hsz
  have hl := lv_entry ([.ref h, .int a1, .int a2, .ref o]) (n := 5) (Nat.le_of_ble_eq_true rfl)
  rw [lg_entry_eq]
  generalize (lg_sl ([.ref h, .int a1, .int a2, .ref o]) ++ List.replicate (5 - (lg_sl ([.ref h, .int a1, .int a2, .ref o])).length) Slot.unset).toArray = ls at hl ⊢
  have hl : lv_has ls 5 [(0, .ref h), (1, .int a1), (2, .int a2), (3, .ref o)] := hl
  refine lv_aload_n hx hb dL_lift_0 rfl (lv_at hl 3 rfl) ?_
  refine lv_iconst (v := 0) hx hb dL_lift_1 (by decide) ?_
  refine lv_aload_n hx hb dL_lift_2 rfl (lv_at hl 0 rfl) ?_
  refine lv_iload_n hx hb dL_lift_3 rfl (lv_at hl 1 rfl) ?_
  refine lv_iload_n hx hb dL_lift_4 rfl (lv_at hl 2 rfl) ?_
  have hPw : va_P D vwCl (hy_W cI cJ cB h b0 k0 w0 z0 ad0 ca0 S) s.heap := fun k9 q9 h9 => hP (k9 + 1) q9 h9
  have hDw : va_D (fun _ => True) (hy_W cI cJ cB h b0 k0 w0 z0 ad0 ca0 S) := (hy_left (hy_swap (X := [hy_O cJ o f]) (Y := hy_W cI cJ cB h b0 k0 w0 z0 ad0 ca0 S) hP hD0).1 (hy_swap (X := [hy_O cJ o f]) (Y := hy_W cI cJ cB h b0 k0 w0 z0 ad0 ca0 S) hP hD0).2).2
  refine hy_wcall (L := ["java/lang/IndexOutOfBoundsException", "java/lang/IllegalStateException", "java/util/NoSuchElementException"]) (K := (hy_klift S a1 a2)) (V := .int ((hy_at S a1 a2).toInt32)) (S2 := (hy_slift S a1 a2)) (vx_runV (As := [.int a1, .int a2]) (rest := [.int 0, .ref o]) ⟨hx, hb, hml, hown, hts⟩ (c_X1_lift l D cI cJ cB h b0 k0 w0 z0 ad0 ca0 S hl9 hwf s.heap.size a1 a2) (cwV 2 hts gL_lift_X1_lift rfl rfl rfl (by decide +kernel) ⟨Nat.le_of_ble_eq_true rfl, Nat.le_of_ble_eq_true rfl⟩) ⟨hy_IP_blind, va_recv hK hPw (ci := 1) (q0 := 0) rfl rfl, fun U hU hW => ⟨rfl, by rw [hU], hy_IX_at hU hW hPw hK hE hZ, hDw⟩⟩ rfl rfl hl.1 rfl (lv_room (Nat.le_of_ble_eq_true rfl)) dL_lift_5 ⟨Nat.le_of_ble_eq_true rfl, Nat.le_of_ble_eq_true rfl⟩) (fun st v t q9 => hy_Qi (fun r u q => q) q9) hP hD0 (fun b k w z ad ca H locs hk hP hD hS => ?_) (fun E ce q j H locs hj hk hP hD hS hcell hcv hcl => ?_)
  · refine W.widen (k := 3) (n := 18) (Nat.le_of_ble_eq_true rfl) (Nat.le_of_ble_eq_true rfl) ?_
    refine lv_i2l (v := (((hy_at S a1 a2).toInt32).toInt64)) hx hb dL_lift_8 rfl ?_
    refine va_last hx hb hK hP hD hS 0 1 rfl rfl (vp_in_nI (n := 0) (by decide) (by decide)) dL_lift_9 (fun H locs hP hD hS => ?_)
    have hP : va_P D vwCl (hy_O cJ o (vp_updL f 0 (((hy_at S a1 a2).toInt32).toInt64)) :: hy_W cI cJ cB h b k w z ad ca (hy_slift S a1 a2)) H := hP
    have hD : va_D (va_A (hy_O cJ o f :: hy_W cI cJ cB h b0 k0 w0 z0 ad0 ca0 S) s.heap.size) (hy_O cJ o (vp_updL f 0 (((hy_at S a1 a2).toInt32).toInt64)) :: hy_W cI cJ cB h b k w z ad ca (hy_slift S a1 a2)) := hD
    refine lv_goto (tgt := 25) hx hb dL_lift_10 (by decide) ?_
    refine lv_iconst (v := 0) hx hb dL_lift_25 (by decide) ?_
    exact W.iret (v := 0) hx hb hr (fun t ht hW => ⟨⟨_, (), rfl, hk.symm, b, k, w, z, ad, ca, vp_updL f 0 (((hy_at S a1 a2).toInt32).toInt64), (hy_slift S a1 a2), fun _ => ⟨if_pos rfl, rfl⟩, fun q => absurd hk q, by rw [ht]; exact hP, va_K.moved hW.alike hK, hD⟩, hS.F ht⟩) hS.2.2 dL_lift_26
  · match j, hj, hk with
    | 0, hj, hk =>
      cases Option.some.inj hj
      refine vx_catch (name := "java/lang/IndexOutOfBoundsException") hown [] ⟨0, 10, 13, 13⟩ [⟨0, 10, 17, 34⟩, ⟨0, 10, 21, 36⟩] htab (fun _ h9 => nomatch h9) (by decide) (by decide) (hts (.classLink RL 13 "java/lang/IndexOutOfBoundsException") (by decide +kernel)) (va_Nw.use rfl (hE.1 _ (by decide +kernel))) hcell hcv hcl ?_
      refine W.widen (k := 3) (n := 18) (Nat.le_of_ble_eq_true rfl) (Nat.le_of_ble_eq_true rfl) ?_
      refine lv_astore (lv' := [(4, .ref q), (0, .ref h), (1, .int a1), (2, .int a2), (3, .ref o)]) hx hb dL_lift_13 hl (by decide) rfl (fun ls hl => ?_)
      refine lv_iconst (v := 1) hx hb dL_lift_15 (by decide) ?_
      have hk1 : (hy_klift S a1 a2) = 1 := hk.trans (by decide +kernel)
      exact W.iret (v := 1) hx hb hr (fun t ht hW => ⟨⟨_, (), rfl, hk1.symm, b0, k0, w0, z0, ad0, ca0, f, S, fun q => absurd (hk1.symm.trans q) (by decide), fun _ => rfl, by rw [ht]; exact hP, va_K.moved hW.alike hK, hD⟩, hS.F ht⟩) hS.2.2 dL_lift_16
    | 1, hj, hk =>
      cases Option.some.inj hj
      refine vx_catch (name := "java/lang/IllegalStateException") hown [⟨0, 10, 13, 13⟩] ⟨0, 10, 17, 34⟩ [⟨0, 10, 21, 36⟩] htab (List.forall_mem_cons.mpr ⟨Or.inr ⟨by decide, "java/lang/IndexOutOfBoundsException", hts (.classLink RL 13 "java/lang/IndexOutOfBoundsException") (by decide +kernel), hN _ (by decide +kernel) _ (by decide +kernel) (by decide +kernel)⟩, fun _ h9 => nomatch h9⟩) (by decide) (by decide) (hts (.classLink RL 34 "java/lang/IllegalStateException") (by decide +kernel)) (va_Nw.use rfl (hE.1 _ (by decide +kernel))) hcell hcv hcl ?_
      refine W.widen (k := 3) (n := 18) (Nat.le_of_ble_eq_true rfl) (Nat.le_of_ble_eq_true rfl) ?_
      refine lv_astore (lv' := [(4, .ref q), (0, .ref h), (1, .int a1), (2, .int a2), (3, .ref o)]) hx hb dL_lift_17 hl (by decide) rfl (fun ls hl => ?_)
      refine lv_iconst (v := 2) hx hb dL_lift_19 (by decide) ?_
      have hk1 : (hy_klift S a1 a2) = 2 := hk.trans (by decide +kernel)
      exact W.iret (v := 2) hx hb hr (fun t ht hW => ⟨⟨_, (), rfl, hk1.symm, b0, k0, w0, z0, ad0, ca0, f, S, fun q => absurd (hk1.symm.trans q) (by decide), fun _ => rfl, by rw [ht]; exact hP, va_K.moved hW.alike hK, hD⟩, hS.F ht⟩) hS.2.2 dL_lift_20
    | 2, hj, hk =>
      cases Option.some.inj hj
      refine vx_catch (name := "java/util/NoSuchElementException") hown [⟨0, 10, 13, 13⟩, ⟨0, 10, 17, 34⟩] ⟨0, 10, 21, 36⟩ [] htab (List.forall_mem_cons.mpr ⟨Or.inr ⟨by decide, "java/lang/IndexOutOfBoundsException", hts (.classLink RL 13 "java/lang/IndexOutOfBoundsException") (by decide +kernel), hN _ (by decide +kernel) _ (by decide +kernel) (by decide +kernel)⟩, List.forall_mem_cons.mpr ⟨Or.inr ⟨by decide, "java/lang/IllegalStateException", hts (.classLink RL 34 "java/lang/IllegalStateException") (by decide +kernel), hN _ (by decide +kernel) _ (by decide +kernel) (by decide +kernel)⟩, fun _ h9 => nomatch h9⟩⟩) (by decide) (by decide) (hts (.classLink RL 36 "java/util/NoSuchElementException") (by decide +kernel)) (va_Nw.use rfl (hE.1 _ (by decide +kernel))) hcell hcv hcl ?_
      refine W.widen (k := 3) (n := 18) (Nat.le_of_ble_eq_true rfl) (Nat.le_of_ble_eq_true rfl) ?_
      refine lv_astore (lv' := [(4, .ref q), (0, .ref h), (1, .int a1), (2, .int a2), (3, .ref o)]) hx hb dL_lift_21 hl (by decide) rfl (fun ls hl => ?_)
      refine lv_iconst (v := 3) hx hb dL_lift_23 (by decide) ?_
      have hk1 : (hy_klift S a1 a2) = 3 := hk.trans (by decide +kernel)
      exact W.iret (v := 3) hx hb hr (fun t ht hW => ⟨⟨_, (), rfl, hk1.symm, b0, k0, w0, z0, ad0, ca0, f, S, fun q => absurd (hk1.symm.trans q) (by decide), fun _ => rfl, by rw [ht]; exact hP, va_K.moved hW.alike hK, hD⟩, hS.F ht⟩) hS.2.2 dL_lift_24
    | j + 3, hj, hk => exact absurd hj (by simp)
set_option maxHeartbeats 4000000 in
set_option maxRecDepth 100000 in
theorem c_L_move (l : Launch) (D : va_G) (cI cJ cB : ClassId) (h b0 k0 w0 z0 : Nat) (ad0 ca0 : Nat → Nat) (S : hy_S) (o : Nat) (f : Nat → Int64) (hl9 : l.stackTraces = false) (hwf : hy_wf S) (sz : Nat) (a1 a2 a3 a4 a5 : Int32) : Met l yL_move wsL_move ({ frames := 9, cells := 2, slots := 12, locals := 158 }) (va_Pc [.ref h, .int a1, .int a2, .int a3, .int a4, .int a5, .ref o] (hy_IW D cI cJ cB h b0 k0 w0 z0 ad0 ca0 S o f sz)) (va_Qi (fun (r : Int32) (_ : Unit) => r = (hy_k2b a1 a3)) (fun _ => hy_AtO D cI cJ cB h o ((hy_vmove S a1 a2 a3 a4 a5).toInt64) (hy_smove S a1 a2 a3 a4 a5) S (hy_k2b a1 a3) (va_A (hy_O cJ o f :: hy_W cI cJ cB h b0 k0 w0 z0 ad0 ca0 S) sz)) (va_A (hy_O cJ o f :: hy_W cI cJ cB h b0 k0 w0 z0 ad0 ca0 S) sz)) 2 12 (va_A (hy_O cJ o f :: hy_W cI cJ cB h b0 k0 w0 z0 ad0 ca0 S) sz) := by
  refine va_MetW (cc := cL_move) (maxL := 8) (ret := some .int) (hh := [(0, 16, 19, 13)]) (by decide) rfl ?_
  intro p e s m args below meth c s₁ B hml hv
  obtain ⟨rfl, hsz, hP, hK, hD0, hE, hZ, hN⟩ := hv
  have hx := B.exec
  have hb := B.bytes
  have hr := B.returns
  have hts := atoms_spec (ws := wsL_move) B.pre
  have hown : s.vm.findClass RL = some m.cls := findClass_of_methodNamed B.named
  have hlocks := B.notSynchronized
  have htab := vx_table (x := yL_move) B (hts _ List.mem_cons_self)
  subst hsz
  have hl := lv_entry ([.ref h, .int a1, .int a2, .int a3, .int a4, .int a5, .ref o]) (n := 8) (Nat.le_of_ble_eq_true rfl)
  rw [lg_entry_eq]
  generalize (lg_sl ([.ref h, .int a1, .int a2, .int a3, .int a4, .int a5, .ref o]) ++ List.replicate (8 - (lg_sl ([.ref h, .int a1, .int a2, .int a3, .int a4, .int a5, .ref o])).length) Slot.unset).toArray = ls at hl ⊢
  have hl : lv_has ls 8 [(0, .ref h), (1, .int a1), (2, .int a2), (3, .int a3), (4, .int a4), (5, .int a5), (6, .ref o)] := hl
  refine lv_aload hx hb dL_move_0 (lv_at hl 6 rfl) ?_
  refine lv_iconst (v := 0) hx hb dL_move_2 (by decide) ?_
  refine lv_aload_n hx hb dL_move_3 rfl (lv_at hl 0 rfl) ?_
  refine lv_iload_n hx hb dL_move_4 rfl (lv_at hl 1 rfl) ?_
  refine lv_iload_n hx hb dL_move_5 rfl (lv_at hl 2 rfl) ?_
  refine lv_iload_n hx hb dL_move_6 rfl (lv_at hl 3 rfl) ?_
  refine lv_iload hx hb dL_move_7 (lv_at hl 4 rfl) ?_
  refine lv_iload hx hb dL_move_9 (lv_at hl 5 rfl) ?_
  have hPw : va_P D vwCl (hy_W cI cJ cB h b0 k0 w0 z0 ad0 ca0 S) s.heap := fun k9 q9 h9 => hP (k9 + 1) q9 h9
  have hDw : va_D (fun _ => True) (hy_W cI cJ cB h b0 k0 w0 z0 ad0 ca0 S) := (hy_left (hy_swap (X := [hy_O cJ o f]) (Y := hy_W cI cJ cB h b0 k0 w0 z0 ad0 ca0 S) hP hD0).1 (hy_swap (X := [hy_O cJ o f]) (Y := hy_W cI cJ cB h b0 k0 w0 z0 ad0 ca0 S) hP hD0).2).2
  refine hy_wcall (L := ["java/lang/IndexOutOfBoundsException"]) (K := (hy_k2b a1 a3)) (V := .int (hy_vmove S a1 a2 a3 a4 a5)) (S2 := (hy_smove S a1 a2 a3 a4 a5)) (vx_runV (As := [.int a1, .int a2, .int a3, .int a4, .int a5]) (rest := [.int 0, .ref o]) ⟨hx, hb, hml, hown, hts⟩ (c_X1_move l D cI cJ cB h b0 k0 w0 z0 ad0 ca0 S hl9 hwf s.heap.size a1 a2 a3 a4 a5) (cwV 5 hts gL_move_X1_move rfl rfl rfl (by decide +kernel) ⟨Nat.le_of_ble_eq_true rfl, Nat.le_of_ble_eq_true rfl⟩) ⟨hy_IP_blind, va_recv hK hPw (ci := 1) (q0 := 0) rfl rfl, fun U hU hW => ⟨rfl, by rw [hU], hy_IX_at hU hW hPw hK hE hZ, hDw⟩⟩ rfl rfl hl.1 rfl (lv_room (Nat.le_of_ble_eq_true rfl)) dL_move_11 ⟨Nat.le_of_ble_eq_true rfl, Nat.le_of_ble_eq_true rfl⟩) (fun st v t q9 => hy_Qi (fun r u q => q) q9) hP hD0 (fun b k w z ad ca H locs hk hP hD hS => ?_) (fun E ce q j H locs hj hk hP hD hS hcell hcv hcl => ?_)
  · refine W.widen (k := 2) (n := 12) (Nat.le_of_ble_eq_true rfl) (Nat.le_of_ble_eq_true rfl) ?_
    refine lv_i2l (v := ((hy_vmove S a1 a2 a3 a4 a5).toInt64)) hx hb dL_move_14 rfl ?_
    refine va_last hx hb hK hP hD hS 0 1 rfl rfl (vp_in_nI (n := 0) (by decide) (by decide)) dL_move_15 (fun H locs hP hD hS => ?_)
    have hP : va_P D vwCl (hy_O cJ o (vp_updL f 0 ((hy_vmove S a1 a2 a3 a4 a5).toInt64)) :: hy_W cI cJ cB h b k w z ad ca (hy_smove S a1 a2 a3 a4 a5)) H := hP
    have hD : va_D (va_A (hy_O cJ o f :: hy_W cI cJ cB h b0 k0 w0 z0 ad0 ca0 S) s.heap.size) (hy_O cJ o (vp_updL f 0 ((hy_vmove S a1 a2 a3 a4 a5).toInt64)) :: hy_W cI cJ cB h b k w z ad ca (hy_smove S a1 a2 a3 a4 a5)) := hD
    refine lv_goto (tgt := 23) hx hb dL_move_16 (by decide) ?_
    refine lv_iconst (v := 0) hx hb dL_move_23 (by decide) ?_
    exact W.iret (v := 0) hx hb hr (fun t ht hW => ⟨⟨_, (), rfl, hk.symm, b, k, w, z, ad, ca, vp_updL f 0 ((hy_vmove S a1 a2 a3 a4 a5).toInt64), (hy_smove S a1 a2 a3 a4 a5), fun _ => ⟨if_pos rfl, rfl⟩, fun q => absurd hk q, by rw [ht]; exact hP, va_K.moved hW.alike hK, hD⟩, hS.F ht⟩) hS.2.2 dL_move_24
  · match j, hj, hk with
    | 0, hj, hk =>
      cases Option.some.inj hj
      refine vx_catch (name := "java/lang/IndexOutOfBoundsException") hown [] ⟨0, 16, 19, 13⟩ [] htab (fun _ h9 => nomatch h9) (by decide) (by decide) (hts (.classLink RL 13 "java/lang/IndexOutOfBoundsException") (by decide +kernel)) (va_Nw.use rfl (hE.1 _ (by decide +kernel))) hcell hcv hcl ?_
      refine W.widen (k := 2) (n := 12) (Nat.le_of_ble_eq_true rfl) (Nat.le_of_ble_eq_true rfl) ?_
      refine lv_astore (lv' := [(7, .ref q), (0, .ref h), (1, .int a1), (2, .int a2), (3, .int a3), (4, .int a4), (5, .int a5), (6, .ref o)]) hx hb dL_move_19 hl (by decide) rfl (fun ls hl => ?_)
      refine lv_iconst (v := 1) hx hb dL_move_21 (by decide) ?_
      have hk1 : (hy_k2b a1 a3) = 1 := hk.trans (by decide +kernel)
      exact W.iret (v := 1) hx hb hr (fun t ht hW => ⟨⟨_, (), rfl, hk1.symm, b0, k0, w0, z0, ad0, ca0, f, S, fun q => absurd (hk1.symm.trans q) (by decide), fun _ => rfl, by rw [ht]; exact hP, va_K.moved hW.alike hK, hD⟩, hS.F ht⟩) hS.2.2 dL_move_22
    | j + 1, hj, hk => exact absurd hj (by simp)
set_option maxHeartbeats 4000000 in
set_option maxRecDepth 100000 in
theorem c_L_pour (l : Launch) (D : va_G) (cI cJ cB : ClassId) (h b0 k0 w0 z0 : Nat) (ad0 ca0 : Nat → Nat) (S : hy_S) (o : Nat) (f : Nat → Int64) (hl9 : l.stackTraces = false) (hwf : hy_wf S) (sz : Nat) (a1 a2 : Int32) : Met l yL_pour wsL_pour ({ frames := 9, cells := 2, slots := 12, locals := 156 }) (va_Pc [.ref h, .int a1, .int a2, .ref o] (hy_IW D cI cJ cB h b0 k0 w0 z0 ad0 ca0 S o f sz)) (va_Qi (fun (r : Int32) (_ : Unit) => r = (hy_k2b a1 a2)) (fun _ => hy_AtO D cI cJ cB h o ((hy_vpour S a1 a2).toInt64) (hy_spour S a1 a2) S (hy_k2b a1 a2) (va_A (hy_O cJ o f :: hy_W cI cJ cB h b0 k0 w0 z0 ad0 ca0 S) sz)) (va_A (hy_O cJ o f :: hy_W cI cJ cB h b0 k0 w0 z0 ad0 ca0 S) sz)) 2 12 (va_A (hy_O cJ o f :: hy_W cI cJ cB h b0 k0 w0 z0 ad0 ca0 S) sz) := by
  refine va_MetW (cc := cL_pour) (maxL := 5) (ret := some .int) (hh := [(0, 10, 13, 13)]) (by decide) rfl ?_
  intro p e s m args below meth c s₁ B hml hv
  obtain ⟨rfl, hsz, hP, hK, hD0, hE, hZ, hN⟩ := hv
  have hx := B.exec
  have hb := B.bytes
  have hr := B.returns
  have hts := atoms_spec (ws := wsL_pour) B.pre
  have hown : s.vm.findClass RL = some m.cls := findClass_of_methodNamed B.named
  have hlocks := B.notSynchronized
  have htab := vx_table (x := yL_pour) B (hts _ List.mem_cons_self)
  subst hsz
  have hl := lv_entry ([.ref h, .int a1, .int a2, .ref o]) (n := 5) (Nat.le_of_ble_eq_true rfl)
  rw [lg_entry_eq]
  generalize (lg_sl ([.ref h, .int a1, .int a2, .ref o]) ++ List.replicate (5 - (lg_sl ([.ref h, .int a1, .int a2, .ref o])).length) Slot.unset).toArray = ls at hl ⊢
  have hl : lv_has ls 5 [(0, .ref h), (1, .int a1), (2, .int a2), (3, .ref o)] := hl
  refine lv_aload_n hx hb dL_pour_0 rfl (lv_at hl 3 rfl) ?_
  refine lv_iconst (v := 0) hx hb dL_pour_1 (by decide) ?_
  refine lv_aload_n hx hb dL_pour_2 rfl (lv_at hl 0 rfl) ?_
  refine lv_iload_n hx hb dL_pour_3 rfl (lv_at hl 1 rfl) ?_
  refine lv_iload_n hx hb dL_pour_4 rfl (lv_at hl 2 rfl) ?_
  have hPw : va_P D vwCl (hy_W cI cJ cB h b0 k0 w0 z0 ad0 ca0 S) s.heap := fun k9 q9 h9 => hP (k9 + 1) q9 h9
  have hDw : va_D (fun _ => True) (hy_W cI cJ cB h b0 k0 w0 z0 ad0 ca0 S) := (hy_left (hy_swap (X := [hy_O cJ o f]) (Y := hy_W cI cJ cB h b0 k0 w0 z0 ad0 ca0 S) hP hD0).1 (hy_swap (X := [hy_O cJ o f]) (Y := hy_W cI cJ cB h b0 k0 w0 z0 ad0 ca0 S) hP hD0).2).2
  refine hy_wcall (L := ["java/lang/IndexOutOfBoundsException"]) (K := (hy_k2b a1 a2)) (V := .int (hy_vpour S a1 a2)) (S2 := (hy_spour S a1 a2)) (vx_runV (As := [.int a1, .int a2]) (rest := [.int 0, .ref o]) ⟨hx, hb, hml, hown, hts⟩ (c_X1_pour l D cI cJ cB h b0 k0 w0 z0 ad0 ca0 S hl9 hwf s.heap.size a1 a2) (cwV 2 hts gL_pour_X1_pour rfl rfl rfl (by decide +kernel) ⟨Nat.le_of_ble_eq_true rfl, Nat.le_of_ble_eq_true rfl⟩) ⟨hy_IP_blind, va_recv hK hPw (ci := 1) (q0 := 0) rfl rfl, fun U hU hW => ⟨rfl, by rw [hU], hy_IX_at hU hW hPw hK hE hZ, hDw⟩⟩ rfl rfl hl.1 rfl (lv_room (Nat.le_of_ble_eq_true rfl)) dL_pour_5 ⟨Nat.le_of_ble_eq_true rfl, Nat.le_of_ble_eq_true rfl⟩) (fun st v t q9 => hy_Qi (fun r u q => q) q9) hP hD0 (fun b k w z ad ca H locs hk hP hD hS => ?_) (fun E ce q j H locs hj hk hP hD hS hcell hcv hcl => ?_)
  · refine W.widen (k := 2) (n := 12) (Nat.le_of_ble_eq_true rfl) (Nat.le_of_ble_eq_true rfl) ?_
    refine lv_i2l (v := ((hy_vpour S a1 a2).toInt64)) hx hb dL_pour_8 rfl ?_
    refine va_last hx hb hK hP hD hS 0 1 rfl rfl (vp_in_nI (n := 0) (by decide) (by decide)) dL_pour_9 (fun H locs hP hD hS => ?_)
    have hP : va_P D vwCl (hy_O cJ o (vp_updL f 0 ((hy_vpour S a1 a2).toInt64)) :: hy_W cI cJ cB h b k w z ad ca (hy_spour S a1 a2)) H := hP
    have hD : va_D (va_A (hy_O cJ o f :: hy_W cI cJ cB h b0 k0 w0 z0 ad0 ca0 S) s.heap.size) (hy_O cJ o (vp_updL f 0 ((hy_vpour S a1 a2).toInt64)) :: hy_W cI cJ cB h b k w z ad ca (hy_spour S a1 a2)) := hD
    refine lv_goto (tgt := 17) hx hb dL_pour_10 (by decide) ?_
    refine lv_iconst (v := 0) hx hb dL_pour_17 (by decide) ?_
    exact W.iret (v := 0) hx hb hr (fun t ht hW => ⟨⟨_, (), rfl, hk.symm, b, k, w, z, ad, ca, vp_updL f 0 ((hy_vpour S a1 a2).toInt64), (hy_spour S a1 a2), fun _ => ⟨if_pos rfl, rfl⟩, fun q => absurd hk q, by rw [ht]; exact hP, va_K.moved hW.alike hK, hD⟩, hS.F ht⟩) hS.2.2 dL_pour_18
  · match j, hj, hk with
    | 0, hj, hk =>
      cases Option.some.inj hj
      refine vx_catch (name := "java/lang/IndexOutOfBoundsException") hown [] ⟨0, 10, 13, 13⟩ [] htab (fun _ h9 => nomatch h9) (by decide) (by decide) (hts (.classLink RL 13 "java/lang/IndexOutOfBoundsException") (by decide +kernel)) (va_Nw.use rfl (hE.1 _ (by decide +kernel))) hcell hcv hcl ?_
      refine W.widen (k := 2) (n := 12) (Nat.le_of_ble_eq_true rfl) (Nat.le_of_ble_eq_true rfl) ?_
      refine lv_astore (lv' := [(4, .ref q), (0, .ref h), (1, .int a1), (2, .int a2), (3, .ref o)]) hx hb dL_pour_13 hl (by decide) rfl (fun ls hl => ?_)
      refine lv_iconst (v := 1) hx hb dL_pour_15 (by decide) ?_
      have hk1 : (hy_k2b a1 a2) = 1 := hk.trans (by decide +kernel)
      exact W.iret (v := 1) hx hb hr (fun t ht hW => ⟨⟨_, (), rfl, hk1.symm, b0, k0, w0, z0, ad0, ca0, f, S, fun q => absurd (hk1.symm.trans q) (by decide), fun _ => rfl, by rw [ht]; exact hP, va_K.moved hW.alike hK, hD⟩, hS.F ht⟩) hS.2.2 dL_pour_16
    | j + 1, hj, hk => exact absurd hj (by simp)
set_option maxHeartbeats 4000000 in
set_option maxRecDepth 100000 in
theorem c_L_at (l : Launch) (D : va_G) (cI cJ cB : ClassId) (h b0 k0 w0 z0 : Nat) (ad0 ca0 : Nat → Nat) (S : hy_S) (o : Nat) (f : Nat → Int64) (hl9 : l.stackTraces = false) (hwf : hy_wf S) (sz : Nat) (a1 a2 : Int32) : Met l yL_at wsL_at ({ frames := 9, cells := 3, slots := 18, locals := 154 }) (va_Pc [.ref h, .int a1, .int a2, .ref o] (hy_IW D cI cJ cB h b0 k0 w0 z0 ad0 ca0 S o f sz)) (va_Qi (fun (r : Int32) (_ : Unit) => r = (hy_kat S a1 a2)) (fun _ => hy_AtO D cI cJ cB h o (hy_at S a1 a2) S S (hy_kat S a1 a2) (va_A (hy_O cJ o f :: hy_W cI cJ cB h b0 k0 w0 z0 ad0 ca0 S) sz)) (va_A (hy_O cJ o f :: hy_W cI cJ cB h b0 k0 w0 z0 ad0 ca0 S) sz)) 3 18 (va_A (hy_O cJ o f :: hy_W cI cJ cB h b0 k0 w0 z0 ad0 ca0 S) sz) := by
  refine va_MetW (cc := cL_at) (maxL := 5) (ret := some .int) (hh := [(0, 9, 12, 13), (0, 9, 16, 34), (0, 9, 20, 36)]) (by decide) rfl ?_
  intro p e s m args below meth c s₁ B hml hv
  obtain ⟨rfl, hsz, hP, hK, hD0, hE, hZ, hN⟩ := hv
  have hx := B.exec
  have hb := B.bytes
  have hr := B.returns
  have hts := atoms_spec (ws := wsL_at) B.pre
  have hown : s.vm.findClass RL = some m.cls := findClass_of_methodNamed B.named
  have hlocks := B.notSynchronized
  have htab := vx_table (x := yL_at) B (hts _ List.mem_cons_self)
  subst hsz
  have hl := lv_entry ([.ref h, .int a1, .int a2, .ref o]) (n := 5) (Nat.le_of_ble_eq_true rfl)
  rw [lg_entry_eq]
  generalize (lg_sl ([.ref h, .int a1, .int a2, .ref o]) ++ List.replicate (5 - (lg_sl ([.ref h, .int a1, .int a2, .ref o])).length) Slot.unset).toArray = ls at hl ⊢
  have hl : lv_has ls 5 [(0, .ref h), (1, .int a1), (2, .int a2), (3, .ref o)] := hl
  refine lv_aload_n hx hb dL_at_0 rfl (lv_at hl 3 rfl) ?_
  refine lv_iconst (v := 0) hx hb dL_at_1 (by decide) ?_
  refine lv_aload_n hx hb dL_at_2 rfl (lv_at hl 0 rfl) ?_
  refine lv_iload_n hx hb dL_at_3 rfl (lv_at hl 1 rfl) ?_
  refine lv_iload_n hx hb dL_at_4 rfl (lv_at hl 2 rfl) ?_
  have hPw : va_P D vwCl (hy_W cI cJ cB h b0 k0 w0 z0 ad0 ca0 S) s.heap := fun k9 q9 h9 => hP (k9 + 1) q9 h9
  have hDw : va_D (fun _ => True) (hy_W cI cJ cB h b0 k0 w0 z0 ad0 ca0 S) := (hy_left (hy_swap (X := [hy_O cJ o f]) (Y := hy_W cI cJ cB h b0 k0 w0 z0 ad0 ca0 S) hP hD0).1 (hy_swap (X := [hy_O cJ o f]) (Y := hy_W cI cJ cB h b0 k0 w0 z0 ad0 ca0 S) hP hD0).2).2
  refine hy_wcall (L := ["java/lang/IndexOutOfBoundsException", "java/lang/IllegalStateException", "java/util/NoSuchElementException"]) (K := (hy_kat S a1 a2)) (V := .long (hy_at S a1 a2)) (S2 := S) (vx_runV (As := [.int a1, .int a2]) (rest := [.int 0, .ref o]) ⟨hx, hb, hml, hown, hts⟩ (c_X1_at l D cI cJ cB h b0 k0 w0 z0 ad0 ca0 S hl9 hwf s.heap.size a1 a2) (cwV 2 hts gL_at_X1_at rfl rfl rfl (by decide +kernel) ⟨Nat.le_of_ble_eq_true rfl, Nat.le_of_ble_eq_true rfl⟩) ⟨hy_IP_blind, va_recv hK hPw (ci := 1) (q0 := 0) rfl rfl, fun U hU hW => ⟨rfl, by rw [hU], hy_IX_at hU hW hPw hK hE hZ, hDw⟩⟩ rfl rfl hl.1 rfl (lv_room (Nat.le_of_ble_eq_true rfl)) dL_at_5 ⟨Nat.le_of_ble_eq_true rfl, Nat.le_of_ble_eq_true rfl⟩) (fun st v t q9 => hy_Ql (fun r u q => q) q9) hP hD0 (fun b k w z ad ca H locs hk hP hD hS => ?_) (fun E ce q j H locs hj hk hP hD hS hcell hcv hcl => ?_)
  · refine W.widen (k := 3) (n := 18) (Nat.le_of_ble_eq_true rfl) (Nat.le_of_ble_eq_true rfl) ?_
    refine va_last hx hb hK hP hD hS 0 1 rfl rfl (vp_in_nI (n := 0) (by decide) (by decide)) dL_at_8 (fun H locs hP hD hS => ?_)
    have hP : va_P D vwCl (hy_O cJ o (vp_updL f 0 (hy_at S a1 a2)) :: hy_W cI cJ cB h b k w z ad ca S) H := hP
    have hD : va_D (va_A (hy_O cJ o f :: hy_W cI cJ cB h b0 k0 w0 z0 ad0 ca0 S) s.heap.size) (hy_O cJ o (vp_updL f 0 (hy_at S a1 a2)) :: hy_W cI cJ cB h b k w z ad ca S) := hD
    refine lv_goto (tgt := 24) hx hb dL_at_9 (by decide) ?_
    refine lv_iconst (v := 0) hx hb dL_at_24 (by decide) ?_
    exact W.iret (v := 0) hx hb hr (fun t ht hW => ⟨⟨_, (), rfl, hk.symm, b, k, w, z, ad, ca, vp_updL f 0 (hy_at S a1 a2), S, fun _ => ⟨if_pos rfl, rfl⟩, fun q => absurd hk q, by rw [ht]; exact hP, va_K.moved hW.alike hK, hD⟩, hS.F ht⟩) hS.2.2 dL_at_25
  · match j, hj, hk with
    | 0, hj, hk =>
      cases Option.some.inj hj
      refine vx_catch (name := "java/lang/IndexOutOfBoundsException") hown [] ⟨0, 9, 12, 13⟩ [⟨0, 9, 16, 34⟩, ⟨0, 9, 20, 36⟩] htab (fun _ h9 => nomatch h9) (by decide) (by decide) (hts (.classLink RL 13 "java/lang/IndexOutOfBoundsException") (by decide +kernel)) (va_Nw.use rfl (hE.1 _ (by decide +kernel))) hcell hcv hcl ?_
      refine W.widen (k := 3) (n := 18) (Nat.le_of_ble_eq_true rfl) (Nat.le_of_ble_eq_true rfl) ?_
      refine lv_astore (lv' := [(4, .ref q), (0, .ref h), (1, .int a1), (2, .int a2), (3, .ref o)]) hx hb dL_at_12 hl (by decide) rfl (fun ls hl => ?_)
      refine lv_iconst (v := 1) hx hb dL_at_14 (by decide) ?_
      have hk1 : (hy_kat S a1 a2) = 1 := hk.trans (by decide +kernel)
      exact W.iret (v := 1) hx hb hr (fun t ht hW => ⟨⟨_, (), rfl, hk1.symm, b0, k0, w0, z0, ad0, ca0, f, S, fun q => absurd (hk1.symm.trans q) (by decide), fun _ => rfl, by rw [ht]; exact hP, va_K.moved hW.alike hK, hD⟩, hS.F ht⟩) hS.2.2 dL_at_15
    | 1, hj, hk =>
      cases Option.some.inj hj
      refine vx_catch (name := "java/lang/IllegalStateException") hown [⟨0, 9, 12, 13⟩] ⟨0, 9, 16, 34⟩ [⟨0, 9, 20, 36⟩] htab (List.forall_mem_cons.mpr ⟨Or.inr ⟨by decide, "java/lang/IndexOutOfBoundsException", hts (.classLink RL 13 "java/lang/IndexOutOfBoundsException") (by decide +kernel), hN _ (by decide +kernel) _ (by decide +kernel) (by decide +kernel)⟩, fun _ h9 => nomatch h9⟩) (by decide) (by decide) (hts (.classLink RL 34 "java/lang/IllegalStateException") (by decide +kernel)) (va_Nw.use rfl (hE.1 _ (by decide +kernel))) hcell hcv hcl ?_
      refine W.widen (k := 3) (n := 18) (Nat.le_of_ble_eq_true rfl) (Nat.le_of_ble_eq_true rfl) ?_
      refine lv_astore (lv' := [(4, .ref q), (0, .ref h), (1, .int a1), (2, .int a2), (3, .ref o)]) hx hb dL_at_16 hl (by decide) rfl (fun ls hl => ?_)
      refine lv_iconst (v := 2) hx hb dL_at_18 (by decide) ?_
      have hk1 : (hy_kat S a1 a2) = 2 := hk.trans (by decide +kernel)
      exact W.iret (v := 2) hx hb hr (fun t ht hW => ⟨⟨_, (), rfl, hk1.symm, b0, k0, w0, z0, ad0, ca0, f, S, fun q => absurd (hk1.symm.trans q) (by decide), fun _ => rfl, by rw [ht]; exact hP, va_K.moved hW.alike hK, hD⟩, hS.F ht⟩) hS.2.2 dL_at_19
    | 2, hj, hk =>
      cases Option.some.inj hj
      refine vx_catch (name := "java/util/NoSuchElementException") hown [⟨0, 9, 12, 13⟩, ⟨0, 9, 16, 34⟩] ⟨0, 9, 20, 36⟩ [] htab (List.forall_mem_cons.mpr ⟨Or.inr ⟨by decide, "java/lang/IndexOutOfBoundsException", hts (.classLink RL 13 "java/lang/IndexOutOfBoundsException") (by decide +kernel), hN _ (by decide +kernel) _ (by decide +kernel) (by decide +kernel)⟩, List.forall_mem_cons.mpr ⟨Or.inr ⟨by decide, "java/lang/IllegalStateException", hts (.classLink RL 34 "java/lang/IllegalStateException") (by decide +kernel), hN _ (by decide +kernel) _ (by decide +kernel) (by decide +kernel)⟩, fun _ h9 => nomatch h9⟩⟩) (by decide) (by decide) (hts (.classLink RL 36 "java/util/NoSuchElementException") (by decide +kernel)) (va_Nw.use rfl (hE.1 _ (by decide +kernel))) hcell hcv hcl ?_
      refine W.widen (k := 3) (n := 18) (Nat.le_of_ble_eq_true rfl) (Nat.le_of_ble_eq_true rfl) ?_
      refine lv_astore (lv' := [(4, .ref q), (0, .ref h), (1, .int a1), (2, .int a2), (3, .ref o)]) hx hb dL_at_20 hl (by decide) rfl (fun ls hl => ?_)
      refine lv_iconst (v := 3) hx hb dL_at_22 (by decide) ?_
      have hk1 : (hy_kat S a1 a2) = 3 := hk.trans (by decide +kernel)
      exact W.iret (v := 3) hx hb hr (fun t ht hW => ⟨⟨_, (), rfl, hk1.symm, b0, k0, w0, z0, ad0, ca0, f, S, fun q => absurd (hk1.symm.trans q) (by decide), fun _ => rfl, by rw [ht]; exact hP, va_K.moved hW.alike hK, hD⟩, hS.F ht⟩) hS.2.2 dL_at_23
    | j + 3, hj, hk => exact absurd hj (by simp)
set_option maxHeartbeats 4000000 in
set_option maxRecDepth 100000 in
theorem c_L_holds (l : Launch) (D : va_G) (cI cJ cB : ClassId) (h b0 k0 w0 z0 : Nat) (ad0 ca0 : Nat → Nat) (S : hy_S) (o : Nat) (f : Nat → Int64) (hl9 : l.stackTraces = false) (hwf : hy_wf S) (sz : Nat) (a1 : Int32) : Met l yL_holds wsL_holds ({ frames := 9, cells := 1, slots := 6, locals := 152 }) (va_Pc [.ref h, .int a1, .ref o] (hy_IW D cI cJ cB h b0 k0 w0 z0 ad0 ca0 S o f sz)) (va_Qi (fun (r : Int32) (_ : Unit) => r = (hy_kbox a1)) (fun _ => hy_AtO D cI cJ cB h o ((hy_vhold S a1).toInt64) S S (hy_kbox a1) (va_A (hy_O cJ o f :: hy_W cI cJ cB h b0 k0 w0 z0 ad0 ca0 S) sz)) (va_A (hy_O cJ o f :: hy_W cI cJ cB h b0 k0 w0 z0 ad0 ca0 S) sz)) 1 6 (va_A (hy_O cJ o f :: hy_W cI cJ cB h b0 k0 w0 z0 ad0 ca0 S) sz) := by
  refine va_MetW (cc := cL_holds) (maxL := 4) (ret := some .int) (hh := [(0, 9, 12, 13)]) (by decide) rfl ?_
  intro p e s m args below meth c s₁ B hml hv
  obtain ⟨rfl, hsz, hP, hK, hD0, hE, hZ, hN⟩ := hv
  have hx := B.exec
  have hb := B.bytes
  have hr := B.returns
  have hts := atoms_spec (ws := wsL_holds) B.pre
  have hown : s.vm.findClass RL = some m.cls := findClass_of_methodNamed B.named
  have hlocks := B.notSynchronized
  have htab := vx_table (x := yL_holds) B (hts _ List.mem_cons_self)
  subst hsz
  have hl := lv_entry ([.ref h, .int a1, .ref o]) (n := 4) (Nat.le_of_ble_eq_true rfl)
  rw [lg_entry_eq]
  generalize (lg_sl ([.ref h, .int a1, .ref o]) ++ List.replicate (4 - (lg_sl ([.ref h, .int a1, .ref o])).length) Slot.unset).toArray = ls at hl ⊢
  have hl : lv_has ls 4 [(0, .ref h), (1, .int a1), (2, .ref o)] := hl
  refine lv_aload_n hx hb dL_holds_0 rfl (lv_at hl 2 rfl) ?_
  refine lv_iconst (v := 0) hx hb dL_holds_1 (by decide) ?_
  refine lv_aload_n hx hb dL_holds_2 rfl (lv_at hl 0 rfl) ?_
  refine lv_iload_n hx hb dL_holds_3 rfl (lv_at hl 1 rfl) ?_
  have hPw : va_P D vwCl (hy_W cI cJ cB h b0 k0 w0 z0 ad0 ca0 S) s.heap := fun k9 q9 h9 => hP (k9 + 1) q9 h9
  have hDw : va_D (fun _ => True) (hy_W cI cJ cB h b0 k0 w0 z0 ad0 ca0 S) := (hy_left (hy_swap (X := [hy_O cJ o f]) (Y := hy_W cI cJ cB h b0 k0 w0 z0 ad0 ca0 S) hP hD0).1 (hy_swap (X := [hy_O cJ o f]) (Y := hy_W cI cJ cB h b0 k0 w0 z0 ad0 ca0 S) hP hD0).2).2
  refine hy_wcall (L := ["java/lang/IndexOutOfBoundsException"]) (K := (hy_kbox a1)) (V := .int (hy_vhold S a1)) (S2 := S) (vx_runV (As := [.int a1]) (rest := [.int 0, .ref o]) ⟨hx, hb, hml, hown, hts⟩ (c_X1_holds l D cI cJ cB h b0 k0 w0 z0 ad0 ca0 S hl9 hwf s.heap.size a1) (cwV 1 hts gL_holds_X1_holds rfl rfl rfl (by decide +kernel) ⟨Nat.le_of_ble_eq_true rfl, Nat.le_of_ble_eq_true rfl⟩) ⟨hy_IP_blind, va_recv hK hPw (ci := 1) (q0 := 0) rfl rfl, fun U hU hW => ⟨rfl, by rw [hU], hy_IX_at hU hW hPw hK hE hZ, hDw⟩⟩ rfl rfl hl.1 rfl (lv_room (Nat.le_of_ble_eq_true rfl)) dL_holds_4 ⟨Nat.le_of_ble_eq_true rfl, Nat.le_of_ble_eq_true rfl⟩) (fun st v t q9 => hy_Qi (fun r u q => q) q9) hP hD0 (fun b k w z ad ca H locs hk hP hD hS => ?_) (fun E ce q j H locs hj hk hP hD hS hcell hcv hcl => ?_)
  · refine W.widen (k := 1) (n := 6) (Nat.le_of_ble_eq_true rfl) (Nat.le_of_ble_eq_true rfl) ?_
    refine lv_i2l (v := ((hy_vhold S a1).toInt64)) hx hb dL_holds_7 rfl ?_
    refine va_last hx hb hK hP hD hS 0 1 rfl rfl (vp_in_nI (n := 0) (by decide) (by decide)) dL_holds_8 (fun H locs hP hD hS => ?_)
    have hP : va_P D vwCl (hy_O cJ o (vp_updL f 0 ((hy_vhold S a1).toInt64)) :: hy_W cI cJ cB h b k w z ad ca S) H := hP
    have hD : va_D (va_A (hy_O cJ o f :: hy_W cI cJ cB h b0 k0 w0 z0 ad0 ca0 S) s.heap.size) (hy_O cJ o (vp_updL f 0 ((hy_vhold S a1).toInt64)) :: hy_W cI cJ cB h b k w z ad ca S) := hD
    refine lv_goto (tgt := 15) hx hb dL_holds_9 (by decide) ?_
    refine lv_iconst (v := 0) hx hb dL_holds_15 (by decide) ?_
    exact W.iret (v := 0) hx hb hr (fun t ht hW => ⟨⟨_, (), rfl, hk.symm, b, k, w, z, ad, ca, vp_updL f 0 ((hy_vhold S a1).toInt64), S, fun _ => ⟨if_pos rfl, rfl⟩, fun q => absurd hk q, by rw [ht]; exact hP, va_K.moved hW.alike hK, hD⟩, hS.F ht⟩) hS.2.2 dL_holds_16
  · match j, hj, hk with
    | 0, hj, hk =>
      cases Option.some.inj hj
      refine vx_catch (name := "java/lang/IndexOutOfBoundsException") hown [] ⟨0, 9, 12, 13⟩ [] htab (fun _ h9 => nomatch h9) (by decide) (by decide) (hts (.classLink RL 13 "java/lang/IndexOutOfBoundsException") (by decide +kernel)) (va_Nw.use rfl (hE.1 _ (by decide +kernel))) hcell hcv hcl ?_
      refine W.widen (k := 1) (n := 6) (Nat.le_of_ble_eq_true rfl) (Nat.le_of_ble_eq_true rfl) ?_
      refine lv_astore_n (lv' := [(3, .ref q), (0, .ref h), (1, .int a1), (2, .ref o)]) hx hb dL_holds_12 rfl hl (by decide) rfl (fun ls hl => ?_)
      refine lv_iconst (v := 1) hx hb dL_holds_13 (by decide) ?_
      have hk1 : (hy_kbox a1) = 1 := hk.trans (by decide +kernel)
      exact W.iret (v := 1) hx hb hr (fun t ht hW => ⟨⟨_, (), rfl, hk1.symm, b0, k0, w0, z0, ad0, ca0, f, S, fun q => absurd (hk1.symm.trans q) (by decide), fun _ => rfl, by rw [ht]; exact hP, va_K.moved hW.alike hK, hD⟩, hS.F ht⟩) hS.2.2 dL_holds_14
    | j + 1, hj, hk => exact absurd hj (by simp)
set_option maxHeartbeats 4000000 in
set_option maxRecDepth 100000 in
theorem c_L_places (l : Launch) (D : va_G) (cI cJ cB : ClassId) (h b0 k0 w0 z0 : Nat) (ad0 ca0 : Nat → Nat) (S : hy_S) (o : Nat) (f : Nat → Int64) (hl9 : l.stackTraces = false) (hwf : hy_wf S) (sz : Nat) (a1 : Int32) : Met l yL_places wsL_places ({ frames := 9, cells := 2, slots := 12, locals := 153 }) (va_Pc [.ref h, .int a1, .ref o] (hy_IW D cI cJ cB h b0 k0 w0 z0 ad0 ca0 S o f sz)) (va_Qi (fun (r : Int32) (_ : Unit) => r = (hy_krow S a1)) (fun _ => hy_AtO D cI cJ cB h o ((hy_vlen S a1).toInt64) S S (hy_krow S a1) (va_A (hy_O cJ o f :: hy_W cI cJ cB h b0 k0 w0 z0 ad0 ca0 S) sz)) (va_A (hy_O cJ o f :: hy_W cI cJ cB h b0 k0 w0 z0 ad0 ca0 S) sz)) 2 12 (va_A (hy_O cJ o f :: hy_W cI cJ cB h b0 k0 w0 z0 ad0 ca0 S) sz) := by
  refine va_MetW (cc := cL_places) (maxL := 4) (ret := some .int) (hh := [(0, 9, 12, 13), (0, 9, 15, 34)]) (by decide) rfl ?_
  intro p e s m args below meth c s₁ B hml hv
  obtain ⟨rfl, hsz, hP, hK, hD0, hE, hZ, hN⟩ := hv
  have hx := B.exec
  have hb := B.bytes
  have hr := B.returns
  have hts := atoms_spec (ws := wsL_places) B.pre
  have hown : s.vm.findClass RL = some m.cls := findClass_of_methodNamed B.named
  have hlocks := B.notSynchronized
  have htab := vx_table (x := yL_places) B (hts _ List.mem_cons_self)
  subst hsz
  have hl := lv_entry ([.ref h, .int a1, .ref o]) (n := 4) (Nat.le_of_ble_eq_true rfl)
  rw [lg_entry_eq]
  generalize (lg_sl ([.ref h, .int a1, .ref o]) ++ List.replicate (4 - (lg_sl ([.ref h, .int a1, .ref o])).length) Slot.unset).toArray = ls at hl ⊢
  have hl : lv_has ls 4 [(0, .ref h), (1, .int a1), (2, .ref o)] := hl
  refine lv_aload_n hx hb dL_places_0 rfl (lv_at hl 2 rfl) ?_
  refine lv_iconst (v := 0) hx hb dL_places_1 (by decide) ?_
  refine lv_aload_n hx hb dL_places_2 rfl (lv_at hl 0 rfl) ?_
  refine lv_iload_n hx hb dL_places_3 rfl (lv_at hl 1 rfl) ?_
  have hPw : va_P D vwCl (hy_W cI cJ cB h b0 k0 w0 z0 ad0 ca0 S) s.heap := fun k9 q9 h9 => hP (k9 + 1) q9 h9
  have hDw : va_D (fun _ => True) (hy_W cI cJ cB h b0 k0 w0 z0 ad0 ca0 S) := (hy_left (hy_swap (X := [hy_O cJ o f]) (Y := hy_W cI cJ cB h b0 k0 w0 z0 ad0 ca0 S) hP hD0).1 (hy_swap (X := [hy_O cJ o f]) (Y := hy_W cI cJ cB h b0 k0 w0 z0 ad0 ca0 S) hP hD0).2).2
  refine hy_wcall (L := ["java/lang/IndexOutOfBoundsException", "java/lang/IllegalStateException"]) (K := (hy_krow S a1)) (V := .int (hy_vlen S a1)) (S2 := S) (vx_runV (As := [.int a1]) (rest := [.int 0, .ref o]) ⟨hx, hb, hml, hown, hts⟩ (c_X1_places l D cI cJ cB h b0 k0 w0 z0 ad0 ca0 S hl9 hwf s.heap.size a1) (cwV 1 hts gL_places_X1_places rfl rfl rfl (by decide +kernel) ⟨Nat.le_of_ble_eq_true rfl, Nat.le_of_ble_eq_true rfl⟩) ⟨hy_IP_blind, va_recv hK hPw (ci := 1) (q0 := 0) rfl rfl, fun U hU hW => ⟨rfl, by rw [hU], hy_IX_at hU hW hPw hK hE hZ, hDw⟩⟩ rfl rfl hl.1 rfl (lv_room (Nat.le_of_ble_eq_true rfl)) dL_places_4 ⟨Nat.le_of_ble_eq_true rfl, Nat.le_of_ble_eq_true rfl⟩) (fun st v t q9 => hy_Qi (fun r u q => q) q9) hP hD0 (fun b k w z ad ca H locs hk hP hD hS => ?_) (fun E ce q j H locs hj hk hP hD hS hcell hcv hcl => ?_)
  · refine W.widen (k := 2) (n := 12) (Nat.le_of_ble_eq_true rfl) (Nat.le_of_ble_eq_true rfl) ?_
    refine lv_i2l (v := ((hy_vlen S a1).toInt64)) hx hb dL_places_7 rfl ?_
    refine va_last hx hb hK hP hD hS 0 1 rfl rfl (vp_in_nI (n := 0) (by decide) (by decide)) dL_places_8 (fun H locs hP hD hS => ?_)
    have hP : va_P D vwCl (hy_O cJ o (vp_updL f 0 ((hy_vlen S a1).toInt64)) :: hy_W cI cJ cB h b k w z ad ca S) H := hP
    have hD : va_D (va_A (hy_O cJ o f :: hy_W cI cJ cB h b0 k0 w0 z0 ad0 ca0 S) s.heap.size) (hy_O cJ o (vp_updL f 0 ((hy_vlen S a1).toInt64)) :: hy_W cI cJ cB h b k w z ad ca S) := hD
    refine lv_goto (tgt := 18) hx hb dL_places_9 (by decide) ?_
    refine lv_iconst (v := 0) hx hb dL_places_18 (by decide) ?_
    exact W.iret (v := 0) hx hb hr (fun t ht hW => ⟨⟨_, (), rfl, hk.symm, b, k, w, z, ad, ca, vp_updL f 0 ((hy_vlen S a1).toInt64), S, fun _ => ⟨if_pos rfl, rfl⟩, fun q => absurd hk q, by rw [ht]; exact hP, va_K.moved hW.alike hK, hD⟩, hS.F ht⟩) hS.2.2 dL_places_19
  · match j, hj, hk with
    | 0, hj, hk =>
      cases Option.some.inj hj
      refine vx_catch (name := "java/lang/IndexOutOfBoundsException") hown [] ⟨0, 9, 12, 13⟩ [⟨0, 9, 15, 34⟩] htab (fun _ h9 => nomatch h9) (by decide) (by decide) (hts (.classLink RL 13 "java/lang/IndexOutOfBoundsException") (by decide +kernel)) (va_Nw.use rfl (hE.1 _ (by decide +kernel))) hcell hcv hcl ?_
      refine W.widen (k := 2) (n := 12) (Nat.le_of_ble_eq_true rfl) (Nat.le_of_ble_eq_true rfl) ?_
      refine lv_astore_n (lv' := [(3, .ref q), (0, .ref h), (1, .int a1), (2, .ref o)]) hx hb dL_places_12 rfl hl (by decide) rfl (fun ls hl => ?_)
      refine lv_iconst (v := 1) hx hb dL_places_13 (by decide) ?_
      have hk1 : (hy_krow S a1) = 1 := hk.trans (by decide +kernel)
      exact W.iret (v := 1) hx hb hr (fun t ht hW => ⟨⟨_, (), rfl, hk1.symm, b0, k0, w0, z0, ad0, ca0, f, S, fun q => absurd (hk1.symm.trans q) (by decide), fun _ => rfl, by rw [ht]; exact hP, va_K.moved hW.alike hK, hD⟩, hS.F ht⟩) hS.2.2 dL_places_14
    | 1, hj, hk =>
      cases Option.some.inj hj
      refine vx_catch (name := "java/lang/IllegalStateException") hown [⟨0, 9, 12, 13⟩] ⟨0, 9, 15, 34⟩ [] htab (List.forall_mem_cons.mpr ⟨Or.inr ⟨by decide, "java/lang/IndexOutOfBoundsException", hts (.classLink RL 13 "java/lang/IndexOutOfBoundsException") (by decide +kernel), hN _ (by decide +kernel) _ (by decide +kernel) (by decide +kernel)⟩, fun _ h9 => nomatch h9⟩) (by decide) (by decide) (hts (.classLink RL 34 "java/lang/IllegalStateException") (by decide +kernel)) (va_Nw.use rfl (hE.1 _ (by decide +kernel))) hcell hcv hcl ?_
      refine W.widen (k := 2) (n := 12) (Nat.le_of_ble_eq_true rfl) (Nat.le_of_ble_eq_true rfl) ?_
      refine lv_astore_n (lv' := [(3, .ref q), (0, .ref h), (1, .int a1), (2, .ref o)]) hx hb dL_places_15 rfl hl (by decide) rfl (fun ls hl => ?_)
      refine lv_iconst (v := 2) hx hb dL_places_16 (by decide) ?_
      have hk1 : (hy_krow S a1) = 2 := hk.trans (by decide +kernel)
      exact W.iret (v := 2) hx hb hr (fun t ht hW => ⟨⟨_, (), rfl, hk1.symm, b0, k0, w0, z0, ad0, ca0, f, S, fun q => absurd (hk1.symm.trans q) (by decide), fun _ => rfl, by rw [ht]; exact hP, va_K.moved hW.alike hK, hD⟩, hS.F ht⟩) hS.2.2 dL_places_17
    | j + 2, hj, hk => exact absurd hj (by simp)
set_option maxHeartbeats 4000000 in
set_option maxRecDepth 100000 in
theorem c_L_same (l : Launch) (D : va_G) (cI cJ cB : ClassId) (h b0 k0 w0 z0 : Nat) (ad0 ca0 : Nat → Nat) (S : hy_S) (o : Nat) (f : Nat → Int64) (hl9 : l.stackTraces = false) (hwf : hy_wf S) (sz : Nat) (a1 a2 : Int32) : Met l yL_same wsL_same ({ frames := 9, cells := 2, slots := 12, locals := 155 }) (va_Pc [.ref h, .int a1, .int a2, .ref o] (hy_IW D cI cJ cB h b0 k0 w0 z0 ad0 ca0 S o f sz)) (va_Qi (fun (r : Int32) (_ : Unit) => r = (hy_k2b a1 a2)) (fun _ => hy_AtO D cI cJ cB h o (hy_zl (hy_vsame S a1 a2)) S S (hy_k2b a1 a2) (va_A (hy_O cJ o f :: hy_W cI cJ cB h b0 k0 w0 z0 ad0 ca0 S) sz)) (va_A (hy_O cJ o f :: hy_W cI cJ cB h b0 k0 w0 z0 ad0 ca0 S) sz)) 2 12 (va_A (hy_O cJ o f :: hy_W cI cJ cB h b0 k0 w0 z0 ad0 ca0 S) sz) := by
  refine va_MetW (cc := cL_same) (maxL := 5) (ret := some .int) (hh := [(0, 17, 20, 13)]) (by decide) rfl ?_
  intro p e s m args below meth c s₁ B hml hv
  obtain ⟨rfl, hsz, hP, hK, hD0, hE, hZ, hN⟩ := hv
  have hx := B.exec
  have hb := B.bytes
  have hr := B.returns
  have hts := atoms_spec (ws := wsL_same) B.pre
  have hown : s.vm.findClass RL = some m.cls := findClass_of_methodNamed B.named
  have hlocks := B.notSynchronized
  have htab := vx_table (x := yL_same) B (hts _ List.mem_cons_self)
  subst hsz
  have hl := lv_entry ([.ref h, .int a1, .int a2, .ref o]) (n := 5) (Nat.le_of_ble_eq_true rfl)
  rw [lg_entry_eq]
  generalize (lg_sl ([.ref h, .int a1, .int a2, .ref o]) ++ List.replicate (5 - (lg_sl ([.ref h, .int a1, .int a2, .ref o])).length) Slot.unset).toArray = ls at hl ⊢
  have hl : lv_has ls 5 [(0, .ref h), (1, .int a1), (2, .int a2), (3, .ref o)] := hl
  refine lv_aload_n hx hb dL_same_0 rfl (lv_at hl 3 rfl) ?_
  refine lv_iconst (v := 0) hx hb dL_same_1 (by decide) ?_
  refine lv_aload_n hx hb dL_same_2 rfl (lv_at hl 0 rfl) ?_
  refine lv_iload_n hx hb dL_same_3 rfl (lv_at hl 1 rfl) ?_
  refine lv_iload_n hx hb dL_same_4 rfl (lv_at hl 2 rfl) ?_
  have hPw : va_P D vwCl (hy_W cI cJ cB h b0 k0 w0 z0 ad0 ca0 S) s.heap := fun k9 q9 h9 => hP (k9 + 1) q9 h9
  have hDw : va_D (fun _ => True) (hy_W cI cJ cB h b0 k0 w0 z0 ad0 ca0 S) := (hy_left (hy_swap (X := [hy_O cJ o f]) (Y := hy_W cI cJ cB h b0 k0 w0 z0 ad0 ca0 S) hP hD0).1 (hy_swap (X := [hy_O cJ o f]) (Y := hy_W cI cJ cB h b0 k0 w0 z0 ad0 ca0 S) hP hD0).2).2
  refine hy_wcall (L := ["java/lang/IndexOutOfBoundsException"]) (K := (hy_k2b a1 a2)) (V := .int (hy_vsame S a1 a2)) (S2 := S) (vx_runV (As := [.int a1, .int a2]) (rest := [.int 0, .ref o]) ⟨hx, hb, hml, hown, hts⟩ (c_X1_same l D cI cJ cB h b0 k0 w0 z0 ad0 ca0 S hl9 hwf s.heap.size a1 a2) (cwV 2 hts gL_same_X1_same rfl rfl rfl (by decide +kernel) ⟨Nat.le_of_ble_eq_true rfl, Nat.le_of_ble_eq_true rfl⟩) ⟨hy_IP_blind, va_recv hK hPw (ci := 1) (q0 := 0) rfl rfl, fun U hU hW => ⟨rfl, by rw [hU], hy_IX_at hU hW hPw hK hE hZ, hDw⟩⟩ rfl rfl hl.1 rfl (lv_room (Nat.le_of_ble_eq_true rfl)) dL_same_5 ⟨Nat.le_of_ble_eq_true rfl, Nat.le_of_ble_eq_true rfl⟩) (fun st v t q9 => hy_Qi (fun r u q => q) q9) hP hD0 (fun b k w z ad ca H locs hk hP hD hS => ?_) (fun E ce q j H locs hj hk hP hD hS hcell hcv hcl => ?_)
  · refine W.widen (k := 2) (n := 12) (Nat.le_of_ble_eq_true rfl) (Nat.le_of_ble_eq_true rfl) ?_
    refine lv_if_eq (tgt := 15) hx hb dL_same_8 (by decide) (fun c0 => ?_) (fun c0 => ?_)
    · refine lv_lconst (v := 0) hx hb dL_same_15 (by decide) ?_
      refine va_last hx hb hK hP hD hS 0 1 rfl rfl (vp_in_nI (n := 0) (by decide) (by decide)) dL_same_16 (fun H locs hP hD hS => ?_)
      have hP : va_P D vwCl (hy_O cJ o (vp_updL f 0 0) :: hy_W cI cJ cB h b k w z ad ca S) H := hP
      have hD : va_D (va_A (hy_O cJ o f :: hy_W cI cJ cB h b0 k0 w0 z0 ad0 ca0 S) s.heap.size) (hy_O cJ o (vp_updL f 0 0) :: hy_W cI cJ cB h b k w z ad ca S) := hD
      refine lv_goto (tgt := 24) hx hb dL_same_17 (by decide) ?_
      refine lv_iconst (v := 0) hx hb dL_same_24 (by decide) ?_
      exact W.iret (v := 0) hx hb hr (fun t ht hW => ⟨⟨_, (), rfl, hk.symm, b, k, w, z, ad, ca, vp_updL f 0 0, S, fun _ => ⟨(if_pos rfl : _ = (0 : Int64)).trans (if_pos c0).symm, rfl⟩, fun q => absurd hk q, by rw [ht]; exact hP, va_K.moved hW.alike hK, hD⟩, hS.F ht⟩) hS.2.2 dL_same_25
    · refine lv_lconst (v := 1) hx hb dL_same_11 (by decide) ?_
      refine lv_goto (tgt := 16) hx hb dL_same_12 (by decide) ?_
      refine va_last hx hb hK hP hD hS 0 1 rfl rfl (vp_in_nI (n := 0) (by decide) (by decide)) dL_same_16 (fun H locs hP hD hS => ?_)
      have hP : va_P D vwCl (hy_O cJ o (vp_updL f 0 1) :: hy_W cI cJ cB h b k w z ad ca S) H := hP
      have hD : va_D (va_A (hy_O cJ o f :: hy_W cI cJ cB h b0 k0 w0 z0 ad0 ca0 S) s.heap.size) (hy_O cJ o (vp_updL f 0 1) :: hy_W cI cJ cB h b k w z ad ca S) := hD
      refine lv_goto (tgt := 24) hx hb dL_same_17 (by decide) ?_
      refine lv_iconst (v := 0) hx hb dL_same_24 (by decide) ?_
      exact W.iret (v := 0) hx hb hr (fun t ht hW => ⟨⟨_, (), rfl, hk.symm, b, k, w, z, ad, ca, vp_updL f 0 1, S, fun _ => ⟨(if_pos rfl : _ = (1 : Int64)).trans (if_neg c0).symm, rfl⟩, fun q => absurd hk q, by rw [ht]; exact hP, va_K.moved hW.alike hK, hD⟩, hS.F ht⟩) hS.2.2 dL_same_25
  · match j, hj, hk with
    | 0, hj, hk =>
      cases Option.some.inj hj
      refine vx_catch (name := "java/lang/IndexOutOfBoundsException") hown [] ⟨0, 17, 20, 13⟩ [] htab (fun _ h9 => nomatch h9) (by decide) (by decide) (hts (.classLink RL 13 "java/lang/IndexOutOfBoundsException") (by decide +kernel)) (va_Nw.use rfl (hE.1 _ (by decide +kernel))) hcell hcv hcl ?_
      refine W.widen (k := 2) (n := 12) (Nat.le_of_ble_eq_true rfl) (Nat.le_of_ble_eq_true rfl) ?_
      refine lv_astore (lv' := [(4, .ref q), (0, .ref h), (1, .int a1), (2, .int a2), (3, .ref o)]) hx hb dL_same_20 hl (by decide) rfl (fun ls hl => ?_)
      refine lv_iconst (v := 1) hx hb dL_same_22 (by decide) ?_
      have hk1 : (hy_k2b a1 a2) = 1 := hk.trans (by decide +kernel)
      exact W.iret (v := 1) hx hb hr (fun t ht hW => ⟨⟨_, (), rfl, hk1.symm, b0, k0, w0, z0, ad0, ca0, f, S, fun q => absurd (hk1.symm.trans q) (by decide), fun _ => rfl, by rw [ht]; exact hP, va_K.moved hW.alike hK, hD⟩, hS.F ht⟩) hS.2.2 dL_same_23
    | j + 1, hj, hk => exact absurd hj (by simp)
set_option maxHeartbeats 4000000 in
set_option maxRecDepth 100000 in
theorem c_L_all (l : Launch) (D : va_G) (cI cJ cB : ClassId) (h b0 k0 w0 z0 : Nat) (ad0 ca0 : Nat → Nat) (S : hy_S) (o : Nat) (f : Nat → Int64) (hl9 : l.stackTraces = false) (hwf : hy_wf S) (sz : Nat) (a1 : Int32) : Met l yL_all wsL_all ({ frames := 9, cells := 2, slots := 12, locals := 153 }) (va_Pc [.ref h, .int a1, .ref o] (hy_IW D cI cJ cB h b0 k0 w0 z0 ad0 ca0 S o f sz)) (va_Qi (fun (r : Int32) (_ : Unit) => r = (hy_krow S a1)) (fun _ => hy_AtO D cI cJ cB h o (hy_vall S a1) S S (hy_krow S a1) (va_A (hy_O cJ o f :: hy_W cI cJ cB h b0 k0 w0 z0 ad0 ca0 S) sz)) (va_A (hy_O cJ o f :: hy_W cI cJ cB h b0 k0 w0 z0 ad0 ca0 S) sz)) 2 12 (va_A (hy_O cJ o f :: hy_W cI cJ cB h b0 k0 w0 z0 ad0 ca0 S) sz) := by
  refine va_MetW (cc := cL_all) (maxL := 4) (ret := some .int) (hh := [(0, 8, 11, 13), (0, 8, 14, 34)]) (by decide) rfl ?_
  intro p e s m args below meth c s₁ B hml hv
  obtain ⟨rfl, hsz, hP, hK, hD0, hE, hZ, hN⟩ := hv
  have hx := B.exec
  have hb := B.bytes
  have hr := B.returns
  have hts := atoms_spec (ws := wsL_all) B.pre
  have hown : s.vm.findClass RL = some m.cls := findClass_of_methodNamed B.named
  have hlocks := B.notSynchronized
  have htab := vx_table (x := yL_all) B (hts _ List.mem_cons_self)
  subst hsz
  have hl := lv_entry ([.ref h, .int a1, .ref o]) (n := 4) (Nat.le_of_ble_eq_true rfl)
  rw [lg_entry_eq]
  generalize (lg_sl ([.ref h, .int a1, .ref o]) ++ List.replicate (4 - (lg_sl ([.ref h, .int a1, .ref o])).length) Slot.unset).toArray = ls at hl ⊢
  have hl : lv_has ls 4 [(0, .ref h), (1, .int a1), (2, .ref o)] := hl
  refine lv_aload_n hx hb dL_all_0 rfl (lv_at hl 2 rfl) ?_
  refine lv_iconst (v := 0) hx hb dL_all_1 (by decide) ?_
  refine lv_aload_n hx hb dL_all_2 rfl (lv_at hl 0 rfl) ?_
  refine lv_iload_n hx hb dL_all_3 rfl (lv_at hl 1 rfl) ?_
  have hPw : va_P D vwCl (hy_W cI cJ cB h b0 k0 w0 z0 ad0 ca0 S) s.heap := fun k9 q9 h9 => hP (k9 + 1) q9 h9
  have hDw : va_D (fun _ => True) (hy_W cI cJ cB h b0 k0 w0 z0 ad0 ca0 S) := (hy_left (hy_swap (X := [hy_O cJ o f]) (Y := hy_W cI cJ cB h b0 k0 w0 z0 ad0 ca0 S) hP hD0).1 (hy_swap (X := [hy_O cJ o f]) (Y := hy_W cI cJ cB h b0 k0 w0 z0 ad0 ca0 S) hP hD0).2).2
  refine hy_wcall (L := ["java/lang/IndexOutOfBoundsException", "java/lang/IllegalStateException"]) (K := (hy_krow S a1)) (V := .long (hy_vall S a1)) (S2 := S) (vx_runV (As := [.int a1]) (rest := [.int 0, .ref o]) ⟨hx, hb, hml, hown, hts⟩ (c_X1_all l D cI cJ cB h b0 k0 w0 z0 ad0 ca0 S hl9 hwf s.heap.size a1) (cwV 1 hts gL_all_X1_all rfl rfl rfl (by decide +kernel) ⟨Nat.le_of_ble_eq_true rfl, Nat.le_of_ble_eq_true rfl⟩) ⟨hy_IP_blind, va_recv hK hPw (ci := 1) (q0 := 0) rfl rfl, fun U hU hW => ⟨rfl, by rw [hU], hy_IX_at hU hW hPw hK hE hZ, hDw⟩⟩ rfl rfl hl.1 rfl (lv_room (Nat.le_of_ble_eq_true rfl)) dL_all_4 ⟨Nat.le_of_ble_eq_true rfl, Nat.le_of_ble_eq_true rfl⟩) (fun st v t q9 => hy_Ql (fun r u q => q) q9) hP hD0 (fun b k w z ad ca H locs hk hP hD hS => ?_) (fun E ce q j H locs hj hk hP hD hS hcell hcv hcl => ?_)
  · refine W.widen (k := 2) (n := 12) (Nat.le_of_ble_eq_true rfl) (Nat.le_of_ble_eq_true rfl) ?_
    refine va_last hx hb hK hP hD hS 0 1 rfl rfl (vp_in_nI (n := 0) (by decide) (by decide)) dL_all_7 (fun H locs hP hD hS => ?_)
    have hP : va_P D vwCl (hy_O cJ o (vp_updL f 0 (hy_vall S a1)) :: hy_W cI cJ cB h b k w z ad ca S) H := hP
    have hD : va_D (va_A (hy_O cJ o f :: hy_W cI cJ cB h b0 k0 w0 z0 ad0 ca0 S) s.heap.size) (hy_O cJ o (vp_updL f 0 (hy_vall S a1)) :: hy_W cI cJ cB h b k w z ad ca S) := hD
    refine lv_goto (tgt := 17) hx hb dL_all_8 (by decide) ?_
    refine lv_iconst (v := 0) hx hb dL_all_17 (by decide) ?_
    exact W.iret (v := 0) hx hb hr (fun t ht hW => ⟨⟨_, (), rfl, hk.symm, b, k, w, z, ad, ca, vp_updL f 0 (hy_vall S a1), S, fun _ => ⟨if_pos rfl, rfl⟩, fun q => absurd hk q, by rw [ht]; exact hP, va_K.moved hW.alike hK, hD⟩, hS.F ht⟩) hS.2.2 dL_all_18
  · match j, hj, hk with
    | 0, hj, hk =>
      cases Option.some.inj hj
      refine vx_catch (name := "java/lang/IndexOutOfBoundsException") hown [] ⟨0, 8, 11, 13⟩ [⟨0, 8, 14, 34⟩] htab (fun _ h9 => nomatch h9) (by decide) (by decide) (hts (.classLink RL 13 "java/lang/IndexOutOfBoundsException") (by decide +kernel)) (va_Nw.use rfl (hE.1 _ (by decide +kernel))) hcell hcv hcl ?_
      refine W.widen (k := 2) (n := 12) (Nat.le_of_ble_eq_true rfl) (Nat.le_of_ble_eq_true rfl) ?_
      refine lv_astore_n (lv' := [(3, .ref q), (0, .ref h), (1, .int a1), (2, .ref o)]) hx hb dL_all_11 rfl hl (by decide) rfl (fun ls hl => ?_)
      refine lv_iconst (v := 1) hx hb dL_all_12 (by decide) ?_
      have hk1 : (hy_krow S a1) = 1 := hk.trans (by decide +kernel)
      exact W.iret (v := 1) hx hb hr (fun t ht hW => ⟨⟨_, (), rfl, hk1.symm, b0, k0, w0, z0, ad0, ca0, f, S, fun q => absurd (hk1.symm.trans q) (by decide), fun _ => rfl, by rw [ht]; exact hP, va_K.moved hW.alike hK, hD⟩, hS.F ht⟩) hS.2.2 dL_all_13
    | 1, hj, hk =>
      cases Option.some.inj hj
      refine vx_catch (name := "java/lang/IllegalStateException") hown [⟨0, 8, 11, 13⟩] ⟨0, 8, 14, 34⟩ [] htab (List.forall_mem_cons.mpr ⟨Or.inr ⟨by decide, "java/lang/IndexOutOfBoundsException", hts (.classLink RL 13 "java/lang/IndexOutOfBoundsException") (by decide +kernel), hN _ (by decide +kernel) _ (by decide +kernel) (by decide +kernel)⟩, fun _ h9 => nomatch h9⟩) (by decide) (by decide) (hts (.classLink RL 34 "java/lang/IllegalStateException") (by decide +kernel)) (va_Nw.use rfl (hE.1 _ (by decide +kernel))) hcell hcv hcl ?_
      refine W.widen (k := 2) (n := 12) (Nat.le_of_ble_eq_true rfl) (Nat.le_of_ble_eq_true rfl) ?_
      refine lv_astore_n (lv' := [(3, .ref q), (0, .ref h), (1, .int a1), (2, .ref o)]) hx hb dL_all_14 rfl hl (by decide) rfl (fun ls hl => ?_)
      refine lv_iconst (v := 2) hx hb dL_all_15 (by decide) ?_
      have hk1 : (hy_krow S a1) = 2 := hk.trans (by decide +kernel)
      exact W.iret (v := 2) hx hb hr (fun t ht hW => ⟨⟨_, (), rfl, hk1.symm, b0, k0, w0, z0, ad0, ca0, f, S, fun q => absurd (hk1.symm.trans q) (by decide), fun _ => rfl, by rw [ht]; exact hP, va_K.moved hW.alike hK, hD⟩, hS.F ht⟩) hS.2.2 dL_all_16
    | j + 2, hj, hk => exact absurd hj (by simp)
set_option maxHeartbeats 4000000 in
set_option maxRecDepth 100000 in
theorem c_L_feed (l : Launch) (D : va_G) (cI cJ cB : ClassId) (h b0 k0 w0 z0 : Nat) (ad0 ca0 : Nat → Nat) (S : hy_S) (o : Nat) (f : Nat → Int64) (hl9 : l.stackTraces = false) (hwf : hy_wf S) (sz : Nat) (a1 a2 : Int32) : Met l yL_feed wsL_feed ({ frames := 8, cells := 1, slots := 6, locals := 133 }) (va_Pc [.ref h, .int a1, .int a2, .ref o] (hy_IW D cI cJ cB h b0 k0 w0 z0 ad0 ca0 S o f sz)) (va_Qi (fun (r : Int32) (_ : Unit) => r = (hy_kcomb S a1)) (fun _ => hy_AtO D cI cJ cB h o ((hy_we S a1.toNatClampNeg + a2).toInt64) (hy_uwe S (upd (hy_we S) a1.toNatClampNeg (hy_we S a1.toNatClampNeg + a2))) S (hy_kcomb S a1) (va_A (hy_O cJ o f :: hy_W cI cJ cB h b0 k0 w0 z0 ad0 ca0 S) sz)) (va_A (hy_O cJ o f :: hy_W cI cJ cB h b0 k0 w0 z0 ad0 ca0 S) sz)) 1 6 (va_A (hy_O cJ o f :: hy_W cI cJ cB h b0 k0 w0 z0 ad0 ca0 S) sz) := by
  refine va_MetW (cc := cL_feed) (maxL := 5) (ret := some .int) (hh := [(0, 10, 13, 36)]) (by decide) rfl ?_
  intro p e s m args below meth c s₁ B hml hv
  obtain ⟨rfl, hsz, hP, hK, hD0, hE, hZ, hN⟩ := hv
  have hx := B.exec
  have hb := B.bytes
  have hr := B.returns
  have hts := atoms_spec (ws := wsL_feed) B.pre
  have hown : s.vm.findClass RL = some m.cls := findClass_of_methodNamed B.named
  have hlocks := B.notSynchronized
  have htab := vx_table (x := yL_feed) B (hts _ List.mem_cons_self)
  subst hsz
  have hl := lv_entry ([.ref h, .int a1, .int a2, .ref o]) (n := 5) (Nat.le_of_ble_eq_true rfl)
  rw [lg_entry_eq]
  generalize (lg_sl ([.ref h, .int a1, .int a2, .ref o]) ++ List.replicate (5 - (lg_sl ([.ref h, .int a1, .int a2, .ref o])).length) Slot.unset).toArray = ls at hl ⊢
  have hl : lv_has ls 5 [(0, .ref h), (1, .int a1), (2, .int a2), (3, .ref o)] := hl
  refine lv_aload_n hx hb dL_feed_0 rfl (lv_at hl 3 rfl) ?_
  refine lv_iconst (v := 0) hx hb dL_feed_1 (by decide) ?_
  refine lv_aload_n hx hb dL_feed_2 rfl (lv_at hl 0 rfl) ?_
  refine lv_iload_n hx hb dL_feed_3 rfl (lv_at hl 1 rfl) ?_
  refine lv_iload_n hx hb dL_feed_4 rfl (lv_at hl 2 rfl) ?_
  have hPw : va_P D vwCl (hy_W cI cJ cB h b0 k0 w0 z0 ad0 ca0 S) s.heap := fun k9 q9 h9 => hP (k9 + 1) q9 h9
  have hDw : va_D (fun _ => True) (hy_W cI cJ cB h b0 k0 w0 z0 ad0 ca0 S) := (hy_left (hy_swap (X := [hy_O cJ o f]) (Y := hy_W cI cJ cB h b0 k0 w0 z0 ad0 ca0 S) hP hD0).1 (hy_swap (X := [hy_O cJ o f]) (Y := hy_W cI cJ cB h b0 k0 w0 z0 ad0 ca0 S) hP hD0).2).2
  refine hy_wcall (L := ["java/util/NoSuchElementException"]) (K := (hy_kcomb S a1)) (V := .int (hy_we S a1.toNatClampNeg + a2)) (S2 := (hy_uwe S (upd (hy_we S) a1.toNatClampNeg (hy_we S a1.toNatClampNeg + a2)))) (vx_runV (As := [.int a1, .int a2]) (rest := [.int 0, .ref o]) ⟨hx, hb, hml, hown, hts⟩ (c_X1_feed l D cI cJ cB h b0 k0 w0 z0 ad0 ca0 S hl9 hwf s.heap.size a1 a2) (cwV 2 hts gL_feed_X1_feed rfl rfl rfl (by decide +kernel) ⟨Nat.le_of_ble_eq_true rfl, Nat.le_of_ble_eq_true rfl⟩) ⟨hy_IP_blind, va_recv hK hPw (ci := 1) (q0 := 0) rfl rfl, fun U hU hW => ⟨rfl, by rw [hU], hy_IX_at hU hW hPw hK hE hZ, hDw⟩⟩ rfl rfl hl.1 rfl (lv_room (Nat.le_of_ble_eq_true rfl)) dL_feed_5 ⟨Nat.le_of_ble_eq_true rfl, Nat.le_of_ble_eq_true rfl⟩) (fun st v t q9 => hy_Qi (fun r u q => q) q9) hP hD0 (fun b k w z ad ca H locs hk hP hD hS => ?_) (fun E ce q j H locs hj hk hP hD hS hcell hcv hcl => ?_)
  · refine W.widen (k := 1) (n := 6) (Nat.le_of_ble_eq_true rfl) (Nat.le_of_ble_eq_true rfl) ?_
    refine lv_i2l (v := ((hy_we S a1.toNatClampNeg + a2).toInt64)) hx hb dL_feed_8 rfl ?_
    refine va_last hx hb hK hP hD hS 0 1 rfl rfl (vp_in_nI (n := 0) (by decide) (by decide)) dL_feed_9 (fun H locs hP hD hS => ?_)
    have hP : va_P D vwCl (hy_O cJ o (vp_updL f 0 ((hy_we S a1.toNatClampNeg + a2).toInt64)) :: hy_W cI cJ cB h b k w z ad ca (hy_uwe S (upd (hy_we S) a1.toNatClampNeg (hy_we S a1.toNatClampNeg + a2)))) H := hP
    have hD : va_D (va_A (hy_O cJ o f :: hy_W cI cJ cB h b0 k0 w0 z0 ad0 ca0 S) s.heap.size) (hy_O cJ o (vp_updL f 0 ((hy_we S a1.toNatClampNeg + a2).toInt64)) :: hy_W cI cJ cB h b k w z ad ca (hy_uwe S (upd (hy_we S) a1.toNatClampNeg (hy_we S a1.toNatClampNeg + a2)))) := hD
    refine lv_goto (tgt := 17) hx hb dL_feed_10 (by decide) ?_
    refine lv_iconst (v := 0) hx hb dL_feed_17 (by decide) ?_
    exact W.iret (v := 0) hx hb hr (fun t ht hW => ⟨⟨_, (), rfl, hk.symm, b, k, w, z, ad, ca, vp_updL f 0 ((hy_we S a1.toNatClampNeg + a2).toInt64), (hy_uwe S (upd (hy_we S) a1.toNatClampNeg (hy_we S a1.toNatClampNeg + a2))), fun _ => ⟨if_pos rfl, rfl⟩, fun q => absurd hk q, by rw [ht]; exact hP, va_K.moved hW.alike hK, hD⟩, hS.F ht⟩) hS.2.2 dL_feed_18
  · match j, hj, hk with
    | 0, hj, hk =>
      cases Option.some.inj hj
      refine vx_catch (name := "java/util/NoSuchElementException") hown [] ⟨0, 10, 13, 36⟩ [] htab (fun _ h9 => nomatch h9) (by decide) (by decide) (hts (.classLink RL 36 "java/util/NoSuchElementException") (by decide +kernel)) (va_Nw.use rfl (hE.1 _ (by decide +kernel))) hcell hcv hcl ?_
      refine W.widen (k := 1) (n := 6) (Nat.le_of_ble_eq_true rfl) (Nat.le_of_ble_eq_true rfl) ?_
      refine lv_astore (lv' := [(4, .ref q), (0, .ref h), (1, .int a1), (2, .int a2), (3, .ref o)]) hx hb dL_feed_13 hl (by decide) rfl (fun ls hl => ?_)
      refine lv_iconst (v := 1) hx hb dL_feed_15 (by decide) ?_
      have hk1 : (hy_kcomb S a1) = 1 := hk.trans (by decide +kernel)
      exact W.iret (v := 1) hx hb hr (fun t ht hW => ⟨⟨_, (), rfl, hk1.symm, b0, k0, w0, z0, ad0, ca0, f, S, fun q => absurd (hk1.symm.trans q) (by decide), fun _ => rfl, by rw [ht]; exact hP, va_K.moved hW.alike hK, hD⟩, hS.F ht⟩) hS.2.2 dL_feed_16
    | j + 1, hj, hk => exact absurd hj (by simp)
set_option maxHeartbeats 4000000 in
set_option maxRecDepth 100000 in
theorem c_L_kind (l : Launch) (D : va_G) (cI cJ cB : ClassId) (h b0 k0 w0 z0 : Nat) (ad0 ca0 : Nat → Nat) (S : hy_S) (o : Nat) (f : Nat → Int64) (hl9 : l.stackTraces = false) (hwf : hy_wf S) (sz : Nat) (a1 : Int32) : Met l yL_kind wsL_kind ({ frames := 8, cells := 1, slots := 6, locals := 132 }) (va_Pc [.ref h, .int a1, .ref o] (hy_IW D cI cJ cB h b0 k0 w0 z0 ad0 ca0 S o f sz)) (va_Qi (fun (r : Int32) (_ : Unit) => r = (hy_kcomb S a1)) (fun _ => hy_AtO D cI cJ cB h o ((hy_ki S a1.toNatClampNeg).toInt64) S S (hy_kcomb S a1) (va_A (hy_O cJ o f :: hy_W cI cJ cB h b0 k0 w0 z0 ad0 ca0 S) sz)) (va_A (hy_O cJ o f :: hy_W cI cJ cB h b0 k0 w0 z0 ad0 ca0 S) sz)) 1 6 (va_A (hy_O cJ o f :: hy_W cI cJ cB h b0 k0 w0 z0 ad0 ca0 S) sz) := by
  refine va_MetW (cc := cL_kind) (maxL := 4) (ret := some .int) (hh := [(0, 9, 12, 36)]) (by decide) rfl ?_
  intro p e s m args below meth c s₁ B hml hv
  obtain ⟨rfl, hsz, hP, hK, hD0, hE, hZ, hN⟩ := hv
  have hx := B.exec
  have hb := B.bytes
  have hr := B.returns
  have hts := atoms_spec (ws := wsL_kind) B.pre
  have hown : s.vm.findClass RL = some m.cls := findClass_of_methodNamed B.named
  have hlocks := B.notSynchronized
  have htab := vx_table (x := yL_kind) B (hts _ List.mem_cons_self)
  subst hsz
  have hl := lv_entry ([.ref h, .int a1, .ref o]) (n := 4) (Nat.le_of_ble_eq_true rfl)
  rw [lg_entry_eq]
  generalize (lg_sl ([.ref h, .int a1, .ref o]) ++ List.replicate (4 - (lg_sl ([.ref h, .int a1, .ref o])).length) Slot.unset).toArray = ls at hl ⊢
  have hl : lv_has ls 4 [(0, .ref h), (1, .int a1), (2, .ref o)] := hl
  refine lv_aload_n hx hb dL_kind_0 rfl (lv_at hl 2 rfl) ?_
  refine lv_iconst (v := 0) hx hb dL_kind_1 (by decide) ?_
  refine lv_aload_n hx hb dL_kind_2 rfl (lv_at hl 0 rfl) ?_
  refine lv_iload_n hx hb dL_kind_3 rfl (lv_at hl 1 rfl) ?_
  have hPw : va_P D vwCl (hy_W cI cJ cB h b0 k0 w0 z0 ad0 ca0 S) s.heap := fun k9 q9 h9 => hP (k9 + 1) q9 h9
  have hDw : va_D (fun _ => True) (hy_W cI cJ cB h b0 k0 w0 z0 ad0 ca0 S) := (hy_left (hy_swap (X := [hy_O cJ o f]) (Y := hy_W cI cJ cB h b0 k0 w0 z0 ad0 ca0 S) hP hD0).1 (hy_swap (X := [hy_O cJ o f]) (Y := hy_W cI cJ cB h b0 k0 w0 z0 ad0 ca0 S) hP hD0).2).2
  refine hy_wcall (L := ["java/util/NoSuchElementException"]) (K := (hy_kcomb S a1)) (V := .int (hy_ki S a1.toNatClampNeg)) (S2 := S) (vx_runV (As := [.int a1]) (rest := [.int 0, .ref o]) ⟨hx, hb, hml, hown, hts⟩ (c_X1_kind l D cI cJ cB h b0 k0 w0 z0 ad0 ca0 S hl9 hwf s.heap.size a1) (cwV 1 hts gL_kind_X1_kind rfl rfl rfl (by decide +kernel) ⟨Nat.le_of_ble_eq_true rfl, Nat.le_of_ble_eq_true rfl⟩) ⟨hy_IP_blind, va_recv hK hPw (ci := 1) (q0 := 0) rfl rfl, fun U hU hW => ⟨rfl, by rw [hU], hy_IX_at hU hW hPw hK hE hZ, hDw⟩⟩ rfl rfl hl.1 rfl (lv_room (Nat.le_of_ble_eq_true rfl)) dL_kind_4 ⟨Nat.le_of_ble_eq_true rfl, Nat.le_of_ble_eq_true rfl⟩) (fun st v t q9 => hy_Qi (fun r u q => q) q9) hP hD0 (fun b k w z ad ca H locs hk hP hD hS => ?_) (fun E ce q j H locs hj hk hP hD hS hcell hcv hcl => ?_)
  · refine W.widen (k := 1) (n := 6) (Nat.le_of_ble_eq_true rfl) (Nat.le_of_ble_eq_true rfl) ?_
    refine lv_i2l (v := ((hy_ki S a1.toNatClampNeg).toInt64)) hx hb dL_kind_7 rfl ?_
    refine va_last hx hb hK hP hD hS 0 1 rfl rfl (vp_in_nI (n := 0) (by decide) (by decide)) dL_kind_8 (fun H locs hP hD hS => ?_)
    have hP : va_P D vwCl (hy_O cJ o (vp_updL f 0 ((hy_ki S a1.toNatClampNeg).toInt64)) :: hy_W cI cJ cB h b k w z ad ca S) H := hP
    have hD : va_D (va_A (hy_O cJ o f :: hy_W cI cJ cB h b0 k0 w0 z0 ad0 ca0 S) s.heap.size) (hy_O cJ o (vp_updL f 0 ((hy_ki S a1.toNatClampNeg).toInt64)) :: hy_W cI cJ cB h b k w z ad ca S) := hD
    refine lv_goto (tgt := 15) hx hb dL_kind_9 (by decide) ?_
    refine lv_iconst (v := 0) hx hb dL_kind_15 (by decide) ?_
    exact W.iret (v := 0) hx hb hr (fun t ht hW => ⟨⟨_, (), rfl, hk.symm, b, k, w, z, ad, ca, vp_updL f 0 ((hy_ki S a1.toNatClampNeg).toInt64), S, fun _ => ⟨if_pos rfl, rfl⟩, fun q => absurd hk q, by rw [ht]; exact hP, va_K.moved hW.alike hK, hD⟩, hS.F ht⟩) hS.2.2 dL_kind_16
  · match j, hj, hk with
    | 0, hj, hk =>
      cases Option.some.inj hj
      refine vx_catch (name := "java/util/NoSuchElementException") hown [] ⟨0, 9, 12, 36⟩ [] htab (fun _ h9 => nomatch h9) (by decide) (by decide) (hts (.classLink RL 36 "java/util/NoSuchElementException") (by decide +kernel)) (va_Nw.use rfl (hE.1 _ (by decide +kernel))) hcell hcv hcl ?_
      refine W.widen (k := 1) (n := 6) (Nat.le_of_ble_eq_true rfl) (Nat.le_of_ble_eq_true rfl) ?_
      refine lv_astore_n (lv' := [(3, .ref q), (0, .ref h), (1, .int a1), (2, .ref o)]) hx hb dL_kind_12 rfl hl (by decide) rfl (fun ls hl => ?_)
      refine lv_iconst (v := 1) hx hb dL_kind_13 (by decide) ?_
      have hk1 : (hy_kcomb S a1) = 1 := hk.trans (by decide +kernel)
      exact W.iret (v := 1) hx hb hr (fun t ht hW => ⟨⟨_, (), rfl, hk1.symm, b0, k0, w0, z0, ad0, ca0, f, S, fun q => absurd (hk1.symm.trans q) (by decide), fun _ => rfl, by rw [ht]; exact hP, va_K.moved hW.alike hK, hD⟩, hS.F ht⟩) hS.2.2 dL_kind_14
    | j + 1, hj, hk => exact absurd hj (by simp)
