/-! THE CLASS: ended. Rows laid by gen.py, specs_w.py. -/
set_option maxHeartbeats 4000000 in
set_option maxRecDepth 100000 in
theorem c_X1_ended (l : Launch) (D : va_G) (cI cJ cB : ClassId) (h b k w z : Nat) (ad ca : Nat → Nat) (S : hy_S) (sz : Nat) (a1 a2 : Int32) (hin : vp_in a1 6) : Met l yX1_ended wsX1_ended ({ frames := 0, cells := 0, slots := 0, locals := 0 }) (va_Pc [.ref h, .int a1, .int a2] (hy_IM D cI cJ cB h b k w z ad ca S sz)) (va_Qi (fun (r9 : Int32) (_ : Unit) => r9 = a1) (fun _ => hy_AtS D cI cJ cB h b k w z ad ca (hy_end S a1 a2) (va_A (hy_W cI cJ cB h b k w z ad ca S) sz)) (va_A (hy_W cI cJ cB h b k w z ad ca S) sz)) 0 0 (va_A (hy_W cI cJ cB h b k w z ad ca S) sz) := by
  refine Met.ofW (cc := cX1_ended) (maxL := 3) (ret := (some .int)) (by decide) rfl ?_
  intro p e s m args below meth c s₁ B hml hv
  obtain ⟨rfl, hsz, ⟨hP, hK⟩, hD0⟩ := hv
  have hx := B.exec
  have hb := B.bytes
  have hr := B.returns
  have hts := atoms_spec (ws := wsX1_ended) B.pre
  have hown : s.vm.findClass RX1 = some m.cls := findClass_of_methodNamed B.named
  have hlocks := B.notSynchronized
  subst hsz
  have hD := hD0.self (sz := s.heap.size)
  generalize hAe : va_A (hy_W cI cJ cB h b k w z ad ca S) s.heap.size = A at hD ⊢
  have hA : ∀ q : Nat, s.heap.size ≤ q → A q := fun q h => by rw [← hAe]; exact Or.inr h
  have hS : va_S A s.heap s.heap [] := va_S.rf
  have hinX1 : ∀ w ∈ wsX10, w ∈ wsX1_ended := by decide +kernel
  have hl := lv_entry ([.ref h, .int a1, .int a2]) (n := 3) (Nat.le_of_ble_eq_true rfl)
  rw [lg_entry_eq]
  generalize (lg_sl ([.ref h, .int a1, .int a2]) ++ List.replicate (3 - (lg_sl ([.ref h, .int a1, .int a2])).length) Slot.unset).toArray = ls at hl ⊢
  have hl : lv_has ls 3 [(0, .ref h), (1, .int a1), (2, .int a2)] := hl
  refine lv_aload_n hx hb dX1_ended_0 rfl (lv_at hl 0 rfl) ?_
  refine lv_dup hx hb dX1_ended_1 rfl ?_
  refine va_get (D := D) (ci := 1) (v := .int (hy_mo S)) (C := RX1) (T := TX1) (N := 10) hx hb hts hinX1 hown hK hP 0 rfl rfl 7 (by decide) (hts (.fieldLink RX1 142 "HiveYard" "movesMade" "I") (by decide +kernel)) (fun _ h9 => h9) rfl dX1_ended_2 ?_
  refine lv_iconst (v := 1) hx hb dX1_ended_5 (by decide) ?_
  refine lv_iadd hx hb dX1_ended_6 ?_
  refine va_put (D := D) (ci := 1) (v := .int ((hy_mo S) + 1)) (ty := .int) (C := RX1) (T := TX1) (N := 10) hx hb hts hinX1 tyX1 tyX1_ok nmX1 hown hK hP hD hS 0 rfl rfl 7 (by decide) (hts (.fieldLink RX1 142 "HiveYard" "movesMade" "I") (by decide +kernel)) (fun _ h9 => h9) rfl (by decide +kernel) rfl rfl (Nat.le_of_ble_eq_true rfl) dX1_ended_7 (fun H locs hP hD hS => ?_)
  have hP : va_P D vwCl (hy_W cI cJ cB h b k w z ad ca (hy_umo S ((hy_mo S) + 1))) H := by rw [← hy_W_umo]; exact hP
  have hD : va_D A (hy_W cI cJ cB h b k w z ad ca (hy_umo S ((hy_mo S) + 1))) := by rw [← hy_W_umo]; exact hD
  refine lv_aload_n hx hb dX1_ended_10 rfl (lv_at hl 0 rfl) ?_
  refine va_get (D := D) (ci := 1) (v := .ref z) (C := RX1) (T := TX1) (N := 10) hx hb hts hinX1 hown hK hP 0 rfl rfl 4 (by decide) (hts (.fieldLink RX1 29 "HiveYard" "movesByEnd" "[I") (by decide +kernel)) (fun _ h9 => h9) rfl dX1_ended_11 ?_
  refine lv_iload_n hx hb dX1_ended_14 rfl (lv_at hl 1 rfl) ?_
  refine lv_dup2_11 hx hb dX1_ended_15 rfl rfl ?_
  refine va_iald hx hb hK hP 4 0 rfl rfl (hin) dX1_ended_16 ?_
  refine lv_iconst (v := 1) hx hb dX1_ended_17 (by decide) ?_
  refine lv_iadd hx hb dX1_ended_18 ?_
  refine va_iast hx hb hK hP hD hS 4 0 rfl rfl (hin) dX1_ended_19 (fun H locs hP hD hS => ?_)
  have hP : va_P D vwCl (hy_W cI cJ cB h b k w z ad ca (hy_uen (hy_umo S ((hy_mo S) + 1)) (upd (hy_en S) a1.toNatClampNeg (((hy_en S) a1.toNatClampNeg) + 1)))) H := by rw [← hy_W_uen]; exact hP
  have hD : va_D A (hy_W cI cJ cB h b k w z ad ca (hy_uen (hy_umo S ((hy_mo S) + 1)) (upd (hy_en S) a1.toNatClampNeg (((hy_en S) a1.toNatClampNeg) + 1)))) := by rw [← hy_W_uen]; exact hD
  refine lv_aload_n hx hb dX1_ended_20 rfl (lv_at hl 0 rfl) ?_
  refine lv_iload_n hx hb dX1_ended_21 rfl (lv_at hl 2 rfl) ?_
  refine va_put (D := D) (ci := 1) (v := .int a2) (ty := .int) (C := RX1) (T := TX1) (N := 10) hx hb hts hinX1 tyX1 tyX1_ok nmX1 hown hK hP hD hS 0 rfl rfl 8 (by decide) (hts (.fieldLink RX1 120 "HiveYard" "latestMoved" "I") (by decide +kernel)) (fun _ h9 => h9) rfl (by decide +kernel) rfl rfl (Nat.le_of_ble_eq_true rfl) dX1_ended_22 (fun H locs hP hD hS => ?_)
  have hP : va_P D vwCl (hy_W cI cJ cB h b k w z ad ca (hy_ulm (hy_uen (hy_umo S ((hy_mo S) + 1)) (upd (hy_en S) a1.toNatClampNeg (((hy_en S) a1.toNatClampNeg) + 1))) a2)) H := by rw [← hy_W_ulm]; exact hP
  have hD : va_D A (hy_W cI cJ cB h b k w z ad ca (hy_ulm (hy_uen (hy_umo S ((hy_mo S) + 1)) (upd (hy_en S) a1.toNatClampNeg (((hy_en S) a1.toNatClampNeg) + 1))) a2)) := by rw [← hy_W_ulm]; exact hD
  refine lv_aload_n hx hb dX1_ended_25 rfl (lv_at hl 0 rfl) ?_
  refine lv_dup hx hb dX1_ended_26 rfl ?_
  refine va_get (D := D) (ci := 1) (v := .int (hy_pm S)) (C := RX1) (T := TX1) (N := 10) hx hb hts hinX1 hown hK hP 0 rfl rfl 9 (by decide) (hts (.fieldLink RX1 145 "HiveYard" "placesMoved" "I") (by decide +kernel)) (fun _ h9 => h9) rfl dX1_ended_27 ?_
  refine lv_iload_n hx hb dX1_ended_30 rfl (lv_at hl 2 rfl) ?_
  refine lv_iadd hx hb dX1_ended_31 ?_
  refine va_put (D := D) (ci := 1) (v := .int ((hy_pm S) + a2)) (ty := .int) (C := RX1) (T := TX1) (N := 10) hx hb hts hinX1 tyX1 tyX1_ok nmX1 hown hK hP hD hS 0 rfl rfl 9 (by decide) (hts (.fieldLink RX1 145 "HiveYard" "placesMoved" "I") (by decide +kernel)) (fun _ h9 => h9) rfl (by decide +kernel) rfl rfl (Nat.le_of_ble_eq_true rfl) dX1_ended_32 (fun H locs hP hD hS => ?_)
  have hP : va_P D vwCl (hy_W cI cJ cB h b k w z ad ca (hy_upm (hy_ulm (hy_uen (hy_umo S ((hy_mo S) + 1)) (upd (hy_en S) a1.toNatClampNeg (((hy_en S) a1.toNatClampNeg) + 1))) a2) ((hy_pm S) + a2))) H := by rw [← hy_W_upm]; exact hP
  have hD : va_D A (hy_W cI cJ cB h b k w z ad ca (hy_upm (hy_ulm (hy_uen (hy_umo S ((hy_mo S) + 1)) (upd (hy_en S) a1.toNatClampNeg (((hy_en S) a1.toNatClampNeg) + 1))) a2) ((hy_pm S) + a2))) := by rw [← hy_W_upm]; exact hD
  refine lv_iload_n hx hb dX1_ended_35 rfl (lv_at hl 1 rfl) ?_
  have eS : (hy_W cI cJ cB h b k w z ad ca (hy_upm (hy_ulm (hy_uen (hy_umo S ((hy_mo S) + 1)) (upd (hy_en S) a1.toNatClampNeg (((hy_en S) a1.toNatClampNeg) + 1))) a2) ((hy_pm S) + a2))) = (hy_W cI cJ cB h b k w z ad ca (hy_end S a1 a2)) := rfl
  have hPz : va_P D vwCl (hy_W cI cJ cB h b k w z ad ca (hy_end S a1 a2)) H := by rw [← eS]; exact hP
  have hDz : va_D A (hy_W cI cJ cB h b k w z ad ca (hy_end S a1 a2)) := by rw [← eS]; exact hD
  exact W.iret (v := a1) hx hb hr (fun t ht hW => ⟨⟨_, (), rfl, rfl, by rw [ht]; exact hPz, va_K.moved hW.alike hK, hDz⟩, hS.F ht⟩) hS.2.2 dX1_ended_36
