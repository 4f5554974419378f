/-! THE CLASS: readers with loops. Rows laid by gen.py, specs_l.py. -/
set_option maxHeartbeats 4000000 in
set_option maxRecDepth 100000 in
theorem c_X1_sumOfNumbers (l : Launch) (D : va_G) (cI cJ cB : ClassId) (h b k w z : Nat) (ad ca : Nat → Nat) (S : hy_S) (r : Nat) (hrw : r ≤ hy_nr S) (hle : hy_le S r ≤ 24) : Met l yX1_sumOfNumbers wsX1_sumOfNumbers ({ frames := 0, cells := 0, slots := 0, locals := 0 }) (va_Pc [.ref (ca r)] (hy_I D cI cJ cB h b k w z ad ca S)) (vp_Sl (fun v : Int64 => v = hy_sum (hy_va S r) (hy_le S r))) 0 0 (fun _ => False) := by
  refine Met.ofW (cc := cX1_sumOfNumbers) (maxL := 4) (ret := (some .long)) (by decide) rfl ?_
  intro p e s m args below meth c s₁ B hml hv
  obtain ⟨rfl, hP, hK⟩ := hv
  have hx := B.exec
  have hb := B.bytes
  have hr := B.returns
  have hts := atoms_spec (ws := wsX1_sumOfNumbers) B.pre
  have hown : s.vm.findClass RX1 = some m.cls := findClass_of_methodNamed B.named
  have hlocks := B.notSynchronized
  have hl := lv_entry ([.ref (ca r)]) (n := 4) (Nat.le_of_ble_eq_true rfl)
  rw [lg_entry_eq]
  generalize (lg_sl ([.ref (ca r)]) ++ List.replicate (4 - (lg_sl ([.ref (ca r)])).length) Slot.unset).toArray = ls at hl ⊢
  have hl : lv_has ls 4 [(0, .ref (ca r))] := hl
  refine lv_lconst (v := 0) hx hb dX1_sumOfNumbers_0 (by decide) ?_
  refine lv_lstore_n (lv' := [(1, .long 0), (0, .ref (ca r))]) hx hb dX1_sumOfNumbers_1 rfl hl (by decide) rfl (fun ls hl => ?_)
  refine lv_iconst (v := 0) hx hb dX1_sumOfNumbers_2 (by decide) ?_
  refine lv_istore_n (lv' := [(3, .int 0), (1, .long 0), (0, .ref (ca r))]) hx hb dX1_sumOfNumbers_3 rfl hl (by decide) rfl (fun ls hl => ?_)
  refine hy_for (G := fun ls => W p l e _ s m _ below meth c _ _ _ _ _ (F0 m 4 ls [])) (ls0 := ls) (fun i ls => lv_has ls 4 [(3, .int (nI i)), (1, .long (hy_sum (hy_va S r) i)), (0, .ref (ca r))]) (hy_le S r) (lv_sub hl [0, 1, 2] rfl) (fun ls hl => ?_) (fun i ls hi hl ih => ?_)
  · -- exit
    refine lv_iload_n hx hb dX1_sumOfNumbers_4 rfl (lv_at hl 0 rfl) ?_
    refine lv_aload_n hx hb dX1_sumOfNumbers_5 rfl (lv_at hl 2 rfl) ?_
    refine va_alen (v := (nI (hy_le S r))) hx hb hK hP (5 + (hy_nr S + 1 + r)) 1 (hy_W_arr hrw) rfl rfl dX1_sumOfNumbers_6 ?_
    refine lv_icmp_ge (tgt := 22) hx hb dX1_sumOfNumbers_7 (by decide) (fun c_7 => ?_) (fun c9 => absurd c9 (fun c => c (Int32.le_refl _)))
    refine lv_lload_n hx hb dX1_sumOfNumbers_22 rfl (lv_at hl 1 rfl) ?_
    exact W.lret (v := (hy_sum (hy_va S r) (hy_le S r))) hx hb hr (fun t ht hW => ⟨_, rfl, by first | rfl | (simp [*]; done) | ((try simp only [lg_cmp_lt, lg_cmp_ge, lg_cmp_le, lg_cmp_gt, lg_cmp_eq] at *); simp only [*, ↓reduceIte, if_false, if_true, not_false_eq_true, not_true_eq_false]; done) | (simp_all []; done), ht⟩) (fun q h => nomatch h) dX1_sumOfNumbers_23
  · -- step
    refine lv_iload_n hx hb dX1_sumOfNumbers_4 rfl (lv_at hl 0 rfl) ?_
    refine lv_aload_n hx hb dX1_sumOfNumbers_5 rfl (lv_at hl 2 rfl) ?_
    refine va_alen (v := (nI (hy_le S r))) hx hb hK hP (5 + (hy_nr S + 1 + r)) 1 (hy_W_arr hrw) rfl rfl dX1_sumOfNumbers_6 ?_
    refine lv_icmp_ge (tgt := 22) hx hb dX1_sumOfNumbers_7 (by decide) (fun c9 => absurd c9 (nI_ge hi (by omega))) (fun c_7 => ?_)
    refine lv_lload_n hx hb dX1_sumOfNumbers_10 rfl (lv_at hl 1 rfl) ?_
    refine lv_aload_n hx hb dX1_sumOfNumbers_11 rfl (lv_at hl 2 rfl) ?_
    refine lv_iload_n hx hb dX1_sumOfNumbers_12 rfl (lv_at hl 0 rfl) ?_
    refine va_lald hx hb hK hP (5 + (hy_nr S + 1 + r)) 1 (hy_W_arr hrw) rfl (vp_in_nI hi (by omega)) dX1_sumOfNumbers_13 ?_
    refine lv_ladd hx hb dX1_sumOfNumbers_14 ?_
    refine lv_topl (fun v9 e9 => ?_)
    obtain rfl : v9 = (hy_sum (hy_va S r) (i + 1)) := e9.trans (by rw [nI_clamp (by omega)]; rfl)
    clear e9
    refine lv_lstore_n (lv' := [(1, .long (hy_sum (hy_va S r) (i + 1))), (3, .int (nI i)), (0, .ref (ca r))]) hx hb dX1_sumOfNumbers_15 rfl hl (by decide) rfl (fun ls hl => ?_)
    refine lv_iinc (v := (nI (i + 1))) (lv' := [(3, .int (nI (i + 1))), (1, .long (hy_sum (hy_va S r) (i + 1))), (0, .ref (ca r))]) hx hb dX1_sumOfNumbers_16 hl (k := 1) rfl (nI_1 i) (by decide) rfl (fun ls hl => ?_)
    refine lv_goto (tgt := 4) hx hb dX1_sumOfNumbers_19 (by decide) ?_
    exact ih ls (lv_sub hl [0, 1, 2] rfl)
set_option maxHeartbeats 4000000 in
set_option maxRecDepth 100000 in
theorem c_X1_sumOfWeights (l : Launch) (D : va_G) (cI cJ cB : ClassId) (h b k w z : Nat) (ad ca : Nat → Nat) (S : hy_S) (r : Nat) (hrw : r ≤ hy_nr S) (hle : hy_le S r ≤ 24) (hnc : hy_nc S ≤ 60) : Met l yX1_sumOfWeights wsX1_sumOfWeights ({ frames := 1, cells := 0, slots := 0, locals := 22 }) (va_Pc [.ref h, .ref (ca r)] (hy_I D cI cJ cB h b k w z ad ca S)) (vp_Sl (fun v : Int64 => v = hy_wsum S (hy_va S r) (hy_le S r))) 0 0 (fun _ => False) := by
  refine Met.ofW (cc := cX1_sumOfWeights) (maxL := 5) (ret := (some .long)) (by decide) rfl ?_
  intro p e s m args below meth c s₁ B hml hv
  obtain ⟨rfl, hP, hK⟩ := hv
  have hx := B.exec
  have hb := B.bytes
  have hr := B.returns
  have hts := atoms_spec (ws := wsX1_sumOfWeights) B.pre
  have hown : s.vm.findClass RX1 = some m.cls := findClass_of_methodNamed B.named
  have hlocks := B.notSynchronized
  have hinX1 : ∀ w ∈ wsX10, w ∈ wsX1_sumOfWeights := by decide +kernel
  have hl := lv_entry ([.ref h, .ref (ca r)]) (n := 5) (Nat.le_of_ble_eq_true rfl)
  rw [lg_entry_eq]
  generalize (lg_sl ([.ref h, .ref (ca r)]) ++ List.replicate (5 - (lg_sl ([.ref h, .ref (ca r)])).length) Slot.unset).toArray = ls at hl ⊢
  have hl : lv_has ls 5 [(0, .ref h), (1, .ref (ca r))] := hl
  refine lv_lconst (v := 0) hx hb dX1_sumOfWeights_0 (by decide) ?_
  refine lv_lstore_n (lv' := [(2, .long 0), (0, .ref h), (1, .ref (ca r))]) hx hb dX1_sumOfWeights_1 rfl hl (by decide) rfl (fun ls hl => ?_)
  refine lv_iconst (v := 0) hx hb dX1_sumOfWeights_2 (by decide) ?_
  refine lv_istore (lv' := [(4, .int 0), (2, .long 0), (0, .ref h), (1, .ref (ca r))]) hx hb dX1_sumOfWeights_3 hl (by decide) rfl (fun ls hl => ?_)
  refine hy_for (G := fun ls => W p l e _ s m _ below meth c _ _ _ _ _ (F0 m 5 ls [])) (ls0 := ls) (fun i ls => lv_has ls 5 [(4, .int (nI i)), (2, .long (hy_wsum S (hy_va S r) i)), (1, .ref (ca r)), (0, .ref h)]) (hy_le S r) (lv_sub hl [0, 1, 3, 2] rfl) (fun ls hl => ?_) (fun i ls hi hl ih => ?_)
  · -- exit
    refine lv_iload hx hb dX1_sumOfWeights_5 (lv_at hl 0 rfl) ?_
    refine lv_aload_n hx hb dX1_sumOfWeights_7 rfl (lv_at hl 2 rfl) ?_
    refine va_alen (v := (nI (hy_le S r))) hx hb hK hP (5 + (hy_nr S + 1 + r)) 1 (hy_W_arr hrw) rfl rfl dX1_sumOfWeights_8 ?_
    refine lv_icmp_ge (tgt := 43) hx hb dX1_sumOfWeights_9 (by decide) (fun c_9 => ?_) (fun c9 => absurd c9 (fun c => c (Int32.le_refl _)))
    refine lv_lload_n hx hb dX1_sumOfWeights_43 rfl (lv_at hl 1 rfl) ?_
    exact W.lret (v := (hy_wsum S (hy_va S r) (hy_le S r))) hx hb hr (fun t ht hW => ⟨_, rfl, by first | rfl | (simp [*]; done) | ((try simp only [lg_cmp_lt, lg_cmp_ge, lg_cmp_le, lg_cmp_gt, lg_cmp_eq] at *); simp only [*, ↓reduceIte, if_false, if_true, not_false_eq_true, not_true_eq_false]; done) | (simp_all []; done), ht⟩) (fun q h => nomatch h) dX1_sumOfWeights_44
  · -- step
    refine lv_iload hx hb dX1_sumOfWeights_5 (lv_at hl 0 rfl) ?_
    refine lv_aload_n hx hb dX1_sumOfWeights_7 rfl (lv_at hl 2 rfl) ?_
    refine va_alen (v := (nI (hy_le S r))) hx hb hK hP (5 + (hy_nr S + 1 + r)) 1 (hy_W_arr hrw) rfl rfl dX1_sumOfWeights_8 ?_
    refine lv_icmp_ge (tgt := 43) hx hb dX1_sumOfWeights_9 (by decide) (fun c9 => absurd c9 (nI_ge hi (by omega))) (fun c_9 => ?_)
    refine lv_aload_n hx hb dX1_sumOfWeights_12 rfl (lv_at hl 3 rfl) ?_
    refine lv_aload_n hx hb dX1_sumOfWeights_13 rfl (lv_at hl 2 rfl) ?_
    refine lv_iload hx hb dX1_sumOfWeights_14 (lv_at hl 0 rfl) ?_
    refine va_lald hx hb hK hP (5 + (hy_nr S + 1 + r)) 1 (hy_W_arr hrw) rfl (vp_in_nI hi (by omega)) dX1_sumOfWeights_16 ?_
    refine lv_topl (fun v9 e9 => ?_)
    obtain rfl : v9 = ((hy_va S r) i) := e9.trans (by rw [nI_clamp (by omega)])
    clear e9
    refine vp_callSi (W.runV (As := [.long ((hy_va S r) i)]) (rest := []) ⟨hx, hb, hml, hown, hts⟩ (c_X1_isComb l D cI cJ cB h b k w z ad ca S ((hy_va S r) i)) (cwV 1 hts gX1_sumOfWeights_X1_isComb rfl rfl rfl (by decide +kernel) ⟨Nat.le_of_ble_eq_true rfl, Nat.le_of_ble_eq_true rfl⟩) ⟨hy_I_blind, va_recv hK hP (ci := 1) (q0 := 0) rfl rfl, fun U hU hW => ⟨rfl, hy_I_at hU hW hP hK⟩⟩ rfl rfl hl.1 rfl (lv_room (Nat.le_of_ble_eq_true rfl)) dX1_sumOfWeights_17 ⟨Nat.le_of_ble_eq_true rfl, Nat.le_of_ble_eq_true rfl⟩) (fun v9 e9 => ?_)
    subst e9
    refine lv_if_eq (tgt := 37) hx hb dX1_sumOfWeights_20 (by decide) (fun c_20 => ?_) (fun c_20 => ?_)
    · -- 37
      obtain e20 : hy_wsum S (hy_va S r) (i + 1) = hy_wsum S (hy_va S r) i := by rw [hy_wsum, if_pos c_20]
      refine lv_iinc (v := (nI (i + 1))) (lv' := [(4, .int (nI (i + 1))), (2, .long (hy_wsum S (hy_va S r) i)), (1, .ref (ca r)), (0, .ref h)]) hx hb dX1_sumOfWeights_37 hl (k := 0) rfl (nI_1 i) (by decide) rfl (fun ls hl => ?_)
      refine lv_goto (tgt := 5) hx hb dX1_sumOfWeights_40 (by decide) ?_
      exact ih ls (lv_sub hl [0, 1, 2, 3] (by first | rfl | (rw [e20]; rfl)))
    · -- 23
      refine lv_lload_n hx hb dX1_sumOfWeights_23 rfl (lv_at hl 1 rfl) ?_
      refine lv_aload_n hx hb dX1_sumOfWeights_24 rfl (lv_at hl 3 rfl) ?_
      refine va_get (D := D) (ci := 1) (v := .ref w) (C := RX1) (T := TX1) (N := 10) hx hb hts hinX1 hown hK hP 0 rfl rfl 3 (by decide) (hts (.fieldLink RX1 26 "HiveYard" "weightOfComb" "[I") (by decide +kernel)) (fun _ h9 => h9) rfl dX1_sumOfWeights_25 ?_
      refine lv_aload_n hx hb dX1_sumOfWeights_28 rfl (lv_at hl 2 rfl) ?_
      refine lv_iload hx hb dX1_sumOfWeights_29 (lv_at hl 0 rfl) ?_
      refine va_lald hx hb hK hP (5 + (hy_nr S + 1 + r)) 1 (hy_W_arr hrw) rfl (vp_in_nI hi (by omega)) dX1_sumOfWeights_31 ?_
      refine lv_topl (fun v9 e9 => ?_)
      obtain rfl : v9 = ((hy_va S r) i) := e9.trans (by rw [nI_clamp (by omega)])
      clear e9
      refine lv_l2i (v := ((hy_va S r) i).toInt32) hx hb dX1_sumOfWeights_32 rfl ?_
      refine va_iald hx hb hK hP 3 0 rfl rfl (hy_comb_vp hnc c_20) dX1_sumOfWeights_33 ?_
      refine lv_i2l (v := ((hy_we S) (((hy_va S r) i).toInt32).toNatClampNeg).toInt64) hx hb dX1_sumOfWeights_34 rfl ?_
      refine lv_ladd hx hb dX1_sumOfWeights_35 ?_
      refine lv_topl (fun v9 e9 => ?_)
      obtain rfl : v9 = (hy_wsum S (hy_va S r) (i + 1)) := e9.trans (by rw [hy_wsum, if_neg c_20])
      clear e9
      refine lv_lstore_n (lv' := [(2, .long (hy_wsum S (hy_va S r) (i + 1))), (4, .int (nI i)), (1, .ref (ca r)), (0, .ref h)]) hx hb dX1_sumOfWeights_36 rfl hl (by decide) rfl (fun ls hl => ?_)
      refine lv_iinc (v := (nI (i + 1))) (lv' := [(4, .int (nI (i + 1))), (2, .long (hy_wsum S (hy_va S r) (i + 1))), (1, .ref (ca r)), (0, .ref h)]) hx hb dX1_sumOfWeights_37 hl (k := 1) rfl (nI_1 i) (by decide) rfl (fun ls hl => ?_)
      refine lv_goto (tgt := 5) hx hb dX1_sumOfWeights_40 (by decide) ?_
      exact ih ls (lv_sub hl [0, 1, 2, 3] (by first | rfl | (rw [e20]; rfl)))
set_option maxHeartbeats 4000000 in
set_option maxRecDepth 100000 in
theorem c_X1_howManyFit (l : Launch) (D : va_G) (cI cJ cB : ClassId) (h b k w z : Nat) (ad ca : Nat → Nat) (S : hy_S) (r1 r2 i0 n0 : Nat) (h1 : r1 ≤ hy_nr S) (h2 : r2 ≤ hy_nr S) (hin : i0 + n0 ≤ hy_le S r1) (hle : hy_le S r1 ≤ 24) (hnc : hy_nc S ≤ 60) : Met l yX1_howManyFit wsX1_howManyFit ({ frames := 2, cells := 0, slots := 0, locals := 40 }) (va_Pc [.ref h, .ref (ad r1), .int (nI i0), .ref (ad r2), .int (nI n0)] (hy_I D cI cJ cB h b k w z ad ca S)) (vp_Si (fun v : Int32 => v = nI (hy_fit S r1 i0 r2 n0))) 0 0 (fun _ => False) := by
  refine Met.ofW (cc := cX1_howManyFit) (maxL := 8) (ret := (some .int)) (by decide) rfl ?_
  intro p e s m args below meth c s₁ B hml hv
  obtain ⟨rfl, hP, hK⟩ := hv
  have hx := B.exec
  have hb := B.bytes
  have hr := B.returns
  have hts := atoms_spec (ws := wsX1_howManyFit) B.pre
  have hown : s.vm.findClass RX1 = some m.cls := findClass_of_methodNamed B.named
  have hlocks := B.notSynchronized
  have hinX0 : ∀ w ∈ wsX00, w ∈ wsX1_howManyFit := by decide +kernel
  have hinX1 : ∀ w ∈ wsX10, w ∈ wsX1_howManyFit := by decide +kernel
  have hl := lv_entry ([.ref h, .ref (ad r1), .int (nI i0), .ref (ad r2), .int (nI n0)]) (n := 8) (Nat.le_of_ble_eq_true rfl)
  rw [lg_entry_eq]
  generalize (lg_sl ([.ref h, .ref (ad r1), .int (nI i0), .ref (ad r2), .int (nI n0)]) ++ List.replicate (8 - (lg_sl ([.ref h, .ref (ad r1), .int (nI i0), .ref (ad r2), .int (nI n0)])).length) Slot.unset).toArray = ls at hl ⊢
  have hl : lv_has ls 8 [(0, .ref h), (1, .ref (ad r1)), (2, .int (nI i0)), (3, .ref (ad r2)), (4, .int (nI n0))] := hl
  refine lv_aload_n hx hb dX1_howManyFit_0 rfl (lv_at hl 1 rfl) ?_
  refine vp_callSi (W.runS (As := [.ref (ad r1)]) (rest := []) ⟨hx, hb, hml, hown, hts⟩ (c_X1_isNumbers l D cI cJ cB h b k w z ad ca S (some r1) (fun _ q => by cases q; exact h1)) (va_cwS 1 hts gX1_howManyFit_X1_isNumbers rfl rfl rfl (by decide +kernel) ⟨Nat.le_of_ble_eq_true rfl, Nat.le_of_ble_eq_true rfl⟩) ⟨hy_I_blind, fun U hU hW => ⟨rfl, hy_I_at hU hW hP hK⟩⟩ rfl rfl hl.1 rfl (lv_room (Nat.le_of_ble_eq_true rfl)) dX1_howManyFit_1 ⟨Nat.le_of_ble_eq_true rfl, Nat.le_of_ble_eq_true rfl⟩) (fun v9 e9 => ?_)
  subst e9
  refine lv_if_eq (tgt := 10) hx hb dX1_howManyFit_4 (by decide) (fun c_4 => ?_) (fun c_4 => ?_)
  · -- 10
    refine lv_iconst (v := 0) hx hb dX1_howManyFit_10 (by decide) ?_
    refine lv_istore (lv' := [(5, .int 0), (0, .ref h), (1, .ref (ad r1)), (2, .int (nI i0)), (3, .ref (ad r2)), (4, .int (nI n0))]) hx hb dX1_howManyFit_11 hl (by decide) rfl (fun ls hl => ?_)
    refine hy_for (G := fun ls => W p l e _ s m _ below meth c _ _ _ _ _ (F0 m 13 ls [])) (ls0 := ls) (fun i ls => lv_has ls 8 [(5, .int (nI i)), (0, .ref h), (1, .ref (ad r1)), (2, .int (nI i0)), (3, .ref (ad r2)), (4, .int (nI n0))] ∧ hy_fitgo S (hy_so S r2) (fun k => hy_va S r1 (i0 + k)) (n0 - i) i = hy_fitgo S (hy_so S r2) (fun k => hy_va S r1 (i0 + k)) n0 0) (n0) (⟨lv_sub hl [0, 1, 2, 3, 4, 5] rfl, rfl⟩) (fun ls hl => ?_) (fun i ls hi hl ih => ?_)
    · -- exit
      obtain ⟨hl, hxt⟩ := hl
      refine lv_iload hx hb dX1_howManyFit_13 (lv_at hl 0 rfl) ?_
      refine lv_iload hx hb dX1_howManyFit_15 (lv_at hl 5 rfl) ?_
      refine lv_icmp_ge (tgt := 67) hx hb dX1_howManyFit_17 (by decide) (fun c_17 => ?_) (fun c9 => absurd c9 (fun c => c (Int32.le_refl _)))
      refine lv_iload hx hb dX1_howManyFit_67 (lv_at hl 5 rfl) ?_
      exact W.iret (v := (nI n0)) hx hb hr (fun t ht hW => ⟨_, rfl, by rw [hy_fit, if_pos c_4, ← hxt, Nat.sub_self]; rfl, ht⟩) (fun q h => nomatch h) dX1_howManyFit_69
    · -- step
      obtain ⟨hl, hxt⟩ := hl
      refine lv_iload hx hb dX1_howManyFit_13 (lv_at hl 0 rfl) ?_
      refine lv_iload hx hb dX1_howManyFit_15 (lv_at hl 5 rfl) ?_
      refine lv_icmp_ge (tgt := 67) hx hb dX1_howManyFit_17 (by decide) (fun c9 => absurd c9 (nI_ge hi (by omega))) (fun c_17 => ?_)
      refine lv_aload_n hx hb dX1_howManyFit_20 rfl (lv_at hl 2 rfl) ?_
      refine va_get (D := D) (ci := 0) (v := .ref (ca r1)) (C := RX0) (T := TX0) (N := 2) hx hb hts hinX0 hown hK hP (5 + r1) (hy_W_row h1) rfl 1 (by decide) (hts (.fieldLink RX1 79 "HiveYard$Content" "cells" "[J") (by decide +kernel)) (fun _ h9 => h9) rfl dX1_howManyFit_21 ?_
      refine lv_iload_n hx hb dX1_howManyFit_24 rfl (lv_at hl 3 rfl) ?_
      refine lv_iload hx hb dX1_howManyFit_25 (lv_at hl 0 rfl) ?_
      refine lv_iadd hx hb dX1_howManyFit_27 ?_
      refine lv_topi (fun v9 e9 => ?_)
      obtain rfl : v9 = (nI (i0 + i)) := e9.trans (nI_add i0 i)
      clear e9
      refine va_lald hx hb hK hP (5 + (hy_nr S + 1 + r1)) 1 (hy_W_arr h1) rfl (vp_in_nI (by omega) (by omega)) dX1_howManyFit_28 ?_
      refine lv_topl (fun v9 e9 => ?_)
      obtain rfl : v9 = (hy_va S r1 (i0 + i)) := e9.trans (by rw [nI_clamp (by omega)])
      clear e9
      refine lv_lstore (lv' := [(6, .long (hy_va S r1 (i0 + i))), (5, .int (nI i)), (0, .ref h), (1, .ref (ad r1)), (2, .int (nI i0)), (3, .ref (ad r2)), (4, .int (nI n0))]) hx hb dX1_howManyFit_29 hl (by decide) rfl (fun ls hl => ?_)
      refine lv_aload_n hx hb dX1_howManyFit_31 rfl (lv_at hl 2 rfl) ?_
      refine lv_lload hx hb dX1_howManyFit_32 (lv_at hl 0 rfl) ?_
      refine vp_callSi (W.runV (As := [.long (hy_va S r1 (i0 + i))]) (rest := []) ⟨hx, hb, hml, hown, hts⟩ (c_X1_isComb l D cI cJ cB h b k w z ad ca S (hy_va S r1 (i0 + i))) (cwV 1 hts gX1_howManyFit_X1_isComb rfl rfl rfl (by decide +kernel) ⟨Nat.le_of_ble_eq_true rfl, Nat.le_of_ble_eq_true rfl⟩) ⟨hy_I_blind, va_recv hK hP (ci := 1) (q0 := 0) rfl rfl, fun U hU hW => ⟨rfl, hy_I_at hU hW hP hK⟩⟩ rfl rfl hl.1 rfl (lv_room (Nat.le_of_ble_eq_true rfl)) dX1_howManyFit_34 ⟨Nat.le_of_ble_eq_true rfl, Nat.le_of_ble_eq_true rfl⟩) (fun v9 e9 => ?_)
      subst e9
      refine lv_if_eq (tgt := 61) hx hb dX1_howManyFit_37 (by decide) (fun c_37 => ?_) (fun c_37 => ?_)
      · -- 61
        refine lv_iinc (v := (nI (i + 1))) (lv' := [(5, .int (nI (i + 1))), (6, .long (hy_va S r1 (i0 + i))), (0, .ref h), (1, .ref (ad r1)), (2, .int (nI i0)), (3, .ref (ad r2)), (4, .int (nI n0))]) hx hb dX1_howManyFit_61 hl (k := 1) rfl (nI_1 i) (by decide) rfl (fun ls hl => ?_)
        refine lv_goto (tgt := 13) hx hb dX1_howManyFit_64 (by decide) ?_
        exact ih ls ⟨lv_sub hl [0, 2, 3, 4, 5, 6] rfl, by first | rw [← hxt, show n0 - i = n0 - (i + 1) + 1 by omega, hy_fitgo, if_pos c_37] | rw [← hxt, show n0 - i = n0 - (i + 1) + 1 by omega, hy_fitgo, if_neg c_37, if_neg c_55]⟩
      · -- 40
        refine lv_aload_n hx hb dX1_howManyFit_40 rfl (lv_at hl 5 rfl) ?_
        refine va_get (D := D) (ci := 0) (v := .int (hy_so S r2)) (C := RX0) (T := TX0) (N := 2) hx hb hts hinX0 hown hK hP (5 + r2) (hy_W_row h2) rfl 0 (by decide) (hts (.fieldLink RX1 83 "HiveYard$Content" "sort" "I") (by decide +kernel)) (fun _ h9 => h9) rfl dX1_howManyFit_41 ?_
        refine lv_aload_n hx hb dX1_howManyFit_44 rfl (lv_at hl 2 rfl) ?_
        refine va_get (D := D) (ci := 1) (v := .ref k) (C := RX1) (T := TX1) (N := 10) hx hb hts hinX1 hown hK hP 0 rfl rfl 2 (by decide) (hts (.fieldLink RX1 22 "HiveYard" "kindOfComb" "[I") (by decide +kernel)) (fun _ h9 => h9) rfl dX1_howManyFit_45 ?_
        refine lv_lload hx hb dX1_howManyFit_48 (lv_at hl 0 rfl) ?_
        refine lv_l2i (v := (hy_va S r1 (i0 + i)).toInt32) hx hb dX1_howManyFit_50 rfl ?_
        refine va_iald hx hb hK hP 2 0 rfl rfl (hy_comb_vp hnc c_37) dX1_howManyFit_51 ?_
        refine vp_callSi (W.runS (As := [.int (hy_so S r2), .int ((hy_ki S) ((hy_va S r1 (i0 + i)).toInt32).toNatClampNeg)]) (rest := []) ⟨hx, hb, hml, hown, hts⟩ (c_X1_takes l (hy_so S r2) ((hy_ki S) ((hy_va S r1 (i0 + i)).toInt32).toNatClampNeg)) (va_cwS 2 hts gX1_howManyFit_X1_takes rfl rfl rfl (by decide +kernel) ⟨Nat.le_of_ble_eq_true rfl, Nat.le_of_ble_eq_true rfl⟩) ⟨fun _ _ _ _ q => q, fun U hU hW => ⟨rfl, trivial⟩⟩ rfl rfl hl.1 rfl (lv_room (Nat.le_of_ble_eq_true rfl)) dX1_howManyFit_52 ⟨Nat.le_of_ble_eq_true rfl, Nat.le_of_ble_eq_true rfl⟩) (fun v9 e9 => ?_)
        subst e9
        refine lv_if_ne (tgt := 61) hx hb dX1_howManyFit_55 (by decide) (fun c_55 => ?_) (fun c_55 => ?_)
        · -- 61
          refine lv_iinc (v := (nI (i + 1))) (lv' := [(5, .int (nI (i + 1))), (6, .long (hy_va S r1 (i0 + i))), (0, .ref h), (1, .ref (ad r1)), (2, .int (nI i0)), (3, .ref (ad r2)), (4, .int (nI n0))]) hx hb dX1_howManyFit_61 hl (k := 1) rfl (nI_1 i) (by decide) rfl (fun ls hl => ?_)
          refine lv_goto (tgt := 13) hx hb dX1_howManyFit_64 (by decide) ?_
          exact ih ls ⟨lv_sub hl [0, 2, 3, 4, 5, 6] rfl, by first | rw [← hxt, show n0 - i = n0 - (i + 1) + 1 by omega, hy_fitgo, if_pos c_37] | rw [← hxt, show n0 - i = n0 - (i + 1) + 1 by omega, hy_fitgo, if_neg c_37, if_neg c_55]⟩
        · -- 58
          refine lv_iload hx hb dX1_howManyFit_58 (lv_at hl 1 rfl) ?_
          exact W.iret (v := (nI i)) hx hb hr (fun t ht hW => ⟨_, rfl, by rw [hy_fit, if_pos c_4, ← hxt, show n0 - i = n0 - (i + 1) + 1 by omega, hy_fitgo, if_neg c_37, if_pos c_55], ht⟩) (fun q h => nomatch h) dX1_howManyFit_60
  · -- 7
    refine lv_iload hx hb dX1_howManyFit_7 (lv_at hl 4 rfl) ?_
    exact W.iret (v := (nI n0)) hx hb hr (fun t ht hW => ⟨_, rfl, by rw [hy_fit, if_neg c_4], ht⟩) (fun q h => nomatch h) dX1_howManyFit_9
