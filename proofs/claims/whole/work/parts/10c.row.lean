/-! THE CLASS: row. Rows laid by gen.py, specs_r.py. -/
set_option maxHeartbeats 4000000 in
set_option maxRecDepth 100000 in
theorem c_X1_row (l : Launch) (D : va_G) (cI cJ cB : ClassId) (h b k w z : Nat) (ad ca : Nat → Nat) (S : hy_S) (hl9 : l.stackTraces = false) (hwf : hy_wf S) (sz : Nat) (a1 a2 a3 : Int32) : vx_Met l yX1_row wsX1_row ({ frames := 8, cells := 3, slots := 32, locals := 131 }) (va_Pc [.ref h, .int a1, .int a2, .int a3] (hy_IP D cI cJ cB h b k w z ad ca S sz)) (va_Qi (fun (r9 : Int32) (_ : Unit) => hy_krw S a1 a2 a3 = 0 ∧ r9 = hy_vrow S a1) (fun _ => hy_At D cI cJ cB h (hy_srow S a1 a2 a3) (va_A (hy_W cI cJ cB h b k w z ad ca S) sz)) (va_A (hy_W cI cJ cB h b k w z ad ca S) sz)) (hy_X (hy_nm ["java/lang/IndexOutOfBoundsException", "java/lang/IllegalArgumentException", "java/lang/UnsupportedOperationException"] (hy_krw S a1 a2 a3))) 3 32 (va_A (hy_W cI cJ cB h b k w z ad ca S) sz) := by
  refine vx_ofW (cc := cX1_row) (maxL := 5) (ret := (some .boolean)) (by decide) rfl ?_
  intro p e s m args below meth c s₁ B hml hno hv
  obtain ⟨rfl, hsz, ⟨⟨hP, hK⟩, hE, hZ⟩, hD0⟩ := hv
  have hx := B.exec
  have hb := B.bytes
  have hr := B.returns
  have hts := atoms_spec (ws := wsX1_row) B.pre
  have hown : s.vm.findClass RX1 = some m.cls := findClass_of_methodNamed B.named
  have hlocks := B.notSynchronized
  subst hsz
  have hD := hD0.self (sz := s.heap.size)
  generalize hAe : va_A (hy_W cI cJ cB h b k w z ad ca S) s.heap.size = A at hD ⊢
  have hA : ∀ q : Nat, s.heap.size ≤ q → A q := fun q h => by rw [← hAe]; exact Or.inr h
  have hS : va_S A s.heap s.heap [] := va_S.rf
  have hinX1 : ∀ w ∈ wsX10, w ∈ wsX1_row := by decide +kernel
  have hl := lv_entry ([.ref h, .int a1, .int a2, .int a3]) (n := 5) (Nat.le_of_ble_eq_true rfl)
  rw [lg_entry_eq]
  generalize (lg_sl ([.ref h, .int a1, .int a2, .int a3]) ++ List.replicate (5 - (lg_sl ([.ref h, .int a1, .int a2, .int a3])).length) Slot.unset).toArray = ls at hl ⊢
  have hl : lv_has ls 5 [(0, .ref h), (1, .int a1), (2, .int a2), (3, .int a3)] := hl
  refine lv_aload_n hx hb dX1_row_0 rfl (lv_at hl 0 rfl) ?_
  refine lv_iload_n hx hb dX1_row_1 rfl (lv_at hl 1 rfl) ?_
  refine hy_thruq (vx_runV (As := [.int a1]) (rest := []) ⟨hx, hb, hml, hown, hts⟩ (c_X1_contentOf l D cI cJ cB h b k w z ad ca S hl9 a1) (cwV 1 hts gX1_row_X1_contentOf rfl rfl rfl (by decide +kernel) ⟨Nat.le_of_ble_eq_true rfl, Nat.le_of_ble_eq_true rfl⟩) ⟨hy_IX_blind, va_recv hK hP (ci := 1) (q0 := 0) rfl rfl, fun U hU hW => ⟨rfl, hy_IX_at hU hW hP hK hE hZ⟩⟩ rfl rfl hl.1 rfl (lv_room (Nat.le_of_ble_eq_true rfl)) dX1_row_2 ⟨Nat.le_of_ble_eq_true rfl, Nat.le_of_ble_eq_true rfl⟩) hno hlocks (fun E q => ⟨0, by rw [q.1]; rfl, (by simp only [hy_krw, hy_vrow, if_neg (hy_kbox1 q.2)] : hy_krw S a1 a2 a3 = 1).trans (by decide +kernel)⟩) (Nat.le_of_ble_eq_true rfl) (Nat.le_of_ble_eq_true rfl) (fun r9 e9 => ?_)
  obtain ⟨rfl, f_2⟩ := e9
  cases hb2 : hy_bx S a1.toNatClampNeg with
  | none =>
    refine W.eq (g2 := F0 m 5 ls [.null]) rfl ?_
    refine lv_astoreN (lv' := [(4, .null), (0, .ref h), (1, .int a1), (2, .int a2), (3, .int a3)]) hx hb dX1_row_5 hl (by decide) rfl (fun ls hl => ?_)
    refine lv_iload_n hx hb dX1_row_7 rfl (lv_at hl 3 rfl) ?_
    refine lv_if_lt (tgt := 17) hx hb dX1_row_8 (by decide) (fun c_8 => ?_) (fun c_8 => ?_)
    · -- 17
      exact hy_throw (cls := "java/lang/IllegalArgumentException") (text := "no such sort") (ik := 36) (is := 38) (ic := 40) hx hb hl9 hts hown hE hZ (by decide +kernel) (by decide +kernel) (by decide +kernel) (by decide +kernel) (by decide +kernel) (by decide +kernel) (by decide +kernel) (hl.1.trans hml.symm) dX1_row_17 dX1_row_20 dX1_row_21 dX1_row_23 dX1_row_26 hno hlocks ⟨Nat.le_of_ble_eq_true rfl, Nat.le_of_ble_eq_true rfl⟩ (Nat.le_of_ble_eq_true rfl) (Nat.le_of_ble_eq_true rfl) (Nat.le_of_ble_eq_true rfl) (Nat.le_of_ble_eq_true rfl) (Nat.le_of_ble_eq_true rfl) (⟨1, rfl, (by first | (simp only [hy_krw, hy_vrow, if_pos (hy_kbox0 f_2), hb2, if_pos c_8]) : hy_krw S a1 a2 a3 = 2).trans (by decide +kernel)⟩)
    · -- 11
      refine lv_iload_n hx hb dX1_row_11 rfl (lv_at hl 3 rfl) ?_
      refine lv_bipush (v := 7) hx hb dX1_row_12 (by decide) ?_
      refine lv_icmp_le (tgt := 27) hx hb dX1_row_14 (by decide) (fun c_14 => ?_) (fun c_14 => ?_)
      · -- 27
        refine lv_iload_n hx hb dX1_row_27 rfl (lv_at hl 4 rfl) ?_
        refine lv_if_lt (tgt := 37) hx hb dX1_row_28 (by decide) (fun c_28 => ?_) (fun c_28 => ?_)
        · -- 37
          exact hy_throw (cls := "java/lang/IllegalArgumentException") (text := "a row has 0 to 24 places") (ik := 36) (is := 43) (ic := 40) hx hb hl9 hts hown hE hZ (by decide +kernel) (by decide +kernel) (by decide +kernel) (by decide +kernel) (by decide +kernel) (by decide +kernel) (by decide +kernel) (hl.1.trans hml.symm) dX1_row_37 dX1_row_40 dX1_row_41 dX1_row_43 dX1_row_46 hno hlocks ⟨Nat.le_of_ble_eq_true rfl, Nat.le_of_ble_eq_true rfl⟩ (Nat.le_of_ble_eq_true rfl) (Nat.le_of_ble_eq_true rfl) (Nat.le_of_ble_eq_true rfl) (Nat.le_of_ble_eq_true rfl) (Nat.le_of_ble_eq_true rfl) (⟨1, rfl, (by first | (simp only [hy_krw, hy_vrow, if_pos (hy_kbox0 f_2), hb2, if_neg c_8, if_pos c_14, if_pos c_28]) : hy_krw S a1 a2 a3 = 2).trans (by decide +kernel)⟩)
        · -- 31
          refine lv_iload_n hx hb dX1_row_31 rfl (lv_at hl 4 rfl) ?_
          refine lv_bipush (v := 24) hx hb dX1_row_32 (by decide) ?_
          refine lv_icmp_le (tgt := 47) hx hb dX1_row_34 (by decide) (fun c_34 => ?_) (fun c_34 => ?_)
          · -- 47
            refine lv_aload_n hx hb dX1_row_47 rfl (lv_at hl 1 rfl) ?_
            refine va_get (D := D) (ci := 1) (v := .int (nI (hy_nr S))) (C := RX1) (T := TX1) (N := 10) hx hb hts hinX1 hown hK hP 0 rfl rfl 5 (by decide) (hts (.fieldLink RX1 45 "HiveYard" "rowsMade" "I") (by decide +kernel)) (fun _ h9 => h9) rfl dX1_row_48 ?_
            refine lv_sipush (v := 300) hx hb dX1_row_51 (by decide) ?_
            refine lv_icmp_lt (tgt := 67) hx hb dX1_row_54 (by decide) (fun c_54 => ?_) (fun c_54 => ?_)
            · -- 67
              obtain ⟨n0, hn0, rfl⟩ := nI_of2 (M := 24) (n := 24) rfl c_28 c_34
              refine lv_aload_n hx hb dX1_row_67 rfl (lv_at hl 1 rfl) ?_
              refine lv_dup hx hb dX1_row_68 rfl ?_
              refine va_get (D := D) (ci := 1) (v := .int (nI (hy_nr S))) (C := RX1) (T := TX1) (N := 10) hx hb hts hinX1 hown hK hP 0 rfl rfl 5 (by decide) (hts (.fieldLink RX1 45 "HiveYard" "rowsMade" "I") (by decide +kernel)) (fun _ h9 => h9) rfl dX1_row_69 ?_
              refine lv_iconst (v := 1) hx hb dX1_row_72 (by decide) ?_
              refine lv_iadd hx hb dX1_row_73 ?_
              refine lv_topi (fun v9 e9 => ?_)
              obtain rfl : v9 = nI (hy_nr S + 1) := e9.trans (nI_1 _)
              clear e9
              refine va_put (D := D) (ci := 1) (v := .int (nI (hy_nr S + 1))) (ty := .int) (C := RX1) (T := TX1) (N := 10) hx hb hts hinX1 tyX1 tyX1_ok nmX1 hown hK hP hD hS 0 rfl rfl 5 (by decide) (hts (.fieldLink RX1 45 "HiveYard" "rowsMade" "I") (by decide +kernel)) (fun _ h9 => h9) rfl (by decide +kernel) rfl rfl (Nat.le_of_ble_eq_true rfl) dX1_row_74 (fun H locs hP hD hS => ?_)
              have hP : va_P D vwCl (hy_Wr cI cJ cB h b k w z ad ca S (nI (hy_nr S + 1)) (fun i => (hy_bx S i).map ad)) H := hP
              have hD : va_D A (hy_Wr cI cJ cB h b k w z ad ca S (nI (hy_nr S + 1)) (fun i => (hy_bx S i).map ad)) := hD
              refine lv_aload_n hx hb dX1_row_77 rfl (lv_at hl 1 rfl) ?_
              refine va_get (D := D) (ci := 1) (v := .ref b) (C := RX1) (T := TX1) (N := 10) hx hb hts hinX1 hown hK hP 0 rfl rfl 0 (by decide) (hts (.fieldLink RX1 11 "HiveYard" "boxes" "[LHiveYard$Content;") (by decide +kernel)) (fun _ h9 => h9) rfl dX1_row_78 ?_
              refine lv_iload_n hx hb dX1_row_81 rfl (lv_at hl 2 rfl) ?_
              refine lv_iload_n hx hb dX1_row_82 rfl (lv_at hl 3 rfl) ?_
              refine lv_iload_n hx hb dX1_row_83 rfl (lv_at hl 4 rfl) ?_
              have hFc : ∀ q, va_A [] H.size q → A q := hy_free (ws := []) ⟨fun i j p q h => by simp at h, fun k q h => by simp at h⟩ hS hA
              refine va_callr (va_runS (As := [.int a2, .int (nI n0)]) (rest := [.int a1, .ref b]) ⟨hx, hb, hml, hown, hts⟩ (c_X1_newRow l D cI cJ cB H.size n0 a2 hn0) (va_cwS 2 hts gX1_row_X1_newRow rfl rfl rfl (by decide +kernel) ⟨Nat.le_of_ble_eq_true rfl, Nat.le_of_ble_eq_true rfl⟩) ⟨fun a U g mk q => ⟨q.1, q.2.1, va_K.moved (u := U) (U := U.calling g mk a) (Vm.Alike.refl U.vm) q.2.2⟩, fun U hU hW => ⟨rfl, by rw [hU], va_K.moved hW.alike hK⟩⟩ rfl rfl hl.1 rfl (lv_room (Nat.le_of_ble_eq_true rfl)) dX1_row_84 ⟨Nat.le_of_ble_eq_true rfl, Nat.le_of_ble_eq_true rfl⟩) hS (fun q _ h => hFc q h) hFc (fun u q t H1 locs ht hvm hw hB hz1 hk1 hS => ?_)
              obtain ⟨qa, hP1, hK1, hD1⟩ := hB
              rw [ht] at hP1
              obtain ⟨hP, hD⟩ := hy_joinL (X := []) (Y := hy_Wr cI cJ cB h b k w z ad ca S (nI (hy_nr S + 1)) (fun i => (hy_bx S i).map ad)) hP hD hk1 hFc hP1 hD1
              have hP : va_P D vwCl ((qa, .inl (cJ, n0, .inr (.inl (hy_new a2 n0)))) :: (q, .inr (0, [.int a2, .ref qa])) :: hy_Wr cI cJ cB h b k w z ad ca S (nI (hy_nr S + 1)) (fun i => (hy_bx S i).map ad)) H1 := hP
              have hD : va_D A ((qa, .inl (cJ, n0, .inr (.inl (hy_new a2 n0)))) :: (q, .inr (0, [.int a2, .ref qa])) :: hy_Wr cI cJ cB h b k w z ad ca S (nI (hy_nr S + 1)) (fun i => (hy_bx S i).map ad)) := hD
              refine va_astq hx hb hK hP hD hS 3 2 1 0 rfl rfl rfl rfl (hy_ok_in f_2) dX1_row_87 (fun H locs hP hD hS => ?_)
              have hP : va_P D vwCl ((qa, .inl (cJ, n0, .inr (.inl (hy_new a2 n0)))) :: (q, .inr (0, [.int a2, .ref qa])) :: hy_Wr cI cJ cB h b k w z ad ca S (nI (hy_nr S + 1)) (va_up (fun i => (hy_bx S i).map ad) a1.toNatClampNeg (some q))) H := hP
              have hD : va_D A ((qa, .inl (cJ, n0, .inr (.inl (hy_new a2 n0)))) :: (q, .inr (0, [.int a2, .ref qa])) :: hy_Wr cI cJ cB h b k w z ad ca S (nI (hy_nr S + 1)) (va_up (fun i => (hy_bx S i).map ad) a1.toNatClampNeg (some q))) := hD
              have hP := hy_P_perm (hy_row_perm hwf a1.toNatClampNeg q qa n0 a2 (hy_new a2 n0)) hP
              have hD := hy_D_perm (hy_row_perm hwf a1.toNatClampNeg q qa n0 a2 (hy_new a2 n0)) hD
              refine lv_aloadN hx hb dX1_row_88 (lv_at hl 0 rfl) ?_
              refine lv_ifnonnullN hx hb dX1_row_90 ?_
              refine lv_iconst (v := 1) hx hb dX1_row_93 (by decide) ?_
              refine lv_goto (tgt := 98) hx hb dX1_row_94 (by decide) ?_
              have eS : (hy_W cI cJ cB h b k w z (va_up ad (hy_nr S + 1) q) (va_up ca (hy_nr S + 1) qa) (hy_add S a1.toNatClampNeg a2 n0 (hy_new a2 n0))) = (hy_W cI cJ cB h b k w z (va_up ad (hy_nr S + 1) q) (va_up ca (hy_nr S + 1) qa) (hy_srow S a1 a2 (nI n0))) := congrArg (hy_W cI cJ cB h b k w z (va_up ad (hy_nr S + 1) q) (va_up ca (hy_nr S + 1) qa)) (by rw [hy_srow, nI_clamp (by omega)])
              have hP : va_P D vwCl (hy_W cI cJ cB h b k w z (va_up ad (hy_nr S + 1) q) (va_up ca (hy_nr S + 1) qa) (hy_srow S a1 a2 (nI n0))) H := by rw [← eS]; exact hP
              have hD : va_D A (hy_W cI cJ cB h b k w z (va_up ad (hy_nr S + 1) q) (va_up ca (hy_nr S + 1) qa) (hy_srow S a1 a2 (nI n0))) := by rw [← eS]; exact hD
              exact vx_ret (W.widen (k := 3) (n := 32) (by decide) (by decide) (W.zret (v := 1) (ty := .boolean) hx hb hr (by decide +kernel) (fun t ht hW => ⟨⟨_, (), rfl, ⟨by simp only [hy_krw, hy_vrow, if_pos (hy_kbox0 f_2), hb2, if_neg c_8, if_pos c_14, if_neg c_28, if_pos c_34, if_pos c_54], by first | rfl | (simp only [hy_krw, hy_vrow, if_pos (hy_kbox0 f_2), hb2, if_neg c_8, if_pos c_14, if_neg c_28, if_pos c_34, if_pos c_54]; done)⟩, b, k, w, z, va_up ad (hy_nr S + 1) q, va_up ca (hy_nr S + 1) qa, by rw [ht]; exact hP, va_K.moved hW.alike hK, hD⟩, hS.F ht⟩) hS.2.2 dX1_row_98))
            · -- 57
              exact hy_throw (cls := "java/lang/UnsupportedOperationException") (text := "300 rows were made") (ik := 49) (is := 51) (ic := 53) hx hb hl9 hts hown hE hZ (by decide +kernel) (by decide +kernel) (by decide +kernel) (by decide +kernel) (by decide +kernel) (by decide +kernel) (by decide +kernel) (hl.1.trans hml.symm) dX1_row_57 dX1_row_60 dX1_row_61 dX1_row_63 dX1_row_66 hno hlocks ⟨Nat.le_of_ble_eq_true rfl, Nat.le_of_ble_eq_true rfl⟩ (Nat.le_of_ble_eq_true rfl) (Nat.le_of_ble_eq_true rfl) (Nat.le_of_ble_eq_true rfl) (Nat.le_of_ble_eq_true rfl) (Nat.le_of_ble_eq_true rfl) (⟨2, rfl, (by first | (simp only [hy_krw, hy_vrow, if_pos (hy_kbox0 f_2), hb2, if_neg c_8, if_pos c_14, if_neg c_28, if_pos c_34, if_neg c_54]) : hy_krw S a1 a2 a3 = 3).trans (by decide +kernel)⟩)
          · -- 37
            exact hy_throw (cls := "java/lang/IllegalArgumentException") (text := "a row has 0 to 24 places") (ik := 36) (is := 43) (ic := 40) hx hb hl9 hts hown hE hZ (by decide +kernel) (by decide +kernel) (by decide +kernel) (by decide +kernel) (by decide +kernel) (by decide +kernel) (by decide +kernel) (hl.1.trans hml.symm) dX1_row_37 dX1_row_40 dX1_row_41 dX1_row_43 dX1_row_46 hno hlocks ⟨Nat.le_of_ble_eq_true rfl, Nat.le_of_ble_eq_true rfl⟩ (Nat.le_of_ble_eq_true rfl) (Nat.le_of_ble_eq_true rfl) (Nat.le_of_ble_eq_true rfl) (Nat.le_of_ble_eq_true rfl) (Nat.le_of_ble_eq_true rfl) (⟨1, rfl, (by first | (simp only [hy_krw, hy_vrow, if_pos (hy_kbox0 f_2), hb2, if_neg c_8, if_pos c_14, if_neg c_28, if_neg c_34]) : hy_krw S a1 a2 a3 = 2).trans (by decide +kernel)⟩)
      · -- 17
        exact hy_throw (cls := "java/lang/IllegalArgumentException") (text := "no such sort") (ik := 36) (is := 38) (ic := 40) hx hb hl9 hts hown hE hZ (by decide +kernel) (by decide +kernel) (by decide +kernel) (by decide +kernel) (by decide +kernel) (by decide +kernel) (by decide +kernel) (hl.1.trans hml.symm) dX1_row_17 dX1_row_20 dX1_row_21 dX1_row_23 dX1_row_26 hno hlocks ⟨Nat.le_of_ble_eq_true rfl, Nat.le_of_ble_eq_true rfl⟩ (Nat.le_of_ble_eq_true rfl) (Nat.le_of_ble_eq_true rfl) (Nat.le_of_ble_eq_true rfl) (Nat.le_of_ble_eq_true rfl) (Nat.le_of_ble_eq_true rfl) (⟨1, rfl, (by first | (simp only [hy_krw, hy_vrow, if_pos (hy_kbox0 f_2), hb2, if_neg c_8, if_neg c_14]) : hy_krw S a1 a2 a3 = 2).trans (by decide +kernel)⟩)
  | some r2 =>
    have hr2 : r2 ≤ hy_nr S := hwf.2.2.1 _ _ hb2
    refine W.eq (g2 := F0 m 5 ls [.ref (ad r2)]) rfl ?_
    refine lv_astore (lv' := [(4, .ref (ad r2)), (0, .ref h), (1, .int a1), (2, .int a2), (3, .int a3)]) hx hb dX1_row_5 hl (by decide) rfl (fun ls hl => ?_)
    refine lv_iload_n hx hb dX1_row_7 rfl (lv_at hl 3 rfl) ?_
    refine lv_if_lt (tgt := 17) hx hb dX1_row_8 (by decide) (fun c_8 => ?_) (fun c_8 => ?_)
    · -- 17
      exact hy_throw (cls := "java/lang/IllegalArgumentException") (text := "no such sort") (ik := 36) (is := 38) (ic := 40) hx hb hl9 hts hown hE hZ (by decide +kernel) (by decide +kernel) (by decide +kernel) (by decide +kernel) (by decide +kernel) (by decide +kernel) (by decide +kernel) (hl.1.trans hml.symm) dX1_row_17 dX1_row_20 dX1_row_21 dX1_row_23 dX1_row_26 hno hlocks ⟨Nat.le_of_ble_eq_true rfl, Nat.le_of_ble_eq_true rfl⟩ (Nat.le_of_ble_eq_true rfl) (Nat.le_of_ble_eq_true rfl) (Nat.le_of_ble_eq_true rfl) (Nat.le_of_ble_eq_true rfl) (Nat.le_of_ble_eq_true rfl) (⟨1, rfl, (by first | (simp only [hy_krw, hy_vrow, if_pos (hy_kbox0 f_2), hb2, if_pos c_8]) : hy_krw S a1 a2 a3 = 2).trans (by decide +kernel)⟩)
    · -- 11
      refine lv_iload_n hx hb dX1_row_11 rfl (lv_at hl 3 rfl) ?_
      refine lv_bipush (v := 7) hx hb dX1_row_12 (by decide) ?_
      refine lv_icmp_le (tgt := 27) hx hb dX1_row_14 (by decide) (fun c_14 => ?_) (fun c_14 => ?_)
      · -- 27
        refine lv_iload_n hx hb dX1_row_27 rfl (lv_at hl 4 rfl) ?_
        refine lv_if_lt (tgt := 37) hx hb dX1_row_28 (by decide) (fun c_28 => ?_) (fun c_28 => ?_)
        · -- 37
          exact hy_throw (cls := "java/lang/IllegalArgumentException") (text := "a row has 0 to 24 places") (ik := 36) (is := 43) (ic := 40) hx hb hl9 hts hown hE hZ (by decide +kernel) (by decide +kernel) (by decide +kernel) (by decide +kernel) (by decide +kernel) (by decide +kernel) (by decide +kernel) (hl.1.trans hml.symm) dX1_row_37 dX1_row_40 dX1_row_41 dX1_row_43 dX1_row_46 hno hlocks ⟨Nat.le_of_ble_eq_true rfl, Nat.le_of_ble_eq_true rfl⟩ (Nat.le_of_ble_eq_true rfl) (Nat.le_of_ble_eq_true rfl) (Nat.le_of_ble_eq_true rfl) (Nat.le_of_ble_eq_true rfl) (Nat.le_of_ble_eq_true rfl) (⟨1, rfl, (by first | (simp only [hy_krw, hy_vrow, if_pos (hy_kbox0 f_2), hb2, if_neg c_8, if_pos c_14, if_pos c_28]) : hy_krw S a1 a2 a3 = 2).trans (by decide +kernel)⟩)
        · -- 31
          refine lv_iload_n hx hb dX1_row_31 rfl (lv_at hl 4 rfl) ?_
          refine lv_bipush (v := 24) hx hb dX1_row_32 (by decide) ?_
          refine lv_icmp_le (tgt := 47) hx hb dX1_row_34 (by decide) (fun c_34 => ?_) (fun c_34 => ?_)
          · -- 47
            refine lv_aload_n hx hb dX1_row_47 rfl (lv_at hl 1 rfl) ?_
            refine va_get (D := D) (ci := 1) (v := .int (nI (hy_nr S))) (C := RX1) (T := TX1) (N := 10) hx hb hts hinX1 hown hK hP 0 rfl rfl 5 (by decide) (hts (.fieldLink RX1 45 "HiveYard" "rowsMade" "I") (by decide +kernel)) (fun _ h9 => h9) rfl dX1_row_48 ?_
            refine lv_sipush (v := 300) hx hb dX1_row_51 (by decide) ?_
            refine lv_icmp_lt (tgt := 67) hx hb dX1_row_54 (by decide) (fun c_54 => ?_) (fun c_54 => ?_)
            · -- 67
              obtain ⟨n0, hn0, rfl⟩ := nI_of2 (M := 24) (n := 24) rfl c_28 c_34
              refine lv_aload_n hx hb dX1_row_67 rfl (lv_at hl 1 rfl) ?_
              refine lv_dup hx hb dX1_row_68 rfl ?_
              refine va_get (D := D) (ci := 1) (v := .int (nI (hy_nr S))) (C := RX1) (T := TX1) (N := 10) hx hb hts hinX1 hown hK hP 0 rfl rfl 5 (by decide) (hts (.fieldLink RX1 45 "HiveYard" "rowsMade" "I") (by decide +kernel)) (fun _ h9 => h9) rfl dX1_row_69 ?_
              refine lv_iconst (v := 1) hx hb dX1_row_72 (by decide) ?_
              refine lv_iadd hx hb dX1_row_73 ?_
              refine lv_topi (fun v9 e9 => ?_)
              obtain rfl : v9 = nI (hy_nr S + 1) := e9.trans (nI_1 _)
              clear e9
              refine va_put (D := D) (ci := 1) (v := .int (nI (hy_nr S + 1))) (ty := .int) (C := RX1) (T := TX1) (N := 10) hx hb hts hinX1 tyX1 tyX1_ok nmX1 hown hK hP hD hS 0 rfl rfl 5 (by decide) (hts (.fieldLink RX1 45 "HiveYard" "rowsMade" "I") (by decide +kernel)) (fun _ h9 => h9) rfl (by decide +kernel) rfl rfl (Nat.le_of_ble_eq_true rfl) dX1_row_74 (fun H locs hP hD hS => ?_)
              have hP : va_P D vwCl (hy_Wr cI cJ cB h b k w z ad ca S (nI (hy_nr S + 1)) (fun i => (hy_bx S i).map ad)) H := hP
              have hD : va_D A (hy_Wr cI cJ cB h b k w z ad ca S (nI (hy_nr S + 1)) (fun i => (hy_bx S i).map ad)) := hD
              refine lv_aload_n hx hb dX1_row_77 rfl (lv_at hl 1 rfl) ?_
              refine va_get (D := D) (ci := 1) (v := .ref b) (C := RX1) (T := TX1) (N := 10) hx hb hts hinX1 hown hK hP 0 rfl rfl 0 (by decide) (hts (.fieldLink RX1 11 "HiveYard" "boxes" "[LHiveYard$Content;") (by decide +kernel)) (fun _ h9 => h9) rfl dX1_row_78 ?_
              refine lv_iload_n hx hb dX1_row_81 rfl (lv_at hl 2 rfl) ?_
              refine lv_iload_n hx hb dX1_row_82 rfl (lv_at hl 3 rfl) ?_
              refine lv_iload_n hx hb dX1_row_83 rfl (lv_at hl 4 rfl) ?_
              have hFc : ∀ q, va_A [] H.size q → A q := hy_free (ws := []) ⟨fun i j p q h => by simp at h, fun k q h => by simp at h⟩ hS hA
              refine va_callr (va_runS (As := [.int a2, .int (nI n0)]) (rest := [.int a1, .ref b]) ⟨hx, hb, hml, hown, hts⟩ (c_X1_newRow l D cI cJ cB H.size n0 a2 hn0) (va_cwS 2 hts gX1_row_X1_newRow rfl rfl rfl (by decide +kernel) ⟨Nat.le_of_ble_eq_true rfl, Nat.le_of_ble_eq_true rfl⟩) ⟨fun a U g mk q => ⟨q.1, q.2.1, va_K.moved (u := U) (U := U.calling g mk a) (Vm.Alike.refl U.vm) q.2.2⟩, fun U hU hW => ⟨rfl, by rw [hU], va_K.moved hW.alike hK⟩⟩ rfl rfl hl.1 rfl (lv_room (Nat.le_of_ble_eq_true rfl)) dX1_row_84 ⟨Nat.le_of_ble_eq_true rfl, Nat.le_of_ble_eq_true rfl⟩) hS (fun q _ h => hFc q h) hFc (fun u q t H1 locs ht hvm hw hB hz1 hk1 hS => ?_)
              obtain ⟨qa, hP1, hK1, hD1⟩ := hB
              rw [ht] at hP1
              obtain ⟨hP, hD⟩ := hy_joinL (X := []) (Y := hy_Wr cI cJ cB h b k w z ad ca S (nI (hy_nr S + 1)) (fun i => (hy_bx S i).map ad)) hP hD hk1 hFc hP1 hD1
              have hP : va_P D vwCl ((qa, .inl (cJ, n0, .inr (.inl (hy_new a2 n0)))) :: (q, .inr (0, [.int a2, .ref qa])) :: hy_Wr cI cJ cB h b k w z ad ca S (nI (hy_nr S + 1)) (fun i => (hy_bx S i).map ad)) H1 := hP
              have hD : va_D A ((qa, .inl (cJ, n0, .inr (.inl (hy_new a2 n0)))) :: (q, .inr (0, [.int a2, .ref qa])) :: hy_Wr cI cJ cB h b k w z ad ca S (nI (hy_nr S + 1)) (fun i => (hy_bx S i).map ad)) := hD
              refine va_astq hx hb hK hP hD hS 3 2 1 0 rfl rfl rfl rfl (hy_ok_in f_2) dX1_row_87 (fun H locs hP hD hS => ?_)
              have hP : va_P D vwCl ((qa, .inl (cJ, n0, .inr (.inl (hy_new a2 n0)))) :: (q, .inr (0, [.int a2, .ref qa])) :: hy_Wr cI cJ cB h b k w z ad ca S (nI (hy_nr S + 1)) (va_up (fun i => (hy_bx S i).map ad) a1.toNatClampNeg (some q))) H := hP
              have hD : va_D A ((qa, .inl (cJ, n0, .inr (.inl (hy_new a2 n0)))) :: (q, .inr (0, [.int a2, .ref qa])) :: hy_Wr cI cJ cB h b k w z ad ca S (nI (hy_nr S + 1)) (va_up (fun i => (hy_bx S i).map ad) a1.toNatClampNeg (some q))) := hD
              have hP := hy_P_perm (hy_row_perm hwf a1.toNatClampNeg q qa n0 a2 (hy_new a2 n0)) hP
              have hD := hy_D_perm (hy_row_perm hwf a1.toNatClampNeg q qa n0 a2 (hy_new a2 n0)) hD
              refine lv_aload hx hb dX1_row_88 (lv_at hl 0 rfl) ?_
              refine lv_ifnonnull (tgt := 97) hx hb dX1_row_90 (by decide) ?_
              refine lv_iconst (v := 0) hx hb dX1_row_97 (by decide) ?_
              have eS : (hy_W cI cJ cB h b k w z (va_up ad (hy_nr S + 1) q) (va_up ca (hy_nr S + 1) qa) (hy_add S a1.toNatClampNeg a2 n0 (hy_new a2 n0))) = (hy_W cI cJ cB h b k w z (va_up ad (hy_nr S + 1) q) (va_up ca (hy_nr S + 1) qa) (hy_srow S a1 a2 (nI n0))) := congrArg (hy_W cI cJ cB h b k w z (va_up ad (hy_nr S + 1) q) (va_up ca (hy_nr S + 1) qa)) (by rw [hy_srow, nI_clamp (by omega)])
              have hP : va_P D vwCl (hy_W cI cJ cB h b k w z (va_up ad (hy_nr S + 1) q) (va_up ca (hy_nr S + 1) qa) (hy_srow S a1 a2 (nI n0))) H := by rw [← eS]; exact hP
              have hD : va_D A (hy_W cI cJ cB h b k w z (va_up ad (hy_nr S + 1) q) (va_up ca (hy_nr S + 1) qa) (hy_srow S a1 a2 (nI n0))) := by rw [← eS]; exact hD
              exact vx_ret (W.widen (k := 3) (n := 32) (by decide) (by decide) (W.zret (v := 0) (ty := .boolean) hx hb hr (by decide +kernel) (fun t ht hW => ⟨⟨_, (), rfl, ⟨by simp only [hy_krw, hy_vrow, if_pos (hy_kbox0 f_2), hb2, if_neg c_8, if_pos c_14, if_neg c_28, if_pos c_34, if_pos c_54], by first | rfl | (simp only [hy_krw, hy_vrow, if_pos (hy_kbox0 f_2), hb2, if_neg c_8, if_pos c_14, if_neg c_28, if_pos c_34, if_pos c_54]; done)⟩, b, k, w, z, va_up ad (hy_nr S + 1) q, va_up ca (hy_nr S + 1) qa, by rw [ht]; exact hP, va_K.moved hW.alike hK, hD⟩, hS.F ht⟩) hS.2.2 dX1_row_98))
            · -- 57
              exact hy_throw (cls := "java/lang/UnsupportedOperationException") (text := "300 rows were made") (ik := 49) (is := 51) (ic := 53) hx hb hl9 hts hown hE hZ (by decide +kernel) (by decide +kernel) (by decide +kernel) (by decide +kernel) (by decide +kernel) (by decide +kernel) (by decide +kernel) (hl.1.trans hml.symm) dX1_row_57 dX1_row_60 dX1_row_61 dX1_row_63 dX1_row_66 hno hlocks ⟨Nat.le_of_ble_eq_true rfl, Nat.le_of_ble_eq_true rfl⟩ (Nat.le_of_ble_eq_true rfl) (Nat.le_of_ble_eq_true rfl) (Nat.le_of_ble_eq_true rfl) (Nat.le_of_ble_eq_true rfl) (Nat.le_of_ble_eq_true rfl) (⟨2, rfl, (by first | (simp only [hy_krw, hy_vrow, if_pos (hy_kbox0 f_2), hb2, if_neg c_8, if_pos c_14, if_neg c_28, if_pos c_34, if_neg c_54]) : hy_krw S a1 a2 a3 = 3).trans (by decide +kernel)⟩)
          · -- 37
            exact hy_throw (cls := "java/lang/IllegalArgumentException") (text := "a row has 0 to 24 places") (ik := 36) (is := 43) (ic := 40) hx hb hl9 hts hown hE hZ (by decide +kernel) (by decide +kernel) (by decide +kernel) (by decide +kernel) (by decide +kernel) (by decide +kernel) (by decide +kernel) (hl.1.trans hml.symm) dX1_row_37 dX1_row_40 dX1_row_41 dX1_row_43 dX1_row_46 hno hlocks ⟨Nat.le_of_ble_eq_true rfl, Nat.le_of_ble_eq_true rfl⟩ (Nat.le_of_ble_eq_true rfl) (Nat.le_of_ble_eq_true rfl) (Nat.le_of_ble_eq_true rfl) (Nat.le_of_ble_eq_true rfl) (Nat.le_of_ble_eq_true rfl) (⟨1, rfl, (by first | (simp only [hy_krw, hy_vrow, if_pos (hy_kbox0 f_2), hb2, if_neg c_8, if_pos c_14, if_neg c_28, if_neg c_34]) : hy_krw S a1 a2 a3 = 2).trans (by decide +kernel)⟩)
      · -- 17
        exact hy_throw (cls := "java/lang/IllegalArgumentException") (text := "no such sort") (ik := 36) (is := 38) (ic := 40) hx hb hl9 hts hown hE hZ (by decide +kernel) (by decide +kernel) (by decide +kernel) (by decide +kernel) (by decide +kernel) (by decide +kernel) (by decide +kernel) (hl.1.trans hml.symm) dX1_row_17 dX1_row_20 dX1_row_21 dX1_row_23 dX1_row_26 hno hlocks ⟨Nat.le_of_ble_eq_true rfl, Nat.le_of_ble_eq_true rfl⟩ (Nat.le_of_ble_eq_true rfl) (Nat.le_of_ble_eq_true rfl) (Nat.le_of_ble_eq_true rfl) (Nat.le_of_ble_eq_true rfl) (Nat.le_of_ble_eq_true rfl) (⟨1, rfl, (by first | (simp only [hy_krw, hy_vrow, if_pos (hy_kbox0 f_2), hb2, if_neg c_8, if_neg c_14]) : hy_krw S a1 a2 a3 = 2).trans (by decide +kernel)⟩)
