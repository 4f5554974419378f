/-! THE CLASS: methods that only read and never throw. Rows laid by gen.py, specs_y.py. -/
set_option maxHeartbeats 4000000 in
set_option maxRecDepth 100000 in
/-- isRow -/
theorem c_X1_isRow (l : Launch) (D : va_G) (cI cJ cB : ClassId) (h b k w z : Nat) (ad ca : Nat → Nat) (S : hy_S) (o : Option Nat) (ho : ∀ r, o = some r → r ≤ hy_nr S) : Met l yX1_isRow wsX1_isRow ({ frames := 0, cells := 0, slots := 0, locals := 0 }) (va_Pc [va_rf (o.map ad)] (hy_I D cI cJ cB h b k w z ad ca S)) (vp_Si (fun v : Int32 => v = hy_isRow S o)) 0 0 (fun _ => False) := by
  refine Met.ofW (cc := cX1_isRow) (maxL := 1) (ret := (some .boolean)) (by decide) rfl ?_
  intro p e s m args below meth c s₁ B hml hv
  obtain ⟨rfl, hP, hK⟩ := hv
  have hx := B.exec
  have hb := B.bytes
  have hr := B.returns
  have hts := atoms_spec (ws := wsX1_isRow) B.pre
  have hown : s.vm.findClass RX1 = some m.cls := findClass_of_methodNamed B.named
  have hlocks := B.notSynchronized
  have hinX0 : ∀ w ∈ wsX00, w ∈ wsX1_isRow := by decide +kernel
  cases o with
  | none =>
    have hl := lv_entry ([va_rf ((none : Option Nat).map ad)]) (n := 1) (Nat.le_of_ble_eq_true rfl)
    rw [lg_entry_eq]
    generalize (lg_sl ([va_rf ((none : Option Nat).map ad)]) ++ List.replicate (1 - (lg_sl ([va_rf ((none : Option Nat).map ad)])).length) Slot.unset).toArray = ls at hl ⊢
    have hl : lv_has ls 1 [(0, .null)] := hl
    refine lv_aload_nN hx hb dX1_isRow_0 rfl (lv_at hl 0 rfl) ?_
    refine lv_ifnullN (tgt := 17) hx hb dX1_isRow_1 (by decide) ?_
    refine lv_iconst (v := 0) hx hb dX1_isRow_17 (by decide) ?_
    exact W.zret (v := 0) (ty := .boolean) hx hb hr (by decide +kernel) (fun t ht hW => ⟨_, rfl, by first | rfl | (simp [hy_isRow, *]; done) | ((try simp only [lg_cmp_lt, lg_cmp_ge, lg_cmp_le, lg_cmp_gt, lg_cmp_eq] at *); simp only [hy_isRow, *, ↓reduceIte, if_false, if_true, not_false_eq_true, not_true_eq_false]; done) | (simp_all [hy_isRow]; done), ht⟩) (fun q h => nomatch h) dX1_isRow_18
  | some r =>
    have hrw : r ≤ hy_nr S := ho r rfl
    have hl := lv_entry ([va_rf ((some r).map ad)]) (n := 1) (Nat.le_of_ble_eq_true rfl)
    rw [lg_entry_eq]
    generalize (lg_sl ([va_rf ((some r).map ad)]) ++ List.replicate (1 - (lg_sl ([va_rf ((some r).map ad)])).length) Slot.unset).toArray = ls at hl ⊢
    have hl : lv_has ls 1 [(0, .ref (ad r))] := hl
    refine lv_aload_n hx hb dX1_isRow_0 rfl (lv_at hl 0 rfl) ?_
    refine lv_ifnull hx hb dX1_isRow_1 ?_
    refine lv_aload_n hx hb dX1_isRow_4 rfl (lv_at hl 0 rfl) ?_
    refine va_get (D := D) (ci := 0) (v := .int (hy_so S r)) (C := RX0) (T := TX0) (N := 2) hx hb hts hinX0 hown hK hP (5 + r) (hy_W_row hrw) rfl 0 (by decide) (hts (.fieldLink RX1 83 "HiveYard$Content" "sort" "I") (by decide +kernel)) (fun _ h9 => h9) rfl dX1_isRow_5 ?_
    refine lv_bipush (v := 8) hx hb dX1_isRow_8 (by decide) ?_
    refine lv_icmp_eq (tgt := 17) hx hb dX1_isRow_10 (by decide) (fun c_10 => ?_) (fun c_10 => ?_)
    · -- 17
      refine lv_iconst (v := 0) hx hb dX1_isRow_17 (by decide) ?_
      exact W.zret (v := 0) (ty := .boolean) hx hb hr (by decide +kernel) (fun t ht hW => ⟨_, rfl, by first | rfl | (simp [hy_isRow, *]; done) | ((try simp only [lg_cmp_lt, lg_cmp_ge, lg_cmp_le, lg_cmp_gt, lg_cmp_eq] at *); simp only [hy_isRow, *, ↓reduceIte, if_false, if_true, not_false_eq_true, not_true_eq_false]; done) | (simp_all [hy_isRow]; done), ht⟩) (fun q h => nomatch h) dX1_isRow_18
    · -- 13
      refine lv_iconst (v := 1) hx hb dX1_isRow_13 (by decide) ?_
      refine lv_goto (tgt := 18) hx hb dX1_isRow_14 (by decide) ?_
      exact W.zret (v := 1) (ty := .boolean) hx hb hr (by decide +kernel) (fun t ht hW => ⟨_, rfl, by first | rfl | (simp [hy_isRow, *]; done) | ((try simp only [lg_cmp_lt, lg_cmp_ge, lg_cmp_le, lg_cmp_gt, lg_cmp_eq] at *); simp only [hy_isRow, *, ↓reduceIte, if_false, if_true, not_false_eq_true, not_true_eq_false]; done) | (simp_all [hy_isRow]; done), ht⟩) (fun q h => nomatch h) dX1_isRow_18
set_option maxHeartbeats 4000000 in
set_option maxRecDepth 100000 in
theorem c_X1_isNumbers (l : Launch) (D : va_G) (cI cJ cB : ClassId) (h b k w z : Nat) (ad ca : Nat → Nat) (S : hy_S) (o : Option Nat) (ho : ∀ r, o = some r → r ≤ hy_nr S) : Met l yX1_isNumbers wsX1_isNumbers ({ frames := 1, cells := 0, slots := 0, locals := 20 }) (va_Pc [va_rf (o.map ad)] (hy_I D cI cJ cB h b k w z ad ca S)) (vp_Si (fun v : Int32 => v = hy_isNum S o)) 0 0 (fun _ => False) := by
  refine Met.ofW (cc := cX1_isNumbers) (maxL := 1) (ret := (some .boolean)) (by decide) rfl ?_
  intro p e s m args below meth c s₁ B hml hv
  obtain ⟨rfl, hP, hK⟩ := hv
  have hx := B.exec
  have hb := B.bytes
  have hr := B.returns
  have hts := atoms_spec (ws := wsX1_isNumbers) B.pre
  have hown : s.vm.findClass RX1 = some m.cls := findClass_of_methodNamed B.named
  have hlocks := B.notSynchronized
  have hinX0 : ∀ w ∈ wsX00, w ∈ wsX1_isNumbers := by decide +kernel
  cases o with
  | none =>
    have hl := lv_entry ([va_rf ((none : Option Nat).map ad)]) (n := 1) (Nat.le_of_ble_eq_true rfl)
    rw [lg_entry_eq]
    generalize (lg_sl ([va_rf ((none : Option Nat).map ad)]) ++ List.replicate (1 - (lg_sl ([va_rf ((none : Option Nat).map ad)])).length) Slot.unset).toArray = ls at hl ⊢
    have hl : lv_has ls 1 [(0, .null)] := hl
    refine lv_aload_nN hx hb dX1_isNumbers_0 rfl (lv_at hl 0 rfl) ?_
    refine vp_callSi (W.runS (As := [.null]) (rest := []) ⟨hx, hb, hml, hown, hts⟩ (c_X1_isRow l D cI cJ cB h b k w z ad ca S none (fun _ q => nomatch q)) (va_cwS 1 hts gX1_isNumbers_X1_isRow rfl rfl rfl (by decide +kernel) ⟨Nat.le_of_ble_eq_true rfl, Nat.le_of_ble_eq_true rfl⟩) ⟨hy_I_blind, fun U hU hW => ⟨rfl, hy_I_at hU hW hP hK⟩⟩ rfl rfl hl.1 rfl (lv_room (Nat.le_of_ble_eq_true rfl)) dX1_isNumbers_1 ⟨Nat.le_of_ble_eq_true rfl, Nat.le_of_ble_eq_true rfl⟩) (fun v9 e9 => ?_)
    subst e9
    refine lv_if_eq (tgt := 19) hx hb dX1_isNumbers_4 (by decide) (fun c_4 => ?_) (fun c9 => absurd c9 (fun c => c rfl))
    refine lv_iconst (v := 0) hx hb dX1_isNumbers_19 (by decide) ?_
    exact W.zret (v := 0) (ty := .boolean) hx hb hr (by decide +kernel) (fun t ht hW => ⟨_, rfl, by first | rfl | (simp [hy_isRow, hy_isNum, *]; done) | ((try simp only [lg_cmp_lt, lg_cmp_ge, lg_cmp_le, lg_cmp_gt, lg_cmp_eq] at *); simp only [hy_isRow, hy_isNum, *, ↓reduceIte, if_false, if_true, not_false_eq_true, not_true_eq_false]; done) | (simp_all [hy_isRow, hy_isNum]; done), ht⟩) (fun q h => nomatch h) dX1_isNumbers_20
  | some r =>
    have hrw : r ≤ hy_nr S := ho r rfl
    have hl := lv_entry ([va_rf ((some r).map ad)]) (n := 1) (Nat.le_of_ble_eq_true rfl)
    rw [lg_entry_eq]
    generalize (lg_sl ([va_rf ((some r).map ad)]) ++ List.replicate (1 - (lg_sl ([va_rf ((some r).map ad)])).length) Slot.unset).toArray = ls at hl ⊢
    have hl : lv_has ls 1 [(0, .ref (ad r))] := hl
    refine lv_aload_n hx hb dX1_isNumbers_0 rfl (lv_at hl 0 rfl) ?_
    refine vp_callSi (W.runS (As := [.ref (ad r)]) (rest := []) ⟨hx, hb, hml, hown, hts⟩ (c_X1_isRow l D cI cJ cB h b k w z ad ca S (some r) (fun _ q => by cases q; exact hrw)) (va_cwS 1 hts gX1_isNumbers_X1_isRow rfl rfl rfl (by decide +kernel) ⟨Nat.le_of_ble_eq_true rfl, Nat.le_of_ble_eq_true rfl⟩) ⟨hy_I_blind, fun U hU hW => ⟨rfl, hy_I_at hU hW hP hK⟩⟩ rfl rfl hl.1 rfl (lv_room (Nat.le_of_ble_eq_true rfl)) dX1_isNumbers_1 ⟨Nat.le_of_ble_eq_true rfl, Nat.le_of_ble_eq_true rfl⟩) (fun v9 e9 => ?_)
    subst e9
    refine lv_if_eq (tgt := 19) hx hb dX1_isNumbers_4 (by decide) (fun c_4 => ?_) (fun c_4 => ?_)
    · -- 19
      refine lv_iconst (v := 0) hx hb dX1_isNumbers_19 (by decide) ?_
      exact W.zret (v := 0) (ty := .boolean) hx hb hr (by decide +kernel) (fun t ht hW => ⟨_, rfl, by first | rfl | (simp [hy_isRow, hy_isNum, *]; done) | ((try simp only [lg_cmp_lt, lg_cmp_ge, lg_cmp_le, lg_cmp_gt, lg_cmp_eq] at *); simp only [hy_isRow, hy_isNum, *, ↓reduceIte, if_false, if_true, not_false_eq_true, not_true_eq_false]; done) | (simp_all [hy_isRow, hy_isNum]; done), ht⟩) (fun q h => nomatch h) dX1_isNumbers_20
    · -- 7
      refine lv_aload_n hx hb dX1_isNumbers_7 rfl (lv_at hl 0 rfl) ?_
      refine va_get (D := D) (ci := 0) (v := .int (hy_so S r)) (C := RX0) (T := TX0) (N := 2) hx hb hts hinX0 hown hK hP (5 + r) (hy_W_row hrw) rfl 0 (by decide) (hts (.fieldLink RX1 83 "HiveYard$Content" "sort" "I") (by decide +kernel)) (fun _ h9 => h9) rfl dX1_isNumbers_8 ?_
      refine lv_iconst (v := 3) hx hb dX1_isNumbers_11 (by decide) ?_
      refine lv_icmp_gt (tgt := 19) hx hb dX1_isNumbers_12 (by decide) (fun c_12 => ?_) (fun c_12 => ?_)
      · -- 19
        refine lv_iconst (v := 0) hx hb dX1_isNumbers_19 (by decide) ?_
        exact W.zret (v := 0) (ty := .boolean) hx hb hr (by decide +kernel) (fun t ht hW => ⟨_, rfl, by first | rfl | (simp [hy_isRow, hy_isNum, *]; done) | ((try simp only [lg_cmp_lt, lg_cmp_ge, lg_cmp_le, lg_cmp_gt, lg_cmp_eq] at *); simp only [hy_isRow, hy_isNum, *, ↓reduceIte, if_false, if_true, not_false_eq_true, not_true_eq_false]; done) | (simp_all [hy_isRow, hy_isNum]; done), ht⟩) (fun q h => nomatch h) dX1_isNumbers_20
      · -- 15
        refine lv_iconst (v := 1) hx hb dX1_isNumbers_15 (by decide) ?_
        refine lv_goto (tgt := 20) hx hb dX1_isNumbers_16 (by decide) ?_
        exact W.zret (v := 1) (ty := .boolean) hx hb hr (by decide +kernel) (fun t ht hW => ⟨_, rfl, by first | rfl | (simp [hy_isRow, hy_isNum, *]; done) | ((try simp only [lg_cmp_lt, lg_cmp_ge, lg_cmp_le, lg_cmp_gt, lg_cmp_eq] at *); simp only [hy_isRow, hy_isNum, *, ↓reduceIte, if_false, if_true, not_false_eq_true, not_true_eq_false]; done) | (simp_all [hy_isRow, hy_isNum]; done), ht⟩) (fun q h => nomatch h) dX1_isNumbers_20
set_option maxHeartbeats 4000000 in
set_option maxRecDepth 100000 in
theorem c_X1_isCombs (l : Launch) (D : va_G) (cI cJ cB : ClassId) (h b k w z : Nat) (ad ca : Nat → Nat) (S : hy_S) (o : Option Nat) (ho : ∀ r, o = some r → r ≤ hy_nr S) : Met l yX1_isCombs wsX1_isCombs ({ frames := 1, cells := 0, slots := 0, locals := 20 }) (va_Pc [va_rf (o.map ad)] (hy_I D cI cJ cB h b k w z ad ca S)) (vp_Si (fun v : Int32 => v = hy_isCo S o)) 0 0 (fun _ => False) := by
  refine Met.ofW (cc := cX1_isCombs) (maxL := 1) (ret := (some .boolean)) (by decide) rfl ?_
  intro p e s m args below meth c s₁ B hml hv
  obtain ⟨rfl, hP, hK⟩ := hv
  have hx := B.exec
  have hb := B.bytes
  have hr := B.returns
  have hts := atoms_spec (ws := wsX1_isCombs) B.pre
  have hown : s.vm.findClass RX1 = some m.cls := findClass_of_methodNamed B.named
  have hlocks := B.notSynchronized
  have hinX0 : ∀ w ∈ wsX00, w ∈ wsX1_isCombs := by decide +kernel
  cases o with
  | none =>
    have hl := lv_entry ([va_rf ((none : Option Nat).map ad)]) (n := 1) (Nat.le_of_ble_eq_true rfl)
    rw [lg_entry_eq]
    generalize (lg_sl ([va_rf ((none : Option Nat).map ad)]) ++ List.replicate (1 - (lg_sl ([va_rf ((none : Option Nat).map ad)])).length) Slot.unset).toArray = ls at hl ⊢
    have hl : lv_has ls 1 [(0, .null)] := hl
    refine lv_aload_nN hx hb dX1_isCombs_0 rfl (lv_at hl 0 rfl) ?_
    refine vp_callSi (W.runS (As := [.null]) (rest := []) ⟨hx, hb, hml, hown, hts⟩ (c_X1_isRow l D cI cJ cB h b k w z ad ca S none (fun _ q => nomatch q)) (va_cwS 1 hts gX1_isCombs_X1_isRow rfl rfl rfl (by decide +kernel) ⟨Nat.le_of_ble_eq_true rfl, Nat.le_of_ble_eq_true rfl⟩) ⟨hy_I_blind, fun U hU hW => ⟨rfl, hy_I_at hU hW hP hK⟩⟩ rfl rfl hl.1 rfl (lv_room (Nat.le_of_ble_eq_true rfl)) dX1_isCombs_1 ⟨Nat.le_of_ble_eq_true rfl, Nat.le_of_ble_eq_true rfl⟩) (fun v9 e9 => ?_)
    subst e9
    refine lv_if_eq (tgt := 19) hx hb dX1_isCombs_4 (by decide) (fun c_4 => ?_) (fun c9 => absurd c9 (fun c => c rfl))
    refine lv_iconst (v := 0) hx hb dX1_isCombs_19 (by decide) ?_
    exact W.zret (v := 0) (ty := .boolean) hx hb hr (by decide +kernel) (fun t ht hW => ⟨_, rfl, by first | rfl | (simp [hy_isRow, hy_isCo, *]; done) | ((try simp only [lg_cmp_lt, lg_cmp_ge, lg_cmp_le, lg_cmp_gt, lg_cmp_eq] at *); simp only [hy_isRow, hy_isCo, *, ↓reduceIte, if_false, if_true, not_false_eq_true, not_true_eq_false]; done) | (simp_all [hy_isRow, hy_isCo]; done), ht⟩) (fun q h => nomatch h) dX1_isCombs_20
  | some r =>
    have hrw : r ≤ hy_nr S := ho r rfl
    have hl := lv_entry ([va_rf ((some r).map ad)]) (n := 1) (Nat.le_of_ble_eq_true rfl)
    rw [lg_entry_eq]
    generalize (lg_sl ([va_rf ((some r).map ad)]) ++ List.replicate (1 - (lg_sl ([va_rf ((some r).map ad)])).length) Slot.unset).toArray = ls at hl ⊢
    have hl : lv_has ls 1 [(0, .ref (ad r))] := hl
    refine lv_aload_n hx hb dX1_isCombs_0 rfl (lv_at hl 0 rfl) ?_
    refine vp_callSi (W.runS (As := [.ref (ad r)]) (rest := []) ⟨hx, hb, hml, hown, hts⟩ (c_X1_isRow l D cI cJ cB h b k w z ad ca S (some r) (fun _ q => by cases q; exact hrw)) (va_cwS 1 hts gX1_isCombs_X1_isRow rfl rfl rfl (by decide +kernel) ⟨Nat.le_of_ble_eq_true rfl, Nat.le_of_ble_eq_true rfl⟩) ⟨hy_I_blind, fun U hU hW => ⟨rfl, hy_I_at hU hW hP hK⟩⟩ rfl rfl hl.1 rfl (lv_room (Nat.le_of_ble_eq_true rfl)) dX1_isCombs_1 ⟨Nat.le_of_ble_eq_true rfl, Nat.le_of_ble_eq_true rfl⟩) (fun v9 e9 => ?_)
    subst e9
    refine lv_if_eq (tgt := 19) hx hb dX1_isCombs_4 (by decide) (fun c_4 => ?_) (fun c_4 => ?_)
    · -- 19
      refine lv_iconst (v := 0) hx hb dX1_isCombs_19 (by decide) ?_
      exact W.zret (v := 0) (ty := .boolean) hx hb hr (by decide +kernel) (fun t ht hW => ⟨_, rfl, by first | rfl | (simp [hy_isRow, hy_isCo, *]; done) | ((try simp only [lg_cmp_lt, lg_cmp_ge, lg_cmp_le, lg_cmp_gt, lg_cmp_eq] at *); simp only [hy_isRow, hy_isCo, *, ↓reduceIte, if_false, if_true, not_false_eq_true, not_true_eq_false]; done) | (simp_all [hy_isRow, hy_isCo]; done), ht⟩) (fun q h => nomatch h) dX1_isCombs_20
    · -- 7
      refine lv_aload_n hx hb dX1_isCombs_7 rfl (lv_at hl 0 rfl) ?_
      refine va_get (D := D) (ci := 0) (v := .int (hy_so S r)) (C := RX0) (T := TX0) (N := 2) hx hb hts hinX0 hown hK hP (5 + r) (hy_W_row hrw) rfl 0 (by decide) (hts (.fieldLink RX1 83 "HiveYard$Content" "sort" "I") (by decide +kernel)) (fun _ h9 => h9) rfl dX1_isCombs_8 ?_
      refine lv_iconst (v := 4) hx hb dX1_isCombs_11 (by decide) ?_
      refine lv_icmp_lt (tgt := 19) hx hb dX1_isCombs_12 (by decide) (fun c_12 => ?_) (fun c_12 => ?_)
      · -- 19
        refine lv_iconst (v := 0) hx hb dX1_isCombs_19 (by decide) ?_
        exact W.zret (v := 0) (ty := .boolean) hx hb hr (by decide +kernel) (fun t ht hW => ⟨_, rfl, by first | rfl | (simp [hy_isRow, hy_isCo, *]; done) | ((try simp only [lg_cmp_lt, lg_cmp_ge, lg_cmp_le, lg_cmp_gt, lg_cmp_eq] at *); simp only [hy_isRow, hy_isCo, *, ↓reduceIte, if_false, if_true, not_false_eq_true, not_true_eq_false]; done) | (simp_all [hy_isRow, hy_isCo]; done), ht⟩) (fun q h => nomatch h) dX1_isCombs_20
      · -- 15
        refine lv_iconst (v := 1) hx hb dX1_isCombs_15 (by decide) ?_
        refine lv_goto (tgt := 20) hx hb dX1_isCombs_16 (by decide) ?_
        exact W.zret (v := 1) (ty := .boolean) hx hb hr (by decide +kernel) (fun t ht hW => ⟨_, rfl, by first | rfl | (simp [hy_isRow, hy_isCo, *]; done) | ((try simp only [lg_cmp_lt, lg_cmp_ge, lg_cmp_le, lg_cmp_gt, lg_cmp_eq] at *); simp only [hy_isRow, hy_isCo, *, ↓reduceIte, if_false, if_true, not_false_eq_true, not_true_eq_false]; done) | (simp_all [hy_isRow, hy_isCo]; done), ht⟩) (fun q h => nomatch h) dX1_isCombs_20
set_option maxHeartbeats 4000000 in
set_option maxRecDepth 100000 in
theorem c_X1_sortOf (l : Launch) (D : va_G) (cI cJ cB : ClassId) (h b k w z : Nat) (ad ca : Nat → Nat) (S : hy_S) (o : Option Nat) (ho : ∀ r, o = some r → r ≤ hy_nr S) : Met l yX1_sortOf wsX1_sortOf ({ frames := 0, cells := 0, slots := 0, locals := 0 }) (va_Pc [va_rf (o.map ad)] (hy_I D cI cJ cB h b k w z ad ca S)) (vp_Si (fun v : Int32 => v = hy_sort S o)) 0 0 (fun _ => False) := by
  refine Met.ofW (cc := cX1_sortOf) (maxL := 1) (ret := (some .int)) (by decide) rfl ?_
  intro p e s m args below meth c s₁ B hml hv
  obtain ⟨rfl, hP, hK⟩ := hv
  have hx := B.exec
  have hb := B.bytes
  have hr := B.returns
  have hts := atoms_spec (ws := wsX1_sortOf) B.pre
  have hown : s.vm.findClass RX1 = some m.cls := findClass_of_methodNamed B.named
  have hlocks := B.notSynchronized
  have hinX0 : ∀ w ∈ wsX00, w ∈ wsX1_sortOf := by decide +kernel
  cases o with
  | none =>
    have hl := lv_entry ([va_rf ((none : Option Nat).map ad)]) (n := 1) (Nat.le_of_ble_eq_true rfl)
    rw [lg_entry_eq]
    generalize (lg_sl ([va_rf ((none : Option Nat).map ad)]) ++ List.replicate (1 - (lg_sl ([va_rf ((none : Option Nat).map ad)])).length) Slot.unset).toArray = ls at hl ⊢
    have hl : lv_has ls 1 [(0, .null)] := hl
    refine lv_aload_nN hx hb dX1_sortOf_0 rfl (lv_at hl 0 rfl) ?_
    refine lv_ifnonnullN hx hb dX1_sortOf_1 ?_
    refine lv_iconst (v := (-1)) hx hb dX1_sortOf_4 (by decide) ?_
    refine lv_goto (tgt := 12) hx hb dX1_sortOf_5 (by decide) ?_
    exact W.iret (v := (-1)) hx hb hr (fun t ht hW => ⟨_, rfl, by first | rfl | (simp [hy_sort, *]; done) | ((try simp only [lg_cmp_lt, lg_cmp_ge, lg_cmp_le, lg_cmp_gt, lg_cmp_eq] at *); simp only [hy_sort, *, ↓reduceIte, if_false, if_true, not_false_eq_true, not_true_eq_false]; done) | (simp_all [hy_sort]; done), ht⟩) (fun q h => nomatch h) dX1_sortOf_12
  | some r =>
    have hrw : r ≤ hy_nr S := ho r rfl
    have hl := lv_entry ([va_rf ((some r).map ad)]) (n := 1) (Nat.le_of_ble_eq_true rfl)
    rw [lg_entry_eq]
    generalize (lg_sl ([va_rf ((some r).map ad)]) ++ List.replicate (1 - (lg_sl ([va_rf ((some r).map ad)])).length) Slot.unset).toArray = ls at hl ⊢
    have hl : lv_has ls 1 [(0, .ref (ad r))] := hl
    refine lv_aload_n hx hb dX1_sortOf_0 rfl (lv_at hl 0 rfl) ?_
    refine lv_ifnonnull (tgt := 8) hx hb dX1_sortOf_1 (by decide) ?_
    refine lv_aload_n hx hb dX1_sortOf_8 rfl (lv_at hl 0 rfl) ?_
    refine va_get (D := D) (ci := 0) (v := .int (hy_so S r)) (C := RX0) (T := TX0) (N := 2) hx hb hts hinX0 hown hK hP (5 + r) (hy_W_row hrw) rfl 0 (by decide) (hts (.fieldLink RX1 83 "HiveYard$Content" "sort" "I") (by decide +kernel)) (fun _ h9 => h9) rfl dX1_sortOf_9 ?_
    exact W.iret (v := (hy_so S r)) hx hb hr (fun t ht hW => ⟨_, rfl, by first | rfl | (simp [hy_sort, *]; done) | ((try simp only [lg_cmp_lt, lg_cmp_ge, lg_cmp_le, lg_cmp_gt, lg_cmp_eq] at *); simp only [hy_sort, *, ↓reduceIte, if_false, if_true, not_false_eq_true, not_true_eq_false]; done) | (simp_all [hy_sort]; done), ht⟩) (fun q h => nomatch h) dX1_sortOf_12
set_option maxHeartbeats 4000000 in
set_option maxRecDepth 100000 in
theorem c_X1_cellsIn (l : Launch) (D : va_G) (cI cJ cB : ClassId) (h b k w z : Nat) (ad ca : Nat → Nat) (S : hy_S) (o : Option Nat) (ho : ∀ r, o = some r → r ≤ hy_nr S) : Met l yX1_cellsIn wsX1_cellsIn ({ frames := 0, cells := 0, slots := 0, locals := 0 }) (va_Pc [va_rf (o.map ad)] (hy_I D cI cJ cB h b k w z ad ca S)) (vp_Si (fun v : Int32 => v = hy_len S o)) 0 0 (fun _ => False) := by
  refine Met.ofW (cc := cX1_cellsIn) (maxL := 1) (ret := (some .int)) (by decide) rfl ?_
  intro p e s m args below meth c s₁ B hml hv
  obtain ⟨rfl, hP, hK⟩ := hv
  have hx := B.exec
  have hb := B.bytes
  have hr := B.returns
  have hts := atoms_spec (ws := wsX1_cellsIn) B.pre
  have hown : s.vm.findClass RX1 = some m.cls := findClass_of_methodNamed B.named
  have hlocks := B.notSynchronized
  have hinX0 : ∀ w ∈ wsX00, w ∈ wsX1_cellsIn := by decide +kernel
  cases o with
  | none =>
    have hl := lv_entry ([va_rf ((none : Option Nat).map ad)]) (n := 1) (Nat.le_of_ble_eq_true rfl)
    rw [lg_entry_eq]
    generalize (lg_sl ([va_rf ((none : Option Nat).map ad)]) ++ List.replicate (1 - (lg_sl ([va_rf ((none : Option Nat).map ad)])).length) Slot.unset).toArray = ls at hl ⊢
    have hl : lv_has ls 1 [(0, .null)] := hl
    refine lv_aload_nN hx hb dX1_cellsIn_0 rfl (lv_at hl 0 rfl) ?_
    refine lv_ifnonnullN hx hb dX1_cellsIn_1 ?_
    refine lv_iconst (v := 0) hx hb dX1_cellsIn_4 (by decide) ?_
    refine lv_goto (tgt := 13) hx hb dX1_cellsIn_5 (by decide) ?_
    exact W.iret (v := 0) hx hb hr (fun t ht hW => ⟨_, rfl, by first | rfl | (simp [hy_len, *]; done) | ((try simp only [lg_cmp_lt, lg_cmp_ge, lg_cmp_le, lg_cmp_gt, lg_cmp_eq] at *); simp only [hy_len, *, ↓reduceIte, if_false, if_true, not_false_eq_true, not_true_eq_false]; done) | (simp_all [hy_len]; done), ht⟩) (fun q h => nomatch h) dX1_cellsIn_13
  | some r =>
    have hrw : r ≤ hy_nr S := ho r rfl
    have hl := lv_entry ([va_rf ((some r).map ad)]) (n := 1) (Nat.le_of_ble_eq_true rfl)
    rw [lg_entry_eq]
    generalize (lg_sl ([va_rf ((some r).map ad)]) ++ List.replicate (1 - (lg_sl ([va_rf ((some r).map ad)])).length) Slot.unset).toArray = ls at hl ⊢
    have hl : lv_has ls 1 [(0, .ref (ad r))] := hl
    refine lv_aload_n hx hb dX1_cellsIn_0 rfl (lv_at hl 0 rfl) ?_
    refine lv_ifnonnull (tgt := 8) hx hb dX1_cellsIn_1 (by decide) ?_
    refine lv_aload_n hx hb dX1_cellsIn_8 rfl (lv_at hl 0 rfl) ?_
    refine va_get (D := D) (ci := 0) (v := .ref (ca r)) (C := RX0) (T := TX0) (N := 2) hx hb hts hinX0 hown hK hP (5 + r) (hy_W_row hrw) rfl 1 (by decide) (hts (.fieldLink RX1 79 "HiveYard$Content" "cells" "[J") (by decide +kernel)) (fun _ h9 => h9) rfl dX1_cellsIn_9 ?_
    refine va_alen (v := (nI (hy_le S r))) hx hb hK hP (5 + (hy_nr S + 1 + r)) 1 (hy_W_arr hrw) rfl rfl dX1_cellsIn_12 ?_
    exact W.iret (v := (nI (hy_le S r))) hx hb hr (fun t ht hW => ⟨_, rfl, by first | rfl | (simp [hy_len, *]; done) | ((try simp only [lg_cmp_lt, lg_cmp_ge, lg_cmp_le, lg_cmp_gt, lg_cmp_eq] at *); simp only [hy_len, *, ↓reduceIte, if_false, if_true, not_false_eq_true, not_true_eq_false]; done) | (simp_all [hy_len]; done), ht⟩) (fun q h => nomatch h) dX1_cellsIn_13
set_option maxHeartbeats 4000000 in
set_option maxRecDepth 100000 in
theorem c_X1_takes (l : Launch) (a0 a1 : Int32) : Met l yX1_takes wsX1_takes ({ frames := 0, cells := 0, slots := 0, locals := 0 }) (va_Pc [.int a0, .int a1] (fun _ => True)) (vp_Si (fun v : Int32 => v = hy_takes a0 a1)) 0 0 (fun _ => False) := by
  refine Met.ofW (cc := cX1_takes) (maxL := 3) (ret := (some .boolean)) (by decide) rfl ?_
  intro p e s m args below meth c s₁ B hml hv
  obtain ⟨rfl, -⟩ := hv
  have hx := B.exec
  have hb := B.bytes
  have hr := B.returns
  have hts := atoms_spec (ws := wsX1_takes) B.pre
  have hown : s.vm.findClass RX1 = some m.cls := findClass_of_methodNamed B.named
  have hlocks := B.notSynchronized
  have hl := lv_entry ([.int a0, .int a1]) (n := 3) (Nat.le_of_ble_eq_true rfl)
  rw [lg_entry_eq]
  generalize (lg_sl ([.int a0, .int a1]) ++ List.replicate (3 - (lg_sl ([.int a0, .int a1])).length) Slot.unset).toArray = ls at hl ⊢
  have hl : lv_has ls 3 [(0, .int a0), (1, .int a1)] := hl
  refine lv_iload_n hx hb dX1_takes_0 rfl (lv_at hl 0 rfl) ?_
  refine lv_iconst (v := 4) hx hb dX1_takes_1 (by decide) ?_
  refine lv_isub hx hb dX1_takes_2 ?_
  refine lv_istore_n (lv' := [(2, .int (a0 - 4)), (0, .int a0), (1, .int a1)]) hx hb dX1_takes_3 rfl hl (by decide) rfl (fun ls hl => ?_)
  refine lv_iload_n hx hb dX1_takes_4 rfl (lv_at hl 0 rfl) ?_
  refine lv_if_eq (tgt := 23) hx hb dX1_takes_5 (by decide) (fun c_5 => ?_) (fun c_5 => ?_)
  · -- 23
    refine lv_iconst (v := 1) hx hb dX1_takes_23 (by decide) ?_
    refine lv_goto (tgt := 28) hx hb dX1_takes_24 (by decide) ?_
    exact W.zret (v := 1) (ty := .boolean) hx hb hr (by decide +kernel) (fun t ht hW => ⟨_, rfl, by first | rfl | (simp [hy_takes, *]; done) | ((try simp only [lg_cmp_lt, lg_cmp_ge, lg_cmp_le, lg_cmp_gt, lg_cmp_eq] at *); simp only [hy_takes, *, ↓reduceIte, if_false, if_true, not_false_eq_true, not_true_eq_false]; done) | (simp_all [hy_takes]; done), ht⟩) (fun q h => nomatch h) dX1_takes_28
  · -- 8
    refine lv_iload_n hx hb dX1_takes_8 rfl (lv_at hl 0 rfl) ?_
    refine lv_iload_n hx hb dX1_takes_9 rfl (lv_at hl 2 rfl) ?_
    refine lv_icmp_eq (tgt := 23) hx hb dX1_takes_10 (by decide) (fun c_10 => ?_) (fun c_10 => ?_)
    · -- 23
      refine lv_iconst (v := 1) hx hb dX1_takes_23 (by decide) ?_
      refine lv_goto (tgt := 28) hx hb dX1_takes_24 (by decide) ?_
      exact W.zret (v := 1) (ty := .boolean) hx hb hr (by decide +kernel) (fun t ht hW => ⟨_, rfl, by first | rfl | (simp [hy_takes, *]; done) | ((try simp only [lg_cmp_lt, lg_cmp_ge, lg_cmp_le, lg_cmp_gt, lg_cmp_eq] at *); simp only [hy_takes, *, ↓reduceIte, if_false, if_true, not_false_eq_true, not_true_eq_false]; done) | (simp_all [hy_takes]; done), ht⟩) (fun q h => nomatch h) dX1_takes_28
    · -- 13
      refine lv_iload_n hx hb dX1_takes_13 rfl (lv_at hl 0 rfl) ?_
      refine lv_iconst (v := 1) hx hb dX1_takes_14 (by decide) ?_
      refine lv_icmp_ne (tgt := 27) hx hb dX1_takes_15 (by decide) (fun c_15 => ?_) (fun c_15 => ?_)
      · -- 27
        refine lv_iconst (v := 0) hx hb dX1_takes_27 (by decide) ?_
        exact W.zret (v := 0) (ty := .boolean) hx hb hr (by decide +kernel) (fun t ht hW => ⟨_, rfl, by first | rfl | (simp [hy_takes, *]; done) | ((try simp only [lg_cmp_lt, lg_cmp_ge, lg_cmp_le, lg_cmp_gt, lg_cmp_eq] at *); simp only [hy_takes, *, ↓reduceIte, if_false, if_true, not_false_eq_true, not_true_eq_false]; done) | (simp_all [hy_takes]; done), ht⟩) (fun q h => nomatch h) dX1_takes_28
      · -- 18
        refine lv_iload_n hx hb dX1_takes_18 rfl (lv_at hl 2 rfl) ?_
        refine lv_iconst (v := 3) hx hb dX1_takes_19 (by decide) ?_
        refine lv_icmp_ne (tgt := 27) hx hb dX1_takes_20 (by decide) (fun c_20 => ?_) (fun c_20 => ?_)
        · -- 27
          refine lv_iconst (v := 0) hx hb dX1_takes_27 (by decide) ?_
          exact W.zret (v := 0) (ty := .boolean) hx hb hr (by decide +kernel) (fun t ht hW => ⟨_, rfl, by first | rfl | (simp [hy_takes, *]; done) | ((try simp only [lg_cmp_lt, lg_cmp_ge, lg_cmp_le, lg_cmp_gt, lg_cmp_eq] at *); simp only [hy_takes, *, ↓reduceIte, if_false, if_true, not_false_eq_true, not_true_eq_false]; done) | (simp_all [hy_takes]; done), ht⟩) (fun q h => nomatch h) dX1_takes_28
        · -- 23
          refine lv_iconst (v := 1) hx hb dX1_takes_23 (by decide) ?_
          refine lv_goto (tgt := 28) hx hb dX1_takes_24 (by decide) ?_
          exact W.zret (v := 1) (ty := .boolean) hx hb hr (by decide +kernel) (fun t ht hW => ⟨_, rfl, by first | rfl | (simp [hy_takes, *]; done) | ((try simp only [lg_cmp_lt, lg_cmp_ge, lg_cmp_le, lg_cmp_gt, lg_cmp_eq] at *); simp only [hy_takes, *, ↓reduceIte, if_false, if_true, not_false_eq_true, not_true_eq_false]; done) | (simp_all [hy_takes]; done), ht⟩) (fun q h => nomatch h) dX1_takes_28
set_option maxHeartbeats 4000000 in
set_option maxRecDepth 100000 in
theorem c_X1_lowestBits (l : Launch) (a0 : Int32) (a1 : Int64) : Met l yX1_lowestBits wsX1_lowestBits ({ frames := 0, cells := 0, slots := 0, locals := 0 }) (va_Pc [.int a0, .long a1] (fun _ => True)) (vp_Sl (fun v : Int64 => v = hy_low a0 a1)) 0 0 (fun _ => False) := by
  refine Met.ofW (cc := cX1_lowestBits) (maxL := 3) (ret := (some .long)) (by decide) rfl ?_
  intro p e s m args below meth c s₁ B hml hv
  obtain ⟨rfl, -⟩ := hv
  have hx := B.exec
  have hb := B.bytes
  have hr := B.returns
  have hts := atoms_spec (ws := wsX1_lowestBits) B.pre
  have hown : s.vm.findClass RX1 = some m.cls := findClass_of_methodNamed B.named
  have hlocks := B.notSynchronized
  have hl := lv_entry ([.int a0, .long a1]) (n := 3) (Nat.le_of_ble_eq_true rfl)
  rw [lg_entry_eq]
  generalize (lg_sl ([.int a0, .long a1]) ++ List.replicate (3 - (lg_sl ([.int a0, .long a1])).length) Slot.unset).toArray = ls at hl ⊢
  have hl : lv_has ls 3 [(0, .int a0), (1, .long a1)] := hl
  refine lv_iload_n hx hb dX1_lowestBits_0 rfl (lv_at hl 0 rfl) ?_
  by_cases s_1_0 : a0 = 0
  · refine lv_tableIn (tgt := 32) hx hb dX1_lowestBits_1 (by rw [s_1_0]; decide) (by rw [s_1_0]; decide) (by rw [s_1_0]; rfl) (by decide) ?_
    refine lv_lload_n hx hb dX1_lowestBits_32 rfl (lv_at hl 1 rfl) ?_
    refine lv_l2i (v := a1.toInt32) hx hb dX1_lowestBits_33 rfl ?_
    refine lv_i2l (v := a1.toInt32.toInt64) hx hb dX1_lowestBits_34 rfl ?_
    exact W.lret (v := a1.toInt32.toInt64) hx hb hr (fun t ht hW => ⟨_, rfl, by first | rfl | (simp [hy_low, *]; done) | ((try simp only [lg_cmp_lt, lg_cmp_ge, lg_cmp_le, lg_cmp_gt, lg_cmp_eq] at *); simp only [hy_low, *, ↓reduceIte, if_false, if_true, not_false_eq_true, not_true_eq_false]; done) | (simp_all [hy_low]; done), ht⟩) (fun q h => nomatch h) dX1_lowestBits_35
  by_cases s_1_1 : a0 = 1
  · refine lv_tableIn (tgt := 46) hx hb dX1_lowestBits_1 (by rw [s_1_1]; decide) (by rw [s_1_1]; decide) (by rw [s_1_1]; rfl) (by decide) ?_
    refine lv_lload_n hx hb dX1_lowestBits_46 rfl (lv_at hl 1 rfl) ?_
    exact W.lret (v := a1) hx hb hr (fun t ht hW => ⟨_, rfl, by first | rfl | (simp [hy_low, *]; done) | ((try simp only [lg_cmp_lt, lg_cmp_ge, lg_cmp_le, lg_cmp_gt, lg_cmp_eq] at *); simp only [hy_low, *, ↓reduceIte, if_false, if_true, not_false_eq_true, not_true_eq_false]; done) | (simp_all [hy_low]; done), ht⟩) (fun q h => nomatch h) dX1_lowestBits_47
  by_cases s_1_2 : a0 = 2
  · refine lv_tableIn (tgt := 36) hx hb dX1_lowestBits_1 (by rw [s_1_2]; decide) (by rw [s_1_2]; decide) (by rw [s_1_2]; rfl) (by decide) ?_
    refine lv_lload_n hx hb dX1_lowestBits_36 rfl (lv_at hl 1 rfl) ?_
    refine lv_l2i (v := a1.toInt32) hx hb dX1_lowestBits_37 rfl ?_
    refine lv_i2s (v := a1.toInt32.toInt16.toInt32) hx hb dX1_lowestBits_38 rfl ?_
    refine lv_i2l (v := a1.toInt32.toInt16.toInt32.toInt64) hx hb dX1_lowestBits_39 rfl ?_
    exact W.lret (v := a1.toInt32.toInt16.toInt32.toInt64) hx hb hr (fun t ht hW => ⟨_, rfl, by first | rfl | (simp [hy_low, *]; done) | ((try simp only [lg_cmp_lt, lg_cmp_ge, lg_cmp_le, lg_cmp_gt, lg_cmp_eq] at *); simp only [hy_low, *, ↓reduceIte, if_false, if_true, not_false_eq_true, not_true_eq_false]; done) | (simp_all [hy_low]; done), ht⟩) (fun q h => nomatch h) dX1_lowestBits_40
  by_cases s_1_3 : a0 = 3
  · refine lv_tableIn (tgt := 41) hx hb dX1_lowestBits_1 (by rw [s_1_3]; decide) (by rw [s_1_3]; decide) (by rw [s_1_3]; rfl) (by decide) ?_
    refine lv_lload_n hx hb dX1_lowestBits_41 rfl (lv_at hl 1 rfl) ?_
    refine lv_l2i (v := a1.toInt32) hx hb dX1_lowestBits_42 rfl ?_
    refine lv_i2b (v := a1.toInt32.toInt8.toInt32) hx hb dX1_lowestBits_43 rfl ?_
    refine lv_i2l (v := a1.toInt32.toInt8.toInt32.toInt64) hx hb dX1_lowestBits_44 rfl ?_
    exact W.lret (v := a1.toInt32.toInt8.toInt32.toInt64) hx hb hr (fun t ht hW => ⟨_, rfl, by first | rfl | (simp [hy_low, *]; done) | ((try simp only [lg_cmp_lt, lg_cmp_ge, lg_cmp_le, lg_cmp_gt, lg_cmp_eq] at *); simp only [hy_low, *, ↓reduceIte, if_false, if_true, not_false_eq_true, not_true_eq_false]; done) | (simp_all [hy_low]; done), ht⟩) (fun q h => nomatch h) dX1_lowestBits_45
  refine lv_tableOut (tgt := 46) hx hb dX1_lowestBits_1 (hy_tout0_3 s_1_0 s_1_1 s_1_2 s_1_3) (by decide) ?_
  refine lv_lload_n hx hb dX1_lowestBits_46 rfl (lv_at hl 1 rfl) ?_
  exact W.lret (v := a1) hx hb hr (fun t ht hW => ⟨_, rfl, by first | rfl | (simp [hy_low, *]; done) | ((try simp only [lg_cmp_lt, lg_cmp_ge, lg_cmp_le, lg_cmp_gt, lg_cmp_eq] at *); simp only [hy_low, *, ↓reduceIte, if_false, if_true, not_false_eq_true, not_true_eq_false]; done) | (simp_all [hy_low]; done), ht⟩) (fun q h => nomatch h) dX1_lowestBits_47
set_option maxHeartbeats 4000000 in
set_option maxRecDepth 100000 in
theorem c_X1_isComb (l : Launch) (D : va_G) (cI cJ cB : ClassId) (h b k w z : Nat) (ad ca : Nat → Nat) (S : hy_S) (a1 : Int64) : Met l yX1_isComb wsX1_isComb ({ frames := 0, cells := 0, slots := 0, locals := 0 }) (va_Pc [.ref h, .long a1] (hy_I D cI cJ cB h b k w z ad ca S)) (vp_Si (fun v : Int32 => v = hy_isComb S a1)) 0 0 (fun _ => False) := by
  refine Met.ofW (cc := cX1_isComb) (maxL := 3) (ret := (some .boolean)) (by decide) rfl ?_
  intro p e s m args below meth c s₁ B hml hv
  obtain ⟨rfl, hP, hK⟩ := hv
  have hx := B.exec
  have hb := B.bytes
  have hr := B.returns
  have hts := atoms_spec (ws := wsX1_isComb) B.pre
  have hown : s.vm.findClass RX1 = some m.cls := findClass_of_methodNamed B.named
  have hlocks := B.notSynchronized
  have hinX1 : ∀ w ∈ wsX10, w ∈ wsX1_isComb := by decide +kernel
  have hl := lv_entry ([.ref h, .long a1]) (n := 3) (Nat.le_of_ble_eq_true rfl)
  rw [lg_entry_eq]
  generalize (lg_sl ([.ref h, .long a1]) ++ List.replicate (3 - (lg_sl ([.ref h, .long a1])).length) Slot.unset).toArray = ls at hl ⊢
  have hl : lv_has ls 3 [(0, .ref h), (1, .long a1)] := hl
  refine lv_lload_n hx hb dX1_isComb_0 rfl (lv_at hl 1 rfl) ?_
  refine lv_lconst (v := 0) hx hb dX1_isComb_1 (by decide) ?_
  refine W.lcmp hx hb dX1_isComb_2 ?_
  refine lv_if_lt (tgt := 20) hx hb dX1_isComb_3 (by decide) (fun c_3 => ?_) (fun c_3 => ?_)
  · -- 20
    refine lv_iconst (v := 0) hx hb dX1_isComb_20 (by decide) ?_
    exact W.zret (v := 0) (ty := .boolean) hx hb hr (by decide +kernel) (fun t ht hW => ⟨_, rfl, by first | rfl | (simp [hy_isComb, *]; done) | ((try simp only [lg_cmp_lt, lg_cmp_ge, lg_cmp_le, lg_cmp_gt, lg_cmp_eq] at *); simp only [hy_isComb, *, ↓reduceIte, if_false, if_true, not_false_eq_true, not_true_eq_false]; done) | (simp_all [hy_isComb]; done), ht⟩) (fun q h => nomatch h) dX1_isComb_21
  · -- 6
    refine lv_lload_n hx hb dX1_isComb_6 rfl (lv_at hl 1 rfl) ?_
    refine lv_aload_n hx hb dX1_isComb_7 rfl (lv_at hl 0 rfl) ?_
    refine va_get (D := D) (ci := 1) (v := .int (nI (hy_nc S))) (C := RX1) (T := TX1) (N := 10) hx hb hts hinX1 hown hK hP 0 rfl rfl 6 (by decide) (hts (.fieldLink RX1 96 "HiveYard" "combsMade" "I") (by decide +kernel)) (fun _ h9 => h9) rfl dX1_isComb_8 ?_
    refine lv_i2l (v := (nI (hy_nc S)).toInt64) hx hb dX1_isComb_11 rfl ?_
    refine W.lcmp hx hb dX1_isComb_12 ?_
    refine lv_if_ge (tgt := 20) hx hb dX1_isComb_13 (by decide) (fun c_13 => ?_) (fun c_13 => ?_)
    · -- 20
      refine lv_iconst (v := 0) hx hb dX1_isComb_20 (by decide) ?_
      exact W.zret (v := 0) (ty := .boolean) hx hb hr (by decide +kernel) (fun t ht hW => ⟨_, rfl, by first | rfl | (simp [hy_isComb, *]; done) | ((try simp only [lg_cmp_lt, lg_cmp_ge, lg_cmp_le, lg_cmp_gt, lg_cmp_eq] at *); simp only [hy_isComb, *, ↓reduceIte, if_false, if_true, not_false_eq_true, not_true_eq_false]; done) | (simp_all [hy_isComb]; done), ht⟩) (fun q h => nomatch h) dX1_isComb_21
    · -- 16
      refine lv_iconst (v := 1) hx hb dX1_isComb_16 (by decide) ?_
      refine lv_goto (tgt := 21) hx hb dX1_isComb_17 (by decide) ?_
      exact W.zret (v := 1) (ty := .boolean) hx hb hr (by decide +kernel) (fun t ht hW => ⟨_, rfl, by first | rfl | (simp [hy_isComb, *]; done) | ((try simp only [lg_cmp_lt, lg_cmp_ge, lg_cmp_le, lg_cmp_gt, lg_cmp_eq] at *); simp only [hy_isComb, *, ↓reduceIte, if_false, if_true, not_false_eq_true, not_true_eq_false]; done) | (simp_all [hy_isComb]; done), ht⟩) (fun q h => nomatch h) dX1_isComb_21
set_option maxHeartbeats 4000000 in
set_option maxRecDepth 100000 in
theorem c_X1_areUnlike (l : Launch) (D : va_G) (cI cJ cB : ClassId) (h b k w z : Nat) (ad ca : Nat → Nat) (S : hy_S) (r1 r2 : Nat) (h1 : r1 ≤ hy_nr S) (h2 : r2 ≤ hy_nr S) : Met l yX1_areUnlike wsX1_areUnlike ({ frames := 2, cells := 0, slots := 0, locals := 40 }) (va_Pc [.ref (ad r1), .ref (ad r2)] (hy_I D cI cJ cB h b k w z ad ca S)) (vp_Si (fun v : Int32 => v = hy_unlike S r1 r2)) 0 0 (fun _ => False) := by
  refine Met.ofW (cc := cX1_areUnlike) (maxL := 2) (ret := (some .boolean)) (by decide) rfl ?_
  intro p e s m args below meth c s₁ B hml hv
  obtain ⟨rfl, hP, hK⟩ := hv
  have hx := B.exec
  have hb := B.bytes
  have hr := B.returns
  have hts := atoms_spec (ws := wsX1_areUnlike) B.pre
  have hown : s.vm.findClass RX1 = some m.cls := findClass_of_methodNamed B.named
  have hlocks := B.notSynchronized
  have hinX0 : ∀ w ∈ wsX00, w ∈ wsX1_areUnlike := by decide +kernel
  have hl := lv_entry ([.ref (ad r1), .ref (ad r2)]) (n := 2) (Nat.le_of_ble_eq_true rfl)
  rw [lg_entry_eq]
  generalize (lg_sl ([.ref (ad r1), .ref (ad r2)]) ++ List.replicate (2 - (lg_sl ([.ref (ad r1), .ref (ad r2)])).length) Slot.unset).toArray = ls at hl ⊢
  have hl : lv_has ls 2 [(0, .ref (ad r1)), (1, .ref (ad r2))] := hl
  refine lv_aload_n hx hb dX1_areUnlike_0 rfl (lv_at hl 0 rfl) ?_
  refine va_get (D := D) (ci := 0) (v := .int (hy_so S r1)) (C := RX0) (T := TX0) (N := 2) hx hb hts hinX0 hown hK hP (5 + r1) (hy_W_row h1) rfl 0 (by decide) (hts (.fieldLink RX1 83 "HiveYard$Content" "sort" "I") (by decide +kernel)) (fun _ h9 => h9) rfl dX1_areUnlike_1 ?_
  refine lv_aload_n hx hb dX1_areUnlike_4 rfl (lv_at hl 1 rfl) ?_
  refine va_get (D := D) (ci := 0) (v := .int (hy_so S r2)) (C := RX0) (T := TX0) (N := 2) hx hb hts hinX0 hown hK hP (5 + r2) (hy_W_row h2) rfl 0 (by decide) (hts (.fieldLink RX1 83 "HiveYard$Content" "sort" "I") (by decide +kernel)) (fun _ h9 => h9) rfl dX1_areUnlike_5 ?_
  refine lv_icmp_eq (tgt := 29) hx hb dX1_areUnlike_8 (by decide) (fun c_8 => ?_) (fun c_8 => ?_)
  · -- 29
    refine lv_iconst (v := 0) hx hb dX1_areUnlike_29 (by decide) ?_
    exact W.zret (v := 0) (ty := .boolean) hx hb hr (by decide +kernel) (fun t ht hW => ⟨_, rfl, by first | rfl | (simp [hy_unlike, *]; done) | ((try simp only [lg_cmp_lt, lg_cmp_ge, lg_cmp_le, lg_cmp_gt, lg_cmp_eq] at *); simp only [hy_unlike, *, ↓reduceIte, if_false, if_true, not_false_eq_true, not_true_eq_false]; done) | (simp_all [hy_unlike]; done), ht⟩) (fun q h => nomatch h) dX1_areUnlike_30
  · -- 11
    refine lv_aload_n hx hb dX1_areUnlike_11 rfl (lv_at hl 0 rfl) ?_
    refine vp_callSi (W.runS (As := [.ref (ad r1)]) (rest := []) ⟨hx, hb, hml, hown, hts⟩ (c_X1_isCombs l D cI cJ cB h b k w z ad ca S (some r1) (fun _ q => by cases q; exact h1)) (va_cwS 1 hts gX1_areUnlike_X1_isCombs rfl rfl rfl (by decide +kernel) ⟨Nat.le_of_ble_eq_true rfl, Nat.le_of_ble_eq_true rfl⟩) ⟨hy_I_blind, fun U hU hW => ⟨rfl, hy_I_at hU hW hP hK⟩⟩ rfl rfl hl.1 rfl (lv_room (Nat.le_of_ble_eq_true rfl)) dX1_areUnlike_12 ⟨Nat.le_of_ble_eq_true rfl, Nat.le_of_ble_eq_true rfl⟩) (fun v9 e9 => ?_)
    subst e9
    refine lv_if_eq (tgt := 25) hx hb dX1_areUnlike_15 (by decide) (fun c_15 => ?_) (fun c_15 => ?_)
    · -- 25
      refine lv_iconst (v := 1) hx hb dX1_areUnlike_25 (by decide) ?_
      refine lv_goto (tgt := 30) hx hb dX1_areUnlike_26 (by decide) ?_
      exact W.zret (v := 1) (ty := .boolean) hx hb hr (by decide +kernel) (fun t ht hW => ⟨_, rfl, by first | rfl | (simp [hy_unlike, *]; done) | ((try simp only [lg_cmp_lt, lg_cmp_ge, lg_cmp_le, lg_cmp_gt, lg_cmp_eq] at *); simp only [hy_unlike, *, ↓reduceIte, if_false, if_true, not_false_eq_true, not_true_eq_false]; done) | (simp_all [hy_unlike]; done), ht⟩) (fun q h => nomatch h) dX1_areUnlike_30
    · -- 18
      refine lv_aload_n hx hb dX1_areUnlike_18 rfl (lv_at hl 1 rfl) ?_
      refine vp_callSi (W.runS (As := [.ref (ad r2)]) (rest := []) ⟨hx, hb, hml, hown, hts⟩ (c_X1_isCombs l D cI cJ cB h b k w z ad ca S (some r2) (fun _ q => by cases q; exact h2)) (va_cwS 1 hts gX1_areUnlike_X1_isCombs rfl rfl rfl (by decide +kernel) ⟨Nat.le_of_ble_eq_true rfl, Nat.le_of_ble_eq_true rfl⟩) ⟨hy_I_blind, fun U hU hW => ⟨rfl, hy_I_at hU hW hP hK⟩⟩ rfl rfl hl.1 rfl (lv_room (Nat.le_of_ble_eq_true rfl)) dX1_areUnlike_19 ⟨Nat.le_of_ble_eq_true rfl, Nat.le_of_ble_eq_true rfl⟩) (fun v9 e9 => ?_)
      subst e9
      refine lv_if_ne (tgt := 29) hx hb dX1_areUnlike_22 (by decide) (fun c_22 => ?_) (fun c_22 => ?_)
      · -- 29
        refine lv_iconst (v := 0) hx hb dX1_areUnlike_29 (by decide) ?_
        exact W.zret (v := 0) (ty := .boolean) hx hb hr (by decide +kernel) (fun t ht hW => ⟨_, rfl, by first | rfl | (simp [hy_unlike, *]; done) | ((try simp only [lg_cmp_lt, lg_cmp_ge, lg_cmp_le, lg_cmp_gt, lg_cmp_eq] at *); simp only [hy_unlike, *, ↓reduceIte, if_false, if_true, not_false_eq_true, not_true_eq_false]; done) | (simp_all [hy_unlike]; done), ht⟩) (fun q h => nomatch h) dX1_areUnlike_30
      · -- 25
        refine lv_iconst (v := 1) hx hb dX1_areUnlike_25 (by decide) ?_
        refine lv_goto (tgt := 30) hx hb dX1_areUnlike_26 (by decide) ?_
        exact W.zret (v := 1) (ty := .boolean) hx hb hr (by decide +kernel) (fun t ht hW => ⟨_, rfl, by first | rfl | (simp [hy_unlike, *]; done) | ((try simp only [lg_cmp_lt, lg_cmp_ge, lg_cmp_le, lg_cmp_gt, lg_cmp_eq] at *); simp only [hy_unlike, *, ↓reduceIte, if_false, if_true, not_false_eq_true, not_true_eq_false]; done) | (simp_all [hy_unlike]; done), ht⟩) (fun q h => nomatch h) dX1_areUnlike_30
set_option maxHeartbeats 4000000 in
set_option maxRecDepth 100000 in
theorem c_X1_isOutside (l : Launch) (D : va_G) (cI cJ cB : ClassId) (h b k w z : Nat) (ad ca : Nat → Nat) (S : hy_S) (r : Nat) (hr0 : r ≤ hy_nr S) (a1 a2 : Int32) : Met l yX1_isOutside wsX1_isOutside ({ frames := 0, cells := 0, slots := 0, locals := 0 }) (va_Pc [.ref (ad r), .int a1, .int a2] (hy_I D cI cJ cB h b k w z ad ca S)) (vp_Si (fun v : Int32 => v = hy_out S r a1 a2)) 0 0 (fun _ => False) := by
  refine Met.ofW (cc := cX1_isOutside) (maxL := 3) (ret := (some .boolean)) (by decide) rfl ?_
  intro p e s m args below meth c s₁ B hml hv
  obtain ⟨rfl, hP, hK⟩ := hv
  have hx := B.exec
  have hb := B.bytes
  have hr := B.returns
  have hts := atoms_spec (ws := wsX1_isOutside) B.pre
  have hown : s.vm.findClass RX1 = some m.cls := findClass_of_methodNamed B.named
  have hlocks := B.notSynchronized
  have hinX0 : ∀ w ∈ wsX00, w ∈ wsX1_isOutside := by decide +kernel
  have hl := lv_entry ([.ref (ad r), .int a1, .int a2]) (n := 3) (Nat.le_of_ble_eq_true rfl)
  rw [lg_entry_eq]
  generalize (lg_sl ([.ref (ad r), .int a1, .int a2]) ++ List.replicate (3 - (lg_sl ([.ref (ad r), .int a1, .int a2])).length) Slot.unset).toArray = ls at hl ⊢
  have hl : lv_has ls 3 [(0, .ref (ad r)), (1, .int a1), (2, .int a2)] := hl
  refine lv_iload_n hx hb dX1_isOutside_0 rfl (lv_at hl 1 rfl) ?_
  refine lv_if_lt (tgt := 23) hx hb dX1_isOutside_1 (by decide) (fun c_1 => ?_) (fun c_1 => ?_)
  · -- 23
    refine lv_iconst (v := 1) hx hb dX1_isOutside_23 (by decide) ?_
    refine lv_goto (tgt := 28) hx hb dX1_isOutside_24 (by decide) ?_
    exact W.zret (v := 1) (ty := .boolean) hx hb hr (by decide +kernel) (fun t ht hW => ⟨_, rfl, by first | rfl | (simp [hy_out, *]; done) | ((try simp only [lg_cmp_lt, lg_cmp_ge, lg_cmp_le, lg_cmp_gt, lg_cmp_eq] at *); simp only [hy_out, *, ↓reduceIte, if_false, if_true, not_false_eq_true, not_true_eq_false]; done) | (simp_all [hy_out]; done), ht⟩) (fun q h => nomatch h) dX1_isOutside_28
  · -- 4
    refine lv_iload_n hx hb dX1_isOutside_4 rfl (lv_at hl 2 rfl) ?_
    refine lv_if_lt (tgt := 23) hx hb dX1_isOutside_5 (by decide) (fun c_5 => ?_) (fun c_5 => ?_)
    · -- 23
      refine lv_iconst (v := 1) hx hb dX1_isOutside_23 (by decide) ?_
      refine lv_goto (tgt := 28) hx hb dX1_isOutside_24 (by decide) ?_
      exact W.zret (v := 1) (ty := .boolean) hx hb hr (by decide +kernel) (fun t ht hW => ⟨_, rfl, by first | rfl | (simp [hy_out, *]; done) | ((try simp only [lg_cmp_lt, lg_cmp_ge, lg_cmp_le, lg_cmp_gt, lg_cmp_eq] at *); simp only [hy_out, *, ↓reduceIte, if_false, if_true, not_false_eq_true, not_true_eq_false]; done) | (simp_all [hy_out]; done), ht⟩) (fun q h => nomatch h) dX1_isOutside_28
    · -- 8
      refine lv_iload_n hx hb dX1_isOutside_8 rfl (lv_at hl 1 rfl) ?_
      refine lv_i2l (v := a1.toInt64) hx hb dX1_isOutside_9 rfl ?_
      refine lv_iload_n hx hb dX1_isOutside_10 rfl (lv_at hl 2 rfl) ?_
      refine lv_i2l (v := a2.toInt64) hx hb dX1_isOutside_11 rfl ?_
      refine lv_ladd hx hb dX1_isOutside_12 ?_
      refine lv_aload_n hx hb dX1_isOutside_13 rfl (lv_at hl 0 rfl) ?_
      refine va_get (D := D) (ci := 0) (v := .ref (ca r)) (C := RX0) (T := TX0) (N := 2) hx hb hts hinX0 hown hK hP (5 + r) (hy_W_row hr0) rfl 1 (by decide) (hts (.fieldLink RX1 79 "HiveYard$Content" "cells" "[J") (by decide +kernel)) (fun _ h9 => h9) rfl dX1_isOutside_14 ?_
      refine va_alen (v := (nI (hy_le S r))) hx hb hK hP (5 + (hy_nr S + 1 + r)) 1 (hy_W_arr hr0) rfl rfl dX1_isOutside_17 ?_
      refine lv_i2l (v := (nI (hy_le S r)).toInt64) hx hb dX1_isOutside_18 rfl ?_
      refine W.lcmp hx hb dX1_isOutside_19 ?_
      refine lv_if_le (tgt := 27) hx hb dX1_isOutside_20 (by decide) (fun c_20 => ?_) (fun c_20 => ?_)
      · -- 27
        refine lv_iconst (v := 0) hx hb dX1_isOutside_27 (by decide) ?_
        exact W.zret (v := 0) (ty := .boolean) hx hb hr (by decide +kernel) (fun t ht hW => ⟨_, rfl, by first | rfl | (simp [hy_out, *]; done) | ((try simp only [lg_cmp_lt, lg_cmp_ge, lg_cmp_le, lg_cmp_gt, lg_cmp_eq] at *); simp only [hy_out, *, ↓reduceIte, if_false, if_true, not_false_eq_true, not_true_eq_false]; done) | (simp_all [hy_out]; done), ht⟩) (fun q h => nomatch h) dX1_isOutside_28
      · -- 23
        refine lv_iconst (v := 1) hx hb dX1_isOutside_23 (by decide) ?_
        refine lv_goto (tgt := 28) hx hb dX1_isOutside_24 (by decide) ?_
        exact W.zret (v := 1) (ty := .boolean) hx hb hr (by decide +kernel) (fun t ht hW => ⟨_, rfl, by first | rfl | (simp [hy_out, *]; done) | ((try simp only [lg_cmp_lt, lg_cmp_ge, lg_cmp_le, lg_cmp_gt, lg_cmp_eq] at *); simp only [hy_out, *, ↓reduceIte, if_false, if_true, not_false_eq_true, not_true_eq_false]; done) | (simp_all [hy_out]; done), ht⟩) (fun q h => nomatch h) dX1_isOutside_28
set_option maxHeartbeats 4000000 in
set_option maxRecDepth 100000 in
theorem c_X1_moved (l : Launch) (D : va_G) (cI cJ cB : ClassId) (h b k w z : Nat) (ad ca : Nat → Nat) (S : hy_S)  : Met l yX1_moved wsX1_moved ({ frames := 0, cells := 0, slots := 0, locals := 0 }) (va_Pc [.ref h] (hy_I D cI cJ cB h b k w z ad ca S)) (vp_Si (fun v : Int32 => v = hy_lm S)) 0 0 (fun _ => False) := by
  refine Met.ofW (cc := cX1_moved) (maxL := 1) (ret := (some .int)) (by decide) rfl ?_
  intro p e s m args below meth c s₁ B hml hv
  obtain ⟨rfl, hP, hK⟩ := hv
  have hx := B.exec
  have hb := B.bytes
  have hr := B.returns
  have hts := atoms_spec (ws := wsX1_moved) B.pre
  have hown : s.vm.findClass RX1 = some m.cls := findClass_of_methodNamed B.named
  have hlocks := B.notSynchronized
  have hinX1 : ∀ w ∈ wsX10, w ∈ wsX1_moved := by decide +kernel
  have hl := lv_entry ([.ref h]) (n := 1) (Nat.le_of_ble_eq_true rfl)
  rw [lg_entry_eq]
  generalize (lg_sl ([.ref h]) ++ List.replicate (1 - (lg_sl ([.ref h])).length) Slot.unset).toArray = ls at hl ⊢
  have hl : lv_has ls 1 [(0, .ref h)] := hl
  refine lv_aload_n hx hb dX1_moved_0 rfl (lv_at hl 0 rfl) ?_
  refine va_get (D := D) (ci := 1) (v := .int (hy_lm S)) (C := RX1) (T := TX1) (N := 10) hx hb hts hinX1 hown hK hP 0 rfl rfl 8 (by decide) (hts (.fieldLink RX1 120 "HiveYard" "latestMoved" "I") (by decide +kernel)) (fun _ h9 => h9) rfl dX1_moved_1 ?_
  exact W.iret (v := (hy_lm S)) hx hb hr (fun t ht hW => ⟨_, rfl, by first | rfl | (simp [*]; done) | ((try simp only [lg_cmp_lt, lg_cmp_ge, lg_cmp_le, lg_cmp_gt, lg_cmp_eq] at *); simp only [*, ↓reduceIte, if_false, if_true, not_false_eq_true, not_true_eq_false]; done) | (simp_all []; done), ht⟩) (fun q h => nomatch h) dX1_moved_4
set_option maxHeartbeats 4000000 in
set_option maxRecDepth 100000 in
theorem c_X1_countOfEnd (l : Launch) (D : va_G) (cI cJ cB : ClassId) (h b k w z : Nat) (ad ca : Nat → Nat) (S : hy_S) (a1 : Int32) : Met l yX1_countOfEnd wsX1_countOfEnd ({ frames := 0, cells := 0, slots := 0, locals := 0 }) (va_Pc [.ref h, .int a1] (hy_I D cI cJ cB h b k w z ad ca S)) (vp_Si (fun v : Int32 => v = hy_cend S a1)) 0 0 (fun _ => False) := by
  refine Met.ofW (cc := cX1_countOfEnd) (maxL := 2) (ret := (some .int)) (by decide) rfl ?_
  intro p e s m args below meth c s₁ B hml hv
  obtain ⟨rfl, hP, hK⟩ := hv
  have hx := B.exec
  have hb := B.bytes
  have hr := B.returns
  have hts := atoms_spec (ws := wsX1_countOfEnd) B.pre
  have hown : s.vm.findClass RX1 = some m.cls := findClass_of_methodNamed B.named
  have hlocks := B.notSynchronized
  have hinX1 : ∀ w ∈ wsX10, w ∈ wsX1_countOfEnd := by decide +kernel
  have hl := lv_entry ([.ref h, .int a1]) (n := 2) (Nat.le_of_ble_eq_true rfl)
  rw [lg_entry_eq]
  generalize (lg_sl ([.ref h, .int a1]) ++ List.replicate (2 - (lg_sl ([.ref h, .int a1])).length) Slot.unset).toArray = ls at hl ⊢
  have hl : lv_has ls 2 [(0, .ref h), (1, .int a1)] := hl
  refine lv_iload_n hx hb dX1_countOfEnd_0 rfl (lv_at hl 1 rfl) ?_
  refine lv_iconst (v := 2) hx hb dX1_countOfEnd_1 (by decide) ?_
  refine lv_icmp_le (tgt := 11) hx hb dX1_countOfEnd_2 (by decide) (fun c_2 => ?_) (fun c_2 => ?_)
  · -- 11
    refine lv_iconst (v := (-1)) hx hb dX1_countOfEnd_11 (by decide) ?_
    exact W.iret (v := (-1)) hx hb hr (fun t ht hW => ⟨_, rfl, by first | rfl | (simp [hy_cend, *]; done) | ((try simp only [lg_cmp_lt, lg_cmp_ge, lg_cmp_le, lg_cmp_gt, lg_cmp_eq] at *); simp only [hy_cend, *, ↓reduceIte, if_false, if_true, not_false_eq_true, not_true_eq_false]; done) | (simp_all [hy_cend]; done), ht⟩) (fun q h => nomatch h) dX1_countOfEnd_12
  · -- 5
    refine lv_iload_n hx hb dX1_countOfEnd_5 rfl (lv_at hl 1 rfl) ?_
    refine lv_bipush (v := 8) hx hb dX1_countOfEnd_6 (by decide) ?_
    refine lv_icmp_lt (tgt := 13) hx hb dX1_countOfEnd_8 (by decide) (fun c_8 => ?_) (fun c_8 => ?_)
    · -- 13
      refine lv_aload_n hx hb dX1_countOfEnd_13 rfl (lv_at hl 0 rfl) ?_
      refine va_get (D := D) (ci := 1) (v := .ref z) (C := RX1) (T := TX1) (N := 10) hx hb hts hinX1 hown hK hP 0 rfl rfl 4 (by decide) (hts (.fieldLink RX1 29 "HiveYard" "movesByEnd" "[I") (by decide +kernel)) (fun _ h9 => h9) rfl dX1_countOfEnd_14 ?_
      refine lv_iload_n hx hb dX1_countOfEnd_17 rfl (lv_at hl 1 rfl) ?_
      refine lv_iconst (v := 2) hx hb dX1_countOfEnd_18 (by decide) ?_
      refine lv_isub hx hb dX1_countOfEnd_19 ?_
      refine va_iald hx hb hK hP 4 0 rfl rfl (hy_cend_in c_2 c_8) dX1_countOfEnd_20 ?_
      exact W.iret (v := ((hy_en S) (a1 - 2).toNatClampNeg)) hx hb hr (fun t ht hW => ⟨_, rfl, by first | rfl | (simp [hy_cend, *]; done) | ((try simp only [lg_cmp_lt, lg_cmp_ge, lg_cmp_le, lg_cmp_gt, lg_cmp_eq] at *); simp only [hy_cend, *, ↓reduceIte, if_false, if_true, not_false_eq_true, not_true_eq_false]; done) | (simp_all [hy_cend]; done), ht⟩) (fun q h => nomatch h) dX1_countOfEnd_21
    · -- 11
      refine lv_iconst (v := (-1)) hx hb dX1_countOfEnd_11 (by decide) ?_
      exact W.iret (v := (-1)) hx hb hr (fun t ht hW => ⟨_, rfl, by first | rfl | (simp [hy_cend, *]; done) | ((try simp only [lg_cmp_lt, lg_cmp_ge, lg_cmp_le, lg_cmp_gt, lg_cmp_eq] at *); simp only [hy_cend, *, ↓reduceIte, if_false, if_true, not_false_eq_true, not_true_eq_false]; done) | (simp_all [hy_cend]; done), ht⟩) (fun q h => nomatch h) dX1_countOfEnd_12
set_option maxHeartbeats 4000000 in
set_option maxRecDepth 100000 in
theorem c_X1_count (l : Launch) (D : va_G) (cI cJ cB : ClassId) (h b k w z : Nat) (ad ca : Nat → Nat) (S : hy_S) (a1 : Int32) : Met l yX1_count wsX1_count ({ frames := 1, cells := 0, slots := 0, locals := 21 }) (va_Pc [.ref h, .int a1] (hy_I D cI cJ cB h b k w z ad ca S)) (vp_Si (fun v : Int32 => v = hy_count S a1)) 0 0 (fun _ => False) := by
  refine Met.ofW (cc := cX1_count) (maxL := 2) (ret := (some .int)) (by decide) rfl ?_
  intro p e s m args below meth c s₁ B hml hv
  obtain ⟨rfl, hP, hK⟩ := hv
  have hx := B.exec
  have hb := B.bytes
  have hr := B.returns
  have hts := atoms_spec (ws := wsX1_count) B.pre
  have hown : s.vm.findClass RX1 = some m.cls := findClass_of_methodNamed B.named
  have hlocks := B.notSynchronized
  have hinX1 : ∀ w ∈ wsX10, w ∈ wsX1_count := by decide +kernel
  have hl := lv_entry ([.ref h, .int a1]) (n := 2) (Nat.le_of_ble_eq_true rfl)
  rw [lg_entry_eq]
  generalize (lg_sl ([.ref h, .int a1]) ++ List.replicate (2 - (lg_sl ([.ref h, .int a1])).length) Slot.unset).toArray = ls at hl ⊢
  have hl : lv_has ls 2 [(0, .ref h), (1, .int a1)] := hl
  refine lv_iload_n hx hb dX1_count_0 rfl (lv_at hl 1 rfl) ?_
  by_cases s_1_0 : a1 = 0
  · refine lv_tableIn (tgt := 52) hx hb dX1_count_1 (by rw [s_1_0]; decide) (by rw [s_1_0]; decide) (by rw [s_1_0]; rfl) (by decide) ?_
    refine lv_aload_n hx hb dX1_count_52 rfl (lv_at hl 0 rfl) ?_
    refine va_get (D := D) (ci := 1) (v := .int (nI (hy_nr S))) (C := RX1) (T := TX1) (N := 10) hx hb hts hinX1 hown hK hP 0 rfl rfl 5 (by decide) (hts (.fieldLink RX1 45 "HiveYard" "rowsMade" "I") (by decide +kernel)) (fun _ h9 => h9) rfl dX1_count_53 ?_
    exact W.iret (v := (nI (hy_nr S))) hx hb hr (fun t ht hW => ⟨_, rfl, by first | rfl | (simp [hy_count, *]; done) | ((try simp only [lg_cmp_lt, lg_cmp_ge, lg_cmp_le, lg_cmp_gt, lg_cmp_eq] at *); simp only [hy_count, *, ↓reduceIte, if_false, if_true, not_false_eq_true, not_true_eq_false]; done) | (simp_all [hy_count]; done), ht⟩) (fun q h => nomatch h) dX1_count_56
  by_cases s_1_1 : a1 = 1
  · refine lv_tableIn (tgt := 57) hx hb dX1_count_1 (by rw [s_1_1]; decide) (by rw [s_1_1]; decide) (by rw [s_1_1]; rfl) (by decide) ?_
    refine lv_aload_n hx hb dX1_count_57 rfl (lv_at hl 0 rfl) ?_
    refine va_get (D := D) (ci := 1) (v := .int (nI (hy_nc S))) (C := RX1) (T := TX1) (N := 10) hx hb hts hinX1 hown hK hP 0 rfl rfl 6 (by decide) (hts (.fieldLink RX1 96 "HiveYard" "combsMade" "I") (by decide +kernel)) (fun _ h9 => h9) rfl dX1_count_58 ?_
    exact W.iret (v := (nI (hy_nc S))) hx hb hr (fun t ht hW => ⟨_, rfl, by first | rfl | (simp [hy_count, *]; done) | ((try simp only [lg_cmp_lt, lg_cmp_ge, lg_cmp_le, lg_cmp_gt, lg_cmp_eq] at *); simp only [hy_count, *, ↓reduceIte, if_false, if_true, not_false_eq_true, not_true_eq_false]; done) | (simp_all [hy_count]; done), ht⟩) (fun q h => nomatch h) dX1_count_61
  by_cases s_1_2 : a1 = 2
  · refine lv_tableIn (tgt := 62) hx hb dX1_count_1 (by rw [s_1_2]; decide) (by rw [s_1_2]; decide) (by rw [s_1_2]; rfl) (by decide) ?_
    refine lv_aload_n hx hb dX1_count_62 rfl (lv_at hl 0 rfl) ?_
    refine va_get (D := D) (ci := 1) (v := .int (hy_mo S)) (C := RX1) (T := TX1) (N := 10) hx hb hts hinX1 hown hK hP 0 rfl rfl 7 (by decide) (hts (.fieldLink RX1 142 "HiveYard" "movesMade" "I") (by decide +kernel)) (fun _ h9 => h9) rfl dX1_count_63 ?_
    exact W.iret (v := (hy_mo S)) hx hb hr (fun t ht hW => ⟨_, rfl, by first | rfl | (simp [hy_count, *]; done) | ((try simp only [lg_cmp_lt, lg_cmp_ge, lg_cmp_le, lg_cmp_gt, lg_cmp_eq] at *); simp only [hy_count, *, ↓reduceIte, if_false, if_true, not_false_eq_true, not_true_eq_false]; done) | (simp_all [hy_count]; done), ht⟩) (fun q h => nomatch h) dX1_count_66
  by_cases s_1_3 : a1 = 3
  · refine lv_tableIn (tgt := 72) hx hb dX1_count_1 (by rw [s_1_3]; decide) (by rw [s_1_3]; decide) (by rw [s_1_3]; rfl) (by decide) ?_
    refine lv_aload_n hx hb dX1_count_72 rfl (lv_at hl 0 rfl) ?_
    refine lv_iload_n hx hb dX1_count_73 rfl (lv_at hl 1 rfl) ?_
    refine vp_callSi (W.runV (As := [.int a1]) (rest := []) ⟨hx, hb, hml, hown, hts⟩ (c_X1_countOfEnd l D cI cJ cB h b k w z ad ca S a1) (cwV 1 hts gX1_count_X1_countOfEnd rfl rfl rfl (by decide +kernel) ⟨Nat.le_of_ble_eq_true rfl, Nat.le_of_ble_eq_true rfl⟩) ⟨hy_I_blind, va_recv hK hP (ci := 1) (q0 := 0) rfl rfl, fun U hU hW => ⟨rfl, hy_I_at hU hW hP hK⟩⟩ rfl rfl hl.1 rfl (lv_room (Nat.le_of_ble_eq_true rfl)) dX1_count_74 ⟨Nat.le_of_ble_eq_true rfl, Nat.le_of_ble_eq_true rfl⟩) (fun v9 e9 => ?_)
    subst e9
    exact W.iret (v := (hy_cend S a1)) hx hb hr (fun t ht hW => ⟨_, rfl, by first | rfl | (simp [hy_count, *]; done) | ((try simp only [lg_cmp_lt, lg_cmp_ge, lg_cmp_le, lg_cmp_gt, lg_cmp_eq] at *); simp only [hy_count, *, ↓reduceIte, if_false, if_true, not_false_eq_true, not_true_eq_false]; done) | (simp_all [hy_count]; done), ht⟩) (fun q h => nomatch h) dX1_count_77
  by_cases s_1_4 : a1 = 4
  · refine lv_tableIn (tgt := 72) hx hb dX1_count_1 (by rw [s_1_4]; decide) (by rw [s_1_4]; decide) (by rw [s_1_4]; rfl) (by decide) ?_
    refine lv_aload_n hx hb dX1_count_72 rfl (lv_at hl 0 rfl) ?_
    refine lv_iload_n hx hb dX1_count_73 rfl (lv_at hl 1 rfl) ?_
    refine vp_callSi (W.runV (As := [.int a1]) (rest := []) ⟨hx, hb, hml, hown, hts⟩ (c_X1_countOfEnd l D cI cJ cB h b k w z ad ca S a1) (cwV 1 hts gX1_count_X1_countOfEnd rfl rfl rfl (by decide +kernel) ⟨Nat.le_of_ble_eq_true rfl, Nat.le_of_ble_eq_true rfl⟩) ⟨hy_I_blind, va_recv hK hP (ci := 1) (q0 := 0) rfl rfl, fun U hU hW => ⟨rfl, hy_I_at hU hW hP hK⟩⟩ rfl rfl hl.1 rfl (lv_room (Nat.le_of_ble_eq_true rfl)) dX1_count_74 ⟨Nat.le_of_ble_eq_true rfl, Nat.le_of_ble_eq_true rfl⟩) (fun v9 e9 => ?_)
    subst e9
    exact W.iret (v := (hy_cend S a1)) hx hb hr (fun t ht hW => ⟨_, rfl, by first | rfl | (simp [hy_count, *]; done) | ((try simp only [lg_cmp_lt, lg_cmp_ge, lg_cmp_le, lg_cmp_gt, lg_cmp_eq] at *); simp only [hy_count, *, ↓reduceIte, if_false, if_true, not_false_eq_true, not_true_eq_false]; done) | (simp_all [hy_count]; done), ht⟩) (fun q h => nomatch h) dX1_count_77
  by_cases s_1_5 : a1 = 5
  · refine lv_tableIn (tgt := 72) hx hb dX1_count_1 (by rw [s_1_5]; decide) (by rw [s_1_5]; decide) (by rw [s_1_5]; rfl) (by decide) ?_
    refine lv_aload_n hx hb dX1_count_72 rfl (lv_at hl 0 rfl) ?_
    refine lv_iload_n hx hb dX1_count_73 rfl (lv_at hl 1 rfl) ?_
    refine vp_callSi (W.runV (As := [.int a1]) (rest := []) ⟨hx, hb, hml, hown, hts⟩ (c_X1_countOfEnd l D cI cJ cB h b k w z ad ca S a1) (cwV 1 hts gX1_count_X1_countOfEnd rfl rfl rfl (by decide +kernel) ⟨Nat.le_of_ble_eq_true rfl, Nat.le_of_ble_eq_true rfl⟩) ⟨hy_I_blind, va_recv hK hP (ci := 1) (q0 := 0) rfl rfl, fun U hU hW => ⟨rfl, hy_I_at hU hW hP hK⟩⟩ rfl rfl hl.1 rfl (lv_room (Nat.le_of_ble_eq_true rfl)) dX1_count_74 ⟨Nat.le_of_ble_eq_true rfl, Nat.le_of_ble_eq_true rfl⟩) (fun v9 e9 => ?_)
    subst e9
    exact W.iret (v := (hy_cend S a1)) hx hb hr (fun t ht hW => ⟨_, rfl, by first | rfl | (simp [hy_count, *]; done) | ((try simp only [lg_cmp_lt, lg_cmp_ge, lg_cmp_le, lg_cmp_gt, lg_cmp_eq] at *); simp only [hy_count, *, ↓reduceIte, if_false, if_true, not_false_eq_true, not_true_eq_false]; done) | (simp_all [hy_count]; done), ht⟩) (fun q h => nomatch h) dX1_count_77
  by_cases s_1_6 : a1 = 6
  · refine lv_tableIn (tgt := 72) hx hb dX1_count_1 (by rw [s_1_6]; decide) (by rw [s_1_6]; decide) (by rw [s_1_6]; rfl) (by decide) ?_
    refine lv_aload_n hx hb dX1_count_72 rfl (lv_at hl 0 rfl) ?_
    refine lv_iload_n hx hb dX1_count_73 rfl (lv_at hl 1 rfl) ?_
    refine vp_callSi (W.runV (As := [.int a1]) (rest := []) ⟨hx, hb, hml, hown, hts⟩ (c_X1_countOfEnd l D cI cJ cB h b k w z ad ca S a1) (cwV 1 hts gX1_count_X1_countOfEnd rfl rfl rfl (by decide +kernel) ⟨Nat.le_of_ble_eq_true rfl, Nat.le_of_ble_eq_true rfl⟩) ⟨hy_I_blind, va_recv hK hP (ci := 1) (q0 := 0) rfl rfl, fun U hU hW => ⟨rfl, hy_I_at hU hW hP hK⟩⟩ rfl rfl hl.1 rfl (lv_room (Nat.le_of_ble_eq_true rfl)) dX1_count_74 ⟨Nat.le_of_ble_eq_true rfl, Nat.le_of_ble_eq_true rfl⟩) (fun v9 e9 => ?_)
    subst e9
    exact W.iret (v := (hy_cend S a1)) hx hb hr (fun t ht hW => ⟨_, rfl, by first | rfl | (simp [hy_count, *]; done) | ((try simp only [lg_cmp_lt, lg_cmp_ge, lg_cmp_le, lg_cmp_gt, lg_cmp_eq] at *); simp only [hy_count, *, ↓reduceIte, if_false, if_true, not_false_eq_true, not_true_eq_false]; done) | (simp_all [hy_count]; done), ht⟩) (fun q h => nomatch h) dX1_count_77
  by_cases s_1_7 : a1 = 7
  · refine lv_tableIn (tgt := 72) hx hb dX1_count_1 (by rw [s_1_7]; decide) (by rw [s_1_7]; decide) (by rw [s_1_7]; rfl) (by decide) ?_
    refine lv_aload_n hx hb dX1_count_72 rfl (lv_at hl 0 rfl) ?_
    refine lv_iload_n hx hb dX1_count_73 rfl (lv_at hl 1 rfl) ?_
    refine vp_callSi (W.runV (As := [.int a1]) (rest := []) ⟨hx, hb, hml, hown, hts⟩ (c_X1_countOfEnd l D cI cJ cB h b k w z ad ca S a1) (cwV 1 hts gX1_count_X1_countOfEnd rfl rfl rfl (by decide +kernel) ⟨Nat.le_of_ble_eq_true rfl, Nat.le_of_ble_eq_true rfl⟩) ⟨hy_I_blind, va_recv hK hP (ci := 1) (q0 := 0) rfl rfl, fun U hU hW => ⟨rfl, hy_I_at hU hW hP hK⟩⟩ rfl rfl hl.1 rfl (lv_room (Nat.le_of_ble_eq_true rfl)) dX1_count_74 ⟨Nat.le_of_ble_eq_true rfl, Nat.le_of_ble_eq_true rfl⟩) (fun v9 e9 => ?_)
    subst e9
    exact W.iret (v := (hy_cend S a1)) hx hb hr (fun t ht hW => ⟨_, rfl, by first | rfl | (simp [hy_count, *]; done) | ((try simp only [lg_cmp_lt, lg_cmp_ge, lg_cmp_le, lg_cmp_gt, lg_cmp_eq] at *); simp only [hy_count, *, ↓reduceIte, if_false, if_true, not_false_eq_true, not_true_eq_false]; done) | (simp_all [hy_count]; done), ht⟩) (fun q h => nomatch h) dX1_count_77
  by_cases s_1_8 : a1 = 8
  · refine lv_tableIn (tgt := 67) hx hb dX1_count_1 (by rw [s_1_8]; decide) (by rw [s_1_8]; decide) (by rw [s_1_8]; rfl) (by decide) ?_
    refine lv_aload_n hx hb dX1_count_67 rfl (lv_at hl 0 rfl) ?_
    refine va_get (D := D) (ci := 1) (v := .int (hy_pm S)) (C := RX1) (T := TX1) (N := 10) hx hb hts hinX1 hown hK hP 0 rfl rfl 9 (by decide) (hts (.fieldLink RX1 145 "HiveYard" "placesMoved" "I") (by decide +kernel)) (fun _ h9 => h9) rfl dX1_count_68 ?_
    exact W.iret (v := (hy_pm S)) hx hb hr (fun t ht hW => ⟨_, rfl, by first | rfl | (simp [hy_count, *]; done) | ((try simp only [lg_cmp_lt, lg_cmp_ge, lg_cmp_le, lg_cmp_gt, lg_cmp_eq] at *); simp only [hy_count, *, ↓reduceIte, if_false, if_true, not_false_eq_true, not_true_eq_false]; done) | (simp_all [hy_count]; done), ht⟩) (fun q h => nomatch h) dX1_count_71
  refine lv_tableOut (tgt := 72) hx hb dX1_count_1 (hy_tout0_8 s_1_0 s_1_1 s_1_2 s_1_3 s_1_4 s_1_5 s_1_6 s_1_7 s_1_8) (by decide) ?_
  refine lv_aload_n hx hb dX1_count_72 rfl (lv_at hl 0 rfl) ?_
  refine lv_iload_n hx hb dX1_count_73 rfl (lv_at hl 1 rfl) ?_
  refine vp_callSi (W.runV (As := [.int a1]) (rest := []) ⟨hx, hb, hml, hown, hts⟩ (c_X1_countOfEnd l D cI cJ cB h b k w z ad ca S a1) (cwV 1 hts gX1_count_X1_countOfEnd rfl rfl rfl (by decide +kernel) ⟨Nat.le_of_ble_eq_true rfl, Nat.le_of_ble_eq_true rfl⟩) ⟨hy_I_blind, va_recv hK hP (ci := 1) (q0 := 0) rfl rfl, fun U hU hW => ⟨rfl, hy_I_at hU hW hP hK⟩⟩ rfl rfl hl.1 rfl (lv_room (Nat.le_of_ble_eq_true rfl)) dX1_count_74 ⟨Nat.le_of_ble_eq_true rfl, Nat.le_of_ble_eq_true rfl⟩) (fun v9 e9 => ?_)
  subst e9
  exact W.iret (v := (hy_cend S a1)) hx hb hr (fun t ht hW => ⟨_, rfl, by first | rfl | (simp [hy_count, *]; done) | ((try simp only [lg_cmp_lt, lg_cmp_ge, lg_cmp_le, lg_cmp_gt, lg_cmp_eq] at *); simp only [hy_count, *, ↓reduceIte, if_false, if_true, not_false_eq_true, not_true_eq_false]; done) | (simp_all [hy_count]; done), ht⟩) (fun q h => nomatch h) dX1_count_77
