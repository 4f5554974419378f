/-! THE REFERENCE: what only reads. Rows laid by gen.py, mgen.py. -/
set_option maxHeartbeats 4000000 in
set_option maxRecDepth 100000 in
theorem c_X2_isBox (l : Launch) (a0 : Int32) : Met l yX2_isBox wsX2_isBox ({ frames := 0, cells := 0, slots := 0, locals := 0 }) (va_Pc [.int a0] (fun _ => True)) (vp_Si (fun v : Int32 => v = hy_misbox a0)) 0 0 (fun _ => False) := by
  refine Met.ofW (cc := cX2_isBox) (maxL := 1) (ret := (some .boolean)) (by decide) rfl ?_
  intro p e s m args below meth c s₁ B hml hv
  obtain ⟨rfl, -⟩ := hv
  have hx := B.exec
  have hb := B.bytes
  have hr := B.returns
  have hts := atoms_spec (ws := wsX2_isBox) B.pre
  have hown : s.vm.findClass RX2 = some m.cls := findClass_of_methodNamed B.named
  have hlocks := B.notSynchronized
  have hl := lv_entry ([.int a0]) (n := 1) (Nat.le_of_ble_eq_true rfl)
  rw [lg_entry_eq]
  generalize (lg_sl ([.int a0]) ++ List.replicate (1 - (lg_sl ([.int a0])).length) Slot.unset).toArray = ls at hl ⊢
  have hl : lv_has ls 1 [(0, .int a0)] := hl
  refine lv_iload_n hx hb dX2_isBox_0 rfl (lv_at hl 0 rfl) ?_
  refine lv_if_lt (tgt := 14) hx hb dX2_isBox_1 (by decide) (fun c_1 => ?_) (fun c_1 => ?_)
  · -- 14
    refine lv_iconst (v := 0) hx hb dX2_isBox_14 (by decide) ?_
    exact W.zret (v := 0) (ty := .boolean) hx hb hr (by decide +kernel) (fun t ht hW => ⟨_, rfl, by first | rfl | (simp [hy_misbox, *]; done) | ((try simp only [lg_cmp_lt, lg_cmp_ge, lg_cmp_le, lg_cmp_gt, lg_cmp_eq] at *); simp only [hy_misbox, *, ↓reduceIte, if_false, if_true, not_false_eq_true, not_true_eq_false]; done) | (simp_all [hy_misbox]; done), ht⟩) (fun q h => nomatch h) dX2_isBox_15
  · -- 4
    refine lv_iload_n hx hb dX2_isBox_4 rfl (lv_at hl 0 rfl) ?_
    refine lv_bipush (v := 12) hx hb dX2_isBox_5 (by decide) ?_
    refine lv_icmp_ge (tgt := 14) hx hb dX2_isBox_7 (by decide) (fun c_7 => ?_) (fun c_7 => ?_)
    · -- 14
      refine lv_iconst (v := 0) hx hb dX2_isBox_14 (by decide) ?_
      exact W.zret (v := 0) (ty := .boolean) hx hb hr (by decide +kernel) (fun t ht hW => ⟨_, rfl, by first | rfl | (simp [hy_misbox, *]; done) | ((try simp only [lg_cmp_lt, lg_cmp_ge, lg_cmp_le, lg_cmp_gt, lg_cmp_eq] at *); simp only [hy_misbox, *, ↓reduceIte, if_false, if_true, not_false_eq_true, not_true_eq_false]; done) | (simp_all [hy_misbox]; done), ht⟩) (fun q h => nomatch h) dX2_isBox_15
    · -- 10
      refine lv_iconst (v := 1) hx hb dX2_isBox_10 (by decide) ?_
      refine lv_goto (tgt := 15) hx hb dX2_isBox_11 (by decide) ?_
      exact W.zret (v := 1) (ty := .boolean) hx hb hr (by decide +kernel) (fun t ht hW => ⟨_, rfl, by first | rfl | (simp [hy_misbox, *]; done) | ((try simp only [lg_cmp_lt, lg_cmp_ge, lg_cmp_le, lg_cmp_gt, lg_cmp_eq] at *); simp only [hy_misbox, *, ↓reduceIte, if_false, if_true, not_false_eq_true, not_true_eq_false]; done) | (simp_all [hy_misbox]; done), ht⟩) (fun q h => nomatch h) dX2_isBox_15
set_option maxHeartbeats 4000000 in
set_option maxRecDepth 100000 in
theorem c_X2_isOfCombs (l : Launch) (a0 : Int32) : Met l yX2_isOfCombs wsX2_isOfCombs ({ frames := 0, cells := 0, slots := 0, locals := 0 }) (va_Pc [.int a0] (fun _ => True)) (vp_Si (fun v : Int32 => v = hy_miscombs a0)) 0 0 (fun _ => False) := by
  refine Met.ofW (cc := cX2_isOfCombs) (maxL := 1) (ret := (some .boolean)) (by decide) rfl ?_
  intro p e s m args below meth c s₁ B hml hv
  obtain ⟨rfl, -⟩ := hv
  have hx := B.exec
  have hb := B.bytes
  have hr := B.returns
  have hts := atoms_spec (ws := wsX2_isOfCombs) B.pre
  have hown : s.vm.findClass RX2 = some m.cls := findClass_of_methodNamed B.named
  have hlocks := B.notSynchronized
  have hl := lv_entry ([.int a0]) (n := 1) (Nat.le_of_ble_eq_true rfl)
  rw [lg_entry_eq]
  generalize (lg_sl ([.int a0]) ++ List.replicate (1 - (lg_sl ([.int a0])).length) Slot.unset).toArray = ls at hl ⊢
  have hl : lv_has ls 1 [(0, .int a0)] := hl
  refine lv_iload_n hx hb dX2_isOfCombs_0 rfl (lv_at hl 0 rfl) ?_
  refine lv_iconst (v := 3) hx hb dX2_isOfCombs_1 (by decide) ?_
  refine lv_icmp_le (tgt := 15) hx hb dX2_isOfCombs_2 (by decide) (fun c_2 => ?_) (fun c_2 => ?_)
  · -- 15
    refine lv_iconst (v := 0) hx hb dX2_isOfCombs_15 (by decide) ?_
    exact W.zret (v := 0) (ty := .boolean) hx hb hr (by decide +kernel) (fun t ht hW => ⟨_, rfl, by first | rfl | (simp [hy_miscombs, *]; done) | ((try simp only [lg_cmp_lt, lg_cmp_ge, lg_cmp_le, lg_cmp_gt, lg_cmp_eq] at *); simp only [hy_miscombs, *, ↓reduceIte, if_false, if_true, not_false_eq_true, not_true_eq_false]; done) | (simp_all [hy_miscombs]; done), ht⟩) (fun q h => nomatch h) dX2_isOfCombs_16
  · -- 5
    refine lv_iload_n hx hb dX2_isOfCombs_5 rfl (lv_at hl 0 rfl) ?_
    refine lv_bipush (v := 8) hx hb dX2_isOfCombs_6 (by decide) ?_
    refine lv_icmp_ge (tgt := 15) hx hb dX2_isOfCombs_8 (by decide) (fun c_8 => ?_) (fun c_8 => ?_)
    · -- 15
      refine lv_iconst (v := 0) hx hb dX2_isOfCombs_15 (by decide) ?_
      exact W.zret (v := 0) (ty := .boolean) hx hb hr (by decide +kernel) (fun t ht hW => ⟨_, rfl, by first | rfl | (simp [hy_miscombs, *]; done) | ((try simp only [lg_cmp_lt, lg_cmp_ge, lg_cmp_le, lg_cmp_gt, lg_cmp_eq] at *); simp only [hy_miscombs, *, ↓reduceIte, if_false, if_true, not_false_eq_true, not_true_eq_false]; done) | (simp_all [hy_miscombs]; done), ht⟩) (fun q h => nomatch h) dX2_isOfCombs_16
    · -- 11
      refine lv_iconst (v := 1) hx hb dX2_isOfCombs_11 (by decide) ?_
      refine lv_goto (tgt := 16) hx hb dX2_isOfCombs_12 (by decide) ?_
      exact W.zret (v := 1) (ty := .boolean) hx hb hr (by decide +kernel) (fun t ht hW => ⟨_, rfl, by first | rfl | (simp [hy_miscombs, *]; done) | ((try simp only [lg_cmp_lt, lg_cmp_ge, lg_cmp_le, lg_cmp_gt, lg_cmp_eq] at *); simp only [hy_miscombs, *, ↓reduceIte, if_false, if_true, not_false_eq_true, not_true_eq_false]; done) | (simp_all [hy_miscombs]; done), ht⟩) (fun q h => nomatch h) dX2_isOfCombs_16
set_option maxHeartbeats 4000000 in
set_option maxRecDepth 100000 in
theorem c_X2_takes (l : Launch) (a0 a1 : Int32) : Met l yX2_takes wsX2_takes ({ frames := 0, cells := 0, slots := 0, locals := 0 }) (va_Pc [.int a0, .int a1] (fun _ => True)) (vp_Si (fun v : Int32 => v = hy_mtakes a0 a1)) 0 0 (fun _ => False) := by
  refine Met.ofW (cc := cX2_takes) (maxL := 2) (ret := (some .boolean)) (by decide) rfl ?_
  intro p e s m args below meth c s₁ B hml hv
  obtain ⟨rfl, -⟩ := hv
  have hx := B.exec
  have hb := B.bytes
  have hr := B.returns
  have hts := atoms_spec (ws := wsX2_takes) B.pre
  have hown : s.vm.findClass RX2 = some m.cls := findClass_of_methodNamed B.named
  have hlocks := B.notSynchronized
  have hl := lv_entry ([.int a0, .int a1]) (n := 2) (Nat.le_of_ble_eq_true rfl)
  rw [lg_entry_eq]
  generalize (lg_sl ([.int a0, .int a1]) ++ List.replicate (2 - (lg_sl ([.int a0, .int a1])).length) Slot.unset).toArray = ls at hl ⊢
  have hl : lv_has ls 2 [(0, .int a0), (1, .int a1)] := hl
  refine lv_iload_n hx hb dX2_takes_0 rfl (lv_at hl 0 rfl) ?_
  refine lv_iconst (v := 4) hx hb dX2_takes_1 (by decide) ?_
  refine lv_icmp_eq (tgt := 42) hx hb dX2_takes_2 (by decide) (fun c_2 => ?_) (fun c_2 => ?_)
  · -- 42
    refine lv_iconst (v := 1) hx hb dX2_takes_42 (by decide) ?_
    refine lv_goto (tgt := 47) hx hb dX2_takes_43 (by decide) ?_
    exact W.zret (v := 1) (ty := .boolean) hx hb hr (by decide +kernel) (fun t ht hW => ⟨_, rfl, by first | rfl | (simp [hy_mtakes, *]; done) | ((try simp only [lg_cmp_lt, lg_cmp_ge, lg_cmp_le, lg_cmp_gt, lg_cmp_eq] at *); simp only [hy_mtakes, *, ↓reduceIte, if_false, if_true, not_false_eq_true, not_true_eq_false]; done) | (simp_all [hy_mtakes]; done), ht⟩) (fun q h => nomatch h) dX2_takes_47
  · -- 5
    refine lv_iload_n hx hb dX2_takes_5 rfl (lv_at hl 0 rfl) ?_
    refine lv_iconst (v := 5) hx hb dX2_takes_6 (by decide) ?_
    refine lv_icmp_ne (tgt := 20) hx hb dX2_takes_7 (by decide) (fun c_7 => ?_) (fun c_7 => ?_)
    · -- 20
      refine lv_iload_n hx hb dX2_takes_20 rfl (lv_at hl 0 rfl) ?_
      refine lv_bipush (v := 6) hx hb dX2_takes_21 (by decide) ?_
      refine lv_icmp_ne (tgt := 31) hx hb dX2_takes_23 (by decide) (fun c_23 => ?_) (fun c_23 => ?_)
      · -- 31
        refine lv_iload_n hx hb dX2_takes_31 rfl (lv_at hl 0 rfl) ?_
        refine lv_bipush (v := 7) hx hb dX2_takes_32 (by decide) ?_
        refine lv_icmp_ne (tgt := 46) hx hb dX2_takes_34 (by decide) (fun c_34 => ?_) (fun c_34 => ?_)
        · -- 46
          refine lv_iconst (v := 0) hx hb dX2_takes_46 (by decide) ?_
          exact W.zret (v := 0) (ty := .boolean) hx hb hr (by decide +kernel) (fun t ht hW => ⟨_, rfl, by first | rfl | (simp [hy_mtakes, *]; done) | ((try simp only [lg_cmp_lt, lg_cmp_ge, lg_cmp_le, lg_cmp_gt, lg_cmp_eq] at *); simp only [hy_mtakes, *, ↓reduceIte, if_false, if_true, not_false_eq_true, not_true_eq_false]; done) | (simp_all [hy_mtakes]; done), ht⟩) (fun q h => nomatch h) dX2_takes_47
        · -- 37
          refine lv_iload_n hx hb dX2_takes_37 rfl (lv_at hl 1 rfl) ?_
          refine lv_iconst (v := 3) hx hb dX2_takes_38 (by decide) ?_
          refine lv_icmp_ne (tgt := 46) hx hb dX2_takes_39 (by decide) (fun c_39 => ?_) (fun c_39 => ?_)
          · -- 46
            refine lv_iconst (v := 0) hx hb dX2_takes_46 (by decide) ?_
            exact W.zret (v := 0) (ty := .boolean) hx hb hr (by decide +kernel) (fun t ht hW => ⟨_, rfl, by first | rfl | (simp [hy_mtakes, *]; done) | ((try simp only [lg_cmp_lt, lg_cmp_ge, lg_cmp_le, lg_cmp_gt, lg_cmp_eq] at *); simp only [hy_mtakes, *, ↓reduceIte, if_false, if_true, not_false_eq_true, not_true_eq_false]; done) | (simp_all [hy_mtakes]; done), ht⟩) (fun q h => nomatch h) dX2_takes_47
          · -- 42
            refine lv_iconst (v := 1) hx hb dX2_takes_42 (by decide) ?_
            refine lv_goto (tgt := 47) hx hb dX2_takes_43 (by decide) ?_
            exact W.zret (v := 1) (ty := .boolean) hx hb hr (by decide +kernel) (fun t ht hW => ⟨_, rfl, by first | rfl | (simp [hy_mtakes, *]; done) | ((try simp only [lg_cmp_lt, lg_cmp_ge, lg_cmp_le, lg_cmp_gt, lg_cmp_eq] at *); simp only [hy_mtakes, *, ↓reduceIte, if_false, if_true, not_false_eq_true, not_true_eq_false]; done) | (simp_all [hy_mtakes]; done), ht⟩) (fun q h => nomatch h) dX2_takes_47
      · -- 26
        refine lv_iload_n hx hb dX2_takes_26 rfl (lv_at hl 1 rfl) ?_
        refine lv_iconst (v := 2) hx hb dX2_takes_27 (by decide) ?_
        refine lv_icmp_eq (tgt := 42) hx hb dX2_takes_28 (by decide) (fun c_28 => ?_) (fun c_28 => ?_)
        · -- 42
          refine lv_iconst (v := 1) hx hb dX2_takes_42 (by decide) ?_
          refine lv_goto (tgt := 47) hx hb dX2_takes_43 (by decide) ?_
          exact W.zret (v := 1) (ty := .boolean) hx hb hr (by decide +kernel) (fun t ht hW => ⟨_, rfl, by first | rfl | (simp [hy_mtakes, *]; done) | ((try simp only [lg_cmp_lt, lg_cmp_ge, lg_cmp_le, lg_cmp_gt, lg_cmp_eq] at *); simp only [hy_mtakes, *, ↓reduceIte, if_false, if_true, not_false_eq_true, not_true_eq_false]; done) | (simp_all [hy_mtakes]; done), ht⟩) (fun q h => nomatch h) dX2_takes_47
        · -- 31
          refine lv_iload_n hx hb dX2_takes_31 rfl (lv_at hl 0 rfl) ?_
          refine lv_bipush (v := 7) hx hb dX2_takes_32 (by decide) ?_
          refine lv_icmp_ne (tgt := 46) hx hb dX2_takes_34 (by decide) (fun c_34 => ?_) (fun c_34 => ?_)
          · -- 46
            refine lv_iconst (v := 0) hx hb dX2_takes_46 (by decide) ?_
            exact W.zret (v := 0) (ty := .boolean) hx hb hr (by decide +kernel) (fun t ht hW => ⟨_, rfl, by first | rfl | (simp [hy_mtakes, *]; done) | ((try simp only [lg_cmp_lt, lg_cmp_ge, lg_cmp_le, lg_cmp_gt, lg_cmp_eq] at *); simp only [hy_mtakes, *, ↓reduceIte, if_false, if_true, not_false_eq_true, not_true_eq_false]; done) | (simp_all [hy_mtakes]; done), ht⟩) (fun q h => nomatch h) dX2_takes_47
          · -- 37
            refine lv_iload_n hx hb dX2_takes_37 rfl (lv_at hl 1 rfl) ?_
            refine lv_iconst (v := 3) hx hb dX2_takes_38 (by decide) ?_
            refine lv_icmp_ne (tgt := 46) hx hb dX2_takes_39 (by decide) (fun c_39 => ?_) (fun c_39 => ?_)
            · -- 46
              refine lv_iconst (v := 0) hx hb dX2_takes_46 (by decide) ?_
              exact W.zret (v := 0) (ty := .boolean) hx hb hr (by decide +kernel) (fun t ht hW => ⟨_, rfl, by first | rfl | (simp [hy_mtakes, *]; done) | ((try simp only [lg_cmp_lt, lg_cmp_ge, lg_cmp_le, lg_cmp_gt, lg_cmp_eq] at *); simp only [hy_mtakes, *, ↓reduceIte, if_false, if_true, not_false_eq_true, not_true_eq_false]; done) | (simp_all [hy_mtakes]; done), ht⟩) (fun q h => nomatch h) dX2_takes_47
            · -- 42
              refine lv_iconst (v := 1) hx hb dX2_takes_42 (by decide) ?_
              refine lv_goto (tgt := 47) hx hb dX2_takes_43 (by decide) ?_
              exact W.zret (v := 1) (ty := .boolean) hx hb hr (by decide +kernel) (fun t ht hW => ⟨_, rfl, by first | rfl | (simp [hy_mtakes, *]; done) | ((try simp only [lg_cmp_lt, lg_cmp_ge, lg_cmp_le, lg_cmp_gt, lg_cmp_eq] at *); simp only [hy_mtakes, *, ↓reduceIte, if_false, if_true, not_false_eq_true, not_true_eq_false]; done) | (simp_all [hy_mtakes]; done), ht⟩) (fun q h => nomatch h) dX2_takes_47
    · -- 10
      refine lv_iload_n hx hb dX2_takes_10 rfl (lv_at hl 1 rfl) ?_
      refine lv_iconst (v := 1) hx hb dX2_takes_11 (by decide) ?_
      refine lv_icmp_eq (tgt := 42) hx hb dX2_takes_12 (by decide) (fun c_12 => ?_) (fun c_12 => ?_)
      · -- 42
        refine lv_iconst (v := 1) hx hb dX2_takes_42 (by decide) ?_
        refine lv_goto (tgt := 47) hx hb dX2_takes_43 (by decide) ?_
        exact W.zret (v := 1) (ty := .boolean) hx hb hr (by decide +kernel) (fun t ht hW => ⟨_, rfl, by first | rfl | (simp [hy_mtakes, *]; done) | ((try simp only [lg_cmp_lt, lg_cmp_ge, lg_cmp_le, lg_cmp_gt, lg_cmp_eq] at *); simp only [hy_mtakes, *, ↓reduceIte, if_false, if_true, not_false_eq_true, not_true_eq_false]; done) | (simp_all [hy_mtakes]; done), ht⟩) (fun q h => nomatch h) dX2_takes_47
      · -- 15
        refine lv_iload_n hx hb dX2_takes_15 rfl (lv_at hl 1 rfl) ?_
        refine lv_iconst (v := 3) hx hb dX2_takes_16 (by decide) ?_
        refine lv_icmp_eq (tgt := 42) hx hb dX2_takes_17 (by decide) (fun c_17 => ?_) (fun c_17 => ?_)
        · -- 42
          refine lv_iconst (v := 1) hx hb dX2_takes_42 (by decide) ?_
          refine lv_goto (tgt := 47) hx hb dX2_takes_43 (by decide) ?_
          exact W.zret (v := 1) (ty := .boolean) hx hb hr (by decide +kernel) (fun t ht hW => ⟨_, rfl, by first | rfl | (simp [hy_mtakes, *]; done) | ((try simp only [lg_cmp_lt, lg_cmp_ge, lg_cmp_le, lg_cmp_gt, lg_cmp_eq] at *); simp only [hy_mtakes, *, ↓reduceIte, if_false, if_true, not_false_eq_true, not_true_eq_false]; done) | (simp_all [hy_mtakes]; done), ht⟩) (fun q h => nomatch h) dX2_takes_47
        · -- 20
          refine lv_iload_n hx hb dX2_takes_20 rfl (lv_at hl 0 rfl) ?_
          refine lv_bipush (v := 6) hx hb dX2_takes_21 (by decide) ?_
          refine lv_icmp_ne (tgt := 31) hx hb dX2_takes_23 (by decide) (fun c_23 => ?_) (fun c_23 => ?_)
          · -- 31
            refine lv_iload_n hx hb dX2_takes_31 rfl (lv_at hl 0 rfl) ?_
            refine lv_bipush (v := 7) hx hb dX2_takes_32 (by decide) ?_
            refine lv_icmp_ne (tgt := 46) hx hb dX2_takes_34 (by decide) (fun c_34 => ?_) (fun c_34 => ?_)
            · -- 46
              refine lv_iconst (v := 0) hx hb dX2_takes_46 (by decide) ?_
              exact W.zret (v := 0) (ty := .boolean) hx hb hr (by decide +kernel) (fun t ht hW => ⟨_, rfl, by first | rfl | (simp [hy_mtakes, *]; done) | ((try simp only [lg_cmp_lt, lg_cmp_ge, lg_cmp_le, lg_cmp_gt, lg_cmp_eq] at *); simp only [hy_mtakes, *, ↓reduceIte, if_false, if_true, not_false_eq_true, not_true_eq_false]; done) | (simp_all [hy_mtakes]; done), ht⟩) (fun q h => nomatch h) dX2_takes_47
            · -- 37
              refine lv_iload_n hx hb dX2_takes_37 rfl (lv_at hl 1 rfl) ?_
              refine lv_iconst (v := 3) hx hb dX2_takes_38 (by decide) ?_
              refine lv_icmp_ne (tgt := 46) hx hb dX2_takes_39 (by decide) (fun c_39 => ?_) (fun c_39 => ?_)
              · -- 46
                refine lv_iconst (v := 0) hx hb dX2_takes_46 (by decide) ?_
                exact W.zret (v := 0) (ty := .boolean) hx hb hr (by decide +kernel) (fun t ht hW => ⟨_, rfl, by first | rfl | (simp [hy_mtakes, *]; done) | ((try simp only [lg_cmp_lt, lg_cmp_ge, lg_cmp_le, lg_cmp_gt, lg_cmp_eq] at *); simp only [hy_mtakes, *, ↓reduceIte, if_false, if_true, not_false_eq_true, not_true_eq_false]; done) | (simp_all [hy_mtakes]; done), ht⟩) (fun q h => nomatch h) dX2_takes_47
              · -- 42
                refine lv_iconst (v := 1) hx hb dX2_takes_42 (by decide) ?_
                refine lv_goto (tgt := 47) hx hb dX2_takes_43 (by decide) ?_
                exact W.zret (v := 1) (ty := .boolean) hx hb hr (by decide +kernel) (fun t ht hW => ⟨_, rfl, by first | rfl | (simp [hy_mtakes, *]; done) | ((try simp only [lg_cmp_lt, lg_cmp_ge, lg_cmp_le, lg_cmp_gt, lg_cmp_eq] at *); simp only [hy_mtakes, *, ↓reduceIte, if_false, if_true, not_false_eq_true, not_true_eq_false]; done) | (simp_all [hy_mtakes]; done), ht⟩) (fun q h => nomatch h) dX2_takes_47
          · -- 26
            refine lv_iload_n hx hb dX2_takes_26 rfl (lv_at hl 1 rfl) ?_
            refine lv_iconst (v := 2) hx hb dX2_takes_27 (by decide) ?_
            refine lv_icmp_eq (tgt := 42) hx hb dX2_takes_28 (by decide) (fun c_28 => ?_) (fun c_28 => ?_)
            · -- 42
              refine lv_iconst (v := 1) hx hb dX2_takes_42 (by decide) ?_
              refine lv_goto (tgt := 47) hx hb dX2_takes_43 (by decide) ?_
              exact W.zret (v := 1) (ty := .boolean) hx hb hr (by decide +kernel) (fun t ht hW => ⟨_, rfl, by first | rfl | (simp [hy_mtakes, *]; done) | ((try simp only [lg_cmp_lt, lg_cmp_ge, lg_cmp_le, lg_cmp_gt, lg_cmp_eq] at *); simp only [hy_mtakes, *, ↓reduceIte, if_false, if_true, not_false_eq_true, not_true_eq_false]; done) | (simp_all [hy_mtakes]; done), ht⟩) (fun q h => nomatch h) dX2_takes_47
            · -- 31
              refine lv_iload_n hx hb dX2_takes_31 rfl (lv_at hl 0 rfl) ?_
              refine lv_bipush (v := 7) hx hb dX2_takes_32 (by decide) ?_
              refine lv_icmp_ne (tgt := 46) hx hb dX2_takes_34 (by decide) (fun c_34 => ?_) (fun c_34 => ?_)
              · -- 46
                refine lv_iconst (v := 0) hx hb dX2_takes_46 (by decide) ?_
                exact W.zret (v := 0) (ty := .boolean) hx hb hr (by decide +kernel) (fun t ht hW => ⟨_, rfl, by first | rfl | (simp [hy_mtakes, *]; done) | ((try simp only [lg_cmp_lt, lg_cmp_ge, lg_cmp_le, lg_cmp_gt, lg_cmp_eq] at *); simp only [hy_mtakes, *, ↓reduceIte, if_false, if_true, not_false_eq_true, not_true_eq_false]; done) | (simp_all [hy_mtakes]; done), ht⟩) (fun q h => nomatch h) dX2_takes_47
              · -- 37
                refine lv_iload_n hx hb dX2_takes_37 rfl (lv_at hl 1 rfl) ?_
                refine lv_iconst (v := 3) hx hb dX2_takes_38 (by decide) ?_
                refine lv_icmp_ne (tgt := 46) hx hb dX2_takes_39 (by decide) (fun c_39 => ?_) (fun c_39 => ?_)
                · -- 46
                  refine lv_iconst (v := 0) hx hb dX2_takes_46 (by decide) ?_
                  exact W.zret (v := 0) (ty := .boolean) hx hb hr (by decide +kernel) (fun t ht hW => ⟨_, rfl, by first | rfl | (simp [hy_mtakes, *]; done) | ((try simp only [lg_cmp_lt, lg_cmp_ge, lg_cmp_le, lg_cmp_gt, lg_cmp_eq] at *); simp only [hy_mtakes, *, ↓reduceIte, if_false, if_true, not_false_eq_true, not_true_eq_false]; done) | (simp_all [hy_mtakes]; done), ht⟩) (fun q h => nomatch h) dX2_takes_47
                · -- 42
                  refine lv_iconst (v := 1) hx hb dX2_takes_42 (by decide) ?_
                  refine lv_goto (tgt := 47) hx hb dX2_takes_43 (by decide) ?_
                  exact W.zret (v := 1) (ty := .boolean) hx hb hr (by decide +kernel) (fun t ht hW => ⟨_, rfl, by first | rfl | (simp [hy_mtakes, *]; done) | ((try simp only [lg_cmp_lt, lg_cmp_ge, lg_cmp_le, lg_cmp_gt, lg_cmp_eq] at *); simp only [hy_mtakes, *, ↓reduceIte, if_false, if_true, not_false_eq_true, not_true_eq_false]; done) | (simp_all [hy_mtakes]; done), ht⟩) (fun q h => nomatch h) dX2_takes_47
set_option maxHeartbeats 4000000 in
set_option maxRecDepth 100000 in
theorem c_X2_cut (l : Launch) (a0 : Int32) (a1 : Int64) : Met l yX2_cut wsX2_cut ({ frames := 0, cells := 0, slots := 0, locals := 0 }) (va_Pc [.int a0, .long a1] (fun _ => True)) (vp_Sl (fun v : Int64 => v = hy_mcut a0 a1)) 0 0 (fun _ => False) := by
  refine Met.ofW (cc := cX2_cut) (maxL := 3) (ret := (some .long)) (by decide) rfl ?_
  intro p e s m args below meth c s₁ B hml hv
  obtain ⟨rfl, -⟩ := hv
  have hx := B.exec
  have hb := B.bytes
  have hr := B.returns
  have hts := atoms_spec (ws := wsX2_cut) B.pre
  have hown : s.vm.findClass RX2 = some m.cls := findClass_of_methodNamed B.named
  have hlocks := B.notSynchronized
  have hl := lv_entry ([.int a0, .long a1]) (n := 3) (Nat.le_of_ble_eq_true rfl)
  rw [lg_entry_eq]
  generalize (lg_sl ([.int a0, .long a1]) ++ List.replicate (3 - (lg_sl ([.int a0, .long a1])).length) Slot.unset).toArray = ls at hl ⊢
  have hl : lv_has ls 3 [(0, .int a0), (1, .long a1)] := hl
  refine lv_iload_n hx hb dX2_cut_0 rfl (lv_at hl 0 rfl) ?_
  refine lv_if_ne (tgt := 10) hx hb dX2_cut_1 (by decide) (fun c_1 => ?_) (fun c_1 => ?_)
  · -- 10
    refine lv_iload_n hx hb dX2_cut_10 rfl (lv_at hl 0 rfl) ?_
    refine lv_iconst (v := 1) hx hb dX2_cut_11 (by decide) ?_
    refine lv_icmp_ne (tgt := 19) hx hb dX2_cut_12 (by decide) (fun c_12 => ?_) (fun c_12 => ?_)
    · -- 19
      refine lv_iload_n hx hb dX2_cut_19 rfl (lv_at hl 0 rfl) ?_
      refine lv_iconst (v := 2) hx hb dX2_cut_20 (by decide) ?_
      refine lv_icmp_ne (tgt := 31) hx hb dX2_cut_21 (by decide) (fun c_21 => ?_) (fun c_21 => ?_)
      · -- 31
        refine lv_lload_n hx hb dX2_cut_31 rfl (lv_at hl 1 rfl) ?_
        refine lv_l2i (v := a1.toInt32) hx hb dX2_cut_32 rfl ?_
        refine lv_i2b (v := a1.toInt32.toInt8.toInt32) hx hb dX2_cut_33 rfl ?_
        refine lv_i2l (v := a1.toInt32.toInt8.toInt32.toInt64) hx hb dX2_cut_34 rfl ?_
        exact W.lret (v := a1.toInt32.toInt8.toInt32.toInt64) hx hb hr (fun t ht hW => ⟨_, rfl, by first | rfl | (simp [hy_mcut, *]; done) | ((try simp only [lg_cmp_lt, lg_cmp_ge, lg_cmp_le, lg_cmp_gt, lg_cmp_eq] at *); simp only [hy_mcut, *, ↓reduceIte, if_false, if_true, not_false_eq_true, not_true_eq_false]; done) | (simp_all [hy_mcut]; done), ht⟩) (fun q h => nomatch h) dX2_cut_35
      · -- 24
        refine lv_lload_n hx hb dX2_cut_24 rfl (lv_at hl 1 rfl) ?_
        refine lv_l2i (v := a1.toInt32) hx hb dX2_cut_25 rfl ?_
        refine lv_i2s (v := a1.toInt32.toInt16.toInt32) hx hb dX2_cut_26 rfl ?_
        refine lv_i2l (v := a1.toInt32.toInt16.toInt32.toInt64) hx hb dX2_cut_27 rfl ?_
        refine lv_goto (tgt := 35) hx hb dX2_cut_28 (by decide) ?_
        exact W.lret (v := a1.toInt32.toInt16.toInt32.toInt64) hx hb hr (fun t ht hW => ⟨_, rfl, by first | rfl | (simp [hy_mcut, *]; done) | ((try simp only [lg_cmp_lt, lg_cmp_ge, lg_cmp_le, lg_cmp_gt, lg_cmp_eq] at *); simp only [hy_mcut, *, ↓reduceIte, if_false, if_true, not_false_eq_true, not_true_eq_false]; done) | (simp_all [hy_mcut]; done), ht⟩) (fun q h => nomatch h) dX2_cut_35
    · -- 15
      refine lv_lload_n hx hb dX2_cut_15 rfl (lv_at hl 1 rfl) ?_
      refine lv_goto (tgt := 35) hx hb dX2_cut_16 (by decide) ?_
      exact W.lret (v := a1) hx hb hr (fun t ht hW => ⟨_, rfl, by first | rfl | (simp [hy_mcut, *]; done) | ((try simp only [lg_cmp_lt, lg_cmp_ge, lg_cmp_le, lg_cmp_gt, lg_cmp_eq] at *); simp only [hy_mcut, *, ↓reduceIte, if_false, if_true, not_false_eq_true, not_true_eq_false]; done) | (simp_all [hy_mcut]; done), ht⟩) (fun q h => nomatch h) dX2_cut_35
  · -- 4
    refine lv_lload_n hx hb dX2_cut_4 rfl (lv_at hl 1 rfl) ?_
    refine lv_l2i (v := a1.toInt32) hx hb dX2_cut_5 rfl ?_
    refine lv_i2l (v := a1.toInt32.toInt64) hx hb dX2_cut_6 rfl ?_
    refine lv_goto (tgt := 35) hx hb dX2_cut_7 (by decide) ?_
    exact W.lret (v := a1.toInt32.toInt64) hx hb hr (fun t ht hW => ⟨_, rfl, by first | rfl | (simp [hy_mcut, *]; done) | ((try simp only [lg_cmp_lt, lg_cmp_ge, lg_cmp_le, lg_cmp_gt, lg_cmp_eq] at *); simp only [hy_mcut, *, ↓reduceIte, if_false, if_true, not_false_eq_true, not_true_eq_false]; done) | (simp_all [hy_mcut]; done), ht⟩) (fun q h => nomatch h) dX2_cut_35
set_option maxHeartbeats 4000000 in
set_option maxRecDepth 100000 in
theorem c_X2_isOutside (l : Launch) (a0 a1 a2 : Int32) : Met l yX2_isOutside wsX2_isOutside ({ frames := 0, cells := 0, slots := 0, locals := 0 }) (va_Pc [.int a0, .int a1, .int a2] (fun _ => True)) (vp_Si (fun v : Int32 => v = hy_mout a0 a1 a2)) 0 0 (fun _ => False) := by
  refine Met.ofW (cc := cX2_isOutside) (maxL := 3) (ret := (some .boolean)) (by decide) rfl ?_
  intro p e s m args below meth c s₁ B hml hv
  obtain ⟨rfl, -⟩ := hv
  have hx := B.exec
  have hb := B.bytes
  have hr := B.returns
  have hts := atoms_spec (ws := wsX2_isOutside) B.pre
  have hown : s.vm.findClass RX2 = some m.cls := findClass_of_methodNamed B.named
  have hlocks := B.notSynchronized
  have hl := lv_entry ([.int a0, .int a1, .int a2]) (n := 3) (Nat.le_of_ble_eq_true rfl)
  rw [lg_entry_eq]
  generalize (lg_sl ([.int a0, .int a1, .int a2]) ++ List.replicate (3 - (lg_sl ([.int a0, .int a1, .int a2])).length) Slot.unset).toArray = ls at hl ⊢
  have hl : lv_has ls 3 [(0, .int a0), (1, .int a1), (2, .int a2)] := hl
  refine lv_iload_n hx hb dX2_isOutside_0 rfl (lv_at hl 0 rfl) ?_
  refine lv_if_lt (tgt := 15) hx hb dX2_isOutside_1 (by decide) (fun c_1 => ?_) (fun c_1 => ?_)
  · -- 15
    refine lv_iconst (v := 1) hx hb dX2_isOutside_15 (by decide) ?_
    refine lv_goto (tgt := 20) hx hb dX2_isOutside_16 (by decide) ?_
    exact W.zret (v := 1) (ty := .boolean) hx hb hr (by decide +kernel) (fun t ht hW => ⟨_, rfl, by first | rfl | (simp [hy_mout, *]; done) | ((try simp only [lg_cmp_lt, lg_cmp_ge, lg_cmp_le, lg_cmp_gt, lg_cmp_eq] at *); simp only [hy_mout, *, ↓reduceIte, if_false, if_true, not_false_eq_true, not_true_eq_false]; done) | (simp_all [hy_mout]; done), ht⟩) (fun q h => nomatch h) dX2_isOutside_20
  · -- 4
    refine lv_iload_n hx hb dX2_isOutside_4 rfl (lv_at hl 0 rfl) ?_
    refine lv_i2l (v := a0.toInt64) hx hb dX2_isOutside_5 rfl ?_
    refine lv_iload_n hx hb dX2_isOutside_6 rfl (lv_at hl 1 rfl) ?_
    refine lv_i2l (v := a1.toInt64) hx hb dX2_isOutside_7 rfl ?_
    refine lv_ladd hx hb dX2_isOutside_8 ?_
    refine lv_iload_n hx hb dX2_isOutside_9 rfl (lv_at hl 2 rfl) ?_
    refine lv_i2l (v := a2.toInt64) hx hb dX2_isOutside_10 rfl ?_
    refine W.lcmp hx hb dX2_isOutside_11 ?_
    refine lv_if_le (tgt := 19) hx hb dX2_isOutside_12 (by decide) (fun c_12 => ?_) (fun c_12 => ?_)
    · -- 19
      refine lv_iconst (v := 0) hx hb dX2_isOutside_19 (by decide) ?_
      exact W.zret (v := 0) (ty := .boolean) hx hb hr (by decide +kernel) (fun t ht hW => ⟨_, rfl, by first | rfl | (simp [hy_mout, *]; done) | ((try simp only [lg_cmp_lt, lg_cmp_ge, lg_cmp_le, lg_cmp_gt, lg_cmp_eq] at *); simp only [hy_mout, *, ↓reduceIte, if_false, if_true, not_false_eq_true, not_true_eq_false]; done) | (simp_all [hy_mout]; done), ht⟩) (fun q h => nomatch h) dX2_isOutside_20
    · -- 15
      refine lv_iconst (v := 1) hx hb dX2_isOutside_15 (by decide) ?_
      refine lv_goto (tgt := 20) hx hb dX2_isOutside_16 (by decide) ?_
      exact W.zret (v := 1) (ty := .boolean) hx hb hr (by decide +kernel) (fun t ht hW => ⟨_, rfl, by first | rfl | (simp [hy_mout, *]; done) | ((try simp only [lg_cmp_lt, lg_cmp_ge, lg_cmp_le, lg_cmp_gt, lg_cmp_eq] at *); simp only [hy_mout, *, ↓reduceIte, if_false, if_true, not_false_eq_true, not_true_eq_false]; done) | (simp_all [hy_mout]; done), ht⟩) (fun q h => nomatch h) dX2_isOutside_20
set_option maxHeartbeats 4000000 in
set_option maxRecDepth 100000 in
theorem c_X2_thrown (l : Launch) (D : va_G) (cI cJ cB : ClassId) (n0 bM sM zM tM xM kM wM eM : Nat) (S : hy_S) (th : Int32) (tk : Nat → Int64)  : Met l yX2_thrown wsX2_thrown ({ frames := 0, cells := 0, slots := 0, locals := 0 }) (va_Pc [.ref n0] (hy_J D cI cJ cB n0 bM sM zM tM xM kM wM eM S th tk)) (vp_Si (fun v : Int32 => v = th)) 0 0 (fun _ => False) := by
  refine Met.ofW (cc := cX2_thrown) (maxL := 1) (ret := (some .int)) (by decide) rfl ?_
  intro p e s m args below meth c s₁ B hml hv
  obtain ⟨rfl, hP, hK⟩ := hv
  have hx := B.exec
  have hb := B.bytes
  have hr := B.returns
  have hts := atoms_spec (ws := wsX2_thrown) B.pre
  have hown : s.vm.findClass RX2 = some m.cls := findClass_of_methodNamed B.named
  have hlocks := B.notSynchronized
  have hinX2 : ∀ w ∈ wsX20, w ∈ wsX2_thrown := by decide +kernel
  have hl := lv_entry ([.ref n0]) (n := 1) (Nat.le_of_ble_eq_true rfl)
  rw [lg_entry_eq]
  generalize (lg_sl ([.ref n0]) ++ List.replicate (1 - (lg_sl ([.ref n0])).length) Slot.unset).toArray = ls at hl ⊢
  have hl : lv_has ls 1 [(0, .ref n0)] := hl
  refine lv_aload_n hx hb dX2_thrown_0 rfl (lv_at hl 0 rfl) ?_
  refine va_get (D := D) (ci := 2) (v := .int th) (C := RX2) (T := TX2) (N := 14) hx hb hts hinX2 hown hK hP 0 rfl rfl 0 (by decide) (hts (.fieldLink RX2 35 "HiveYardModel" "thrown" "I") (by decide +kernel)) (fun _ h9 => h9) rfl dX2_thrown_1 ?_
  exact W.iret (v := th) hx hb hr (fun t ht hW => ⟨_, rfl, by first | rfl | (simp [*]; done) | ((try simp only [lg_cmp_lt, lg_cmp_ge, lg_cmp_le, lg_cmp_gt, lg_cmp_eq] at *); simp only [*, ↓reduceIte, if_false, if_true, not_false_eq_true, not_true_eq_false]; done) | (simp_all []; done), ht⟩) (fun q h => nomatch h) dX2_thrown_4
set_option maxHeartbeats 4000000 in
set_option maxRecDepth 100000 in
theorem c_X2_isComb (l : Launch) (D : va_G) (cI cJ cB : ClassId) (n0 bM sM zM tM xM kM wM eM : Nat) (S : hy_S) (th : Int32) (tk : Nat → Int64) (a1 : Int32) : Met l yX2_isComb wsX2_isComb ({ frames := 0, cells := 0, slots := 0, locals := 0 }) (va_Pc [.ref n0, .int a1] (hy_J D cI cJ cB n0 bM sM zM tM xM kM wM eM S th tk)) (vp_Si (fun v : Int32 => v = hy_misComb S a1)) 0 0 (fun _ => False) := by
  refine Met.ofW (cc := cX2_isComb) (maxL := 2) (ret := (some .boolean)) (by decide) rfl ?_
  intro p e s m args below meth c s₁ B hml hv
  obtain ⟨rfl, hP, hK⟩ := hv
  have hx := B.exec
  have hb := B.bytes
  have hr := B.returns
  have hts := atoms_spec (ws := wsX2_isComb) B.pre
  have hown : s.vm.findClass RX2 = some m.cls := findClass_of_methodNamed B.named
  have hlocks := B.notSynchronized
  have hinX2 : ∀ w ∈ wsX20, w ∈ wsX2_isComb := by decide +kernel
  have hl := lv_entry ([.ref n0, .int a1]) (n := 2) (Nat.le_of_ble_eq_true rfl)
  rw [lg_entry_eq]
  generalize (lg_sl ([.ref n0, .int a1]) ++ List.replicate (2 - (lg_sl ([.ref n0, .int a1])).length) Slot.unset).toArray = ls at hl ⊢
  have hl : lv_has ls 2 [(0, .ref n0), (1, .int a1)] := hl
  refine lv_iload_n hx hb dX2_isComb_0 rfl (lv_at hl 1 rfl) ?_
  refine lv_if_lt (tgt := 16) hx hb dX2_isComb_1 (by decide) (fun c_1 => ?_) (fun c_1 => ?_)
  · -- 16
    refine lv_iconst (v := 0) hx hb dX2_isComb_16 (by decide) ?_
    exact W.zret (v := 0) (ty := .boolean) hx hb hr (by decide +kernel) (fun t ht hW => ⟨_, rfl, by first | rfl | (simp [hy_misComb, *]; done) | ((try simp only [lg_cmp_lt, lg_cmp_ge, lg_cmp_le, lg_cmp_gt, lg_cmp_eq] at *); simp only [hy_misComb, *, ↓reduceIte, if_false, if_true, not_false_eq_true, not_true_eq_false]; done) | (simp_all [hy_misComb]; done), ht⟩) (fun q h => nomatch h) dX2_isComb_17
  · -- 4
    refine lv_iload_n hx hb dX2_isComb_4 rfl (lv_at hl 1 rfl) ?_
    refine lv_aload_n hx hb dX2_isComb_5 rfl (lv_at hl 0 rfl) ?_
    refine va_get (D := D) (ci := 2) (v := .int (nI (hy_nc S))) (C := RX2) (T := TX2) (N := 14) hx hb hts hinX2 hown hK hP 0 rfl rfl 7 (by decide) (hts (.fieldLink RX2 73 "HiveYardModel" "combs" "I") (by decide +kernel)) (fun _ h9 => h9) rfl dX2_isComb_6 ?_
    refine lv_icmp_ge (tgt := 16) hx hb dX2_isComb_9 (by decide) (fun c_9 => ?_) (fun c_9 => ?_)
    · -- 16
      refine lv_iconst (v := 0) hx hb dX2_isComb_16 (by decide) ?_
      exact W.zret (v := 0) (ty := .boolean) hx hb hr (by decide +kernel) (fun t ht hW => ⟨_, rfl, by first | rfl | (simp [hy_misComb, *]; done) | ((try simp only [lg_cmp_lt, lg_cmp_ge, lg_cmp_le, lg_cmp_gt, lg_cmp_eq] at *); simp only [hy_misComb, *, ↓reduceIte, if_false, if_true, not_false_eq_true, not_true_eq_false]; done) | (simp_all [hy_misComb]; done), ht⟩) (fun q h => nomatch h) dX2_isComb_17
    · -- 12
      refine lv_iconst (v := 1) hx hb dX2_isComb_12 (by decide) ?_
      refine lv_goto (tgt := 17) hx hb dX2_isComb_13 (by decide) ?_
      exact W.zret (v := 1) (ty := .boolean) hx hb hr (by decide +kernel) (fun t ht hW => ⟨_, rfl, by first | rfl | (simp [hy_misComb, *]; done) | ((try simp only [lg_cmp_lt, lg_cmp_ge, lg_cmp_le, lg_cmp_gt, lg_cmp_eq] at *); simp only [hy_misComb, *, ↓reduceIte, if_false, if_true, not_false_eq_true, not_true_eq_false]; done) | (simp_all [hy_misComb]; done), ht⟩) (fun q h => nomatch h) dX2_isComb_17
set_option maxHeartbeats 4000000 in
set_option maxRecDepth 100000 in
theorem c_X2_what (l : Launch) (D : va_G) (cI cJ cB : ClassId) (n0 bM sM zM tM xM kM wM eM : Nat) (S : hy_S) (th : Int32) (tk : Nat → Int64) (a1 : Int32) (hok : hy_ok a1) (o : Option Nat) (ho : hy_bx S a1.toNatClampNeg = o) (hwf : hy_wf S) : Met l yX2_what wsX2_what ({ frames := 0, cells := 0, slots := 0, locals := 0 }) (va_Pc [.ref n0, .int a1] (hy_J D cI cJ cB n0 bM sM zM tM xM kM wM eM S th tk)) (vp_Si (fun v : Int32 => v = hy_sort S o)) 0 0 (fun _ => False) := by
  refine Met.ofW (cc := cX2_what) (maxL := 3) (ret := (some .int)) (by decide) rfl ?_
  intro p e s m args below meth c s₁ B hml hv
  obtain ⟨rfl, hP, hK⟩ := hv
  have hx := B.exec
  have hb := B.bytes
  have hr := B.returns
  have hts := atoms_spec (ws := wsX2_what) B.pre
  have hown : s.vm.findClass RX2 = some m.cls := findClass_of_methodNamed B.named
  have hlocks := B.notSynchronized
  have hinX2 : ∀ w ∈ wsX20, w ∈ wsX2_what := by decide +kernel
  cases o with
  | none =>
    have hl := lv_entry ([.ref n0, .int a1]) (n := 3) (Nat.le_of_ble_eq_true rfl)
    rw [lg_entry_eq]
    generalize (lg_sl ([.ref n0, .int a1]) ++ List.replicate (3 - (lg_sl ([.ref n0, .int a1])).length) Slot.unset).toArray = ls at hl ⊢
    have hl : lv_has ls 3 [(0, .ref n0), (1, .int a1)] := hl
    refine lv_aload_n hx hb dX2_what_0 rfl (lv_at hl 0 rfl) ?_
    refine va_get (D := D) (ci := 2) (v := .ref bM) (C := RX2) (T := TX2) (N := 14) hx hb hts hinX2 hown hK hP 0 rfl rfl 1 (by decide) (hts (.fieldLink RX2 7 "HiveYardModel" "boxes" "[I") (by decide +kernel)) (fun _ h9 => h9) rfl dX2_what_1 ?_
    refine lv_iload_n hx hb dX2_what_4 rfl (lv_at hl 1 rfl) ?_
    refine va_iald hx hb hK hP 1 0 rfl rfl (hy_ok_in hok) dX2_what_5 ?_
    refine lv_topi (fun v9 e9 => ?_)
    obtain rfl : v9 = (-1) := e9.trans (by rw [ho]; rfl)
    clear e9
    refine lv_istore_n (lv' := [(2, .int (-1)), (0, .ref n0), (1, .int a1)]) hx hb dX2_what_6 rfl hl (by decide) rfl (fun ls hl => ?_)
    refine lv_iload_n hx hb dX2_what_7 rfl (lv_at hl 0 rfl) ?_
    refine lv_iconst (v := (-1)) hx hb dX2_what_8 (by decide) ?_
    refine lv_icmp_ne (tgt := 16) hx hb dX2_what_9 (by decide) (fun c9 => absurd c9 (fun c => c rfl)) (fun c_9 => ?_)
    refine lv_iconst (v := (-1)) hx hb dX2_what_12 (by decide) ?_
    refine lv_goto (tgt := 33) hx hb dX2_what_13 (by decide) ?_
    exact W.iret (v := (-1)) hx hb hr (fun t ht hW => ⟨_, rfl, by first | rfl | exact hwf.2.2.2.1.symm, ht⟩) (fun q h => nomatch h) dX2_what_33
  | some r0 =>
    cases r0 with
    | zero =>
      have hl := lv_entry ([.ref n0, .int a1]) (n := 3) (Nat.le_of_ble_eq_true rfl)
      rw [lg_entry_eq]
      generalize (lg_sl ([.ref n0, .int a1]) ++ List.replicate (3 - (lg_sl ([.ref n0, .int a1])).length) Slot.unset).toArray = ls at hl ⊢
      have hl : lv_has ls 3 [(0, .ref n0), (1, .int a1)] := hl
      refine lv_aload_n hx hb dX2_what_0 rfl (lv_at hl 0 rfl) ?_
      refine va_get (D := D) (ci := 2) (v := .ref bM) (C := RX2) (T := TX2) (N := 14) hx hb hts hinX2 hown hK hP 0 rfl rfl 1 (by decide) (hts (.fieldLink RX2 7 "HiveYardModel" "boxes" "[I") (by decide +kernel)) (fun _ h9 => h9) rfl dX2_what_1 ?_
      refine lv_iload_n hx hb dX2_what_4 rfl (lv_at hl 1 rfl) ?_
      refine va_iald hx hb hK hP 1 0 rfl rfl (hy_ok_in hok) dX2_what_5 ?_
      refine lv_topi (fun v9 e9 => ?_)
      obtain rfl : v9 = (-2) := e9.trans (by rw [ho]; rfl)
      clear e9
      refine lv_istore_n (lv' := [(2, .int (-2)), (0, .ref n0), (1, .int a1)]) hx hb dX2_what_6 rfl hl (by decide) rfl (fun ls hl => ?_)
      refine lv_iload_n hx hb dX2_what_7 rfl (lv_at hl 0 rfl) ?_
      refine lv_iconst (v := (-1)) hx hb dX2_what_8 (by decide) ?_
      refine lv_icmp_ne (tgt := 16) hx hb dX2_what_9 (by decide) (fun c_9 => ?_) (fun c9 => absurd c9 (by decide))
      refine lv_iload_n hx hb dX2_what_16 rfl (lv_at hl 0 rfl) ?_
      refine lv_bipush (v := (-2)) hx hb dX2_what_17 (by decide) ?_
      refine lv_icmp_ne (tgt := 27) hx hb dX2_what_19 (by decide) (fun c9 => absurd c9 (fun c => c rfl)) (fun c_19 => ?_)
      refine lv_bipush (v := 8) hx hb dX2_what_22 (by decide) ?_
      refine lv_goto (tgt := 33) hx hb dX2_what_24 (by decide) ?_
      exact W.iret (v := 8) hx hb hr (fun t ht hW => ⟨_, rfl, by first | rfl | exact hwf.2.2.2.1.symm, ht⟩) (fun q h => nomatch h) dX2_what_33
    | succ r =>
      have hrl := hwf.2.2.1 _ _ ho
      have h300 := hwf.1
      have hl := lv_entry ([.ref n0, .int a1]) (n := 3) (Nat.le_of_ble_eq_true rfl)
      rw [lg_entry_eq]
      generalize (lg_sl ([.ref n0, .int a1]) ++ List.replicate (3 - (lg_sl ([.ref n0, .int a1])).length) Slot.unset).toArray = ls at hl ⊢
      have hl : lv_has ls 3 [(0, .ref n0), (1, .int a1)] := hl
      refine lv_aload_n hx hb dX2_what_0 rfl (lv_at hl 0 rfl) ?_
      refine va_get (D := D) (ci := 2) (v := .ref bM) (C := RX2) (T := TX2) (N := 14) hx hb hts hinX2 hown hK hP 0 rfl rfl 1 (by decide) (hts (.fieldLink RX2 7 "HiveYardModel" "boxes" "[I") (by decide +kernel)) (fun _ h9 => h9) rfl dX2_what_1 ?_
      refine lv_iload_n hx hb dX2_what_4 rfl (lv_at hl 1 rfl) ?_
      refine va_iald hx hb hK hP 1 0 rfl rfl (hy_ok_in hok) dX2_what_5 ?_
      refine lv_topi (fun v9 e9 => ?_)
      obtain rfl : v9 = (nI r) := e9.trans (by rw [ho]; rfl)
      clear e9
      refine lv_istore_n (lv' := [(2, .int (nI r)), (0, .ref n0), (1, .int a1)]) hx hb dX2_what_6 rfl hl (by decide) rfl (fun ls hl => ?_)
      refine lv_iload_n hx hb dX2_what_7 rfl (lv_at hl 0 rfl) ?_
      refine lv_iconst (v := (-1)) hx hb dX2_what_8 (by decide) ?_
      refine lv_icmp_ne (tgt := 16) hx hb dX2_what_9 (by decide) (fun c_9 => ?_) (fun c9 => absurd c9 (hy_nI_ne (by omega) (by decide)))
      refine lv_iload_n hx hb dX2_what_16 rfl (lv_at hl 0 rfl) ?_
      refine lv_bipush (v := (-2)) hx hb dX2_what_17 (by decide) ?_
      refine lv_icmp_ne (tgt := 27) hx hb dX2_what_19 (by decide) (fun c_19 => ?_) (fun c9 => absurd c9 (hy_nI_ne (by omega) (by decide)))
      refine lv_aload_n hx hb dX2_what_27 rfl (lv_at hl 1 rfl) ?_
      refine va_get (D := D) (ci := 2) (v := .ref sM) (C := RX2) (T := TX2) (N := 14) hx hb hts hinX2 hown hK hP 0 rfl rfl 3 (by decide) (hts (.fieldLink RX2 13 "HiveYardModel" "sorts" "[I") (by decide +kernel)) (fun _ h9 => h9) rfl dX2_what_28 ?_
      refine lv_iload_n hx hb dX2_what_31 rfl (lv_at hl 0 rfl) ?_
      refine va_iald hx hb hK hP 2 0 rfl rfl (vp_in_nI (by omega) (by omega)) dX2_what_32 ?_
      refine lv_topi (fun v9 e9 => ?_)
      obtain rfl : v9 = (hy_so S (r + 1)) := e9.trans (by rw [nI_clamp (by omega)])
      clear e9
      exact W.iret (v := (hy_so S (r + 1))) hx hb hr (fun t ht hW => ⟨_, rfl, by first | rfl | exact hwf.2.2.2.1.symm, ht⟩) (fun q h => nomatch h) dX2_what_33
set_option maxHeartbeats 4000000 in
set_option maxRecDepth 100000 in
theorem c_X2_hasRow (l : Launch) (D : va_G) (cI cJ cB : ClassId) (n0 bM sM zM tM xM kM wM eM : Nat) (S : hy_S) (th : Int32) (tk : Nat → Int64) (a1 : Int32) (hok : hy_ok a1) (o : Option Nat) (ho : hy_bx S a1.toNatClampNeg = o) (hwf : hy_wf S) : Met l yX2_hasRow wsX2_hasRow ({ frames := 0, cells := 0, slots := 0, locals := 0 }) (va_Pc [.ref n0, .int a1] (hy_J D cI cJ cB n0 bM sM zM tM xM kM wM eM S th tk)) (vp_Si (fun v : Int32 => v = hy_mrow o)) 0 0 (fun _ => False) := by
  refine Met.ofW (cc := cX2_hasRow) (maxL := 2) (ret := (some .boolean)) (by decide) rfl ?_
  intro p e s m args below meth c s₁ B hml hv
  obtain ⟨rfl, hP, hK⟩ := hv
  have hx := B.exec
  have hb := B.bytes
  have hr := B.returns
  have hts := atoms_spec (ws := wsX2_hasRow) B.pre
  have hown : s.vm.findClass RX2 = some m.cls := findClass_of_methodNamed B.named
  have hlocks := B.notSynchronized
  have hinX2 : ∀ w ∈ wsX20, w ∈ wsX2_hasRow := by decide +kernel
  cases o with
  | none =>
    have hl := lv_entry ([.ref n0, .int a1]) (n := 2) (Nat.le_of_ble_eq_true rfl)
    rw [lg_entry_eq]
    generalize (lg_sl ([.ref n0, .int a1]) ++ List.replicate (2 - (lg_sl ([.ref n0, .int a1])).length) Slot.unset).toArray = ls at hl ⊢
    have hl : lv_has ls 2 [(0, .ref n0), (1, .int a1)] := hl
    refine lv_aload_n hx hb dX2_hasRow_0 rfl (lv_at hl 0 rfl) ?_
    refine va_get (D := D) (ci := 2) (v := .ref bM) (C := RX2) (T := TX2) (N := 14) hx hb hts hinX2 hown hK hP 0 rfl rfl 1 (by decide) (hts (.fieldLink RX2 7 "HiveYardModel" "boxes" "[I") (by decide +kernel)) (fun _ h9 => h9) rfl dX2_hasRow_1 ?_
    refine lv_iload_n hx hb dX2_hasRow_4 rfl (lv_at hl 1 rfl) ?_
    refine va_iald hx hb hK hP 1 0 rfl rfl (hy_ok_in hok) dX2_hasRow_5 ?_
    refine lv_topi (fun v9 e9 => ?_)
    obtain rfl : v9 = (-1) := e9.trans (by rw [ho]; rfl)
    clear e9
    refine lv_if_lt (tgt := 13) hx hb dX2_hasRow_6 (by decide) (fun c_6 => ?_) (fun c9 => absurd c9 (fun c => c (by decide)))
    refine lv_iconst (v := 0) hx hb dX2_hasRow_13 (by decide) ?_
    exact W.zret (v := 0) (ty := .boolean) hx hb hr (by decide +kernel) (fun t ht hW => ⟨_, rfl, by first | rfl | (simp [*]; done) | ((try simp only [lg_cmp_lt, lg_cmp_ge, lg_cmp_le, lg_cmp_gt, lg_cmp_eq] at *); simp only [*, ↓reduceIte, if_false, if_true, not_false_eq_true, not_true_eq_false]; done) | (simp_all []; done), ht⟩) (fun q h => nomatch h) dX2_hasRow_14
  | some r0 =>
    cases r0 with
    | zero =>
      have hl := lv_entry ([.ref n0, .int a1]) (n := 2) (Nat.le_of_ble_eq_true rfl)
      rw [lg_entry_eq]
      generalize (lg_sl ([.ref n0, .int a1]) ++ List.replicate (2 - (lg_sl ([.ref n0, .int a1])).length) Slot.unset).toArray = ls at hl ⊢
      have hl : lv_has ls 2 [(0, .ref n0), (1, .int a1)] := hl
      refine lv_aload_n hx hb dX2_hasRow_0 rfl (lv_at hl 0 rfl) ?_
      refine va_get (D := D) (ci := 2) (v := .ref bM) (C := RX2) (T := TX2) (N := 14) hx hb hts hinX2 hown hK hP 0 rfl rfl 1 (by decide) (hts (.fieldLink RX2 7 "HiveYardModel" "boxes" "[I") (by decide +kernel)) (fun _ h9 => h9) rfl dX2_hasRow_1 ?_
      refine lv_iload_n hx hb dX2_hasRow_4 rfl (lv_at hl 1 rfl) ?_
      refine va_iald hx hb hK hP 1 0 rfl rfl (hy_ok_in hok) dX2_hasRow_5 ?_
      refine lv_topi (fun v9 e9 => ?_)
      obtain rfl : v9 = (-2) := e9.trans (by rw [ho]; rfl)
      clear e9
      refine lv_if_lt (tgt := 13) hx hb dX2_hasRow_6 (by decide) (fun c_6 => ?_) (fun c9 => absurd c9 (fun c => c (by decide)))
      refine lv_iconst (v := 0) hx hb dX2_hasRow_13 (by decide) ?_
      exact W.zret (v := 0) (ty := .boolean) hx hb hr (by decide +kernel) (fun t ht hW => ⟨_, rfl, by first | rfl | (simp [*]; done) | ((try simp only [lg_cmp_lt, lg_cmp_ge, lg_cmp_le, lg_cmp_gt, lg_cmp_eq] at *); simp only [*, ↓reduceIte, if_false, if_true, not_false_eq_true, not_true_eq_false]; done) | (simp_all []; done), ht⟩) (fun q h => nomatch h) dX2_hasRow_14
    | succ r =>
      have hrl := hwf.2.2.1 _ _ ho
      have h300 := hwf.1
      have hl := lv_entry ([.ref n0, .int a1]) (n := 2) (Nat.le_of_ble_eq_true rfl)
      rw [lg_entry_eq]
      generalize (lg_sl ([.ref n0, .int a1]) ++ List.replicate (2 - (lg_sl ([.ref n0, .int a1])).length) Slot.unset).toArray = ls at hl ⊢
      have hl : lv_has ls 2 [(0, .ref n0), (1, .int a1)] := hl
      refine lv_aload_n hx hb dX2_hasRow_0 rfl (lv_at hl 0 rfl) ?_
      refine va_get (D := D) (ci := 2) (v := .ref bM) (C := RX2) (T := TX2) (N := 14) hx hb hts hinX2 hown hK hP 0 rfl rfl 1 (by decide) (hts (.fieldLink RX2 7 "HiveYardModel" "boxes" "[I") (by decide +kernel)) (fun _ h9 => h9) rfl dX2_hasRow_1 ?_
      refine lv_iload_n hx hb dX2_hasRow_4 rfl (lv_at hl 1 rfl) ?_
      refine va_iald hx hb hK hP 1 0 rfl rfl (hy_ok_in hok) dX2_hasRow_5 ?_
      refine lv_topi (fun v9 e9 => ?_)
      obtain rfl : v9 = (nI r) := e9.trans (by rw [ho]; rfl)
      clear e9
      refine lv_if_lt (tgt := 13) hx hb dX2_hasRow_6 (by decide) (fun c9 => absurd c9 (nI_pos (by omega))) (fun c_6 => ?_)
      refine lv_iconst (v := 1) hx hb dX2_hasRow_9 (by decide) ?_
      refine lv_goto (tgt := 14) hx hb dX2_hasRow_10 (by decide) ?_
      exact W.zret (v := 1) (ty := .boolean) hx hb hr (by decide +kernel) (fun t ht hW => ⟨_, rfl, by first | rfl | (simp [*]; done) | ((try simp only [lg_cmp_lt, lg_cmp_ge, lg_cmp_le, lg_cmp_gt, lg_cmp_eq] at *); simp only [*, ↓reduceIte, if_false, if_true, not_false_eq_true, not_true_eq_false]; done) | (simp_all []; done), ht⟩) (fun q h => nomatch h) dX2_hasRow_14
set_option maxHeartbeats 4000000 in
set_option maxRecDepth 100000 in
theorem c_X2_isPlace (l : Launch) (D : va_G) (cI cJ cB : ClassId) (n0 bM sM zM tM xM kM wM eM : Nat) (S : hy_S) (th : Int32) (tk : Nat → Int64) (a1 a2 : Int32) (hok : hy_ok a1) (r : Nat) (ho : hy_bx S a1.toNatClampNeg = some (r + 1)) (hwf : hy_wf S) : Met l yX2_isPlace wsX2_isPlace ({ frames := 0, cells := 0, slots := 0, locals := 0 }) (va_Pc [.ref n0, .int a1, .int a2] (hy_J D cI cJ cB n0 bM sM zM tM xM kM wM eM S th tk)) (vp_Si (fun v : Int32 => v = hy_mpl S (r + 1) a2)) 0 0 (fun _ => False) := by
  refine Met.ofW (cc := cX2_isPlace) (maxL := 3) (ret := (some .boolean)) (by decide) rfl ?_
  intro p e s m args below meth c s₁ B hml hv
  obtain ⟨rfl, hP, hK⟩ := hv
  have hx := B.exec
  have hb := B.bytes
  have hr := B.returns
  have hts := atoms_spec (ws := wsX2_isPlace) B.pre
  have hown : s.vm.findClass RX2 = some m.cls := findClass_of_methodNamed B.named
  have hlocks := B.notSynchronized
  have hinX2 : ∀ w ∈ wsX20, w ∈ wsX2_isPlace := by decide +kernel
  have hrl := hwf.2.2.1 _ _ ho
  have h300 := hwf.1
  have hl := lv_entry ([.ref n0, .int a1, .int a2]) (n := 3) (Nat.le_of_ble_eq_true rfl)
  rw [lg_entry_eq]
  generalize (lg_sl ([.ref n0, .int a1, .int a2]) ++ List.replicate (3 - (lg_sl ([.ref n0, .int a1, .int a2])).length) Slot.unset).toArray = ls at hl ⊢
  have hl : lv_has ls 3 [(0, .ref n0), (1, .int a1), (2, .int a2)] := hl
  refine lv_iload_n hx hb dX2_isPlace_0 rfl (lv_at hl 2 rfl) ?_
  refine lv_if_lt (tgt := 23) hx hb dX2_isPlace_1 (by decide) (fun c_1 => ?_) (fun c_1 => ?_)
  · -- 23
    refine lv_iconst (v := 0) hx hb dX2_isPlace_23 (by decide) ?_
    exact W.zret (v := 0) (ty := .boolean) hx hb hr (by decide +kernel) (fun t ht hW => ⟨_, rfl, by first | rfl | (simp [hy_mpl, *]; done) | ((try simp only [lg_cmp_lt, lg_cmp_ge, lg_cmp_le, lg_cmp_gt, lg_cmp_eq] at *); simp only [hy_mpl, *, ↓reduceIte, if_false, if_true, not_false_eq_true, not_true_eq_false]; done) | (simp_all [hy_mpl]; done), ht⟩) (fun q h => nomatch h) dX2_isPlace_24
  · -- 4
    refine lv_iload_n hx hb dX2_isPlace_4 rfl (lv_at hl 2 rfl) ?_
    refine lv_aload_n hx hb dX2_isPlace_5 rfl (lv_at hl 0 rfl) ?_
    refine va_get (D := D) (ci := 2) (v := .ref zM) (C := RX2) (T := TX2) (N := 14) hx hb hts hinX2 hown hK hP 0 rfl rfl 4 (by decide) (hts (.fieldLink RX2 16 "HiveYardModel" "sizes" "[I") (by decide +kernel)) (fun _ h9 => h9) rfl dX2_isPlace_6 ?_
    refine lv_aload_n hx hb dX2_isPlace_9 rfl (lv_at hl 0 rfl) ?_
    refine va_get (D := D) (ci := 2) (v := .ref bM) (C := RX2) (T := TX2) (N := 14) hx hb hts hinX2 hown hK hP 0 rfl rfl 1 (by decide) (hts (.fieldLink RX2 7 "HiveYardModel" "boxes" "[I") (by decide +kernel)) (fun _ h9 => h9) rfl dX2_isPlace_10 ?_
    refine lv_iload_n hx hb dX2_isPlace_13 rfl (lv_at hl 1 rfl) ?_
    refine va_iald hx hb hK hP 1 0 rfl rfl (hy_ok_in hok) dX2_isPlace_14 ?_
    refine lv_topi (fun v9 e9 => ?_)
    obtain rfl : v9 = (nI r) := e9.trans (by rw [ho]; rfl)
    clear e9
    refine va_iald hx hb hK hP 3 0 rfl rfl (vp_in_nI (by omega) (by omega)) dX2_isPlace_15 ?_
    refine lv_topi (fun v9 e9 => ?_)
    obtain rfl : v9 = (nI (hy_le S (r + 1))) := e9.trans (by rw [nI_clamp (by omega)])
    clear e9
    refine lv_icmp_ge (tgt := 23) hx hb dX2_isPlace_16 (by decide) (fun c_16 => ?_) (fun c_16 => ?_)
    · -- 23
      refine lv_iconst (v := 0) hx hb dX2_isPlace_23 (by decide) ?_
      exact W.zret (v := 0) (ty := .boolean) hx hb hr (by decide +kernel) (fun t ht hW => ⟨_, rfl, by first | rfl | (simp [hy_mpl, *]; done) | ((try simp only [lg_cmp_lt, lg_cmp_ge, lg_cmp_le, lg_cmp_gt, lg_cmp_eq] at *); simp only [hy_mpl, *, ↓reduceIte, if_false, if_true, not_false_eq_true, not_true_eq_false]; done) | (simp_all [hy_mpl]; done), ht⟩) (fun q h => nomatch h) dX2_isPlace_24
    · -- 19
      refine lv_iconst (v := 1) hx hb dX2_isPlace_19 (by decide) ?_
      refine lv_goto (tgt := 24) hx hb dX2_isPlace_20 (by decide) ?_
      exact W.zret (v := 1) (ty := .boolean) hx hb hr (by decide +kernel) (fun t ht hW => ⟨_, rfl, by first | rfl | (simp [hy_mpl, *]; done) | ((try simp only [lg_cmp_lt, lg_cmp_ge, lg_cmp_le, lg_cmp_gt, lg_cmp_eq] at *); simp only [hy_mpl, *, ↓reduceIte, if_false, if_true, not_false_eq_true, not_true_eq_false]; done) | (simp_all [hy_mpl]; done), ht⟩) (fun q h => nomatch h) dX2_isPlace_24
set_option maxHeartbeats 4000000 in
set_option maxRecDepth 100000 in
theorem c_X2_barred (l : Launch) (D : va_G) (cI cJ cB : ClassId) (n0 bM sM zM tM xM kM wM eM : Nat) (S : hy_S) (th : Int32) (tk : Nat → Int64) (a1 a2 a3 a4 : Int32) (hok : hy_ok a1) (hwf : hy_wf S) : Met l yX2_barred wsX2_barred ({ frames := 1, cells := 0, slots := 0, locals := 22 }) (va_Pc [.ref n0, .int a1, .int a2, .int a3, .int a4] (hy_J D cI cJ cB n0 bM sM zM tM xM kM wM eM S th tk)) (vp_Si (fun v : Int32 => v = hy_mbar S (hy_bx S a1.toNatClampNeg) a2 a3 a4)) 0 0 (fun _ => False) := by
  refine Met.ofW (cc := cX2_barred) (maxL := 5) (ret := (some .int)) (by decide) rfl ?_
  intro p e s m args below meth c s₁ B hml hv
  obtain ⟨rfl, hP, hK⟩ := hv
  have hx := B.exec
  have hb := B.bytes
  have hr := B.returns
  have hts := atoms_spec (ws := wsX2_barred) B.pre
  have hown : s.vm.findClass RX2 = some m.cls := findClass_of_methodNamed B.named
  have hlocks := B.notSynchronized
  cases ho : hy_bx S a1.toNatClampNeg with
  | none =>
    have hl := lv_entry ([.ref n0, .int a1, .int a2, .int a3, .int a4]) (n := 5) (Nat.le_of_ble_eq_true rfl)
    rw [lg_entry_eq]
    generalize (lg_sl ([.ref n0, .int a1, .int a2, .int a3, .int a4]) ++ List.replicate (5 - (lg_sl ([.ref n0, .int a1, .int a2, .int a3, .int a4])).length) Slot.unset).toArray = ls at hl ⊢
    have hl : lv_has ls 5 [(0, .ref n0), (1, .int a1), (2, .int a2), (3, .int a3), (4, .int a4)] := hl
    refine lv_aload_n hx hb dX2_barred_0 rfl (lv_at hl 0 rfl) ?_
    refine lv_iload_n hx hb dX2_barred_1 rfl (lv_at hl 1 rfl) ?_
    refine vp_callSi (W.runV (As := [.int a1]) (rest := []) ⟨hx, hb, hml, hown, hts⟩ (c_X2_hasRow l D cI cJ cB n0 bM sM zM tM xM kM wM eM S th tk a1 hok none ho hwf) (cwV 1 hts gX2_barred_X2_hasRow rfl rfl rfl (by decide +kernel) ⟨Nat.le_of_ble_eq_true rfl, Nat.le_of_ble_eq_true rfl⟩) ⟨hy_J_blind, va_recv hK hP (ci := 2) (q0 := 0) rfl rfl, fun U hU hW => ⟨rfl, hy_J_at hU hW hP hK⟩⟩ rfl rfl hl.1 rfl (lv_room (Nat.le_of_ble_eq_true rfl)) dX2_barred_2 ⟨Nat.le_of_ble_eq_true rfl, Nat.le_of_ble_eq_true rfl⟩) (fun v9 e9 => ?_)
    subst e9
    refine lv_if_eq (tgt := 20) hx hb dX2_barred_5 (by decide) (fun c_5 => ?_) (fun c9 => absurd c9 (fun c => c rfl))
    refine lv_iload hx hb dX2_barred_20 (lv_at hl 4 rfl) ?_
    exact W.iret (v := a4) hx hb hr (fun t ht hW => ⟨_, rfl, by first | rfl | (simp [hy_mbar, hy_sort, *]; done) | ((try simp only [lg_cmp_lt, lg_cmp_ge, lg_cmp_le, lg_cmp_gt, lg_cmp_eq] at *); simp only [hy_mbar, hy_sort, *, ↓reduceIte, if_false, if_true, not_false_eq_true, not_true_eq_false]; done) | (simp_all [hy_mbar, hy_sort]; done), ht⟩) (fun q h => nomatch h) dX2_barred_22
  | some r0 =>
    cases r0 with
    | zero =>
      have hl := lv_entry ([.ref n0, .int a1, .int a2, .int a3, .int a4]) (n := 5) (Nat.le_of_ble_eq_true rfl)
      rw [lg_entry_eq]
      generalize (lg_sl ([.ref n0, .int a1, .int a2, .int a3, .int a4]) ++ List.replicate (5 - (lg_sl ([.ref n0, .int a1, .int a2, .int a3, .int a4])).length) Slot.unset).toArray = ls at hl ⊢
      have hl : lv_has ls 5 [(0, .ref n0), (1, .int a1), (2, .int a2), (3, .int a3), (4, .int a4)] := hl
      refine lv_aload_n hx hb dX2_barred_0 rfl (lv_at hl 0 rfl) ?_
      refine lv_iload_n hx hb dX2_barred_1 rfl (lv_at hl 1 rfl) ?_
      refine vp_callSi (W.runV (As := [.int a1]) (rest := []) ⟨hx, hb, hml, hown, hts⟩ (c_X2_hasRow l D cI cJ cB n0 bM sM zM tM xM kM wM eM S th tk a1 hok (some 0) ho hwf) (cwV 1 hts gX2_barred_X2_hasRow rfl rfl rfl (by decide +kernel) ⟨Nat.le_of_ble_eq_true rfl, Nat.le_of_ble_eq_true rfl⟩) ⟨hy_J_blind, va_recv hK hP (ci := 2) (q0 := 0) rfl rfl, fun U hU hW => ⟨rfl, hy_J_at hU hW hP hK⟩⟩ rfl rfl hl.1 rfl (lv_room (Nat.le_of_ble_eq_true rfl)) dX2_barred_2 ⟨Nat.le_of_ble_eq_true rfl, Nat.le_of_ble_eq_true rfl⟩) (fun v9 e9 => ?_)
      subst e9
      refine lv_if_eq (tgt := 20) hx hb dX2_barred_5 (by decide) (fun c_5 => ?_) (fun c9 => absurd c9 (fun c => c rfl))
      refine lv_iload hx hb dX2_barred_20 (lv_at hl 4 rfl) ?_
      exact W.iret (v := a4) hx hb hr (fun t ht hW => ⟨_, rfl, by first | rfl | (simp [hy_mbar, hy_sort, *]; done) | ((try simp only [lg_cmp_lt, lg_cmp_ge, lg_cmp_le, lg_cmp_gt, lg_cmp_eq] at *); simp only [hy_mbar, hy_sort, *, ↓reduceIte, if_false, if_true, not_false_eq_true, not_true_eq_false]; done) | (simp_all [hy_mbar, hy_sort]; done), ht⟩) (fun q h => nomatch h) dX2_barred_22
    | succ r =>
      have hl := lv_entry ([.ref n0, .int a1, .int a2, .int a3, .int a4]) (n := 5) (Nat.le_of_ble_eq_true rfl)
      rw [lg_entry_eq]
      generalize (lg_sl ([.ref n0, .int a1, .int a2, .int a3, .int a4]) ++ List.replicate (5 - (lg_sl ([.ref n0, .int a1, .int a2, .int a3, .int a4])).length) Slot.unset).toArray = ls at hl ⊢
      have hl : lv_has ls 5 [(0, .ref n0), (1, .int a1), (2, .int a2), (3, .int a3), (4, .int a4)] := hl
      refine lv_aload_n hx hb dX2_barred_0 rfl (lv_at hl 0 rfl) ?_
      refine lv_iload_n hx hb dX2_barred_1 rfl (lv_at hl 1 rfl) ?_
      refine vp_callSi (W.runV (As := [.int a1]) (rest := []) ⟨hx, hb, hml, hown, hts⟩ (c_X2_hasRow l D cI cJ cB n0 bM sM zM tM xM kM wM eM S th tk a1 hok (some (r + 1)) ho hwf) (cwV 1 hts gX2_barred_X2_hasRow rfl rfl rfl (by decide +kernel) ⟨Nat.le_of_ble_eq_true rfl, Nat.le_of_ble_eq_true rfl⟩) ⟨hy_J_blind, va_recv hK hP (ci := 2) (q0 := 0) rfl rfl, fun U hU hW => ⟨rfl, hy_J_at hU hW hP hK⟩⟩ rfl rfl hl.1 rfl (lv_room (Nat.le_of_ble_eq_true rfl)) dX2_barred_2 ⟨Nat.le_of_ble_eq_true rfl, Nat.le_of_ble_eq_true rfl⟩) (fun v9 e9 => ?_)
      subst e9
      refine lv_if_eq (tgt := 20) hx hb dX2_barred_5 (by decide) (fun c9 => absurd c9 (fun c => nomatch c)) (fun c_5 => ?_)
      refine lv_aload_n hx hb dX2_barred_8 rfl (lv_at hl 0 rfl) ?_
      refine lv_iload_n hx hb dX2_barred_9 rfl (lv_at hl 1 rfl) ?_
      refine vp_callSi (W.runV (As := [.int a1]) (rest := []) ⟨hx, hb, hml, hown, hts⟩ (c_X2_what l D cI cJ cB n0 bM sM zM tM xM kM wM eM S th tk a1 hok (some (r + 1)) ho hwf) (cwV 1 hts gX2_barred_X2_what rfl rfl rfl (by decide +kernel) ⟨Nat.le_of_ble_eq_true rfl, Nat.le_of_ble_eq_true rfl⟩) ⟨hy_J_blind, va_recv hK hP (ci := 2) (q0 := 0) rfl rfl, fun U hU hW => ⟨rfl, hy_J_at hU hW hP hK⟩⟩ rfl rfl hl.1 rfl (lv_room (Nat.le_of_ble_eq_true rfl)) dX2_barred_10 ⟨Nat.le_of_ble_eq_true rfl, Nat.le_of_ble_eq_true rfl⟩) (fun v9 e9 => ?_)
      subst e9
      refine vp_callSi (W.runS (As := [.int (hy_sort S (some (r + 1)))]) (rest := []) ⟨hx, hb, hml, hown, hts⟩ (c_X2_isOfCombs l (hy_sort S (some (r + 1)))) (va_cwS 1 hts gX2_barred_X2_isOfCombs rfl rfl rfl (by decide +kernel) ⟨Nat.le_of_ble_eq_true rfl, Nat.le_of_ble_eq_true rfl⟩) ⟨fun _ _ _ _ q => q, fun U hU hW => ⟨rfl, trivial⟩⟩ rfl rfl hl.1 rfl (lv_room (Nat.le_of_ble_eq_true rfl)) dX2_barred_13 ⟨Nat.le_of_ble_eq_true rfl, Nat.le_of_ble_eq_true rfl⟩) (fun v9 e9 => ?_)
      subst e9
      refine lv_iload_n hx hb dX2_barred_16 rfl (lv_at hl 3 rfl) ?_
      refine lv_icmp_eq (tgt := 23) hx hb dX2_barred_17 (by decide) (fun c_17 => ?_) (fun c_17 => ?_)
      · -- 23
        refine lv_aload_n hx hb dX2_barred_23 rfl (lv_at hl 0 rfl) ?_
        refine lv_iload_n hx hb dX2_barred_24 rfl (lv_at hl 1 rfl) ?_
        refine lv_iload_n hx hb dX2_barred_25 rfl (lv_at hl 2 rfl) ?_
        refine vp_callSi (W.runV (As := [.int a1, .int a2]) (rest := []) ⟨hx, hb, hml, hown, hts⟩ (c_X2_isPlace l D cI cJ cB n0 bM sM zM tM xM kM wM eM S th tk a1 a2 hok r ho hwf) (cwV 2 hts gX2_barred_X2_isPlace rfl rfl rfl (by decide +kernel) ⟨Nat.le_of_ble_eq_true rfl, Nat.le_of_ble_eq_true rfl⟩) ⟨hy_J_blind, va_recv hK hP (ci := 2) (q0 := 0) rfl rfl, fun U hU hW => ⟨rfl, hy_J_at hU hW hP hK⟩⟩ rfl rfl hl.1 rfl (lv_room (Nat.le_of_ble_eq_true rfl)) dX2_barred_26 ⟨Nat.le_of_ble_eq_true rfl, Nat.le_of_ble_eq_true rfl⟩) (fun v9 e9 => ?_)
        subst e9
        refine lv_if_eq (tgt := 36) hx hb dX2_barred_29 (by decide) (fun c_29 => ?_) (fun c_29 => ?_)
        · -- 36
          refine lv_iload hx hb dX2_barred_36 (lv_at hl 4 rfl) ?_
          refine lv_iconst (v := 1) hx hb dX2_barred_38 (by decide) ?_
          refine lv_iadd hx hb dX2_barred_39 ?_
          exact W.iret (v := (a4 + 1)) hx hb hr (fun t ht hW => ⟨_, rfl, by first | rfl | (simp [hy_mbar, hy_sort, *]; done) | ((try simp only [lg_cmp_lt, lg_cmp_ge, lg_cmp_le, lg_cmp_gt, lg_cmp_eq] at *); simp only [hy_mbar, hy_sort, *, ↓reduceIte, if_false, if_true, not_false_eq_true, not_true_eq_false]; done) | (simp_all [hy_mbar, hy_sort]; done), ht⟩) (fun q h => nomatch h) dX2_barred_40
        · -- 32
          refine lv_iconst (v := 0) hx hb dX2_barred_32 (by decide) ?_
          refine lv_goto (tgt := 40) hx hb dX2_barred_33 (by decide) ?_
          exact W.iret (v := 0) hx hb hr (fun t ht hW => ⟨_, rfl, by first | rfl | (simp [hy_mbar, hy_sort, *]; done) | ((try simp only [lg_cmp_lt, lg_cmp_ge, lg_cmp_le, lg_cmp_gt, lg_cmp_eq] at *); simp only [hy_mbar, hy_sort, *, ↓reduceIte, if_false, if_true, not_false_eq_true, not_true_eq_false]; done) | (simp_all [hy_mbar, hy_sort]; done), ht⟩) (fun q h => nomatch h) dX2_barred_40
      · -- 20
        refine lv_iload hx hb dX2_barred_20 (lv_at hl 4 rfl) ?_
        exact W.iret (v := a4) hx hb hr (fun t ht hW => ⟨_, rfl, by first | rfl | (simp [hy_mbar, hy_sort, *]; done) | ((try simp only [lg_cmp_lt, lg_cmp_ge, lg_cmp_le, lg_cmp_gt, lg_cmp_eq] at *); simp only [hy_mbar, hy_sort, *, ↓reduceIte, if_false, if_true, not_false_eq_true, not_true_eq_false]; done) | (simp_all [hy_mbar, hy_sort]; done), ht⟩) (fun q h => nomatch h) dX2_barred_22
