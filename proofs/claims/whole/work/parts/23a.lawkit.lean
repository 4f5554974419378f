/-! THE LAW'S LOOP: what stands around it, and rows for what every case does. -/
def hy_LC (p : Program) (l : Launch) (s : State) (m : MethodId) (c : Code) (b L : Nat) (xs : Nat → Int32) (D : va_G) (cI cJ cB : ClassId) : Prop :=
  p.tables.exec = Jvm.exec ∧ c.code = code ∧ c.maxLocals = 8 ∧ s.vm.findClass RL = some m.cls ∧ (∀ w ∈ wsL_law, w.before #[Value.ref b] s = true) ∧ va_X b L xs s s.heap ∧ b < s.heap.size ∧ L ≤ 3072 ∧ l.stackTraces = false ∧ va_K D vwCl (hy_T cI cJ cB) s ∧ hy_E s ∧ hy_Z (fun q => s.heap.size ≤ q) s s.heap ∧ hy_N s
theorem hy_wf_if {K : Int32} {S2 S : hy_S} (h : hy_wf S) (h2 : K = 0 → hy_wf S2) : hy_wf (hy_if K S2 S) := by
  unfold hy_if
  split
  · exact h2 ‹_›
  · exact h
theorem hy_cmp0 {x y : Int64} (h : x = y) : lg_cmp x y = 0 := by
  subst h
  unfold lg_cmp
  rw [if_neg (Int64.lt_irrefl), if_pos rfl]
section HYLAW
variable {p : Program} {l : Launch} {e : Env} {s : State} {m : MethodId} {below : List Frame} {meth : Method} {c : Code} {Q : State → Prop} {cells slots pc : Nat} {H : Heap} {locs : List Loc} {ls : Array Slot} {rest : List Value}
variable {b L : Nat} {xs : Nat → Int32} {D : va_G} {cI cJ cB : ClassId}
/-- script[i + k] -/
theorem lw_rd (C : hy_LC p l s m c b L xs D cI cJ cB) {k i : Nat} {n : Int} (hS : va_S (fun q => s.heap.size ≤ q) s.heap H locs) (h0 : ls[0]? = some (.val (.ref b))) (h4 : ls[4]? = some (.val (.int (nI (6 * i))))) (hk : 6 * i + k < L) (hn : Int32.ofInt n = nI k)
    (d0 : decode code pc = .ok (.aload_n 0, 1)) (d1 : decode code (pc + 1) = .ok (.iload 4, 2)) (d3 : decode code (pc + 3) = .ok (.iconst n, 1)) (d4 : decode code (pc + 4) = .ok (.iadd, 1)) (d5 : decode code (pc + 5) = .ok (.iaload, 1))
    (kk : W p l e room_1 s m #[Value.ref b] below meth c H locs cells slots Q (F0 m (pc + 6) ls (.int (xs (6 * i + k)) :: rest))) : W p l e room_1 s m #[Value.ref b] below meth c H locs cells slots Q (F0 m pc ls rest) := by
  obtain ⟨hx, hb, hml, hown, hts, hX, hbl, hL, -⟩ := C
  refine lv_aload_n hx hb d0 rfl h0 ?_
  refine lv_iload hx hb d1 h4 ?_
  refine lv_iconst (v := nI k) hx hb d3 hn ?_
  refine lv_iadd hx hb d4 ?_
  rw [nI_add]
  refine va_sld hx hb hX hbl (Nat.not_le.mpr hbl) hS (vp_in_nI hk (by omega)) d5 ?_
  rw [nI_clamp (by omega)]
  exact kk
/-- a wrapper's call -/
theorem lw_wc (C : hy_LC p l s m c b L xs D cI cJ cB) {h o b1 k w z : Nat} {ad ca : Nat → Nat} {f : Nat → Int64} {S S2 : hy_S} {Y : va_W} {K : Int32} {V : Int64} {y : MethodName} {ws : List Cond} {rm : Room} {bytes : ByteArray} {maxL mc ms n index : Nat} {ret : Option FieldType} {hh : List (Nat × Nat × Nat × Nat)} {As : List Value}
    (hP : va_P D vwCl ((hy_O cJ o f :: hy_W cI cJ cB h b1 k w z ad ca S) ++ Y) H) (hD : va_D (fun q => s.heap.size ≤ q) ((hy_O cJ o f :: hy_W cI cJ cB h b1 k w z ad ca S) ++ Y)) (hS : va_S (fun q => s.heap.size ≤ q) s.heap H locs)
    (hM : ∀ sz, Met l y ws rm (va_Pc As (hy_IW D cI cJ cB h b1 k w z ad ca S o f sz)) (va_Qi (fun (r : Int32) (_ : Unit) => r = K) (fun _ => hy_AtO D cI cJ cB h o V S2 S K (va_A (hy_O cJ o f :: hy_W cI cJ cB h b1 k w z ad ca S) sz)) (va_A (hy_O cJ o f :: hy_W cI cJ cB h b1 k w z ad ca S) sz)) mc ms (va_A (hy_O cJ o f :: hy_W cI cJ cB h b1 k w z ad ca S) sz))
    (cw : vx_CSW room_1 s #[Value.ref b] RL index y bytes maxL ret hh ws rm mc ms n) (hn : As.length = n) (hsize : ls.size = 8) (hdg : decode code pc = .ok (.invokestatic index, 3)) (hf : cells + mc ≤ 601024 ∧ slots + ms ≤ 7293034)
    (kk : ∀ (b1 k w z : Nat) (ad ca : Nat → Nat) (f : Nat → Int64) (H : Heap) (locs : List Loc), (K = 0 → f 0 = V) → va_P D vwCl ((hy_O cJ o f :: hy_W cI cJ cB h b1 k w z ad ca (hy_if K S2 S)) ++ Y) H → va_D (fun q => s.heap.size ≤ q) ((hy_O cJ o f :: hy_W cI cJ cB h b1 k w z ad ca (hy_if K S2 S)) ++ Y) → va_S (fun q => s.heap.size ≤ q) s.heap H locs → W p l e room_1 s m #[Value.ref b] below meth c H locs (cells + mc) (slots + ms) Q (F0 m (pc + 3) ls [.int K])) :
    W p l e room_1 s m #[Value.ref b] below meth c H locs cells slots Q (F0 m pc ls (As.reverse ++ [])) := by
  obtain ⟨hx, hb, hml, hown, hts, hX, hbl, hL, hl9, hK, hE, hZ, hN⟩ := C
  have hA : ∀ q : Nat, s.heap.size ≤ q → (fun q : Nat => s.heap.size ≤ q) q := fun _ h => h
  have hPl := (hy_left hP hD).1
  have hDl := (hy_left hP hD).2
  have hF := hy_free hDl hS hA
  refine va_calli (vx_runSW (As := As) (rest := []) ⟨hx, hb, hml, hown, hts⟩ (hM H.size) cw ⟨hy_IW_blind, fun U hU hW => ⟨rfl, by rw [hU], by rw [hU]; exact hPl, va_K.moved hW.alike hK, hDl.weaken (fun _ _ _ _ => trivial), hE.warm hW, hZ.at hS hA hU hW, hN.warm hW⟩⟩ rfl hn hsize rfl (lv_room (by decide)) hdg hf) hS (fun q _ h => hF q h) hF (fun r u t H1 locs1 ht hvm hr hB hz hk1 hS1 => ?_)
  obtain ⟨b2, k2, w2, z2, ad2, ca2, f2, S', e0, en, hP1, hK1, hD1⟩ := hB
  rw [ht] at hP1
  have hj := hy_joinL hP hD hk1 hF hP1 hD1
  have eS : S' = hy_if K S2 S := by
    unfold hy_if
    split
    · exact (e0 ‹_›).2
    · exact en ‹_›
  subst eS
  have hr : r = K := hr
  subst hr
  exact kk b2 k2 w2 z2 ad2 ca2 f2 H1 locs1 (fun q => (e0 q).1) hj.1 hj.2 hS1
/-- a call of the reference that answers an int -/
theorem lw_mci (C : hy_LC p l s m c b L xs D cI cJ cB) {n0 bM sM zM tM xM kM wM eM : Nat} {S S2 : hy_S} {th : Int32} {tk : Nat → Int64} {X : va_W} {K V : Int32} {y : MethodName} {ws : List Cond} {rm : Room} {bytes : ByteArray} {maxL n index : Nat} {ret : Option FieldType} {As : List Value}
    (hP : va_P D vwCl (X ++ hy_M cI cJ n0 bM sM zM tM xM kM wM eM S th tk) H) (hD : va_D (fun q => s.heap.size ≤ q) (X ++ hy_M cI cJ n0 bM sM zM tM xM kM wM eM S th tk)) (hS : va_S (fun q => s.heap.size ≤ q) s.heap H locs)
    (hM : ∀ sz, Met l y ws rm (va_Pc (.ref n0 :: As) (hy_JM D cI cJ cB n0 bM sM zM tM xM kM wM eM S th tk sz)) (va_Qi (fun (r9 : Int32) (_ : Unit) => (K = 0 → r9 = V)) (fun _ => hy_AtM D cI cJ cB n0 bM sM zM tM xM kM wM eM (hy_if K S2 S) K (va_A (hy_M cI cJ n0 bM sM zM tM xM kM wM eM S th tk) sz)) (va_A (hy_M cI cJ n0 bM sM zM tM xM kM wM eM S th tk) sz)) 0 0 (va_A (hy_M cI cJ n0 bM sM zM tM xM kM wM eM S th tk) sz))
    (cw : CallW room_1 s #[Value.ref b] RL RX2 index y bytes maxL ret ws rm 0 0 n) (hn : As.length = n) (hsize : ls.size = 8) (hrest : (rest.map fun v => v.category).sum ≤ 8) (hdg : decode code pc = .ok (.invokevirtual index, 3)) (hf : cells + 0 ≤ 601024 ∧ slots + 0 ≤ 7293034)
    (kk : ∀ (r : Int32) (tk : Nat → Int64) (H : Heap) (locs : List Loc), (K = 0 → r = V) → va_P D vwCl (X ++ hy_M cI cJ n0 bM sM zM tM xM kM wM eM (hy_if K S2 S) K tk) H → va_D (fun q => s.heap.size ≤ q) (X ++ hy_M cI cJ n0 bM sM zM tM xM kM wM eM (hy_if K S2 S) K tk) → va_S (fun q => s.heap.size ≤ q) s.heap H locs → W p l e room_1 s m #[Value.ref b] below meth c H locs (cells + 0) (slots + 0) Q (F0 m (pc + 3) ls (.int r :: rest))) :
    W p l e room_1 s m #[Value.ref b] below meth c H locs cells slots Q (F0 m pc ls (As.reverse ++ .ref n0 :: rest)) := by
  obtain ⟨hx, hb, hml, hown, hts, hX, hbl, hL, hl9, hK, hE, hZ, hN⟩ := C
  have hA : ∀ q : Nat, s.heap.size ≤ q → (fun q : Nat => s.heap.size ≤ q) q := fun _ h => h
  have hw := hy_swap hP hD
  have hPl := (hy_left hw.1 hw.2).1
  have hDl := (hy_left hw.1 hw.2).2
  have hF := hy_free hDl hS hA
  refine va_calli (va_runV (As := As) (rest := rest) ⟨hx, hb, hml, hown, hts⟩ (hM H.size) cw ⟨hy_JM_blind, va_recv hK hPl (ci := 2) (q0 := 0) rfl rfl, fun U hU hW => ⟨rfl, by rw [hU], hy_J_at hU hW hPl hK, hDl.weaken (fun _ _ _ _ => trivial)⟩⟩ rfl hn hsize rfl (lv_room hrest) hdg hf) hS (fun q _ h => hF q h) hF (fun r u t H1 locs1 ht hvm hr hB hz hk1 hS1 => ?_)
  obtain ⟨tk2, hP1, hK1, hD1⟩ := hB
  rw [ht] at hP1
  have hj := hy_joinL hw.1 hw.2 hk1 hF hP1 hD1
  have hj2 := hy_swap hj.1 hj.2
  exact kk r tk2 H1 locs1 hr hj2.1 hj2.2 hS1
/-- one that answers a long -/
theorem lw_mcl (C : hy_LC p l s m c b L xs D cI cJ cB) {n0 bM sM zM tM xM kM wM eM : Nat} {S S2 : hy_S} {th : Int32} {tk : Nat → Int64} {X : va_W} {K : Int32} {V : Int64} {y : MethodName} {ws : List Cond} {rm : Room} {bytes : ByteArray} {maxL n index : Nat} {ret : Option FieldType} {As : List Value}
    (hP : va_P D vwCl (X ++ hy_M cI cJ n0 bM sM zM tM xM kM wM eM S th tk) H) (hD : va_D (fun q => s.heap.size ≤ q) (X ++ hy_M cI cJ n0 bM sM zM tM xM kM wM eM S th tk)) (hS : va_S (fun q => s.heap.size ≤ q) s.heap H locs)
    (hM : ∀ sz, Met l y ws rm (va_Pc (.ref n0 :: As) (hy_JM D cI cJ cB n0 bM sM zM tM xM kM wM eM S th tk sz)) (va_Ql (fun (r9 : Int64) (_ : Unit) => (K = 0 → r9 = V)) (fun _ => hy_AtM D cI cJ cB n0 bM sM zM tM xM kM wM eM (hy_if K S2 S) K (va_A (hy_M cI cJ n0 bM sM zM tM xM kM wM eM S th tk) sz)) (va_A (hy_M cI cJ n0 bM sM zM tM xM kM wM eM S th tk) sz)) 0 0 (va_A (hy_M cI cJ n0 bM sM zM tM xM kM wM eM S th tk) sz))
    (cw : CallW room_1 s #[Value.ref b] RL RX2 index y bytes maxL ret ws rm 0 0 n) (hn : As.length = n) (hsize : ls.size = 8) (hrest : (rest.map fun v => v.category).sum ≤ 8) (hdg : decode code pc = .ok (.invokevirtual index, 3)) (hf : cells + 0 ≤ 601024 ∧ slots + 0 ≤ 7293034)
    (kk : ∀ (r : Int64) (tk : Nat → Int64) (H : Heap) (locs : List Loc), (K = 0 → r = V) → va_P D vwCl (X ++ hy_M cI cJ n0 bM sM zM tM xM kM wM eM (hy_if K S2 S) K tk) H → va_D (fun q => s.heap.size ≤ q) (X ++ hy_M cI cJ n0 bM sM zM tM xM kM wM eM (hy_if K S2 S) K tk) → va_S (fun q => s.heap.size ≤ q) s.heap H locs → W p l e room_1 s m #[Value.ref b] below meth c H locs (cells + 0) (slots + 0) Q (F0 m (pc + 3) ls (.long r :: rest))) :
    W p l e room_1 s m #[Value.ref b] below meth c H locs cells slots Q (F0 m pc ls (As.reverse ++ .ref n0 :: rest)) := by
  obtain ⟨hx, hb, hml, hown, hts, hX, hbl, hL, hl9, hK, hE, hZ, hN⟩ := C
  have hA : ∀ q : Nat, s.heap.size ≤ q → (fun q : Nat => s.heap.size ≤ q) q := fun _ h => h
  have hw := hy_swap hP hD
  have hPl := (hy_left hw.1 hw.2).1
  have hDl := (hy_left hw.1 hw.2).2
  have hF := hy_free hDl hS hA
  refine va_calll (va_runV (As := As) (rest := rest) ⟨hx, hb, hml, hown, hts⟩ (hM H.size) cw ⟨hy_JM_blind, va_recv hK hPl (ci := 2) (q0 := 0) rfl rfl, fun U hU hW => ⟨rfl, by rw [hU], hy_J_at hU hW hPl hK, hDl.weaken (fun _ _ _ _ => trivial)⟩⟩ rfl hn hsize rfl (lv_room hrest) hdg hf) hS (fun q _ h => hF q h) hF (fun r u t H1 locs1 ht hvm hr hB hz hk1 hS1 => ?_)
  obtain ⟨tk2, hP1, hK1, hD1⟩ := hB
  rw [ht] at hP1
  have hj := hy_joinL hw.1 hw.2 hk1 hF hP1 hD1
  have hj2 := hy_swap hj.1 hj.2
  exact kk r tk2 H1 locs1 hr hj2.1 hj2.2 hS1
/-- thrown() of the reference -/
theorem lw_th (C : hy_LC p l s m c b L xs D cI cJ cB) {n0 bM sM zM tM xM kM wM eM : Nat} {S : hy_S} {th : Int32} {tk : Nat → Int64} {X : va_W} (hP : va_P D vwCl (X ++ hy_M cI cJ n0 bM sM zM tM xM kM wM eM S th tk) H) (hD : va_D (fun q => s.heap.size ≤ q) (X ++ hy_M cI cJ n0 bM sM zM tM xM kM wM eM S th tk))
    (hsize : ls.size = 8) (hdg : decode code pc = .ok (.invokevirtual 87, 3)) (hf : cells + 0 ≤ 601024 ∧ slots + 0 ≤ 7293034) (kk : W p l e room_1 s m #[Value.ref b] below meth c H locs cells slots Q (F0 m (pc + 3) ls [.int th])) : W p l e room_1 s m #[Value.ref b] below meth c H locs cells slots Q (F0 m pc ls [.ref n0]) := by
  obtain ⟨hx, hb, hml, hown, hts, hX, hbl, hL, hl9, hK, hE, hZ, hN⟩ := C
  have hw := hy_swap hP hD
  have hPl := (hy_left hw.1 hw.2).1
  refine vp_callSi (W.runV (As := []) (rest := []) ⟨hx, hb, hml, hown, hts⟩ (c_X2_thrown l D cI cJ cB n0 bM sM zM tM xM kM wM eM S th tk) (cwV 0 hts gL_law_X2_thrown rfl rfl rfl (by decide +kernel) ⟨Nat.le_of_ble_eq_true rfl, Nat.le_of_ble_eq_true rfl⟩) ⟨hy_J_blind, va_recv hK hPl (ci := 2) (q0 := 0) rfl rfl, fun U hU hW => ⟨rfl, hy_J_at hU hW hPl hK⟩⟩ rfl rfl hsize rfl (lv_room (by decide)) hdg hf) (fun v9 e9 => ?_)
  subst e9
  exact kk
end HYLAW
/-- what holds at the loop's head: at script[6 * i], class and reference hold one state -/
def hy_LI (D : va_G) (cI cJ cB : ClassId) (b o h n0 bM sM zM tM xM kM wM eM : Nat) (s : State) (i : Nat) (H : Heap) (locs : List Loc) (ls : Array Slot) : Prop :=
  ∃ (b1 k w z : Nat) (ad ca : Nat → Nat) (f : Nat → Int64) (S : hy_S) (th : Int32) (tk : Nat → Int64), hy_wf S ∧ lv_has ls 8 [(4, .int (nI (6 * i))), (3, .ref o), (2, .ref n0), (1, .ref h), (0, .ref b)] ∧ va_P D vwCl ((hy_O cJ o f :: hy_W cI cJ cB h b1 k w z ad ca S) ++ hy_M cI cJ n0 bM sM zM tM xM kM wM eM S th tk) H ∧ va_D (fun q => s.heap.size ≤ q) ((hy_O cJ o f :: hy_W cI cJ cB h b1 k w z ad ca S) ++ hy_M cI cJ n0 bM sM zM tM xM kM wM eM S th tk) ∧ va_S (fun q => s.heap.size ≤ q) s.heap H locs
