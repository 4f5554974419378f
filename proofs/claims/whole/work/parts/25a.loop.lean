/-! THE LAW'S LOOP, ITS START. Rows written with mk25.py. -/
theorem hy_tout0_17 {x : Int32} (h0 : ¬ x = 0) (h1 : ¬ x = 1) (h2 : ¬ x = 2) (h3 : ¬ x = 3) (h4 : ¬ x = 4) (h5 : ¬ x = 5) (h6 : ¬ x = 6) (h7 : ¬ x = 7) (h8 : ¬ x = 8) (h9 : ¬ x = 9) (h10 : ¬ x = 10) (h11 : ¬ x = 11) (h12 : ¬ x = 12) (h13 : ¬ x = 13) (h14 : ¬ x = 14) (h15 : ¬ x = 15) (h16 : ¬ x = 16) (h17 : ¬ x = 17) : x.toInt < 0 ∨ 17 < x.toInt := by
  rcases hy_tout0_8 h0 h1 h2 h3 h4 h5 h6 h7 h8 with h | h
  · exact Or.inl h
  by_cases q9 : x.toInt = 9
  · exact absurd (hy_i32 9 q9) h9
  by_cases q10 : x.toInt = 10
  · exact absurd (hy_i32 10 q10) h10
  by_cases q11 : x.toInt = 11
  · exact absurd (hy_i32 11 q11) h11
  by_cases q12 : x.toInt = 12
  · exact absurd (hy_i32 12 q12) h12
  by_cases q13 : x.toInt = 13
  · exact absurd (hy_i32 13 q13) h13
  by_cases q14 : x.toInt = 14
  · exact absurd (hy_i32 14 q14) h14
  by_cases q15 : x.toInt = 15
  · exact absurd (hy_i32 15 q15) h15
  by_cases q16 : x.toInt = 16
  · exact absurd (hy_i32 16 q16) h16
  by_cases q17 : x.toInt = 17
  · exact absurd (hy_i32 17 q17) h17
  omega
theorem hy_six {L i : Nat} (hL : L ≤ 3072) (hi : 6 * i ≤ L) (h : ¬ Int32.ofNat L - 6 < nI (6 * i)) : 6 * i + 6 ≤ L := by
  refine Classical.byContradiction (fun q => h ?_)
  have h1 : (Int32.ofNat L).toInt = L := nI_toInt (by omega)
  have h2 : (nI (6 * i)).toInt = (6 * i : Nat) := nI_toInt (by omega)
  rw [Int32.lt_iff_toInt_lt, h2, Int32.toInt_sub, h1, show (6 : Int32).toInt = 6 from rfl, Int.bmod_def]
  omega
section HYLOOP
variable {p : Program} {l : Launch} {e : Env} {s : State} {m : MethodId} {below : List Frame} {meth : Method} {c : Code}
set_option maxHeartbeats 4000000 in
set_option maxRecDepth 100000 in
theorem law_loop {b L : Nat} {xs : Nat → Int32} {D : va_G} {cI cJ cB : ClassId} {o h n0 bM sM zM tM xM kM wM eM : Nat} (C : hy_LC p l s m c b L xs D cI cJ cB) (hr : meth.sig.returnType = ret) (hlocks : meth.locks = false) :
    ∀ (n i : Nat), 6 * i ≤ L → L + 1 ≤ 6 * i + n → ∀ (H : Heap) (locs : List Loc) (ls : Array Slot), hy_LI D cI cJ cB b o h n0 bM sM zM tM xM kM wM eM s i H locs ls → W p l e room_1 s m #[Value.ref b] below meth c H locs (17 + 8 * i) (8127 + 40 * i) (lw_Z below #[Value.ref b] s) (F0 m 23 ls []) := by
  obtain ⟨hx, hb, hml, hown, hts, hX, hbl, hL, hl9, hK, hE, hZ, hN⟩ := id C
  have hbA : ¬ (fun q : Nat => s.heap.size ≤ q) b := Nat.not_le.mpr hbl
  intro n
  induction n with
  | zero =>
    intro i h1 h2
    exact absurd h2 (by omega)
  | succ n ih =>
    intro i hi hin H locs ls hI
    obtain ⟨b1, k, w, z, ad, ca, f, S, th, tk, hwf, hl, hP, hD, hS⟩ := id hI
    refine lv_iload hx hb dL_law_23 (lv_at hl 0 rfl) ?_
    refine lv_aload_n hx hb dL_law_25 rfl (lv_at hl 4 rfl) ?_
    refine va_slen hx hb hX hbl hbA hS dL_law_26 ?_
    refine lv_bipush (v := 6) hx hb dL_law_27 (by decide) ?_
    refine lv_isub hx hb dL_law_29 ?_
    refine lv_icmp_gt (tgt := 1317) hx hb dL_law_30 (by decide) (fun c_30 => ?_) (fun c_30 => ?_)
    · refine lv_iconst (v := 1) hx hb dL_law_1317 (by decide) ?_
      refine va_forget (fun q hq => hS.2.2 q hq) ?_
      refine W.widen (k := 601024) (n := 7293034) (by omega) (by omega) ?_
      exact lw_ret hx hb hr hlocks dL_law_1318
    · have hi6 := hy_six hL hi c_30
      refine lv_aload_n hx hb dL_law_33 rfl (lv_at hl 4 rfl) ?_
      refine lv_iload hx hb dL_law_34 (lv_at hl 0 rfl) ?_
      refine va_sld hx hb hX hbl hbA hS (vp_in_nI (n := 6 * i) (by omega) (by omega)) dL_law_36 ?_
      refine lv_bipush (v := 31) hx hb dL_law_37 (by decide) ?_
      refine lv_iand hx hb dL_law_39 ?_
      generalize xs (nI (6 * i)).toNatClampNeg &&& 31 = x
      have hc : 17 + 8 * i + 8 ≤ 601024 := by omega
      have hs : 8127 + 40 * i + 40 ≤ 7293034 := by omega
      have kk : ∀ H locs ls, hy_LI D cI cJ cB b o h n0 bM sM zM tM xM kM wM eM s i H locs ls → W p l e room_1 s m #[Value.ref b] below meth c H locs (17 + 8 * i + 8) (8127 + 40 * i + 40) (lw_Z below #[Value.ref b] s) (F0 m 1311 ls []) := by
        intro H locs ls hI
        obtain ⟨b1, k, w, z, ad, ca, f, S, th, tk, hwf, hl, hP, hD, hS⟩ := hI
        refine lv_iinc (v := nI (6 * (i + 1))) (lv' := [(4, .int (nI (6 * (i + 1)))), (3, .ref o), (2, .ref n0), (1, .ref h), (0, .ref b)]) hx hb dL_law_1311 hl (k := 0) rfl (nI_add (6 * i) 6) (by decide) rfl (fun ls hl => ?_)
        refine lv_goto (tgt := 23) hx hb dL_law_1314 (by decide) ?_
        refine W.widen (k := 17 + 8 * (i + 1)) (n := 8127 + 40 * (i + 1)) (by omega) (by omega) ?_
        exact ih (i + 1) (by omega) (by omega) H locs ls ⟨b1, k, w, z, ad, ca, f, S, th, tk, hwf, hl, hP, hD, hS⟩
      by_cases s_0 : x = 0
      · refine lv_tableIn (tgt := 128) hx hb dL_law_40 (by rw [s_0]; decide) (by rw [s_0]; decide) (by rw [s_0]; rfl) (by decide) ?_
        exact lw_case_row C hi6 hc hs hI kk
      by_cases s_1 : x = 1
      · refine lv_tableIn (tgt := 215) hx hb dL_law_40 (by rw [s_1]; decide) (by rw [s_1]; decide) (by rw [s_1]; rfl) (by decide) ?_
        exact lw_case_lid C hi6 hc hs hI kk
      by_cases s_2 : x = 2
      · refine lv_tableIn (tgt := 278) hx hb dL_law_40 (by rw [s_2]; decide) (by rw [s_2]; decide) (by rw [s_2]; rfl) (by decide) ?_
        exact lw_case_clear C hi6 hc hs hI kk
      by_cases s_3 : x = 3
      · refine lv_tableIn (tgt := 341) hx hb dL_law_40 (by rw [s_3]; decide) (by rw [s_3]; decide) (by rw [s_3]; rfl) (by decide) ?_
        exact lw_case_share C hi6 hc hs hI kk
      by_cases s_4 : x = 4
      · refine lv_tableIn (tgt := 409) hx hb dL_law_40 (by rw [s_4]; decide) (by rw [s_4]; decide) (by rw [s_4]; rfl) (by decide) ?_
        exact lw_case_put C hi6 hc hs hI kk
      by_cases s_5 : x = 5
      · refine lv_tableIn (tgt := 520) hx hb dL_law_40 (by rw [s_5]; decide) (by rw [s_5]; decide) (by rw [s_5]; rfl) (by decide) ?_
        exact lw_case_lay C hi6 hc hs hI kk
      by_cases s_6 : x = 6
      · refine lv_tableIn (tgt := 600) hx hb dL_law_40 (by rw [s_6]; decide) (by rw [s_6]; decide) (by rw [s_6]; rfl) (by decide) ?_
        exact lw_case_lift C hi6 hc hs hI kk
      by_cases s_7 : x = 7
      · refine lv_tableIn (tgt := 668) hx hb dL_law_40 (by rw [s_7]; decide) (by rw [s_7]; decide) (by rw [s_7]; rfl) (by decide) ?_
        exact lw_case_move C hi6 hc hs hI kk
      by_cases s_8 : x = 8
      · refine lv_tableIn (tgt := 772) hx hb dL_law_40 (by rw [s_8]; decide) (by rw [s_8]; decide) (by rw [s_8]; rfl) (by decide) ?_
        exact lw_case_pour C hi6 hc hs hI kk
      by_cases s_9 : x = 9
      · refine lv_tableIn (tgt := 840) hx hb dL_law_40 (by rw [s_9]; decide) (by rw [s_9]; decide) (by rw [s_9]; rfl) (by decide) ?_
        exact lw_case_moved C hi6 hc hs hI kk
      by_cases s_10 : x = 10
      · refine lv_tableIn (tgt := 853) hx hb dL_law_40 (by rw [s_10]; decide) (by rw [s_10]; decide) (by rw [s_10]; rfl) (by decide) ?_
        exact lw_case_at C hi6 hc hs hI kk
      by_cases s_11 : x = 11
      · refine lv_tableIn (tgt := 920) hx hb dL_law_40 (by rw [s_11]; decide) (by rw [s_11]; decide) (by rw [s_11]; rfl) (by decide) ?_
        exact lw_case_holds C hi6 hc hs hI kk
      by_cases s_12 : x = 12
      · refine lv_tableIn (tgt := 976) hx hb dL_law_40 (by rw [s_12]; decide) (by rw [s_12]; decide) (by rw [s_12]; rfl) (by decide) ?_
        exact lw_case_places C hi6 hc hs hI kk
      by_cases s_13 : x = 13
      · refine lv_tableIn (tgt := 1032) hx hb dL_law_40 (by rw [s_13]; decide) (by rw [s_13]; decide) (by rw [s_13]; rfl) (by decide) ?_
        exact lw_case_same C hi6 hc hs hI kk
      by_cases s_14 : x = 14
      · refine lv_tableIn (tgt := 1107) hx hb dL_law_40 (by rw [s_14]; decide) (by rw [s_14]; decide) (by rw [s_14]; rfl) (by decide) ?_
        exact lw_case_all C hi6 hc hs hI kk
      by_cases s_15 : x = 15
      · refine lv_tableIn (tgt := 1162) hx hb dL_law_40 (by rw [s_15]; decide) (by rw [s_15]; decide) (by rw [s_15]; rfl) (by decide) ?_
        exact lw_case_feed C hi6 hc hs hI kk
      by_cases s_16 : x = 16
      · refine lv_tableIn (tgt := 1230) hx hb dL_law_40 (by rw [s_16]; decide) (by rw [s_16]; decide) (by rw [s_16]; rfl) (by decide) ?_
        exact lw_case_kind C hi6 hc hs hI kk
      by_cases s_17 : x = 17
      · refine lv_tableIn (tgt := 1286) hx hb dL_law_40 (by rw [s_17]; decide) (by rw [s_17]; decide) (by rw [s_17]; rfl) (by decide) ?_
        exact lw_case_count C hi6 hc hs hI kk
      refine lv_tableOut (tgt := 1311) hx hb dL_law_40 (hy_tout0_17 s_0 s_1 s_2 s_3 s_4 s_5 s_6 s_7 s_8 s_9 s_10 s_11 s_12 s_13 s_14 s_15 s_16 s_17) (by decide) ?_
      refine W.widen (k := 17 + 8 * i + 8) (n := 8127 + 40 * i + 40) (by omega) (by omega) ?_
      exact kk H locs ls hI
end HYLOOP
theorem hy_m1 : ∀ E ∈ hy_Es, Cond.castable E E ∈ lw_tbl := List.forall_mem_cons.mpr ⟨lw_m1 102 rfl, List.forall_mem_cons.mpr ⟨lw_m1 172 rfl, List.forall_mem_cons.mpr ⟨lw_m1 189 rfl, List.forall_mem_cons.mpr ⟨lw_m2 8 rfl, List.forall_mem_cons.mpr ⟨lw_m2 27 rfl, fun _ h => absurd h List.not_mem_nil⟩⟩⟩⟩⟩
theorem hy_m2 : ∀ Y ∈ (["java/lang/RuntimeException", "java/lang/Exception", "java/lang/Throwable"] : List String), Cond.declares ⟨Y, "<init>", "(Ljava/lang/String;)V"⟩ ∈ lw_tbl := List.forall_mem_cons.mpr ⟨lw_m1 104 rfl, List.forall_mem_cons.mpr ⟨lw_m1 106 rfl, List.forall_mem_cons.mpr ⟨lw_m1 108 rfl, fun _ h => absurd h List.not_mem_nil⟩⟩⟩
theorem hy_m3 : ∀ q ∈ hy_strs, Cond.stringRef RX1 q.1 q.2 ∈ lw_tbl := List.forall_mem_cons.mpr ⟨lw_m1 179 rfl, List.forall_mem_cons.mpr ⟨lw_m1 186 rfl, List.forall_mem_cons.mpr ⟨lw_m1 196 rfl, List.forall_mem_cons.mpr ⟨lw_m2 15 rfl, List.forall_mem_cons.mpr ⟨lw_m2 51 rfl, List.forall_mem_cons.mpr ⟨lw_m2 59 rfl, List.forall_mem_cons.mpr ⟨lw_m1 143 rfl, List.forall_mem_cons.mpr ⟨lw_m2 125 rfl, List.forall_mem_cons.mpr ⟨lw_m2 58 rfl, List.forall_mem_cons.mpr ⟨lw_m2 34 rfl, List.forall_mem_cons.mpr ⟨lw_m2 172 rfl, fun _ h => absurd h List.not_mem_nil⟩⟩⟩⟩⟩⟩⟩⟩⟩⟩⟩
theorem hy_E_of {args : Array Value} {s : State} {c1 : ClassId} (hts : ∀ w ∈ lw_tbl, w.before args s = true) (h1 : s.vm.findClass RX1 = some c1) : hy_E s :=
  ⟨fun E hE => va_Nw.of rfl (hts _ (hy_m1 E hE)), fun Y hY => va_Nw.of rfl (hts _ (hy_m2 Y hY)), fun q hq => by
    have h := hts (.stringRef RX1 q.1 q.2) (hy_m3 q hq)
    obtain ⟨_, _, _, a, _, _, _, _, _, hev⟩ := Cond.stringRef_spec h1 h
    exact ⟨a, vk_R.of h hev⟩⟩
theorem hy_n1 : ∀ E ∈ hy_Es, ∀ F ∈ hy_Es, E ≠ F → Cond.not (.castable E F) ∈ flatC (Jvm.Cond.and given_1 narrow_1) := by decide +kernel
theorem hy_z1 : Cond.isRef (.static Bundle.tN "UNASSIGNED_STACK" Bundle.steD) ∈ flatC (Jvm.Cond.and given_1 narrow_1) := by decide +kernel
theorem hy_z2 : Cond.isRef (.static Bundle.tN "SUPPRESSED_SENTINEL" Bundle.listD) ∈ flatC (Jvm.Cond.and given_1 narrow_1) := by decide +kernel
theorem hy_t0 : Cond.initialized Bundle.tN ∈ lw_tbl := by decide +kernel
theorem hy_N_of {args : Array Value} {s : State} (h : (Jvm.Cond.and given_1 narrow_1).before args s = true) : hy_N s := fun E hE F hF q => va_Nc.of (flat_of_before _ h _ (hy_n1 E hE F hF q))
theorem hy_Z_of {args : Array Value} {s : State} (hts : ∀ w ∈ lw_tbl, w.before args s = true) (h : (Jvm.Cond.and given_1 narrow_1).before args s = true) : hy_Z (fun q => s.heap.size ≤ q) s s.heap :=
  ⟨vx_Zqof (hts _ (lw_m1 127 rfl)) (hts _ hy_t0) (flat_of_before _ h _ hy_z1) (fun a h => Nat.not_le.mpr h), vx_Zqof (hts _ (lw_m1 129 rfl)) (hts _ hy_t0) (flat_of_before _ h _ hy_z2) (fun a h => Nat.not_le.mpr h)⟩
set_option maxHeartbeats 4000000 in
set_option maxRecDepth 100000 in
/-- the law, from its entry -/
theorem whole_start {p : Program} {e : Env} {s : State} {m : MethodId} {below : List Frame} {meth : Method} {c : Code} (l : Launch) (hl9 : l.stackTraces = false) {b L : Nat} {xs : Nat → Int32} (hL : L ≤ 3072) (C0 : lw_At p s m meth c b L xs) : W p l e room_1 s m #[Value.ref b] below meth c s.heap [] 0 0 (lw_Z below #[Value.ref b] s) (entryFrame m ([Value.ref b] : List Value).toArray 8) := by
  obtain ⟨hx, hb, hr, hml, hown, hts0, hX, hbl, hlocks, hgv⟩ := C0
  have hts : ∀ w ∈ wsL_law, w.before #[Value.ref b] s = true := fun w hw => hts0 w (wsL_law_in w hw)
  have hA : ∀ q : Nat, s.heap.size ≤ q → (fun q : Nat => s.heap.size ≤ q) q := fun _ h => h
  have hiR0 : (Cond.instantiable RX0 2).before #[Value.ref b] s = true := hts0 _ (by decide +kernel)
  have hiR1 : (Cond.instantiable RX1 10).before #[Value.ref b] s = true := hts0 _ (by decide +kernel)
  have hiR2 : (Cond.instantiable RX2 14).before #[Value.ref b] s = true := hts0 _ (by decide +kernel)
  obtain ⟨c0, iS0, hKn0⟩ := u_known (C := RX0) (T := TX0) (N := 2) (n := 2) hts inlX0 hiR0
  obtain ⟨c1, iS1, hKn1⟩ := u_known (C := RX1) (T := TX1) (N := 10) (n := 10) hts inlX1 hiR1
  obtain ⟨c2, iS2, hKn2⟩ := u_known (C := RX2) (T := TX2) (N := 14) (n := 14) hts inlX2 hiR2
  obtain ⟨D, hKc⟩ : ∃ D : va_G, ∀ (k : Nat) (q : vw_C), vwCl[k]? = some q → u_Kn s q.1 q.2.1 q.2.2 (D.1 k) (D.2 k) := by
    refine ⟨(fun k => if k = 0 then c0 else if k = 1 then c1 else c2, fun k => if k = 0 then iS0 else if k = 1 then iS1 else iS2), ?_⟩
    intro k q hq
    match k, hq with
    | 0, hq => cases hq; exact hKn0
    | 1, hq => cases hq; exact hKn1
    | 2, hq => cases hq; exact hKn2
    | k + 3, hq => simp [vwCl] at hq
  obtain ⟨cR1, kR1, hfR1, -⟩ := Cond.instantiable_spec hiR1
  have hE : hy_E s := hy_E_of hts0 hfR1
  have hN : hy_N s := hy_N_of hgv
  have hZ : hy_Z (fun q => s.heap.size ≤ q) s s.heap := hy_Z_of hts0 hgv
  have hAO : va_AO RX0 s := va_AO.of (hts0 _ (lw_m1 23 rfl))
  have hS : va_S (fun q : Nat => s.heap.size ≤ q) s.heap s.heap [] := va_S.rf
  have hK0 : va_K D vwCl [] s := ⟨hKc, fun k q h => by simp at h⟩
  have hP : va_P D vwCl [] s.heap := fun k q h => by simp at h
  have hD : va_D (fun q : Nat => s.heap.size ≤ q) [] := ⟨fun i j p q h => by simp at h, fun k q h => by simp at h⟩
  have hl := lv_entry ([.ref b]) (n := 8) (Nat.le_of_ble_eq_true rfl)
  rw [lg_entry_eq]
  generalize (lg_sl ([.ref b]) ++ List.replicate (8 - (lg_sl ([.ref b])).length) Slot.unset).toArray = ls at hl ⊢
  have hl : lv_has ls 8 [(0, .ref b)] := hl
  refine va_new (ci := 1) (fs := [.null, .null, .null, .null, .null, .int 0, .int 0, .int 0, .int 0, .int 0]) (C := RX1) (T := TX1) (N := 10) hx hb hts inlX1 tyX1 tyX1_ok hown (hts0 (.classLink RL 8 RX1) (by decide +kernel)) hiR1 (hts0 (.initialized RX1) (by decide +kernel)) hK0 hP hD hS hA rfl (fun j hj => by rcases (show j = 0 ∨ j = 1 ∨ j = 2 ∨ j = 3 ∨ j = 4 ∨ j = 5 ∨ j = 6 ∨ j = 7 ∨ j = 8 ∨ j = 9 by omega) with rfl | rfl | rfl | rfl | rfl | rfl | rfl | rfl | rfl | rfl <;> rfl) (Nat.le_of_ble_eq_true rfl) (Nat.le_of_ble_eq_true rfl) dL_law_0 (fun h H hP hD hS => ?_)
  have hP : va_P D vwCl [(h, .inr (1, [.null, .null, .null, .null, .null, .int 0, .int 0, .int 0, .int 0, .int 0]))] H := hP
  have hD : va_D (fun q : Nat => s.heap.size ≤ q) [(h, .inr (1, [.null, .null, .null, .null, .null, .int 0, .int 0, .int 0, .int 0, .int 0]))] := hD
  refine W.widen (k := 1) (n := 10) (Nat.le_of_ble_eq_true rfl) (Nat.le_of_ble_eq_true rfl) ?_
  refine lv_dup hx hb dL_law_3 rfl ?_
  have hF := hy_free hD hS hA
  refine va_callv (va_runI (As := []) (rest := [.ref h]) ⟨hx, hb, hml, hown, hts⟩ (c_X1_init l D h H.size) (cwI 0 hts gL_law_X1_init rfl rfl rfl (hts0 (.initialized RX1) (by decide +kernel)) (hts0 (.methodLink RL 77 yX1_init) (by decide +kernel)) (hts0 (.instanceMethod yX1_init) (by decide +kernel)) rfl (by decide +kernel) ⟨Nat.le_of_ble_eq_true rfl, Nat.le_of_ble_eq_true rfl⟩) ⟨fun a U g mk q => by obtain ⟨q0, q1, qP, qK, qO, qD⟩ := q; exact ⟨q0, q1, qP, va_K.moved (u := U) (U := U.calling g mk a) (Vm.Alike.refl U.vm) qK, va_AO.moved (u := U) (U := U.calling g mk a) (Vm.Alike.refl U.vm) qO, qD⟩, fun U hU hW => ⟨rfl, by rw [hU], by rw [hU]; exact hP, va_K.moved hW.alike hK0, va_AO.moved hW.alike hAO, hD.weaken (fun _ _ _ _ => trivial)⟩⟩ rfl rfl hl.1 rfl (lv_room (Nat.le_of_ble_eq_true rfl)) dL_law_4 ⟨Nat.le_of_ble_eq_true rfl, Nat.le_of_ble_eq_true rfl⟩) hS (fun q _ h => hF q h) hF (fun u t H1 locs ht hvm hw hB hz1 hk1 hS => ?_)
  obtain ⟨cI, cJ, cB, b1, k1, w1, z1, ad1, ca1, hP1, hK1, hD1⟩ := hB
  rw [ht] at hP1
  have hK : va_K D vwCl (hy_T cI cJ cB) s := va_K.moved hvm.symm hK1
  have hD1 : va_D (fun q : Nat => s.heap.size ≤ q) (hy_W cI cJ cB h b1 k1 w1 z1 ad1 ca1 hy_S0) := hD1.weaken (fun _ q _ h9 => hF q.1 h9)
  clear hP hD hF
  refine W.widen (k := 7) (n := 150) (Nat.le_of_ble_eq_true rfl) (Nat.le_of_ble_eq_true rfl) ?_
  refine lv_astore_n (lv' := [(1, .ref h), (0, .ref b)]) hx hb dL_law_7 rfl hl (by decide) rfl (fun ls hl => ?_)
  refine va_new (ci := 2) (fs := [.int 0, .null, .int 0, .null, .null, .null, .null, .int 0, .null, .null, .int 0, .int 0, .int 0, .null]) (C := RX2) (T := TX2) (N := 14) hx hb hts inlX2 tyX2 tyX2_ok hown (hts0 (.classLink RL 78 RX2) (by decide +kernel)) hiR2 (hts0 (.initialized RX2) (by decide +kernel)) hK hP1 hD1 hS hA rfl (fun j hj => by rcases (show j = 0 ∨ j = 1 ∨ j = 2 ∨ j = 3 ∨ j = 4 ∨ j = 5 ∨ j = 6 ∨ j = 7 ∨ j = 8 ∨ j = 9 ∨ j = 10 ∨ j = 11 ∨ j = 12 ∨ j = 13 by omega) with rfl | rfl | rfl | rfl | rfl | rfl | rfl | rfl | rfl | rfl | rfl | rfl | rfl | rfl <;> rfl) (Nat.le_of_ble_eq_true rfl) (Nat.le_of_ble_eq_true rfl) dL_law_8 (fun n0 H hP hD hS => ?_)
  refine W.widen (k := 8) (n := 164) (Nat.le_of_ble_eq_true rfl) (Nat.le_of_ble_eq_true rfl) ?_
  refine lv_dup hx hb dL_law_11 rfl ?_
  have hw2 := hy_swap hP hD
  have hPl : va_P D vwCl [(n0, .inr (2, [.int 0, .null, .int 0, .null, .null, .null, .null, .int 0, .null, .null, .int 0, .int 0, .int 0, .null]))] H := (hy_left hw2.1 hw2.2).1
  have hDl : va_D (fun q : Nat => s.heap.size ≤ q) [(n0, .inr (2, [.int 0, .null, .int 0, .null, .null, .null, .null, .int 0, .null, .null, .int 0, .int 0, .int 0, .null]))] := (hy_left hw2.1 hw2.2).2
  have hF := hy_free hDl hS hA
  refine va_callv (va_runI (As := []) (rest := [.ref n0]) ⟨hx, hb, hml, hown, hts⟩ (c_X2_init l D cI cJ cB n0 H.size) (cwI 0 hts gL_law_X2_init rfl rfl rfl (hts0 (.initialized RX2) (by decide +kernel)) (hts0 (.methodLink RL 80 yX2_init) (by decide +kernel)) (hts0 (.instanceMethod yX2_init) (by decide +kernel)) rfl (by decide +kernel) ⟨Nat.le_of_ble_eq_true rfl, Nat.le_of_ble_eq_true rfl⟩) ⟨fun a U g mk q => by obtain ⟨q0, q1, qP, qK, qD⟩ := q; exact ⟨q0, q1, qP, va_K.moved (u := U) (U := U.calling g mk a) (Vm.Alike.refl U.vm) qK, qD⟩, fun U hU hW => ⟨rfl, by rw [hU], by rw [hU]; exact hPl, va_K.moved hW.alike hK, hDl.weaken (fun _ _ _ _ => trivial)⟩⟩ rfl rfl hl.1 rfl (lv_room (Nat.le_of_ble_eq_true rfl)) dL_law_12 ⟨Nat.le_of_ble_eq_true rfl, Nat.le_of_ble_eq_true rfl⟩) hS (fun q _ h => hF q h) hF (fun u t H1 locs ht hvm hw hB hz1 hk1 hS => ?_)
  obtain ⟨bM, sM, zM, tM, xM, kM, wM, eM, tk, hP1, hK1, hD1⟩ := hB
  rw [ht] at hP1
  have hj := hy_joinL (X := [(n0, .inr (2, [.int 0, .null, .int 0, .null, .null, .null, .null, .int 0, .null, .null, .int 0, .int 0, .int 0, .null]))]) hw2.1 hw2.2 hk1 hF hP1 hD1
  refine W.widen (k := 16) (n := 8126) (Nat.le_of_ble_eq_true rfl) (Nat.le_of_ble_eq_true rfl) ?_
  refine lv_astore_n (lv' := [(2, .ref n0), (1, .ref h), (0, .ref b)]) hx hb dL_law_15 rfl hl (by decide) rfl (fun ls hl => ?_)
  refine lv_iconst (v := 1) hx hb dL_law_16 (by decide) ?_
  refine va_newa (atype := .long) (ty := .long) (a0 := (1, .inr (.inl (fun _ => 0)))) (N' := 1) hx hb (hts0 (.arrayClass .long) (by decide +kernel)) rfl hK hj.1 hj.2 hS hA (fun _ => rfl) (by decide) (by decide) (by decide) (Nat.le_of_ble_eq_true rfl) (Nat.le_of_ble_eq_true rfl) dL_law_17 (fun o c9 H hK2 hP hD hS => ?_)
  obtain rfl : cJ = c9 := (hy_sameT (t0 := 1) hK2 rfl).symm
  refine W.widen (k := 17) (n := 8127) (Nat.le_of_ble_eq_true rfl) (Nat.le_of_ble_eq_true rfl) ?_
  have hw3 := hy_swap hP hD
  have hp3 : ([hy_O cJ o (fun _ => 0)] ++ (hy_M cI cJ n0 bM sM zM tM xM kM wM eM hy_S0 0 tk ++ hy_W cI cJ cB h b1 k1 w1 z1 ad1 ca1 hy_S0) : va_W).Perm ((hy_O cJ o (fun _ => 0) :: hy_W cI cJ cB h b1 k1 w1 z1 ad1 ca1 hy_S0) ++ hy_M cI cJ n0 bM sM zM tM xM kM wM eM hy_S0 0 tk) := List.Perm.cons _ (List.perm_append_comm (l₁ := hy_M cI cJ n0 bM sM zM tM xM kM wM eM hy_S0 0 tk) (l₂ := hy_W cI cJ cB h b1 k1 w1 z1 ad1 ca1 hy_S0))
  have hP := hy_P_perm hp3 hw3.1
  have hD := hy_D_perm hp3 hw3.2
  refine lv_astore_n (lv' := [(3, .ref o), (2, .ref n0), (1, .ref h), (0, .ref b)]) hx hb dL_law_19 rfl hl (by decide) rfl (fun ls hl => ?_)
  refine lv_iconst (v := 0) hx hb dL_law_20 (by decide) ?_
  refine lv_istore (lv' := [(4, .int 0), (3, .ref o), (2, .ref n0), (1, .ref h), (0, .ref b)]) hx hb dL_law_21 hl (by decide) rfl (fun ls hl => ?_)
  exact law_loop (l := l) (e := e) (below := below) (meth := meth) ⟨hx, hb, hml, hown, hts, hX, hbl, hL, hl9, hK, hE, hZ, hN⟩ hr hlocks (L + 1) 0 (Nat.zero_le L) (by omega) H locs ls ⟨b1, k1, w1, z1, ad1, ca1, fun _ => 0, hy_S0, 0, tk, hy_wf_S0, hl, hP, hD, hS⟩
