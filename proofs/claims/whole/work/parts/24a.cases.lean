/-! THE LAW'S CASES. Rows laid by mlaw.py. -/
set_option maxHeartbeats 4000000 in
set_option maxRecDepth 100000 in
theorem lw_case_row {p : Program} {l : Launch} {e : Env} {s : State} {m : MethodId} {below : List Frame} {meth : Method} {c : Code} {Q : State → Prop} {b L : Nat} {xs : Nat → Int32} {D : va_G} {cI cJ cB : ClassId} {o h n0 bM sM zM tM xM kM wM eM : Nat} (C : hy_LC p l s m c b L xs D cI cJ cB) {i cells slots : Nat} (hi : 6 * i + 6 ≤ L) (hc : cells + 8 ≤ 601024) (hs : slots + 40 ≤ 7293034) {H : Heap} {locs : List Loc} {ls : Array Slot} (hI : hy_LI D cI cJ cB b o h n0 bM sM zM tM xM kM wM eM s i H locs ls)
    (kk : ∀ H locs ls, hy_LI D cI cJ cB b o h n0 bM sM zM tM xM kM wM eM s i H locs ls → W p l e room_1 s m #[Value.ref b] below meth c H locs (cells + 8) (slots + 40) Q (F0 m 1311 ls [])) : W p l e room_1 s m #[Value.ref b] below meth c H locs cells slots Q (F0 m 128 ls []) := by
  obtain ⟨hx, hb, hml, hown, hts, hX, hbl, hL, hl9, hK, hE, hZ, hN⟩ := id C
  obtain ⟨b1, k, w, z, ad, ca, f, S, th, tk, hwf, hl, hP, hD, hS⟩ := hI
  refine lv_aload_n hx hb dL_law_128 rfl (lv_at hl 3 rfl) ?_
  refine lw_rd C (k := 1) (i := i) hS (lv_at hl 4 rfl) (lv_at hl 0 rfl) (by omega) (by decide) dL_law_129 dL_law_130 dL_law_132 dL_law_133 dL_law_134 ?_
  refine lw_rd C (k := 2) (i := i) hS (lv_at hl 4 rfl) (lv_at hl 0 rfl) (by omega) (by decide) dL_law_135 dL_law_136 dL_law_138 dL_law_139 dL_law_140 ?_
  refine lw_rd C (k := 3) (i := i) hS (lv_at hl 4 rfl) (lv_at hl 0 rfl) (by omega) (by decide) dL_law_141 dL_law_142 dL_law_144 dL_law_145 dL_law_146 ?_
  refine lv_aload_n hx hb dL_law_147 rfl (lv_at hl 1 rfl) ?_
  refine lw_wc C (As := [.ref h, .int (xs (6 * i + 1)), .int (xs (6 * i + 2)), .int (xs (6 * i + 3)), .ref o]) (K := (hy_krw S (xs (6 * i + 1)) (xs (6 * i + 2)) (xs (6 * i + 3)))) (V := (hy_zl (hy_vrow S (xs (6 * i + 1))))) (S := S) (S2 := (hy_srow S (xs (6 * i + 1)) (xs (6 * i + 2)) (xs (6 * i + 3)))) hP hD hS (fun sz => c_L_row l D cI cJ cB h b1 k w z ad ca S o f hl9 hwf sz (xs (6 * i + 1)) (xs (6 * i + 2)) (xs (6 * i + 3))) (vx_cwSW 5 hts gL_law_L_row rfl rfl rfl (by decide +kernel) ⟨Nat.le_of_ble_eq_true rfl, Nat.le_of_ble_eq_true rfl⟩) rfl hl.1 dL_law_148 ⟨by omega, by omega⟩ (fun b1 k w z ad ca f H locs hv hP hD hS => ?_)
  refine lv_istore (lv' := [(5, .int (hy_krw S (xs (6 * i + 1)) (xs (6 * i + 2)) (xs (6 * i + 3)))), (4, .int (nI (6 * i))), (3, .ref o), (2, .ref n0), (1, .ref h), (0, .ref b)]) hx hb dL_law_151 hl (by decide) rfl (fun ls hl => ?_)
  refine lv_aload_n hx hb dL_law_153 rfl (lv_at hl 3 rfl) ?_
  refine lw_rd C (k := 1) (i := i) hS (lv_at hl 5 rfl) (lv_at hl 1 rfl) (by omega) (by decide) dL_law_154 dL_law_155 dL_law_157 dL_law_158 dL_law_159 ?_
  refine lw_rd C (k := 2) (i := i) hS (lv_at hl 5 rfl) (lv_at hl 1 rfl) (by omega) (by decide) dL_law_160 dL_law_161 dL_law_163 dL_law_164 dL_law_165 ?_
  refine lw_rd C (k := 3) (i := i) hS (lv_at hl 5 rfl) (lv_at hl 1 rfl) (by omega) (by decide) dL_law_166 dL_law_167 dL_law_169 dL_law_170 dL_law_171 ?_
  refine lw_mci C (As := [.int (xs (6 * i + 1)), .int (xs (6 * i + 2)), .int (xs (6 * i + 3))]) (rest := []) (K := (hy_krw S (xs (6 * i + 1)) (xs (6 * i + 2)) (xs (6 * i + 3)))) (V := (hy_vrow S (xs (6 * i + 1)))) (S2 := (hy_srow S (xs (6 * i + 1)) (xs (6 * i + 2)) (xs (6 * i + 3)))) hP hD hS (fun sz => c_X2_row l D cI cJ cB n0 bM sM zM tM xM kM wM eM S th tk hwf sz (xs (6 * i + 1)) (xs (6 * i + 2)) (xs (6 * i + 3))) (cwV 3 hts gL_law_X2_row rfl rfl rfl (by decide +kernel) ⟨Nat.le_of_ble_eq_true rfl, Nat.le_of_ble_eq_true rfl⟩) rfl hl.1 (by decide) dL_law_172 ⟨by omega, by omega⟩ (fun r tk H locs hr hP hD hS => ?_)
  refine lv_istore (lv' := [(6, .int r), (5, .int (hy_krw S (xs (6 * i + 1)) (xs (6 * i + 2)) (xs (6 * i + 3)))), (4, .int (nI (6 * i))), (3, .ref o), (2, .ref n0), (1, .ref h), (0, .ref b)]) hx hb dL_law_175 hl (by decide) rfl (fun ls hl => ?_)
  have hwf9 : hy_wf (hy_if (hy_krw S (xs (6 * i + 1)) (xs (6 * i + 2)) (xs (6 * i + 3))) (hy_srow S (xs (6 * i + 1)) (xs (6 * i + 2)) (xs (6 * i + 3))) S) := hy_wf_if hwf (hy_wf_row hwf)
  have fin : ∀ g9, g9 = F0 m 1311 ls [] → W p l e room_1 s m #[Value.ref b] below meth c H locs (cells + 8) (slots + 40) Q g9 := fun g9 e9 => by rw [e9]; exact kk H locs ls ⟨b1, k, w, z, ad, ca, f, hy_if (hy_krw S (xs (6 * i + 1)) (xs (6 * i + 2)) (xs (6 * i + 3))) (hy_srow S (xs (6 * i + 1)) (xs (6 * i + 2)) (xs (6 * i + 3))) S, (hy_krw S (xs (6 * i + 1)) (xs (6 * i + 2)) (xs (6 * i + 3))), tk, hwf9, lv_sub hl [2, 3, 4, 5, 6] rfl, hP, hD, hS⟩
  refine W.widen (k := cells + 8) (n := slots + 40) (by omega) (by omega) ?_
  refine lv_aload_n hx hb dL_law_177 rfl (lv_at hl 4 rfl) ?_
  refine lw_th C hP hD hl.1 dL_law_178 ⟨by omega, by omega⟩ ?_
  refine lv_iload hx hb dL_law_181 (lv_at hl 1 rfl) ?_
  refine lv_icmp_eq (tgt := 188) hx hb dL_law_183 (by decide) (fun _ => ?_) (fun q => absurd rfl q)
  refine lv_iload hx hb dL_law_188 (lv_at hl 1 rfl) ?_
  refine lv_if_ne (tgt := 212) hx hb dL_law_190 (by decide) (fun q => ?_) (fun hk0 => ?_)
  · exact lv_goto (tgt := 1311) hx hb dL_law_212 (by decide) (fin _ rfl)
  · have hr := hr hk0
    have hv := hv hk0
    refine lv_aload_n hx hb dL_law_193 rfl (lv_at hl 3 rfl) ?_
    refine lv_iconst (v := 0) hx hb dL_law_194 (by decide) ?_
    refine va_lald hx hb hK hP 0 1 rfl rfl (vp_in_nI (n := 0) (by decide) (by decide)) dL_law_195 ?_
    refine lv_iload hx hb dL_law_196 (lv_at hl 0 rfl) ?_
    refine lv_if_eq (tgt := 205) hx hb dL_law_198 (by decide) (fun c0 => ?_) (fun c0 => ?_)
    · refine lv_lconst (v := 0) hx hb dL_law_205 (by decide) ?_
      refine W.lcmp hx hb dL_law_206 ?_
      refine lv_if_eq (tgt := 212) hx hb dL_law_207 (by decide) (fun _ => ?_) (fun q => absurd (hy_cmp0 (hv.trans ((congrArg hy_zl hr.symm).trans (if_pos c0)))) q)
      exact lv_goto (tgt := 1311) hx hb dL_law_212 (by decide) (fin _ rfl)
    · refine lv_lconst (v := 1) hx hb dL_law_201 (by decide) ?_
      refine lv_goto (tgt := 206) hx hb dL_law_202 (by decide) ?_
      refine W.lcmp hx hb dL_law_206 ?_
      refine lv_if_eq (tgt := 212) hx hb dL_law_207 (by decide) (fun _ => ?_) (fun q => absurd (hy_cmp0 (hv.trans ((congrArg hy_zl hr.symm).trans (if_neg c0)))) q)
      exact lv_goto (tgt := 1311) hx hb dL_law_212 (by decide) (fin _ rfl)
set_option maxHeartbeats 4000000 in
set_option maxRecDepth 100000 in
theorem lw_case_lid {p : Program} {l : Launch} {e : Env} {s : State} {m : MethodId} {below : List Frame} {meth : Method} {c : Code} {Q : State → Prop} {b L : Nat} {xs : Nat → Int32} {D : va_G} {cI cJ cB : ClassId} {o h n0 bM sM zM tM xM kM wM eM : Nat} (C : hy_LC p l s m c b L xs D cI cJ cB) {i cells slots : Nat} (hi : 6 * i + 6 ≤ L) (hc : cells + 8 ≤ 601024) (hs : slots + 40 ≤ 7293034) {H : Heap} {locs : List Loc} {ls : Array Slot} (hI : hy_LI D cI cJ cB b o h n0 bM sM zM tM xM kM wM eM s i H locs ls)
    (kk : ∀ H locs ls, hy_LI D cI cJ cB b o h n0 bM sM zM tM xM kM wM eM s i H locs ls → W p l e room_1 s m #[Value.ref b] below meth c H locs (cells + 8) (slots + 40) Q (F0 m 1311 ls [])) : W p l e room_1 s m #[Value.ref b] below meth c H locs cells slots Q (F0 m 215 ls []) := by
  obtain ⟨hx, hb, hml, hown, hts, hX, hbl, hL, hl9, hK, hE, hZ, hN⟩ := id C
  obtain ⟨b1, k, w, z, ad, ca, f, S, th, tk, hwf, hl, hP, hD, hS⟩ := hI
  refine lv_aload_n hx hb dL_law_215 rfl (lv_at hl 3 rfl) ?_
  refine lw_rd C (k := 1) (i := i) hS (lv_at hl 4 rfl) (lv_at hl 0 rfl) (by omega) (by decide) dL_law_216 dL_law_217 dL_law_219 dL_law_220 dL_law_221 ?_
  refine lv_aload_n hx hb dL_law_222 rfl (lv_at hl 1 rfl) ?_
  refine lw_wc C (As := [.ref h, .int (xs (6 * i + 1)), .ref o]) (K := (hy_kbox (xs (6 * i + 1)))) (V := (hy_zl (hy_vlid S (xs (6 * i + 1))))) (S := S) (S2 := (hy_ubx S (va_up (hy_bx S) (xs (6 * i + 1)).toNatClampNeg (some 0)))) hP hD hS (fun sz => c_L_lid l D cI cJ cB h b1 k w z ad ca S o f hl9 hwf sz (xs (6 * i + 1))) (vx_cwSW 3 hts gL_law_L_lid rfl rfl rfl (by decide +kernel) ⟨Nat.le_of_ble_eq_true rfl, Nat.le_of_ble_eq_true rfl⟩) rfl hl.1 dL_law_223 ⟨by omega, by omega⟩ (fun b1 k w z ad ca f H locs hv hP hD hS => ?_)
  refine lv_istore (lv' := [(5, .int (hy_kbox (xs (6 * i + 1)))), (4, .int (nI (6 * i))), (3, .ref o), (2, .ref n0), (1, .ref h), (0, .ref b)]) hx hb dL_law_226 hl (by decide) rfl (fun ls hl => ?_)
  refine lv_aload_n hx hb dL_law_228 rfl (lv_at hl 3 rfl) ?_
  refine lw_rd C (k := 1) (i := i) hS (lv_at hl 5 rfl) (lv_at hl 1 rfl) (by omega) (by decide) dL_law_229 dL_law_230 dL_law_232 dL_law_233 dL_law_234 ?_
  refine lw_mci C (As := [.int (xs (6 * i + 1))]) (rest := []) (K := (hy_kbox (xs (6 * i + 1)))) (V := (hy_vlid S (xs (6 * i + 1)))) (S2 := (hy_ubx S (va_up (hy_bx S) (xs (6 * i + 1)).toNatClampNeg (some 0)))) hP hD hS (fun sz => c_X2_lid l D cI cJ cB n0 bM sM zM tM xM kM wM eM S th tk hwf sz (xs (6 * i + 1))) (cwV 1 hts gL_law_X2_lid rfl rfl rfl (by decide +kernel) ⟨Nat.le_of_ble_eq_true rfl, Nat.le_of_ble_eq_true rfl⟩) rfl hl.1 (by decide) dL_law_235 ⟨by omega, by omega⟩ (fun r tk H locs hr hP hD hS => ?_)
  refine lv_istore (lv' := [(6, .int r), (5, .int (hy_kbox (xs (6 * i + 1)))), (4, .int (nI (6 * i))), (3, .ref o), (2, .ref n0), (1, .ref h), (0, .ref b)]) hx hb dL_law_238 hl (by decide) rfl (fun ls hl => ?_)
  have hwf9 : hy_wf (hy_if (hy_kbox (xs (6 * i + 1))) (hy_ubx S (va_up (hy_bx S) (xs (6 * i + 1)).toNatClampNeg (some 0))) S) := hy_wf_if hwf (fun _ => hy_wf_ubx hwf _ (fun r q => by cases q; exact Nat.zero_le _))
  have fin : ∀ g9, g9 = F0 m 1311 ls [] → W p l e room_1 s m #[Value.ref b] below meth c H locs (cells + 8) (slots + 40) Q g9 := fun g9 e9 => by rw [e9]; exact kk H locs ls ⟨b1, k, w, z, ad, ca, f, hy_if (hy_kbox (xs (6 * i + 1))) (hy_ubx S (va_up (hy_bx S) (xs (6 * i + 1)).toNatClampNeg (some 0))) S, (hy_kbox (xs (6 * i + 1))), tk, hwf9, lv_sub hl [2, 3, 4, 5, 6] rfl, hP, hD, hS⟩
  refine W.widen (k := cells + 8) (n := slots + 40) (by omega) (by omega) ?_
  refine lv_aload_n hx hb dL_law_240 rfl (lv_at hl 4 rfl) ?_
  refine lw_th C hP hD hl.1 dL_law_241 ⟨by omega, by omega⟩ ?_
  refine lv_iload hx hb dL_law_244 (lv_at hl 1 rfl) ?_
  refine lv_icmp_eq (tgt := 251) hx hb dL_law_246 (by decide) (fun _ => ?_) (fun q => absurd rfl q)
  refine lv_iload hx hb dL_law_251 (lv_at hl 1 rfl) ?_
  refine lv_if_ne (tgt := 275) hx hb dL_law_253 (by decide) (fun q => ?_) (fun hk0 => ?_)
  · exact lv_goto (tgt := 1311) hx hb dL_law_275 (by decide) (fin _ rfl)
  · have hr := hr hk0
    have hv := hv hk0
    refine lv_aload_n hx hb dL_law_256 rfl (lv_at hl 3 rfl) ?_
    refine lv_iconst (v := 0) hx hb dL_law_257 (by decide) ?_
    refine va_lald hx hb hK hP 0 1 rfl rfl (vp_in_nI (n := 0) (by decide) (by decide)) dL_law_258 ?_
    refine lv_iload hx hb dL_law_259 (lv_at hl 0 rfl) ?_
    refine lv_if_eq (tgt := 268) hx hb dL_law_261 (by decide) (fun c0 => ?_) (fun c0 => ?_)
    · refine lv_lconst (v := 0) hx hb dL_law_268 (by decide) ?_
      refine W.lcmp hx hb dL_law_269 ?_
      refine lv_if_eq (tgt := 275) hx hb dL_law_270 (by decide) (fun _ => ?_) (fun q => absurd (hy_cmp0 (hv.trans ((congrArg hy_zl hr.symm).trans (if_pos c0)))) q)
      exact lv_goto (tgt := 1311) hx hb dL_law_275 (by decide) (fin _ rfl)
    · refine lv_lconst (v := 1) hx hb dL_law_264 (by decide) ?_
      refine lv_goto (tgt := 269) hx hb dL_law_265 (by decide) ?_
      refine W.lcmp hx hb dL_law_269 ?_
      refine lv_if_eq (tgt := 275) hx hb dL_law_270 (by decide) (fun _ => ?_) (fun q => absurd (hy_cmp0 (hv.trans ((congrArg hy_zl hr.symm).trans (if_neg c0)))) q)
      exact lv_goto (tgt := 1311) hx hb dL_law_275 (by decide) (fin _ rfl)
set_option maxHeartbeats 4000000 in
set_option maxRecDepth 100000 in
theorem lw_case_clear {p : Program} {l : Launch} {e : Env} {s : State} {m : MethodId} {below : List Frame} {meth : Method} {c : Code} {Q : State → Prop} {b L : Nat} {xs : Nat → Int32} {D : va_G} {cI cJ cB : ClassId} {o h n0 bM sM zM tM xM kM wM eM : Nat} (C : hy_LC p l s m c b L xs D cI cJ cB) {i cells slots : Nat} (hi : 6 * i + 6 ≤ L) (hc : cells + 8 ≤ 601024) (hs : slots + 40 ≤ 7293034) {H : Heap} {locs : List Loc} {ls : Array Slot} (hI : hy_LI D cI cJ cB b o h n0 bM sM zM tM xM kM wM eM s i H locs ls)
    (kk : ∀ H locs ls, hy_LI D cI cJ cB b o h n0 bM sM zM tM xM kM wM eM s i H locs ls → W p l e room_1 s m #[Value.ref b] below meth c H locs (cells + 8) (slots + 40) Q (F0 m 1311 ls [])) : W p l e room_1 s m #[Value.ref b] below meth c H locs cells slots Q (F0 m 278 ls []) := by
  obtain ⟨hx, hb, hml, hown, hts, hX, hbl, hL, hl9, hK, hE, hZ, hN⟩ := id C
  obtain ⟨b1, k, w, z, ad, ca, f, S, th, tk, hwf, hl, hP, hD, hS⟩ := hI
  refine lv_aload_n hx hb dL_law_278 rfl (lv_at hl 3 rfl) ?_
  refine lw_rd C (k := 1) (i := i) hS (lv_at hl 4 rfl) (lv_at hl 0 rfl) (by omega) (by decide) dL_law_279 dL_law_280 dL_law_282 dL_law_283 dL_law_284 ?_
  refine lv_aload_n hx hb dL_law_285 rfl (lv_at hl 1 rfl) ?_
  refine lw_wc C (As := [.ref h, .int (xs (6 * i + 1)), .ref o]) (K := (hy_kbox (xs (6 * i + 1)))) (V := (hy_zl (hy_vclear S (xs (6 * i + 1))))) (S := S) (S2 := (hy_ubx S (va_up (hy_bx S) (xs (6 * i + 1)).toNatClampNeg none))) hP hD hS (fun sz => c_L_clear l D cI cJ cB h b1 k w z ad ca S o f hl9 hwf sz (xs (6 * i + 1))) (vx_cwSW 3 hts gL_law_L_clear rfl rfl rfl (by decide +kernel) ⟨Nat.le_of_ble_eq_true rfl, Nat.le_of_ble_eq_true rfl⟩) rfl hl.1 dL_law_286 ⟨by omega, by omega⟩ (fun b1 k w z ad ca f H locs hv hP hD hS => ?_)
  refine lv_istore (lv' := [(5, .int (hy_kbox (xs (6 * i + 1)))), (4, .int (nI (6 * i))), (3, .ref o), (2, .ref n0), (1, .ref h), (0, .ref b)]) hx hb dL_law_289 hl (by decide) rfl (fun ls hl => ?_)
  refine lv_aload_n hx hb dL_law_291 rfl (lv_at hl 3 rfl) ?_
  refine lw_rd C (k := 1) (i := i) hS (lv_at hl 5 rfl) (lv_at hl 1 rfl) (by omega) (by decide) dL_law_292 dL_law_293 dL_law_295 dL_law_296 dL_law_297 ?_
  refine lw_mci C (As := [.int (xs (6 * i + 1))]) (rest := []) (K := (hy_kbox (xs (6 * i + 1)))) (V := (hy_vclear S (xs (6 * i + 1)))) (S2 := (hy_ubx S (va_up (hy_bx S) (xs (6 * i + 1)).toNatClampNeg none))) hP hD hS (fun sz => c_X2_clear l D cI cJ cB n0 bM sM zM tM xM kM wM eM S th tk hwf sz (xs (6 * i + 1))) (cwV 1 hts gL_law_X2_clear rfl rfl rfl (by decide +kernel) ⟨Nat.le_of_ble_eq_true rfl, Nat.le_of_ble_eq_true rfl⟩) rfl hl.1 (by decide) dL_law_298 ⟨by omega, by omega⟩ (fun r tk H locs hr hP hD hS => ?_)
  refine lv_istore (lv' := [(6, .int r), (5, .int (hy_kbox (xs (6 * i + 1)))), (4, .int (nI (6 * i))), (3, .ref o), (2, .ref n0), (1, .ref h), (0, .ref b)]) hx hb dL_law_301 hl (by decide) rfl (fun ls hl => ?_)
  have hwf9 : hy_wf (hy_if (hy_kbox (xs (6 * i + 1))) (hy_ubx S (va_up (hy_bx S) (xs (6 * i + 1)).toNatClampNeg none)) S) := hy_wf_if hwf (fun _ => hy_wf_ubx hwf _ (fun r q => nomatch q))
  have fin : ∀ g9, g9 = F0 m 1311 ls [] → W p l e room_1 s m #[Value.ref b] below meth c H locs (cells + 8) (slots + 40) Q g9 := fun g9 e9 => by rw [e9]; exact kk H locs ls ⟨b1, k, w, z, ad, ca, f, hy_if (hy_kbox (xs (6 * i + 1))) (hy_ubx S (va_up (hy_bx S) (xs (6 * i + 1)).toNatClampNeg none)) S, (hy_kbox (xs (6 * i + 1))), tk, hwf9, lv_sub hl [2, 3, 4, 5, 6] rfl, hP, hD, hS⟩
  refine W.widen (k := cells + 8) (n := slots + 40) (by omega) (by omega) ?_
  refine lv_aload_n hx hb dL_law_303 rfl (lv_at hl 4 rfl) ?_
  refine lw_th C hP hD hl.1 dL_law_304 ⟨by omega, by omega⟩ ?_
  refine lv_iload hx hb dL_law_307 (lv_at hl 1 rfl) ?_
  refine lv_icmp_eq (tgt := 314) hx hb dL_law_309 (by decide) (fun _ => ?_) (fun q => absurd rfl q)
  refine lv_iload hx hb dL_law_314 (lv_at hl 1 rfl) ?_
  refine lv_if_ne (tgt := 338) hx hb dL_law_316 (by decide) (fun q => ?_) (fun hk0 => ?_)
  · exact lv_goto (tgt := 1311) hx hb dL_law_338 (by decide) (fin _ rfl)
  · have hr := hr hk0
    have hv := hv hk0
    refine lv_aload_n hx hb dL_law_319 rfl (lv_at hl 3 rfl) ?_
    refine lv_iconst (v := 0) hx hb dL_law_320 (by decide) ?_
    refine va_lald hx hb hK hP 0 1 rfl rfl (vp_in_nI (n := 0) (by decide) (by decide)) dL_law_321 ?_
    refine lv_iload hx hb dL_law_322 (lv_at hl 0 rfl) ?_
    refine lv_if_eq (tgt := 331) hx hb dL_law_324 (by decide) (fun c0 => ?_) (fun c0 => ?_)
    · refine lv_lconst (v := 0) hx hb dL_law_331 (by decide) ?_
      refine W.lcmp hx hb dL_law_332 ?_
      refine lv_if_eq (tgt := 338) hx hb dL_law_333 (by decide) (fun _ => ?_) (fun q => absurd (hy_cmp0 (hv.trans ((congrArg hy_zl hr.symm).trans (if_pos c0)))) q)
      exact lv_goto (tgt := 1311) hx hb dL_law_338 (by decide) (fin _ rfl)
    · refine lv_lconst (v := 1) hx hb dL_law_327 (by decide) ?_
      refine lv_goto (tgt := 332) hx hb dL_law_328 (by decide) ?_
      refine W.lcmp hx hb dL_law_332 ?_
      refine lv_if_eq (tgt := 338) hx hb dL_law_333 (by decide) (fun _ => ?_) (fun q => absurd (hy_cmp0 (hv.trans ((congrArg hy_zl hr.symm).trans (if_neg c0)))) q)
      exact lv_goto (tgt := 1311) hx hb dL_law_338 (by decide) (fin _ rfl)
set_option maxHeartbeats 4000000 in
set_option maxRecDepth 100000 in
theorem lw_case_share {p : Program} {l : Launch} {e : Env} {s : State} {m : MethodId} {below : List Frame} {meth : Method} {c : Code} {Q : State → Prop} {b L : Nat} {xs : Nat → Int32} {D : va_G} {cI cJ cB : ClassId} {o h n0 bM sM zM tM xM kM wM eM : Nat} (C : hy_LC p l s m c b L xs D cI cJ cB) {i cells slots : Nat} (hi : 6 * i + 6 ≤ L) (hc : cells + 8 ≤ 601024) (hs : slots + 40 ≤ 7293034) {H : Heap} {locs : List Loc} {ls : Array Slot} (hI : hy_LI D cI cJ cB b o h n0 bM sM zM tM xM kM wM eM s i H locs ls)
    (kk : ∀ H locs ls, hy_LI D cI cJ cB b o h n0 bM sM zM tM xM kM wM eM s i H locs ls → W p l e room_1 s m #[Value.ref b] below meth c H locs (cells + 8) (slots + 40) Q (F0 m 1311 ls [])) : W p l e room_1 s m #[Value.ref b] below meth c H locs cells slots Q (F0 m 341 ls []) := by
  obtain ⟨hx, hb, hml, hown, hts, hX, hbl, hL, hl9, hK, hE, hZ, hN⟩ := id C
  obtain ⟨b1, k, w, z, ad, ca, f, S, th, tk, hwf, hl, hP, hD, hS⟩ := hI
  refine lv_aload_n hx hb dL_law_341 rfl (lv_at hl 3 rfl) ?_
  refine lw_rd C (k := 1) (i := i) hS (lv_at hl 4 rfl) (lv_at hl 0 rfl) (by omega) (by decide) dL_law_342 dL_law_343 dL_law_345 dL_law_346 dL_law_347 ?_
  refine lw_rd C (k := 2) (i := i) hS (lv_at hl 4 rfl) (lv_at hl 0 rfl) (by omega) (by decide) dL_law_348 dL_law_349 dL_law_351 dL_law_352 dL_law_353 ?_
  refine lv_aload_n hx hb dL_law_354 rfl (lv_at hl 1 rfl) ?_
  refine lw_wc C (As := [.ref h, .int (xs (6 * i + 1)), .int (xs (6 * i + 2)), .ref o]) (K := (hy_k2b (xs (6 * i + 1)) (xs (6 * i + 2)))) (V := ((hy_vhold S (xs (6 * i + 2))).toInt64)) (S := S) (S2 := (hy_sshare S (xs (6 * i + 1)) (xs (6 * i + 2)))) hP hD hS (fun sz => c_L_share l D cI cJ cB h b1 k w z ad ca S o f hl9 hwf sz (xs (6 * i + 1)) (xs (6 * i + 2))) (vx_cwSW 4 hts gL_law_L_share rfl rfl rfl (by decide +kernel) ⟨Nat.le_of_ble_eq_true rfl, Nat.le_of_ble_eq_true rfl⟩) rfl hl.1 dL_law_355 ⟨by omega, by omega⟩ (fun b1 k w z ad ca f H locs hv hP hD hS => ?_)
  refine lv_istore (lv' := [(5, .int (hy_k2b (xs (6 * i + 1)) (xs (6 * i + 2)))), (4, .int (nI (6 * i))), (3, .ref o), (2, .ref n0), (1, .ref h), (0, .ref b)]) hx hb dL_law_358 hl (by decide) rfl (fun ls hl => ?_)
  refine lv_aload_n hx hb dL_law_360 rfl (lv_at hl 3 rfl) ?_
  refine lw_rd C (k := 1) (i := i) hS (lv_at hl 5 rfl) (lv_at hl 1 rfl) (by omega) (by decide) dL_law_361 dL_law_362 dL_law_364 dL_law_365 dL_law_366 ?_
  refine lw_rd C (k := 2) (i := i) hS (lv_at hl 5 rfl) (lv_at hl 1 rfl) (by omega) (by decide) dL_law_367 dL_law_368 dL_law_370 dL_law_371 dL_law_372 ?_
  refine lw_mci C (As := [.int (xs (6 * i + 1)), .int (xs (6 * i + 2))]) (rest := []) (K := (hy_k2b (xs (6 * i + 1)) (xs (6 * i + 2)))) (V := (hy_vhold S (xs (6 * i + 2)))) (S2 := (hy_sshare S (xs (6 * i + 1)) (xs (6 * i + 2)))) hP hD hS (fun sz => c_X2_share l D cI cJ cB n0 bM sM zM tM xM kM wM eM S th tk hwf sz (xs (6 * i + 1)) (xs (6 * i + 2))) (cwV 2 hts gL_law_X2_share rfl rfl rfl (by decide +kernel) ⟨Nat.le_of_ble_eq_true rfl, Nat.le_of_ble_eq_true rfl⟩) rfl hl.1 (by decide) dL_law_373 ⟨by omega, by omega⟩ (fun r tk H locs hr hP hD hS => ?_)
  refine lv_istore (lv' := [(6, .int r), (5, .int (hy_k2b (xs (6 * i + 1)) (xs (6 * i + 2)))), (4, .int (nI (6 * i))), (3, .ref o), (2, .ref n0), (1, .ref h), (0, .ref b)]) hx hb dL_law_376 hl (by decide) rfl (fun ls hl => ?_)
  have hwf9 : hy_wf (hy_if (hy_k2b (xs (6 * i + 1)) (xs (6 * i + 2))) (hy_sshare S (xs (6 * i + 1)) (xs (6 * i + 2))) S) := hy_wf_if hwf (fun _ => hy_wf_share hwf _ _)
  have fin : ∀ g9, g9 = F0 m 1311 ls [] → W p l e room_1 s m #[Value.ref b] below meth c H locs (cells + 8) (slots + 40) Q g9 := fun g9 e9 => by rw [e9]; exact kk H locs ls ⟨b1, k, w, z, ad, ca, f, hy_if (hy_k2b (xs (6 * i + 1)) (xs (6 * i + 2))) (hy_sshare S (xs (6 * i + 1)) (xs (6 * i + 2))) S, (hy_k2b (xs (6 * i + 1)) (xs (6 * i + 2))), tk, hwf9, lv_sub hl [2, 3, 4, 5, 6] rfl, hP, hD, hS⟩
  refine W.widen (k := cells + 8) (n := slots + 40) (by omega) (by omega) ?_
  refine lv_aload_n hx hb dL_law_378 rfl (lv_at hl 4 rfl) ?_
  refine lw_th C hP hD hl.1 dL_law_379 ⟨by omega, by omega⟩ ?_
  refine lv_iload hx hb dL_law_382 (lv_at hl 1 rfl) ?_
  refine lv_icmp_eq (tgt := 389) hx hb dL_law_384 (by decide) (fun _ => ?_) (fun q => absurd rfl q)
  refine lv_iload hx hb dL_law_389 (lv_at hl 1 rfl) ?_
  refine lv_if_ne (tgt := 406) hx hb dL_law_391 (by decide) (fun q => ?_) (fun hk0 => ?_)
  · exact lv_goto (tgt := 1311) hx hb dL_law_406 (by decide) (fin _ rfl)
  · have hr := hr hk0
    have hv := hv hk0
    refine lv_aload_n hx hb dL_law_394 rfl (lv_at hl 3 rfl) ?_
    refine lv_iconst (v := 0) hx hb dL_law_395 (by decide) ?_
    refine va_lald hx hb hK hP 0 1 rfl rfl (vp_in_nI (n := 0) (by decide) (by decide)) dL_law_396 ?_
    refine lv_iload hx hb dL_law_397 (lv_at hl 0 rfl) ?_
    refine lv_i2l (v := r.toInt64) hx hb dL_law_399 rfl ?_
    refine W.lcmp hx hb dL_law_400 ?_
    refine lv_if_eq (tgt := 406) hx hb dL_law_401 (by decide) (fun _ => ?_) (fun q => absurd (hy_cmp0 (hv.trans (congrArg Int32.toInt64 hr.symm))) q)
    exact lv_goto (tgt := 1311) hx hb dL_law_406 (by decide) (fin _ rfl)
set_option maxHeartbeats 4000000 in
set_option maxRecDepth 100000 in
theorem lw_case_put {p : Program} {l : Launch} {e : Env} {s : State} {m : MethodId} {below : List Frame} {meth : Method} {c : Code} {Q : State → Prop} {b L : Nat} {xs : Nat → Int32} {D : va_G} {cI cJ cB : ClassId} {o h n0 bM sM zM tM xM kM wM eM : Nat} (C : hy_LC p l s m c b L xs D cI cJ cB) {i cells slots : Nat} (hi : 6 * i + 6 ≤ L) (hc : cells + 8 ≤ 601024) (hs : slots + 40 ≤ 7293034) {H : Heap} {locs : List Loc} {ls : Array Slot} (hI : hy_LI D cI cJ cB b o h n0 bM sM zM tM xM kM wM eM s i H locs ls)
    (kk : ∀ H locs ls, hy_LI D cI cJ cB b o h n0 bM sM zM tM xM kM wM eM s i H locs ls → W p l e room_1 s m #[Value.ref b] below meth c H locs (cells + 8) (slots + 40) Q (F0 m 1311 ls [])) : W p l e room_1 s m #[Value.ref b] below meth c H locs cells slots Q (F0 m 409 ls []) := by
  obtain ⟨hx, hb, hml, hown, hts, hX, hbl, hL, hl9, hK, hE, hZ, hN⟩ := id C
  obtain ⟨b1, k, w, z, ad, ca, f, S, th, tk, hwf, hl, hP, hD, hS⟩ := hI
  refine lv_aload_n hx hb dL_law_409 rfl (lv_at hl 3 rfl) ?_
  refine lw_rd C (k := 1) (i := i) hS (lv_at hl 4 rfl) (lv_at hl 0 rfl) (by omega) (by decide) dL_law_410 dL_law_411 dL_law_413 dL_law_414 dL_law_415 ?_
  refine lw_rd C (k := 2) (i := i) hS (lv_at hl 4 rfl) (lv_at hl 0 rfl) (by omega) (by decide) dL_law_416 dL_law_417 dL_law_419 dL_law_420 dL_law_421 ?_
  refine lw_rd C (k := 3) (i := i) hS (lv_at hl 4 rfl) (lv_at hl 0 rfl) (by omega) (by decide) dL_law_422 dL_law_423 dL_law_425 dL_law_426 dL_law_427 ?_
  refine lv_i2l (v := (xs (6 * i + 3)).toInt64) hx hb dL_law_428 rfl ?_
  refine lv_bipush (v := 32) hx hb dL_law_429 (by decide) ?_
  refine lv_lshl (v := ((xs (6 * i + 3)).toInt64 <<< ((32 : Int32).toInt64 &&& 63))) hx hb dL_law_431 rfl ?_
  refine lw_rd C (k := 4) (i := i) hS (lv_at hl 4 rfl) (lv_at hl 0 rfl) (by omega) (by decide) dL_law_432 dL_law_433 dL_law_435 dL_law_436 dL_law_437 ?_
  refine lv_i2l (v := (xs (6 * i + 4)).toInt64) hx hb dL_law_438 rfl ?_
  refine lv_ldc2 (v := 4294967295) hx hb hown (hts (.constantLong RL 102 (4294967295)) (List.mem_append_left _ (List.mem_append_left _ (List.mem_append_left _ (List.mem_append_left _ (List.mem_append_left _ (List.mem_append_left _ (List.mem_append_left _ (List.mem_append_left _ (List.mem_append_left _ (List.mem_append_left _ (List.mem_of_getElem? (i := 7) rfl)))))))))))) dL_law_439 ?_
  refine lv_land hx hb dL_law_442 ?_
  refine lv_lor hx hb dL_law_443 ?_
  refine lv_aload_n hx hb dL_law_444 rfl (lv_at hl 1 rfl) ?_
  refine lw_wc C (As := [.ref h, .int (xs (6 * i + 1)), .int (xs (6 * i + 2)), .long (((xs (6 * i + 3)).toInt64 <<< ((32 : Int32).toInt64 &&& 63)) ||| ((xs (6 * i + 4)).toInt64 &&& 4294967295)), .ref o]) (K := (hy_kput S (xs (6 * i + 1)) (xs (6 * i + 2)))) (V := (hy_at S (xs (6 * i + 1)) (xs (6 * i + 2)))) (S := S) (S2 := (hy_sput S (xs (6 * i + 1)) (xs (6 * i + 2)) (((xs (6 * i + 3)).toInt64 <<< ((32 : Int32).toInt64 &&& 63)) ||| ((xs (6 * i + 4)).toInt64 &&& 4294967295)))) hP hD hS (fun sz => c_L_put l D cI cJ cB h b1 k w z ad ca S o f hl9 hwf sz (xs (6 * i + 1)) (xs (6 * i + 2)) (((xs (6 * i + 3)).toInt64 <<< ((32 : Int32).toInt64 &&& 63)) ||| ((xs (6 * i + 4)).toInt64 &&& 4294967295))) (vx_cwSW 5 hts gL_law_L_put rfl rfl rfl (by decide +kernel) ⟨Nat.le_of_ble_eq_true rfl, Nat.le_of_ble_eq_true rfl⟩) rfl hl.1 dL_law_445 ⟨by omega, by omega⟩ (fun b1 k w z ad ca f H locs hv hP hD hS => ?_)
  refine lv_istore (lv' := [(5, .int (hy_kput S (xs (6 * i + 1)) (xs (6 * i + 2)))), (4, .int (nI (6 * i))), (3, .ref o), (2, .ref n0), (1, .ref h), (0, .ref b)]) hx hb dL_law_448 hl (by decide) rfl (fun ls hl => ?_)
  refine lv_aload_n hx hb dL_law_450 rfl (lv_at hl 3 rfl) ?_
  refine lw_rd C (k := 1) (i := i) hS (lv_at hl 5 rfl) (lv_at hl 1 rfl) (by omega) (by decide) dL_law_451 dL_law_452 dL_law_454 dL_law_455 dL_law_456 ?_
  refine lw_rd C (k := 2) (i := i) hS (lv_at hl 5 rfl) (lv_at hl 1 rfl) (by omega) (by decide) dL_law_457 dL_law_458 dL_law_460 dL_law_461 dL_law_462 ?_
  refine lw_rd C (k := 3) (i := i) hS (lv_at hl 5 rfl) (lv_at hl 1 rfl) (by omega) (by decide) dL_law_463 dL_law_464 dL_law_466 dL_law_467 dL_law_468 ?_
  refine lv_i2l (v := (xs (6 * i + 3)).toInt64) hx hb dL_law_469 rfl ?_
  refine lv_bipush (v := 32) hx hb dL_law_470 (by decide) ?_
  refine lv_lshl (v := ((xs (6 * i + 3)).toInt64 <<< ((32 : Int32).toInt64 &&& 63))) hx hb dL_law_472 rfl ?_
  refine lw_rd C (k := 4) (i := i) hS (lv_at hl 5 rfl) (lv_at hl 1 rfl) (by omega) (by decide) dL_law_473 dL_law_474 dL_law_476 dL_law_477 dL_law_478 ?_
  refine lv_i2l (v := (xs (6 * i + 4)).toInt64) hx hb dL_law_479 rfl ?_
  refine lv_ldc2 (v := 4294967295) hx hb hown (hts (.constantLong RL 102 (4294967295)) (List.mem_append_left _ (List.mem_append_left _ (List.mem_append_left _ (List.mem_append_left _ (List.mem_append_left _ (List.mem_append_left _ (List.mem_append_left _ (List.mem_append_left _ (List.mem_append_left _ (List.mem_append_left _ (List.mem_of_getElem? (i := 7) rfl)))))))))))) dL_law_480 ?_
  refine lv_land hx hb dL_law_483 ?_
  refine lv_lor hx hb dL_law_484 ?_
  refine lw_mcl C (As := [.int (xs (6 * i + 1)), .int (xs (6 * i + 2)), .long (((xs (6 * i + 3)).toInt64 <<< ((32 : Int32).toInt64 &&& 63)) ||| ((xs (6 * i + 4)).toInt64 &&& 4294967295))]) (rest := []) (K := (hy_kput S (xs (6 * i + 1)) (xs (6 * i + 2)))) (V := (hy_at S (xs (6 * i + 1)) (xs (6 * i + 2)))) (S2 := (hy_sput S (xs (6 * i + 1)) (xs (6 * i + 2)) (((xs (6 * i + 3)).toInt64 <<< ((32 : Int32).toInt64 &&& 63)) ||| ((xs (6 * i + 4)).toInt64 &&& 4294967295)))) hP hD hS (fun sz => c_X2_put l D cI cJ cB n0 bM sM zM tM xM kM wM eM S th tk hwf sz (xs (6 * i + 1)) (xs (6 * i + 2)) (((xs (6 * i + 3)).toInt64 <<< ((32 : Int32).toInt64 &&& 63)) ||| ((xs (6 * i + 4)).toInt64 &&& 4294967295))) (cwV 3 hts gL_law_X2_put rfl rfl rfl (by decide +kernel) ⟨Nat.le_of_ble_eq_true rfl, Nat.le_of_ble_eq_true rfl⟩) rfl hl.1 (by decide) dL_law_485 ⟨by omega, by omega⟩ (fun r tk H locs hr hP hD hS => ?_)
  refine lv_lstore (lv' := [(6, .long r), (5, .int (hy_kput S (xs (6 * i + 1)) (xs (6 * i + 2)))), (4, .int (nI (6 * i))), (3, .ref o), (2, .ref n0), (1, .ref h), (0, .ref b)]) hx hb dL_law_488 hl (by decide) rfl (fun ls hl => ?_)
  have hwf9 : hy_wf (hy_if (hy_kput S (xs (6 * i + 1)) (xs (6 * i + 2))) (hy_sput S (xs (6 * i + 1)) (xs (6 * i + 2)) (((xs (6 * i + 3)).toInt64 <<< ((32 : Int32).toInt64 &&& 63)) ||| ((xs (6 * i + 4)).toInt64 &&& 4294967295))) S) := hy_wf_if hwf (hy_wf_put hwf _)
  have fin : ∀ g9, g9 = F0 m 1311 ls [] → W p l e room_1 s m #[Value.ref b] below meth c H locs (cells + 8) (slots + 40) Q g9 := fun g9 e9 => by rw [e9]; exact kk H locs ls ⟨b1, k, w, z, ad, ca, f, hy_if (hy_kput S (xs (6 * i + 1)) (xs (6 * i + 2))) (hy_sput S (xs (6 * i + 1)) (xs (6 * i + 2)) (((xs (6 * i + 3)).toInt64 <<< ((32 : Int32).toInt64 &&& 63)) ||| ((xs (6 * i + 4)).toInt64 &&& 4294967295))) S, (hy_kput S (xs (6 * i + 1)) (xs (6 * i + 2))), tk, hwf9, lv_sub hl [2, 3, 4, 5, 6] rfl, hP, hD, hS⟩
  refine W.widen (k := cells + 8) (n := slots + 40) (by omega) (by omega) ?_
  refine lv_aload_n hx hb dL_law_490 rfl (lv_at hl 4 rfl) ?_
  refine lw_th C hP hD hl.1 dL_law_491 ⟨by omega, by omega⟩ ?_
  refine lv_iload hx hb dL_law_494 (lv_at hl 1 rfl) ?_
  refine lv_icmp_eq (tgt := 501) hx hb dL_law_496 (by decide) (fun _ => ?_) (fun q => absurd rfl q)
  refine lv_iload hx hb dL_law_501 (lv_at hl 1 rfl) ?_
  refine lv_if_ne (tgt := 517) hx hb dL_law_503 (by decide) (fun q => ?_) (fun hk0 => ?_)
  · exact lv_goto (tgt := 1311) hx hb dL_law_517 (by decide) (fin _ rfl)
  · have hr := hr hk0
    have hv := hv hk0
    refine lv_aload_n hx hb dL_law_506 rfl (lv_at hl 3 rfl) ?_
    refine lv_iconst (v := 0) hx hb dL_law_507 (by decide) ?_
    refine va_lald hx hb hK hP 0 1 rfl rfl (vp_in_nI (n := 0) (by decide) (by decide)) dL_law_508 ?_
    refine lv_lload hx hb dL_law_509 (lv_at hl 0 rfl) ?_
    refine W.lcmp hx hb dL_law_511 ?_
    refine lv_if_eq (tgt := 517) hx hb dL_law_512 (by decide) (fun _ => ?_) (fun q => absurd (hy_cmp0 (hv.trans hr.symm)) q)
    exact lv_goto (tgt := 1311) hx hb dL_law_517 (by decide) (fin _ rfl)
set_option maxHeartbeats 4000000 in
set_option maxRecDepth 100000 in
theorem lw_case_lay {p : Program} {l : Launch} {e : Env} {s : State} {m : MethodId} {below : List Frame} {meth : Method} {c : Code} {Q : State → Prop} {b L : Nat} {xs : Nat → Int32} {D : va_G} {cI cJ cB : ClassId} {o h n0 bM sM zM tM xM kM wM eM : Nat} (C : hy_LC p l s m c b L xs D cI cJ cB) {i cells slots : Nat} (hi : 6 * i + 6 ≤ L) (hc : cells + 8 ≤ 601024) (hs : slots + 40 ≤ 7293034) {H : Heap} {locs : List Loc} {ls : Array Slot} (hI : hy_LI D cI cJ cB b o h n0 bM sM zM tM xM kM wM eM s i H locs ls)
    (kk : ∀ H locs ls, hy_LI D cI cJ cB b o h n0 bM sM zM tM xM kM wM eM s i H locs ls → W p l e room_1 s m #[Value.ref b] below meth c H locs (cells + 8) (slots + 40) Q (F0 m 1311 ls [])) : W p l e room_1 s m #[Value.ref b] below meth c H locs cells slots Q (F0 m 520 ls []) := by
  obtain ⟨hx, hb, hml, hown, hts, hX, hbl, hL, hl9, hK, hE, hZ, hN⟩ := id C
  obtain ⟨b1, k, w, z, ad, ca, f, S, th, tk, hwf, hl, hP, hD, hS⟩ := hI
  refine lv_aload_n hx hb dL_law_520 rfl (lv_at hl 3 rfl) ?_
  refine lw_rd C (k := 1) (i := i) hS (lv_at hl 4 rfl) (lv_at hl 0 rfl) (by omega) (by decide) dL_law_521 dL_law_522 dL_law_524 dL_law_525 dL_law_526 ?_
  refine lw_rd C (k := 2) (i := i) hS (lv_at hl 4 rfl) (lv_at hl 0 rfl) (by omega) (by decide) dL_law_527 dL_law_528 dL_law_530 dL_law_531 dL_law_532 ?_
  refine lw_rd C (k := 3) (i := i) hS (lv_at hl 4 rfl) (lv_at hl 0 rfl) (by omega) (by decide) dL_law_533 dL_law_534 dL_law_536 dL_law_537 dL_law_538 ?_
  refine lv_aload_n hx hb dL_law_539 rfl (lv_at hl 1 rfl) ?_
  refine lw_wc C (As := [.ref h, .int (xs (6 * i + 1)), .int (xs (6 * i + 2)), .int (xs (6 * i + 3)), .ref o]) (K := (hy_klay S (xs (6 * i + 1)) (xs (6 * i + 2)) (xs (6 * i + 3)))) (V := ((hy_vlay S (xs (6 * i + 1)) (xs (6 * i + 3))).toInt64)) (S := S) (S2 := (hy_slay S (xs (6 * i + 1)) (xs (6 * i + 2)) (xs (6 * i + 3)))) hP hD hS (fun sz => c_L_lay l D cI cJ cB h b1 k w z ad ca S o f hl9 hwf sz (xs (6 * i + 1)) (xs (6 * i + 2)) (xs (6 * i + 3))) (vx_cwSW 5 hts gL_law_L_lay rfl rfl rfl (by decide +kernel) ⟨Nat.le_of_ble_eq_true rfl, Nat.le_of_ble_eq_true rfl⟩) rfl hl.1 dL_law_540 ⟨by omega, by omega⟩ (fun b1 k w z ad ca f H locs hv hP hD hS => ?_)
  refine lv_istore (lv' := [(5, .int (hy_klay S (xs (6 * i + 1)) (xs (6 * i + 2)) (xs (6 * i + 3)))), (4, .int (nI (6 * i))), (3, .ref o), (2, .ref n0), (1, .ref h), (0, .ref b)]) hx hb dL_law_543 hl (by decide) rfl (fun ls hl => ?_)
  refine lv_aload_n hx hb dL_law_545 rfl (lv_at hl 3 rfl) ?_
  refine lw_rd C (k := 1) (i := i) hS (lv_at hl 5 rfl) (lv_at hl 1 rfl) (by omega) (by decide) dL_law_546 dL_law_547 dL_law_549 dL_law_550 dL_law_551 ?_
  refine lw_rd C (k := 2) (i := i) hS (lv_at hl 5 rfl) (lv_at hl 1 rfl) (by omega) (by decide) dL_law_552 dL_law_553 dL_law_555 dL_law_556 dL_law_557 ?_
  refine lw_rd C (k := 3) (i := i) hS (lv_at hl 5 rfl) (lv_at hl 1 rfl) (by omega) (by decide) dL_law_558 dL_law_559 dL_law_561 dL_law_562 dL_law_563 ?_
  refine lw_mci C (As := [.int (xs (6 * i + 1)), .int (xs (6 * i + 2)), .int (xs (6 * i + 3))]) (rest := []) (K := (hy_klay S (xs (6 * i + 1)) (xs (6 * i + 2)) (xs (6 * i + 3)))) (V := (hy_vlay S (xs (6 * i + 1)) (xs (6 * i + 3)))) (S2 := (hy_slay S (xs (6 * i + 1)) (xs (6 * i + 2)) (xs (6 * i + 3)))) hP hD hS (fun sz => c_X2_lay l D cI cJ cB n0 bM sM zM tM xM kM wM eM S th tk hwf sz (xs (6 * i + 1)) (xs (6 * i + 2)) (xs (6 * i + 3))) (cwV 3 hts gL_law_X2_lay rfl rfl rfl (by decide +kernel) ⟨Nat.le_of_ble_eq_true rfl, Nat.le_of_ble_eq_true rfl⟩) rfl hl.1 (by decide) dL_law_564 ⟨by omega, by omega⟩ (fun r tk H locs hr hP hD hS => ?_)
  refine lv_istore (lv' := [(6, .int r), (5, .int (hy_klay S (xs (6 * i + 1)) (xs (6 * i + 2)) (xs (6 * i + 3)))), (4, .int (nI (6 * i))), (3, .ref o), (2, .ref n0), (1, .ref h), (0, .ref b)]) hx hb dL_law_567 hl (by decide) rfl (fun ls hl => ?_)
  have hwf9 : hy_wf (hy_if (hy_klay S (xs (6 * i + 1)) (xs (6 * i + 2)) (xs (6 * i + 3))) (hy_slay S (xs (6 * i + 1)) (xs (6 * i + 2)) (xs (6 * i + 3))) S) := hy_wf_if hwf (hy_wf_lay hwf)
  have fin : ∀ g9, g9 = F0 m 1311 ls [] → W p l e room_1 s m #[Value.ref b] below meth c H locs (cells + 8) (slots + 40) Q g9 := fun g9 e9 => by rw [e9]; exact kk H locs ls ⟨b1, k, w, z, ad, ca, f, hy_if (hy_klay S (xs (6 * i + 1)) (xs (6 * i + 2)) (xs (6 * i + 3))) (hy_slay S (xs (6 * i + 1)) (xs (6 * i + 2)) (xs (6 * i + 3))) S, (hy_klay S (xs (6 * i + 1)) (xs (6 * i + 2)) (xs (6 * i + 3))), tk, hwf9, lv_sub hl [2, 3, 4, 5, 6] rfl, hP, hD, hS⟩
  refine W.widen (k := cells + 8) (n := slots + 40) (by omega) (by omega) ?_
  refine lv_aload_n hx hb dL_law_569 rfl (lv_at hl 4 rfl) ?_
  refine lw_th C hP hD hl.1 dL_law_570 ⟨by omega, by omega⟩ ?_
  refine lv_iload hx hb dL_law_573 (lv_at hl 1 rfl) ?_
  refine lv_icmp_eq (tgt := 580) hx hb dL_law_575 (by decide) (fun _ => ?_) (fun q => absurd rfl q)
  refine lv_iload hx hb dL_law_580 (lv_at hl 1 rfl) ?_
  refine lv_if_ne (tgt := 597) hx hb dL_law_582 (by decide) (fun q => ?_) (fun hk0 => ?_)
  · exact lv_goto (tgt := 1311) hx hb dL_law_597 (by decide) (fin _ rfl)
  · have hr := hr hk0
    have hv := hv hk0
    refine lv_aload_n hx hb dL_law_585 rfl (lv_at hl 3 rfl) ?_
    refine lv_iconst (v := 0) hx hb dL_law_586 (by decide) ?_
    refine va_lald hx hb hK hP 0 1 rfl rfl (vp_in_nI (n := 0) (by decide) (by decide)) dL_law_587 ?_
    refine lv_iload hx hb dL_law_588 (lv_at hl 0 rfl) ?_
    refine lv_i2l (v := r.toInt64) hx hb dL_law_590 rfl ?_
    refine W.lcmp hx hb dL_law_591 ?_
    refine lv_if_eq (tgt := 597) hx hb dL_law_592 (by decide) (fun _ => ?_) (fun q => absurd (hy_cmp0 (hv.trans (congrArg Int32.toInt64 hr.symm))) q)
    exact lv_goto (tgt := 1311) hx hb dL_law_597 (by decide) (fin _ rfl)
set_option maxHeartbeats 4000000 in
set_option maxRecDepth 100000 in
theorem lw_case_lift {p : Program} {l : Launch} {e : Env} {s : State} {m : MethodId} {below : List Frame} {meth : Method} {c : Code} {Q : State → Prop} {b L : Nat} {xs : Nat → Int32} {D : va_G} {cI cJ cB : ClassId} {o h n0 bM sM zM tM xM kM wM eM : Nat} (C : hy_LC p l s m c b L xs D cI cJ cB) {i cells slots : Nat} (hi : 6 * i + 6 ≤ L) (hc : cells + 8 ≤ 601024) (hs : slots + 40 ≤ 7293034) {H : Heap} {locs : List Loc} {ls : Array Slot} (hI : hy_LI D cI cJ cB b o h n0 bM sM zM tM xM kM wM eM s i H locs ls)
    (kk : ∀ H locs ls, hy_LI D cI cJ cB b o h n0 bM sM zM tM xM kM wM eM s i H locs ls → W p l e room_1 s m #[Value.ref b] below meth c H locs (cells + 8) (slots + 40) Q (F0 m 1311 ls [])) : W p l e room_1 s m #[Value.ref b] below meth c H locs cells slots Q (F0 m 600 ls []) := by
  obtain ⟨hx, hb, hml, hown, hts, hX, hbl, hL, hl9, hK, hE, hZ, hN⟩ := id C
  obtain ⟨b1, k, w, z, ad, ca, f, S, th, tk, hwf, hl, hP, hD, hS⟩ := hI
  refine lv_aload_n hx hb dL_law_600 rfl (lv_at hl 3 rfl) ?_
  refine lw_rd C (k := 1) (i := i) hS (lv_at hl 4 rfl) (lv_at hl 0 rfl) (by omega) (by decide) dL_law_601 dL_law_602 dL_law_604 dL_law_605 dL_law_606 ?_
  refine lw_rd C (k := 2) (i := i) hS (lv_at hl 4 rfl) (lv_at hl 0 rfl) (by omega) (by decide) dL_law_607 dL_law_608 dL_law_610 dL_law_611 dL_law_612 ?_
  refine lv_aload_n hx hb dL_law_613 rfl (lv_at hl 1 rfl) ?_
  refine lw_wc C (As := [.ref h, .int (xs (6 * i + 1)), .int (xs (6 * i + 2)), .ref o]) (K := (hy_klift S (xs (6 * i + 1)) (xs (6 * i + 2)))) (V := (((hy_at S (xs (6 * i + 1)) (xs (6 * i + 2))).toInt32).toInt64)) (S := S) (S2 := (hy_slift S (xs (6 * i + 1)) (xs (6 * i + 2)))) hP hD hS (fun sz => c_L_lift l D cI cJ cB h b1 k w z ad ca S o f hl9 hwf sz (xs (6 * i + 1)) (xs (6 * i + 2))) (vx_cwSW 4 hts gL_law_L_lift rfl rfl rfl (by decide +kernel) ⟨Nat.le_of_ble_eq_true rfl, Nat.le_of_ble_eq_true rfl⟩) rfl hl.1 dL_law_614 ⟨by omega, by omega⟩ (fun b1 k w z ad ca f H locs hv hP hD hS => ?_)
  refine lv_istore (lv' := [(5, .int (hy_klift S (xs (6 * i + 1)) (xs (6 * i + 2)))), (4, .int (nI (6 * i))), (3, .ref o), (2, .ref n0), (1, .ref h), (0, .ref b)]) hx hb dL_law_617 hl (by decide) rfl (fun ls hl => ?_)
  refine lv_aload_n hx hb dL_law_619 rfl (lv_at hl 3 rfl) ?_
  refine lw_rd C (k := 1) (i := i) hS (lv_at hl 5 rfl) (lv_at hl 1 rfl) (by omega) (by decide) dL_law_620 dL_law_621 dL_law_623 dL_law_624 dL_law_625 ?_
  refine lw_rd C (k := 2) (i := i) hS (lv_at hl 5 rfl) (lv_at hl 1 rfl) (by omega) (by decide) dL_law_626 dL_law_627 dL_law_629 dL_law_630 dL_law_631 ?_
  refine lw_mci C (As := [.int (xs (6 * i + 1)), .int (xs (6 * i + 2))]) (rest := []) (K := (hy_klift S (xs (6 * i + 1)) (xs (6 * i + 2)))) (V := ((hy_at S (xs (6 * i + 1)) (xs (6 * i + 2))).toInt32)) (S2 := (hy_slift S (xs (6 * i + 1)) (xs (6 * i + 2)))) hP hD hS (fun sz => c_X2_lift l D cI cJ cB n0 bM sM zM tM xM kM wM eM S th tk hwf sz (xs (6 * i + 1)) (xs (6 * i + 2))) (cwV 2 hts gL_law_X2_lift rfl rfl rfl (by decide +kernel) ⟨Nat.le_of_ble_eq_true rfl, Nat.le_of_ble_eq_true rfl⟩) rfl hl.1 (by decide) dL_law_632 ⟨by omega, by omega⟩ (fun r tk H locs hr hP hD hS => ?_)
  refine lv_istore (lv' := [(6, .int r), (5, .int (hy_klift S (xs (6 * i + 1)) (xs (6 * i + 2)))), (4, .int (nI (6 * i))), (3, .ref o), (2, .ref n0), (1, .ref h), (0, .ref b)]) hx hb dL_law_635 hl (by decide) rfl (fun ls hl => ?_)
  have hwf9 : hy_wf (hy_if (hy_klift S (xs (6 * i + 1)) (xs (6 * i + 2))) (hy_slift S (xs (6 * i + 1)) (xs (6 * i + 2))) S) := hy_wf_if hwf (hy_wf_lift hwf)
  have fin : ∀ g9, g9 = F0 m 1311 ls [] → W p l e room_1 s m #[Value.ref b] below meth c H locs (cells + 8) (slots + 40) Q g9 := fun g9 e9 => by rw [e9]; exact kk H locs ls ⟨b1, k, w, z, ad, ca, f, hy_if (hy_klift S (xs (6 * i + 1)) (xs (6 * i + 2))) (hy_slift S (xs (6 * i + 1)) (xs (6 * i + 2))) S, (hy_klift S (xs (6 * i + 1)) (xs (6 * i + 2))), tk, hwf9, lv_sub hl [2, 3, 4, 5, 6] rfl, hP, hD, hS⟩
  refine W.widen (k := cells + 8) (n := slots + 40) (by omega) (by omega) ?_
  refine lv_aload_n hx hb dL_law_637 rfl (lv_at hl 4 rfl) ?_
  refine lw_th C hP hD hl.1 dL_law_638 ⟨by omega, by omega⟩ ?_
  refine lv_iload hx hb dL_law_641 (lv_at hl 1 rfl) ?_
  refine lv_icmp_eq (tgt := 648) hx hb dL_law_643 (by decide) (fun _ => ?_) (fun q => absurd rfl q)
  refine lv_iload hx hb dL_law_648 (lv_at hl 1 rfl) ?_
  refine lv_if_ne (tgt := 665) hx hb dL_law_650 (by decide) (fun q => ?_) (fun hk0 => ?_)
  · exact lv_goto (tgt := 1311) hx hb dL_law_665 (by decide) (fin _ rfl)
  · have hr := hr hk0
    have hv := hv hk0
    refine lv_aload_n hx hb dL_law_653 rfl (lv_at hl 3 rfl) ?_
    refine lv_iconst (v := 0) hx hb dL_law_654 (by decide) ?_
    refine va_lald hx hb hK hP 0 1 rfl rfl (vp_in_nI (n := 0) (by decide) (by decide)) dL_law_655 ?_
    refine lv_iload hx hb dL_law_656 (lv_at hl 0 rfl) ?_
    refine lv_i2l (v := r.toInt64) hx hb dL_law_658 rfl ?_
    refine W.lcmp hx hb dL_law_659 ?_
    refine lv_if_eq (tgt := 665) hx hb dL_law_660 (by decide) (fun _ => ?_) (fun q => absurd (hy_cmp0 (hv.trans (congrArg Int32.toInt64 hr.symm))) q)
    exact lv_goto (tgt := 1311) hx hb dL_law_665 (by decide) (fin _ rfl)
set_option maxHeartbeats 4000000 in
set_option maxRecDepth 100000 in
theorem lw_case_move {p : Program} {l : Launch} {e : Env} {s : State} {m : MethodId} {below : List Frame} {meth : Method} {c : Code} {Q : State → Prop} {b L : Nat} {xs : Nat → Int32} {D : va_G} {cI cJ cB : ClassId} {o h n0 bM sM zM tM xM kM wM eM : Nat} (C : hy_LC p l s m c b L xs D cI cJ cB) {i cells slots : Nat} (hi : 6 * i + 6 ≤ L) (hc : cells + 8 ≤ 601024) (hs : slots + 40 ≤ 7293034) {H : Heap} {locs : List Loc} {ls : Array Slot} (hI : hy_LI D cI cJ cB b o h n0 bM sM zM tM xM kM wM eM s i H locs ls)
    (kk : ∀ H locs ls, hy_LI D cI cJ cB b o h n0 bM sM zM tM xM kM wM eM s i H locs ls → W p l e room_1 s m #[Value.ref b] below meth c H locs (cells + 8) (slots + 40) Q (F0 m 1311 ls [])) : W p l e room_1 s m #[Value.ref b] below meth c H locs cells slots Q (F0 m 668 ls []) := by
  obtain ⟨hx, hb, hml, hown, hts, hX, hbl, hL, hl9, hK, hE, hZ, hN⟩ := id C
  obtain ⟨b1, k, w, z, ad, ca, f, S, th, tk, hwf, hl, hP, hD, hS⟩ := hI
  refine lv_aload_n hx hb dL_law_668 rfl (lv_at hl 3 rfl) ?_
  refine lw_rd C (k := 1) (i := i) hS (lv_at hl 4 rfl) (lv_at hl 0 rfl) (by omega) (by decide) dL_law_669 dL_law_670 dL_law_672 dL_law_673 dL_law_674 ?_
  refine lw_rd C (k := 2) (i := i) hS (lv_at hl 4 rfl) (lv_at hl 0 rfl) (by omega) (by decide) dL_law_675 dL_law_676 dL_law_678 dL_law_679 dL_law_680 ?_
  refine lw_rd C (k := 3) (i := i) hS (lv_at hl 4 rfl) (lv_at hl 0 rfl) (by omega) (by decide) dL_law_681 dL_law_682 dL_law_684 dL_law_685 dL_law_686 ?_
  refine lw_rd C (k := 4) (i := i) hS (lv_at hl 4 rfl) (lv_at hl 0 rfl) (by omega) (by decide) dL_law_687 dL_law_688 dL_law_690 dL_law_691 dL_law_692 ?_
  refine lw_rd C (k := 5) (i := i) hS (lv_at hl 4 rfl) (lv_at hl 0 rfl) (by omega) (by decide) dL_law_693 dL_law_694 dL_law_696 dL_law_697 dL_law_698 ?_
  refine lv_aload_n hx hb dL_law_699 rfl (lv_at hl 1 rfl) ?_
  refine lw_wc C (As := [.ref h, .int (xs (6 * i + 1)), .int (xs (6 * i + 2)), .int (xs (6 * i + 3)), .int (xs (6 * i + 4)), .int (xs (6 * i + 5)), .ref o]) (K := (hy_k2b (xs (6 * i + 1)) (xs (6 * i + 3)))) (V := ((hy_vmove S (xs (6 * i + 1)) (xs (6 * i + 2)) (xs (6 * i + 3)) (xs (6 * i + 4)) (xs (6 * i + 5))).toInt64)) (S := S) (S2 := (hy_smove S (xs (6 * i + 1)) (xs (6 * i + 2)) (xs (6 * i + 3)) (xs (6 * i + 4)) (xs (6 * i + 5)))) hP hD hS (fun sz => c_L_move l D cI cJ cB h b1 k w z ad ca S o f hl9 hwf sz (xs (6 * i + 1)) (xs (6 * i + 2)) (xs (6 * i + 3)) (xs (6 * i + 4)) (xs (6 * i + 5))) (vx_cwSW 7 hts gL_law_L_move rfl rfl rfl (by decide +kernel) ⟨Nat.le_of_ble_eq_true rfl, Nat.le_of_ble_eq_true rfl⟩) rfl hl.1 dL_law_700 ⟨by omega, by omega⟩ (fun b1 k w z ad ca f H locs hv hP hD hS => ?_)
  refine lv_istore (lv' := [(5, .int (hy_k2b (xs (6 * i + 1)) (xs (6 * i + 3)))), (4, .int (nI (6 * i))), (3, .ref o), (2, .ref n0), (1, .ref h), (0, .ref b)]) hx hb dL_law_703 hl (by decide) rfl (fun ls hl => ?_)
  refine lv_aload_n hx hb dL_law_705 rfl (lv_at hl 3 rfl) ?_
  refine lw_rd C (k := 1) (i := i) hS (lv_at hl 5 rfl) (lv_at hl 1 rfl) (by omega) (by decide) dL_law_706 dL_law_707 dL_law_709 dL_law_710 dL_law_711 ?_
  refine lw_rd C (k := 2) (i := i) hS (lv_at hl 5 rfl) (lv_at hl 1 rfl) (by omega) (by decide) dL_law_712 dL_law_713 dL_law_715 dL_law_716 dL_law_717 ?_
  refine lw_rd C (k := 3) (i := i) hS (lv_at hl 5 rfl) (lv_at hl 1 rfl) (by omega) (by decide) dL_law_718 dL_law_719 dL_law_721 dL_law_722 dL_law_723 ?_
  refine lw_rd C (k := 4) (i := i) hS (lv_at hl 5 rfl) (lv_at hl 1 rfl) (by omega) (by decide) dL_law_724 dL_law_725 dL_law_727 dL_law_728 dL_law_729 ?_
  refine lw_rd C (k := 5) (i := i) hS (lv_at hl 5 rfl) (lv_at hl 1 rfl) (by omega) (by decide) dL_law_730 dL_law_731 dL_law_733 dL_law_734 dL_law_735 ?_
  refine lw_mci C (As := [.int (xs (6 * i + 1)), .int (xs (6 * i + 2)), .int (xs (6 * i + 3)), .int (xs (6 * i + 4)), .int (xs (6 * i + 5))]) (rest := []) (K := (hy_k2b (xs (6 * i + 1)) (xs (6 * i + 3)))) (V := (hy_vmove S (xs (6 * i + 1)) (xs (6 * i + 2)) (xs (6 * i + 3)) (xs (6 * i + 4)) (xs (6 * i + 5)))) (S2 := (hy_smove S (xs (6 * i + 1)) (xs (6 * i + 2)) (xs (6 * i + 3)) (xs (6 * i + 4)) (xs (6 * i + 5)))) hP hD hS (fun sz => c_X2_move l D cI cJ cB n0 bM sM zM tM xM kM wM eM S th tk hwf sz (xs (6 * i + 1)) (xs (6 * i + 2)) (xs (6 * i + 3)) (xs (6 * i + 4)) (xs (6 * i + 5))) (cwV 5 hts gL_law_X2_move rfl rfl rfl (by decide +kernel) ⟨Nat.le_of_ble_eq_true rfl, Nat.le_of_ble_eq_true rfl⟩) rfl hl.1 (by decide) dL_law_736 ⟨by omega, by omega⟩ (fun r tk H locs hr hP hD hS => ?_)
  refine lv_istore (lv' := [(6, .int r), (5, .int (hy_k2b (xs (6 * i + 1)) (xs (6 * i + 3)))), (4, .int (nI (6 * i))), (3, .ref o), (2, .ref n0), (1, .ref h), (0, .ref b)]) hx hb dL_law_739 hl (by decide) rfl (fun ls hl => ?_)
  have hwf9 : hy_wf (hy_if (hy_k2b (xs (6 * i + 1)) (xs (6 * i + 3))) (hy_smove S (xs (6 * i + 1)) (xs (6 * i + 2)) (xs (6 * i + 3)) (xs (6 * i + 4)) (xs (6 * i + 5))) S) := hy_wf_if hwf (fun _ => hy_wf_move hwf _ _ _ _ _)
  have fin : ∀ g9, g9 = F0 m 1311 ls [] → W p l e room_1 s m #[Value.ref b] below meth c H locs (cells + 8) (slots + 40) Q g9 := fun g9 e9 => by rw [e9]; exact kk H locs ls ⟨b1, k, w, z, ad, ca, f, hy_if (hy_k2b (xs (6 * i + 1)) (xs (6 * i + 3))) (hy_smove S (xs (6 * i + 1)) (xs (6 * i + 2)) (xs (6 * i + 3)) (xs (6 * i + 4)) (xs (6 * i + 5))) S, (hy_k2b (xs (6 * i + 1)) (xs (6 * i + 3))), tk, hwf9, lv_sub hl [2, 3, 4, 5, 6] rfl, hP, hD, hS⟩
  refine W.widen (k := cells + 8) (n := slots + 40) (by omega) (by omega) ?_
  refine lv_aload_n hx hb dL_law_741 rfl (lv_at hl 4 rfl) ?_
  refine lw_th C hP hD hl.1 dL_law_742 ⟨by omega, by omega⟩ ?_
  refine lv_iload hx hb dL_law_745 (lv_at hl 1 rfl) ?_
  refine lv_icmp_eq (tgt := 752) hx hb dL_law_747 (by decide) (fun _ => ?_) (fun q => absurd rfl q)
  refine lv_iload hx hb dL_law_752 (lv_at hl 1 rfl) ?_
  refine lv_if_ne (tgt := 769) hx hb dL_law_754 (by decide) (fun q => ?_) (fun hk0 => ?_)
  · exact lv_goto (tgt := 1311) hx hb dL_law_769 (by decide) (fin _ rfl)
  · have hr := hr hk0
    have hv := hv hk0
    refine lv_aload_n hx hb dL_law_757 rfl (lv_at hl 3 rfl) ?_
    refine lv_iconst (v := 0) hx hb dL_law_758 (by decide) ?_
    refine va_lald hx hb hK hP 0 1 rfl rfl (vp_in_nI (n := 0) (by decide) (by decide)) dL_law_759 ?_
    refine lv_iload hx hb dL_law_760 (lv_at hl 0 rfl) ?_
    refine lv_i2l (v := r.toInt64) hx hb dL_law_762 rfl ?_
    refine W.lcmp hx hb dL_law_763 ?_
    refine lv_if_eq (tgt := 769) hx hb dL_law_764 (by decide) (fun _ => ?_) (fun q => absurd (hy_cmp0 (hv.trans (congrArg Int32.toInt64 hr.symm))) q)
    exact lv_goto (tgt := 1311) hx hb dL_law_769 (by decide) (fin _ rfl)
set_option maxHeartbeats 4000000 in
set_option maxRecDepth 100000 in
theorem lw_case_pour {p : Program} {l : Launch} {e : Env} {s : State} {m : MethodId} {below : List Frame} {meth : Method} {c : Code} {Q : State → Prop} {b L : Nat} {xs : Nat → Int32} {D : va_G} {cI cJ cB : ClassId} {o h n0 bM sM zM tM xM kM wM eM : Nat} (C : hy_LC p l s m c b L xs D cI cJ cB) {i cells slots : Nat} (hi : 6 * i + 6 ≤ L) (hc : cells + 8 ≤ 601024) (hs : slots + 40 ≤ 7293034) {H : Heap} {locs : List Loc} {ls : Array Slot} (hI : hy_LI D cI cJ cB b o h n0 bM sM zM tM xM kM wM eM s i H locs ls)
    (kk : ∀ H locs ls, hy_LI D cI cJ cB b o h n0 bM sM zM tM xM kM wM eM s i H locs ls → W p l e room_1 s m #[Value.ref b] below meth c H locs (cells + 8) (slots + 40) Q (F0 m 1311 ls [])) : W p l e room_1 s m #[Value.ref b] below meth c H locs cells slots Q (F0 m 772 ls []) := by
  obtain ⟨hx, hb, hml, hown, hts, hX, hbl, hL, hl9, hK, hE, hZ, hN⟩ := id C
  obtain ⟨b1, k, w, z, ad, ca, f, S, th, tk, hwf, hl, hP, hD, hS⟩ := hI
  refine lv_aload_n hx hb dL_law_772 rfl (lv_at hl 3 rfl) ?_
  refine lw_rd C (k := 1) (i := i) hS (lv_at hl 4 rfl) (lv_at hl 0 rfl) (by omega) (by decide) dL_law_773 dL_law_774 dL_law_776 dL_law_777 dL_law_778 ?_
  refine lw_rd C (k := 2) (i := i) hS (lv_at hl 4 rfl) (lv_at hl 0 rfl) (by omega) (by decide) dL_law_779 dL_law_780 dL_law_782 dL_law_783 dL_law_784 ?_
  refine lv_aload_n hx hb dL_law_785 rfl (lv_at hl 1 rfl) ?_
  refine lw_wc C (As := [.ref h, .int (xs (6 * i + 1)), .int (xs (6 * i + 2)), .ref o]) (K := (hy_k2b (xs (6 * i + 1)) (xs (6 * i + 2)))) (V := ((hy_vpour S (xs (6 * i + 1)) (xs (6 * i + 2))).toInt64)) (S := S) (S2 := (hy_spour S (xs (6 * i + 1)) (xs (6 * i + 2)))) hP hD hS (fun sz => c_L_pour l D cI cJ cB h b1 k w z ad ca S o f hl9 hwf sz (xs (6 * i + 1)) (xs (6 * i + 2))) (vx_cwSW 4 hts gL_law_L_pour rfl rfl rfl (by decide +kernel) ⟨Nat.le_of_ble_eq_true rfl, Nat.le_of_ble_eq_true rfl⟩) rfl hl.1 dL_law_786 ⟨by omega, by omega⟩ (fun b1 k w z ad ca f H locs hv hP hD hS => ?_)
  refine lv_istore (lv' := [(5, .int (hy_k2b (xs (6 * i + 1)) (xs (6 * i + 2)))), (4, .int (nI (6 * i))), (3, .ref o), (2, .ref n0), (1, .ref h), (0, .ref b)]) hx hb dL_law_789 hl (by decide) rfl (fun ls hl => ?_)
  refine lv_aload_n hx hb dL_law_791 rfl (lv_at hl 3 rfl) ?_
  refine lw_rd C (k := 1) (i := i) hS (lv_at hl 5 rfl) (lv_at hl 1 rfl) (by omega) (by decide) dL_law_792 dL_law_793 dL_law_795 dL_law_796 dL_law_797 ?_
  refine lw_rd C (k := 2) (i := i) hS (lv_at hl 5 rfl) (lv_at hl 1 rfl) (by omega) (by decide) dL_law_798 dL_law_799 dL_law_801 dL_law_802 dL_law_803 ?_
  refine lw_mci C (As := [.int (xs (6 * i + 1)), .int (xs (6 * i + 2))]) (rest := []) (K := (hy_k2b (xs (6 * i + 1)) (xs (6 * i + 2)))) (V := (hy_vpour S (xs (6 * i + 1)) (xs (6 * i + 2)))) (S2 := (hy_spour S (xs (6 * i + 1)) (xs (6 * i + 2)))) hP hD hS (fun sz => c_X2_pour l D cI cJ cB n0 bM sM zM tM xM kM wM eM S th tk hwf sz (xs (6 * i + 1)) (xs (6 * i + 2))) (cwV 2 hts gL_law_X2_pour rfl rfl rfl (by decide +kernel) ⟨Nat.le_of_ble_eq_true rfl, Nat.le_of_ble_eq_true rfl⟩) rfl hl.1 (by decide) dL_law_804 ⟨by omega, by omega⟩ (fun r tk H locs hr hP hD hS => ?_)
  refine lv_istore (lv' := [(6, .int r), (5, .int (hy_k2b (xs (6 * i + 1)) (xs (6 * i + 2)))), (4, .int (nI (6 * i))), (3, .ref o), (2, .ref n0), (1, .ref h), (0, .ref b)]) hx hb dL_law_807 hl (by decide) rfl (fun ls hl => ?_)
  have hwf9 : hy_wf (hy_if (hy_k2b (xs (6 * i + 1)) (xs (6 * i + 2))) (hy_spour S (xs (6 * i + 1)) (xs (6 * i + 2))) S) := hy_wf_if hwf (fun _ => hy_wf_pour hwf _ _)
  have fin : ∀ g9, g9 = F0 m 1311 ls [] → W p l e room_1 s m #[Value.ref b] below meth c H locs (cells + 8) (slots + 40) Q g9 := fun g9 e9 => by rw [e9]; exact kk H locs ls ⟨b1, k, w, z, ad, ca, f, hy_if (hy_k2b (xs (6 * i + 1)) (xs (6 * i + 2))) (hy_spour S (xs (6 * i + 1)) (xs (6 * i + 2))) S, (hy_k2b (xs (6 * i + 1)) (xs (6 * i + 2))), tk, hwf9, lv_sub hl [2, 3, 4, 5, 6] rfl, hP, hD, hS⟩
  refine W.widen (k := cells + 8) (n := slots + 40) (by omega) (by omega) ?_
  refine lv_aload_n hx hb dL_law_809 rfl (lv_at hl 4 rfl) ?_
  refine lw_th C hP hD hl.1 dL_law_810 ⟨by omega, by omega⟩ ?_
  refine lv_iload hx hb dL_law_813 (lv_at hl 1 rfl) ?_
  refine lv_icmp_eq (tgt := 820) hx hb dL_law_815 (by decide) (fun _ => ?_) (fun q => absurd rfl q)
  refine lv_iload hx hb dL_law_820 (lv_at hl 1 rfl) ?_
  refine lv_if_ne (tgt := 837) hx hb dL_law_822 (by decide) (fun q => ?_) (fun hk0 => ?_)
  · exact lv_goto (tgt := 1311) hx hb dL_law_837 (by decide) (fin _ rfl)
  · have hr := hr hk0
    have hv := hv hk0
    refine lv_aload_n hx hb dL_law_825 rfl (lv_at hl 3 rfl) ?_
    refine lv_iconst (v := 0) hx hb dL_law_826 (by decide) ?_
    refine va_lald hx hb hK hP 0 1 rfl rfl (vp_in_nI (n := 0) (by decide) (by decide)) dL_law_827 ?_
    refine lv_iload hx hb dL_law_828 (lv_at hl 0 rfl) ?_
    refine lv_i2l (v := r.toInt64) hx hb dL_law_830 rfl ?_
    refine W.lcmp hx hb dL_law_831 ?_
    refine lv_if_eq (tgt := 837) hx hb dL_law_832 (by decide) (fun _ => ?_) (fun q => absurd (hy_cmp0 (hv.trans (congrArg Int32.toInt64 hr.symm))) q)
    exact lv_goto (tgt := 1311) hx hb dL_law_837 (by decide) (fin _ rfl)
set_option maxHeartbeats 4000000 in
set_option maxRecDepth 100000 in
theorem lw_case_moved {p : Program} {l : Launch} {e : Env} {s : State} {m : MethodId} {below : List Frame} {meth : Method} {c : Code} {Q : State → Prop} {b L : Nat} {xs : Nat → Int32} {D : va_G} {cI cJ cB : ClassId} {o h n0 bM sM zM tM xM kM wM eM : Nat} (C : hy_LC p l s m c b L xs D cI cJ cB) {i cells slots : Nat} (hi : 6 * i + 6 ≤ L) (hc : cells + 8 ≤ 601024) (hs : slots + 40 ≤ 7293034) {H : Heap} {locs : List Loc} {ls : Array Slot} (hI : hy_LI D cI cJ cB b o h n0 bM sM zM tM xM kM wM eM s i H locs ls)
    (kk : ∀ H locs ls, hy_LI D cI cJ cB b o h n0 bM sM zM tM xM kM wM eM s i H locs ls → W p l e room_1 s m #[Value.ref b] below meth c H locs (cells + 8) (slots + 40) Q (F0 m 1311 ls [])) : W p l e room_1 s m #[Value.ref b] below meth c H locs cells slots Q (F0 m 840 ls []) := by
  obtain ⟨hx, hb, hml, hown, hts, hX, hbl, hL, hl9, hK, hE, hZ, hN⟩ := id C
  obtain ⟨b1, k, w, z, ad, ca, f, S, th, tk, hwf, hl, hP, hD, hS⟩ := hI
  refine lv_aload_n hx hb dL_law_840 rfl (lv_at hl 3 rfl) ?_
  have hPw := (hy_left hP hD).1
  have hPw : va_P D vwCl (hy_W cI cJ cB h b1 k w z ad ca S) H := fun k9 q9 h9 => hPw (k9 + 1) q9 h9
  refine vp_callSi (W.runV (As := []) (rest := []) ⟨hx, hb, hml, hown, hts⟩ (c_X1_moved l D cI cJ cB h b1 k w z ad ca S ) (cwV 0 hts gL_law_X1_moved rfl rfl rfl (by decide +kernel) ⟨Nat.le_of_ble_eq_true rfl, Nat.le_of_ble_eq_true rfl⟩) ⟨hy_I_blind, va_recv hK hPw (ci := 1) (q0 := 0) rfl rfl, fun U hU hW => ⟨rfl, hy_I_at hU hW hPw hK⟩⟩ rfl rfl hl.1 rfl (lv_room (by decide)) dL_law_841 ⟨by show cells + 0 ≤ 601024; omega, by show slots + 0 ≤ 7293034; omega⟩) (fun v9 e9 => ?_)
  subst e9
  refine lv_aload_n hx hb dL_law_844 rfl (lv_at hl 2 rfl) ?_
  refine lw_mci C (As := []) (rest := [.int (hy_lm S)]) (K := 0) (V := (hy_lm S)) (S2 := S) hP hD hS (fun sz => c_X2_moved l D cI cJ cB n0 bM sM zM tM xM kM wM eM S th tk hwf sz ) (cwV 0 hts gL_law_X2_moved rfl rfl rfl (by decide +kernel) ⟨Nat.le_of_ble_eq_true rfl, Nat.le_of_ble_eq_true rfl⟩) rfl hl.1 (Nat.le_of_ble_eq_true rfl) dL_law_845 ⟨by omega, by omega⟩ (fun r tk H locs hr hP hD hS => ?_)
  rw [hy_if_0] at hP hD
  refine lv_icmp_eq (tgt := 1311) hx hb dL_law_848 (by decide) (fun _ => ?_) (fun q => absurd (hr rfl).symm q)
  refine W.widen (k := cells + 8) (n := slots + 40) (by omega) (by omega) ?_
  exact kk H locs ls ⟨b1, k, w, z, ad, ca, f, S, 0, tk, hwf, lv_sub hl [0, 1, 2, 3, 4] rfl, hP, hD, hS⟩
set_option maxHeartbeats 4000000 in
set_option maxRecDepth 100000 in
theorem lw_case_at {p : Program} {l : Launch} {e : Env} {s : State} {m : MethodId} {below : List Frame} {meth : Method} {c : Code} {Q : State → Prop} {b L : Nat} {xs : Nat → Int32} {D : va_G} {cI cJ cB : ClassId} {o h n0 bM sM zM tM xM kM wM eM : Nat} (C : hy_LC p l s m c b L xs D cI cJ cB) {i cells slots : Nat} (hi : 6 * i + 6 ≤ L) (hc : cells + 8 ≤ 601024) (hs : slots + 40 ≤ 7293034) {H : Heap} {locs : List Loc} {ls : Array Slot} (hI : hy_LI D cI cJ cB b o h n0 bM sM zM tM xM kM wM eM s i H locs ls)
    (kk : ∀ H locs ls, hy_LI D cI cJ cB b o h n0 bM sM zM tM xM kM wM eM s i H locs ls → W p l e room_1 s m #[Value.ref b] below meth c H locs (cells + 8) (slots + 40) Q (F0 m 1311 ls [])) : W p l e room_1 s m #[Value.ref b] below meth c H locs cells slots Q (F0 m 853 ls []) := by
  obtain ⟨hx, hb, hml, hown, hts, hX, hbl, hL, hl9, hK, hE, hZ, hN⟩ := id C
  obtain ⟨b1, k, w, z, ad, ca, f, S, th, tk, hwf, hl, hP, hD, hS⟩ := hI
  refine lv_aload_n hx hb dL_law_853 rfl (lv_at hl 3 rfl) ?_
  refine lw_rd C (k := 1) (i := i) hS (lv_at hl 4 rfl) (lv_at hl 0 rfl) (by omega) (by decide) dL_law_854 dL_law_855 dL_law_857 dL_law_858 dL_law_859 ?_
  refine lw_rd C (k := 2) (i := i) hS (lv_at hl 4 rfl) (lv_at hl 0 rfl) (by omega) (by decide) dL_law_860 dL_law_861 dL_law_863 dL_law_864 dL_law_865 ?_
  refine lv_aload_n hx hb dL_law_866 rfl (lv_at hl 1 rfl) ?_
  refine lw_wc C (As := [.ref h, .int (xs (6 * i + 1)), .int (xs (6 * i + 2)), .ref o]) (K := (hy_kat S (xs (6 * i + 1)) (xs (6 * i + 2)))) (V := (hy_at S (xs (6 * i + 1)) (xs (6 * i + 2)))) (S := S) (S2 := S) hP hD hS (fun sz => c_L_at l D cI cJ cB h b1 k w z ad ca S o f hl9 hwf sz (xs (6 * i + 1)) (xs (6 * i + 2))) (vx_cwSW 4 hts gL_law_L_at rfl rfl rfl (by decide +kernel) ⟨Nat.le_of_ble_eq_true rfl, Nat.le_of_ble_eq_true rfl⟩) rfl hl.1 dL_law_867 ⟨by omega, by omega⟩ (fun b1 k w z ad ca f H locs hv hP hD hS => ?_)
  refine lv_istore (lv' := [(5, .int (hy_kat S (xs (6 * i + 1)) (xs (6 * i + 2)))), (4, .int (nI (6 * i))), (3, .ref o), (2, .ref n0), (1, .ref h), (0, .ref b)]) hx hb dL_law_870 hl (by decide) rfl (fun ls hl => ?_)
  refine lv_aload_n hx hb dL_law_872 rfl (lv_at hl 3 rfl) ?_
  refine lw_rd C (k := 1) (i := i) hS (lv_at hl 5 rfl) (lv_at hl 1 rfl) (by omega) (by decide) dL_law_873 dL_law_874 dL_law_876 dL_law_877 dL_law_878 ?_
  refine lw_rd C (k := 2) (i := i) hS (lv_at hl 5 rfl) (lv_at hl 1 rfl) (by omega) (by decide) dL_law_879 dL_law_880 dL_law_882 dL_law_883 dL_law_884 ?_
  refine lw_mcl C (As := [.int (xs (6 * i + 1)), .int (xs (6 * i + 2))]) (rest := []) (K := (hy_kat S (xs (6 * i + 1)) (xs (6 * i + 2)))) (V := (hy_at S (xs (6 * i + 1)) (xs (6 * i + 2)))) (S2 := S) hP hD hS (fun sz => c_X2_at l D cI cJ cB n0 bM sM zM tM xM kM wM eM S th tk hwf sz (xs (6 * i + 1)) (xs (6 * i + 2))) (cwV 2 hts gL_law_X2_at rfl rfl rfl (by decide +kernel) ⟨Nat.le_of_ble_eq_true rfl, Nat.le_of_ble_eq_true rfl⟩) rfl hl.1 (by decide) dL_law_885 ⟨by omega, by omega⟩ (fun r tk H locs hr hP hD hS => ?_)
  refine lv_lstore (lv' := [(6, .long r), (5, .int (hy_kat S (xs (6 * i + 1)) (xs (6 * i + 2)))), (4, .int (nI (6 * i))), (3, .ref o), (2, .ref n0), (1, .ref h), (0, .ref b)]) hx hb dL_law_888 hl (by decide) rfl (fun ls hl => ?_)
  have hwf9 : hy_wf (hy_if (hy_kat S (xs (6 * i + 1)) (xs (6 * i + 2))) S S) := hy_wf_if hwf (fun _ => hwf)
  have fin : ∀ g9, g9 = F0 m 1311 ls [] → W p l e room_1 s m #[Value.ref b] below meth c H locs (cells + 8) (slots + 40) Q g9 := fun g9 e9 => by rw [e9]; exact kk H locs ls ⟨b1, k, w, z, ad, ca, f, hy_if (hy_kat S (xs (6 * i + 1)) (xs (6 * i + 2))) S S, (hy_kat S (xs (6 * i + 1)) (xs (6 * i + 2))), tk, hwf9, lv_sub hl [2, 3, 4, 5, 6] rfl, hP, hD, hS⟩
  refine W.widen (k := cells + 8) (n := slots + 40) (by omega) (by omega) ?_
  refine lv_aload_n hx hb dL_law_890 rfl (lv_at hl 4 rfl) ?_
  refine lw_th C hP hD hl.1 dL_law_891 ⟨by omega, by omega⟩ ?_
  refine lv_iload hx hb dL_law_894 (lv_at hl 1 rfl) ?_
  refine lv_icmp_eq (tgt := 901) hx hb dL_law_896 (by decide) (fun _ => ?_) (fun q => absurd rfl q)
  refine lv_iload hx hb dL_law_901 (lv_at hl 1 rfl) ?_
  refine lv_if_ne (tgt := 917) hx hb dL_law_903 (by decide) (fun q => ?_) (fun hk0 => ?_)
  · exact lv_goto (tgt := 1311) hx hb dL_law_917 (by decide) (fin _ rfl)
  · have hr := hr hk0
    have hv := hv hk0
    refine lv_aload_n hx hb dL_law_906 rfl (lv_at hl 3 rfl) ?_
    refine lv_iconst (v := 0) hx hb dL_law_907 (by decide) ?_
    refine va_lald hx hb hK hP 0 1 rfl rfl (vp_in_nI (n := 0) (by decide) (by decide)) dL_law_908 ?_
    refine lv_lload hx hb dL_law_909 (lv_at hl 0 rfl) ?_
    refine W.lcmp hx hb dL_law_911 ?_
    refine lv_if_eq (tgt := 917) hx hb dL_law_912 (by decide) (fun _ => ?_) (fun q => absurd (hy_cmp0 (hv.trans hr.symm)) q)
    exact lv_goto (tgt := 1311) hx hb dL_law_917 (by decide) (fin _ rfl)
set_option maxHeartbeats 4000000 in
set_option maxRecDepth 100000 in
theorem lw_case_holds {p : Program} {l : Launch} {e : Env} {s : State} {m : MethodId} {below : List Frame} {meth : Method} {c : Code} {Q : State → Prop} {b L : Nat} {xs : Nat → Int32} {D : va_G} {cI cJ cB : ClassId} {o h n0 bM sM zM tM xM kM wM eM : Nat} (C : hy_LC p l s m c b L xs D cI cJ cB) {i cells slots : Nat} (hi : 6 * i + 6 ≤ L) (hc : cells + 8 ≤ 601024) (hs : slots + 40 ≤ 7293034) {H : Heap} {locs : List Loc} {ls : Array Slot} (hI : hy_LI D cI cJ cB b o h n0 bM sM zM tM xM kM wM eM s i H locs ls)
    (kk : ∀ H locs ls, hy_LI D cI cJ cB b o h n0 bM sM zM tM xM kM wM eM s i H locs ls → W p l e room_1 s m #[Value.ref b] below meth c H locs (cells + 8) (slots + 40) Q (F0 m 1311 ls [])) : W p l e room_1 s m #[Value.ref b] below meth c H locs cells slots Q (F0 m 920 ls []) := by
  obtain ⟨hx, hb, hml, hown, hts, hX, hbl, hL, hl9, hK, hE, hZ, hN⟩ := id C
  obtain ⟨b1, k, w, z, ad, ca, f, S, th, tk, hwf, hl, hP, hD, hS⟩ := hI
  refine lv_aload_n hx hb dL_law_920 rfl (lv_at hl 3 rfl) ?_
  refine lw_rd C (k := 1) (i := i) hS (lv_at hl 4 rfl) (lv_at hl 0 rfl) (by omega) (by decide) dL_law_921 dL_law_922 dL_law_924 dL_law_925 dL_law_926 ?_
  refine lv_aload_n hx hb dL_law_927 rfl (lv_at hl 1 rfl) ?_
  refine lw_wc C (As := [.ref h, .int (xs (6 * i + 1)), .ref o]) (K := (hy_kbox (xs (6 * i + 1)))) (V := ((hy_vhold S (xs (6 * i + 1))).toInt64)) (S := S) (S2 := S) hP hD hS (fun sz => c_L_holds l D cI cJ cB h b1 k w z ad ca S o f hl9 hwf sz (xs (6 * i + 1))) (vx_cwSW 3 hts gL_law_L_holds rfl rfl rfl (by decide +kernel) ⟨Nat.le_of_ble_eq_true rfl, Nat.le_of_ble_eq_true rfl⟩) rfl hl.1 dL_law_928 ⟨by omega, by omega⟩ (fun b1 k w z ad ca f H locs hv hP hD hS => ?_)
  refine lv_istore (lv' := [(5, .int (hy_kbox (xs (6 * i + 1)))), (4, .int (nI (6 * i))), (3, .ref o), (2, .ref n0), (1, .ref h), (0, .ref b)]) hx hb dL_law_931 hl (by decide) rfl (fun ls hl => ?_)
  refine lv_aload_n hx hb dL_law_933 rfl (lv_at hl 3 rfl) ?_
  refine lw_rd C (k := 1) (i := i) hS (lv_at hl 5 rfl) (lv_at hl 1 rfl) (by omega) (by decide) dL_law_934 dL_law_935 dL_law_937 dL_law_938 dL_law_939 ?_
  refine lw_mci C (As := [.int (xs (6 * i + 1))]) (rest := []) (K := (hy_kbox (xs (6 * i + 1)))) (V := (hy_vhold S (xs (6 * i + 1)))) (S2 := S) hP hD hS (fun sz => c_X2_holds l D cI cJ cB n0 bM sM zM tM xM kM wM eM S th tk hwf sz (xs (6 * i + 1))) (cwV 1 hts gL_law_X2_holds rfl rfl rfl (by decide +kernel) ⟨Nat.le_of_ble_eq_true rfl, Nat.le_of_ble_eq_true rfl⟩) rfl hl.1 (by decide) dL_law_940 ⟨by omega, by omega⟩ (fun r tk H locs hr hP hD hS => ?_)
  refine lv_istore (lv' := [(6, .int r), (5, .int (hy_kbox (xs (6 * i + 1)))), (4, .int (nI (6 * i))), (3, .ref o), (2, .ref n0), (1, .ref h), (0, .ref b)]) hx hb dL_law_943 hl (by decide) rfl (fun ls hl => ?_)
  have hwf9 : hy_wf (hy_if (hy_kbox (xs (6 * i + 1))) S S) := hy_wf_if hwf (fun _ => hwf)
  have fin : ∀ g9, g9 = F0 m 1311 ls [] → W p l e room_1 s m #[Value.ref b] below meth c H locs (cells + 8) (slots + 40) Q g9 := fun g9 e9 => by rw [e9]; exact kk H locs ls ⟨b1, k, w, z, ad, ca, f, hy_if (hy_kbox (xs (6 * i + 1))) S S, (hy_kbox (xs (6 * i + 1))), tk, hwf9, lv_sub hl [2, 3, 4, 5, 6] rfl, hP, hD, hS⟩
  refine W.widen (k := cells + 8) (n := slots + 40) (by omega) (by omega) ?_
  refine lv_aload_n hx hb dL_law_945 rfl (lv_at hl 4 rfl) ?_
  refine lw_th C hP hD hl.1 dL_law_946 ⟨by omega, by omega⟩ ?_
  refine lv_iload hx hb dL_law_949 (lv_at hl 1 rfl) ?_
  refine lv_icmp_eq (tgt := 956) hx hb dL_law_951 (by decide) (fun _ => ?_) (fun q => absurd rfl q)
  refine lv_iload hx hb dL_law_956 (lv_at hl 1 rfl) ?_
  refine lv_if_ne (tgt := 973) hx hb dL_law_958 (by decide) (fun q => ?_) (fun hk0 => ?_)
  · exact lv_goto (tgt := 1311) hx hb dL_law_973 (by decide) (fin _ rfl)
  · have hr := hr hk0
    have hv := hv hk0
    refine lv_aload_n hx hb dL_law_961 rfl (lv_at hl 3 rfl) ?_
    refine lv_iconst (v := 0) hx hb dL_law_962 (by decide) ?_
    refine va_lald hx hb hK hP 0 1 rfl rfl (vp_in_nI (n := 0) (by decide) (by decide)) dL_law_963 ?_
    refine lv_iload hx hb dL_law_964 (lv_at hl 0 rfl) ?_
    refine lv_i2l (v := r.toInt64) hx hb dL_law_966 rfl ?_
    refine W.lcmp hx hb dL_law_967 ?_
    refine lv_if_eq (tgt := 973) hx hb dL_law_968 (by decide) (fun _ => ?_) (fun q => absurd (hy_cmp0 (hv.trans (congrArg Int32.toInt64 hr.symm))) q)
    exact lv_goto (tgt := 1311) hx hb dL_law_973 (by decide) (fin _ rfl)
set_option maxHeartbeats 4000000 in
set_option maxRecDepth 100000 in
theorem lw_case_places {p : Program} {l : Launch} {e : Env} {s : State} {m : MethodId} {below : List Frame} {meth : Method} {c : Code} {Q : State → Prop} {b L : Nat} {xs : Nat → Int32} {D : va_G} {cI cJ cB : ClassId} {o h n0 bM sM zM tM xM kM wM eM : Nat} (C : hy_LC p l s m c b L xs D cI cJ cB) {i cells slots : Nat} (hi : 6 * i + 6 ≤ L) (hc : cells + 8 ≤ 601024) (hs : slots + 40 ≤ 7293034) {H : Heap} {locs : List Loc} {ls : Array Slot} (hI : hy_LI D cI cJ cB b o h n0 bM sM zM tM xM kM wM eM s i H locs ls)
    (kk : ∀ H locs ls, hy_LI D cI cJ cB b o h n0 bM sM zM tM xM kM wM eM s i H locs ls → W p l e room_1 s m #[Value.ref b] below meth c H locs (cells + 8) (slots + 40) Q (F0 m 1311 ls [])) : W p l e room_1 s m #[Value.ref b] below meth c H locs cells slots Q (F0 m 976 ls []) := by
  obtain ⟨hx, hb, hml, hown, hts, hX, hbl, hL, hl9, hK, hE, hZ, hN⟩ := id C
  obtain ⟨b1, k, w, z, ad, ca, f, S, th, tk, hwf, hl, hP, hD, hS⟩ := hI
  refine lv_aload_n hx hb dL_law_976 rfl (lv_at hl 3 rfl) ?_
  refine lw_rd C (k := 1) (i := i) hS (lv_at hl 4 rfl) (lv_at hl 0 rfl) (by omega) (by decide) dL_law_977 dL_law_978 dL_law_980 dL_law_981 dL_law_982 ?_
  refine lv_aload_n hx hb dL_law_983 rfl (lv_at hl 1 rfl) ?_
  refine lw_wc C (As := [.ref h, .int (xs (6 * i + 1)), .ref o]) (K := (hy_krow S (xs (6 * i + 1)))) (V := ((hy_vlen S (xs (6 * i + 1))).toInt64)) (S := S) (S2 := S) hP hD hS (fun sz => c_L_places l D cI cJ cB h b1 k w z ad ca S o f hl9 hwf sz (xs (6 * i + 1))) (vx_cwSW 3 hts gL_law_L_places rfl rfl rfl (by decide +kernel) ⟨Nat.le_of_ble_eq_true rfl, Nat.le_of_ble_eq_true rfl⟩) rfl hl.1 dL_law_984 ⟨by omega, by omega⟩ (fun b1 k w z ad ca f H locs hv hP hD hS => ?_)
  refine lv_istore (lv' := [(5, .int (hy_krow S (xs (6 * i + 1)))), (4, .int (nI (6 * i))), (3, .ref o), (2, .ref n0), (1, .ref h), (0, .ref b)]) hx hb dL_law_987 hl (by decide) rfl (fun ls hl => ?_)
  refine lv_aload_n hx hb dL_law_989 rfl (lv_at hl 3 rfl) ?_
  refine lw_rd C (k := 1) (i := i) hS (lv_at hl 5 rfl) (lv_at hl 1 rfl) (by omega) (by decide) dL_law_990 dL_law_991 dL_law_993 dL_law_994 dL_law_995 ?_
  refine lw_mci C (As := [.int (xs (6 * i + 1))]) (rest := []) (K := (hy_krow S (xs (6 * i + 1)))) (V := (hy_vlen S (xs (6 * i + 1)))) (S2 := S) hP hD hS (fun sz => c_X2_places l D cI cJ cB n0 bM sM zM tM xM kM wM eM S th tk hwf sz (xs (6 * i + 1))) (cwV 1 hts gL_law_X2_places rfl rfl rfl (by decide +kernel) ⟨Nat.le_of_ble_eq_true rfl, Nat.le_of_ble_eq_true rfl⟩) rfl hl.1 (by decide) dL_law_996 ⟨by omega, by omega⟩ (fun r tk H locs hr hP hD hS => ?_)
  refine lv_istore (lv' := [(6, .int r), (5, .int (hy_krow S (xs (6 * i + 1)))), (4, .int (nI (6 * i))), (3, .ref o), (2, .ref n0), (1, .ref h), (0, .ref b)]) hx hb dL_law_999 hl (by decide) rfl (fun ls hl => ?_)
  have hwf9 : hy_wf (hy_if (hy_krow S (xs (6 * i + 1))) S S) := hy_wf_if hwf (fun _ => hwf)
  have fin : ∀ g9, g9 = F0 m 1311 ls [] → W p l e room_1 s m #[Value.ref b] below meth c H locs (cells + 8) (slots + 40) Q g9 := fun g9 e9 => by rw [e9]; exact kk H locs ls ⟨b1, k, w, z, ad, ca, f, hy_if (hy_krow S (xs (6 * i + 1))) S S, (hy_krow S (xs (6 * i + 1))), tk, hwf9, lv_sub hl [2, 3, 4, 5, 6] rfl, hP, hD, hS⟩
  refine W.widen (k := cells + 8) (n := slots + 40) (by omega) (by omega) ?_
  refine lv_aload_n hx hb dL_law_1001 rfl (lv_at hl 4 rfl) ?_
  refine lw_th C hP hD hl.1 dL_law_1002 ⟨by omega, by omega⟩ ?_
  refine lv_iload hx hb dL_law_1005 (lv_at hl 1 rfl) ?_
  refine lv_icmp_eq (tgt := 1012) hx hb dL_law_1007 (by decide) (fun _ => ?_) (fun q => absurd rfl q)
  refine lv_iload hx hb dL_law_1012 (lv_at hl 1 rfl) ?_
  refine lv_if_ne (tgt := 1029) hx hb dL_law_1014 (by decide) (fun q => ?_) (fun hk0 => ?_)
  · exact lv_goto (tgt := 1311) hx hb dL_law_1029 (by decide) (fin _ rfl)
  · have hr := hr hk0
    have hv := hv hk0
    refine lv_aload_n hx hb dL_law_1017 rfl (lv_at hl 3 rfl) ?_
    refine lv_iconst (v := 0) hx hb dL_law_1018 (by decide) ?_
    refine va_lald hx hb hK hP 0 1 rfl rfl (vp_in_nI (n := 0) (by decide) (by decide)) dL_law_1019 ?_
    refine lv_iload hx hb dL_law_1020 (lv_at hl 0 rfl) ?_
    refine lv_i2l (v := r.toInt64) hx hb dL_law_1022 rfl ?_
    refine W.lcmp hx hb dL_law_1023 ?_
    refine lv_if_eq (tgt := 1029) hx hb dL_law_1024 (by decide) (fun _ => ?_) (fun q => absurd (hy_cmp0 (hv.trans (congrArg Int32.toInt64 hr.symm))) q)
    exact lv_goto (tgt := 1311) hx hb dL_law_1029 (by decide) (fin _ rfl)
set_option maxHeartbeats 4000000 in
set_option maxRecDepth 100000 in
theorem lw_case_same {p : Program} {l : Launch} {e : Env} {s : State} {m : MethodId} {below : List Frame} {meth : Method} {c : Code} {Q : State → Prop} {b L : Nat} {xs : Nat → Int32} {D : va_G} {cI cJ cB : ClassId} {o h n0 bM sM zM tM xM kM wM eM : Nat} (C : hy_LC p l s m c b L xs D cI cJ cB) {i cells slots : Nat} (hi : 6 * i + 6 ≤ L) (hc : cells + 8 ≤ 601024) (hs : slots + 40 ≤ 7293034) {H : Heap} {locs : List Loc} {ls : Array Slot} (hI : hy_LI D cI cJ cB b o h n0 bM sM zM tM xM kM wM eM s i H locs ls)
    (kk : ∀ H locs ls, hy_LI D cI cJ cB b o h n0 bM sM zM tM xM kM wM eM s i H locs ls → W p l e room_1 s m #[Value.ref b] below meth c H locs (cells + 8) (slots + 40) Q (F0 m 1311 ls [])) : W p l e room_1 s m #[Value.ref b] below meth c H locs cells slots Q (F0 m 1032 ls []) := by
  obtain ⟨hx, hb, hml, hown, hts, hX, hbl, hL, hl9, hK, hE, hZ, hN⟩ := id C
  obtain ⟨b1, k, w, z, ad, ca, f, S, th, tk, hwf, hl, hP, hD, hS⟩ := hI
  refine lv_aload_n hx hb dL_law_1032 rfl (lv_at hl 3 rfl) ?_
  refine lw_rd C (k := 1) (i := i) hS (lv_at hl 4 rfl) (lv_at hl 0 rfl) (by omega) (by decide) dL_law_1033 dL_law_1034 dL_law_1036 dL_law_1037 dL_law_1038 ?_
  refine lw_rd C (k := 2) (i := i) hS (lv_at hl 4 rfl) (lv_at hl 0 rfl) (by omega) (by decide) dL_law_1039 dL_law_1040 dL_law_1042 dL_law_1043 dL_law_1044 ?_
  refine lv_aload_n hx hb dL_law_1045 rfl (lv_at hl 1 rfl) ?_
  refine lw_wc C (As := [.ref h, .int (xs (6 * i + 1)), .int (xs (6 * i + 2)), .ref o]) (K := (hy_k2b (xs (6 * i + 1)) (xs (6 * i + 2)))) (V := (hy_zl (hy_vsame S (xs (6 * i + 1)) (xs (6 * i + 2))))) (S := S) (S2 := S) hP hD hS (fun sz => c_L_same l D cI cJ cB h b1 k w z ad ca S o f hl9 hwf sz (xs (6 * i + 1)) (xs (6 * i + 2))) (vx_cwSW 4 hts gL_law_L_same rfl rfl rfl (by decide +kernel) ⟨Nat.le_of_ble_eq_true rfl, Nat.le_of_ble_eq_true rfl⟩) rfl hl.1 dL_law_1046 ⟨by omega, by omega⟩ (fun b1 k w z ad ca f H locs hv hP hD hS => ?_)
  refine lv_istore (lv' := [(5, .int (hy_k2b (xs (6 * i + 1)) (xs (6 * i + 2)))), (4, .int (nI (6 * i))), (3, .ref o), (2, .ref n0), (1, .ref h), (0, .ref b)]) hx hb dL_law_1049 hl (by decide) rfl (fun ls hl => ?_)
  refine lv_aload_n hx hb dL_law_1051 rfl (lv_at hl 3 rfl) ?_
  refine lw_rd C (k := 1) (i := i) hS (lv_at hl 5 rfl) (lv_at hl 1 rfl) (by omega) (by decide) dL_law_1052 dL_law_1053 dL_law_1055 dL_law_1056 dL_law_1057 ?_
  refine lw_rd C (k := 2) (i := i) hS (lv_at hl 5 rfl) (lv_at hl 1 rfl) (by omega) (by decide) dL_law_1058 dL_law_1059 dL_law_1061 dL_law_1062 dL_law_1063 ?_
  refine lw_mci C (As := [.int (xs (6 * i + 1)), .int (xs (6 * i + 2))]) (rest := []) (K := (hy_k2b (xs (6 * i + 1)) (xs (6 * i + 2)))) (V := (hy_vsame S (xs (6 * i + 1)) (xs (6 * i + 2)))) (S2 := S) hP hD hS (fun sz => c_X2_same l D cI cJ cB n0 bM sM zM tM xM kM wM eM S th tk hwf sz (xs (6 * i + 1)) (xs (6 * i + 2))) (cwV 2 hts gL_law_X2_same rfl rfl rfl (by decide +kernel) ⟨Nat.le_of_ble_eq_true rfl, Nat.le_of_ble_eq_true rfl⟩) rfl hl.1 (by decide) dL_law_1064 ⟨by omega, by omega⟩ (fun r tk H locs hr hP hD hS => ?_)
  refine lv_istore (lv' := [(6, .int r), (5, .int (hy_k2b (xs (6 * i + 1)) (xs (6 * i + 2)))), (4, .int (nI (6 * i))), (3, .ref o), (2, .ref n0), (1, .ref h), (0, .ref b)]) hx hb dL_law_1067 hl (by decide) rfl (fun ls hl => ?_)
  have hwf9 : hy_wf (hy_if (hy_k2b (xs (6 * i + 1)) (xs (6 * i + 2))) S S) := hy_wf_if hwf (fun _ => hwf)
  have fin : ∀ g9, g9 = F0 m 1311 ls [] → W p l e room_1 s m #[Value.ref b] below meth c H locs (cells + 8) (slots + 40) Q g9 := fun g9 e9 => by rw [e9]; exact kk H locs ls ⟨b1, k, w, z, ad, ca, f, hy_if (hy_k2b (xs (6 * i + 1)) (xs (6 * i + 2))) S S, (hy_k2b (xs (6 * i + 1)) (xs (6 * i + 2))), tk, hwf9, lv_sub hl [2, 3, 4, 5, 6] rfl, hP, hD, hS⟩
  refine W.widen (k := cells + 8) (n := slots + 40) (by omega) (by omega) ?_
  refine lv_aload_n hx hb dL_law_1069 rfl (lv_at hl 4 rfl) ?_
  refine lw_th C hP hD hl.1 dL_law_1070 ⟨by omega, by omega⟩ ?_
  refine lv_iload hx hb dL_law_1073 (lv_at hl 1 rfl) ?_
  refine lv_icmp_eq (tgt := 1080) hx hb dL_law_1075 (by decide) (fun _ => ?_) (fun q => absurd rfl q)
  refine lv_iload hx hb dL_law_1080 (lv_at hl 1 rfl) ?_
  refine lv_if_ne (tgt := 1104) hx hb dL_law_1082 (by decide) (fun q => ?_) (fun hk0 => ?_)
  · exact lv_goto (tgt := 1311) hx hb dL_law_1104 (by decide) (fin _ rfl)
  · have hr := hr hk0
    have hv := hv hk0
    refine lv_aload_n hx hb dL_law_1085 rfl (lv_at hl 3 rfl) ?_
    refine lv_iconst (v := 0) hx hb dL_law_1086 (by decide) ?_
    refine va_lald hx hb hK hP 0 1 rfl rfl (vp_in_nI (n := 0) (by decide) (by decide)) dL_law_1087 ?_
    refine lv_iload hx hb dL_law_1088 (lv_at hl 0 rfl) ?_
    refine lv_if_eq (tgt := 1097) hx hb dL_law_1090 (by decide) (fun c0 => ?_) (fun c0 => ?_)
    · refine lv_lconst (v := 0) hx hb dL_law_1097 (by decide) ?_
      refine W.lcmp hx hb dL_law_1098 ?_
      refine lv_if_eq (tgt := 1104) hx hb dL_law_1099 (by decide) (fun _ => ?_) (fun q => absurd (hy_cmp0 (hv.trans ((congrArg hy_zl hr.symm).trans (if_pos c0)))) q)
      exact lv_goto (tgt := 1311) hx hb dL_law_1104 (by decide) (fin _ rfl)
    · refine lv_lconst (v := 1) hx hb dL_law_1093 (by decide) ?_
      refine lv_goto (tgt := 1098) hx hb dL_law_1094 (by decide) ?_
      refine W.lcmp hx hb dL_law_1098 ?_
      refine lv_if_eq (tgt := 1104) hx hb dL_law_1099 (by decide) (fun _ => ?_) (fun q => absurd (hy_cmp0 (hv.trans ((congrArg hy_zl hr.symm).trans (if_neg c0)))) q)
      exact lv_goto (tgt := 1311) hx hb dL_law_1104 (by decide) (fin _ rfl)
set_option maxHeartbeats 4000000 in
set_option maxRecDepth 100000 in
theorem lw_case_all {p : Program} {l : Launch} {e : Env} {s : State} {m : MethodId} {below : List Frame} {meth : Method} {c : Code} {Q : State → Prop} {b L : Nat} {xs : Nat → Int32} {D : va_G} {cI cJ cB : ClassId} {o h n0 bM sM zM tM xM kM wM eM : Nat} (C : hy_LC p l s m c b L xs D cI cJ cB) {i cells slots : Nat} (hi : 6 * i + 6 ≤ L) (hc : cells + 8 ≤ 601024) (hs : slots + 40 ≤ 7293034) {H : Heap} {locs : List Loc} {ls : Array Slot} (hI : hy_LI D cI cJ cB b o h n0 bM sM zM tM xM kM wM eM s i H locs ls)
    (kk : ∀ H locs ls, hy_LI D cI cJ cB b o h n0 bM sM zM tM xM kM wM eM s i H locs ls → W p l e room_1 s m #[Value.ref b] below meth c H locs (cells + 8) (slots + 40) Q (F0 m 1311 ls [])) : W p l e room_1 s m #[Value.ref b] below meth c H locs cells slots Q (F0 m 1107 ls []) := by
  obtain ⟨hx, hb, hml, hown, hts, hX, hbl, hL, hl9, hK, hE, hZ, hN⟩ := id C
  obtain ⟨b1, k, w, z, ad, ca, f, S, th, tk, hwf, hl, hP, hD, hS⟩ := hI
  refine lv_aload_n hx hb dL_law_1107 rfl (lv_at hl 3 rfl) ?_
  refine lw_rd C (k := 1) (i := i) hS (lv_at hl 4 rfl) (lv_at hl 0 rfl) (by omega) (by decide) dL_law_1108 dL_law_1109 dL_law_1111 dL_law_1112 dL_law_1113 ?_
  refine lv_aload_n hx hb dL_law_1114 rfl (lv_at hl 1 rfl) ?_
  refine lw_wc C (As := [.ref h, .int (xs (6 * i + 1)), .ref o]) (K := (hy_krow S (xs (6 * i + 1)))) (V := (hy_vall S (xs (6 * i + 1)))) (S := S) (S2 := S) hP hD hS (fun sz => c_L_all l D cI cJ cB h b1 k w z ad ca S o f hl9 hwf sz (xs (6 * i + 1))) (vx_cwSW 3 hts gL_law_L_all rfl rfl rfl (by decide +kernel) ⟨Nat.le_of_ble_eq_true rfl, Nat.le_of_ble_eq_true rfl⟩) rfl hl.1 dL_law_1115 ⟨by omega, by omega⟩ (fun b1 k w z ad ca f H locs hv hP hD hS => ?_)
  refine lv_istore (lv' := [(5, .int (hy_krow S (xs (6 * i + 1)))), (4, .int (nI (6 * i))), (3, .ref o), (2, .ref n0), (1, .ref h), (0, .ref b)]) hx hb dL_law_1118 hl (by decide) rfl (fun ls hl => ?_)
  refine lv_aload_n hx hb dL_law_1120 rfl (lv_at hl 3 rfl) ?_
  refine lw_rd C (k := 1) (i := i) hS (lv_at hl 5 rfl) (lv_at hl 1 rfl) (by omega) (by decide) dL_law_1121 dL_law_1122 dL_law_1124 dL_law_1125 dL_law_1126 ?_
  refine lw_mcl C (As := [.int (xs (6 * i + 1))]) (rest := []) (K := (hy_krow S (xs (6 * i + 1)))) (V := (hy_vall S (xs (6 * i + 1)))) (S2 := S) hP hD hS (fun sz => c_X2_all l D cI cJ cB n0 bM sM zM tM xM kM wM eM S th tk hwf sz (xs (6 * i + 1))) (cwV 1 hts gL_law_X2_all rfl rfl rfl (by decide +kernel) ⟨Nat.le_of_ble_eq_true rfl, Nat.le_of_ble_eq_true rfl⟩) rfl hl.1 (by decide) dL_law_1127 ⟨by omega, by omega⟩ (fun r tk H locs hr hP hD hS => ?_)
  refine lv_lstore (lv' := [(6, .long r), (5, .int (hy_krow S (xs (6 * i + 1)))), (4, .int (nI (6 * i))), (3, .ref o), (2, .ref n0), (1, .ref h), (0, .ref b)]) hx hb dL_law_1130 hl (by decide) rfl (fun ls hl => ?_)
  have hwf9 : hy_wf (hy_if (hy_krow S (xs (6 * i + 1))) S S) := hy_wf_if hwf (fun _ => hwf)
  have fin : ∀ g9, g9 = F0 m 1311 ls [] → W p l e room_1 s m #[Value.ref b] below meth c H locs (cells + 8) (slots + 40) Q g9 := fun g9 e9 => by rw [e9]; exact kk H locs ls ⟨b1, k, w, z, ad, ca, f, hy_if (hy_krow S (xs (6 * i + 1))) S S, (hy_krow S (xs (6 * i + 1))), tk, hwf9, lv_sub hl [2, 3, 4, 5, 6] rfl, hP, hD, hS⟩
  refine W.widen (k := cells + 8) (n := slots + 40) (by omega) (by omega) ?_
  refine lv_aload_n hx hb dL_law_1132 rfl (lv_at hl 4 rfl) ?_
  refine lw_th C hP hD hl.1 dL_law_1133 ⟨by omega, by omega⟩ ?_
  refine lv_iload hx hb dL_law_1136 (lv_at hl 1 rfl) ?_
  refine lv_icmp_eq (tgt := 1143) hx hb dL_law_1138 (by decide) (fun _ => ?_) (fun q => absurd rfl q)
  refine lv_iload hx hb dL_law_1143 (lv_at hl 1 rfl) ?_
  refine lv_if_ne (tgt := 1159) hx hb dL_law_1145 (by decide) (fun q => ?_) (fun hk0 => ?_)
  · exact lv_goto (tgt := 1311) hx hb dL_law_1159 (by decide) (fin _ rfl)
  · have hr := hr hk0
    have hv := hv hk0
    refine lv_aload_n hx hb dL_law_1148 rfl (lv_at hl 3 rfl) ?_
    refine lv_iconst (v := 0) hx hb dL_law_1149 (by decide) ?_
    refine va_lald hx hb hK hP 0 1 rfl rfl (vp_in_nI (n := 0) (by decide) (by decide)) dL_law_1150 ?_
    refine lv_lload hx hb dL_law_1151 (lv_at hl 0 rfl) ?_
    refine W.lcmp hx hb dL_law_1153 ?_
    refine lv_if_eq (tgt := 1159) hx hb dL_law_1154 (by decide) (fun _ => ?_) (fun q => absurd (hy_cmp0 (hv.trans hr.symm)) q)
    exact lv_goto (tgt := 1311) hx hb dL_law_1159 (by decide) (fin _ rfl)
set_option maxHeartbeats 4000000 in
set_option maxRecDepth 100000 in
theorem lw_case_feed {p : Program} {l : Launch} {e : Env} {s : State} {m : MethodId} {below : List Frame} {meth : Method} {c : Code} {Q : State → Prop} {b L : Nat} {xs : Nat → Int32} {D : va_G} {cI cJ cB : ClassId} {o h n0 bM sM zM tM xM kM wM eM : Nat} (C : hy_LC p l s m c b L xs D cI cJ cB) {i cells slots : Nat} (hi : 6 * i + 6 ≤ L) (hc : cells + 8 ≤ 601024) (hs : slots + 40 ≤ 7293034) {H : Heap} {locs : List Loc} {ls : Array Slot} (hI : hy_LI D cI cJ cB b o h n0 bM sM zM tM xM kM wM eM s i H locs ls)
    (kk : ∀ H locs ls, hy_LI D cI cJ cB b o h n0 bM sM zM tM xM kM wM eM s i H locs ls → W p l e room_1 s m #[Value.ref b] below meth c H locs (cells + 8) (slots + 40) Q (F0 m 1311 ls [])) : W p l e room_1 s m #[Value.ref b] below meth c H locs cells slots Q (F0 m 1162 ls []) := by
  obtain ⟨hx, hb, hml, hown, hts, hX, hbl, hL, hl9, hK, hE, hZ, hN⟩ := id C
  obtain ⟨b1, k, w, z, ad, ca, f, S, th, tk, hwf, hl, hP, hD, hS⟩ := hI
  refine lv_aload_n hx hb dL_law_1162 rfl (lv_at hl 3 rfl) ?_
  refine lw_rd C (k := 1) (i := i) hS (lv_at hl 4 rfl) (lv_at hl 0 rfl) (by omega) (by decide) dL_law_1163 dL_law_1164 dL_law_1166 dL_law_1167 dL_law_1168 ?_
  refine lw_rd C (k := 2) (i := i) hS (lv_at hl 4 rfl) (lv_at hl 0 rfl) (by omega) (by decide) dL_law_1169 dL_law_1170 dL_law_1172 dL_law_1173 dL_law_1174 ?_
  refine lv_aload_n hx hb dL_law_1175 rfl (lv_at hl 1 rfl) ?_
  refine lw_wc C (As := [.ref h, .int (xs (6 * i + 1)), .int (xs (6 * i + 2)), .ref o]) (K := (hy_kcomb S (xs (6 * i + 1)))) (V := ((hy_we S (xs (6 * i + 1)).toNatClampNeg + (xs (6 * i + 2))).toInt64)) (S := S) (S2 := (hy_uwe S (upd (hy_we S) (xs (6 * i + 1)).toNatClampNeg (hy_we S (xs (6 * i + 1)).toNatClampNeg + (xs (6 * i + 2)))))) hP hD hS (fun sz => c_L_feed l D cI cJ cB h b1 k w z ad ca S o f hl9 hwf sz (xs (6 * i + 1)) (xs (6 * i + 2))) (vx_cwSW 4 hts gL_law_L_feed rfl rfl rfl (by decide +kernel) ⟨Nat.le_of_ble_eq_true rfl, Nat.le_of_ble_eq_true rfl⟩) rfl hl.1 dL_law_1176 ⟨by omega, by omega⟩ (fun b1 k w z ad ca f H locs hv hP hD hS => ?_)
  refine lv_istore (lv' := [(5, .int (hy_kcomb S (xs (6 * i + 1)))), (4, .int (nI (6 * i))), (3, .ref o), (2, .ref n0), (1, .ref h), (0, .ref b)]) hx hb dL_law_1179 hl (by decide) rfl (fun ls hl => ?_)
  refine lv_aload_n hx hb dL_law_1181 rfl (lv_at hl 3 rfl) ?_
  refine lw_rd C (k := 1) (i := i) hS (lv_at hl 5 rfl) (lv_at hl 1 rfl) (by omega) (by decide) dL_law_1182 dL_law_1183 dL_law_1185 dL_law_1186 dL_law_1187 ?_
  refine lw_rd C (k := 2) (i := i) hS (lv_at hl 5 rfl) (lv_at hl 1 rfl) (by omega) (by decide) dL_law_1188 dL_law_1189 dL_law_1191 dL_law_1192 dL_law_1193 ?_
  refine lw_mci C (As := [.int (xs (6 * i + 1)), .int (xs (6 * i + 2))]) (rest := []) (K := (hy_kcomb S (xs (6 * i + 1)))) (V := (hy_we S (xs (6 * i + 1)).toNatClampNeg + (xs (6 * i + 2)))) (S2 := (hy_uwe S (upd (hy_we S) (xs (6 * i + 1)).toNatClampNeg (hy_we S (xs (6 * i + 1)).toNatClampNeg + (xs (6 * i + 2)))))) hP hD hS (fun sz => c_X2_feed l D cI cJ cB n0 bM sM zM tM xM kM wM eM S th tk hwf sz (xs (6 * i + 1)) (xs (6 * i + 2))) (cwV 2 hts gL_law_X2_feed rfl rfl rfl (by decide +kernel) ⟨Nat.le_of_ble_eq_true rfl, Nat.le_of_ble_eq_true rfl⟩) rfl hl.1 (by decide) dL_law_1194 ⟨by omega, by omega⟩ (fun r tk H locs hr hP hD hS => ?_)
  refine lv_istore (lv' := [(6, .int r), (5, .int (hy_kcomb S (xs (6 * i + 1)))), (4, .int (nI (6 * i))), (3, .ref o), (2, .ref n0), (1, .ref h), (0, .ref b)]) hx hb dL_law_1197 hl (by decide) rfl (fun ls hl => ?_)
  have hwf9 : hy_wf (hy_if (hy_kcomb S (xs (6 * i + 1))) (hy_uwe S (upd (hy_we S) (xs (6 * i + 1)).toNatClampNeg (hy_we S (xs (6 * i + 1)).toNatClampNeg + (xs (6 * i + 2))))) S) := hy_wf_if hwf (hy_wf_feed hwf _)
  have fin : ∀ g9, g9 = F0 m 1311 ls [] → W p l e room_1 s m #[Value.ref b] below meth c H locs (cells + 8) (slots + 40) Q g9 := fun g9 e9 => by rw [e9]; exact kk H locs ls ⟨b1, k, w, z, ad, ca, f, hy_if (hy_kcomb S (xs (6 * i + 1))) (hy_uwe S (upd (hy_we S) (xs (6 * i + 1)).toNatClampNeg (hy_we S (xs (6 * i + 1)).toNatClampNeg + (xs (6 * i + 2))))) S, (hy_kcomb S (xs (6 * i + 1))), tk, hwf9, lv_sub hl [2, 3, 4, 5, 6] rfl, hP, hD, hS⟩
  refine W.widen (k := cells + 8) (n := slots + 40) (by omega) (by omega) ?_
  refine lv_aload_n hx hb dL_law_1199 rfl (lv_at hl 4 rfl) ?_
  refine lw_th C hP hD hl.1 dL_law_1200 ⟨by omega, by omega⟩ ?_
  refine lv_iload hx hb dL_law_1203 (lv_at hl 1 rfl) ?_
  refine lv_icmp_eq (tgt := 1210) hx hb dL_law_1205 (by decide) (fun _ => ?_) (fun q => absurd rfl q)
  refine lv_iload hx hb dL_law_1210 (lv_at hl 1 rfl) ?_
  refine lv_if_ne (tgt := 1227) hx hb dL_law_1212 (by decide) (fun q => ?_) (fun hk0 => ?_)
  · exact lv_goto (tgt := 1311) hx hb dL_law_1227 (by decide) (fin _ rfl)
  · have hr := hr hk0
    have hv := hv hk0
    refine lv_aload_n hx hb dL_law_1215 rfl (lv_at hl 3 rfl) ?_
    refine lv_iconst (v := 0) hx hb dL_law_1216 (by decide) ?_
    refine va_lald hx hb hK hP 0 1 rfl rfl (vp_in_nI (n := 0) (by decide) (by decide)) dL_law_1217 ?_
    refine lv_iload hx hb dL_law_1218 (lv_at hl 0 rfl) ?_
    refine lv_i2l (v := r.toInt64) hx hb dL_law_1220 rfl ?_
    refine W.lcmp hx hb dL_law_1221 ?_
    refine lv_if_eq (tgt := 1227) hx hb dL_law_1222 (by decide) (fun _ => ?_) (fun q => absurd (hy_cmp0 (hv.trans (congrArg Int32.toInt64 hr.symm))) q)
    exact lv_goto (tgt := 1311) hx hb dL_law_1227 (by decide) (fin _ rfl)
set_option maxHeartbeats 4000000 in
set_option maxRecDepth 100000 in
theorem lw_case_kind {p : Program} {l : Launch} {e : Env} {s : State} {m : MethodId} {below : List Frame} {meth : Method} {c : Code} {Q : State → Prop} {b L : Nat} {xs : Nat → Int32} {D : va_G} {cI cJ cB : ClassId} {o h n0 bM sM zM tM xM kM wM eM : Nat} (C : hy_LC p l s m c b L xs D cI cJ cB) {i cells slots : Nat} (hi : 6 * i + 6 ≤ L) (hc : cells + 8 ≤ 601024) (hs : slots + 40 ≤ 7293034) {H : Heap} {locs : List Loc} {ls : Array Slot} (hI : hy_LI D cI cJ cB b o h n0 bM sM zM tM xM kM wM eM s i H locs ls)
    (kk : ∀ H locs ls, hy_LI D cI cJ cB b o h n0 bM sM zM tM xM kM wM eM s i H locs ls → W p l e room_1 s m #[Value.ref b] below meth c H locs (cells + 8) (slots + 40) Q (F0 m 1311 ls [])) : W p l e room_1 s m #[Value.ref b] below meth c H locs cells slots Q (F0 m 1230 ls []) := by
  obtain ⟨hx, hb, hml, hown, hts, hX, hbl, hL, hl9, hK, hE, hZ, hN⟩ := id C
  obtain ⟨b1, k, w, z, ad, ca, f, S, th, tk, hwf, hl, hP, hD, hS⟩ := hI
  refine lv_aload_n hx hb dL_law_1230 rfl (lv_at hl 3 rfl) ?_
  refine lw_rd C (k := 1) (i := i) hS (lv_at hl 4 rfl) (lv_at hl 0 rfl) (by omega) (by decide) dL_law_1231 dL_law_1232 dL_law_1234 dL_law_1235 dL_law_1236 ?_
  refine lv_aload_n hx hb dL_law_1237 rfl (lv_at hl 1 rfl) ?_
  refine lw_wc C (As := [.ref h, .int (xs (6 * i + 1)), .ref o]) (K := (hy_kcomb S (xs (6 * i + 1)))) (V := ((hy_ki S (xs (6 * i + 1)).toNatClampNeg).toInt64)) (S := S) (S2 := S) hP hD hS (fun sz => c_L_kind l D cI cJ cB h b1 k w z ad ca S o f hl9 hwf sz (xs (6 * i + 1))) (vx_cwSW 3 hts gL_law_L_kind rfl rfl rfl (by decide +kernel) ⟨Nat.le_of_ble_eq_true rfl, Nat.le_of_ble_eq_true rfl⟩) rfl hl.1 dL_law_1238 ⟨by omega, by omega⟩ (fun b1 k w z ad ca f H locs hv hP hD hS => ?_)
  refine lv_istore (lv' := [(5, .int (hy_kcomb S (xs (6 * i + 1)))), (4, .int (nI (6 * i))), (3, .ref o), (2, .ref n0), (1, .ref h), (0, .ref b)]) hx hb dL_law_1241 hl (by decide) rfl (fun ls hl => ?_)
  refine lv_aload_n hx hb dL_law_1243 rfl (lv_at hl 3 rfl) ?_
  refine lw_rd C (k := 1) (i := i) hS (lv_at hl 5 rfl) (lv_at hl 1 rfl) (by omega) (by decide) dL_law_1244 dL_law_1245 dL_law_1247 dL_law_1248 dL_law_1249 ?_
  refine lw_mci C (As := [.int (xs (6 * i + 1))]) (rest := []) (K := (hy_kcomb S (xs (6 * i + 1)))) (V := (hy_ki S (xs (6 * i + 1)).toNatClampNeg)) (S2 := S) hP hD hS (fun sz => c_X2_kind l D cI cJ cB n0 bM sM zM tM xM kM wM eM S th tk hwf sz (xs (6 * i + 1))) (cwV 1 hts gL_law_X2_kind rfl rfl rfl (by decide +kernel) ⟨Nat.le_of_ble_eq_true rfl, Nat.le_of_ble_eq_true rfl⟩) rfl hl.1 (by decide) dL_law_1250 ⟨by omega, by omega⟩ (fun r tk H locs hr hP hD hS => ?_)
  refine lv_istore (lv' := [(6, .int r), (5, .int (hy_kcomb S (xs (6 * i + 1)))), (4, .int (nI (6 * i))), (3, .ref o), (2, .ref n0), (1, .ref h), (0, .ref b)]) hx hb dL_law_1253 hl (by decide) rfl (fun ls hl => ?_)
  have hwf9 : hy_wf (hy_if (hy_kcomb S (xs (6 * i + 1))) S S) := hy_wf_if hwf (fun _ => hwf)
  have fin : ∀ g9, g9 = F0 m 1311 ls [] → W p l e room_1 s m #[Value.ref b] below meth c H locs (cells + 8) (slots + 40) Q g9 := fun g9 e9 => by rw [e9]; exact kk H locs ls ⟨b1, k, w, z, ad, ca, f, hy_if (hy_kcomb S (xs (6 * i + 1))) S S, (hy_kcomb S (xs (6 * i + 1))), tk, hwf9, lv_sub hl [2, 3, 4, 5, 6] rfl, hP, hD, hS⟩
  refine W.widen (k := cells + 8) (n := slots + 40) (by omega) (by omega) ?_
  refine lv_aload_n hx hb dL_law_1255 rfl (lv_at hl 4 rfl) ?_
  refine lw_th C hP hD hl.1 dL_law_1256 ⟨by omega, by omega⟩ ?_
  refine lv_iload hx hb dL_law_1259 (lv_at hl 1 rfl) ?_
  refine lv_icmp_eq (tgt := 1266) hx hb dL_law_1261 (by decide) (fun _ => ?_) (fun q => absurd rfl q)
  refine lv_iload hx hb dL_law_1266 (lv_at hl 1 rfl) ?_
  refine lv_if_ne (tgt := 1283) hx hb dL_law_1268 (by decide) (fun q => ?_) (fun hk0 => ?_)
  · exact lv_goto (tgt := 1311) hx hb dL_law_1283 (by decide) (fin _ rfl)
  · have hr := hr hk0
    have hv := hv hk0
    refine lv_aload_n hx hb dL_law_1271 rfl (lv_at hl 3 rfl) ?_
    refine lv_iconst (v := 0) hx hb dL_law_1272 (by decide) ?_
    refine va_lald hx hb hK hP 0 1 rfl rfl (vp_in_nI (n := 0) (by decide) (by decide)) dL_law_1273 ?_
    refine lv_iload hx hb dL_law_1274 (lv_at hl 0 rfl) ?_
    refine lv_i2l (v := r.toInt64) hx hb dL_law_1276 rfl ?_
    refine W.lcmp hx hb dL_law_1277 ?_
    refine lv_if_eq (tgt := 1283) hx hb dL_law_1278 (by decide) (fun _ => ?_) (fun q => absurd (hy_cmp0 (hv.trans (congrArg Int32.toInt64 hr.symm))) q)
    exact lv_goto (tgt := 1311) hx hb dL_law_1283 (by decide) (fin _ rfl)
set_option maxHeartbeats 4000000 in
set_option maxRecDepth 100000 in
theorem lw_case_count {p : Program} {l : Launch} {e : Env} {s : State} {m : MethodId} {below : List Frame} {meth : Method} {c : Code} {Q : State → Prop} {b L : Nat} {xs : Nat → Int32} {D : va_G} {cI cJ cB : ClassId} {o h n0 bM sM zM tM xM kM wM eM : Nat} (C : hy_LC p l s m c b L xs D cI cJ cB) {i cells slots : Nat} (hi : 6 * i + 6 ≤ L) (hc : cells + 8 ≤ 601024) (hs : slots + 40 ≤ 7293034) {H : Heap} {locs : List Loc} {ls : Array Slot} (hI : hy_LI D cI cJ cB b o h n0 bM sM zM tM xM kM wM eM s i H locs ls)
    (kk : ∀ H locs ls, hy_LI D cI cJ cB b o h n0 bM sM zM tM xM kM wM eM s i H locs ls → W p l e room_1 s m #[Value.ref b] below meth c H locs (cells + 8) (slots + 40) Q (F0 m 1311 ls [])) : W p l e room_1 s m #[Value.ref b] below meth c H locs cells slots Q (F0 m 1286 ls []) := by
  obtain ⟨hx, hb, hml, hown, hts, hX, hbl, hL, hl9, hK, hE, hZ, hN⟩ := id C
  obtain ⟨b1, k, w, z, ad, ca, f, S, th, tk, hwf, hl, hP, hD, hS⟩ := hI
  refine lv_aload_n hx hb dL_law_1286 rfl (lv_at hl 3 rfl) ?_
  refine lw_rd C (k := 1) (i := i) hS (lv_at hl 4 rfl) (lv_at hl 0 rfl) (by omega) (by decide) dL_law_1287 dL_law_1288 dL_law_1290 dL_law_1291 dL_law_1292 ?_
  have hPw := (hy_left hP hD).1
  have hPw : va_P D vwCl (hy_W cI cJ cB h b1 k w z ad ca S) H := fun k9 q9 h9 => hPw (k9 + 1) q9 h9
  refine vp_callSi (W.runV (As := [.int (xs (6 * i + 1))]) (rest := []) ⟨hx, hb, hml, hown, hts⟩ (c_X1_count l D cI cJ cB h b1 k w z ad ca S (xs (6 * i + 1))) (cwV 1 hts gL_law_X1_count rfl rfl rfl (by decide +kernel) ⟨Nat.le_of_ble_eq_true rfl, Nat.le_of_ble_eq_true rfl⟩) ⟨hy_I_blind, va_recv hK hPw (ci := 1) (q0 := 0) rfl rfl, fun U hU hW => ⟨rfl, hy_I_at hU hW hPw hK⟩⟩ rfl rfl hl.1 rfl (lv_room (by decide)) dL_law_1293 ⟨by show cells + 0 ≤ 601024; omega, by show slots + 0 ≤ 7293034; omega⟩) (fun v9 e9 => ?_)
  subst e9
  refine lv_aload_n hx hb dL_law_1296 rfl (lv_at hl 2 rfl) ?_
  refine lw_rd C (k := 1) (i := i) hS (lv_at hl 4 rfl) (lv_at hl 0 rfl) (by omega) (by decide) dL_law_1297 dL_law_1298 dL_law_1300 dL_law_1301 dL_law_1302 ?_
  refine lw_mci C (As := [.int (xs (6 * i + 1))]) (rest := [.int (hy_count S (xs (6 * i + 1)))]) (K := 0) (V := (hy_count S (xs (6 * i + 1)))) (S2 := S) hP hD hS (fun sz => c_X2_count l D cI cJ cB n0 bM sM zM tM xM kM wM eM S th tk hwf sz (xs (6 * i + 1))) (cwV 1 hts gL_law_X2_count rfl rfl rfl (by decide +kernel) ⟨Nat.le_of_ble_eq_true rfl, Nat.le_of_ble_eq_true rfl⟩) rfl hl.1 (Nat.le_of_ble_eq_true rfl) dL_law_1303 ⟨by omega, by omega⟩ (fun r tk H locs hr hP hD hS => ?_)
  rw [hy_if_0] at hP hD
  refine lv_icmp_eq (tgt := 1311) hx hb dL_law_1306 (by decide) (fun _ => ?_) (fun q => absurd (hr rfl).symm q)
  refine W.widen (k := cells + 8) (n := slots + 40) (by omega) (by omega) ?_
  exact kk H locs ls ⟨b1, k, w, z, ad, ca, f, S, 0, tk, hwf, lv_sub hl [0, 1, 2, 3, 4] rfl, hP, hD, hS⟩
