/-! WHAT HOLDS OF EVERY STATE is kept by every call that isn't refused. -/
theorem hy_ok_of {a : Int32} (h : hy_kbox a = 0) : hy_ok a := Classical.byContradiction (fun q => hy_kbox1 q h)
theorem hy_wf_uva {S : hy_S} (hwf : hy_wf S) (r : Nat) (f : Nat → Int64) (h1 : ∀ k, hy_le S r ≤ k → f k = 0) (h2 : r ≤ hy_nr S → 4 ≤ hy_so S r → ∀ k, k < hy_le S r → f k = -1 ∨ ∃ c : Nat, c < hy_nc S ∧ f k = lN c) : hy_wf (hy_uva S r f) := by
  obtain ⟨w1, w2, w3, w4, w5, w6, w7, w8, w9, w10, w11, w12⟩ := hwf
  refine ⟨w1, w2, w3, w4, w5, w6, w7, w8, ?_, ?_, w11, w12⟩
  · intro r' k hk
    show va_up (hy_va S) r f r' k = 0
    by_cases e : r' = r
    · rw [e, va_up_self]
      rw [e] at hk
      exact h1 k hk
    · rw [va_up_ne _ _ e]
      exact w9 r' k hk
  · intro r' hr h4 k hk
    show va_up (hy_va S) r f r' k = -1 ∨ ∃ c : Nat, c < hy_nc S ∧ va_up (hy_va S) r f r' k = lN c
    by_cases e : r' = r
    · rw [e] at hr h4 hk
      rw [e, va_up_self]
      exact h2 hr h4 k hk
    · rw [va_up_ne _ _ e]
      exact w10 r' hr h4 k hk
theorem hy_mc0 {S : hy_S} (hwf : hy_wf S) {r : Nat} (hr : r + 1 ≤ hy_nr S) (hc : hy_miscombs (hy_so S (r + 1)) = 0) : ¬ (4 : Int32) ≤ hy_so S (r + 1) := by
  obtain ⟨j, hj, e⟩ := hy_so8 hwf hr
  rw [e] at hc ⊢
  have : ∀ j, j < 8 → hy_miscombs (nI j) = 0 → ¬ (4 : Int32) ≤ nI j := by decide +kernel
  exact this j hj hc
theorem hy_wf_put {S : hy_S} (hwf : hy_wf S) {a1 a2 : Int32} (a3 : Int64) (hk : hy_kput S a1 a2 = 0) : hy_wf (hy_sput S a1 a2 a3) := by
  have hb : hy_kbox a1 = 0 := by
    refine Classical.byContradiction (fun q => ?_)
    rw [hy_kput, if_neg q] at hk
    cases hk
  have hm := hy_kput_m hwf (hy_ok_of hb) a2
  rw [hk] at hm
  obtain ⟨-, r, k, ho, hc, rfl, hkl⟩ := hy_mbar0 (a2 := a2) (a3 := 0) (a4 := 2) hwf (by decide) (by decide) (by rw [← hm]; decide)
  have h24 := hwf.2.2.2.2.2.1 (r + 1)
  unfold hy_sput
  rw [ho]
  dsimp only
  refine hy_wf_uva hwf (r + 1) _ (fun k9 h9 => ?_) (fun hr h4 k9 h9 => ?_)
  · rw [nI_clamp (by omega)]
    show (if k9 = k then _ else hy_va S (r + 1) k9) = 0
    rw [if_neg (by omega)]
    exact hwf.2.2.2.2.2.2.2.2.1 _ _ h9
  · exact absurd h4 (hy_mc0 hwf hr hc)
theorem hy_wf_lift {S : hy_S} (hwf : hy_wf S) {a1 a2 : Int32} (hk : hy_klift S a1 a2 = 0) : hy_wf (hy_slift S a1 a2) := by
  have hb : hy_kbox a1 = 0 := by
    refine Classical.byContradiction (fun q => ?_)
    rw [hy_klift, if_neg q] at hk
    cases hk
  have hm := hy_klift_m hwf (hy_ok_of hb) a2
  rw [hk] at hm
  obtain ⟨-, r, k, ho, hc, rfl, hkl⟩ := hy_mbar0 (a2 := a2) (a3 := 1) (a4 := 2) hwf (by decide) (by decide) (by rw [← hm]; decide)
  have h24 := hwf.2.2.2.2.2.1 (r + 1)
  unfold hy_slift
  rw [ho]
  dsimp only
  refine hy_wf_uva hwf (r + 1) _ (fun k9 h9 => ?_) (fun hr h4 k9 h9 => ?_)
  · rw [nI_clamp (by omega)]
    show (if k9 = k then _ else hy_va S (r + 1) k9) = 0
    rw [if_neg (by omega)]
    exact hwf.2.2.2.2.2.2.2.2.1 _ _ h9
  · show (if k9 = _ then _ else hy_va S (r + 1) k9) = -1 ∨ ∃ c : Nat, c < hy_nc S ∧ (if k9 = _ then _ else hy_va S (r + 1) k9) = lN c
    split
    · exact Or.inl rfl
    · exact hwf.2.2.2.2.2.2.2.2.2.1 (r + 1) hr h4 k9 h9
theorem hy_wf_new {S : hy_S} (hwf : hy_wf S) (hn : hy_nc S < 60) {j : Nat} (hj : j < 4) : hy_wf (hy_uki (hy_unc S (hy_nc S + 1)) (upd (hy_ki S) (nI (hy_nc S)).toNatClampNeg (nI j))) := by
  obtain ⟨w1, w2, w3, w4, w5, w6, w7, w8, w9, w10, w11, w12⟩ := hwf
  refine ⟨w1, hn, w3, w4, w5, w6, w7, w8, w9, ?_, ?_, ?_⟩
  · intro r hr h4 k hk
    rcases w10 r hr h4 k hk with h | ⟨c, hc, h⟩
    · exact Or.inl h
    · exact Or.inr ⟨c, Nat.lt_succ_of_lt hc, h⟩
  · intro c hc
    exact w11 c (Nat.le_of_succ_le hc)
  · intro c hc
    have hc : c < hy_nc S + 1 := hc
    show ∃ j9 : Nat, j9 < 4 ∧ upd (hy_ki S) (nI (hy_nc S)).toNatClampNeg (nI j) c = nI j9
    rw [nI_clamp (by omega)]
    by_cases e : c = hy_nc S
    · exact ⟨j, hj, if_pos e⟩
    · obtain ⟨j9, h1, h2⟩ := w12 c (by omega)
      exact ⟨j9, h1, by rw [← h2]; exact if_neg e⟩
theorem hy_wf_lay {S : hy_S} (hwf : hy_wf S) {a1 a2 a3 : Int32} (hk : hy_klay S a1 a2 a3 = 0) : hy_wf (hy_slay S a1 a2 a3) := by
  have hb : hy_kbox a1 = 0 := by
    refine Classical.byContradiction (fun q => ?_)
    rw [hy_klay, if_neg q] at hk
    cases hk
  have h1 : ¬ a3 < 0 := by
    intro q
    rw [hy_klay, if_pos hb, if_pos q] at hk
    cases hk
  have h2 : a3 ≤ 3 := by
    refine Classical.byContradiction (fun q => ?_)
    rw [hy_klay, if_pos hb, if_neg h1, if_neg q] at hk
    cases hk
  have hok := hy_ok_of hb
  have hle : hy_mbar S (hy_bx S a1.toNatClampNeg) a2 1 3 ≤ 0 := by
    refine Classical.byContradiction (fun q => ?_)
    have := hy_klay_m1 hwf hok h1 h2 a2 q
    rw [hk] at this
    exact q (by rw [← this]; decide)
  obtain ⟨h0, r, k, ho, hc, rfl, hkl⟩ := hy_mbar0 (a2 := a2) (a3 := 1) (a4 := 3) hwf (by decide) (by decide) hle
  have h60 := hy_klay_m0 hwf hok h1 h2 _ h0
  rw [hk] at h60
  have hn0 : nI (hy_nc S) < 60 := by
    refine Classical.byContradiction (fun q => ?_)
    rw [if_neg q] at h60
    cases h60
  have hn0 : nI (hy_nc S) < nI 60 := hn0
  have hn1 := hwf.2.1
  have hn : hy_nc S < 60 := (nI_ltI (by omega) (by omega)).mp hn0
  obtain ⟨j, hj, rfl⟩ := nI_of2 (M := 3) (n := 3) rfl h1 h2
  have h24 := hwf.2.2.2.2.2.1 (r + 1)
  unfold hy_slay
  rw [ho]
  dsimp only
  split
  · exact hwf
  · refine hy_wf_uva (hy_wf_new hwf hn (by omega)) (r + 1) _ (fun k9 h9 => ?_) (fun hr h4 k9 h9 => ?_)
    · rw [nI_clamp (n := k) (by omega)]
      have h9 : hy_le S (r + 1) ≤ k9 := h9
      show (if k9 = k then _ else hy_va S (r + 1) k9) = 0
      rw [if_neg (by omega)]
      exact hwf.2.2.2.2.2.2.2.2.1 _ _ h9
    · show (if k9 = _ then (nI (hy_nc S)).toInt64 else hy_va S (r + 1) k9) = -1 ∨ ∃ c : Nat, c < hy_nc S + 1 ∧ (if k9 = _ then (nI (hy_nc S)).toInt64 else hy_va S (r + 1) k9) = lN c
      split
      · exact Or.inr ⟨hy_nc S, by omega, nI_l (by omega)⟩
      · rcases hwf.2.2.2.2.2.2.2.2.2.1 (r + 1) hr h4 k9 h9 with h | ⟨c, hc, h⟩
        · exact Or.inl h
        · exact Or.inr ⟨c, by omega, h⟩
theorem hy_wf_feed {S : hy_S} (hwf : hy_wf S) {a1 : Int32} (v : Int32) (hk : hy_kcomb S a1 = 0) : hy_wf (hy_uwe S (upd (hy_we S) a1.toNatClampNeg v)) := by
  have h1 : ¬ hy_isComb S a1.toInt64 = 0 := by
    intro q
    rw [hy_kcomb, if_pos q] at hk
    cases hk
  obtain ⟨c0, hc0, -, e⟩ := hy_comb_in hwf.2.1 h1
  rw [Int32.toInt32_toInt64] at e
  obtain ⟨w1, w2, w3, w4, w5, w6, w7, w8, w9, w10, w11, w12⟩ := hwf
  refine ⟨w1, w2, w3, w4, w5, w6, w7, w8, w9, w10, ?_, w12⟩
  intro c hc
  have hc : hy_nc S ≤ c := hc
  show upd (hy_we S) a1.toNatClampNeg v c = 0
  rw [e, nI_clamp (by omega)]
  exact (if_neg (by omega)).trans (w11 c hc)
theorem hy_wf_end {S : hy_S} (hwf : hy_wf S) (a b : Int32) : hy_wf (hy_end S a b) := hwf
theorem hy_wf_cS {S : hy_S} (hwf : hy_wf S) {o1 o2 : Option Nat} (i j n : Int32) (ho1 : ∀ r, o1 = some r → r ≤ hy_nr S) (ho2 : ∀ r, o2 = some r → r ≤ hy_nr S) : hy_wf (hy_cS S o1 o2 i j n) := by
  refine hy_wf_end (S := (hy_carry S o1 o2 i j n).2.2) ?_ _ _
  by_cases h : hy_cbar S o1 o2 i j n = 0
  · obtain ⟨r1, r2, i0, j0, m0, rfl, rfl, rfl, rfl, rfl, hi, hj, hr1, hr2, hmc, e⟩ := hy_cbar_ok hwf ho1 ho2 h
    rw [e]
    have hfl := hy_fit_le S (r1 + 1) i0 (r2 + 1) m0
    show hy_wf (hy_uva S (r2 + 1) _)
    refine hy_wf_uva hwf (r2 + 1) _ (fun k9 h9 => ?_) (fun hr h4 k9 h9 => ?_)
    · show (if _ then _ else _) = _
      rw [if_neg (by omega)]
      exact hwf.2.2.2.2.2.2.2.2.1 _ _ h9
    · unfold va_cpy
      split
      · rename_i hin
        refine hy_combval hwf hr1 ?_ (by omega)
        rw [hmc]
        obtain ⟨j9, hj9, e9⟩ := hy_so8 hwf hr
        rw [e9] at h4 ⊢
        have : ∀ j, j < 8 → (4 : Int32) ≤ nI j → hy_miscombs (nI j) = 1 := by decide +kernel
        exact this j9 hj9 h4
      · exact hwf.2.2.2.2.2.2.2.2.2.1 (r2 + 1) hr h4 k9 h9
  · rw [hy_C_bar h]
    exact hwf
theorem hy_wf_move {S : hy_S} (hwf : hy_wf S) (a1 a2 a3 a4 a5 : Int32) : hy_wf (hy_smove S a1 a2 a3 a4 a5) := hy_wf_cS hwf _ _ _ (hwf.2.2.1 _) (hwf.2.2.1 _)
theorem hy_wf_pour {S : hy_S} (hwf : hy_wf S) (a1 a2 : Int32) : hy_wf (hy_spour S a1 a2) := hy_wf_move hwf _ _ _ _ _
theorem hy_wf_share {S : hy_S} (hwf : hy_wf S) (a1 a2 : Int32) : hy_wf (hy_sshare S a1 a2) := hy_wf_ubx hwf _ (hwf.2.2.1 _)
theorem hy_wf_row {S : hy_S} (hwf : hy_wf S) {a1 a2 a3 : Int32} (hk : hy_krw S a1 a2 a3 = 0) : hy_wf (hy_srow S a1 a2 a3) := by
  have hb : hy_kbox a1 = 0 := by
    refine Classical.byContradiction (fun q => ?_)
    rw [hy_krw, if_neg q] at hk
    cases hk
  have h1 : ¬ a2 < 0 := by
    intro q
    rw [hy_krw, if_pos hb, if_pos q] at hk
    cases hk
  have h2 : a2 ≤ 7 := by
    refine Classical.byContradiction (fun q => ?_)
    rw [hy_krw, if_pos hb, if_neg h1, if_neg q] at hk
    cases hk
  have h3 : ¬ a3 < 0 := by
    intro q
    rw [hy_krw, if_pos hb, if_neg h1, if_pos h2, if_pos q] at hk
    cases hk
  have h4 : a3 ≤ 24 := by
    refine Classical.byContradiction (fun q => ?_)
    rw [hy_krw, if_pos hb, if_neg h1, if_pos h2, if_neg h3, if_neg q] at hk
    cases hk
  have h5 : nI (hy_nr S) < 300 := by
    refine Classical.byContradiction (fun q => ?_)
    rw [hy_krw, if_pos hb, if_neg h1, if_pos h2, if_neg h3, if_pos h4, if_neg q] at hk
    cases hk
  have h5 : nI (hy_nr S) < nI 300 := h5
  have hn1 := hwf.1
  have hn : hy_nr S < 300 := (nI_ltI (by omega) (by omega)).mp h5
  obtain ⟨j, hj, rfl⟩ := nI_of2 (M := 7) (n := 7) rfl h1 h2
  obtain ⟨n0, hn0, rfl⟩ := nI_of2 (M := 24) (n := 24) rfl h3 h4
  unfold hy_srow
  rw [nI_clamp (n := n0) (by omega)]
  obtain ⟨w1, w2, w3, w4, w5, w6, w7, w8, w9, w10, w11, w12⟩ := hwf
  have hnew : ∀ k, hy_new (nI j) n0 k = 0 ∨ (k < n0 ∧ hy_new (nI j) n0 k = -1) := by
    intro k
    unfold hy_new
    split
    · exact Or.inl rfl
    · unfold hy_fill
      by_cases hk : k < n0
      · exact Or.inr ⟨hk, if_pos hk⟩
      · exact Or.inl (if_neg hk)
  have hnew4 : (4 : Int32) ≤ nI j → ∀ k, k < n0 → hy_new (nI j) n0 k = -1 := by
    intro q k hk
    unfold hy_new
    rw [if_neg (Int32.not_lt.mpr q)]
    exact if_pos hk
  refine ⟨hn, w2, ?_, ?_, ?_, ?_, ?_, ?_, ?_, ?_, w11, w12⟩
  · intro i r h
    have h : va_up (hy_bx S) a1.toNatClampNeg (some (hy_nr S + 1)) i = some r := h
    show r ≤ hy_nr S + 1
    by_cases e : i = a1.toNatClampNeg
    · rw [e, va_up_self] at h
      have := Option.some.inj h
      omega
    · rw [va_up_ne _ _ e] at h
      have := w3 i r h
      omega
  · show va_up (hy_so S) (hy_nr S + 1) (nI j) 0 = 8
    rw [va_up_ne _ _ (by omega)]
    exact w4
  · intro r h0 h
    have h : r ≤ hy_nr S + 1 := h
    show ∃ j9 : Nat, j9 < 8 ∧ va_up (hy_so S) (hy_nr S + 1) (nI j) r = nI j9
    by_cases e : r = hy_nr S + 1
    · rw [e, va_up_self]
      exact ⟨j, by omega, rfl⟩
    · rw [va_up_ne _ _ e]
      exact w5 r h0 (by omega)
  · intro r
    show va_up (hy_le S) (hy_nr S + 1) n0 r ≤ 24
    by_cases e : r = hy_nr S + 1
    · rw [e, va_up_self]
      exact hn0
    · rw [va_up_ne _ _ e]
      exact w6 r
  · show va_up (hy_le S) (hy_nr S + 1) n0 0 = 0
    rw [va_up_ne _ _ (by omega)]
    exact w7
  · intro r h
    have h : hy_nr S + 1 < r := h
    show va_up (hy_le S) (hy_nr S + 1) n0 r = 0 ∧ va_up (hy_so S) (hy_nr S + 1) (nI j) r = 0
    rw [va_up_ne _ _ (by omega), va_up_ne _ _ (by omega)]
    exact w8 r (by omega)
  · intro r k h
    have h : va_up (hy_le S) (hy_nr S + 1) n0 r ≤ k := h
    show va_up (hy_va S) (hy_nr S + 1) (hy_new (nI j) n0) r k = 0
    by_cases e : r = hy_nr S + 1
    · rw [e, va_up_self] at h
      rw [e, va_up_self]
      rcases hnew k with q | ⟨q, -⟩
      · exact q
      · omega
    · rw [va_up_ne _ _ e] at h
      rw [va_up_ne _ _ e]
      exact w9 r k h
  · intro r hr h4 k hk
    have hr : r ≤ hy_nr S + 1 := hr
    have h4 : 4 ≤ va_up (hy_so S) (hy_nr S + 1) (nI j) r := h4
    have hk : k < va_up (hy_le S) (hy_nr S + 1) n0 r := hk
    show va_up (hy_va S) (hy_nr S + 1) (hy_new (nI j) n0) r k = -1 ∨ ∃ c : Nat, c < hy_nc S ∧ va_up (hy_va S) (hy_nr S + 1) (hy_new (nI j) n0) r k = lN c
    by_cases e : r = hy_nr S + 1
    · rw [e, va_up_self] at h4 hk
      rw [e, va_up_self]
      exact Or.inl (hnew4 h4 k hk)
    · rw [va_up_ne _ _ e] at h4 hk
      rw [va_up_ne _ _ e]
      exact w10 r (by omega) h4 k hk
theorem hy_wf_S0 : hy_wf hy_S0 := by
  refine ⟨Nat.zero_le _, Nat.zero_le _, fun i r h => (nomatch h), rfl, fun r h0 h => absurd h (Nat.not_le.mpr h0), fun r => Nat.zero_le _, rfl, fun r h => ⟨rfl, va_up_ne (fun _ => (0 : Int32)) 8 (Nat.ne_of_gt h)⟩, fun r k h => rfl, fun r hr h4 k hk => absurd hk (Nat.not_lt_zero k), fun c h => rfl, fun c h => absurd h (Nat.not_lt_zero c)⟩
