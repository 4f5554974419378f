/-! THE REFERENCE against the state's own functions. -/
def hy_if (k : Int32) (A B : hy_S) : hy_S := if k = 0 then A else B
theorem hy_if_0 (A B : hy_S) : hy_if 0 A B = A := if_pos rfl
theorem hy_if_n {k : Int32} (h : ¬ k = 0) (A B : hy_S) : hy_if k A B = B := if_neg h
theorem hy_24 (r : Nat) : 24 * nI r = nI (24 * r) := pk_mul 24 r
theorem hy_st_at {S : hy_S} {r k : Nat} (hk : k < 24) : hy_st S (24 * r + k) = hy_va S (r + 1) k := by
  unfold hy_st
  rw [show (24 * r + k) / 24 = r by omega, show (24 * r + k) % 24 = k by omega]
theorem hy_so8 {S : hy_S} (hwf : hy_wf S) {r : Nat} (hr : r + 1 ≤ hy_nr S) : ∃ j : Nat, j < 8 ∧ hy_so S (r + 1) = nI j := hwf.2.2.2.2.1 (r + 1) (by omega) hr
theorem hy_d8 : ∀ j, j < 8 → ¬ nI j = 8 := by decide +kernel
theorem hy_isRow_m {S : hy_S} (hwf : hy_wf S) {o : Option Nat} (ho : ∀ r, o = some r → r ≤ hy_nr S) : hy_isRow S o = hy_mrow o := by
  cases o with
  | none => rfl
  | some r0 =>
    cases r0 with
    | zero =>
      show (if hy_so S 0 = 8 then 0 else 1) = (0 : Int32)
      rw [if_pos hwf.2.2.2.1]
    | succ r =>
      obtain ⟨j, hj, e⟩ := hy_so8 hwf (ho _ rfl)
      show (if hy_so S (r + 1) = 8 then 0 else 1) = (1 : Int32)
      rw [e, if_neg (hy_d8 j hj)]
theorem hy_mrow_some {o : Option Nat} (h : ¬ hy_mrow o = 0) : ∃ r, o = some (r + 1) := by
  cases o with
  | none => exact absurd rfl h
  | some r0 =>
    cases r0 with
    | zero => exact absurd rfl h
    | succ r => exact ⟨r, rfl⟩
theorem hy_mpl_some {S : hy_S} (hwf : hy_wf S) {r : Nat} {a : Int32} (h : ¬ hy_mpl S r a = 0) : ∃ k : Nat, k < hy_le S r ∧ a = nI k := by
  unfold hy_mpl at h
  by_cases h1 : a < 0
  · rw [if_pos h1] at h; exact absurd rfl h
  · rw [if_neg h1] at h
    by_cases h2 : nI (hy_le S r) ≤ a
    · rw [if_pos h2] at h; exact absurd rfl h
    · obtain ⟨k, hk, rfl⟩ := nI_of h1
      have := hwf.2.2.2.2.2.1 r
      refine ⟨k, ?_, rfl⟩
      rcases Nat.lt_or_ge k (hy_le S r) with q | q
      · exact q
      · exact absurd (nI_le q hk) h2
theorem hy_kpl_m {S : hy_S} {r : Nat} {a : Int32} : hy_kpl S (some r) a = 0 ↔ ¬ hy_mpl S r a = 0 := by
  show (if a < 0 then 1 else if a < nI (hy_le S r) then 0 else 1) = (0 : Int32) ↔ ¬ (if a < 0 then 0 else if nI (hy_le S r) ≤ a then 0 else 1) = (0 : Int32)
  by_cases h1 : a < 0
  · rw [if_pos h1, if_pos h1]; decide
  · rw [if_neg h1, if_neg h1]
    by_cases h2 : a < nI (hy_le S r)
    · rw [if_pos h2, if_neg (Int32.not_le.mpr h2)]; decide
    · rw [if_neg h2, if_pos (Int32.not_lt.mp h2)]; decide
theorem hy_num8 : ∀ j, j < 8 → (if nI j = 8 then 0 else if 3 < nI j then 0 else 1 : Int32) = (if hy_miscombs (nI j) = 0 then 1 else 0) := by decide +kernel
theorem hy_co8 : ∀ j, j < 8 → (if nI j = 8 then 0 else if nI j < 4 then 0 else 1 : Int32) = hy_miscombs (nI j) := by decide +kernel
theorem hy_mc01 (a : Int32) : hy_miscombs a = 0 ∨ hy_miscombs a = 1 := by
  unfold hy_miscombs
  split
  · exact Or.inl rfl
  · split
    · exact Or.inl rfl
    · exact Or.inr rfl
theorem hy_isNum_m {S : hy_S} (hwf : hy_wf S) {r : Nat} (hr : r + 1 ≤ hy_nr S) : hy_isNum S (some (r + 1)) = if hy_miscombs (hy_so S (r + 1)) = 0 then 1 else 0 := by
  obtain ⟨j, hj, e⟩ := hy_so8 hwf hr
  show (if hy_so S (r + 1) = 8 then 0 else if 3 < hy_so S (r + 1) then 0 else 1 : Int32) = _
  rw [e]; exact hy_num8 j hj
theorem hy_isCo_m {S : hy_S} (hwf : hy_wf S) {r : Nat} (hr : r + 1 ≤ hy_nr S) : hy_isCo S (some (r + 1)) = hy_miscombs (hy_so S (r + 1)) := by
  obtain ⟨j, hj, e⟩ := hy_so8 hwf hr
  show (if hy_so S (r + 1) = 8 then 0 else if hy_so S (r + 1) < 4 then 0 else 1 : Int32) = _
  rw [e]; exact hy_co8 j hj
theorem hy_isNum0 {S : hy_S} (hwf : hy_wf S) : hy_isNum S (some 0) = 0 := by
  show (if hy_so S 0 = 8 then 0 else _) = (0 : Int32)
  rw [if_pos hwf.2.2.2.1]
theorem hy_isCo0 {S : hy_S} (hwf : hy_wf S) : hy_isCo S (some 0) = 0 := by
  show (if hy_so S 0 = 8 then 0 else _) = (0 : Int32)
  rw [if_pos hwf.2.2.2.1]
theorem hy_bar_num {S : hy_S} (hwf : hy_wf S) {o : Option Nat} (ho : ∀ r, o = some r → r ≤ hy_nr S) (a2 : Int32) : (if hy_isNum S o = 0 then 2 else if hy_kpl S o a2 = 0 then 0 else 3 : Int32) = hy_mbar S o a2 0 2 := by
  cases o with
  | none => rfl
  | some r0 =>
    cases r0 with
    | zero => rw [if_pos (hy_isNum0 hwf)]; rfl
    | succ r =>
      rw [hy_isNum_m hwf (ho _ rfl)]
      show _ = if hy_miscombs (hy_so S (r + 1)) = 0 then (if hy_mpl S (r + 1) a2 = 0 then 2 + 1 else 0) else 2
      by_cases h1 : hy_miscombs (hy_so S (r + 1)) = 0
      · rw [if_pos h1, if_pos h1, if_neg (by decide)]
        by_cases h2 : hy_mpl S (r + 1) a2 = 0
        · rw [if_pos h2, if_neg (fun q => hy_kpl_m.mp q h2)]; rfl
        · rw [if_neg h2, if_pos (hy_kpl_m.mpr h2)]
      · rw [if_neg h1, if_neg h1, if_pos rfl]
theorem hy_bar_co {S : hy_S} (hwf : hy_wf S) {o : Option Nat} (ho : ∀ r, o = some r → r ≤ hy_nr S) (a2 x : Int32) : (if hy_isCo S o = 0 then x else if hy_kpl S o a2 = 0 then 0 else x + 1 : Int32) = hy_mbar S o a2 1 x := by
  cases o with
  | none => rfl
  | some r0 =>
    cases r0 with
    | zero => rw [if_pos (hy_isCo0 hwf)]; rfl
    | succ r =>
      rw [hy_isCo_m hwf (ho _ rfl)]
      show _ = if hy_miscombs (hy_so S (r + 1)) = 1 then (if hy_mpl S (r + 1) a2 = 0 then x + 1 else 0) else x
      rcases hy_mc01 (hy_so S (r + 1)) with h1 | h1
      · rw [h1, if_pos rfl, if_neg (by decide)]
      · rw [h1, if_neg (by decide), if_pos rfl]
        by_cases h2 : hy_mpl S (r + 1) a2 = 0
        · rw [if_pos h2, if_neg (fun q => hy_kpl_m.mp q h2)]
        · rw [if_neg h2, if_pos (hy_kpl_m.mpr h2)]
theorem hy_kput_m {S : hy_S} (hwf : hy_wf S) {a1 : Int32} (hok : hy_ok a1) (a2 : Int32) : hy_kput S a1 a2 = hy_mbar S (hy_bx S a1.toNatClampNeg) a2 0 2 := by
  rw [hy_kput, if_pos (hy_kbox0 hok)]; exact hy_bar_num hwf (hwf.2.2.1 _) a2
theorem hy_klift_m {S : hy_S} (hwf : hy_wf S) {a1 : Int32} (hok : hy_ok a1) (a2 : Int32) : hy_klift S a1 a2 = hy_mbar S (hy_bx S a1.toNatClampNeg) a2 1 2 := by
  rw [hy_klift, if_pos (hy_kbox0 hok)]; exact hy_bar_co hwf (hwf.2.2.1 _) a2 2
theorem hy_mbar0 {S : hy_S} (hwf : hy_wf S) {o : Option Nat} {a2 a3 a4 : Int32} (h4 : ¬ a4 ≤ 0) (h5 : ¬ a4 + 1 ≤ 0) (h : hy_mbar S o a2 a3 a4 ≤ 0) : hy_mbar S o a2 a3 a4 = 0 ∧ ∃ r k : Nat, o = some (r + 1) ∧ hy_miscombs (hy_so S (r + 1)) = a3 ∧ a2 = nI k ∧ k < hy_le S (r + 1) := by
  cases o with
  | none => exact absurd h h4
  | some r0 =>
    cases r0 with
    | zero => exact absurd h h4
    | succ r =>
      have h' : (if hy_miscombs (hy_so S (r + 1)) = a3 then (if hy_mpl S (r + 1) a2 = 0 then a4 + 1 else 0) else a4) ≤ 0 := h
      show (if hy_miscombs (hy_so S (r + 1)) = a3 then (if hy_mpl S (r + 1) a2 = 0 then a4 + 1 else 0) else a4) = 0 ∧ _
      by_cases h1 : hy_miscombs (hy_so S (r + 1)) = a3
      · rw [if_pos h1] at h' ⊢
        by_cases h2 : hy_mpl S (r + 1) a2 = 0
        · rw [if_pos h2] at h'; exact absurd h' h5
        · rw [if_neg h2]
          obtain ⟨k, hk, e⟩ := hy_mpl_some hwf h2
          exact ⟨rfl, r, k, rfl, h1, e, hk⟩
      · rw [if_neg h1] at h'; exact absurd h' h4
theorem hy_klay_m1 {S : hy_S} (hwf : hy_wf S) {a1 a3 : Int32} (hok : hy_ok a1) (h1 : ¬ a3 < 0) (h2 : a3 ≤ 3) (a2 : Int32) (h : ¬ hy_mbar S (hy_bx S a1.toNatClampNeg) a2 1 3 ≤ 0) : hy_klay S a1 a2 a3 = hy_mbar S (hy_bx S a1.toNatClampNeg) a2 1 3 := by
  have hb := hy_bar_co hwf (hwf.2.2.1 a1.toNatClampNeg) a2 3
  rw [hy_klay, if_pos (hy_kbox0 hok), if_neg h1, if_pos h2, ← hb]
  rw [← hb] at h
  by_cases h3 : hy_isCo S (hy_bx S a1.toNatClampNeg) = 0
  · rw [if_pos h3, if_pos h3]
  · rw [if_neg h3] at h
    rw [if_neg h3, if_neg h3]
    by_cases h4 : hy_kpl S (hy_bx S a1.toNatClampNeg) a2 = 0
    · rw [if_pos h4] at h; exact absurd (Int32.le_refl 0) h
    · rw [if_neg h4, if_neg h4]; rfl
theorem hy_klay_m0 {S : hy_S} (hwf : hy_wf S) {a1 a3 : Int32} (hok : hy_ok a1) (h1 : ¬ a3 < 0) (h2 : a3 ≤ 3) (a2 : Int32) (h : hy_mbar S (hy_bx S a1.toNatClampNeg) a2 1 3 = 0) : hy_klay S a1 a2 a3 = if nI (hy_nc S) < 60 then 0 else 5 := by
  have hb := hy_bar_co hwf (hwf.2.2.1 a1.toNatClampNeg) a2 3
  rw [hy_klay, if_pos (hy_kbox0 hok), if_neg h1, if_pos h2]
  rw [← hb] at h
  by_cases h3 : hy_isCo S (hy_bx S a1.toNatClampNeg) = 0
  · rw [if_pos h3] at h; cases h
  · rw [if_neg h3] at h
    rw [if_neg h3]
    by_cases h4 : hy_kpl S (hy_bx S a1.toNatClampNeg) a2 = 0
    · rw [if_pos h4]
    · rw [if_neg h4] at h; cases h
theorem hy_t4 : ∀ j, j < 8 → hy_miscombs (nI j) = 1 → (nI j - 4 = 0 ↔ nI j = 4) ∧ (nI j - 4 = 1 ↔ nI j = 5) ∧ (j = 4 ∨ j = 5 ∨ j = 6 ∨ j = 7) := by decide +kernel
theorem hy_takes_m {S : hy_S} (hwf : hy_wf S) {r : Nat} (hr : r + 1 ≤ hy_nr S) (hc : hy_miscombs (hy_so S (r + 1)) = 1) (a : Int32) : hy_takes (hy_so S (r + 1)) a = hy_mtakes (hy_so S (r + 1)) a := by
  obtain ⟨j, hj, e⟩ := hy_so8 hwf hr
  rw [e] at hc ⊢
  obtain ⟨-, -, h⟩ := hy_t4 j hj hc
  unfold hy_takes hy_mtakes
  rcases h with rfl | rfl | rfl | rfl
  · rfl
  · rw [show (nI 5 - 4 : Int32) = 1 from rfl, show (nI 5 : Int32) = 5 from rfl]
    by_cases h1 : a = 1
    · subst h1; decide
    by_cases h3 : a = 3
    · subst h3; decide
    have hw : ¬ (1 : Int32) = a := fun q => h1 q.symm
    simp [h1, h3, hw]
  · rw [show (nI 6 - 4 : Int32) = 2 from rfl, show (nI 6 : Int32) = 6 from rfl]
    by_cases h2 : a = 2
    · subst h2; decide
    by_cases h3 : a = 3
    · subst h3; decide
    have hw : ¬ (2 : Int32) = a := fun q => h2 q.symm
    simp [h2, h3, hw]
  · rw [show (nI 7 - 4 : Int32) = 3 from rfl, show (nI 7 : Int32) = 7 from rfl]
    by_cases h3 : a = 3
    · subst h3; decide
    have hw : ¬ (3 : Int32) = a := fun q => h3 q.symm
    simp [h3, hw]
theorem hy_c4 : ∀ j, j < 8 → hy_miscombs (nI j) = 0 → (j = 0 ∨ j = 1 ∨ j = 2 ∨ j = 3) := by decide +kernel
theorem hy_low_m {S : hy_S} (hwf : hy_wf S) {r : Nat} (hr : r + 1 ≤ hy_nr S) (hc : hy_miscombs (hy_so S (r + 1)) = 0) (v : Int64) : hy_low (hy_so S (r + 1)) v = hy_mcut (hy_so S (r + 1)) v := by
  obtain ⟨j, hj, e⟩ := hy_so8 hwf hr
  rw [e] at hc ⊢
  rcases hy_c4 j hj hc with rfl | rfl | rfl | rfl <;> rfl
theorem hy_misComb_m (S : hy_S) (hn : hy_nc S ≤ 60) (a : Int32) : hy_isComb S a.toInt64 = hy_misComb S a := by
  unfold hy_isComb hy_misComb
  have e1 : (a.toInt64 < 0) ↔ a < 0 := by rw [Int64.lt_iff_toInt_lt, Int32.lt_iff_toInt_lt, Int32.toInt_toInt64]; rfl
  have e2 : ((nI (hy_nc S)).toInt64 ≤ a.toInt64) ↔ nI (hy_nc S) ≤ a := by rw [Int64.le_iff_toInt_le, Int32.le_iff_toInt_le, Int32.toInt_toInt64, Int32.toInt_toInt64]
  by_cases h1 : a < 0
  · rw [if_pos h1, if_pos (e1.mpr h1)]
  · rw [if_neg h1, if_neg (fun q => h1 (e1.mp q))]
    by_cases h2 : nI (hy_nc S) ≤ a
    · rw [if_pos h2, if_pos (e2.mpr h2)]
    · rw [if_neg h2, if_neg (fun q => h2 (e2.mp q))]
