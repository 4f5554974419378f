/-! more of the reference's answers as the state's. -/
theorem hy_enc_m2 {o : Option Nat} (ho : ∀ r, o = some r → r < 2 ^ 31) : hy_enc o = -2 ↔ o = some 0 := by
  cases o with
  | none => exact ⟨fun q => absurd q (by decide), fun q => nomatch q⟩
  | some r0 =>
    cases r0 with
    | zero => exact ⟨fun _ => rfl, fun _ => rfl⟩
    | succ r => exact ⟨fun q => absurd q (hy_nI_ne (by have := ho _ rfl; omega) (by decide)), fun q => absurd (Option.some.inj q) (by omega)⟩
theorem hy_enc_m1 {o : Option Nat} (ho : ∀ r, o = some r → r < 2 ^ 31) : hy_enc o = -1 ↔ o = none := by
  cases o with
  | none => exact ⟨fun _ => rfl, fun _ => rfl⟩
  | some r0 =>
    cases r0 with
    | zero => exact ⟨fun q => absurd q (by decide), fun q => nomatch q⟩
    | succ r => exact ⟨fun q => absurd q (hy_nI_ne (by have := ho _ rfl; omega) (by decide)), fun q => nomatch q⟩
theorem hy_bx31 {S : hy_S} (hwf : hy_wf S) (i : Nat) : ∀ r, hy_bx S i = some r → r < 2 ^ 31 := fun r h => by
  have h1 := hwf.2.2.1 i r h
  have h2 := hwf.1
  omega
theorem hy_enc_inj {S : hy_S} (hwf : hy_wf S) {i j : Nat} (h : hy_enc (hy_bx S i) = hy_enc (hy_bx S j)) : hy_bx S i = hy_bx S j := by
  have b1 := hy_bx31 hwf i
  have b2 := hy_bx31 hwf j
  cases e1 : hy_bx S i with
  | none =>
    rw [e1] at h
    exact ((hy_enc_m1 b2).mp h.symm).symm
  | some r0 =>
    cases r0 with
    | zero =>
      rw [e1] at h
      exact ((hy_enc_m2 b2).mp h.symm).symm
    | succ r =>
      cases e2 : hy_bx S j with
      | none => rw [e1, e2] at h; exact absurd h (hy_nI_ne (by have := b1 _ e1; omega) (by decide))
      | some q0 =>
        cases q0 with
        | zero => rw [e1, e2] at h; exact absurd h (hy_nI_ne (by have := b1 _ e1; omega) (by decide))
        | succ q =>
          rw [e1, e2] at h
          have : r = q := (nI_eq (by have := b1 _ e1; omega) (by have := b2 _ e2; omega)).mp h
          rw [this]
theorem hy_vlid_0 {S : hy_S} (hwf : hy_wf S) {a1 : Int32} (h : hy_enc (hy_bx S a1.toNatClampNeg) = -2) : (0 : Int32) = hy_vlid S a1 := by
  rw [hy_vlid, if_pos ((hy_enc_m2 (hy_bx31 hwf _)).mp h)]
theorem hy_vlid_1 {S : hy_S} (hwf : hy_wf S) {a1 : Int32} (h : ¬ hy_enc (hy_bx S a1.toNatClampNeg) = -2) : (1 : Int32) = hy_vlid S a1 := by
  rw [hy_vlid, if_neg (fun q => h ((hy_enc_m2 (hy_bx31 hwf _)).mpr q))]
theorem hy_vclear_0 {S : hy_S} (hwf : hy_wf S) {a1 : Int32} (h : hy_enc (hy_bx S a1.toNatClampNeg) = -1) : (0 : Int32) = hy_vclear S a1 := by
  rw [hy_vclear, (hy_enc_m1 (hy_bx31 hwf _)).mp h]
theorem hy_vclear_1 {S : hy_S} (hwf : hy_wf S) {a1 : Int32} (h : ¬ hy_enc (hy_bx S a1.toNatClampNeg) = -1) : (1 : Int32) = hy_vclear S a1 := by
  rw [hy_vclear]
  cases e : hy_bx S a1.toNatClampNeg with
  | none => rw [e] at h; exact absurd rfl h
  | some r => rfl
theorem hy_kcomb_1 {S : hy_S} (hwf : hy_wf S) {a : Int32} (h : hy_misComb S a = 0) : hy_kcomb S a = 1 := by
  rw [hy_kcomb, hy_misComb_m S hwf.2.1, if_pos h]
theorem hy_kcomb_0 {S : hy_S} (hwf : hy_wf S) {a : Int32} (h : ¬ hy_misComb S a = 0) : hy_kcomb S a = 0 := by
  rw [hy_kcomb, hy_misComb_m S hwf.2.1, if_neg h]
theorem hy_mcomb_in {S : hy_S} (hwf : hy_wf S) {a : Int32} (h : ¬ hy_misComb S a = 0) : vp_in a 60 := hy_combI hwf.2.1 (by rw [hy_misComb_m S hwf.2.1]; exact h)
theorem hy_i2 {a b : Int32} : ¬ a < b ↔ b ≤ a := Int32.not_lt
theorem hy_mcend_in {a : Int32} (h1 : ¬ a < 3) (h2 : ¬ 7 < a) : vp_in (a - 2) 6 := by
  refine hy_cend_in (fun q => h1 ?_) ?_
  · rw [Int32.le_iff_toInt_le] at q; rw [Int32.lt_iff_toInt_lt]
    have e1 : (2 : Int32).toInt = 2 := rfl
    have e2 : (3 : Int32).toInt = 3 := rfl
    omega
  · rw [Int32.lt_iff_toInt_lt] at h2 ⊢
    have e1 : (7 : Int32).toInt = 7 := rfl
    have e2 : (8 : Int32).toInt = 8 := rfl
    omega
theorem hy_count_e {S : hy_S} {a : Int32} (h0 : ¬ a = 0) (h1 : ¬ a = 1) (h2 : ¬ a = 2) (h3 : ¬ a < 3) (h7 : ¬ 7 < a) : hy_en S (a - 2).toNatClampNeg = hy_count S a := by
  have h8 : ¬ a = 8 := fun q => h7 (by rw [q]; decide)
  have k1 : ¬ a ≤ 2 := fun q => h3 (by
    rw [Int32.le_iff_toInt_le] at q; rw [Int32.lt_iff_toInt_lt]
    have e1 : (2 : Int32).toInt = 2 := rfl
    have e2 : (3 : Int32).toInt = 3 := rfl
    omega)
  have k2 : a < 8 := by
    rw [Int32.lt_iff_toInt_lt] at h7 ⊢
    have e1 : (7 : Int32).toInt = 7 := rfl
    have e2 : (8 : Int32).toInt = 8 := rfl
    omega
  rw [hy_count, if_neg h0, if_neg h1, if_neg h2, if_neg h8, hy_cend, if_neg k1, if_pos k2]
theorem hy_count_8 {S : hy_S} {a : Int32} (h0 : ¬ a = 0) (h1 : ¬ a = 1) (h2 : ¬ a = 2) (_ : a < 3 ∨ 7 < a) (h8 : a = 8) : hy_pm S = hy_count S a := by
  rw [hy_count, if_neg h0, if_neg h1, if_neg h2, if_pos h8]
theorem hy_count_n {S : hy_S} {a : Int32} (h0 : ¬ a = 0) (h1 : ¬ a = 1) (h2 : ¬ a = 2) (h : a < 3 ∨ 7 < a) (h8 : ¬ a = 8) : (-1 : Int32) = hy_count S a := by
  rw [hy_count, if_neg h0, if_neg h1, if_neg h2, if_neg h8, hy_cend]
  rcases h with h | h
  · rw [if_pos (by
      rw [Int32.lt_iff_toInt_lt] at h; rw [Int32.le_iff_toInt_le]
      have e1 : (2 : Int32).toInt = 2 := rfl
      have e2 : (3 : Int32).toInt = 3 := rfl
      omega)]
  · have k1 : ¬ a ≤ 2 := by
      intro q
      rw [Int32.lt_iff_toInt_lt] at h; rw [Int32.le_iff_toInt_le] at q
      have e1 : (2 : Int32).toInt = 2 := rfl
      have e2 : (7 : Int32).toInt = 7 := rfl
      omega
    have k2 : ¬ a < 8 := by
      intro q
      rw [Int32.lt_iff_toInt_lt] at h q
      have e1 : (8 : Int32).toInt = 8 := rfl
      have e2 : (7 : Int32).toInt = 7 := rfl
      have e3 : ¬ a.toInt = 8 := fun z => h8 (hy_i32 8 z)
      omega
    rw [if_neg k1, if_neg k2]
theorem hy_wf_ubx {S : hy_S} (hwf : hy_wf S) (i : Nat) {o : Option Nat} (ho : ∀ r, o = some r → r ≤ hy_nr S) : hy_wf (hy_ubx S (va_up (hy_bx S) i o)) := by
  refine ⟨hwf.1, hwf.2.1, ?_, hwf.2.2.2⟩
  intro j r h
  have h' : va_up (hy_bx S) i o j = some r := h
  by_cases hj : j = i
  · rw [hj, va_up_self] at h'; exact ho r h'
  · rw [va_up_ne _ _ hj] at h'; exact hwf.2.2.1 j r h'
theorem hy_slay_m {S : hy_S} (hwf : hy_wf S) : upd (hy_we S) (nI (hy_nc S)).toNatClampNeg 0 = hy_we S := by
  have h1 := hwf.2.1
  funext j
  simp only [upd]
  split
  · rename_i h
    rw [h, nI_clamp (by omega)]
    exact (hwf.2.2.2.2.2.2.2.2.2.2.1 _ (Nat.le_refl _)).symm
  · rfl
theorem hy_uwe_self (S : hy_S) : hy_uwe S (hy_we S) = S := rfl
theorem hy_nc_ne {S : hy_S} (hwf : hy_wf S) (h : ¬ nI (hy_nc S) = 60) : nI (hy_nc S) < 60 := by
  have h1 := hwf.2.1
  have h2 : hy_nc S ≠ 60 := fun q => h (by rw [q]; rfl)
  exact (nI_ltI (a := hy_nc S) (b := 60) (by omega) (by omega)).mpr (by omega)
theorem hy_nc_eq {S : hy_S} (h : nI (hy_nc S) = 60) : ¬ nI (hy_nc S) < 60 := by rw [h]; decide
