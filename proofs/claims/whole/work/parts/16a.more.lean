/-! THE REFERENCE: lemmas for move, pour, all, row. -/
theorem hy_told_end (S1 : hy_S) (m e : Int32) : hy_told (hy_ulm S1 m) e = hy_end S1 e m := rfl
theorem hy_mrow_len {S : hy_S} (hwf : hy_wf S) {a : Int32} (h : hy_mrow (hy_bx S a.toNatClampNeg) = 0) : hy_vlen S a = 0 := by
  unfold hy_vlen
  cases e : hy_bx S a.toNatClampNeg with
  | none => rfl
  | some r0 =>
    cases r0 with
    | zero =>
      show nI (hy_le S 0) = 0
      rw [hwf.2.2.2.2.2.2.1]; rfl
    | succ r => rw [e] at h; cases h
theorem hy_len_nn {S : hy_S} (hwf : hy_wf S) (a : Int32) : ¬ hy_vlen S a < 0 := by
  unfold hy_vlen
  cases e : hy_bx S a.toNatClampNeg with
  | none => show ¬ (0 : Int32) < 0; decide
  | some r =>
    show ¬ nI (hy_le S r) < 0
    exact nI_pos (by have := hwf.2.2.2.2.2.1 r; omega)
theorem hy_min_0a {S : hy_S} (hwf : hy_wf S) {a b : Int32} (h : hy_mrow (hy_bx S a.toNatClampNeg) = 0) : (0 : Int32) = hy_min (hy_vlen S a) (hy_vlen S b) := by
  rw [hy_mrow_len hwf h, hy_min, if_neg (hy_len_nn hwf b)]
theorem hy_min_0b {S : hy_S} (hwf : hy_wf S) {a b : Int32} (h : hy_mrow (hy_bx S b.toNatClampNeg) = 0) : (0 : Int32) = hy_min (hy_vlen S a) (hy_vlen S b) := by
  rw [hy_mrow_len hwf h, hy_min]
  by_cases h1 : 0 < hy_vlen S a
  · rw [if_pos h1]
  · rw [if_neg h1]
    have h2 := hy_len_nn hwf a
    rw [Int32.lt_iff_toInt_lt] at h1 h2
    refine (hy_i32 0 ?_).symm
    have e0 : (0 : Int32).toInt = 0 := rfl
    omega
theorem hy_min_ss {S : hy_S} {a b : Int32} {r1 r2 : Nat} (h1 : hy_bx S a.toNatClampNeg = some (r1 + 1)) (h2 : hy_bx S b.toNatClampNeg = some (r2 + 1)) : hy_min (hy_vlen S a) (hy_vlen S b) = if nI (hy_le S (r2 + 1)) < nI (hy_le S (r1 + 1)) then nI (hy_le S (r2 + 1)) else nI (hy_le S (r1 + 1)) := by
  rw [hy_min, hy_vlen, hy_vlen, h1, h2]; rfl
theorem hy_min_ge {S : hy_S} {a b : Int32} {r1 r2 : Nat} (h1 : hy_bx S a.toNatClampNeg = some (r1 + 1)) (h2 : hy_bx S b.toNatClampNeg = some (r2 + 1)) (h : nI (hy_le S (r2 + 1)) ≤ nI (hy_le S (r1 + 1))) : nI (hy_le S (r2 + 1)) = hy_min (hy_vlen S a) (hy_vlen S b) := by
  rw [hy_min_ss h1 h2]
  by_cases h3 : nI (hy_le S (r2 + 1)) < nI (hy_le S (r1 + 1))
  · rw [if_pos h3]
  · rw [if_neg h3]
    rw [Int32.le_iff_toInt_le] at h
    rw [Int32.lt_iff_toInt_lt] at h3
    exact hy_i32 _ (by omega)
theorem hy_min_lt {S : hy_S} {a b : Int32} {r1 r2 : Nat} (h1 : hy_bx S a.toNatClampNeg = some (r1 + 1)) (h2 : hy_bx S b.toNatClampNeg = some (r2 + 1)) (h : ¬ nI (hy_le S (r2 + 1)) ≤ nI (hy_le S (r1 + 1))) : nI (hy_le S (r1 + 1)) = hy_min (hy_vlen S a) (hy_vlen S b) := by
  rw [hy_min_ss h1 h2, if_neg (fun q => h (by rw [Int32.lt_iff_toInt_lt] at q; rw [Int32.le_iff_toInt_le]; omega))]
/-- row: the class's code out of the reference's tests -/
theorem hy_r8 {a : Int32} : ¬ 8 ≤ a ↔ a ≤ 7 := by
  rw [Int32.le_iff_toInt_le, Int32.le_iff_toInt_le]
  have e1 : (8 : Int32).toInt = 8 := rfl
  have e2 : (7 : Int32).toInt = 7 := rfl
  omega
theorem hy_krw_2 {S : hy_S} {a1 a2 a3 : Int32} (hok : hy_ok a1) (h : a2 < 0 ∨ 8 ≤ a2 ∨ a3 < 0 ∨ ¬ a3 ≤ 24) : hy_krw S a1 a2 a3 = 2 := by
  rw [hy_krw, if_pos (hy_kbox0 hok)]
  by_cases h1 : a2 < 0
  · rw [if_pos h1]
  · rw [if_neg h1]
    by_cases h2 : a2 ≤ 7
    · rw [if_pos h2]
      by_cases h3 : a3 < 0
      · rw [if_pos h3]
      · rw [if_neg h3]
        by_cases h4 : a3 ≤ 24
        · rcases h with h | h | h | h
          · exact absurd h h1
          · exact absurd h (hy_r8.mpr h2)
          · exact absurd h h3
          · exact absurd h4 h
        · rw [if_neg h4]
    · rw [if_neg h2]
theorem hy_krw_ok {S : hy_S} {a1 a2 a3 : Int32} (hok : hy_ok a1) (h1 : ¬ a2 < 0) (h2 : ¬ 8 ≤ a2) (h3 : ¬ a3 < 0) (h4 : a3 ≤ 24) : hy_krw S a1 a2 a3 = if nI (hy_nr S) < 300 then 0 else 3 := by
  rw [hy_krw, if_pos (hy_kbox0 hok), if_neg h1, if_pos (hy_r8.mp h2), if_neg h3, if_pos h4]
theorem hy_nr_ne {S : hy_S} (hwf : hy_wf S) (h : ¬ nI (hy_nr S) = 300) : nI (hy_nr S) < 300 ∧ hy_nr S < 300 := by
  have h1 := hwf.1
  have h2 : hy_nr S ≠ 300 := fun q => h (by rw [q]; rfl)
  exact ⟨(nI_ltI (a := hy_nr S) (b := 300) (by omega) (by omega)).mpr (by omega), by omega⟩
theorem hy_vrow_1 {S : hy_S} (hwf : hy_wf S) {a1 : Int32} (h : hy_enc (hy_bx S a1.toNatClampNeg) = -1) : (1 : Int32) = hy_vrow S a1 := by
  rw [hy_vrow, (hy_enc_m1 (hy_bx31 hwf _)).mp h]
theorem hy_vrow_0 {S : hy_S} (hwf : hy_wf S) {a1 : Int32} (h : ¬ hy_enc (hy_bx S a1.toNatClampNeg) = -1) : (0 : Int32) = hy_vrow S a1 := by
  rw [hy_vrow]
  cases e : hy_bx S a1.toNatClampNeg with
  | none => rw [e] at h; exact absurd rfl h
  | some r => rfl
/-- the contents that row writes, place by place -/
def hy_nf (c : Int32) (i : Nat) : Nat → Int64 := if c = 0 then fun _ => 0 else hy_fill i
theorem hy_nf0 (c : Int32) : hy_nf c 0 = fun _ => 0 := by
  unfold hy_nf
  split
  · rfl
  · funext k; rfl
theorem hy_nf_up0 (i : Nat) : vp_updL (hy_nf 0 i) i 0 = hy_nf 0 (i + 1) := by
  funext k
  show (if k = i then 0 else 0) = (0 : Int64)
  split <;> rfl
theorem hy_nf_up1 {c : Int32} (h : ¬ c = 0) (i : Nat) : vp_updL (hy_nf c i) i (-1) = hy_nf c (i + 1) := by
  unfold hy_nf
  rw [if_neg h, if_neg h]
  exact hy_fill_up i
theorem hy_new_nf {a2 : Int32} (h1 : ¬ a2 < 0) (h2 : ¬ 8 ≤ a2) (n : Nat) : hy_nf (hy_miscombs a2) n = hy_new a2 n := by
  unfold hy_nf hy_new hy_miscombs
  by_cases h : a2 ≤ 3
  · rw [if_pos h, if_pos rfl, if_pos (by
      rw [Int32.le_iff_toInt_le] at h; rw [Int32.lt_iff_toInt_lt]
      have e1 : (3 : Int32).toInt = 3 := rfl
      have e2 : (4 : Int32).toInt = 4 := rfl
      omega)]
  · rw [if_neg h, if_neg h2, if_neg (by decide), if_neg (fun q => h (by
      rw [Int32.lt_iff_toInt_lt] at q; rw [Int32.le_iff_toInt_le]
      have e1 : (3 : Int32).toInt = 3 := rfl
      have e2 : (4 : Int32).toInt = 4 := rfl
      omega))]
/-- the state in row's loop: row number nr is there, its first i places written -/
def hy_ri (S : hy_S) (so : Int32) (n : Nat) (f : Nat → Int64) : hy_S := hy_uva (hy_ule (hy_uso (hy_unr S (hy_nr S + 1)) (va_up (hy_so S) (hy_nr S + 1) so)) (va_up (hy_le S) (hy_nr S + 1) n)) (hy_nr S + 1) f
theorem hy_ri0 {S : hy_S} (hwf : hy_wf S) (so : Int32) (n : Nat) (c : Int32) : hy_ule (hy_uso (hy_unr S (hy_nr S + 1)) (va_up (hy_so S) (hy_nr S + 1) so)) (va_up (hy_le S) (hy_nr S + 1) n) = hy_ri S so n (hy_nf c 0) := by
  have e : hy_va S (hy_nr S + 1) = fun _ => 0 := by
    funext k
    exact hwf.2.2.2.2.2.2.2.2.1 _ k (by rw [(hwf.2.2.2.2.2.2.2.1 (hy_nr S + 1) (by omega)).1]; omega)
  rw [hy_nf0, ← e]
  exact (hy_uva_self (hy_ule (hy_uso (hy_unr S (hy_nr S + 1)) (va_up (hy_so S) (hy_nr S + 1) so)) (va_up (hy_le S) (hy_nr S + 1) n)) (hy_nr S + 1)).symm
theorem hy_ri1 (S : hy_S) (so : Int32) (n : Nat) (f g : Nat → Int64) (k : Nat) (v : Int64) (h : vp_updL f k v = g) : hy_uva (hy_ri S so n f) (hy_nr S + 1) (vp_updL (hy_va (hy_ri S so n f) (hy_nr S + 1)) k v) = hy_ri S so n g := by
  have e1 : hy_va (hy_ri S so n f) (hy_nr S + 1) = f := va_up_self _ _ _
  rw [e1, h]
  have e2 : va_up (hy_va (hy_ri S so n f)) (hy_nr S + 1) g = va_up (hy_va S) (hy_nr S + 1) g := bx_uu _ _ _ _
  show (_, _, _, _, va_up (hy_va (hy_ri S so n f)) (hy_nr S + 1) g, _) = _
  rw [e2]
  rfl
