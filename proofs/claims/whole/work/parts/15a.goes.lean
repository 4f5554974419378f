/-! THE REFERENCE: goes, against the class's carry. -/
def hy_C (S : hy_S) (a1 a2 a3 a4 a5 : Int32) : Int32 × Int32 × hy_S := hy_carry S (hy_bx S a1.toNatClampNeg) (hy_bx S a3.toNatClampNeg) a2 a4 a5
def hy_gS (S : hy_S) (a1 a2 a3 a4 a5 : Int32) : hy_S := hy_ulm (hy_C S a1 a2 a3 a4 a5).2.2 (hy_C S a1 a2 a3 a4 a5).2.1
theorem hy_C_bar {S : hy_S} {o1 o2 : Option Nat} {i j n : Int32} (h : ¬ hy_cbar S o1 o2 i j n = 0) : hy_carry S o1 o2 i j n = (hy_cbar S o1 o2 i j n, 0, S) := by
  cases o1 with
  | none => rfl
  | some r1 =>
    cases o2 with
    | none => rfl
    | some r2 =>
      unfold hy_cbar at h
      unfold hy_carry hy_cbar
      dsimp only at h ⊢
      by_cases h1 : hy_isRow S (some r1) = 0
      · rw [if_pos h1, if_pos h1]
      · rw [if_neg h1] at h ⊢
        rw [if_neg h1]
        by_cases h2 : hy_isRow S (some r2) = 0
        · rw [if_pos h2, if_pos h2]
        · rw [if_neg h2] at h ⊢
          rw [if_neg h2]
          by_cases h3 : hy_unlike S r1 r2 = 0
          · rw [if_pos h3] at h ⊢
            rw [if_pos h3]
            by_cases h4 : hy_out S r1 i n = 0
            · rw [if_pos h4] at h ⊢
              rw [if_pos h4]
              by_cases h5 : hy_out S r2 j n = 0
              · rw [if_pos h5] at h; exact absurd rfl h
              · rw [if_neg h5, if_neg h5]
            · rw [if_neg h4, if_neg h4]
          · rw [if_neg h3, if_neg h3]
theorem hy_unlike_mc {S : hy_S} (hwf : hy_wf S) {r1 r2 : Nat} (h1 : r1 + 1 ≤ hy_nr S) (h2 : r2 + 1 ≤ hy_nr S) (h : hy_unlike S (r1 + 1) (r2 + 1) = 0) : hy_miscombs (hy_so S (r1 + 1)) = hy_miscombs (hy_so S (r2 + 1)) := by
  unfold hy_unlike at h
  rw [hy_isCo_m hwf h1, hy_isCo_m hwf h2] at h
  by_cases h3 : hy_so S (r1 + 1) = hy_so S (r2 + 1)
  · rw [h3]
  · rw [if_neg h3] at h
    by_cases h4 : hy_miscombs (hy_so S (r1 + 1)) = 0
    · rw [if_pos h4] at h; cases h
    · rw [if_neg h4] at h
      by_cases h5 : hy_miscombs (hy_so S (r2 + 1)) = 0
      · rw [if_pos h5] at h; cases h
      · rcases hy_mc01 (hy_so S (r1 + 1)) with q1 | q1
        · exact absurd q1 h4
        · rcases hy_mc01 (hy_so S (r2 + 1)) with q2 | q2
          · exact absurd q2 h5
          · rw [q1, q2]
theorem hy_cbar_ok {S : hy_S} (hwf : hy_wf S) {o1 o2 : Option Nat} {i j n : Int32} (ho1 : ∀ r, o1 = some r → r ≤ hy_nr S) (ho2 : ∀ r, o2 = some r → r ≤ hy_nr S) (h : hy_cbar S o1 o2 i j n = 0) :
    ∃ r1 r2 i0 j0 m0 : Nat, o1 = some (r1 + 1) ∧ o2 = some (r2 + 1) ∧ i = nI i0 ∧ j = nI j0 ∧ n = nI m0 ∧ i0 + m0 ≤ hy_le S (r1 + 1) ∧ j0 + m0 ≤ hy_le S (r2 + 1) ∧ r1 + 1 ≤ hy_nr S ∧ r2 + 1 ≤ hy_nr S ∧ hy_miscombs (hy_so S (r1 + 1)) = hy_miscombs (hy_so S (r2 + 1)) ∧
      hy_carry S o1 o2 i j n = (if nI m0 ≤ nI (hy_fit S (r1 + 1) i0 (r2 + 1) m0) then 0 else 5, nI (hy_fit S (r1 + 1) i0 (r2 + 1) m0), hy_uva S (r2 + 1) (va_cpy (hy_va S (r1 + 1)) (hy_va S (r2 + 1)) i0 j0 (hy_fit S (r1 + 1) i0 (r2 + 1) m0))) := by
  cases o1 with
  | none => cases h
  | some q1 =>
    cases o2 with
    | none => cases h
    | some q2 =>
      unfold hy_cbar at h
      dsimp only at h
      by_cases h1 : hy_isRow S (some q1) = 0
      · rw [if_pos h1] at h; cases h
      · rw [if_neg h1] at h
        by_cases h2 : hy_isRow S (some q2) = 0
        · rw [if_pos h2] at h; cases h
        · rw [if_neg h2] at h
          by_cases h3 : hy_unlike S q1 q2 = 0
          · rw [if_pos h3] at h
            by_cases h4 : hy_out S q1 i n = 0
            · rw [if_pos h4] at h
              by_cases h5 : hy_out S q2 j n = 0
              · cases q1 with
                | zero => exact absurd (hy_isRow_z hwf) h1
                | succ r1 =>
                  cases q2 with
                  | zero => exact absurd (hy_isRow_z hwf) h2
                  | succ r2 =>
                    have k1 := hwf.2.2.2.2.2.1 (r1 + 1)
                    have k2 := hwf.2.2.2.2.2.1 (r2 + 1)
                    obtain ⟨i0, m0, rfl, rfl, hi⟩ := hy_out_0 k1 h4
                    obtain ⟨j0, m1, rfl, hm, hj⟩ := hy_out_0 k2 h5
                    obtain rfl : m0 = m1 := (nI_eq (by omega) (by omega)).mp hm
                    have hfl := hy_fit_le S (r1 + 1) i0 (r2 + 1) m0
                    refine ⟨r1, r2, i0, j0, m0, rfl, rfl, rfl, rfl, rfl, hi, hj, ho1 _ rfl, ho2 _ rfl, hy_unlike_mc hwf (ho1 _ rfl) (ho2 _ rfl) h3, ?_⟩
                    rw [hy_carry_5 (by omega) (by omega) h1 h2 h3 h4 h5, nI_clamp (by omega), nI_clamp (by omega), nI_clamp (by omega)]
              · rw [if_neg h5] at h; cases h
            · rw [if_neg h4] at h; cases h
          · rw [if_neg h3] at h; cases h
theorem hy_cpy0 {α : Type} (f g : Nat → α) (sp dp : Nat) : va_cpy f g sp dp 0 = g := by
  funext k
  show (if dp ≤ k ∧ k < dp + 0 then _ else g k) = g k
  rw [if_neg (by omega)]
theorem hy_cpy1 (f g : Nat → Int64) (sp dp n : Nat) : vp_updL (va_cpy f g sp dp n) (dp + n) (f (sp + n)) = va_cpy f g sp dp (n + 1) := by
  funext k
  show (if k = dp + n then f (sp + n) else if dp ≤ k ∧ k < dp + n then f (sp + (k - dp)) else g k) = if dp ≤ k ∧ k < dp + (n + 1) then f (sp + (k - dp)) else g k
  by_cases h : k = dp + n
  · rw [if_pos h, if_pos (by omega), h, Nat.add_sub_cancel_left]
  · rw [if_neg h]
    by_cases h2 : dp ≤ k ∧ k < dp + n
    · rw [if_pos h2, if_pos (by omega)]
    · rw [if_neg h2, if_neg (by omega)]
theorem hy_uva_self (S : hy_S) (r : Nat) : hy_uva S r (hy_va S r) = S := by
  have e : va_up (hy_va S) r (hy_va S r) = hy_va S := by
    funext j
    simp only [va_up]
    split
    · rename_i h; rw [h]
    · rfl
  unfold hy_uva
  rw [e]
  rfl
theorem hy_gstep (S : hy_S) (R sp dp i : Nat) (F : Nat → Int64) (x y : Int32) : hy_ulm (hy_uva (hy_ulm (hy_uva S R (va_cpy F (hy_va S R) sp dp i)) x) R (vp_updL (hy_va (hy_ulm (hy_uva S R (va_cpy F (hy_va S R) sp dp i)) x) R) (dp + i) (F (sp + i)))) y = hy_ulm (hy_uva S R (va_cpy F (hy_va S R) sp dp (i + 1))) y := by
  have e1 : hy_va (hy_ulm (hy_uva S R (va_cpy F (hy_va S R) sp dp i)) x) R = va_cpy F (hy_va S R) sp dp i := va_up_self _ _ _
  rw [e1, hy_cpy1]
  have e2 : va_up (hy_va (hy_ulm (hy_uva S R (va_cpy F (hy_va S R) sp dp i)) x)) R (va_cpy F (hy_va S R) sp dp (i + 1)) = va_up (hy_va S) R (va_cpy F (hy_va S R) sp dp (i + 1)) := bx_uu _ _ _ _
  show hy_ulm (_, _, _, _, va_up (hy_va (hy_ulm (hy_uva S R (va_cpy F (hy_va S R) sp dp i)) x)) R (va_cpy F (hy_va S R) sp dp (i + 1)), _) y = _
  rw [e2]
  rfl
theorem hy_g0 (S : hy_S) (R sp dp : Nat) (F : Nat → Int64) : hy_ulm S 0 = hy_ulm (hy_uva S R (va_cpy F (hy_va S R) sp dp 0)) (nI 0) := by
  rw [hy_cpy0, hy_uva_self]
  rfl
/-- a comb's value in a row of combs -/
theorem hy_combval {S : hy_S} (hwf : hy_wf S) {r k : Nat} (hr : r + 1 ≤ hy_nr S) (hc : hy_miscombs (hy_so S (r + 1)) = 1) (hk : k < hy_le S (r + 1)) : hy_va S (r + 1) k = -1 ∨ ∃ c : Nat, c < hy_nc S ∧ hy_va S (r + 1) k = lN c := by
  refine hwf.2.2.2.2.2.2.2.2.2.1 (r + 1) hr ?_ k hk
  obtain ⟨j, hj, e⟩ := hy_so8 hwf hr
  rw [e] at hc ⊢
  have : ∀ j, j < 8 → hy_miscombs (nI j) = 1 → (4 : Int32) ≤ nI j := by decide +kernel
  exact this j hj hc
theorem hy_neg1 {S : hy_S} {v : Int64} (h : v < 0) : hy_isComb S v = 0 := by rw [hy_isComb, if_pos h]
theorem hy_comb_nn {S : hy_S} (hn : hy_nc S ≤ 60) {v : Int64} (h : v = -1 ∨ ∃ c : Nat, c < hy_nc S ∧ v = lN c) (h0 : ¬ v < 0) : ¬ hy_isComb S v = 0 := by
  rcases h with rfl | ⟨c, hc, rfl⟩
  · exact absurd (by decide) h0
  · rw [hy_isComb, if_neg h0, nI_l (by omega), if_neg (fun q => absurd ((pk_lLE (by omega) (by omega)).mp q) (by omega))]
    decide
theorem hy_fit_num {S : hy_S} (hwf : hy_wf S) {r1 i0 r2 m0 : Nat} (hr : r1 + 1 ≤ hy_nr S) (hc : hy_miscombs (hy_so S (r1 + 1)) = 0) : ¬ hy_isNum S (some (r1 + 1)) = 0 := by
  rw [hy_isNum_m hwf hr, if_pos hc]; decide
abbrev hy_FG (S : hy_S) (r1 i0 r2 : Nat) : Nat → Nat → Nat := hy_fitgo S (hy_so S (r2 + 1)) (fun k => hy_va S (r1 + 1) (i0 + k))
theorem hy_fg_ok {S : hy_S} {r1 i0 r2 m0 i : Nat} (hi : i < m0) (h : hy_isComb S (hy_va S (r1 + 1) (i0 + i)) = 0 ∨ ¬ hy_takes (hy_so S (r2 + 1)) (hy_ki S (hy_va S (r1 + 1) (i0 + i)).toInt32.toNatClampNeg) = 0) (hf : hy_FG S r1 i0 r2 (m0 - i) i = hy_FG S r1 i0 r2 m0 0) : hy_FG S r1 i0 r2 (m0 - (i + 1)) (i + 1) = hy_FG S r1 i0 r2 m0 0 := by
  rw [← hf, show m0 - i = (m0 - (i + 1)) + 1 by omega]
  show _ = hy_fitgo _ _ _ _ _
  rw [hy_fitgo]
  by_cases h1 : hy_isComb S (hy_va S (r1 + 1) (i0 + i)) = 0
  · rw [if_pos h1]
  · rw [if_neg h1]
    rcases h with h | h
    · exact absurd h h1
    · rw [if_neg h]
theorem hy_fg_bad {S : hy_S} {r1 i0 r2 m0 i : Nat} (hi : i < m0) (h1 : ¬ hy_isComb S (hy_va S (r1 + 1) (i0 + i)) = 0) (h2 : hy_takes (hy_so S (r2 + 1)) (hy_ki S (hy_va S (r1 + 1) (i0 + i)).toInt32.toNatClampNeg) = 0) (hf : hy_FG S r1 i0 r2 (m0 - i) i = hy_FG S r1 i0 r2 m0 0) : hy_FG S r1 i0 r2 m0 0 = i := by
  rw [← hf, show m0 - i = (m0 - (i + 1)) + 1 by omega]
  show hy_fitgo _ _ _ _ _ = i
  rw [hy_fitgo, if_neg h1, if_pos h2]
theorem hy_C_end {S : hy_S} {a1 a2 a3 a4 a5 : Int32} {e m : Int32} {S1 : hy_S} (h : hy_C S a1 a2 a3 a4 a5 = (e, m, S1)) : hy_ulm S1 m = hy_gS S a1 a2 a3 a4 a5 ∧ e = (hy_C S a1 a2 a3 a4 a5).1 := by
  rw [hy_gS, h]; exact ⟨rfl, rfl⟩
theorem hy_C1_in (S : hy_S) (o1 o2 : Option Nat) (i j n : Int32) : vp_in (hy_carry S o1 o2 i j n).1 6 := by
  have d : ∀ k, k < 6 → vp_in (nI k) 6 := fun k hk => vp_in_nI hk (by omega)
  by_cases h : hy_cbar S o1 o2 i j n = 0
  · cases o1 with
    | none => cases h
    | some r1 =>
      cases o2 with
      | none => cases h
      | some r2 =>
        unfold hy_carry
        dsimp only
        repeat' split
        all_goals first | exact d 0 (by decide) | exact d 1 (by decide) | exact d 2 (by decide) | exact d 3 (by decide) | exact d 4 (by decide) | exact d 5 (by decide)
  · rw [hy_C_bar h]
    show vp_in (hy_cbar S o1 o2 i j n) 6
    unfold hy_cbar
    repeat' split
    all_goals first | exact d 0 (by decide) | exact d 1 (by decide) | exact d 2 (by decide) | exact d 3 (by decide) | exact d 4 (by decide) | exact d 5 (by decide)
