/-! THE REFERENCE: what stops a move. -/
def hy_cbar (S : hy_S) (o1 o2 : Option Nat) (i j n : Int32) : Int32 := match o1, o2 with
  | some r1, some r2 => if hy_isRow S (some r1) = 0 then 2 else if hy_isRow S (some r2) = 0 then 2 else if hy_unlike S r1 r2 = 0 then (if hy_out S r1 i n = 0 then (if hy_out S r2 j n = 0 then 0 else 4) else 4) else 3
  | none, _ => 1
  | some _, none => 1
theorem hy_out_neg {S : hy_S} {r : Nat} {i n : Int32} (h : n < 0) : ¬ hy_out S r i n = 0 := by
  unfold hy_out
  by_cases h1 : i < 0
  · rw [if_pos h1]; decide
  · rw [if_neg h1, if_pos h]; decide
theorem hy_out_m {S : hy_S} {r : Nat} {i n : Int32} (h : ¬ n < 0) : hy_out S r i n = hy_mout i n (nI (hy_le S r)) := by
  unfold hy_out hy_mout
  by_cases h1 : i < 0
  · rw [if_pos h1, if_pos h1]
  · rw [if_neg h1, if_neg h1, if_neg h]
theorem hy_isRow_s {S : hy_S} (hwf : hy_wf S) {r : Nat} (hr : r + 1 ≤ hy_nr S) : ¬ hy_isRow S (some (r + 1)) = 0 := by
  rw [hy_isRow_m hwf (fun q e => by cases e; exact hr)]
  show ¬ (1 : Int32) = 0
  decide
theorem hy_isRow_z {S : hy_S} (hwf : hy_wf S) : hy_isRow S (some 0) = 0 := by
  rw [hy_isRow_m hwf (fun q e => by cases e; exact Nat.zero_le _)]
  rfl
theorem hy_unlike_0 {S : hy_S} (hwf : hy_wf S) {r1 r2 : Nat} (h1 : r1 + 1 ≤ hy_nr S) (h2 : r2 + 1 ≤ hy_nr S) (h : hy_so S (r1 + 1) = hy_so S (r2 + 1) ∨ (¬ hy_miscombs (hy_so S (r1 + 1)) = 0 ∧ ¬ hy_miscombs (hy_so S (r2 + 1)) = 0)) : hy_unlike S (r1 + 1) (r2 + 1) = 0 := by
  unfold hy_unlike
  rw [hy_isCo_m hwf h1, hy_isCo_m hwf h2]
  by_cases h3 : hy_so S (r1 + 1) = hy_so S (r2 + 1)
  · rw [if_pos h3]
  · rcases h with h | ⟨ha, hb⟩
    · exact absurd h h3
    · rw [if_neg h3, if_neg ha, if_neg hb]
theorem hy_unlike_1 {S : hy_S} (hwf : hy_wf S) {r1 r2 : Nat} (h1 : r1 + 1 ≤ hy_nr S) (h2 : r2 + 1 ≤ hy_nr S) (h3 : ¬ hy_so S (r1 + 1) = hy_so S (r2 + 1)) (h : hy_miscombs (hy_so S (r1 + 1)) = 0 ∨ hy_miscombs (hy_so S (r2 + 1)) = 0) : ¬ hy_unlike S (r1 + 1) (r2 + 1) = 0 := by
  unfold hy_unlike
  rw [hy_isCo_m hwf h1, hy_isCo_m hwf h2, if_neg h3]
  by_cases ha : hy_miscombs (hy_so S (r1 + 1)) = 0
  · rw [if_pos ha]; decide
  · rw [if_neg ha]
    rcases h with h | h
    · exact absurd h ha
    · rw [if_pos h]; decide
section HYB
variable {S : hy_S} {r1 r2 : Nat} {i j n : Int32}
theorem hy_cbar_z1 (hwf : hy_wf S) {r : Nat} : (2 : Int32) = hy_cbar S (some 0) (some r) i j n := by
  rw [hy_cbar, if_pos (hy_isRow_z hwf)]
theorem hy_cbar_z2 (hwf : hy_wf S) (h1 : r1 + 1 ≤ hy_nr S) : (2 : Int32) = hy_cbar S (some (r1 + 1)) (some 0) i j n := by
  rw [hy_cbar, if_neg (hy_isRow_s hwf h1), if_pos (hy_isRow_z hwf)]
theorem hy_cbar_3 (hwf : hy_wf S) (h1 : r1 + 1 ≤ hy_nr S) (h2 : r2 + 1 ≤ hy_nr S) (h3 : ¬ hy_so S (r1 + 1) = hy_so S (r2 + 1)) (h : hy_miscombs (hy_so S (r1 + 1)) = 0 ∨ hy_miscombs (hy_so S (r2 + 1)) = 0) : (3 : Int32) = hy_cbar S (some (r1 + 1)) (some (r2 + 1)) i j n := by
  rw [hy_cbar, if_neg (hy_isRow_s hwf h1), if_neg (hy_isRow_s hwf h2), if_neg (hy_unlike_1 hwf h1 h2 h3 h)]
theorem hy_cbar_u (hwf : hy_wf S) (h1 : r1 + 1 ≤ hy_nr S) (h2 : r2 + 1 ≤ hy_nr S) (h : hy_so S (r1 + 1) = hy_so S (r2 + 1) ∨ (¬ hy_miscombs (hy_so S (r1 + 1)) = 0 ∧ ¬ hy_miscombs (hy_so S (r2 + 1)) = 0)) : hy_cbar S (some (r1 + 1)) (some (r2 + 1)) i j n = if hy_out S (r1 + 1) i n = 0 then (if hy_out S (r2 + 1) j n = 0 then 0 else 4) else 4 := by
  rw [hy_cbar, if_neg (hy_isRow_s hwf h1), if_neg (hy_isRow_s hwf h2), if_pos (hy_unlike_0 hwf h1 h2 h)]
theorem hy_cbar_n (hwf : hy_wf S) (h1 : r1 + 1 ≤ hy_nr S) (h2 : r2 + 1 ≤ hy_nr S) (h : hy_so S (r1 + 1) = hy_so S (r2 + 1) ∨ (¬ hy_miscombs (hy_so S (r1 + 1)) = 0 ∧ ¬ hy_miscombs (hy_so S (r2 + 1)) = 0)) (hn : n < 0) : (4 : Int32) = hy_cbar S (some (r1 + 1)) (some (r2 + 1)) i j n := by
  rw [hy_cbar_u hwf h1 h2 h, if_neg (hy_out_neg hn)]
theorem hy_cbar_a (hwf : hy_wf S) (h1 : r1 + 1 ≤ hy_nr S) (h2 : r2 + 1 ≤ hy_nr S) (h : hy_so S (r1 + 1) = hy_so S (r2 + 1) ∨ (¬ hy_miscombs (hy_so S (r1 + 1)) = 0 ∧ ¬ hy_miscombs (hy_so S (r2 + 1)) = 0)) (hn : ¬ n < 0) (ha : ¬ hy_mout i n (nI (hy_le S (r1 + 1))) = 0) : (4 : Int32) = hy_cbar S (some (r1 + 1)) (some (r2 + 1)) i j n := by
  rw [hy_cbar_u hwf h1 h2 h, hy_out_m hn, if_neg ha]
theorem hy_cbar_b (hwf : hy_wf S) (h1 : r1 + 1 ≤ hy_nr S) (h2 : r2 + 1 ≤ hy_nr S) (h : hy_so S (r1 + 1) = hy_so S (r2 + 1) ∨ (¬ hy_miscombs (hy_so S (r1 + 1)) = 0 ∧ ¬ hy_miscombs (hy_so S (r2 + 1)) = 0)) (hn : ¬ n < 0) (ha : hy_mout i n (nI (hy_le S (r1 + 1))) = 0) (hb : ¬ hy_mout j n (nI (hy_le S (r2 + 1))) = 0) : (4 : Int32) = hy_cbar S (some (r1 + 1)) (some (r2 + 1)) i j n := by
  rw [hy_cbar_u hwf h1 h2 h, hy_out_m hn, hy_out_m hn, if_pos ha, if_neg hb]
theorem hy_cbar_0 (hwf : hy_wf S) (h1 : r1 + 1 ≤ hy_nr S) (h2 : r2 + 1 ≤ hy_nr S) (h : hy_so S (r1 + 1) = hy_so S (r2 + 1) ∨ (¬ hy_miscombs (hy_so S (r1 + 1)) = 0 ∧ ¬ hy_miscombs (hy_so S (r2 + 1)) = 0)) (hn : ¬ n < 0) (ha : hy_mout i n (nI (hy_le S (r1 + 1))) = 0) (hb : hy_mout j n (nI (hy_le S (r2 + 1))) = 0) : (0 : Int32) = hy_cbar S (some (r1 + 1)) (some (r2 + 1)) i j n := by
  rw [hy_cbar_u hwf h1 h2 h, hy_out_m hn, hy_out_m hn, if_pos ha, if_pos hb]
end HYB
def hy_told (S : hy_S) (a1 : Int32) : hy_S := hy_upm (hy_uen (hy_umo S (hy_mo S + 1)) (upd (hy_en S) a1.toNatClampNeg (hy_en S a1.toNatClampNeg + 1))) (hy_pm S + hy_lm S)
