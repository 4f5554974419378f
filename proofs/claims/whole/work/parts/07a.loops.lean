/-! Loops by a counter; sums and the first place that doesn't fit. -/
theorem hy_for {G : Array Slot → Prop} {ls0 : Array Slot} (I : Nat → Array Slot → Prop) (N : Nat) (h0 : I 0 ls0) (hx : ∀ ls, I N ls → G ls) (hs : ∀ i ls, i < N → I i ls → (∀ ls', I (i + 1) ls' → G ls') → G ls) : G ls0 := by
  have key : ∀ (n i : Nat) (ls : Array Slot), i + n = N → I i ls → G ls := by
    intro n
    induction n with
    | zero => intro i ls h hI; exact hx ls (by rw [← h, Nat.add_zero]; exact hI)
    | succ n ih => intro i ls h hI; exact hs i ls (by omega) hI (fun ls' hI' => ih (i + 1) ls' (by omega) hI')
  exact key N 0 ls0 (by omega) h0
theorem hy_forH {G : Heap → List Loc → Array Slot → Prop} {H0 : Heap} {L0 : List Loc} {ls0 : Array Slot} (I : Nat → Heap → List Loc → Array Slot → Prop) (N : Nat) (h0 : I 0 H0 L0 ls0) (hx : ∀ H L ls, I N H L ls → G H L ls) (hs : ∀ i H L ls, i < N → I i H L ls → (∀ H' L' ls', I (i + 1) H' L' ls' → G H' L' ls') → G H L ls) : G H0 L0 ls0 := by
  have key : ∀ (n i : Nat) (H : Heap) (L : List Loc) (ls : Array Slot), i + n = N → I i H L ls → G H L ls := by
    intro n
    induction n with
    | zero => intro i H L ls h hI; exact hx H L ls (by rw [← h, Nat.add_zero]; exact hI)
    | succ n ih => intro i H L ls h hI; exact hs i H L ls (by omega) hI (fun H' L' ls' hI' => ih (i + 1) H' L' ls' (by omega) hI')
  exact key N 0 H0 L0 ls0 (by omega) h0
def hy_sum (f : Nat → Int64) : Nat → Int64
  | 0 => 0
  | n + 1 => hy_sum f n + f n
def hy_wsum (S : hy_S) (f : Nat → Int64) : Nat → Int64
  | 0 => 0
  | n + 1 => if hy_isComb S (f n) = 0 then hy_wsum S f n else hy_wsum S f n + (hy_we S (f n).toInt32.toNatClampNeg).toInt64
def hy_fitgo (S : hy_S) (so : Int32) (f : Nat → Int64) : Nat → Nat → Nat
  | 0, k => k
  | n + 1, k => if hy_isComb S (f k) = 0 then hy_fitgo S so f n (k + 1) else if hy_takes so (hy_ki S (f k).toInt32.toNatClampNeg) = 0 then k else hy_fitgo S so f n (k + 1)
theorem hy_comb_in {S : hy_S} {v : Int64} (hn : hy_nc S ≤ 60) (h : ¬ hy_isComb S v = 0) : ∃ c : Nat, c < hy_nc S ∧ v = lN c ∧ v.toInt32 = nI c := by
  unfold hy_isComb at h
  by_cases h1 : v < 0
  · rw [if_pos h1] at h; exact absurd rfl h
  · rw [if_neg h1] at h
    by_cases h2 : (nI (hy_nc S)).toInt64 ≤ v
    · rw [if_pos h2] at h; exact absurd rfl h
    · obtain ⟨c, hc, rfl⟩ := pk_lOf h1
      rw [nI_l (by omega)] at h2
      have h3 : c < hy_nc S := by
        rcases Nat.lt_or_ge c (hy_nc S) with q | q
        · exact q
        · exact absurd ((pk_lLE (by omega) hc).mpr q) h2
      exact ⟨c, h3, rfl, lN_i c⟩
theorem hy_comb_vp {S : hy_S} {v : Int64} (hn : hy_nc S ≤ 60) (h : ¬ hy_isComb S v = 0) : vp_in v.toInt32 60 := by
  obtain ⟨c, h1, -, h3⟩ := hy_comb_in hn h
  rw [h3]
  exact vp_in_nI (by omega) (by omega)
def hy_fit (S : hy_S) (r1 i0 r2 n0 : Nat) : Nat := if hy_isNum S (some r1) = 0 then hy_fitgo S (hy_so S r2) (fun k => hy_va S r1 (i0 + k)) n0 0 else n0
theorem hy_fitgo_le (S : hy_S) (so : Int32) (f : Nat → Int64) : ∀ n k, k ≤ hy_fitgo S so f n k ∧ hy_fitgo S so f n k ≤ k + n := by
  intro n
  induction n with
  | zero => intro k; exact ⟨Nat.le_refl k, Nat.le_refl k⟩
  | succ n ih =>
    intro k
    have h1 := ih (k + 1)
    rw [hy_fitgo]
    split
    · omega
    · split <;> omega
theorem hy_fit_le (S : hy_S) (r1 i0 r2 n0 : Nat) : hy_fit S r1 i0 r2 n0 ≤ n0 := by
  unfold hy_fit
  split
  · have := hy_fitgo_le S (hy_so S r2) (fun k => hy_va S r1 (i0 + k)) n0 0
    omega
  · omega
