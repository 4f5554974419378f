/-! WRITES: the state's parts made anew, and what the world's cells are then. -/
def hy_ubx (S : hy_S) (f : Nat → Option Nat) : hy_S := (f, S.2)
def hy_unc (S : hy_S) (n : Nat) : hy_S := (S.1, S.2.1, S.2.2.1, S.2.2.2.1, S.2.2.2.2.1, n, S.2.2.2.2.2.2)
def hy_uki (S : hy_S) (f : Nat → Int32) : hy_S := (S.1, S.2.1, S.2.2.1, S.2.2.2.1, S.2.2.2.2.1, S.2.2.2.2.2.1, f, S.2.2.2.2.2.2.2)
def hy_uwe (S : hy_S) (f : Nat → Int32) : hy_S := (S.1, S.2.1, S.2.2.1, S.2.2.2.1, S.2.2.2.2.1, S.2.2.2.2.2.1, S.2.2.2.2.2.2.1, f, S.2.2.2.2.2.2.2.2)
def hy_umo (S : hy_S) (v : Int32) : hy_S := (S.1, S.2.1, S.2.2.1, S.2.2.2.1, S.2.2.2.2.1, S.2.2.2.2.2.1, S.2.2.2.2.2.2.1, S.2.2.2.2.2.2.2.1, v, S.2.2.2.2.2.2.2.2.2)
def hy_uen (S : hy_S) (f : Nat → Int32) : hy_S := (S.1, S.2.1, S.2.2.1, S.2.2.2.1, S.2.2.2.2.1, S.2.2.2.2.2.1, S.2.2.2.2.2.2.1, S.2.2.2.2.2.2.2.1, S.2.2.2.2.2.2.2.2.1, f, S.2.2.2.2.2.2.2.2.2.2)
def hy_ulm (S : hy_S) (v : Int32) : hy_S := (S.1, S.2.1, S.2.2.1, S.2.2.2.1, S.2.2.2.2.1, S.2.2.2.2.2.1, S.2.2.2.2.2.2.1, S.2.2.2.2.2.2.2.1, S.2.2.2.2.2.2.2.2.1, S.2.2.2.2.2.2.2.2.2.1, v, S.2.2.2.2.2.2.2.2.2.2.2)
def hy_upm (S : hy_S) (v : Int32) : hy_S := (S.1, S.2.1, S.2.2.1, S.2.2.2.1, S.2.2.2.2.1, S.2.2.2.2.2.1, S.2.2.2.2.2.2.1, S.2.2.2.2.2.2.2.1, S.2.2.2.2.2.2.2.2.1, S.2.2.2.2.2.2.2.2.2.1, S.2.2.2.2.2.2.2.2.2.2.1, v)
theorem hy_W_setBox {cI cJ cB : ClassId} {h b k w z : Nat} {ad ca : Nat → Nat} {S : hy_S} (i : Nat) (o : Option Nat) : (hy_W cI cJ cB h b k w z ad ca S).set 1 (b, .inl (cB, 12, .inr (.inr (.inr (.inr (va_up (fun i => (hy_bx S i).map ad) i (o.map ad))))))) = hy_W cI cJ cB h b k w z ad ca (hy_ubx S (va_up (hy_bx S) i o)) := by
  have e : va_up (fun i => (hy_bx S i).map ad) i (o.map ad) = fun j => (va_up (hy_bx S) i o j).map ad := by
    funext j
    simp only [va_up]
    split <;> rfl
  rw [e]
  rfl
theorem hy_W_unc {cI cJ cB : ClassId} {h b k w z : Nat} {ad ca : Nat → Nat} {S : hy_S} {v : Nat} : (hy_W cI cJ cB h b k w z ad ca S).set 0 (h, .inr (1, List.set [.ref b, .ref (ad 0), .ref k, .ref w, .ref z, .int (nI (hy_nr S)), .int (nI (hy_nc S)), .int (hy_mo S), .int (hy_lm S), .int (hy_pm S)] 6 (.int (nI v)))) = hy_W cI cJ cB h b k w z ad ca (hy_unc S v) := rfl
theorem hy_W_umo {cI cJ cB : ClassId} {h b k w z : Nat} {ad ca : Nat → Nat} {S : hy_S} {v : Int32} : (hy_W cI cJ cB h b k w z ad ca S).set 0 (h, .inr (1, List.set [.ref b, .ref (ad 0), .ref k, .ref w, .ref z, .int (nI (hy_nr S)), .int (nI (hy_nc S)), .int (hy_mo S), .int (hy_lm S), .int (hy_pm S)] 7 (.int (v)))) = hy_W cI cJ cB h b k w z ad ca (hy_umo S v) := rfl
theorem hy_W_ulm {cI cJ cB : ClassId} {h b k w z : Nat} {ad ca : Nat → Nat} {S : hy_S} {v : Int32} : (hy_W cI cJ cB h b k w z ad ca S).set 0 (h, .inr (1, List.set [.ref b, .ref (ad 0), .ref k, .ref w, .ref z, .int (nI (hy_nr S)), .int (nI (hy_nc S)), .int (hy_mo S), .int (hy_lm S), .int (hy_pm S)] 8 (.int (v)))) = hy_W cI cJ cB h b k w z ad ca (hy_ulm S v) := rfl
theorem hy_W_upm {cI cJ cB : ClassId} {h b k w z : Nat} {ad ca : Nat → Nat} {S : hy_S} {v : Int32} : (hy_W cI cJ cB h b k w z ad ca S).set 0 (h, .inr (1, List.set [.ref b, .ref (ad 0), .ref k, .ref w, .ref z, .int (nI (hy_nr S)), .int (nI (hy_nc S)), .int (hy_mo S), .int (hy_lm S), .int (hy_pm S)] 9 (.int (v)))) = hy_W cI cJ cB h b k w z ad ca (hy_upm S v) := rfl
theorem hy_W_uki {cI cJ cB : ClassId} {h b k w z : Nat} {ad ca : Nat → Nat} {S : hy_S} {f : Nat → Int32} : (hy_W cI cJ cB h b k w z ad ca S).set 2 (k, .inl (cI, 60, .inl f)) = hy_W cI cJ cB h b k w z ad ca (hy_uki S f) := rfl
theorem hy_W_uwe {cI cJ cB : ClassId} {h b k w z : Nat} {ad ca : Nat → Nat} {S : hy_S} {f : Nat → Int32} : (hy_W cI cJ cB h b k w z ad ca S).set 3 (w, .inl (cI, 60, .inl f)) = hy_W cI cJ cB h b k w z ad ca (hy_uwe S f) := rfl
theorem hy_W_uen {cI cJ cB : ClassId} {h b k w z : Nat} {ad ca : Nat → Nat} {S : hy_S} {f : Nat → Int32} : (hy_W cI cJ cB h b k w z ad ca S).set 4 (z, .inl (cI, 6, .inl f)) = hy_W cI cJ cB h b k w z ad ca (hy_uen S f) := rfl
def hy_end (S : hy_S) (a1 a2 : Int32) : hy_S := hy_upm (hy_ulm (hy_uen (hy_umo S (hy_mo S + 1)) (upd (hy_en S) a1.toNatClampNeg (hy_en S a1.toNatClampNeg + 1))) a2) (hy_pm S + a2)
/-- a writer's premise, and its end with the same addresses -/
def hy_IM (D : va_G) (cI cJ cB : ClassId) (h b k w z : Nat) (ad ca : Nat → Nat) (S : hy_S) (sz : Nat) (U : State) : Prop := U.heap.size = sz ∧ hy_I D cI cJ cB h b k w z ad ca S U ∧ va_D (fun _ => True) (hy_W cI cJ cB h b k w z ad ca S)
theorem hy_IM_blind {D : va_G} {cI cJ cB : ClassId} {h b k w z : Nat} {ad ca : Nat → Nat} {S : hy_S} {sz : Nat} {av : List Value} : FrameBlind (va_Pc av (hy_IM D cI cJ cB h b k w z ad ca S sz)) :=
  fun a U g mk q => ⟨q.1, q.2.1, ⟨q.2.2.1.1, va_K.moved (u := U) (U := U.calling g mk a) (Vm.Alike.refl U.vm) q.2.2.1.2⟩, q.2.2.2⟩
def hy_AtS (D : va_G) (cI cJ cB : ClassId) (h b k w z : Nat) (ad ca : Nat → Nat) (S : hy_S) (A : Nat → Prop) (t : State) : Prop := va_P D vwCl (hy_W cI cJ cB h b k w z ad ca S) t.heap ∧ va_K D vwCl (hy_T cI cJ cB) t ∧ va_D A (hy_W cI cJ cB h b k w z ad ca S)
theorem hy_free {A : Nat → Prop} {ws : va_W} {H0 H : Heap} {locs : List Loc} (hD : va_D A ws) (hS : va_S A H0 H locs) (hA : ∀ q, H0.size ≤ q → A q) : ∀ q, va_A ws H.size q → A q := by
  intro q h
  rcases h with ⟨k, e, h⟩ | h
  · exact hD.2 k (q, e) h
  · exact hA q (Nat.le_trans hS.1 h)
/-- the places of a move that isn't outside, as plain numbers -/
theorem hy_out_0 {S : hy_S} {r : Nat} {i n : Int32} (hle : hy_le S r ≤ 24) (h : hy_out S r i n = 0) : ∃ i0 n0 : Nat, i = nI i0 ∧ n = nI n0 ∧ i0 + n0 ≤ hy_le S r := by
  unfold hy_out at h
  by_cases h1 : i < 0
  · rw [if_pos h1] at h; cases h
  · rw [if_neg h1] at h
    by_cases h2 : n < 0
    · rw [if_pos h2] at h; cases h
    · rw [if_neg h2] at h
      by_cases h3 : i.toInt64 + n.toInt64 ≤ (nI (hy_le S r)).toInt64
      · obtain ⟨i0, hi0, rfl⟩ := nI_of h1
        obtain ⟨n0, hn0, rfl⟩ := nI_of h2
        refine ⟨i0, n0, rfl, rfl, ?_⟩
        rw [nI_l hi0, nI_l hn0, nI_l (by omega), lN_add] at h3
        exact (pk_lLE (by omega) (by omega)).mp h3
      · rw [if_neg h3] at h; cases h
/-- a move: how it ends, how many places were moved, the state behind the copying -/
def hy_carry (S : hy_S) (o1 o2 : Option Nat) (i j n : Int32) : Int32 × Int32 × hy_S := match o1, o2 with
  | some r1, some r2 => if hy_isRow S (some r1) = 0 then (2, 0, S) else if hy_isRow S (some r2) = 0 then (2, 0, S) else if hy_unlike S r1 r2 = 0 then (if hy_out S r1 i n = 0 then (if hy_out S r2 j n = 0 then (if n ≤ nI (hy_fit S r1 i.toNatClampNeg r2 n.toNatClampNeg) then 0 else 5, nI (hy_fit S r1 i.toNatClampNeg r2 n.toNatClampNeg), hy_uva S r2 (va_cpy (hy_va S r1) (hy_va S r2) i.toNatClampNeg j.toNatClampNeg (nI (hy_fit S r1 i.toNatClampNeg r2 n.toNatClampNeg)).toNatClampNeg)) else (4, 0, S)) else (4, 0, S)) else (3, 0, S)
  | none, _ => (1, 0, S)
  | some _, none => (1, 0, S)
theorem hy_carry_2a {S : hy_S} {r1 r2 : Nat} {i j n : Int32} (h1 : hy_isRow S (some r1) = 0) : hy_carry S (some r1) (some r2) i j n = (2, 0, S) := by
  rw [hy_carry, if_pos h1]
theorem hy_carry_2b {S : hy_S} {r1 r2 : Nat} {i j n : Int32} (h1 : ¬ hy_isRow S (some r1) = 0) (h2 : hy_isRow S (some r2) = 0) : hy_carry S (some r1) (some r2) i j n = (2, 0, S) := by
  rw [hy_carry, if_neg h1, if_pos h2]
theorem hy_carry_3 {S : hy_S} {r1 r2 : Nat} {i j n : Int32} (h1 : ¬ hy_isRow S (some r1) = 0) (h2 : ¬ hy_isRow S (some r2) = 0) (h3 : ¬ hy_unlike S r1 r2 = 0) : hy_carry S (some r1) (some r2) i j n = (3, 0, S) := by
  rw [hy_carry, if_neg h1, if_neg h2, if_neg h3]
theorem hy_carry_4a {S : hy_S} {r1 r2 : Nat} {i j n : Int32} (h1 : ¬ hy_isRow S (some r1) = 0) (h2 : ¬ hy_isRow S (some r2) = 0) (h3 : hy_unlike S r1 r2 = 0) (h4 : ¬ hy_out S r1 i n = 0) : hy_carry S (some r1) (some r2) i j n = (4, 0, S) := by
  rw [hy_carry, if_neg h1, if_neg h2, if_pos h3, if_neg h4]
theorem hy_carry_4b {S : hy_S} {r1 r2 : Nat} {i j n : Int32} (h1 : ¬ hy_isRow S (some r1) = 0) (h2 : ¬ hy_isRow S (some r2) = 0) (h3 : hy_unlike S r1 r2 = 0) (h4 : hy_out S r1 i n = 0) (h5 : ¬ hy_out S r2 j n = 0) : hy_carry S (some r1) (some r2) i j n = (4, 0, S) := by
  rw [hy_carry, if_neg h1, if_neg h2, if_pos h3, if_pos h4, if_neg h5]
theorem hy_carry_5 {S : hy_S} {r1 r2 i0 j0 n0 : Nat} (hi : i0 ≤ 24) (hn : n0 ≤ 24) (h1 : ¬ hy_isRow S (some r1) = 0) (h2 : ¬ hy_isRow S (some r2) = 0) (h3 : hy_unlike S r1 r2 = 0) (h4 : hy_out S r1 (nI i0) (nI n0) = 0) (h5 : hy_out S r2 (nI j0) (nI n0) = 0) : hy_carry S (some r1) (some r2) (nI i0) (nI j0) (nI n0) = (if nI n0 ≤ nI (hy_fit S r1 i0 r2 n0) then 0 else 5, nI (hy_fit S r1 i0 r2 n0), hy_uva S r2 (va_cpy (hy_va S r1) (hy_va S r2) (nI i0).toNatClampNeg (nI j0).toNatClampNeg (nI (hy_fit S r1 i0 r2 n0)).toNatClampNeg)) := by
  rw [hy_carry, if_neg h1, if_neg h2, if_pos h3, if_pos h4, if_pos h5]
  have e1 : (nI i0).toNatClampNeg = i0 := nI_clamp (by omega)
  have e2 : (nI n0).toNatClampNeg = n0 := nI_clamp (by omega)
  rw [e1, e2]
def hy_cS (S : hy_S) (o1 o2 : Option Nat) (i j n : Int32) : hy_S := hy_end (hy_carry S o1 o2 i j n).2.2 (hy_carry S o1 o2 i j n).1 (hy_carry S o1 o2 i j n).2.1
theorem hy_cS_of {S : hy_S} {o1 o2 : Option Nat} {i j n e m : Int32} {S1 : hy_S} (h : hy_carry S o1 o2 i j n = (e, m, S1)) : hy_end S1 e m = hy_cS S o1 o2 i j n := by
  rw [hy_cS, h]
theorem hy_ce_of {S : hy_S} {o1 o2 : Option Nat} {i j n e m : Int32} {S1 : hy_S} (h : hy_carry S o1 o2 i j n = (e, m, S1)) : e = (hy_carry S o1 o2 i j n).1 := by rw [h]
