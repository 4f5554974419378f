/-! THE REFERENCE: its cells, out of the same state. Its object n0; boxes bM, sorts sM, sizes zM, stands tM, taken xM, kinds kM, weights wM, ended eM. -/
def hy_enc (o : Option Nat) : Int32 := match o with
  | none => -1
  | some 0 => -2
  | some (r + 1) => nI r
def hy_st (S : hy_S) (p : Nat) : Int64 := hy_va S (p / 24 + 1) (p % 24)
def hy_M (cI cJ : ClassId) (n0 bM sM zM tM xM kM wM eM : Nat) (S : hy_S) (th : Int32) (tk : Nat → Int64) : va_W :=
  [(n0, .inr (2, [.int th, .ref bM, .int (nI (hy_nr S)), .ref sM, .ref zM, .ref tM, .ref xM, .int (nI (hy_nc S)), .ref kM, .ref wM, .int (hy_lm S), .int (hy_mo S), .int (hy_pm S), .ref eM])),
   (bM, .inl (cI, 12, .inl (fun i => hy_enc (hy_bx S i)))),
   (sM, .inl (cI, 300, .inl (fun j => hy_so S (j + 1)))),
   (zM, .inl (cI, 300, .inl (fun j => nI (hy_le S (j + 1))))),
   (tM, .inl (cJ, 7200, .inr (.inl (hy_st S)))),
   (xM, .inl (cJ, 24, .inr (.inl tk))),
   (kM, .inl (cI, 60, .inl (hy_ki S))),
   (wM, .inl (cI, 60, .inl (hy_we S))),
   (eM, .inl (cI, 6, .inl (hy_en S)))]
def hy_unr (S : hy_S) (n : Nat) : hy_S := (S.1, n, S.2.2)
def hy_uso (S : hy_S) (f : Nat → Int32) : hy_S := (S.1, S.2.1, f, S.2.2.2)
def hy_ule (S : hy_S) (f : Nat → Nat) : hy_S := (S.1, S.2.1, S.2.2.1, f, S.2.2.2.2)
section HYM
variable {cI cJ : ClassId} {n0 bM sM zM tM xM kM wM eM : Nat} {S : hy_S} {th : Int32} {tk : Nat → Int64}
theorem hy_M_uth {v : Int32} : (hy_M cI cJ n0 bM sM zM tM xM kM wM eM S th tk).set 0 (n0, .inr (2, List.set [.int th, .ref bM, .int (nI (hy_nr S)), .ref sM, .ref zM, .ref tM, .ref xM, .int (nI (hy_nc S)), .ref kM, .ref wM, .int (hy_lm S), .int (hy_mo S), .int (hy_pm S), .ref eM] 0 (.int v))) = hy_M cI cJ n0 bM sM zM tM xM kM wM eM S v tk := rfl
theorem hy_M_unr {v : Nat} : (hy_M cI cJ n0 bM sM zM tM xM kM wM eM S th tk).set 0 (n0, .inr (2, List.set [.int th, .ref bM, .int (nI (hy_nr S)), .ref sM, .ref zM, .ref tM, .ref xM, .int (nI (hy_nc S)), .ref kM, .ref wM, .int (hy_lm S), .int (hy_mo S), .int (hy_pm S), .ref eM] 2 (.int (nI v)))) = hy_M cI cJ n0 bM sM zM tM xM kM wM eM (hy_unr S v) th tk := rfl
theorem hy_M_unc {v : Nat} : (hy_M cI cJ n0 bM sM zM tM xM kM wM eM S th tk).set 0 (n0, .inr (2, List.set [.int th, .ref bM, .int (nI (hy_nr S)), .ref sM, .ref zM, .ref tM, .ref xM, .int (nI (hy_nc S)), .ref kM, .ref wM, .int (hy_lm S), .int (hy_mo S), .int (hy_pm S), .ref eM] 7 (.int (nI v)))) = hy_M cI cJ n0 bM sM zM tM xM kM wM eM (hy_unc S v) th tk := rfl
theorem hy_M_ulm {v : Int32} : (hy_M cI cJ n0 bM sM zM tM xM kM wM eM S th tk).set 0 (n0, .inr (2, List.set [.int th, .ref bM, .int (nI (hy_nr S)), .ref sM, .ref zM, .ref tM, .ref xM, .int (nI (hy_nc S)), .ref kM, .ref wM, .int (hy_lm S), .int (hy_mo S), .int (hy_pm S), .ref eM] 10 (.int v))) = hy_M cI cJ n0 bM sM zM tM xM kM wM eM (hy_ulm S v) th tk := rfl
theorem hy_M_umo {v : Int32} : (hy_M cI cJ n0 bM sM zM tM xM kM wM eM S th tk).set 0 (n0, .inr (2, List.set [.int th, .ref bM, .int (nI (hy_nr S)), .ref sM, .ref zM, .ref tM, .ref xM, .int (nI (hy_nc S)), .ref kM, .ref wM, .int (hy_lm S), .int (hy_mo S), .int (hy_pm S), .ref eM] 11 (.int v))) = hy_M cI cJ n0 bM sM zM tM xM kM wM eM (hy_umo S v) th tk := rfl
theorem hy_M_upm {v : Int32} : (hy_M cI cJ n0 bM sM zM tM xM kM wM eM S th tk).set 0 (n0, .inr (2, List.set [.int th, .ref bM, .int (nI (hy_nr S)), .ref sM, .ref zM, .ref tM, .ref xM, .int (nI (hy_nc S)), .ref kM, .ref wM, .int (hy_lm S), .int (hy_mo S), .int (hy_pm S), .ref eM] 12 (.int v))) = hy_M cI cJ n0 bM sM zM tM xM kM wM eM (hy_upm S v) th tk := rfl
theorem hy_M_uki {f : Nat → Int32} : (hy_M cI cJ n0 bM sM zM tM xM kM wM eM S th tk).set 6 (kM, .inl (cI, 60, .inl f)) = hy_M cI cJ n0 bM sM zM tM xM kM wM eM (hy_uki S f) th tk := rfl
theorem hy_M_uwe {f : Nat → Int32} : (hy_M cI cJ n0 bM sM zM tM xM kM wM eM S th tk).set 7 (wM, .inl (cI, 60, .inl f)) = hy_M cI cJ n0 bM sM zM tM xM kM wM eM (hy_uwe S f) th tk := rfl
theorem hy_M_uen {f : Nat → Int32} : (hy_M cI cJ n0 bM sM zM tM xM kM wM eM S th tk).set 8 (eM, .inl (cI, 6, .inl f)) = hy_M cI cJ n0 bM sM zM tM xM kM wM eM (hy_uen S f) th tk := rfl
theorem hy_M_utk {f : Nat → Int64} : (hy_M cI cJ n0 bM sM zM tM xM kM wM eM S th tk).set 5 (xM, .inl (cJ, 24, .inr (.inl f))) = hy_M cI cJ n0 bM sM zM tM xM kM wM eM S th f := rfl
theorem hy_M_ubx (i : Nat) (o : Option Nat) : (hy_M cI cJ n0 bM sM zM tM xM kM wM eM S th tk).set 1 (bM, .inl (cI, 12, .inl (upd (fun i => hy_enc (hy_bx S i)) i (hy_enc o)))) = hy_M cI cJ n0 bM sM zM tM xM kM wM eM (hy_ubx S (va_up (hy_bx S) i o)) th tk := by
  have e : upd (fun i => hy_enc (hy_bx S i)) i (hy_enc o) = fun j => hy_enc (va_up (hy_bx S) i o j) := by
    funext j
    simp only [upd, va_up]
    split <;> rfl
  rw [e]
  rfl
theorem hy_M_uso (j : Nat) (v : Int32) : (hy_M cI cJ n0 bM sM zM tM xM kM wM eM S th tk).set 2 (sM, .inl (cI, 300, .inl (upd (fun j => hy_so S (j + 1)) j v))) = hy_M cI cJ n0 bM sM zM tM xM kM wM eM (hy_uso S (va_up (hy_so S) (j + 1) v)) th tk := by
  have e : upd (fun j => hy_so S (j + 1)) j v = fun i => va_up (hy_so S) (j + 1) v (i + 1) := by
    funext i
    simp only [upd, va_up, Nat.add_right_cancel_iff]
  rw [e]
  rfl
theorem hy_M_ule (j n : Nat) : (hy_M cI cJ n0 bM sM zM tM xM kM wM eM S th tk).set 3 (zM, .inl (cI, 300, .inl (upd (fun j => nI (hy_le S (j + 1))) j (nI n)))) = hy_M cI cJ n0 bM sM zM tM xM kM wM eM (hy_ule S (va_up (hy_le S) (j + 1) n)) th tk := by
  have e : upd (fun j => nI (hy_le S (j + 1))) j (nI n) = fun i => nI (va_up (hy_le S) (j + 1) n (i + 1)) := by
    funext i
    simp only [upd, va_up, Nat.add_right_cancel_iff]
    split <;> rfl
  rw [e]
  rfl
theorem hy_st_up (S : hy_S) {r k : Nat} (hk : k < 24) (v : Int64) : vp_updL (hy_st S) (24 * r + k) v = hy_st (hy_uva S (r + 1) (vp_updL (hy_va S (r + 1)) k v)) := by
  funext p
  show (if p = 24 * r + k then v else hy_va S (p / 24 + 1) (p % 24)) = va_up (hy_va S) (r + 1) (vp_updL (hy_va S (r + 1)) k v) (p / 24 + 1) (p % 24)
  by_cases h1 : p / 24 = r
  · rw [h1, va_up_self]
    show _ = if p % 24 = k then v else hy_va S (r + 1) (p % 24)
    by_cases h2 : p % 24 = k
    · rw [if_pos h2, if_pos (by omega)]
    · rw [if_neg h2, if_neg (by omega)]
  · rw [va_up_ne _ _ (by omega), if_neg (by omega)]
theorem hy_M_uva {r k : Nat} (hk : k < 24) (v : Int64) : (hy_M cI cJ n0 bM sM zM tM xM kM wM eM S th tk).set 4 (tM, .inl (cJ, 7200, .inr (.inl (vp_updL (hy_st S) (24 * r + k) v)))) = hy_M cI cJ n0 bM sM zM tM xM kM wM eM (hy_uva S (r + 1) (vp_updL (hy_va S (r + 1)) k v)) th tk := by
  rw [hy_st_up S hk]
  rfl
end HYM
def hy_J (D : va_G) (cI cJ cB : ClassId) (n0 bM sM zM tM xM kM wM eM : Nat) (S : hy_S) (th : Int32) (tk : Nat → Int64) (U : State) : Prop := va_P D vwCl (hy_M cI cJ n0 bM sM zM tM xM kM wM eM S th tk) U.heap ∧ va_K D vwCl (hy_T cI cJ cB) U
theorem hy_J_blind {D : va_G} {cI cJ cB : ClassId} {n0 bM sM zM tM xM kM wM eM : Nat} {S : hy_S} {th : Int32} {tk : Nat → Int64} {av : List Value} : FrameBlind (va_Pc av (hy_J D cI cJ cB n0 bM sM zM tM xM kM wM eM S th tk)) :=
  fun a U g mk q => ⟨q.1, q.2.1, va_K.moved (u := U) (U := U.calling g mk a) (Vm.Alike.refl U.vm) q.2.2⟩
theorem hy_J_at {D : va_G} {cI cJ cB : ClassId} {n0 bM sM zM tM xM kM wM eM : Nat} {S : hy_S} {th : Int32} {tk : Nat → Int64} {s U : State} {H : Heap} (hU : U.heap = H) (hW : s.WarmedH U.vm) (hP : va_P D vwCl (hy_M cI cJ n0 bM sM zM tM xM kM wM eM S th tk) H) (hK : va_K D vwCl (hy_T cI cJ cB) s) : hy_J D cI cJ cB n0 bM sM zM tM xM kM wM eM S th tk U :=
  ⟨by rw [hU]; exact hP, va_K.moved hW.alike hK⟩
def hy_JM (D : va_G) (cI cJ cB : ClassId) (n0 bM sM zM tM xM kM wM eM : Nat) (S : hy_S) (th : Int32) (tk : Nat → Int64) (sz : Nat) (U : State) : Prop := U.heap.size = sz ∧ hy_J D cI cJ cB n0 bM sM zM tM xM kM wM eM S th tk U ∧ va_D (fun _ => True) (hy_M cI cJ n0 bM sM zM tM xM kM wM eM S th tk)
theorem hy_JM_blind {D : va_G} {cI cJ cB : ClassId} {n0 bM sM zM tM xM kM wM eM : Nat} {S : hy_S} {th : Int32} {tk : Nat → Int64} {sz : Nat} {av : List Value} : FrameBlind (va_Pc av (hy_JM D cI cJ cB n0 bM sM zM tM xM kM wM eM S th tk sz)) :=
  fun a U g mk q => ⟨q.1, q.2.1, ⟨q.2.2.1.1, va_K.moved (u := U) (U := U.calling g mk a) (Vm.Alike.refl U.vm) q.2.2.1.2⟩, q.2.2.2⟩
def hy_AtM (D : va_G) (cI cJ cB : ClassId) (n0 bM sM zM tM xM kM wM eM : Nat) (S : hy_S) (th : Int32) (A : Nat → Prop) (t : State) : Prop := ∃ tk : Nat → Int64, va_P D vwCl (hy_M cI cJ n0 bM sM zM tM xM kM wM eM S th tk) t.heap ∧ va_K D vwCl (hy_T cI cJ cB) t ∧ va_D A (hy_M cI cJ n0 bM sM zM tM xM kM wM eM S th tk)
/-! what its private methods answer -/
def hy_misbox (a : Int32) : Int32 := if a < 0 then 0 else if 12 ≤ a then 0 else 1
def hy_miscombs (a : Int32) : Int32 := if a ≤ 3 then 0 else if 8 ≤ a then 0 else 1
def hy_mrow (o : Option Nat) : Int32 := match o with
  | none => 0
  | some 0 => 0
  | some (_ + 1) => 1
def hy_mpl (S : hy_S) (r : Nat) (a : Int32) : Int32 := if a < 0 then 0 else if nI (hy_le S r) ≤ a then 0 else 1
def hy_mtakes (a0 a1 : Int32) : Int32 := if a0 = 4 then 1 else if a0 = 5 ∧ (a1 = 1 ∨ a1 = 3) then 1 else if a0 = 6 ∧ a1 = 2 then 1 else if a0 = 7 ∧ a1 = 3 then 1 else 0
def hy_mcut (a0 : Int32) (v : Int64) : Int64 := if a0 = 0 then v.toInt32.toInt64 else if a0 = 1 then v else if a0 = 2 then v.toInt32.toInt16.toInt32.toInt64 else v.toInt32.toInt8.toInt32.toInt64
def hy_mout (i n z : Int32) : Int32 := if i < 0 then 1 else if i.toInt64 + n.toInt64 ≤ z.toInt64 then 0 else 1
def hy_misComb (S : hy_S) (a : Int32) : Int32 := if a < 0 then 0 else if nI (hy_nc S) ≤ a then 0 else 1
def hy_mbar (S : hy_S) (o : Option Nat) (a2 a3 a4 : Int32) : Int32 := match o with
  | none => a4
  | some 0 => a4
  | some (r + 1) => if hy_miscombs (hy_so S (r + 1)) = a3 then (if hy_mpl S (r + 1) a2 = 0 then a4 + 1 else 0) else a4
theorem hy_nI_ne {r : Nat} (h : r < 2 ^ 31) {x : Int32} (hx : x < 0) : ¬ nI r = x := fun e => nI_pos h (e ▸ hx)
theorem hy_misbox_ok {a : Int32} (h : ¬ hy_misbox a = 0) : hy_ok a := by
  unfold hy_misbox at h
  by_cases h1 : a < 0
  · rw [if_pos h1] at h; exact absurd rfl h
  · rw [if_neg h1] at h
    by_cases h2 : 12 ≤ a
    · rw [if_pos h2] at h; exact absurd rfl h
    · exact ⟨h1, Int32.not_le.mp h2⟩
theorem hy_misbox_no {a : Int32} (h : hy_misbox a = 0) : ¬ hy_ok a := by
  intro ⟨h1, h2⟩
  unfold hy_misbox at h
  rw [if_neg h1, if_neg (Int32.not_le.mpr h2)] at h
  cases h
