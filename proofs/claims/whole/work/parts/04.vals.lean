/-! WHAT THE CLASS'S METHODS ANSWER, as plain functions of the state; the premise of a reader's contract. -/
def hy_I (D : va_G) (cI cJ cB : ClassId) (h b k w z : Nat) (ad ca : Nat → Nat) (S : hy_S) (U : State) : Prop := va_P D vwCl (hy_W cI cJ cB h b k w z ad ca S) U.heap ∧ va_K D vwCl (hy_T cI cJ cB) U
theorem hy_I_blind {D : va_G} {cI cJ cB : ClassId} {h b k w z : Nat} {ad ca : Nat → Nat} {S : hy_S} {av : List Value} : FrameBlind (va_Pc av (hy_I D cI cJ cB h b k w z ad ca S)) :=
  fun a U g mk q => ⟨q.1, q.2.1, va_K.moved (u := U) (U := U.calling g mk a) (Vm.Alike.refl U.vm) q.2.2⟩
theorem hy_I_at {D : va_G} {cI cJ cB : ClassId} {h b k w z : Nat} {ad ca : Nat → Nat} {S : hy_S} {s U : State} {H : Heap} (hU : U.heap = H) (hW : s.WarmedH U.vm) (hP : va_P D vwCl (hy_W cI cJ cB h b k w z ad ca S) H) (hK : va_K D vwCl (hy_T cI cJ cB) s) : hy_I D cI cJ cB h b k w z ad ca S U :=
  ⟨by rw [hU]; exact hP, va_K.moved hW.alike hK⟩
def hy_isRow (S : hy_S) (o : Option Nat) : Int32 := match o with
  | none => 0
  | some r => if hy_so S r = 8 then 0 else 1
def hy_isNum (S : hy_S) (o : Option Nat) : Int32 := match o with
  | none => 0
  | some r => if hy_so S r = 8 then 0 else if 3 < hy_so S r then 0 else 1
def hy_isCo (S : hy_S) (o : Option Nat) : Int32 := match o with
  | none => 0
  | some r => if hy_so S r = 8 then 0 else if hy_so S r < 4 then 0 else 1
def hy_sort (S : hy_S) (o : Option Nat) : Int32 := match o with
  | none => -1
  | some r => hy_so S r
def hy_len (S : hy_S) (o : Option Nat) : Int32 := match o with
  | none => 0
  | some r => nI (hy_le S r)
def hy_takes (a0 a1 : Int32) : Int32 := if a0 - 4 = 0 then 1 else if a0 - 4 = a1 then 1 else if a0 - 4 = 1 then (if a1 = 3 then 1 else 0) else 0
def hy_low (a0 : Int32) (v : Int64) : Int64 := if a0 = 0 then v.toInt32.toInt64 else if a0 = 2 then v.toInt32.toInt16.toInt32.toInt64 else if a0 = 3 then v.toInt32.toInt8.toInt32.toInt64 else v
def hy_isComb (S : hy_S) (n : Int64) : Int32 := if n < 0 then 0 else if (nI (hy_nc S)).toInt64 ≤ n then 0 else 1
def hy_unlike (S : hy_S) (r1 r2 : Nat) : Int32 := if hy_so S r1 = hy_so S r2 then 0 else if hy_isCo S (some r1) = 0 then 1 else if hy_isCo S (some r2) = 0 then 1 else 0
def hy_out (S : hy_S) (r : Nat) (i n : Int32) : Int32 := if i < 0 then 1 else if n < 0 then 1 else if i.toInt64 + n.toInt64 ≤ (nI (hy_le S r)).toInt64 then 0 else 1
def hy_cend (S : hy_S) (a : Int32) : Int32 := if a ≤ 2 then -1 else if a < 8 then hy_en S (a - 2).toNatClampNeg else -1
def hy_count (S : hy_S) (a : Int32) : Int32 := if a = 0 then nI (hy_nr S) else if a = 1 then nI (hy_nc S) else if a = 2 then hy_mo S else if a = 8 then hy_pm S else hy_cend S a
theorem hy_i32 {x : Int32} (k : Int32) (h : x.toInt = k.toInt) : x = k := Int32.toInt_inj.mp h
theorem hy_cend_in {a : Int32} (h1 : ¬ a ≤ 2) (h2 : a < 8) : vp_in (a - 2) 6 := by
  rw [vp_in_iff]
  have e1 : ¬ a.toInt ≤ 2 := fun h => h1 (Int32.le_iff_toInt_le.mpr h)
  have e2 : a.toInt < 8 := Int32.lt_iff_toInt_lt.mp h2
  have e3 : (a - 2).toInt = a.toInt - 2 := by
    rw [Int32.toInt_sub, show (2 : Int32).toInt = 2 from rfl]
    rw [Int.bmod_def]
    omega
  omega
theorem hy_tout0_3 {x : Int32} (h0 : ¬ x = 0) (h1 : ¬ x = 1) (h2 : ¬ x = 2) (h3 : ¬ x = 3) : x.toInt < 0 ∨ 3 < x.toInt := by
  by_cases q0 : x.toInt = 0
  · exact absurd (hy_i32 0 q0) h0
  by_cases q1 : x.toInt = 1
  · exact absurd (hy_i32 1 q1) h1
  by_cases q2 : x.toInt = 2
  · exact absurd (hy_i32 2 q2) h2
  by_cases q3 : x.toInt = 3
  · exact absurd (hy_i32 3 q3) h3
  omega
theorem hy_tout0_8 {x : Int32} (h0 : ¬ x = 0) (h1 : ¬ x = 1) (h2 : ¬ x = 2) (h3 : ¬ x = 3) (h4 : ¬ x = 4) (h5 : ¬ x = 5) (h6 : ¬ x = 6) (h7 : ¬ x = 7) (h8 : ¬ x = 8) : x.toInt < 0 ∨ 8 < x.toInt := by
  rcases hy_tout0_3 h0 h1 h2 h3 with h | h
  · exact Or.inl h
  by_cases q4 : x.toInt = 4
  · exact absurd (hy_i32 4 q4) h4
  by_cases q5 : x.toInt = 5
  · exact absurd (hy_i32 5 q5) h5
  by_cases q6 : x.toInt = 6
  · exact absurd (hy_i32 6 q6) h6
  by_cases q7 : x.toInt = 7
  · exact absurd (hy_i32 7 q7) h7
  by_cases q8 : x.toInt = 8
  · exact absurd (hy_i32 8 q8) h8
  omega
