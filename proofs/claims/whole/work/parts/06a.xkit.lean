/-! Premises of the contracts that may throw, and their calls. -/
def hy_IX (D : va_G) (cI cJ cB : ClassId) (h b k w z : Nat) (ad ca : Nat → Nat) (S : hy_S) (U : State) : Prop := hy_I D cI cJ cB h b k w z ad ca S U ∧ hy_E U ∧ hy_Z (fun q => U.heap.size ≤ q) U U.heap
theorem hy_IX_blind {D : va_G} {cI cJ cB : ClassId} {h b k w z : Nat} {ad ca : Nat → Nat} {S : hy_S} {av : List Value} : FrameBlind (va_Pc av (hy_IX D cI cJ cB h b k w z ad ca S)) :=
  fun a U g mk q => ⟨q.1, ⟨q.2.1.1, va_K.moved (u := U) (U := U.calling g mk a) (Vm.Alike.refl U.vm) q.2.1.2⟩, hy_E.same rfl q.2.2.1, hy_Z.same rfl q.2.2.2⟩
theorem hy_IX_at {D : va_G} {cI cJ cB : ClassId} {h b k w z : Nat} {ad ca : Nat → Nat} {S : hy_S} {s U : State} (hU : U.heap = s.heap) (hW : s.WarmedH U.vm) (hP : va_P D vwCl (hy_W cI cJ cB h b k w z ad ca S) s.heap) (hK : va_K D vwCl (hy_T cI cJ cB) s) (hE : hy_E s) (hZ : hy_Z (fun q => s.heap.size ≤ q) s s.heap) : hy_IX D cI cJ cB h b k w z ad ca S U :=
  ⟨hy_I_at hU hW hP hK, hE.warm hW, hZ.at va_S.rf (fun _ q => q) hU hW⟩
def hy_ok (a : Int32) : Prop := ¬ a < 0 ∧ a < 12
theorem hy_ok_in {a : Int32} (h : hy_ok a) : vp_in a 12 := by
  rw [vp_in_iff]
  have e1 : ¬ a.toInt < 0 := fun q => h.1 (Int32.lt_iff_toInt_lt.mpr q)
  have e2 : a.toInt < 12 := Int32.lt_iff_toInt_lt.mp h.2
  omega
/-- a place of row r -/
def hy_pl (S : hy_S) (r : Nat) (a : Int32) : Prop := ¬ a < 0 ∧ a < nI (hy_le S r)
theorem hy_pl_in {S : hy_S} {r : Nat} {a : Int32} (hw : hy_wf S) (h : hy_pl S r a) : vp_in a (hy_le S r) := by
  rw [vp_in_iff]
  have h24 := hw.2.2.2.2.2.1 r
  have e1 : ¬ a.toInt < 0 := fun q => h.1 (Int32.lt_iff_toInt_lt.mpr q)
  have e2 : a.toInt < (nI (hy_le S r)).toInt := Int32.lt_iff_toInt_lt.mp h.2
  rw [nI_toInt (by omega)] at e2
  omega
/-- which exception of a list: the code that the law gives it -/
def hy_nm (L : List String) (k : Int32) (E : String) : Prop := ∃ j : Nat, L[j]? = some E ∧ k = nI (j + 1)
section HYT
variable {p : Program} {l : Launch} {e : Env} {R : Room} {s : State} {m : MethodId} {args : Array Value} {below : List Frame} {meth : Method} {c : Code} {cells slots : Nat}
variable {mc ms mc9 ms9 : Nat} {free : Addr → Prop} {pc : Nat} {ls : Array Slot} {st0 rest : List Value} {Qc : Array Value → State → Outcome → State → Prop} {P P9 : String → Prop} {a : Array Value}
theorem hy_thruv {post : Unit → Prop} (hr : vx_Run p l e R s m args below meth c s.heap [] cells slots mc ms (F0 m pc ls st0) rest (va_Sv post a) (hy_X P) (fun _ => False))
    (hno : ∀ x ∈ c.exceptionTable.toList, False) (hlocks : meth.locks = false) (hP : ∀ E, P E → P9 E) (hc : cells + mc ≤ mc9) (hs : slots + ms ≤ ms9)
    (kk : post () → W p l e R s m args below meth c s.heap [] (cells + mc) (slots + ms) (vx_MQ below Qc (hy_X P9) args s mc9 ms9 free) (F0 m (pc + 3) ls rest)) :
    W p l e R s m args below meth c s.heap [] cells slots (vx_MQ below Qc (hy_X P9) args s mc9 ms9 free) (F0 m pc ls st0) := by
  refine hy_thru hr (fun st v t q => q.2.2) hno hlocks hP hc hs (fun v st t q => ?_)
  obtain ⟨h1, h2, -⟩ := q
  cases h1
  exact kk h2
theorem hy_thruq {post : Option Nat → Prop} (hr : vx_Run p l e R s m args below meth c s.heap [] cells slots mc ms (F0 m pc ls st0) rest (va_Sq post a) (hy_X P) (fun _ => False))
    (hno : ∀ x ∈ c.exceptionTable.toList, False) (hlocks : meth.locks = false) (hP : ∀ E, P E → P9 E) (hc : cells + mc ≤ mc9) (hs : slots + ms ≤ ms9)
    (kk : ∀ r : Option Nat, post r → W p l e R s m args below meth c s.heap [] (cells + mc) (slots + ms) (vx_MQ below Qc (hy_X P9) args s mc9 ms9 free) (F0 m (pc + 3) ls (va_rf r :: rest))) :
    W p l e R s m args below meth c s.heap [] cells slots (vx_MQ below Qc (hy_X P9) args s mc9 ms9 free) (F0 m pc ls st0) := by
  refine hy_thru hr (fun st v t q => by obtain ⟨r, -, -, h⟩ := q; exact h) hno hlocks hP hc hs (fun v st t q => ?_)
  obtain ⟨r, h1, h2, -⟩ := q
  cases h1
  exact kk r h2
end HYT
