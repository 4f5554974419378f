/-! THE LAW'S WRAPPERS: a call of the class, what it answers into out[0], and which row of the table takes its throw. -/
def hy_N (U : State) : Prop := ∀ E ∈ hy_Es, ∀ F ∈ hy_Es, E ≠ F → va_Nc E F U
theorem hy_N.warm {s U : State} (hW : s.WarmedH U.vm) (h : hy_N s) : hy_N U := fun E hE F hF q => va_Nc.moved hW.alike (h E hE F hF q)
theorem hy_N.same {u U : State} (hv : U.vm = u.vm) (h : hy_N u) : hy_N U := fun E hE F hF q => va_Nc.moved (by rw [hv]; exact Vm.Alike.refl u.vm) (h E hE F hF q)
abbrev hy_O (cJ : ClassId) (o : Nat) (f : Nat → Int64) : Nat × va_E := (o, .inl (cJ, 1, .inr (.inl f)))
def hy_zl (v : Int32) : Int64 := if v = 0 then 0 else 1
def hy_IW (D : va_G) (cI cJ cB : ClassId) (h b k w z : Nat) (ad ca : Nat → Nat) (S : hy_S) (o : Nat) (f : Nat → Int64) (sz : Nat) (U : State) : Prop :=
  U.heap.size = sz ∧ va_P D vwCl (hy_O cJ o f :: hy_W cI cJ cB h b k w z ad ca S) U.heap ∧ va_K D vwCl (hy_T cI cJ cB) U ∧ va_D (fun _ => True) (hy_O cJ o f :: hy_W cI cJ cB h b k w z ad ca S) ∧ hy_E U ∧ hy_Z (fun q => U.heap.size ≤ q) U U.heap ∧ hy_N U
theorem hy_IW_blind {D : va_G} {cI cJ cB : ClassId} {h b k w z : Nat} {ad ca : Nat → Nat} {S : hy_S} {o : Nat} {f : Nat → Int64} {sz : Nat} {av : List Value} : FrameBlind (va_Pc av (hy_IW D cI cJ cB h b k w z ad ca S o f sz)) :=
  fun a U g mk q => ⟨q.1, q.2.1, q.2.2.1, va_K.moved (u := U) (U := U.calling g mk a) (Vm.Alike.refl U.vm) q.2.2.2.1, q.2.2.2.2.1, hy_E.same rfl q.2.2.2.2.2.1, hy_Z.same rfl q.2.2.2.2.2.2.1, hy_N.same rfl q.2.2.2.2.2.2.2⟩
theorem hy_IP_blind {D : va_G} {cI cJ cB : ClassId} {h b k w z : Nat} {ad ca : Nat → Nat} {S : hy_S} {sz : Nat} {av : List Value} : FrameBlind (va_Pc av (hy_IP D cI cJ cB h b k w z ad ca S sz)) :=
  fun a U g mk q => ⟨q.1, q.2.1, ⟨⟨q.2.2.1.1.1, va_K.moved (u := U) (U := U.calling g mk a) (Vm.Alike.refl U.vm) q.2.2.1.1.2⟩, hy_E.same rfl q.2.2.1.2.1, hy_Z.same rfl q.2.2.1.2.2⟩, q.2.2.2⟩
def hy_AtO (D : va_G) (cI cJ cB : ClassId) (h o : Nat) (V : Int64) (S2 S : hy_S) (K : Int32) (A : Nat → Prop) (t : State) : Prop :=
  ∃ (b k w z : Nat) (ad ca : Nat → Nat) (f : Nat → Int64) (S' : hy_S), (K = 0 → f 0 = V ∧ S' = S2) ∧ (¬ K = 0 → S' = S) ∧ va_P D vwCl (hy_O cJ o f :: hy_W cI cJ cB h b k w z ad ca S') t.heap ∧ va_K D vwCl (hy_T cI cJ cB) t ∧ va_D A (hy_O cJ o f :: hy_W cI cJ cB h b k w z ad ca S')
theorem hy_nI0 (j : Nat) (hj : j < 8) : ¬ nI (j + 1) = 0 := by
  intro q
  have := (nI_eq (a := j + 1) (b := 0) (by omega) (by omega)).mp q
  omega
section HYWC
variable {p : Program} {l : Launch} {e : Env} {R : Room} {s : State} {m : MethodId} {args : Array Value} {below : List Frame} {meth : Method} {c : Code} {Q : State → Prop}
variable {mc ms pc : Nat} {ls : Array Slot} {st0 rest : List Value} {Qa : State → Outcome → State → Prop}
theorem hy_wcall {D : va_G} {cI cJ cB : ClassId} {h b k w z : Nat} {ad ca : Nat → Nat} {S S2 : hy_S} {O : Nat × va_E} {L : List String} {K : Int32} {V : Value}
    (hr : vx_Run p l e R s m args below meth c s.heap [] 0 0 mc ms (F0 m pc ls st0) rest Qa (hy_X (hy_nm L K)) (va_A (hy_W cI cJ cB h b k w z ad ca S) s.heap.size))
    (hQ : ∀ st v t, Qa st (.returned v) t → v = some V ∧ K = 0 ∧ hy_At D cI cJ cB h S2 (va_A (hy_W cI cJ cB h b k w z ad ca S) s.heap.size) t ∧ va_F (va_A (hy_W cI cJ cB h b k w z ad ca S) s.heap.size) st t)
    (hP : va_P D vwCl (O :: hy_W cI cJ cB h b k w z ad ca S) s.heap) (hD : va_D (fun _ => True) (O :: hy_W cI cJ cB h b k w z ad ca S))
    (kk : ∀ (b' k' w' z' : Nat) (ad' ca' : Nat → Nat) (H : Heap) (locs : List Loc), K = 0 → va_P D vwCl (O :: hy_W cI cJ cB h b' k' w' z' ad' ca' S2) H → va_D (va_A (O :: hy_W cI cJ cB h b k w z ad ca S) s.heap.size) (O :: hy_W cI cJ cB h b' k' w' z' ad' ca' S2) → va_S (va_A (O :: hy_W cI cJ cB h b k w z ad ca S) s.heap.size) s.heap H locs → W p l e R s m args below meth c H locs (0 + mc) (0 + ms) Q (F0 m (pc + 3) ls (V :: rest)))
    (kx : ∀ (E : String) (ce : Cell) (q : Addr) (j : Nat) (H : Heap) (locs : List Loc), L[j]? = some E → K = nI (j + 1) → va_P D vwCl (O :: hy_W cI cJ cB h b k w z ad ca S) H → va_D (va_A (O :: hy_W cI cJ cB h b k w z ad ca S) s.heap.size) (O :: hy_W cI cJ cB h b k w z ad ca S) → va_S (va_A (O :: hy_W cI cJ cB h b k w z ad ca S) s.heap.size) s.heap H locs → H[q]? = some ce → ce.vm = .none → s.vm.findClass E = some ce.cls → vx_W p l e R s m args below meth c H locs (0 + mc) (0 + ms) Q (F0 m pc ls rest) q) :
    W p l e R s m args below meth c s.heap [] 0 0 Q (F0 m pc ls st0) := by
  intro T hT X
  have hAW : ∀ q, va_A (hy_W cI cJ cB h b k w z ad ca S) s.heap.size q → va_A (O :: hy_W cI cJ cB h b k w z ad ca S) s.heap.size q := fun q hq => by
    rcases hq with ⟨k9, e9, h9⟩ | h9
    · exact Or.inl ⟨k9 + 1, e9, h9⟩
    · exact Or.inr h9
  have hDs := hD.self (sz := s.heap.size)
  rcases hr T hT X with ⟨v, st₀, t, T', Lc, h0, X', hL, e1, e2, hq, st⟩ | ⟨q, st₀, t, T', Lc, E, ce, h0, X', hL, e1, e2, ⟨hPE, hF⟩, hce, hcv, hcl, st⟩
  · obtain ⟨rfl, hk, ⟨b', k', w', z', ad', ca', hP1, hK1, hD1⟩, hF⟩ := hQ _ _ _ hq
    obtain ⟨k1, k2, k3⟩ := vx_keep (A0 := va_A (O :: hy_W cI cJ cB h b k w z ad ca S) s.heap.size) h0 e1 va_S.rf (fun q _ h => hAW q h) hAW hL hF
    have hs := hy_swap (X := [O]) (Y := hy_W cI cJ cB h b k w z ad ca S) hP hDs
    have hj := hy_joinL (X' := hy_W cI cJ cB h b' k' w' z' ad' ca' S2) (A0 := va_A (O :: hy_W cI cJ cB h b k w z ad ca S) s.heap.size) hs.1 hs.2 k2 hAW (by rw [e1]; exact hP1) hD1
    have hj2 := hy_swap hj.1 hj.2
    obtain ⟨t2, a1, b1⟩ := kk b' k' w' z' ad' ca' T'.heap ([] ++ Lc) hk hj2.1 hj2.2 k3 T' rfl X'
    exact ⟨t2, st t2 a1, b1⟩
  · obtain ⟨j, hj, hk⟩ := hPE
    rw [h0] at hF
    obtain ⟨k1, k2, k3⟩ := vx_keep (A0 := va_A (O :: hy_W cI cJ cB h b k w z ad ca S) s.heap.size) (A1 := fun q => s.heap.size ≤ q) h0 e1 va_S.rf (fun q _ h => Or.inr h) hAW hL hF
    have hP1 : va_P D vwCl (O :: hy_W cI cJ cB h b k w z ad ca S) T'.heap := fun k9 q9 h9 => (hP k9 q9 h9).kept (k2 _ (hP k9 q9 h9).lt (Nat.not_le.mpr (hP k9 q9 h9).lt))
    obtain ⟨t2, a1, b1⟩ := kx E ce q j T'.heap ([] ++ Lc) hj hk hP1 hDs k3 (by rw [e1]; exact hce) hcv hcl T' rfl X'
    exact ⟨t2, st.trans a1, b1⟩
end HYWC
theorem hy_Qi {post : Int32 → Unit → Prop} {B : Unit → State → Prop} {A : Nat → Prop} {a : Array Value} {K V : Int32} (hp : ∀ r u, post r u → K = 0 ∧ r = V) {st t : State} {v : Option Value} (h : va_Qi post B A a st (.returned v) t) : v = some (.int V) ∧ K = 0 ∧ B () t ∧ va_F A st t := by
  obtain ⟨⟨r, u, hv, hq, hb⟩, hF⟩ := h
  obtain ⟨h1, rfl⟩ := hp r u hq
  cases hv
  exact ⟨rfl, h1, hb, hF⟩
theorem hy_Ql {post : Int64 → Unit → Prop} {B : Unit → State → Prop} {A : Nat → Prop} {a : Array Value} {K : Int32} {V : Int64} (hp : ∀ r u, post r u → K = 0 ∧ r = V) {st t : State} {v : Option Value} (h : va_Ql post B A a st (.returned v) t) : v = some (.long V) ∧ K = 0 ∧ B () t ∧ va_F A st t := by
  obtain ⟨⟨r, u, hv, hq, hb⟩, hF⟩ := h
  obtain ⟨h1, rfl⟩ := hp r u hq
  cases hv
  exact ⟨rfl, h1, hb, hF⟩
