/-! THE CLASS'S PUBLIC METHODS: which exception (0: none; else its place in the law's row of catches), what is answered, the state behind it. -/
def hy_kbox (a : Int32) : Int32 := if a < 0 then 1 else if a < 12 then 0 else 1
theorem hy_kbox0 {a : Int32} (h : hy_ok a) : hy_kbox a = 0 := by rw [hy_kbox, if_neg h.1, if_pos h.2]
theorem hy_kbox1 {a : Int32} (h : ¬ hy_ok a) : ¬ hy_kbox a = 0 := by
  intro q
  unfold hy_kbox at q
  by_cases h1 : a < 0
  · rw [if_pos h1] at q; cases q
  · rw [if_neg h1] at q
    by_cases h2 : a < 12
    · exact h ⟨h1, h2⟩
    · rw [if_neg h2] at q; cases q
theorem hy_kbox1e {a : Int32} (h : ¬ hy_ok a) : hy_kbox a = 1 := by
  unfold hy_kbox
  by_cases h1 : a < 0
  · rw [if_pos h1]
  · rw [if_neg h1, if_neg (fun h2 => h ⟨h1, h2⟩)]
def hy_kpl (S : hy_S) (o : Option Nat) (a : Int32) : Int32 := match o with
  | none => 1
  | some r => if a < 0 then 1 else if a < nI (hy_le S r) then 0 else 1
theorem hy_kpl0 {S : hy_S} {r : Nat} {a : Int32} (h : hy_pl S r a) : hy_kpl S (some r) a = 0 := by rw [hy_kpl, if_neg h.1, if_pos h.2]
theorem hy_kpl1 {S : hy_S} {r : Nat} {a : Int32} (h : ¬ hy_pl S r a) : ¬ hy_kpl S (some r) a = 0 := by
  intro q
  unfold hy_kpl at q
  by_cases h1 : a < 0
  · simp only [h1, ↓reduceIte] at q; cases q
  · by_cases h2 : a < nI (hy_le S r)
    · exact h ⟨h1, h2⟩
    · simp only [h1, h2, ↓reduceIte] at q; cases q
def hy_k2b (a b : Int32) : Int32 := if hy_kbox a = 0 then hy_kbox b else 1
def hy_kput (S : hy_S) (a1 a2 : Int32) : Int32 := if hy_kbox a1 = 0 then (if hy_isNum S (hy_bx S a1.toNatClampNeg) = 0 then 2 else if hy_kpl S (hy_bx S a1.toNatClampNeg) a2 = 0 then 0 else 3) else 1
def hy_kat (S : hy_S) (a1 a2 : Int32) : Int32 := if hy_kbox a1 = 0 then (if hy_isRow S (hy_bx S a1.toNatClampNeg) = 0 then 2 else if hy_kpl S (hy_bx S a1.toNatClampNeg) a2 = 0 then 0 else 3) else 1
def hy_klift (S : hy_S) (a1 a2 : Int32) : Int32 := if hy_kbox a1 = 0 then (if hy_isCo S (hy_bx S a1.toNatClampNeg) = 0 then 2 else if hy_kpl S (hy_bx S a1.toNatClampNeg) a2 = 0 then 0 else 3) else 1
def hy_klay (S : hy_S) (a1 a2 a3 : Int32) : Int32 := if hy_kbox a1 = 0 then (if a3 < 0 then 2 else if a3 ≤ 3 then (if hy_isCo S (hy_bx S a1.toNatClampNeg) = 0 then 3 else if hy_kpl S (hy_bx S a1.toNatClampNeg) a2 = 0 then (if nI (hy_nc S) < 60 then 0 else 5) else 4) else 2) else 1
def hy_krow (S : hy_S) (a1 : Int32) : Int32 := if hy_kbox a1 = 0 then (if hy_isRow S (hy_bx S a1.toNatClampNeg) = 0 then 2 else 0) else 1
def hy_kcomb (S : hy_S) (a : Int32) : Int32 := if hy_isComb S a.toInt64 = 0 then 1 else 0
def hy_vlid (S : hy_S) (a1 : Int32) : Int32 := if hy_bx S a1.toNatClampNeg = some 0 then 0 else 1
def hy_vclear (S : hy_S) (a1 : Int32) : Int32 := match hy_bx S a1.toNatClampNeg with
  | none => 0
  | some _ => 1
def hy_at (S : hy_S) (a1 a2 : Int32) : Int64 := match hy_bx S a1.toNatClampNeg with
  | none => 0
  | some r => hy_va S r a2.toNatClampNeg
def hy_sput (S : hy_S) (a1 a2 : Int32) (v : Int64) : hy_S := match hy_bx S a1.toNatClampNeg with
  | none => S
  | some r => hy_uva S r (vp_updL (hy_va S r) a2.toNatClampNeg (hy_low (hy_so S r) v))
def hy_slift (S : hy_S) (a1 a2 : Int32) : hy_S := match hy_bx S a1.toNatClampNeg with
  | none => S
  | some r => hy_uva S r (vp_updL (hy_va S r) a2.toNatClampNeg (-1))
def hy_vlay (S : hy_S) (a1 a3 : Int32) : Int32 := match hy_bx S a1.toNatClampNeg with
  | none => 0
  | some r => if hy_takes (hy_so S r) a3 = 0 then -1 else nI (hy_nc S)
def hy_slay (S : hy_S) (a1 a2 a3 : Int32) : hy_S := match hy_bx S a1.toNatClampNeg with
  | none => S
  | some r => if hy_takes (hy_so S r) a3 = 0 then S else hy_uva (hy_uki (hy_unc S (hy_nc S + 1)) (upd (hy_ki S) (nI (hy_nc S)).toNatClampNeg a3)) r (vp_updL (hy_va S r) a2.toNatClampNeg (nI (hy_nc S)).toInt64)
def hy_vsame (S : hy_S) (a1 a2 : Int32) : Int32 := if hy_isRow S (hy_bx S a1.toNatClampNeg) = 0 then 0 else if hy_bx S a1.toNatClampNeg = hy_bx S a2.toNatClampNeg then 1 else 0
def hy_vall (S : hy_S) (a1 : Int32) : Int64 := match hy_bx S a1.toNatClampNeg with
  | none => 0
  | some r => if hy_isCo S (some r) = 0 then hy_sum (hy_va S r) (hy_le S r) else hy_wsum S (hy_va S r) (hy_le S r)
def hy_min (a b : Int32) : Int32 := if b < a then b else a
theorem hy_combI {S : hy_S} {a : Int32} (hn : hy_nc S ≤ 60) (h : ¬ hy_isComb S a.toInt64 = 0) : vp_in a 60 := by
  have := hy_comb_vp hn h
  rwa [Int32.toInt32_toInt64] at this
theorem hy_adinj {A : Nat → Prop} {cI cJ cB : ClassId} {h b k w z : Nat} {ad ca : Nat → Nat} {S : hy_S} {r r' : Nat} (hD : va_D A (hy_W cI cJ cB h b k w z ad ca S)) (h1 : r ≤ hy_nr S) (h2 : r' ≤ hy_nr S) (e : ad r = ad r') : r = r' := by
  have := hD.1 _ _ _ _ (hy_W_row h1) (hy_W_row h2) e
  omega
/-- a public method's premise, and its end: the class's object at h holds S -/
def hy_IP (D : va_G) (cI cJ cB : ClassId) (h b k w z : Nat) (ad ca : Nat → Nat) (S : hy_S) (sz : Nat) (U : State) : Prop := U.heap.size = sz ∧ hy_IX D cI cJ cB h b k w z ad ca S U ∧ va_D (fun _ => True) (hy_W cI cJ cB h b k w z ad ca S)
def hy_At (D : va_G) (cI cJ cB : ClassId) (h : Nat) (S : hy_S) (A : Nat → Prop) (t : State) : Prop := ∃ (b k w z : Nat) (ad ca : Nat → Nat), hy_AtS D cI cJ cB h b k w z ad ca S A t
theorem hy_nc60 {S : hy_S} (hn : hy_nc S ≤ 60) (h : nI (hy_nc S) < 60) : vp_in (nI (hy_nc S)) 60 := by
  have h1 : nI (hy_nc S) < nI 60 := h
  exact vp_in_nI ((nI_ltI (by omega) (by omega)).mp h1) (by omega)
def hy_vhold (S : hy_S) (a : Int32) : Int32 := hy_sort S (hy_bx S a.toNatClampNeg)
def hy_vlen (S : hy_S) (a : Int32) : Int32 := hy_len S (hy_bx S a.toNatClampNeg)
def hy_sshare (S : hy_S) (a1 a2 : Int32) : hy_S := hy_ubx S (va_up (hy_bx S) a1.toNatClampNeg (hy_bx S a2.toNatClampNeg))
def hy_vmove (S : hy_S) (a1 a2 a3 a4 a5 : Int32) : Int32 := (hy_carry S (hy_bx S a1.toNatClampNeg) (hy_bx S a3.toNatClampNeg) a2 a4 a5).1
def hy_smove (S : hy_S) (a1 a2 a3 a4 a5 : Int32) : hy_S := hy_cS S (hy_bx S a1.toNatClampNeg) (hy_bx S a3.toNatClampNeg) a2 a4 a5
def hy_vpour (S : hy_S) (a1 a2 : Int32) : Int32 := hy_vmove S a1 0 a2 0 (hy_min (hy_vlen S a1) (hy_vlen S a2))
def hy_spour (S : hy_S) (a1 a2 : Int32) : hy_S := hy_smove S a1 0 a2 0 (hy_min (hy_vlen S a1) (hy_vlen S a2))
