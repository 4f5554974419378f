/-! THE STATE that class and reference are both tied to: what the boxes hold (none: nothing; some 0: the lid; some (r+1): row r), how many rows, their sorts, sizes and contents (row r at r+1; 0 is the lid), how many combs, kinds, weights; moves, moves by end, latest moved, places moved. -/
abbrev hy_S : Type := (Nat → Option Nat) × Nat × (Nat → Int32) × (Nat → Nat) × (Nat → Nat → Int64) × Nat × (Nat → Int32) × (Nat → Int32) × Int32 × (Nat → Int32) × Int32 × Int32
def hy_bx (S : hy_S) : Nat → Option Nat := S.1
def hy_nr (S : hy_S) : Nat := S.2.1
def hy_so (S : hy_S) : Nat → Int32 := S.2.2.1
def hy_le (S : hy_S) : Nat → Nat := S.2.2.2.1
def hy_va (S : hy_S) : Nat → Nat → Int64 := S.2.2.2.2.1
def hy_nc (S : hy_S) : Nat := S.2.2.2.2.2.1
def hy_ki (S : hy_S) : Nat → Int32 := S.2.2.2.2.2.2.1
def hy_we (S : hy_S) : Nat → Int32 := S.2.2.2.2.2.2.2.1
def hy_mo (S : hy_S) : Int32 := S.2.2.2.2.2.2.2.2.1
def hy_en (S : hy_S) : Nat → Int32 := S.2.2.2.2.2.2.2.2.2.1
def hy_lm (S : hy_S) : Int32 := S.2.2.2.2.2.2.2.2.2.2.1
def hy_pm (S : hy_S) : Int32 := S.2.2.2.2.2.2.2.2.2.2.2
/-- what holds of every state that a run comes to -/
def hy_wf (S : hy_S) : Prop := hy_nr S ≤ 300 ∧ hy_nc S ≤ 60 ∧ (∀ i r, hy_bx S i = some r → r ≤ hy_nr S) ∧ hy_so S 0 = 8 ∧ (∀ r, 0 < r → r ≤ hy_nr S → ∃ j : Nat, j < 8 ∧ hy_so S r = nI j) ∧ (∀ r, hy_le S r ≤ 24) ∧ hy_le S 0 = 0 ∧ (∀ r, hy_nr S < r → hy_le S r = 0 ∧ hy_so S r = 0) ∧ (∀ r k, hy_le S r ≤ k → hy_va S r k = 0) ∧
  (∀ r, r ≤ hy_nr S → 4 ≤ hy_so S r → ∀ k, k < hy_le S r → hy_va S r k = -1 ∨ ∃ c : Nat, c < hy_nc S ∧ hy_va S r k = lN c) ∧ (∀ c, hy_nc S ≤ c → hy_we S c = 0) ∧ (∀ c, c < hy_nc S → ∃ j : Nat, j < 4 ∧ hy_ki S c = nI j)
/-- the cells of the class: its object h, the boxes b, kinds k, weights w, ends e; then every Content (ad), then every array of places (ca) -/
def hy_W (cI cJ cB : ClassId) (h b k w e : Nat) (ad ca : Nat → Nat) (S : hy_S) : va_W :=
  (h, .inr (1, [.ref b, .ref (ad 0), .ref k, .ref w, .ref e, .int (nI (hy_nr S)), .int (nI (hy_nc S)), .int (hy_mo S), .int (hy_lm S), .int (hy_pm S)])) ::
  (b, .inl (cB, 12, .inr (.inr (.inr (.inr (fun i => (hy_bx S i).map ad)))))) ::
  (k, .inl (cI, 60, .inl (hy_ki S))) ::
  (w, .inl (cI, 60, .inl (hy_we S))) ::
  (e, .inl (cI, 6, .inl (hy_en S))) ::
  ((List.range (hy_nr S + 1)).map (fun r => (ad r, .inr (0, [.int (hy_so S r), .ref (ca r)]))) ++ (List.range (hy_nr S + 1)).map (fun r => (ca r, .inl (cJ, hy_le S r, .inr (.inl (hy_va S r))))))
abbrev hy_T (cI cJ cB : ClassId) : List (ClassId × FieldType) := [(cI, .int), (cJ, .long), (cB, .object "HiveYard$Content")]
theorem hy_rng {α : Type} (f : Nat → α) {n r : Nat} (h : r < n) : ((List.range n).map f)[r]? = some (f r) := by
  rw [List.getElem?_map, List.getElem?_range h]; rfl
theorem hy_W_row {cI cJ cB : ClassId} {h b k w e : Nat} {ad ca : Nat → Nat} {S : hy_S} {r : Nat} (hr : r ≤ hy_nr S) : (hy_W cI cJ cB h b k w e ad ca S)[5 + r]? = some (ad r, .inr (0, [.int (hy_so S r), .ref (ca r)])) := by
  have h1 : (hy_W cI cJ cB h b k w e ad ca S)[5 + r]? = ((List.range (hy_nr S + 1)).map (fun r => ((ad r, .inr (0, [.int (hy_so S r), .ref (ca r)])) : Nat × va_E)) ++ (List.range (hy_nr S + 1)).map (fun r => ((ca r, .inl (cJ, hy_le S r, .inr (.inl (hy_va S r)))) : Nat × va_E)))[r]? := by
    rw [Nat.add_comm]; rfl
  rw [h1, List.getElem?_append_left (by rw [List.length_map, List.length_range]; omega)]
  exact hy_rng _ (by omega)
theorem hy_W_arr {cI cJ cB : ClassId} {h b k w e : Nat} {ad ca : Nat → Nat} {S : hy_S} {r : Nat} (hr : r ≤ hy_nr S) : (hy_W cI cJ cB h b k w e ad ca S)[5 + (hy_nr S + 1 + r)]? = some (ca r, .inl (cJ, hy_le S r, .inr (.inl (hy_va S r)))) := by
  have h1 : (hy_W cI cJ cB h b k w e ad ca S)[5 + (hy_nr S + 1 + r)]? = ((List.range (hy_nr S + 1)).map (fun r => ((ad r, .inr (0, [.int (hy_so S r), .ref (ca r)])) : Nat × va_E)) ++ (List.range (hy_nr S + 1)).map (fun r => ((ca r, .inl (cJ, hy_le S r, .inr (.inl (hy_va S r)))) : Nat × va_E)))[hy_nr S + 1 + r]? := by
    rw [Nat.add_comm]; rfl
  rw [h1, List.getElem?_append_right (by rw [List.length_map, List.length_range]; omega), List.length_map, List.length_range, show hy_nr S + 1 + r - (hy_nr S + 1) = r by omega]
  exact hy_rng _ (by omega)
/-- worlds by membership -/
theorem hy_P_iff {D : va_G} {cl : List vw_C} {ws : va_W} {H : Heap} : va_P D cl ws H ↔ ∀ q ∈ ws, va_at D cl q H :=
  ⟨fun h q hq => by obtain ⟨i, hi⟩ := List.getElem?_of_mem hq; exact h i q hi, fun h k q hk => h q (List.mem_of_getElem? hk)⟩
theorem hy_D_iff {A : Nat → Prop} {ws : va_W} : va_D A ws ↔ (ws.map (fun q => q.1)).Nodup ∧ ∀ q ∈ ws, A q.1 := by
  constructor
  · intro h
    refine ⟨?_, fun q hq => by obtain ⟨i, hi⟩ := List.getElem?_of_mem hq; exact h.2 i q hi⟩
    rw [List.Nodup, List.pairwise_iff_getElem]
    intro i j hi hj hij he
    rw [List.length_map] at hi hj
    rw [List.getElem_map, List.getElem_map] at he
    have := h.1 i j _ _ (List.getElem?_eq_getElem hi) (List.getElem?_eq_getElem hj) he
    omega
  · intro ⟨h1, h2⟩
    refine ⟨fun i j p q hi hj he => ?_, fun k q hk => h2 q (List.mem_of_getElem? hk)⟩
    have hi' : (ws.map (fun q => q.1))[i]? = some p.1 := by rw [List.getElem?_map, hi]; rfl
    have hj' : (ws.map (fun q => q.1))[j]? = some p.1 := by rw [List.getElem?_map, hj, he]; rfl
    have li := (List.getElem?_eq_some_iff.mp hi').1
    have lj := (List.getElem?_eq_some_iff.mp hj').1
    exact (List.getElem_inj (h₀ := li) (h₁ := lj) h1).mp (by rw [(List.getElem?_eq_some_iff.mp hi').2, (List.getElem?_eq_some_iff.mp hj').2])
theorem hy_P_perm {D : va_G} {cl : List vw_C} {ws ws' : va_W} {H : Heap} (hp : ws.Perm ws') (h : va_P D cl ws H) : va_P D cl ws' H := hy_P_iff.mpr (fun q hq => hy_P_iff.mp h q (hp.mem_iff.mpr hq))
theorem hy_D_perm {A : Nat → Prop} {ws ws' : va_W} (hp : ws.Perm ws') (h : va_D A ws) : va_D A ws' := by
  obtain ⟨h1, h2⟩ := hy_D_iff.mp h
  exact hy_D_iff.mpr ⟨(hp.map _).nodup_iff.mp h1, fun q hq => h2 q (hp.mem_iff.mpr hq)⟩
/-- behind a call that had the first part of the world -/
theorem hy_joinL {A0 : Nat → Prop} {D : va_G} {cl : List vw_C} {X X' Y : va_W} {H H1 : Heap} (hP : va_P D cl (X ++ Y) H) (hD : va_D A0 (X ++ Y)) (hk : ∀ q : Nat, q < H.size → ¬ va_A X H.size q → H1[q]? = H[q]?) (hF : ∀ q, va_A X H.size q → A0 q) (hP1 : va_P D cl X' H1) (hD1 : va_D (va_A X H.size) X') : va_P D cl (X' ++ Y) H1 ∧ va_D A0 (X' ++ Y) := by
  have apart : ∀ q ∈ Y, q.1 < H.size ∧ ¬ va_A X H.size q.1 := by
    intro q hq
    obtain ⟨i, hi⟩ := List.getElem?_of_mem hq
    have hi2 : (X ++ Y)[X.length + i]? = some q := by rw [List.getElem?_append_right (by omega), Nat.add_sub_cancel_left]; exact hi
    have hl := (hP _ q hi2).lt
    refine ⟨hl, fun h => ?_⟩
    rcases h with ⟨k, e, h⟩ | h
    · have hlk := (List.getElem?_eq_some_iff.mp h).1
      have h3 : (X ++ Y)[k]? = some (q.1, e) := by rw [List.getElem?_append_left hlk]; exact h
      have := hD.1 _ _ _ _ hi2 h3 rfl
      omega
    · omega
  refine ⟨va_P.app hP1 (fun k q hq => ?_), va_D.app (hD1.weaken (fun _ q _ h => hF q.1 h)) ?_ (fun i j x y hx hy hxy => ?_)⟩
  · have hm := List.mem_of_getElem? hq
    obtain ⟨g1, g2⟩ := apart q hm
    exact (hy_P_iff.mp hP q (List.mem_append_right _ hm)).kept (hk q.1 g1 g2)
  · obtain ⟨h1, h2⟩ := hy_D_iff.mp hD
    rw [List.map_append] at h1
    exact hy_D_iff.mpr ⟨(List.nodup_append.mp h1).2.1, fun q hq => h2 q (List.mem_append_right _ hq)⟩
  · exact (apart y (List.mem_of_getElem? hy)).2 (by rw [← hxy]; exact hD1.2 i x hx)
theorem hy_swap {D : va_G} {cl : List vw_C} {A : Nat → Prop} {X Y : va_W} {H : Heap} (hP : va_P D cl (X ++ Y) H) (hD : va_D A (X ++ Y)) : va_P D cl (Y ++ X) H ∧ va_D A (Y ++ X) := ⟨hy_P_perm List.perm_append_comm hP, hy_D_perm List.perm_append_comm hD⟩
theorem hy_left {D : va_G} {cl : List vw_C} {A : Nat → Prop} {X Y : va_W} {H : Heap} (hP : va_P D cl (X ++ Y) H) (hD : va_D A (X ++ Y)) : va_P D cl X H ∧ va_D A X := by
  refine ⟨hy_P_iff.mpr (fun q hq => hy_P_iff.mp hP q (List.mem_append_left _ hq)), ?_⟩
  obtain ⟨h1, h2⟩ := hy_D_iff.mp hD
  rw [List.map_append] at h1
  exact hy_D_iff.mpr ⟨(List.nodup_append.mp h1).1, fun q hq => h2 q (List.mem_append_left _ hq)⟩
/-- the places of row r become f -/
def hy_uva (S : hy_S) (r : Nat) (f : Nat → Int64) : hy_S := (S.1, S.2.1, S.2.2.1, S.2.2.2.1, va_up (hy_va S) r f, S.2.2.2.2.2)
theorem hy_W_setArr {cI cJ cB : ClassId} {h b k w e : Nat} {ad ca : Nat → Nat} {S : hy_S} {r : Nat} (hr : r ≤ hy_nr S) (f : Nat → Int64) : (hy_W cI cJ cB h b k w e ad ca S).set (5 + (hy_nr S + 1 + r)) (ca r, .inl (cJ, hy_le S r, .inr (.inl f))) = hy_W cI cJ cB h b k w e ad ca (hy_uva S r f) := by
  have e1 : (((List.range (hy_nr S + 1)).map (fun r => ((ad r, .inr (0, [.int (hy_so S r), .ref (ca r)])) : Nat × va_E)) ++ (List.range (hy_nr S + 1)).map (fun r => ((ca r, .inl (cJ, hy_le S r, .inr (.inl (hy_va S r)))) : Nat × va_E)))).set (hy_nr S + 1 + r) (ca r, .inl (cJ, hy_le S r, .inr (.inl f))) = ((List.range (hy_nr S + 1)).map (fun r => ((ad r, .inr (0, [.int (hy_so S r), .ref (ca r)])) : Nat × va_E)) ++ (List.range (hy_nr S + 1)).map (fun r' => ((ca r', .inl (cJ, hy_le S r', .inr (.inl (va_up (hy_va S) r f r')))) : Nat × va_E))) := by
    rw [List.set_append_right _ _ (by rw [List.length_map, List.length_range]; omega), List.length_map, List.length_range, show hy_nr S + 1 + r - (hy_nr S + 1) = r by omega]
    congr 1
    refine List.ext_getElem? (fun j => ?_)
    by_cases hj : j = r
    · subst hj
      rw [List.getElem?_set_self (by rw [List.length_map, List.length_range]; omega), hy_rng _ (by omega), va_up_self]
    · rw [List.getElem?_set_ne (fun q => hj q.symm), List.getElem?_map, List.getElem?_map]
      cases hq : (List.range (hy_nr S + 1))[j]? with
      | none => rfl
      | some i =>
        have : i = j := by
          obtain ⟨hl, hv⟩ := List.getElem?_eq_some_iff.mp hq
          rw [List.getElem_range] at hv
          exact hv.symm
        subst this
        show some _ = some _
        dsimp only
        rw [va_up_ne _ _ hj]
  rw [Nat.add_comm]
  show _ :: _ :: _ :: _ :: _ :: _ = _ :: _ :: _ :: _ :: _ :: _
  exact congrArg (fun z => _ :: _ :: _ :: _ :: _ :: z) e1
