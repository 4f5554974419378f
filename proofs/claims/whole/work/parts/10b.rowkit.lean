/-! row: a new Content joins the world. -/
def hy_Wt (cI cJ cB : ClassId) (b k w z : Nat) (ad ca : Nat → Nat) (S : hy_S) (f : Nat → Option Nat) : va_W :=
  (b, .inl (cB, 12, .inr (.inr (.inr (.inr f))))) ::
  (k, .inl (cI, 60, .inl (hy_ki S))) ::
  (w, .inl (cI, 60, .inl (hy_we S))) ::
  (z, .inl (cI, 6, .inl (hy_en S))) ::
  ((List.range (hy_nr S + 1)).map (fun r => (ad r, .inr (0, [.int (hy_so S r), .ref (ca r)]))) ++ (List.range (hy_nr S + 1)).map (fun r => (ca r, .inl (cJ, hy_le S r, .inr (.inl (hy_va S r))))))
def hy_Wr (cI cJ cB : ClassId) (h b k w z : Nat) (ad ca : Nat → Nat) (S : hy_S) (fr : Int32) (f : Nat → Option Nat) : va_W :=
  (h, .inr (1, [.ref b, .ref (ad 0), .ref k, .ref w, .ref z, .int fr, .int (nI (hy_nc S)), .int (hy_mo S), .int (hy_lm S), .int (hy_pm S)])) :: hy_Wt cI cJ cB b k w z ad ca S f
theorem hy_W_r {cI cJ cB : ClassId} {h b k w z : Nat} {ad ca : Nat → Nat} {S : hy_S} : hy_W cI cJ cB h b k w z ad ca S = hy_Wr cI cJ cB h b k w z ad ca S (nI (hy_nr S)) (fun i => (hy_bx S i).map ad) := rfl
/-- the state with a new row of sort so, n places, its contents f, held by box i -/
def hy_add (S : hy_S) (i : Nat) (so : Int32) (n : Nat) (f : Nat → Int64) : hy_S := (va_up (hy_bx S) i (some (hy_nr S + 1)), hy_nr S + 1, va_up (hy_so S) (hy_nr S + 1) so, va_up (hy_le S) (hy_nr S + 1) n, va_up (hy_va S) (hy_nr S + 1) f, S.2.2.2.2.2)
theorem hy_map_up {α : Type} {f g : Nat → α} (n : Nat) (h : ∀ r, r < n → f r = g r) : (List.range n).map f = (List.range n).map g := List.map_congr_left (fun r hr => h r (List.mem_range.mp hr))
theorem hy_row_perm {cI cJ cB : ClassId} {h b k w z : Nat} {ad ca : Nat → Nat} {S : hy_S} (hwf : hy_wf S) (i q qa n : Nat) (so : Int32) (f : Nat → Int64) : ((qa, .inl (cJ, n, .inr (.inl f))) :: (q, .inr (0, [.int so, .ref qa])) :: hy_Wr cI cJ cB h b k w z ad ca S (nI (hy_nr S + 1)) (va_up (fun i => (hy_bx S i).map ad) i (some q)) : va_W).Perm (hy_W cI cJ cB h b k w z (va_up ad (hy_nr S + 1) q) (va_up ca (hy_nr S + 1) qa) (hy_add S i so n f)) := by
  have ne : ∀ r, r < hy_nr S + 1 → r ≠ hy_nr S + 1 := fun r h => by omega
  have e0 : va_up ad (hy_nr S + 1) q 0 = ad 0 := va_up_ne _ _ (by omega)
  have e1 : va_up (fun i => (hy_bx S i).map ad) i (some q) = fun j => (va_up (hy_bx S) i (some (hy_nr S + 1)) j).map (va_up ad (hy_nr S + 1) q) := by
    funext j
    by_cases hj : j = i
    · subst hj
      rw [va_up_self, va_up_self]
      show some q = some _
      rw [va_up_self]
    · rw [va_up_ne _ _ hj, va_up_ne _ _ hj]
      cases hb : hy_bx S j with
      | none => rfl
      | some r =>
        show some (ad r) = some _
        rw [va_up_ne _ _ (by have := hwf.2.2.1 j r hb; omega)]
  have e2 : (List.range (hy_nr S + 1 + 1)).map (fun r => ((va_up ad (hy_nr S + 1) q r, .inr (0, [.int (va_up (hy_so S) (hy_nr S + 1) so r), .ref (va_up ca (hy_nr S + 1) qa r)])) : Nat × va_E)) = (List.range (hy_nr S + 1)).map (fun r => ((ad r, .inr (0, [.int (hy_so S r), .ref (ca r)])) : Nat × va_E)) ++ [(q, .inr (0, [.int so, .ref qa]))] := by
    rw [List.range_succ, List.map_append]
    congr 1
    · refine hy_map_up _ (fun r hr => ?_)
      rw [va_up_ne _ _ (ne r hr), va_up_ne _ _ (ne r hr), va_up_ne _ _ (ne r hr)]
    · show [_] = [_]
      dsimp only
      rw [va_up_self, va_up_self, va_up_self]
  have e3 : (List.range (hy_nr S + 1 + 1)).map (fun r => ((va_up ca (hy_nr S + 1) qa r, .inl (cJ, va_up (hy_le S) (hy_nr S + 1) n r, .inr (.inl (va_up (hy_va S) (hy_nr S + 1) f r)))) : Nat × va_E)) = (List.range (hy_nr S + 1)).map (fun r => ((ca r, .inl (cJ, hy_le S r, .inr (.inl (hy_va S r)))) : Nat × va_E)) ++ [(qa, .inl (cJ, n, .inr (.inl f)))] := by
    rw [List.range_succ, List.map_append]
    congr 1
    · refine hy_map_up _ (fun r hr => ?_)
      rw [va_up_ne _ _ (ne r hr), va_up_ne _ _ (ne r hr), va_up_ne _ _ (ne r hr)]
    · show [_] = [_]
      dsimp only
      rw [va_up_self, va_up_self, va_up_self]
  have e4 : hy_W cI cJ cB h b k w z (va_up ad (hy_nr S + 1) q) (va_up ca (hy_nr S + 1) qa) (hy_add S i so n f) = (h, .inr (1, [.ref b, .ref (va_up ad (hy_nr S + 1) q 0), .ref k, .ref w, .ref z, .int (nI (hy_nr S + 1)), .int (nI (hy_nc S)), .int (hy_mo S), .int (hy_lm S), .int (hy_pm S)])) :: (b, .inl (cB, 12, .inr (.inr (.inr (.inr (fun j => (va_up (hy_bx S) i (some (hy_nr S + 1)) j).map (va_up ad (hy_nr S + 1) q))))))) :: (k, .inl (cI, 60, .inl (hy_ki S))) :: (w, .inl (cI, 60, .inl (hy_we S))) :: (z, .inl (cI, 6, .inl (hy_en S))) ::
      ((List.range (hy_nr S + 1 + 1)).map (fun r => ((va_up ad (hy_nr S + 1) q r, .inr (0, [.int (va_up (hy_so S) (hy_nr S + 1) so r), .ref (va_up ca (hy_nr S + 1) qa r)])) : Nat × va_E)) ++ (List.range (hy_nr S + 1 + 1)).map (fun r => ((va_up ca (hy_nr S + 1) qa r, .inl (cJ, va_up (hy_le S) (hy_nr S + 1) n r, .inr (.inl (va_up (hy_va S) (hy_nr S + 1) f r)))) : Nat × va_E))) := rfl
  rw [e4, e2, e3, e0, ← e1]
  unfold hy_Wr hy_Wt
  have p1 : ∀ (x y : Nat × va_E) (A B C : va_W), (x :: y :: (A ++ (B ++ C))).Perm (A ++ ((B ++ [y]) ++ (C ++ [x]))) := by
    intro x y A B C
    have h1 : (x :: y :: (A ++ (B ++ C))).Perm ((A ++ (B ++ C)) ++ [y, x]) := by
      refine List.Perm.trans (List.Perm.swap y x _) ?_
      exact List.perm_append_comm (l₁ := [y, x])
    refine h1.trans ?_
    rw [List.append_assoc, List.append_assoc]
    refine List.Perm.append_left A ?_
    rw [List.append_assoc]
    refine List.Perm.append_left B ?_
    show (C ++ [y, x]).Perm ([y] ++ (C ++ [x]))
    rw [show C ++ [y, x] = (C ++ [y]) ++ [x] by simp, ← List.append_assoc]
    exact List.Perm.append_right [x] List.perm_append_comm
  exact p1 _ _ [_, _, _, _, _] _ _
def hy_krw (S : hy_S) (a1 a2 a3 : Int32) : Int32 := if hy_kbox a1 = 0 then (if a2 < 0 then 2 else if a2 ≤ 7 then (if a3 < 0 then 2 else if a3 ≤ 24 then (if nI (hy_nr S) < 300 then 0 else 3) else 2) else 2) else 1
def hy_vrow (S : hy_S) (a1 : Int32) : Int32 := match hy_bx S a1.toNatClampNeg with
  | none => 1
  | some _ => 0
def hy_srow (S : hy_S) (a1 a2 a3 : Int32) : hy_S := hy_add S a1.toNatClampNeg a2 a3.toNatClampNeg (hy_new a2 a3.toNatClampNeg)
