theorem z_up_i (M : zH) (a : Nat) (e : zC) (b : Nat) : z_up M a e b = if b = a then some e else M b := rfl
theorem z_tt : True := trivial
theorem z_ix {i : Int32} {n : Nat} (hn : n < 2 ^ 31) (h0 : ¬ i < 0) (h : ¬ nI n ≤ i) : ∃ j, j < n ∧ i = nI j := by
  rcases pk_ix i hn with q | q | q
  · exact absurd q h0
  · exact absurd q h
  · exact q
theorem zn_0 : (narrow FieldType.boolean (Value.int 0) = Value.int 0) = True := eq_true rfl
theorem zn_1 : (narrow FieldType.boolean (Value.int 1) = Value.int 1) = True := eq_true rfl
theorem zo_0 : z_bo 0 = True := eq_true ⟨rfl, rfl⟩
theorem zo_1 : z_bo 1 = True := eq_true ⟨rfl, rfl⟩
theorem z_ty_get {w : List Int32} {j : Nat} (h : j < w.length) : w.getD j (-6) = w[j] := by simp [h]
theorem z_take1 {α : Type} {w : List α} {i : Nat} {v : α} (h : w[i]? = some v) : w.take (i + 1) = w.take i ++ [v] := by
  rw [List.take_succ, h]; rfl
