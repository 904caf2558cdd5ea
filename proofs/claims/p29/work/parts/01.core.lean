/-! A small machine of our own beside the kit's: values are numbers or names of cells (a tag and an index), the heap two functions; part 'sound' shows that it tells what the kit's machine does. -/
abbrev ai_V : Type := Int32 ⊕ (Int64 ⊕ (Nat × Nat))
abbrev ai_i (x : Int32) : ai_V := Sum.inl x
abbrev ai_j (x : Int64) : ai_V := Sum.inr (Sum.inl x)
abbrev ai_r (t i : Nat) : ai_V := Sum.inr (Sum.inr (t, i))
abbrev ai_L : Type := List (Option ai_V)
abbrev ai_R : Type := Nat → Nat → Nat → Option (Nat × Nat)
/-- how many cells are made, how many exceptions were made, the length of the script, what fields and places of references hold -/
abbrev ai_Z : Type := Nat × Nat × Nat × ai_R
abbrev ai_H : Type := (Nat → Nat → Nat → Int32) × (Nat → Nat → Nat → Int64)
abbrev ai_O : Type := Option ai_V ⊕ Nat
abbrev ai_A : Type := ai_O × ai_Z × ai_H
def ai_gI (h : ai_H) (t i k : Nat) : Int32 := h.1 t i k
def ai_gJ (h : ai_H) (t i k : Nat) : Int64 := h.2 t i k
def ai_wI (h : ai_H) (t i k : Nat) (v : Int32) : ai_H := (fun a b c => if a = t ∧ b = i ∧ c = k then v else h.1 a b c, h.2)
def ai_wJ (h : ai_H) (t i k : Nat) (v : Int64) : ai_H := (h.1, fun a b c => if a = t ∧ b = i ∧ c = k then v else h.2 a b c)
def ai_wR (R : ai_R) (t i k : Nat) (v : Option (Nat × Nat)) : ai_R := fun a b c => if a = t ∧ b = i ∧ c = k then v else R a b c
def ai_zH (h : ai_H) (t i : Nat) : ai_H := (fun a b c => if a = t ∧ b = i then 0 else h.1 a b c, fun a b c => if a = t ∧ b = i then 0 else h.2 a b c)
def ai_zR (R : ai_R) (t i : Nat) : ai_R := fun a b c => if a = t ∧ b = i then none else R a b c
theorem ai_gI_wI (h : ai_H) (t i k t' i' k' : Nat) (v : Int32) : ai_gI (ai_wI h t i k v) t' i' k' = if t' = t ∧ i' = i ∧ k' = k then v else ai_gI h t' i' k' := rfl
theorem ai_gI_wJ (h : ai_H) (t i k t' i' k' : Nat) (v : Int64) : ai_gI (ai_wJ h t i k v) t' i' k' = ai_gI h t' i' k' := rfl
theorem ai_gJ_wJ (h : ai_H) (t i k t' i' k' : Nat) (v : Int64) : ai_gJ (ai_wJ h t i k v) t' i' k' = if t' = t ∧ i' = i ∧ k' = k then v else ai_gJ h t' i' k' := rfl
theorem ai_gJ_wI (h : ai_H) (t i k t' i' k' : Nat) (v : Int32) : ai_gJ (ai_wI h t i k v) t' i' k' = ai_gJ h t' i' k' := rfl
theorem ai_gI_zH (h : ai_H) (t i t' i' k' : Nat) : ai_gI (ai_zH h t i) t' i' k' = if t' = t ∧ i' = i then 0 else ai_gI h t' i' k' := rfl
theorem ai_gJ_zH (h : ai_H) (t i t' i' k' : Nat) : ai_gJ (ai_zH h t i) t' i' k' = if t' = t ∧ i' = i then 0 else ai_gJ h t' i' k' := rfl
/-- locals -/
def ai_ldi (ls : ai_L) (k : Nat) : Option Int32 := match ls[k]? with
  | some (some (Sum.inl x)) => some x
  | _ => none
def ai_ldj (ls : ai_L) (k : Nat) : Option Int64 := match ls[k]? with
  | some (some (Sum.inr (Sum.inl x))) => some x
  | _ => none
def ai_ldr (ls : ai_L) (k : Nat) : Option (Nat × Nat) := match ls[k]? with
  | some (some (Sum.inr (Sum.inr x))) => some x
  | _ => none
def ai_wide : Option ai_V → Bool
  | some (Sum.inr (Sum.inl _)) => true
  | _ => false
/-- clears the first half of a long that ends at the place k -/
def ai_cut : ai_L → Nat → ai_L
  | [], _ => []
  | a :: l, 0 => a :: l
  | a :: l, 1 => (if ai_wide a = true then none else a) :: l
  | a :: l, k + 2 => a :: ai_cut l (k + 1)
def ai_st1 (ls : ai_L) (k : Nat) (v : ai_V) : Option ai_L := if k < ls.length then some ((ai_cut ls k).set k (some v)) else none
def ai_st2 (ls : ai_L) (k : Nat) (v : ai_V) : Option ai_L := if k + 1 < ls.length then some (((ai_cut ls k).set k (some v)).set (k + 1) none) else none
/-- an index within a length -/
def ai_ix (x : Int32) (n : Nat) : Option Nat := if 0 ≤ x.toInt ∧ x.toInt < (n : Int) then some x.toInt.toNat else none
theorem ai_ix_nI {j n : Nat} (h : j < n) (hn : n < 2 ^ 31) : ai_ix (nI j) n = some j := by
  unfold ai_ix
  rw [nI_toInt (by omega), if_pos ⟨by omega, by omega⟩]
  simp
theorem ai_ix_in {x : Int32} {n j : Nat} (h : ai_ix x n = some j) : vp_in x n ∧ x.toNatClampNeg = j ∧ j < n := by
  unfold ai_ix at h
  split at h
  · rename_i hh
    cases h
    refine ⟨vp_in_iff.mpr hh, ?_, by omega⟩
    rfl
  · cases h
