/-! out of the class's rows of whole, over the cells of this claim -/
theorem rl_J_add {N W C' i j : Nat} {f g am ow me : Nat → Int32} {v b : Int32} (hf : ∀ q, q < j → ∃ i, i < N ∧ f q = nI i) (ha : ∀ i, i < N → am i - ai_tkf f g (nI i) j = ow i) (hN : N ≤ 40) (hi : i < N) (hv : v = ow i - b) (hC : j + 1 ≤ C' + ai_cz (ai_up ow i v) N + ai_cw me W) : rl_J N W C' (nI (j + 1)) (ai_up f j (nI i)) (ai_up g j b) am (ai_up ow i v) me := by
  refine ⟨j + 1, hC, rfl, fun q hq => ?_, fun a ha' => ?_⟩
  · by_cases e : q = j
    · subst e
      exact ⟨i, hi, ai_up_at _ _ _⟩
    · rw [ai_up_ne _ _ e]
      exact hf q (by omega)
  · rw [tkf_add]
    by_cases e : a = i
    · subst e
      rw [if_pos rfl, ai_up_at, hv, ← ha a ha']
      rw [Int32.sub_sub]
    · rw [if_neg (fun q => e ((nI_eq (by omega) (by omega)).mp q).symm), ai_up_ne _ _ e]
      exact ha a ha'
