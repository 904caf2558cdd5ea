/-! out of the class's rows of whole, over the cells of this claim -/
theorem sf_4m1 {s : Nat} (hs : s < 3) : ¬ nI (4 + s) = -1 := sf_m1 (by omega)
theorem pt_slot {x : ai_H} {i s : Nat} (hs : s < 3) : ai_pty x i (nI s) = nI (4 + s) := by
  unfold ai_pty
  rw [if_neg (sf_m1 (by omega))]
  exact nI_add 4 s
theorem pt_none {x : ai_H} {i : Nat} : ai_pty x i (-1) = ai_gI x 14 i 0 := if_pos rfl
theorem sum_eq {c c' : Nat → Prop} [DecidablePred c] [DecidablePred c'] {v v' : Nat → Int64} : ∀ {n : Nat}, (∀ i, i < n → (c i ↔ c' i) ∧ v i = v' i) → ai_sum c v n = ai_sum c' v' n
  | 0, _ => rfl
  | n + 1, h => by
    obtain ⟨h1, h2⟩ := h n (by omega)
    unfold ai_sum
    rw [sum_eq fun i hi => h i (by omega), h2]
    by_cases g : c n
    · rw [if_pos g, if_pos (h1.mp g)]
    · rw [if_neg g, if_neg (fun q => g (h1.mpr q))]
theorem tot_eq {f g : Nat → Int64} : ∀ {n : Nat}, (∀ i, i < n → f i = g i) → ai_tot f n = ai_tot g n
  | 0, _ => rfl
  | n + 1, h => by
    unfold ai_tot
    rw [h n (by omega), tot_eq fun i hi => h i (by omega)]
theorem tot_add (f g : Nat → Int64) : ∀ n, ai_tot (fun i => f i + g i) n = ai_tot f n + ai_tot g n
  | 0 => rfl
  | n + 1 => by
    unfold ai_tot
    rw [tot_add f g n]
    ac_rfl
theorem tot_one {b : Nat} {v : Int64} : ∀ n, ai_tot (fun i => if i = b then v else 0) n = if b < n then v else 0
  | 0 => rfl
  | n + 1 => by
    unfold ai_tot
    rw [tot_one n]
    by_cases h : n = b
    · subst h
      rw [if_neg (Nat.lt_irrefl _), if_pos rfl, if_pos (by omega), Int64.zero_add]
    · rw [if_neg h, Int64.add_zero]
      by_cases g : b < n
      · rw [if_pos g, if_pos (by omega)]
      · rw [if_neg g, if_neg (by omega)]
theorem tot_z : ∀ n, ai_tot (fun _ => 0) n = 0
  | 0 => rfl
  | n + 1 => by
    unfold ai_tot
    rw [tot_z n]
    rfl
