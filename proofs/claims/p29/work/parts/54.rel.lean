/-! out of the class's rows of whole, over the cells of this claim -/
/-- how many of the first n are 0, are not 0 -/
def ai_cz (f : Nat → Int32) : Nat → Nat
  | 0 => 0
  | n + 1 => if f n = 0 then ai_cz f n + 1 else ai_cz f n
def ai_cw (f : Nat → Int32) : Nat → Nat
  | 0 => 0
  | n + 1 => if f n = 0 then ai_cw f n else ai_cw f n + 1
/-- what a journal's first n rows took from x -/
def ai_tkf (f g : Nat → Int32) (x : Int32) : Nat → Int32
  | 0 => 0
  | n + 1 => if f n = x then ai_tkf f g x n + g n else ai_tkf f g x n
theorem ai_tko_f (h : ai_H) (x : Int32) : ∀ n, ai_tko h x n = ai_tkf (fun j => ai_gI h 5 0 j) (fun j => ai_gI h 6 0 j) x n
  | 0 => rfl
  | n + 1 => by
    unfold ai_tko ai_tkf
    rw [ai_tko_f h x n]
theorem cz_le (f : Nat → Int32) : ∀ n, ai_cz f n ≤ n
  | 0 => Nat.le_refl _
  | n + 1 => by
    have := cz_le f n
    unfold ai_cz
    split <;> omega
theorem cw_le (f : Nat → Int32) : ∀ n, ai_cw f n ≤ n
  | 0 => Nat.le_refl _
  | n + 1 => by
    have := cw_le f n
    unfold ai_cw
    split <;> omega
theorem cz_eq {f g : Nat → Int32} : ∀ {n : Nat}, (∀ i, i < n → f i = g i) → ai_cz f n = ai_cz g n
  | 0, _ => rfl
  | n + 1, h => by
    unfold ai_cz
    rw [h n (by omega), cz_eq fun i hi => h i (by omega)]
theorem cw_eq {f g : Nat → Int32} : ∀ {n : Nat}, (∀ i, i < n → f i = g i) → ai_cw f n = ai_cw g n
  | 0, _ => rfl
  | n + 1, h => by
    unfold ai_cw
    rw [h n (by omega), cw_eq fun i hi => h i (by omega)]
theorem tkf_eq {f g f' g' : Nat → Int32} {x : Int32} : ∀ {n : Nat}, (∀ i, i < n → f i = f' i ∧ g i = g' i) → ai_tkf f g x n = ai_tkf f' g' x n
  | 0, _ => rfl
  | n + 1, h => by
    unfold ai_tkf
    rw [(h n (by omega)).1, (h n (by omega)).2, tkf_eq fun i hi => h i (by omega)]
/-- one value becomes another -/
def ai_up {α : Type} (f : Nat → α) (i : Nat) (v : α) : Nat → α := fun j => if j = i then v else f j
theorem ai_up_at {α : Type} (f : Nat → α) (i : Nat) (v : α) : ai_up f i v i = v := if_pos rfl
theorem ai_up_ne {α : Type} (f : Nat → α) {i j : Nat} (v : α) (h : ¬ j = i) : ai_up f i v j = f j := if_neg h
theorem cz_up {f : Nat → Int32} {i : Nat} {v : Int32} : ∀ {n : Nat}, i < n → ¬ f i = 0 → ai_cz (ai_up f i v) n = ai_cz f n + (if v = 0 then 1 else 0)
  | 0, h, _ => absurd h (Nat.not_lt_zero _)
  | n + 1, h, hf => by
    unfold ai_cz
    by_cases e : i = n
    · subst e
      rw [ai_up_at, if_neg hf, cz_eq (g := f) fun j hj => ai_up_ne f v (by omega)]
      split <;> omega
    · rw [ai_up_ne f v (by omega : ¬ n = i), cz_up (by omega) hf]
      split <;> split <;> omega
theorem cw_up {f : Nat → Int32} {i : Nat} {v : Int32} : ∀ {n : Nat}, i < n → f i = 0 → ai_cw (ai_up f i v) n = ai_cw f n + (if v = 0 then 0 else 1)
  | 0, h, _ => absurd h (Nat.not_lt_zero _)
  | n + 1, h, hf => by
    unfold ai_cw
    by_cases e : i = n
    · subst e
      rw [ai_up_at, if_pos hf, cw_eq (g := f) fun j hj => ai_up_ne f v (by omega)]
      split <;> omega
    · rw [ai_up_ne f v (by omega : ¬ n = i), cw_up (by omega) hf]
      split <;> split <;> omega
theorem cw_dn {f : Nat → Int32} {i : Nat} : ∀ {n : Nat}, i < n → ¬ f i = 0 → ai_cw f n = ai_cw (ai_up f i 0) n + 1
  | 0, h, _ => absurd h (Nat.not_lt_zero _)
  | n + 1, h, hf => by
    unfold ai_cw
    by_cases e : i = n
    · subst e
      rw [ai_up_at, if_neg hf, if_pos rfl, cw_eq (f := ai_up f i 0) (g := f) fun j hj => ai_up_ne f 0 (by omega)]
    · rw [ai_up_ne f 0 (by omega : ¬ n = i), cw_dn (by omega) hf]
      split <;> omega
theorem tkf_add {f g : Nat → Int32} {x a b : Int32} {J : Nat} : ai_tkf (ai_up f J a) (ai_up g J b) x (J + 1) = if a = x then ai_tkf f g x J + b else ai_tkf f g x J := by
  have e : ai_tkf (ai_up f J a) (ai_up g J b) x J = ai_tkf f g x J := tkf_eq fun i hi => ⟨ai_up_ne f a (by omega), ai_up_ne g b (by omega)⟩
  show (if ai_up f J a J = x then ai_tkf (ai_up f J a) (ai_up g J b) x J + ai_up g J b J else ai_tkf (ai_up f J a) (ai_up g J b) x J) = _
  rw [ai_up_at, ai_up_at, e]
/-- wrong payments: mended or not -/
def rl_M (W : Nat) (f g : Nat → Int32) : Prop := (∀ w, w < W → f w = g w ∧ (f w = 0 ∨ f w = 1)) ∧ ∀ w, W ≤ w → w < 30 → f w = 0
def rl_J (N W C : Nat) (c : Int32) (f g am ow me : Nat → Int32) : Prop := ∃ J, J ≤ C + ai_cz ow N + ai_cw me W ∧ c = nI J ∧ (∀ j, j < J → ∃ i, i < N ∧ f j = nI i) ∧ ∀ i, i < N → am i - ai_tkf f g (nI i) J = ow i
theorem rl_J_mono {N W C C' : Nat} {c : Int32} {f g am ow me : Nat → Int32} (h : rl_J N W C c f g am ow me) (hC : C ≤ C') : rl_J N W C' c f g am ow me := by
  obtain ⟨J, h1, h2⟩ := h
  exact ⟨J, by omega, h2⟩
/-- the same numbers on the class's side (but its scratch), on the reference's (but its scratch and what was thrown) -/
def ag_x (x y : ai_H) : Prop := ∀ t, (t < 7 ∨ (9 < t ∧ t < 13) ∨ (13 < t ∧ t < 23)) → ∀ i k, ai_gI y t i k = ai_gI x t i k ∧ ai_gJ y t i k = ai_gJ x t i k
theorem ag_x_rf (x : ai_H) : ag_x x x := fun _ _ _ _ => ⟨rfl, rfl⟩
theorem ag_x_tr {x y z : ai_H} (a : ag_x x y) (b : ag_x y z) : ag_x x z := fun t ht i k => ⟨(b t ht i k).1.trans (a t ht i k).1, (b t ht i k).2.trans (a t ht i k).2⟩
theorem ag_x_I {x y : ai_H} {t i k : Nat} {v : Int32} (ht : 23 ≤ t ∨ t = 13 ∨ (7 ≤ t ∧ t ≤ 9)) (a : ag_x x y) : ag_x x (ai_wI y t i k v) := fun t' ht' i' k' => ⟨by rw [ai_gI_wI, if_neg (by omega)]; exact (a t' ht' i' k').1, by rw [ai_gJ_wI]; exact (a t' ht' i' k').2⟩
theorem ag_x_J {x y : ai_H} {t i k : Nat} {v : Int64} (ht : 23 ≤ t ∨ t = 13) (a : ag_x x y) : ag_x x (ai_wJ y t i k v) := fun t' ht' i' k' => ⟨by rw [ai_gI_wJ]; exact (a t' ht' i' k').1, by rw [ai_gJ_wJ, if_neg (by omega)]; exact (a t' ht' i' k').2⟩
theorem ag_x_13 (x : ai_H) (f : Nat → Int64) : ∀ n, ag_x x (ai_h13 x f n)
  | 0 => ag_x_rf x
  | n + 1 => ag_x_J (Or.inr rfl) (ag_x_13 x f n)
