/-! What the class's cells and the reference's have in common between two calls -/
/-- how many of the first n are 0, are not 0 -/
def ai_cz (f : Nat → Int32) : Nat → Nat
  | 0 => 0
  | n + 1 => if f n = 0 then ai_cz f n + 1 else ai_cz f n
def ai_cw (f : Nat → Int32) : Nat → Nat
  | 0 => 0
  | n + 1 => if f n = 0 then ai_cw f n else ai_cw f n + 1
/-- what a journal's first n rows took from x -/
def ai_tkf (f g : Nat → Int32) (x : Int32) : Nat → Int32
  | 0 => 0
  | n + 1 => if f n = x then ai_tkf f g x n + g n else ai_tkf f g x n
theorem ai_tko_f (h : ai_H) (x : Int32) : ∀ n, ai_tko h x n = ai_tkf (fun j => ai_gI h 5 0 j) (fun j => ai_gI h 6 0 j) x n
  | 0 => rfl
  | n + 1 => by
    unfold ai_tko ai_tkf
    rw [ai_tko_f h x n]
theorem cz_le (f : Nat → Int32) : ∀ n, ai_cz f n ≤ n
  | 0 => Nat.le_refl _
  | n + 1 => by
    have := cz_le f n
    unfold ai_cz
    split <;> omega
theorem cw_le (f : Nat → Int32) : ∀ n, ai_cw f n ≤ n
  | 0 => Nat.le_refl _
  | n + 1 => by
    have := cw_le f n
    unfold ai_cw
    split <;> omega
theorem cz_eq {f g : Nat → Int32} : ∀ {n : Nat}, (∀ i, i < n → f i = g i) → ai_cz f n = ai_cz g n
  | 0, _ => rfl
  | n + 1, h => by
    unfold ai_cz
    rw [h n (by omega), cz_eq fun i hi => h i (by omega)]
theorem cw_eq {f g : Nat → Int32} : ∀ {n : Nat}, (∀ i, i < n → f i = g i) → ai_cw f n = ai_cw g n
  | 0, _ => rfl
  | n + 1, h => by
    unfold ai_cw
    rw [h n (by omega), cw_eq fun i hi => h i (by omega)]
theorem tkf_eq {f g f' g' : Nat → Int32} {x : Int32} : ∀ {n : Nat}, (∀ i, i < n → f i = f' i ∧ g i = g' i) → ai_tkf f g x n = ai_tkf f' g' x n
  | 0, _ => rfl
  | n + 1, h => by
    unfold ai_tkf
    rw [(h n (by omega)).1, (h n (by omega)).2, tkf_eq fun i hi => h i (by omega)]
/-- one value becomes another -/
def ai_up {α : Type} (f : Nat → α) (i : Nat) (v : α) : Nat → α := fun j => if j = i then v else f j
theorem ai_up_at {α : Type} (f : Nat → α) (i : Nat) (v : α) : ai_up f i v i = v := if_pos rfl
theorem ai_up_ne {α : Type} (f : Nat → α) {i j : Nat} (v : α) (h : ¬ j = i) : ai_up f i v j = f j := if_neg h
theorem cz_up {f : Nat → Int32} {i : Nat} {v : Int32} : ∀ {n : Nat}, i < n → ¬ f i = 0 → ai_cz (ai_up f i v) n = ai_cz f n + (if v = 0 then 1 else 0)
  | 0, h, _ => absurd h (Nat.not_lt_zero _)
  | n + 1, h, hf => by
    unfold ai_cz
    by_cases e : i = n
    · subst e
      rw [ai_up_at, if_neg hf, cz_eq (g := f) fun j hj => ai_up_ne f v (by omega)]
      split <;> omega
    · rw [ai_up_ne f v (by omega : ¬ n = i), cz_up (by omega) hf]
      split <;> split <;> omega
theorem cw_up {f : Nat → Int32} {i : Nat} {v : Int32} : ∀ {n : Nat}, i < n → f i = 0 → ai_cw (ai_up f i v) n = ai_cw f n + (if v = 0 then 0 else 1)
  | 0, h, _ => absurd h (Nat.not_lt_zero _)
  | n + 1, h, hf => by
    unfold ai_cw
    by_cases e : i = n
    · subst e
      rw [ai_up_at, if_pos hf, cw_eq (g := f) fun j hj => ai_up_ne f v (by omega)]
      split <;> omega
    · rw [ai_up_ne f v (by omega : ¬ n = i), cw_up (by omega) hf]
      split <;> split <;> omega
theorem cw_dn {f : Nat → Int32} {i : Nat} : ∀ {n : Nat}, i < n → ¬ f i = 0 → ai_cw f n = ai_cw (ai_up f i 0) n + 1
  | 0, h, _ => absurd h (Nat.not_lt_zero _)
  | n + 1, h, hf => by
    unfold ai_cw
    by_cases e : i = n
    · subst e
      rw [ai_up_at, if_neg hf, if_pos rfl, cw_eq (f := ai_up f i 0) (g := f) fun j hj => ai_up_ne f 0 (by omega)]
    · rw [ai_up_ne f 0 (by omega : ¬ n = i), cw_dn (by omega) hf]
      split <;> omega
theorem tkf_add {f g : Nat → Int32} {x a b : Int32} {J : Nat} : ai_tkf (ai_up f J a) (ai_up g J b) x (J + 1) = if a = x then ai_tkf f g x J + b else ai_tkf f g x J := by
  have e : ai_tkf (ai_up f J a) (ai_up g J b) x J = ai_tkf f g x J := tkf_eq fun i hi => ⟨ai_up_ne f a (by omega), ai_up_ne g b (by omega)⟩
  show (if ai_up f J a J = x then ai_tkf (ai_up f J a) (ai_up g J b) x J + ai_up g J b J else ai_tkf (ai_up f J a) (ai_up g J b) x J) = _
  rw [ai_up_at, ai_up_at, e]
/-! the parts of it -/
def rl_A (n n' w w' t t' d d' : Int32) (N W T : Nat) : Prop := n = nI N ∧ n' = nI N ∧ N ≤ 40 ∧ w = nI W ∧ w' = nI W ∧ W ≤ 30 ∧ t = nI T ∧ t' = nI T ∧ d = d'
/-- sellers, buyers: numbers below n -/
def rl_B (N n : Nat) (f g : Nat → Int32) : Prop := ∀ i, i < N → ∃ a, a < n ∧ f i = nI a ∧ g i = nI a
/-- cents -/
def rl_O (N : Nat) (f g : Nat → Int32) : Prop := ∀ i, i < N → ∃ q, q ≤ 1000000 ∧ f i = nI q ∧ g i = nI q
def rl_E {α : Type} (N : Nat) (f g : Nat → α) : Prop := ∀ i, i < N → f i = g i
def rl_D (N : Nat) (f g : Nat → Int32) : Prop := ∀ i, i < N → f i = g i ∧ (g i = 0 ∨ g i = 1)
/-- one assignment -/
def rl_c (T : Nat) (w a n g st a' n' g' : Int32) : Prop := (st = 0 ∧ w = 0 ∧ a = 0 ∧ n = 0 ∧ g = 0 ∧ g' = 0) ∨ (st = 1 ∧ w = 1 ∧ (∃ q, 0 < q ∧ q ≤ T ∧ a = nI q ∧ a' = nI q) ∧ (∃ q, q ≤ T ∧ n = nI q ∧ n' = nI q) ∧ (∃ q, q ≤ T ∧ g = nI q ∧ g' = nI q)) ∨ (st = 2 ∧ w = 1 ∧ a = 0 ∧ n = 0 ∧ g = 0)
def rl_C (T : Nat) (f15 f16 f17 f18 : Nat → Nat → Int32) (g29 g30 g31 g32 : Nat → Int32) : Prop := ∀ i s, i < 40 → s < 3 → rl_c T (f15 i s) (f16 i s) (f17 i s) (f18 i s) (g29 (3 * i + s)) (g30 (3 * i + s)) (g31 (3 * i + s)) (g32 (3 * i + s))
/-- wrong payments: mended or not -/
def rl_M (W : Nat) (f g : Nat → Int32) : Prop := (∀ w, w < W → f w = g w ∧ (f w = 0 ∨ f w = 1)) ∧ ∀ w, W ≤ w → w < 30 → f w = 0
/-- tables by a factor's slot and a column -/
def rl_K {α : Type} (n : Nat) (f : Nat → Nat → α) (g : Nat → α) : Prop := ∀ s b, s < 3 → b < n → f s b = g (n * s + b)
/-- the pool -/
def rl_h (p q s c u v w : Int32) : Prop := (u = -1 ∧ p = 0 ∧ q = 0 ∧ w = 0) ∨ (∃ j, j < 3 ∧ u = nI (4 + j) ∧ p = 1 ∧ s = nI j ∧ q = w ∧ (w = 0 ∨ w = 1) ∧ c = v)
def rl_H (N : Nat) (f10 f11 f12 f13 g45 g46 g47 : Nat → Int32) : Prop := (∀ i, i < N → rl_h (f10 i) (f11 i) (f12 i) (f13 i) (g45 i) (g46 i) (g47 i)) ∧ ∀ i, N ≤ i → i < 40 → f10 i = 0 ∧ f11 i = 0 ∧ g47 i = 0
def rl_Q (N : Nat) (c : Int32) (g47 : Nat → Int32) (e e' b b' : Int64) : Prop := c = nI (ai_cw g47 N) ∧ e = e' ∧ b = b'
def rl_J (N W C : Nat) (c : Int32) (f g am ow me : Nat → Int32) : Prop := ∃ J, J ≤ C + ai_cz ow N + ai_cw me W ∧ c = nI J ∧ (∀ j, j < J → ∃ i, i < N ∧ f j = nI i) ∧ ∀ i, i < N → am i - ai_tkf f g (nI i) J = ow i
def rl (x m : ai_H) (N W T C : Nat) : Prop :=
  rl_A (ai_gI x 0 0 1) (ai_gI m 23 0 1) (ai_gI x 0 0 3) (ai_gI m 23 0 14) (ai_gI x 0 0 12) (ai_gI m 23 0 11) (ai_gI x 0 0 11) (ai_gI m 23 0 0) N W T ∧
  rl_B N 4 (fun i => ai_gI x 14 i 0) (fun i => ai_gI m 24 0 i) ∧
  rl_B N 5 (fun i => ai_gI x 14 i 1) (fun i => ai_gI m 25 0 i) ∧
  rl_O N (fun i => ai_gI x 14 i 3) (fun i => ai_gI m 26 0 i) ∧
  rl_E N (fun i => ai_gI x 14 i 4) (fun i => ai_gI m 27 0 i) ∧
  rl_D 40 (fun i => ai_gI x 14 i 5) (fun i => ai_gI m 28 0 i) ∧
  rl_C T (fun i s => ai_gI x 15 i s) (fun i s => ai_gI x 16 i s) (fun i s => ai_gI x 17 i s) (fun i s => ai_gI x 18 i s) (fun j => ai_gI m 29 0 j) (fun j => ai_gI m 30 0 j) (fun j => ai_gI m 31 0 j) (fun j => ai_gI m 32 0 j) ∧
  rl_E 7 (fun p => ai_gJ x 10 0 p) (fun p => ai_gJ m 33 0 p) ∧
  rl_E 5 (fun p => ai_gJ x 11 0 p) (fun p => ai_gJ m 34 0 p) ∧
  rl_B W N (fun w => ai_gI x 19 w 0) (fun w => ai_gI m 35 0 w) ∧
  rl_B W 7 (fun w => ai_gI x 19 w 1) (fun w => ai_gI m 36 0 w) ∧
  rl_O W (fun w => ai_gI x 19 w 2) (fun w => ai_gI m 37 0 w) ∧
  rl_M W (fun w => ai_gI x 19 w 3) (fun w => ai_gI m 38 0 w) ∧
  rl_E 3 (fun s => ai_gI x 20 s 0) (fun s => ai_gI m 39 0 s) ∧
  rl_E 3 (fun s => ai_gI x 20 s 1) (fun s => ai_gI m 40 0 s) ∧
  rl_E 3 (fun s => ai_gI x 20 s 2) (fun s => ai_gI m 41 0 s) ∧
  rl_K 5 (fun s b => ai_gI x 21 s b) (fun j => ai_gI m 42 0 j) ∧
  rl_K 4 (fun s a => ai_gJ x 22 s a) (fun j => ai_gJ m 43 0 j) ∧
  rl_E 4 (fun a => ai_gI x 12 0 a) (fun a => ai_gI m 44 0 a) ∧
  rl_H N (fun i => ai_gI x 14 i 10) (fun i => ai_gI x 14 i 11) (fun i => ai_gI x 14 i 12) (fun i => ai_gI x 14 i 13) (fun i => ai_gI m 45 0 i) (fun i => ai_gI m 46 0 i) (fun i => ai_gI m 47 0 i) ∧
  rl_Q N (ai_gI x 0 0 13) (fun i => ai_gI m 47 0 i) (ai_gJ x 0 0 14) (ai_gJ m 23 0 28) (ai_gJ x 0 0 15) (ai_gJ m 23 0 29) ∧
  rl_J N W C (ai_gI x 4 0 2) (fun j => ai_gI x 5 0 j) (fun j => ai_gI x 6 0 j) (fun i => ai_gI x 14 i 2) (fun i => ai_gI x 14 i 3) (fun w => ai_gI x 19 w 3)
def rl_I (xs : Nat → Int32) (C : Nat) (h : ai_H) : Prop := (∀ j, ai_gI h 99 0 j = xs j) ∧ ∃ N W T, T ≤ C ∧ rl h h N W T C
theorem rl_J_mono {N W C C' : Nat} {c : Int32} {f g am ow me : Nat → Int32} (h : rl_J N W C c f g am ow me) (hC : C ≤ C') : rl_J N W C' c f g am ow me := by
  obtain ⟨J, h1, h2⟩ := h
  exact ⟨J, by omega, h2⟩
theorem rl_mono {x m : ai_H} {N W T C C' : Nat} (h : rl x m N W T C) (hC : C ≤ C') : rl x m N W T C' := by
  obtain ⟨h1, h2, h3, h4, h5, h6, h7, h8, h9, h10, h11, h12, h13, h14, h15, h16, h17, h18, h19, h20, h21, h22⟩ := h
  exact ⟨h1, h2, h3, h4, h5, h6, h7, h8, h9, h10, h11, h12, h13, h14, h15, h16, h17, h18, h19, h20, h21, rl_J_mono h22 hC⟩
theorem rl_I_mono {xs : Nat → Int32} {C C' : Nat} {h : ai_H} (I : rl_I xs C h) (hC : C ≤ C') : rl_I xs C' h := by
  obtain ⟨h1, N, W, T, h2, h3⟩ := I
  exact ⟨h1, N, W, T, by omega, rl_mono h3 hC⟩
/-- the same numbers on the class's side (but its scratch), on the reference's (but its scratch and what was thrown) -/
def ag_x (x y : ai_H) : Prop := ∀ t, (t < 7 ∨ (9 < t ∧ t < 13) ∨ (13 < t ∧ t < 23)) → ∀ i k, ai_gI y t i k = ai_gI x t i k ∧ ai_gJ y t i k = ai_gJ x t i k
def ag_m (x y : ai_H) : Prop := ∀ t, 23 ≤ t → t < 48 → ∀ i k, (t = 23 → ¬ k = 30 ∧ ¬ k = 33) → ai_gI y t i k = ai_gI x t i k ∧ ai_gJ y t i k = ai_gJ x t i k
theorem rl_ag {x m x' m' : ai_H} {N W T C : Nat} (hx : ag_x x x') (hm : ag_m m m') (h : rl x m N W T C) : rl x' m' N W T C := by
  have a : ∀ t, (t < 7 ∨ (9 < t ∧ t < 13) ∨ (13 < t ∧ t < 23)) → ∀ i k, ai_gI x' t i k = ai_gI x t i k := fun t ht i k => (hx t ht i k).1
  have b : ∀ t, (t < 7 ∨ (9 < t ∧ t < 13) ∨ (13 < t ∧ t < 23)) → ∀ i k, ai_gJ x' t i k = ai_gJ x t i k := fun t ht i k => (hx t ht i k).2
  have c : ∀ t, 23 < t → t < 48 → ∀ i k, ai_gI m' t i k = ai_gI m t i k := fun t h1 h2 i k => (hm t (by omega) h2 i k (by omega)).1
  have d : ∀ t, 23 < t → t < 48 → ∀ i k, ai_gJ m' t i k = ai_gJ m t i k := fun t h1 h2 i k => (hm t (by omega) h2 i k (by omega)).2
  have e : ∀ k, ¬ k = 30 ∧ ¬ k = 33 → ai_gI m' 23 0 k = ai_gI m 23 0 k := fun k hk => (hm 23 (by omega) (by omega) 0 k (fun _ => hk)).1
  have f : ∀ k, ¬ k = 30 ∧ ¬ k = 33 → ai_gJ m' 23 0 k = ai_gJ m 23 0 k := fun k hk => (hm 23 (by omega) (by omega) 0 k (fun _ => hk)).2
  unfold rl at h ⊢
  rw [e 1 (by decide), e 14 (by decide), e 11 (by decide), e 0 (by decide), f 28 (by decide), f 29 (by decide), a 0 (by decide), a 0 (by decide), a 0 (by decide), a 0 (by decide), a 0 (by decide), b 0 (by decide), b 0 (by decide), a 4 (by decide)]
  simp only [a 14 (by decide), a 15 (by decide), a 16 (by decide), a 17 (by decide), a 18 (by decide), b 10 (by decide), b 11 (by decide), a 19 (by decide), a 20 (by decide), a 21 (by decide), b 22 (by decide), a 12 (by decide), a 5 (by decide), a 6 (by decide), c 24 (by decide) (by decide), c 25 (by decide) (by decide), c 26 (by decide) (by decide), c 27 (by decide) (by decide), c 28 (by decide) (by decide), c 29 (by decide) (by decide), c 30 (by decide) (by decide), c 31 (by decide) (by decide), c 32 (by decide) (by decide), d 33 (by decide) (by decide), d 34 (by decide) (by decide), c 35 (by decide) (by decide), c 36 (by decide) (by decide), c 37 (by decide) (by decide), c 38 (by decide) (by decide), c 39 (by decide) (by decide), c 40 (by decide) (by decide), c 41 (by decide) (by decide), c 42 (by decide) (by decide), d 43 (by decide) (by decide), c 44 (by decide) (by decide), c 45 (by decide) (by decide), c 46 (by decide) (by decide), c 47 (by decide) (by decide)]
  exact h
theorem ag_x_rf (x : ai_H) : ag_x x x := fun _ _ _ _ => ⟨rfl, rfl⟩
theorem ag_m_rf (x : ai_H) : ag_m x x := fun _ _ _ _ _ _ => ⟨rfl, rfl⟩
theorem ag_x_tr {x y z : ai_H} (a : ag_x x y) (b : ag_x y z) : ag_x x z := fun t ht i k => ⟨(b t ht i k).1.trans (a t ht i k).1, (b t ht i k).2.trans (a t ht i k).2⟩
theorem ag_m_tr {x y z : ai_H} (a : ag_m x y) (b : ag_m y z) : ag_m x z := fun t ht hu i k hk => ⟨(b t ht hu i k hk).1.trans (a t ht hu i k hk).1, (b t ht hu i k hk).2.trans (a t ht hu i k hk).2⟩
theorem ag_x_I {x y : ai_H} {t i k : Nat} {v : Int32} (ht : 23 ≤ t ∨ t = 13 ∨ (7 ≤ t ∧ t ≤ 9)) (a : ag_x x y) : ag_x x (ai_wI y t i k v) := fun t' ht' i' k' => ⟨by rw [ai_gI_wI, if_neg (by omega)]; exact (a t' ht' i' k').1, by rw [ai_gJ_wI]; exact (a t' ht' i' k').2⟩
theorem ag_x_J {x y : ai_H} {t i k : Nat} {v : Int64} (ht : 23 ≤ t ∨ t = 13) (a : ag_x x y) : ag_x x (ai_wJ y t i k v) := fun t' ht' i' k' => ⟨by rw [ai_gI_wJ]; exact (a t' ht' i' k').1, by rw [ai_gJ_wJ, if_neg (by omega)]; exact (a t' ht' i' k').2⟩
theorem ag_m_I {x y : ai_H} {t i k : Nat} {v : Int32} (ht : t < 23 ∨ 48 ≤ t ∨ (t = 23 ∧ (k = 30 ∨ k = 33))) (a : ag_m x y) : ag_m x (ai_wI y t i k v) := fun t' h1 h2 i' k' hk => ⟨by rw [ai_gI_wI, if_neg (by omega)]; exact (a t' h1 h2 i' k' hk).1, by rw [ai_gJ_wI]; exact (a t' h1 h2 i' k' hk).2⟩
theorem ag_m_J {x y : ai_H} {t i k : Nat} {v : Int64} (ht : t < 23 ∨ 48 ≤ t) (a : ag_m x y) : ag_m x (ai_wJ y t i k v) := fun t' h1 h2 i' k' hk => ⟨by rw [ai_gI_wJ]; exact (a t' h1 h2 i' k' hk).1, by rw [ai_gJ_wJ, if_neg (by omega)]; exact (a t' h1 h2 i' k' hk).2⟩
theorem ag_x_13 (x : ai_H) (f : Nat → Int64) : ∀ n, ag_x x (ai_h13 x f n)
  | 0 => ag_x_rf x
  | n + 1 => ag_x_J (Or.inr rfl) (ag_x_13 x f n)
theorem ag_m_13 (x : ai_H) (f : Nat → Int64) : ∀ n, ag_m x (ai_h13 x f n)
  | 0 => ag_m_rf x
  | n + 1 => ag_m_J (Or.inl (by decide)) (ag_m_13 x f n)
