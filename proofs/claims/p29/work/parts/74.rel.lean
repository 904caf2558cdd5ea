/-! What the class's cells and the law's arrays have in common between two turns -/
def rl_A (n n' w w' t d d' : Int32) (N W T D : Nat) : Prop := n = nI N ∧ n' = nI N ∧ N ≤ 10 ∧ w = nI W ∧ w' = nI W ∧ W ≤ 30 ∧ t = nI T ∧ d = nI D ∧ d' = nI D ∧ D ≤ 2940
/-- numbers below n -/
def rl_B (N n : Nat) (f g : Nat → Int32) : Prop := ∀ i, i < N → ∃ a, a < n ∧ f i = nI a ∧ g i = nI a
def rl_E {α : Type} (N : Nat) (f g : Nat → α) : Prop := ∀ i, i < N → f i = g i
/-- disputed, and to whom it was assigned -/
def rl_F (fd : Nat → Int32) (fw : Nat → Nat → Int32) (g : Nat → Int32) : Prop := ∀ i, i < 10 → ∃ e, e < 16 ∧ g i = nI e ∧ fd i = nI (e % 2) ∧ ∀ s, s < 3 → fw i s = nI (e / 2 ^ (s + 1) % 2)
/-- one row of factors -/
def rl_r (T : Nat) (v : Nat → Int32) (q : Int32) : Prop := ∃ a b c, a ≤ T ∧ b ≤ T ∧ c ≤ T ∧ v 0 = nI a ∧ v 1 = nI b ∧ v 2 = nI c ∧ q = nI (dg_en a b c) ∧ (a = b → a = 0) ∧ (a = c → a = 0) ∧ (b = c → b = 0)
def rl_R (T : Nat) (f15 f16 f17 f18 : Nat → Nat → Int32) (g0 g1 g2 : Nat → Int32) : Prop := ∀ i, i < 10 → rl_r T (f17 i) (g0 i) ∧ rl_r T (f18 i) (g1 i) ∧ rl_r T (f16 i) (g2 i) ∧ ∀ s, s < 3 → (f16 i s = 0 → f17 i s = 0 ∧ f18 i s = 0) ∧ (f15 i s = 0 → f16 i s = 0)
def rl_Z (f : Nat → Int64) : Prop := ai_tot f 12 = 0
/-- wrong payments -/
def rl_S (N W : Nat) (f0 f1 f2 f3 gw ga : Nat → Int32) : Prop := (∀ w, w < W → ∃ n p c e, n < N ∧ p < 7 ∧ c ≤ 5000 ∧ e ≤ 1 ∧ f0 w = nI n ∧ f1 w = nI p ∧ f2 w = nI c ∧ f3 w = nI e ∧ gw w = nI (n + 16 * p + 128 * e) ∧ ga w = nI c) ∧ ∀ w, W ≤ w → w < 30 → f3 w = 0
/-- tables by a factor's slot and a column -/
def rl_K {α : Type} (n : Nat) (f : Nat → Nat → α) (g : Nat → α) : Prop := ∀ s b, s < 3 → b < n → f s b = g (n * s + b)
def rl_G (f : Nat → Int32) (g : Int32) : Prop := ∃ e, e < 16 ∧ g = nI e ∧ ∀ a, a < 4 → f a = nI (e / 2 ^ a % 2)
/-- the pool -/
def rl_p (f10 f11 f12 f13 p0 p1 : Int32) : Prop := (p0 = 0 ∧ f10 = 0 ∧ f11 = 0) ∨ ∃ s e c, s < 3 ∧ e ≤ 1 ∧ c ≤ 5000 ∧ p0 = nI (20 + s + 8 * e) ∧ f10 = 1 ∧ f11 = nI e ∧ f12 = nI s ∧ f13 = nI c ∧ p1 = nI c
def rl_P (N : Nat) (f10 f11 f12 f13 p0 p1 : Nat → Int32) : Prop := (∀ i, i < 10 → rl_p (f10 i) (f11 i) (f12 i) (f13 i) (p0 i) (p1 i)) ∧ ∀ i, N ≤ i → i < 10 → p0 i = 0
def rl_Q (N C : Nat) (c : Int32) (f11 : Nat → Int32) (e b : Int64) (g4 g5 : Int32) : Prop := c = nI (ai_cw f11 N) ∧ ∃ E B, E ≤ 5000 * C ∧ B ≤ 50000 * C ∧ g4 = nI E ∧ g5 = nI B ∧ e = (nI E).toInt64 ∧ b = (nI B).toInt64
/-- columns of the law's rows -/
def li (c : Nat) (h : ai_H) (i : Nat) : Int32 := ai_gI h 23 0 (5 * i + c)
def lq (c : Nat) (h : ai_H) (i : Nat) : Int32 := ai_gI h 24 0 (3 * i + c)
def lf (c : Nat) (h : ai_H) (i : Nat) : Int32 := ai_gI h 27 0 (3 * i + c)
def lp (c : Nat) (h : ai_H) (i : Nat) : Int32 := ai_gI h 31 0 (2 * i + c)
def rl (x m : ai_H) (N W T D C : Nat) : Prop :=
  rl_A (ai_gI x 0 0 1) (ai_gI m 32 0 1) (ai_gI x 0 0 3) (ai_gI m 32 0 2) (ai_gI x 0 0 12) (ai_gI x 0 0 11) (ai_gI m 32 0 0) N W T D ∧
  rl_B N 4 (fun i => ai_gI x 14 i 0) (li 0 m) ∧
  rl_B N 5 (fun i => ai_gI x 14 i 1) (li 1 m) ∧
  rl_B N 5001 (fun i => ai_gI x 14 i 3) (li 2 m) ∧
  rl_B N 3001 (fun i => ai_gI x 14 i 4) (li 3 m) ∧
  rl_F (fun i => ai_gI x 14 i 5) (fun i s => ai_gI x 15 i s) (li 4 m) ∧
  rl_R T (fun i s => ai_gI x 15 i s) (fun i s => ai_gI x 16 i s) (fun i s => ai_gI x 17 i s) (fun i s => ai_gI x 18 i s) (lq 0 m) (lq 1 m) (lq 2 m) ∧
  rl_E 7 (fun p => ai_gJ x 10 0 p) (fun p => ai_gJ m 25 0 p) ∧
  rl_E 5 (fun p => ai_gJ x 11 0 p) (fun p => ai_gJ m 25 0 (7 + p)) ∧
  rl_Z (fun p => ai_gJ m 25 0 p) ∧
  rl_S N W (fun w => ai_gI x 19 w 0) (fun w => ai_gI x 19 w 1) (fun w => ai_gI x 19 w 2) (fun w => ai_gI x 19 w 3) (fun w => ai_gI m 29 0 w) (fun w => ai_gI m 30 0 w) ∧
  rl_E 3 (fun s => ai_gI x 20 s 0) (lf 0 m) ∧
  rl_E 3 (fun s => ai_gI x 20 s 1) (lf 1 m) ∧
  rl_E 3 (fun s => ai_gI x 20 s 2) (lf 2 m) ∧
  rl_K 5 (fun s b => ai_gI x 21 s b) (fun j => ai_gI m 28 0 j) ∧
  rl_K 4 (fun s a => ai_gJ x 22 s a) (fun j => ai_gJ m 26 0 j) ∧
  rl_G (fun a => ai_gI x 12 0 a) (ai_gI m 32 0 3) ∧
  rl_P N (fun i => ai_gI x 14 i 10) (fun i => ai_gI x 14 i 11) (fun i => ai_gI x 14 i 12) (fun i => ai_gI x 14 i 13) (lp 0 m) (lp 1 m) ∧
  rl_Q N C (ai_gI x 0 0 13) (fun i => ai_gI x 14 i 11) (ai_gJ x 0 0 14) (ai_gJ x 0 0 15) (ai_gI m 32 0 4) (ai_gI m 32 0 5) ∧
  rl_J N W C (ai_gI x 4 0 2) (fun j => ai_gI x 5 0 j) (fun j => ai_gI x 6 0 j) (fun i => ai_gI x 14 i 2) (fun i => ai_gI x 14 i 3) (fun w => ai_gI x 19 w 3)
theorem rl_Q_mono {N C C' : Nat} {c : Int32} {f : Nat → Int32} {e b : Int64} {g4 g5 : Int32} (h : rl_Q N C c f e b g4 g5) (hC : C ≤ C') : rl_Q N C' c f e b g4 g5 := by
  obtain ⟨h1, E, B, h2, h3, h4⟩ := h
  exact ⟨h1, E, B, by omega, by omega, h4⟩
theorem rl_mono {x m : ai_H} {N W T D C C' : Nat} (h : rl x m N W T D C) (hC : C ≤ C') : rl x m N W T D C' := by
  obtain ⟨h1, h2, h3, h4, h5, h6, h7, h8, h9, h10, h11, h12, h13, h14, h15, h16, h17, h18, h19, h20⟩ := h
  exact ⟨h1, h2, h3, h4, h5, h6, h7, h8, h9, h10, h11, h12, h13, h14, h15, h16, h17, h18, rl_Q_mono h19 hC, rl_J_mono h20 hC⟩
/-- nothing of the class was written; nothing of the law -/
def fm (x y : ai_H) : Prop := ∀ t, (t < 23 ∨ t = 99) → ∀ i k, ai_gI y t i k = ai_gI x t i k ∧ ai_gJ y t i k = ai_gJ x t i k
theorem fm_rf (x : ai_H) : fm x x := fun _ _ _ _ => ⟨rfl, rfl⟩
theorem fm_tr {x y z : ai_H} (a : fm x y) (b : fm y z) : fm x z := fun t ht i k => ⟨(b t ht i k).1.trans (a t ht i k).1, (b t ht i k).2.trans (a t ht i k).2⟩
theorem fm_I {x y : ai_H} {t i k : Nat} {v : Int32} (ht : 23 ≤ t ∧ t < 99) (a : fm x y) : fm x (ai_wI y t i k v) := fun t' ht' i' k' => ⟨by rw [ai_gI_wI, if_neg (by omega)]; exact (a t' ht' i' k').1, by rw [ai_gJ_wI]; exact (a t' ht' i' k').2⟩
theorem fm_J {x y : ai_H} {t i k : Nat} {v : Int64} (ht : 23 ≤ t ∧ t < 99) (a : fm x y) : fm x (ai_wJ y t i k v) := fun t' ht' i' k' => ⟨by rw [ai_gI_wJ]; exact (a t' ht' i' k').1, by rw [ai_gJ_wJ, if_neg (by omega)]; exact (a t' ht' i' k').2⟩
theorem fm_dq {x y : ai_H} (d : dq x y) : fm x y := fun t ht i k => d t (by omega) i k
theorem ag_fm {x y : ai_H} (d : fm x y) : ag_x x y := fun t ht i k => d t (by omega) i k
theorem fx_dq {x y : ai_H} (d : dq x y) : ∀ t, 23 ≤ t → t < 90 → ∀ i k, ai_gI y t i k = ai_gI x t i k ∧ ai_gJ y t i k = ai_gJ x t i k := fun t _ h2 i k => d t (by omega) i k
/-- the same numbers on the law's side -/
def ag_m (x y : ai_H) : Prop := ∀ t, 23 ≤ t → t < 33 → ∀ i k, ai_gI y t i k = ai_gI x t i k ∧ ai_gJ y t i k = ai_gJ x t i k
theorem ag_m_rf (x : ai_H) : ag_m x x := fun _ _ _ _ _ => ⟨rfl, rfl⟩
theorem ag_m_tr {x y z : ai_H} (a : ag_m x y) (b : ag_m y z) : ag_m x z := fun t ht hu i k => ⟨(b t ht hu i k).1.trans (a t ht hu i k).1, (b t ht hu i k).2.trans (a t ht hu i k).2⟩
theorem ag_m_fx {x y : ai_H} (d : fx x y) : ag_m x y := fun t ht _ i k => d t ht i k
theorem ag_m_dq {x y : ai_H} (d : dq x y) : ag_m x y := fun t _ h2 i k => d t (by omega) i k
theorem ag_x_dq {x y : ai_H} (d : dq x y) : ag_x x y := fun t ht i k => d t (by omega) i k
theorem rl_ag {x m x' m' : ai_H} {N W T D C : Nat} (hx : ag_x x x') (hm : ag_m m m') (h : rl x m N W T D C) : rl x' m' N W T D C := by
  have a : ∀ t, (t < 7 ∨ (9 < t ∧ t < 13) ∨ (13 < t ∧ t < 23)) → ∀ i k, ai_gI x' t i k = ai_gI x t i k := fun t ht i k => (hx t ht i k).1
  have b : ∀ t, (t < 7 ∨ (9 < t ∧ t < 13) ∨ (13 < t ∧ t < 23)) → ∀ i k, ai_gJ x' t i k = ai_gJ x t i k := fun t ht i k => (hx t ht i k).2
  have c : ∀ t, 23 ≤ t → t < 33 → ∀ i k, ai_gI m' t i k = ai_gI m t i k := fun t h1 h2 i k => (hm t h1 h2 i k).1
  have d : ∀ t, 23 ≤ t → t < 33 → ∀ i k, ai_gJ m' t i k = ai_gJ m t i k := fun t h1 h2 i k => (hm t h1 h2 i k).2
  have e23 : ∀ j, li j m' = li j m := fun j => funext fun i => c 23 (by decide) (by decide) 0 _
  have e24 : ∀ j, lq j m' = lq j m := fun j => funext fun i => c 24 (by decide) (by decide) 0 _
  have e27 : ∀ j, lf j m' = lf j m := fun j => funext fun i => c 27 (by decide) (by decide) 0 _
  have e31 : ∀ j, lp j m' = lp j m := fun j => funext fun i => c 31 (by decide) (by decide) 0 _
  unfold rl at h ⊢
  rw [c 32 (by decide) (by decide), c 32 (by decide) (by decide), c 32 (by decide) (by decide), c 32 (by decide) (by decide), c 32 (by decide) (by decide), c 32 (by decide) (by decide), a 0 (by decide), a 0 (by decide), a 0 (by decide), a 0 (by decide), a 0 (by decide), b 0 (by decide), b 0 (by decide), a 4 (by decide)]
  simp only [a 14 (by decide), a 15 (by decide), a 16 (by decide), a 17 (by decide), a 18 (by decide), b 10 (by decide), b 11 (by decide), a 19 (by decide), a 20 (by decide), a 21 (by decide), b 22 (by decide), a 12 (by decide), a 5 (by decide), a 6 (by decide), e23, e24, e27, e31, c 28 (by decide) (by decide), c 29 (by decide) (by decide), c 30 (by decide) (by decide), d 25 (by decide) (by decide), d 26 (by decide) (by decide)]
  exact h
/-! writes of the law, by columns -/
theorem li_up {h : ai_H} {n c : Nat} {v : Int32} {c' : Nat} (hc : c < 5) (hc' : c' < 5) : li c' (ai_wI h 23 0 (5 * n + c) v) = if c' = c then ai_up (li c h) n v else li c' h := by
  funext i
  unfold li ai_up
  rw [ai_gI_wI]
  by_cases e : c' = c
  · subst e
    rw [if_pos rfl]
    by_cases g : i = n
    · subst g
      rw [if_pos ⟨rfl, rfl, rfl⟩, if_pos rfl]
    · rw [if_neg (by omega), if_neg g]
  · rw [if_neg e, if_neg (by omega)]
theorem li_up0 {h : ai_H} {n : Nat} {v : Int32} {c' : Nat} (hc' : c' < 5) : li c' (ai_wI h 23 0 (5 * n) v) = if c' = 0 then ai_up (li 0 h) n v else li c' h := li_up (c := 0) (by decide) hc'
theorem lq_up {h : ai_H} {n c : Nat} {v : Int32} {c' : Nat} (hc : c < 3) (hc' : c' < 3) : lq c' (ai_wI h 24 0 (3 * n + c) v) = if c' = c then ai_up (lq c h) n v else lq c' h := by
  funext i
  unfold lq ai_up
  rw [ai_gI_wI]
  by_cases e : c' = c
  · subst e
    rw [if_pos rfl]
    by_cases g : i = n
    · subst g
      rw [if_pos ⟨rfl, rfl, rfl⟩, if_pos rfl]
    · rw [if_neg (by omega), if_neg g]
  · rw [if_neg e, if_neg (by omega)]
theorem lq_up0 {h : ai_H} {n : Nat} {v : Int32} {c' : Nat} (hc' : c' < 3) : lq c' (ai_wI h 24 0 (3 * n) v) = if c' = 0 then ai_up (lq 0 h) n v else lq c' h := lq_up (c := 0) (by decide) hc'
theorem lf_up {h : ai_H} {n c : Nat} {v : Int32} {c' : Nat} (hc : c < 3) (hc' : c' < 3) : lf c' (ai_wI h 27 0 (3 * n + c) v) = if c' = c then ai_up (lf c h) n v else lf c' h := by
  funext i
  unfold lf ai_up
  rw [ai_gI_wI]
  by_cases e : c' = c
  · subst e
    rw [if_pos rfl]
    by_cases g : i = n
    · subst g
      rw [if_pos ⟨rfl, rfl, rfl⟩, if_pos rfl]
    · rw [if_neg (by omega), if_neg g]
  · rw [if_neg e, if_neg (by omega)]
theorem lf_up0 {h : ai_H} {n : Nat} {v : Int32} {c' : Nat} (hc' : c' < 3) : lf c' (ai_wI h 27 0 (3 * n) v) = if c' = 0 then ai_up (lf 0 h) n v else lf c' h := lf_up (c := 0) (by decide) hc'
theorem lp_up {h : ai_H} {n c : Nat} {v : Int32} {c' : Nat} (hc : c < 2) (hc' : c' < 2) : lp c' (ai_wI h 31 0 (2 * n + c) v) = if c' = c then ai_up (lp c h) n v else lp c' h := by
  funext i
  unfold lp ai_up
  rw [ai_gI_wI]
  by_cases e : c' = c
  · subst e
    rw [if_pos rfl]
    by_cases g : i = n
    · subst g
      rw [if_pos ⟨rfl, rfl, rfl⟩, if_pos rfl]
    · rw [if_neg (by omega), if_neg g]
  · rw [if_neg e, if_neg (by omega)]
theorem lp_up0 {h : ai_H} {n : Nat} {v : Int32} {c' : Nat} (hc' : c' < 2) : lp c' (ai_wI h 31 0 (2 * n) v) = if c' = 0 then ai_up (lp 0 h) n v else lp c' h := lp_up (c := 0) (by decide) hc'
theorem li_I {h : ai_H} {t i k c : Nat} {v : Int32} (ht : ¬ 23 = t) : li c (ai_wI h t i k v) = li c h := by unfold li; rw [fI ht]
theorem lq_I {h : ai_H} {t i k c : Nat} {v : Int32} (ht : ¬ 24 = t) : lq c (ai_wI h t i k v) = lq c h := by unfold lq; rw [fI ht]
theorem lf_I {h : ai_H} {t i k c : Nat} {v : Int32} (ht : ¬ 27 = t) : lf c (ai_wI h t i k v) = lf c h := by unfold lf; rw [fI ht]
theorem lp_I {h : ai_H} {t i k c : Nat} {v : Int32} (ht : ¬ 31 = t) : lp c (ai_wI h t i k v) = lp c h := by unfold lp; rw [fI ht]
theorem li_J {h : ai_H} {t i k c : Nat} {v : Int64} : li c (ai_wJ h t i k v) = li c h := rfl
theorem lq_J {h : ai_H} {t i k c : Nat} {v : Int64} : lq c (ai_wJ h t i k v) = lq c h := rfl
theorem lf_J {h : ai_H} {t i k c : Nat} {v : Int64} : lf c (ai_wJ h t i k v) = lf c h := rfl
theorem lp_J {h : ai_H} {t i k c : Nat} {v : Int64} : lp c (ai_wJ h t i k v) = lp c h := rfl
/-! Owners -/
theorem r_fst {T : Nat} {v : Nat → Int32} {q : Int32} (R : rl_r T v q) (hT : T < 2 ^ 29) : ∃ d, d < 64 ∧ q = nI d ∧ (d = 0 → (ai_fst v 3).1 = -1) ∧ (0 < d → ∃ s, s < 3 ∧ d % 4 = s + 1 ∧ (ai_fst v 3).1 = nI s ∧ ¬ v s = 0) := by
  obtain ⟨a, b, c, ha, hb, hc, h0, h1, h2, hq, n1, n2, n3⟩ := R
  have e := en_fst (v := v) (a := a) (b := b) (c := c) (by omega) (by omega) (by omega) h0 h1 h2 n1 n2 n3
  refine ⟨dg_en a b c, en_lt a b c, hq, fun z => by rw [e, if_pos z], fun p => ?_⟩
  rw [e, if_neg (by omega)]
  have z0 : a = 0 → dg_en a b c % 4 ≠ 1 := by
    unfold dg_en
    repeat' split
    all_goals omega
  have z1 : b = 0 → dg_en a b c % 4 ≠ 2 := by
    unfold dg_en
    repeat' split
    all_goals omega
  have z2 : c = 0 → dg_en a b c % 4 ≠ 3 := by
    unfold dg_en
    repeat' split
    all_goals omega
  have z3 : 0 < dg_en a b c → 0 < dg_en a b c % 4 := by
    unfold dg_en
    repeat' split
    all_goals omega
  have p4 := z3 p
  have w : dg_en a b c % 4 = 1 ∨ dg_en a b c % 4 = 2 ∨ dg_en a b c % 4 = 3 := by omega
  rcases w with w | w | w
  · refine ⟨0, by decide, w, by rw [w], ?_⟩
    rw [h0]
    exact nI_ne0 (by have := fun z => z0 z w; omega) (by omega)
  · refine ⟨1, by decide, w, by rw [w], ?_⟩
    rw [h1]
    exact nI_ne0 (by have := fun z => z1 z w; omega) (by omega)
  · refine ⟨2, by decide, w, by rw [w], ?_⟩
    rw [h2]
    exact nI_ne0 (by have := fun z => z2 z w; omega) (by omega)
theorem r_val {d s : Nat} (hd : d < 64) (hs : d % 4 = s + 1) : (3 : Int32) + (nI d - nI d / 4 * 4) = nI (4 + s) := by
  have e : nI d - nI d / 4 * 4 = nI (d % 4) := pk_rem (d := 4) (by omega) (by decide) (by decide)
  rw [e, hs]
  have e2 : (3 : Int32) + nI (s + 1) = nI (3 + (s + 1)) := nI_add 3 _
  rw [e2]
  congr 1
  omega
theorem rl_own {x m : ai_H} {N W T D C : Nat} (R : rl x m N W T D C) (hT : T < 2 ^ 29) {i : Nat} (hi : i < N) :
    (∃ a, a < 4 ∧ ai_owS x i = -1 ∧ lw_ow m i = nI a ∧ ai_pty x i (ai_owS x i) = nI a ∧ ai_gI x 14 i 0 = nI a ∧ ai_gI m 23 0 (5 * i) = nI a) ∨ (∃ s, s < 3 ∧ ai_owS x i = nI s ∧ lw_ow m i = nI (4 + s) ∧ ai_pty x i (ai_owS x i) = nI (4 + s) ∧ ¬ ai_gI x 16 i s = 0) := by
  have hN : N ≤ 10 := R.1.2.2.1
  obtain ⟨c, hc, s1, s2⟩ := R.2.1 i hi
  obtain ⟨r7, r8, r6, sub⟩ := R.2.2.2.2.2.2.1 i (by omega)
  have s2 : ai_gI m 23 0 (5 * i) = nI c := s2
  obtain ⟨d0, l0, e0, z0, p0⟩ := r_fst r7 hT
  obtain ⟨d1, l1, e1, z1, p1⟩ := r_fst r8 hT
  obtain ⟨d2, l2, e2, z2, p2⟩ := r_fst r6 hT
  have e0 : ai_gI m 24 0 (3 * i) = nI d0 := e0
  have e1 : ai_gI m 24 0 (3 * i + 1) = nI d1 := e1
  have e2 : ai_gI m 24 0 (3 * i + 2) = nI d2 := e2
  have eo : ai_owS x i = if (ai_fst (ai_gI x 17 i) 3).1 = -1 then (if (ai_fst (ai_gI x 18 i) 3).1 = -1 then (ai_fst (ai_gI x 16 i) 3).1 else (ai_fst (ai_gI x 18 i) 3).1) else (ai_fst (ai_gI x 17 i) 3).1 := rfl
  have em : ∀ d, d < 64 → lw_ro m i = nI d → lw_ow m i = if 0 < d then 3 + (nI d - nI d / 4 * 4) else nI c := by
    intro d hd e
    unfold lw_ow
    rw [e, s2]
    have q : 0 < nI d ↔ 0 < d := nI_ltI (a := 0) (b := d) (by decide) (by omega)
    by_cases g : 0 < d
    · rw [if_pos g, if_pos (q.mpr g)]
    · rw [if_neg g, if_neg (fun z => g (q.mp z))]
  have er : lw_ro m i = if 0 < d0 then nI d0 else if 0 < d1 then nI d1 else nI d2 := by
    unfold lw_ro
    rw [e0, e1, e2]
    have q : ∀ d, d < 64 → (0 < nI d ↔ 0 < d) := fun d hd => nI_ltI (a := 0) (b := d) (by decide) (by omega)
    by_cases g : 0 < d0
    · rw [if_pos ((q d0 l0).mpr g), if_pos g]
    · rw [if_neg (fun z => g ((q d0 l0).mp z)), if_neg g]
      by_cases g1 : 0 < d1
      · rw [if_pos ((q d1 l1).mpr g1), if_pos g1]
      · rw [if_neg (fun z => g1 ((q d1 l1).mp z)), if_neg g1]
  have go : ∀ s d, s < 3 → d < 64 → 0 < d → d % 4 = s + 1 → ai_owS x i = nI s → lw_ro m i = nI d → ¬ ai_gI x 16 i s = 0 → ((∃ a, a < 4 ∧ ai_owS x i = -1 ∧ lw_ow m i = nI a ∧ ai_pty x i (ai_owS x i) = nI a ∧ ai_gI x 14 i 0 = nI a ∧ ai_gI m 23 0 (5 * i) = nI a) ∨ (∃ s, s < 3 ∧ ai_owS x i = nI s ∧ lw_ow m i = nI (4 + s) ∧ ai_pty x i (ai_owS x i) = nI (4 + s) ∧ ¬ ai_gI x 16 i s = 0)) := by
    intro s d hs hd hp hm h1 h2 h3
    refine Or.inr ⟨s, hs, h1, ?_, by rw [h1]; exact pt_slot hs, h3⟩
    rw [em d hd h2, if_pos hp, r_val hd hm]
  by_cases g0 : 0 < d0
  · obtain ⟨s, hs, hm, hf, hn⟩ := p0 g0
    refine go s d0 hs l0 g0 hm ?_ (by rw [er, if_pos g0]) (fun z => hn ((sub s hs).1 z).1)
    rw [eo, if_neg (by rw [hf]; exact sf_m1 (by omega)), hf]
  · have f0 := z0 (by omega)
    by_cases g1 : 0 < d1
    · obtain ⟨s, hs, hm, hf, hn⟩ := p1 g1
      refine go s d1 hs l1 g1 hm ?_ (by rw [er, if_neg g0, if_pos g1]) (fun z => hn ((sub s hs).1 z).2)
      rw [eo, if_pos f0, if_neg (by rw [hf]; exact sf_m1 (by omega)), hf]
    · have f1 := z1 (by omega)
      by_cases g2 : 0 < d2
      · obtain ⟨s, hs, hm, hf, hn⟩ := p2 g2
        refine go s d2 hs l2 g2 hm ?_ (by rw [er, if_neg g0, if_neg g1]) hn
        rw [eo, if_pos f0, if_pos f1, hf]
      · have f2 := z2 (by omega)
        have e9 : ai_owS x i = -1 := by rw [eo, if_pos f0, if_pos f1, f2]
        refine Or.inl ⟨c, hc, e9, ?_, by rw [e9, pt_none]; exact s1, s1, s2⟩
        rw [em d2 l2 (by rw [er, if_neg g0, if_neg g1]), if_neg g2]
/-- by whom the buyer is free -/
theorem rl_fre {x m : ai_H} {N W T D C : Nat} (R : rl x m N W T D C) (hT : T < 2 ^ 29) {i : Nat} (hi : i < N) : ∃ p, p < 7 ∧ ai_pty x i (ai_frS x i) = nI p ∧ lw_fr m i = nI p := by
  have hN : N ≤ 10 := R.1.2.2.1
  obtain ⟨c, hc, s1, s2⟩ := R.2.1 i hi
  obtain ⟨r7, -⟩ := R.2.2.2.2.2.2.1 i (by omega)
  have s2 : ai_gI m 23 0 (5 * i) = nI c := s2
  obtain ⟨d0, l0, e0, z0, p0⟩ := r_fst r7 hT
  have e0 : ai_gI m 24 0 (3 * i) = nI d0 := e0
  have eo : ai_frS x i = (ai_fst (ai_gI x 17 i) 3).1 := rfl
  have q : 0 < nI d0 ↔ 0 < d0 := nI_ltI (a := 0) (b := d0) (by decide) (by omega)
  unfold lw_fr
  rw [e0, s2]
  by_cases g0 : 0 < d0
  · obtain ⟨s, hs, hm, hf, hn⟩ := p0 g0
    refine ⟨4 + s, by omega, ?_, ?_⟩
    · rw [eo, hf]
      exact pt_slot hs
    · rw [if_pos (q.mpr g0), r_val l0 hm]
  · have f0 := z0 (by omega)
    refine ⟨c, by omega, ?_, ?_⟩
    · rw [eo, f0, pt_none]
      exact s1
    · rw [if_neg (fun z => g0 (q.mp z))]
