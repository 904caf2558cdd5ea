/-! Rows of factors under a change -/
def ai_u2 {α : Type} (f : Nat → Nat → α) (n s : Nat) (v : α) : Nat → Nat → α := fun i j => if i = n ∧ j = s then v else f i j
theorem u2_at {α : Type} (f : Nat → Nat → α) (n s : Nat) (v : α) : ai_u2 f n s v n = ai_up (f n) s v := funext fun j => by
  unfold ai_u2 ai_up
  by_cases e : j = s
  · rw [if_pos ⟨rfl, e⟩, if_pos e]
  · rw [if_neg (fun z => e z.2), if_neg e]
theorem u2_ne {α : Type} (f : Nat → Nat → α) {n i : Nat} (s : Nat) (v : α) (h : ¬ i = n) : ai_u2 f n s v i = f i := funext fun j => if_neg (fun z => h z.1)
theorem r_mono {T T' : Nat} {v : Nat → Int32} {q : Int32} (h : rl_r T v q) (hT : T ≤ T') : rl_r T' v q := by
  obtain ⟨a, b, c, h1, h2, h3, h4⟩ := h
  exact ⟨a, b, c, by omega, by omega, by omega, h4⟩
theorem r_wi {T s : Nat} {v : Nat → Int32} {q : Int32} (h : rl_r T v q) (hs : s < 3) (h0 : v s = 0) (hT : T < 2 ^ 29) : ∃ d, d < 64 ∧ q = nI d ∧ rl_r (T + 1) (ai_up v s (nI (T + 1))) (nI (d + (s + 1) * dg_pw 3 1 d)) := by
  obtain ⟨a, b, c, h1, h2, h3, v0, v1, v2, hq, n1, n2, n3⟩ := h
  refine ⟨dg_en a b c, en_lt a b c, hq, ?_⟩
  have w : s = 0 ∨ s = 1 ∨ s = 2 := by omega
  rcases w with rfl | rfl | rfl
  · have z : a = 0 := (nI_eq (b := 0) (by omega) (by decide)).mp (v0.symm.trans h0)
    rw [en_wi1 (t := T + 1) z (by omega) (by omega) (by omega)]
    exact ⟨T + 1, b, c, by omega, by omega, by omega, ai_up_at _ _ _, (ai_up_ne _ _ (by decide)).trans v1, (ai_up_ne _ _ (by decide)).trans v2, rfl, by omega, by omega, n3⟩
  · have z : b = 0 := (nI_eq (b := 0) (by omega) (by decide)).mp (v1.symm.trans h0)
    rw [en_wi2 (t := T + 1) z (by omega) (by omega) (by omega)]
    exact ⟨a, T + 1, c, by omega, by omega, by omega, (ai_up_ne _ _ (by decide)).trans v0, ai_up_at _ _ _, (ai_up_ne _ _ (by decide)).trans v2, rfl, by omega, n2, by omega⟩
  · have z : c = 0 := (nI_eq (b := 0) (by omega) (by decide)).mp (v2.symm.trans h0)
    rw [en_wi3 (t := T + 1) z (by omega) (by omega) (by omega)]
    exact ⟨a, b, T + 1, by omega, by omega, by omega, (ai_up_ne _ _ (by decide)).trans v0, (ai_up_ne _ _ (by decide)).trans v1, ai_up_at _ _ _, rfl, n1, by omega, by omega⟩
theorem r_wo {T s : Nat} {v : Nat → Int32} {q : Int32} (h : rl_r T v q) (hs : s < 3) : ∃ d, d < 64 ∧ q = nI d ∧ rl_r T (ai_up v s 0) (nI (dg_wo (s + 1) 3 0 1 d)) := by
  obtain ⟨a, b, c, h1, h2, h3, v0, v1, v2, hq, n1, n2, n3⟩ := h
  refine ⟨dg_en a b c, en_lt a b c, hq, ?_⟩
  have w : s = 0 ∨ s = 1 ∨ s = 2 := by omega
  rcases w with rfl | rfl | rfl
  · rw [en_wo1]
    exact ⟨0, b, c, by omega, by omega, by omega, ai_up_at _ _ _, (ai_up_ne _ _ (by decide)).trans v1, (ai_up_ne _ _ (by decide)).trans v2, rfl, by omega, by omega, n3⟩
  · rw [en_wo2]
    exact ⟨a, 0, c, by omega, by omega, by omega, (ai_up_ne _ _ (by decide)).trans v0, ai_up_at _ _ _, (ai_up_ne _ _ (by decide)).trans v2, rfl, by omega, n2, by omega⟩
  · rw [en_wo3]
    exact ⟨a, b, 0, by omega, by omega, by omega, (ai_up_ne _ _ (by decide)).trans v0, (ai_up_ne _ _ (by decide)).trans v1, ai_up_at _ _ _, rfl, n1, by omega, by omega⟩
theorem r_ha {T s : Nat} {v : Nat → Int32} {q : Int32} (h : rl_r T v q) (hs : s < 3) (hT : T < 2 ^ 29) : ∃ d, d < 64 ∧ q = nI d ∧ dg_ha (s + 1) 3 false d = decide (¬ v s = 0) := by
  obtain ⟨a, b, c, h1, h2, h3, v0, v1, v2, hq, n1, n2, n3⟩ := h
  refine ⟨dg_en a b c, en_lt a b c, hq, ?_⟩
  have e : ∀ x, x ≤ T → (nI x = 0 ↔ x = 0) := fun x hx => nI_eq (b := 0) (by omega) (by decide)
  have w : s = 0 ∨ s = 1 ∨ s = 2 := by omega
  rcases w with rfl | rfl | rfl
  · rw [en_ha1, v0]
    exact decide_eq_decide.mpr (not_congr (e a h1).symm)
  · rw [en_ha2, v1]
    exact decide_eq_decide.mpr (not_congr (e b h2).symm)
  · rw [en_ha3, v2]
    exact decide_eq_decide.mpr (not_congr (e c h3).symm)
theorem r_d {d d' : Nat} {q : Int32} (h : d < 64) (h' : d' < 64) (e : q = nI d) (e' : q = nI d') : d = d' := (nI_eq (by omega) (by omega)).mp (e.symm.trans e')
/-- all rows, under one change -/
theorem R_set {T T' n s : Nat} {f15 f16 f17 f18 f15' f16' f17' f18' : Nat → Nat → Int32} {g0 g1 g2 g0' g1' g2' : Nat → Int32} (h : rl_R T f15 f16 f17 f18 g0 g1 g2) (hT : T ≤ T') (o15 : ∀ i, ¬ i = n → f15' i = f15 i) (o16 : ∀ i, ¬ i = n → f16' i = f16 i) (o17 : ∀ i, ¬ i = n → f17' i = f17 i) (o18 : ∀ i, ¬ i = n → f18' i = f18 i) (p0 : ∀ i, ¬ i = n → g0' i = g0 i) (p1 : ∀ i, ¬ i = n → g1' i = g1 i) (p2 : ∀ i, ¬ i = n → g2' i = g2 i) (q0 : rl_r T' (f17' n) (g0' n)) (q1 : rl_r T' (f18' n) (g1' n)) (q2 : rl_r T' (f16' n) (g2' n)) (w : ∀ u, u < 3 → (f16' n u = 0 → f17' n u = 0 ∧ f18' n u = 0) ∧ (f15' n u = 0 → f16' n u = 0)) : rl_R T' f15' f16' f17' f18' g0' g1' g2' := by
  intro i hi
  by_cases e : i = n
  · subst e
    exact ⟨q0, q1, q2, w⟩
  · obtain ⟨h1, h2, h3, h4⟩ := h i hi
    rw [o15 i e, o16 i e, o17 i e, o18 i e, p0 i e, p1 i e, p2 i e]
    exact ⟨r_mono h1 hT, r_mono h2 hT, r_mono h3 hT, h4⟩
theorem R_mono {T T' : Nat} {f15 f16 f17 f18 : Nat → Nat → Int32} {g0 g1 g2 : Nat → Int32} (h : rl_R T f15 f16 f17 f18 g0 g1 g2) (hT : T ≤ T') : rl_R T' f15 f16 f17 f18 g0 g1 g2 := fun i hi => by
  obtain ⟨h1, h2, h3, h4⟩ := h i hi
  exact ⟨r_mono h1 hT, r_mono h2 hT, r_mono h3 hT, h4⟩
theorem fl_bit : ∀ e, e < 16 → ∀ s, s < 3 → e / 2 ^ (s + 1) % 2 = 0 → e + 2 ^ (s + 1) < 16 ∧ (e + 2 ^ (s + 1)) % 2 = e % 2 ∧ ∀ u, u < 3 → (e + 2 ^ (s + 1)) / 2 ^ (u + 1) % 2 = if u = s then 1 else e / 2 ^ (u + 1) % 2 := by decide
theorem F_set {n s e : Nat} {fd : Nat → Int32} {fw : Nat → Nat → Int32} {g : Nat → Int32} (h : rl_F fd fw g) (hs : s < 3) (hg : g n = nI e) (he : e < 16) (hb : e / 2 ^ (s + 1) % 2 = 0) : rl_F fd (ai_u2 fw n s 1) (ai_up g n (nI (e + 2 ^ (s + 1)))) := by
  intro i hi
  by_cases c : i = n
  · subst c
    obtain ⟨e', h1, h2, h3, h4⟩ := h i hi
    have : e' = e := (nI_eq (by omega) (by omega)).mp (h2.symm.trans hg)
    subst this
    obtain ⟨b1, b2, b3⟩ := fl_bit e' he s hs hb
    refine ⟨e' + 2 ^ (s + 1), b1, ai_up_at _ _ _, by rw [b2]; exact h3, fun u hu => ?_⟩
    rw [b3 u hu, u2_at]
    by_cases c : u = s
    · subst c
      rw [ai_up_at, if_pos rfl]
      rfl
    · rw [ai_up_ne _ _ c, if_neg c]
      exact h4 u hu
  · rw [ai_up_ne _ _ c, u2_ne _ _ _ c]
    exact h i hi
