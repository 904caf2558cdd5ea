/-! Owners, counting and bases are the same on both sides -/
theorem fm_mo {v st w : Nat → Int32} {b T : Nat} (hT : T < 2 ^ 30) : ∀ n, n ≤ 3 → (∀ s, s < n → (st (b + s) = 1 ∧ ∃ q, q ≤ T ∧ v s = nI q ∧ w (b + s) = nI q) ∨ (¬ st (b + s) = 1 ∧ v s = 0)) →
    (ai_mo st w b n = none ∧ ai_fst v n = (-1, 0)) ∨ (∃ j, j < n ∧ st (b + j) = 1 ∧ ai_mo st w b n = some j ∧ ai_fst v n = (nI j, v j) ∧ w (b + j) = v j)
  | 0, _, _ => Or.inl ⟨rfl, rfl⟩
  | n + 1, hn, h => by
    have ih := fm_mo hT n (by omega) fun s hs => h s (by omega)
    have em : ai_mo st w b (n + 1) = ai_mn st w b n (ai_mo st w b n) := rfl
    have ef : ai_fst v (n + 1) = if ¬ v n = 0 ∧ ((ai_fst v n).1 = -1 ∨ v n < (ai_fst v n).2) then (nI n, v n) else ai_fst v n := rfl
    have same : (v n = 0) → (¬ (st (b + n) = 1 ∧ 0 < w (b + n))) → ((ai_mo st w b (n + 1) = none ∧ ai_fst v (n + 1) = (-1, 0)) ∨ (∃ j, j < n + 1 ∧ st (b + j) = 1 ∧ ai_mo st w b (n + 1) = some j ∧ ai_fst v (n + 1) = (nI j, v j) ∧ w (b + j) = v j)) := by
      intro hv hs
      rw [em, ef, if_neg (fun q => q.1 hv)]
      rcases ih with ⟨h1, h2⟩ | ⟨j, hj, h0, h1, h2, h3⟩
      · refine Or.inl ⟨?_, h2⟩
        rw [h1]
        exact if_neg hs
      · refine Or.inr ⟨j, by omega, h0, ?_, h2, h3⟩
        rw [h1]
        exact if_neg fun q => hs q.1
    rcases h n (by omega) with ⟨hs, q, hq, hv, hw⟩ | ⟨hs, hv⟩
    · by_cases hq0 : q = 0
      · subst hq0
        exact same hv (fun g => by rw [hw] at g; exact absurd g.2 (by decide))
      · have hv0 : ¬ v n = 0 := by rw [hv]; exact nI_ne0 (by omega) (by omega)
        have hw0 : 0 < w (b + n) := by rw [hw]; exact nI_lt (a := 0) (by omega) (by omega)
        rcases ih with ⟨h1, h2⟩ | ⟨j, hj, h0, h1, h2, h3⟩
        · refine Or.inr ⟨n, by omega, hs, ?_, ?_, by rw [hw, hv]⟩
          · rw [em, h1]
            exact if_pos ⟨hs, hw0⟩
          · rw [ef, h2]
            exact if_pos ⟨hv0, Or.inl rfl⟩
        · by_cases hl : v n < v j
          · refine Or.inr ⟨n, by omega, hs, ?_, ?_, by rw [hw, hv]⟩
            · rw [em, h1]
              exact if_pos ⟨⟨hs, hw0⟩, by rw [hw, h3, ← hv]; exact hl⟩
            · rw [ef, h2]
              exact if_pos ⟨hv0, Or.inr hl⟩
          · refine Or.inr ⟨j, by omega, h0, ?_, ?_, h3⟩
            · rw [em, h1]
              exact if_neg fun g => hl (by rw [hv, ← hw, ← h3]; exact g.2)
            · rw [ef, h2]
              exact if_neg fun g => g.2.elim (fun e => sf_m1 (n := j) (by omega) e) hl
    · exact same hv (fun g => hs g.1)
theorem fm_of {x m : ai_H} {T i t t' : Nat} (hT : T < 2 ^ 30) (h : ∀ s, s < 3 → (ai_gI m 29 0 (3 * i + s) = 1 ∧ ∃ q, q ≤ T ∧ ai_gI x t i s = nI q ∧ ai_gI m t' 0 (3 * i + s) = nI q) ∨ (¬ ai_gI m 29 0 (3 * i + s) = 1 ∧ ai_gI x t i s = 0)) :
    (ai_mf (ai_mq m t' i) = -1 ∧ (ai_fst (ai_gI x t i) 3).1 = -1) ∨ (∃ s, s < 3 ∧ ai_gI m 29 0 (3 * i + s) = 1 ∧ ai_mf (ai_mq m t' i) = nI (4 + s) ∧ (ai_fst (ai_gI x t i) 3).1 = nI s) := by
  rcases fm_mo (v := ai_gI x t i) (st := ai_gI m 29 0) (w := ai_gI m t' 0) (b := 3 * i) hT 3 (Nat.le_refl _) h with ⟨h1, h2⟩ | ⟨j, hj, h0, h1, h2, h3⟩
  · refine Or.inl ⟨?_, by rw [h2]⟩
    unfold ai_mq
    rw [h1]
    rfl
  · refine Or.inr ⟨j, hj, h0, ?_, by rw [h2]⟩
    unfold ai_mq
    rw [h1]
    exact nI_add 4 j
theorem rl_fm {x m : ai_H} {N W T C : Nat} (R : rl x m N W T C) (hT : T < 2 ^ 30) {i : Nat} (hi : i < 40) :
    ((ai_mf (ai_mq m 30 i) = -1 ∧ (ai_fst (ai_gI x 16 i) 3).1 = -1) ∨ (∃ s, s < 3 ∧ ai_gI m 29 0 (3 * i + s) = 1 ∧ ai_mf (ai_mq m 30 i) = nI (4 + s) ∧ (ai_fst (ai_gI x 16 i) 3).1 = nI s)) ∧
    ((ai_mf (ai_mq m 31 i) = -1 ∧ (ai_fst (ai_gI x 17 i) 3).1 = -1) ∨ (∃ s, s < 3 ∧ ai_gI m 29 0 (3 * i + s) = 1 ∧ ai_mf (ai_mq m 31 i) = nI (4 + s) ∧ (ai_fst (ai_gI x 17 i) 3).1 = nI s)) ∧
    ((ai_mf (ai_mq m 32 i) = -1 ∧ (ai_fst (ai_gI x 18 i) 3).1 = -1) ∨ (∃ s, s < 3 ∧ ai_gI m 29 0 (3 * i + s) = 1 ∧ ai_mf (ai_mq m 32 i) = nI (4 + s) ∧ (ai_fst (ai_gI x 18 i) 3).1 = nI s)) := by
  obtain ⟨h1, h2, h3, h4, h5, h6, h7, -⟩ := R
  have e : ∀ s, s < 3 → rl_c T (ai_gI x 15 i s) (ai_gI x 16 i s) (ai_gI x 17 i s) (ai_gI x 18 i s) (ai_gI m 29 0 (3 * i + s)) (ai_gI m 30 0 (3 * i + s)) (ai_gI m 31 0 (3 * i + s)) (ai_gI m 32 0 (3 * i + s)) := fun s hs => h7 i s hi hs
  refine ⟨fm_of hT fun s hs => ?_, fm_of hT fun s hs => ?_, fm_of hT fun s hs => ?_⟩
  · rcases e s hs with ⟨a0, a1, a2, a3, a4, a5⟩ | ⟨a0, a1, ⟨q, b0, b1, b2, b3⟩, a3, a4⟩ | ⟨a0, a1, a2, a3, a4⟩
    · exact Or.inr ⟨by rw [a0]; decide, a2⟩
    · exact Or.inl ⟨a0, q, b1, b2, b3⟩
    · exact Or.inr ⟨by rw [a0]; decide, a2⟩
  · rcases e s hs with ⟨a0, a1, a2, a3, a4, a5⟩ | ⟨a0, a1, a2, ⟨q, b1, b2, b3⟩, a4⟩ | ⟨a0, a1, a2, a3, a4⟩
    · exact Or.inr ⟨by rw [a0]; decide, a3⟩
    · exact Or.inl ⟨a0, q, b1, b2, b3⟩
    · exact Or.inr ⟨by rw [a0]; decide, a3⟩
  · rcases e s hs with ⟨a0, a1, a2, a3, a4, a5⟩ | ⟨a0, a1, a2, a3, ⟨q, b1, b2, b3⟩⟩ | ⟨a0, a1, a2, a3, a4⟩
    · exact Or.inr ⟨by rw [a0]; decide, a4⟩
    · exact Or.inl ⟨a0, q, b1, b2, b3⟩
    · exact Or.inr ⟨by rw [a0]; decide, a4⟩
theorem sf_4m1 {s : Nat} (hs : s < 3) : ¬ nI (4 + s) = -1 := sf_m1 (by omega)
theorem pt_slot {x : ai_H} {i s : Nat} (hs : s < 3) : ai_pty x i (nI s) = nI (4 + s) := by
  unfold ai_pty
  rw [if_neg (sf_m1 (by omega))]
  exact nI_add 4 s
theorem pt_none {x : ai_H} {i : Nat} : ai_pty x i (-1) = ai_gI x 14 i 0 := if_pos rfl
/-- who owns -/
theorem rl_own {x m : ai_H} {N W T C : Nat} (R : rl x m N W T C) (hT : T < 2 ^ 30) {i : Nat} (hi : i < N) :
    (∃ a, a < 4 ∧ ai_owS x i = -1 ∧ ai_mow m i = nI a ∧ ai_pty x i (ai_owS x i) = nI a ∧ ai_gI x 14 i 0 = nI a ∧ ai_gI m 24 0 i = nI a) ∨ (∃ s, s < 3 ∧ ai_owS x i = nI s ∧ ai_mow m i = nI (4 + s) ∧ ai_pty x i (ai_owS x i) = nI (4 + s) ∧ ai_gI m 29 0 (3 * i + s) = 1) := by
  have hN : N ≤ 40 := R.1.2.2.1
  obtain ⟨c, hc, s1, s2⟩ := R.2.1 i hi
  obtain ⟨f1, f2, f3⟩ := rl_fm R hT (i := i) (by omega)
  have go : ∀ s, s < 3 → ai_gI m 29 0 (3 * i + s) = 1 → ai_owS x i = nI s → ai_mow m i = nI (4 + s) → ((∃ a, a < 4 ∧ ai_owS x i = -1 ∧ ai_mow m i = nI a ∧ ai_pty x i (ai_owS x i) = nI a ∧ ai_gI x 14 i 0 = nI a ∧ ai_gI m 24 0 i = nI a) ∨ (∃ s, s < 3 ∧ ai_owS x i = nI s ∧ ai_mow m i = nI (4 + s) ∧ ai_pty x i (ai_owS x i) = nI (4 + s) ∧ ai_gI m 29 0 (3 * i + s) = 1)) := by
    intro s hs h0 h1 h2
    exact Or.inr ⟨s, hs, h1, h2, by rw [h1]; exact pt_slot hs, h0⟩
  have eo : ai_owS x i = if (ai_fst (ai_gI x 17 i) 3).1 = -1 then (if (ai_fst (ai_gI x 18 i) 3).1 = -1 then (ai_fst (ai_gI x 16 i) 3).1 else (ai_fst (ai_gI x 18 i) 3).1) else (ai_fst (ai_gI x 17 i) 3).1 := rfl
  have em : ai_mow m i = if ai_mf (ai_mq m 31 i) = -1 then (if ai_mf (ai_mq m 32 i) = -1 then (if ai_mf (ai_mq m 30 i) = -1 then ai_gI m 24 0 i else ai_mf (ai_mq m 30 i)) else ai_mf (ai_mq m 32 i)) else ai_mf (ai_mq m 31 i) := rfl
  rcases f2 with ⟨a1, a2⟩ | ⟨s, hs, h0, a1, a2⟩
  · rcases f3 with ⟨b1, b2⟩ | ⟨s, hs, h0, b1, b2⟩
    · rcases f1 with ⟨d1, d2⟩ | ⟨s, hs, h0, d1, d2⟩
      · have e1 : ai_owS x i = -1 := by rw [eo, if_pos a2, if_pos b2, d2]
        have e2 : ai_mow m i = nI c := by rw [em, if_pos a1, if_pos b1, if_pos d1]; exact s2
        exact Or.inl ⟨c, hc, e1, e2, by rw [e1, pt_none]; exact s1, s1, s2⟩
      · exact go s hs h0 (by rw [eo, if_pos a2, if_pos b2, d2]) (by rw [em, if_pos a1, if_pos b1, if_neg (by rw [d1]; exact sf_4m1 hs), d1])
    · exact go s hs h0 (by rw [eo, if_pos a2, if_neg (by rw [b2]; exact sf_m1 (by omega)), b2]) (by rw [em, if_pos a1, if_neg (by rw [b1]; exact sf_4m1 hs), b1])
  · exact go s hs h0 (by rw [eo, if_neg (by rw [a2]; exact sf_m1 (by omega)), a2]) (by rw [em, if_neg (by rw [a1]; exact sf_4m1 hs), a1])
/-- by whom the buyer is free -/
theorem rl_fre {x m : ai_H} {N W T C : Nat} (R : rl x m N W T C) (hT : T < 2 ^ 30) {i : Nat} (hi : i < N) : ∃ p, p < 7 ∧ ai_pty x i (ai_frS x i) = nI p ∧ ai_mfr m i = nI p := by
  have hN : N ≤ 40 := R.1.2.2.1
  obtain ⟨c, hc, s1, s2⟩ := R.2.1 i hi
  obtain ⟨f1, f2, f3⟩ := rl_fm R hT (i := i) (by omega)
  have em : ai_mfr m i = if ai_mf (ai_mq m 31 i) = -1 then ai_gI m 24 0 i else ai_mf (ai_mq m 31 i) := rfl
  have eo : ai_frS x i = (ai_fst (ai_gI x 17 i) 3).1 := rfl
  rcases f2 with ⟨a1, a2⟩ | ⟨s, hs, h0, a1, a2⟩
  · exact ⟨c, by omega, by rw [eo, a2, pt_none]; exact s1, by rw [em, if_pos a1]; exact s2⟩
  · exact ⟨4 + s, by omega, by rw [eo, a2]; exact pt_slot hs, by rw [em, if_neg (by rw [a1]; exact sf_4m1 hs), a1]⟩
theorem rl_ow {x m : ai_H} {N W T C : Nat} (R : rl x m N W T C) (hT : T < 2 ^ 30) {i s : Nat} (hi : i < N) (hs : s < 3) : ai_owS x i = nI s ↔ ai_mow m i = nI (4 + s) := by
  rcases rl_own R hT hi with ⟨a, ha, h1, h2, -⟩ | ⟨j, hj, h1, h2, -⟩
  · rw [h1, h2]
    constructor
    · exact fun g => absurd g.symm (sf_m1 (by omega))
    · intro g
      have := (nI_eq (a := a) (b := 4 + s) (by omega) (by omega)).mp g
      omega
  · rw [h1, h2, nI_eq (by omega) (by omega), nI_eq (by omega) (by omega)]
    omega
theorem sum_eq {c c' : Nat → Prop} [DecidablePred c] [DecidablePred c'] {v v' : Nat → Int64} : ∀ {n : Nat}, (∀ i, i < n → (c i ↔ c' i) ∧ v i = v' i) → ai_sum c v n = ai_sum c' v' n
  | 0, _ => rfl
  | n + 1, h => by
    obtain ⟨h1, h2⟩ := h n (by omega)
    unfold ai_sum
    rw [sum_eq fun i hi => h i (by omega), h2]
    by_cases g : c n
    · rw [if_pos g, if_pos (h1.mp g)]
    · rw [if_neg g, if_neg (fun q => g (h1.mpr q))]
theorem rl_old {x m : ai_H} {N W T C : Nat} (R : rl x m N W T C) {i : Nat} (hi : i < N) : ai_oldX x i ↔ ai_oldM m i := by
  have e1 : ai_gI x 0 0 11 = ai_gI m 23 0 0 := R.1.2.2.2.2.2.2.2.2
  have e2 : ai_gI x 14 i 4 = ai_gI m 27 0 i := R.2.2.2.2.1 i hi
  unfold ai_oldX ai_oldM
  rw [e1, e2]
theorem rl_by {x m : ai_H} {N W T C : Nat} (R : rl x m N W T C) {i : Nat} (hi : i < N) : ∃ b, b < 5 ∧ ai_gI x 14 i 1 = nI b ∧ ai_gI m 25 0 i = nI b := R.2.2.1 i hi
theorem rl_sl {x m : ai_H} {N W T C : Nat} (R : rl x m N W T C) {i : Nat} (hi : i < N) : ∃ b, b < 4 ∧ ai_gI x 14 i 0 = nI b ∧ ai_gI m 24 0 i = nI b := R.2.1 i hi
theorem rl_ce {x m : ai_H} {N W T C : Nat} (R : rl x m N W T C) {i : Nat} (hi : i < N) : ∃ q, q ≤ 1000000 ∧ ai_gI x 14 i 3 = nI q ∧ ai_gI m 26 0 i = nI q := R.2.2.2.1 i hi
theorem rl_so {x m : ai_H} {N W T C : Nat} (R : rl x m N W T C) {i : Nat} (hi : i < N) : ai_soX x i ↔ ai_soM m i := by
  have hN : N ≤ 40 := R.1.2.2.1
  obtain ⟨q, h0, h1, h2⟩ := rl_ce R hi
  have e2 : ai_gI x 14 i 5 = ai_gI m 28 0 i := (R.2.2.2.2.2.1 i (by omega)).1
  have e3 := rl_old R hi
  unfold ai_soX ai_soM
  rw [h1, h2, e2, e3]
theorem rl_c1 {x m : ai_H} {N W T C : Nat} (R : rl x m N W T C) (hT : T < 2 ^ 30) {i s : Nat} (hi : i < N) (hs : s < 3) (y : Int32) : ai_cX x (nI s) y i ↔ ai_cM m (nI (4 + s)) y i := by
  obtain ⟨b, h0, h1, h2⟩ := rl_by R hi
  unfold ai_cX ai_cM
  rw [h1, h2, rl_ow R hT hi hs]
theorem rl_v1 {x m : ai_H} {N W T C : Nat} (R : rl x m N W T C) {i : Nat} (hi : i < N) : (ai_gI x 14 i 3).toInt64 = (ai_gI m 26 0 i).toInt64 := by
  obtain ⟨q, h0, h1, h2⟩ := rl_ce R hi
  rw [h1, h2]
theorem rl_sX {x m : ai_H} {N W T C : Nat} (R : rl x m N W T C) (hT : T < 2 ^ 30) {s : Nat} (hs : s < 3) (y : Int32) : ai_sX x (nI s) y N = ai_sM m (nI (4 + s)) y N := sum_eq fun i hi => ⟨rl_c1 R hT hi hs y, rl_v1 R hi⟩
theorem rl_dX {x m : ai_H} {N W T C : Nat} (R : rl x m N W T C) (hT : T < 2 ^ 30) {s : Nat} (hs : s < 3) (y : Int32) : ai_dX x (nI s) y N = ai_dM m (nI (4 + s)) y N := sum_eq fun i hi => ⟨and_congr (rl_c1 R hT hi hs y) (rl_old R hi), rl_v1 R hi⟩
/-- counts for a factor -/
theorem rl_cn {x m : ai_H} {N W T C : Nat} (R : rl x m N W T C) (hT : T < 2 ^ 30) {i s : Nat} (hi : i < N) (hs : s < 3) : ai_cnM m N (nI (4 + s)) i ↔ ai_ctX x N i ∧ ai_owS x i = nI s := by
  obtain ⟨b, h0, h1, h2⟩ := rl_by R hi
  unfold ai_cnM ai_ctX
  rw [← rl_ow R hT hi hs, ← rl_so R hi, h1, h2, ← rl_sX R hT hs, ← rl_dX R hT hs]
  constructor
  · rintro ⟨a1, a2, a3⟩
    rw [a1]
    exact ⟨⟨sf_m1 (by omega), a2, a3⟩, rfl⟩
  · rintro ⟨⟨a1, a2, a3⟩, a4⟩
    rw [a4] at a3
    exact ⟨a4, a2, a3⟩
theorem rl_ct {x m : ai_H} {N W T C : Nat} (R : rl x m N W T C) (hT : T < 2 ^ 30) {i : Nat} (hi : i < N) :
    (∃ s, s < 3 ∧ ai_ctX x N i ∧ ai_owS x i = nI s ∧ ai_cnM m N (nI (4 + s)) i ∧ ai_mow m i = nI (4 + s)) ∨ (¬ ai_ctX x N i ∧ ¬ ((4 ≤ ai_mow m i ∧ ai_mow m i ≤ 6) ∧ ai_cnM m N (ai_mow m i) i)) := by
  rcases rl_own R hT hi with ⟨a, ha, h1, h2, -⟩ | ⟨j, hj, h1, h2, -⟩
  · refine Or.inr ⟨fun q => q.1 h1, fun q => ?_⟩
    rw [h2] at q
    have := (nI_leI (a := 4) (b := a) (by decide) (by omega)).mp q.1.1
    omega
  · by_cases g : ai_ctX x N i
    · exact Or.inl ⟨j, hj, g, h1, (rl_cn R hT hi hj).mpr ⟨g, h1⟩, h2⟩
    · refine Or.inr ⟨g, fun q => g ?_⟩
      rw [h2] at q
      exact ((rl_cn R hT hi hj).mp q.2).1
/-! bases -/
theorem rl_cb {x m : ai_H} {N W T C : Nat} (R : rl x m N W T C) (hT : T < 2 ^ 30) {s b : Nat} (hs : s < 3) (hb : b < 5) (a : Int32) : ai_cb x N (nI s) a b = ai_uM m N (nI (4 + s)) a (nI b) N := by
  unfold ai_cb
  have hb1 : ¬ nI b = -1 := sf_m1 (by omega)
  by_cases g : 2 * ai_dX x (nI s) (nI b) N ≤ ai_sX x (nI s) (nI b) N
  · rw [if_pos g]
    refine sum_eq fun i hi => ⟨?_, rl_v1 R hi⟩
    obtain ⟨c, c0, c1, c2⟩ := rl_sl R hi
    obtain ⟨d, d0, d1, d2⟩ := rl_by R hi
    show ai_bX x (nI s) a (nI b) i ↔ ai_bM m N (nI (4 + s)) a (nI b) i
    unfold ai_bX ai_bM
    rw [rl_cn R hT hi hs, c1, c2, d1, d2]
    unfold ai_ctX
    rw [d1]
    constructor
    · rintro ⟨a1, a2, a3, a4⟩
      rw [a3, a2]
      exact ⟨a1, Or.inr rfl, ⟨sf_m1 (by omega), a4, g⟩, rfl⟩
    · rintro ⟨a1, a2, ⟨a3, a4, a5⟩, a6⟩
      exact ⟨a1, a2.resolve_left hb1, a6, a4⟩
  · rw [if_neg g]
    have key : ∀ n, n ≤ N → ai_uM m N (nI (4 + s)) a (nI b) n = 0 := by
      intro n
      induction n with
      | zero => exact fun _ => rfl
      | succ n ih =>
        intro hn
        have hi : n < N := by omega
        show (if ai_bM m N (nI (4 + s)) a (nI b) n then ai_uM m N (nI (4 + s)) a (nI b) n + (ai_gI m 26 0 n).toInt64 else ai_uM m N (nI (4 + s)) a (nI b) n) = 0
        rw [if_neg, ih (by omega)]
        rintro ⟨-, a2, a3⟩
        have a2 := a2.resolve_left hb1
        have a3 := a3.2.2
        rw [a2, ← rl_sX R hT hs, ← rl_dX R hT hs] at a3
        exact g a3
    exact (key N (Nat.le_refl _)).symm
theorem tot_eq {f g : Nat → Int64} : ∀ {n : Nat}, (∀ i, i < n → f i = g i) → ai_tot f n = ai_tot g n
  | 0, _ => rfl
  | n + 1, h => by
    unfold ai_tot
    rw [h n (by omega), tot_eq fun i hi => h i (by omega)]
theorem tot_add (f g : Nat → Int64) : ∀ n, ai_tot (fun i => f i + g i) n = ai_tot f n + ai_tot g n
  | 0 => rfl
  | n + 1 => by
    unfold ai_tot
    rw [tot_add f g n]
    ac_rfl
theorem tot_one {b : Nat} {v : Int64} : ∀ n, ai_tot (fun i => if i = b then v else 0) n = if b < n then v else 0
  | 0 => rfl
  | n + 1 => by
    unfold ai_tot
    rw [tot_one n]
    by_cases h : n = b
    · subst h
      rw [if_neg (Nat.lt_irrefl _), if_pos rfl, if_pos (by omega), Int64.zero_add]
    · rw [if_neg h, Int64.add_zero]
      by_cases g : b < n
      · rw [if_pos g, if_pos (by omega)]
      · rw [if_neg g, if_neg (by omega)]
theorem tot_z : ∀ n, ai_tot (fun _ => 0) n = 0
  | 0 => rfl
  | n + 1 => by
    unfold ai_tot
    rw [tot_z n]
    rfl
theorem rl_all {x m : ai_H} {N W T C : Nat} (R : rl x m N W T C) {s : Nat} (a : Int32) : ∀ n, n ≤ N → ai_tot (fun b => ai_uM m N (nI (4 + s)) a (nI b) n) 5 = ai_uM m N (nI (4 + s)) a (-1) n
  | 0, _ => tot_z 5
  | n + 1, hn => by
    have hi : n < N := by omega
    have ih := rl_all R (s := s) a n (by omega)
    obtain ⟨d, d0, d1, d2⟩ := rl_by R hi
    have e : ∀ y, ai_uM m N (nI (4 + s)) a y (n + 1) = if ai_bM m N (nI (4 + s)) a y n then ai_uM m N (nI (4 + s)) a y n + (ai_gI m 26 0 n).toInt64 else ai_uM m N (nI (4 + s)) a y n := fun y => rfl
    by_cases g : ai_gI m 24 0 n = a ∧ ai_cnM m N (nI (4 + s)) n
    · rw [e, if_pos (show ai_bM m N (nI (4 + s)) a (-1) n from ⟨g.1, Or.inl rfl, g.2⟩), ← ih]
      have e2 : ai_tot (fun b => ai_uM m N (nI (4 + s)) a (nI b) (n + 1)) 5 = ai_tot (fun b => ai_uM m N (nI (4 + s)) a (nI b) n + (if b = d then (ai_gI m 26 0 n).toInt64 else 0)) 5 := tot_eq fun b hb => by
        show ai_uM m N (nI (4 + s)) a (nI b) (n + 1) = ai_uM m N (nI (4 + s)) a (nI b) n + (if b = d then (ai_gI m 26 0 n).toInt64 else 0)
        rw [e]
        by_cases q : b = d
        · rw [if_pos (show ai_bM m N (nI (4 + s)) a (nI b) n from ⟨g.1, Or.inr (by rw [d2, q]), g.2⟩), if_pos q]
        · have q2 : ¬ ai_bM m N (nI (4 + s)) a (nI b) n := by
            rintro ⟨-, a2, -⟩
            have a2 := a2.resolve_left (sf_m1 (by omega))
            rw [d2] at a2
            exact q ((nI_eq (by omega) (by omega)).mp a2.symm)
          rw [if_neg q2, if_neg q, Int64.add_zero]
      rw [e2, tot_add, tot_one, if_pos d0]
    · rw [e, if_neg (fun q => g ⟨q.1, q.2.2⟩), ← ih]
      refine tot_eq fun b hb => ?_
      show ai_uM m N (nI (4 + s)) a (nI b) (n + 1) = _
      rw [e, if_neg (fun q => g ⟨q.1, q.2.2⟩)]
theorem min3 (m v u : Int64) : ai_minL (ai_minL m v) u = ai_m2 (ai_m2 u v) m := by
  unfold ai_minL ai_m2
  repeat' split
  all_goals first | rfl | (simp only [Int64.lt_iff_toInt_lt] at *; done) | (simp only [Int64.lt_iff_toInt_lt] at *; omega) | (simp only [Int64.lt_iff_toInt_lt] at *; apply Int64.toInt_inj.mp; omega)
theorem rl_bs {x m : ai_H} {N W T C : Nat} (R : rl x m N W T C) (hT : T < 2 ^ 30) {s : Nat} (hs : s < 3) (a : Int32) : ai_bsX x N s a = ai_bsM m N s a := by
  obtain ⟨h1, h2, h3, h4, h5, h6, h7, h8, h9, h10, h11, h12, h13, h14, h15, h16, h17, h18, h19, h20, h21, h22⟩ := id R
  have e0 : ai_gI x 20 s 0 = ai_gI m 39 0 s := h14 s hs
  have e1 : ai_gI x 20 s 1 = ai_gI m 40 0 s := h15 s hs
  have e3 : ai_tot (ai_cb x N (nI s) a) 5 = ai_uM m N (nI (4 + s)) a (-1) N := by
    rw [← rl_all R a N (Nat.le_refl _)]
    exact tot_eq fun b hb => rl_cb R hT hs hb a
  have em : ai_tot (ai_cb x N (nI s) a) 5 * (ai_gI x 20 s 1).toInt64 / 100 = ai_mostM m N s a := by
    unfold ai_mostM
    rw [e3, e1]
  have e5 : ai_tot (ai_lim x s (ai_mostM m N s a) (ai_cb x N (nI s) a)) 5 = ai_tot (ai_gM m N s a (ai_mostM m N s a)) 5 := tot_eq fun b hb => by
    have e4 : ai_gI x 21 s b = ai_gI m 42 0 (5 * s + b) := h17 s b hs hb
    unfold ai_lim ai_gM
    rw [min3, rl_cb R hT hs hb, e4]
  unfold ai_bsX ai_bsM
  rw [em, e0, e5]
