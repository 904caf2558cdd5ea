/-! What a payment to the right party does, on both sides -/
theorem rl_E_up {α : Type} {N : Nat} {f g : Nat → α} {i : Nat} {v v' : α} (h : rl_E N f g) (hv : v = v') : rl_E N (ai_up f i v) (ai_up g i v') := by
  intro j hj
  by_cases e : j = i
  · subst e
    rw [ai_up_at, ai_up_at, hv]
  · rw [ai_up_ne _ _ e, ai_up_ne _ _ e]
    exact h j hj
theorem rl_B_up {N n : Nat} {f g : Nat → Int32} {i q : Nat} {v v' : Int32} (h : rl_B N n f g) (hq : q < n) (hv : v = nI q) (hv' : v' = nI q) : rl_B N n (ai_up f i v) (ai_up g i v') := by
  intro j hj
  by_cases e : j = i
  · subst e
    exact ⟨q, hq, by rw [ai_up_at, hv], by rw [ai_up_at, hv']⟩
  · obtain ⟨b, h1, h2, h3⟩ := h j hj
    exact ⟨b, h1, by rw [ai_up_ne _ _ e, h2], by rw [ai_up_ne _ _ e, h3]⟩
/-- only money was written -/
theorem rl_mon {x m x' m' : ai_H} {N W T D C : Nat} (R : rl x m N W T D C) (hx : ∀ t, ai_gI x' t = ai_gI x t) (hm : ∀ t, ai_gI m' t = ai_gI m t) (jx : ∀ t, ¬ t = 10 → ¬ t = 11 → ai_gJ x' t = ai_gJ x t) (jm : ∀ t, ¬ t = 25 → ai_gJ m' t = ai_gJ m t) (P7 : ∀ p, p < 7 → ai_gJ x' 10 0 p = ai_gJ m' 25 0 p) (P5 : ∀ p, p < 5 → ai_gJ x' 11 0 p = ai_gJ m' 25 0 (7 + p)) (Z : ai_tot (fun p => ai_gJ m' 25 0 p) 12 = 0) : rl x' m' N W T D C := by
  obtain ⟨A, B0, B1, B2, B3, F, Rr, -, -, -, S, F0, F1, F2, K5, K4, G, H, Q, J⟩ := id R
  have e1 : ∀ c, li c m' = li c m := fun c => by unfold li; rw [hm]
  have e2 : ∀ c, lq c m' = lq c m := fun c => by unfold lq; rw [hm]
  have e3 : ∀ c, lf c m' = lf c m := fun c => by unfold lf; rw [hm]
  have e4 : ∀ c, lp c m' = lp c m := fun c => by unfold lp; rw [hm]
  unfold rl
  simp only [hx, hm, e1, e2, e3, e4]
  rw [jx 22 (by decide) (by decide), jx 0 (by decide) (by decide), jm 26 (by decide)]
  exact ⟨A, B0, B1, B2, B3, F, Rr, P7, P5, Z, S, F0, F1, F2, K5, K4, G, H, Q, J⟩
theorem ml_p (h : ai_H) (a b p : Nat) (c : Int64) : ai_gJ (ml h a b c) 25 0 p = ai_gJ h 25 0 p + (if p = a then -c else 0) + (if p = b then c else 0) := by
  unfold ml
  simp only [ai_gI_wI, ai_gI_wJ, ai_gJ_wI, ai_gJ_wJ, Nat.reduceEqDiff, false_and, and_false, true_and, and_true, and_self, if_false, if_true, ↓reduceIte]
  by_cases e1 : p = b
  · subst e1
    by_cases e2 : p = a
    · subst e2
      rw [if_pos rfl, if_pos rfl, if_pos rfl, if_pos rfl, Int64.sub_eq_add_neg]
    · rw [if_pos rfl, if_neg e2, if_neg e2, if_pos rfl, sf_add0]
  · rw [if_neg e1, if_neg e1, sf_add0]
    by_cases e2 : p = a
    · subst e2
      rw [if_pos rfl, if_pos rfl, Int64.sub_eq_add_neg]
    · rw [if_neg e2, if_neg e2, sf_add0]
theorem ml_tot (h : ai_H) {a b : Nat} (ha : a < 12) (hb : b < 12) (c : Int64) : ai_tot (fun p => ai_gJ (ml h a b c) 25 0 p) 12 = ai_tot (fun p => ai_gJ h 25 0 p) 12 := by
  have e : ai_tot (fun p => ai_gJ (ml h a b c) 25 0 p) 12 = ai_tot (fun p => ai_gJ h 25 0 p + (if p = a then -c else 0) + (if p = b then c else 0)) 12 := tot_eq fun p _ => ml_p h a b p c
  have e2 : ai_tot (fun p => if p = a then -c else 0) 12 = -c := (tot_one 12).trans (if_pos ha)
  have e3 : ai_tot (fun p => if p = b then c else 0) 12 = c := (tot_one 12).trans (if_pos hb)
  rw [e, tot_add, tot_add, e2, e3, Int64.add_assoc, Int64.add_left_neg, sf_add0]
theorem ml_I (h : ai_H) (a b : Nat) (c : Int64) (t : Nat) : ai_gI (ml h a b c) t = ai_gI h t := rfl
theorem ml_J (h : ai_H) (a b : Nat) (c : Int64) {t : Nat} (ht : ¬ t = 25) : ai_gJ (ml h a b c) t = ai_gJ h t := by
  funext i k
  unfold ml
  rw [ai_gJ_wJ, if_neg (fun q => ht q.1), ai_gJ_wJ, if_neg (fun q => ht q.1)]
theorem rl_ml {x m : ai_H} {N W T D C a b : Nat} (ha : a < 7) (hb : b < 7) (c : Int64) (R : rl x m N W T D C) : rl (mv_x x a b c) (ml m a b c) N W T D C := by
  have P7 : rl_E 7 (fun p => ai_gJ x 10 0 p) (fun p => ai_gJ m 25 0 p) := R.2.2.2.2.2.2.2.1
  have P5 : rl_E 5 (fun p => ai_gJ x 11 0 p) (fun p => ai_gJ m 25 0 (7 + p)) := R.2.2.2.2.2.2.2.2.1
  have Z : ai_tot (fun p => ai_gJ m 25 0 p) 12 = 0 := R.2.2.2.2.2.2.2.2.2.1
  refine rl_mon R (fun _ => rfl) (fun t => ml_I _ _ _ _ t) (fun t h1 _ => ?_) (fun t ht => ml_J _ _ _ _ ht) (fun p hp => ?_) (fun p hp => ?_) ((ml_tot m (by omega) (by omega) c).trans Z)
  · funext i k
    unfold mv_x
    rw [ai_gJ_wJ, if_neg (fun q => h1 q.1), ai_gJ_wJ, if_neg (fun q => h1 q.1)]
  · have e1 : ai_gJ x 10 0 p = ai_gJ m 25 0 p := P7 p hp
    have e2 : ai_gJ x 10 0 a = ai_gJ m 25 0 a := P7 a ha
    have e3 : ai_gJ x 10 0 b = ai_gJ m 25 0 b := P7 b hb
    unfold mv_x ml
    simp only [ai_gI_wI, ai_gI_wJ, ai_gJ_wI, ai_gJ_wJ, Nat.reduceEqDiff, false_and, and_false, true_and, and_true, and_self, if_false, if_true, ↓reduceIte]
    rw [e1, e2, e3]
  · have e1 : ai_gJ x 11 0 p = ai_gJ m 25 0 (7 + p) := P5 p hp
    rw [ml_p, if_neg (by omega), if_neg (by omega), sf_add0, sf_add0, ← e1]
    unfold mv_x
    simp only [ai_gI_wI, ai_gI_wJ, ai_gJ_wI, ai_gJ_wJ, Nat.reduceEqDiff, false_and, and_false, true_and, and_true, and_self, if_false, if_true, ↓reduceIte]
/-- from a buyer -/
theorem rl_cf {x m : ai_H} {N W T D C y p : Nat} (hy : y < 5) (hp : p < 7) (v : Int32) (R : rl x m N W T D C) : rl (cf_x x y p v) (ml m (7 + y) p v.toInt64) N W T D C := by
  have P7 : rl_E 7 (fun p => ai_gJ x 10 0 p) (fun p => ai_gJ m 25 0 p) := R.2.2.2.2.2.2.2.1
  have P5 : rl_E 5 (fun p => ai_gJ x 11 0 p) (fun p => ai_gJ m 25 0 (7 + p)) := R.2.2.2.2.2.2.2.2.1
  have Z : ai_tot (fun p => ai_gJ m 25 0 p) 12 = 0 := R.2.2.2.2.2.2.2.2.2.1
  refine rl_mon R (fun _ => rfl) (fun t => ml_I _ _ _ _ t) (fun t h1 h2 => ?_) (fun t ht => ml_J _ _ _ _ ht) (fun q hq => ?_) (fun q hq => ?_) ((ml_tot m (by omega) (by omega) _).trans Z)
  · funext i k
    unfold cf_x
    rw [ai_gJ_wJ, if_neg (fun q => h1 q.1), ai_gJ_wJ, if_neg (fun q => h2 q.1)]
  · have e1 : ai_gJ x 10 0 q = ai_gJ m 25 0 q := P7 q hq
    have e2 : ai_gJ x 10 0 p = ai_gJ m 25 0 p := P7 p hp
    rw [ml_p, if_neg (by omega), sf_add0]
    unfold cf_x
    simp only [ai_gI_wI, ai_gI_wJ, ai_gJ_wI, ai_gJ_wJ, Nat.reduceEqDiff, false_and, and_false, true_and, and_true, and_self, if_false, if_true, ↓reduceIte]
    by_cases e : q = p
    · subst e
      rw [if_pos rfl, if_pos rfl, e1]
    · rw [if_neg e, if_neg e, sf_add0, e1]
  · have e1 : ai_gJ x 11 0 q = ai_gJ m 25 0 (7 + q) := P5 q hq
    rw [ml_p, if_neg (c := 7 + q = p) (by omega), sf_add0, ← e1]
    unfold cf_x
    simp only [ai_gI_wI, ai_gI_wJ, ai_gJ_wI, ai_gJ_wJ, Nat.reduceEqDiff, false_and, and_false, true_and, and_true, and_self, if_false, if_true, ↓reduceIte]
    by_cases e : q = y
    · subst e
      rw [if_pos rfl, if_pos rfl, Int64.sub_eq_add_neg]
    · rw [if_neg e, if_neg (by omega), sf_add0]
/-- back to a buyer -/
theorem rl_bk {x m : ai_H} {N W T D C y p : Nat} (hy : y < 5) (hp : p < 7) (v : Int64) (R : rl x m N W T D C) : rl (ad (ad x 10 p (-v)) 11 y v) (ml m p (7 + y) v) N W T D C := by
  have P7 : rl_E 7 (fun p => ai_gJ x 10 0 p) (fun p => ai_gJ m 25 0 p) := R.2.2.2.2.2.2.2.1
  have P5 : rl_E 5 (fun p => ai_gJ x 11 0 p) (fun p => ai_gJ m 25 0 (7 + p)) := R.2.2.2.2.2.2.2.2.1
  have Z : ai_tot (fun p => ai_gJ m 25 0 p) 12 = 0 := R.2.2.2.2.2.2.2.2.2.1
  refine rl_mon R (fun _ => rfl) (fun t => ml_I _ _ _ _ t) (fun t h1 h2 => ?_) (fun t ht => ml_J _ _ _ _ ht) (fun q hq => ?_) (fun q hq => ?_) ((ml_tot m (by omega) (by omega) _).trans Z)
  · funext i k
    rw [ad_J, if_neg (fun q => h2 q.1), ad_J, if_neg (fun q => h1 q.1)]
  · have e1 : ai_gJ x 10 0 q = ai_gJ m 25 0 q := P7 q hq
    have e2 : ai_gJ x 10 0 p = ai_gJ m 25 0 p := P7 p hp
    rw [ml_p, if_neg (c := q = 7 + y) (by omega), sf_add0, ad_J, if_neg (fun z => absurd z.1 (by decide)), ad_J]
    by_cases e : q = p
    · subst e
      rw [if_pos ⟨rfl, rfl, rfl⟩, if_pos rfl, e1]
    · rw [if_neg (fun z => e z.2.2), if_neg e, sf_add0, e1]
  · have e1 : ai_gJ x 11 0 q = ai_gJ m 25 0 (7 + q) := P5 q hq
    have e2 : ai_gJ (ad x 10 p (-v)) 11 0 y = ai_gJ x 11 0 y := by rw [ad_J, if_neg (fun z => absurd z.1 (by decide))]
    have e3 : ai_gJ (ad x 10 p (-v)) 11 0 q = ai_gJ x 11 0 q := by rw [ad_J, if_neg (fun z => absurd z.1 (by decide))]
    rw [ml_p, if_neg (c := 7 + q = p) (by omega), sf_add0, ad_J, e2, e3]
    by_cases e : q = y
    · subst e
      rw [if_pos ⟨rfl, rfl, rfl⟩, if_pos rfl, e1]
    · rw [if_neg (fun z => e z.2.2), if_neg (by omega), sf_add0, e1]
/-- advances -/
theorem rl_dr {x m : ai_H} {N W T D C s a : Nat} {v v' : Int64} (ha : a < 4) (hv : v = v') (R : rl x m N W T D C) : rl (ai_wJ x 22 s a v) (ai_wJ m 26 0 (4 * s + a) v') N W T D C := by
  obtain ⟨A, B0, B1, B2, B3, F, Rr, P7, P5, Z, S, F0, F1, F2, K5, K4, G, H, Q, J⟩ := id R
  subst hv
  unfold rl
  simp only [ai_gI_wI, ai_gI_wJ, ai_gJ_wI, ai_gJ_wJ, Nat.reduceEqDiff, false_and, and_false, true_and, and_true, and_self, if_false, if_true, ↓reduceIte, not_false_eq_true, li_I, lq_I, lf_I, lp_I, li_J, lq_J, lf_J, lp_J, liu00, liu01, liu02, liu03, liu04, liu10, liu11, liu12, liu13, liu14, liu20, liu21, liu22, liu23, liu24, liu30, liu31, liu32, liu33, liu34, liu40, liu41, liu42, liu43, liu44, lqu00, lqu01, lqu02, lqu10, lqu11, lqu12, lqu20, lqu21, lqu22, lfu00, lfu01, lfu02, lfu10, lfu11, lfu12, lfu20, lfu21, lfu22, lpu00, lpu01, lpu10, lpu11]
  refine ⟨A, B0, B1, B2, B3, F, Rr, P7, P5, Z, S, F0, F1, F2, K5, ?_, G, H, Q, J⟩
  intro s' a' hs ha'
  have e : ai_gJ x 22 s' a' = ai_gJ m 26 0 (4 * s' + a') := K4 s' a' hs ha'
  show (if s' = s ∧ a' = a then v else ai_gJ x 22 s' a') = if 4 * s' + a' = 4 * s + a then v else ai_gJ m 26 0 (4 * s' + a')
  by_cases g : s' = s ∧ a' = a
  · rw [if_pos g, if_pos (by omega)]
  · rw [if_neg g, if_neg (by omega), e]
theorem rl_jb {x m : ai_H} {N W T D C : Nat} (R : rl x m N W T D C) (hC : C < 512) : ∃ J, J < 582 ∧ ai_gI x 4 0 2 = nI J ∧ J ≤ C + ai_cz (fun i => ai_gI x 14 i 3) N + ai_cw (fun w => ai_gI x 19 w 3) W := by
  obtain ⟨A, B0, B1, B2, B3, F, Rr, P7, P5, Z, S, F0, F1, F2, K5, K4, G, H, Q, J⟩ := id R
  obtain ⟨j, j1, j2, -⟩ := J
  have h1 : N ≤ 10 := A.2.2.1
  have h2 : W ≤ 30 := A.2.2.2.2.2.1
  have z1 := cz_le (fun i => ai_gI x 14 i 3) N
  have z2 := cw_le (fun w => ai_gI x 19 w 3) W
  exact ⟨j, by omega, j2, j1⟩
theorem x_44 {k L : Nat} {x m : ai_H} {N W T D C i p : Nat} (R : rl x m N W T D C) (hT : T < 2 ^ 29) (hC : C < 512) (hi : i < N) (hp : p < 7) (b : Int32) (r : ai_A) : ai_E 44 [ai_r 0 0, ai_i (nI i), ai_i (nI p), ai_i b] (263, k, L, ai_R0) x r ↔ r = (Sum.inl none, (263, k, L, ai_R0), st_x x i p b) := by
  obtain ⟨J, hJ, hj, -⟩ := rl_jb R hC
  have hN : N ≤ 10 := R.1.2.2.1
  obtain ⟨a, ha, q1, q2⟩ := rl_sl R hi
  unfold st_x
  rcases rl_own R hT hi with ⟨a', ha', o1, o2, -⟩ | ⟨s, hs, o1, o2, -⟩
  · rw [if_pos o1, q1, pn_nI (by omega)]
    exact x_44n (by omega) hp ha hJ hj q1 o1 r
  · rw [if_neg (by rw [o1]; exact sf_m1 (by omega)), o1, q1, pn_nI (by omega), pn_nI (by omega)]
    exact x_44s (by omega) hp ha hs hJ hj q1 o1 r
/-- to note what is taken off a bill -/
abbrev jn_o (x : ai_H) (N W C C' i c : Nat) : Prop := ¬ c = 0 → ∀ j, ai_gI x 4 0 2 = nI j → j ≤ C + ai_cz (fun i => ai_gI x 14 i 3) N + ai_cw (fun w => ai_gI x 19 w 3) W → j + 1 ≤ C' + ai_cz (ai_up (fun i => ai_gI x 14 i 3) i (ai_gI x 14 i 3 - nI c)) N + ai_cw (fun w => ai_gI x 19 w 3) W
theorem rl_tk {x m : ai_H} {N W T D C C' i q c : Nat} (R : rl x m N W T D C) (hC : C ≤ C') (hi : i < N) (hq : ai_gI x 14 i 3 = nI q) (hc : c ≤ q) (hq0 : q ≤ 5000) (hS : jn_o x N W C C' i c) (hb : C < 2 ^ 29) : rl (tk_x x i (nI c)) (ai_wI m 23 0 (5 * i + 2) (ai_gI m 23 0 (5 * i + 2) - nI c)) N W T D C' := by
  obtain ⟨A, B0, B1, B2, B3, F, Rr, P7, P5, Z, S, F0, F1, F2, K5, K4, G, H, Q, J⟩ := id R
  obtain ⟨n1, n2, n3, n4, n5, n6, n7, n8, n9⟩ := id A
  obtain ⟨q', q0, q1, q2⟩ := rl_ce R hi
  have qq : q' = q := (nI_eq (by omega) (by omega)).mp (q1.symm.trans hq)
  subst qq
  by_cases c0 : c = 0
  · subst c0
    have e1 : ai_gI x 14 i 3 - nI 0 = ai_gI x 14 i 3 := by rw [nI_0, Int32.sub_zero]
    have e2 : ai_gI m 23 0 (5 * i + 2) - nI 0 = ai_gI m 23 0 (5 * i + 2) := by rw [nI_0, Int32.sub_zero]
    have e3 : ai_wI x 14 i 3 (ai_gI x 14 i 3) = x := sm_wI rfl
    have e4 : ai_wI m 23 0 (5 * i + 2) (ai_gI m 23 0 (5 * i + 2)) = m := sm_wI rfl
    unfold tk_x
    rw [if_neg (by decide), e1, e2, e3, e4]
    exact rl_mono R hC
  · have g0 : 0 < nI c := nI_lt (a := 0) (by omega) (by omega)
    obtain ⟨j, j1, j2, j3, j4⟩ := id J
    have jb := hS c0 j j2 j1
    have z1 := cz_le (fun i => ai_gI x 14 i 3) N
    have z2 := cw_le (fun w => ai_gI x 19 w 3) W
    unfold tk_x
    rw [if_pos g0, j2, pn_nI (by omega), nI_1]
    unfold rl
    simp only [ai_gI_wI, ai_gI_wJ, ai_gJ_wI, ai_gJ_wJ, Nat.reduceEqDiff, false_and, and_false, true_and, and_true, and_self, if_false, if_true, ↓reduceIte, not_false_eq_true, li_I, lq_I, lf_I, lp_I, li_J, lq_J, lf_J, lp_J, liu00, liu01, liu02, liu03, liu04, liu10, liu11, liu12, liu13, liu14, liu20, liu21, liu22, liu23, liu24, liu30, liu31, liu32, liu33, liu34, liu40, liu41, liu42, liu43, liu44, lqu00, lqu01, lqu02, lqu10, lqu11, lqu12, lqu20, lqu21, lqu22, lfu00, lfu01, lfu02, lfu10, lfu11, lfu12, lfu20, lfu21, lfu22, lpu00, lpu01, lpu10, lpu11]
    exact ⟨A, B0, B1, rl_B_up (q := q' - c) B2 (by omega) (by rw [q1, pk_sub hc]) (by rw [q2, pk_sub hc]), B3, F, Rr, P7, P5, Z, S, F0, F1, F2, K5, K4, G, H, rl_Q_mono Q hC, rl_J_add j3 j4 (by omega) hi rfl jb⟩
theorem lc_min (b v : Int64) : (if v < b then b - v else 0) = b - ai_minL b v ∧ b - (if v < b then b - v else 0) = ai_minL b v := by
  unfold ai_minL
  have e : ∀ a : Int64, a - a = 0 := fun a => Int64.sub_self a
  by_cases g : v < b
  · rw [if_pos g, if_pos g]
    refine ⟨rfl, ?_⟩
    rw [Int64.sub_eq_add_neg, Int64.neg_sub, Int64.sub_eq_add_neg, Int64.add_comm v (-b), ← Int64.add_assoc, Int64.add_right_neg, Int64.zero_add]
  · rw [if_neg g, if_neg g]
    exact ⟨(e b).symm, Int64.sub_zero b⟩
theorem rl_lcd {x m : ai_H} {N W T D C s a : Nat} (hs : s < 3) (ha : a < 4) (c : Int32) (R : rl x m N W T D C) : rl (dr_x x s a c.toInt64) (lc_d m s a c) N W T D C := by
  have K4 : rl_K 4 (fun s a => ai_gJ x 22 s a) (fun j => ai_gJ m 26 0 j) := R.2.2.2.2.2.2.2.2.2.2.2.2.2.2.2.1
  have e : ai_gJ x 22 s a = ai_gJ m 26 0 (4 * s + a) := K4 s a hs ha
  obtain ⟨l1, l2⟩ := lc_min c.toInt64 (ai_gJ m 26 0 (4 * s + a))
  unfold dr_x lc_d lc_o
  rw [e, l2, l1]
  exact rl_ml (by omega) (by omega) _ (rl_dr ha rfl R)
theorem lc_sw (m : ai_H) (i p w : Nat) (c : Int32) : lc_n m i p w c = ml (ai_wI m 23 0 (5 * i + 2) (ai_gI m 23 0 (5 * i + 2) - c)) p w c.toInt64 := rfl
theorem rl_lt {x m : ai_H} {N W T D C C' i q c p : Nat} (R : rl x m N W T D C) (hT : T < 2 ^ 29) (hp : p < 7) (hC : C ≤ C') (hi : i < N) (hq : ai_gI x 14 i 3 = nI q) (hc : c ≤ q) (hq0 : q ≤ 5000) (hS : jn_o x N W C C' i c) (hb : C < 2 ^ 29) : rl (st_x x i p (nI c)) (lt_x m i p (nI c)) N W T D C' := by
  have R1 := rl_tk R hC hi hq hc hq0 hS hb
  obtain ⟨a, ha, q1, q2⟩ := rl_sl R hi
  unfold st_x lt_x
  rw [lc_sw]
  rcases rl_own R hT hi with ⟨a', ha', o1, o2, o3, o4, o5⟩ | ⟨s, hs, o1, o2, o3, o4⟩
  · have ea : a' = a := (nI_eq (by omega) (by omega)).mp (o4.symm.trans q1)
    subst ea
    rw [if_pos o1, o2, if_pos (of_eq_true (sf_3le ha)), q1, pn_nI (by omega)]
    exact rl_ml hp (by omega) _ R1
  · rw [if_neg (by rw [o1]; exact sf_m1 (by omega)), o1, o2, if_neg (fun z => by rw [sf_3nle hs] at z; exact z), q1, pn_nI (n := s) (by omega), pn_nI (n := 4 + s) (by omega), q2, pn_nI (n := a) (by omega), show 4 + s - 4 = s by omega]
    exact rl_lcd hs ha _ (rl_ml hp (by omega) _ R1)
theorem ml_fm {x h : ai_H} {a b : Nat} {c : Int64} (f : fm x h) : fm x (ml h a b c) := fm_J (by decide) (fm_J (by decide) f)
theorem lcd_fm {x h : ai_H} {s a : Nat} {c : Int32} (f : fm x h) : fm x (lc_d h s a c) := ml_fm (fm_J (by decide) f)
theorem lcn_fm {x h : ai_H} {n p w : Nat} {c : Int32} (f : fm x h) : fm x (lc_n h n p w c) := fm_I (by decide) (ml_fm f)
theorem lt_fm {x h : ai_H} {n p : Nat} {c : Int32} (f : fm x h) : fm x (lt_x h n p c) := by
  unfold lt_x
  split
  · exact lcn_fm f
  · exact lcd_fm (lcn_fm f)
