/-! Notice, registration, giving back, on both sides (written by mknote2.py) -/
theorem e_602 {k L T d s : Nat} {v : Nat → Int32} {q : Int32} (R : rl_r T v q) (hs : s < 3) (hT : T < 2 ^ 29) (hq : q = nI d) (hd : d < 64) (h : ai_H) (r : ai_A) : ai_E 602 [ai_i (nI d), ai_i (nI (s + 1))] (263, k, L, ai_R0) h r ↔ r = (Sum.inl (some (ai_i (if v s = 0 then 0 else 1))), (263, k, L, ai_R0), h) := by
  obtain ⟨d', h0, h1, h2⟩ := r_ha R hs hT
  have : d' = d := r_d h0 hd h1 hq
  subst this
  rw [m_602 (by omega) hd, h2]
  by_cases g : v s = 0
  · rw [if_pos g, decide_eq_false (fun z => z g)]
    exact Iff.rfl
  · rw [if_neg g, decide_eq_true g]
    exact Iff.rfl
theorem rl_not {x m : ai_H} {N W T D C n s d : Nat} (R : rl x m N W T D C) (hT : T < 2 ^ 28) (hn : n < N) (hs : s < 3) (z16 : ¬ ai_gI x 16 n s = 0) (z : ai_gI x 17 n s = 0) (d6 : d < 64) (hd : ai_gI m 24 0 (3 * n) = nI d) : rl (ai_wI (ai_wI x 0 0 12 (nI (T + 1))) 17 n s (nI (T + 1))) (ai_wI m 24 0 (3 * n) (nI (d + (s + 1) * dg_pw 3 1 d))) N W (T + 1) D C := by
  obtain ⟨A, B0, B1, B2, B3, F, Rr, P7, P5, Z, S, F0, F1, F2, K5, K4, G, H, Q, J⟩ := id R
  obtain ⟨n1, n2, n3, n4, n5, n6, n7, n8, n9, n10⟩ := id A
  obtain ⟨r0, r1, r2, w⟩ := rl_row R hn
  obtain ⟨d', c0, c1, c2⟩ := r_wi r0 hs z (by omega)
  have : d' = d := r_d c0 d6 c1 hd
  subst this
  unfold rl
  simp only [ai_gI_wI, ai_gI_wJ, ai_gJ_wI, ai_gJ_wJ, Nat.reduceEqDiff, false_and, and_false, true_and, and_true, and_self, if_false, if_true, ↓reduceIte, not_false_eq_true, li_I, lq_I, lf_I, lp_I, li_J, lq_J, lf_J, lp_J, liu00, liu01, liu02, liu03, liu04, liu10, liu11, liu12, liu13, liu14, liu20, liu21, liu22, liu23, liu24, liu30, liu31, liu32, liu33, liu34, liu40, liu41, liu42, liu43, liu44, lqu00, lqu01, lqu02, lqu10, lqu11, lqu12, lqu20, lqu21, lqu22, lfu00, lfu01, lfu02, lfu10, lfu11, lfu12, lfu20, lfu21, lfu22, lpu00, lpu01, lpu10, lpu11]
  refine ⟨⟨n1, n2, n3, n4, n5, n6, rfl, n8, n9, n10⟩, B0, B1, B2, B3, F, ?_, P7, P5, Z, S, F0, F1, F2, K5, K4, G, H, Q, J⟩
  refine R_set (n := n) (s := s) Rr (Nat.le_succ T) (fun _ _ => rfl) (fun _ _ => rfl) (fun i c => u2_ne (fun i j => ai_gI x 17 i j) s _ c) (fun _ _ => rfl) (fun i c => ai_up_ne _ _ c) (fun _ _ => rfl) (fun _ _ => rfl) (r_eq (u2_at (fun i j => ai_gI x 17 i j) n s _) (ai_up_at _ _ _) c2) (r_mono r1 (Nat.le_succ T)) (r_mono r2 (Nat.le_succ T)) (fun u hu => ?_)
  show (ai_gI x 16 n u = 0 → ai_u2 (fun i j => ai_gI x 17 i j) n s (nI (T + 1)) n u = 0 ∧ ai_gI x 18 n u = 0) ∧ (ai_gI x 15 n u = 0 → ai_gI x 16 n u = 0)
  rw [u2_v]
  by_cases c : u = s
  · subst c
    exact ⟨fun z => absurd z z16, (w u hu).2⟩
  · rw [if_neg c]
    exact w u hu
theorem t_not {L k t c y n s : Nat} {h : ai_H} {N W T D C : Nat} {j20 j21 j22 j23 j24 j25 : Option ai_V} (R : rl h h N W T D C) (hT : T < 2 ^ 28) (hn : n < N) (hs : s < 3) : tg L t k h N T C (fun r => ai_X 613 652 (bl t c 5 y n s j20 j21 j22 j23 j24 j25) [] (263, k, L, ai_R0) h r) := by
  obtain ⟨n1, n2, n3, n4, n5, n6, n7, n8, n9, n10⟩ := R.1
  obtain ⟨r0, r1, r2, w⟩ := rl_row R hn
  obtain ⟨d, c0, c1, -⟩ := r_wo r0 hs
  obtain ⟨d2, b0, b1, -⟩ := r_wo r2 hs
  have e2 := fun h r => e_602 (k := k) (L := L) r2 hs (by omega) b1 b0 h r
  have e0 := fun h r => e_602 (k := k) (L := L) r0 hs (by omega) c1 c0 h r
  by_cases g16 : ai_gI h 16 n s = 0
  · rw [if_pos g16] at e2
    have eX := fun r => w_3_e3 (p2 := 0) (p3 := 0) (fun r => x_5_3 (k := k) (L := L) n1 (by omega) hn hs (Or.inl g16) r) r
    exact tg_mk (fun r => b5_no (j20 := j20) (j21 := j21) n2 hn n3 b1 c1 e2 (Or.inl rfl) eX r) (by omega) (Nat.le_refl N) (Nat.le_succ T) (fun _ => rfl) (rl_mono R (Nat.le_succ C))
  · rw [if_neg g16] at e2
    by_cases g : ai_gI h 17 n s = 0
    · rw [if_pos g] at e0
      have fF : fm h (ai_wI h 24 0 (3 * n) (nI (d + (s + 1) * dg_pw 3 1 d))) := fm_I (by decide) (fm_rf h)
      have RF := rl_ag (ag_fm fF) (ag_m_rf h) R
      have z16 : ¬ ai_gI (ai_wI h 24 0 (3 * n) (nI (d + (s + 1) * dg_pw 3 1 d))) 16 n s = 0 := by rw [fI (by decide)]; exact g16
      have z : ai_gI (ai_wI h 24 0 (3 * n) (nI (d + (s + 1) * dg_pw 3 1 d))) 17 n s = 0 := by rw [fI (by decide)]; exact g
      have R1 := rl_not RF hT hn hs z16 z c0 c1
      have wok := fun V Y e611 hV r => b5_ok (L := L) (k := k) (t := t) (c := c) (y := y) (s := s) (j20 := j20) (j21 := j21) (j22 := j22) (j23 := j23) (j24 := j24) (j25 := j25) (Y := Y) (V := V) n2 hn n3 b1 c1 e2 e0 c0 e611 hV r
      generalize ai_wI h 24 0 (3 * n) (nI (d + (s + 1) * dg_pw 3 1 d)) = Fh at *
      have t12 : ai_gI Fh 0 0 12 + 1 = nI (T + 1) := by rw [RF.1.2.2.2.2.2.2.1]; exact nI_1 T
      have eX := fun r => w_3 (p2 := 0) (p3 := 0) (fun r => x_5_ok (k := k) (L := L) RF.1.1 (by omega) hn hs z16 z r) r
      rw [t12] at eX
      have fY : fx Fh (ai_wI (ai_wI Fh 0 0 12 (nI (T + 1))) 17 n s (nI (T + 1))) := fx_I (by decide) (fx_I (by decide) (fx_rf Fh))
      have R2 := rl_ag (ag_x_rf _) (ag_m_fx fY) R1
      generalize ai_wI (ai_wI Fh 0 0 12 (nI (T + 1))) 17 n s (nI (T + 1)) = Y at *
      exact tg_mk (fun r => wok _ Y eX (rl_V R2 (by omega) hn) r) (by omega) (Nat.le_refl N) (Nat.le_refl _) (fun j => (fY 99 (by decide) 0 j).1.trans (fF 99 (Or.inr rfl) 0 j).1) (rl_mono R2 (Nat.le_succ C))
    · rw [if_neg g] at e0
      have eX := fun r => w_3_e3 (p2 := 0) (p3 := 0) (fun r => x_5_3 (k := k) (L := L) n1 (by omega) hn hs (Or.inr g) r) r
      exact tg_mk (fun r => b5_no (j20 := j20) (j21 := j21) n2 hn n3 b1 c1 e2 (Or.inr ⟨rfl, e0⟩) eX r) (by omega) (Nat.le_refl N) (Nat.le_succ T) (fun _ => rfl) (rl_mono R (Nat.le_succ C))
theorem rl_reg {x m : ai_H} {N W T D C n s d : Nat} (R : rl x m N W T D C) (hT : T < 2 ^ 28) (hn : n < N) (hs : s < 3) (z16 : ¬ ai_gI x 16 n s = 0) (z : ai_gI x 18 n s = 0) (d6 : d < 64) (hd : ai_gI m 24 0 (3 * n + 1) = nI d) : rl (ai_wI (ai_wI x 0 0 12 (nI (T + 1))) 18 n s (nI (T + 1))) (ai_wI m 24 0 (3 * n + 1) (nI (d + (s + 1) * dg_pw 3 1 d))) N W (T + 1) D C := by
  obtain ⟨A, B0, B1, B2, B3, F, Rr, P7, P5, Z, S, F0, F1, F2, K5, K4, G, H, Q, J⟩ := id R
  obtain ⟨n1, n2, n3, n4, n5, n6, n7, n8, n9, n10⟩ := id A
  obtain ⟨r0, r1, r2, w⟩ := rl_row R hn
  obtain ⟨d', c0, c1, c2⟩ := r_wi r1 hs z (by omega)
  have : d' = d := r_d c0 d6 c1 hd
  subst this
  unfold rl
  simp only [ai_gI_wI, ai_gI_wJ, ai_gJ_wI, ai_gJ_wJ, Nat.reduceEqDiff, false_and, and_false, true_and, and_true, and_self, if_false, if_true, ↓reduceIte, not_false_eq_true, li_I, lq_I, lf_I, lp_I, li_J, lq_J, lf_J, lp_J, liu00, liu01, liu02, liu03, liu04, liu10, liu11, liu12, liu13, liu14, liu20, liu21, liu22, liu23, liu24, liu30, liu31, liu32, liu33, liu34, liu40, liu41, liu42, liu43, liu44, lqu00, lqu01, lqu02, lqu10, lqu11, lqu12, lqu20, lqu21, lqu22, lfu00, lfu01, lfu02, lfu10, lfu11, lfu12, lfu20, lfu21, lfu22, lpu00, lpu01, lpu10, lpu11]
  refine ⟨⟨n1, n2, n3, n4, n5, n6, rfl, n8, n9, n10⟩, B0, B1, B2, B3, F, ?_, P7, P5, Z, S, F0, F1, F2, K5, K4, G, H, Q, J⟩
  refine R_set (n := n) (s := s) Rr (Nat.le_succ T) (fun _ _ => rfl) (fun _ _ => rfl) (fun _ _ => rfl) (fun i c => u2_ne (fun i j => ai_gI x 18 i j) s _ c) (fun _ _ => rfl) (fun i c => ai_up_ne _ _ c) (fun _ _ => rfl) (r_mono r0 (Nat.le_succ T)) (r_eq (u2_at (fun i j => ai_gI x 18 i j) n s _) (ai_up_at _ _ _) c2) (r_mono r2 (Nat.le_succ T)) (fun u hu => ?_)
  show (ai_gI x 16 n u = 0 → ai_gI x 17 n u = 0 ∧ ai_u2 (fun i j => ai_gI x 18 i j) n s (nI (T + 1)) n u = 0) ∧ (ai_gI x 15 n u = 0 → ai_gI x 16 n u = 0)
  rw [u2_v]
  by_cases c : u = s
  · subst c
    exact ⟨fun z => absurd z z16, (w u hu).2⟩
  · rw [if_neg c]
    exact w u hu
theorem t_reg {L k t c y n s : Nat} {h : ai_H} {N W T D C : Nat} {j20 j21 j22 j23 j24 j25 : Option ai_V} (R : rl h h N W T D C) (hT : T < 2 ^ 28) (hn : n < N) (hs : s < 3) : tg L t k h N T C (fun r => ai_X 613 652 (bl t c 6 y n s j20 j21 j22 j23 j24 j25) [] (263, k, L, ai_R0) h r) := by
  obtain ⟨n1, n2, n3, n4, n5, n6, n7, n8, n9, n10⟩ := R.1
  obtain ⟨r0, r1, r2, w⟩ := rl_row R hn
  obtain ⟨d, c0, c1, -⟩ := r_wo r1 hs
  obtain ⟨d2, b0, b1, -⟩ := r_wo r2 hs
  have e2 := fun h r => e_602 (k := k) (L := L) r2 hs (by omega) b1 b0 h r
  have e0 := fun h r => e_602 (k := k) (L := L) r1 hs (by omega) c1 c0 h r
  by_cases g16 : ai_gI h 16 n s = 0
  · rw [if_pos g16] at e2
    have eX := fun r => w_4_e3 (p2 := 0) (p3 := 0) (fun r => x_6_3 (k := k) (L := L) n1 (by omega) hn hs (Or.inl g16) r) r
    exact tg_mk (fun r => b6_no (j20 := j20) (j21 := j21) n2 hn n3 b1 c1 e2 (Or.inl rfl) eX r) (by omega) (Nat.le_refl N) (Nat.le_succ T) (fun _ => rfl) (rl_mono R (Nat.le_succ C))
  · rw [if_neg g16] at e2
    by_cases g : ai_gI h 18 n s = 0
    · rw [if_pos g] at e0
      have fF : fm h (ai_wI h 24 0 (3 * n + 1) (nI (d + (s + 1) * dg_pw 3 1 d))) := fm_I (by decide) (fm_rf h)
      have RF := rl_ag (ag_fm fF) (ag_m_rf h) R
      have z16 : ¬ ai_gI (ai_wI h 24 0 (3 * n + 1) (nI (d + (s + 1) * dg_pw 3 1 d))) 16 n s = 0 := by rw [fI (by decide)]; exact g16
      have z : ai_gI (ai_wI h 24 0 (3 * n + 1) (nI (d + (s + 1) * dg_pw 3 1 d))) 18 n s = 0 := by rw [fI (by decide)]; exact g
      have R1 := rl_reg RF hT hn hs z16 z c0 c1
      have wok := fun V Y e611 hV r => b6_ok (L := L) (k := k) (t := t) (c := c) (y := y) (s := s) (j20 := j20) (j21 := j21) (j22 := j22) (j23 := j23) (j24 := j24) (j25 := j25) (Y := Y) (V := V) n2 hn n3 b1 c1 e2 e0 c0 e611 hV r
      generalize ai_wI h 24 0 (3 * n + 1) (nI (d + (s + 1) * dg_pw 3 1 d)) = Fh at *
      have t12 : ai_gI Fh 0 0 12 + 1 = nI (T + 1) := by rw [RF.1.2.2.2.2.2.2.1]; exact nI_1 T
      have eX := fun r => w_4 (p2 := 0) (p3 := 0) (fun r => x_6_ok (k := k) (L := L) RF.1.1 (by omega) hn hs z16 z r) r
      rw [t12] at eX
      have fY : fx Fh (ai_wI (ai_wI Fh 0 0 12 (nI (T + 1))) 18 n s (nI (T + 1))) := fx_I (by decide) (fx_I (by decide) (fx_rf Fh))
      have R2 := rl_ag (ag_x_rf _) (ag_m_fx fY) R1
      generalize ai_wI (ai_wI Fh 0 0 12 (nI (T + 1))) 18 n s (nI (T + 1)) = Y at *
      exact tg_mk (fun r => wok _ Y eX (rl_V R2 (by omega) hn) r) (by omega) (Nat.le_refl N) (Nat.le_refl _) (fun j => (fY 99 (by decide) 0 j).1.trans (fF 99 (Or.inr rfl) 0 j).1) (rl_mono R2 (Nat.le_succ C))
    · rw [if_neg g] at e0
      have eX := fun r => w_4_e3 (p2 := 0) (p3 := 0) (fun r => x_6_3 (k := k) (L := L) n1 (by omega) hn hs (Or.inr g) r) r
      exact tg_mk (fun r => b6_no (j20 := j20) (j21 := j21) n2 hn n3 b1 c1 e2 (Or.inr ⟨rfl, e0⟩) eX r) (by omega) (Nat.le_refl N) (Nat.le_succ T) (fun _ => rfl) (rl_mono R (Nat.le_succ C))
theorem r_same {T s : Nat} {v : Nat → Int32} {q : Int32} (h : rl_r T v q) (hs : s < 3) : ∃ d, d < 64 ∧ q = nI d ∧ rl_r T (ai_up v s 0) (nI (dg_wo (s + 1) 3 0 1 d)) := r_wo h hs
/-- the ends of an assignment -/
theorem rl_end {x m : ai_H} {N W T D C n s d0 d1 d2 : Nat} {v : Nat → Int32} (R : rl x m N W T D C) (hn : n < N) (hs : s < 3) (e0 : d0 < 64) (h0 : ai_gI m 24 0 (3 * n) = nI d0) (e1 : d1 < 64) (h1 : ai_gI m 24 0 (3 * n + 1) = nI d1) (e2 : d2 < 64) (h2 : ai_gI m 24 0 (3 * n + 2) = nI d2) (v0 : v 0 = nI (dg_wo (s + 1) 3 0 1 d0)) (v1 : v 1 = nI (dg_wo (s + 1) 3 0 1 d1)) (v2 : v 2 = nI (dg_wo (s + 1) 3 0 1 d2)) : rl (ai_end x n s) (gb v n m 3) N W T D C := by
  obtain ⟨A, B0, B1, B2, B3, F, Rr, P7, P5, Z, S, F0, F1, F2, K5, K4, G, H, Q, J⟩ := id R
  obtain ⟨r0, r1, r2, w⟩ := rl_row R hn
  obtain ⟨d0', a0, a1, a2⟩ := r_wo r0 hs
  obtain ⟨d1', b0, b1, b2⟩ := r_wo r1 hs
  obtain ⟨d2', c0, c1, c2⟩ := r_wo r2 hs
  have : d0' = d0 := r_d a0 e0 a1 h0
  subst this
  have : d1' = d1 := r_d b0 e1 b1 h1
  subst this
  have : d2' = d2 := r_d c0 e2 c1 h2
  subst this
  have eg : gb v n m 3 = ai_wI (ai_wI (ai_wI m 24 0 (3 * n) (v 0)) 24 0 (3 * n + 1) (v 1)) 24 0 (3 * n + 2) (v 2) := rfl
  rw [eg, v0, v1, v2]
  unfold ai_end rl
  simp only [ai_gI_wI, ai_gI_wJ, ai_gJ_wI, ai_gJ_wJ, Nat.reduceEqDiff, false_and, and_false, true_and, and_true, and_self, if_false, if_true, ↓reduceIte, not_false_eq_true, li_I, lq_I, lf_I, lp_I, li_J, lq_J, lf_J, lp_J, liu00, liu01, liu02, liu03, liu04, liu10, liu11, liu12, liu13, liu14, liu20, liu21, liu22, liu23, liu24, liu30, liu31, liu32, liu33, liu34, liu40, liu41, liu42, liu43, liu44, lqu00, lqu01, lqu02, lqu10, lqu11, lqu12, lqu20, lqu21, lqu22, lfu00, lfu01, lfu02, lfu10, lfu11, lfu12, lfu20, lfu21, lfu22, lpu00, lpu01, lpu10, lpu11]
  refine ⟨A, B0, B1, B2, B3, F, ?_, P7, P5, Z, S, F0, F1, F2, K5, K4, G, H, Q, J⟩
  refine R_set (n := n) (s := s) Rr (Nat.le_refl T) (fun _ _ => rfl) (fun i c => u2_ne (fun i j => ai_gI x 16 i j) s _ c) (fun i c => u2_ne (fun i j => ai_gI x 17 i j) s _ c) (fun i c => u2_ne (fun i j => ai_gI x 18 i j) s _ c) (fun i c => ai_up_ne _ _ c) (fun i c => ai_up_ne _ _ c) (fun i c => ai_up_ne _ _ c) (r_eq (u2_at (fun i j => ai_gI x 17 i j) n s _) (ai_up_at _ _ _) a2) (r_eq (u2_at (fun i j => ai_gI x 18 i j) n s _) (ai_up_at _ _ _) b2) (r_eq (u2_at (fun i j => ai_gI x 16 i j) n s _) (ai_up_at _ _ _) c2) (fun u hu => ?_)
  show (ai_u2 (fun i j => ai_gI x 16 i j) n s 0 n u = 0 → ai_u2 (fun i j => ai_gI x 17 i j) n s 0 n u = 0 ∧ ai_u2 (fun i j => ai_gI x 18 i j) n s 0 n u = 0) ∧ (ai_gI x 15 n u = 0 → ai_u2 (fun i j => ai_gI x 16 i j) n s 0 n u = 0)
  rw [u2_v, u2_v, u2_v]
  by_cases c : u = s
  · rw [if_pos c, if_pos c, if_pos c]
    exact ⟨fun _ => ⟨rfl, rfl⟩, fun _ => rfl⟩
  · rw [if_neg c, if_neg c, if_neg c]
    exact w u hu
/-- what the rows become without a factor -/
def wv (m : ai_H) (n s : Nat) (j : Nat) : Int32 := nI (dg_wo (s + 1) 3 0 1 (pn (ai_gI m 24 0 (3 * n + j))))
theorem rl_wv {x m : ai_H} {N W T D C n s : Nat} (R : rl x m N W T D C) (hn : n < N) (hs : s < 3) : rl (ai_end x n s) (gb (wv m n s) n m 3) N W T D C ∧ ∀ j, j < 3 → ∃ d, d < 64 ∧ ai_gI m 24 0 (3 * n + j) = nI d ∧ wv m n s j = nI (dg_wo (s + 1) 3 0 1 d) := by
  obtain ⟨r0, r1, r2, w⟩ := rl_row R hn
  obtain ⟨d0, a0, a1, a2⟩ := r_wo r0 hs
  obtain ⟨d1, b0, b1, b2⟩ := r_wo r1 hs
  obtain ⟨d2, c0, c1, c2⟩ := r_wo r2 hs
  have a1' : ai_gI m 24 0 (3 * n + 0) = nI d0 := a1
  have v0 : wv m n s 0 = nI (dg_wo (s + 1) 3 0 1 d0) := by unfold wv; rw [a1', pn_nI (by omega)]
  have v1 : wv m n s 1 = nI (dg_wo (s + 1) 3 0 1 d1) := by unfold wv; rw [b1, pn_nI (by omega)]
  have v2 : wv m n s 2 = nI (dg_wo (s + 1) 3 0 1 d2) := by unfold wv; rw [c1, pn_nI (by omega)]
  refine ⟨rl_end R hn hs a0 a1 b0 b1 c0 c1 v0 v1 v2, fun j hj => ?_⟩
  have q : j = 0 ∨ j = 1 ∨ j = 2 := by omega
  rcases q with rfl | rfl | rfl
  · exact ⟨d0, a0, a1', v0⟩
  · exact ⟨d1, b0, b1, v1⟩
  · exact ⟨d2, c0, c1, v2⟩
theorem t_giv {L k t c kd y n s : Nat} {h : ai_H} {N W T D C : Nat} {j20 j21 j22 j23 j24 j25 : Option ai_V} (R : rl h h N W T D C) (hT : T < 2 ^ 28) (hn : n < N) (hs : s < 3) : tg L t k h N T C (fun r => ai_X 613 805 (bl t c kd y n s j20 j21 j22 j23 j24 j25) [] (263, k, L, ai_R0) h r) := by
  obtain ⟨n1, n2, n3, n4, n5, n6, n7, n8, n9, n10⟩ := R.1
  obtain ⟨r0, r1, r2, w⟩ := rl_row R hn
  obtain ⟨d2, b0, b1, -⟩ := r_wo r2 hs
  have e2 := fun h r => e_602 (k := k) (L := L) r2 hs (by omega) b1 b0 h r
  obtain ⟨R1, rv⟩ := rl_wv R hn hs
  have fF : fm h (gb (wv h n s) n h 3) := gb_fm 3
  have start := fun r => b7_a (t := t) (c := c) (kd := kd) (y := y) (s := s) (j20 := j20) (j21 := j21) (j22 := j22) (j23 := j23) (j24 := j24) (j25 := j25) n2 hn n3 b1 e2 r
  have loop : ∀ u : Int32, ∀ r, (ai_X 613 825 (bl t c kd y n s (some (ai_i u)) (some (ai_i (nI 0))) j22 j23 j24 j25) [] (263, k, L, ai_R0) h r ↔ ai_X 613 825 (bl t c kd y n s (some (ai_i u)) (some (ai_i (nI 3))) j22 j23 j24 j25) [] (263, k, L, ai_R0) (gb (wv h n s) n h 3) r) := fun u r =>
    sm_it (P := fun j => ai_X 613 825 (bl t c kd y n s (some (ai_i u)) (some (ai_i (nI j))) j22 j23 j24 j25) [] (263, k, L, ai_R0) (gb (wv h n s) n h j) r) (n := 3) (fun j hj => by
      obtain ⟨d, d0, d1, d2⟩ := rv j hj
      exact b7_s (j20 := j20) (j21 := j21) (by rw [gb_t (by decide)]; exact n2) hn n3 hj ((gb_at j (Nat.le_refl j)).trans d1) d0 hs d2 r)
  have RF : rl (gb (wv h n s) n h 3) h N W T D C := rl_ag (ag_fm fF) (ag_m_rf h) R
  obtain ⟨R2, -⟩ := rl_wv RF hn hs
  have f2 : ai_gI (gb (wv h n s) n h 3) 32 0 1 = nI N := by rw [gb_t (by decide)]; exact n2
  have g16F : ai_gI (gb (wv h n s) n h 3) 16 n s = ai_gI h 16 n s := by rw [gb_t (by decide)]
  have g17F : ai_gI (gb (wv h n s) n h 3) 17 n s = ai_gI h 17 n s := by rw [gb_t (by decide)]
  have g18F : ai_gI (gb (wv h n s) n h 3) 18 n s = ai_gI h 18 n s := by rw [gb_t (by decide)]
  generalize gb (wv h n s) n h 3 = Fh at *
  by_cases g : ai_gI h 16 n s = 0
  · rw [if_pos g] at start
    have eX := fun r => w_5_e3 (p2 := 0) (p3 := 0) (fun r => x_7_3 (k := k) (L := L) RF.1.1 (by omega) hn hs (g16F.trans g) r) r
    have same : ai_end Fh n s = Fh := by
      unfold ai_end
      rw [sm_wI (g16F.trans g), sm_wI (g17F.trans ((w s hs).1 g).1), sm_wI (g18F.trans ((w s hs).1 g).2)]
    rw [same] at R2
    exact tg_mk (fun r => (start r).trans ((loop _ r).trans (b7_no (j20 := j20) (j21 := j21) f2 hn n3 eX r))) (by omega) (Nat.le_refl N) (Nat.le_succ T) (fun j => (fF 99 (Or.inr rfl) 0 j).1) (rl_mono R2 (Nat.le_succ C))
  · rw [if_neg g] at start
    have eX := fun r => w_5 (p2 := 0) (p3 := 0) (fun r => x_7_ok (k := k) (L := L) RF.1.1 (by omega) hn hs (by rw [g16F]; exact g) r) r
    have fY : fx Fh (ai_end Fh n s) := end_fx (fx_rf Fh)
    have R3 := rl_ag (ag_x_rf _) (ag_m_fx fY) R2
    generalize ai_end Fh n s = Y at *
    exact tg_mk (fun r => (start r).trans ((loop _ r).trans (b7_ok (j20 := j20) (j21 := j21) f2 hn n3 eX (rl_V R3 (by omega) hn) r))) (by omega) (Nat.le_refl N) (Nat.le_succ T) (fun j => (fY 99 (by decide) 0 j).1.trans (fF 99 (Or.inr rfl) 0 j).1) (rl_mono R3 (Nat.le_succ C))
