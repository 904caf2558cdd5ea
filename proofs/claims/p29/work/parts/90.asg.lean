/-! An assignment, on both sides -/
theorem r_eq {T : Nat} {v v' : Nat → Int32} {q q' : Int32} (hv : v' = v) (hq : q' = q) (h : rl_r T v q) : rl_r T v' q' := by
  subst hv
  subst hq
  exact h
theorem u2_v {α : Type} (f : Nat → Nat → α) (n s : Nat) (v : α) (u : Nat) : ai_u2 f n s v n u = if u = s then v else f n u := by
  rw [u2_at]
  rfl
theorem rl_row {x m : ai_H} {N W T D C n : Nat} (R : rl x m N W T D C) (hn : n < N) : rl_r T (ai_gI x 17 n) (ai_gI m 24 0 (3 * n)) ∧ rl_r T (ai_gI x 18 n) (ai_gI m 24 0 (3 * n + 1)) ∧ rl_r T (ai_gI x 16 n) (ai_gI m 24 0 (3 * n + 2)) ∧ ∀ s, s < 3 → (ai_gI x 16 n s = 0 → ai_gI x 17 n s = 0 ∧ ai_gI x 18 n s = 0) ∧ (ai_gI x 15 n s = 0 → ai_gI x 16 n s = 0) := by
  have hN : N ≤ 10 := R.1.2.2.1
  exact R.2.2.2.2.2.2.1 n (by omega)
theorem rl_flg {x m : ai_H} {N W T D C n : Nat} (R : rl x m N W T D C) (hn : n < N) : ∃ e, e < 16 ∧ ai_gI m 23 0 (5 * n + 4) = nI e ∧ ai_gI x 14 n 5 = nI (e % 2) ∧ ∀ s, s < 3 → ai_gI x 15 n s = nI (e / 2 ^ (s + 1) % 2) := by
  have hN : N ≤ 10 := R.1.2.2.1
  exact R.2.2.2.2.2.1 n (by omega)
theorem rl_asg {x m : ai_H} {N W T D C n s e d0 d2 : Nat} (b : Bool) (R : rl x m N W T D C) (hT : T < 2 ^ 28) (hn : n < N) (hs : s < 3) (h4 : ai_gI m 23 0 (5 * n + 4) = nI e) (he : e < 16) (g1 : e / 2 ^ (s + 1) % 2 = 0) (d26 : d2 < 64) (hd2 : ai_gI m 24 0 (3 * n + 2) = nI d2) (d06 : d0 < 64) (hd0 : ai_gI m 24 0 (3 * n) = nI d0) : rl (ai_wI (ai_wI (ai_wI (ai_wI x 0 0 12 (nI (T + 1))) 15 n s 1) 16 n s (nI (T + 1))) 17 n s (if b = true then nI (T + 1) else 0)) (ai_wI (ai_wI (ai_wI m 23 0 (5 * n + 4) (nI (e + 2 ^ (s + 1)))) 24 0 (3 * n + 2) (nI (d2 + (s + 1) * dg_pw 3 1 d2))) 24 0 (3 * n) (nI (if b = true then d0 + (s + 1) * dg_pw 3 1 d0 else d0))) N W (T + 1) D C := by
  obtain ⟨A, B0, B1, B2, B3, F, Rr, P7, P5, Z, S, F0, F1, F2, K5, K4, G, H, Q, J⟩ := id R
  obtain ⟨n1, n2, n3, n4, n5, n6, n7, n8, n9, n10⟩ := id A
  obtain ⟨r0, r1, r2, w⟩ := rl_row R hn
  obtain ⟨e', e0, e1, e2, e3⟩ := rl_flg R hn
  have : e' = e := (nI_eq (by omega) (by omega)).mp (e1.symm.trans h4)
  subst this
  have z15 : ai_gI x 15 n s = 0 := by rw [e3 s hs, g1]; rfl
  have z16 := (w s hs).2 z15
  have z17 := ((w s hs).1 z16).1
  have z18 := ((w s hs).1 z16).2
  obtain ⟨d2', a0, a1, a2⟩ := r_wi r2 hs z16 (by omega)
  have : d2' = d2 := r_d a0 d26 a1 hd2
  subst this
  have t0 : ¬ nI (T + 1) = 0 := nI_ne0 (by omega) (by omega)
  have k0 : rl_r (T + 1) (ai_up (ai_gI x 17 n) s (if b = true then nI (T + 1) else 0)) (nI (if b = true then d0 + (s + 1) * dg_pw 3 1 d0 else d0)) := by
    cases b with
    | true =>
      obtain ⟨d0', c0, c1, c2⟩ := r_wi r0 hs z17 (by omega)
      have : d0' = d0 := r_d c0 d06 c1 hd0
      subst this
      exact c2
    | false =>
      have e : ai_up (ai_gI x 17 n) s 0 = ai_gI x 17 n := funext fun u => by
        by_cases c : u = s
        · subst c
          rw [ai_up_at, z17]
        · rw [ai_up_ne _ _ c]
      show rl_r (T + 1) (ai_up (ai_gI x 17 n) s 0) (nI d0)
      rw [e, ← hd0]
      exact r_mono r0 (Nat.le_succ T)
  unfold rl
  simp only [ai_gI_wI, ai_gI_wJ, ai_gJ_wI, ai_gJ_wJ, Nat.reduceEqDiff, false_and, and_false, true_and, and_true, and_self, if_false, if_true, ↓reduceIte, not_false_eq_true, li_I, lq_I, lf_I, lp_I, li_J, lq_J, lf_J, lp_J, liu00, liu01, liu02, liu03, liu04, liu10, liu11, liu12, liu13, liu14, liu20, liu21, liu22, liu23, liu24, liu30, liu31, liu32, liu33, liu34, liu40, liu41, liu42, liu43, liu44, lqu00, lqu01, lqu02, lqu10, lqu11, lqu12, lqu20, lqu21, lqu22, lfu00, lfu01, lfu02, lfu10, lfu11, lfu12, lfu20, lfu21, lfu22, lpu00, lpu01, lpu10, lpu11]
  refine ⟨⟨n1, n2, n3, n4, n5, n6, rfl, n8, n9, n10⟩, B0, B1, B2, B3, F_set F hs e1 e0 g1, ?_, P7, P5, Z, S, F0, F1, F2, K5, K4, G, H, Q, J⟩
  refine R_set (n := n) (s := s) Rr (Nat.le_succ T) (fun i c => u2_ne (fun i j => ai_gI x 15 i j) s 1 c) (fun i c => u2_ne (fun i j => ai_gI x 16 i j) s _ c) (fun i c => u2_ne (fun i j => ai_gI x 17 i j) s _ c) (fun _ _ => rfl) (fun i c => ai_up_ne _ _ c) (fun _ _ => rfl) (fun i c => ai_up_ne _ _ c) (r_eq (u2_at (fun i j => ai_gI x 17 i j) n s _) (ai_up_at _ _ _) k0) (r_mono r1 (Nat.le_succ T)) (r_eq (u2_at (fun i j => ai_gI x 16 i j) n s _) (ai_up_at _ _ _) a2) (fun u hu => ?_)
  show (ai_u2 (fun i j => ai_gI x 16 i j) n s (nI (T + 1)) n u = 0 → ai_u2 (fun i j => ai_gI x 17 i j) n s (if b = true then nI (T + 1) else 0) n u = 0 ∧ ai_gI x 18 n u = 0) ∧ (ai_u2 (fun i j => ai_gI x 15 i j) n s 1 n u = 0 → ai_u2 (fun i j => ai_gI x 16 i j) n s (nI (T + 1)) n u = 0)
  rw [u2_v, u2_v, u2_v]
  by_cases c : u = s
  · rw [if_pos c, if_pos c, if_pos c]
    exact ⟨fun z => absurd z t0, fun z => absurd z (by decide)⟩
  · rw [if_neg c, if_neg c, if_neg c]
    exact w u hu
theorem rl_V {y : ai_H} {N W T D C n : Nat} (R : rl y y N W T D C) (hT : T < 2 ^ 29) (hn : n < N) : (ai_pty y n (ai_owS y n)).toInt64 = (lw_ow y n).toInt64 := by
  rcases rl_own R hT hn with ⟨a, ha, o1, o2, o3, -⟩ | ⟨a, ha, o1, o2, o3, -⟩
  · rw [o2, o3]
  · rw [o2, o3]
theorem t_asg {L k t c kd y n s : Nat} {h : ai_H} {N W T D C : Nat} {j20 j21 j22 j23 j24 j25 : Option ai_V} (R : rl h h N W T D C) (hT : T < 2 ^ 28) (hn : n < N) (hs : s < 3) (hy : y < 2147483648) : tg L t k h N T C (fun r => ai_X 613 445 (bl t c kd y n s j20 j21 j22 j23 j24 j25) [] (263, k, L, ai_R0) h r) := by
  obtain ⟨n1, n2, n3, n4, n5, n6, n7, n8, n9, n10⟩ := R.1
  obtain ⟨q, q0, q1, q2⟩ := rl_ce R hn
  obtain ⟨a, a0, a1, a2⟩ := rl_sl R hn
  obtain ⟨e, e0, e1, e2, e3⟩ := rl_flg R hn
  obtain ⟨ef, f0, f1, f2⟩ := rl_fl R
  obtain ⟨r0, r1, r2, w⟩ := rl_row R hn
  obtain ⟨d0, c0, c1, -⟩ := r_wo r0 hs
  obtain ⟨d2, b0, b1, -⟩ := r_wo r2 hs
  have e15 : ai_gI h 15 n s = 0 ↔ e / 2 ^ (s + 1) % 2 = 0 := by
    rw [e3 s hs]
    exact nI_eq (b := 0) (by omega) (by decide)
  have hq : ai_gI h 14 n 3 = 0 ↔ q = 0 := by
    rw [q1]
    exact nI_eq (b := 0) (by omega) (by decide)
  by_cases can : e / 2 ^ (s + 1) % 2 = 0 ∧ 0 < q ∧ ef / 2 ^ a % 2 = 0
  · obtain ⟨g1, g2, g3⟩ := can
    have key : ∀ b : Bool, (b = true ↔ y / 48 % 3 = 0) → tg L t k h N T C (fun r => ai_X 613 445 (bl t c kd y n s j20 j21 j22 j23 j24 j25) [] (263, k, L, ai_R0) h r) := by
      intro b hb
      have fF : fm h (ai_wI (ai_wI (ai_wI h 23 0 (5 * n + 4) (nI (e + 2 ^ (s + 1)))) 24 0 (3 * n + 2) (nI (d2 + (s + 1) * dg_pw 3 1 d2))) 24 0 (3 * n) (nI (if b = true then d0 + (s + 1) * dg_pw 3 1 d0 else d0))) := fm_I (by decide) (fm_I (by decide) (fm_I (by decide) (fm_rf h)))
      have RF := rl_ag (ag_fm fF) (ag_m_rf h) R
      have R1 := rl_asg b RF hT hn hs e1 e0 g1 b0 b1 c0 c1
      have wok1 : b = true → _ := fun hb1 : b = true => fun V Y e611 hV r => b2_ok1 (L := L) (k := k) (t := t) (c := c) (kd := kd) (y := y) (s := s) (j20 := j20) (j21 := j21) (j22 := j22) (j23 := j23) (j24 := j24) (j25 := j25) (Y := Y) (V := V) n2 hn n3 hs hy e1 e0 q2 q0 a2 a0 f1 f0 g1 g2 g3 b1 b0 c1 c0 (hb.mp hb1) e611 hV r
      have wok0 : b = false → _ := fun hb1 : b = false => fun V Y e611 hV r => b2_ok0 (L := L) (k := k) (t := t) (c := c) (kd := kd) (y := y) (s := s) (j20 := j20) (j21 := j21) (j22 := j22) (j23 := j23) (j24 := j24) (j25 := j25) (Y := Y) (V := V) n2 hn n3 hs hy e1 e0 q2 q0 a2 a0 f1 f0 g1 g2 g3 b1 b0 c1 c0 (fun z => by rw [hb.mpr z] at hb1; cases hb1) e611 hV r
      cases b with
      | true =>
        have wok := wok1 rfl
        generalize hF : ai_wI (ai_wI (ai_wI h 23 0 (5 * n + 4) (nI (e + 2 ^ (s + 1)))) 24 0 (3 * n + 2) (nI (d2 + (s + 1) * dg_pw 3 1 d2))) 24 0 (3 * n) (nI (if true = true then d0 + (s + 1) * dg_pw 3 1 d0 else d0)) = Fh at *
        rw [if_pos rfl] at hF R1
        rw [hF] at wok
        have t12 : ai_gI Fh 0 0 12 + 1 = nI (T + 1) := by rw [RF.1.2.2.2.2.2.2.1]; exact nI_1 T
        have eX := fun r => w_2_1 (p3 := 0) (fun r => x_4_ok1 (k := k) (L := L) RF.1.1 (by omega) hn hs a0 ((fF 14 (Or.inl (by decide)) n 0).1.trans a1) ((fF 15 (Or.inl (by decide)) n s).1.trans (e15.mpr g1)) (by rw [(fF 14 (Or.inl (by decide)) n 3).1]; exact fun z => by have := hq.mp z; omega) (by rw [(fF 12 (Or.inl (by decide)) 0 a).1]; exact (f2 a a0).mpr g3) r) r
        rw [t12] at eX
        have fY : fx Fh (ai_wI (ai_wI (ai_wI (ai_wI Fh 0 0 12 (nI (T + 1))) 15 n s 1) 16 n s (nI (T + 1))) 17 n s (nI (T + 1))) := fx_I (by decide) (fx_I (by decide) (fx_I (by decide) (fx_I (by decide) (fx_rf Fh))))
        have R2 := rl_ag (ag_x_rf _) (ag_m_fx fY) R1
        generalize ai_wI (ai_wI (ai_wI (ai_wI Fh 0 0 12 (nI (T + 1))) 15 n s 1) 16 n s (nI (T + 1))) 17 n s (nI (T + 1)) = Y at *
        exact tg_mk (fun r => wok _ Y eX (rl_V R2 (by omega) hn) r) (by omega) (Nat.le_refl N) (Nat.le_refl _) (fun j => (fY 99 (by decide) 0 j).1.trans (fF 99 (Or.inr rfl) 0 j).1) (rl_mono R2 (Nat.le_succ C))
      | false =>
        have wok := wok0 rfl
        generalize hF : ai_wI (ai_wI (ai_wI h 23 0 (5 * n + 4) (nI (e + 2 ^ (s + 1)))) 24 0 (3 * n + 2) (nI (d2 + (s + 1) * dg_pw 3 1 d2))) 24 0 (3 * n) (nI (if false = true then d0 + (s + 1) * dg_pw 3 1 d0 else d0)) = Fh at *
        rw [if_neg (by decide)] at hF R1
        rw [hF] at wok
        have t12 : ai_gI Fh 0 0 12 + 1 = nI (T + 1) := by rw [RF.1.2.2.2.2.2.2.1]; exact nI_1 T
        have eX := fun r => w_2_0 (p3 := 0) (fun r => x_4_ok0 (k := k) (L := L) RF.1.1 (by omega) hn hs a0 ((fF 14 (Or.inl (by decide)) n 0).1.trans a1) ((fF 15 (Or.inl (by decide)) n s).1.trans (e15.mpr g1)) (by rw [(fF 14 (Or.inl (by decide)) n 3).1]; exact fun z => by have := hq.mp z; omega) (by rw [(fF 12 (Or.inl (by decide)) 0 a).1]; exact (f2 a a0).mpr g3) r) r
        rw [t12] at eX
        have fY : fx Fh (ai_wI (ai_wI (ai_wI Fh 0 0 12 (nI (T + 1))) 15 n s 1) 16 n s (nI (T + 1))) := fx_I (by decide) (fx_I (by decide) (fx_I (by decide) (fx_rf Fh)))
        have z17 : ai_gI (ai_wI (ai_wI (ai_wI Fh 0 0 12 (nI (T + 1))) 15 n s 1) 16 n s (nI (T + 1))) 17 n s = 0 := by
          rw [fI (by decide), fI (by decide), fI (by decide), (fF 17 (Or.inl (by decide)) n s).1]
          exact ((w s hs).1 ((w s hs).2 (e15.mpr g1))).1
        rw [sm_wI z17] at R1
        have R2 := rl_ag (ag_x_rf _) (ag_m_fx fY) R1
        generalize ai_wI (ai_wI (ai_wI Fh 0 0 12 (nI (T + 1))) 15 n s 1) 16 n s (nI (T + 1)) = Y at *
        exact tg_mk (fun r => wok _ Y eX (rl_V R2 (by omega) hn) r) (by omega) (Nat.le_refl N) (Nat.le_refl _) (fun j => (fY 99 (by decide) 0 j).1.trans (fF 99 (Or.inr rfl) 0 j).1) (rl_mono R2 (Nat.le_succ C))
    by_cases g : y / 48 % 3 = 0
    · exact key true ⟨fun _ => g, fun _ => rfl⟩
    · exact key false ⟨fun z => absurd z (by decide), fun z => absurd z g⟩
  · have gc : e / 2 ^ (s + 1) % 2 = 1 ∨ (e / 2 ^ (s + 1) % 2 = 0 ∧ q = 0) ∨ (e / 2 ^ (s + 1) % 2 = 0 ∧ 0 < q ∧ ef / 2 ^ a % 2 = 1) := by
      rcases Nat.mod_two_eq_zero_or_one (e / 2 ^ (s + 1)) with z | z
      · rcases Nat.eq_zero_or_pos q with z1 | z1
        · exact Or.inr (Or.inl ⟨z, z1⟩)
        · rcases Nat.mod_two_eq_zero_or_one (ef / 2 ^ a) with z2 | z2
          · exact absurd ⟨z, z1, z2⟩ can
          · exact Or.inr (Or.inr ⟨z, z1, z2⟩)
      · exact Or.inl z
    have gx : ¬ ai_gI h 15 n s = 0 ∨ ai_gI h 14 n 3 = 0 ∨ ¬ ai_gI h 12 0 a = 0 := by
      rcases gc with z | ⟨-, z⟩ | ⟨-, -, z⟩
      · exact Or.inl (fun u => by rw [e15.mp u] at z; cases z)
      · exact Or.inr (Or.inl (hq.mpr z))
      · exact Or.inr (Or.inr (fun u => by rw [(f2 a a0).mp u] at z; cases z))
    have fin : ∀ {b : Int32} (wn : ∀ r, ai_X 613 445 (bl t c kd y n s j20 j21 j22 j23 j24 j25) [] (263, k, L, ai_R0) h r ↔ ai_X 613 2904 (bl t c kd y n s (some (ai_i 0)) (some (ai_i b)) j22 j23 j24 j25) [] (263, k + 1, L, ai_R0) h r), tg L t k h N T C (fun r => ai_X 613 445 (bl t c kd y n s j20 j21 j22 j23 j24 j25) [] (263, k, L, ai_R0) h r) := fun wn => tg_mk wn (by omega) (Nat.le_refl N) (Nat.le_succ T) (fun _ => rfl) (rl_mono R (Nat.le_succ C))
    by_cases g : y / 48 % 3 = 0
    · have eX := fun r => w_2_1_e3 (p3 := 0) (fun r => x_4_3 (k := k) (L := L) (b := 1) n1 (by omega) hn hs a0 a1 gx r) r
      exact fin fun r => b2_no1 n2 hn n3 hs hy e1 e0 q2 q0 a2 a0 f1 f0 gc g eX r
    · have eX := fun r => w_2_0_e3 (p3 := 0) (fun r => x_4_3 (k := k) (L := L) (b := 0) n1 (by omega) hn hs a0 a1 gx r) r
      exact fin fun r => b2_no0 n2 hn n3 hs hy e1 e0 q2 q0 a2 a0 f1 f0 gc g eX r
