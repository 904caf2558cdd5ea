/-! The law's comparison holds -/
theorem rl_bal {x m : ai_H} {N W T D C : Nat} (R : rl x m N W T D C) : ai_acc (ai_acc 0 (fun p => ai_gJ x 10 0 p) 7) (fun p => ai_gJ x 11 0 p) 5 = 0 := by
  have P7 : rl_E 7 (fun p => ai_gJ x 10 0 p) (fun p => ai_gJ m 25 0 p) := R.2.2.2.2.2.2.2.1
  have P5 : rl_E 5 (fun p => ai_gJ x 11 0 p) (fun p => ai_gJ m 25 0 (7 + p)) := R.2.2.2.2.2.2.2.2.1
  have Z : ai_tot (fun p => ai_gJ m 25 0 p) 12 = 0 := R.2.2.2.2.2.2.2.2.2.1
  have e1 : ai_tot (fun p => ai_gJ x 10 0 p) 7 = ai_tot (fun p => ai_gJ m 25 0 p) 7 := tot_eq P7
  have e2 : ai_tot (fun p => ai_gJ x 11 0 p) 5 = ai_tot (fun p => ai_gJ m 25 0 (7 + p)) 5 := tot_eq P5
  rw [acc_tot, acc_tot, e1, e2, Int64.zero_add, ← tot_sp (fun p => ai_gJ m 25 0 p) 7 5]
  exact Z
theorem rl_pl {x m : ai_H} {N W T D C : Nat} (R : rl x m N W T D C) {i : Nat} (hi : i < 10) : ∃ P, P < 100 ∧ ai_gI m 31 0 (2 * i) = nI P ∧ (¬ ai_gI x 14 i 11 = 0 ↔ P / 8 % 2 = 1) := by
  have H : rl_P N (fun i => ai_gI x 14 i 10) (fun i => ai_gI x 14 i 11) (fun i => ai_gI x 14 i 12) (fun i => ai_gI x 14 i 13) (lp 0 m) (lp 1 m) := R.2.2.2.2.2.2.2.2.2.2.2.2.2.2.2.2.2.1
  rcases H.1 i hi with ⟨h0, h1, h2⟩ | ⟨s, e, c, s3, e1, c5, h0, h1, h2, h3, h4⟩
  · have h2 : ai_gI x 14 i 11 = 0 := h2
    exact ⟨0, by decide, h0, ⟨fun z => absurd h2 z, fun z => absurd z (by decide)⟩⟩
  · have h2 : ai_gI x 14 i 11 = nI e := h2
    refine ⟨20 + s + 8 * e, by omega, h0, ?_⟩
    rw [h2, show (0 : Int32) = nI 0 from rfl, nI_eq (by omega) (by decide)]
    omega
theorem wo_iff {h : ai_H} {k P : Nat} (e : ai_gI h 31 0 (2 * k) = nI P) (hP : P < 100) : wo_c h k ↔ P / 8 % 2 = 1 := by
  unfold wo_c
  rw [e, dv_8 (by omega), dv_2 (by omega), rm_2 (by omega)]
  exact nI_eq (b := 1) (by omega) (by decide)
theorem rl_wo {x m : ai_H} {N W T D C : Nat} (R : rl x m N W T D C) : ∀ n, n ≤ N → ∃ S, S ≤ 5000 * n ∧ ai_sum (fun i => ¬ ai_gI x 14 i 11 = 0) (fun i => (ai_gI x 14 i 3).toInt64) n = lN S ∧ wo m n = lN S
  | 0, _ => ⟨0, Nat.le_refl _, rfl, rfl⟩
  | n + 1, hn => by
    obtain ⟨S, s0, s1, s2⟩ := rl_wo R n (by omega)
    have hN : N ≤ 10 := R.1.2.2.1
    obtain ⟨P, p0, p1, p2⟩ := rl_pl R (i := n) (by omega)
    obtain ⟨q, q0, q1, q2⟩ := rl_ce R (i := n) (by omega)
    have ew := wo_iff p1 p0
    rw [sum_s, wo_s, s1, s2, q1, q2, nI_l (by omega)]
    by_cases g : P / 8 % 2 = 1
    · rw [if_pos (p2.mpr g), if_pos (ew.mpr g)]
      exact ⟨S + q, by omega, lN_add _ _, lN_add _ _⟩
    · rw [if_neg (fun z => g (p2.mp z)), if_neg (fun z => g (ew.mp z)), sf_add0]
      exact ⟨S, by omega, rfl, rfl⟩
theorem rl_fin {x m : ai_H} {N W T D C : Nat} (R : rl x m N W T D C) : (if 10 * ai_gJ x 0 0 15 ≤ ai_gJ x 0 0 14 then ai_sum (fun i => ¬ ai_gI x 14 i 11 = 0) (fun i => (ai_gI x 14 i 3).toInt64) N * 90 / 100 else 0) = if 10 * (ai_gI m 32 0 5).toInt64 ≤ (ai_gI m 32 0 4).toInt64 then wo m N * 9 / 10 else 0 := by
  have Q : rl_Q N C (ai_gI x 0 0 13) (fun i => ai_gI x 14 i 11) (ai_gJ x 0 0 14) (ai_gJ x 0 0 15) (ai_gI m 32 0 4) (ai_gI m 32 0 5) := R.2.2.2.2.2.2.2.2.2.2.2.2.2.2.2.2.2.2.1
  obtain ⟨-, E, B, -, -, g4, g5, e1, e2⟩ := Q
  have hN : N ≤ 10 := R.1.2.2.1
  obtain ⟨S, s0, s1, s2⟩ := rl_wo R N (Nat.le_refl N)
  have d1 : lN S * 90 / 100 = lN (S * 90 / 100) := by
    rw [show (90 : Int64) = lN 90 from rfl, lN_mul, show (100 : Int64) = lN 100 from rfl, lN_div (by omega) (by decide)]
  have d2 : lN S * 9 / 10 = lN (S * 9 / 10) := by
    rw [show (9 : Int64) = lN 9 from rfl, lN_mul, show (10 : Int64) = lN 10 from rfl, lN_div (by omega) (by decide)]
  rw [e1, e2, g4, g5, s1, s2, d1, d2, show S * 90 / 100 = S * 9 / 10 by omega]
theorem house_b {k L : Nat} {h : ai_H} {N W T D C s : Nat} (R : rl h h N W T D C) (hT : T < 2 ^ 29) (hC : C < 512) (hs : s < N) (w : Int64) (o l : Option ai_V) : ∃ o' l', ∀ r, ai_X 612 98 (ho_l 1 w s o l) [] (263, k, L, ai_R0) h r ↔ ai_X 612 98 (ho_l 1 (w + (if wo_c h s then (ai_gI h 23 0 (5 * s + 2)).toInt64 else 0)) (s + 1) o' l') [] (263, k, L, ai_R0) h r := by
  have n1 : ai_gI h 0 0 1 = nI N := R.1.1
  have n2 : ai_gI h 32 0 1 = nI N := R.1.2.1
  have hN : N ≤ 10 := R.1.2.2.1
  have hN4 : N ≤ 40 := by omega
  obtain ⟨P, p0, p1, p2⟩ := rl_pl R (i := s) (by omega)
  obtain ⟨q, q0, q1, q2⟩ := rl_ce R hs
  obtain ⟨u, u0, u1, u2⟩ := rl_du R hs
  obtain ⟨d, d0, d1, d2, d3⟩ := rl_di R hs
  obtain ⟨f, f0, f1, f2⟩ := rl_fre R hT hs
  obtain ⟨J, j1, j2, j3, j4⟩ := R.2.2.2.2.2.2.2.2.2.2.2.2.2.2.2.2.2.2.2
  obtain ⟨J', jb, jc, -⟩ := rl_jb R hC
  have ej : J = J' := by
    have h2 : W ≤ 30 := R.1.2.2.2.2.2.1
    have z1 := cz_le (fun i => ai_gI h 14 i 3) N
    have z2 := cw_le (fun w => ai_gI h 19 w 3) W
    exact (nI_eq (by omega) (by omega)).mp (j2.symm.trans jc)
  have e0 : ∀ r, ai_E 8 [ai_r 0 0, ai_i (nI s), ai_i 0] (263, k, L, ai_R0) h r ↔ r = (Sum.inl (some (ai_i (nI q))), (263, k, L, ai_R0), h) := fun r => by
    rw [← q1]
    exact x_8_ok0 n1 hN4 hs r
  have e9 : ∀ r, ai_E 9 [ai_r 0 0, ai_i (nI s)] (263, k, L, ai_R0) h r ↔ r = (Sum.inl (some (ai_i (nI q))), (263, k, L, ai_R0), h) := fun r => by
    have e := j4 s hs
    have e' : ai_gI h 14 s 2 - ai_tko h (nI s) J = nI q := by
      rw [ai_tko_f, ← q1]
      exact e
    rw [← e']
    exact x_9_ok n1 hN4 hs (by omega) j2 r
  have e2 : ∀ r, ai_E 8 [ai_r 0 0, ai_i (nI s), ai_i 2] (263, k, L, ai_R0) h r ↔ r = (Sum.inl (some (ai_i (nI f))), (263, k, L, ai_R0), h) := fun r => by
    rw [← f1]
    exact x_8_ok2 n1 hN4 hs r
  have e3 : ∀ r, ai_E 8 [ai_r 0 0, ai_i (nI s), ai_i 3] (263, k, L, ai_R0) h r ↔ r = (Sum.inl (some (ai_i (nI u))), (263, k, L, ai_R0), h) := fun r => by
    rw [← u1]
    exact x_8_ok3 n1 hN4 hs r
  have e4 : ∀ r, ai_E 8 [ai_r 0 0, ai_i (nI s), ai_i 4] (263, k, L, ai_R0) h r ↔ r = (Sum.inl (some (ai_i (nI (d % 2)))), (263, k, L, ai_R0), h) := fun r => by
    rcases Nat.mod_two_eq_zero_or_one d with z | z
    · rw [z]
      exact x_8_ok40 n1 hN4 hs (by rw [d2, z]; rfl) r
    · rw [z]
      exact x_8_ok41 n1 hN4 hs (by rw [d2, z]; rfl) r
  rcases rl_own R hT hs with ⟨a, ha, o1, o2, o3, o4, o5⟩ | ⟨a, ha, o1, o2, o3, o4⟩
  · have e1 : ∀ r, ai_E 8 [ai_r 0 0, ai_i (nI s), ai_i 1] (263, k, L, ai_R0) h r ↔ r = (Sum.inl (some (ai_i (nI a))), (263, k, L, ai_R0), h) := fun r => by
      rw [← o3]
      exact x_8_ok1 n1 hN4 hs r
    have e5 := fun r => x_8_ok5n (k := k) (L := L) n1 hN4 hs (fun z => z.1 o1) r
    exact ⟨_, _, fun r => m_612b n2 hN hs p1 p0 q2 o2 (by omega) f2 u2 d1 d0 e0 e9 e1 e2 e3 e4 e5 (Or.inl ⟨by omega, rfl, rfl⟩) o l r⟩
  · have e1 : ∀ r, ai_E 8 [ai_r 0 0, ai_i (nI s), ai_i 1] (263, k, L, ai_R0) h r ↔ r = (Sum.inl (some (ai_i (nI (4 + a)))), (263, k, L, ai_R0), h) := fun r => by
      rw [← o3]
      exact x_8_ok1 n1 hN4 hs r
    have cn := rl_cn R hT hs ha
    by_cases g : lw_ct h N s (nI (4 + a))
    · have e5 := fun r => x_8_ok5y (k := k) (L := L) n1 hN4 hs ha (cn.mp g).1 o1 r
      exact ⟨_, _, fun r => m_612b n2 hN hs p1 p0 q2 o2 (by omega) f2 u2 d1 d0 e0 e9 e1 e2 e3 e4 e5 (Or.inr (Or.inl ⟨by omega, rfl, rfl, g⟩)) o l r⟩
    · have e5 := fun r => x_8_ok5n (k := k) (L := L) n1 hN4 hs (fun z => g (cn.mpr ⟨z, o1⟩)) r
      exact ⟨_, _, fun r => m_612b n2 hN hs p1 p0 q2 o2 (by omega) f2 u2 d1 d0 e0 e9 e1 e2 e3 e4 e5 (Or.inr (Or.inr ⟨by omega, rfl, rfl, g⟩)) o l r⟩
theorem house_c {k L : Nat} {h : ai_H} {N W T D C s : Nat} (R : rl h h N W T D C) (hT : T < 2 ^ 29) (hs : s < 12) (w : Int64) (o l : Option ai_V) : ∃ H, sg h H ∧ ∀ r, ai_X 612 321 (ho_l 1 w s o l) [] (263, k, L, ai_R0) h r ↔ ai_X 612 321 (ho_l 1 w (s + 1) o l) [] (263, k + 1, L, ai_R0) H r := by
  have n1 : ai_gI h 0 0 1 = nI N := R.1.1
  have hN : N ≤ 10 := R.1.2.2.1
  have s3 : s / 4 < 3 := by omega
  have s4 : s % 4 < 4 := by omega
  have K4 : rl_K 4 (fun s a => ai_gJ h 22 s a) (fun j => ai_gJ h 26 0 j) := R.2.2.2.2.2.2.2.2.2.2.2.2.2.2.2.1
  have eV : ai_gJ h 22 (s / 4) (s % 4) = ai_gJ h 26 0 (4 * (s / 4) + s % 4) := K4 (s / 4) (s % 4) s3 s4
  rw [show 4 * (s / 4) + s % 4 = s by omega] at eV
  have s13 := sg_13 h (ai_cb h N (nI (s / 4)) (nI (s % 4))) 5
  have RX : rl h (ai_h13 h (ai_cb h N (nI (s / 4)) (nI (s % 4))) 5) N W T D C := rl_ag (ag_x_rf h) (fun t h1 h2 i k => s13 t (by omega) i k) R
  have e18 := fun r => x_18_ok (k := k) (L := L) n1 (by omega) s3 s4 r
  generalize ai_h13 h (ai_cb h N (nI (s / 4)) (nI (s % 4))) 5 = X at *
  have hf : ∀ i, i < N → pn (ai_gI X 23 0 (5 * i + 1)) < 5 ∧ ai_gI X 23 0 (5 * i + 1) = nI (pn (ai_gI X 23 0 (5 * i + 1))) := fun i hi => by
    obtain ⟨b, b0, b1, b2⟩ := rl_by RX hi
    rw [b2, pn_nI (by omega)]
    exact ⟨b0, rfl⟩
  obtain ⟨H, d, e606⟩ := m_606 (k := k) (L := L) (a := nI (s % 4)) (bf := fun i => pn (ai_gI X 23 0 (5 * i + 1))) (RX.1.2.1) hN hf s3
  have eb := rl_bs RX hT s3 s4 hf
  rw [← eb] at e606
  exact ⟨H, sg_tr s13 (sg_dq d), fun r => m_612c hs (fun r => x_19_ok s3 s4 r) eV.symm e18 e606 r⟩
theorem house {k L : Nat} {h : ai_H} {N W T D C : Nat} (R : rl h h N W T D C) (hT : T < 2 ^ 29) (hC : C < 512) : ∃ H, sg h H ∧ ∀ r, ai_E 612 [ai_r 0 0, ai_r 23 0, ai_r 24 0, ai_r 25 0, ai_r 26 0, ai_r 27 0, ai_r 28 0, ai_r 31 0, ai_r 32 0] (263, k, L, ai_R0) h r ↔ r = (Sum.inl (some (ai_i 1)), (263, k + 12, L, ai_R0), H) := by
  have n2 : ai_gI h 32 0 1 = nI N := R.1.2.1
  have hN : N ≤ 10 := R.1.2.2.1
  have P7 : rl_E 7 (fun p => ai_gJ h 10 0 p) (fun p => ai_gJ h 25 0 p) := R.2.2.2.2.2.2.2.1
  have P5 : rl_E 5 (fun p => ai_gJ h 11 0 p) (fun p => ai_gJ h 25 0 (7 + p)) := R.2.2.2.2.2.2.2.2.1
  have e15 : ∀ r, ai_E 15 [ai_r 0 0] (263, k, L, ai_R0) h r ↔ r = (Sum.inl (some (ai_i 1)), (263, k, L, ai_R0), h) := fun r => by
    have e := x_15 (k := k) (L := L) (h := h) r
    rw [if_pos (rl_bal R)] at e
    exact e
  have hA := fun r => m_612a (k := k) (L := L) e15 P7 P5 r
  have hB : ∀ n, n ≤ N → ∃ o l, ∀ r, ai_X 612 98 (ho_l 1 0 0 none none) [] (263, k, L, ai_R0) h r ↔ ai_X 612 98 (ho_l 1 (wo h n) n o l) [] (263, k, L, ai_R0) h r := by
    intro n
    induction n with
    | zero => exact fun _ => ⟨none, none, fun r => Iff.rfl⟩
    | succ n ih =>
      intro hn
      obtain ⟨o, l, e⟩ := ih (by omega)
      obtain ⟨o', l', e'⟩ := house_b (k := k) (L := L) R hT hC (by omega : n < N) (wo h n) o l
      exact ⟨o', l', fun r => (e r).trans (e' r)⟩
  obtain ⟨o, l, eB⟩ := hB N (Nat.le_refl N)
  have hD : ∀ n, n ≤ 12 → ∃ H, sg h H ∧ ∀ r, ai_X 612 321 (ho_l 1 (wo h N) 0 o l) [] (263, k, L, ai_R0) h r ↔ ai_X 612 321 (ho_l 1 (wo h N) n o l) [] (263, k + n, L, ai_R0) H r := by
    intro n
    induction n with
    | zero => exact fun _ => ⟨h, sg_rf h, fun r => Iff.rfl⟩
    | succ n ih =>
      intro hn
      obtain ⟨H, s1, e⟩ := ih (by omega)
      obtain ⟨H', s2, e'⟩ := house_c (k := k + n) (L := L) (rl_sg s1 R) hT (by omega : n < 12) (wo h N) o l
      exact ⟨H', sg_tr s1 s2, fun r => (e r).trans (e' r)⟩
  obtain ⟨H, s1, eD⟩ := hD 12 (Nat.le_refl 12)
  have R1 := rl_sg s1 R
  have RM : rl H h N W T D C := rl_ag (fun t ht i k => s1 t (by omega) i k) (ag_m_rf h) R
  have e26 := fun r => x_26 (k := k + 12) (L := L) R1.1.1 (by omega) r
  have eV := rl_fin RM
  rw [← (s1 32 (by omega) 0 5).1, ← (s1 32 (by omega) 0 4).1] at eV
  exact ⟨H, s1, fun r => (hA r).trans ((eB r).trans ((m_612d n2 hN r).trans ((eD r).trans (m_612e e26 eV r))))⟩
