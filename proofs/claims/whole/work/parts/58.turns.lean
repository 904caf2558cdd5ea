/-! Operations upon turns, new invoices, what an invoice is, drawing -/
theorem rl_c_up {T : Nat} : ¬ (nI T + 1 = 0) ∨ ¬ T < 2 ^ 30 := by
  by_cases h : T < 2 ^ 30
  · exact Or.inl (by rw [nI_1]; exact nI_ne0 (by omega) (by omega))
  · exact Or.inr h
theorem op_4 {xs : Nat → Int32} {C k L : Nat} {h : ai_H} (I : rl_I xs C h) (hC : C < 512) (p0 p1 : Int32) : op_I xs C k L h 704 616 [ai_r 0 0, ai_i p0, ai_i p1, ai_r 50 0] [ai_r 23 0, ai_i p0, ai_i p1] := by
  obtain ⟨hs, N, W, T, hT, R⟩ := id I
  obtain ⟨A, B1, B2, O, E, D, Cc, P7, P5, S1, S2, S3, M, F0, F1, F2, K5, K4, G, H, Q, J⟩ := id R
  obtain ⟨n1, n2, n3, n4, n5, n6, n7, n8, n9⟩ := id A
  have hT' : T < 2 ^ 30 := by omega
  rcases pr_i p0 n3 with ⟨i, hi, rfl⟩ | ⟨g1, g2⟩
  · rcases pr_f p1 with ⟨s, hp, rfl⟩ | ⟨g1, g2⟩
    · have hj : i < 40 := by omega
      have cc : rl_c T (ai_gI h 15 i s) (ai_gI h 16 i s) (ai_gI h 17 i s) (ai_gI h 18 i s) (ai_gI h 29 0 (3 * i + s)) (ai_gI h 30 0 (3 * i + s)) (ai_gI h 31 0 (3 * i + s)) (ai_gI h 32 0 (3 * i + s)) := Cc i s hj hp
      have bad : (ai_gI h 16 i s = 0 ∨ ¬ ai_gI h 17 i s = 0) → (¬ ai_gI h 29 0 (3 * i + s) = 1 ∨ 0 < ai_gI h 31 0 (3 * i + s)) → op_I xs C k L h 704 616 [ai_r 0 0, ai_i (nI i), ai_i (nI (4 + s)), ai_r 50 0] [ai_r 23 0, ai_i (nI i), ai_i (nI (4 + s))] := fun u v => op_badI I (by decide) (w_704_3 (x_5_3 n1 n3 hi hp u)) (m_616_2 n2 n3 hi hp v)
      rcases cc with ⟨a0, a1, a2, a3, a4, a5⟩ | ⟨a0, a1, ⟨q, b0, b1, b2, b3⟩, ⟨p, b4, b5, b6⟩, ⟨g, b7, b8, b9⟩⟩ | ⟨a0, a1, a2, a3, a4⟩
      · exact bad (Or.inl a2) (Or.inl (by rw [a0]; decide))
      · have hz : ¬ ai_gI h 16 i s = 0 := by rw [b2]; exact nI_ne0 b0 (by omega)
        by_cases hp0 : p = 0
        · subst hp0
          refine op_ownI (X := (ai_wI (ai_wI h 0 0 12 (ai_gI h 0 0 12 + 1)) 17 i s (ai_gI h 0 0 12 + 1))) (T := T + 1) (N := N) (W := W) (i := i) hi (by omega) hC (w_704 (x_5_ok n1 n3 hi hp hz b5)) (m_616_ok (by simp only [ai_gI_wI, ai_gI_wJ, ai_gJ_wI, ai_gJ_wJ, Nat.reduceEqDiff, false_and, and_false, true_and, and_true, and_self, if_false, if_true, ↓reduceIte]; exact n2) n3 hi hp (by simp only [ai_gI_wI, ai_gI_wJ, ai_gJ_wI, ai_gJ_wJ, Nat.reduceEqDiff, false_and, and_false, true_and, and_true, and_self, if_false, if_true, ↓reduceIte]; exact a0) (by simp only [ai_gI_wI, ai_gI_wJ, ai_gJ_wI, ai_gJ_wJ, Nat.reduceEqDiff, false_and, and_false, true_and, and_true, and_self, if_false, if_true, ↓reduceIte]; rw [b6]; decide)) ?_ ?_ ?_ (fun j => by simp only [ai_gI_wI, ai_gI_wJ, ai_gJ_wI, ai_gJ_wJ, Nat.reduceEqDiff, false_and, and_false, true_and, and_true, and_self, if_false, if_true, ↓reduceIte]) (fun j => by simp only [ai_gI_wI, ai_gI_wJ, ai_gJ_wI, ai_gJ_wJ, Nat.reduceEqDiff, false_and, and_false, true_and, and_true, and_self, if_false, if_true, ↓reduceIte]; exact hs j) ?_
          · simp only [ai_gI_wI, ai_gI_wJ, ai_gJ_wI, ai_gJ_wJ, Nat.reduceEqDiff, false_and, and_false, true_and, and_true, and_self, if_false, if_true, ↓reduceIte]
          · simp only [ow_I, ow_J, pt_I, pt_I2, pt_J, Nat.reduceEqDiff, not_false_eq_true]
          · simp only [ai_gI_wI, ai_gI_wJ, ai_gJ_wI, ai_gJ_wJ, Nat.reduceEqDiff, false_and, and_false, true_and, and_true, and_self, if_false, if_true, ↓reduceIte]
          unfold rl
          simp only [ai_gI_wI, ai_gI_wJ, ai_gJ_wI, ai_gJ_wJ, Nat.reduceEqDiff, false_and, and_false, true_and, and_true, and_self, if_false, if_true, ↓reduceIte]
          refine ⟨⟨n1, n2, n3, n4, n5, n6, by rw [n7, nI_1], by rw [n8, nI_1], n9⟩, B1, B2, O, E, D, ?_, P7, P5, S1, S2, S3, M, F0, F1, F2, K5, K4, G, H, Q, (rl_J_mono J (Nat.le_succ C))⟩
          · refine rl_C_up (i := i) (s := s) Cc (by omega : T ≤ T + 1) hp (fun a b e1 e2 => ?_) ?_
            · simp only [e1, e2, if_false, and_self]
            · simp only [and_self, if_true]
              exact Or.inr (Or.inl ⟨a0, a1, ⟨q, b0, by omega, b2, b3⟩, ⟨T + 1, by omega, by rw [n7, nI_1], by rw [n8, nI_1]⟩, ⟨g, by omega, b8, b9⟩⟩)
        · exact bad (Or.inr (by rw [b5]; exact nI_ne0 (by omega) (by omega))) (Or.inr (by rw [b6]; exact nI_lt (a := 0) (by omega) (by omega)))
      · exact bad (Or.inl a2) (Or.inl (by rw [a0]; decide))
    · exact op_badI I (by decide) (w_704_1 (x_5_1 n1 n3 (Or.inr ⟨⟨i, hi, rfl⟩, g1⟩))) (m_616_1 n2 n3 (Or.inr ⟨⟨i, hi, rfl⟩, g2⟩))
  · exact op_badI I (by decide) (w_704_1 (x_5_1 n1 n3 (Or.inl g1))) (m_616_1 n2 n3 (Or.inl g2))
theorem op_5 {xs : Nat → Int32} {C k L : Nat} {h : ai_H} (I : rl_I xs C h) (hC : C < 512) (p0 p1 : Int32) : op_I xs C k L h 705 617 [ai_r 0 0, ai_i p0, ai_i p1, ai_r 50 0] [ai_r 23 0, ai_i p0, ai_i p1] := by
  obtain ⟨hs, N, W, T, hT, R⟩ := id I
  obtain ⟨A, B1, B2, O, E, D, Cc, P7, P5, S1, S2, S3, M, F0, F1, F2, K5, K4, G, H, Q, J⟩ := id R
  obtain ⟨n1, n2, n3, n4, n5, n6, n7, n8, n9⟩ := id A
  have hT' : T < 2 ^ 30 := by omega
  rcases pr_i p0 n3 with ⟨i, hi, rfl⟩ | ⟨g1, g2⟩
  · rcases pr_f p1 with ⟨s, hp, rfl⟩ | ⟨g1, g2⟩
    · have hj : i < 40 := by omega
      have cc : rl_c T (ai_gI h 15 i s) (ai_gI h 16 i s) (ai_gI h 17 i s) (ai_gI h 18 i s) (ai_gI h 29 0 (3 * i + s)) (ai_gI h 30 0 (3 * i + s)) (ai_gI h 31 0 (3 * i + s)) (ai_gI h 32 0 (3 * i + s)) := Cc i s hj hp
      have bad : (ai_gI h 16 i s = 0 ∨ ¬ ai_gI h 18 i s = 0) → (¬ ai_gI h 29 0 (3 * i + s) = 1 ∨ 0 < ai_gI h 32 0 (3 * i + s)) → op_I xs C k L h 705 617 [ai_r 0 0, ai_i (nI i), ai_i (nI (4 + s)), ai_r 50 0] [ai_r 23 0, ai_i (nI i), ai_i (nI (4 + s))] := fun u v => op_badI I (by decide) (w_705_3 (x_6_3 n1 n3 hi hp u)) (m_617_2 n2 n3 hi hp v)
      rcases cc with ⟨a0, a1, a2, a3, a4, a5⟩ | ⟨a0, a1, ⟨q, b0, b1, b2, b3⟩, ⟨p, b4, b5, b6⟩, ⟨g, b7, b8, b9⟩⟩ | ⟨a0, a1, a2, a3, a4⟩
      · exact bad (Or.inl a2) (Or.inl (by rw [a0]; decide))
      · have hz : ¬ ai_gI h 16 i s = 0 := by rw [b2]; exact nI_ne0 b0 (by omega)
        by_cases hp0 : g = 0
        · subst hp0
          refine op_ownI (X := (ai_wI (ai_wI h 0 0 12 (ai_gI h 0 0 12 + 1)) 18 i s (ai_gI h 0 0 12 + 1))) (T := T + 1) (N := N) (W := W) (i := i) hi (by omega) hC (w_705 (x_6_ok n1 n3 hi hp hz b8)) (m_617_ok (by simp only [ai_gI_wI, ai_gI_wJ, ai_gJ_wI, ai_gJ_wJ, Nat.reduceEqDiff, false_and, and_false, true_and, and_true, and_self, if_false, if_true, ↓reduceIte]; exact n2) n3 hi hp (by simp only [ai_gI_wI, ai_gI_wJ, ai_gJ_wI, ai_gJ_wJ, Nat.reduceEqDiff, false_and, and_false, true_and, and_true, and_self, if_false, if_true, ↓reduceIte]; exact a0) (by simp only [ai_gI_wI, ai_gI_wJ, ai_gJ_wI, ai_gJ_wJ, Nat.reduceEqDiff, false_and, and_false, true_and, and_true, and_self, if_false, if_true, ↓reduceIte]; rw [b9]; decide)) ?_ ?_ ?_ (fun j => by simp only [ai_gI_wI, ai_gI_wJ, ai_gJ_wI, ai_gJ_wJ, Nat.reduceEqDiff, false_and, and_false, true_and, and_true, and_self, if_false, if_true, ↓reduceIte]) (fun j => by simp only [ai_gI_wI, ai_gI_wJ, ai_gJ_wI, ai_gJ_wJ, Nat.reduceEqDiff, false_and, and_false, true_and, and_true, and_self, if_false, if_true, ↓reduceIte]; exact hs j) ?_
          · simp only [ai_gI_wI, ai_gI_wJ, ai_gJ_wI, ai_gJ_wJ, Nat.reduceEqDiff, false_and, and_false, true_and, and_true, and_self, if_false, if_true, ↓reduceIte]
          · simp only [ow_I, ow_J, pt_I, pt_I2, pt_J, Nat.reduceEqDiff, not_false_eq_true]
          · simp only [ai_gI_wI, ai_gI_wJ, ai_gJ_wI, ai_gJ_wJ, Nat.reduceEqDiff, false_and, and_false, true_and, and_true, and_self, if_false, if_true, ↓reduceIte]
          unfold rl
          simp only [ai_gI_wI, ai_gI_wJ, ai_gJ_wI, ai_gJ_wJ, Nat.reduceEqDiff, false_and, and_false, true_and, and_true, and_self, if_false, if_true, ↓reduceIte]
          refine ⟨⟨n1, n2, n3, n4, n5, n6, by rw [n7, nI_1], by rw [n8, nI_1], n9⟩, B1, B2, O, E, D, ?_, P7, P5, S1, S2, S3, M, F0, F1, F2, K5, K4, G, H, Q, (rl_J_mono J (Nat.le_succ C))⟩
          · refine rl_C_up (i := i) (s := s) Cc (by omega : T ≤ T + 1) hp (fun a b e1 e2 => ?_) ?_
            · simp only [e1, e2, if_false, and_self]
            · simp only [and_self, if_true]
              exact Or.inr (Or.inl ⟨a0, a1, ⟨q, b0, by omega, b2, b3⟩, ⟨p, by omega, b5, b6⟩, ⟨T + 1, by omega, by rw [n7, nI_1], by rw [n8, nI_1]⟩⟩)
        · exact bad (Or.inr (by rw [b8]; exact nI_ne0 (by omega) (by omega))) (Or.inr (by rw [b9]; exact nI_lt (a := 0) (by omega) (by omega)))
      · exact bad (Or.inl a2) (Or.inl (by rw [a0]; decide))
    · exact op_badI I (by decide) (w_705_1 (x_6_1 n1 n3 (Or.inr ⟨⟨i, hi, rfl⟩, g1⟩))) (m_617_1 n2 n3 (Or.inr ⟨⟨i, hi, rfl⟩, g2⟩))
  · exact op_badI I (by decide) (w_705_1 (x_6_1 n1 n3 (Or.inl g1))) (m_617_1 n2 n3 (Or.inl g2))
theorem op_6 {xs : Nat → Int32} {C k L : Nat} {h : ai_H} (I : rl_I xs C h) (hC : C < 512) (p0 p1 : Int32) : op_I xs C k L h 706 618 [ai_r 0 0, ai_i p0, ai_i p1, ai_r 50 0] [ai_r 23 0, ai_i p0, ai_i p1] := by
  obtain ⟨hs, N, W, T, hT, R⟩ := id I
  obtain ⟨A, B1, B2, O, E, D, Cc, P7, P5, S1, S2, S3, M, F0, F1, F2, K5, K4, G, H, Q, J⟩ := id R
  obtain ⟨n1, n2, n3, n4, n5, n6, n7, n8, n9⟩ := id A
  have hT' : T < 2 ^ 30 := by omega
  rcases pr_i p0 n3 with ⟨i, hi, rfl⟩ | ⟨g1, g2⟩
  · rcases pr_f p1 with ⟨s, hp, rfl⟩ | ⟨g1, g2⟩
    · have hj : i < 40 := by omega
      have cc : rl_c T (ai_gI h 15 i s) (ai_gI h 16 i s) (ai_gI h 17 i s) (ai_gI h 18 i s) (ai_gI h 29 0 (3 * i + s)) (ai_gI h 30 0 (3 * i + s)) (ai_gI h 31 0 (3 * i + s)) (ai_gI h 32 0 (3 * i + s)) := Cc i s hj hp
      have bad : ai_gI h 16 i s = 0 → ¬ ai_gI h 29 0 (3 * i + s) = 1 → op_I xs C k L h 706 618 [ai_r 0 0, ai_i (nI i), ai_i (nI (4 + s)), ai_r 50 0] [ai_r 23 0, ai_i (nI i), ai_i (nI (4 + s))] := fun u v => op_badI I (by decide) (w_706_3 (x_7_3 n1 n3 hi hp u)) (m_618_2 n2 n3 hi hp v)
      rcases cc with ⟨a0, a1, a2, a3, a4, a5⟩ | ⟨a0, a1, ⟨q, b0, b1, b2, b3⟩, ⟨p, b4, b5, b6⟩, ⟨g, b7, b8, b9⟩⟩ | ⟨a0, a1, a2, a3, a4⟩
      · exact bad a2 (by rw [a0]; decide)
      · have hz : ¬ ai_gI h 16 i s = 0 := by rw [b2]; exact nI_ne0 b0 (by omega)
        refine op_ownI (X := ai_end h i s) (T := T) (N := N) (W := W) (i := i) hi (by omega) hC (w_706 (x_7_ok n1 n3 hi hp hz)) (m_618_ok (by simp only [ai_end, ai_gI_wI, ai_gI_wJ, ai_gJ_wI, ai_gJ_wJ, Nat.reduceEqDiff, false_and, and_false, true_and, and_true, and_self, if_false, if_true, ↓reduceIte]; exact n2) n3 hi hp (by simp only [ai_end, ai_gI_wI, ai_gI_wJ, ai_gJ_wI, ai_gJ_wJ, Nat.reduceEqDiff, false_and, and_false, true_and, and_true, and_self, if_false, if_true, ↓reduceIte]; exact a0)) ?_ ?_ ?_ (fun j => by simp only [ai_end, ai_gI_wI, ai_gI_wJ, ai_gJ_wI, ai_gJ_wJ, Nat.reduceEqDiff, false_and, and_false, true_and, and_true, and_self, if_false, if_true, ↓reduceIte]) (fun j => by simp only [ai_end, ai_gI_wI, ai_gI_wJ, ai_gJ_wI, ai_gJ_wJ, Nat.reduceEqDiff, false_and, and_false, true_and, and_true, and_self, if_false, if_true, ↓reduceIte]; exact hs j) ?_
        · simp only [ai_gI_wI, ai_gI_wJ, ai_gJ_wI, ai_gJ_wJ, Nat.reduceEqDiff, false_and, and_false, true_and, and_true, and_self, if_false, if_true, ↓reduceIte]
        · simp only [ow_I, ow_J, pt_I, pt_I2, pt_J, Nat.reduceEqDiff, not_false_eq_true]
        · simp only [ai_gI_wI, ai_gI_wJ, ai_gJ_wI, ai_gJ_wJ, Nat.reduceEqDiff, false_and, and_false, true_and, and_true, and_self, if_false, if_true, ↓reduceIte]
        unfold rl
        simp only [ai_end, ai_gI_wI, ai_gI_wJ, ai_gJ_wI, ai_gJ_wJ, Nat.reduceEqDiff, false_and, and_false, true_and, and_true, and_self, if_false, if_true, ↓reduceIte]
        refine ⟨A, B1, B2, O, E, D, ?_, P7, P5, S1, S2, S3, M, F0, F1, F2, K5, K4, G, H, Q, (rl_J_mono J (Nat.le_succ C))⟩
        · refine rl_C_up (i := i) (s := s) Cc (Nat.le_refl T) hp (fun a b e1 e2 => ?_) ?_
          · simp only [e1, e2, if_false, and_self]
          · simp only [and_self, if_true]
            exact Or.inr (Or.inr ⟨rfl, a1, rfl, rfl, rfl⟩)
      · exact bad a2 (by rw [a0]; decide)
    · exact op_badI I (by decide) (w_706_1 (x_7_1 n1 n3 (Or.inr ⟨⟨i, hi, rfl⟩, g1⟩))) (m_618_1 n2 n3 (Or.inr ⟨⟨i, hi, rfl⟩, g2⟩))
  · exact op_badI I (by decide) (w_706_1 (x_7_1 n1 n3 (Or.inl g1))) (m_618_1 n2 n3 (Or.inl g2))
theorem op_3 {xs : Nat → Int32} {C k L : Nat} {h : ai_H} (I : rl_I xs C h) (hC : C < 512) (p0 p1 b : Int32) (hb : b = 0 ∨ b = 1) : op_I xs C k L h 703 615 [ai_r 0 0, ai_i p0, ai_i p1, ai_i b, ai_r 50 0] [ai_r 23 0, ai_i p0, ai_i p1, ai_i b] := by
  obtain ⟨hs, N, W, T, hT, R⟩ := id I
  obtain ⟨A, B1, B2, O, E, D, Cc, P7, P5, S1, S2, S3, M, F0, F1, F2, K5, K4, G, H, Q, J⟩ := id R
  obtain ⟨n1, n2, n3, n4, n5, n6, n7, n8, n9⟩ := id A
  have hT' : T < 2 ^ 30 := by omega
  rcases pr_i p0 n3 with ⟨i, hi, rfl⟩ | ⟨g1, g2⟩
  · rcases pr_f p1 with ⟨s, hp, rfl⟩ | ⟨g1, g2⟩
    · have hj : i < 40 := by omega
      have cc : rl_c T (ai_gI h 15 i s) (ai_gI h 16 i s) (ai_gI h 17 i s) (ai_gI h 18 i s) (ai_gI h 29 0 (3 * i + s)) (ai_gI h 30 0 (3 * i + s)) (ai_gI h 31 0 (3 * i + s)) (ai_gI h 32 0 (3 * i + s)) := Cc i s hj hp
      obtain ⟨a, ha, q1, q2⟩ := rl_sl R hi
      obtain ⟨o, o0, o1, o2⟩ := rl_ce R hi
      have bad : (¬ ai_gI h 15 i s = 0 ∨ ai_gI h 14 i 3 = 0 ∨ ¬ ai_gI h 12 0 a = 0) → (¬ ai_gI h 29 0 (3 * i + s) = 0 ∨ ai_gI h 26 0 i = 0 ∨ ¬ ai_gI h 44 0 a = 0) → op_I xs C k L h 703 615 [ai_r 0 0, ai_i (nI i), ai_i (nI (4 + s)), ai_i b, ai_r 50 0] [ai_r 23 0, ai_i (nI i), ai_i (nI (4 + s)), ai_i b] := fun u v => op_badI I (by decide) (w_703_3 (x_4_3 n1 n3 hi hp ha q1 u)) (m_615_2 n2 n3 hi hp ha q2 v)
      have hf : ai_gI h 12 0 a = ai_gI h 44 0 a := G a ha
      rcases cc with ⟨a0, a1, a2, a3, a4, a5⟩ | ⟨a0, a1, -⟩ | ⟨a0, a1, -⟩
      · by_cases h3 : ai_gI h 14 i 3 = 0
        · exact bad (Or.inr (Or.inl h3)) (Or.inr (Or.inl (by rw [o2, ← o1]; exact h3)))
        · have h3' : ¬ ai_gI h 26 0 i = 0 := by rw [o2, ← o1]; exact h3
          by_cases h4 : ai_gI h 12 0 a = 0
          · have h4' : ai_gI h 44 0 a = 0 := by rw [← hf]; exact h4
            rcases hb with rfl | rfl
            · refine op_ownI (X := (ai_wI (ai_wI (ai_wI h 0 0 12 (ai_gI h 0 0 12 + 1)) 15 i s 1) 16 i s (ai_gI h 0 0 12 + 1))) (T := T + 1) (N := N) (W := W) (i := i) hi (by omega) hC (w_703 (x_4_ok0 n1 n3 hi hp ha q1 a1 h3 h4)) (m_615_ok0 (by simp only [ai_gI_wI, ai_gI_wJ, ai_gJ_wI, ai_gJ_wJ, Nat.reduceEqDiff, false_and, and_false, true_and, and_true, and_self, if_false, if_true, ↓reduceIte]; exact n2) n3 hi hp ha (by simp only [ai_gI_wI, ai_gI_wJ, ai_gJ_wI, ai_gJ_wJ, Nat.reduceEqDiff, false_and, and_false, true_and, and_true, and_self, if_false, if_true, ↓reduceIte]; exact q2) (by simp only [ai_gI_wI, ai_gI_wJ, ai_gJ_wI, ai_gJ_wJ, Nat.reduceEqDiff, false_and, and_false, true_and, and_true, and_self, if_false, if_true, ↓reduceIte]; exact a0) (by simp only [ai_gI_wI, ai_gI_wJ, ai_gJ_wI, ai_gJ_wJ, Nat.reduceEqDiff, false_and, and_false, true_and, and_true, and_self, if_false, if_true, ↓reduceIte]; exact h3') (by simp only [ai_gI_wI, ai_gI_wJ, ai_gJ_wI, ai_gJ_wJ, Nat.reduceEqDiff, false_and, and_false, true_and, and_true, and_self, if_false, if_true, ↓reduceIte]; exact h4')) ?_ ?_ ?_ (fun j => by simp only [ai_gI_wI, ai_gI_wJ, ai_gJ_wI, ai_gJ_wJ, Nat.reduceEqDiff, false_and, and_false, true_and, and_true, and_self, if_false, if_true, ↓reduceIte]) (fun j => by simp only [ai_gI_wI, ai_gI_wJ, ai_gJ_wI, ai_gJ_wJ, Nat.reduceEqDiff, false_and, and_false, true_and, and_true, and_self, if_false, if_true, ↓reduceIte]; exact hs j) ?_
              · simp only [ai_gI_wI, ai_gI_wJ, ai_gJ_wI, ai_gJ_wJ, Nat.reduceEqDiff, false_and, and_false, true_and, and_true, and_self, if_false, if_true, ↓reduceIte]
              · simp only [ow_I, ow_J, pt_I, pt_I2, pt_J, Nat.reduceEqDiff, not_false_eq_true]
              · simp only [ai_gI_wI, ai_gI_wJ, ai_gJ_wI, ai_gJ_wJ, Nat.reduceEqDiff, false_and, and_false, true_and, and_true, and_self, if_false, if_true, ↓reduceIte]
              unfold rl
              simp only [ai_gI_wI, ai_gI_wJ, ai_gJ_wI, ai_gJ_wJ, Nat.reduceEqDiff, false_and, and_false, true_and, and_true, and_self, if_false, if_true, ↓reduceIte]
              refine ⟨⟨n1, n2, n3, n4, n5, n6, by rw [n7, nI_1], by rw [n8, nI_1], n9⟩, B1, B2, O, E, D, ?_, P7, P5, S1, S2, S3, M, F0, F1, F2, K5, K4, G, H, Q, (rl_J_mono J (Nat.le_succ C))⟩
              · refine rl_C_up (i := i) (s := s) Cc (by omega : T ≤ T + 1) hp (fun a b e1 e2 => ?_) ?_
                · simp only [e1, e2, if_false, and_self]
                · simp only [and_self, if_true]
                  exact Or.inr (Or.inl ⟨rfl, rfl, ⟨T + 1, by omega, by omega, by rw [n7, nI_1], by rw [n8, nI_1]⟩, ⟨0, by omega, a3, rfl⟩, ⟨0, by omega, a4, a5⟩⟩)
            · refine op_ownI (X := (ai_wI (ai_wI (ai_wI (ai_wI h 0 0 12 (ai_gI h 0 0 12 + 1)) 15 i s 1) 16 i s (ai_gI h 0 0 12 + 1)) 17 i s (ai_gI h 0 0 12 + 1))) (T := T + 1) (N := N) (W := W) (i := i) hi (by omega) hC (w_703 (x_4_ok1 n1 n3 hi hp ha q1 a1 h3 h4)) (m_615_ok1 (by simp only [ai_gI_wI, ai_gI_wJ, ai_gJ_wI, ai_gJ_wJ, Nat.reduceEqDiff, false_and, and_false, true_and, and_true, and_self, if_false, if_true, ↓reduceIte]; exact n2) n3 hi hp ha (by simp only [ai_gI_wI, ai_gI_wJ, ai_gJ_wI, ai_gJ_wJ, Nat.reduceEqDiff, false_and, and_false, true_and, and_true, and_self, if_false, if_true, ↓reduceIte]; exact q2) (by simp only [ai_gI_wI, ai_gI_wJ, ai_gJ_wI, ai_gJ_wJ, Nat.reduceEqDiff, false_and, and_false, true_and, and_true, and_self, if_false, if_true, ↓reduceIte]; exact a0) (by simp only [ai_gI_wI, ai_gI_wJ, ai_gJ_wI, ai_gJ_wJ, Nat.reduceEqDiff, false_and, and_false, true_and, and_true, and_self, if_false, if_true, ↓reduceIte]; exact h3') (by simp only [ai_gI_wI, ai_gI_wJ, ai_gJ_wI, ai_gJ_wJ, Nat.reduceEqDiff, false_and, and_false, true_and, and_true, and_self, if_false, if_true, ↓reduceIte]; exact h4')) ?_ ?_ ?_ (fun j => by simp only [ai_gI_wI, ai_gI_wJ, ai_gJ_wI, ai_gJ_wJ, Nat.reduceEqDiff, false_and, and_false, true_and, and_true, and_self, if_false, if_true, ↓reduceIte]) (fun j => by simp only [ai_gI_wI, ai_gI_wJ, ai_gJ_wI, ai_gJ_wJ, Nat.reduceEqDiff, false_and, and_false, true_and, and_true, and_self, if_false, if_true, ↓reduceIte]; exact hs j) ?_
              · simp only [ai_gI_wI, ai_gI_wJ, ai_gJ_wI, ai_gJ_wJ, Nat.reduceEqDiff, false_and, and_false, true_and, and_true, and_self, if_false, if_true, ↓reduceIte]
              · simp only [ow_I, ow_J, pt_I, pt_I2, pt_J, Nat.reduceEqDiff, not_false_eq_true]
              · simp only [ai_gI_wI, ai_gI_wJ, ai_gJ_wI, ai_gJ_wJ, Nat.reduceEqDiff, false_and, and_false, true_and, and_true, and_self, if_false, if_true, ↓reduceIte]
              unfold rl
              simp only [ai_gI_wI, ai_gI_wJ, ai_gJ_wI, ai_gJ_wJ, Nat.reduceEqDiff, false_and, and_false, true_and, and_true, and_self, if_false, if_true, ↓reduceIte]
              refine ⟨⟨n1, n2, n3, n4, n5, n6, by rw [n7, nI_1], by rw [n8, nI_1], n9⟩, B1, B2, O, E, D, ?_, P7, P5, S1, S2, S3, M, F0, F1, F2, K5, K4, G, H, Q, (rl_J_mono J (Nat.le_succ C))⟩
              · refine rl_C_up (i := i) (s := s) Cc (by omega : T ≤ T + 1) hp (fun a b e1 e2 => ?_) ?_
                · simp only [e1, e2, if_false, and_self]
                · simp only [and_self, if_true]
                  exact Or.inr (Or.inl ⟨rfl, rfl, ⟨T + 1, by omega, by omega, by rw [n7, nI_1], by rw [n8, nI_1]⟩, ⟨T + 1, by omega, by rw [n7, nI_1], by rw [n8, nI_1]⟩, ⟨0, by omega, a4, a5⟩⟩)
          · exact bad (Or.inr (Or.inr h4)) (Or.inr (Or.inr (by rw [← hf]; exact h4)))
      · exact bad (Or.inl (by rw [a1]; decide)) (Or.inl (by rw [a0]; decide))
      · exact bad (Or.inl (by rw [a1]; decide)) (Or.inl (by rw [a0]; decide))
    · exact op_badI I (by decide) (w_703_1 (x_4_1 n1 n3 (Or.inr ⟨⟨i, hi, rfl⟩, g1⟩))) (m_615_1 n2 n3 (Or.inr ⟨⟨i, hi, rfl⟩, g2⟩))
  · exact op_badI I (by decide) (w_703_1 (x_4_1 n1 n3 (Or.inl g1))) (m_615_1 n2 n3 (Or.inl g2))
theorem op_0 {xs : Nat → Int32} {C k L : Nat} {h : ai_H} (I : rl_I xs C h) (hC : C < 512) (p0 p1 p2 p3 : Int32) : op_I xs C k L h 700 608 [ai_r 0 0, ai_i p0, ai_i p1, ai_i p2, ai_i p3, ai_r 50 0] [ai_r 23 0, ai_i p0, ai_i p1, ai_i p2, ai_i p3] := by
  obtain ⟨hs, N, W, T, hT, R⟩ := id I
  obtain ⟨A, B1, B2, O, E, D, Cc, P7, P5, S1, S2, S3, M, F0, F1, F2, K5, K4, G, H, Q, J⟩ := id R
  obtain ⟨n1, n2, n3, n4, n5, n6, n7, n8, n9⟩ := id A
  have hT' : T < 2 ^ 30 := by omega
  rcases pr_s p0 with ⟨a, ha, rfl⟩ | ⟨g1, g2⟩
  · rcases pr_b p1 with ⟨b, hb, rfl⟩ | ⟨g1, g2⟩
    · by_cases g2 : 1 ≤ p2 ∧ p2 ≤ 1000000
      · by_cases g3 : 0 ≤ p3 ∧ p3 ≤ 300
        · have hf : ai_gI h 12 0 a = ai_gI h 44 0 a := G a ha
          by_cases g4 : N < 40
          · by_cases g5 : ai_gI h 12 0 a = 0
            · obtain ⟨c, c0, rfl⟩ := nI_of2 (M := 1000000) (n := 1000000) (by decide +kernel) (Int32.not_lt.mpr (Int32.le_trans (by decide : (0 : Int32) ≤ 1) g2.1)) g2.2
              have hc1 := (nI_leI (a := 1) (b := c) (by decide) (by omega)).mp g2.1
              have hc2 : ¬ nI c = 0 := nI_ne0 (by omega) (by omega)
              have h47 : ai_gI h 47 0 N = 0 := (H.2 N (Nat.le_refl N) g4).2.2
              refine ⟨0, _, k, _, _, w_700 (x_1_ok n1 g4 ha hb g2 g3 g5), m_608_ok (by simp only [ai_gI_wI, ai_gI_wJ, ai_gJ_wI, ai_gJ_wJ, Nat.reduceEqDiff, false_and, and_false, true_and, and_true, and_self, if_false, if_true, ↓reduceIte]; exact n2) g4 ha hb g2 g3 (by simp only [ai_gI_wI, ai_gI_wJ, ai_gJ_wI, ai_gJ_wJ, Nat.reduceEqDiff, false_and, and_false, true_and, and_true, and_self, if_false, if_true, ↓reduceIte]; rw [← hf]; exact g5), by simp only [ai_gI_wI, ai_gI_wJ, ai_gJ_wI, ai_gJ_wJ, Nat.reduceEqDiff, false_and, and_false, true_and, and_true, and_self, if_false, if_true, ↓reduceIte], fun _ => by simp only [ai_gI_wI, ai_gI_wJ, ai_gJ_wI, ai_gJ_wJ, Nat.reduceEqDiff, false_and, and_false, true_and, and_true, and_self, if_false, if_true, ↓reduceIte], Nat.le_succ k, fun j => by simp only [ai_gI_wI, ai_gI_wJ, ai_gJ_wI, ai_gJ_wJ, Nat.reduceEqDiff, false_and, and_false, true_and, and_true, and_self, if_false, if_true, ↓reduceIte], fun j => by simp only [ai_gI_wI, ai_gI_wJ, ai_gJ_wI, ai_gJ_wJ, Nat.reduceEqDiff, false_and, and_false, true_and, and_true, and_self, if_false, if_true, ↓reduceIte]; exact hs j, N + 1, W, T, by omega, ?_⟩
              unfold rl
              simp only [ai_gI_wI, ai_gI_wJ, ai_gJ_wI, ai_gJ_wJ, Nat.reduceEqDiff, false_and, and_false, true_and, and_true, and_self, if_false, if_true, ↓reduceIte]
              exact ⟨⟨rfl, rfl, by omega, n4, n5, n6, n7, n8, n9⟩, rl_B_new B1 ha, rl_B_new B2 hb, rl_O_new O c0, rl_E_new E (by rw [n9]), D, Cc, P7, P5, rl_B_mono S1 (Nat.le_succ N), S2, S3, M, F0, F1, F2, K5, K4, G, rl_H_new H g4, ⟨Q.1.trans (by rw [show ai_cw (fun i => ai_gI h 47 0 i) (N + 1) = ai_cw (fun i => ai_gI h 47 0 i) N from if_pos h47]), Q.2⟩, rl_J_new J (Nat.le_succ C) g4 hc2⟩
            · exact op_badI I (by decide) (w_700_3 (x_1_3 n1 n3 ha hb g2 g3 (Or.inr g5))) (m_608_3 n2 n3 ha hb g2 g3 (Or.inr (by rw [← hf]; exact g5)))
          · exact op_badI I (by decide) (w_700_3 (x_1_3 n1 n3 ha hb g2 g3 (Or.inl g4))) (m_608_3 n2 n3 ha hb g2 g3 (Or.inl g4))
        · exact op_badI I (by decide) (w_700_2 (x_1_2 ha hb (Or.inr g3))) (m_608_2 ha hb (Or.inr g3))
      · exact op_badI I (by decide) (w_700_2 (x_1_2 ha hb (Or.inl g2))) (m_608_2 ha hb (Or.inl g2))
    · exact op_badI I (by decide) (w_700_1 (x_1_1 (Or.inr ⟨⟨a, ha, rfl⟩, g1⟩))) (m_608_1 (Or.inr ⟨⟨a, ha, rfl⟩, g2⟩))
  · exact op_badI I (by decide) (w_700_1 (x_1_1 (Or.inl g1))) (m_608_1 (Or.inl g2))
theorem eq_true_iff_iff_of {p : Prop} (h : p = True) : p := of_eq_true h
theorem op_7 {xs : Nat → Int32} {C k L : Nat} {h : ai_H} (I : rl_I xs C h) (hC : C < 512) (p0 p1 : Int32) : op_I xs C k L h 707 623 [ai_r 0 0, ai_i p0, ai_i p1, ai_r 50 0] [ai_r 23 0, ai_i p0, ai_i p1] := by
  obtain ⟨hs, N, W, T, hT, R⟩ := id I
  obtain ⟨A, B1, B2, O, E, D, Cc, P7, P5, S1, S2, S3, M, F0, F1, F2, K5, K4, G, H, Q, J⟩ := id R
  obtain ⟨n1, n2, n3, n4, n5, n6, n7, n8, n9⟩ := id A
  have hT' : T < 2 ^ 30 := by omega
  rcases pr_i p0 n3 with ⟨i, hi, rfl⟩ | ⟨g1, g2⟩
  · rcases pr_w p1 with ⟨c, hc, rfl⟩ | ⟨g1, g2⟩
    · rcases (show c = 0 ∨ c = 1 ∨ c = 2 ∨ c = 3 ∨ c = 4 ∨ c = 5 by omega) with rfl | rfl | rfl | rfl | rfl | rfl
      · refine op_getI (H := h) I (fun _ => rfl) (w_707 (x_8_ok0 n1 n3 hi)) (m_623_ok0 (by simp only [ai_gI_wI, ai_gI_wJ, ai_gJ_wI, ai_gJ_wJ, Nat.reduceEqDiff, false_and, and_false, true_and, and_true, and_self, if_false, if_true, ↓reduceIte]; exact n2) n3 hi) ?_
        obtain ⟨q, q0, q1, q2⟩ := rl_ce R hi
        exact q1.trans q2.symm
      · refine op_getI (H := h) I (fun _ => rfl) (w_707 (x_8_ok1 n1 n3 hi)) (m_623_ok1 (by simp only [ai_gI_wI, ai_gI_wJ, ai_gJ_wI, ai_gJ_wJ, Nat.reduceEqDiff, false_and, and_false, true_and, and_true, and_self, if_false, if_true, ↓reduceIte]; exact n2) n3 hi) ?_
        exact rl_own2 R hT' hi
      · refine op_getI (H := h) I (fun _ => rfl) (w_707 (x_8_ok2 n1 n3 hi)) (m_623_ok2 (by simp only [ai_gI_wI, ai_gI_wJ, ai_gJ_wI, ai_gJ_wJ, Nat.reduceEqDiff, false_and, and_false, true_and, and_true, and_self, if_false, if_true, ↓reduceIte]; exact n2) n3 hi) ?_
        obtain ⟨p, p0, p1, p2⟩ := rl_fre R hT' hi
        exact p1.trans p2.symm
      · refine op_getI (H := h) I (fun _ => rfl) (w_707 (x_8_ok3 n1 n3 hi)) (m_623_ok3 (by simp only [ai_gI_wI, ai_gI_wJ, ai_gJ_wI, ai_gJ_wJ, Nat.reduceEqDiff, false_and, and_false, true_and, and_true, and_self, if_false, if_true, ↓reduceIte]; exact n2) n3 hi) ?_
        exact E i hi
      · obtain ⟨d1, d2⟩ : ai_gI h 14 i 5 = ai_gI h 28 0 i ∧ (ai_gI h 28 0 i = 0 ∨ ai_gI h 28 0 i = 1) := D i (by omega)
        rcases d2 with d2 | d2
        · exact op_getI (H := h) I (fun _ => rfl) (w_707 (x_8_ok40 n1 n3 hi (d1.trans d2))) (m_623_ok40 (by simp only [ai_gI_wI, ai_gI_wJ, ai_gJ_wI, ai_gJ_wJ, Nat.reduceEqDiff, false_and, and_false, true_and, and_true, and_self, if_false, if_true, ↓reduceIte]; exact n2) n3 hi (by simp only [ai_gI_wI, ai_gI_wJ, ai_gJ_wI, ai_gJ_wJ, Nat.reduceEqDiff, false_and, and_false, true_and, and_true, and_self, if_false, if_true, ↓reduceIte]; exact d2)) rfl
        · exact op_getI (H := h) I (fun _ => rfl) (w_707 (x_8_ok41 n1 n3 hi (d1.trans d2))) (m_623_ok41 (by simp only [ai_gI_wI, ai_gI_wJ, ai_gJ_wI, ai_gJ_wJ, Nat.reduceEqDiff, false_and, and_false, true_and, and_true, and_self, if_false, if_true, ↓reduceIte]; exact n2) n3 hi (by simp only [ai_gI_wI, ai_gI_wJ, ai_gJ_wI, ai_gJ_wJ, Nat.reduceEqDiff, false_and, and_false, true_and, and_true, and_self, if_false, if_true, ↓reduceIte]; exact d2)) rfl
      · rcases rl_ct R hT' hi with ⟨s, hs3, c1, c2, c3, c4⟩ | ⟨c1, c2⟩
        · refine op_getI (H := h) I (fun _ => rfl) (w_707 (x_8_ok5y n1 n3 hi hs3 c1 c2)) (m_623_ok5 (by simp only [ai_gI_wI, ai_gI_wJ, ai_gJ_wI, ai_gJ_wJ, Nat.reduceEqDiff, false_and, and_false, true_and, and_true, and_self, if_false, if_true, ↓reduceIte]; exact n2) n3 hi) ?_
          have R' : rl h (ai_wJ h 50 0 0 (nI (4 + s)).toInt64) N W T C := rl_ag (ag_x_rf h) (ag_m_J (Or.inr (by decide)) (ag_m_rf h)) R
          have c5 := (rl_cn R' hT' hi hs3).mpr ⟨c1, c2⟩
          have hc : (4 ≤ ai_mow (ai_wJ h 50 0 0 (nI (4 + s)).toInt64) i ∧ ai_mow (ai_wJ h 50 0 0 (nI (4 + s)).toInt64) i ≤ 6) ∧ ai_cnM (ai_wJ h 50 0 0 (nI (4 + s)).toInt64) N (ai_mow (ai_wJ h 50 0 0 (nI (4 + s)).toInt64) i) i := by
            rw [show ai_mow (ai_wJ h 50 0 0 (nI (4 + s)).toInt64) i = nI (4 + s) from c4]
            exact ⟨of_eq_true (pk_fM hs3), c5⟩
          rw [if_pos hc]
          exact c4.symm
        · refine op_getI (H := h) I (fun _ => rfl) (w_707 (x_8_ok5n n1 n3 hi c1)) (m_623_ok5 (by simp only [ai_gI_wI, ai_gI_wJ, ai_gJ_wI, ai_gJ_wJ, Nat.reduceEqDiff, false_and, and_false, true_and, and_true, and_self, if_false, if_true, ↓reduceIte]; exact n2) n3 hi) ?_
          have R' : rl h (ai_wJ h 50 0 0 (-1 : Int32).toInt64) N W T C := rl_ag (ag_x_rf h) (ag_m_J (Or.inr (by decide)) (ag_m_rf h)) R
          rcases rl_ct R' hT' hi with ⟨s, hs3, d1, d2, d3, d4⟩ | ⟨d1, d2⟩
          · exact absurd d1 c1
          · rw [if_neg d2]
    · exact op_badI I (by decide) (w_707_2 (x_8_2 n1 n3 hi g2)) (m_623_2 n2 n3 hi g2)
  · exact op_badI I (by decide) (w_707_1 (x_8_1 n1 g1)) (m_623_1 n2 n3 g2)
theorem bs_hJ (h : ai_H) (t i j : Nat) (v : Int64) (N x : Nat) (a : Int32) : ai_bsM (ai_wJ h t i j v) N x a = ai_bsM h N x a := rfl
theorem op_19 {xs : Nat → Int32} {C k L : Nat} {h : ai_H} (I : rl_I xs C h) (hC : C < 512) (p0 p1 p2 : Int32) : op_J xs C k L h 717 648 [ai_r 0 0, ai_i p0, ai_i p1, ai_i p2, ai_r 50 0] [ai_r 23 0, ai_i p0, ai_i p1, ai_i p2] := by
  obtain ⟨hs, N, W, T, hT, R⟩ := id I
  obtain ⟨A, B1, B2, O, E, D, Cc, P7, P5, S1, S2, S3, M, F0, F1, F2, K5, K4, G, H, Q, J⟩ := id R
  obtain ⟨n1, n2, n3, n4, n5, n6, n7, n8, n9⟩ := id A
  have hT' : T < 2 ^ 30 := by omega
  rcases pr_f p0 with ⟨s, hp, rfl⟩ | ⟨g1, g2⟩
  · rcases pr_s p1 with ⟨a, ha, rfl⟩ | ⟨g1, g2⟩
    · have eb := rl_bs R hT' hp (nI a)
      have ed : ai_gJ h 22 s a = ai_gJ h 43 0 (4 * s + a) := K4 s a hp ha
      have hf : ai_gI h 12 0 a = ai_gI h 44 0 a := G a ha
      have hR : ∀ f, rl h (ai_h13 h f 5) N W T C := fun f => rl_ag (ag_x_rf h) (ag_m_13 h f 5) R
      have e13 : ∀ f i j, ai_gJ (ai_h13 h f 5) 43 i j = ai_gJ h 43 i j := fun f i j => ai_h13Jt h f (by decide) i j 5
      by_cases g : 1 ≤ p2 ∧ p2.toInt64 ≤ ai_bsX h N s (nI a) - ai_gJ h 22 s a
      · by_cases g5 : ai_gI h 12 0 a = 0
        · have key : ∀ (H0 : ai_H) (B : Int64), (∀ r, ai_E 52 [ai_r 0 0, ai_i (nI s), ai_i (nI a)] (281, k, L, ai_R0) h r ↔ r = (Sum.inl (some (ai_j B)), (281, k, L, ai_R0), H0)) → ag_x h H0 → ag_m h H0 → (∀ j, ai_gI H0 99 0 j = ai_gI h 99 0 j) → B = ai_bsX h N s (nI a) → op_J xs C k L h 717 648 [ai_r 0 0, ai_i (nI (4 + s)), ai_i (nI a), ai_i p2, ai_r 50 0] [ai_r 23 0, ai_i (nI (4 + s)), ai_i (nI a), ai_i p2] := by
            intro H0 B e hx hm hj hB
            have I0 : rl_I xs C H0 := rl_I_ag I hx hm hj
            have R0 : rl H0 H0 N W T C := rl_ag hx hm R
            obtain ⟨A, B1, B2, O, E, D, Cc, P7, P5, S1, S2, S3, M, F0, F1, F2, K5, K4, G, H, Q, J⟩ := id R0
            obtain ⟨n1, n2, n3, n4, n5, n6, n7, n8, n9⟩ := id A
            have x22 : ∀ i j, ai_gJ H0 22 i j = ai_gJ h 22 i j := fun i j => (hx 22 (by decide) i j).2
            have x10 : ∀ i j, ai_gJ H0 10 i j = ai_gJ h 10 i j := fun i j => (hx 10 (by decide) i j).2
            have x12 : ai_gI H0 12 0 a = 0 := (hx 12 (by decide) 0 a).1.trans g5
            have e4 : (a = 4 + s) = False := eq_false (by omega)
            have P7a : ai_gJ H0 10 0 a = ai_gJ H0 33 0 a := P7 a (by omega)
            have P7s : ai_gJ H0 10 0 (4 + s) = ai_gJ H0 33 0 (4 + s) := P7 (4 + s) (by omega)
            have K4a : ai_gJ H0 22 s a = ai_gJ H0 43 0 (4 * s + a) := K4 s a hp ha
            have hb : ∀ v, ai_bsM (ai_wJ H0 50 0 0 v) N s (nI a) = B := fun v => by
              rw [hB]
              exact (rl_bs (rl_ag (ag_x_rf h) (ag_m_J (Or.inr (by decide)) hm) R) hT' hp (nI a)).symm
            refine ⟨0, _, k, _, _, w_717 (x_20_okH (B := B) hp ha e x22 x10 x12 ⟨g.1, by rw [hB]; exact g.2⟩), m_648_ok (by simp only [ai_gI_wI, ai_gI_wJ, ai_gJ_wI, ai_gJ_wJ, Nat.reduceEqDiff, false_and, and_false, true_and, and_true, and_self, if_false, if_true, ↓reduceIte]; exact n2) n3 hp ha g.1 ?_ (by simp only [ai_gI_wI, ai_gI_wJ, ai_gJ_wI, ai_gJ_wJ, Nat.reduceEqDiff, false_and, and_false, true_and, and_true, and_self, if_false, if_true, ↓reduceIte]; exact (G a ha).symm.trans x12), by simp only [ai_gI_wI, ai_gI_wJ, ai_gJ_wI, ai_gJ_wJ, Nat.reduceEqDiff, false_and, and_false, true_and, and_true, and_self, if_false, if_true, ↓reduceIte], fun _ => ?_, Nat.le_succ k, fun j => by simp only [ai_gI_wI, ai_gI_wJ, ai_gJ_wI, ai_gJ_wJ, Nat.reduceEqDiff, false_and, and_false, true_and, and_true, and_self, if_false, if_true, ↓reduceIte]; exact hj j, fun j => by simp only [ai_gI_wI, ai_gI_wJ, ai_gJ_wI, ai_gJ_wJ, Nat.reduceEqDiff, false_and, and_false, true_and, and_true, and_self, if_false, if_true, ↓reduceIte]; exact I0.1 j, N, W, T, by omega, ?_⟩
            · have h2 := g.2
              rw [← hB, ← x22, K4a] at h2
              simp only [bs_hJ, ai_gI_wI, ai_gI_wJ, ai_gJ_wI, ai_gJ_wJ, Nat.reduceEqDiff, false_and, and_false, true_and, and_true, and_self, if_false, if_true, ↓reduceIte, Nat.reduceLeDiff]
              rw [show ai_bsM H0 N s (nI a) = B from hb 0]
              exact h2
            · simp only [ai_gI_wI, ai_gI_wJ, ai_gJ_wI, ai_gJ_wJ, Nat.reduceEqDiff, false_and, and_false, true_and, and_true, and_self, if_false, if_true, ↓reduceIte]
              rw [← x22, K4a]
            · unfold rl
              simp only [ai_gI_wI, ai_gI_wJ, ai_gJ_wI, ai_gJ_wJ, Nat.reduceEqDiff, false_and, and_false, true_and, and_true, and_self, if_false, if_true, ↓reduceIte]
              refine ⟨A, B1, B2, O, E, D, Cc, ?_, P5, S1, S2, S3, M, F0, F1, F2, K5, ?_, G, H, Q, (rl_J_mono J (Nat.le_succ C))⟩
              · intro p hp7
                have hpp : ai_gJ H0 10 0 p = ai_gJ H0 33 0 p := P7 p hp7
                have hx1 := x10 0 a
                have hx2 := x10 0 (4 + s)
                show (if p = a then _ else if p = 4 + s then _ else _) = (if p = a then _ else if p = 4 + s then _ else _)
                rw [hpp, ← hx1, ← hx2, P7a, P7s]
              · refine rl_K_up (s := s) (b := a) K4 ha (fun a c e1 e2 => ?_) ?_
                · simp only [e1, e2, if_false, and_self]
                · simp only [and_self, if_true]
                  rw [← x22, K4a]
          exact key _ _ (x_52 n1 n3 hp (nI a)) (ag_x_13 h _ 5) (ag_m_13 h _ 5) (fun j => ai_h13I h _ 99 0 j 5) rfl
        · refine op_badJ' (rl_I_13 _ _ I) (fun j => ai_h13I h _ 99 0 j 5) (by decide) (w_717_3 (x_20_3 n1 n3 hp ha g g5)) (m_648_3 (by rw [ai_h13I]; exact n2) n3 hp ha g.1 ?_ (by rw [ai_h13I, ← hf]; exact g5))
          rw [← rl_bs (hR _) hT' hp (nI a), e13, ← ed]
          exact g.2
      · refine op_badJ' (rl_I_13 _ _ I) (fun j => ai_h13I h _ 99 0 j 5) (by decide) (w_717_2 (x_20_2 n1 n3 hp ha g)) (m_648_2 (by rw [ai_h13I]; exact n2) n3 hp ha ?_)
        rw [← rl_bs (hR _) hT' hp (nI a), e13, ← ed]
        exact g
    · exact op_badJ I (by decide) (w_717_1 (x_20_1 (Or.inr ⟨⟨s, hp, rfl⟩, g1⟩))) (m_648_1 (Or.inr ⟨⟨s, hp, rfl⟩, g2⟩))
  · exact op_badJ I (by decide) (w_717_1 (x_20_1 (Or.inl g1))) (m_648_1 (Or.inl g2))
