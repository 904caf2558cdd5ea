/-! A payment, on both sides -/
theorem cw_wc (X : ai_H) (y p : Nat) (v : Int32) (nn : Nat → Nat) : ∀ j, wr_x p nn (cf_x X y p v) j = wr_x p nn X j
  | 0 => rfl
  | j + 1 => by
    show (if ai_pty X (nn j) (ai_frS X (nn j)) = nI p then wr_x p nn (cf_x X y p v) j else wr_x p nn (cf_x X y p v) j + 1) = if ai_pty X (nn j) (ai_frS X (nn j)) = nI p then wr_x p nn X j else wr_x p nn X j + 1
    rw [cw_wc X y p v nn j]
theorem t_pay {L k t c kd y n s : Nat} {h : ai_H} {N W T D C : Nat} {j20 j21 j22 j23 j24 j25 : Option ai_V} (R : rl h h N W T D C) (hT : T < 2 ^ 28) (hC : C < 512) (hn : n < N) (hy : y < 2147483648) : tg L t k h N T C (fun r => ai_X 613 927 (bl t c kd y n s j20 j21 j22 j23 j24 j25) [] (263, k, L, ai_R0) h r) := by
  obtain ⟨n1, n2, n3, n4, n5, n6, n7, n8, n9, n10⟩ := R.1
  have hT' : T < 2 ^ 29 := by omega
  obtain ⟨q, q0, q1, q2⟩ := rl_ce R hn
  obtain ⟨b, b0, b1, b2⟩ := rl_by R hn
  obtain ⟨f, f0, f1, f2⟩ := rl_fre R hT' hn
  obtain ⟨p, hpd⟩ : ∃ p, p = if y / 48 % 2 = 0 then f else y / 96 % 7 := ⟨_, rfl⟩
  obtain ⟨v, hvd⟩ : ∃ v, v = if y / 672 % 3 = 0 ∧ 0 < q then q else 1 + y / 2016 % 3000 := ⟨_, rfl⟩
  have hp : p < 7 := by
    rw [hpd]
    split <;> omega
  have hv : 1 ≤ v ∧ v ≤ 5000 := by
    rw [hvd]
    split <;> omega
  obtain ⟨hv1, hv2⟩ := hv
  have g2 : (1 : Int32) ≤ nI v ∧ nI v ≤ 1000000 := ⟨nI_le (a := 1) hv1 (by omega), nI_le (b := 1000000) (by omega) (by decide)⟩
  have pre := fun r => ((b8_a (L := L) (k := k) (t := t) (c := c) (kd := kd) (s := s) (j20 := j20) (j21 := j21) (j22 := j22) (j23 := j23) (j24 := j24) (j25 := j25) hn n3 hy ⟨f, f2, hpd⟩ r).trans (b8_b hn n3 hy q2 q0 hvd r)).trans ((b8_c (p := p) hn n3 q2 q0 f2 f0 hp n5 n6 r).trans (b8_d hn n3 q2 q0 hv2 r))
  have hm : ∀ X : ai_H, ai_gI X 14 n 3 = nI q → ai_min (nI v) (ai_gI X 14 n 3) = nI (min v q) := fun X e => by rw [e]; exact min_nI (by omega) (by omega)
  have hz : 0 < q → ¬ nI q = 0 := fun z => nI_ne0 z (by omega)
  have frh : ai_pty h n (ai_frS h n) = nI p ↔ f = p := by rw [f1, nI_eq (by omega) (by omega)]
  -- the class's list of one
  have one : ∀ F, fm h F → ∃ Hm, Hm = ma_x F n (nI (min v q)) ∧ fx F Hm ∧ rl Hm h N W T D C ∧ ai_gI Hm 7 0 2 = nI 1 ∧ (∀ j, j < 1 → ai_gI Hm 8 0 j = nI n) ∧ (∀ j, j < 1 → ai_gI Hm 9 0 j = nI (min v q)) ∧ ls_ok Hm N 1 (fun _ => n) (fun _ => min v q) ∧ wr_x p (fun _ => n) Hm 1 = if f = p then 0 else 1 := fun F fF => by
    have a1 : ag_x h (ma_x F n (nI (min v q))) := ag_x_tr (ag_fm fF) (ma_ag _ _ _)
    have RH : rl (ma_x F n (nI (min v q))) h N W T D C := rl_ag a1 (ag_m_rf h) R
    refine ⟨_, rfl, ma_fx _ _ _, RH, ?_, fun j hj => ?_, fun j hj => ?_, fun j hj => ?_, ?_⟩
    · unfold ma_x
      simp only [ai_gI_wI, ai_gI_wJ, ai_gJ_wI, ai_gJ_wJ, Nat.reduceEqDiff, false_and, and_false, true_and, and_true, and_self, if_false, if_true, ↓reduceIte]
    · have : j = 0 := by omega
      subst this
      unfold ma_x
      simp only [ai_gI_wI, ai_gI_wJ, ai_gJ_wI, ai_gJ_wJ, Nat.reduceEqDiff, false_and, and_false, true_and, and_true, and_self, if_false, if_true, ↓reduceIte]
    · have : j = 0 := by omega
      subst this
      unfold ma_x
      simp only [ai_gI_wI, ai_gI_wJ, ai_gJ_wI, ai_gJ_wJ, Nat.reduceEqDiff, false_and, and_false, true_and, and_true, and_self, if_false, if_true, ↓reduceIte]
    · exact ⟨hn, fun a ha => by omega, q, by omega, (a1 14 (by decide) n 3).1.trans q1, Nat.min_le_right _ _, Or.inr (by omega)⟩
    · have e := rl_fr (p := p) RH hT' hn
      have e2 := rl_fr (p := p) R hT' hn
      show (if ai_pty (ma_x F n (nI (min v q))) n (ai_frS (ma_x F n (nI (min v q))) n) = nI p then 0 else 0 + 1) = _
      by_cases g : f = p
      · rw [if_pos g, if_pos (e.mpr (e2.mp (frh.mpr g)))]
      · rw [if_neg g, if_neg (fun z => g (frh.mp (e2.mpr (e.mp z))))]
  by_cases can : 0 < q ∧ (f = p ∨ W < 30)
  · rw [if_pos can] at pre
    obtain ⟨z0, z1⟩ := can
    have R1 := rl_cf b0 hp (nI v) R
    have hW : ¬ ai_pty (cf_x h b p (nI v)) n (ai_frS (cf_x h b p (nI v)) n) = nI p → W < 30 := fun z => z1.resolve_left (fun w => z (frh.mpr w))
    have e608 := fun r => l_608 (k := k) (L := L) (c := nI (min v q)) R1 hT' hn hp hW r
    have fF : fm h (lm_x (ml h (7 + b) p (nI v).toInt64) n p (nI (min v q))) := lm_fm (ml_fm (fm_rf h))
    have wok := fun V Y e611 hV r => b8_ok (t := t) (c := c) (kd := kd) (y := y) (s := s) (Y := Y) (V := V) (j24 := j24) (j25 := j25) hn n3 hp b0 b2 e608 e611 hV r
    obtain ⟨Hm, hHm, fH, RH, c7, c8, c9, hL, wr1⟩ := one _ fF
    have g5 : W + wr_x p (fun _ => n) Hm 1 ≤ 30 := by
      rw [wr1]
      rcases z1 with z | z
      · rw [if_pos z]
        omega
      · split <;> omega
    have R3 := rl_pm (p := p) (rl_cf b0 hp (nI v) RH) hT' hC hp (show ls_ok (cf_x Hm b p (nI v)) N 1 (fun _ => n) (fun _ => min v q) from hL) (by rw [cw_wc]; exact g5) 1 (Nat.le_refl 1)
    rw [if_neg (Nat.lt_irrefl 1)] at R3
    have R3 : rl (pm_x p (fun _ => n) (fun _ => min v q) (cf_x Hm b p (nI v)) 1) (lm_x (ml h (7 + b) p (nI v).toInt64) n p (nI (min v q))) N _ T D (C + 1) := R3
    have RF : rl (lm_x (ml h (7 + b) p (nI v).toInt64) n p (nI (min v q))) h N W T D C := rl_ag (ag_fm fF) (ag_m_rf h) R
    generalize lm_x (ml h (7 + b) p (nI v).toInt64) n p (nI (min v q)) = Fh at *
    have qF : ai_gI Fh 14 n 3 = nI q := (fF 14 (Or.inl (by decide)) n 3).1.trans q1
    have e35 := fun r => x_35_ok (k := k) (L := L) (nn := fun _ => n) (p := p) (by omega : N ≤ 40) RH.1.2.2.2.1 n6 c7 (by decide) (fun j hj => ⟨c8 j hj, hn⟩) g5 r
    have e41 := fun r => x_41 (k := k) (L := L) (v := nI v) (nn := fun _ => n) (cc := fun _ => min v q) RH hT' hC b0 hp c7 (by decide) c8 c9 hL g5 r
    have hM := hm Fh qF
    rw [hHm, ← hM] at e35 e41
    have eX := fun r => w_6 (p3 := 0) (fun r => x_10_ok (k := k) (L := L) RF.1.1 (by omega : N ≤ 40) hn hp g2 (by rw [qF]; exact hz z0) ((fF 14 (Or.inl (by decide)) n 1).1.trans b1) e35 e41 r) r
    rw [hM, ← hHm] at eX
    have fY : fx Fh (pm_x p (fun _ => n) (fun _ => min v q) (cf_x Hm b p (nI v)) 1) := fx_tr fH (fx_tr (cf_fx (fx_rf Hm)) (pm_fx 1))
    have R4 := rl_ag (ag_x_rf _) (ag_m_fx fY) R3
    generalize pm_x p (fun _ => n) (fun _ => min v q) (cf_x Hm b p (nI v)) 1 = Y at *
    obtain ⟨u, u0, u1, u2⟩ := rl_ce R4 hn
    exact tg_mk (fun r => (pre r).trans (wok _ Y eX (by rw [u1, u2]) r)) (by omega) (Nat.le_refl N) (Nat.le_succ T) (fun j => (fY 99 (by decide) 0 j).1.trans (fF 99 (Or.inr rfl) 0 j).1) R4
  · rw [if_neg can] at pre
    have wno := fun Y e611 r => b8_no (L := L) (k := k) (t := t) (c := c) (kd := kd) (y := y) (s := s) (p := p) (v := v) (w := min v q) (h := h) (Y := Y) (j24 := j24) (j25 := j25) hn n3 e611 r
    by_cases z0 : 0 < q
    · have z1 : ¬ (f = p ∨ W < 30) := fun z => can ⟨z0, z⟩
      obtain ⟨Hm, hHm, fH, RH, c7, c8, c9, hL, wr1⟩ := one h (fm_rf h)
      have g5 : ¬ W + wr_x p (fun _ => n) Hm 1 ≤ 30 := by
        rw [wr1, if_neg (fun z => z1 (Or.inl z))]
        have := fun z => z1 (Or.inr z)
        omega
      have e35 := fun r => x_35_no (k := k) (L := L) (nn := fun _ => n) (p := p) (by omega : N ≤ 40) RH.1.2.2.2.1 n6 c7 (by decide) (fun j hj => ⟨c8 j hj, hn⟩) g5 r
      have hM := hm h q1
      rw [hHm, ← hM] at e35
      have eX := fun r => w_6_e3 (p3 := 0) (fun r => x_10_3b (k := k) (L := L) n1 (by omega : N ≤ 40) hn hp g2 (by rw [q1]; exact hz z0) e35 r) r
      rw [hM, ← hHm] at eX
      have R4 := rl_ag (ag_x_rf _) (ag_m_fx fH) RH
      exact tg_mk (fun r => (pre r).trans (wno Hm eX r)) (by omega) (Nat.le_refl N) (Nat.le_succ T) (fun j => (fH 99 (by decide) 0 j).1) (rl_mono R4 (Nat.le_succ C))
    · have z : q = 0 := by omega
      have eX := fun r => w_6_e3 (p3 := 0) (fun r => x_10_3a (k := k) (L := L) n1 (by omega : N ≤ 40) hn hp g2 (by rw [q1, z]; rfl) r) r
      exact tg_mk (fun r => (pre r).trans (wno h eX r)) (by omega) (Nat.le_refl N) (Nat.le_succ T) (fun _ => rfl) (rl_mono R (Nat.le_succ C))
