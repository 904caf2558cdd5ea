/-! A draw, on both sides -/
theorem rl_bf {x m : ai_H} {N W T D C : Nat} (R : rl x m N W T D C) : ∀ i, i < N → pn (ai_gI m 23 0 (5 * i + 1)) < 5 ∧ ai_gI m 23 0 (5 * i + 1) = nI (pn (ai_gI m 23 0 (5 * i + 1))) := fun i hi => by
  obtain ⟨b, b0, b1, b2⟩ := rl_by R hi
  rw [b2, pn_nI (by omega)]
  exact ⟨b0, rfl⟩
theorem small_l {z : Int64} {u : Nat} (hu : u ≤ 3000) (h0 : 0 < z) (h1 : z < (nI u).toInt64) : ∃ v, 1 ≤ v ∧ v ≤ 3000 ∧ z = lN v := by
  rw [nI_l (by omega)] at h1
  rw [Int64.lt_iff_toInt_lt] at h0 h1
  rw [lN_toInt (by omega)] at h1
  have h0 : 0 < z.toInt := h0
  refine ⟨z.toInt.toNat, by omega, by omega, ?_⟩
  apply Int64.toInt_inj.mp
  rw [lN_toInt (by omega)]
  omega
theorem t_draw {L k t c kd y n s : Nat} {h : ai_H} {N W T D C : Nat} {j20 j21 j22 j23 j24 j25 : Option ai_V} (R : rl h h N W T D C) (hT : T < 2 ^ 28) (hs : s < 3) (hy : y < 2147483648) : tg L t k h N T C (fun r => ai_X 613 1474 (bl t c kd y n s j20 j21 j22 j23 j24 j25) [] (263, k, L, ai_R0) h r) := by
  obtain ⟨n1, n2, n3, n4, n5, n6, n7, n8, n9, n10⟩ := R.1
  have hT' : T < 2 ^ 29 := by omega
  obtain ⟨a, ha⟩ : ∃ a, y % 4 = a := ⟨_, rfl⟩
  have a4 : a < 4 := by omega
  obtain ⟨u, hu⟩ : ∃ u, 1 + y / 64 % 3000 = u := ⟨_, rfl⟩
  obtain ⟨e, e0, e1, e2⟩ := rl_fl R
  obtain ⟨H, d, e606⟩ := m_606 (k := k) (L := L) (a := nI a) (bf := fun i => pn (ai_gI h 23 0 (5 * i + 1))) n2 n3 (rl_bf R) hs
  generalize hB : lw_bs h N s (nI a) (fun i => pn (ai_gI h 23 0 (5 * i + 1))) = B at *
  have bsX : ∀ X W' T' D' C', T' < 2 ^ 29 → rl X h N W' T' D' C' → ai_bsX X N s (nI a) = B := fun X W' T' D' C' hT'' RX => by
    rw [← hB]
    exact rl_bs RX hT'' hs a4 (rl_bf RX)
  have K4 : rl_K 4 (fun s a => ai_gJ h 22 s a) (fun j => ai_gJ h 26 0 j) := R.2.2.2.2.2.2.2.2.2.2.2.2.2.2.2.1
  have kd4 : ai_gJ h 22 s a = ai_gJ h 26 0 (4 * s + a) := K4 s a hs a4
  have dH : ai_gJ H 26 0 (4 * s + a) = ai_gJ h 26 0 (4 * s + a) := (d 26 (by omega) 0 _).2
  obtain ⟨Mo, hMo⟩ : ∃ Mo, B - ai_gJ H 26 0 (4 * s + a) = Mo := ⟨_, rfl⟩
  have RH : rl h H N W T D C := rl_ag (ag_x_rf h) (ag_m_dq d) R
  have RHH : rl H H N W T D C := rl_ag (ag_x_dq d) (ag_m_rf H) RH
  have hv : ∃ v, 1 ≤ v ∧ v ≤ 3000 ∧ (((0 < y / 200000 % 3 ∧ 0 < Mo ∧ Mo < (nI u).toInt64) ∧ Mo.toInt32 = nI v) ∨ (¬ (0 < y / 200000 % 3 ∧ 0 < Mo ∧ Mo < (nI u).toInt64) ∧ v = u)) := by
    by_cases g : 0 < y / 200000 % 3 ∧ 0 < Mo ∧ Mo < (nI u).toInt64
    · obtain ⟨v, v1, v2, v3⟩ := small_l (by omega) g.2.1 g.2.2
      exact ⟨v, v1, v2, Or.inl ⟨g, by rw [v3]; exact lN_i v⟩⟩
    · exact ⟨u, by omega, by omega, Or.inr ⟨g, rfl⟩⟩
  obtain ⟨v, v1, v2, hv⟩ := hv
  have g1 : (1 : Int32) ≤ nI v := nI_le (a := 1) v1 (by omega)
  have pre := fun r => (b17_a (t := t) (c := c) (kd := kd) (n := n) (j20 := j20) (j21 := j21) (j22 := j22) (j23 := j23) (j24 := j24) (j25 := j25) hs hy ha hu e606 hMo hv r).trans (b17_b a4 ((d 32 (by omega) 0 3).1.trans e1) e0 r)
  by_cases can : (nI v).toInt64 ≤ Mo ∧ e / 2 ^ a % 2 = 0
  · rw [if_pos can] at pre
    have fF : fm h (ai_wJ (ml H (4 + s) a (nI v).toInt64) 26 0 (4 * s + a) (ai_gJ H 26 0 (4 * s + a) + (nI v).toInt64)) := fm_J (by decide) (ml_fm (fm_dq d))
    have wok := fun V Y e611 hV r => b17_ok (L := L) (k := k + 1) (t := t) (c := c) (kd := kd) (y := y) (n := n) (s := s) (a := a) (v := v) (H := H) (Y := Y) (Mo := Mo) (V := V) (j25 := j25) hs a4 e611 hV r
    have F26 : ai_gJ (ai_wJ (ml H (4 + s) a (nI v).toInt64) 26 0 (4 * s + a) (ai_gJ H 26 0 (4 * s + a) + (nI v).toInt64)) 26 0 (4 * s + a) = ai_gJ H 26 0 (4 * s + a) + (nI v).toInt64 := by rw [ai_gJ_wJ, if_pos ⟨rfl, rfl, rfl⟩]
    have RF : rl (ai_wJ (ml H (4 + s) a (nI v).toInt64) 26 0 (4 * s + a) (ai_gJ H 26 0 (4 * s + a) + (nI v).toInt64)) h N W T D C := rl_ag (ag_fm fF) (ag_m_rf h) R
    have sF := fm_tr fF (fm_rf _)
    have RXm : ∀ X, ag_x (ai_wJ (ml H (4 + s) a (nI v).toInt64) 26 0 (4 * s + a) (ai_gJ H 26 0 (4 * s + a) + (nI v).toInt64)) X → rl (ai_wJ (mv_x X (4 + s) a (nI v).toInt64) 22 s a (ai_gJ h 22 s a + (nI v).toInt64)) (ai_wJ (ml H (4 + s) a (nI v).toInt64) 26 0 (4 * s + a) (ai_gJ H 26 0 (4 * s + a) + (nI v).toInt64)) N W T D C := fun X ax => by
      have RX : rl X H N W T D C := rl_ag (ag_x_tr (ag_fm fF) ax) (ag_m_rf H) RH
      exact rl_dr a4 (by rw [kd4, dH]) (rl_ml (by omega) (by omega) _ RX)
    generalize ai_wJ (ml H (4 + s) a (nI v).toInt64) 26 0 (4 * s + a) (ai_gJ H 26 0 (4 * s + a) + (nI v).toInt64) = Fh at *
    have F22 : ai_gJ Fh 22 s a = ai_gJ h 22 s a := (fF 22 (Or.inl (by decide)) s a).2
    have e52 := fun r => x_52 (k := k + 1) (L := L) (h := Fh) RF.1.1 (by omega : N ≤ 40) hs (nI a) r
    have ax := ag_x_13 Fh (ai_cb Fh N (nI s) (nI a)) 5
    have fX := fx_13 Fh (ai_cb Fh N (nI s) (nI a)) 5
    have R2 := RXm _ ax
    rw [bsX Fh W T D C hT' RF] at e52
    generalize ai_h13 Fh (ai_cb Fh N (nI s) (nI a)) 5 = X at *
    have g2 : (nI v).toInt64 ≤ B - ai_gJ Fh 22 s a := by
      rw [F22, kd4, ← dH, hMo]
      exact can.1
    have eX := fun r => w_8 (p3 := 0) (fun r => x_20_okH (k := k + 1) (L := L) (h := Fh) (H := X) (B := B) (p2 := nI v) hs a4 e52 (fun i j => (ax 22 (by decide) i j).2) (fun i j => (ax 10 (by decide) i j).2) (by rw [(ax 12 (by decide) 0 a).1, (fF 12 (Or.inl (by decide)) 0 a).1]; exact (e2 a a4).mpr can.2) ⟨g1, g2⟩ r) r
    have X1 : ai_gJ Fh 10 0 (4 + s) = ai_gJ X 10 0 (4 + s) := (ax 10 (by decide) 0 _).2.symm
    have X2 : ai_gJ Fh 10 0 a = ai_gJ (ai_wJ X 10 0 (4 + s) (ai_gJ X 10 0 (4 + s) - (nI v).toInt64)) 10 0 a := by
      rw [ai_gJ_wJ, if_neg (by omega)]
      exact (ax 10 (by decide) 0 a).2.symm
    have eY : ai_wJ (ai_wJ (ai_wJ X 10 0 (4 + s) (ai_gJ Fh 10 0 (4 + s) - (nI v).toInt64)) 10 0 a (ai_gJ Fh 10 0 a + (nI v).toInt64)) 22 s a (ai_gJ Fh 22 s a + (nI v).toInt64) = ai_wJ (mv_x X (4 + s) a (nI v).toInt64) 22 s a (ai_gJ h 22 s a + (nI v).toInt64) := by
      unfold mv_x
      rw [F22, X1, X2]
    rw [eY] at eX
    have fY : fx Fh (ai_wJ (mv_x X (4 + s) a (nI v).toInt64) 22 s a (ai_gJ h 22 s a + (nI v).toInt64)) := fx_J (by decide) (mv_fx fX)
    have R3 := rl_ag (ag_x_rf _) (ag_m_fx fY) R2
    generalize ai_wJ (mv_x X (4 + s) a (nI v).toInt64) 22 s a (ai_gJ h 22 s a + (nI v).toInt64) = Y at *
    have hV : ai_gJ Y 26 0 (4 * s + a) = ai_gJ Fh 22 s a + (nI v).toInt64 := by
      rw [(fY 26 (by decide) 0 _).2, F26, F22, kd4, dH]
    exact tg_mk (fun r => (pre r).trans (wok _ Y eX hV r)) (by omega) (Nat.le_refl N) (Nat.le_succ T) (fun j => (fY 99 (by decide) 0 j).1.trans (fF 99 (Or.inr rfl) 0 j).1) (rl_mono R3 (Nat.le_succ C))
  · rw [if_neg can] at pre
    have RHh : rl H h N W T D C := rl_ag (ag_x_dq d) (ag_m_rf h) R
    have eB := bsX H W T D C hT' RHh
    have H22 : ai_gJ H 22 s a = ai_gJ H 26 0 (4 * s + a) := by rw [(d 22 (by omega) s a).2, kd4, dH]
    have sY := sg_tr (sg_dq d) (sg_13 H (ai_cb H N (nI s) (nI a)) 5)
    have R3 := rl_sg sY R
    have fin : (∀ r, ai_E 611 [ai_r 0 0, ai_i 8, ai_i (nI (4 + s)), ai_i (nI a), ai_i (nI v), ai_i 0] (263, k + 1, L, ai_R0) H r ↔ r = (Sum.inl (some (ai_j (if (nI v).toInt64 ≤ Mo then -99999999913 else -99999999912))), (263, k + 1 + 1, L, ai_R0), ai_h13 H (ai_cb H N (nI s) (nI a)) 5)) → tg L t k h N T C (fun r => ai_X 613 1474 (bl t c kd y n s j20 j21 j22 j23 j24 j25) [] (263, k, L, ai_R0) h r) := fun e611 =>
      tg_mk (fun r => (pre r).trans (b17_no hs a4 e611 r)) (by omega) (Nat.le_refl N) (Nat.le_succ T) (fun j => (sY 99 (by decide) 0 j).1) (rl_mono R3 (Nat.le_succ C))
    by_cases g : (nI v).toInt64 ≤ Mo
    · have g3 : ¬ ai_gI H 12 0 a = 0 := by
        rw [(d 12 (by omega) 0 a).1]
        exact fun z => can ⟨g, (e2 a a4).mp z⟩
      refine fin (fun r => ?_)
      rw [if_pos g]
      exact w_8_e3 (p3 := 0) (fun r => x_20_3 (k := k + 1) (L := L) RHH.1.1 (by omega) hs a4 ⟨g1, by rw [eB, H22, hMo]; exact g⟩ g3 r) r
    · refine fin (fun r => ?_)
      rw [if_neg g]
      exact w_8_e2 (p3 := 0) (fun r => x_20_2 (k := k + 1) (L := L) RHH.1.1 (by omega) hs a4 (fun z => by rw [eB, H22, hMo] at z; exact g z.2) r) r
