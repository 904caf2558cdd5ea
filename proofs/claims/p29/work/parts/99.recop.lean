/-! Recourse: the turn -/
theorem t_rec {L k t c kd y n s' : Nat} {h : ai_H} {N W T D C : Nat} {j20 j21 j22 j23 j24 j25 : Option ai_V} (R : rl h h N W T D C) (hT : T < 2 ^ 28) (hn : n < N) : tg L t k h N T C (fun r => ai_X 613 1724 (bl t c kd y n s' j20 j21 j22 j23 j24 j25) [] (263, k, L, ai_R0) h r) := by
  obtain ⟨n1, n2, n3, n4, n5, n6, n7, n8, n9, n10⟩ := R.1
  have hT' : T < 2 ^ 29 := by omega
  obtain ⟨u, u0, u1, u2⟩ := rl_du R hn
  obtain ⟨e, e0, e1, e2, e3⟩ := rl_flg R hn
  obtain ⟨a, a0, a1, a2⟩ := rl_sl R hn
  have dis : ¬ ai_gI h 14 n 5 = 0 ↔ e % 2 = 1 := by
    rw [e2, show (0 : Int32) = nI 0 from rfl, nI_eq (by omega) (by decide)]
    omega
  have late : 90 < ai_gI h 0 0 11 - ai_gI h 14 n 4 ↔ u + 90 < D := by
    rw [n8, u1]
    exact (ld_lt (k := 90) u0 n10 (by decide)).1
  rcases rl_own R hT' hn with ⟨o, o4, o1, o2, -⟩ | ⟨s, hs, o1, o2, -⟩
  · have pre := fun r => b21_a (L := L) (k := k) (t := t) (c := c) (kd := kd) (y := y) (s := s') (j20 := j20) (j21 := j21) (j22 := j22) (j23 := j23) (j24 := j24) (j25 := j25) hn n3 o2 (by omega) e1 e0 u2 u0 n9 n10 r
    rw [if_neg (fun z => by omega)] at pre
    have eX := fun r => w_9_e3 (p1 := 0) (p2 := 0) (p3 := 0) (fun r => x_21_3a (k := k) (L := L) n1 (by omega) hn o1 r) r
    exact tg_mk (fun r => (pre r).trans (b21_no eX r)) (by omega) (Nat.le_refl N) (Nat.le_succ T) (fun _ => rfl) (rl_mono R (Nat.le_succ C))
  · have pre := fun r => b21_a (L := L) (k := k) (t := t) (c := c) (kd := kd) (y := y) (s := s') (j20 := j20) (j21 := j21) (j22 := j22) (j23 := j23) (j24 := j24) (j25 := j25) hn n3 o2 (by omega) e1 e0 u2 u0 n9 n10 r
    by_cases can : e % 2 = 1 ∨ u + 90 < D
    · rw [if_pos ⟨by omega, can⟩] at pre
      obtain ⟨R1, rv⟩ := rl_wv R hn hs
      have fG : fm h (gb (wv h n s) n h 3) := gb_fm 3
      have loop : ∀ r, (ai_X 613 1789 (bl t c kd y n s' (some (ai_i (nI (4 + s)))) (some (ai_i 1)) (some (ai_j 0)) none (some (ai_i (nI 0))) j25) [] (263, k, L, ai_R0) h r ↔ ai_X 613 1789 (bl t c kd y n s' (some (ai_i (nI (4 + s)))) (some (ai_i 1)) (some (ai_j 0)) none (some (ai_i (nI 3))) j25) [] (263, k, L, ai_R0) (gb (wv h n s) n h 3) r) := fun r =>
        sm_it (P := fun j => ai_X 613 1789 (bl t c kd y n s' (some (ai_i (nI (4 + s)))) (some (ai_i 1)) (some (ai_j 0)) none (some (ai_i (nI j))) j25) [] (263, k, L, ai_R0) (gb (wv h n s) n h j) r) (n := 3) (fun j hj => by
          obtain ⟨d, d0, d1, d2⟩ := rv j hj
          exact b21_s hn n3 hj ((gb_at j (Nat.le_refl j)).trans d1) d0 hs d2 r)
      have g23 : ∀ i, ai_gI (gb (wv h n s) n h 3) 23 0 i = ai_gI h 23 0 i := fun i => by rw [gb_t (by decide)]
      have gJ : ai_gJ (gb (wv h n s) n h 3) = ai_gJ h := gb_J 3
      generalize gb (wv h n s) n h 3 = G at *
      obtain ⟨H, d, e606⟩ := m_606 (k := k) (L := L) (a := nI a) (bf := fun i => pn (ai_gI G 23 0 (5 * i + 1))) R1.1.2.1 n3 (rl_bf R1) hs
      have RE : rl (ai_end h n s) H N W T D C := rl_ag (ag_x_rf _) (ag_m_dq d) R1
      have K4 : rl_K 4 (fun s a => ai_gJ (ai_end h n s) 22 s a) (fun j => ai_gJ H 26 0 j) := RE.2.2.2.2.2.2.2.2.2.2.2.2.2.2.2.1
      have P7 : rl_E 7 (fun p => ai_gJ (ai_end h n s) 10 0 p) (fun p => ai_gJ H 25 0 p) := RE.2.2.2.2.2.2.2.1
      have k4 : ai_gJ h 22 s a = ai_gJ H 26 0 (4 * s + a) := K4 s a hs a0
      have p7 : ai_gJ h 10 0 a = ai_gJ H 25 0 a := P7 a (by omega)
      have dG : ai_gJ G 26 0 (4 * s + a) = ai_gJ H 26 0 (4 * s + a) := (d 26 (by omega) 0 _).2.symm
      generalize hB : lw_bs G N s (nI a) (fun i => pn (ai_gI G 23 0 (5 * i + 1))) = B at *
      obtain ⟨P, hP⟩ : ∃ P, rc_p (ai_gJ G 26 0 (4 * s + a) - B) (ai_gJ H 25 0 a) = P := ⟨_, rfl⟩
      have fF : fm h (rc_m H s a P) := fm_J (by decide) (fm_J (by decide) (fm_J (by decide) (fm_tr fG (fm_dq d))))
      have wok := fun Y e611 r => b21_d (t := t) (c := c) (kd := kd) (y := y) (s' := s') (Y := Y) (j25 := j25) hn n3 hs a0 ((g23 _).trans a2) ((d 23 (by omega) 0 _).1.trans ((g23 _).trans a2)) e606 hP e611 r
      have RXm : ∀ X, ag_x (ai_end (rc_m H s a P) n s) X → rl (ai_wJ (mv_x X a (4 + s) P) 22 s a (ai_gJ h 22 s a - P)) (rc_m H s a P) N W T D C := fun X ax => by
        have ae : ag_x (ai_end h n s) (ai_end (rc_m H s a P) n s) := fun t ht i k => by
          unfold ai_end
          simp only [ai_gI_wI, ai_gJ_wI, (fF t (by omega) i k).1, (fF t (by omega) i k).2, and_self]
        have RX : rl X H N W T D C := rl_ag (ag_x_tr ae ax) (ag_m_rf H) RE
        rw [rc_eq H hs a0]
        exact rl_dr a0 (by rw [k4]) (rl_ml (by omega) (by omega) _ RX)
      have RF : rl (rc_m H s a P) h N W T D C := rl_ag (ag_fm fF) (ag_m_rf h) R
      have oF : ai_owS (rc_m H s a P) n = nI s := by
        have e : ∀ t, t < 23 → ai_gI (rc_m H s a P) t = ai_gI h t := fun t ht => fm_14 fF ht
        unfold ai_owS ai_frS at o1 ⊢
        rw [e 16 (by decide), e 17 (by decide), e 18 (by decide)]
        exact o1
      generalize hFh : rc_m H s a P = Fh at *
      have RFE : rl (ai_end Fh n s) G N W T D C := by
        have ae : ag_x (ai_end h n s) (ai_end Fh n s) := fun t ht i k => by
          unfold ai_end
          simp only [ai_gI_wI, ai_gJ_wI, (fF t (by omega) i k).1, (fF t (by omega) i k).2, and_self]
        exact rl_ag ae (ag_m_rf G) R1
      have e52 := fun r => x_52 (k := k + 1) (L := L) (h := ai_end Fh n s) RFE.1.1 (by omega : N ≤ 40) hs (nI a) r
      have eb : ai_bsX (ai_end Fh n s) N s (nI a) = B := by
        rw [← hB]
        exact rl_bs RFE hT' hs a0 (rl_bf RFE)
      have ax := ag_x_13 (ai_end Fh n s) (ai_cb (ai_end Fh n s) N (nI s) (nI a)) 5
      have fX := fx_13 (ai_end Fh n s) (ai_cb (ai_end Fh n s) N (nI s) (nI a)) 5
      have R2 := RXm _ ax
      rw [eb] at e52
      generalize ai_h13 (ai_end Fh n s) (ai_cb (ai_end Fh n s) N (nI s) (nI a)) 5 = X at *
      have e53 := fun r => x_53 (k := k + 1) (L := L) hs a0 e52 (fun i j => (ax 22 (by decide) i j).2) (fun i j => (ax 10 (by decide) i j).2) r
      have y22 : ai_gJ (ai_end Fh n s) 22 s a = ai_gJ h 22 s a := (fF 22 (Or.inl (by decide)) s a).2
      have y10 : ai_gJ (ai_end Fh n s) 10 0 a = ai_gJ h 10 0 a := (fF 10 (Or.inl (by decide)) 0 a).2
      have hP2 : ai_maxL 0 (ai_minL (ai_gJ (ai_end Fh n s) 22 s a - B) (ai_gJ (ai_end Fh n s) 10 0 a)) = P := by
        rw [rc_max, y22, y10, k4, p7, ← dG]
        exact hP
      rw [hP2, y22] at e53
      have gcl : ¬ ai_gI Fh 14 n 5 = 0 ∨ 90 < ai_gI Fh 0 0 11 - ai_gI Fh 14 n 4 := by
        rw [(fF 14 (Or.inl (by decide)) n 5).1, (fF 14 (Or.inl (by decide)) n 4).1, (fF 0 (Or.inl (by decide)) 0 11).1]
        exact can.elim (fun z => Or.inl (dis.mpr z)) (fun z => Or.inr (late.mpr z))
      have eX := fun r => w_9 (p1 := 0) (p2 := 0) (p3 := 0) (fun r => x_21_ok (k := k + 1) (L := L) RF.1.1 (by omega : N ≤ 40) hn hs a0 oF ((fF 14 (Or.inl (by decide)) n 0).1.trans a1) gcl e53 r) r
      have fY : fx Fh (ai_wJ (mv_x X a (4 + s) P) 22 s a (ai_gJ h 22 s a - P)) := fx_J (by decide) (mv_fx (fx_tr (end_fx (fx_rf Fh)) fX))
      have R3 := rl_ag (ag_x_rf _) (ag_m_fx fY) R2
      exact tg_mk (fun r => (pre r).trans ((b21_c r).trans ((loop r).trans (wok _ eX r)))) (by omega) (Nat.le_refl N) (Nat.le_succ T) (fun j => (fY 99 (by decide) 0 j).1.trans (fF 99 (Or.inr rfl) 0 j).1) (rl_mono R3 (Nat.le_succ C))
    · rw [if_neg (fun z => can z.2)] at pre
      have eX := fun r => w_9_e3 (p1 := 0) (p2 := 0) (p3 := 0) (fun r => x_21_3b (k := k) (L := L) n1 (by omega) hn hs o1 (fun z => can (z.elim (fun q => Or.inl (dis.mp q)) (fun q => Or.inr (late.mp q)))) r) r
      exact tg_mk (fun r => (pre r).trans (b21_no eX r)) (by omega) (Nat.le_refl N) (Nat.le_succ T) (fun _ => rfl) (rl_mono R (Nat.le_succ C))
