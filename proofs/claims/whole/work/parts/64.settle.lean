/-! What a payment to the right party does -/
def pn (x : Int32) : Nat := x.toInt.toNat
theorem pn_nI {n : Nat} (h : n < 2 ^ 31) : pn (nI n) = n := by
  unfold pn
  rw [nI_toInt h]
  exact Int.toNat_natCast n
theorem x_46v {k L a b : Nat} {h : ai_H} (ha : a < 7) (hb : b < 7) (c : Int64) (r : ai_A) : ai_E 46 [ai_r 0 0, ai_i (nI a), ai_i (nI b), ai_j c] (281, k, L, ai_R0) h r ↔ r = (Sum.inl none, (281, k, L, ai_R0), mv_x h a b c) := x_46 ha hb c r
theorem m_625v {k L a b : Nat} {h : ai_H} (ha : a < 7) (hb : b < 7) (c : Int64) (r : ai_A) : ai_E 625 [ai_r 23 0, ai_i (nI a), ai_i (nI b), ai_j c] (281, k, L, ai_R0) h r ↔ r = (Sum.inl none, (281, k, L, ai_R0), mv_m h a b c) := m_625 ha hb c r
def tk_x (h : ai_H) (i : Nat) (b : Int32) : ai_H := if 0 < b then ai_wI (ai_wI (ai_wI (ai_wI h 14 i 3 (ai_gI h 14 i 3 - b)) 5 0 (pn (ai_gI h 4 0 2)) (nI i)) 6 0 (pn (ai_gI h 4 0 2)) b) 4 0 2 (ai_gI h 4 0 2 + 1) else ai_wI h 14 i 3 (ai_gI h 14 i 3 - b)
theorem x_45t {k L i J : Nat} {h : ai_H} (hi : i < 40) (hJ : J < 582) (hj : ai_gI h 4 0 2 = nI J) (b : Int32) (r : ai_A) : ai_E 45 [ai_r 0 0, ai_i (nI i), ai_i b] (281, k, L, ai_R0) h r ↔ r = (Sum.inl none, (281, k, L, ai_R0), tk_x h i b) := by
  unfold tk_x
  by_cases g : 0 < b
  · rw [if_pos g, hj, pn_nI (by omega), nI_1]
    exact x_45 hi hJ hj g r
  · rw [if_neg g]
    exact x_45_no hi (sf_lt g) r
theorem tk_J {h : ai_H} {i : Nat} {b : Int32} : ai_gJ (tk_x h i b) = ai_gJ h := by
  unfold tk_x
  split <;> rfl
theorem tk_I {h : ai_H} {i t : Nat} {b : Int32} (h1 : ¬ t = 14) (h2 : ¬ t = 5) (h3 : ¬ t = 6) (h4 : ¬ t = 4) : ai_gI (tk_x h i b) t = ai_gI h t := by
  unfold tk_x
  split
  · rw [fI h4, fI h3, fI h2, fI h1]
  · rw [fI h1]
theorem tk_14 {h : ai_H} {i j k : Nat} {b : Int32} (hk : ¬ k = 3) : ai_gI (tk_x h i b) 14 j k = ai_gI h 14 j k := by
  unfold tk_x
  split
  · rw [fI (by decide), fI (by decide), fI (by decide), ai_gI_wI, if_neg (fun q => hk q.2.2)]
  · rw [ai_gI_wI, if_neg (fun q => hk q.2.2)]
theorem tk_3 {h : ai_H} {i j : Nat} {b : Int32} : ai_gI (tk_x h i b) 14 j 3 = if j = i then ai_gI h 14 i 3 - b else ai_gI h 14 j 3 := by
  unfold tk_x
  split
  · rw [fI (by decide), fI (by decide), fI (by decide)]
    simp only [ai_gI_wI, ai_gI_wJ, ai_gJ_wI, ai_gJ_wJ, Nat.reduceEqDiff, false_and, and_false, true_and, and_true, and_self, if_false, if_true, ↓reduceIte]
  · simp only [ai_gI_wI, ai_gI_wJ, ai_gJ_wI, ai_gJ_wJ, Nat.reduceEqDiff, false_and, and_false, true_and, and_true, and_self, if_false, if_true, ↓reduceIte]
theorem tk_ow {h : ai_H} {i j : Nat} {b : Int32} : ai_owS (tk_x h i b) j = ai_owS h j := by
  unfold ai_owS ai_frS
  rw [tk_I (by decide) (by decide) (by decide) (by decide), tk_I (by decide) (by decide) (by decide) (by decide), tk_I (by decide) (by decide) (by decide) (by decide)]
theorem tk_pt {h : ai_H} {i j : Nat} {b s : Int32} : ai_pty (tk_x h i b) j s = ai_pty h j s := by
  unfold ai_pty
  rw [tk_14 (by decide)]
theorem tk_fx {x h : ai_H} {i : Nat} {b : Int32} (a : fx x h) : fx x (tk_x h i b) := by
  unfold tk_x
  split
  · exact fx_I (by decide) (fx_I (by decide) (fx_I (by decide) (fx_I (by decide) a)))
  · exact fx_I (by decide) a
theorem rl_tk {x m : ai_H} {N W T C C' i q c : Nat} (R : rl x m N W T C) (hC : C ≤ C') (hi : i < N) (hq : ai_gI x 14 i 3 = nI q) (hc : c ≤ q) (hq0 : q ≤ 1000000) (hS : ¬ c = 0 → ∀ j, ai_gI x 4 0 2 = nI j → j ≤ C + ai_cz (fun i => ai_gI x 14 i 3) N + ai_cw (fun w => ai_gI x 19 w 3) W → j + 1 ≤ C' + ai_cz (ai_up (fun i => ai_gI x 14 i 3) i (ai_gI x 14 i 3 - nI c)) N + ai_cw (fun w => ai_gI x 19 w 3) W) (hb : C + 70 < 2 ^ 30) : rl (tk_x x i (nI c)) (ai_wI m 26 0 i (ai_gI m 26 0 i - nI c)) N W T C' := by
  obtain ⟨A, B1, B2, O, E, D, Cc, P7, P5, S1, S2, S3, M, F0, F1, F2, K5, K4, G, H, Q, J⟩ := id R
  obtain ⟨n1, n2, n3, n4, n5, n6, n7, n8, n9⟩ := id A
  obtain ⟨q', q0, q1, q2⟩ := rl_ce R hi
  have qq : q' = q := (nI_eq (by omega) (by omega)).mp (q1.symm.trans hq)
  subst qq
  by_cases c0 : c = 0
  · subst c0
    have e1 : ai_gI x 14 i 3 - nI 0 = ai_gI x 14 i 3 := by rw [nI_0, Int32.sub_zero]
    have e2 : ai_gI m 26 0 i - nI 0 = ai_gI m 26 0 i := by rw [nI_0, Int32.sub_zero]
    have e3 : ai_wI x 14 i 3 (ai_gI x 14 i 3) = x := sm_wI rfl
    have e4 : ai_wI m 26 0 i (ai_gI m 26 0 i) = m := sm_wI rfl
    unfold tk_x
    rw [if_neg (by decide), e1, e2, e3, e4]
    exact rl_mono R hC
  · have g0 : 0 < nI c := nI_lt (a := 0) (by omega) (by omega)
    obtain ⟨j, j1, j2, j3, j4⟩ := id J
    have jb := hS c0 j j2 j1
    have z1 := cz_le (fun i => ai_gI x 14 i 3) N
    have z2 := cw_le (fun w => ai_gI x 19 w 3) W
    unfold tk_x
    rw [if_pos g0, j2, pn_nI (by omega), nI_1]
    unfold rl
    simp only [ai_gI_wI, ai_gI_wJ, ai_gJ_wI, ai_gJ_wJ, Nat.reduceEqDiff, false_and, and_false, true_and, and_true, and_self, if_false, if_true, ↓reduceIte]
    exact ⟨A, B1, B2, rl_O_up (q := q' - c) O (by omega) (by rw [q1, pk_sub hc]) (by rw [q2, pk_sub hc]), E, D, Cc, P7, P5, S1, S2, S3, M, F0, F1, F2, K5, K4, G, H, Q, rl_J_add j3 j4 n3 hi rfl jb⟩
def dr_x (h : ai_H) (s a : Nat) (b : Int64) : ai_H := mv_x (ai_wJ h 22 s a (ai_gJ h 22 s a - ai_minL b (ai_gJ h 22 s a))) (4 + s) a (b - ai_minL b (ai_gJ h 22 s a))
def dr_m (h : ai_H) (s a : Nat) (b : Int64) : ai_H := mv_m (ai_wJ h 43 0 (4 * s + a) (ai_gJ h 43 0 (4 * s + a) - ai_m2 b (ai_gJ h 43 0 (4 * s + a)))) (4 + s) a (b - ai_m2 b (ai_gJ h 43 0 (4 * s + a)))
theorem min_m2 (a b : Int64) : ai_minL a b = ai_m2 a b := by
  unfold ai_minL ai_m2
  repeat' split
  all_goals first | rfl | (simp only [Int64.lt_iff_toInt_lt] at *; done) | (simp only [Int64.lt_iff_toInt_lt] at *; omega) | (simp only [Int64.lt_iff_toInt_lt] at *; apply Int64.toInt_inj.mp; omega)
theorem rl_drs {x m : ai_H} {N W T C s a : Nat} (hs : s < 3) (ha : a < 4) (b : Int64) (R : rl x m N W T C) : rl (dr_x x s a b) (dr_m m s a b) N W T C := by
  obtain ⟨A, B1, B2, O, E, D, Cc, P7, P5, S1, S2, S3, M, F0, F1, F2, K5, K4, G, H, Q, J⟩ := id R
  have e : ai_gJ x 22 s a = ai_gJ m 43 0 (4 * s + a) := K4 s a hs ha
  unfold dr_x dr_m
  rw [e, min_m2]
  exact rl_mv (by omega) (by omega) _ (rl_dr ha rfl R)
/-- some money that lies with party p is paid towards bill i -/
def st_x (h : ai_H) (i p : Nat) (b : Int32) : ai_H := if ai_owS h i = -1 then mv_x (tk_x h i b) p (pn (ai_gI h 14 i 0)) b.toInt64 else dr_x (mv_x (tk_x h i b) p (4 + pn (ai_owS h i)) b.toInt64) (pn (ai_owS h i)) (pn (ai_gI h 14 i 0)) b.toInt64
def cm_m (h : ai_H) (i : Nat) (b : Int32) : ai_H := if 4 ≤ ai_mow h i ∧ ai_mow h i ≤ 6 then dr_m (ai_wI h 26 0 i (ai_gI h 26 0 i - b)) (pn (ai_mow h i) - 4) (pn (ai_gI h 24 0 i)) b.toInt64 else ai_wI h 26 0 i (ai_gI h 26 0 i - b)
def st_m (h : ai_H) (i p : Nat) (b : Int32) : ai_H := cm_m (mv_m h p (pn (ai_mow h i)) b.toInt64) i b
theorem sf_no4 {a : Nat} (ha : a < 4) : ¬ (4 ≤ nI a ∧ nI a ≤ 6) := fun q => by
  have := (nI_leI (a := 4) (b := a) (by decide) (by omega)).mp q.1
  omega
theorem rl_st {x m : ai_H} {N W T C C' i q c p : Nat} (R : rl x m N W T C) (hT : T < 2 ^ 30) (hp : p < 7) (hC : C ≤ C') (hi : i < N) (hq : ai_gI x 14 i 3 = nI q) (hc : c ≤ q) (hq0 : q ≤ 1000000) (hS : ¬ c = 0 → ∀ j, ai_gI x 4 0 2 = nI j → j ≤ C + ai_cz (fun i => ai_gI x 14 i 3) N + ai_cw (fun w => ai_gI x 19 w 3) W → j + 1 ≤ C' + ai_cz (ai_up (fun i => ai_gI x 14 i 3) i (ai_gI x 14 i 3 - nI c)) N + ai_cw (fun w => ai_gI x 19 w 3) W) (hb : C + 70 < 2 ^ 30) : rl (st_x x i p (nI c)) (st_m m i p (nI c)) N W T C' := by
  have R1 := rl_tk R hC hi hq hc hq0 hS hb
  obtain ⟨a, ha, q1, q2⟩ := rl_sl R hi
  unfold st_x st_m cm_m
  rw [show ∀ u v w, ai_mow (mv_m m u v w) i = ai_mow m i from fun _ _ _ => rfl]
  rcases rl_own R hT hi with ⟨a', ha', o1, o2, o3, o4, o5⟩ | ⟨s, hs, o1, o2, o3, o4⟩
  · have ea : a' = a := (nI_eq (by omega) (by omega)).mp (o4.symm.trans q1)
    subst ea
    rw [if_pos o1, o2, if_neg (sf_no4 ha), q1, pn_nI (by omega)]
    exact rl_mv hp (by omega) _ R1
  · rw [if_neg (by rw [o1]; exact sf_m1 (by omega)), o1, o2, if_pos (of_eq_true (pk_fM hs)), q1, pn_nI (n := s) (by omega), pn_nI (n := 4 + s) (by omega), show ai_gI (mv_m m p (4 + s) (nI c).toInt64) 24 0 i = nI a from q2, pn_nI (n := a) (by omega), show 4 + s - 4 = s by omega]
    exact rl_drs hs ha _ (rl_mv hp (by omega) _ R1)
theorem dr_fx {x h : ai_H} {s a : Nat} {b : Int64} (f : fx x h) : fx x (dr_x h s a b) := mv_fx (fx_J (by decide) f)
theorem dr_fm {x h : ai_H} {s a : Nat} {b : Int64} (f : fm x h) : fm x (dr_m h s a b) := mv_fm (fm_J (by decide) f)
theorem st_fx {x h : ai_H} {i p : Nat} {b : Int32} (f : fx x h) : fx x (st_x h i p b) := by
  unfold st_x
  split
  · exact mv_fx (tk_fx f)
  · exact dr_fx (mv_fx (tk_fx f))
theorem cm_fm {x h : ai_H} {i : Nat} {b : Int32} (f : fm x h) : fm x (cm_m h i b) := by
  unfold cm_m
  split
  · exact dr_fm (fm_I (by decide) f)
  · exact fm_I (by decide) f
theorem st_fm {x h : ai_H} {i p : Nat} {b : Int32} (f : fm x h) : fm x (st_m h i p b) := cm_fm (mv_fm f)
theorem st_I {h : ai_H} {i p : Nat} {b : Int32} : ai_gI (st_x h i p b) = ai_gI (tk_x h i b) := by
  unfold st_x
  split <;> rfl
theorem cm_I {h : ai_H} {i : Nat} {b : Int32} : ai_gI (cm_m h i b) = ai_gI (ai_wI h 26 0 i (ai_gI h 26 0 i - b)) := by
  unfold cm_m
  split <;> rfl
theorem stm_I {h : ai_H} {i p : Nat} {b : Int32} : ai_gI (st_m h i p b) = ai_gI (ai_wI h 26 0 i (ai_gI h 26 0 i - b)) := cm_I
theorem x_44n {k L : Nat} {h : ai_H} {i p a J : Nat} {b : Int32} (hi : i < 40) (hp : p < 7) (ha : a < 4) (hJ : J < 582) (hj : ai_gI h 4 0 2 = nI J) (hq : ai_gI h 14 i 0 = nI a) (ho : ai_owS h i = -1) (r : ai_A) : ai_E 44 [ai_r 0 0, ai_i (nI i), ai_i (nI p), ai_i b] (281, k, L, ai_R0) h r ↔ r = (Sum.inl none, (281, k, L, ai_R0), (mv_x (tk_x h i b) p a b.toInt64)) := by
  have a7 : a < 7 := by omega
  have e1 : ∀ H : ai_H, ∀ u v w, ai_owS (mv_x H u v w) i = ai_owS H i := fun _ _ _ _ => rfl
  have e6 : ai_gI (tk_x h i b) 14 i 0 = nI a := (tk_14 (by decide)).trans hq
  rw [ai_E_eq, ai_X_eq []]
  simp only [ai_c_44_0, ai_c_44_1, ai_c_44_4, ai_c_44_5, ai_c_44_6, ai_c_44_8, ai_c_44_9, ai_c_44_10, ai_c_44_11, ai_c_44_14, ai_c_44_15, ai_c_44_16, ai_c_44_18, ai_c_44_21, ai_c_44_22, ai_c_44_23, ai_c_44_26, ai_c_44_28, ai_c_44_31, ai_c_44_33, ai_c_44_35, ai_c_44_36, ai_c_44_39, ai_c_44_40, ai_c_44_43, ai_c_44_45, ai_c_44_46, ai_c_44_49, ai_c_44_51, ai_c_44_52, ai_c_44_53, ai_c_44_55, ai_c_44_57, ai_c_44_60, ai_c_44_61, ai_c_44_64, ai_c_44_66, ai_c_44_68, ai_c_44_70, ai_c_44_73, ai_c_44_74, ai_c_44_75, ai_c_44_77, ai_c_44_78, ai_c_44_79, ai_c_44_80, ai_c_44_81, ai_c_44_83, ai_c_44_84, ai_c_44_86, ai_c_44_89, ai_c_44_90, ai_c_44_91, ai_c_44_93, ai_c_44_94, ai_c_44_97, ai_g_0_11, ai_k_0_116, ai_mx_45, ai_rm_44_45, ai_k_0_144, ai_mx_102, ai_rm_44_102, ai_k_0_249, ai_mx_46, ai_rm_44_46, ai_k_0_252, ai_mx_103, ai_rm_44_103, ai_g_0_30, ai_g_0_246, ai_g_0_134, ai_mt_0_346, ai_om_44, ai_rk_44, ai_mx_44, sh_44, ai_XS_eq, List.contains_nil, List.contains_cons, Bool.or_false, Bool.false_or, Bool.or_self, Bool.false_eq_true, Nat.reduceBEq, beq_self_eq_true, ↓reduceIte, if_true, if_false,
 xe_iconst, xe_bipush, xe_sipush, xe_lconst, xe_ldc, xe_ldc_w, xe_ldc2_w, xe_iload, xe_iload_n, xe_lload, xe_lload_n, xe_aload, xe_aload_n, xe_istore, xe_istore_n, xe_lstore, xe_lstore_n, xe_astore, xe_astore_n, xe_iinc, xe_iadd, xe_isub, xe_imul, xe_iand, xe_ladd, xe_lsub, xe_lmul, xe_lcmp, xe_i2l, xe_idiv, xe_irem, xe_ldiv, xe_dupi, xe_dupr, xe_dup2ir, xe_getfield, xe_putfield, xe_iaload, xe_laload, xe_baload, xe_aaload, xe_iastore, xe_lastore, xe_bastore, xe_arraylength, xe_goto, xe_ifeq, xe_ifne, xe_iflt, xe_ifge, xe_ifgt, xe_ifle, xe_icmpeq, xe_icmpne, xe_icmplt, xe_icmpge, xe_icmpgt, xe_icmple, xe_return, xe_ireturn, xe_zreturn, xe_lreturn, xe_throw, xe_callvirtual, xe_callstatic, xe_callspecial, xe_min, xe_minL, xe_maxL, xe_object,
 ai_PI_s, ai_PJ_s, ai_PR_s, ai_PV_s, ai_PL_s, ai_PA_s, ai_PZ_s, ai_PQ_s, ai_PS_s, ai_PT_s, ai_PF_s, ai_PG_s, ai_PC_t, ai_PC_f, ai_QC_s, ai_inc_0, ai_inc_1, ai_inc_s, ai_ldi_0, ai_ldi_s, ai_ldj_0, ai_ldj_s, ai_ldr_0, ai_ldr_s, ai_st1_0, ai_st1_1, ai_st1_s, ai_st2_0, ai_st2_1, ai_st2_s, ai_wide_i, ai_wide_j, ai_wide_r, ai_wide_n, ai_one_i, ai_one_r, Option.map_some, Option.map_none, ai_EC_inl, Option.toList_some, Option.toList_none, List.cons_append, List.nil_append, List.append_nil, List.take_succ_cons, List.take_zero, List.drop_succ_cons, List.drop_zero, List.reverse_cons, List.reverse_nil, List.length_cons, List.length_nil, ai_en, ai_e0_n, ai_e0_i, ai_e0_j, ai_e0_r, List.replicate_succ, List.replicate_zero, Nat.reduceAdd, Nat.reduceSub, Nat.reduceDiv, Nat.reduceLeDiff, Nat.zero_add, Nat.le_refl, Nat.zero_le, and_self, true_and, and_true, Fin.isValue, Fin.val_ofNat, ai_tg, ai_tk, Int.reduceAdd, Int.reduceToNat, Int.reduceLE, Int.cast_ofNat_Int, decide_true, not_true_eq_false, not_false_eq_true, Nat.reducePow, Nat.reduceLT, ai_ix_nI, ai_ix_lit, ai_f0, ai_f1, ai_f2, ai_f3, ai_u0, ai_u1, ai_a_1, ai_R0_1, ai_a_2, ai_R0_2, ai_a_3, ai_R0_3, ai_a_5, ai_il_5, ai_a_6, ai_il_6, ai_a_8, ai_il_8, ai_a_9, ai_il_9, ai_a_10, ai_a_11, ai_a_12, ai_a_13, ai_a_15, ai_a_16, ai_il_16, ai_le_16, ai_a_17, ai_il_17, ai_le_17, ai_a_18, ai_il_18, ai_le_18, ai_a_21, ai_il_21, ai_a_22, ai_a_24, ai_il_24, ai_a_25, ai_il_25, ai_a_26, ai_il_26, ai_a_27, ai_il_27, ai_a_28, ai_a_29, ai_il_29, ai_a_30, ai_il_30, ai_a_31, ai_il_31, ai_a_32, ai_il_32, ai_a_33, ai_a_34, ai_a_35, ai_il_35, ai_a_36, ai_il_36, ai_a_37, ai_il_37, ai_a_38, ai_a_39, ai_il_39, ai_le_39, ai_a_40, ai_il_40, ai_le_40, ai_a_41, ai_il_41, ai_le_41, ai_a_42, ai_il_42, ai_a_43, ai_a_44, ai_a_45, ai_il_45, ai_a_46, ai_il_46, ai_a_47, ai_a_48, ai_il_48, ai_a_49, ai_il_49, ai_a_50, ai_kob_0, ai_al_0, ai_kob_4, ai_al_4, ai_kob_7, ai_al_7, ai_kob_14, ai_al_14, ai_kob_19, ai_al_19, ai_kob_20, ai_al_20, ai_kob_23, ai_al_23, Bool.and_self, Bool.and_true, Bool.true_and, false_and, and_false, true_or, or_true, false_or, or_false, or_self, nI_1, xe_throw2, ai_TW_s, ai_EC_out, ai_PC_if, sm_if, sm_exif, sm_ex, sm_rc, sm_rcs, sm_rcv, sk_im1, sk_i0, sk_i1, sk_i2, sk_i3, sk_i4, sk_i5, sk_b6, sk_b7, sk_b9, sk_b12, sk_b15, sk_b30, sk_b31, sk_b40, sk_b60, sk_b80, sk_b90, sk_b100, sk_b120, sk_s300, sk_s582, sk_s3000, ai_gI_wI, ai_gI_wJ, ai_gJ_wI, ai_gJ_wJ, Nat.reduceEqDiff, false_and, and_false, true_and, and_true, and_self, if_false, if_true, ↓reduceIte, hi, x_45t hi hJ hj, x_102 hi, x_103 hi, tk_ow, ho, pt_none, e6, x_46v hp a7, e1]
theorem x_44s {k L : Nat} {h : ai_H} {i p a s J : Nat} {b : Int32} (hi : i < 40) (hp : p < 7) (ha : a < 4) (hs : s < 3) (hJ : J < 582) (hj : ai_gI h 4 0 2 = nI J) (hq : ai_gI h 14 i 0 = nI a) (ho : ai_owS h i = nI s) (r : ai_A) : ai_E 44 [ai_r 0 0, ai_i (nI i), ai_i (nI p), ai_i b] (281, k, L, ai_R0) h r ↔ r = (Sum.inl none, (281, k, L, ai_R0), (dr_x (mv_x (tk_x h i b) p (4 + s) b.toInt64) s a b.toInt64)) := by
  have a7 : a < 7 := by omega
  have h7 : 4 + s < 7 := by omega
  have e1 : ∀ H : ai_H, ∀ u v w, ai_owS (mv_x H u v w) i = ai_owS H i := fun _ _ _ _ => rfl
  have e2 : ∀ H : ai_H, ∀ u v w, ai_gI (mv_x H u v w) = ai_gI H := fun _ _ _ _ => rfl
  have e3 : (nI s = -1) = False := eq_false (sf_m1 (by omega))
  have e4 : (4 : Int32) + nI s = nI (4 + s) := nI_add 4 s
  have e5 : ai_pty h i (nI s) = nI (4 + s) := pt_slot hs
  have e6 : ∀ H : ai_H, ai_gI (tk_x h i b) 14 i 0 = nI a := fun _ => (tk_14 (by decide)).trans hq
  unfold dr_x
  rw [ai_E_eq, ai_X_eq []]
  simp only [ai_c_44_0, ai_c_44_1, ai_c_44_4, ai_c_44_5, ai_c_44_6, ai_c_44_8, ai_c_44_9, ai_c_44_10, ai_c_44_11, ai_c_44_14, ai_c_44_15, ai_c_44_16, ai_c_44_18, ai_c_44_21, ai_c_44_22, ai_c_44_23, ai_c_44_26, ai_c_44_28, ai_c_44_31, ai_c_44_33, ai_c_44_35, ai_c_44_36, ai_c_44_39, ai_c_44_40, ai_c_44_43, ai_c_44_45, ai_c_44_46, ai_c_44_49, ai_c_44_51, ai_c_44_52, ai_c_44_53, ai_c_44_55, ai_c_44_57, ai_c_44_60, ai_c_44_61, ai_c_44_64, ai_c_44_66, ai_c_44_68, ai_c_44_70, ai_c_44_73, ai_c_44_74, ai_c_44_75, ai_c_44_77, ai_c_44_78, ai_c_44_79, ai_c_44_80, ai_c_44_81, ai_c_44_83, ai_c_44_84, ai_c_44_86, ai_c_44_89, ai_c_44_90, ai_c_44_91, ai_c_44_93, ai_c_44_94, ai_c_44_97, ai_g_0_11, ai_k_0_116, ai_mx_45, ai_rm_44_45, ai_k_0_144, ai_mx_102, ai_rm_44_102, ai_k_0_249, ai_mx_46, ai_rm_44_46, ai_k_0_252, ai_mx_103, ai_rm_44_103, ai_g_0_30, ai_g_0_246, ai_g_0_134, ai_mt_0_346, ai_om_44, ai_rk_44, ai_mx_44, sh_44, ai_XS_eq, List.contains_nil, List.contains_cons, Bool.or_false, Bool.false_or, Bool.or_self, Bool.false_eq_true, Nat.reduceBEq, beq_self_eq_true, ↓reduceIte, if_true, if_false,
 xe_iconst, xe_bipush, xe_sipush, xe_lconst, xe_ldc, xe_ldc_w, xe_ldc2_w, xe_iload, xe_iload_n, xe_lload, xe_lload_n, xe_aload, xe_aload_n, xe_istore, xe_istore_n, xe_lstore, xe_lstore_n, xe_astore, xe_astore_n, xe_iinc, xe_iadd, xe_isub, xe_imul, xe_iand, xe_ladd, xe_lsub, xe_lmul, xe_lcmp, xe_i2l, xe_idiv, xe_irem, xe_ldiv, xe_dupi, xe_dupr, xe_dup2ir, xe_getfield, xe_putfield, xe_iaload, xe_laload, xe_baload, xe_aaload, xe_iastore, xe_lastore, xe_bastore, xe_arraylength, xe_goto, xe_ifeq, xe_ifne, xe_iflt, xe_ifge, xe_ifgt, xe_ifle, xe_icmpeq, xe_icmpne, xe_icmplt, xe_icmpge, xe_icmpgt, xe_icmple, xe_return, xe_ireturn, xe_zreturn, xe_lreturn, xe_throw, xe_callvirtual, xe_callstatic, xe_callspecial, xe_min, xe_minL, xe_maxL, xe_object,
 ai_PI_s, ai_PJ_s, ai_PR_s, ai_PV_s, ai_PL_s, ai_PA_s, ai_PZ_s, ai_PQ_s, ai_PS_s, ai_PT_s, ai_PF_s, ai_PG_s, ai_PC_t, ai_PC_f, ai_QC_s, ai_inc_0, ai_inc_1, ai_inc_s, ai_ldi_0, ai_ldi_s, ai_ldj_0, ai_ldj_s, ai_ldr_0, ai_ldr_s, ai_st1_0, ai_st1_1, ai_st1_s, ai_st2_0, ai_st2_1, ai_st2_s, ai_wide_i, ai_wide_j, ai_wide_r, ai_wide_n, ai_one_i, ai_one_r, Option.map_some, Option.map_none, ai_EC_inl, Option.toList_some, Option.toList_none, List.cons_append, List.nil_append, List.append_nil, List.take_succ_cons, List.take_zero, List.drop_succ_cons, List.drop_zero, List.reverse_cons, List.reverse_nil, List.length_cons, List.length_nil, ai_en, ai_e0_n, ai_e0_i, ai_e0_j, ai_e0_r, List.replicate_succ, List.replicate_zero, Nat.reduceAdd, Nat.reduceSub, Nat.reduceDiv, Nat.reduceLeDiff, Nat.zero_add, Nat.le_refl, Nat.zero_le, and_self, true_and, and_true, Fin.isValue, Fin.val_ofNat, ai_tg, ai_tk, Int.reduceAdd, Int.reduceToNat, Int.reduceLE, Int.cast_ofNat_Int, decide_true, not_true_eq_false, not_false_eq_true, Nat.reducePow, Nat.reduceLT, ai_ix_nI, ai_ix_lit, ai_f0, ai_f1, ai_f2, ai_f3, ai_u0, ai_u1, ai_a_1, ai_R0_1, ai_a_2, ai_R0_2, ai_a_3, ai_R0_3, ai_a_5, ai_il_5, ai_a_6, ai_il_6, ai_a_8, ai_il_8, ai_a_9, ai_il_9, ai_a_10, ai_a_11, ai_a_12, ai_a_13, ai_a_15, ai_a_16, ai_il_16, ai_le_16, ai_a_17, ai_il_17, ai_le_17, ai_a_18, ai_il_18, ai_le_18, ai_a_21, ai_il_21, ai_a_22, ai_a_24, ai_il_24, ai_a_25, ai_il_25, ai_a_26, ai_il_26, ai_a_27, ai_il_27, ai_a_28, ai_a_29, ai_il_29, ai_a_30, ai_il_30, ai_a_31, ai_il_31, ai_a_32, ai_il_32, ai_a_33, ai_a_34, ai_a_35, ai_il_35, ai_a_36, ai_il_36, ai_a_37, ai_il_37, ai_a_38, ai_a_39, ai_il_39, ai_le_39, ai_a_40, ai_il_40, ai_le_40, ai_a_41, ai_il_41, ai_le_41, ai_a_42, ai_il_42, ai_a_43, ai_a_44, ai_a_45, ai_il_45, ai_a_46, ai_il_46, ai_a_47, ai_a_48, ai_il_48, ai_a_49, ai_il_49, ai_a_50, ai_kob_0, ai_al_0, ai_kob_4, ai_al_4, ai_kob_7, ai_al_7, ai_kob_14, ai_al_14, ai_kob_19, ai_al_19, ai_kob_20, ai_al_20, ai_kob_23, ai_al_23, Bool.and_self, Bool.and_true, Bool.true_and, false_and, and_false, true_or, or_true, false_or, or_false, or_self, nI_1, xe_throw2, ai_TW_s, ai_EC_out, ai_PC_if, sm_if, sm_exif, sm_ex, sm_rc, sm_rcs, sm_rcv, sk_im1, sk_i0, sk_i1, sk_i2, sk_i3, sk_i4, sk_i5, sk_b6, sk_b7, sk_b9, sk_b12, sk_b15, sk_b30, sk_b31, sk_b40, sk_b60, sk_b80, sk_b90, sk_b100, sk_b120, sk_s300, sk_s582, sk_s3000, ai_gI_wI, ai_gI_wJ, ai_gJ_wI, ai_gJ_wJ, Nat.reduceEqDiff, false_and, and_false, true_and, and_true, and_self, if_false, if_true, ↓reduceIte, hi, hs, ha, x_45t hi hJ hj, x_102 hi, x_103 hi, tk_ow, tk_pt, ho, e5, e6 h, x_46v hp h7, x_46v h7 a7, e1, e2, e3, e4]
theorem m_627n {k L : Nat} {h : ai_H} {i a : Nat} {b : Int32} (hi : i < 40) (ha : a < 4) (ho : ai_mow h i = nI a) (r : ai_A) : ai_E 627 [ai_r 23 0, ai_i (nI i), ai_i b] (281, k, L, ai_R0) h r ↔ r = (Sum.inl none, (281, k, L, ai_R0), (ai_wI h 26 0 i (ai_gI h 26 0 i - b))) := by
  have e1 := eq_false (sf_no4 ha)
  rw [ai_E_eq, ai_X_eq []]
  simp only [ai_c_627_0, ai_c_627_1, ai_c_627_2, ai_c_627_5, ai_c_627_6, ai_c_627_7, ai_c_627_10, ai_c_627_11, ai_c_627_12, ai_c_627_13, ai_c_627_14, ai_c_627_15, ai_c_627_16, ai_c_627_17, ai_c_627_20, ai_c_627_23, ai_c_627_24, ai_c_627_25, ai_c_627_28, ai_c_627_29, ai_c_627_30, ai_c_627_33, ai_c_627_35, ai_c_627_36, ai_c_627_37, ai_c_627_38, ai_c_627_41, ai_c_627_43, ai_c_627_44, ai_c_627_45, ai_c_627_48, ai_c_627_49, ai_c_627_50, ai_c_627_53, ai_c_627_54, ai_c_627_57, ai_c_627_59, ai_c_627_60, ai_c_627_62, ai_c_627_63, ai_c_627_66, ai_c_627_68, ai_c_627_69, ai_c_627_70, ai_c_627_72, ai_c_627_73, ai_c_627_74, ai_c_627_75, ai_c_627_76, ai_c_627_77, ai_c_627_80, ai_c_627_81, ai_c_627_82, ai_c_627_83, ai_c_627_84, ai_c_627_86, ai_c_627_87, ai_c_627_90, ai_k_6_129, ai_mx_613, ai_rm_627_613, ai_g_6_16, ai_k_6_119, ai_mx_604, ai_rm_627_604, ai_km_6_119, ai_g_6_7, ai_k_6_151, ai_mx_626, ai_rm_627_626, ai_km_6_151, ai_g_6_69, ai_k_6_154, ai_mx_625, ai_rm_627_625, ai_rk_627, ai_mx_627, sh_627, ai_XS_eq, List.contains_nil, List.contains_cons, Bool.or_false, Bool.false_or, Bool.or_self, Bool.false_eq_true, Nat.reduceBEq, beq_self_eq_true, ↓reduceIte, if_true, if_false,
 xe_iconst, xe_bipush, xe_sipush, xe_lconst, xe_ldc, xe_ldc_w, xe_ldc2_w, xe_iload, xe_iload_n, xe_lload, xe_lload_n, xe_aload, xe_aload_n, xe_istore, xe_istore_n, xe_lstore, xe_lstore_n, xe_astore, xe_astore_n, xe_iinc, xe_iadd, xe_isub, xe_imul, xe_iand, xe_ladd, xe_lsub, xe_lmul, xe_lcmp, xe_i2l, xe_idiv, xe_irem, xe_ldiv, xe_dupi, xe_dupr, xe_dup2ir, xe_getfield, xe_putfield, xe_iaload, xe_laload, xe_baload, xe_aaload, xe_iastore, xe_lastore, xe_bastore, xe_arraylength, xe_goto, xe_ifeq, xe_ifne, xe_iflt, xe_ifge, xe_ifgt, xe_ifle, xe_icmpeq, xe_icmpne, xe_icmplt, xe_icmpge, xe_icmpgt, xe_icmple, xe_return, xe_ireturn, xe_zreturn, xe_lreturn, xe_throw, xe_callvirtual, xe_callstatic, xe_callspecial, xe_min, xe_minL, xe_maxL, xe_object,
 ai_PI_s, ai_PJ_s, ai_PR_s, ai_PV_s, ai_PL_s, ai_PA_s, ai_PZ_s, ai_PQ_s, ai_PS_s, ai_PT_s, ai_PF_s, ai_PG_s, ai_PC_t, ai_PC_f, ai_QC_s, ai_inc_0, ai_inc_1, ai_inc_s, ai_ldi_0, ai_ldi_s, ai_ldj_0, ai_ldj_s, ai_ldr_0, ai_ldr_s, ai_st1_0, ai_st1_1, ai_st1_s, ai_st2_0, ai_st2_1, ai_st2_s, ai_wide_i, ai_wide_j, ai_wide_r, ai_wide_n, ai_one_i, ai_one_r, Option.map_some, Option.map_none, ai_EC_inl, Option.toList_some, Option.toList_none, List.cons_append, List.nil_append, List.append_nil, List.take_succ_cons, List.take_zero, List.drop_succ_cons, List.drop_zero, List.reverse_cons, List.reverse_nil, List.length_cons, List.length_nil, ai_en, ai_e0_n, ai_e0_i, ai_e0_j, ai_e0_r, List.replicate_succ, List.replicate_zero, Nat.reduceAdd, Nat.reduceSub, Nat.reduceDiv, Nat.reduceLeDiff, Nat.zero_add, Nat.le_refl, Nat.zero_le, and_self, true_and, and_true, Fin.isValue, Fin.val_ofNat, ai_tg, ai_tk, Int.reduceAdd, Int.reduceToNat, Int.reduceLE, Int.cast_ofNat_Int, decide_true, not_true_eq_false, not_false_eq_true, Nat.reducePow, Nat.reduceLT, ai_ix_nI, ai_ix_lit, ai_f0, ai_f1, ai_f2, ai_f3, ai_u0, ai_u1, ai_a_1, ai_R0_1, ai_a_2, ai_R0_2, ai_a_3, ai_R0_3, ai_a_5, ai_il_5, ai_a_6, ai_il_6, ai_a_8, ai_il_8, ai_a_9, ai_il_9, ai_a_10, ai_a_11, ai_a_12, ai_a_13, ai_a_15, ai_a_16, ai_il_16, ai_le_16, ai_a_17, ai_il_17, ai_le_17, ai_a_18, ai_il_18, ai_le_18, ai_a_21, ai_il_21, ai_a_22, ai_a_24, ai_il_24, ai_a_25, ai_il_25, ai_a_26, ai_il_26, ai_a_27, ai_il_27, ai_a_28, ai_a_29, ai_il_29, ai_a_30, ai_il_30, ai_a_31, ai_il_31, ai_a_32, ai_il_32, ai_a_33, ai_a_34, ai_a_35, ai_il_35, ai_a_36, ai_il_36, ai_a_37, ai_il_37, ai_a_38, ai_a_39, ai_il_39, ai_le_39, ai_a_40, ai_il_40, ai_le_40, ai_a_41, ai_il_41, ai_le_41, ai_a_42, ai_il_42, ai_a_43, ai_a_44, ai_a_45, ai_il_45, ai_a_46, ai_il_46, ai_a_47, ai_a_48, ai_il_48, ai_a_49, ai_il_49, ai_a_50, ai_kob_0, ai_al_0, ai_kob_4, ai_al_4, ai_kob_7, ai_al_7, ai_kob_14, ai_al_14, ai_kob_19, ai_al_19, ai_kob_20, ai_al_20, ai_kob_23, ai_al_23, Bool.and_self, Bool.and_true, Bool.true_and, false_and, and_false, true_or, or_true, false_or, or_false, or_self, nI_1, xe_throw2, ai_TW_s, ai_EC_out, ai_PC_if, sm_if, sm_exif, sm_ex, sm_rc, sm_rcs, sm_rcv, sk_im1, sk_i0, sk_i1, sk_i2, sk_i3, sk_i4, sk_i5, sk_b6, sk_b7, sk_b9, sk_b12, sk_b15, sk_b30, sk_b31, sk_b40, sk_b60, sk_b80, sk_b90, sk_b100, sk_b120, sk_s300, sk_s582, sk_s3000, ai_gI_wI, ai_gI_wJ, ai_gJ_wI, ai_gJ_wJ, Nat.reduceEqDiff, false_and, and_false, true_and, and_true, and_self, if_false, if_true, ↓reduceIte, hi, m_613 hi, m_604, ho, e1, sf_10, sf_20]
theorem m_627s {k L : Nat} {h : ai_H} {i a s : Nat} {b : Int32} (hi : i < 40) (ha : a < 4) (hs : s < 3) (hq : ai_gI h 24 0 i = nI a) (ho : ai_mow h i = nI (4 + s)) (r : ai_A) : ai_E 627 [ai_r 23 0, ai_i (nI i), ai_i b] (281, k, L, ai_R0) h r ↔ r = (Sum.inl none, (281, k, L, ai_R0), (dr_m (ai_wI h 26 0 i (ai_gI h 26 0 i - b)) s a b.toInt64)) := by
  have a7 : a < 7 := by omega
  have h7 : 4 + s < 7 := by omega
  have hx : 4 * s + a < 12 := by omega
  unfold dr_m ai_m2
  generalize hD : ai_gJ h 43 0 (4 * s + a) = D
  by_cases g : b.toInt64 < D
  · rw [ai_E_eq, ai_X_eq []]
    simp only [ai_c_627_0, ai_c_627_1, ai_c_627_2, ai_c_627_5, ai_c_627_6, ai_c_627_7, ai_c_627_10, ai_c_627_11, ai_c_627_12, ai_c_627_13, ai_c_627_14, ai_c_627_15, ai_c_627_16, ai_c_627_17, ai_c_627_20, ai_c_627_23, ai_c_627_24, ai_c_627_25, ai_c_627_28, ai_c_627_29, ai_c_627_30, ai_c_627_33, ai_c_627_35, ai_c_627_36, ai_c_627_37, ai_c_627_38, ai_c_627_41, ai_c_627_43, ai_c_627_44, ai_c_627_45, ai_c_627_48, ai_c_627_49, ai_c_627_50, ai_c_627_53, ai_c_627_54, ai_c_627_57, ai_c_627_59, ai_c_627_60, ai_c_627_62, ai_c_627_63, ai_c_627_66, ai_c_627_68, ai_c_627_69, ai_c_627_70, ai_c_627_72, ai_c_627_73, ai_c_627_74, ai_c_627_75, ai_c_627_76, ai_c_627_77, ai_c_627_80, ai_c_627_81, ai_c_627_82, ai_c_627_83, ai_c_627_84, ai_c_627_86, ai_c_627_87, ai_c_627_90, ai_k_6_129, ai_mx_613, ai_rm_627_613, ai_g_6_16, ai_k_6_119, ai_mx_604, ai_rm_627_604, ai_km_6_119, ai_g_6_7, ai_k_6_151, ai_mx_626, ai_rm_627_626, ai_km_6_151, ai_g_6_69, ai_k_6_154, ai_mx_625, ai_rm_627_625, ai_rk_627, ai_mx_627, sh_627, ai_XS_eq, List.contains_nil, List.contains_cons, Bool.or_false, Bool.false_or, Bool.or_self, Bool.false_eq_true, Nat.reduceBEq, beq_self_eq_true, ↓reduceIte, if_true, if_false,
 xe_iconst, xe_bipush, xe_sipush, xe_lconst, xe_ldc, xe_ldc_w, xe_ldc2_w, xe_iload, xe_iload_n, xe_lload, xe_lload_n, xe_aload, xe_aload_n, xe_istore, xe_istore_n, xe_lstore, xe_lstore_n, xe_astore, xe_astore_n, xe_iinc, xe_iadd, xe_isub, xe_imul, xe_iand, xe_ladd, xe_lsub, xe_lmul, xe_lcmp, xe_i2l, xe_idiv, xe_irem, xe_ldiv, xe_dupi, xe_dupr, xe_dup2ir, xe_getfield, xe_putfield, xe_iaload, xe_laload, xe_baload, xe_aaload, xe_iastore, xe_lastore, xe_bastore, xe_arraylength, xe_goto, xe_ifeq, xe_ifne, xe_iflt, xe_ifge, xe_ifgt, xe_ifle, xe_icmpeq, xe_icmpne, xe_icmplt, xe_icmpge, xe_icmpgt, xe_icmple, xe_return, xe_ireturn, xe_zreturn, xe_lreturn, xe_throw, xe_callvirtual, xe_callstatic, xe_callspecial, xe_min, xe_minL, xe_maxL, xe_object,
 ai_PI_s, ai_PJ_s, ai_PR_s, ai_PV_s, ai_PL_s, ai_PA_s, ai_PZ_s, ai_PQ_s, ai_PS_s, ai_PT_s, ai_PF_s, ai_PG_s, ai_PC_t, ai_PC_f, ai_QC_s, ai_inc_0, ai_inc_1, ai_inc_s, ai_ldi_0, ai_ldi_s, ai_ldj_0, ai_ldj_s, ai_ldr_0, ai_ldr_s, ai_st1_0, ai_st1_1, ai_st1_s, ai_st2_0, ai_st2_1, ai_st2_s, ai_wide_i, ai_wide_j, ai_wide_r, ai_wide_n, ai_one_i, ai_one_r, Option.map_some, Option.map_none, ai_EC_inl, Option.toList_some, Option.toList_none, List.cons_append, List.nil_append, List.append_nil, List.take_succ_cons, List.take_zero, List.drop_succ_cons, List.drop_zero, List.reverse_cons, List.reverse_nil, List.length_cons, List.length_nil, ai_en, ai_e0_n, ai_e0_i, ai_e0_j, ai_e0_r, List.replicate_succ, List.replicate_zero, Nat.reduceAdd, Nat.reduceSub, Nat.reduceDiv, Nat.reduceLeDiff, Nat.zero_add, Nat.le_refl, Nat.zero_le, and_self, true_and, and_true, Fin.isValue, Fin.val_ofNat, ai_tg, ai_tk, Int.reduceAdd, Int.reduceToNat, Int.reduceLE, Int.cast_ofNat_Int, decide_true, not_true_eq_false, not_false_eq_true, Nat.reducePow, Nat.reduceLT, ai_ix_nI, ai_ix_lit, ai_f0, ai_f1, ai_f2, ai_f3, ai_u0, ai_u1, ai_a_1, ai_R0_1, ai_a_2, ai_R0_2, ai_a_3, ai_R0_3, ai_a_5, ai_il_5, ai_a_6, ai_il_6, ai_a_8, ai_il_8, ai_a_9, ai_il_9, ai_a_10, ai_a_11, ai_a_12, ai_a_13, ai_a_15, ai_a_16, ai_il_16, ai_le_16, ai_a_17, ai_il_17, ai_le_17, ai_a_18, ai_il_18, ai_le_18, ai_a_21, ai_il_21, ai_a_22, ai_a_24, ai_il_24, ai_a_25, ai_il_25, ai_a_26, ai_il_26, ai_a_27, ai_il_27, ai_a_28, ai_a_29, ai_il_29, ai_a_30, ai_il_30, ai_a_31, ai_il_31, ai_a_32, ai_il_32, ai_a_33, ai_a_34, ai_a_35, ai_il_35, ai_a_36, ai_il_36, ai_a_37, ai_il_37, ai_a_38, ai_a_39, ai_il_39, ai_le_39, ai_a_40, ai_il_40, ai_le_40, ai_a_41, ai_il_41, ai_le_41, ai_a_42, ai_il_42, ai_a_43, ai_a_44, ai_a_45, ai_il_45, ai_a_46, ai_il_46, ai_a_47, ai_a_48, ai_il_48, ai_a_49, ai_il_49, ai_a_50, ai_kob_0, ai_al_0, ai_kob_4, ai_al_4, ai_kob_7, ai_al_7, ai_kob_14, ai_al_14, ai_kob_19, ai_al_19, ai_kob_20, ai_al_20, ai_kob_23, ai_al_23, Bool.and_self, Bool.and_true, Bool.true_and, false_and, and_false, true_or, or_true, false_or, or_false, or_self, nI_1, xe_throw2, ai_TW_s, ai_EC_out, ai_PC_if, sm_if, sm_exif, sm_ex, sm_rc, sm_rcs, sm_rcv, sk_im1, sk_i0, sk_i1, sk_i2, sk_i3, sk_i4, sk_i5, sk_b6, sk_b7, sk_b9, sk_b12, sk_b15, sk_b30, sk_b31, sk_b40, sk_b60, sk_b80, sk_b90, sk_b100, sk_b120, sk_s300, sk_s582, sk_s3000, ai_gI_wI, ai_gI_wJ, ai_gJ_wI, ai_gJ_wJ, Nat.reduceEqDiff, false_and, and_false, true_and, and_true, and_self, if_false, if_true, ↓reduceIte, hi, m_613 hi, m_604, m_626, sf_dr, hx, pk_fM hs, ho, hq, hD, g, sf_f (Int64.not_le.mpr g), lg_cmp_ge, m_625v h7 a7, sf_10, sf_20]
  · rw [ai_E_eq, ai_X_eq []]
    simp only [ai_c_627_0, ai_c_627_1, ai_c_627_2, ai_c_627_5, ai_c_627_6, ai_c_627_7, ai_c_627_10, ai_c_627_11, ai_c_627_12, ai_c_627_13, ai_c_627_14, ai_c_627_15, ai_c_627_16, ai_c_627_17, ai_c_627_20, ai_c_627_23, ai_c_627_24, ai_c_627_25, ai_c_627_28, ai_c_627_29, ai_c_627_30, ai_c_627_33, ai_c_627_35, ai_c_627_36, ai_c_627_37, ai_c_627_38, ai_c_627_41, ai_c_627_43, ai_c_627_44, ai_c_627_45, ai_c_627_48, ai_c_627_49, ai_c_627_50, ai_c_627_53, ai_c_627_54, ai_c_627_57, ai_c_627_59, ai_c_627_60, ai_c_627_62, ai_c_627_63, ai_c_627_66, ai_c_627_68, ai_c_627_69, ai_c_627_70, ai_c_627_72, ai_c_627_73, ai_c_627_74, ai_c_627_75, ai_c_627_76, ai_c_627_77, ai_c_627_80, ai_c_627_81, ai_c_627_82, ai_c_627_83, ai_c_627_84, ai_c_627_86, ai_c_627_87, ai_c_627_90, ai_k_6_129, ai_mx_613, ai_rm_627_613, ai_g_6_16, ai_k_6_119, ai_mx_604, ai_rm_627_604, ai_km_6_119, ai_g_6_7, ai_k_6_151, ai_mx_626, ai_rm_627_626, ai_km_6_151, ai_g_6_69, ai_k_6_154, ai_mx_625, ai_rm_627_625, ai_rk_627, ai_mx_627, sh_627, ai_XS_eq, List.contains_nil, List.contains_cons, Bool.or_false, Bool.false_or, Bool.or_self, Bool.false_eq_true, Nat.reduceBEq, beq_self_eq_true, ↓reduceIte, if_true, if_false,
 xe_iconst, xe_bipush, xe_sipush, xe_lconst, xe_ldc, xe_ldc_w, xe_ldc2_w, xe_iload, xe_iload_n, xe_lload, xe_lload_n, xe_aload, xe_aload_n, xe_istore, xe_istore_n, xe_lstore, xe_lstore_n, xe_astore, xe_astore_n, xe_iinc, xe_iadd, xe_isub, xe_imul, xe_iand, xe_ladd, xe_lsub, xe_lmul, xe_lcmp, xe_i2l, xe_idiv, xe_irem, xe_ldiv, xe_dupi, xe_dupr, xe_dup2ir, xe_getfield, xe_putfield, xe_iaload, xe_laload, xe_baload, xe_aaload, xe_iastore, xe_lastore, xe_bastore, xe_arraylength, xe_goto, xe_ifeq, xe_ifne, xe_iflt, xe_ifge, xe_ifgt, xe_ifle, xe_icmpeq, xe_icmpne, xe_icmplt, xe_icmpge, xe_icmpgt, xe_icmple, xe_return, xe_ireturn, xe_zreturn, xe_lreturn, xe_throw, xe_callvirtual, xe_callstatic, xe_callspecial, xe_min, xe_minL, xe_maxL, xe_object,
 ai_PI_s, ai_PJ_s, ai_PR_s, ai_PV_s, ai_PL_s, ai_PA_s, ai_PZ_s, ai_PQ_s, ai_PS_s, ai_PT_s, ai_PF_s, ai_PG_s, ai_PC_t, ai_PC_f, ai_QC_s, ai_inc_0, ai_inc_1, ai_inc_s, ai_ldi_0, ai_ldi_s, ai_ldj_0, ai_ldj_s, ai_ldr_0, ai_ldr_s, ai_st1_0, ai_st1_1, ai_st1_s, ai_st2_0, ai_st2_1, ai_st2_s, ai_wide_i, ai_wide_j, ai_wide_r, ai_wide_n, ai_one_i, ai_one_r, Option.map_some, Option.map_none, ai_EC_inl, Option.toList_some, Option.toList_none, List.cons_append, List.nil_append, List.append_nil, List.take_succ_cons, List.take_zero, List.drop_succ_cons, List.drop_zero, List.reverse_cons, List.reverse_nil, List.length_cons, List.length_nil, ai_en, ai_e0_n, ai_e0_i, ai_e0_j, ai_e0_r, List.replicate_succ, List.replicate_zero, Nat.reduceAdd, Nat.reduceSub, Nat.reduceDiv, Nat.reduceLeDiff, Nat.zero_add, Nat.le_refl, Nat.zero_le, and_self, true_and, and_true, Fin.isValue, Fin.val_ofNat, ai_tg, ai_tk, Int.reduceAdd, Int.reduceToNat, Int.reduceLE, Int.cast_ofNat_Int, decide_true, not_true_eq_false, not_false_eq_true, Nat.reducePow, Nat.reduceLT, ai_ix_nI, ai_ix_lit, ai_f0, ai_f1, ai_f2, ai_f3, ai_u0, ai_u1, ai_a_1, ai_R0_1, ai_a_2, ai_R0_2, ai_a_3, ai_R0_3, ai_a_5, ai_il_5, ai_a_6, ai_il_6, ai_a_8, ai_il_8, ai_a_9, ai_il_9, ai_a_10, ai_a_11, ai_a_12, ai_a_13, ai_a_15, ai_a_16, ai_il_16, ai_le_16, ai_a_17, ai_il_17, ai_le_17, ai_a_18, ai_il_18, ai_le_18, ai_a_21, ai_il_21, ai_a_22, ai_a_24, ai_il_24, ai_a_25, ai_il_25, ai_a_26, ai_il_26, ai_a_27, ai_il_27, ai_a_28, ai_a_29, ai_il_29, ai_a_30, ai_il_30, ai_a_31, ai_il_31, ai_a_32, ai_il_32, ai_a_33, ai_a_34, ai_a_35, ai_il_35, ai_a_36, ai_il_36, ai_a_37, ai_il_37, ai_a_38, ai_a_39, ai_il_39, ai_le_39, ai_a_40, ai_il_40, ai_le_40, ai_a_41, ai_il_41, ai_le_41, ai_a_42, ai_il_42, ai_a_43, ai_a_44, ai_a_45, ai_il_45, ai_a_46, ai_il_46, ai_a_47, ai_a_48, ai_il_48, ai_a_49, ai_il_49, ai_a_50, ai_kob_0, ai_al_0, ai_kob_4, ai_al_4, ai_kob_7, ai_al_7, ai_kob_14, ai_al_14, ai_kob_19, ai_al_19, ai_kob_20, ai_al_20, ai_kob_23, ai_al_23, Bool.and_self, Bool.and_true, Bool.true_and, false_and, and_false, true_or, or_true, false_or, or_false, or_self, nI_1, xe_throw2, ai_TW_s, ai_EC_out, ai_PC_if, sm_if, sm_exif, sm_ex, sm_rc, sm_rcs, sm_rcv, sk_im1, sk_i0, sk_i1, sk_i2, sk_i3, sk_i4, sk_i5, sk_b6, sk_b7, sk_b9, sk_b12, sk_b15, sk_b30, sk_b31, sk_b40, sk_b60, sk_b80, sk_b90, sk_b100, sk_b120, sk_s300, sk_s582, sk_s3000, ai_gI_wI, ai_gI_wJ, ai_gJ_wI, ai_gJ_wJ, Nat.reduceEqDiff, false_and, and_false, true_and, and_true, and_self, if_false, if_true, ↓reduceIte, hi, m_613 hi, m_604, m_626, sf_dr, hx, pk_fM hs, ho, hq, hD, g, sf_t (Int64.not_lt.mp g), lg_cmp_ge, m_625v h7 a7, sf_10, sf_20]
theorem rl_jb {x m : ai_H} {N W T C : Nat} (R : rl x m N W T C) (hC : C < 512) : ∃ J, J < 582 ∧ ai_gI x 4 0 2 = nI J ∧ J ≤ C + ai_cz (fun i => ai_gI x 14 i 3) N + ai_cw (fun w => ai_gI x 19 w 3) W := by
  obtain ⟨A, B1, B2, O, E, D, Cc, P7, P5, S1, S2, S3, M, F0, F1, F2, K5, K4, G, H, Q, J⟩ := id R
  obtain ⟨j, j1, j2, -⟩ := J
  have h1 : N ≤ 40 := A.2.2.1
  have h2 : W ≤ 30 := A.2.2.2.2.2.1
  have z1 := cz_le (fun i => ai_gI x 14 i 3) N
  have z2 := cw_le (fun w => ai_gI x 19 w 3) W
  exact ⟨j, by omega, j2, j1⟩
theorem x_44 {k L : Nat} {x m : ai_H} {N W T C i p : Nat} (R : rl x m N W T C) (hT : T < 2 ^ 30) (hC : C < 512) (hi : i < N) (hp : p < 7) (b : Int32) (r : ai_A) : ai_E 44 [ai_r 0 0, ai_i (nI i), ai_i (nI p), ai_i b] (281, k, L, ai_R0) x r ↔ r = (Sum.inl none, (281, k, L, ai_R0), st_x x i p b) := by
  obtain ⟨J, hJ, hj, -⟩ := rl_jb R hC
  have hN : N ≤ 40 := R.1.2.2.1
  obtain ⟨a, ha, q1, q2⟩ := rl_sl R hi
  unfold st_x
  rcases rl_own R hT hi with ⟨a', ha', o1, o2, -⟩ | ⟨s, hs, o1, o2, -⟩
  · rw [if_pos o1, q1, pn_nI (by omega)]
    exact x_44n (by omega) hp ha hJ hj q1 o1 r
  · rw [if_neg (by rw [o1]; exact sf_m1 (by omega)), o1, q1, pn_nI (by omega), pn_nI (by omega)]
    exact x_44s (by omega) hp ha hs hJ hj q1 o1 r
theorem m_627 {k L : Nat} {x m : ai_H} {N W T C i : Nat} (R : rl x m N W T C) (hT : T < 2 ^ 30) (hi : i < N) (b : Int32) (r : ai_A) : ai_E 627 [ai_r 23 0, ai_i (nI i), ai_i b] (281, k, L, ai_R0) m r ↔ r = (Sum.inl none, (281, k, L, ai_R0), cm_m m i b) := by
  have hN : N ≤ 40 := R.1.2.2.1
  obtain ⟨a, ha, q1, q2⟩ := rl_sl R hi
  unfold cm_m
  rcases rl_own R hT hi with ⟨a', ha', o1, o2, -⟩ | ⟨s, hs, o1, o2, -⟩
  · rw [if_neg (by rw [o2]; exact sf_no4 ha')]
    exact m_627n (by omega) ha' o2 r
  · rw [if_pos (by rw [o2]; exact of_eq_true (pk_fM hs)), o2, q2, pn_nI (by omega), pn_nI (by omega), show 4 + s - 4 = s by omega]
    exact m_627s (by omega) ha hs q2 o2 r
