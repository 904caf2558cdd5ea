/-! out of the class's rows of whole, over the cells of this claim -/
def pn (x : Int32) : Nat := x.toInt.toNat
theorem pn_nI {n : Nat} (h : n < 2 ^ 31) : pn (nI n) = n := by
  unfold pn
  rw [nI_toInt h]
  exact Int.toNat_natCast n
theorem x_46v {k L a b : Nat} {h : ai_H} (ha : a < 7) (hb : b < 7) (c : Int64) (r : ai_A) : ai_E 46 [ai_r 0 0, ai_i (nI a), ai_i (nI b), ai_j c] (263, k, L, ai_R0) h r ↔ r = (Sum.inl none, (263, k, L, ai_R0), mv_x h a b c) := x_46 ha hb c r
def tk_x (h : ai_H) (i : Nat) (b : Int32) : ai_H := if 0 < b then ai_wI (ai_wI (ai_wI (ai_wI h 14 i 3 (ai_gI h 14 i 3 - b)) 5 0 (pn (ai_gI h 4 0 2)) (nI i)) 6 0 (pn (ai_gI h 4 0 2)) b) 4 0 2 (ai_gI h 4 0 2 + 1) else ai_wI h 14 i 3 (ai_gI h 14 i 3 - b)
theorem x_45t {k L i J : Nat} {h : ai_H} (hi : i < 40) (hJ : J < 582) (hj : ai_gI h 4 0 2 = nI J) (b : Int32) (r : ai_A) : ai_E 45 [ai_r 0 0, ai_i (nI i), ai_i b] (263, k, L, ai_R0) h r ↔ r = (Sum.inl none, (263, k, L, ai_R0), tk_x h i b) := by
  unfold tk_x
  by_cases g : 0 < b
  · rw [if_pos g, hj, pn_nI (by omega), nI_1]
    exact x_45 hi hJ hj g r
  · rw [if_neg g]
    exact x_45_no hi (sf_lt g) r
theorem tk_J {h : ai_H} {i : Nat} {b : Int32} : ai_gJ (tk_x h i b) = ai_gJ h := by
  unfold tk_x
  split <;> rfl
theorem tk_I {h : ai_H} {i t : Nat} {b : Int32} (h1 : ¬ t = 14) (h2 : ¬ t = 5) (h3 : ¬ t = 6) (h4 : ¬ t = 4) : ai_gI (tk_x h i b) t = ai_gI h t := by
  unfold tk_x
  split
  · rw [fI h4, fI h3, fI h2, fI h1]
  · rw [fI h1]
theorem tk_14 {h : ai_H} {i j k : Nat} {b : Int32} (hk : ¬ k = 3) : ai_gI (tk_x h i b) 14 j k = ai_gI h 14 j k := by
  unfold tk_x
  split
  · rw [fI (by decide), fI (by decide), fI (by decide), ai_gI_wI, if_neg (fun q => hk q.2.2)]
  · rw [ai_gI_wI, if_neg (fun q => hk q.2.2)]
theorem tk_3 {h : ai_H} {i j : Nat} {b : Int32} : ai_gI (tk_x h i b) 14 j 3 = if j = i then ai_gI h 14 i 3 - b else ai_gI h 14 j 3 := by
  unfold tk_x
  split
  · rw [fI (by decide), fI (by decide), fI (by decide)]
    simp only [ai_gI_wI, ai_gI_wJ, ai_gJ_wI, ai_gJ_wJ, Nat.reduceEqDiff, false_and, and_false, true_and, and_true, and_self, if_false, if_true, ↓reduceIte]
  · simp only [ai_gI_wI, ai_gI_wJ, ai_gJ_wI, ai_gJ_wJ, Nat.reduceEqDiff, false_and, and_false, true_and, and_true, and_self, if_false, if_true, ↓reduceIte]
theorem tk_ow {h : ai_H} {i j : Nat} {b : Int32} : ai_owS (tk_x h i b) j = ai_owS h j := by
  unfold ai_owS ai_frS
  rw [tk_I (by decide) (by decide) (by decide) (by decide), tk_I (by decide) (by decide) (by decide) (by decide), tk_I (by decide) (by decide) (by decide) (by decide)]
theorem tk_pt {h : ai_H} {i j : Nat} {b s : Int32} : ai_pty (tk_x h i b) j s = ai_pty h j s := by
  unfold ai_pty
  rw [tk_14 (by decide)]
theorem tk_fx {x h : ai_H} {i : Nat} {b : Int32} (a : fx x h) : fx x (tk_x h i b) := by
  unfold tk_x
  split
  · exact fx_I (by decide) (fx_I (by decide) (fx_I (by decide) (fx_I (by decide) a)))
  · exact fx_I (by decide) a
def dr_x (h : ai_H) (s a : Nat) (b : Int64) : ai_H := mv_x (ai_wJ h 22 s a (ai_gJ h 22 s a - ai_minL b (ai_gJ h 22 s a))) (4 + s) a (b - ai_minL b (ai_gJ h 22 s a))
/-- some money that lies with party p is paid towards bill i -/
def st_x (h : ai_H) (i p : Nat) (b : Int32) : ai_H := if ai_owS h i = -1 then mv_x (tk_x h i b) p (pn (ai_gI h 14 i 0)) b.toInt64 else dr_x (mv_x (tk_x h i b) p (4 + pn (ai_owS h i)) b.toInt64) (pn (ai_owS h i)) (pn (ai_gI h 14 i 0)) b.toInt64
theorem sf_no4 {a : Nat} (ha : a < 4) : ¬ (4 ≤ nI a ∧ nI a ≤ 6) := fun q => by
  have := (nI_leI (a := 4) (b := a) (by decide) (by omega)).mp q.1
  omega
theorem dr_fx {x h : ai_H} {s a : Nat} {b : Int64} (f : fx x h) : fx x (dr_x h s a b) := mv_fx (fx_J (by decide) f)
theorem st_fx {x h : ai_H} {i p : Nat} {b : Int32} (f : fx x h) : fx x (st_x h i p b) := by
  unfold st_x
  split
  · exact mv_fx (tk_fx f)
  · exact dr_fx (mv_fx (tk_fx f))
theorem st_I {h : ai_H} {i p : Nat} {b : Int32} : ai_gI (st_x h i p b) = ai_gI (tk_x h i b) := by
  unfold st_x
  split <;> rfl
theorem x_44n {k L : Nat} {h : ai_H} {i p a J : Nat} {b : Int32} (hi : i < 40) (hp : p < 7) (ha : a < 4) (hJ : J < 582) (hj : ai_gI h 4 0 2 = nI J) (hq : ai_gI h 14 i 0 = nI a) (ho : ai_owS h i = -1) (r : ai_A) : ai_E 44 [ai_r 0 0, ai_i (nI i), ai_i (nI p), ai_i b] (263, k, L, ai_R0) h r ↔ r = (Sum.inl none, (263, k, L, ai_R0), (mv_x (tk_x h i b) p a b.toInt64)) := by
  have a7 : a < 7 := by omega
  have e1 : ∀ H : ai_H, ∀ u v w, ai_owS (mv_x H u v w) i = ai_owS H i := fun _ _ _ _ => rfl
  have e6 : ai_gI (tk_x h i b) 14 i 0 = nI a := (tk_14 (by decide)).trans hq
  rw [ai_E_eq, ai_X_eq []]
  simp only [ai_c_44_0, ai_c_44_1, ai_c_44_4, ai_c_44_5, ai_c_44_6, ai_c_44_8, ai_c_44_9, ai_c_44_10, ai_c_44_11, ai_c_44_14, ai_c_44_15, ai_c_44_16, ai_c_44_18, ai_c_44_21, ai_c_44_22, ai_c_44_23, ai_c_44_26, ai_c_44_28, ai_c_44_31, ai_c_44_33, ai_c_44_35, ai_c_44_36, ai_c_44_39, ai_c_44_40, ai_c_44_43, ai_c_44_45, ai_c_44_46, ai_c_44_49, ai_c_44_51, ai_c_44_52, ai_c_44_53, ai_c_44_55, ai_c_44_57, ai_c_44_60, ai_c_44_61, ai_c_44_64, ai_c_44_66, ai_c_44_68, ai_c_44_70, ai_c_44_73, ai_c_44_74, ai_c_44_75, ai_c_44_77, ai_c_44_78, ai_c_44_79, ai_c_44_80, ai_c_44_81, ai_c_44_83, ai_c_44_84, ai_c_44_86, ai_c_44_89, ai_c_44_90, ai_c_44_91, ai_c_44_93, ai_c_44_94, ai_c_44_97, ai_g_0_11, ai_k_0_116, ai_mx_45, ai_rm_44_45, ai_k_0_144, ai_mx_102, ai_rm_44_102, ai_k_0_249, ai_mx_46, ai_rm_44_46, ai_k_0_252, ai_mx_103, ai_rm_44_103, ai_g_0_30, ai_g_0_246, ai_g_0_134, ai_mt_0_346, ai_om_44, ai_rk_44, ai_mx_44, sh_44, ai_XS_eq, List.contains_nil, List.contains_cons, Bool.or_false, Bool.false_or, Bool.or_self, Bool.false_eq_true, Nat.reduceBEq, beq_self_eq_true, ↓reduceIte, if_true, if_false,
 xe_iconst, xe_bipush, xe_sipush, xe_lconst, xe_ldc, xe_ldc_w, xe_ldc2_w, xe_iload, xe_iload_n, xe_lload, xe_lload_n, xe_aload, xe_aload_n, xe_istore, xe_istore_n, xe_lstore, xe_lstore_n, xe_astore, xe_astore_n, xe_iinc, xe_iadd, xe_isub, xe_imul, xe_iand, xe_ior, xe_ishl, xe_ishr, xe_ineg, xe_l2i, xe_newL, xe_newI, xe_ladd, xe_lsub, xe_lmul, xe_lcmp, xe_i2l, xe_idiv, xe_irem, xe_ldiv, xe_dupi, xe_dupr, xe_dup2ir, xe_getfield, xe_putfield, xe_iaload, xe_laload, xe_baload, xe_aaload, xe_iastore, xe_lastore, xe_bastore, xe_arraylength, xe_goto, xe_ifeq, xe_ifne, xe_iflt, xe_ifge, xe_ifgt, xe_ifle, xe_icmpeq, xe_icmpne, xe_icmplt, xe_icmpge, xe_icmpgt, xe_icmple, xe_return, xe_ireturn, xe_zreturn, xe_lreturn, xe_throw, xe_callvirtual, xe_callstatic, xe_callspecial, xe_min, xe_minL, xe_maxL, xe_object,
 ai_PI_s, ai_PJ_s, ai_PR_s, ai_PV_s, ai_PL_s, ai_PA_s, ai_PZ_s, ai_PQ_s, ai_PS_s, ai_PT_s, ai_PF_s, ai_PG_s, ai_PC_t, ai_PC_f, ai_QC_s, ai_inc_0, ai_inc_1, ai_inc_s, ai_ldi_0, ai_ldi_s, ai_ldj_0, ai_ldj_s, ai_ldr_0, ai_ldr_s, ai_st1_0, ai_st1_1, ai_st1_s, ai_st2_0, ai_st2_1, ai_st2_s, ai_wide_i, ai_wide_j, ai_wide_r, ai_wide_n, ai_one_i, ai_one_r, Option.map_some, Option.map_none, ai_EC_inl, Option.toList_some, Option.toList_none, List.cons_append, List.nil_append, List.append_nil, List.take_succ_cons, List.take_zero, List.drop_succ_cons, List.drop_zero, List.reverse_cons, List.reverse_nil, List.length_cons, List.length_nil, ai_en, ai_e0_n, ai_e0_i, ai_e0_j, ai_e0_r, List.replicate_succ, List.replicate_zero, Nat.reduceAdd, Nat.reduceSub, Nat.reduceDiv, Nat.reduceLeDiff, Nat.zero_add, Nat.le_refl, Nat.zero_le, and_self, true_and, and_true, Fin.isValue, Fin.val_ofNat, ai_tg, ai_tk, Int.reduceAdd, Int.reduceToNat, Int.reduceLE, Int.cast_ofNat_Int, decide_true, not_true_eq_false, not_false_eq_true, Nat.reducePow, Nat.reduceLT, ai_ix_nI, ai_ix_lit, ai_f0, ai_f1, ai_f2, ai_f3, ai_u0, ai_u1, ai_a_1, ai_R0_1, ai_a_2, ai_R0_2, ai_a_3, ai_R0_3, ai_a_5, ai_il_5, ai_a_6, ai_il_6, ai_a_8, ai_il_8, ai_a_9, ai_il_9, ai_a_10, ai_a_11, ai_a_12, ai_a_13, ai_a_15, ai_a_16, ai_il_16, ai_le_16, ai_a_17, ai_il_17, ai_le_17, ai_a_18, ai_il_18, ai_le_18, ai_a_21, ai_il_21, ai_a_22, ai_a_23, ai_il_23, ai_a_24, ai_il_24, ai_a_25, ai_a_26, ai_a_27, ai_il_27, ai_a_28, ai_il_28, ai_a_29, ai_il_29, ai_a_30, ai_il_30, ai_a_31, ai_il_31, ai_a_32, ai_il_32, ai_kob_0, ai_al_0, ai_kob_4, ai_al_4, ai_kob_7, ai_al_7, ai_kob_14, ai_al_14, ai_kob_19, ai_al_19, ai_kob_20, ai_al_20, Bool.and_self, Bool.and_true, Bool.true_and, false_and, and_false, true_or, or_true, false_or, or_false, or_self, nI_1, xe_throw2, ai_TW_s, ai_EC_out, ai_PC_if, sm_if, sm_exif, sm_ex, sm_rc, sm_rcs, sm_rcv, sk_im1, sk_i0, sk_i1, sk_i2, sk_i3, sk_i4, sk_i5, sk_bm13, sk_b6, sk_b7, sk_b8, sk_b9, sk_b10, sk_b11, sk_b12, sk_b13, sk_b14, sk_b15, sk_b16, sk_b20, sk_b21, sk_b22, sk_b23, sk_b24, sk_b25, sk_b26, sk_b27, sk_b29, sk_b30, sk_b32, sk_b35, sk_b40, sk_b48, sk_b50, sk_b60, sk_b64, sk_b71, sk_b80, sk_b90, sk_b96, sk_b100, sk_b101, sk_s128, sk_s130, sk_s582, sk_s672, sk_s2000, sk_s2016, sk_s2900, sk_s3000, sk_s3400, sk_s5000, sk_s6000, sk_s9000, sk_s9041, ai_gI_wI, ai_gI_wJ, ai_gJ_wI, ai_gJ_wJ, Nat.reduceEqDiff, false_and, and_false, true_and, and_true, and_self, if_false, if_true, ↓reduceIte, hi, x_45t hi hJ hj, x_102 hi, x_103 hi, tk_ow, ho, pt_none, e6, x_46v hp a7, e1]
theorem x_44s {k L : Nat} {h : ai_H} {i p a s J : Nat} {b : Int32} (hi : i < 40) (hp : p < 7) (ha : a < 4) (hs : s < 3) (hJ : J < 582) (hj : ai_gI h 4 0 2 = nI J) (hq : ai_gI h 14 i 0 = nI a) (ho : ai_owS h i = nI s) (r : ai_A) : ai_E 44 [ai_r 0 0, ai_i (nI i), ai_i (nI p), ai_i b] (263, k, L, ai_R0) h r ↔ r = (Sum.inl none, (263, k, L, ai_R0), (dr_x (mv_x (tk_x h i b) p (4 + s) b.toInt64) s a b.toInt64)) := by
  have a7 : a < 7 := by omega
  have h7 : 4 + s < 7 := by omega
  have e1 : ∀ H : ai_H, ∀ u v w, ai_owS (mv_x H u v w) i = ai_owS H i := fun _ _ _ _ => rfl
  have e2 : ∀ H : ai_H, ∀ u v w, ai_gI (mv_x H u v w) = ai_gI H := fun _ _ _ _ => rfl
  have e3 : (nI s = -1) = False := eq_false (sf_m1 (by omega))
  have e4 : (4 : Int32) + nI s = nI (4 + s) := nI_add 4 s
  have e5 : ai_pty h i (nI s) = nI (4 + s) := pt_slot hs
  have e6 : ∀ H : ai_H, ai_gI (tk_x h i b) 14 i 0 = nI a := fun _ => (tk_14 (by decide)).trans hq
  unfold dr_x
  rw [ai_E_eq, ai_X_eq []]
  simp only [ai_c_44_0, ai_c_44_1, ai_c_44_4, ai_c_44_5, ai_c_44_6, ai_c_44_8, ai_c_44_9, ai_c_44_10, ai_c_44_11, ai_c_44_14, ai_c_44_15, ai_c_44_16, ai_c_44_18, ai_c_44_21, ai_c_44_22, ai_c_44_23, ai_c_44_26, ai_c_44_28, ai_c_44_31, ai_c_44_33, ai_c_44_35, ai_c_44_36, ai_c_44_39, ai_c_44_40, ai_c_44_43, ai_c_44_45, ai_c_44_46, ai_c_44_49, ai_c_44_51, ai_c_44_52, ai_c_44_53, ai_c_44_55, ai_c_44_57, ai_c_44_60, ai_c_44_61, ai_c_44_64, ai_c_44_66, ai_c_44_68, ai_c_44_70, ai_c_44_73, ai_c_44_74, ai_c_44_75, ai_c_44_77, ai_c_44_78, ai_c_44_79, ai_c_44_80, ai_c_44_81, ai_c_44_83, ai_c_44_84, ai_c_44_86, ai_c_44_89, ai_c_44_90, ai_c_44_91, ai_c_44_93, ai_c_44_94, ai_c_44_97, ai_g_0_11, ai_k_0_116, ai_mx_45, ai_rm_44_45, ai_k_0_144, ai_mx_102, ai_rm_44_102, ai_k_0_249, ai_mx_46, ai_rm_44_46, ai_k_0_252, ai_mx_103, ai_rm_44_103, ai_g_0_30, ai_g_0_246, ai_g_0_134, ai_mt_0_346, ai_om_44, ai_rk_44, ai_mx_44, sh_44, ai_XS_eq, List.contains_nil, List.contains_cons, Bool.or_false, Bool.false_or, Bool.or_self, Bool.false_eq_true, Nat.reduceBEq, beq_self_eq_true, ↓reduceIte, if_true, if_false,
 xe_iconst, xe_bipush, xe_sipush, xe_lconst, xe_ldc, xe_ldc_w, xe_ldc2_w, xe_iload, xe_iload_n, xe_lload, xe_lload_n, xe_aload, xe_aload_n, xe_istore, xe_istore_n, xe_lstore, xe_lstore_n, xe_astore, xe_astore_n, xe_iinc, xe_iadd, xe_isub, xe_imul, xe_iand, xe_ior, xe_ishl, xe_ishr, xe_ineg, xe_l2i, xe_newL, xe_newI, xe_ladd, xe_lsub, xe_lmul, xe_lcmp, xe_i2l, xe_idiv, xe_irem, xe_ldiv, xe_dupi, xe_dupr, xe_dup2ir, xe_getfield, xe_putfield, xe_iaload, xe_laload, xe_baload, xe_aaload, xe_iastore, xe_lastore, xe_bastore, xe_arraylength, xe_goto, xe_ifeq, xe_ifne, xe_iflt, xe_ifge, xe_ifgt, xe_ifle, xe_icmpeq, xe_icmpne, xe_icmplt, xe_icmpge, xe_icmpgt, xe_icmple, xe_return, xe_ireturn, xe_zreturn, xe_lreturn, xe_throw, xe_callvirtual, xe_callstatic, xe_callspecial, xe_min, xe_minL, xe_maxL, xe_object,
 ai_PI_s, ai_PJ_s, ai_PR_s, ai_PV_s, ai_PL_s, ai_PA_s, ai_PZ_s, ai_PQ_s, ai_PS_s, ai_PT_s, ai_PF_s, ai_PG_s, ai_PC_t, ai_PC_f, ai_QC_s, ai_inc_0, ai_inc_1, ai_inc_s, ai_ldi_0, ai_ldi_s, ai_ldj_0, ai_ldj_s, ai_ldr_0, ai_ldr_s, ai_st1_0, ai_st1_1, ai_st1_s, ai_st2_0, ai_st2_1, ai_st2_s, ai_wide_i, ai_wide_j, ai_wide_r, ai_wide_n, ai_one_i, ai_one_r, Option.map_some, Option.map_none, ai_EC_inl, Option.toList_some, Option.toList_none, List.cons_append, List.nil_append, List.append_nil, List.take_succ_cons, List.take_zero, List.drop_succ_cons, List.drop_zero, List.reverse_cons, List.reverse_nil, List.length_cons, List.length_nil, ai_en, ai_e0_n, ai_e0_i, ai_e0_j, ai_e0_r, List.replicate_succ, List.replicate_zero, Nat.reduceAdd, Nat.reduceSub, Nat.reduceDiv, Nat.reduceLeDiff, Nat.zero_add, Nat.le_refl, Nat.zero_le, and_self, true_and, and_true, Fin.isValue, Fin.val_ofNat, ai_tg, ai_tk, Int.reduceAdd, Int.reduceToNat, Int.reduceLE, Int.cast_ofNat_Int, decide_true, not_true_eq_false, not_false_eq_true, Nat.reducePow, Nat.reduceLT, ai_ix_nI, ai_ix_lit, ai_f0, ai_f1, ai_f2, ai_f3, ai_u0, ai_u1, ai_a_1, ai_R0_1, ai_a_2, ai_R0_2, ai_a_3, ai_R0_3, ai_a_5, ai_il_5, ai_a_6, ai_il_6, ai_a_8, ai_il_8, ai_a_9, ai_il_9, ai_a_10, ai_a_11, ai_a_12, ai_a_13, ai_a_15, ai_a_16, ai_il_16, ai_le_16, ai_a_17, ai_il_17, ai_le_17, ai_a_18, ai_il_18, ai_le_18, ai_a_21, ai_il_21, ai_a_22, ai_a_23, ai_il_23, ai_a_24, ai_il_24, ai_a_25, ai_a_26, ai_a_27, ai_il_27, ai_a_28, ai_il_28, ai_a_29, ai_il_29, ai_a_30, ai_il_30, ai_a_31, ai_il_31, ai_a_32, ai_il_32, ai_kob_0, ai_al_0, ai_kob_4, ai_al_4, ai_kob_7, ai_al_7, ai_kob_14, ai_al_14, ai_kob_19, ai_al_19, ai_kob_20, ai_al_20, Bool.and_self, Bool.and_true, Bool.true_and, false_and, and_false, true_or, or_true, false_or, or_false, or_self, nI_1, xe_throw2, ai_TW_s, ai_EC_out, ai_PC_if, sm_if, sm_exif, sm_ex, sm_rc, sm_rcs, sm_rcv, sk_im1, sk_i0, sk_i1, sk_i2, sk_i3, sk_i4, sk_i5, sk_bm13, sk_b6, sk_b7, sk_b8, sk_b9, sk_b10, sk_b11, sk_b12, sk_b13, sk_b14, sk_b15, sk_b16, sk_b20, sk_b21, sk_b22, sk_b23, sk_b24, sk_b25, sk_b26, sk_b27, sk_b29, sk_b30, sk_b32, sk_b35, sk_b40, sk_b48, sk_b50, sk_b60, sk_b64, sk_b71, sk_b80, sk_b90, sk_b96, sk_b100, sk_b101, sk_s128, sk_s130, sk_s582, sk_s672, sk_s2000, sk_s2016, sk_s2900, sk_s3000, sk_s3400, sk_s5000, sk_s6000, sk_s9000, sk_s9041, ai_gI_wI, ai_gI_wJ, ai_gJ_wI, ai_gJ_wJ, Nat.reduceEqDiff, false_and, and_false, true_and, and_true, and_self, if_false, if_true, ↓reduceIte, hi, hs, ha, x_45t hi hJ hj, x_102 hi, x_103 hi, tk_ow, tk_pt, ho, e5, e6 h, x_46v hp h7, x_46v h7 a7, e1, e2, e3, e4]
