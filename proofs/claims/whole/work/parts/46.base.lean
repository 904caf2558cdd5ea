/-- what the class notes of each buyer while it finds a base -/
def ai_cb (h : ai_H) (N : Nat) (x a : Int32) (y : Nat) : Int64 := if 2 * ai_dX h x (nI y) N ≤ ai_sX h x (nI y) N then ai_uX h x a (nI y) N else 0
def ai_h13 (h : ai_H) (f : Nat → Int64) : Nat → ai_H
  | 0 => h
  | s + 1 => ai_wJ (ai_h13 h f s) 13 0 s (f s)
theorem ai_h13I (h : ai_H) (f : Nat → Int64) (t i k : Nat) : ∀ s, ai_gI (ai_h13 h f s) t i k = ai_gI h t i k
  | 0 => rfl
  | s + 1 => ai_h13I h f t i k s
theorem ai_h13J (h : ai_H) (f : Nat → Int64) {k : Nat} : ∀ s, k < s → ai_gJ (ai_h13 h f s) 13 0 k = f k
  | 0, hk => absurd hk (Nat.not_lt_zero _)
  | s + 1, hk => by
    show ai_gJ (ai_wJ (ai_h13 h f s) 13 0 s (f s)) 13 0 k = f k
    rw [ai_gJ_wJ]
    by_cases g : k = s
    · rw [if_pos ⟨rfl, rfl, g⟩, g]
    · rw [if_neg (fun q => g q.2.2)]
      exact ai_h13J h f s (by omega)
theorem ai_h13f (h : ai_H) (f : Nat → Int64) : ∀ s, (ai_h13 h f s).1 = h.1
  | 0 => rfl
  | s + 1 => ai_h13f h f s
def ai_tot (f : Nat → Int64) : Nat → Int64
  | 0 => 0
  | s + 1 => ai_tot f s + f s
theorem x_52s {k L N x : Nat} {h : ai_H} (hn : ai_gI h 0 0 1 = nI N) (hN : N ≤ 40) (hx : x < 3) (a : Int32) (f : Nat → Int64) {s : Nat} (hf : f s = ai_cb h N (nI x) a s) (hs : s < 5) (r : ai_A) :
    ai_X 52 13 [some (ai_r 0 0), some (ai_i (nI x)), some (ai_i a), some (ai_r 20 x), some (ai_j (ai_tot f s)), none, some (ai_i (nI s)), none, none, none, none, none, none] [] (281, k, L, ai_R0) (ai_h13 h f s) r ↔
    ai_X 52 13 [some (ai_r 0 0), some (ai_i (nI x)), some (ai_i a), some (ai_r 20 x), some (ai_j (ai_tot f (s + 1))), none, some (ai_i (nI (s + 1))), none, none, none, none, none, none] [] (281, k, L, ai_R0) (ai_h13 h f (s + 1)) r := by
  have hc : ((5 : Int32) ≤ nI s) = False := eq_false (nI_ge hs (by decide))
  have hn' : ai_gI (ai_h13 h f s) 0 0 1 = nI N := (ai_h13I h f 0 0 1 s).trans hn
  have e5 : ∀ r, ai_E 51 [ai_r 0 0, ai_i (nI x), ai_i a, ai_i (nI s)] (281, k, L, ai_R0) (ai_h13 h f s) r ↔ r = (Sum.inl (some (ai_j (f s))), (281, k, L, ai_R0), ai_h13 h f s) := fun r => by
    rw [x_51 hn' hN, hf]
    have e : ai_gI (ai_h13 h f s) = ai_gI h := by funext t i k; exact ai_h13I h f t i k s
    have e1 : ai_dX (ai_h13 h f s) (nI x) (nI s) N = ai_dX h (nI x) (nI s) N := by unfold ai_dX ai_cX ai_owS ai_frS ai_oldX; simp only [e]
    have e2 : ai_sX (ai_h13 h f s) (nI x) (nI s) N = ai_sX h (nI x) (nI s) N := by unfold ai_sX ai_cX ai_owS ai_frS; simp only [e]
    have e3 : ai_uX (ai_h13 h f s) (nI x) a (nI s) N = ai_uX h (nI x) a (nI s) N := by unfold ai_uX ai_bX ai_owS ai_frS ai_soX ai_oldX; simp only [e]
    rw [e1, e2, e3]
    rfl
  rw [ai_X_eq [13]]
  simp only [ai_c_52_0, ai_c_52_1, ai_c_52_4, ai_c_52_5, ai_c_52_6, ai_c_52_7, ai_c_52_8, ai_c_52_10, ai_c_52_11, ai_c_52_13, ai_c_52_15, ai_c_52_16, ai_c_52_19, ai_c_52_20, ai_c_52_23, ai_c_52_25, ai_c_52_26, ai_c_52_27, ai_c_52_28, ai_c_52_30, ai_c_52_33, ai_c_52_34, ai_c_52_36, ai_c_52_37, ai_c_52_40, ai_c_52_42, ai_c_52_43, ai_c_52_44, ai_c_52_46, ai_c_52_49, ai_c_52_52, ai_c_52_54, ai_c_52_55, ai_c_52_58, ai_c_52_59, ai_c_52_60, ai_c_52_63, ai_c_52_64, ai_c_52_66, ai_c_52_67, ai_c_52_69, ai_c_52_70, ai_c_52_72, ai_c_52_74, ai_c_52_75, ai_c_52_78, ai_c_52_80, ai_c_52_81, ai_c_52_84, ai_c_52_86, ai_c_52_87, ai_c_52_88, ai_c_52_91, ai_c_52_93, ai_c_52_95, ai_c_52_97, ai_c_52_98, ai_c_52_101, ai_c_52_103, ai_c_52_104, ai_c_52_107, ai_c_52_108, ai_c_52_110, ai_c_52_113, ai_c_52_116, ai_c_52_118, ai_c_52_119, ai_c_52_122, ai_c_52_123, ai_c_52_124, ai_c_52_127, ai_c_52_128, ai_g_0_30, ai_g_0_59, ai_k_0_362, ai_mx_51, ai_rm_52_51, ai_g_0_231, ai_cj_0_224, ai_g_0_239, ai_mt_0_346, ai_om_52, ai_g_0_228, ai_rk_52, ai_mx_52, sh_52, ai_XS_eq, List.contains_nil, List.contains_cons, Bool.or_false, Bool.false_or, Bool.or_self, Bool.false_eq_true, Nat.reduceBEq, beq_self_eq_true, ↓reduceIte, if_true, if_false,
 xe_iconst, xe_bipush, xe_sipush, xe_lconst, xe_ldc, xe_ldc_w, xe_ldc2_w, xe_iload, xe_iload_n, xe_lload, xe_lload_n, xe_aload, xe_aload_n, xe_istore, xe_istore_n, xe_lstore, xe_lstore_n, xe_astore, xe_astore_n, xe_iinc, xe_iadd, xe_isub, xe_imul, xe_iand, xe_ladd, xe_lsub, xe_lmul, xe_lcmp, xe_i2l, xe_idiv, xe_irem, xe_ldiv, xe_dupi, xe_dupr, xe_dup2ir, xe_getfield, xe_putfield, xe_iaload, xe_laload, xe_baload, xe_aaload, xe_iastore, xe_lastore, xe_bastore, xe_arraylength, xe_goto, xe_ifeq, xe_ifne, xe_iflt, xe_ifge, xe_ifgt, xe_ifle, xe_icmpeq, xe_icmpne, xe_icmplt, xe_icmpge, xe_icmpgt, xe_icmple, xe_return, xe_ireturn, xe_zreturn, xe_lreturn, xe_throw, xe_callvirtual, xe_callstatic, xe_callspecial, xe_min, xe_minL, xe_maxL, xe_object,
 ai_PI_s, ai_PJ_s, ai_PR_s, ai_PV_s, ai_PL_s, ai_PA_s, ai_PZ_s, ai_PQ_s, ai_PS_s, ai_PT_s, ai_PF_s, ai_PG_s, ai_PC_t, ai_PC_f, ai_QC_s, ai_inc_0, ai_inc_1, ai_inc_s, ai_ldi_0, ai_ldi_s, ai_ldj_0, ai_ldj_s, ai_ldr_0, ai_ldr_s, ai_st1_0, ai_st1_1, ai_st1_s, ai_st2_0, ai_st2_1, ai_st2_s, ai_wide_i, ai_wide_j, ai_wide_r, ai_wide_n, ai_one_i, ai_one_r, Option.map_some, Option.map_none, ai_EC_inl, Option.toList_some, Option.toList_none, List.cons_append, List.nil_append, List.append_nil, List.take_succ_cons, List.take_zero, List.drop_succ_cons, List.drop_zero, List.reverse_cons, List.reverse_nil, List.length_cons, List.length_nil, ai_en, ai_e0_n, ai_e0_i, ai_e0_j, ai_e0_r, List.replicate_succ, List.replicate_zero, Nat.reduceAdd, Nat.reduceSub, Nat.reduceDiv, Nat.reduceLeDiff, Nat.zero_add, Nat.le_refl, Nat.zero_le, and_self, true_and, and_true, Fin.isValue, Fin.val_ofNat, ai_tg, ai_tk, Int.reduceAdd, Int.reduceToNat, Int.reduceLE, Int.cast_ofNat_Int, decide_true, not_true_eq_false, not_false_eq_true, Nat.reducePow, Nat.reduceLT, ai_ix_nI, ai_ix_lit, ai_f0, ai_f1, ai_f2, ai_f3, ai_u0, ai_u1, ai_a_1, ai_R0_1, ai_a_2, ai_R0_2, ai_a_3, ai_R0_3, ai_a_5, ai_il_5, ai_a_6, ai_il_6, ai_a_8, ai_il_8, ai_a_9, ai_il_9, ai_a_10, ai_a_11, ai_a_12, ai_a_13, ai_a_15, ai_a_16, ai_il_16, ai_le_16, ai_a_17, ai_il_17, ai_le_17, ai_a_18, ai_il_18, ai_le_18, ai_a_21, ai_il_21, ai_a_22, ai_a_24, ai_il_24, ai_a_25, ai_il_25, ai_a_26, ai_il_26, ai_a_27, ai_il_27, ai_a_28, ai_a_29, ai_il_29, ai_a_30, ai_il_30, ai_a_31, ai_il_31, ai_a_32, ai_il_32, ai_a_33, ai_a_34, ai_a_35, ai_il_35, ai_a_36, ai_il_36, ai_a_37, ai_il_37, ai_a_38, ai_a_39, ai_il_39, ai_le_39, ai_a_40, ai_il_40, ai_le_40, ai_a_41, ai_il_41, ai_le_41, ai_a_42, ai_il_42, ai_a_43, ai_a_44, ai_a_45, ai_il_45, ai_a_46, ai_il_46, ai_a_47, ai_a_48, ai_il_48, ai_a_49, ai_il_49, ai_a_50, ai_kob_0, ai_al_0, ai_kob_4, ai_al_4, ai_kob_7, ai_al_7, ai_kob_14, ai_al_14, ai_kob_19, ai_al_19, ai_kob_20, ai_al_20, ai_kob_23, ai_al_23, Bool.and_self, Bool.and_true, Bool.true_and, false_and, and_false, true_or, or_true, false_or, or_false, or_self, nI_1, xe_throw2, ai_TW_s, ai_EC_out, ai_PC_if, sm_if, sm_exif, sm_ex, sm_rc, sm_rcs, sm_rcv, sk_im1, sk_i0, sk_i1, sk_i2, sk_i3, sk_i4, sk_i5, sk_b6, sk_b7, sk_b9, sk_b12, sk_b15, sk_b30, sk_b31, sk_b40, sk_b60, sk_b80, sk_b90, sk_b100, sk_b120, sk_s300, sk_s582, sk_s3000, hx, hs, hc, e5, ai_gJ_wJ, ai_tot, ai_h13]
