/-! Payments, one and many, on both sides -/
theorem rl_S_new {N W n p c : Nat} {f0 f1 f2 f3 gw ga : Nat → Int32} (h : rl_S N W f0 f1 f2 f3 gw ga) (hW : W < 30) (hn : n < N) (hp : p < 7) (hc : c ≤ 5000) : rl_S N (W + 1) (ai_up f0 W (nI n)) (ai_up f1 W (nI p)) (ai_up f2 W (nI c)) f3 (ai_up gw W (nI (n + 16 * p))) (ai_up ga W (nI c)) := by
  refine ⟨fun w hw => ?_, fun w h1 h2 => h.2 w (by omega) h2⟩
  by_cases e : w = W
  · subst e
    exact ⟨n, p, c, 0, hn, hp, hc, by omega, ai_up_at _ _ _, ai_up_at _ _ _, ai_up_at _ _ _, h.2 w (Nat.le_refl w) hW, ai_up_at _ _ _, ai_up_at _ _ _⟩
  · obtain ⟨a, b, d, g, u⟩ := h.1 w (by omega)
    rw [ai_up_ne _ _ e, ai_up_ne _ _ e, ai_up_ne _ _ e, ai_up_ne _ _ e, ai_up_ne _ _ e]
    exact ⟨a, b, d, g, u⟩
theorem rl_sy {x m : ai_H} {N W T D C n p c : Nat} (R : rl x m N W T D C) (hW : W < 30) (hn : n < N) (hp : p < 7) (hc : c ≤ 5000) : rl (sy_x x n p (nI c)) (ly_x m n p (nI c)) N (W + 1) T D C := by
  obtain ⟨A, B0, B1, B2, B3, F, Rr, P7, P5, Z, S, F0, F1, F2, K5, K4, G, H, Q, J⟩ := id R
  obtain ⟨n1, n2, n3, n4, n5, n6, n7, n8, n9⟩ := id A
  unfold sy_x ly_x
  rw [n4, n5, pn_nI (by omega), nI_1]
  unfold rl
  simp only [ai_gI_wI, ai_gI_wJ, ai_gJ_wI, ai_gJ_wJ, Nat.reduceEqDiff, false_and, and_false, true_and, and_true, and_self, if_false, if_true, ↓reduceIte, not_false_eq_true, li_I, lq_I, lf_I, lp_I, li_J, lq_J, lf_J, lp_J, liu00, liu01, liu02, liu03, liu04, liu10, liu11, liu12, liu13, liu14, liu20, liu21, liu22, liu23, liu24, liu30, liu31, liu32, liu33, liu34, liu40, liu41, liu42, liu43, liu44, lqu00, lqu01, lqu02, lqu10, lqu11, lqu12, lqu20, lqu21, lqu22, lfu00, lfu01, lfu02, lfu10, lfu11, lfu12, lfu20, lfu21, lfu22, lpu00, lpu01, lpu10, lpu11]
  exact ⟨⟨n1, n2, n3, rfl, rfl, by omega, n7, n8, n9⟩, B0, B1, B2, B3, F, Rr, P7, P5, Z, rl_S_new S hW hn hp hc, F0, F1, F2, K5, K4, G, H, Q, rl_J_W J (S.2 W (Nat.le_refl W) hW)⟩
theorem rl_fr {x m : ai_H} {N W T D C i p : Nat} (R : rl x m N W T D C) (hT : T < 2 ^ 29) (hi : i < N) : ai_pty x i (ai_frS x i) = nI p ↔ lw_fr m i = nI p := by
  obtain ⟨q, q0, q1, q2⟩ := rl_fre R hT hi
  rw [q1, q2]
theorem rl_mt {x m : ai_H} {N W T D C C' i q c p : Nat} (R : rl x m N W T D C) (hT : T < 2 ^ 29) (hp : p < 7) (hC : C ≤ C') (hi : i < N) (hq : ai_gI x 14 i 3 = nI q) (hc : c ≤ q) (hq0 : q ≤ 5000) (hS : jn_o x N W C C' i c) (hb : C < 2 ^ 29) (hW : ¬ ai_pty x i (ai_frS x i) = nI p → W < 30) : rl (mt_x x i p (nI c)) (lm_x m i p (nI c)) N (if ai_pty x i (ai_frS x i) = nI p then W else W + 1) T D C' := by
  unfold mt_x lm_x
  by_cases g : ai_pty x i (ai_frS x i) = nI p
  · rw [if_pos g, if_pos g, if_pos ((rl_fr R hT hi).mp g)]
    exact rl_lt R hT hp hC hi hq hc hq0 hS hb
  · rw [if_neg g, if_neg g, if_neg (fun q => g ((rl_fr R hT hi).mpr q))]
    exact rl_mono (rl_sy R (hW g) hi hp (by omega)) hC
theorem ly_fm {x h : ai_H} {n p : Nat} {c : Int32} (f : fm x h) : fm x (ly_x h n p c) := fm_I (by decide) (fm_I (by decide) (fm_I (by decide) f))
theorem lm_fm {x h : ai_H} {n p : Nat} {c : Int32} (f : fm x h) : fm x (lm_x h n p c) := by
  unfold lm_x
  split
  · exact lt_fm f
  · exact ly_fm f
theorem lw_or {x m : ai_H} {N W T D C i : Nat} (R : rl x m N W T D C) (hT : T < 2 ^ 29) (hi : i < N) : (∃ w, w < 4 ∧ lw_ow m i = nI w) ∨ ∃ s, s < 3 ∧ lw_ow m i = nI (4 + s) := by
  rcases rl_own R hT hi with ⟨a', ha', o1, o2, -⟩ | ⟨s, hs, o1, o2, -⟩
  · exact Or.inl ⟨a', ha', o2⟩
  · exact Or.inr ⟨s, hs, o2⟩
theorem l_607 {k L : Nat} {x m : ai_H} {N W T D C i p : Nat} {c : Int32} (R : rl x m N W T D C) (hT : T < 2 ^ 29) (hi : i < N) (hp : p < 7) (r : ai_A) : ai_E 607 [ai_r 23 0, ai_r 24 0, ai_r 25 0, ai_r 26 0, ai_i (nI i), ai_i (nI p), ai_i c] (263, k, L, ai_R0) m r ↔ r = (Sum.inl none, (263, k, L, ai_R0), lt_x m i p c) := by
  have hN : N ≤ 10 := R.1.2.2.1
  obtain ⟨a, ha, q1, q2⟩ := rl_sl R hi
  exact m_607 (by omega) hp ha q2 (lw_or R hT hi) r
theorem l_608 {k L : Nat} {x m : ai_H} {N W T D C i p : Nat} {c : Int32} (R : rl x m N W T D C) (hT : T < 2 ^ 29) (hi : i < N) (hp : p < 7) (hW : ¬ ai_pty x i (ai_frS x i) = nI p → W < 30) (r : ai_A) : ai_E 608 [ai_r 23 0, ai_r 24 0, ai_r 25 0, ai_r 26 0, ai_r 29 0, ai_r 30 0, ai_r 32 0, ai_i (nI i), ai_i (nI p), ai_i c] (263, k, L, ai_R0) m r ↔ r = (Sum.inl none, (263, k, L, ai_R0), lm_x m i p c) := by
  have hN : N ≤ 10 := R.1.2.2.1
  have w5 : ai_gI m 32 0 2 = nI W := R.1.2.2.2.2.1
  obtain ⟨a, ha, q1, q2⟩ := rl_sl R hi
  exact m_608 (by omega) hp ha q2 (lw_or R hT hi) w5 (fun z => hW (fun y => z ((rl_fr R hT hi).mp y))) r
def lm_m (p : Nat) (nn cc : Nat → Nat) (h : ai_H) : Nat → ai_H
  | 0 => h
  | j + 1 => lm_x (lm_m p nn cc h j) (nn j) p (nI (cc j))
theorem lmm_fm {p : Nat} {nn cc : Nat → Nat} {h : ai_H} : ∀ j, fm h (lm_m p nn cc h j)
  | 0 => fm_rf h
  | j + 1 => lm_fm (lmm_fm j)
theorem rl_pm {x m : ai_H} {N W T D C M p : Nat} {nn cc : Nat → Nat} (R : rl x m N W T D C) (hT : T < 2 ^ 29) (hC : C < 512) (hp : p < 7) (hL : ls_ok x N M nn cc) (hw : W + wr_x p nn x M ≤ 30) : ∀ j, j ≤ M → rl (pm_x p nn cc x j) (lm_m p nn cc m j) N (W + wr_x p nn x j) T D (if j < M then C else C + 1)
  | 0, _ => by
    by_cases g : 0 < M
    · rw [if_pos g]
      exact R
    · rw [if_neg g]
      exact rl_mono R (Nat.le_succ C)
  | j + 1, hj => by
    have ih := rl_pm R hT hC hp hL hw j (by omega)
    rw [if_pos (show j < M by omega)] at ih
    obtain ⟨l1, l2, q, l3', l4, l5, l6⟩ := hL j (by omega)
    have l3 : q ≤ 5000 := by
      obtain ⟨q', q0, q1, -⟩ := rl_ce R l1
      have : q' = q := (nI_eq (by omega) (by omega)).mp (q1.symm.trans l4)
      omega
    have wl := wr_le p nn x (i := j + 1) M hj
    have e3 : ai_gI (pm_x p nn cc x j) 14 (nn j) 3 = nI q := (pm_3 j l2).trans l4
    have efr := pm_fr (p := p) (i := nn j) (nn := nn) (cc := cc) (h := x) j
    have ws : wr_x p nn x (j + 1) = if ai_pty x (nn j) (ai_frS x (nn j)) = nI p then wr_x p nn x j else wr_x p nn x j + 1 := rfl
    have key : rl (mt_x (pm_x p nn cc x j) (nn j) p (nI (cc j))) (lm_x (lm_m p nn cc m j) (nn j) p (nI (cc j))) N (if ai_pty (pm_x p nn cc x j) (nn j) (ai_frS (pm_x p nn cc x j) (nn j)) = nI p then W + wr_x p nn x j else W + wr_x p nn x j + 1) T D (if j + 1 < M then C else C + 1) := by
      refine rl_mt ih hT hp (by split <;> omega) l1 e3 l5 l3 ?_ (by omega) ?_
      · intro hc0 J hJ hJb
        have hz : ¬ ai_gI (pm_x p nn cc x j) 14 (nn j) 3 = 0 := by rw [e3]; exact nI_ne0 (by omega) (by omega)
        have cu := cz_up (f := fun i => ai_gI (pm_x p nn cc x j) 14 i 3) (v := ai_gI (pm_x p nn cc x j) 14 (nn j) 3 - nI (cc j)) l1 hz
        by_cases hl : j + 1 < M
        · have hq : cc j = q := l6.resolve_right (by omega)
          rw [if_pos (by rw [e3, hq, Int32.sub_self])] at cu
          rw [if_pos hl]
          omega
        · rw [if_neg hl]
          omega
      · intro hne
        rw [efr] at hne
        rw [if_neg hne] at ws
        omega
    rw [efr] at key
    rw [ws]
    by_cases g : ai_pty x (nn j) (ai_frS x (nn j)) = nI p
    · rw [if_pos g] at key ⊢
      exact key
    · rw [if_neg g] at key ⊢
      exact key
theorem x_41s {k L : Nat} {x m : ai_H} {N W T D C j n c M y p : Nat} {v : Int32} (R : rl x m N W T D C) (hT : T < 2 ^ 29) (hC : C < 512) (hp : p < 7) (hM : ai_gI x 7 0 2 = nI M) (hM4 : M ≤ 40) (hj : j < M) (h8 : ai_gI x 8 0 j = nI n) (h9 : ai_gI x 9 0 j = nI c) (hn : n < N) (hW : ¬ ai_pty x n (ai_frS x n) = nI p → W < 30) (l5 : Option ai_V) (r : ai_A) : ai_X 41 25 [some (ai_r 0 0), some (ai_i (nI y)), some (ai_i (nI p)), some (ai_i v), some (ai_i (nI j)), l5] [] (263, k, L, ai_R0) x r ↔ ai_X 41 25 [some (ai_r 0 0), some (ai_i (nI y)), some (ai_i (nI p)), some (ai_i v), some (ai_i (nI (j + 1))), some (ai_i (nI n))] [] (263, k, L, ai_R0) (mt_x x n p (nI c)) r := by
  have hN : N ≤ 10 := R.1.2.2.1
  have hw : ai_gI x 0 0 3 = nI W := R.1.2.2.2.1
  have hn4 : n < 40 := by omega
  have hj4 : j < 40 := by omega
  have hc : (nI M ≤ nI j) = False := eq_false (nI_ge hj (by omega))
  unfold mt_x
  rw [ai_X_eq [25]]
  by_cases g : ai_pty x n (ai_frS x n) = nI p
  · rw [if_pos g]
    simp only [ai_c_41_0, ai_c_41_1, ai_c_41_4, ai_c_41_5, ai_c_41_6, ai_c_41_7, ai_c_41_8, ai_c_41_9, ai_c_41_10, ai_c_41_11, ai_c_41_12, ai_c_41_15, ai_c_41_16, ai_c_41_17, ai_c_41_18, ai_c_41_19, ai_c_41_20, ai_c_41_21, ai_c_41_22, ai_c_41_23, ai_c_41_25, ai_c_41_27, ai_c_41_28, ai_c_41_31, ai_c_41_34, ai_c_41_37, ai_c_41_38, ai_c_41_41, ai_c_41_44, ai_c_41_46, ai_c_41_47, ai_c_41_49, ai_c_41_50, ai_c_41_53, ai_c_41_55, ai_c_41_56, ai_c_41_59, ai_c_41_60, ai_c_41_63, ai_c_41_64, ai_c_41_66, ai_c_41_67, ai_c_41_68, ai_c_41_71, ai_c_41_74, ai_c_41_76, ai_c_41_77, ai_c_41_80, ai_c_41_83, ai_c_41_84, ai_c_41_86, ai_c_41_87, ai_c_41_88, ai_c_41_91, ai_c_41_94, ai_c_41_96, ai_c_41_97, ai_c_41_100, ai_c_41_103, ai_c_41_106, ai_g_0_52, ai_g_0_48, ai_g_0_44, ai_g_0_208, ai_g_0_316, ai_g_0_11, ai_k_0_163, ai_mx_104, ai_rm_41_104, ai_g_0_333, ai_k_0_335, ai_mx_44, ai_rm_41_44, ai_k_0_338, ai_mx_42, ai_rm_41_42, ai_rk_41, ai_mx_41, sh_41, ai_XS_eq, List.contains_nil, List.contains_cons, Bool.or_false, Bool.false_or, Bool.or_self, Bool.false_eq_true, Nat.reduceBEq, beq_self_eq_true, ↓reduceIte, if_true, if_false,
 xe_iconst, xe_bipush, xe_sipush, xe_lconst, xe_ldc, xe_ldc_w, xe_ldc2_w, xe_iload, xe_iload_n, xe_lload, xe_lload_n, xe_aload, xe_aload_n, xe_istore, xe_istore_n, xe_lstore, xe_lstore_n, xe_astore, xe_astore_n, xe_iinc, xe_iadd, xe_isub, xe_imul, xe_iand, xe_ior, xe_ishl, xe_ishr, xe_ineg, xe_l2i, xe_newL, xe_newI, xe_ladd, xe_lsub, xe_lmul, xe_lcmp, xe_i2l, xe_idiv, xe_irem, xe_ldiv, xe_dupi, xe_dupr, xe_dup2ir, xe_getfield, xe_putfield, xe_iaload, xe_laload, xe_baload, xe_aaload, xe_iastore, xe_lastore, xe_bastore, xe_arraylength, xe_goto, xe_ifeq, xe_ifne, xe_iflt, xe_ifge, xe_ifgt, xe_ifle, xe_icmpeq, xe_icmpne, xe_icmplt, xe_icmpge, xe_icmpgt, xe_icmple, xe_return, xe_ireturn, xe_zreturn, xe_lreturn, xe_throw, xe_callvirtual, xe_callstatic, xe_callspecial, xe_min, xe_minL, xe_maxL, xe_object,
 ai_PI_s, ai_PJ_s, ai_PR_s, ai_PV_s, ai_PL_s, ai_PA_s, ai_PZ_s, ai_PQ_s, ai_PS_s, ai_PT_s, ai_PF_s, ai_PG_s, ai_PC_t, ai_PC_f, ai_QC_s, ai_inc_0, ai_inc_1, ai_inc_s, ai_ldi_0, ai_ldi_s, ai_ldj_0, ai_ldj_s, ai_ldr_0, ai_ldr_s, ai_st1_0, ai_st1_1, ai_st1_s, ai_st2_0, ai_st2_1, ai_st2_s, ai_wide_i, ai_wide_j, ai_wide_r, ai_wide_n, ai_one_i, ai_one_r, Option.map_some, Option.map_none, ai_EC_inl, Option.toList_some, Option.toList_none, List.cons_append, List.nil_append, List.append_nil, List.take_succ_cons, List.take_zero, List.drop_succ_cons, List.drop_zero, List.reverse_cons, List.reverse_nil, List.length_cons, List.length_nil, ai_en, ai_e0_n, ai_e0_i, ai_e0_j, ai_e0_r, List.replicate_succ, List.replicate_zero, Nat.reduceAdd, Nat.reduceSub, Nat.reduceDiv, Nat.reduceLeDiff, Nat.zero_add, Nat.le_refl, Nat.zero_le, and_self, true_and, and_true, Fin.isValue, Fin.val_ofNat, ai_tg, ai_tk, Int.reduceAdd, Int.reduceToNat, Int.reduceLE, Int.cast_ofNat_Int, decide_true, not_true_eq_false, not_false_eq_true, Nat.reducePow, Nat.reduceLT, ai_ix_nI, ai_ix_lit, ai_f0, ai_f1, ai_f2, ai_f3, ai_u0, ai_u1, ai_a_1, ai_R0_1, ai_a_2, ai_R0_2, ai_a_3, ai_R0_3, ai_a_5, ai_il_5, ai_a_6, ai_il_6, ai_a_8, ai_il_8, ai_a_9, ai_il_9, ai_a_10, ai_a_11, ai_a_12, ai_a_13, ai_a_15, ai_a_16, ai_il_16, ai_le_16, ai_a_17, ai_il_17, ai_le_17, ai_a_18, ai_il_18, ai_le_18, ai_a_21, ai_il_21, ai_a_22, ai_a_23, ai_il_23, ai_a_24, ai_il_24, ai_a_25, ai_a_26, ai_a_27, ai_il_27, ai_a_28, ai_il_28, ai_a_29, ai_il_29, ai_a_30, ai_il_30, ai_a_31, ai_il_31, ai_a_32, ai_il_32, ai_kob_0, ai_al_0, ai_kob_4, ai_al_4, ai_kob_7, ai_al_7, ai_kob_14, ai_al_14, ai_kob_19, ai_al_19, ai_kob_20, ai_al_20, Bool.and_self, Bool.and_true, Bool.true_and, false_and, and_false, true_or, or_true, false_or, or_false, or_self, nI_1, xe_throw2, ai_TW_s, ai_EC_out, ai_PC_if, sm_if, sm_exif, sm_ex, sm_rc, sm_rcs, sm_rcv, sk_im1, sk_i0, sk_i1, sk_i2, sk_i3, sk_i4, sk_i5, sk_bm13, sk_b6, sk_b7, sk_b8, sk_b9, sk_b10, sk_b11, sk_b12, sk_b13, sk_b14, sk_b15, sk_b16, sk_b20, sk_b21, sk_b22, sk_b23, sk_b24, sk_b25, sk_b26, sk_b27, sk_b29, sk_b30, sk_b32, sk_b35, sk_b40, sk_b48, sk_b50, sk_b60, sk_b64, sk_b71, sk_b80, sk_b90, sk_b96, sk_b100, sk_b101, sk_s128, sk_s130, sk_s582, sk_s672, sk_s2000, sk_s2016, sk_s2900, sk_s3000, sk_s3400, sk_s5000, sk_s6000, sk_s9000, sk_s9041, ai_gI_wI, ai_gI_wJ, ai_gJ_wI, ai_gJ_wJ, Nat.reduceEqDiff, false_and, and_false, true_and, and_true, and_self, if_false, if_true, ↓reduceIte, hM, hj4, hc, h8, h9, hn4, x_104 hn4, g, x_44 R hT hC hn hp]
  · have hW := hW g
    rw [if_neg g]
    simp only [ai_c_41_0, ai_c_41_1, ai_c_41_4, ai_c_41_5, ai_c_41_6, ai_c_41_7, ai_c_41_8, ai_c_41_9, ai_c_41_10, ai_c_41_11, ai_c_41_12, ai_c_41_15, ai_c_41_16, ai_c_41_17, ai_c_41_18, ai_c_41_19, ai_c_41_20, ai_c_41_21, ai_c_41_22, ai_c_41_23, ai_c_41_25, ai_c_41_27, ai_c_41_28, ai_c_41_31, ai_c_41_34, ai_c_41_37, ai_c_41_38, ai_c_41_41, ai_c_41_44, ai_c_41_46, ai_c_41_47, ai_c_41_49, ai_c_41_50, ai_c_41_53, ai_c_41_55, ai_c_41_56, ai_c_41_59, ai_c_41_60, ai_c_41_63, ai_c_41_64, ai_c_41_66, ai_c_41_67, ai_c_41_68, ai_c_41_71, ai_c_41_74, ai_c_41_76, ai_c_41_77, ai_c_41_80, ai_c_41_83, ai_c_41_84, ai_c_41_86, ai_c_41_87, ai_c_41_88, ai_c_41_91, ai_c_41_94, ai_c_41_96, ai_c_41_97, ai_c_41_100, ai_c_41_103, ai_c_41_106, ai_g_0_52, ai_g_0_48, ai_g_0_44, ai_g_0_208, ai_g_0_316, ai_g_0_11, ai_k_0_163, ai_mx_104, ai_rm_41_104, ai_g_0_333, ai_k_0_335, ai_mx_44, ai_rm_41_44, ai_k_0_338, ai_mx_42, ai_rm_41_42, ai_rk_41, ai_mx_41, sh_41, ai_XS_eq, List.contains_nil, List.contains_cons, Bool.or_false, Bool.false_or, Bool.or_self, Bool.false_eq_true, Nat.reduceBEq, beq_self_eq_true, ↓reduceIte, if_true, if_false,
 xe_iconst, xe_bipush, xe_sipush, xe_lconst, xe_ldc, xe_ldc_w, xe_ldc2_w, xe_iload, xe_iload_n, xe_lload, xe_lload_n, xe_aload, xe_aload_n, xe_istore, xe_istore_n, xe_lstore, xe_lstore_n, xe_astore, xe_astore_n, xe_iinc, xe_iadd, xe_isub, xe_imul, xe_iand, xe_ior, xe_ishl, xe_ishr, xe_ineg, xe_l2i, xe_newL, xe_newI, xe_ladd, xe_lsub, xe_lmul, xe_lcmp, xe_i2l, xe_idiv, xe_irem, xe_ldiv, xe_dupi, xe_dupr, xe_dup2ir, xe_getfield, xe_putfield, xe_iaload, xe_laload, xe_baload, xe_aaload, xe_iastore, xe_lastore, xe_bastore, xe_arraylength, xe_goto, xe_ifeq, xe_ifne, xe_iflt, xe_ifge, xe_ifgt, xe_ifle, xe_icmpeq, xe_icmpne, xe_icmplt, xe_icmpge, xe_icmpgt, xe_icmple, xe_return, xe_ireturn, xe_zreturn, xe_lreturn, xe_throw, xe_callvirtual, xe_callstatic, xe_callspecial, xe_min, xe_minL, xe_maxL, xe_object,
 ai_PI_s, ai_PJ_s, ai_PR_s, ai_PV_s, ai_PL_s, ai_PA_s, ai_PZ_s, ai_PQ_s, ai_PS_s, ai_PT_s, ai_PF_s, ai_PG_s, ai_PC_t, ai_PC_f, ai_QC_s, ai_inc_0, ai_inc_1, ai_inc_s, ai_ldi_0, ai_ldi_s, ai_ldj_0, ai_ldj_s, ai_ldr_0, ai_ldr_s, ai_st1_0, ai_st1_1, ai_st1_s, ai_st2_0, ai_st2_1, ai_st2_s, ai_wide_i, ai_wide_j, ai_wide_r, ai_wide_n, ai_one_i, ai_one_r, Option.map_some, Option.map_none, ai_EC_inl, Option.toList_some, Option.toList_none, List.cons_append, List.nil_append, List.append_nil, List.take_succ_cons, List.take_zero, List.drop_succ_cons, List.drop_zero, List.reverse_cons, List.reverse_nil, List.length_cons, List.length_nil, ai_en, ai_e0_n, ai_e0_i, ai_e0_j, ai_e0_r, List.replicate_succ, List.replicate_zero, Nat.reduceAdd, Nat.reduceSub, Nat.reduceDiv, Nat.reduceLeDiff, Nat.zero_add, Nat.le_refl, Nat.zero_le, and_self, true_and, and_true, Fin.isValue, Fin.val_ofNat, ai_tg, ai_tk, Int.reduceAdd, Int.reduceToNat, Int.reduceLE, Int.cast_ofNat_Int, decide_true, not_true_eq_false, not_false_eq_true, Nat.reducePow, Nat.reduceLT, ai_ix_nI, ai_ix_lit, ai_f0, ai_f1, ai_f2, ai_f3, ai_u0, ai_u1, ai_a_1, ai_R0_1, ai_a_2, ai_R0_2, ai_a_3, ai_R0_3, ai_a_5, ai_il_5, ai_a_6, ai_il_6, ai_a_8, ai_il_8, ai_a_9, ai_il_9, ai_a_10, ai_a_11, ai_a_12, ai_a_13, ai_a_15, ai_a_16, ai_il_16, ai_le_16, ai_a_17, ai_il_17, ai_le_17, ai_a_18, ai_il_18, ai_le_18, ai_a_21, ai_il_21, ai_a_22, ai_a_23, ai_il_23, ai_a_24, ai_il_24, ai_a_25, ai_a_26, ai_a_27, ai_il_27, ai_a_28, ai_il_28, ai_a_29, ai_il_29, ai_a_30, ai_il_30, ai_a_31, ai_il_31, ai_a_32, ai_il_32, ai_kob_0, ai_al_0, ai_kob_4, ai_al_4, ai_kob_7, ai_al_7, ai_kob_14, ai_al_14, ai_kob_19, ai_al_19, ai_kob_20, ai_al_20, Bool.and_self, Bool.and_true, Bool.true_and, false_and, and_false, true_or, or_true, false_or, or_false, or_self, nI_1, xe_throw2, ai_TW_s, ai_EC_out, ai_PC_if, sm_if, sm_exif, sm_ex, sm_rc, sm_rcs, sm_rcv, sk_im1, sk_i0, sk_i1, sk_i2, sk_i3, sk_i4, sk_i5, sk_bm13, sk_b6, sk_b7, sk_b8, sk_b9, sk_b10, sk_b11, sk_b12, sk_b13, sk_b14, sk_b15, sk_b16, sk_b20, sk_b21, sk_b22, sk_b23, sk_b24, sk_b25, sk_b26, sk_b27, sk_b29, sk_b30, sk_b32, sk_b35, sk_b40, sk_b48, sk_b50, sk_b60, sk_b64, sk_b71, sk_b80, sk_b90, sk_b96, sk_b100, sk_b101, sk_s128, sk_s130, sk_s582, sk_s672, sk_s2000, sk_s2016, sk_s2900, sk_s3000, sk_s3400, sk_s5000, sk_s6000, sk_s9000, sk_s9041, ai_gI_wI, ai_gI_wJ, ai_gJ_wI, ai_gJ_wJ, Nat.reduceEqDiff, false_and, and_false, true_and, and_true, and_self, if_false, if_true, ↓reduceIte, hM, hj4, hc, h8, h9, hn4, x_104 hn4, g, x_42 hW hw]
theorem x_41 {k L : Nat} {x m : ai_H} {N W T D C M y p : Nat} {nn cc : Nat → Nat} {v : Int32} (R : rl x m N W T D C) (hT : T < 2 ^ 29) (hC : C < 512) (hy : y < 5) (hp : p < 7) (hM : ai_gI x 7 0 2 = nI M) (hM4 : M ≤ 40) (h8 : ∀ j, j < M → ai_gI x 8 0 j = nI (nn j)) (h9 : ∀ j, j < M → ai_gI x 9 0 j = nI (cc j)) (hL : ls_ok x N M nn cc) (hw : W + wr_x p nn x M ≤ 30) (r : ai_A) : ai_E 41 [ai_r 0 0, ai_i (nI y), ai_i (nI p), ai_i v] (263, k, L, ai_R0) x r ↔ r = (Sum.inl none, (263, k, L, ai_R0), pm_x p nn cc (cf_x x y p v) M) := by
  have R1 := rl_cf hy hp v R
  have e0 : ai_E 41 [ai_r 0 0, ai_i (nI y), ai_i (nI p), ai_i v] (263, k, L, ai_R0) x r ↔ ai_X 41 25 [some (ai_r 0 0), some (ai_i (nI y)), some (ai_i (nI p)), some (ai_i v), some (ai_i (nI 0)), ai_n5 nn 0] [] (263, k, L, ai_R0) (pm_x p nn cc (cf_x x y p v) 0) r := by
    rw [ai_E_eq, ai_X_eq [25]]
    simp only [ai_c_41_0, ai_c_41_1, ai_c_41_4, ai_c_41_5, ai_c_41_6, ai_c_41_7, ai_c_41_8, ai_c_41_9, ai_c_41_10, ai_c_41_11, ai_c_41_12, ai_c_41_15, ai_c_41_16, ai_c_41_17, ai_c_41_18, ai_c_41_19, ai_c_41_20, ai_c_41_21, ai_c_41_22, ai_c_41_23, ai_c_41_25, ai_c_41_27, ai_c_41_28, ai_c_41_31, ai_c_41_34, ai_c_41_37, ai_c_41_38, ai_c_41_41, ai_c_41_44, ai_c_41_46, ai_c_41_47, ai_c_41_49, ai_c_41_50, ai_c_41_53, ai_c_41_55, ai_c_41_56, ai_c_41_59, ai_c_41_60, ai_c_41_63, ai_c_41_64, ai_c_41_66, ai_c_41_67, ai_c_41_68, ai_c_41_71, ai_c_41_74, ai_c_41_76, ai_c_41_77, ai_c_41_80, ai_c_41_83, ai_c_41_84, ai_c_41_86, ai_c_41_87, ai_c_41_88, ai_c_41_91, ai_c_41_94, ai_c_41_96, ai_c_41_97, ai_c_41_100, ai_c_41_103, ai_c_41_106, ai_g_0_52, ai_g_0_48, ai_g_0_44, ai_g_0_208, ai_g_0_316, ai_g_0_11, ai_k_0_163, ai_mx_104, ai_rm_41_104, ai_g_0_333, ai_k_0_335, ai_mx_44, ai_rm_41_44, ai_k_0_338, ai_mx_42, ai_rm_41_42, ai_rk_41, ai_mx_41, sh_41, ai_XS_eq, List.contains_nil, List.contains_cons, Bool.or_false, Bool.false_or, Bool.or_self, Bool.false_eq_true, Nat.reduceBEq, beq_self_eq_true, ↓reduceIte, if_true, if_false,
 xe_iconst, xe_bipush, xe_sipush, xe_lconst, xe_ldc, xe_ldc_w, xe_ldc2_w, xe_iload, xe_iload_n, xe_lload, xe_lload_n, xe_aload, xe_aload_n, xe_istore, xe_istore_n, xe_lstore, xe_lstore_n, xe_astore, xe_astore_n, xe_iinc, xe_iadd, xe_isub, xe_imul, xe_iand, xe_ior, xe_ishl, xe_ishr, xe_ineg, xe_l2i, xe_newL, xe_newI, xe_ladd, xe_lsub, xe_lmul, xe_lcmp, xe_i2l, xe_idiv, xe_irem, xe_ldiv, xe_dupi, xe_dupr, xe_dup2ir, xe_getfield, xe_putfield, xe_iaload, xe_laload, xe_baload, xe_aaload, xe_iastore, xe_lastore, xe_bastore, xe_arraylength, xe_goto, xe_ifeq, xe_ifne, xe_iflt, xe_ifge, xe_ifgt, xe_ifle, xe_icmpeq, xe_icmpne, xe_icmplt, xe_icmpge, xe_icmpgt, xe_icmple, xe_return, xe_ireturn, xe_zreturn, xe_lreturn, xe_throw, xe_callvirtual, xe_callstatic, xe_callspecial, xe_min, xe_minL, xe_maxL, xe_object,
 ai_PI_s, ai_PJ_s, ai_PR_s, ai_PV_s, ai_PL_s, ai_PA_s, ai_PZ_s, ai_PQ_s, ai_PS_s, ai_PT_s, ai_PF_s, ai_PG_s, ai_PC_t, ai_PC_f, ai_QC_s, ai_inc_0, ai_inc_1, ai_inc_s, ai_ldi_0, ai_ldi_s, ai_ldj_0, ai_ldj_s, ai_ldr_0, ai_ldr_s, ai_st1_0, ai_st1_1, ai_st1_s, ai_st2_0, ai_st2_1, ai_st2_s, ai_wide_i, ai_wide_j, ai_wide_r, ai_wide_n, ai_one_i, ai_one_r, Option.map_some, Option.map_none, ai_EC_inl, Option.toList_some, Option.toList_none, List.cons_append, List.nil_append, List.append_nil, List.take_succ_cons, List.take_zero, List.drop_succ_cons, List.drop_zero, List.reverse_cons, List.reverse_nil, List.length_cons, List.length_nil, ai_en, ai_e0_n, ai_e0_i, ai_e0_j, ai_e0_r, List.replicate_succ, List.replicate_zero, Nat.reduceAdd, Nat.reduceSub, Nat.reduceDiv, Nat.reduceLeDiff, Nat.zero_add, Nat.le_refl, Nat.zero_le, and_self, true_and, and_true, Fin.isValue, Fin.val_ofNat, ai_tg, ai_tk, Int.reduceAdd, Int.reduceToNat, Int.reduceLE, Int.cast_ofNat_Int, decide_true, not_true_eq_false, not_false_eq_true, Nat.reducePow, Nat.reduceLT, ai_ix_nI, ai_ix_lit, ai_f0, ai_f1, ai_f2, ai_f3, ai_u0, ai_u1, ai_a_1, ai_R0_1, ai_a_2, ai_R0_2, ai_a_3, ai_R0_3, ai_a_5, ai_il_5, ai_a_6, ai_il_6, ai_a_8, ai_il_8, ai_a_9, ai_il_9, ai_a_10, ai_a_11, ai_a_12, ai_a_13, ai_a_15, ai_a_16, ai_il_16, ai_le_16, ai_a_17, ai_il_17, ai_le_17, ai_a_18, ai_il_18, ai_le_18, ai_a_21, ai_il_21, ai_a_22, ai_a_23, ai_il_23, ai_a_24, ai_il_24, ai_a_25, ai_a_26, ai_a_27, ai_il_27, ai_a_28, ai_il_28, ai_a_29, ai_il_29, ai_a_30, ai_il_30, ai_a_31, ai_il_31, ai_a_32, ai_il_32, ai_kob_0, ai_al_0, ai_kob_4, ai_al_4, ai_kob_7, ai_al_7, ai_kob_14, ai_al_14, ai_kob_19, ai_al_19, ai_kob_20, ai_al_20, Bool.and_self, Bool.and_true, Bool.true_and, false_and, and_false, true_or, or_true, false_or, or_false, or_self, nI_1, xe_throw2, ai_TW_s, ai_EC_out, ai_PC_if, sm_if, sm_exif, sm_ex, sm_rc, sm_rcs, sm_rcv, sk_im1, sk_i0, sk_i1, sk_i2, sk_i3, sk_i4, sk_i5, sk_bm13, sk_b6, sk_b7, sk_b8, sk_b9, sk_b10, sk_b11, sk_b12, sk_b13, sk_b14, sk_b15, sk_b16, sk_b20, sk_b21, sk_b22, sk_b23, sk_b24, sk_b25, sk_b26, sk_b27, sk_b29, sk_b30, sk_b32, sk_b35, sk_b40, sk_b48, sk_b50, sk_b60, sk_b64, sk_b71, sk_b80, sk_b90, sk_b96, sk_b100, sk_b101, sk_s128, sk_s130, sk_s582, sk_s672, sk_s2000, sk_s2016, sk_s2900, sk_s3000, sk_s3400, sk_s5000, sk_s6000, sk_s9000, sk_s9041, ai_gI_wI, ai_gI_wJ, ai_gJ_wI, ai_gJ_wJ, Nat.reduceEqDiff, false_and, and_false, true_and, and_true, and_self, if_false, if_true, ↓reduceIte, hy, hp, pm_x, cf_x, ai_n5, nI_0]
  have hLc : ls_ok (cf_x x y p v) N M nn cc := hL
  have hwe : ∀ j, wr_x p nn (cf_x x y p v) j = wr_x p nn x j := fun j => by
    induction j with
    | zero => rfl
    | succ j ih =>
      show (if ai_pty x (nn j) (ai_frS x (nn j)) = nI p then wr_x p nn (cf_x x y p v) j else wr_x p nn (cf_x x y p v) j + 1) = _
      rw [ih]
      rfl
  have hMM : ai_gI (pm_x p nn cc (cf_x x y p v) M) 7 0 2 = nI M := by rw [pm_I (by decide) (by decide) (by decide) (by decide) (by decide) (by decide)]; exact hM
  refine e0.trans ((sm_it (P := fun s => ai_X 41 25 [some (ai_r 0 0), some (ai_i (nI y)), some (ai_i (nI p)), some (ai_i v), some (ai_i (nI s)), ai_n5 nn s] [] (263, k, L, ai_R0) (pm_x p nn cc (cf_x x y p v) s) r) (n := M) (fun s hs => ?_)).trans ?_)
  · have R2 := rl_pm R1 hT hC hp hLc (by rw [hwe]; exact hw) s (by omega)
    rw [if_pos hs] at R2
    obtain ⟨l1, l2, -⟩ := hL s hs
    have wl := wr_le p nn x (i := s + 1) M hs
    refine x_41s R2 hT hC hp ?_ hM4 hs ?_ ?_ l1 ?_ _ r
    · rw [pm_I (by decide) (by decide) (by decide) (by decide) (by decide) (by decide)]
      exact hM
    · rw [pm_I (by decide) (by decide) (by decide) (by decide) (by decide) (by decide)]
      exact h8 s hs
    · rw [pm_I (by decide) (by decide) (by decide) (by decide) (by decide) (by decide)]
      exact h9 s hs
    · intro hne
      rw [pm_fr] at hne
      have ws : wr_x p nn x (s + 1) = wr_x p nn x s + 1 := if_neg hne
      rw [hwe]
      omega
  · rw [ai_X_eq []]
    simp only [ai_c_41_0, ai_c_41_1, ai_c_41_4, ai_c_41_5, ai_c_41_6, ai_c_41_7, ai_c_41_8, ai_c_41_9, ai_c_41_10, ai_c_41_11, ai_c_41_12, ai_c_41_15, ai_c_41_16, ai_c_41_17, ai_c_41_18, ai_c_41_19, ai_c_41_20, ai_c_41_21, ai_c_41_22, ai_c_41_23, ai_c_41_25, ai_c_41_27, ai_c_41_28, ai_c_41_31, ai_c_41_34, ai_c_41_37, ai_c_41_38, ai_c_41_41, ai_c_41_44, ai_c_41_46, ai_c_41_47, ai_c_41_49, ai_c_41_50, ai_c_41_53, ai_c_41_55, ai_c_41_56, ai_c_41_59, ai_c_41_60, ai_c_41_63, ai_c_41_64, ai_c_41_66, ai_c_41_67, ai_c_41_68, ai_c_41_71, ai_c_41_74, ai_c_41_76, ai_c_41_77, ai_c_41_80, ai_c_41_83, ai_c_41_84, ai_c_41_86, ai_c_41_87, ai_c_41_88, ai_c_41_91, ai_c_41_94, ai_c_41_96, ai_c_41_97, ai_c_41_100, ai_c_41_103, ai_c_41_106, ai_g_0_52, ai_g_0_48, ai_g_0_44, ai_g_0_208, ai_g_0_316, ai_g_0_11, ai_k_0_163, ai_mx_104, ai_rm_41_104, ai_g_0_333, ai_k_0_335, ai_mx_44, ai_rm_41_44, ai_k_0_338, ai_mx_42, ai_rm_41_42, ai_rk_41, ai_mx_41, sh_41, ai_XS_eq, List.contains_nil, List.contains_cons, Bool.or_false, Bool.false_or, Bool.or_self, Bool.false_eq_true, Nat.reduceBEq, beq_self_eq_true, ↓reduceIte, if_true, if_false,
 xe_iconst, xe_bipush, xe_sipush, xe_lconst, xe_ldc, xe_ldc_w, xe_ldc2_w, xe_iload, xe_iload_n, xe_lload, xe_lload_n, xe_aload, xe_aload_n, xe_istore, xe_istore_n, xe_lstore, xe_lstore_n, xe_astore, xe_astore_n, xe_iinc, xe_iadd, xe_isub, xe_imul, xe_iand, xe_ior, xe_ishl, xe_ishr, xe_ineg, xe_l2i, xe_newL, xe_newI, xe_ladd, xe_lsub, xe_lmul, xe_lcmp, xe_i2l, xe_idiv, xe_irem, xe_ldiv, xe_dupi, xe_dupr, xe_dup2ir, xe_getfield, xe_putfield, xe_iaload, xe_laload, xe_baload, xe_aaload, xe_iastore, xe_lastore, xe_bastore, xe_arraylength, xe_goto, xe_ifeq, xe_ifne, xe_iflt, xe_ifge, xe_ifgt, xe_ifle, xe_icmpeq, xe_icmpne, xe_icmplt, xe_icmpge, xe_icmpgt, xe_icmple, xe_return, xe_ireturn, xe_zreturn, xe_lreturn, xe_throw, xe_callvirtual, xe_callstatic, xe_callspecial, xe_min, xe_minL, xe_maxL, xe_object,
 ai_PI_s, ai_PJ_s, ai_PR_s, ai_PV_s, ai_PL_s, ai_PA_s, ai_PZ_s, ai_PQ_s, ai_PS_s, ai_PT_s, ai_PF_s, ai_PG_s, ai_PC_t, ai_PC_f, ai_QC_s, ai_inc_0, ai_inc_1, ai_inc_s, ai_ldi_0, ai_ldi_s, ai_ldj_0, ai_ldj_s, ai_ldr_0, ai_ldr_s, ai_st1_0, ai_st1_1, ai_st1_s, ai_st2_0, ai_st2_1, ai_st2_s, ai_wide_i, ai_wide_j, ai_wide_r, ai_wide_n, ai_one_i, ai_one_r, Option.map_some, Option.map_none, ai_EC_inl, Option.toList_some, Option.toList_none, List.cons_append, List.nil_append, List.append_nil, List.take_succ_cons, List.take_zero, List.drop_succ_cons, List.drop_zero, List.reverse_cons, List.reverse_nil, List.length_cons, List.length_nil, ai_en, ai_e0_n, ai_e0_i, ai_e0_j, ai_e0_r, List.replicate_succ, List.replicate_zero, Nat.reduceAdd, Nat.reduceSub, Nat.reduceDiv, Nat.reduceLeDiff, Nat.zero_add, Nat.le_refl, Nat.zero_le, and_self, true_and, and_true, Fin.isValue, Fin.val_ofNat, ai_tg, ai_tk, Int.reduceAdd, Int.reduceToNat, Int.reduceLE, Int.cast_ofNat_Int, decide_true, not_true_eq_false, not_false_eq_true, Nat.reducePow, Nat.reduceLT, ai_ix_nI, ai_ix_lit, ai_f0, ai_f1, ai_f2, ai_f3, ai_u0, ai_u1, ai_a_1, ai_R0_1, ai_a_2, ai_R0_2, ai_a_3, ai_R0_3, ai_a_5, ai_il_5, ai_a_6, ai_il_6, ai_a_8, ai_il_8, ai_a_9, ai_il_9, ai_a_10, ai_a_11, ai_a_12, ai_a_13, ai_a_15, ai_a_16, ai_il_16, ai_le_16, ai_a_17, ai_il_17, ai_le_17, ai_a_18, ai_il_18, ai_le_18, ai_a_21, ai_il_21, ai_a_22, ai_a_23, ai_il_23, ai_a_24, ai_il_24, ai_a_25, ai_a_26, ai_a_27, ai_il_27, ai_a_28, ai_il_28, ai_a_29, ai_il_29, ai_a_30, ai_il_30, ai_a_31, ai_il_31, ai_a_32, ai_il_32, ai_kob_0, ai_al_0, ai_kob_4, ai_al_4, ai_kob_7, ai_al_7, ai_kob_14, ai_al_14, ai_kob_19, ai_al_19, ai_kob_20, ai_al_20, Bool.and_self, Bool.and_true, Bool.true_and, false_and, and_false, true_or, or_true, false_or, or_false, or_self, nI_1, xe_throw2, ai_TW_s, ai_EC_out, ai_PC_if, sm_if, sm_exif, sm_ex, sm_rc, sm_rcs, sm_rcv, sk_im1, sk_i0, sk_i1, sk_i2, sk_i3, sk_i4, sk_i5, sk_bm13, sk_b6, sk_b7, sk_b8, sk_b9, sk_b10, sk_b11, sk_b12, sk_b13, sk_b14, sk_b15, sk_b16, sk_b20, sk_b21, sk_b22, sk_b23, sk_b24, sk_b25, sk_b26, sk_b27, sk_b29, sk_b30, sk_b32, sk_b35, sk_b40, sk_b48, sk_b50, sk_b60, sk_b64, sk_b71, sk_b80, sk_b90, sk_b96, sk_b100, sk_b101, sk_s128, sk_s130, sk_s582, sk_s672, sk_s2000, sk_s2016, sk_s2900, sk_s3000, sk_s3400, sk_s5000, sk_s6000, sk_s9000, sk_s9041, ai_gI_wI, ai_gI_wJ, ai_gJ_wI, ai_gJ_wJ, Nat.reduceEqDiff, false_and, and_false, true_and, and_true, and_self, if_false, if_true, ↓reduceIte, hMM, Int32.le_refl]
