/-! The loop of the law; the claim's start -/
theorem sf_31 (x : Int32) : ∃ c, c < 32 ∧ x &&& 31 = nI c := by
  have e : (x &&& 31).toBitVec = x.toBitVec &&& (31 : Int32).toBitVec := rfl
  have e2 : (31 : Int32).toBitVec.toNat = 31 := by decide
  have hb : (x &&& 31).toBitVec.toNat ≤ 31 := by
    rw [e, BitVec.toNat_and, e2]
    exact Nat.and_le_right
  refine ⟨(x &&& 31).toBitVec.toNat, by omega, ?_⟩
  apply Int32.toInt_inj.mp
  rw [nI_toInt (by omega)]
  exact BitVec.toInt_eq_toNat_of_lt (by omega)
theorem rl_0 (xs : Nat → Int32) : rl_I xs 0 (ai_hb xs 40 3 3) := by
  refine ⟨fun j => ?_, 0, 0, 0, Nat.le_refl 0, ?_⟩
  · rw [sm_hbI, if_pos ⟨rfl, rfl⟩]
  · unfold rl
    simp only [sm_hbI, sm_hbJ, Nat.reduceEqDiff, false_and, and_false, if_false, true_and, and_true, ↓reduceIte]
    refine ⟨⟨nI_0.symm, nI_0.symm, by decide, nI_0.symm, nI_0.symm, by decide, nI_0.symm, nI_0.symm, rfl⟩, fun i hi => absurd hi (Nat.not_lt_zero _), fun i hi => absurd hi (Nat.not_lt_zero _), fun i hi => absurd hi (Nat.not_lt_zero _), fun i hi => absurd hi (Nat.not_lt_zero _), fun i hi => ⟨rfl, Or.inl rfl⟩, fun i s hi hs => Or.inl ⟨rfl, rfl, rfl, rfl, rfl, rfl⟩, fun i hi => rfl, fun i hi => rfl, fun i hi => absurd hi (Nat.not_lt_zero _), fun i hi => absurd hi (Nat.not_lt_zero _), fun i hi => absurd hi (Nat.not_lt_zero _), ⟨fun i hi => absurd hi (Nat.not_lt_zero _), fun w h1 h2 => rfl⟩, fun s hs => ?_, fun s hs => ?_, fun s hs => ?_, fun s b hs hb => rfl, fun s b hs hb => rfl, fun s hs => rfl, ⟨fun i hi => absurd hi (Nat.not_lt_zero _), fun i h1 h2 => ⟨rfl, rfl, rfl⟩⟩, ⟨nI_0.symm, rfl, rfl⟩, ⟨0, Nat.zero_le _, nI_0.symm, fun j hj => absurd hj (Nat.not_lt_zero _), fun i hi => absurd hi (Nat.not_lt_zero _)⟩⟩
    all_goals first | (show (if s < 3 then _ else _) = (if s < 3 then _ else _); rw [if_pos hs, if_pos hs]) | rfl
theorem lw_one {xs : Nat → Int32} {C k L i : Nat} {h : ai_H} (I : rl_I xs C h) (hC : C < 512) (hi : i + 4 < L) (hL : L < 2 ^ 29) (a5 a6 a7 : Option ai_V) : ∃ (b5 b6 b7 : Option ai_V) (k1 : Nat) (h1 : ai_H), k1 ≤ k + 1 ∧ rl_I xs (C + 1) h1 ∧ ∀ r, ai_X 722 23 [some (ai_r 99 0), some (ai_r 0 0), some (ai_r 23 0), some (ai_r 50 0), some (ai_i (nI i)), a5, a6, a7] [] (281, k, L, ai_R0) h r ↔ ai_X 722 23 [some (ai_r 99 0), some (ai_r 0 0), some (ai_r 23 0), some (ai_r 50 0), some (ai_i (nI (i + 5))), b5, b6, b7] [] (281, k1, L, ai_R0) h1 r := by
  obtain ⟨c, hc, hx⟩ := sf_31 (ai_gI h 99 0 i)
  by_cases g : c < 26
  · have main : ∀ c, c < 26 → ai_gI h 99 0 i &&& 31 = nI c → ∃ (b5 b6 b7 : Option ai_V) (k1 : Nat) (h1 : ai_H), k1 ≤ k + 1 ∧ rl_I xs (C + 1) h1 ∧ ∀ r, ai_X 722 23 [some (ai_r 99 0), some (ai_r 0 0), some (ai_r 23 0), some (ai_r 50 0), some (ai_i (nI i)), a5, a6, a7] [] (281, k, L, ai_R0) h r ↔ ai_X 722 23 [some (ai_r 99 0), some (ai_r 0 0), some (ai_r 23 0), some (ai_r 50 0), some (ai_i (nI (i + 5))), b5, b6, b7] [] (281, k1, L, ai_R0) h1 r := by
      intro c hc hx
      clear g
      match c, hc with
      | 0, _ =>
          obtain ⟨kk, v, k1, h1, h2, hw, hq, ht, ho, hk, hs, I2⟩ := op_0 (k := k) (L := L) I hC (ai_gI h 99 0 (i + 1)) (ai_gI h 99 0 (i + 2)) (ai_gI h 99 0 (i + 3)) (ai_gI h 99 0 (i + 4))
          exact ⟨_, _, _, k1, h2, hk, I2, fun r => ls_0 hi hL hx hs hw hq ht ho r⟩
      | 1, _ =>
          obtain ⟨kk, v, k1, h1, h2, hw, hq, ht, ho, hk, hs, I2⟩ := op_1 (k := k) (L := L) I hC (ai_gI h 99 0 (i + 1)) (ai_gI h 99 0 (i + 2))
          exact ⟨_, _, _, k1, h2, hk, I2, fun r => ls_1 hi hL hx hs hw hq ht ho r⟩
      | 2, _ =>
          obtain ⟨kk, v, k1, h1, h2, hv, hw, hq, ht, ho, hk, hs, I2⟩ := op_2 (k := k) (L := L) I hC (ai_gI h 99 0 (i + 1)) (if ai_gI h 99 0 (i + 2) = 0 then 0 else 1) (by split <;> simp)
          exact ⟨_, _, _, k1, h2, hk, I2, fun r => ls_2 hv hi hL hx rfl hs hw hq ht ho r⟩
      | 3, _ =>
          obtain ⟨kk, v, k1, h1, h2, hw, hq, ht, ho, hk, hs, I2⟩ := op_3 (k := k) (L := L) I hC (ai_gI h 99 0 (i + 1)) (ai_gI h 99 0 (i + 2)) (if ai_gI h 99 0 (i + 3) = 0 then 0 else 1) (by split <;> simp)
          exact ⟨_, _, _, k1, h2, hk, I2, fun r => ls_3 hi hL hx rfl hs hw hq ht ho r⟩
      | 4, _ =>
          obtain ⟨kk, v, k1, h1, h2, hw, hq, ht, ho, hk, hs, I2⟩ := op_4 (k := k) (L := L) I hC (ai_gI h 99 0 (i + 1)) (ai_gI h 99 0 (i + 2))
          exact ⟨_, _, _, k1, h2, hk, I2, fun r => ls_4 hi hL hx hs hw hq ht ho r⟩
      | 5, _ =>
          obtain ⟨kk, v, k1, h1, h2, hw, hq, ht, ho, hk, hs, I2⟩ := op_5 (k := k) (L := L) I hC (ai_gI h 99 0 (i + 1)) (ai_gI h 99 0 (i + 2))
          exact ⟨_, _, _, k1, h2, hk, I2, fun r => ls_5 hi hL hx hs hw hq ht ho r⟩
      | 6, _ =>
          obtain ⟨kk, v, k1, h1, h2, hw, hq, ht, ho, hk, hs, I2⟩ := op_6 (k := k) (L := L) I hC (ai_gI h 99 0 (i + 1)) (ai_gI h 99 0 (i + 2))
          exact ⟨_, _, _, k1, h2, hk, I2, fun r => ls_6 hi hL hx hs hw hq ht ho r⟩
      | 7, _ =>
          obtain ⟨kk, v, k1, h1, h2, hw, hq, ht, ho, hk, hs, I2⟩ := op_7 (k := k) (L := L) I hC (ai_gI h 99 0 (i + 1)) (ai_gI h 99 0 (i + 2))
          exact ⟨_, _, _, k1, h2, hk, I2, fun r => ls_7 hi hL hx hs hw hq ht ho r⟩
      | 8, _ =>
          obtain ⟨kk, v, k1, h1, h2, hw, hq, ht, ho, hk, hs, I2⟩ := op_8 (k := k) (L := L) I hC (ai_gI h 99 0 (i + 1))
          exact ⟨_, _, _, k1, h2, hk, I2, fun r => ls_8 hi hL hx hs hw hq ht ho r⟩
      | 9, _ =>
          obtain ⟨kk, v, k1, h1, h2, hw, hq, ht, ho, hk, hs, I2⟩ := op_9 (k := k) (L := L) I hC (ai_gI h 99 0 (i + 1)) (ai_gI h 99 0 (i + 2)) (ai_gI h 99 0 (i + 3))
          exact ⟨_, _, _, k1, h2, hk, I2, fun r => ls_9 hi hL hx hs hw hq ht ho r⟩
      | 10, _ =>
          obtain ⟨kk, v, k1, h1, h2, hw, hq, ht, ho, hk, hs, I2⟩ := op_10 (k := k) (L := L) I hC (ai_gI h 99 0 (i + 1)) (ai_gI h 99 0 (i + 2)) (ai_gI h 99 0 (i + 3))
          exact ⟨_, _, _, k1, h2, hk, I2, fun r => ls_10 hi hL hx hs hw hq ht ho r⟩
      | 11, _ =>
          obtain ⟨v, h1, h2, hw, hq, I2⟩ := op_11 (k := k) (L := L) I hC
          exact ⟨_, _, _, k, h2, Nat.le_succ k, I2, fun r => ls_11 hi hL hx hw hq r⟩
      | 12, _ =>
          obtain ⟨kk, v, k1, h1, h2, hw, hq, ht, ho, hk, hs, I2⟩ := op_12 (k := k) (L := L) I hC (ai_gI h 99 0 (i + 1))
          exact ⟨_, _, _, k1, h2, hk, I2, fun r => ls_12 hi hL hx hs hw hq ht ho r⟩
      | 13, _ =>
          obtain ⟨kk, v, k1, h1, h2, hw, hq, ht, ho, hk, hs, I2⟩ := op_13 (k := k) (L := L) I hC (ai_gI h 99 0 (i + 1))
          exact ⟨_, _, _, k1, h2, hk, I2, fun r => ls_13 hi hL hx hs hw hq ht ho r⟩
      | 14, _ =>
          obtain ⟨v, h1, h2, hw, hq, I2⟩ := op_14 (k := k) (L := L) I
          exact ⟨_, _, _, k, h2, Nat.le_succ k, I2, fun r => ls_14 hi hL hx hw hq r⟩
      | 15, _ =>
          obtain ⟨kk, k1, h1, h2, hw, hq, ht, hk, hs, I2⟩ := op_15 (k := k) (L := L) I hC (ai_gI h 99 0 (i + 1)) (ai_gI h 99 0 (i + 2)) (ai_gI h 99 0 (i + 3)) (ai_gI h 99 0 (i + 4))
          exact ⟨_, _, _, k1, h2, hk, I2, fun r => ls_15 hi hL hx hs hw hq ht r⟩
      | 16, _ =>
          obtain ⟨kk, k1, h1, h2, hw, hq, ht, hk, hs, I2⟩ := op_16 (k := k) (L := L) I hC (ai_gI h 99 0 (i + 1)) (ai_gI h 99 0 (i + 2)) (ai_gI h 99 0 (i + 3))
          exact ⟨_, _, _, k1, h2, hk, I2, fun r => ls_16 hi hL hx hs hw hq ht r⟩
      | 17, _ =>
          obtain ⟨kk, v, k1, h1, h2, hw, hq, ht, ho, hk, hs, I2⟩ := op_17 (k := k) (L := L) I hC (ai_gI h 99 0 (i + 1)) (ai_gI h 99 0 (i + 2))
          exact ⟨_, _, _, k1, h2, hk, I2, fun r => ls_17 hi hL hx hs hw hq ht ho r⟩
      | 18, _ =>
          obtain ⟨kk, v, k1, h1, h2, hw, hq, ht, ho, hk, hs, I2⟩ := op_18 (k := k) (L := L) I hC (ai_gI h 99 0 (i + 1)) (ai_gI h 99 0 (i + 2))
          exact ⟨_, _, _, k1, h2, hk, I2, fun r => ls_18 hi hL hx hs hw hq ht ho r⟩
      | 19, _ =>
          obtain ⟨kk, v, k1, h1, h2, hw, hq, ht, ho, hk, hs, I2⟩ := op_19 (k := k) (L := L) I hC (ai_gI h 99 0 (i + 1)) (ai_gI h 99 0 (i + 2)) (ai_gI h 99 0 (i + 3))
          exact ⟨_, _, _, k1, h2, hk, I2, fun r => ls_19 hi hL hx hs hw hq ht ho r⟩
      | 20, _ =>
          obtain ⟨kk, v, k1, h1, h2, hw, hq, ht, ho, hk, hs, I2⟩ := op_20 (k := k) (L := L) I hC (ai_gI h 99 0 (i + 1))
          exact ⟨_, _, _, k1, h2, hk, I2, fun r => ls_20 hi hL hx hs hw hq ht ho r⟩
      | 21, _ =>
          obtain ⟨kk, v, k1, h1, h2, hw, hq, ht, ho, hk, hs, I2⟩ := op_21 (k := k) (L := L) I hC (ai_gI h 99 0 (i + 1))
          exact ⟨_, _, _, k1, h2, hk, I2, fun r => ls_21 hi hL hx hs hw hq ht ho r⟩
      | 22, _ =>
          obtain ⟨kk, v, k1, h1, h2, hw, hq, ht, ho, hk, hs, I2⟩ := op_22 (k := k) (L := L) I hC (ai_gI h 99 0 (i + 1))
          exact ⟨_, _, _, k1, h2, hk, I2, fun r => ls_22 hi hL hx hs hw hq ht ho r⟩
      | 23, _ =>
          obtain ⟨kk, v, k1, h1, h2, hw, hq, ht, ho, hk, hs, I2⟩ := op_23 (k := k) (L := L) I hC (ai_gI h 99 0 (i + 1))
          exact ⟨_, _, _, k1, h2, hk, I2, fun r => ls_23 hi hL hx hs hw hq ht ho r⟩
      | 24, _ =>
          obtain ⟨v, h1, h2, hw, hq, I2⟩ := op_24 (k := k) (L := L) I hC
          exact ⟨_, _, _, k, h2, Nat.le_succ k, I2, fun r => ls_24 hi hL hx hw hq r⟩
      | 25, _ =>
          obtain ⟨v, h1, h2, hw, hq, I2⟩ := op_25 (k := k) (L := L) I
          exact ⟨_, _, _, k, h2, Nat.le_succ k, I2, fun r => ls_25 hi hL hx hw hq r⟩
      | n + 26, hc => exact absurd hc (by omega)
    exact main c g hx
  · refine ⟨a5, a6, a7, k, h, Nat.le_succ k, rl_I_mono I (Nat.le_succ C), fun r => ls_no hi hL ?_ r⟩
    rw [hx, nI_toInt (by omega)]
    omega
theorem lw_all {xs : Nat → Int32} {L : Nat} (hL : L ≤ 2560) : ∀ C, 5 * C ≤ L → ∃ (a5 a6 a7 : Option ai_V) (k : Nat) (h : ai_H), k ≤ C ∧ rl_I xs C h ∧ ∀ r, ai_X 722 23 [some (ai_r 99 0), some (ai_r 0 0), some (ai_r 23 0), some (ai_r 50 0), some (ai_i (nI 0)), none, none, none] [] (281, 0, L, ai_R0) (ai_hb xs 40 3 3) r ↔ ai_X 722 23 [some (ai_r 99 0), some (ai_r 0 0), some (ai_r 23 0), some (ai_r 50 0), some (ai_i (nI (5 * C))), a5, a6, a7] [] (281, k, L, ai_R0) h r
  | 0, _ => ⟨none, none, none, 0, _, Nat.le_refl 0, rl_0 xs, fun r => Iff.rfl⟩
  | C + 1, hC => by
    obtain ⟨a5, a6, a7, k, h, hk, I, e⟩ := lw_all hL C (by omega)
    obtain ⟨b5, b6, b7, k1, h1, hk1, I1, e1⟩ := lw_one (k := k) (L := L) (i := 5 * C) I (by omega) (by omega) (by omega) a5 a6 a7
    exact ⟨b5, b6, b7, k1, h1, by omega, I1, fun r => (e r).trans (e1 r)⟩
theorem whole_start {p : Program} {e : Env} {s : State} {m : MethodId} {below : List Frame} {meth : Method} {c : Code} (l : Launch) (hflags : l.flags = flags0) {b L : Nat} {xs : Nat → Int32} (hbd : L ≤ 2560) (C0 : lw_At p s m meth c b L xs) : W p l e room_1 s m #[Value.ref b] below meth c s.heap [] 0 0 (lw_Z below #[Value.ref b] s) (entryFrame m ([Value.ref b] : List Value).toArray 8) := by
  obtain ⟨a5, a6, a7, k, h, hk, I, e⟩ := lw_all (xs := xs) hbd (L / 5) (by omega)
  have fin := (ls_end (k := k) (h := h) (a5 := a5) (a6 := a6) (a7 := a7) (i := 5 * (L / 5)) (L := L) (by omega) (by omega) (by omega) (Sum.inl (some (ai_i 1)), (281, k, L, ai_R0), h)).mpr rfl
  have st := (sm_law (L := L) xs (Sum.inl (some (ai_i 1)), (281, k, L, ai_R0), h)).mpr ((e _).mpr fin)
  obtain ⟨n, hn⟩ := st
  refine sw_run l hflags C0 hn ?_ ?_
  · show 281 + k ≤ 601024
    omega
  · have q : sd_sl 281 ≤ 7000000 := by decide +kernel
    show sd_sl 281 + 6 * k ≤ 7293034
    omega
