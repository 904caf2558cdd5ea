theorem sd_sl_mono {n k : Nat} (h : n ≤ k) : sd_sl n ≤ sd_sl k := by
  obtain ⟨d, rfl⟩ := Nat.exists_eq_add_of_le h
  induction d with
  | zero => exact Nat.le_refl _
  | succ d ih => exact Nat.le_trans (ih (Nat.le_add_right _ _)) (Nat.le_add_right _ _)
theorem sd_mono : ∀ (n m pc : Nat) (ls : ai_L) (s : List ai_V) (z : ai_Z) (h : ai_H) (r : ai_A), ai_run n m pc ls s z h = some r → z.1 ≤ r.2.1.1 ∧ z.2.1 ≤ r.2.1.2.1
  | 0, _, _, _, _, _, _, _, hr => by cases hr
  | n + 1, m, pc, ls, s, z, h, r, hr => by
    change ai_bd (ai_run n) m pc ls s z h = some r at hr
    revert hr
    unfold ai_bd
    cases ai_at m pc with
    | none => exact fun h => nomatch h
    | some q =>
    obtain ⟨i, len⟩ := q
    dsimp only
    cases ai_ex m i ls s z h with
    | some q =>
      obtain ⟨a1, a2, a3, a4⟩ := q
      intro h
      have h1 := sd_mono n _ _ _ _ _ _ _ h
      exact h1
    | none =>
    dsimp only
    cases ai_jp i len pc s with
    | some q => exact fun h => sd_mono n _ _ _ _ _ _ _ h
    | none =>
    dsimp only
    cases ai_rt m i s with
    | some q =>
      intro h
      cases h
      exact ⟨Nat.le_refl _, Nat.le_refl _⟩
    | none =>
    dsimp only
    cases ai_nw m i s z with
    | some q =>
      intro h
      have h1 := sd_mono n _ _ _ _ _ _ _ h
      exact ⟨Nat.le_of_succ_le h1.1, h1.2⟩
    | none =>
    dsimp only
    cases ai_nd i s with
    | some q =>
      intro h
      have h1 := sd_mono n _ _ _ _ _ _ _ h
      exact ⟨h1.1, Nat.le_of_succ_le h1.2⟩
    | none =>
    dsimp only
    cases ai_th m pc i with
    | some q =>
      dsimp only
      split
      · intro h
        cases h
        exact ⟨Nat.le_refl _, Nat.le_succ _⟩
      · exact fun h => nomatch h
    | none =>
    dsimp only
    cases ai_cl m i s z.1 with
    | none => exact fun h => nomatch h
    | some q =>
    obtain ⟨y, args, s'⟩ := q
    dsimp only
    by_cases hl : (ai_en y args).length = ai_mx y
    · rw [if_pos hl]
      cases e8 : ai_run n y 0 (ai_en y args) [] z h with
      | none => exact fun h => nomatch h
      | some q =>
        obtain ⟨o, z', h'⟩ := q
        have h1 := sd_mono n _ _ _ _ _ _ _ e8
        cases o with
        | inl v =>
          intro h
          have h2 := sd_mono n _ _ _ _ _ _ _ h
          exact ⟨Nat.le_trans h1.1 h2.1, Nat.le_trans h1.2 h2.2⟩
        | inr E =>
          dsimp only
          cases ai_hd m pc E with
          | none => exact fun h => nomatch h
          | some w =>
            cases w with
            | none =>
              intro h
              cases h
              exact h1
            | some v =>
              obtain ⟨pc', k⟩ := v
              dsimp only
              by_cases hk : k < ls.length
              · rw [if_pos hk]
                intro h
                have h2 := sd_mono n _ _ _ _ _ _ _ h
                exact ⟨Nat.le_trans h1.1 h2.1, Nat.le_trans h1.2 h2.2⟩
              · rw [if_neg hk]
                exact fun h => nomatch h
    · rw [if_neg hl]
      exact fun h => nomatch h
theorem sd_ncs {z z' : ai_Z} (h : z.1 ≤ z'.1 ∧ z.2.1 ≤ z'.2.1) : sd_nc z ≤ sd_nc z' ∧ sd_ns z ≤ sd_ns z' := by
  have := sd_sl_mono h.1
  unfold sd_nc sd_ns
  omega
-- handlers
theorem sd_find_in {α : Type} {d : α} : ∀ (t : List (Nat × α)) (a : Nat), a ∉ t.map (fun q => q.1) → ai_find d t a = d
  | [], _, _ => rfl
  | (q, v) :: t, a, h => by
    unfold ai_find
    have h1 : (q == a) = false := by
      simp only [beq_eq_false_iff_ne, ne_eq]
      intro g
      exact h (by rw [List.map_cons]; rw [g]; exact List.mem_cons_self)
    rw [if_neg (by rw [h1]; decide)]
    exact sd_find_in t a (fun g => h (by rw [List.map_cons]; exact List.mem_cons_of_mem _ g))
theorem sd_hs_none {m : Nat} (h : ai_find [] ai_hs m = []) : ai_find [] sd_hw m = [] := by
  by_cases hm : m ∈ sd_hp.map (fun q => q.1)
  · have h1 : (sd_hp.map (fun q => q.1)).all (fun m => !(ai_find [] ai_hs m).isEmpty) = true := by decide +kernel
    have h2 := List.all_eq_true.mp h1 m hm
    rw [h] at h2
    cases h2
  · exact sd_find_in _ _ (by rw [sd_hs_keys.2]; exact hm)
theorem sd_hs_some {m : Nat} (h : ¬ ai_find [] ai_hs m = []) : ∃ ps, sd_hks m (ai_find [] ai_hs m) (ai_find [] sd_hw m) ps = true := by
  by_cases hm : m ∈ sd_hp.map (fun q => q.1)
  · obtain ⟨q, hq, rfl⟩ := List.mem_map.mp hm
    exact ⟨q.2, List.all_eq_true.mp sd_hs_all q hq⟩
  · exact absurd (sd_find_in _ _ (by rw [sd_hs_keys.1]; exact hm)) h
theorem sd_hks_is {m pc E pc' k : Nat} : ∀ (hs : List (Nat × Nat × Nat × Nat × Nat × Nat)) (ws : List (Nat × Nat × Nat × Nat)) (ps : List Nat), sd_hks m hs ws ps = true → ai_hf pc E hs = some (pc', k) →
    ∃ (pre : List ExceptionTableEntry) (x : ExceptionTableEntry) (suf : List ExceptionTableEntry), tableOf ws = pre ++ x :: suf ∧ (∀ w ∈ pre, covers w pc = false ∨ (w.catchType ≠ 0 ∧ ∃ F, 0 < F ∧ F < 4 ∧ F ≠ E ∧ Cond.classLink (sd_R (m / 100)) w.catchType (sd_xn F) ∈ sd_tb)) ∧
      covers x pc = true ∧ x.catchType ≠ 0 ∧ Cond.classLink (sd_R (m / 100)) x.catchType (sd_xn E) ∈ sd_tb ∧ (sd_xn E, sd_xn E) ∈ sd_la ∧ 0 < E ∧ E < 4 ∧
      ((decode (ai_by m) x.handlerPc = .ok (.astore k, 2) ∧ pc' = x.handlerPc + 2) ∨ ∃ kf : Fin 4, decode (ai_by m) x.handlerPc = .ok (.astore_n kf, 1) ∧ (kf : Nat) = k ∧ pc' = x.handlerPc + 1)
  | [], _, _, _, h => by cases h
  | q :: hs, [], _, h, _ => by cases h
  | q :: hs, r :: ws, [], h, _ => by cases h
  | q :: hs, r :: ws, p :: ps, hk, h => by
    have hk : (sd_hk m q r p && sd_hks m hs ws ps) = true := hk
    rw [Bool.and_eq_true] at hk
    obtain ⟨hk1, hk2⟩ := hk
    unfold sd_hk at hk1
    simp only [Bool.and_eq_true, Bool.or_eq_true, decide_eq_true_eq] at hk1
    obtain ⟨⟨⟨⟨a1, a2, a3, a4, a5, a6⟩, a7⟩, a8⟩, a9⟩ := hk1
    unfold ai_hf at h
    split at h
    · rename_i hc
      obtain ⟨c1, c2, c3⟩ := hc
      injection h with h
      injection h with h1 h2
      subst h1; subst h2
      refine ⟨[], ⟨r.1, r.2.1, r.2.2.1, r.2.2.2⟩, tableOf ws, rfl, fun w hw => (by cases hw), ?_, a4, ?_, ?_, by omega, by omega, ?_⟩
      · show (decide (r.1 ≤ pc) && decide (pc < r.2.1)) = true
        rw [Bool.and_eq_true, decide_eq_true_eq, decide_eq_true_eq]
        omega
      · rw [← c3]; exact sd_at_ok a7
      · rw [← c3]; exact a9
      · show (decode (ai_by m) r.2.2.1 = _ ∧ _ = r.2.2.1 + 2) ∨ ∃ kf : Fin 4, decode (ai_by m) r.2.2.1 = .ok (.astore_n kf, 1) ∧ (kf : Nat) = _ ∧ _ = r.2.2.1 + 1
        rw [← a3]
        rcases a8 with g | g
        · exact Or.inl ⟨g.1, by rw [g.2]⟩
        · split at g
          · rename_i kf hkf
            have g := of_decide_eq_true g
            exact Or.inr ⟨kf, hkf, g.1, by rw [g.2]⟩
          · cases g
    · rename_i hc
      obtain ⟨pre, x, suf, b1, b2, b3⟩ := sd_hks_is hs ws ps hk2 h
      refine ⟨⟨r.1, r.2.1, r.2.2.1, r.2.2.2⟩ :: pre, x, suf, by show _ :: tableOf ws = _; rw [b1]; rfl, fun w hw => ?_, b3⟩
      rcases List.mem_cons.mp hw with g | g
      · subst g
        by_cases hcov : r.1 ≤ pc ∧ pc < r.2.1
        · refine Or.inr ⟨a4, q.2.2.2.1, a5, a6, fun g => hc ⟨by omega, by omega, g⟩, sd_at_ok a7⟩
        · left
          show (decide (r.1 ≤ pc) && decide (pc < r.2.1)) = false
          rw [Bool.and_eq_false_iff, decide_eq_false_iff_not, decide_eq_false_iff_not]
          omega
      · exact b2 w g
theorem sd_stn_has {z0 b nL k : Nat} {ls : ai_L} {v : Value} {A : Array Slot} (hk : k < ls.length) (h : lv_has A nL ((k, v) :: (sd_l z0 b 0 ls).filter (fun q => !(q.1 == k) && !(q.1 + 1 == k && q.2.category == 2)))) : lv_has A nL (sd_l z0 b 0 ((ai_cut ls k).set k none)) := by
  refine ⟨h.1, h.2.1, fun q hq => h.2.2 q ?_⟩
  obtain ⟨j, w, h1, h2⟩ := sd_l_of _ _ q hq
  rw [Nat.zero_add] at h1
  by_cases hj : j = k
  · subst hj
    rw [List.getElem?_set_self (by rw [sd_cut_len]; exact hk)] at h2
    cases h2
  · rw [List.getElem?_set_ne (Ne.symm hj)] at h2
    obtain ⟨h3, h4⟩ := sd_cut_get _ _ _ _ h2
    refine List.mem_cons_of_mem _ (List.mem_filter.mpr ⟨?_, ?_⟩)
    · rw [h1]
      have h5 := sd_l_in (z0 := z0) (b := b) ls 0 j w h3
      rw [Nat.zero_add] at h5
      exact h5
    · rw [h1]
      have e1 : (j == k) = false := by simpa using hj
      simp only [e1, Bool.not_false, Bool.true_and, sd_cat]
      by_cases g : ai_wide (some w) = true
      · have e2 : (j + 1 == k) = false := by simpa using fun q => h4 ⟨q, g⟩
        simp [e2]
      · simp [g]
theorem sd_rt_is {m : Nat} {i : Instr} {st : List ai_V} {v : Option ai_V} (h : ai_rt m i st = some v) : st = v.toList := by
  unfold ai_rt at h
  split at h
  · split at h
    · cases h; rfl
    · cases h
  · split at h
    · cases h; rfl
    · cases h
  · split at h
    · cases h; rfl
    · cases h
  · cases h
theorem sd_rt_len {m len : Nat} {i : Instr} {st : List ai_V} {v : Option ai_V} (h : ai_rt m i st = some v) (hk : ai_lk (i, len) = true) : len = 1 := by
  unfold ai_rt at h
  split at h
  · exact eq_of_beq (show (len == 1) = true from hk)
  · exact eq_of_beq (show (len == 1) = true from hk)
  · exact eq_of_beq (show (len == 1) = true from hk)
  · cases h
/-- the locals at the entry -/
theorem sd_e0_l {z0 b : Nat} : ∀ (vs : List ai_V) (k : Nat), sd_l z0 b k (ai_e0 vs) = lv_args k (vs.map (sd_v z0 b))
  | [], _ => rfl
  | v :: vs, k => by
    unfold ai_e0
    rw [List.map_cons]
    show _ = (k, sd_v z0 b v) :: lv_args (if (sd_v z0 b v).category = 2 then k + 2 else k + 1) (vs.map (sd_v z0 b))
    rw [sd_cat]
    by_cases hw : ai_wide (some v) = true
    · rw [if_pos hw, if_pos hw, if_pos rfl]
      show (k, sd_v z0 b v) :: sd_l z0 b (k + 1 + 1) (ai_e0 vs) = _
      rw [sd_e0_l vs (k + 1 + 1)]
    · rw [if_neg hw, if_neg hw, if_neg (by decide)]
      show (k, sd_v z0 b v) :: sd_l z0 b (k + 1) (ai_e0 vs) = _
      rw [sd_e0_l vs (k + 1)]
theorem sd_l_app {z0 b : Nat} : ∀ (l : ai_L) (k n : Nat), sd_l z0 b k (l ++ List.replicate n none) = sd_l z0 b k l
  | [], k, 0 => rfl
  | [], k, n + 1 => by
    show sd_l z0 b k (none :: List.replicate n none) = _
    have h := sd_l_app (z0 := z0) (b := b) [] (k + 1) n
    rw [List.nil_append] at h
    show sd_l z0 b (k + 1) (List.replicate n none) = _
    rw [h]
    rfl
  | none :: l, k, n => sd_l_app l (k + 1) n
  | some v :: l, k, n => congrArg ((k, sd_v z0 b v) :: ·) (sd_l_app l (k + 1) n)
theorem sd_e0_len {z0 b : Nat} : ∀ (vs : List ai_V), (ai_e0 vs).length = (lg_sl (vs.map (sd_v z0 b))).length
  | [] => rfl
  | v :: vs => by
    unfold ai_e0
    have ih := sd_e0_len (z0 := z0) (b := b) vs
    unfold lg_sl at ih ⊢
    rw [List.map_cons, List.flatMap_cons, List.length_append, ← ih, sd_cat]
    by_cases hw : ai_wide (some v) = true
    · rw [if_pos hw, if_pos hw, if_pos rfl]
      simp only [List.length_cons, List.length_nil]
      omega
    · rw [if_neg hw, if_neg hw, if_neg (by decide)]
      simp only [List.length_cons, List.length_nil]
      omega
theorem sd_entry {z0 b y : Nat} {vs : List ai_V} (h : (ai_en y vs).length = ai_mx y) : lv_has ((lg_sl (vs.map (sd_v z0 b)) ++ List.replicate (ai_mx y - (lg_sl (vs.map (sd_v z0 b))).length) Slot.unset).toArray) (ai_mx y) (sd_l z0 b 0 (ai_en y vs)) := by
  have h1 : (lg_sl (vs.map (sd_v z0 b))).length ≤ ai_mx y := by
    rw [← sd_e0_len]
    unfold ai_en at h
    rw [List.length_append, List.length_replicate] at h
    omega
  unfold ai_en
  rw [sd_l_app, sd_e0_l]
  exact lv_entry _ h1
