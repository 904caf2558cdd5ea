/-! What the small machine's state is in the kit's -/
def sd_ad (z0 b t i : Nat) : Nat := if t = 99 then b else z0 + ai_ps t i
def sd_v (z0 b : Nat) : ai_V → Value
  | Sum.inl x => .int x
  | Sum.inr (Sum.inl x) => .long x
  | Sum.inr (Sum.inr q) => .ref (sd_ad z0 b q.1 q.2)
def sd_q (z0 b : Nat) (o : Option (Nat × Nat)) : Option Nat := o.map fun q => sd_ad z0 b q.1 q.2
def sd_fv (z0 b : Nat) (I : Nat → Int32) (J : Nat → Int64) (Rf : Nat → Option (Nat × Nat)) (k : Nat) : Nat → Value
  | 1 => .long (J k)
  | 2 => va_rf (sd_q z0 b (Rf k))
  | _ => .int (I k)
def sd_fs (z0 b : Nat) (I : Nat → Int32) (J : Nat → Int64) (Rf : Nat → Option (Nat × Nat)) (c : Nat) : List Value := (List.range (sd_n c)).map fun k => sd_fv z0 b I J Rf k ((sd_ft c).getD k 0)
/-- which place of the list of array kinds -/
def sd_ti : Nat → Nat
  | 1 => 3
  | 2 => 4
  | _ => 5
def sd_e (cA : Nat → ClassId) (z0 b : Nat) (I : Nat → Int32) (J : Nat → Int64) (Rf : Nat → Option (Nat × Nat)) (t : Nat) : va_E := match ai_ko t with
  | some c => .inr (c, sd_fs z0 b I J Rf c)
  | none => match ai_ki t with
    | some n => .inl (cA 0, n, .inl I)
    | none => match ai_kj t with
      | some n => .inl (cA 1, n, .inr (.inl J))
      | none => match ai_kz t with
        | some n => .inl (cA 2, n, .inl I)
        | none => match ai_kr t with
          | some r => .inl (cA (sd_ti r.1), r.2, .inr (.inr (.inr (.inr (fun j => sd_q z0 b (Rf j))))))
          | none => .inl (cA 0, 0, .inl I)
def sd_en (cA : Nat → ClassId) (z0 b : Nat) (R : ai_R) (h : ai_H) (t i : Nat) : va_E := sd_e cA z0 b (ai_gI h t i) (ai_gJ h t i) (R t i) t
def sd_ws (cA : Nat → ClassId) (z0 b n : Nat) (R : ai_R) (h : ai_H) : va_W := (List.range n).map fun c => (z0 + c, sd_en cA z0 b R h (ai_or c).1 (ai_or c).2)
theorem sd_or_ps {t i : Nat} (ht : t < ai_T) (hi : i < ai_cn t) : ai_or (ai_ps t i) = (t, i) := by
  have h : (List.range ai_T).all (fun t => (List.range (ai_cn t)).all fun i => decide (ai_or (ai_ps t i) = (t, i))) = true := by decide +kernel
  exact of_decide_eq_true (List.all_eq_true.mp (List.all_eq_true.mp h t (List.mem_range.mpr ht)) i (List.mem_range.mpr hi))
theorem sd_ps_or {c : Nat} (hc : c < ai_N) : ai_ps (ai_or c).1 (ai_or c).2 = c ∧ (ai_or c).1 < ai_T ∧ (ai_or c).2 < ai_cn (ai_or c).1 := by
  have h : (List.range ai_N).all (fun c => decide (ai_ps (ai_or c).1 (ai_or c).2 = c ∧ (ai_or c).1 < ai_T ∧ (ai_or c).2 < ai_cn (ai_or c).1)) = true := by decide +kernel
  exact of_decide_eq_true (List.all_eq_true.mp h c (List.mem_range.mpr hc))
theorem sd_al {n t i : Nat} (h : ai_al n t i = true) : t < ai_T ∧ i < ai_cn t ∧ ai_ps t i < n ∧ ai_or (ai_ps t i) = (t, i) := by
  have h1 := of_decide_eq_true h
  exact ⟨h1.1, h1.2.1, h1.2.2, sd_or_ps h1.1 h1.2.1⟩
theorem sd_ad_al {n t i : Nat} (h : ai_al n t i = true) (z0 b : Nat) : sd_ad z0 b t i = z0 + ai_ps t i := by
  have h1 := (sd_al h).1
  unfold sd_ad
  rw [if_neg (by unfold ai_T at h1; omega)]
theorem sd_get {cA : Nat → ClassId} {z0 b n : Nat} {R : ai_R} {h : ai_H} {t i : Nat} (ha : ai_al n t i = true) : (sd_ws cA z0 b n R h)[ai_ps t i]? = some (sd_ad z0 b t i, sd_en cA z0 b R h t i) := by
  obtain ⟨h1, h2, h3, h4⟩ := sd_al ha
  unfold sd_ws
  rw [List.getElem?_map, List.getElem?_range h3]
  simp only [Option.map_some, h4]
  rw [sd_ad_al ha]
theorem sd_set {cA : Nat → ClassId} {z0 b n : Nat} {R R' : ai_R} {h h' : ai_H} {t i : Nat} {e : va_E} (hn : n ≤ ai_N) (ha : ai_al n t i = true) (he : e = sd_en cA z0 b R' h' t i)
    (ho : ∀ t' i', ¬ (t' = t ∧ i' = i) → sd_en cA z0 b R' h' t' i' = sd_en cA z0 b R h t' i') : (sd_ws cA z0 b n R h).set (ai_ps t i) (sd_ad z0 b t i, e) = sd_ws cA z0 b n R' h' := by
  obtain ⟨h1, h2, h3, h4⟩ := sd_al ha
  apply List.ext_getElem?
  intro j
  by_cases hj : j = ai_ps t i
  · subst hj
    rw [sd_get ha, List.getElem?_set_self (by unfold sd_ws; simp; exact h3), he]
  · rw [List.getElem?_set_ne (Ne.symm hj)]
    unfold sd_ws
    rw [List.getElem?_map, List.getElem?_map]
    by_cases hjn : j < n
    · rw [List.getElem?_range hjn]
      simp only [Option.map_some]
      rw [ho]
      rintro ⟨e1, e2⟩
      have := (sd_ps_or (c := j) (by omega)).1
      rw [e1, e2] at this
      exact hj this.symm
    · rw [List.getElem?_eq_none (by simp; omega)]
      rfl
theorem sd_push {cA : Nat → ClassId} {z0 b n : Nat} {R R' : ai_R} {h h' : ai_H} (hn : n < ai_N) (ho : ∀ t' i', ¬ (t' = (ai_or n).1 ∧ i' = (ai_or n).2) → sd_en cA z0 b R' h' t' i' = sd_en cA z0 b R h t' i') :
    sd_ws cA z0 b n R h ++ [(z0 + n, sd_en cA z0 b R' h' (ai_or n).1 (ai_or n).2)] = sd_ws cA z0 b (n + 1) R' h' := by
  unfold sd_ws
  rw [List.range_succ, List.map_append, List.map_singleton]
  congr 1
  apply List.map_congr_left
  intro c hc
  have hc := List.mem_range.mp hc
  rw [ho]
  rintro ⟨e1, e2⟩
  have h1 := (sd_ps_or (c := c) (by omega)).1
  have h2 := (sd_ps_or (c := n) hn).1
  rw [e1, e2] at h1
  omega
theorem sd_D {cA : Nat → ClassId} {z0 b n : Nat} {R : ai_R} {h : ai_H} : va_D (fun q => z0 ≤ q) (sd_ws cA z0 b n R h) := by
  have key : ∀ (k : Nat) (q : Nat × va_E), (sd_ws cA z0 b n R h)[k]? = some q → q.1 = z0 + k := by
    intro k q hq
    unfold sd_ws at hq
    rw [List.getElem?_map] at hq
    by_cases hk : k < n
    · rw [List.getElem?_range hk] at hq
      cases hq
      rfl
    · rw [List.getElem?_eq_none (by simp; omega)] at hq
      cases hq
  refine ⟨fun i j p q hi hj hpq => ?_, fun k q hk => ?_⟩
  · have h1 := key i p hi
    have h2 := key j q hj
    omega
  · show z0 ≤ q.1
    rw [key k q hk]
    omega
-- what a write leaves
theorem sd_gI_w {h : ai_H} {t i k : Nat} {v : Int32} {t' i' : Nat} (n : ¬ (t' = t ∧ i' = i)) : ai_gI (ai_wI h t i k v) t' i' = ai_gI h t' i' := by
  funext j
  rw [ai_gI_wI, if_neg (fun h => n ⟨h.1, h.2.1⟩)]
theorem sd_gJ_w {h : ai_H} {t i k : Nat} {v : Int64} {t' i' : Nat} (n : ¬ (t' = t ∧ i' = i)) : ai_gJ (ai_wJ h t i k v) t' i' = ai_gJ h t' i' := by
  funext j
  rw [ai_gJ_wJ, if_neg (fun h => n ⟨h.1, h.2.1⟩)]
theorem sd_R_w {R : ai_R} {t i k : Nat} {v : Option (Nat × Nat)} {t' i' : Nat} (n : ¬ (t' = t ∧ i' = i)) : ai_wR R t i k v t' i' = R t' i' := by
  funext j
  exact if_neg (fun h => n ⟨h.1, h.2.1⟩)
theorem sd_gI_u {h : ai_H} {t i k : Nat} {v : Int32} : ai_gI (ai_wI h t i k v) t i = upd (ai_gI h t i) k v := by
  funext j
  rw [ai_gI_wI]
  unfold upd
  by_cases hj : j = k
  · rw [if_pos ⟨rfl, rfl, hj⟩, if_pos hj]
  · rw [if_neg (fun h => hj h.2.2), if_neg hj]
theorem sd_gJ_u {h : ai_H} {t i k : Nat} {v : Int64} : ai_gJ (ai_wJ h t i k v) t i = vp_updL (ai_gJ h t i) k v := by
  funext j
  rw [ai_gJ_wJ]
  unfold vp_updL
  by_cases hj : j = k
  · rw [if_pos ⟨rfl, rfl, hj⟩, if_pos hj]
  · rw [if_neg (fun h => hj h.2.2), if_neg hj]
theorem sd_R_u {R : ai_R} {t i k : Nat} {v : Option (Nat × Nat)} : ai_wR R t i k v t i = va_up (R t i) k v := by
  funext j
  unfold ai_wR va_up
  by_cases hj : j = k
  · rw [if_pos ⟨rfl, rfl, hj⟩, if_pos hj]
  · rw [if_neg (fun h => hj h.2.2), if_neg hj]
theorem sd_wI_J {h : ai_H} {t i k : Nat} {v : Int32} {t' i' : Nat} : ai_gJ (ai_wI h t i k v) t' i' = ai_gJ h t' i' := rfl
theorem sd_wJ_I {h : ai_H} {t i k : Nat} {v : Int64} {t' i' : Nat} : ai_gI (ai_wJ h t i k v) t' i' = ai_gI h t' i' := rfl
theorem sd_en_wI {cA : Nat → ClassId} {z0 b : Nat} {R : ai_R} {h : ai_H} {t i k : Nat} {v : Int32} : ∀ t' i', ¬ (t' = t ∧ i' = i) → sd_en cA z0 b R (ai_wI h t i k v) t' i' = sd_en cA z0 b R h t' i' := by
  intro t' i' n
  unfold sd_en
  rw [sd_gI_w n, sd_wI_J]
theorem sd_en_wJ {cA : Nat → ClassId} {z0 b : Nat} {R : ai_R} {h : ai_H} {t i k : Nat} {v : Int64} : ∀ t' i', ¬ (t' = t ∧ i' = i) → sd_en cA z0 b R (ai_wJ h t i k v) t' i' = sd_en cA z0 b R h t' i' := by
  intro t' i' n
  unfold sd_en
  rw [sd_gJ_w n, sd_wJ_I]
theorem sd_en_wR {cA : Nat → ClassId} {z0 b : Nat} {R : ai_R} {h : ai_H} {t i k : Nat} {v : Option (Nat × Nat)} : ∀ t' i', ¬ (t' = t ∧ i' = i) → sd_en cA z0 b (ai_wR R t i k v) h t' i' = sd_en cA z0 b R h t' i' := by
  intro t' i' n
  unfold sd_en
  rw [sd_R_w n]
theorem sd_en_z {cA : Nat → ClassId} {z0 b : Nat} {R : ai_R} {h : ai_H} {t i : Nat} : ∀ t' i', ¬ (t' = t ∧ i' = i) → sd_en cA z0 b (ai_zR R t i) (ai_zH h t i) t' i' = sd_en cA z0 b R h t' i' := by
  intro t' i' n
  unfold sd_en
  have e1 : ai_gI (ai_zH h t i) t' i' = ai_gI h t' i' := by
    funext j
    rw [ai_gI_zH, if_neg n]
  have e2 : ai_gJ (ai_zH h t i) t' i' = ai_gJ h t' i' := by
    funext j
    rw [ai_gJ_zH, if_neg n]
  have e3 : ai_zR R t i t' i' = R t' i' := by
    funext j
    exact if_neg n
  rw [e1, e2, e3]
theorem sd_fs_get {z0 b : Nat} {I : Nat → Int32} {J : Nat → Int64} {Rf : Nat → Option (Nat × Nat)} {c k f : Nat} (hk : k < sd_n c) (hf : (sd_ft c)[k]? = some f) : (sd_fs z0 b I J Rf c)[k]? = some (sd_fv z0 b I J Rf k f) := by
  unfold sd_fs
  rw [List.getElem?_map, List.getElem?_range hk, Option.map_some, List.getD_eq_getElem?_getD, hf]
  rfl
theorem sd_fs_len {z0 b : Nat} {I : Nat → Int32} {J : Nat → Int64} {Rf : Nat → Option (Nat × Nat)} {c : Nat} : (sd_fs z0 b I J Rf c).length = sd_n c := by
  unfold sd_fs
  simp
theorem sd_fs_set {z0 b : Nat} {I I' : Nat → Int32} {J J' : Nat → Int64} {Rf Rf' : Nat → Option (Nat × Nat)} {c k f : Nat} {v : Value} (hk : k < sd_n c) (hf : (sd_ft c)[k]? = some f) (hv : v = sd_fv z0 b I' J' Rf' k f)
    (hI : ∀ j, j ≠ k → I' j = I j) (hJ : ∀ j, j ≠ k → J' j = J j) (hR : ∀ j, j ≠ k → Rf' j = Rf j) : (sd_fs z0 b I J Rf c).set k v = sd_fs z0 b I' J' Rf' c := by
  apply List.ext_getElem?
  intro j
  by_cases hj : j = k
  · subst hj
    rw [List.getElem?_set_self (by rw [sd_fs_len]; exact hk), sd_fs_get hk hf, hv]
  · rw [List.getElem?_set_ne (Ne.symm hj)]
    unfold sd_fs
    rw [List.getElem?_map, List.getElem?_map]
    by_cases hjn : j < sd_n c
    · rw [List.getElem?_range hjn, Option.map_some, Option.map_some]
      unfold sd_fv
      rw [hI j hj, hJ j hj, hR j hj]
    · rw [List.getElem?_eq_none (by simp; omega)]
      rfl
-- locals
def sd_l (z0 b : Nat) : Nat → ai_L → List (Nat × Value)
  | _, [] => []
  | k, none :: l => sd_l z0 b (k + 1) l
  | k, some v :: l => (k, sd_v z0 b v) :: sd_l z0 b (k + 1) l
theorem sd_l_in {z0 b : Nat} : ∀ (l : ai_L) (k j : Nat) (v : ai_V), l[j]? = some (some v) → (k + j, sd_v z0 b v) ∈ sd_l z0 b k l
  | [], k, j, v, h => by simp at h
  | a :: l, k, 0, v, h => by
    have h1 : a = some v := Option.some.inj h
    subst h1
    exact List.mem_cons_self
  | a :: l, k, j + 1, v, h => by
    have h1 : l[j]? = some (some v) := h
    have h2 := sd_l_in (z0 := z0) (b := b) l (k + 1) j v h1
    rw [show k + 1 + j = k + (j + 1) by omega] at h2
    cases a with
    | none => exact h2
    | some w => exact List.mem_cons_of_mem _ h2
theorem sd_l_of {z0 b : Nat} : ∀ (l : ai_L) (k : Nat) (q : Nat × Value), q ∈ sd_l z0 b k l → ∃ j v, q = (k + j, sd_v z0 b v) ∧ l[j]? = some (some v)
  | [], k, q, h => by cases h
  | none :: l, k, q, h => by
    obtain ⟨j, v, h1, h2⟩ := sd_l_of l (k + 1) q h
    exact ⟨j + 1, v, by rw [h1]; congr 1; omega, h2⟩
  | some w :: l, k, q, h => by
    rcases List.mem_cons.mp h with h | h
    · exact ⟨0, w, h, rfl⟩
    · obtain ⟨j, v, h1, h2⟩ := sd_l_of l (k + 1) q h
      exact ⟨j + 1, v, by rw [h1]; congr 1; omega, h2⟩
theorem sd_cat {z0 b : Nat} (v : ai_V) : (sd_v z0 b v).category = if ai_wide (some v) = true then 2 else 1 := by
  rcases v with x | x | x <;> rfl
theorem sd_cut_len : ∀ (l : ai_L) (k : Nat), (ai_cut l k).length = l.length
  | [], _ => rfl
  | a :: l, 0 => rfl
  | a :: l, 1 => rfl
  | a :: l, k + 2 => congrArg (· + 1) (sd_cut_len l (k + 1))
theorem sd_cut_get : ∀ (l : ai_L) (k j : Nat) (v : ai_V), (ai_cut l k)[j]? = some (some v) → l[j]? = some (some v) ∧ ¬ (j + 1 = k ∧ ai_wide (some v) = true)
  | [], _, j, v, h => by simp [ai_cut] at h
  | a :: l, 0, j, v, h => ⟨h, by omega⟩
  | a :: l, 1, 0, v, h => by
    have h1 : (if ai_wide a = true then none else a) = some v := Option.some.inj h
    split at h1
    · cases h1
    · rename_i g
      subst h1
      exact ⟨rfl, fun q => g q.2⟩
  | a :: l, 1, j + 1, v, h => ⟨h, by omega⟩
  | a :: l, k + 2, 0, v, h => ⟨h, by omega⟩
  | a :: l, k + 2, j + 1, v, h => by
    have h1 := sd_cut_get l (k + 1) j v h
    exact ⟨h1.1, fun q => h1.2 ⟨by omega, q.2⟩⟩
theorem sd_st1_has {z0 b nL k : Nat} {ls ls' : ai_L} {v : ai_V} {A : Array Slot} (hs : ai_st1 ls k v = some ls') (h : lv_has A nL ((k, sd_v z0 b v) :: (sd_l z0 b 0 ls).filter (fun q => !(q.1 == k) && !(q.1 + 1 == k && q.2.category == 2)))) : lv_has A nL (sd_l z0 b 0 ls') ∧ ls'.length = ls.length ∧ k < ls.length := by
  unfold ai_st1 at hs
  split at hs
  · rename_i hk
    cases hs
    refine ⟨⟨h.1, h.2.1, fun q hq => h.2.2 q ?_⟩, by rw [List.length_set, sd_cut_len], hk⟩
    obtain ⟨j, w, h1, h2⟩ := sd_l_of _ _ q hq
    rw [Nat.zero_add] at h1
    by_cases hj : j = k
    · subst hj
      rw [List.getElem?_set_self (by rw [sd_cut_len]; exact hk)] at h2
      cases h2
      rw [h1]
      exact List.mem_cons_self
    · rw [List.getElem?_set_ne (Ne.symm hj)] at h2
      obtain ⟨h3, h4⟩ := sd_cut_get _ _ _ _ h2
      refine List.mem_cons_of_mem _ (List.mem_filter.mpr ⟨?_, ?_⟩)
      · rw [h1]
        have h5 := sd_l_in (z0 := z0) (b := b) ls 0 j w h3
        rw [Nat.zero_add] at h5
        exact h5
      · rw [h1]
        have e1 : (j == k) = false := by simpa using hj
        simp only [e1, Bool.not_false, Bool.true_and, sd_cat]
        by_cases g : ai_wide (some w) = true
        · have e2 : (j + 1 == k) = false := by simpa using fun q => h4 ⟨q, g⟩
          simp [e2]
        · simp [g]
  · cases hs
theorem sd_st2_has {z0 b nL k : Nat} {ls ls' : ai_L} {v : ai_V} {A : Array Slot} (hs : ai_st2 ls k v = some ls') (h : lv_has A nL ((k, sd_v z0 b v) :: (sd_l z0 b 0 ls).filter (fun q => !(q.1 == k) && (!(q.1 == k + 1) && !(q.1 + 1 == k && q.2.category == 2))))) : lv_has A nL (sd_l z0 b 0 ls') ∧ ls'.length = ls.length ∧ k + 1 < ls.length := by
  unfold ai_st2 at hs
  split at hs
  · rename_i hk
    cases hs
    refine ⟨⟨h.1, h.2.1, fun q hq => h.2.2 q ?_⟩, by rw [List.length_set, List.length_set, sd_cut_len], hk⟩
    obtain ⟨j, w, h1, h2⟩ := sd_l_of _ _ q hq
    rw [Nat.zero_add] at h1
    by_cases hj1 : j = k + 1
    · subst hj1
      rw [List.getElem?_set_self (by rw [List.length_set, sd_cut_len]; exact hk)] at h2
      cases h2
    · rw [List.getElem?_set_ne (Ne.symm hj1)] at h2
      by_cases hj : j = k
      · subst hj
        rw [List.getElem?_set_self (by rw [sd_cut_len]; omega)] at h2
        cases h2
        rw [h1]
        exact List.mem_cons_self
      · rw [List.getElem?_set_ne (Ne.symm hj)] at h2
        obtain ⟨h3, h4⟩ := sd_cut_get _ _ _ _ h2
        refine List.mem_cons_of_mem _ (List.mem_filter.mpr ⟨?_, ?_⟩)
        · rw [h1]
          have h5 := sd_l_in (z0 := z0) (b := b) ls 0 j w h3
          rw [Nat.zero_add] at h5
          exact h5
        · rw [h1]
          have e1 : (j == k) = false := by simpa using hj
          have e3 : (j == k + 1) = false := by simpa using hj1
          simp only [e1, e3, Bool.not_false, Bool.true_and, sd_cat]
          by_cases g : ai_wide (some w) = true
          · have e2 : (j + 1 == k) = false := by simpa using fun q => h4 ⟨q, g⟩
            simp [e2]
          · simp [g]
  · cases hs
theorem sd_ldi {z0 b nL k : Nat} {ls : ai_L} {x : Int32} {A : Array Slot} (h : lv_has A nL (sd_l z0 b 0 ls)) (e : ai_ldi ls k = some x) : A[k]? = some (.val (.int x)) := by
  have h1 : ls[k]? = some (some (Sum.inl x)) := by
    unfold ai_ldi at e
    split at e
    · rename_i g
      cases e
      exact g
    · cases e
  have h2 := sd_l_in (z0 := z0) (b := b) ls 0 k _ h1
  rw [Nat.zero_add] at h2
  exact h.2.2 _ h2
theorem sd_ldi_in {z0 b k : Nat} {ls : ai_L} {x : Int32} (e : ai_ldi ls k = some x) : ∃ j : Nat, (sd_l z0 b 0 ls)[j]? = some (k, Value.int x) := by
  have h1 : ls[k]? = some (some (Sum.inl x)) := by
    unfold ai_ldi at e
    split at e
    · rename_i g
      cases e
      exact g
    · cases e
  have h2 := sd_l_in (z0 := z0) (b := b) ls 0 k _ h1
  rw [Nat.zero_add] at h2
  exact List.getElem?_of_mem h2
theorem sd_ldj {z0 b nL k : Nat} {ls : ai_L} {x : Int64} {A : Array Slot} (h : lv_has A nL (sd_l z0 b 0 ls)) (e : ai_ldj ls k = some x) : A[k]? = some (.val (.long x)) := by
  have h1 : ls[k]? = some (some (Sum.inr (Sum.inl x))) := by
    unfold ai_ldj at e
    split at e
    · rename_i g
      cases e
      exact g
    · cases e
  have h2 := sd_l_in (z0 := z0) (b := b) ls 0 k _ h1
  rw [Nat.zero_add] at h2
  exact h.2.2 _ h2
theorem sd_ldr {z0 b nL k : Nat} {ls : ai_L} {x : Nat × Nat} {A : Array Slot} (h : lv_has A nL (sd_l z0 b 0 ls)) (e : ai_ldr ls k = some x) : A[k]? = some (.val (.ref (sd_ad z0 b x.1 x.2))) := by
  have h1 : ls[k]? = some (some (Sum.inr (Sum.inr x))) := by
    unfold ai_ldr at e
    split at e
    · rename_i g
      cases e
      exact g
    · cases e
  have h2 := sd_l_in (z0 := z0) (b := b) ls 0 k _ h1
  rw [Nat.zero_add] at h2
  exact h.2.2 _ h2
-- the words' side, and the world
def sd_ty (cA : Nat → ClassId) : List (ClassId × FieldType) := [(cA 0, .int), (cA 1, .long), (cA 2, .boolean), (cA 3, .object (sd_R 1)), (cA 4, .object (sd_R 2)), (cA 5, .object (sd_R 5))]
def sd_K (D : va_G) (cA : Nat → ClassId) (U : State) : Prop := va_K D sd_cl (sd_ty cA) U ∧ (∀ q ∈ sd_lf, va_Nw (.fieldLinkNest q.1 q.2.1 q.2.2.1 q.2.2.2.1 q.2.2.2.2.1 q.2.2.2.2.2) U) ∧ (∀ q ∈ sd_lm, va_Nw (.methodLinkNest q.1 q.2.1 q.2.2.1 q.2.2.2) U) ∧
  (∀ q ∈ sd_la, va_Nw (.castable q.1 q.2) U) ∧ (∀ q ∈ sd_ld, va_Nw (.declares q) U) ∧ (∀ q ∈ sd_ls, ∃ a, vk_R q.1 q.2.1 q.2.2 a U) ∧ (∀ q ∈ sd_lo, va_AO q U) ∧ ∀ E F : Nat, E < 4 → F < 4 → 0 < E → 0 < F → E ≠ F → va_Nc (sd_xn E) (sd_xn F) U
theorem sd_K.moved {D : va_G} {cA : Nat → ClassId} {s U : State} (hW : s.WarmedH U.vm) (h : sd_K D cA s) : sd_K D cA U :=
  ⟨h.1.moved hW.alike, fun q hq => (h.2.1 q hq).warmF hW, fun q hq => (h.2.2.1 q hq).warmM hW, fun q hq => (h.2.2.2.1 q hq).warmC hW, fun q hq => (h.2.2.2.2.1 q hq).warmD hW, fun q hq => by
    obtain ⟨a, ha⟩ := h.2.2.2.2.2.1 q hq
    exact ⟨a, ha.warm hW⟩, fun q hq => (h.2.2.2.2.2.2.1 q hq).moved hW.alike, fun E F a b c d e => (h.2.2.2.2.2.2.2 E F a b c d e).moved hW.alike⟩
def sd_W (D : va_G) (cA : Nat → ClassId) (z0 b L : Nat) (xs : Nat → Int32) (z : ai_Z) (h : ai_H) (H : Heap) : Prop := va_P D sd_cl (sd_ws cA z0 b z.1 z.2.2.2 h) H ∧ z.1 ≤ ai_N ∧ z0 ≤ H.size ∧ (∀ j, ai_gI h 99 0 j = xs j) ∧ z.2.2.1 = L
def sd_U (D : va_G) (cA : Nat → ClassId) (z0 b L : Nat) (xs : Nat → Int32) (z : ai_Z) (h : ai_H) (U : State) : Prop := sd_W D cA z0 b L xs z h U.heap ∧ (z.2.1 = 0 → U.heap.size = z0 + z.1) ∧ sd_K D cA U ∧ va_X b L xs U U.heap ∧ b < z0 ∧ vx_Zq Bundle.tN "UNASSIGNED_STACK" Bundle.steD (fun q => z0 ≤ q) U U.heap ∧ vx_Zq Bundle.tN "SUPPRESSED_SENTINEL" Bundle.listD (fun q => z0 ≤ q) U U.heap
