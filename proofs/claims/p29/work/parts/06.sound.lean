/-! What the small machine's state is in the kit's -/
/-- how far a cell lies from the first one -/
def sd_of (t i : Nat) : Nat := if t = 90 ∨ t = 91 then i else ai_ps t i
def sd_ad (z0 b t i : Nat) : Nat := if t = 99 then b else z0 + sd_of t i
def sd_v (z0 b : Nat) : ai_V → Value
  | Sum.inl x => .int x
  | Sum.inr (Sum.inl x) => .long x
  | Sum.inr (Sum.inr q) => .ref (sd_ad z0 b q.1 q.2)
def sd_q (z0 b : Nat) (o : Option (Nat × Nat)) : Option Nat := o.map fun q => sd_ad z0 b q.1 q.2
def sd_fv (z0 b : Nat) (I : Nat → Int32) (J : Nat → Int64) (Rf : Nat → Option (Nat × Nat)) (k : Nat) : Nat → Value
  | 1 => .long (J k)
  | 2 => va_rf (sd_q z0 b (Rf k))
  | _ => .int (I k)
def sd_fs (z0 b : Nat) (I : Nat → Int32) (J : Nat → Int64) (Rf : Nat → Option (Nat × Nat)) (c : Nat) : List Value := (List.range (sd_n c)).map fun k => sd_fv z0 b I J Rf k ((sd_ft c).getD k 0)
/-- which place of the list of array kinds -/
def sd_ti : Nat → Nat
  | 1 => 3
  | 2 => 4
  | _ => 5
def sd_e (cA : Nat → ClassId) (z0 b : Nat) (I : Nat → Int32) (J : Nat → Int64) (Rf : Nat → Option (Nat × Nat)) (t : Nat) : va_E := match ai_ko t with
  | some c => .inr (c, sd_fs z0 b I J Rf c)
  | none => match ai_ki t with
    | some n => .inl (cA 0, n, .inl I)
    | none => match ai_kj t with
      | some n => .inl (cA 1, n, .inr (.inl J))
      | none => match ai_kz t with
        | some n => .inl (cA 2, n, .inl I)
        | none => match ai_kr t with
          | some r => .inl (cA (sd_ti r.1), r.2, .inr (.inr (.inr (.inr (fun j => sd_q z0 b (Rf j))))))
          | none => .inl (cA 0, 0, .inl I)
def sd_en (cA : Nat → ClassId) (z0 b : Nat) (R : ai_R) (h : ai_H) (t i : Nat) : va_E := if t = 90 then .inl (cA 1, 5, .inr (.inl (ai_gJ h t i))) else if t = 91 then .inl (cA 0, 10, .inl (ai_gI h t i)) else sd_e cA z0 b (ai_gI h t i) (ai_gJ h t i) (R t i) t
/-- the arrays that were made later, among k cells behind the n first -/
def sd_dm (h : ai_H) (n : Nat) : Nat → List (Nat × Nat)
  | 0 => []
  | k + 1 => sd_dm h n k ++ (if ai_gI h 98 (n + k) 0 = 90 then [(90, n + k)] else if ai_gI h 98 (n + k) 0 = 91 then [(91, n + k)] else [])
def sd_nl (h : ai_H) (n k : Nat) : List (Nat × Nat) := (List.range n).map ai_or ++ sd_dm h n k
def sd_ws (cA : Nat → ClassId) (z0 b n k : Nat) (R : ai_R) (h : ai_H) : va_W := (sd_nl h n k).map fun q => (sd_ad z0 b q.1 q.2, sd_en cA z0 b R h q.1 q.2)
theorem sd_or_ps {t i : Nat} (ht : t < ai_T) (hi : i < ai_cn t) : ai_or (ai_ps t i) = (t, i) := by
  have h : (List.range ai_T).all (fun t => (List.range (ai_cn t)).all fun i => decide (ai_or (ai_ps t i) = (t, i))) = true := by decide +kernel
  exact of_decide_eq_true (List.all_eq_true.mp (List.all_eq_true.mp h t (List.mem_range.mpr ht)) i (List.mem_range.mpr hi))
theorem sd_ps_or {c : Nat} (hc : c < ai_N) : ai_ps (ai_or c).1 (ai_or c).2 = c ∧ (ai_or c).1 < ai_T ∧ (ai_or c).2 < ai_cn (ai_or c).1 := by
  have h : (List.range ai_N).all (fun c => decide (ai_ps (ai_or c).1 (ai_or c).2 = c ∧ (ai_or c).1 < ai_T ∧ (ai_or c).2 < ai_cn (ai_or c).1)) = true := by decide +kernel
  exact of_decide_eq_true (List.all_eq_true.mp h c (List.mem_range.mpr hc))
theorem sd_of_or {c : Nat} (hc : c < ai_N) : sd_of (ai_or c).1 (ai_or c).2 = c := by
  obtain ⟨h1, h2, -⟩ := sd_ps_or hc
  unfold ai_T at h2
  unfold sd_of
  rw [if_neg (by omega), h1]
theorem sd_al {n t i : Nat} (h : ai_al n t i = true) : t < ai_T ∧ i < ai_cn t ∧ ai_ps t i < n ∧ ai_or (ai_ps t i) = (t, i) := by
  have h1 := of_decide_eq_true h
  exact ⟨h1.1, h1.2.1, h1.2.2, sd_or_ps h1.1 h1.2.1⟩
theorem sd_ad_al {n t i : Nat} (h : ai_al n t i = true) (z0 b : Nat) : sd_ad z0 b t i = z0 + ai_ps t i := by
  have h1 := (sd_al h).1
  unfold ai_T at h1
  unfold sd_ad sd_of
  rw [if_neg (by omega), if_neg (by omega)]
theorem sd_dm_in {h : ai_H} {n : Nat} : ∀ (k : Nat) (q : Nat × Nat), q ∈ sd_dm h n k → (q.1 = 90 ∨ q.1 = 91) ∧ n ≤ q.2 ∧ q.2 < n + k ∧ ai_gI h 98 q.2 0 = Int32.ofNat q.1
  | 0, q, hq => by cases hq
  | k + 1, q, hq => by
    unfold sd_dm at hq
    rcases List.mem_append.mp hq with hq | hq
    · obtain ⟨h1, h2, h3, h4⟩ := sd_dm_in k q hq
      exact ⟨h1, h2, by omega, h4⟩
    · split at hq
      · rename_i g
        cases List.mem_singleton.mp hq
        exact ⟨Or.inl rfl, by show n ≤ n + k; omega, by show n + k < n + (k + 1); omega, g⟩
      · split at hq
        · rename_i g
          cases List.mem_singleton.mp hq
          exact ⟨Or.inr rfl, by show n ≤ n + k; omega, by show n + k < n + (k + 1); omega, g⟩
        · cases hq
theorem sd_dm_of {h : ai_H} {n t i : Nat} (ht : t = 90 ∨ t = 91) (hm : ai_gI h 98 i 0 = Int32.ofNat t) (h1 : n ≤ i) : ∀ k, i < n + k → (t, i) ∈ sd_dm h n k
  | 0, h2 => absurd h2 (by omega)
  | k + 1, h2 => by
    unfold sd_dm
    by_cases e : i = n + k
    · subst e
      refine List.mem_append_right _ ?_
      rcases ht with rfl | rfl
      · have hm : ai_gI h 98 (n + k) 0 = 90 := hm
        rw [if_pos hm]
        exact List.mem_singleton.mpr rfl
      · have hm : ai_gI h 98 (n + k) 0 = 91 := hm
        rw [if_neg (by rw [hm]; decide +kernel), if_pos hm]
        exact List.mem_singleton.mpr rfl
    · exact List.mem_append_left _ (sd_dm_of ht hm h1 k (by omega))
theorem sd_dm_eq {h h' : ai_H} {n : Nat} : ∀ k, (∀ i, n ≤ i → i < n + k → ai_gI h' 98 i 0 = ai_gI h 98 i 0) → sd_dm h' n k = sd_dm h n k
  | 0, _ => rfl
  | k + 1, hh => by
    unfold sd_dm
    rw [sd_dm_eq k fun i a b => hh i a (by omega), hh (n + k) (by omega) (by omega)]
theorem sd_dm_pw {h : ai_H} {n : Nat} : ∀ k, (sd_dm h n k).Pairwise fun p q => sd_of p.1 p.2 < sd_of q.1 q.2
  | 0 => List.Pairwise.nil
  | k + 1 => by
    unfold sd_dm
    rw [List.pairwise_append]
    refine ⟨sd_dm_pw k, ?_, fun p hp q hq => ?_⟩
    · split
      · exact List.pairwise_singleton _ _
      · split
        · exact List.pairwise_singleton _ _
        · exact List.Pairwise.nil
    · obtain ⟨h1, h2, h3, -⟩ := sd_dm_in k p hp
      have e1 : sd_of p.1 p.2 = p.2 := if_pos h1
      have e2 : sd_of q.1 q.2 = n + k := by
        split at hq
        · cases List.mem_singleton.mp hq
          exact if_pos (Or.inl rfl)
        · split at hq
          · cases List.mem_singleton.mp hq
            exact if_pos (Or.inr rfl)
          · cases hq
      rw [e1, e2]
      exact h3
theorem sd_nl_pw {h : ai_H} {n k : Nat} (hn : n ≤ ai_N) : (sd_nl h n k).Pairwise fun p q => sd_of p.1 p.2 < sd_of q.1 q.2 := by
  unfold sd_nl
  rw [List.pairwise_append]
  refine ⟨?_, sd_dm_pw k, fun p hp q hq => ?_⟩
  · rw [List.pairwise_map]
    refine List.Pairwise.imp_of_mem ?_ List.pairwise_lt_range
    intro a b ha hb hab
    have ha := List.mem_range.mp ha
    have hb := List.mem_range.mp hb
    rw [sd_of_or (by omega), sd_of_or (by omega)]
    exact hab
  · obtain ⟨c, hc, rfl⟩ := List.mem_map.mp hp
    have hc := List.mem_range.mp hc
    obtain ⟨h1, h2, h3, -⟩ := sd_dm_in k q hq
    have e2 : sd_of q.1 q.2 = q.2 := if_pos h1
    rw [sd_of_or (by omega), e2]
    omega
theorem sd_nl_one {h : ai_H} {n k i j : Nat} {p q : Nat × Nat} (hn : n ≤ ai_N) (hi : (sd_nl h n k)[i]? = some p) (hj : (sd_nl h n k)[j]? = some q) (e : sd_of p.1 p.2 = sd_of q.1 q.2) : i = j := by
  have hp := List.pairwise_iff_getElem.mp (sd_nl_pw (h := h) (k := k) hn)
  obtain ⟨li, ei⟩ := List.getElem?_eq_some_iff.mp hi
  obtain ⟨lj, ej⟩ := List.getElem?_eq_some_iff.mp hj
  rcases Nat.lt_trichotomy i j with g | g | g
  · have := hp i j li lj g
    rw [ei, ej] at this
    omega
  · exact g
  · have := hp j i lj li g
    rw [ei, ej] at this
    omega
theorem sd_nl_99 {h : ai_H} {n k : Nat} {q : Nat × Nat} (hn : n ≤ ai_N) (hq : q ∈ sd_nl h n k) : (q.1 < ai_T ∧ ai_ps q.1 q.2 < n) ∨ ((q.1 = 90 ∨ q.1 = 91) ∧ n ≤ q.2 ∧ q.2 < n + k) := by
  rcases List.mem_append.mp hq with hq | hq
  · obtain ⟨c, hc, rfl⟩ := List.mem_map.mp hq
    have hc := List.mem_range.mp hc
    obtain ⟨h1, h2, -⟩ := sd_ps_or (c := c) (by omega)
    exact Or.inl ⟨h2, by rw [h1]; exact hc⟩
  · obtain ⟨h1, h2, h3, -⟩ := sd_dm_in k q hq
    exact Or.inr ⟨h1, h2, h3⟩
theorem sd_nl_ad {h : ai_H} {n k : Nat} {q : Nat × Nat} (hn : n ≤ ai_N) (hq : q ∈ sd_nl h n k) (z0 b : Nat) : sd_ad z0 b q.1 q.2 = z0 + sd_of q.1 q.2 := by
  have h1 := sd_nl_99 hn hq
  unfold ai_T at h1
  unfold sd_ad
  rw [if_neg (by omega)]
theorem sd_nl_get {h : ai_H} {n k t i : Nat} (ha : ai_al n t i = true) : (sd_nl h n k)[ai_ps t i]? = some (t, i) := by
  obtain ⟨h1, h2, h3, h4⟩ := sd_al ha
  unfold sd_nl
  rw [List.getElem?_append_left (by simp; exact h3), List.getElem?_map, List.getElem?_range h3, Option.map_some, h4]
theorem sd_ws_get {cA : Nat → ClassId} {z0 b n k j : Nat} {R : ai_R} {h : ai_H} {q : Nat × Nat} (hq : (sd_nl h n k)[j]? = some q) : (sd_ws cA z0 b n k R h)[j]? = some (sd_ad z0 b q.1 q.2, sd_en cA z0 b R h q.1 q.2) := by
  unfold sd_ws
  rw [List.getElem?_map, hq]
  rfl
theorem sd_get {cA : Nat → ClassId} {z0 b n k : Nat} {R : ai_R} {h : ai_H} {t i : Nat} (ha : ai_al n t i = true) : (sd_ws cA z0 b n k R h)[ai_ps t i]? = some (sd_ad z0 b t i, sd_en cA z0 b R h t i) := sd_ws_get (sd_nl_get ha)
theorem sd_getd {h : ai_H} {n k t i : Nat} (ht : t = 90 ∨ t = 91) (hm : ai_gI h 98 i 0 = Int32.ofNat t) (h1 : n ≤ i) (h2 : i < n + k) : ∃ j : Nat, (sd_nl h n k)[j]? = some (t, i) :=
  List.getElem?_of_mem (List.mem_append_right _ (sd_dm_of ht hm h1 k h2))
theorem sd_setn {cA : Nat → ClassId} {z0 b n k j : Nat} {R R' : ai_R} {h h' : ai_H} {q : Nat × Nat} {e : va_E} (hn : n ≤ ai_N) (hq : (sd_nl h n k)[j]? = some q) (hm : ∀ i, ai_gI h' 98 i 0 = ai_gI h 98 i 0) (he : e = sd_en cA z0 b R' h' q.1 q.2)
    (ho : ∀ t' i', ¬ (t' = q.1 ∧ i' = q.2) → sd_en cA z0 b R' h' t' i' = sd_en cA z0 b R h t' i') : (sd_ws cA z0 b n k R h).set j (sd_ad z0 b q.1 q.2, e) = sd_ws cA z0 b n k R' h' := by
  have hnl : sd_nl h' n k = sd_nl h n k := by
    unfold sd_nl
    rw [sd_dm_eq k fun i _ _ => hm i]
  apply List.ext_getElem?
  intro i
  by_cases hij : i = j
  · subst hij
    have hl : i < (sd_ws cA z0 b n k R h).length := by
      unfold sd_ws
      rw [List.length_map]
      exact (List.getElem?_eq_some_iff.mp hq).1
    rw [List.getElem?_set_self hl, sd_ws_get (h := h') (q := q) (by rw [hnl]; exact hq), he]
  · rw [List.getElem?_set_ne (Ne.symm hij)]
    cases hp : (sd_nl h n k)[i]? with
    | none =>
      have e1 : (sd_ws cA z0 b n k R h)[i]? = none := by unfold sd_ws; rw [List.getElem?_map, hp]; rfl
      have e2 : (sd_ws cA z0 b n k R' h')[i]? = none := by unfold sd_ws; rw [List.getElem?_map, hnl, hp]; rfl
      rw [e1, e2]
    | some p =>
      rw [sd_ws_get hp, sd_ws_get (h := h') (by rw [hnl]; exact hp), ho]
      rintro ⟨e1, e2⟩
      exact hij (sd_nl_one hn hp hq (by rw [e1, e2]))
theorem sd_set {cA : Nat → ClassId} {z0 b n k : Nat} {R R' : ai_R} {h h' : ai_H} {t i : Nat} {e : va_E} (hn : n ≤ ai_N) (ha : ai_al n t i = true) (hm : ∀ i, ai_gI h' 98 i 0 = ai_gI h 98 i 0) (he : e = sd_en cA z0 b R' h' t i)
    (ho : ∀ t' i', ¬ (t' = t ∧ i' = i) → sd_en cA z0 b R' h' t' i' = sd_en cA z0 b R h t' i') : (sd_ws cA z0 b n k R h).set (ai_ps t i) (sd_ad z0 b t i, e) = sd_ws cA z0 b n k R' h' := sd_setn hn (sd_nl_get ha) hm he ho
theorem sd_push {cA : Nat → ClassId} {z0 b n : Nat} {R R' : ai_R} {h h' : ai_H} (hn : n < ai_N) (ho : ∀ t' i', ¬ (t' = (ai_or n).1 ∧ i' = (ai_or n).2) → sd_en cA z0 b R' h' t' i' = sd_en cA z0 b R h t' i') :
    sd_ws cA z0 b n 0 R h ++ [(z0 + n, sd_en cA z0 b R' h' (ai_or n).1 (ai_or n).2)] = sd_ws cA z0 b (n + 1) 0 R' h' := by
  have e1 : sd_ad z0 b (ai_or n).1 (ai_or n).2 = z0 + n := by
    rw [sd_nl_ad (h := h) (n := n + 1) (k := 0) (by omega) (List.mem_append_left _ (List.mem_map.mpr ⟨n, List.mem_range.mpr (Nat.lt_succ_self n), rfl⟩)), sd_of_or hn]
  have e2 : sd_nl h' (n + 1) 0 = sd_nl h n 0 ++ [ai_or n] := by
    unfold sd_nl sd_dm
    rw [List.range_succ, List.map_append, List.map_singleton, List.append_nil, List.append_nil]
  unfold sd_ws
  rw [e2, List.map_append, List.map_singleton, e1]
  congr 1
  apply List.map_congr_left
  intro q hq
  rw [ho]
  rintro ⟨g1, g2⟩
  have h3 := sd_nl_99 (by omega) hq
  have h1 := sd_ps_or (c := n) hn
  rcases h3 with ⟨h4, h5⟩ | ⟨h4, -⟩
  · rw [g1, g2, h1.1] at h5
    omega
  · have h6 := h1.2.1
    unfold ai_T at h6
    omega
theorem sd_pushd {cA : Nat → ClassId} {z0 b n k t : Nat} {R : ai_R} {h h' : ai_H} (hn : n ≤ ai_N) (ht : t = 90 ∨ t = 91) (hm : ai_gI h' 98 (n + k) 0 = Int32.ofNat t) (hmo : ∀ i, ¬ i = n + k → ai_gI h' 98 i 0 = ai_gI h 98 i 0)
    (ho : ∀ t' i', ¬ t' = 98 → ¬ (t' = t ∧ i' = n + k) → sd_en cA z0 b R h' t' i' = sd_en cA z0 b R h t' i') :
    sd_ws cA z0 b n k R h ++ [(z0 + (n + k), sd_en cA z0 b R h' t (n + k))] = sd_ws cA z0 b n (k + 1) R h' := by
  have e2 : sd_nl h' n (k + 1) = sd_nl h n k ++ [(t, n + k)] := by
    show (List.range n).map ai_or ++ (sd_dm h' n k ++ _) = ((List.range n).map ai_or ++ sd_dm h n k) ++ _
    rw [sd_dm_eq (h := h) k fun i _ g => hmo i (by omega), List.append_assoc]
    congr 2
    rcases ht with rfl | rfl
    · have hm : ai_gI h' 98 (n + k) 0 = 90 := hm
      rw [if_pos hm]
    · have hm : ai_gI h' 98 (n + k) 0 = 91 := hm
      rw [if_neg (by rw [hm]; decide +kernel), if_pos hm]
  have e1 : sd_ad z0 b t (n + k) = z0 + (n + k) := by
    unfold sd_ad sd_of
    rw [if_neg (by omega), if_pos ht]
  unfold sd_ws
  rw [e2, List.map_append, List.map_singleton]
  show _ = _ ++ [(sd_ad z0 b t (n + k), sd_en cA z0 b R h' t (n + k))]
  rw [e1]
  congr 1
  apply List.map_congr_left
  intro q hq
  have h3 := sd_nl_99 hn hq
  unfold ai_T at h3
  rw [ho q.1 q.2 (by omega) (by omega)]
theorem sd_same {cA : Nat → ClassId} {z0 b n k : Nat} {R : ai_R} {h : ai_H} (h0 : ai_gI h 98 (n + k) 0 = 0) : sd_ws cA z0 b n (k + 1) R h = sd_ws cA z0 b n k R h := by
  have e : sd_nl h n (k + 1) = sd_nl h n k := by
    show (List.range n).map ai_or ++ (sd_dm h n k ++ _) = (List.range n).map ai_or ++ sd_dm h n k
    rw [h0, if_neg (by decide), if_neg (by decide), List.append_nil]
  unfold sd_ws
  rw [e]
theorem sd_D {cA : Nat → ClassId} {z0 b n k : Nat} {R : ai_R} {h : ai_H} (hn : n ≤ ai_N) : va_D (fun q => z0 ≤ q) (sd_ws cA z0 b n k R h) := by
  have key : ∀ (j : Nat) (x : Nat × va_E), (sd_ws cA z0 b n k R h)[j]? = some x → ∃ q, (sd_nl h n k)[j]? = some q ∧ x.1 = z0 + sd_of q.1 q.2 := by
    intro j x hx
    unfold sd_ws at hx
    rw [List.getElem?_map] at hx
    cases hq : (sd_nl h n k)[j]? with
    | none => rw [hq] at hx; cases hx
    | some q =>
      rw [hq] at hx
      cases hx
      exact ⟨q, rfl, sd_nl_ad hn (List.mem_of_getElem? hq) z0 b⟩
  refine ⟨fun i j p q hi hj hpq => ?_, fun k q hk => ?_⟩
  · obtain ⟨p', hp1, hp2⟩ := key i p hi
    obtain ⟨q', hq1, hq2⟩ := key j q hj
    exact sd_nl_one hn hp1 hq1 (by omega)
  · obtain ⟨q', hq1, hq2⟩ := key k q hk
    show z0 ≤ q.1
    omega
-- what a write leaves
theorem sd_gI_w {h : ai_H} {t i k : Nat} {v : Int32} {t' i' : Nat} (n : ¬ (t' = t ∧ i' = i)) : ai_gI (ai_wI h t i k v) t' i' = ai_gI h t' i' := by
  funext j
  rw [ai_gI_wI, if_neg (fun h => n ⟨h.1, h.2.1⟩)]
theorem sd_gJ_w {h : ai_H} {t i k : Nat} {v : Int64} {t' i' : Nat} (n : ¬ (t' = t ∧ i' = i)) : ai_gJ (ai_wJ h t i k v) t' i' = ai_gJ h t' i' := by
  funext j
  rw [ai_gJ_wJ, if_neg (fun h => n ⟨h.1, h.2.1⟩)]
theorem sd_R_w {R : ai_R} {t i k : Nat} {v : Option (Nat × Nat)} {t' i' : Nat} (n : ¬ (t' = t ∧ i' = i)) : ai_wR R t i k v t' i' = R t' i' := by
  funext j
  exact if_neg (fun h => n ⟨h.1, h.2.1⟩)
theorem sd_gI_u {h : ai_H} {t i k : Nat} {v : Int32} : ai_gI (ai_wI h t i k v) t i = upd (ai_gI h t i) k v := by
  funext j
  rw [ai_gI_wI]
  unfold upd
  by_cases hj : j = k
  · rw [if_pos ⟨rfl, rfl, hj⟩, if_pos hj]
  · rw [if_neg (fun h => hj h.2.2), if_neg hj]
theorem sd_gJ_u {h : ai_H} {t i k : Nat} {v : Int64} : ai_gJ (ai_wJ h t i k v) t i = vp_updL (ai_gJ h t i) k v := by
  funext j
  rw [ai_gJ_wJ]
  unfold vp_updL
  by_cases hj : j = k
  · rw [if_pos ⟨rfl, rfl, hj⟩, if_pos hj]
  · rw [if_neg (fun h => hj h.2.2), if_neg hj]
theorem sd_R_u {R : ai_R} {t i k : Nat} {v : Option (Nat × Nat)} : ai_wR R t i k v t i = va_up (R t i) k v := by
  funext j
  unfold ai_wR va_up
  by_cases hj : j = k
  · rw [if_pos ⟨rfl, rfl, hj⟩, if_pos hj]
  · rw [if_neg (fun h => hj h.2.2), if_neg hj]
theorem sd_wI_J {h : ai_H} {t i k : Nat} {v : Int32} {t' i' : Nat} : ai_gJ (ai_wI h t i k v) t' i' = ai_gJ h t' i' := rfl
theorem sd_wJ_I {h : ai_H} {t i k : Nat} {v : Int64} {t' i' : Nat} : ai_gI (ai_wJ h t i k v) t' i' = ai_gI h t' i' := rfl
theorem sd_en_wI {cA : Nat → ClassId} {z0 b : Nat} {R : ai_R} {h : ai_H} {t i k : Nat} {v : Int32} : ∀ t' i', ¬ (t' = t ∧ i' = i) → sd_en cA z0 b R (ai_wI h t i k v) t' i' = sd_en cA z0 b R h t' i' := by
  intro t' i' n
  unfold sd_en
  rw [sd_gI_w n, sd_wI_J]
theorem sd_en_wJ {cA : Nat → ClassId} {z0 b : Nat} {R : ai_R} {h : ai_H} {t i k : Nat} {v : Int64} : ∀ t' i', ¬ (t' = t ∧ i' = i) → sd_en cA z0 b R (ai_wJ h t i k v) t' i' = sd_en cA z0 b R h t' i' := by
  intro t' i' n
  unfold sd_en
  rw [sd_gJ_w n, sd_wJ_I]
theorem sd_en_wR {cA : Nat → ClassId} {z0 b : Nat} {R : ai_R} {h : ai_H} {t i k : Nat} {v : Option (Nat × Nat)} : ∀ t' i', ¬ (t' = t ∧ i' = i) → sd_en cA z0 b (ai_wR R t i k v) h t' i' = sd_en cA z0 b R h t' i' := by
  intro t' i' n
  unfold sd_en
  rw [sd_R_w n]
theorem sd_en_z {cA : Nat → ClassId} {z0 b : Nat} {R : ai_R} {h : ai_H} {t i : Nat} : ∀ t' i', ¬ (t' = t ∧ i' = i) → sd_en cA z0 b (ai_zR R t i) (ai_zH h t i) t' i' = sd_en cA z0 b R h t' i' := by
  intro t' i' n
  unfold sd_en
  have e1 : ai_gI (ai_zH h t i) t' i' = ai_gI h t' i' := by
    funext j
    rw [ai_gI_zH, if_neg n]
  have e2 : ai_gJ (ai_zH h t i) t' i' = ai_gJ h t' i' := by
    funext j
    rw [ai_gJ_zH, if_neg n]
  have e3 : ai_zR R t i t' i' = R t' i' := by
    funext j
    exact if_neg n
  rw [e1, e2, e3]
theorem sd_fs_get {z0 b : Nat} {I : Nat → Int32} {J : Nat → Int64} {Rf : Nat → Option (Nat × Nat)} {c k f : Nat} (hk : k < sd_n c) (hf : (sd_ft c)[k]? = some f) : (sd_fs z0 b I J Rf c)[k]? = some (sd_fv z0 b I J Rf k f) := by
  unfold sd_fs
  rw [List.getElem?_map, List.getElem?_range hk, Option.map_some, List.getD_eq_getElem?_getD, hf]
  rfl
theorem sd_fs_len {z0 b : Nat} {I : Nat → Int32} {J : Nat → Int64} {Rf : Nat → Option (Nat × Nat)} {c : Nat} : (sd_fs z0 b I J Rf c).length = sd_n c := by
  unfold sd_fs
  simp
theorem sd_fs_set {z0 b : Nat} {I I' : Nat → Int32} {J J' : Nat → Int64} {Rf Rf' : Nat → Option (Nat × Nat)} {c k f : Nat} {v : Value} (hk : k < sd_n c) (hf : (sd_ft c)[k]? = some f) (hv : v = sd_fv z0 b I' J' Rf' k f)
    (hI : ∀ j, j ≠ k → I' j = I j) (hJ : ∀ j, j ≠ k → J' j = J j) (hR : ∀ j, j ≠ k → Rf' j = Rf j) : (sd_fs z0 b I J Rf c).set k v = sd_fs z0 b I' J' Rf' c := by
  apply List.ext_getElem?
  intro j
  by_cases hj : j = k
  · subst hj
    rw [List.getElem?_set_self (by rw [sd_fs_len]; exact hk), sd_fs_get hk hf, hv]
  · rw [List.getElem?_set_ne (Ne.symm hj)]
    unfold sd_fs
    rw [List.getElem?_map, List.getElem?_map]
    by_cases hjn : j < sd_n c
    · rw [List.getElem?_range hjn, Option.map_some, Option.map_some]
      unfold sd_fv
      rw [hI j hj, hJ j hj, hR j hj]
    · rw [List.getElem?_eq_none (by simp; omega)]
      rfl
-- locals
def sd_l (z0 b : Nat) : Nat → ai_L → List (Nat × Value)
  | _, [] => []
  | k, none :: l => sd_l z0 b (k + 1) l
  | k, some v :: l => (k, sd_v z0 b v) :: sd_l z0 b (k + 1) l
theorem sd_l_in {z0 b : Nat} : ∀ (l : ai_L) (k j : Nat) (v : ai_V), l[j]? = some (some v) → (k + j, sd_v z0 b v) ∈ sd_l z0 b k l
  | [], k, j, v, h => by simp at h
  | a :: l, k, 0, v, h => by
    have h1 : a = some v := Option.some.inj h
    subst h1
    exact List.mem_cons_self
  | a :: l, k, j + 1, v, h => by
    have h1 : l[j]? = some (some v) := h
    have h2 := sd_l_in (z0 := z0) (b := b) l (k + 1) j v h1
    rw [show k + 1 + j = k + (j + 1) by omega] at h2
    cases a with
    | none => exact h2
    | some w => exact List.mem_cons_of_mem _ h2
theorem sd_l_of {z0 b : Nat} : ∀ (l : ai_L) (k : Nat) (q : Nat × Value), q ∈ sd_l z0 b k l → ∃ j v, q = (k + j, sd_v z0 b v) ∧ l[j]? = some (some v)
  | [], k, q, h => by cases h
  | none :: l, k, q, h => by
    obtain ⟨j, v, h1, h2⟩ := sd_l_of l (k + 1) q h
    exact ⟨j + 1, v, by rw [h1]; congr 1; omega, h2⟩
  | some w :: l, k, q, h => by
    rcases List.mem_cons.mp h with h | h
    · exact ⟨0, w, h, rfl⟩
    · obtain ⟨j, v, h1, h2⟩ := sd_l_of l (k + 1) q h
      exact ⟨j + 1, v, by rw [h1]; congr 1; omega, h2⟩
theorem sd_cat {z0 b : Nat} (v : ai_V) : (sd_v z0 b v).category = if ai_wide (some v) = true then 2 else 1 := by
  rcases v with x | x | x <;> rfl
theorem sd_cut_len : ∀ (l : ai_L) (k : Nat), (ai_cut l k).length = l.length
  | [], _ => rfl
  | a :: l, 0 => rfl
  | a :: l, 1 => rfl
  | a :: l, k + 2 => congrArg (· + 1) (sd_cut_len l (k + 1))
theorem sd_cut_get : ∀ (l : ai_L) (k j : Nat) (v : ai_V), (ai_cut l k)[j]? = some (some v) → l[j]? = some (some v) ∧ ¬ (j + 1 = k ∧ ai_wide (some v) = true)
  | [], _, j, v, h => by simp [ai_cut] at h
  | a :: l, 0, j, v, h => ⟨h, by omega⟩
  | a :: l, 1, 0, v, h => by
    have h1 : (if ai_wide a = true then none else a) = some v := Option.some.inj h
    split at h1
    · cases h1
    · rename_i g
      subst h1
      exact ⟨rfl, fun q => g q.2⟩
  | a :: l, 1, j + 1, v, h => ⟨h, by omega⟩
  | a :: l, k + 2, 0, v, h => ⟨h, by omega⟩
  | a :: l, k + 2, j + 1, v, h => by
    have h1 := sd_cut_get l (k + 1) j v h
    exact ⟨h1.1, fun q => h1.2 ⟨by omega, q.2⟩⟩
theorem sd_st1_has {z0 b nL k : Nat} {ls ls' : ai_L} {v : ai_V} {A : Array Slot} (hs : ai_st1 ls k v = some ls') (h : lv_has A nL ((k, sd_v z0 b v) :: (sd_l z0 b 0 ls).filter (fun q => !(q.1 == k) && !(q.1 + 1 == k && q.2.category == 2)))) : lv_has A nL (sd_l z0 b 0 ls') ∧ ls'.length = ls.length ∧ k < ls.length := by
  unfold ai_st1 at hs
  split at hs
  · rename_i hk
    cases hs
    refine ⟨⟨h.1, h.2.1, fun q hq => h.2.2 q ?_⟩, by rw [List.length_set, sd_cut_len], hk⟩
    obtain ⟨j, w, h1, h2⟩ := sd_l_of _ _ q hq
    rw [Nat.zero_add] at h1
    by_cases hj : j = k
    · subst hj
      rw [List.getElem?_set_self (by rw [sd_cut_len]; exact hk)] at h2
      cases h2
      rw [h1]
      exact List.mem_cons_self
    · rw [List.getElem?_set_ne (Ne.symm hj)] at h2
      obtain ⟨h3, h4⟩ := sd_cut_get _ _ _ _ h2
      refine List.mem_cons_of_mem _ (List.mem_filter.mpr ⟨?_, ?_⟩)
      · rw [h1]
        have h5 := sd_l_in (z0 := z0) (b := b) ls 0 j w h3
        rw [Nat.zero_add] at h5
        exact h5
      · rw [h1]
        have e1 : (j == k) = false := by simpa using hj
        simp only [e1, Bool.not_false, Bool.true_and, sd_cat]
        by_cases g : ai_wide (some w) = true
        · have e2 : (j + 1 == k) = false := by simpa using fun q => h4 ⟨q, g⟩
          simp [e2]
        · simp [g]
  · cases hs
theorem sd_st2_has {z0 b nL k : Nat} {ls ls' : ai_L} {v : ai_V} {A : Array Slot} (hs : ai_st2 ls k v = some ls') (h : lv_has A nL ((k, sd_v z0 b v) :: (sd_l z0 b 0 ls).filter (fun q => !(q.1 == k) && (!(q.1 == k + 1) && !(q.1 + 1 == k && q.2.category == 2))))) : lv_has A nL (sd_l z0 b 0 ls') ∧ ls'.length = ls.length ∧ k + 1 < ls.length := by
  unfold ai_st2 at hs
  split at hs
  · rename_i hk
    cases hs
    refine ⟨⟨h.1, h.2.1, fun q hq => h.2.2 q ?_⟩, by rw [List.length_set, List.length_set, sd_cut_len], hk⟩
    obtain ⟨j, w, h1, h2⟩ := sd_l_of _ _ q hq
    rw [Nat.zero_add] at h1
    by_cases hj1 : j = k + 1
    · subst hj1
      rw [List.getElem?_set_self (by rw [List.length_set, sd_cut_len]; exact hk)] at h2
      cases h2
    · rw [List.getElem?_set_ne (Ne.symm hj1)] at h2
      by_cases hj : j = k
      · subst hj
        rw [List.getElem?_set_self (by rw [sd_cut_len]; omega)] at h2
        cases h2
        rw [h1]
        exact List.mem_cons_self
      · rw [List.getElem?_set_ne (Ne.symm hj)] at h2
        obtain ⟨h3, h4⟩ := sd_cut_get _ _ _ _ h2
        refine List.mem_cons_of_mem _ (List.mem_filter.mpr ⟨?_, ?_⟩)
        · rw [h1]
          have h5 := sd_l_in (z0 := z0) (b := b) ls 0 j w h3
          rw [Nat.zero_add] at h5
          exact h5
        · rw [h1]
          have e1 : (j == k) = false := by simpa using hj
          have e3 : (j == k + 1) = false := by simpa using hj1
          simp only [e1, e3, Bool.not_false, Bool.true_and, sd_cat]
          by_cases g : ai_wide (some w) = true
          · have e2 : (j + 1 == k) = false := by simpa using fun q => h4 ⟨q, g⟩
            simp [e2]
          · simp [g]
  · cases hs
theorem sd_ldi {z0 b nL k : Nat} {ls : ai_L} {x : Int32} {A : Array Slot} (h : lv_has A nL (sd_l z0 b 0 ls)) (e : ai_ldi ls k = some x) : A[k]? = some (.val (.int x)) := by
  have h1 : ls[k]? = some (some (Sum.inl x)) := by
    unfold ai_ldi at e
    split at e
    · rename_i g
      cases e
      exact g
    · cases e
  have h2 := sd_l_in (z0 := z0) (b := b) ls 0 k _ h1
  rw [Nat.zero_add] at h2
  exact h.2.2 _ h2
theorem sd_ldi_in {z0 b k : Nat} {ls : ai_L} {x : Int32} (e : ai_ldi ls k = some x) : ∃ j : Nat, (sd_l z0 b 0 ls)[j]? = some (k, Value.int x) := by
  have h1 : ls[k]? = some (some (Sum.inl x)) := by
    unfold ai_ldi at e
    split at e
    · rename_i g
      cases e
      exact g
    · cases e
  have h2 := sd_l_in (z0 := z0) (b := b) ls 0 k _ h1
  rw [Nat.zero_add] at h2
  exact List.getElem?_of_mem h2
theorem sd_ldj {z0 b nL k : Nat} {ls : ai_L} {x : Int64} {A : Array Slot} (h : lv_has A nL (sd_l z0 b 0 ls)) (e : ai_ldj ls k = some x) : A[k]? = some (.val (.long x)) := by
  have h1 : ls[k]? = some (some (Sum.inr (Sum.inl x))) := by
    unfold ai_ldj at e
    split at e
    · rename_i g
      cases e
      exact g
    · cases e
  have h2 := sd_l_in (z0 := z0) (b := b) ls 0 k _ h1
  rw [Nat.zero_add] at h2
  exact h.2.2 _ h2
theorem sd_ldr {z0 b nL k : Nat} {ls : ai_L} {x : Nat × Nat} {A : Array Slot} (h : lv_has A nL (sd_l z0 b 0 ls)) (e : ai_ldr ls k = some x) : A[k]? = some (.val (.ref (sd_ad z0 b x.1 x.2))) := by
  have h1 : ls[k]? = some (some (Sum.inr (Sum.inr x))) := by
    unfold ai_ldr at e
    split at e
    · rename_i g
      cases e
      exact g
    · cases e
  have h2 := sd_l_in (z0 := z0) (b := b) ls 0 k _ h1
  rw [Nat.zero_add] at h2
  exact h.2.2 _ h2
-- the words' side, and the world
def sd_ty (cA : Nat → ClassId) : List (ClassId × FieldType) := [(cA 0, .int), (cA 1, .long), (cA 2, .boolean), (cA 3, .object (sd_R 1)), (cA 4, .object (sd_R 2)), (cA 5, .object (sd_R 5))]
def sd_K (D : va_G) (cA : Nat → ClassId) (U : State) : Prop := va_K D sd_cl (sd_ty cA) U ∧ (∀ q ∈ sd_lf, va_Nw (.fieldLinkNest q.1 q.2.1 q.2.2.1 q.2.2.2.1 q.2.2.2.2.1 q.2.2.2.2.2) U) ∧ (∀ q ∈ sd_lm, va_Nw (.methodLinkNest q.1 q.2.1 q.2.2.1 q.2.2.2) U) ∧
  (∀ q ∈ sd_la, va_Nw (.castable q.1 q.2) U) ∧ (∀ q ∈ sd_ld, va_Nw (.declares q) U) ∧ (∀ q ∈ sd_ls, ∃ a, vk_R q.1 q.2.1 q.2.2 a U) ∧ (∀ q ∈ sd_lo, va_AO q U) ∧ ∀ E F : Nat, E < 4 → F < 4 → 0 < E → 0 < F → E ≠ F → va_Nc (sd_xn E) (sd_xn F) U
theorem sd_K.moved {D : va_G} {cA : Nat → ClassId} {s U : State} (hW : s.WarmedH U.vm) (h : sd_K D cA s) : sd_K D cA U :=
  ⟨h.1.moved hW.alike, fun q hq => (h.2.1 q hq).warmF hW, fun q hq => (h.2.2.1 q hq).warmM hW, fun q hq => (h.2.2.2.1 q hq).warmC hW, fun q hq => (h.2.2.2.2.1 q hq).warmD hW, fun q hq => by
    obtain ⟨a, ha⟩ := h.2.2.2.2.2.1 q hq
    exact ⟨a, ha.warm hW⟩, fun q hq => (h.2.2.2.2.2.2.1 q hq).moved hW.alike, fun E F a b c d e => (h.2.2.2.2.2.2.2 E F a b c d e).moved hW.alike⟩
def sd_W (D : va_G) (cA : Nat → ClassId) (z0 b L : Nat) (xs : Nat → Int32) (z : ai_Z) (h : ai_H) (H : Heap) : Prop := va_P D sd_cl (sd_ws cA z0 b z.1 z.2.1 z.2.2.2 h) H ∧ z.1 ≤ ai_N ∧ z0 + (z.1 + z.2.1) ≤ H.size ∧ (∀ j, ai_gI h 99 0 j = xs j) ∧ z.2.2.1 = L ∧ ∀ o, ¬ ai_gI h 98 o 0 = 0 → z.1 ≤ o ∧ o < z.1 + z.2.1
def sd_U (D : va_G) (cA : Nat → ClassId) (z0 b L : Nat) (xs : Nat → Int32) (z : ai_Z) (h : ai_H) (U : State) : Prop := sd_W D cA z0 b L xs z h U.heap ∧ U.heap.size = z0 + (z.1 + z.2.1) ∧ sd_K D cA U ∧ va_X b L xs U U.heap ∧ b < z0 ∧ vx_Zq Bundle.tN "UNASSIGNED_STACK" Bundle.steD (fun q => z0 ≤ q) U U.heap ∧ vx_Zq Bundle.tN "SUPPRESSED_SENTINEL" Bundle.listD (fun q => z0 ≤ q) U U.heap
theorem sd_S0 {A : Nat → Prop} {H0 H : Heap} {locs : List Loc} (a : va_S A H0 H locs) : va_S A H H locs := ⟨Nat.le_refl _, fun _ _ _ => rfl, a.2.2⟩
theorem sd_S2 {A : Nat → Prop} {H0 H H1 : Heap} {locs locs1 : List Loc} (a : va_S A H0 H locs) (b : va_S A H H1 locs1) : va_S A H0 H1 locs1 :=
  ⟨Nat.le_trans a.1 b.1, fun q h1 h2 => (b.2.1 q (Nat.lt_of_lt_of_le h1 a.1) h2).trans (a.2.1 q h1 h2), b.2.2⟩
