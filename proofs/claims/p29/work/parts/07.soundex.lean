def sd_C (D : va_G) (cA : Nat → ClassId) (z0 b L : Nat) (xs : Nat → Int32) (p : Program) (R : Room) (s : State) (m : MethodId) (args : Array Value) (meth : Method) (c : Code) (mi : Nat) : Prop :=
  p.tables.exec = Jvm.exec ∧ c.code = ai_by mi ∧ c.maxLocals = ai_mx mi ∧ s.vm.findClass (sd_R (mi / 100)) = some m.cls ∧ (∀ w ∈ sd_tb, w.before args s = true) ∧ meth.locks = false ∧ meth.sig.returnType = sd_rt (ai_rk mi) ∧ meth.name = (sd_nm mi).name ∧
  c.exceptionTable.toList = tableOf (ai_find [] sd_hw mi) ∧ ai_fr mi ≤ R.frames ∧ ai_lo mi ≤ R.locals ∧ sd_K D cA s ∧ va_X b L xs s s.heap ∧ b < z0 ∧ z0 ≤ s.heap.size ∧
  vx_Zq Bundle.tN "UNASSIGNED_STACK" Bundle.steD (fun q => z0 ≤ q) s s.heap ∧ vx_Zq Bundle.tN "SUPPRESSED_SENTINEL" Bundle.listD (fun q => z0 ≤ q) s s.heap
theorem sd_tc {c k f : Nat} (hc : c < 6) (hk : k < sd_n c) (hf : (sd_ft c)[k]? = some f) : (f = 0 → sd_t c k = .int) ∧ (f = 1 → sd_t c k = .long) ∧ (f = 3 → sd_t c k = .boolean) ∧ (f = 2 → (sd_t c k).isReference = true) := by
  have h : (List.range 6).all (fun c => (List.range (sd_n c)).all fun k => match (sd_ft c)[k]? with
    | some 0 => decide (sd_t c k = .int)
    | some 1 => decide (sd_t c k = .long)
    | some 3 => decide (sd_t c k = .boolean)
    | some 2 => (sd_t c k).isReference
    | _ => false) = true := by decide +kernel
  have h1 := List.all_eq_true.mp (List.all_eq_true.mp h c (List.mem_range.mpr hc)) k (List.mem_range.mpr hk)
  rw [hf] at h1
  match f, h1 with
  | 0, h1 => exact ⟨fun _ => of_decide_eq_true h1, (fun h => by cases h), (fun h => by cases h), (fun h => by cases h)⟩
  | 1, h1 => exact ⟨(fun h => by cases h), fun _ => of_decide_eq_true h1, (fun h => by cases h), (fun h => by cases h)⟩
  | 2, h1 => exact ⟨(fun h => by cases h), (fun h => by cases h), (fun h => by cases h), fun _ => h1⟩
  | 3, h1 => exact ⟨(fun h => by cases h), (fun h => by cases h), fun _ => of_decide_eq_true h1, (fun h => by cases h)⟩
  | f + 4, h1 => cases h1
theorem sd_kv {z0 b : Nat} {R : ai_R} {h : ai_H} {t i k f : Nat} {v : ai_V} (hv : ai_kv R h t i k f = some v) : sd_fv z0 b (ai_gI h t i) (ai_gJ h t i) (R t i) k f = sd_v z0 b v := by
  match f, hv with
  | 0, hv => cases hv; rfl
  | 1, hv => cases hv; rfl
  | 2, hv =>
    obtain ⟨q, h1, h2⟩ := Option.map_eq_some_iff.mp hv
    cases h2
    show va_rf (sd_q z0 b (R t i k)) = _
    rw [h1]
    rfl
  | f + 3, hv => cases hv; rfl
theorem sd_en_o {cA : Nat → ClassId} {z0 b : Nat} {R : ai_R} {h : ai_H} {t i c : Nat} (hk : ai_ko t = some c) : sd_en cA z0 b R h t i = .inr (c, sd_fs z0 b (ai_gI h t i) (ai_gJ h t i) (R t i) c) := by
  have h1 : ¬ t = 90 ∧ ¬ t = 91 := ⟨fun g => (by subst g; cases hk), fun g => (by subst g; cases hk)⟩
  unfold sd_en sd_e
  rw [if_neg h1.1, if_neg h1.2, hk]
theorem sd_out {t : Nat} (h : 33 ≤ t) : ai_ki t = none ∧ ai_kj t = none ∧ ai_kz t = none ∧ ai_kr t = none := by
  obtain ⟨d, rfl⟩ := Nat.exists_eq_add_of_le' h
  exact ⟨rfl, rfl, rfl, rfl⟩
theorem sd_kinds {t : Nat} : (∀ c, ai_ki t = some c → ai_ko t = none) ∧ (∀ c, ai_kj t = some c → ai_ko t = none ∧ ai_ki t = none) ∧ (∀ c, ai_kz t = some c → ai_ko t = none ∧ ai_ki t = none ∧ ai_kj t = none) ∧ (∀ c, ai_kr t = some c → ai_ko t = none ∧ ai_ki t = none ∧ ai_kj t = none ∧ ai_kz t = none) := by
  by_cases ht : t < ai_T
  · have h : (List.range ai_T).all (fun t => ((ai_ki t).isNone || (ai_ko t).isNone) && ((ai_kj t).isNone || ((ai_ko t).isNone && (ai_ki t).isNone)) && ((ai_kz t).isNone || ((ai_ko t).isNone && (ai_ki t).isNone && (ai_kj t).isNone)) && ((ai_kr t).isNone || ((ai_ko t).isNone && (ai_ki t).isNone && (ai_kj t).isNone && (ai_kz t).isNone))) = true := by decide +kernel
    have h1 := List.all_eq_true.mp h t (List.mem_range.mpr ht)
    simp only [Bool.and_eq_true, Bool.or_eq_true, Option.isNone_iff_eq_none] at h1
    obtain ⟨⟨⟨h2, h3⟩, h4⟩, h5⟩ := h1
    refine ⟨fun c e => ?_, fun c e => ?_, fun c e => ?_, fun c e => ?_⟩
    · rcases h2 with h | h
      · rw [h] at e; cases e
      · exact h
    · rcases h3 with h | h
      · rw [h] at e; cases e
      · exact h
    · rcases h4 with h | h
      · rw [h] at e; cases e
      · exact ⟨h.1.1, h.1.2, h.2⟩
    · rcases h5 with h | h
      · rw [h] at e; cases e
      · exact ⟨h.1.1.1, h.1.1.2, h.1.2, h.2⟩
  · unfold ai_T at ht
    refine ⟨fun c e => ?_, fun c e => ?_, fun c e => ?_, fun c e => ?_⟩
    · rw [(sd_out (by omega)).1] at e; cases e
    · rw [(sd_out (by omega)).2.1] at e; cases e
    · rw [(sd_out (by omega)).2.2.1] at e; cases e
    · rw [(sd_out (by omega)).2.2.2] at e; cases e
theorem sd_en_i {cA : Nat → ClassId} {z0 b : Nat} {R : ai_R} {h : ai_H} {t i n : Nat} (hk : ai_ki t = some n) : sd_en cA z0 b R h t i = .inl (cA 0, n, .inl (ai_gI h t i)) := by
  have h1 : ¬ t = 90 ∧ ¬ t = 91 := ⟨fun g => (by subst g; cases hk), fun g => (by subst g; cases hk)⟩
  unfold sd_en sd_e
  rw [if_neg h1.1, if_neg h1.2, sd_kinds.1 _ hk, hk]
theorem sd_en_j {cA : Nat → ClassId} {z0 b : Nat} {R : ai_R} {h : ai_H} {t i n : Nat} (hk : ai_kj t = some n) : sd_en cA z0 b R h t i = .inl (cA 1, n, .inr (.inl (ai_gJ h t i))) := by
  have h1 : ¬ t = 90 ∧ ¬ t = 91 := ⟨fun g => (by subst g; cases hk), fun g => (by subst g; cases hk)⟩
  unfold sd_en sd_e
  rw [if_neg h1.1, if_neg h1.2, (sd_kinds.2.1 _ hk).1, (sd_kinds.2.1 _ hk).2, hk]
theorem sd_en_b {cA : Nat → ClassId} {z0 b : Nat} {R : ai_R} {h : ai_H} {t i n : Nat} (hk : ai_kz t = some n) : sd_en cA z0 b R h t i = .inl (cA 2, n, .inl (ai_gI h t i)) := by
  have h1 : ¬ t = 90 ∧ ¬ t = 91 := ⟨fun g => (by subst g; cases hk), fun g => (by subst g; cases hk)⟩
  unfold sd_en sd_e
  rw [if_neg h1.1, if_neg h1.2, (sd_kinds.2.2.1 _ hk).1, (sd_kinds.2.2.1 _ hk).2.1, (sd_kinds.2.2.1 _ hk).2.2, hk]
theorem sd_en_r {cA : Nat → ClassId} {z0 b : Nat} {R : ai_R} {h : ai_H} {t i : Nat} {r : Nat × Nat} (hk : ai_kr t = some r) : sd_en cA z0 b R h t i = .inl (cA (sd_ti r.1), r.2, .inr (.inr (.inr (.inr (fun j => sd_q z0 b (R t i j)))))) := by
  have h1 : ¬ t = 90 ∧ ¬ t = 91 := ⟨fun g => (by subst g; cases hk), fun g => (by subst g; cases hk)⟩
  unfold sd_en sd_e
  rw [if_neg h1.1, if_neg h1.2, (sd_kinds.2.2.2 _ hk).1, (sd_kinds.2.2.2 _ hk).2.1, (sd_kinds.2.2.2 _ hk).2.2.1, (sd_kinds.2.2.2 _ hk).2.2.2, hk]
theorem sd_kr_cls {t : Nat} {r : Nat × Nat} (hk : ai_kr t = some r) : (r.1 = 1 ∨ r.1 = 2 ∨ r.1 = 5) := by
  have h : (List.range 33).all (fun t => match ai_kr t with
    | some r => decide (r.1 = 1 ∨ r.1 = 2 ∨ r.1 = 5)
    | none => true) = true := by decide +kernel
  by_cases ht : t < 33
  · have h1 := List.all_eq_true.mp h t (List.mem_range.mpr ht)
    rw [hk] at h1
    exact of_decide_eq_true h1
  · rw [(sd_out (by omega)).2.2.2] at hk; cases hk
theorem sd_n_lt {t : Nat} : (∀ n, ai_ki t = some n → n < 2 ^ 26) ∧ (∀ n, ai_kj t = some n → n < 2 ^ 26) ∧ (∀ n, ai_kz t = some n → n < 2 ^ 26) ∧ (∀ r, ai_kr t = some r → r.2 < 2 ^ 26) := by
  have h : (List.range 33).all (fun t => ((ai_ki t).all fun n => decide (n < 2 ^ 26)) && ((ai_kj t).all fun n => decide (n < 2 ^ 26)) && ((ai_kz t).all fun n => decide (n < 2 ^ 26)) && ((ai_kr t).all fun r => decide (r.2 < 2 ^ 26))) = true := by decide +kernel
  by_cases ht : t < 33
  · have h1 := List.all_eq_true.mp h t (List.mem_range.mpr ht)
    rw [Bool.and_eq_true, Bool.and_eq_true, Bool.and_eq_true] at h1
    obtain ⟨⟨⟨a, b⟩, c⟩, d⟩ := h1
    exact ⟨fun n e => by rw [e] at a; exact of_decide_eq_true a, fun n e => by rw [e] at b; exact of_decide_eq_true b, fun n e => by rw [e] at c; exact of_decide_eq_true c, fun n e => by rw [e] at d; exact of_decide_eq_true d⟩
  · obtain ⟨a, b, c, d⟩ := sd_out (show 33 ≤ t by omega)
    exact ⟨fun n e => (by rw [a] at e; cases e), fun n e => (by rw [b] at e; cases e), fun n e => (by rw [c] at e; cases e), fun n e => (by rw [d] at e; cases e)⟩
theorem sd_ald_is {o : Option Nat} {n t i j : Nat} {x : Int32} (h : ai_ald o n t i x = some j) : ∃ len, o = some len ∧ ai_al n t i = true ∧ vp_in x len ∧ x.toNatClampNeg = j ∧ j < len := by
  unfold ai_ald at h
  split at h
  · split at h
    · rename_i len ha
      exact ⟨len, rfl, ha, ai_ix_in h⟩
    · cases h
  · cases h
theorem sd_narrow_r {ty : FieldType} {a : Nat} : narrow ty (.ref a) = .ref a := by cases ty <;> rfl
theorem sd_fits_r {ty : FieldType} {a : Nat} (h : ty.isReference = true) : fits ty (.ref a) = true := by
  cases ty <;> first | rfl | cases h
theorem sd_nar01 {x : Int32} (h : x = 0 ∨ x = 1) : narrow .boolean (.int x) = .int x ∧ fits .boolean (.int x) = true ∧ vp_nar .boolean x = x := by
  rcases h with h | h <;> subst h <;> exact ⟨rfl, rfl, rfl⟩
-- ===== sd_ex
theorem sd_al_99 {n i : Nat} : ai_al n 99 i = false := by
  unfold ai_al ai_T
  simp
/-- getfield's facts -/
theorem sd_gf_is {w idx n t i : Nat} {R : ai_R} {h : ai_H} {v : ai_V} (hv : ai_gf w idx n R h t i = some v) : ∃ c k f p, ai_fl w idx = some (c, k, f) ∧ ai_ko t = some c ∧ ai_al n t i = true ∧ ai_kv R h t i k f = some v ∧ sd_fk w idx (c, k, f) p = true := by
  unfold ai_gf at hv
  split at hv
  · rename_i c k f hf
    split at hv
    · rename_i hc
      obtain ⟨p, hp⟩ := sd_fl_ok hf
      exact ⟨c, k, f, p, hf, hc.1, hc.2, hv, hp⟩
    · cases hv
  · cases hv
theorem sd_fk_is {w idx c k f p : Nat} (h : sd_fk w idx (c, k, f) p = true) : c < 6 ∧ k < sd_n c ∧ (sd_ft c)[k]? = some f ∧ ((p = 99999 ∧ sd_fn w idx c k ∈ sd_lf) ∨ (p ≠ 99999 ∧ sd_fw w idx c k ∈ sd_tb)) := by
  unfold sd_fk at h
  rw [Bool.and_eq_true, Bool.and_eq_true, Bool.and_eq_true] at h
  obtain ⟨⟨⟨h1, h2⟩, h3⟩, h4⟩ := h
  refine ⟨of_decide_eq_true h1, of_decide_eq_true h2, of_decide_eq_true h3, ?_⟩
  split at h4
  · rename_i hp
    exact Or.inl ⟨hp, of_decide_eq_true h4⟩
  · rename_i hp
    exact Or.inr ⟨hp, sd_at_ok h4⟩
theorem sd_en_90 {cA : Nat → ClassId} {z0 b : Nat} {R : ai_R} {h : ai_H} {i : Nat} : sd_en cA z0 b R h 90 i = .inl (cA 1, 5, .inr (.inl (ai_gJ h 90 i))) := if_pos rfl
theorem sd_en_91 {cA : Nat → ClassId} {z0 b : Nat} {R : ai_R} {h : ai_H} {i : Nat} : sd_en cA z0 b R h 91 i = .inl (cA 0, 10, .inl (ai_gI h 91 i)) := (if_neg (by decide)).trans (if_pos rfl)
