section SDAR
variable {D : va_G} {cA : Nat → ClassId} {z0 b L : Nat} {xs : Nat → Int32} {p : Program} {l : Launch} {e : Env} {R : Room} {s : State} {m : MethodId} {args : Array Value} {below : List Frame} {meth : Method} {c : Code} {Q : State → Prop} {mi pc : Nat} {H : Heap} {locs : List Loc} {cells slots : Nat} {ls0 : Array Slot} {z : ai_Z} {h : ai_H} {stk : List Value}
theorem sd_bX (C : sd_C D cA z0 b L xs p R s m args meth c mi) : va_X b L xs s s.heap ∧ b < s.heap.size ∧ ¬ (fun q => z0 ≤ q) b := by
  obtain ⟨-, -, -, -, -, -, -, -, -, -, -, -, hX, hbz, hz0, -⟩ := C
  exact ⟨hX, by omega, by show ¬ z0 ≤ b; omega⟩
theorem sd_ix_is {x : Int32} {n j : Nat} (h : ai_ix x n = some j) : vp_in x n ∧ x.toNatClampNeg = j ∧ j < n := ai_ix_in h
/-- where an array of ints, of longs stands in the world -/
theorem sd_is_n {z : ai_Z} {h : ai_H} {H : Heap} (hW : sd_W D cA z0 b L xs z h H) {t i j : Nat} {x : Int32} (h1 : ai_is z.1 h t i x = some j) : ∃ q len : Nat, (sd_nl h z.1 z.2.1)[q]? = some (t, i) ∧ ¬ t = 99 ∧ ¬ t = 98 ∧ sd_en cA z0 b z.2.2.2 h t i = .inl (cA 0, len, .inl (ai_gI h t i)) ∧ (∀ h' : ai_H, sd_en cA z0 b z.2.2.2 h' t i = .inl (cA 0, len, .inl (ai_gI h' t i))) ∧ vp_in x len ∧ x.toNatClampNeg = j := by
  unfold ai_is at h1
  split at h1
  · rename_i ht
    subst ht
    split at h1
    · rename_i hm
      obtain ⟨g1, g2⟩ := hW.2.2.2.2.2 i (by rw [hm]; decide)
      obtain ⟨q, hq⟩ := sd_getd (h := h) (n := z.1) (k := z.2.1) (t := 91) (i := i) (Or.inr rfl) hm g1 g2
      obtain ⟨hin, hj, -⟩ := ai_ix_in h1
      exact ⟨q, 10, hq, by decide, by decide, sd_en_91, fun _ => sd_en_91, hin, hj⟩
    · cases h1
  · obtain ⟨len, ho, hal, hin, hj, -⟩ := sd_ald_is h1
    have h8 := (sd_al hal).1
    unfold ai_T at h8
    exact ⟨_, len, sd_nl_get hal, by omega, by omega, sd_en_i ho, fun _ => sd_en_i ho, hin, hj⟩
theorem sd_js_n {z : ai_Z} {h : ai_H} {H : Heap} (hW : sd_W D cA z0 b L xs z h H) {t i j : Nat} {x : Int32} (h1 : ai_js z.1 h t i x = some j) : ∃ q len : Nat, (sd_nl h z.1 z.2.1)[q]? = some (t, i) ∧ ¬ t = 99 ∧ ¬ t = 98 ∧ sd_en cA z0 b z.2.2.2 h t i = .inl (cA 1, len, .inr (.inl (ai_gJ h t i))) ∧ (∀ h' : ai_H, sd_en cA z0 b z.2.2.2 h' t i = .inl (cA 1, len, .inr (.inl (ai_gJ h' t i)))) ∧ vp_in x len ∧ x.toNatClampNeg = j := by
  unfold ai_js at h1
  split at h1
  · rename_i ht
    subst ht
    split at h1
    · rename_i hm
      obtain ⟨g1, g2⟩ := hW.2.2.2.2.2 i (by rw [hm]; decide)
      obtain ⟨q, hq⟩ := sd_getd (h := h) (n := z.1) (k := z.2.1) (t := 90) (i := i) (Or.inl rfl) hm g1 g2
      obtain ⟨hin, hj, -⟩ := ai_ix_in h1
      exact ⟨q, 5, hq, by decide, by decide, sd_en_90, fun _ => sd_en_90, hin, hj⟩
    · cases h1
  · obtain ⟨len, ho, hal, hin, hj, -⟩ := sd_ald_is h1
    have h8 := (sd_al hal).1
    unfold ai_T at h8
    exact ⟨_, len, sd_nl_get hal, by omega, by omega, sd_en_j ho, fun _ => sd_en_j ho, hin, hj⟩
theorem sd_is_is {z : ai_Z} {h : ai_H} {H : Heap} (hW : sd_W D cA z0 b L xs z h H) {t i j : Nat} {x : Int32} (h1 : ai_is z.1 h t i x = some j) : ∃ q len : Nat, (sd_ws cA z0 b z.1 z.2.1 z.2.2.2 h)[q]? = some (sd_ad z0 b t i, .inl (cA 0, len, .inl (ai_gI h t i))) ∧ vp_in x len ∧ x.toNatClampNeg = j := by
  obtain ⟨q, len, hq, -, -, he, -, hin, hj⟩ := sd_is_n (cA := cA) (z0 := z0) (b := b) hW h1
  refine ⟨q, len, ?_, hin, hj⟩
  rw [sd_ws_get hq]
  show some (sd_ad z0 b t i, sd_en cA z0 b z.2.2.2 h t i) = _
  rw [he]
theorem sd_js_is {z : ai_Z} {h : ai_H} {H : Heap} (hW : sd_W D cA z0 b L xs z h H) {t i j : Nat} {x : Int32} (h1 : ai_js z.1 h t i x = some j) : ∃ q len : Nat, (sd_ws cA z0 b z.1 z.2.1 z.2.2.2 h)[q]? = some (sd_ad z0 b t i, .inl (cA 1, len, .inr (.inl (ai_gJ h t i)))) ∧ vp_in x len ∧ x.toNatClampNeg = j := by
  obtain ⟨q, len, hq, -, -, he, -, hin, hj⟩ := sd_js_n (cA := cA) (z0 := z0) (b := b) hW h1
  refine ⟨q, len, ?_, hin, hj⟩
  rw [sd_ws_get hq]
  show some (sd_ad z0 b t i, sd_en cA z0 b z.2.2.2 h t i) = _
  rw [he]
theorem sd_iald (C : sd_C D cA z0 b L xs p R s m args meth c mi) (hW : sd_W D cA z0 b L xs z h H) (hS : va_S (fun q => z0 ≤ q) s.heap H locs) {t i : Nat} {x v : Int32} (hv : ai_il z.1 z.2.2.1 h t i x = some v) (hd : decode (ai_by mi) pc = .ok (.iaload, 1))
    (K : W p l e R s m args below meth c H locs cells slots Q (F0 m (pc + 1) ls0 (.int v :: stk))) : W p l e R s m args below meth c H locs cells slots Q (F0 m pc ls0 (.int x :: .ref (sd_ad z0 b t i) :: stk)) := by
  obtain ⟨hX, hbl, hbA⟩ := sd_bX C
  obtain ⟨hx, hb, -, -, -, -, -, -, -, -, -, hK, -⟩ := C
  unfold ai_il at hv
  split at hv
  · rename_i ht
    have ht : t = 99 := ht
    subst ht
    obtain ⟨j, h1, h2⟩ := Option.map_eq_some_iff.mp hv
    rw [hW.2.2.2.2.1] at h1
    obtain ⟨hin, hj, -⟩ := sd_ix_is h1
    have e1 : v = xs x.toNatClampNeg := by rw [← h2, hW.2.2.2.1 j, hj]
    rw [e1] at K
    exact va_sld hx hb hX hbl hbA hS hin hd K
  · obtain ⟨j, h1, h2⟩ := Option.map_eq_some_iff.mp hv
    obtain ⟨q, len, hq, hin, hj⟩ := sd_is_is (cA := cA) (z0 := z0) (b := b) hW h1
    have e1 : v = ai_gI h t i x.toNatClampNeg := by rw [← h2, hj]
    rw [e1] at K
    exact va_iald hx hb hK.1 hW.1 q 0 hq rfl hin hd K
theorem sd_lald (C : sd_C D cA z0 b L xs p R s m args meth c mi) (hW : sd_W D cA z0 b L xs z h H) {t i j : Nat} {x : Int32} (hv : ai_js z.1 h t i x = some j) (hd : decode (ai_by mi) pc = .ok (.laload, 1))
    (K : W p l e R s m args below meth c H locs cells slots Q (F0 m (pc + 1) ls0 (.long (ai_gJ h t i j) :: stk))) : W p l e R s m args below meth c H locs cells slots Q (F0 m pc ls0 (.int x :: .ref (sd_ad z0 b t i) :: stk)) := by
  obtain ⟨hx, hb, -, -, -, -, -, -, -, -, -, hK, -⟩ := C
  obtain ⟨q, len, hq, hin, hj⟩ := sd_js_is (cA := cA) (z0 := z0) (b := b) hW hv
  rw [← hj] at K
  exact va_lald hx hb hK.1 hW.1 q 1 hq rfl hin hd K
theorem sd_zald (C : sd_C D cA z0 b L xs p R s m args meth c mi) (hW : sd_W D cA z0 b L xs z h H) {t i j : Nat} {x : Int32} (hv : ai_ald (ai_kz t) z.1 t i x = some j) (hd : decode (ai_by mi) pc = .ok (.baload, 1))
    (K : W p l e R s m args below meth c H locs cells slots Q (F0 m (pc + 1) ls0 (.int (ai_gI h t i j) :: stk))) : W p l e R s m args below meth c H locs cells slots Q (F0 m pc ls0 (.int x :: .ref (sd_ad z0 b t i) :: stk)) := by
  obtain ⟨hx, hb, -, -, -, -, -, -, -, -, -, hK, -⟩ := C
  obtain ⟨len, ho, hal, hin, hj, -⟩ := sd_ald_is hv
  have he := sd_get (cA := cA) (z0 := z0) (b := b) (k := z.2.1) (R := z.2.2.2) (h := h) hal
  rw [sd_en_b ho] at he
  rw [← hj] at K
  exact va_zald hx hb hK.1 hW.1 (ai_ps t i) 2 he rfl hin hd K
theorem sd_tyr {cA : Nat → ClassId} {r : Nat} (h : r = 1 ∨ r = 2 ∨ r = 5) : (sd_ty cA)[sd_ti r]? = some (cA (sd_ti r), .object (sd_R r)) := by
  rcases h with h | h | h <;> subst h <;> rfl
theorem sd_aald (C : sd_C D cA z0 b L xs p R s m args meth c mi) (hW : sd_W D cA z0 b L xs z h H) {t i j : Nat} {x : Int32} {v : Nat × Nat} (hv : ai_ald ((ai_kr t).map fun r => r.2) z.1 t i x = some j) (hr : z.2.2.2 t i j = some v) (hd : decode (ai_by mi) pc = .ok (.aaload, 1))
    (K : W p l e R s m args below meth c H locs cells slots Q (F0 m (pc + 1) ls0 (.ref (sd_ad z0 b v.1 v.2) :: stk))) : W p l e R s m args below meth c H locs cells slots Q (F0 m pc ls0 (.int x :: .ref (sd_ad z0 b t i) :: stk)) := by
  obtain ⟨hx, hb, -, -, -, -, -, -, -, -, -, hK, -⟩ := C
  obtain ⟨len, ho, hal, hin, hj, -⟩ := sd_ald_is hv
  obtain ⟨r, h1, h2⟩ := Option.map_eq_some_iff.mp ho
  have he := sd_get (cA := cA) (z0 := z0) (b := b) (k := z.2.1) (R := z.2.2.2) (h := h) hal
  rw [sd_en_r h1, h2] at he
  have e1 : Value.ref (sd_ad z0 b v.1 v.2) = va_rf ((fun j => sd_q z0 b (z.2.2.2 t i j)) x.toNatClampNeg) := by
    show _ = va_rf (sd_q z0 b (z.2.2.2 t i x.toNatClampNeg))
    rw [hj, hr]
    rfl
  rw [e1] at K
  exact va_aldq hx hb hK.1 hW.1 (ai_ps t i) (sd_ti r.1) he (sd_tyr (sd_kr_cls h1)) hin hd K
theorem sd_t99 {n t i : Nat} (hal : ai_al n t i = true) : t ≠ 99 := by
  intro h9
  rw [h9, sd_al_99] at hal
  cases hal
theorem sd_t98 {n t i : Nat} (hal : ai_al n t i = true) : t ≠ 98 := by
  have h8 := (sd_al hal).1
  unfold ai_T at h8
  omega
theorem sd_iast (C : sd_C D cA z0 b L xs p R s m args meth c mi) (hW : sd_W D cA z0 b L xs z h H) (hS : va_S (fun q => z0 ≤ q) s.heap H locs) {t i j : Nat} {x v : Int32} (hv : ai_is z.1 h t i x = some j) (hd : decode (ai_by mi) pc = .ok (.iastore, 1))
    (K : ∀ H1 locs1, sd_W D cA z0 b L xs z (ai_wI h t i j v) H1 → va_S (fun q => z0 ≤ q) s.heap H1 locs1 → W p l e R s m args below meth c H1 locs1 cells slots Q (F0 m (pc + 1) ls0 stk)) : W p l e R s m args below meth c H locs cells slots Q (F0 m pc ls0 (.int v :: .int x :: .ref (sd_ad z0 b t i) :: stk)) := by
  obtain ⟨hx, hb, -, -, -, -, -, -, -, -, -, hK, -, -, hz0, -⟩ := C
  obtain ⟨q, len, hq, h99, h98, he, he2, hin, hj⟩ := sd_is_n (cA := cA) (z0 := z0) (b := b) hW hv
  have hg : (sd_ws cA z0 b z.1 z.2.1 z.2.2.2 h)[q]? = some (sd_ad z0 b t i, .inl (cA 0, len, .inl (ai_gI h t i))) := by
    rw [sd_ws_get hq]
    show some (sd_ad z0 b t i, sd_en cA z0 b z.2.2.2 h t i) = _
    rw [he]
  refine va_iast hx hb hK.1 hW.1 (sd_D hW.2.1) (sd_S0 hS) q 0 hg rfl hin hd fun H1 locs1 hP1 _ hS1 => ?_
  rw [sd_setn (R' := z.2.2.2) (h' := ai_wI h t i j v) hW.2.1 hq (fun o => by rw [ai_gI_wI, if_neg (fun g => h98 g.1.symm)]) (by rw [he2, sd_gI_u, hj]) sd_en_wI] at hP1
  exact K H1 locs1 ⟨hP1, hW.2.1, Nat.le_trans hW.2.2.1 hS1.1, fun k => by rw [ai_gI_wI, if_neg (fun g => h99 g.1.symm)]; exact hW.2.2.2.1 k, hW.2.2.2.2.1, fun o ho => hW.2.2.2.2.2 o (by rw [ai_gI_wI, if_neg (fun g => h98 g.1.symm)] at ho; exact ho)⟩ (sd_S2 hS hS1)
theorem sd_zast (C : sd_C D cA z0 b L xs p R s m args meth c mi) (hW : sd_W D cA z0 b L xs z h H) (hS : va_S (fun q => z0 ≤ q) s.heap H locs) {t i j : Nat} {x v : Int32} (h01 : v = 0 ∨ v = 1) (hv : ai_ald (ai_kz t) z.1 t i x = some j) (hd : decode (ai_by mi) pc = .ok (.bastore, 1))
    (K : ∀ H1 locs1, sd_W D cA z0 b L xs z (ai_wI h t i j v) H1 → va_S (fun q => z0 ≤ q) s.heap H1 locs1 → W p l e R s m args below meth c H1 locs1 cells slots Q (F0 m (pc + 1) ls0 stk)) : W p l e R s m args below meth c H locs cells slots Q (F0 m pc ls0 (.int v :: .int x :: .ref (sd_ad z0 b t i) :: stk)) := by
  obtain ⟨hx, hb, -, -, -, -, -, -, -, -, -, hK, -, -, hz0, -⟩ := C
  obtain ⟨len, ho, hal, hin, hj, -⟩ := sd_ald_is hv
  have he := sd_get (cA := cA) (z0 := z0) (b := b) (k := z.2.1) (R := z.2.2.2) (h := h) hal
  rw [sd_en_b ho] at he
  refine va_zast hx hb hK.1 hW.1 (sd_D hW.2.1) (sd_S0 hS) (ai_ps t i) 2 he rfl hin hd fun H1 locs1 hP1 _ hS1 => ?_
  rw [sd_set (R' := z.2.2.2) (h' := ai_wI h t i j v) hW.2.1 hal (fun o => by rw [ai_gI_wI, if_neg (fun g => sd_t98 hal g.1.symm)]) (by rw [sd_en_b ho, sd_gI_u, hj, (sd_nar01 h01).2.2]) sd_en_wI] at hP1
  exact K H1 locs1 ⟨hP1, hW.2.1, Nat.le_trans hW.2.2.1 hS1.1, fun k => by rw [ai_gI_wI, if_neg (fun g => sd_t99 hal g.1.symm)]; exact hW.2.2.2.1 k, hW.2.2.2.2.1, fun o ho => hW.2.2.2.2.2 o (by rw [ai_gI_wI, if_neg (fun g => sd_t98 hal g.1.symm)] at ho; exact ho)⟩ (sd_S2 hS hS1)
theorem sd_last (C : sd_C D cA z0 b L xs p R s m args meth c mi) (hW : sd_W D cA z0 b L xs z h H) (hS : va_S (fun q => z0 ≤ q) s.heap H locs) {t i j : Nat} {x : Int32} {v : Int64} (hv : ai_js z.1 h t i x = some j) (hd : decode (ai_by mi) pc = .ok (.lastore, 1))
    (K : ∀ H1 locs1, sd_W D cA z0 b L xs z (ai_wJ h t i j v) H1 → va_S (fun q => z0 ≤ q) s.heap H1 locs1 → W p l e R s m args below meth c H1 locs1 cells slots Q (F0 m (pc + 1) ls0 stk)) : W p l e R s m args below meth c H locs cells slots Q (F0 m pc ls0 (.long v :: .int x :: .ref (sd_ad z0 b t i) :: stk)) := by
  obtain ⟨hx, hb, -, -, -, -, -, -, -, -, -, hK, -, -, hz0, -⟩ := C
  obtain ⟨q, len, hq, h99, h98, he, he2, hin, hj⟩ := sd_js_n (cA := cA) (z0 := z0) (b := b) hW hv
  have hg : (sd_ws cA z0 b z.1 z.2.1 z.2.2.2 h)[q]? = some (sd_ad z0 b t i, .inl (cA 1, len, .inr (.inl (ai_gJ h t i)))) := by
    rw [sd_ws_get hq]
    show some (sd_ad z0 b t i, sd_en cA z0 b z.2.2.2 h t i) = _
    rw [he]
  refine va_last hx hb hK.1 hW.1 (sd_D hW.2.1) (sd_S0 hS) q 1 hg rfl hin hd fun H1 locs1 hP1 _ hS1 => ?_
  rw [sd_setn (R' := z.2.2.2) (h' := ai_wJ h t i j v) hW.2.1 hq (fun o => rfl) (by rw [he2, sd_gJ_u, hj]) sd_en_wJ] at hP1
  exact K H1 locs1 ⟨hP1, hW.2.1, Nat.le_trans hW.2.2.1 hS1.1, fun k => hW.2.2.2.1 k, hW.2.2.2.2.1, hW.2.2.2.2.2⟩ (sd_S2 hS hS1)
theorem sd_aast (C : sd_C D cA z0 b L xs p R s m args meth c mi) (hW : sd_W D cA z0 b L xs z h H) (hS : va_S (fun q => z0 ≤ q) s.heap H locs) {t i j : Nat} {x : Int32} {v r : Nat × Nat} (hr : ai_kr t = some r) (hvo : ai_ko v.1 = some r.1 ∧ ai_al z.1 v.1 v.2 = true) (hv : ai_ald (some r.2) z.1 t i x = some j) (hd : decode (ai_by mi) pc = .ok (.aastore, 1))
    (K : ∀ H1 locs1, sd_W D cA z0 b L xs (z.1, z.2.1, z.2.2.1, ai_wR z.2.2.2 t i j (some v)) h H1 → va_S (fun q => z0 ≤ q) s.heap H1 locs1 → W p l e R s m args below meth c H1 locs1 cells slots Q (F0 m (pc + 1) ls0 stk)) : W p l e R s m args below meth c H locs cells slots Q (F0 m pc ls0 (.ref (sd_ad z0 b v.1 v.2) :: .int x :: .ref (sd_ad z0 b t i) :: stk)) := by
  obtain ⟨hx, hb, -, -, -, -, -, -, -, -, -, hK, -, -, hz0, -⟩ := C
  obtain ⟨len, ho, hal, hin, hj, -⟩ := sd_ald_is hv
  cases ho
  have he := sd_get (cA := cA) (z0 := z0) (b := b) (k := z.2.1) (R := z.2.2.2) (h := h) hal
  rw [sd_en_r hr] at he
  have he2 := sd_get (cA := cA) (z0 := z0) (b := b) (k := z.2.1) (R := z.2.2.2) (h := h) hvo.2
  rw [sd_en_o hvo.1] at he2
  have hc7 : r.1 < 6 := by
    rcases sd_kr_cls hr with h | h | h <;> omega
  refine va_astq hx hb hK.1 hW.1 (sd_D hW.2.1) (sd_S0 hS) (ai_ps t i) (sd_ti r.1) (ai_ps v.1 v.2) r.1 he (sd_tyr (sd_kr_cls hr)) he2 (sd_cls hc7) hin hd fun H1 locs1 hP1 _ hS1 => ?_
  rw [sd_set (R' := ai_wR z.2.2.2 t i j (some v)) (h' := h) hW.2.1 hal (fun o => rfl) (by
    rw [sd_en_r hr, sd_R_u, hj]
    congr 7
    funext k
    unfold va_up
    by_cases hk : k = j
    · rw [if_pos hk, if_pos hk]; rfl
    · rw [if_neg hk, if_neg hk]) sd_en_wR] at hP1
  exact K H1 locs1 ⟨hP1, hW.2.1, Nat.le_trans hW.2.2.1 hS1.1, fun k => hW.2.2.2.1 k, hW.2.2.2.2.1, hW.2.2.2.2.2⟩ (sd_S2 hS hS1)
theorem sd_alen (C : sd_C D cA z0 b L xs p R s m args meth c mi) (hW : sd_W D cA z0 b L xs z h H) (hS : va_S (fun q => z0 ≤ q) s.heap H locs) {t i : Nat} {v : Int32} (hv : ai_len z.1 z.2.2.1 t i = some v) (hd : decode (ai_by mi) pc = .ok (.arraylength, 1))
    (K : W p l e R s m args below meth c H locs cells slots Q (F0 m (pc + 1) ls0 (.int v :: stk))) : W p l e R s m args below meth c H locs cells slots Q (F0 m pc ls0 (.ref (sd_ad z0 b t i) :: stk)) := by
  obtain ⟨hX, hbl, hbA⟩ := sd_bX C
  obtain ⟨hx, hb, -, -, -, -, -, -, -, -, -, hK, -⟩ := C
  unfold ai_len at hv
  split at hv
  · rename_i ht
    have ht : t = 99 := ht
    subst ht
    cases hv
    rw [hW.2.2.2.2.1] at K
    exact va_slen hx hb hX hbl hbA hS hd K
  · split at hv
    · rename_i len ho
      split at hv
      · rename_i hal
        have he := sd_get (cA := cA) (z0 := z0) (b := b) (k := z.2.1) (R := z.2.2.2) (h := h) hal
        rw [sd_en_i ho] at he
        cases hv
        exact va_alen hx hb hK.1 hW.1 (ai_ps t i) 0 he rfl rfl hd K
      · cases hv
    · cases hv
end SDAR
