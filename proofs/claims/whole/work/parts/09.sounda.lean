section SDAR
variable {D : va_G} {cA : Nat → ClassId} {z0 b L : Nat} {xs : Nat → Int32} {p : Program} {l : Launch} {e : Env} {R : Room} {s : State} {m : MethodId} {args : Array Value} {below : List Frame} {meth : Method} {c : Code} {Q : State → Prop} {mi pc : Nat} {H : Heap} {locs : List Loc} {cells slots : Nat} {ls0 : Array Slot} {z : ai_Z} {h : ai_H} {stk : List Value}
theorem sd_bX (C : sd_C D cA z0 b L xs p R s m args meth c mi) : va_X b L xs s s.heap ∧ b < s.heap.size ∧ ¬ (fun q => z0 ≤ q) b := by
  obtain ⟨-, -, -, -, -, -, -, -, -, -, -, -, hX, hbz, hz0, -⟩ := C
  exact ⟨hX, by omega, by show ¬ z0 ≤ b; omega⟩
theorem sd_ix_is {x : Int32} {n j : Nat} (h : ai_ix x n = some j) : vp_in x n ∧ x.toNatClampNeg = j ∧ j < n := ai_ix_in h
theorem sd_iald (C : sd_C D cA z0 b L xs p R s m args meth c mi) (hW : sd_W D cA z0 b L xs z h H) (hS : va_S (fun q => z0 ≤ q) s.heap H locs) {t i : Nat} {x v : Int32} (hv : ai_il z.1 z.2.2.1 h t i x = some v) (hd : decode (ai_by mi) pc = .ok (.iaload, 1))
    (K : W p l e R s m args below meth c H locs cells slots Q (F0 m (pc + 1) ls0 (.int v :: stk))) : W p l e R s m args below meth c H locs cells slots Q (F0 m pc ls0 (.int x :: .ref (sd_ad z0 b t i) :: stk)) := by
  obtain ⟨hX, hbl, hbA⟩ := sd_bX C
  obtain ⟨hx, hb, -, -, -, -, -, -, -, -, -, hK, -⟩ := C
  unfold ai_il at hv
  split at hv
  · rename_i ht
    have ht : t = 99 := ht
    subst ht
    obtain ⟨j, h1, h2⟩ := Option.map_eq_some_iff.mp hv
    rw [hW.2.2.2.2] at h1
    obtain ⟨hin, hj, -⟩ := sd_ix_is h1
    have e1 : v = xs x.toNatClampNeg := by rw [← h2, hW.2.2.2.1 j, hj]
    rw [e1] at K
    exact va_sld hx hb hX hbl hbA hS hin hd K
  · obtain ⟨j, h1, h2⟩ := Option.map_eq_some_iff.mp hv
    obtain ⟨len, ho, hal, hin, hj, -⟩ := sd_ald_is h1
    have he := sd_get (cA := cA) (z0 := z0) (b := b) (R := z.2.2.2) (h := h) hal
    rw [sd_en_i ho] at he
    have e1 : v = ai_gI h t i x.toNatClampNeg := by rw [← h2, hj]
    rw [e1] at K
    exact va_iald hx hb hK.1 hW.1 (ai_ps t i) 0 he rfl hin hd K
theorem sd_lald (C : sd_C D cA z0 b L xs p R s m args meth c mi) (hW : sd_W D cA z0 b L xs z h H) {t i j : Nat} {x : Int32} (hv : ai_ald (ai_kj t) z.1 t i x = some j) (hd : decode (ai_by mi) pc = .ok (.laload, 1))
    (K : W p l e R s m args below meth c H locs cells slots Q (F0 m (pc + 1) ls0 (.long (ai_gJ h t i j) :: stk))) : W p l e R s m args below meth c H locs cells slots Q (F0 m pc ls0 (.int x :: .ref (sd_ad z0 b t i) :: stk)) := by
  obtain ⟨hx, hb, -, -, -, -, -, -, -, -, -, hK, -⟩ := C
  obtain ⟨len, ho, hal, hin, hj, -⟩ := sd_ald_is hv
  have he := sd_get (cA := cA) (z0 := z0) (b := b) (R := z.2.2.2) (h := h) hal
  rw [sd_en_j ho] at he
  rw [← hj] at K
  exact va_lald hx hb hK.1 hW.1 (ai_ps t i) 1 he rfl hin hd K
theorem sd_zald (C : sd_C D cA z0 b L xs p R s m args meth c mi) (hW : sd_W D cA z0 b L xs z h H) {t i j : Nat} {x : Int32} (hv : ai_ald (ai_kz t) z.1 t i x = some j) (hd : decode (ai_by mi) pc = .ok (.baload, 1))
    (K : W p l e R s m args below meth c H locs cells slots Q (F0 m (pc + 1) ls0 (.int (ai_gI h t i j) :: stk))) : W p l e R s m args below meth c H locs cells slots Q (F0 m pc ls0 (.int x :: .ref (sd_ad z0 b t i) :: stk)) := by
  obtain ⟨hx, hb, -, -, -, -, -, -, -, -, -, hK, -⟩ := C
  obtain ⟨len, ho, hal, hin, hj, -⟩ := sd_ald_is hv
  have he := sd_get (cA := cA) (z0 := z0) (b := b) (R := z.2.2.2) (h := h) hal
  rw [sd_en_b ho] at he
  rw [← hj] at K
  exact va_zald hx hb hK.1 hW.1 (ai_ps t i) 2 he rfl hin hd K
theorem sd_tyr {cA : Nat → ClassId} {r : Nat} (h : r = 1 ∨ r = 2 ∨ r = 5) : (sd_ty cA)[sd_ti r]? = some (cA (sd_ti r), .object (sd_R r)) := by
  rcases h with h | h | h <;> subst h <;> rfl
theorem sd_aald (C : sd_C D cA z0 b L xs p R s m args meth c mi) (hW : sd_W D cA z0 b L xs z h H) {t i j : Nat} {x : Int32} {v : Nat × Nat} (hv : ai_ald ((ai_kr t).map fun r => r.2) z.1 t i x = some j) (hr : z.2.2.2 t i j = some v) (hd : decode (ai_by mi) pc = .ok (.aaload, 1))
    (K : W p l e R s m args below meth c H locs cells slots Q (F0 m (pc + 1) ls0 (.ref (sd_ad z0 b v.1 v.2) :: stk))) : W p l e R s m args below meth c H locs cells slots Q (F0 m pc ls0 (.int x :: .ref (sd_ad z0 b t i) :: stk)) := by
  obtain ⟨hx, hb, -, -, -, -, -, -, -, -, -, hK, -⟩ := C
  obtain ⟨len, ho, hal, hin, hj, -⟩ := sd_ald_is hv
  obtain ⟨r, h1, h2⟩ := Option.map_eq_some_iff.mp ho
  have he := sd_get (cA := cA) (z0 := z0) (b := b) (R := z.2.2.2) (h := h) hal
  rw [sd_en_r h1, h2] at he
  have e1 : Value.ref (sd_ad z0 b v.1 v.2) = va_rf ((fun j => sd_q z0 b (z.2.2.2 t i j)) x.toNatClampNeg) := by
    show _ = va_rf (sd_q z0 b (z.2.2.2 t i x.toNatClampNeg))
    rw [hj, hr]
    rfl
  rw [e1] at K
  exact va_aldq hx hb hK.1 hW.1 (ai_ps t i) (sd_ti r.1) he (sd_tyr (sd_kr_cls h1)) hin hd K
theorem sd_t99 {n t i : Nat} (hal : ai_al n t i = true) : t ≠ 99 := by
  intro h9
  rw [h9, sd_al_99] at hal
  cases hal
theorem sd_iast (C : sd_C D cA z0 b L xs p R s m args meth c mi) (hW : sd_W D cA z0 b L xs z h H) (hS : va_S (fun q => z0 ≤ q) s.heap H locs) {t i j : Nat} {x v : Int32} (hv : ai_ald (ai_ki t) z.1 t i x = some j) (hd : decode (ai_by mi) pc = .ok (.iastore, 1))
    (K : ∀ H1 locs1, sd_W D cA z0 b L xs z (ai_wI h t i j v) H1 → va_S (fun q => z0 ≤ q) s.heap H1 locs1 → W p l e R s m args below meth c H1 locs1 cells slots Q (F0 m (pc + 1) ls0 stk)) : W p l e R s m args below meth c H locs cells slots Q (F0 m pc ls0 (.int v :: .int x :: .ref (sd_ad z0 b t i) :: stk)) := by
  obtain ⟨hx, hb, -, -, -, -, -, -, -, -, -, hK, -, -, hz0, -⟩ := C
  obtain ⟨len, ho, hal, hin, hj, -⟩ := sd_ald_is hv
  have he := sd_get (cA := cA) (z0 := z0) (b := b) (R := z.2.2.2) (h := h) hal
  rw [sd_en_i ho] at he
  refine va_iast hx hb hK.1 hW.1 sd_D hS (ai_ps t i) 0 he rfl hin hd fun H1 locs1 hP1 _ hS1 => ?_
  rw [sd_set (R' := z.2.2.2) (h' := ai_wI h t i j v) hW.2.1 hal (by rw [sd_en_i ho, sd_gI_u, hj]) sd_en_wI] at hP1
  exact K H1 locs1 ⟨hP1, hW.2.1, Nat.le_trans hz0 hS1.1, fun k => by rw [ai_gI_wI, if_neg (fun g => sd_t99 hal g.1.symm)]; exact hW.2.2.2.1 k, hW.2.2.2.2⟩ hS1
theorem sd_zast (C : sd_C D cA z0 b L xs p R s m args meth c mi) (hW : sd_W D cA z0 b L xs z h H) (hS : va_S (fun q => z0 ≤ q) s.heap H locs) {t i j : Nat} {x v : Int32} (h01 : v = 0 ∨ v = 1) (hv : ai_ald (ai_kz t) z.1 t i x = some j) (hd : decode (ai_by mi) pc = .ok (.bastore, 1))
    (K : ∀ H1 locs1, sd_W D cA z0 b L xs z (ai_wI h t i j v) H1 → va_S (fun q => z0 ≤ q) s.heap H1 locs1 → W p l e R s m args below meth c H1 locs1 cells slots Q (F0 m (pc + 1) ls0 stk)) : W p l e R s m args below meth c H locs cells slots Q (F0 m pc ls0 (.int v :: .int x :: .ref (sd_ad z0 b t i) :: stk)) := by
  obtain ⟨hx, hb, -, -, -, -, -, -, -, -, -, hK, -, -, hz0, -⟩ := C
  obtain ⟨len, ho, hal, hin, hj, -⟩ := sd_ald_is hv
  have he := sd_get (cA := cA) (z0 := z0) (b := b) (R := z.2.2.2) (h := h) hal
  rw [sd_en_b ho] at he
  refine va_zast hx hb hK.1 hW.1 sd_D hS (ai_ps t i) 2 he rfl hin hd fun H1 locs1 hP1 _ hS1 => ?_
  rw [sd_set (R' := z.2.2.2) (h' := ai_wI h t i j v) hW.2.1 hal (by rw [sd_en_b ho, sd_gI_u, hj, (sd_nar01 h01).2.2]) sd_en_wI] at hP1
  exact K H1 locs1 ⟨hP1, hW.2.1, Nat.le_trans hz0 hS1.1, fun k => by rw [ai_gI_wI, if_neg (fun g => sd_t99 hal g.1.symm)]; exact hW.2.2.2.1 k, hW.2.2.2.2⟩ hS1
theorem sd_last (C : sd_C D cA z0 b L xs p R s m args meth c mi) (hW : sd_W D cA z0 b L xs z h H) (hS : va_S (fun q => z0 ≤ q) s.heap H locs) {t i j : Nat} {x : Int32} {v : Int64} (hv : ai_ald (ai_kj t) z.1 t i x = some j) (hd : decode (ai_by mi) pc = .ok (.lastore, 1))
    (K : ∀ H1 locs1, sd_W D cA z0 b L xs z (ai_wJ h t i j v) H1 → va_S (fun q => z0 ≤ q) s.heap H1 locs1 → W p l e R s m args below meth c H1 locs1 cells slots Q (F0 m (pc + 1) ls0 stk)) : W p l e R s m args below meth c H locs cells slots Q (F0 m pc ls0 (.long v :: .int x :: .ref (sd_ad z0 b t i) :: stk)) := by
  obtain ⟨hx, hb, -, -, -, -, -, -, -, -, -, hK, -, -, hz0, -⟩ := C
  obtain ⟨len, ho, hal, hin, hj, -⟩ := sd_ald_is hv
  have he := sd_get (cA := cA) (z0 := z0) (b := b) (R := z.2.2.2) (h := h) hal
  rw [sd_en_j ho] at he
  refine va_last hx hb hK.1 hW.1 sd_D hS (ai_ps t i) 1 he rfl hin hd fun H1 locs1 hP1 _ hS1 => ?_
  rw [sd_set (R' := z.2.2.2) (h' := ai_wJ h t i j v) hW.2.1 hal (by rw [sd_en_j ho, sd_gJ_u, hj]) sd_en_wJ] at hP1
  exact K H1 locs1 ⟨hP1, hW.2.1, Nat.le_trans hz0 hS1.1, fun k => hW.2.2.2.1 k, hW.2.2.2.2⟩ hS1
theorem sd_aast (C : sd_C D cA z0 b L xs p R s m args meth c mi) (hW : sd_W D cA z0 b L xs z h H) (hS : va_S (fun q => z0 ≤ q) s.heap H locs) {t i j : Nat} {x : Int32} {v r : Nat × Nat} (hr : ai_kr t = some r) (hvo : ai_ko v.1 = some r.1 ∧ ai_al z.1 v.1 v.2 = true) (hv : ai_ald (some r.2) z.1 t i x = some j) (hd : decode (ai_by mi) pc = .ok (.aastore, 1))
    (K : ∀ H1 locs1, sd_W D cA z0 b L xs (z.1, z.2.1, z.2.2.1, ai_wR z.2.2.2 t i j (some v)) h H1 → va_S (fun q => z0 ≤ q) s.heap H1 locs1 → W p l e R s m args below meth c H1 locs1 cells slots Q (F0 m (pc + 1) ls0 stk)) : W p l e R s m args below meth c H locs cells slots Q (F0 m pc ls0 (.ref (sd_ad z0 b v.1 v.2) :: .int x :: .ref (sd_ad z0 b t i) :: stk)) := by
  obtain ⟨hx, hb, -, -, -, -, -, -, -, -, -, hK, -, -, hz0, -⟩ := C
  obtain ⟨len, ho, hal, hin, hj, -⟩ := sd_ald_is hv
  cases ho
  have he := sd_get (cA := cA) (z0 := z0) (b := b) (R := z.2.2.2) (h := h) hal
  rw [sd_en_r hr] at he
  have he2 := sd_get (cA := cA) (z0 := z0) (b := b) (R := z.2.2.2) (h := h) hvo.2
  rw [sd_en_o hvo.1] at he2
  have hc7 : r.1 < 7 := by
    rcases sd_kr_cls hr with h | h | h <;> omega
  refine va_astq hx hb hK.1 hW.1 sd_D hS (ai_ps t i) (sd_ti r.1) (ai_ps v.1 v.2) r.1 he (sd_tyr (sd_kr_cls hr)) he2 (sd_cls hc7) hin hd fun H1 locs1 hP1 _ hS1 => ?_
  rw [sd_set (R' := ai_wR z.2.2.2 t i j (some v)) (h' := h) hW.2.1 hal (by
    rw [sd_en_r hr, sd_R_u, hj]
    congr 7
    funext k
    unfold va_up
    by_cases hk : k = j
    · rw [if_pos hk, if_pos hk]; rfl
    · rw [if_neg hk, if_neg hk]) sd_en_wR] at hP1
  exact K H1 locs1 ⟨hP1, hW.2.1, Nat.le_trans hz0 hS1.1, fun k => hW.2.2.2.1 k, hW.2.2.2.2⟩ hS1
theorem sd_alen (C : sd_C D cA z0 b L xs p R s m args meth c mi) (hW : sd_W D cA z0 b L xs z h H) (hS : va_S (fun q => z0 ≤ q) s.heap H locs) {t i : Nat} {v : Int32} (hv : ai_len z.1 z.2.2.1 t i = some v) (hd : decode (ai_by mi) pc = .ok (.arraylength, 1))
    (K : W p l e R s m args below meth c H locs cells slots Q (F0 m (pc + 1) ls0 (.int v :: stk))) : W p l e R s m args below meth c H locs cells slots Q (F0 m pc ls0 (.ref (sd_ad z0 b t i) :: stk)) := by
  obtain ⟨hX, hbl, hbA⟩ := sd_bX C
  obtain ⟨hx, hb, -, -, -, -, -, -, -, -, -, hK, -⟩ := C
  unfold ai_len at hv
  split at hv
  · rename_i ht
    have ht : t = 99 := ht
    subst ht
    cases hv
    rw [hW.2.2.2.2] at K
    exact va_slen hx hb hX hbl hbA hS hd K
  · split at hv
    · rename_i len ho
      split at hv
      · rename_i hal
        have he := sd_get (cA := cA) (z0 := z0) (b := b) (R := z.2.2.2) (h := h) hal
        rw [sd_en_i ho] at he
        cases hv
        exact va_alen hx hb hK.1 hW.1 (ai_ps t i) 0 he rfl rfl hd K
      · cases hv
    · cases hv
end SDAR
