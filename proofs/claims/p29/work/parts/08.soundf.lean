theorem sd_Fcls {c k : Nat} (hc : c < 6) (hk : k < sd_n c) : (sd_F c k).1 = sd_R c := by
  have h : (List.range 6).all (fun c => (List.range (sd_n c)).all fun k => decide ((sd_F c k).1 = sd_R c)) = true := by decide +kernel
  exact of_decide_eq_true (List.all_eq_true.mp (List.all_eq_true.mp h c (List.mem_range.mpr hc)) k (List.mem_range.mpr hk))
section SDEX
variable {D : va_G} {cA : Nat → ClassId} {z0 b L : Nat} {xs : Nat → Int32} {p : Program} {l : Launch} {e : Env} {R : Room} {s : State} {m : MethodId} {args : Array Value} {below : List Frame} {meth : Method} {c : Code} {Q : State → Prop} {mi pc : Nat} {H : Heap} {locs : List Loc} {cells slots : Nat} {ls0 : Array Slot} {z : ai_Z} {h : ai_H} {stk : List Value}
theorem sd_getf (C : sd_C D cA z0 b L xs p R s m args meth c mi) (hW : sd_W D cA z0 b L xs z h H) {idx t i : Nat} {v : ai_V} (hv : ai_gf (mi / 100) idx z.1 z.2.2.2 h t i = some v) (hd : decode (ai_by mi) pc = .ok (.getfield idx, 3))
    (K : W p l e R s m args below meth c H locs cells slots Q (F0 m (pc + 3) ls0 (sd_v z0 b v :: stk))) : W p l e R s m args below meth c H locs cells slots Q (F0 m pc ls0 (.ref (sd_ad z0 b t i) :: stk)) := by
  obtain ⟨hx, hb, hml, hown, hts, -, -, -, -, -, -, hK, -⟩ := C
  obtain ⟨c1, k, f, q, -, hko, hal, hkv, hfk⟩ := sd_gf_is hv
  obtain ⟨hc, hk, hf, hl⟩ := sd_fk_is hfk
  have he := sd_get (cA := cA) (z0 := z0) (b := b) (k := z.2.1) (R := z.2.2.2) (h := h) hal
  rw [sd_en_o hko] at he
  have hfs := sd_fs_get (z0 := z0) (b := b) (I := ai_gI h t i) (J := ai_gJ h t i) (Rf := z.2.2.2 t i) hk hf
  rw [sd_kv hkv] at hfs
  rcases hl with ⟨-, hl⟩ | ⟨-, hl⟩
  · exact va_getN hx hb hts (sd_wss hc) hown hK.1 hW.1 (ai_ps t i) he (sd_cls hc) k hk (va_Nw.use rfl (hK.2.1 _ hl)) (fun _ h => by rw [sd_Fcls hc hk] at h; exact h) hfs hd K
  · exact va_get hx hb hts (sd_wss hc) hown hK.1 hW.1 (ai_ps t i) he (sd_cls hc) k hk (hts _ hl) (fun _ h => by rw [sd_Fcls hc hk] at h; exact h) hfs hd K
theorem sd_putf (C : sd_C D cA z0 b L xs p R s m args meth c mi) (hW : sd_W D cA z0 b L xs z h H) (hS : va_S (fun q => z0 ≤ q) s.heap H locs) {idx t i : Nat} {v : ai_V} {g : ai_R × ai_H} (hv : ai_pf mi idx z.1 z.2.2.2 h t i v = some g) (hd : decode (ai_by mi) pc = .ok (.putfield idx, 3))
    (K : ∀ H1 locs1, sd_W D cA z0 b L xs (z.1, z.2.1, z.2.2.1, g.1) g.2 H1 → va_S (fun q => z0 ≤ q) s.heap H1 locs1 → W p l e R s m args below meth c H1 locs1 cells slots Q (F0 m (pc + 3) ls0 stk)) : W p l e R s m args below meth c H locs cells slots Q (F0 m pc ls0 (sd_v z0 b v :: .ref (sd_ad z0 b t i) :: stk)) := by
  obtain ⟨hx, hb, hml, hown, hts, -, -, hnm, -, -, -, hK, -, -, hz0, -⟩ := C
  unfold ai_pf at hv
  split at hv
  · rename_i c1 k f hfp
    split at hv
    · rename_i hc1
      obtain ⟨hko, hal⟩ := hc1
      obtain ⟨q, hq⟩ := sd_fp_ok hfp
      unfold sd_fkp at hq
      rw [Bool.and_eq_true] at hq
      obtain ⟨hfk, hfin⟩ := hq
      obtain ⟨hc, hk, hf, hl⟩ := sd_fk_is hfk
      have he := sd_get (cA := cA) (z0 := z0) (b := b) (k := z.2.1) (R := z.2.2.2) (h := h) hal
      rw [sd_en_o hko] at he
      obtain ⟨t0, t1, t3, t2⟩ := sd_tc hc hk hf
      -- the value is of the field's kind; what it leaves
      have key : narrow (sd_t c1 k) (sd_v z0 b v) = sd_v z0 b v ∧ fits (sd_t c1 k) (sd_v z0 b v) = true ∧
          (sd_ws cA z0 b z.1 z.2.1 z.2.2.2 h).set (ai_ps t i) (sd_ad z0 b t i, .inr (c1, (sd_fs z0 b (ai_gI h t i) (ai_gJ h t i) (z.2.2.2 t i) c1).set k (sd_v z0 b v))) = sd_ws cA z0 b z.1 z.2.1 g.1 g.2 ∧ (∀ j, ai_gI g.2 99 0 j = ai_gI h 99 0 j) ∧ (∀ o, ai_gI g.2 98 o 0 = ai_gI h 98 o 0) := by
        have ht99 : t ≠ 99 := by
          intro h9
          rw [h9, sd_al_99] at hal
          cases hal
        have ht98 : t ≠ 98 := by
          intro h9
          have h8 := (sd_al hal).1
          unfold ai_T at h8
          omega
        match f, v, hv, hf, t0, t1, t2, t3 with
        | 0, Sum.inl x, hv, hf, t0, _, _, _ =>
          cases hv
          refine ⟨by rw [t0 rfl]; rfl, by rw [t0 rfl]; rfl, sd_set hW.2.1 hal (fun o => by rw [ai_gI_wI, if_neg (fun h => ht98 h.1.symm)]) ?_ sd_en_wI, fun j => ?_, fun o => by rw [ai_gI_wI, if_neg (fun h => ht98 h.1.symm)]⟩
          · rw [sd_en_o hko]
            congr 2
            exact sd_fs_set hk hf (by show Value.int x = Value.int _; rw [sd_gI_u]; unfold upd; rw [if_pos rfl]) (fun j hj => by rw [sd_gI_u]; exact if_neg hj) (fun j _ => rfl) (fun j _ => rfl)
          · rw [ai_gI_wI, if_neg (fun h => ht99 h.1.symm)]
        | 1, Sum.inr (Sum.inl x), hv, hf, _, t1, _, _ =>
          cases hv
          refine ⟨by rw [t1 rfl]; rfl, by rw [t1 rfl]; rfl, sd_set hW.2.1 hal (fun o => rfl) ?_ sd_en_wJ, fun j => rfl, fun o => rfl⟩
          rw [sd_en_o hko]
          congr 2
          exact sd_fs_set hk hf (by show Value.long x = Value.long _; rw [sd_gJ_u]; unfold vp_updL; rw [if_pos rfl]) (fun j _ => rfl) (fun j hj => by rw [sd_gJ_u]; exact if_neg hj) (fun j _ => rfl)
        | 2, Sum.inr (Sum.inr x), hv, hf, _, _, t2, _ =>
          cases hv
          refine ⟨sd_narrow_r, sd_fits_r (t2 rfl), sd_set hW.2.1 hal (fun o => rfl) ?_ sd_en_wR, fun j => rfl, fun o => rfl⟩
          rw [sd_en_o hko]
          congr 2
          exact sd_fs_set hk hf (by show Value.ref _ = va_rf (sd_q z0 b (ai_wR z.2.2.2 t i k (some x) t i k)); rw [sd_R_u]; unfold va_up; rw [if_pos rfl]; rfl) (fun j _ => rfl) (fun j _ => rfl) (fun j hj => by show ai_wR z.2.2.2 t i k (some x) t i j = _; rw [sd_R_u]; exact if_neg hj)
        | 3, Sum.inl x, hv, hf, _, _, _, t3 =>
          have hv' : (if x = 0 ∨ x = 1 then some (z.2.2.2, ai_wI h t i k x) else none) = some g := hv
          split at hv'
          · rename_i hx01
            cases hv'
            refine ⟨by rw [t3 rfl]; exact (sd_nar01 hx01).1, by rw [t3 rfl]; exact (sd_nar01 hx01).2.1, sd_set hW.2.1 hal (fun o => by rw [ai_gI_wI, if_neg (fun h => ht98 h.1.symm)]) ?_ sd_en_wI, fun j => ?_, fun o => by rw [ai_gI_wI, if_neg (fun h => ht98 h.1.symm)]⟩
            · rw [sd_en_o hko]
              congr 2
              exact sd_fs_set hk hf (by show Value.int x = Value.int _; rw [sd_gI_u]; unfold upd; rw [if_pos rfl]) (fun j hj => by rw [sd_gI_u]; exact if_neg hj) (fun j _ => rfl) (fun j _ => rfl)
            · rw [ai_gI_wI, if_neg (fun h => ht99 h.1.symm)]
          · cases hv'
      obtain ⟨hn1, hn2, hset, h99, h98⟩ := key
      have K' : ∀ (H1 : Heap) (locs1 : List Loc), va_P D sd_cl ((sd_ws cA z0 b z.1 z.2.1 z.2.2.2 h).set (ai_ps t i) (sd_ad z0 b t i, .inr (c1, (sd_fs z0 b (ai_gI h t i) (ai_gJ h t i) (z.2.2.2 t i) c1).set k (sd_v z0 b v)))) H1 → va_D (fun q => z0 ≤ q) ((sd_ws cA z0 b z.1 z.2.1 z.2.2.2 h).set (ai_ps t i) (sd_ad z0 b t i, .inr (c1, (sd_fs z0 b (ai_gI h t i) (ai_gJ h t i) (z.2.2.2 t i) c1).set k (sd_v z0 b v)))) → va_S (fun q => z0 ≤ q) H H1 locs1 → W p l e R s m args below meth c H1 locs1 cells slots Q (F0 m (pc + 3) ls0 stk) := by
        intro H1 locs1 hP1 _ hS1
        rw [hset] at hP1
        exact K H1 locs1 ⟨hP1, hW.2.1, Nat.le_trans hW.2.2.1 hS1.1, fun j => by rw [h99]; exact hW.2.2.2.1 j, hW.2.2.2.2.1, fun o ho => hW.2.2.2.2.2 o (by rw [← h98 o]; exact ho)⟩ (sd_S2 hS hS1)
      have hlen : k < (sd_fs z0 b (ai_gI h t i) (ai_gJ h t i) (z.2.2.2 t i) c1).length := by rw [sd_fs_len]; exact hk
      cases hfn : (sd_F c1 k).2.2.2 with
      | false =>
        rcases hl with ⟨-, hl⟩ | ⟨-, hl⟩
        · exact va_putN hx hb hts (sd_wss hc) (sd_t c1) (sd_tos hc) (sd_nfs hc) hown hK.1 hW.1 (sd_D hW.2.1) (sd_S0 hS) (ai_ps t i) he (sd_cls hc) k hk (va_Nw.use rfl (hK.2.1 _ hl)) (fun _ h => by rw [sd_Fcls hc hk] at h; exact h) hfn (sd_tos hc k hk) hn1 hn2 hlen hd K'
        · exact va_put hx hb hts (sd_wss hc) (sd_t c1) (sd_tos hc) (sd_nfs hc) hown hK.1 hW.1 (sd_D hW.2.1) (sd_S0 hS) (ai_ps t i) he (sd_cls hc) k hk (hts _ hl) (fun _ h => by rw [sd_Fcls hc hk] at h; exact h) hfn (sd_tos hc k hk) hn1 hn2 hlen hd K'
      | true =>
        rw [hfn] at hfin
        simp only [Bool.not_true, Bool.false_or, Bool.and_eq_true, decide_eq_true_eq] at hfin
        obtain ⟨⟨hini, hcw⟩, hq9⟩ := hfin
        rcases hl with ⟨h9, -⟩ | ⟨-, hl⟩
        · exact absurd h9 hq9
        · exact va_putF hx hb hts (sd_wss hc) (sd_t c1) (sd_tos hc) (sd_nfs hc) hown hK.1 hW.1 (sd_D hW.2.1) (sd_S0 hS) (ai_ps t i) he (sd_cls hc) k hk (hts _ hl) (fun _ h => by rw [sd_Fcls hc hk] at h; exact h) hfn (hnm.trans hini) (by rw [← hcw]; exact sd_Fcls hc hk) (sd_tos hc k hk) hn1 hn2 hlen hd K'
    · cases hv
  · cases hv
end SDEX
