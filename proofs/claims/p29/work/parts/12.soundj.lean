def sd_sl : Nat → Nat
  | 0 => 0
  | n + 1 => sd_sl n + ai_sz (ai_or n).1
/-- cells and places that are used -/
def sd_nc (z : ai_Z) : Nat := z.1 + z.2.1
def sd_ns (z : ai_Z) : Nat := sd_sl z.1 + 10 * z.2.1
theorem ai_twoP (c : Prop) (d : Decidable c) (a b : Nat) (f : Nat → Prop) : f (@ite _ c d a b) ↔ (c → f a) ∧ (¬ c → f b) := by
  by_cases hc : c
  · rw [if_pos hc]
    exact ⟨fun h => ⟨fun _ => h, fun n => absurd hc n⟩, fun h => h.1 hc⟩
  · rw [if_neg hc]
    exact ⟨fun h => ⟨fun n => absurd n hc, fun _ => h⟩, fun h => h.2 hc⟩
section SDJ
variable {D : va_G} {cA : Nat → ClassId} {z0 b L : Nat} {xs : Nat → Int32} {p : Program} {l : Launch} {e : Env} {R : Room} {s : State} {m : MethodId} {args : Array Value} {below : List Frame} {meth : Method} {c : Code} {Q : State → Prop} {mi pc : Nat} {H : Heap} {locs : List Loc} {cells slots : Nat} {ls0 : Array Slot} {z : ai_Z} {h : ai_H}
theorem sd_tgt {pc : Nat} {off : Int} (h : ai_tk pc off = true) : (pc : Int) + off = (ai_tg pc off : Int) := (Int.toNat_of_nonneg (of_decide_eq_true h)).symm
theorem sd_two {c : Prop} {d : Decidable c} {a b : Nat} {P : Nat → Prop} (h : P (@ite _ c d a b)) : (c → P a) ∧ (¬ c → P b) := (ai_twoP c d a b P).mp h
theorem sd_jp {len pc' : Nat} {i : Instr} {st st' : List ai_V} (C : sd_C D cA z0 b L xs p R s m args meth c mi) (hj : ai_jp i len pc st = some (pc', st')) (hd : decode (ai_by mi) pc = .ok (i, len)) (hk : ai_lk (i, len) = true)
    (K : W p l e R s m args below meth c H locs cells slots Q (F0 m pc' ls0 (st'.map (sd_v z0 b)))) : W p l e R s m args below meth c H locs cells slots Q (F0 m pc ls0 (st.map (sd_v z0 b))) := by
  have hx := C.1
  have hb := C.2.1
  unfold ai_jp at hj
  split at hj
  · -- goto
    split at hj
    · rename_i ht
      have e1 := eq_of_beq (show (len == 3) = true from hk)
      subst e1; cases hj
      exact lv_goto hx hb hd (sd_tgt ht) K
    · cases hj
  · -- if
    rename_i cc off
    split at hj
    · split at hj
      · rename_i x st1 ht
        have e1 := eq_of_beq (show (len == 3) = true from hk)
        subst e1
        injection hj with hj
        injection hj with h1 h2
        subst h2; subst h1
        obtain ⟨K1, K2⟩ := sd_two (P := fun n => W p l e R s m args below meth c H locs cells slots Q (F0 m n ls0 (st1.map (sd_v z0 b)))) K
        cases cc with
        | eq => exact lv_if_eq hx hb hd (sd_tgt ht) K1 K2
        | ne => exact lv_if_ne hx hb hd (sd_tgt ht) K1 (fun g => K2 (fun f => f g))
        | lt => exact lv_if_lt hx hb hd (sd_tgt ht) K1 K2
        | ge => exact lv_if_ge hx hb hd (sd_tgt ht) K1 K2
        | gt => exact lv_if_gt hx hb hd (sd_tgt ht) K1 K2
        | le => exact lv_if_le hx hb hd (sd_tgt ht) K1 K2
      · cases hj
    · cases hj
  · -- if_icmp
    rename_i cc off
    split at hj
    · split at hj
      · rename_i y x st1 ht
        have e1 := eq_of_beq (show (len == 3) = true from hk)
        subst e1
        injection hj with hj
        injection hj with h1 h2
        subst h2; subst h1
        obtain ⟨K1, K2⟩ := sd_two (P := fun n => W p l e R s m args below meth c H locs cells slots Q (F0 m n ls0 (st1.map (sd_v z0 b)))) K
        cases cc with
        | eq => exact lv_icmp_eq hx hb hd (sd_tgt ht) K1 K2
        | ne => exact lv_icmp_ne hx hb hd (sd_tgt ht) K1 (fun g => K2 (fun f => f g))
        | lt => exact lv_icmp_lt hx hb hd (sd_tgt ht) K1 K2
        | ge => exact lv_icmp_ge hx hb hd (sd_tgt ht) K1 K2
        | gt => exact lv_icmp_gt hx hb hd (sd_tgt ht) K1 K2
        | le => exact lv_icmp_le hx hb hd (sd_tgt ht) K1 K2
      · cases hj
    · cases hj
  · -- tableswitch
    split at hj
    · split at hj
      · rename_i ho
        split at hj
        · rename_i ht
          cases hj
          exact lv_tableOut hx hb hd ho (sd_tgt ht) K
        · cases hj
      · rename_i hin
        split at hj
        · rename_i off ho
          split at hj
          · rename_i ht
            cases hj
            exact lv_tableIn hx hb hd (fun g => hin (Or.inl g)) (fun g => hin (Or.inr g)) ho (sd_tgt ht) K
          · cases hj
        · cases hj
    · cases hj
  · cases hj
/-- where the next cell lies -/
theorem sd_next {T : State} {cb : Nat} (hW : sd_W D cA z0 b L xs z h H) (hT : T.heap = H) (X : Stand p l e R s m args below meth c T locs cells slots) (hcb : cells + cb = sd_nc z) (hent : s.heap.size = z0 + cb) : H.size = z0 + (z.1 + z.2.1) := by
  have h1 := X.heapSize
  rw [hT] at h1
  unfold sd_nc at hcb
  have h2 := hW.2.2.1
  omega
theorem sd_zI {h : ai_H} {t i : Nat} : ai_gI (ai_zH h t i) t i = fun _ => 0 := by
  funext j
  rw [ai_gI_zH, if_pos ⟨rfl, rfl⟩]
theorem sd_zJ {h : ai_H} {t i : Nat} : ai_gJ (ai_zH h t i) t i = fun _ => 0 := by
  funext j
  rw [ai_gJ_zH, if_pos ⟨rfl, rfl⟩]
theorem sd_zR {R : ai_R} {t i : Nat} : ai_zR R t i t i = fun _ => none := by
  funext j
  exact if_pos ⟨rfl, rfl⟩
/-- the world with one cell more -/
theorem sd_grow {H1 : Heap} (hW : sd_W D cA z0 b L xs z h H) (hn : z.1 < ai_N) (h0 : z.2.1 = 0) (hsz : H.size = z0 + z.1) (z1 : H1.size = H.size + 1) (o1 : ∀ q, q < H.size → H1[q]? = H[q]?)
    (hat : va_at D sd_cl (z0 + z.1, sd_en cA z0 b (ai_zR z.2.2.2 (ai_or z.1).1 (ai_or z.1).2) (ai_zH h (ai_or z.1).1 (ai_or z.1).2) (ai_or z.1).1 (ai_or z.1).2) H1) :
    sd_W D cA z0 b L xs (z.1 + 1, z.2.1, z.2.2.1, ai_zR z.2.2.2 (ai_or z.1).1 (ai_or z.1).2) (ai_zH h (ai_or z.1).1 (ai_or z.1).2) H1 := by
  have hk : ∀ (k : Nat) (x : Nat × va_E), (sd_ws cA z0 b z.1 z.2.1 z.2.2.2 h)[k]? = some x → H1[x.1]? = H[x.1]? := fun k x hx => o1 x.1 ((hW.1 k x hx).lt)
  have hT := (sd_ps_or hn).2.1
  unfold ai_T at hT
  refine ⟨?_, hn, by show z0 + (z.1 + 1 + z.2.1) ≤ H1.size; omega, fun j => ?_, hW.2.2.2.2.1, fun o ho => ?_⟩
  · show va_P D sd_cl (sd_ws cA z0 b (z.1 + 1) z.2.1 _ _) H1
    have hP := hW.1.kept hk
    rw [h0] at hP ⊢
    rw [← sd_push (R := z.2.2.2) (h := h) hn sd_en_z]
    refine hP.app (fun k x hx => ?_)
    have hz : k < 1 := (List.getElem?_eq_some_iff.mp hx).1
    rw [show k = 0 by omega] at hx
    cases hx
    exact hat
  · rw [ai_gI_zH, if_neg (by omega), hW.2.2.2.1 j]
  · rw [ai_gI_zH, if_neg (by omega)] at ho
    have h1 := hW.2.2.2.2.2 o ho
    omega
theorem sd_ad_or {n : Nat} (hn : n < ai_N) : sd_ad z0 b (ai_or n).1 (ai_or n).2 = z0 + n := by
  have h1 := sd_ps_or hn
  unfold ai_T at h1
  unfold sd_ad
  rw [if_neg (by omega), sd_of_or hn]
theorem sd_map_or {n : Nat} (hn : n < ai_N) (st : List ai_V) : (ai_r (ai_or n).1 (ai_or n).2 :: st).map (sd_v z0 b) = .ref (z0 + n) :: st.map (sd_v z0 b) := by
  rw [List.map_cons]
  congr 1
  show Value.ref (sd_ad z0 b (ai_or n).1 (ai_or n).2) = _
  rw [sd_ad_or hn]
theorem sd_grown {H1 : Heap} (hS : va_S (fun q => z0 ≤ q) s.heap H locs) (z1 : H1.size = H.size + 1) (o1 : ∀ q, q < H.size → H1[q]? = H[q]?) : va_S (fun q => z0 ≤ q) s.heap H1 locs :=
  ⟨Nat.le_trans hS.1 (by omega), fun x h1 h2 => (o1 x (Nat.lt_of_lt_of_le h1 hS.1)).trans (hS.2.1 x h1 h2), hS.2.2⟩
theorem sd_born0 {c0 : Nat} (hc : c0 < 6) : ∀ j, j < sd_n c0 → defaultValue (sd_t c0 j) = vp_V (sd_fs z0 b (fun _ => 0) (fun _ => 0) (fun _ => none) c0) j := by
  intro j hj
  have hlen : (sd_ft c0).length = sd_n c0 := by
    match c0, hc with
    | 0, _ => rfl
    | 1, _ => rfl
    | 2, _ => rfl
    | 3, _ => rfl
    | 4, _ => rfl
    | 5, _ => rfl
  obtain ⟨f, hf⟩ : ∃ f, (sd_ft c0)[j]? = some f := ⟨_, List.getElem?_eq_getElem (by omega)⟩
  unfold vp_V
  rw [List.getD_eq_getElem?_getD, sd_fs_get hj hf]
  obtain ⟨t0, t1, t3, t2⟩ := sd_tc hc hj hf
  show defaultValue (sd_t c0 j) = sd_fv z0 b (fun _ => 0) (fun _ => 0) (fun _ => none) j f
  have hf4 : f = 0 ∨ f = 1 ∨ f = 2 ∨ f = 3 := by
    have h : (List.range 6).all (fun c => (sd_ft c).all fun f => decide (f = 0 ∨ f = 1 ∨ f = 2 ∨ f = 3)) = true := by decide +kernel
    exact of_decide_eq_true (List.all_eq_true.mp (List.all_eq_true.mp h c0 (List.mem_range.mpr hc)) f (List.mem_of_getElem? hf))
  rcases hf4 with g | g | g | g <;> subst g
  · rw [t0 rfl]; rfl
  · rw [t1 rfl]; rfl
  · have h2 := t2 rfl
    cases h3 : sd_t c0 j <;> rw [h3] at h2 <;> first | rfl | cases h2
  · rw [t3 rfl]; rfl
theorem sd_szo {t c0 : Nat} (h : ai_ko t = some c0) : ai_sz t = sd_n c0 := by
  by_cases ht : t < 33
  · have h1 : (List.range 33).all (fun t => match ai_ko t with
      | some c => decide (ai_sz t = sd_n c)
      | none => true) = true := by decide +kernel
    have h2 := List.all_eq_true.mp h1 t (List.mem_range.mpr ht)
    rw [h] at h2
    exact of_decide_eq_true h2
  · obtain ⟨d, rfl⟩ := Nat.exists_eq_add_of_le' (show 33 ≤ t by omega)
    cases h
theorem sd_sza {t : Nat} : (∀ n, ai_ki t = some n → ai_sz t = n) ∧ (∀ n, ai_kj t = some n → ai_sz t = n) ∧ (∀ n, ai_kz t = some n → ai_sz t = n) ∧ (∀ r, ai_kr t = some r → ai_sz t = r.2) := by
  have h : (List.range 33).all (fun t => ((ai_ki t).all fun n => decide (ai_sz t = n)) && ((ai_kj t).all fun n => decide (ai_sz t = n)) && ((ai_kz t).all fun n => decide (ai_sz t = n)) && ((ai_kr t).all fun r => decide (ai_sz t = r.2))) = true := by decide +kernel
  by_cases ht : t < 33
  · have h1 := List.all_eq_true.mp h t (List.mem_range.mpr ht)
    rw [Bool.and_eq_true, Bool.and_eq_true, Bool.and_eq_true] at h1
    obtain ⟨⟨⟨a, b⟩, c⟩, d⟩ := h1
    exact ⟨fun n e => by rw [e] at a; exact of_decide_eq_true a, fun n e => by rw [e] at b; exact of_decide_eq_true b, fun n e => by rw [e] at c; exact of_decide_eq_true c, fun n e => by rw [e] at d; exact of_decide_eq_true d⟩
  · obtain ⟨a, b, c, d⟩ := sd_out (show 33 ≤ t by omega)
    exact ⟨fun n e => (by rw [a] at e; cases e), fun n e => (by rw [b] at e; cases e), fun n e => (by rw [c] at e; cases e), fun n e => (by rw [d] at e; cases e)⟩
theorem sd_len_n {x : Int32} {n : Nat} (h : x.toInt = (n : Int)) : ¬ x < 0 ∧ x.toNatClampNeg = n := by
  constructor
  · intro g
    have h1 : x.toInt < (0 : Int32).toInt := Int32.lt_iff_toInt_lt.mp g
    have h2 : (0 : Int32).toInt = 0 := rfl
    omega
  · show x.toInt.toNat = n
    omega
theorem sd_nw {len cb sb : Nat} {i : Instr} {q : Nat × Nat} {st st' : List ai_V} (C : sd_C D cA z0 b L xs p R s m args meth c mi) (hw : ai_nw mi i st z = some (q, st')) (hd : decode (ai_by mi) pc = .ok (i, len)) (hk : ai_lk (i, len) = true)
    (hW : sd_W D cA z0 b L xs z h H) (hS : va_S (fun q => z0 ≤ q) s.heap H locs) (hcb : cells + cb = sd_nc z) (hsb : slots + sb = sd_ns z) (hent : s.heap.size = z0 + cb)
    (hRc : sd_nc (z.1 + 1, z.2.1, z.2.2.1, ai_zR z.2.2.2 q.1 q.2) ≤ R.cells + cb) (hRs : sd_ns (z.1 + 1, z.2.1, z.2.2.1, ai_zR z.2.2.2 q.1 q.2) ≤ R.slots + sb)
    (K : ∀ H1 cells1 slots1, sd_W D cA z0 b L xs (z.1 + 1, z.2.1, z.2.2.1, ai_zR z.2.2.2 q.1 q.2) (ai_zH h q.1 q.2) H1 → va_S (fun q => z0 ≤ q) s.heap H1 locs → cells1 + cb = sd_nc (z.1 + 1, z.2.1, z.2.2.1, ai_zR z.2.2.2 q.1 q.2) → slots1 + sb = sd_ns (z.1 + 1, z.2.1, z.2.2.1, ai_zR z.2.2.2 q.1 q.2) →
      W p l e R s m args below meth c H1 locs cells1 slots1 Q (F0 m (pc + len) ls0 ((ai_r q.1 q.2 :: st').map (sd_v z0 b)))) :
    W p l e R s m args below meth c H locs cells slots Q (F0 m pc ls0 (st.map (sd_v z0 b))) := by
  obtain ⟨hx, hb, hml, hown, hts, -, -, -, -, -, -, hK, -, -, hz0, -⟩ := C
  intro T hT X
  have hsz : z.2.1 = 0 → H.size = z0 + z.1 := fun h0 => by have := sd_next hW hT X hcb hent; omega
  have go : W p l e R s m args below meth c H locs cells slots Q (F0 m pc ls0 (st.map (sd_v z0 b))) := by
    unfold ai_nw at hw
    split at hw
    · -- new
      split at hw
      · rename_i idx c0 hc0
        split at hw
        · rename_i hh
          obtain ⟨hko, h0, hn⟩ := hh
          have e1 := eq_of_beq (show (len == 3) = true from hk)
          subst e1; cases hw
          obtain ⟨q, hq⟩ := sd_nc_ok hc0
          unfold sd_nk at hq
          rw [Bool.and_eq_true, Bool.and_eq_true, Bool.and_eq_true] at hq
          obtain ⟨⟨⟨q1, q2⟩, q3⟩, q4⟩ := hq
          have hc7 := of_decide_eq_true q1
          have hKn := hK.1.1 c0 _ (sd_cls hc7)
          have hsl : sd_ns (z.1 + 1, z.2.1, z.2.2.1, ai_zR z.2.2.2 (ai_or z.1).1 (ai_or z.1).2) = sd_ns z + sd_n c0 := by
            unfold sd_ns
            show sd_sl z.1 + ai_sz (ai_or z.1).1 + 10 * z.2.1 = _
            rw [sd_szo hko]
            omega
          have hcl : sd_nc (z.1 + 1, z.2.1, z.2.2.1, ai_zR z.2.2.2 (ai_or z.1).1 (ai_or z.1).2) = sd_nc z + 1 := by
            unfold sd_nc
            show z.1 + 1 + z.2.1 = _
            omega
          refine W.newcK hx hb hown (hts _ (sd_at_ok q2)) (hts _ (sd_at_ok q3)) (hts _ (sd_at_ok q4)) rfl hd (by omega) (by omega) hKn.2.1 (hsz h0) fun H1 kC hkC e1 z1 o1 => ?_
          have hs1 := hsz h0
          have o1' : ∀ q, q < H.size → H1[q]? = H[q]? := fun q hq => o1 q (by omega)
          have K1 := K H1 (cells + 1) (slots + sd_n c0) (sd_grow hW hn h0 hs1 (by omega) o1' (by
            rw [sd_en_o hko, sd_zI, sd_zJ, sd_zR]
            exact ⟨_, sd_cls hc7, (u_born (sd_t c0) hts (sd_wss hc7) hKn hkC e1 (sd_tos hc7)).to (sd_born0 hc7)⟩)) (sd_grown hS (by omega) o1') (by omega) (by omega)
          rw [sd_map_or hn] at K1
          exact K1
        · cases hw
      · cases hw
    · -- newarray
      rename_i a
      split at hw
      · split at hw
        · rename_i x st1 len0 hak
          split at hw
          · rename_i hh
            obtain ⟨hlen, h0, hn⟩ := hh
            have e1 := eq_of_beq (show (len == 2) = true from hk)
            subst e1; cases hw
            obtain ⟨hx0, hxn⟩ := sd_len_n hlen
            have hs1 := hsz h0
            have hcl : sd_nc (z.1 + 1, z.2.1, z.2.2.1, ai_zR z.2.2.2 (ai_or z.1).1 (ai_or z.1).2) = sd_nc z + 1 := by
              unfold sd_nc
              show z.1 + 1 + z.2.1 = _
              omega
            have hsl0 : sd_ns (z.1 + 1, z.2.1, z.2.2.1, ai_zR z.2.2.2 (ai_or z.1).1 (ai_or z.1).2) = sd_ns z + ai_sz (ai_or z.1).1 := by
              unfold sd_ns
              show sd_sl z.1 + ai_sz (ai_or z.1).1 + 10 * z.2.1 = _
              omega
            simp only [sd_map_or hn] at K
            unfold ai_ak at hak
            split at hak
            · have hl0 := sd_sza.1 _ hak
              have hb0 := sd_n_lt.1 _ hak
              refine va_newaK (atype := .int) hx hb (hts _ sd_ac_int) rfl hd rfl hx0 hxn (by show len0 * 4 ≤ _; omega) (by omega) (by omega) hs1 fun H1 cA' e1 z1 o1 hAr hNm => ?_
              have o1' : ∀ q, q < H.size → H1[q]? = H[q]? := fun q hq => o1 q (by omega)
              have hcA : cA' = cA 0 := Option.some.inj (hNm.symm.trans (hK.1.2 0 _ rfl).2)
              exact K H1 (cells + 1) (slots + len0) (sd_grow hW hn h0 hs1 (by omega) o1' (by
                rw [sd_en_i hak, sd_zI, ← hcA]
                exact e1)) (sd_grown hS (by omega) o1') (by omega) (by omega)
            · have hl0 := sd_sza.2.1 _ hak
              have hb0 := sd_n_lt.2.1 _ hak
              refine va_newaK (atype := .long) hx hb (hts _ sd_ac_long) rfl hd rfl hx0 hxn (by show len0 * 8 ≤ _; omega) (by omega) (by omega) hs1 fun H1 cA' e1 z1 o1 hAr hNm => ?_
              have o1' : ∀ q, q < H.size → H1[q]? = H[q]? := fun q hq => o1 q (by omega)
              have hcA : cA' = cA 1 := Option.some.inj (hNm.symm.trans (hK.1.2 1 _ rfl).2)
              exact K H1 (cells + 1) (slots + len0) (sd_grow hW hn h0 hs1 (by omega) o1' (by
                rw [sd_en_j hak, sd_zJ, ← hcA]
                exact e1)) (sd_grown hS (by omega) o1') (by omega) (by omega)
            · have hl0 := sd_sza.2.2.1 _ hak
              have hb0 := sd_n_lt.2.2.1 _ hak
              refine va_newaK (atype := .boolean) hx hb (hts _ sd_ac_boolean) rfl hd rfl hx0 hxn (by show len0 * 1 ≤ _; omega) (by omega) (by omega) hs1 fun H1 cA' e1 z1 o1 hAr hNm => ?_
              have o1' : ∀ q, q < H.size → H1[q]? = H[q]? := fun q hq => o1 q (by omega)
              have hcA : cA' = cA 2 := Option.some.inj (hNm.symm.trans (hK.1.2 2 _ rfl).2)
              exact K H1 (cells + 1) (slots + len0) (sd_grow hW hn h0 hs1 (by omega) o1' (by
                rw [sd_en_b hak, sd_zI, ← hcA]
                exact e1)) (sd_grown hS (by omega) o1') (by omega) (by omega)
            · cases hak
          · cases hw
        · cases hw
      · cases hw
    · -- anewarray
      rename_i idx
      split at hw
      · rename_i x st1
        split at hw
        · rename_i c0 r hna hkr
          split at hw
          · rename_i hh
            obtain ⟨hcr, hlen, h0, hn⟩ := hh
            have e1 := eq_of_beq (show (len == 3) = true from hk)
            subst e1; cases hw
            obtain ⟨hx0, hxn⟩ := sd_len_n hlen
            have hs1 := hsz h0
            have hl0 := sd_sza.2.2.2 _ hkr
            have hb0 := sd_n_lt.2.2.2 _ hkr
            have hcl : sd_nc (z.1 + 1, z.2.1, z.2.2.1, ai_zR z.2.2.2 (ai_or z.1).1 (ai_or z.1).2) = sd_nc z + 1 := by
              unfold sd_nc
              show z.1 + 1 + z.2.1 = _
              omega
            have hsl0 : sd_ns (z.1 + 1, z.2.1, z.2.2.1, ai_zR z.2.2.2 (ai_or z.1).1 (ai_or z.1).2) = sd_ns z + ai_sz (ai_or z.1).1 := by
              unfold sd_ns
              show sd_sl z.1 + ai_sz (ai_or z.1).1 + 10 * z.2.1 = _
              omega
            simp only [sd_map_or hn] at K
            obtain ⟨q, hq⟩ := sd_na_ok hna
            unfold sd_ak at hq
            rw [Bool.and_eq_true] at hq
            have hao := hK.2.2.2.2.2.2.1 _ (of_decide_eq_true hq.1)
            refine W.anew hx hb hown (hts _ (sd_at_ok hq.2)) (va_AO.use hao) rfl hd rfl hx0 (by rw [hxn]; omega) (by omega) (by rw [hxn]; omega) fun cA' kA comp f1 f2 f3 f4 => ?_
            generalize hH1 : H.push ({ cls := cA', slots := Array.replicate x.toNatClampNeg .null, vm := .none } : Cell) = H1
            have z1 : H1.size = H.size + 1 := by rw [← hH1, Array.size_push]
            have e1 : H1[z0 + z.1]? = some (arrV cA' x.toNatClampNeg (fun _ => .null)) := by rw [← hH1, ← hs1, Array.getElem?_push_size, ← arrV_new]
            have o1 : ∀ q : Nat, q < H.size → H1[q]? = H[q]? := fun q hq => by rw [← hH1, Array.getElem?_push, if_neg (Nat.ne_of_lt hq)]
            have hcA : cA' = cA (sd_ti r.1) := by
              obtain ⟨kA2, comp2, g1, g2, g3, g4⟩ := (hK.1.2 (sd_ti r.1) _ (sd_tyr (sd_kr_cls hkr))).2
              rw [hcr] at f1
              exact Option.some.inj (f1.symm.trans g4)
            rw [hxn, hs1]
            exact K H1 (cells + 1) (slots + r.2) (sd_grow hW hn h0 hs1 z1 o1 (by
              rw [sd_en_r hkr, sd_zR, ← hcA]
              rw [hxn] at e1
              exact e1)) (sd_grown hS z1 o1) (by omega) (by omega)
          · cases hw
        · cases hw
      · cases hw
    · cases hw
  exact go T hT X
/-- an array that the law makes later -/
theorem sd_growd {H1 : Heap} {t : Nat} (hW : sd_W D cA z0 b L xs z h H) (ht : t = 90 ∨ t = 91) (z1 : H1.size = H.size + 1) (o1 : ∀ q, q < H.size → H1[q]? = H[q]?)
    (hat : va_at D sd_cl (z0 + (z.1 + z.2.1), sd_en cA z0 b z.2.2.2 (ai_hd2 h t (z.1 + z.2.1)) t (z.1 + z.2.1)) H1) :
    sd_W D cA z0 b L xs (z.1, z.2.1 + 1, z.2.2) (ai_hd2 h t (z.1 + z.2.1)) H1 := by
  have hk : ∀ (k : Nat) (x : Nat × va_E), (sd_ws cA z0 b z.1 z.2.1 z.2.2.2 h)[k]? = some x → H1[x.1]? = H[x.1]? := fun k x hx => o1 x.1 ((hW.1 k x hx).lt)
  have hm : ∀ o, ai_gI (ai_hd2 h t (z.1 + z.2.1)) 98 o 0 = if o = z.1 + z.2.1 then Int32.ofNat t else ai_gI h 98 o 0 := by
    intro o
    unfold ai_hd2
    rw [ai_gI_wI]
    by_cases e : o = z.1 + z.2.1
    · rw [if_pos ⟨rfl, e, rfl⟩, if_pos e]
    · rw [if_neg (fun g => e g.2.1), if_neg e, ai_gI_zH, if_neg (by omega)]
  have hlow := hW.2.2.1
  refine ⟨?_, hW.2.1, by show z0 + (z.1 + (z.2.1 + 1)) ≤ H1.size; omega, fun j => ?_, hW.2.2.2.2.1, fun o ho => ?_⟩
  · show va_P D sd_cl (sd_ws cA z0 b z.1 (z.2.1 + 1) z.2.2.2 _) H1
    rw [← sd_pushd (h := h) (t := t) hW.2.1 ht (by rw [hm, if_pos rfl]) (fun i hi => by rw [hm, if_neg hi]) (fun t' i' n1 n2 => ?_)]
    · refine (hW.1.kept hk).app (fun k x hx => ?_)
      have hz : k < 1 := (List.getElem?_eq_some_iff.mp hx).1
      rw [show k = 0 by omega] at hx
      cases hx
      exact hat
    · unfold ai_hd2
      rw [sd_en_wI t' i' (fun g => n1 g.1)]
      unfold sd_en
      have e1 : ai_gI (ai_zH h t (z.1 + z.2.1)) t' i' = ai_gI h t' i' := by
        funext j
        rw [ai_gI_zH, if_neg n2]
      have e2 : ai_gJ (ai_zH h t (z.1 + z.2.1)) t' i' = ai_gJ h t' i' := by
        funext j
        rw [ai_gJ_zH, if_neg n2]
      rw [e1, e2]
  · unfold ai_hd2
    rw [ai_gI_wI, if_neg (by omega), ai_gI_zH, if_neg (by omega), hW.2.2.2.1 j]
  · rw [hm] at ho
    by_cases e : o = z.1 + z.2.1
    · show z.1 ≤ o ∧ o < z.1 + (z.2.1 + 1)
      omega
    · rw [if_neg e] at ho
      have h1 := hW.2.2.2.2.2 o ho
      show z.1 ≤ o ∧ o < z.1 + (z.2.1 + 1)
      omega
theorem sd_nd {len cb sb t : Nat} {i : Instr} {st st' : List ai_V} (C : sd_C D cA z0 b L xs p R s m args meth c mi) (hw : ai_nd i st = some (t, st')) (hd : decode (ai_by mi) pc = .ok (i, len)) (hk : ai_lk (i, len) = true)
    (hW : sd_W D cA z0 b L xs z h H) (hS : va_S (fun q => z0 ≤ q) s.heap H locs) (hcb : cells + cb = sd_nc z) (hsb : slots + sb = sd_ns z) (hent : s.heap.size = z0 + cb)
    (hRc : sd_nc (z.1, z.2.1 + 1, z.2.2) ≤ R.cells + cb) (hRs : sd_ns (z.1, z.2.1 + 1, z.2.2) ≤ R.slots + sb)
    (K : ∀ H1 cells1 slots1, sd_W D cA z0 b L xs (z.1, z.2.1 + 1, z.2.2) (ai_hd2 h t (z.1 + z.2.1)) H1 → va_S (fun q => z0 ≤ q) s.heap H1 locs → cells1 + cb = sd_nc (z.1, z.2.1 + 1, z.2.2) → slots1 + sb = sd_ns (z.1, z.2.1 + 1, z.2.2) →
      W p l e R s m args below meth c H1 locs cells1 slots1 Q (F0 m (pc + len) ls0 ((ai_r t (z.1 + z.2.1) :: st').map (sd_v z0 b)))) :
    W p l e R s m args below meth c H locs cells slots Q (F0 m pc ls0 (st.map (sd_v z0 b))) := by
  obtain ⟨hx, hb, hml, hown, hts, -, -, -, -, -, -, hK, -, -, hz0, -⟩ := C
  intro T hT X
  have hsz := sd_next hW hT X hcb hent
  have hcl : sd_nc (z.1, z.2.1 + 1, z.2.2) = sd_nc z + 1 := by
    unfold sd_nc
    show z.1 + (z.2.1 + 1) = _
    omega
  have hsl : sd_ns (z.1, z.2.1 + 1, z.2.2) = sd_ns z + 10 := by
    unfold sd_ns
    show sd_sl z.1 + 10 * (z.2.1 + 1) = _
    omega
  have go : W p l e R s m args below meth c H locs cells slots Q (F0 m pc ls0 (st.map (sd_v z0 b))) := by
    unfold ai_nd at hw
    split at hw
    · split at hw
      · rename_i x st1 hx5
        have e1 := eq_of_beq (show (len == 2) = true from hk)
        subst e1; cases hw
        subst hx5
        have K' := K
        simp only [List.map_cons, show sd_v z0 b (ai_r 90 (z.1 + z.2.1)) = .ref (z0 + (z.1 + z.2.1)) from rfl] at K'
        refine va_newaK (atype := .long) (n := 5) (N := 5) hx hb (hts _ sd_ac_long) rfl hd rfl (by decide +kernel) (by decide +kernel) (by decide) (by omega) (by omega) hsz fun H1 cA' e1 z1 o1 hAr hNm => ?_
        have o1' : ∀ q, q < H.size → H1[q]? = H[q]? := fun q hq => o1 q (by omega)
        have hcA : cA' = cA 1 := Option.some.inj (hNm.symm.trans (hK.1.2 1 _ rfl).2)
        refine W.widen (k := cells + 1) (n := slots + 10) (Nat.le_refl _) (by omega) ?_
        exact K' H1 (cells + 1) (slots + 10) (sd_growd hW (Or.inl rfl) (by omega) o1' (by
          rw [sd_en_90, show ai_gJ (ai_hd2 h 90 (z.1 + z.2.1)) 90 (z.1 + z.2.1) = fun _ => 0 from sd_zJ, ← hcA]
          exact e1)) (sd_grown hS (by omega) o1') (by omega) (by omega)
      · cases hw
    · split at hw
      · rename_i x st1 hx5
        have e1 := eq_of_beq (show (len == 2) = true from hk)
        subst e1; cases hw
        subst hx5
        have K' := K
        simp only [List.map_cons, show sd_v z0 b (ai_r 91 (z.1 + z.2.1)) = .ref (z0 + (z.1 + z.2.1)) from rfl] at K'
        refine va_newaK (atype := .int) (n := 10) (N := 10) hx hb (hts _ sd_ac_int) rfl hd rfl (by decide +kernel) (by decide +kernel) (by decide) (by omega) (by omega) hsz fun H1 cA' e1 z1 o1 hAr hNm => ?_
        have o1' : ∀ q, q < H.size → H1[q]? = H[q]? := fun q hq => o1 q (by omega)
        have hcA : cA' = cA 0 := Option.some.inj (hNm.symm.trans (hK.1.2 0 _ rfl).2)
        exact K' H1 (cells + 1) (slots + 10) (sd_growd hW (Or.inr rfl) (by omega) o1' (by
          have e9 : ai_gI (ai_hd2 h 91 (z.1 + z.2.1)) 91 (z.1 + z.2.1) = fun _ => 0 := by
            funext j
            unfold ai_hd2
            rw [ai_gI_wI, if_neg (by omega), sd_zI]
          rw [sd_en_91, e9, ← hcA]
          exact e1)) (sd_grown hS (by omega) o1') (by omega) (by omega)
      · cases hw
    · cases hw
  exact go T hT X
end SDJ
