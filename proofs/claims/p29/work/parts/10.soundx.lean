section SDX
variable {D : va_G} {cA : Nat → ClassId} {z0 b L : Nat} {xs : Nat → Int32} {p : Program} {l : Launch} {e : Env} {R : Room} {s : State} {m : MethodId} {args : Array Value} {below : List Frame} {meth : Method} {c : Code} {Q : State → Prop} {mi pc : Nat} {H : Heap} {locs : List Loc} {cells slots : Nat} {ls0 : Array Slot} {z : ai_Z} {h : ai_H}
theorem sd_mathr {st : List ai_V} (h : st.length ≤ 4) : ((st.map (sd_v z0 b)).map fun v => v.category).sum ≤ 8 := by
  have key : ∀ st : List ai_V, ((st.map (sd_v z0 b)).map fun v => v.category).sum ≤ 2 * st.length := by
    intro st
    induction st with
    | nil => exact Nat.le_refl _
    | cons v st ih =>
      simp only [List.map_cons, List.sum_cons, List.length_cons]
      have : (sd_v z0 b v).category ≤ 2 := by
        rw [sd_cat]
        split <;> omega
      omega
  have := key st
  omega
theorem sd_one {v : ai_V} (h : ai_one v = true) : (sd_v z0 b v).category = 1 := by
  rcases v with x | x | x
  · rfl
  · cases h
  · rfl
theorem sd_st1_lt {ls ls' : ai_L} {k : Nat} {v : ai_V} (hv : ai_st1 ls k v = some ls') : k < ls.length := by
  unfold ai_st1 at hv
  split at hv
  · assumption
  · cases hv
theorem sd_st2_lt {ls ls' : ai_L} {k : Nat} {v : ai_V} (hv : ai_st2 ls k v = some ls') : k + 1 < ls.length := by
  unfold ai_st2 at hv
  split at hv
  · assumption
  · cases hv
theorem sd_mt_is {w idx f : Nat} (h : ai_mt w idx = some f) : Cond.methodLink (sd_R w) idx (sd_mn f) ∈ sd_tb ∧ Cond.static (sd_mn f) ∈ sd_tb ∧ Cond.initialized "java/lang/Math" ∈ sd_tb ∧ sd_mc f ∈ sd_tb := by
  obtain ⟨q, hq⟩ := sd_mt_ok h
  unfold sd_mk at hq
  rw [Bool.and_eq_true, Bool.and_eq_true, Bool.and_eq_true] at hq
  exact ⟨sd_at_ok hq.1.1.1, sd_at_ok hq.1.1.2, sd_at_ok hq.1.2, sd_at_ok hq.2⟩
theorem sd_ob_is {w idx : Nat} (h : ai_ob w idx = true) : Cond.methodLink (sd_R w) idx Lib.objectInit ∈ sd_tb ∧ Cond.instanceMethod Lib.objectInit ∈ sd_tb ∧ Cond.code Lib.objectInit ⟨#[0xb1]⟩ 1 none ∈ sd_tb := by
  unfold ai_ob at h
  obtain ⟨v, hv⟩ := Option.isSome_iff_exists.mp h
  obtain ⟨q, hq⟩ := sd_ob_ok hv
  unfold sd_ok0 at hq
  rw [Bool.and_eq_true, Bool.and_eq_true] at hq
  exact ⟨sd_at_ok hq.1.1, sd_at_ok hq.1.2, sd_at_ok hq.2⟩
theorem sd_math (C : sd_C D cA z0 b L xs p R s m args meth c mi) {le : List (Nat × Value)} (hl : lv_has ls0 (ai_mx mi) le) {idx f : Nat} {st st' : List ai_V} (hf : ai_mt (mi / 100) idx = some f) (ho : ai_okm mi = true) (hm : ai_mm f st = some st') (hc : cells ≤ R.cells) (hs : slots ≤ R.slots) (hd : decode (ai_by mi) pc = .ok (.invokestatic idx, 3))
    (K : W p l e R s m args below meth c H locs cells slots Q (F0 m (pc + 3) ls0 (st'.map (sd_v z0 b)))) : W p l e R s m args below meth c H locs cells slots Q (F0 m pc ls0 (st.map (sd_v z0 b))) := by
  obtain ⟨hx, hb, hml, hown, hts, -, -, -, -, hfr, hlo, -⟩ := C
  obtain ⟨w1, w2, w3, w4⟩ := sd_mt_is hf
  have ho := of_decide_eq_true ho
  have hml' : c.maxLocals = ls0.size := by rw [hml, hl.1]
  unfold ai_mm at hm
  split at hm
  · split at hm
    · rename_i hlen
      cases hm
      exact va_mmin hx hb hml' hown (hts _ w1) (hts _ w2) (hts _ w3) (hts _ w4) (by omega) (by have := sd_mathr (z0 := z0) (b := b) hlen; omega) hc hs hd K
    · cases hm
  · split at hm
    · rename_i hlen
      cases hm
      exact va_mmin_long hx hb hml' hown (hts _ w1) (hts _ w2) (hts _ w3) (hts _ w4) (by omega) (by have := sd_mathr (z0 := z0) (b := b) hlen; omega) hc hs hd K
    · cases hm
  · split at hm
    · rename_i hlen
      cases hm
      exact va_mmax_long hx hb hml' hown (hts _ w1) (hts _ w2) (hts _ w3) (hts _ w4) (by omega) (by have := sd_mathr (z0 := z0) (b := b) hlen; omega) hc hs hd K
    · cases hm
  · cases hm
theorem sd_ex {len : Nat} {i : Instr} {ls ls' : ai_L} {st st' : List ai_V} {R' : ai_R} {h' : ai_H} (C : sd_C D cA z0 b L xs p R s m args meth c mi) (hex : ai_ex mi i ls st z h = some (ls', st', R', h')) (hd : decode (ai_by mi) pc = .ok (i, len)) (hk : ai_lk (i, len) = true)
    (hW : sd_W D cA z0 b L xs z h H) (hS : va_S (fun q => z0 ≤ q) s.heap H locs) (hl : lv_has ls0 (ai_mx mi) (sd_l z0 b 0 ls)) (hn : ls.length = ai_mx mi) (hc : cells ≤ R.cells) (hs : slots ≤ R.slots)
    (K : ∀ H1 locs1 ls1, sd_W D cA z0 b L xs (z.1, z.2.1, z.2.2.1, R') h' H1 → va_S (fun q => z0 ≤ q) s.heap H1 locs1 → lv_has ls1 (ai_mx mi) (sd_l z0 b 0 ls') → ls'.length = ai_mx mi → W p l e R s m args below meth c H1 locs1 cells slots Q (F0 m (pc + len) ls1 (st'.map (sd_v z0 b)))) :
    W p l e R s m args below meth c H locs cells slots Q (F0 m pc ls0 (st.map (sd_v z0 b))) := by
  have hx := C.1
  have hb := C.2.1
  have hown := C.2.2.2.1
  have hts := C.2.2.2.2.1
  have K0 : ls' = ls → R' = z.2.2.2 → h' = h → W p l e R s m args below meth c H locs cells slots Q (F0 m (pc + len) ls0 (st'.map (sd_v z0 b))) := fun e1 e2 e3 => by
    subst e1; subst e2; subst e3
    exact K H locs ls0 hW hS hl hn
  have K1 : R' = z.2.2.2 → h' = h → ∀ ls1, lv_has ls1 (ai_mx mi) (sd_l z0 b 0 ls') → ls'.length = ls.length → W p l e R s m args below meth c H locs cells slots Q (F0 m (pc + len) ls1 (st'.map (sd_v z0 b))) := fun e2 e3 ls1 h1 h2 => by
    subst e2; subst e3
    exact K H locs ls1 hW hS h1 (h2.trans hn)
  have KH : ls' = ls → R' = z.2.2.2 → ∀ H1 locs1, sd_W D cA z0 b L xs z h' H1 → va_S (fun q => z0 ≤ q) s.heap H1 locs1 → W p l e R s m args below meth c H1 locs1 cells slots Q (F0 m (pc + len) ls0 (st'.map (sd_v z0 b))) := fun e1 e2 H1 locs1 h1 h2 => by
    subst e1; subst e2
    exact K H1 locs1 ls0 h1 h2 hl hn
  unfold ai_ex at hex
  split at hex
  · -- iconst
    have e1 := eq_of_beq (show (len == 1) = true from hk)
    subst e1; cases hex
    exact lv_iconst hx hb hd rfl (K0 rfl rfl rfl)
  · have e1 := eq_of_beq (show (len == 2) = true from hk)
    subst e1; cases hex
    exact lv_bipush hx hb hd rfl (K0 rfl rfl rfl)
  · have e1 := eq_of_beq (show (len == 3) = true from hk)
    subst e1; cases hex
    exact lv_sipush hx hb hd rfl (K0 rfl rfl rfl)
  · have e1 := eq_of_beq (show (len == 1) = true from hk)
    subst e1; cases hex
    exact lv_lconst hx hb hd rfl (K0 rfl rfl rfl)
  · -- ldc
    have e1 := eq_of_beq (show (len == 2) = true from hk)
    obtain ⟨v, hv, h2⟩ := Option.map_eq_some_iff.mp hex
    subst e1; cases h2
    obtain ⟨q, hq⟩ := sd_ci_ok hv
    exact lv_ldc hx hb hown (hts _ (sd_at_ok hq)) hd (K0 rfl rfl rfl)
  · have e1 := eq_of_beq (show (len == 3) = true from hk)
    obtain ⟨v, hv, h2⟩ := Option.map_eq_some_iff.mp hex
    subst e1; cases h2
    obtain ⟨q, hq⟩ := sd_ci_ok hv
    exact lv_ldcw hx hb hown (hts _ (sd_at_ok hq)) hd (K0 rfl rfl rfl)
  · have e1 := eq_of_beq (show (len == 3) = true from hk)
    obtain ⟨v, hv, h2⟩ := Option.map_eq_some_iff.mp hex
    subst e1; cases h2
    obtain ⟨q, hq⟩ := sd_cj_ok hv
    exact lv_ldc2 hx hb hown (hts _ (sd_at_ok hq)) hd (K0 rfl rfl rfl)
  · -- iload
    have e1 := eq_of_beq (show (len == 2) = true from hk)
    obtain ⟨v, hv, h2⟩ := Option.map_eq_some_iff.mp hex
    subst e1; cases h2
    exact lv_iload hx hb hd (sd_ldi hl hv) (K0 rfl rfl rfl)
  · have e1 := eq_of_beq (show (len == 1) = true from hk)
    obtain ⟨v, hv, h2⟩ := Option.map_eq_some_iff.mp hex
    subst e1; cases h2
    exact lv_iload_n hx hb hd rfl (sd_ldi hl hv) (K0 rfl rfl rfl)
  · have e1 := eq_of_beq (show (len == 2) = true from hk)
    obtain ⟨v, hv, h2⟩ := Option.map_eq_some_iff.mp hex
    subst e1; cases h2
    exact lv_lload hx hb hd (sd_ldj hl hv) (K0 rfl rfl rfl)
  · have e1 := eq_of_beq (show (len == 1) = true from hk)
    obtain ⟨v, hv, h2⟩ := Option.map_eq_some_iff.mp hex
    subst e1; cases h2
    exact lv_lload_n hx hb hd rfl (sd_ldj hl hv) (K0 rfl rfl rfl)
  · have e1 := eq_of_beq (show (len == 2) = true from hk)
    obtain ⟨v, hv, h2⟩ := Option.map_eq_some_iff.mp hex
    subst e1; cases h2
    exact lv_aload hx hb hd (sd_ldr hl hv) (K0 rfl rfl rfl)
  · have e1 := eq_of_beq (show (len == 1) = true from hk)
    obtain ⟨v, hv, h2⟩ := Option.map_eq_some_iff.mp hex
    subst e1; cases h2
    exact lv_aload_n hx hb hd rfl (sd_ldr hl hv) (K0 rfl rfl rfl)
  · -- istore
    split at hex
    · have e1 := eq_of_beq (show (len == 2) = true from hk)
      obtain ⟨v, hv, h2⟩ := Option.map_eq_some_iff.mp hex
      subst e1; cases h2
      have hkl := sd_st1_lt hv
      exact lv_istore hx hb hd hl (by omega) rfl fun ls1 h1 => K1 rfl rfl ls1 (sd_st1_has hv h1).1 (sd_st1_has hv h1).2.1
    · cases hex
  · split at hex
    · have e1 := eq_of_beq (show (len == 1) = true from hk)
      obtain ⟨v, hv, h2⟩ := Option.map_eq_some_iff.mp hex
      subst e1; cases h2
      have hkl := sd_st1_lt hv
      exact lv_istore_n hx hb hd rfl hl (by omega) rfl fun ls1 h1 => K1 rfl rfl ls1 (sd_st1_has hv h1).1 (sd_st1_has hv h1).2.1
    · cases hex
  · split at hex
    · have e1 := eq_of_beq (show (len == 2) = true from hk)
      obtain ⟨v, hv, h2⟩ := Option.map_eq_some_iff.mp hex
      subst e1; cases h2
      have hkl := sd_st2_lt hv
      exact lv_lstore hx hb hd hl (by omega) rfl fun ls1 h1 => K1 rfl rfl ls1 (sd_st2_has hv h1).1 (sd_st2_has hv h1).2.1
    · cases hex
  · split at hex
    · have e1 := eq_of_beq (show (len == 1) = true from hk)
      obtain ⟨v, hv, h2⟩ := Option.map_eq_some_iff.mp hex
      subst e1; cases h2
      have hkl := sd_st2_lt hv
      exact lv_lstore_n hx hb hd rfl hl (by omega) rfl fun ls1 h1 => K1 rfl rfl ls1 (sd_st2_has hv h1).1 (sd_st2_has hv h1).2.1
    · cases hex
  · split at hex
    · have e1 := eq_of_beq (show (len == 2) = true from hk)
      obtain ⟨v, hv, h2⟩ := Option.map_eq_some_iff.mp hex
      subst e1; cases h2
      have hkl := sd_st1_lt hv
      exact lv_astore hx hb hd hl (by omega) rfl fun ls1 h1 => K1 rfl rfl ls1 (sd_st1_has hv h1).1 (sd_st1_has hv h1).2.1
    · cases hex
  · split at hex
    · have e1 := eq_of_beq (show (len == 1) = true from hk)
      obtain ⟨v, hv, h2⟩ := Option.map_eq_some_iff.mp hex
      subst e1; cases h2
      have hkl := sd_st1_lt hv
      exact lv_astore_n hx hb hd rfl hl (by omega) rfl fun ls1 h1 => K1 rfl rfl ls1 (sd_st1_has hv h1).1 (sd_st1_has hv h1).2.1
    · cases hex
  · -- iinc
    split at hex
    · rename_i x hxv
      have e1 := eq_of_beq (show (len == 3) = true from hk)
      obtain ⟨v, hv, h2⟩ := Option.map_eq_some_iff.mp hex
      subst e1; cases h2
      have hkl := sd_st1_lt hv
      obtain ⟨j, hj⟩ := sd_ldi_in (z0 := z0) (b := b) hxv
      exact lv_iinc hx hb hd hl hj rfl (by omega) rfl fun ls1 h1 => K1 rfl rfl ls1 (sd_st1_has hv h1).1 (sd_st1_has hv h1).2.1
    · cases hex
  · -- iadd
    split at hex
    · have e1 := eq_of_beq (show (len == 1) = true from hk)
      subst e1; cases hex
      exact lv_iadd hx hb hd (K0 rfl rfl rfl)
    · cases hex
  · -- isub
    split at hex
    · have e1 := eq_of_beq (show (len == 1) = true from hk)
      subst e1; cases hex
      exact lv_isub hx hb hd (K0 rfl rfl rfl)
    · cases hex
  · -- imul
    split at hex
    · have e1 := eq_of_beq (show (len == 1) = true from hk)
      subst e1; cases hex
      exact lv_imul hx hb hd (K0 rfl rfl rfl)
    · cases hex
  · -- iand
    split at hex
    · have e1 := eq_of_beq (show (len == 1) = true from hk)
      subst e1; cases hex
      exact lv_iand hx hb hd (K0 rfl rfl rfl)
    · cases hex
  · -- ior
    split at hex
    · have e1 := eq_of_beq (show (len == 1) = true from hk)
      subst e1; cases hex
      exact lv_ior hx hb hd (K0 rfl rfl rfl)
    · cases hex
  · -- ishl
    split at hex
    · have e1 := eq_of_beq (show (len == 1) = true from hk)
      subst e1; cases hex
      exact lv_ishl hx hb hd (K0 rfl rfl rfl)
    · cases hex
  · -- ishr
    split at hex
    · have e1 := eq_of_beq (show (len == 1) = true from hk)
      subst e1; cases hex
      exact lv_ishr hx hb hd (K0 rfl rfl rfl)
    · cases hex
  · -- ineg
    split at hex
    · have e1 := eq_of_beq (show (len == 1) = true from hk)
      subst e1; cases hex
      exact lv_ineg hx hb hd (K0 rfl rfl rfl)
    · cases hex
  · -- l2i
    split at hex
    · have e1 := eq_of_beq (show (len == 1) = true from hk)
      subst e1; cases hex
      exact lv_l2i hx hb hd rfl (K0 rfl rfl rfl)
    · cases hex
  · -- idiv
    split at hex
    · split at hex
      · cases hex
      · rename_i hne
        have e1 := eq_of_beq (show (len == 1) = true from hk)
        subst e1; cases hex
        exact lv_idiv hx hb hd hne (K0 rfl rfl rfl)
    · cases hex
  · -- irem
    split at hex
    · split at hex
      · cases hex
      · rename_i hne
        have e1 := eq_of_beq (show (len == 1) = true from hk)
        subst e1; cases hex
        exact lv_irem hx hb hd hne (K0 rfl rfl rfl)
    · cases hex
  · -- ladd
    split at hex
    · have e1 := eq_of_beq (show (len == 1) = true from hk)
      subst e1; cases hex
      exact lv_ladd hx hb hd (K0 rfl rfl rfl)
    · cases hex
  · -- lsub
    split at hex
    · have e1 := eq_of_beq (show (len == 1) = true from hk)
      subst e1; cases hex
      exact lv_lsub hx hb hd (K0 rfl rfl rfl)
    · cases hex
  · -- lmul
    split at hex
    · have e1 := eq_of_beq (show (len == 1) = true from hk)
      subst e1; cases hex
      exact lv_lmul hx hb hd (K0 rfl rfl rfl)
    · cases hex
  · -- ldiv
    split at hex
    · split at hex
      · cases hex
      · rename_i hne
        have e1 := eq_of_beq (show (len == 1) = true from hk)
        subst e1; cases hex
        exact lv_ldiv hx hb hd hne (K0 rfl rfl rfl)
    · cases hex
  · -- lcmp
    split at hex
    · have e1 := eq_of_beq (show (len == 1) = true from hk)
      subst e1; cases hex
      exact W.lcmp hx hb hd (K0 rfl rfl rfl)
    · cases hex
  · -- i2l
    split at hex
    · have e1 := eq_of_beq (show (len == 1) = true from hk)
      subst e1; cases hex
      exact lv_i2l hx hb hd rfl (K0 rfl rfl rfl)
    · cases hex
  · -- dup
    split at hex
    · split at hex
      · rename_i v _ h1
        have e1 := eq_of_beq (show (len == 1) = true from hk)
        subst e1; cases hex
        exact lv_dup hx hb hd (sd_one h1) (K0 rfl rfl rfl)
      · cases hex
    · cases hex
  · -- dup2
    split at hex
    · split at hex
      · rename_i h1
        have e1 := eq_of_beq (show (len == 1) = true from hk)
        subst e1; cases hex
        exact lv_dup2_11 hx hb hd (sd_one h1.1) (sd_one h1.2) (K0 rfl rfl rfl)
      · cases hex
    · cases hex
  · -- getfield
    split at hex
    · have e1 := eq_of_beq (show (len == 3) = true from hk)
      obtain ⟨v, hv, h2⟩ := Option.map_eq_some_iff.mp hex
      subst e1; cases h2
      exact sd_getf C hW hv hd (K0 rfl rfl rfl)
    · cases hex
  · -- putfield
    split at hex
    · have e1 := eq_of_beq (show (len == 3) = true from hk)
      obtain ⟨g, hv, h2⟩ := Option.map_eq_some_iff.mp hex
      subst e1; cases h2
      exact sd_putf C hW hS hv hd fun H1 locs1 h1 h2 => K H1 locs1 ls0 h1 h2 hl hn
    · cases hex
  · -- iaload
    split at hex
    · have e1 := eq_of_beq (show (len == 1) = true from hk)
      obtain ⟨v, hv, h2⟩ := Option.map_eq_some_iff.mp hex
      subst e1; cases h2
      exact sd_iald C hW hS hv hd (K0 rfl rfl rfl)
    · cases hex
  · -- laload
    split at hex
    · have e1 := eq_of_beq (show (len == 1) = true from hk)
      obtain ⟨v, hv, h2⟩ := Option.map_eq_some_iff.mp hex
      subst e1; cases h2
      exact sd_lald C hW hv hd (K0 rfl rfl rfl)
    · cases hex
  · -- baload
    split at hex
    · have e1 := eq_of_beq (show (len == 1) = true from hk)
      obtain ⟨v, hv, h2⟩ := Option.map_eq_some_iff.mp hex
      subst e1; cases h2
      exact sd_zald C hW hv hd (K0 rfl rfl rfl)
    · cases hex
  · -- aaload
    split at hex
    · split at hex
      · rename_i j hj
        have e1 := eq_of_beq (show (len == 1) = true from hk)
        obtain ⟨v, hv, h2⟩ := Option.map_eq_some_iff.mp hex
        subst e1; cases h2
        exact sd_aald C hW hj hv hd (K0 rfl rfl rfl)
      · cases hex
    · cases hex
  · -- iastore
    split at hex
    · have e1 := eq_of_beq (show (len == 1) = true from hk)
      obtain ⟨v, hv, h2⟩ := Option.map_eq_some_iff.mp hex
      subst e1; cases h2
      exact sd_iast C hW hS hv hd (KH rfl rfl)
    · cases hex
  · -- lastore
    split at hex
    · have e1 := eq_of_beq (show (len == 1) = true from hk)
      obtain ⟨v, hv, h2⟩ := Option.map_eq_some_iff.mp hex
      subst e1; cases h2
      exact sd_last C hW hS hv hd (KH rfl rfl)
    · cases hex
  · -- bastore
    split at hex
    · split at hex
      · rename_i h01
        have e1 := eq_of_beq (show (len == 1) = true from hk)
        obtain ⟨v, hv, h2⟩ := Option.map_eq_some_iff.mp hex
        subst e1; cases h2
        exact sd_zast C hW hS h01 hv hd (KH rfl rfl)
      · cases hex
    · cases hex
  · -- aastore
    split at hex
    · split at hex
      · rename_i r hr
        split at hex
        · rename_i hvo
          have e1 := eq_of_beq (show (len == 1) = true from hk)
          obtain ⟨j, hv, h2⟩ := Option.map_eq_some_iff.mp hex
          subst e1; cases h2
          exact sd_aast C hW hS hr hvo hv hd fun H1 locs1 h1 h2 => K H1 locs1 ls0 h1 h2 hl hn
        · cases hex
      · cases hex
    · cases hex
  · -- arraylength
    split at hex
    · have e1 := eq_of_beq (show (len == 1) = true from hk)
      obtain ⟨v, hv, h2⟩ := Option.map_eq_some_iff.mp hex
      subst e1; cases h2
      exact sd_alen C hW hS hv hd (K0 rfl rfl rfl)
    · cases hex
  · -- Math
    split at hex
    · rename_i f hf
      split at hex
      · rename_i ho
        have e1 := eq_of_beq (show (len == 3) = true from hk)
        obtain ⟨v, hv, h2⟩ := Option.map_eq_some_iff.mp hex
        subst e1; cases h2
        exact sd_math C hl hf ho hv hc hs hd (K0 rfl rfl rfl)
      · cases hex
    · cases hex
  · -- Object's beginning
    split at hex
    · split at hex
      · rename_i ho
        obtain ⟨ho, hr, hlen⟩ := ho
        have e1 := eq_of_beq (show (len == 3) = true from hk)
        subst e1; cases hex
        obtain ⟨w1, w2, w3⟩ := sd_ob_is ho
        have hr := of_decide_eq_true hr
        have hfr := C.2.2.2.2.2.2.2.2.2.1
        have hlo := C.2.2.2.2.2.2.2.2.2.2.1
        refine W.objInit hx hb hown (hts _ w1) (hts _ w2) (hts _ w3) rfl (hl.1.trans C.2.2.1.symm) rfl hd (by omega) ?_ (K0 rfl rfl rfl)
        exact Nat.le_trans (Nat.add_le_add_right (lv_room (sd_mathr (z0 := z0) (b := b) hlen)) 12) (by omega)
      · cases hex
    · cases hex
  · cases hex
end SDX
