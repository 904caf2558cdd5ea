def sd_End (p : Program) (l : Launch) (e : Env) (R : Room) (s : State) (m : MethodId) (args : Array Value) (below : List Frame) (meth : Method) (c : Code) (Q : State → Prop) (D : va_G) (cA : Nat → ClassId) (z0 b L : Nat) (xs : Nat → Int32) (mi cb sb : Nat) (o : ai_O) (z' : ai_Z) (h' : ai_H) : Prop := match o with
  | Sum.inl v => ∀ (i : Instr) (pc : Nat) (ls0 : Array Slot) (H : Heap) (locs : List Loc) (cells slots : Nat), decode (ai_by mi) pc = .ok (i, 1) → ai_rt mi i v.toList = some v → sd_W D cA z0 b L xs z' h' H → va_S (fun q => z0 ≤ q) s.heap H locs → cells + cb = sd_nc z' → slots + sb = sd_ns z' →
      W p l e R s m args below meth c H locs cells slots Q (F0 m pc ls0 (v.toList.map (sd_v z0 b)))
  | Sum.inr E => ∃ (Qc : Array Value → State → Outcome → State → Prop) (XC : String → State → State → Prop) (mc ms : Nat), Q = vx_MQ below Qc XC args s mc ms (fun q => z0 ≤ q) ∧ sd_nc z' ≤ mc + cb ∧ sd_ns z' ≤ ms + sb ∧ ∀ t : State, sd_W D cA z0 b L xs z' h' t.heap → va_F (fun q => z0 ≤ q) s t → XC (sd_xn E) s t
theorem sd_cl_y {mi n y : Nat} {i : Instr} {st as st' : List ai_V} (h : ai_cl mi i st n = some (y, as, st')) : sd_cw y ∈ sd_tb ∧ (sd_nm y).cls = sd_R (y / 100) ∧ y / 100 < 7 := by
  have h8 : ∀ y ∈ sd_ys, y / 100 < 7 := by decide +kernel
  have key : ∀ {q1 q2 : Nat}, sd_co y q1 q2 = true → sd_cw y ∈ sd_tb ∧ (sd_nm y).cls = sd_R (y / 100) ∧ y / 100 < 7 := by
    intro q1 q2 hc
    obtain ⟨r1, r2, r3, -, -⟩ := sd_co_is hc
    refine ⟨r1, r3, h8 y ?_⟩
    unfold sd_co at hc
    simp only [Bool.and_eq_true, decide_eq_true_eq] at hc
    exact hc.1.1.1.1
  unfold ai_cl at h
  split at h
  · rename_i y1 n1 hct
    split at h
    · injection h with h
      injection h with e1 e2
      subst e1
      unfold ai_ct at hct
      split at hct
      · obtain ⟨q, hq⟩ := sd_cv_ok hct
        unfold sd_vk at hq
        simp only [Bool.and_eq_true] at hq
        exact key hq.1.1.1.2
      · obtain ⟨q, hq⟩ := sd_cs_ok hct
        unfold sd_sk at hq
        simp only [Bool.and_eq_true] at hq
        exact key hq.1.1.2
      · obtain ⟨q, hq⟩ := sd_cp_ok hct
        unfold sd_pk at hq
        simp only [Bool.and_eq_true] at hq
        exact key hq.1.1.1.1.1.2
      · cases hct
    · cases h
  · cases h
theorem sd_plain {w : Nat} (h : w < 7) : plainName (sd_R w) = true := by
  have h1 : (List.range 7).all (fun w => plainName (sd_R w)) = true := by decide +kernel
  exact List.all_eq_true.mp h1 w (List.mem_range.mpr h)
section SDB
variable {D : va_G} {cA : Nat → ClassId} {z0 b L : Nat} {xs : Nat → Int32} {p : Program} {l : Launch} {e : Env} {R : Room} {s : State} {m : MethodId} {args : Array Value} {below : List Frame} {meth : Method} {c : Code} {Q : State → Prop} {mi pc : Nat} {H : Heap} {locs : List Loc} {cells slots : Nat} {ls0 : Array Slot} {z : ai_Z} {h : ai_H}
/-- what a body owes from the place pc on -/
def sd_Body (l : Launch) (D : va_G) (cA : Nat → ClassId) (z0 b L : Nat) (xs : Nat → Int32) (n : Nat) : Prop := ∀ (mi pc : Nat) (ls : ai_L) (st : List ai_V) (z : ai_Z) (h : ai_H) (o : ai_O) (z' : ai_Z) (h' : ai_H), ai_run n mi pc ls st z h = some (o, z', h') →
  ∀ (p : Program) (e : Env) (R : Room) (s : State) (m : MethodId) (args : Array Value) (below : List Frame) (meth : Method) (c : Code) (Q : State → Prop) (H : Heap) (locs : List Loc) (cells slots cb sb : Nat) (ls0 : Array Slot), sd_C D cA z0 b L xs p R s m args meth c mi → sd_W D cA z0 b L xs z h H → va_S (fun q => z0 ≤ q) s.heap H locs →
    lv_has ls0 (ai_mx mi) (sd_l z0 b 0 ls) → ls.length = ai_mx mi → cells + cb = sd_nc z → slots + sb = sd_ns z → s.heap.size = z0 + cb → sd_nc z' ≤ R.cells + cb → sd_ns z' ≤ R.slots + sb →
    sd_End p l e R s m args below meth c Q D cA z0 b L xs mi cb sb o z' h' → W p l e R s m args below meth c H locs cells slots Q (F0 m pc ls0 (st.map (sd_v z0 b)))
theorem sd_met_of {n y : Nat} {as : List ai_V} {o : ai_O} {z' : ai_Z} {h' : ai_H} (hn : sd_Body l D cA z0 b L xs n) (hr : ai_run n y 0 (ai_en y as) [] z h = some (o, z', h')) (hlen : (ai_en y as).length = ai_mx y) (hcw : sd_cw y ∈ sd_tb) (hcls : (sd_nm y).cls = sd_R (y / 100)) (h8 : y / 100 < 7) :
    sd_Met l D cA z0 b L xs y as z h o z' h' := by
  have hm := sd_ncs (sd_mono _ _ _ _ _ _ _ _ hr)
  have hm1 : sd_nc z ≤ sd_nc z' := hm.1
  have hm2 : sd_ns z ≤ sd_ns z' := hm.2
  have hy : plainName (sd_nm y).cls = true := by rw [hcls]; exact sd_plain h8
  -- the walk, whatever the table
  have go : ∀ (cc : ByteArray) (ml : Nat) (ret : Option FieldType), cc = ai_by y → ml = ai_mx y → ret = sd_rt (ai_rk y) → ∀ (p : Program) (e : Env) (s : State) (m : MethodId) (args : Array Value) (below : List Frame) (meth : Method) (c : Code) (s₁ : State),
      BodyLoose p l (sd_nm y) (headSpec (sd_cw y :: sd_tb) (sd_rm y (sd_nc z' - sd_nc z) (sd_ns z' - sd_ns z))) cc ml ret e s m args below meth c s₁ → c.maxLocals = ml → c.exceptionTable.toList = tableOf (ai_find [] sd_hw y) → va_Pc (as.map (sd_v z0 b)) (sd_U D cA z0 b L xs z h) args s →
      W p l e (headSpec (sd_cw y :: sd_tb) (sd_rm y (sd_nc z' - sd_nc z) (sd_ns z' - sd_ns z))).room s m args below meth c s.heap [] 0 0 (vx_MQ below (sd_Qc o (fun t => sd_W D cA z0 b L xs z' h' t.heap) (fun q => z0 ≤ q)) (sd_XC o (fun t => sd_W D cA z0 b L xs z' h' t.heap) (fun q => z0 ≤ q)) args s (sd_nc z' - sd_nc z) (sd_ns z' - sd_ns z) (fun q => z0 ≤ q)) (entryFrame m args ml) := by
    intro cc ml ret hcc hml0 hret p e s m args below meth c s₁ B hml htab hP
    subst hcc; subst hml0; subst hret
    obtain ⟨rfl, hW, hH, hK, hX, hbz, hU, hN⟩ := hP
    have hts : ∀ w ∈ sd_tb, w.before (as.map (sd_v z0 b)).toArray s = true := fun w hw => atoms_spec (ws := sd_cw y :: sd_tb) B.pre w (List.mem_cons_of_mem _ hw)
    have hlocks := B.notSynchronized
    have C : sd_C D cA z0 b L xs p (headSpec (sd_cw y :: sd_tb) (sd_rm y (sd_nc z' - sd_nc z) (sd_ns z' - sd_ns z))).room s m (as.map (sd_v z0 b)).toArray meth c y :=
      ⟨B.exec, B.bytes, hml, by rw [← hcls]; exact findClass_of_methodNamed B.named, hts, hlocks, B.returns, (name_of_methodNamed B.named B.method).1, htab, Nat.le_refl _, Nat.le_refl _, hK, hX, hbz, by have := hW.2.2.1; omega, hU, hN⟩
    rw [lg_entry_eq]
    refine hn y 0 (ai_en y as) [] z h o z' h' hr p e _ s m _ below meth c _ s.heap [] 0 0 (sd_nc z) (sd_ns z) _ C hW va_S.rf (sd_entry hlen) hlen (Nat.zero_add _) (Nat.zero_add _) hH (by show sd_nc z' ≤ (sd_nc z' - sd_nc z) + sd_nc z; omega) (by show sd_ns z' ≤ (sd_ns z' - sd_ns z) + sd_ns z; omega) ?_
    cases o with
    | inr E =>
      exact ⟨_, _, _, _, rfl, by omega, by omega, fun t ht hF => ⟨(), trivial, ⟨rfl, ht⟩, hF⟩⟩
    | inl v =>
      intro i pc ls0 H locs cells slots hd hrt hW1 hS1 hc1 hs1
      have ec : cells = sd_nc z' - sd_nc z := by omega
      have es : slots = sd_ns z' - sd_ns z := by omega
      subst ec; subst es
      refine vx_ret ?_
      have hfree := hS1.2.2
      unfold ai_rt at hrt
      split at hrt
      · rename_i hnil
        split at hrt
        · rename_i hk
          cases hrt
          exact W.vret B.exec B.bytes (B.returns.trans (by rw [hk]; rfl)) (fun t ht _ => ⟨⟨(), rfl, trivial, by show sd_W D cA z0 b L xs z' h' t.heap; rw [ht]; exact hW1⟩, hS1.F ht⟩) hfree hd hlocks
        · cases hrt
      · rename_i x hnil
        split at hrt
        · rename_i hk
          cases hrt
          rcases hk with hk | ⟨hk, h01⟩
          · exact W.iret B.exec B.bytes (B.returns.trans (by rw [hk]; rfl)) (fun t ht _ => ⟨⟨x, (), rfl, rfl, by show sd_W D cA z0 b L xs z' h' t.heap; rw [ht]; exact hW1⟩, hS1.F ht⟩) hfree hd hlocks
          · exact W.zret (ty := .boolean) B.exec B.bytes (B.returns.trans (by rw [hk]; rfl)) (sd_nar01 h01).1 (fun t ht _ => ⟨⟨x, (), rfl, rfl, by show sd_W D cA z0 b L xs z' h' t.heap; rw [ht]; exact hW1⟩, hS1.F ht⟩) hfree hd hlocks
        · cases hrt
      · rename_i x hnil
        split at hrt
        · rename_i hk
          cases hrt
          exact W.lret B.exec B.bytes (B.returns.trans (by rw [hk]; rfl)) (fun t ht _ => ⟨⟨x, (), rfl, rfl, by show sd_W D cA z0 b L xs z' h' t.heap; rw [ht]; exact hW1⟩, hS1.F ht⟩) hfree hd hlocks
        · cases hrt
      · cases hrt
  unfold sd_Met
  cases hhw : ai_find [] sd_hw y with
  | nil =>
    have hw : sd_cw y :: sd_tb = Cond.code (sd_nm y) (ai_by y) (ai_mx y) (sd_rt (ai_rk y)) :: sd_tb := by rw [sd_cw_c hhw]
    refine vx_ofW hy hw fun p e s m args below meth c s₁ B hml ht hP => ?_
    refine go _ _ _ rfl rfl rfl p e s m args below meth c s₁ B hml ?_ hP
    rw [hhw]
    exact List.eq_nil_iff_forall_not_mem.mpr fun x hx => ht x hx
  | cons hq9 hr9 =>
    have hw : sd_cw y :: sd_tb = Cond.codeWith (sd_nm y) (ai_by y) (ai_mx y) (sd_rt (ai_rk y)) (hq9 :: hr9) :: sd_tb := by
      unfold sd_cw
      rw [hhw]
    refine vx_ofWH hy hw fun p e s m args below meth c s₁ B hml hP => ?_
    refine go _ _ _ rfl rfl rfl p e s m args below meth c s₁ B hml ?_ hP
    rw [hhw]
    exact vx_table (x := sd_nm y) B (atoms_spec (ws := sd_cw y :: sd_tb) B.pre _ (by rw [hw]; exact List.mem_cons_self))
theorem sd_body (hl : l.stackTraces = false) : ∀ n, sd_Body l D cA z0 b L xs n
  | 0 => by
    intro mi pc ls st z h o z' h' hr
    cases hr
  | n + 1 => by
    intro mi pc ls st z h o z' h' hr p e R s m args below meth c Q H locs cells slots cb sb ls0 C hW hS hlv hlen hcb hsb hent hRc hRs hEnd
    have ih := sd_body hl n
    have hmono := sd_ncs (sd_mono _ _ _ _ _ _ _ _ hr)
    have hm1 : sd_nc z ≤ sd_nc z' := hmono.1
    have hm2 : sd_ns z ≤ sd_ns z' := hmono.2
    change ai_bd (ai_run n) mi pc ls st z h = some (o, z', h') at hr
    revert hr
    unfold ai_bd
    cases e1 : ai_at mi pc with
    | none => exact fun h => nomatch h
    | some q =>
    obtain ⟨i, len⟩ := q
    obtain ⟨hd, hk⟩ := ai_at_is e1
    dsimp only
    cases e2 : ai_ex mi i ls st z h with
    | some q =>
      obtain ⟨ls1, st1, R1, h1⟩ := q
      intro hr
      exact sd_ex C e2 hd hk hW hS hlv hlen (by omega) (by omega) fun H1 locs1 lsm hW1 hS1 hl1 hn1 =>
        ih _ _ _ _ _ _ _ _ _ hr p e R s m args below meth c Q H1 locs1 cells slots cb sb lsm C hW1 hS1 hl1 hn1 hcb hsb hent hRc hRs hEnd
    | none =>
    dsimp only
    cases e3 : ai_jp i len pc st with
    | some q =>
      obtain ⟨pc1, st1⟩ := q
      intro hr
      exact sd_jp C e3 hd hk (ih _ _ _ _ _ _ _ _ _ hr p e R s m args below meth c Q H locs cells slots cb sb ls0 C hW hS hlv hlen hcb hsb hent hRc hRs hEnd)
    | none =>
    dsimp only
    cases e4 : ai_rt mi i st with
    | some v =>
      intro hr
      cases hr
      have hst := sd_rt_is e4
      have hln := sd_rt_len e4 hk
      subst hln
      rw [hst] at e4 ⊢
      exact hEnd i pc ls0 H locs cells slots hd e4 hW hS hcb hsb
    | none =>
    dsimp only
    cases e5 : ai_nw mi i st z with
    | some q =>
      obtain ⟨q, st1⟩ := q
      intro hr
      have hmono1 := sd_ncs (sd_mono _ _ _ _ _ _ _ _ hr)
      exact sd_nw C e5 hd hk hW hS hcb hsb hent (Nat.le_trans hmono1.1 hRc) (Nat.le_trans hmono1.2 hRs) fun H1 cells1 slots1 hW1 hS1 hc1 hs1 =>
        ih _ _ _ _ _ _ _ _ _ hr p e R s m args below meth c Q H1 locs cells1 slots1 cb sb ls0 C hW1 hS1 hlv hlen hc1 hs1 hent hRc hRs hEnd
    | none =>
    dsimp only
    cases e5b : ai_nd i st with
    | some q =>
      obtain ⟨t9, st1⟩ := q
      intro hr
      have hmono1 := sd_ncs (sd_mono _ _ _ _ _ _ _ _ hr)
      exact sd_nd C e5b hd hk hW hS hcb hsb hent (Nat.le_trans hmono1.1 hRc) (Nat.le_trans hmono1.2 hRs) fun H1 cells1 slots1 hW1 hS1 hc1 hs1 =>
        ih _ _ _ _ _ _ _ _ _ hr p e R s m args below meth c Q H1 locs cells1 slots1 cb sb ls0 C hW1 hS1 hlv hlen hc1 hs1 hent hRc hRs hEnd
    | none =>
    dsimp only
    cases e6 : ai_th mi pc i with
    | some E =>
      dsimp only
      split
      · rename_i hst
        intro hr
        cases hr
        subst hst
        obtain ⟨Qc, XC, mc, ms, rfl, hmc, hms, hXC⟩ := hEnd
        have hc9 : sd_nc (z.1, z.2.1 + 1, z.2.2) = sd_nc z + 1 := by unfold sd_nc; show z.1 + (z.2.1 + 1) = _; omega
        have hs9 : sd_ns (z.1, z.2.1 + 1, z.2.2) = sd_ns z + 10 := by unfold sd_ns; show sd_sl z.1 + 10 * (z.2.1 + 1) = _; omega
        rw [hc9] at hmc hRc
        rw [hs9] at hms hRs
        exact sd_throw hl C e6 hd hk hS hlv.1 (by omega) (by omega) (by omega) (by omega) fun t hal hsz hsame =>
          hXC t ⟨by
              have h98 : ai_gI h 98 (z.1 + z.2.1) 0 = 0 := Classical.byContradiction fun g => by have := hW.2.2.2.2.2 _ g; omega
              show va_P D sd_cl (sd_ws cA z0 b z.1 (z.2.1 + 1) z.2.2.2 h) t.heap
              rw [sd_same h98]
              exact hW.1.kept fun k q hq => hsame q.1 ((hW.1 k q hq).lt), hW.2.1, by have := hW.2.2.1; show z0 + (z.1 + (z.2.1 + 1)) ≤ t.heap.size; omega, hW.2.2.2.1, hW.2.2.2.2.1, fun o ho => by have := hW.2.2.2.2.2 o ho; show z.1 ≤ o ∧ o < z.1 + (z.2.1 + 1); omega⟩
            ⟨by have := hS.1; omega, fun q g1 g2 => (hsame q (Nat.lt_of_lt_of_le g1 hS.1)).trans (hS.2.1 q g1 g2)⟩
      · exact fun h => nomatch h
    | none =>
    dsimp only
    cases e7 : ai_cl mi i st z.1 with
    | none => exact fun h => nomatch h
    | some q =>
    obtain ⟨y, as, st1⟩ := q
    dsimp only
    by_cases hl9 : (ai_en y as).length = ai_mx y
    · rw [if_pos hl9]
      cases e8 : ai_run n y 0 (ai_en y as) [] z h with
      | none => exact fun h => nomatch h
      | some q =>
        obtain ⟨o1, z1, h1⟩ := q
        obtain ⟨hy1, hy2, hy3⟩ := sd_cl_y e7
        have hM := sd_met_of ih e8 hl9 hy1 hy2 hy3
        have hmonoA := sd_ncs (sd_mono _ _ _ _ _ _ _ _ e8)
        have hma1 : sd_nc z ≤ sd_nc z1 := hmonoA.1
        have hma2 : sd_ns z ≤ sd_ns z1 := hmonoA.2
        have hz1 := (sd_mono _ _ _ _ _ _ _ _ e8).2
        have hent1 : s.heap.size = z0 + cb := hent
        have hA : ∀ q, q < H.size → (fun q => z0 ≤ q) q → (fun q => z0 ≤ q) q := fun _ _ h => h
        have hF : ∀ q, (fun q => z0 ≤ q) q → (fun q => z0 ≤ q) q := fun _ h => h
        cases o1 with
        | inl v =>
          intro hr
          have hmonoB := sd_ncs (sd_mono _ _ _ _ _ _ _ _ hr)
          have hmb1 : sd_nc z1 ≤ sd_nc z' := hmonoB.1
          have hmb2 : sd_ns z1 ≤ sd_ns z' := hmonoB.2
          intro T hT X
          have hH : H.size = z0 + (z.1 + z.2.1) := sd_next hW hT X hcb hent
          obtain ⟨hlen3, a, hrun⟩ := sd_run (n := 0) (cells := cells) (slots := slots) C e7 hd hk hM hW hlv.1 hH hS ⟨by omega, by omega⟩
          have K : ∀ (H1 : Heap) (locs1 : List Loc), sd_W D cA z0 b L xs z1 h1 H1 → va_S (fun q => z0 ≤ q) s.heap H1 locs1 → W p l e R s m args below meth c H1 locs1 (cells + (sd_nc z1 - sd_nc z)) (slots + (sd_ns z1 - sd_ns z)) Q (F0 m (pc + 3) ls0 ((v.toList ++ st1).map (sd_v z0 b))) := fun H1 locs1 hW1 hS1 =>
            ih _ _ _ _ _ _ _ _ _ hr p e R s m args below meth c Q H1 locs1 _ _ cb sb ls0 C hW1 hS1 hlv hlen (by omega) (by omega) hent1 hRc hRs hEnd
          rcases v with _ | x | x | x
          · exact vx_callv (a := a) (S := Unit) (SX := Unit) hrun hS hA hF hA (fun E ce q9 u t H1 locs1 g1 g2 g3 => g3.elim) (fun u t H1 locs1 g1 g2 g3 g4 g5 g6 g7 => K H1 locs1 (by rw [← g1]; exact g4) g7) T hT X
          · exact vx_calli (a := a) (S := Unit) (SX := Unit) hrun hS hA hF hA (fun E ce q9 u t H1 locs1 g1 g2 g3 => g3.elim) (fun r u t H1 locs1 g1 g2 g3 g4 g5 g6 g7 => by
              have g3 : r = x := g3
              subst g3
              exact K H1 locs1 (by rw [← g1]; exact g4) g7) T hT X
          · exact vx_calll (a := a) (S := Unit) (SX := Unit) hrun hS hA hF hA (fun E ce q9 u t H1 locs1 g1 g2 g3 => g3.elim) (fun r u t H1 locs1 g1 g2 g3 g4 g5 g6 g7 => by
              have g3 : r = x := g3
              subst g3
              exact K H1 locs1 (by rw [← g1]; exact g4) g7) T hT X
          · exact vx_callv (a := a) (S := Unit) (SX := Unit) hrun hS hA hF hA (fun E ce q9 u t H1 locs1 g1 g2 g3 => g3.elim) (fun u t H1 locs1 g1 g2 g3 => g3.elim) T hT X
        | inr E =>
          dsimp only
          intro hr
          intro T hT X
          have hH : H.size = z0 + (z.1 + z.2.1) := sd_next hW hT X hcb hent
          have hz1' : sd_nc z1 ≤ sd_nc z' ∧ sd_ns z1 ≤ sd_ns z' := by
            revert hr
            cases ai_hd mi pc E with
            | none => exact fun h => nomatch h
            | some w =>
              cases w with
              | none =>
                intro hr
                cases hr
                exact ⟨Nat.le_refl _, Nat.le_refl _⟩
              | some v =>
                obtain ⟨pc', k⟩ := v
                dsimp only
                split
                · exact fun hr => sd_ncs (sd_mono _ _ _ _ _ _ _ _ hr)
                · exact fun h => nomatch h
          obtain ⟨hlen3, a, hrun⟩ := sd_run (n := 0) (cells := cells) (slots := slots) C e7 hd hk hM hW hlv.1 hH hS ⟨by omega, by omega⟩
          refine vx_callv (a := a) (S := Unit) (SX := Unit) hrun hS hA hF hA (fun E' ce q9 u t H1 locs1 g1 g2 g3 g4 g5 g6 g7 hce hcv hcl => ?_) (fun u t H1 locs1 g1 g2 g3 => g3.elim) T hT X
          obtain ⟨hE', hW1⟩ : E' = sd_xn E ∧ sd_W D cA z0 b L xs z1 h1 t.heap := g4
          subst hE'
          rw [g1] at hW1
          obtain ⟨hx, hb, hml, hown, hts, hlocks, hret, hnm, htab, hfr, hlo, hK, hX, hbz, hz0, hU, hN⟩ := id C
          revert hr
          cases e9 : ai_hd mi pc E with
          | none => exact fun h => nomatch h
          | some w =>
            cases w with
            | none =>
              intro hr
              cases hr
              obtain ⟨Qc, XC, mc, ms, rfl, hmc, hms, hXC⟩ := hEnd
              have hno : ai_find [] sd_hw mi = [] := by
                refine sd_hs_none ?_
                unfold ai_hd at e9
                split at e9
                · assumption
                · rw [Option.map_eq_some_iff] at e9
                  obtain ⟨_, _, h9⟩ := e9
                  cases h9
              refine vx_out (fun x hx9 => ?_) hlocks hce hcv hcl (fun t2 ht2 _ => hXC t2 (by rw [ht2]; exact hW1) (g7.F ht2)) g7.2.2 (by omega) (by omega)
              rw [htab, hno] at hx9
              cases hx9
            | some v =>
              obtain ⟨pc', k⟩ := v
              dsimp only
              split
              · rename_i hkl
                intro hr
                have hne : ¬ ai_find [] ai_hs mi = [] := by
                  intro g
                  unfold ai_hd at e9
                  rw [g] at e9
                  cases e9
                obtain ⟨ps, hps⟩ := sd_hs_some hne
                have hhf : ai_hf pc E (ai_find [] ai_hs mi) = some (pc', k) := by
                  unfold ai_hd at e9
                  split at e9
                  · cases e9
                  · rename_i l9 hl8
                    obtain ⟨v9, h9, h10⟩ := Option.map_eq_some_iff.mp e9
                    cases h10
                    exact h9
                obtain ⟨pre, x, suf, b1, b2, b3, b4, b5, b6, b7, b8, b9⟩ := sd_hks_is _ _ _ hps hhf
                refine vx_catch hown pre x suf (htab.trans b1) (fun w hw => ?_) b3 b4 (hts _ b5) (va_Nw.use rfl (hK.2.2.2.1 _ b6)) hce hcv hcl ?_
                · rcases b2 w hw with g | ⟨g, F, f1, f2, f3, f4⟩
                  · exact Or.inl g
                  · exact Or.inr ⟨g, sd_xn F, hts _ f4, hK.2.2.2.2.2.2.2 E F b8 f2 b7 f1 (fun g => f3 g.symm)⟩
                · have K : ∀ (lsm : Array Slot), lv_has lsm (ai_mx mi) (sd_l z0 b 0 ((ai_cut ls k).set k none)) → W p l e R s m args below meth c H1 locs1 (cells + (sd_nc z1 - sd_nc z)) (slots + (sd_ns z1 - sd_ns z)) Q (F0 m pc' lsm []) := fun lsm hlm =>
                    ih _ _ _ _ _ _ _ _ _ hr p e R s m args below meth c Q H1 locs1 _ _ cb sb lsm C hW1 g7 hlm (by rw [List.length_set, sd_cut_len]; exact hlen) (by omega) (by omega) hent1 hRc hRs hEnd
                  rcases b9 with ⟨c1, c2⟩ | ⟨kf, c1, c2, c3⟩
                  · rw [c2] at K
                    exact lv_astore hx hb c1 hlv (by omega) rfl fun lsm h9 => K lsm (sd_stn_has hkl h9)
                  · rw [c3] at K
                    exact lv_astore_n hx hb c1 c2 hlv (by omega) rfl fun lsm h9 => K lsm (sd_stn_has hkl h9)
              · exact fun h => nomatch h
    · rw [if_neg hl9]
      exact fun h => nomatch h
end SDB
