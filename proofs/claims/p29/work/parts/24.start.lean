/-! THE CLAIM OUT OF ONE WALK OF THE LAW'S BODY. Your part is whole_start (and what it stands on); all else here is the same for every law, but numbers. -/
def R_law : String := "FactorHouseLaw"
def lw_P (b : Addr) (xs : List Int32) (args : Array Value) (s : State) : Prop := args = #[.ref b] ∧ s.IntsAt b xs ∧ xs.length ≤ 260 ∧ (Jvm.Cond.and given_1 narrow_1).before args s = true
def lw_Q (_ : Array Value) (s : State) (o : Outcome) (t : State) : Prop := o = .returned (some (.int 1)) ∧ Framed s o t [] 600104 7301314
def lw_Z (below : List Frame) (a : Array Value) (s : State) : State → Prop := fun t => ∃ o, t.status = .running ∧ Ended t below o ∧ lw_Q a s o t
/-- the law's own end, with 1 on the stack, nothing written that was there before, its room as the claim has it -/
theorem lw_ret {p : Program} {l : Launch} {e : Env} {s : State} {m : MethodId} {below : List Frame} {meth : Method} {c : Code} {b : Nat} (hx : p.tables.exec = Jvm.exec) (hb : c.code = code) (hr : meth.sig.returnType = ret) (hlocks : meth.locks = false) {pc : Nat} {H : Heap} {ls : Array Slot} (hdg : decode code pc = .ok (.ireturn, 1)) : W p l e room_1 s m #[Value.ref b] below meth c H [] 600104 7301314 (lw_Z below #[Value.ref b] s) (F0 m pc ls [.int 1]) := by
  intro T hT X
  obtain ⟨fs, hret, hrun, hended, hW, hframe⟩ := X.leave (v := some (.int 1)) (hlocks := hlocks) (fun h => by rw [hr] at h; cases h)
  have hmeth' : T.vm.method? m = some meth := X.method'
  refine ⟨T.setFrames fs, ?_, .returned (some (.int 1)), hrun, hended, rfl, ⟨_, rfl⟩, hW, hframe⟩
  jvm_step X.here [X.here.top, hx, hb, hdg, hmeth', hr, ret, narrow_b1]
  (try refine ⟨rfl, ?_⟩); (try refine ⟨rfl, ?_⟩)
  first | (intro acts; rw [hret _ acts rfl rfl rfl]) | rw [hret _ _ rfl rfl rfl]
  exact Steps.refl _
/-- what holds at the law's entry: the machine, the code, the tables' words (any of lw_tbl by 'hts w (by decide +kernel)'), the script of L ints xs at the cell b, what the Statement gives of the start (any of its parts by flat_of_before) -/
def lw_At (p : Program) (s : State) (m : MethodId) (meth : Method) (c : Code) (b L : Nat) (xs : Nat → Int32) : Prop :=
  p.tables.exec = Jvm.exec ∧ c.code = code ∧ meth.sig.returnType = ret ∧ c.maxLocals = 26 ∧ s.vm.findClass R_law = some m.cls ∧ (∀ w ∈ lw_tbl, w.before #[Value.ref b] s = true) ∧ va_X b L xs s s.heap ∧ b < s.heap.size ∧ meth.locks = false ∧ (Jvm.Cond.and given_1 narrow_1).before #[Value.ref b] s = true ∧ meth.name = x.name ∧ c.exceptionTable.toList = []
def ai_h0 (xs : Nat → Int32) : ai_H := (fun t i k => if t = 99 ∧ i = 0 then xs k else 0, fun _ _ _ => 0)
theorem sw_kn {s : State} {args : Array Value} (hts : ∀ w ∈ sd_tb, w.before args s = true) {c : Nat} (hc : c < 6) : ∃ (cC : ClassId) (iS : Nat → Nat), u_Kn s (sd_R c) (sd_F c) (sd_n c) cC iS := by
  have hi : Cond.instantiable (sd_R c) (sd_n c) ∈ sd_tb := by
    match c, hc with
    | 0, _ => exact sd_at_ok (p := 1015) (by decide +kernel)
    | 1, _ => exact sd_at_ok (p := 1064) (by decide +kernel)
    | 2, _ => exact sd_at_ok (p := 1150) (by decide +kernel)
    | 3, _ => exact sd_at_ok (p := 1029) (by decide +kernel)
    | 4, _ => exact sd_at_ok (p := 1046) (by decide +kernel)
    | 5, _ => exact sd_at_ok (p := 1128) (by decide +kernel)
  exact u_known hts (sd_wss hc) (hts _ hi)
theorem sw_prim {s : State} {args : Array Value} {ty : FieldType} (h : (Cond.arrayClass ty).before args s = true) (ht : ∀ C, ty ≠ .object C) : ∃ cA : ClassId, ArrOfT s cA ty ∧ va_RA s cA ty := by
  obtain ⟨c, k, comp, h1, h2, h3⟩ := Cond.arrayClass_spec h
  refine ⟨c, fun n z => ⟨(fun k h => by cases h), k, h2, comp, h3⟩, ?_⟩
  cases ty with
  | object C => exact absurd rfl (ht C)
  | _ => exact h1
theorem sw_obj {s : State} {args : Array Value} {C : String} (h : (Cond.arrayOver (.object C)).before args s = true) : ∃ cA : ClassId, ArrOfT s cA (.object C) ∧ va_RA s cA (.object C) := by
  obtain ⟨comp, c, k, h1, h2, h3, h4, h5⟩ := Cond.arrayOver_spec h
  exact ⟨c, fun n z => ⟨(fun k h => by cases h), k, h3, comp, h4⟩, k, comp, h3, h4, h1, h5⟩
theorem sw_tt {k : Nat} (hk : k < 6) : ∀ cA : Nat → ClassId, (sd_ty cA)[k]? = some (cA k, match k with | 0 => .int | 1 => .long | 2 => .boolean | 3 => .object (sd_R 1) | 4 => .object (sd_R 2) | _ => .object (sd_R 5)) := by
  match k, hk with
  | 0, _ => exact fun _ => rfl
  | 1, _ => exact fun _ => rfl
  | 2, _ => exact fun _ => rfl
  | 3, _ => exact fun _ => rfl
  | 4, _ => exact fun _ => rfl
  | 5, _ => exact fun _ => rfl
theorem sw_K {s : State} {args : Array Value} (hlw : ∀ w ∈ lw_tbl, w.before args s = true) (hgv : (Jvm.Cond.and given_1 narrow_1).before args s = true) : ∃ (D : va_G) (cA : Nat → ClassId), sd_K D cA s := by
  have hts : ∀ w ∈ sd_tb, w.before args s = true := fun w hw => hlw w ((List.mem_filter.mp hw).1)
  have hs := flat_of_before _ hgv
  have h0 : ∀ c, ∃ y : ClassId × (Nat → Nat), c < 6 → u_Kn s (sd_R c) (sd_F c) (sd_n c) y.1 y.2 := fun c => by
    by_cases hc : c < 6
    · obtain ⟨a, b, h⟩ := sw_kn hts hc
      exact ⟨(a, b), fun _ => h⟩
    · exact ⟨(0, fun _ => 0), fun h => absurd h hc⟩
  obtain ⟨f, hf⟩ := Classical.axiomOfChoice h0
  have hlo : ∀ q ∈ sd_lo, (Cond.arrayOver (.object q)).before args s = true := fun q hq => hlw _ (sd_lo_ok q hq)
  obtain ⟨a0, i0⟩ := sw_prim (hts _ sd_ac_int) (fun C h => by cases h)
  obtain ⟨a1, i1⟩ := sw_prim (hts _ sd_ac_long) (fun C h => by cases h)
  obtain ⟨a2, i2⟩ := sw_prim (hts _ sd_ac_boolean) (fun C h => by cases h)
  obtain ⟨a3, i3⟩ := sw_obj (hlo (sd_R 1) (by decide +kernel))
  obtain ⟨a4, i4⟩ := sw_obj (hlo (sd_R 2) (by decide +kernel))
  obtain ⟨a5, i5⟩ := sw_obj (hlo (sd_R 5) (by decide +kernel))
  refine ⟨(fun c => (f c).1, fun c => (f c).2), fun k => match k with | 0 => a0 | 1 => a1 | 2 => a2 | 3 => a3 | 4 => a4 | _ => a5, ⟨fun c q hq => ?_, fun k q hq => ?_⟩, fun q hq => va_Nw.of rfl (hlw _ (sd_lf_ok q hq)), fun q hq => va_Nw.of rfl (hlw _ (sd_lm_ok q hq)), fun q hq => va_Nw.of rfl (hlw _ (sd_la_ok q hq)), fun q hq => va_Nw.of rfl (hlw _ (sd_ld_ok q hq)), fun q hq => ?_, hlo, ?_⟩
  · have hc : c < 6 := (List.getElem?_eq_some_iff.mp hq).1
    rw [sd_cls hc] at hq
    cases hq
    exact hf c hc
  · have hk : k < 6 := (List.getElem?_eq_some_iff.mp hq).1
    rw [sw_tt hk] at hq
    cases hq
    match k, hk with
    | 0, _ => exact i0
    | 1, _ => exact i1
    | 2, _ => exact i2
    | 3, _ => exact i3
    | 4, _ => exact i4
    | 5, _ => exact i5
  · have ho : sd_ls.all (fun q => decide (q.1 = sd_R 0)) = true := by decide +kernel
    have ho := of_decide_eq_true (List.all_eq_true.mp ho q hq)
    have h1 := hlw _ (sd_ls_ok q hq)
    obtain ⟨kC, hkC⟩ := (hf 0 (by decide)).2
    have hcur : s.vm.findClass q.1 = some (f 0).1 := by rw [ho]; exact kC
    obtain ⟨k, cf, i, a, -, -, -, -, -, he⟩ := Cond.stringRef_spec hcur h1
    exact ⟨a, vk_R.of h1 he⟩
  · intro E F h1 h2 h3 h4 h5
    have key : ∀ E F : Nat, E < 4 → F < 4 → 0 < E → 0 < F → E ≠ F → Cond.not (.castable (sd_xn E) (sd_xn F)) ∈ flatC (Jvm.Cond.and given_1 narrow_1) := by
      intro E F h1 h2 h3 h4 h5
      rcases (show E = 1 ∨ E = 2 ∨ E = 3 by omega) with rfl | rfl | rfl <;> rcases (show F = 1 ∨ F = 2 ∨ F = 3 by omega) with rfl | rfl | rfl <;> first | exact absurd rfl h5 | decide +kernel
    exact va_Nc.of (hs _ (key E F h1 h2 h3 h4 h5))
theorem sw_run {p : Program} {e : Env} {s : State} {m : MethodId} {below : List Frame} {meth : Method} {c : Code} (l : Launch) (hflags : l.flags = flags0) {b L : Nat} {xs : Nat → Int32} (C0 : lw_At p s m meth c b L xs) {n : Nat} {z' : ai_Z} {h' : ai_H}
    (hr : ai_run n 613 0 (ai_en 613 [ai_r 99 0]) [] (0, 0, L, fun _ _ _ => none) (ai_h0 xs) = some (Sum.inl (some (ai_i 1)), z', h')) (h1 : sd_nc z' ≤ 600104) (h2 : sd_ns z' ≤ 7301314) : W p l e room_1 s m #[Value.ref b] below meth c s.heap [] 0 0 (lw_Z below #[Value.ref b] s) (entryFrame m ([Value.ref b] : List Value).toArray 26) := by
  obtain ⟨hx, hb, hr9, hml, hown, hts, hX, hbl, hlocks, hgv, hnm, htab⟩ := id C0
  have hs := flat_of_before _ hgv
  obtain ⟨D, cA, hK⟩ := sw_K hts hgv
  have hl : l.stackTraces = false := by
    unfold Launch.stackTraces
    rw [hflags]
    decide +kernel
  have hmx : ai_mx 613 = 26 := by rw [ai_mx, ai_m_613]
  have hlen : (ai_en 613 [ai_r 99 0]).length = ai_mx 613 := by
    unfold ai_en
    rw [hmx]
    rfl
  have hini : (Cond.initialized "java/lang/Throwable").before #[Value.ref b] s = true := hts _ (sd_wp_in (p := 1007) (by decide +kernel))
  have hu1 : (Cond.laysStatic Bundle.tN "UNASSIGNED_STACK" Bundle.steD).before #[Value.ref b] s = true := hts _ (sd_wp_in (p := 2020) (by decide +kernel))
  have hu2 : (Cond.laysStatic Bundle.tN "SUPPRESSED_SENTINEL" Bundle.listD).before #[Value.ref b] s = true := hts _ (sd_wp_in (p := 2022) (by decide +kernel))
  have hU := vx_Zqof (A := fun q => s.heap.size ≤ q) hu1 hini (hs _ (by decide +kernel)) (fun a h => Nat.not_le.mpr h)
  have hN := vx_Zqof (A := fun q => s.heap.size ≤ q) hu2 hini (hs _ (by decide +kernel)) (fun a h => Nat.not_le.mpr h)
  have C : sd_C D cA s.heap.size b L xs p room_1 s m #[Value.ref b] meth c 613 := by
    refine ⟨hx, hb.trans ai_by_613.symm, hml.trans hmx.symm, hown, fun w hw => hts w ((List.mem_filter.mp hw).1), hlocks, ?_, ?_, ?_, ?_, ?_, hK, hX, hbl, Nat.le_refl _, hU, hN⟩
    · rw [hr9, ai_rk, ai_m_613]; rfl
    · rw [hnm]; decide +kernel
    · rw [htab, show ai_find [] sd_hw 613 = [] by decide +kernel]; rfl
    · rw [ai_fr, ai_m_613]; exact (by decide : 10 ≤ 12)
    · rw [ai_lo, ai_m_613]; exact (by decide : 207 ≤ 438)
  have hW : sd_W D cA s.heap.size b L xs (0, 0, L, fun _ _ _ => none) (ai_h0 xs) s.heap := by
    refine ⟨fun k q h => by simp [sd_ws, sd_nl, sd_dm] at h, Nat.zero_le _, Nat.le_refl _, fun j => ?_, rfl, fun o ho => absurd (show (if (98 : Nat) = 99 ∧ o = 0 then xs 0 else (0 : Int32)) = 0 from if_neg (fun g => absurd g.1 (by decide))) ho⟩
    show (if (99 : Nat) = 99 ∧ (0 : Nat) = 0 then xs j else 0) = xs j
    exact if_pos (And.intro rfl rfl)
  have hv : ([ai_r 99 0] : List ai_V).map (sd_v s.heap.size b) = [Value.ref b] := rfl
  rw [lg_entry_eq, ← hmx]
  rw [← hv]
  refine sd_body hl n 613 0 (ai_en 613 [ai_r 99 0]) [] (0, 0, L, fun _ _ _ => none) (ai_h0 xs) _ z' h' hr p e room_1 s m _ below meth c _ s.heap [] 0 0 0 0 _ C hW va_S.rf (sd_entry hlen) hlen rfl rfl rfl h1 h2 ?_
  intro i pc ls0 H locs cells slots hd hrt hW1 hS1 hc hs1
  rw [ai_by_613] at hd
  unfold ai_rt at hrt
  have hi : i = .ireturn := by
    split at hrt <;> first | rfl | (rename_i g; cases g) | cases hrt
  subst hi
  refine va_forget hS1.2.2 ?_
  refine W.widen (k := 600104) (n := 7301314) (by omega) (by omega) ?_
  exact lw_ret hx hb hr9 hlocks hd
