theorem sd_good {ws : List Cond} (h : ∀ w ∈ ws, w ∈ sd_tb) : GoodIn sd_tb ws := fun w hw => ⟨h w hw, good_of_word (List.mem_filter.mp (h w hw)).2⟩
theorem sd_calling {U : State} {g : JFrame} {mk : MethodId} {a : Array Value} : U.WarmedH (U.calling g mk a).vm := State.WarmedH.refl U
theorem sd_U.moved {D : va_G} {cA : Nat → ClassId} {z0 b L : Nat} {xs : Nat → Int32} {z : ai_Z} {h : ai_H} {u U : State} (hh : U.heap = u.heap) (hW : u.WarmedH U.vm) (hu : sd_U D cA z0 b L xs z h u) : sd_U D cA z0 b L xs z h U := by
  obtain ⟨h1, h2, h3, h4, h5, h6, h7⟩ := hu
  refine ⟨by rw [hh]; exact h1, by rw [hh]; exact h2, h3.moved hW, ?_, h5, ?_, ?_⟩
  · rw [hh]; exact h4.moved hW.alike
  · rw [hh]; exact vx_Zq.moved hW.alike h6
  · rw [hh]; exact vx_Zq.moved hW.alike h7
theorem sd_blind {D : va_G} {cA : Nat → ClassId} {z0 b L : Nat} {xs : Nat → Int32} {z : ai_Z} {h : ai_H} {av : List Value} : FrameBlind (va_Pc av (sd_U D cA z0 b L xs z h)) := fun a U g mk hp => ⟨hp.1, hp.2.moved (u := U) (U := U.calling g mk a) rfl (State.WarmedH.refl U)⟩
def sd_Qc (o : ai_O) (B : State → Prop) (A : Nat → Prop) : Array Value → State → Outcome → State → Prop := match o with
  | Sum.inl none => va_Qv (fun _ : Unit => True) (fun _ t => B t) A
  | Sum.inl (some (Sum.inl x)) => va_Qi (fun r (_ : Unit) => r = x) (fun _ t => B t) A
  | Sum.inl (some (Sum.inr (Sum.inl x))) => va_Ql (fun r (_ : Unit) => r = x) (fun _ t => B t) A
  | _ => va_Qv (fun _ : Unit => False) (fun _ _ => True) A
def sd_XC (o : ai_O) (B : State → Prop) (A : Nat → Prop) : String → State → State → Prop := match o with
  | Sum.inr E => vx_X (fun _ : Unit => True) (fun E' _ t => E' = sd_xn E ∧ B t) A
  | Sum.inl _ => vx_X (fun _ : Unit => False) (fun _ _ _ => True) A
def sd_rm (y mc ms : Nat) : Room := { frames := ai_fr y, cells := mc, slots := ms, locals := ai_lo y }
def sd_Met (l : Launch) (D : va_G) (cA : Nat → ClassId) (z0 b L : Nat) (xs : Nat → Int32) (y : Nat) (as : List ai_V) (z : ai_Z) (h : ai_H) (o : ai_O) (z' : ai_Z) (h' : ai_H) : Prop :=
  vx_Met l (sd_nm y) (sd_cw y :: sd_tb) (sd_rm y (sd_nc z' - sd_nc z) (sd_ns z' - sd_ns z)) (va_Pc (as.map (sd_v z0 b)) (sd_U D cA z0 b L xs z h)) (sd_Qc o (fun t => sd_W D cA z0 b L xs z' h' t.heap) (fun q => z0 ≤ q)) (sd_XC o (fun t => sd_W D cA z0 b L xs z' h' t.heap) (fun q => z0 ≤ q)) (sd_nc z' - sd_nc z) (sd_ns z' - sd_ns z) (fun q => z0 ≤ q)
theorem sd_fit : ∀ E, 0 < E → E < 4 → Bundle.fit (sd_xn E) = true := by
  have h : (List.range 4).all (fun E => Bundle.fit (sd_xn E)) = true := by decide +kernel
  exact fun E _ h4 => List.all_eq_true.mp h E (List.mem_range.mpr h4)
theorem sd_fits_xa : ∀ n ∈ sd_xa, Bundle.fit n = true := by decide +kernel
section SDC
variable {D : va_G} {cA : Nat → ClassId} {z0 b L : Nat} {xs : Nat → Int32} {p : Program} {l : Launch} {e : Env} {R : Room} {s : State} {m : MethodId} {args : Array Value} {below : List Frame} {meth : Method} {c : Code} {Q : State → Prop} {mi pc : Nat} {H : Heap} {locs : List Loc} {cells slots : Nat} {ls0 : Array Slot} {z : ai_Z} {h : ai_H}
theorem sd_wk_at (hts : ∀ w ∈ sd_tb, w.before args s = true) (hK : sd_K D cA s) {ws : List Cond} (h : ws.all sd_wk = true) : ∀ w ∈ ws, w.before args s = true := by
  intro w hw
  have h1 := List.all_eq_true.mp h w hw
  unfold sd_wk at h1
  split at h1
  · rename_i hg
    exact hts w (List.mem_filter.mpr ⟨of_decide_eq_true h1, hg⟩)
  · have h2 := of_decide_eq_true h1
    unfold sd_cas at h2
    rcases List.mem_append.mp h2 with h3 | h3
    · obtain ⟨q, hq, rfl⟩ := List.mem_map.mp h3
      exact va_Nw.use rfl (hK.2.2.2.1 q hq)
    · obtain ⟨q, hq, rfl⟩ := List.mem_map.mp h3
      exact va_Nw.use rfl (hK.2.2.2.2.1 q hq)
theorem sd_throw {Qc : Array Value → State → Outcome → State → Prop} {XC : String → State → State → Prop} {mc ms E len : Nat} {i : Instr} (hl : l.stackTraces = false) (C : sd_C D cA z0 b L xs p R s m args meth c mi) (ht : ai_th mi pc i = some E) (hd : decode (ai_by mi) pc = .ok (i, len)) (hk : ai_lk (i, len) = true)
    (hS : va_S (fun q => z0 ≤ q) s.heap H locs) (hsz : ls0.size = ai_mx mi) (hc : cells + 1 ≤ mc) (hs : slots + 6 ≤ ms) (hRc : cells + 1 ≤ R.cells) (hRs : slots + 6 ≤ R.slots)
    (hx : ∀ t : State, s.vm.Alike t.vm → H.size + 1 ≤ t.heap.size → (∀ q : Nat, q < H.size → t.heap[q]? = H[q]?) → XC (sd_xn E) s t) :
    W p l e R s m args below meth c H locs cells slots (vx_MQ below Qc XC args s mc ms (fun q => z0 ≤ q)) (F0 m pc ls0 []) := by
  obtain ⟨hxx, hb, hml, hown, hts, hlocks, -, -, htab, hfr, hlo, hK, -, -, hz0, hU, hN⟩ := C
  unfold ai_th at ht
  split at ht
  · rename_i idx
    split at ht
    · rename_i hok
      have hok := of_decide_eq_true hok
      obtain ⟨⟨⟨ik, is, ic, tx, wd⟩, p1, p2⟩, hq⟩ := sd_xt_ok ht
      unfold sd_xk at hq
      simp only [Bool.and_eq_true, decide_eq_true_eq] at hq
      obtain ⟨⟨⟨⟨⟨⟨⟨⟨⟨q0, q3⟩, q4⟩, q5⟩, q6⟩, q7⟩, q8⟩, q9⟩, q10⟩, q11⟩ := hq
      have hown0 : sd_R (mi / 100) = "FactorHouse" := by rw [q8]; rfl
      have hempty : ∀ x ∈ c.exceptionTable.toList, False := by
        rw [htab, q10]
        intro x hx
        cases hx
      have hik : ik = (match E with | 1 => ik | 2 => ik | _ => ik) := by split <;> rfl
      obtain ⟨sa, hstr⟩ := hK.2.2.2.2.2.1 _ q5
      have key : (∀ w ∈ vx_atS (sd_R (mi / 100)) ic (sd_xn E) sd_xa, w.before args s = true) ∧ (∀ w ∈ Cond.classLink (sd_R (mi / 100)) ik (sd_xn E) :: Cond.initialized (sd_xn E) :: vx_atS (sd_R (mi / 100)) ic (sd_xn E) sd_xa, vx_ot w = true) := by
        rw [hown0]
        have hE : E = 1 ∨ E = 2 ∨ E = 3 := by omega
        rcases hE with g | g | g <;> subst g
        · simp only [decide_eq_true_eq] at q11
          rw [q11.1, q11.2]
          exact ⟨sd_wk_at hts hK sd_xw_1, List.all_eq_true.mp sd_xo_1⟩
        · simp only [decide_eq_true_eq] at q11
          rw [q11.1, q11.2]
          exact ⟨sd_wk_at hts hK sd_xw_2, List.all_eq_true.mp sd_xo_2⟩
        · simp only [decide_eq_true_eq] at q11
          rw [q11.1, q11.2]
          exact ⟨sd_wk_at hts hK sd_xw_3, List.all_eq_true.mp sd_xo_3⟩
      cases hwd : wd with
      | true =>
        rw [hwd] at q4
        simp only [if_true, Bool.and_eq_true, decide_eq_true_eq] at q4
        exact vx_throwSW hxx hb hl hown (sd_fit E q9.1 q9.2) sd_fits_xa (hts _ (sd_at_ok q6)) (hts _ (sd_at_ok q7)) hstr key.1 key.2 hU hN hS (hsz.trans hml.symm) q0 q3 q4.1.1 q4.1.2 q4.2 (fun x hx => (hempty x hx).elim)
          (by show 2 + 3 < R.frames; omega) (by show 0 + (13 * (2 + 1) + 43) ≤ R.locals; omega) hRc hRs hlocks hx hS.2.2 hc hs
      | false =>
        rw [hwd] at q4
        simp only [Bool.false_eq_true, if_false, Bool.and_eq_true, decide_eq_true_eq] at q4
        exact vx_throwS hxx hb hl hown (sd_fit E q9.1 q9.2) sd_fits_xa (hts _ (sd_at_ok q6)) (hts _ (sd_at_ok q7)) hstr key.1 key.2 hU hN hS (hsz.trans hml.symm) q0 q3 q4.1.1 q4.1.2 q4.2 (fun x hx => (hempty x hx).elim)
          (by show 2 + 3 < R.frames; omega) (by show 0 + (13 * (2 + 1) + 43) ≤ R.locals; omega) hRc hRs hlocks hx hS.2.2 hc hs
    · cases ht
  · cases ht
theorem sd_co_is {y q1 q2 : Nat} (h : sd_co y q1 q2 = true) : sd_cw y ∈ sd_tb ∧ Cond.initialized (sd_R (y / 100)) ∈ sd_tb ∧ (sd_nm y).cls = sd_R (y / 100) ∧ sd_R (y / 100) ≠ "java/lang/invoke/MethodHandle" ∧ sd_R (y / 100) ≠ "java/lang/invoke/VarHandle" := by
  unfold sd_co at h
  simp only [Bool.and_eq_true, decide_eq_true_eq] at h
  exact ⟨sd_cws y h.1.1.1.1, sd_at_ok h.1.1.1.2, h.1.1.2, h.1.2, h.2⟩
theorem sd_cw_c {y : Nat} (h : ai_find [] sd_hw y = []) : sd_cw y = .code (sd_nm y) (ai_by y) (ai_mx y) (sd_rt (ai_rk y)) := by
  unfold sd_cw
  rw [h]
theorem sd_ws_good {y : Nat} (h : sd_cw y ∈ sd_tb) : ∀ w ∈ sd_cw y :: sd_tb, w ∈ sd_tb := fun w hw => (List.mem_cons.mp hw).elim (fun e => e ▸ h) id
theorem sd_four {w1 w2 w3 w4 : Cond} {ws : List Cond} (h1 : w1 ∈ sd_tb) (h2 : w2 ∈ sd_tb) (h3 : w3 ∈ sd_tb) (h4 : w4 ∈ sd_tb) (h : ∀ w ∈ ws, w ∈ sd_tb) : ∀ w ∈ ([w1, w2, w3, w4] : List Cond) ++ ws, w ∈ sd_tb := by
  intro w hw
  rcases List.mem_append.mp hw with hw | hw
  · simp only [List.mem_cons, List.not_mem_nil, or_false] at hw
    rcases hw with g | g | g | g <;> rw [g] <;> assumption
  · exact h w hw
theorem sd_three {w1 w2 w3 : Cond} {ws : List Cond} (h1 : w1 ∈ sd_tb) (h2 : w2 ∈ sd_tb) (h3 : w3 ∈ sd_tb) (h : ∀ w ∈ ws, w ∈ sd_tb) : ∀ w ∈ ([w1, w2, w3] : List Cond) ++ ws, w ∈ sd_tb := by
  intro w hw
  rcases List.mem_append.mp hw with hw | hw
  · simp only [List.mem_cons, List.not_mem_nil, or_false] at hw
    rcases hw with g | g | g <;> rw [g] <;> assumption
  · exact h w hw
theorem sd_ko7 {t c0 : Nat} (g : 6 ≤ c0) : ¬ ai_ko t = some c0 := by
  intro hk
  have h : (List.range 33).all (fun t => (ai_ko t).all fun c => decide (c < 6)) = true := by decide +kernel
  by_cases ht : t < 33
  · have h1 := List.all_eq_true.mp h t (List.mem_range.mpr ht)
    rw [hk] at h1
    have h2 := of_decide_eq_true h1
    omega
  · obtain ⟨d, rfl⟩ := Nat.exists_eq_add_of_le' (show 33 ≤ t by omega)
    cases hk
/-- the call itself, by its kind -/
theorem sd_run {len y n : Nat} {i : Instr} {st : List ai_V} {as st' : List ai_V} {o : ai_O} {z' : ai_Z} {h' : ai_H} (C : sd_C D cA z0 b L xs p R s m args meth c mi) (hcl : ai_cl mi i st z.1 = some (y, as, st')) (hd : decode (ai_by mi) pc = .ok (i, len)) (hk : ai_lk (i, len) = true)
    (hM : sd_Met l D cA z0 b L xs y as z h o z' h') (hW : sd_W D cA z0 b L xs z h H) (hsz : ls0.size = ai_mx mi) (hH : H.size = z0 + (z.1 + z.2.1)) (hS : va_S (fun q => z0 ≤ q) s.heap H locs)
    (hf : cells + (sd_nc z' - sd_nc z) ≤ R.cells ∧ slots + (sd_ns z' - sd_ns z) ≤ R.slots) :
    len = 3 ∧ ∃ a, vx_Run p l e R s m args below meth c H locs cells slots (sd_nc z' - sd_nc z) (sd_ns z' - sd_ns z) (F0 m pc ls0 (st.map (sd_v z0 b))) (st'.map (sd_v z0 b)) (sd_Qc o (fun t => sd_W D cA z0 b L xs z' h' t.heap) (fun q => z0 ≤ q) a) (sd_XC o (fun t => sd_W D cA z0 b L xs z' h' t.heap) (fun q => z0 ≤ q)) (fun q => z0 ≤ q) := by
  obtain ⟨hx, hb, hml, hown, hts, -, -, -, -, hfr, hlo, hK, hX, hbz, hz0, hU, hN⟩ := C
  have hbl : b < s.heap.size := by omega
  have hbA : ¬ z0 ≤ b := by omega
  have hpre : ∀ U : State, U.heap = H → s.WarmedH U.vm → sd_U D cA z0 b L xs z h U := by
    intro U hUH hUW
    refine ⟨by rw [hUH]; exact hW, by rw [hUH]; exact hH, hK.moved hUW, ?_, hbz, ?_, ?_⟩
    · rw [hUH]
      exact (hX.moved hUW.alike).kept (hS.2.1 b hbl hbA)
    · rw [hUH]; exact vx_Zq.moved hUW.alike (hU.kept hS.2.1)
    · rw [hUH]; exact vx_Zq.moved hUW.alike (hN.kept hS.2.1)
  unfold ai_cl at hcl
  split at hcl
  · rename_i y1 n1 hct
    split at hcl
    · rename_i hc
      obtain ⟨hokr, hn1, hn2, hrc⟩ := hc
      injection hcl with hcl
      injection hcl with e1 e2
      injection e2 with e2 e3
      subst e1
      have hokr := of_decide_eq_true hokr
      have hst' : st'.length ≤ 4 := by rw [← e3, List.length_drop]; omega
      have hroom := lv_room (m := m) (pc := pc) (ls := ls0) (rest := st.map (sd_v z0 b)) (sd_mathr (z0 := z0) (b := b) hst')
      have hst : st = as.reverse ++ st' := by rw [← e2, ← e3, List.reverse_reverse, List.take_append_drop]
      have hal : as.length = n1 := by rw [← e2, List.length_reverse, List.length_take]; omega
      have hF : CallFix p m c (ai_by mi) (ai_mx mi) s args sd_tb (sd_R (mi / 100)) := ⟨hx, hb, hml, hown, hts⟩
      rw [e2] at hrc
      unfold ai_ct at hct
      split at hct
      · -- by the receiver
        rename_i idx
        have e4 := eq_of_beq (show (len == 3) = true from hk)
        subst e4
        refine ⟨rfl, ?_⟩
        obtain ⟨⟨p1, p2, p3, p4, p5⟩, hq⟩ := sd_cv_ok hct
        unfold sd_vk at hq
        simp only [Bool.and_eq_true, decide_eq_true_eq] at hq
        obtain ⟨⟨⟨⟨⟨⟨q1, q2⟩, q3⟩, q4⟩, q5⟩, q6⟩, q7⟩ := hq
        obtain ⟨r1, r2, r3, r4, r5⟩ := sd_co_is q4
        cases as with
        | nil => cases hrc
        | cons r0 as1 =>
          rcases r0 with x0 | x0 | q0
          · cases hrc
          · cases hrc
          · have hrc : (decide (ai_ko q0.1 = some (y1 / 100)) && ai_al z.1 q0.1 q0.2) = true := hrc
            rw [Bool.and_eq_true, decide_eq_true_eq] at hrc
            have he := sd_get (cA := cA) (z0 := z0) (b := b) (k := z.2.1) (R := z.2.2.2) (h := h) hrc.2
            rw [sd_en_o hrc.1] at he
            have hc7 : y1 / 100 < 6 := by
              rcases Nat.lt_or_ge (y1 / 100) 6 with g | g
              · exact g
              · exact absurd hrc.1 (sd_ko7 g)
            have hstk : st.map (sd_v z0 b) = (as1.map (sd_v z0 b)).reverse ++ .ref (sd_ad z0 b q0.1 q0.2) :: st'.map (sd_v z0 b) := by
              rw [hst, List.reverse_cons, List.map_append, List.map_append, List.map_reverse, List.append_assoc]
              rfl
            have hlen : (as1.map (sd_v z0 b)).length = n1 - 1 := by
              rw [List.length_map]
              rw [List.length_cons] at hal
              omega
            have hp : PreV s H (sd_R (y1 / 100)) (sd_ad z0 b q0.1 q0.2) (va_Pc ((Sum.inr (Sum.inr q0) :: as1).map (sd_v z0 b)) (sd_U D cA z0 b L xs z h)) (as1.map (sd_v z0 b)) :=
              ⟨sd_blind, va_recv hK.1 hW.1 (sd_cls hc7) he, fun U g1 g2 => ⟨rfl, hpre U g1 g2⟩⟩
            have hw : sd_cw y1 :: sd_tb = Cond.code (sd_nm y1) (ai_by y1) (ai_mx y1) (sd_rt (ai_rk y1)) :: sd_tb := by rw [sd_cw_c q5]
            have hR : (sd_rm y1 (sd_nc z' - sd_nc z) (sd_ns z' - sd_ns z)).frames + 1 ≤ R.frames ∧ 8 + (ai_mx y1 + 11) + (sd_rm y1 (sd_nc z' - sd_nc z) (sd_ns z' - sd_ns z)).locals ≤ R.locals := ⟨by show ai_fr y1 + 1 ≤ R.frames; omega, by show 8 + (ai_mx y1 + 11) + ai_lo y1 ≤ R.locals; omega⟩
            refine ⟨(Value.ref (sd_ad z0 b q0.1 q0.2) :: as1.map (sd_v z0 b)).toArray, ?_⟩
            split at q1
            · have hl := hK.2.2.1 _ (of_decide_eq_true q1)
              exact vx_runVN hF hM ⟨va_cnB (n1 - 1) hts (sd_good (sd_ws_good r1)) hw rfl rfl hl (by rw [r3]; exact hts _ r2) ⟨by rw [r3]; exact r4, by rw [r3]; exact r5, q7⟩ hR, hts _ (sd_at_ok q2), hts _ (sd_at_ok q3)⟩ hp rfl hlen hsz hstk hroom hd hf
            · exact vx_runV hF hM (cwV (n1 - 1) hts (sd_good (sd_four (sd_at_ok q1) (sd_at_ok q2) (sd_at_ok q3) r2 (sd_ws_good r1))) hw rfl rfl ⟨r3, by rw [r3]; exact r4, by rw [r3]; exact r5, q7⟩ hR) hp rfl hlen hsz hstk hroom hd hf
      · -- static
        rename_i idx
        have e4 := eq_of_beq (show (len == 3) = true from hk)
        subst e4
        refine ⟨rfl, ?_⟩
        obtain ⟨⟨p1, p2, p3, p4⟩, hq⟩ := sd_cs_ok hct
        unfold sd_sk at hq
        simp only [Bool.and_eq_true, decide_eq_true_eq] at hq
        obtain ⟨⟨⟨⟨q1, q2⟩, q3⟩, q4⟩, q5⟩ := hq
        obtain ⟨r1, r2, r3, r4, r5⟩ := sd_co_is q3
        have hstk : st.map (sd_v z0 b) = (as.map (sd_v z0 b)).reverse ++ st'.map (sd_v z0 b) := by
          rw [hst, List.map_append, List.map_reverse]
        have hlen : (as.map (sd_v z0 b)).length = n1 := by
          rw [List.length_map]
          exact hal
        have hp : PreS s H (va_Pc (as.map (sd_v z0 b)) (sd_U D cA z0 b L xs z h)) (as.map (sd_v z0 b)) := ⟨sd_blind, fun U g1 g2 => ⟨rfl, hpre U g1 g2⟩⟩
        have hR : (sd_rm y1 (sd_nc z' - sd_nc z) (sd_ns z' - sd_ns z)).frames + 1 ≤ R.frames ∧ 8 + (ai_mx y1 + 11) + (sd_rm y1 (sd_nc z' - sd_nc z) (sd_ns z' - sd_ns z)).locals ≤ R.locals := ⟨by show ai_fr y1 + 1 ≤ R.frames; omega, by show 8 + (ai_mx y1 + 11) + ai_lo y1 ≤ R.locals; omega⟩
        refine ⟨(as.map (sd_v z0 b)).toArray, ?_⟩
        cases hhw : ai_find [] sd_hw y1 with
        | nil =>
          have hw : sd_cw y1 :: sd_tb = Cond.code (sd_nm y1) (ai_by y1) (ai_mx y1) (sd_rt (ai_rk y1)) :: sd_tb := by rw [sd_cw_c hhw]
          exact vx_runS hF hM (cwS n1 hts (sd_good (sd_three (sd_at_ok q1) (sd_at_ok q2) (by rw [q4]; exact r2) (sd_ws_good r1))) hw rfl rfl ⟨r3.trans q4.symm, by rw [r3]; exact r4, by rw [r3]; exact r5, q5⟩ hR) hp rfl hlen hsz hstk hroom hd hf
        | cons hq9 hr9 =>
          have hw : sd_cw y1 :: sd_tb = Cond.codeWith (sd_nm y1) (ai_by y1) (ai_mx y1) (sd_rt (ai_rk y1)) (hq9 :: hr9) :: sd_tb := by
            unfold sd_cw
            rw [hhw]
          exact vx_runSX hF hM (vx_cwSW n1 hts (sd_good (sd_three (sd_at_ok q1) (sd_at_ok q2) (by rw [r3]; exact r2) (sd_ws_good r1))) hw rfl rfl ⟨by rw [r3]; exact r4, by rw [r3]; exact r5, q5⟩ hR) hp rfl hlen hsz hstk hroom hd hf
      · -- a constructor
        rename_i idx
        have e4 := eq_of_beq (show (len == 3) = true from hk)
        subst e4
        refine ⟨rfl, ?_⟩
        obtain ⟨⟨p1, p2, p3, p4⟩, hq⟩ := sd_cp_ok hct
        unfold sd_pk at hq
        simp only [Bool.and_eq_true, decide_eq_true_eq] at hq
        obtain ⟨⟨⟨⟨⟨⟨⟨q1, q2⟩, q3⟩, q4⟩, q5⟩, q6⟩, q7⟩, q8⟩ := hq
        obtain ⟨r1, r2, r3, r4, r5⟩ := sd_co_is q3
        cases as with
        | nil => cases hrc
        | cons r0 as1 =>
          rcases r0 with x0 | x0 | q0
          · cases hrc
          · cases hrc
          · have hstk : st.map (sd_v z0 b) = (as1.map (sd_v z0 b)).reverse ++ .ref (sd_ad z0 b q0.1 q0.2) :: st'.map (sd_v z0 b) := by
              rw [hst, List.reverse_cons, List.map_append, List.map_append, List.map_reverse, List.append_assoc]
              rfl
            have hlen : (as1.map (sd_v z0 b)).length = n1 - 1 := by
              rw [List.length_map]
              rw [List.length_cons] at hal
              omega
            have hp : PreS s H (va_Pc ((Sum.inr (Sum.inr q0) :: as1).map (sd_v z0 b)) (sd_U D cA z0 b L xs z h)) (.ref (sd_ad z0 b q0.1 q0.2) :: as1.map (sd_v z0 b)) :=
              ⟨sd_blind, fun U g1 g2 => ⟨rfl, hpre U g1 g2⟩⟩
            have hw : sd_cw y1 :: sd_tb = Cond.code (sd_nm y1) (ai_by y1) (ai_mx y1) none :: sd_tb := by
              rw [sd_cw_c q4, q8]
              rfl
            have hR : (sd_rm y1 (sd_nc z' - sd_nc z) (sd_ns z' - sd_ns z)).frames + 1 ≤ R.frames ∧ 8 + (ai_mx y1 + 11) + (sd_rm y1 (sd_nc z' - sd_nc z) (sd_ns z' - sd_ns z)).locals ≤ R.locals := ⟨by show ai_fr y1 + 1 ≤ R.frames; omega, by show 8 + (ai_mx y1 + 11) + ai_lo y1 ≤ R.locals; omega⟩
            refine ⟨(Value.ref (sd_ad z0 b q0.1 q0.2) :: as1.map (sd_v z0 b)).toArray, ?_⟩
            split at q1
            · have hl := hK.2.2.1 _ (of_decide_eq_true q1)
              exact vx_runIN hF hM ⟨va_cnB (n1 - 1) hts (sd_good (sd_ws_good r1)) hw rfl rfl hl (by rw [r3]; exact hts _ r2) ⟨by rw [r3]; exact r4, by rw [r3]; exact r5, q6⟩ hR, q7, hts _ (sd_at_ok q2)⟩ hp rfl hlen hsz hstk hroom hd hf
            · exact vx_runI hF hM (cwI (n1 - 1) hts (sd_good (sd_ws_good r1)) hw rfl rfl (by rw [r3]; exact hts _ r2) (hts _ (sd_at_ok q1)) (hts _ (sd_at_ok q2)) q7 ⟨by rw [r3]; exact r4, by rw [r3]; exact r5, q6⟩ hR) hp rfl hlen hsz hstk hroom hd hf
      · cases hct
    · cases hcl
  · cases hcl
end SDC
