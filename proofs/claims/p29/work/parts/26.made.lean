/-! The constructors: 263 cells, their references, their beginnings -/
theorem xe_mknew (sl : List Nat) (len m pc k t i c : Nat) (ls : ai_L) (s : List ai_V) (n L : Nat) (R : ai_R) (h : ai_H) (r : ai_A) (hx : ai_nc (m / 100) k = some c) (ho : ai_or n = (t, i)) (hk : ai_ko t = some c) (hn : n < ai_N) : ai_XE sl (some (.new k, len)) m pc ls s (n, 0, L, R) h r ↔ ai_XS sl m (pc + len) ls (ai_r t i :: s) (n + 1, 0, L, ai_zR R t i) (ai_zH h t i) r := by
  have e : ai_nw m (.new k) s (n, 0, L, R) = some ((t, i), s) := by
    unfold ai_nw
    dsimp only
    rw [hx]
    dsimp only
    rw [ho]
    exact if_pos ⟨hk, rfl, hn⟩
  unfold ai_XE
  dsimp only [ai_ex, ai_jp, ai_rt]
  first | (rw [e]; done) | (rw [e]; exact Iff.rfl)
theorem xe_mkarr (sl : List Nat) (len m pc : Nat) (a : ArrayType) (x : Int32) (t i c : Nat) (ls : ai_L) (s : List ai_V) (n L : Nat) (R : ai_R) (h : ai_H) (r : ai_A) (ho : ai_or n = (t, i)) (hk : ai_ak a t = some c) (hx : x.toInt = (c : Int)) (hn : n < ai_N) : ai_XE sl (some (.newarray a, len)) m pc ls (ai_i x :: s) (n, 0, L, R) h r ↔ ai_XS sl m (pc + len) ls (ai_r t i :: s) (n + 1, 0, L, ai_zR R t i) (ai_zH h t i) r := by
  have e : ai_nw m (.newarray a) (ai_i x :: s) (n, 0, L, R) = some ((t, i), s) := by
    unfold ai_nw
    dsimp only
    rw [ho]
    dsimp only
    rw [hk]
    exact if_pos ⟨hx, rfl, hn⟩
  unfold ai_XE
  dsimp only [ai_ex, ai_jp, ai_rt]
  first | (rw [e]; done) | (rw [e]; exact Iff.rfl)
theorem xe_mkref (sl : List Nat) (len m pc k : Nat) (x : Int32) (t i c d : Nat) (ls : ai_L) (s : List ai_V) (n L : Nat) (R : ai_R) (h : ai_H) (r : ai_A) (hx : ai_na (m / 100) k = some c) (ho : ai_or n = (t, i)) (hk : ai_kr t = some (c, d)) (hd : x.toInt = (d : Int)) (hn : n < ai_N) : ai_XE sl (some (.anewarray k, len)) m pc ls (ai_i x :: s) (n, 0, L, R) h r ↔ ai_XS sl m (pc + len) ls (ai_r t i :: s) (n + 1, 0, L, ai_zR R t i) (ai_zH h t i) r := by
  have e : ai_nw m (.anewarray k) (ai_i x :: s) (n, 0, L, R) = some ((t, i), s) := by
    unfold ai_nw
    dsimp only
    rw [hx, ho]
    dsimp only
    rw [hk]
    exact if_pos ⟨rfl, hd, rfl, hn⟩
  unfold ai_XE
  dsimp only [ai_ex, ai_jp, ai_rt]
  first | (rw [e]; done) | (rw [e]; exact Iff.rfl)
theorem sm_wI {h : ai_H} {t i k : Nat} {v : Int32} (e : ai_gI h t i k = v) : ai_wI h t i k v = h := by
  unfold ai_wI
  refine Prod.ext ?_ rfl
  funext a b c
  dsimp only
  split
  · rename_i g
    rw [g.1, g.2.1, g.2.2]
    exact e.symm
  · rfl
theorem sm_wJ {h : ai_H} {t i k : Nat} {v : Int64} (e : ai_gJ h t i k = v) : ai_wJ h t i k v = h := by
  unfold ai_wJ
  refine Prod.ext rfl ?_
  funext a b c
  dsimp only
  split
  · rename_i g
    rw [g.1, g.2.1, g.2.2]
    exact e.symm
  · rfl
theorem sm_zH {h : ai_H} {t i : Nat} (e : ∀ k, ai_gI h t i k = 0) (f : ∀ k, ai_gJ h t i k = 0) : ai_zH h t i = h := by
  unfold ai_zH
  refine Prod.ext ?_ ?_
  · funext a b c
    dsimp only
    split
    · rename_i g
      rw [g.1, g.2]
      exact (e c).symm
    · rfl
  · funext a b c
    dsimp only
    split
    · rename_i g
      rw [g.1, g.2]
      exact (f c).symm
    · rfl
theorem sm_ext {h g : ai_H} (a : ∀ t i k, ai_gI h t i k = ai_gI g t i k) (b : ∀ t i k, ai_gJ h t i k = ai_gJ g t i k) : h = g := by
  refine Prod.ext ?_ ?_
  · funext t i k; exact a t i k
  · funext t i k; exact b t i k
theorem sm_ex {α β γ : Type} {a : α} {b : β} {c : γ} {P : α → β → γ → Prop} : (∃ (o : α) (z : β) (h : γ), (o, z, h) = (a, b, c) ∧ P o z h) ↔ P a b c := by
  constructor
  · rintro ⟨o, z, h, e, p⟩
    cases e
    exact p
  · intro p
    exact ⟨a, b, c, rfl, p⟩
theorem sm_pv0 (R : ai_R) (h : ai_H) (t i k : Nat) (x : Int32) : ai_pv R h t i k 0 (Sum.inl x) = some (R, ai_wI h t i k x) := rfl
theorem sm_pv1 (R : ai_R) (h : ai_H) (t i k : Nat) (x : Int64) : ai_pv R h t i k 1 (Sum.inr (Sum.inl x)) = some (R, ai_wJ h t i k x) := rfl
theorem sm_pv2 (R : ai_R) (h : ai_H) (t i k : Nat) (q : Nat × Nat) : ai_pv R h t i k 2 (Sum.inr (Sum.inr q)) = some (ai_wR R t i k (some q), h) := rfl
theorem sm_pv3 (R : ai_R) (h : ai_H) (t i k : Nat) : ai_pv R h t i k 3 (Sum.inl 0) = some (R, ai_wI h t i k 0) := by
  show (if (0 : Int32) = 0 ∨ (0 : Int32) = 1 then some (R, ai_wI h t i k 0) else none) = _
  exact if_pos (Or.inl rfl)
theorem sm_rc (k y n : Nat) (q : Nat × Nat) (a : List ai_V) : ai_rc (.invokespecial k) y n (Sum.inr (Sum.inr q) :: a) = true := rfl
theorem sm_o0 : Int32.ofInt 0 = 0 := by decide +kernel
theorem sm_c40 : (Int8.ofInt 40).toInt32 = nI 40 := by decide +kernel
theorem sm_c30 : (Int8.ofInt 30).toInt32 = nI 30 := by decide +kernel
theorem sm_c3 : Int32.ofInt 3 = nI 3 := by decide +kernel
theorem sm_o1 (i : Nat) : nI i + Int32.ofInt 1 = nI (i + 1) := nI_1 i
/-! the references, in the order in which they are written -/
def ai_rp (t i k : Nat) : Nat := match t with
  | 0 => (match k with | 0 => 0 | 2 => 1 | 4 => 2 | 5 => 5 | 6 => 8 | 7 => 9 | 8 => 10 | 9 => 11 | _ => 12)
  | 1 => 17 + 5 * k
  | 2 => 213 + k
  | 3 => 245 + 3 * k
  | 4 => 3 + k
  | 7 => 6 + k
  | 14 => 13 + 5 * i + (k - 6)
  | 20 => 243 + 3 * i + (k - 3)
  | _ => 252 + (if k < 11 then k - 2 else if k < 14 then k - 3 else if k < 28 then k - 4 else k - 7)
def ai_tp (p : Nat) : Nat × Nat × Nat := if p < 13 then (match p with | 0 => (0, 0, 0) | 1 => (0, 0, 2) | 2 => (0, 0, 4) | 3 => (4, 0, 0) | 4 => (4, 0, 1) | 5 => (0, 0, 5) | 6 => (7, 0, 0) | 7 => (7, 0, 1) | 8 => (0, 0, 6) | 9 => (0, 0, 7) | 10 => (0, 0, 8) | 11 => (0, 0, 9) | _ => (0, 0, 10))
  else if p < 213 then (if (p - 13) % 5 = 4 then (1, 0, (p - 13) / 5) else (14, (p - 13) / 5, 6 + (p - 13) % 5)) else if p < 243 then (2, 0, p - 213) else if p < 252 then (if (p - 243) % 3 = 2 then (3, 0, (p - 243) / 3) else (20, (p - 243) / 3, 3 + (p - 243) % 3))
  else (23, 0, if p < 261 then p - 250 else if p < 263 then p - 249 else if p < 276 then p - 248 else p - 245)
def ai_Rp (p : Nat) : ai_R := fun t i k => if ai_rp t i k < p then ai_R0 t i k else none
theorem sm_R0b {t i k : Nat} (h : ai_R0 t i k ≠ none) : t < 24 ∧ i < (if t = 14 then 40 else 3) ∧ k < 40 := by
  unfold ai_R0 at h
  repeat' split at h
  all_goals first
    | exact absurd rfl h
    | (refine ⟨by decide, ?_, ?_⟩ <;> (try rw [if_pos rfl]) <;> (try rw [if_neg (by decide)]) <;> omega)
theorem sm_tp {t i k : Nat} (h : ai_R0 t i k ≠ none) : ai_tp (ai_rp t i k) = (t, i, k) := by
  obtain ⟨h1, h2, h3⟩ := sm_R0b h
  have key : (List.range 24).all (fun t => (List.range (if t = 14 then 40 else 3)).all fun i => (List.range 40).all fun k => decide (ai_R0 t i k = none ∨ ai_tp (ai_rp t i k) = (t, i, k))) = true := by decide +kernel
  have k1 := of_decide_eq_true (List.all_eq_true.mp (List.all_eq_true.mp (List.all_eq_true.mp key t (List.mem_range.mpr h1)) i (List.mem_range.mpr h2)) k (List.mem_range.mpr h3))
  exact k1.resolve_left h
theorem sm_wR {p t i k : Nat} {v : Nat × Nat} (hv : ai_R0 t i k = some v) (hp : ai_rp t i k = p) : ai_wR (ai_Rp p) t i k (some v) = ai_Rp (p + 1) := by
  funext a b c
  unfold ai_wR ai_Rp
  by_cases g : a = t ∧ b = i ∧ c = k
  · rw [if_pos g, g.1, g.2.1, g.2.2, if_pos (by omega), hv]
  · rw [if_neg g]
    by_cases g2 : ai_rp a b c < p
    · rw [if_pos g2, if_pos (by omega)]
    · rw [if_neg g2]
      by_cases g3 : ai_rp a b c < p + 1
      · rw [if_pos g3]
        by_cases g4 : ai_R0 a b c = none
        · rw [g4]
        · exfalso
          have e1 := sm_tp g4
          have e2 := sm_tp (t := t) (i := i) (k := k) (by rw [hv]; exact fun h => by cases h)
          rw [show ai_rp a b c = ai_rp t i k by omega, e2] at e1
          injection e1 with e1 e3
          injection e3 with e3 e4
          exact g ⟨e1.symm, e3.symm, e4.symm⟩
      · rw [if_neg g3]
theorem sm_zR {p t i : Nat} (hz : ∀ k, ai_R0 t i k = none ∨ p ≤ ai_rp t i k) : ai_zR (ai_Rp p) t i = ai_Rp p := by
  funext a b c
  unfold ai_zR ai_Rp
  split
  · rename_i g
    rw [g.1, g.2]
    rcases hz c with h | h
    · rw [h]; split <;> rfl
    · rw [if_neg (by omega)]
  · rfl
theorem sm_R00 : ai_Rp 0 = fun _ _ _ => none := by
  funext a b c
  exact if_neg (Nat.not_lt_zero _)
theorem sm_Rall : ai_Rp 252 = ai_R0 := by
  funext a b c
  unfold ai_Rp
  by_cases g4 : ai_R0 a b c = none
  · rw [g4]; split <;> rfl
  · rw [if_pos]
    obtain ⟨h1, h2, h3⟩ := sm_R0b g4
    have key : (List.range 24).all (fun t => (List.range (if t = 14 then 40 else 3)).all fun i => (List.range 40).all fun k => decide (ai_R0 t i k = none ∨ ai_rp t i k < 252)) = true := by decide +kernel
    have k1 := of_decide_eq_true (List.all_eq_true.mp (List.all_eq_true.mp (List.all_eq_true.mp key a (List.mem_range.mpr h1)) b (List.mem_range.mpr h2)) c (List.mem_range.mpr h3))
    exact k1.resolve_left g4
theorem sm_or {i : Nat} (hi : i < 40) : ai_or (14 + 5 * i) = (14, i) ∧ ai_or (14 + 5 * i + 1) = (15, i) ∧ ai_or (14 + 5 * i + 1 + 1) = (16, i) ∧ ai_or (14 + 5 * i + 1 + 1 + 1) = (17, i) ∧ ai_or (14 + 5 * i + 1 + 1 + 1 + 1) = (18, i) := by
  have key : (List.range 40).all (fun i => decide (ai_or (14 + 5 * i) = (14, i) ∧ ai_or (14 + 5 * i + 1) = (15, i) ∧ ai_or (14 + 5 * i + 1 + 1) = (16, i) ∧ ai_or (14 + 5 * i + 1 + 1 + 1) = (17, i) ∧ ai_or (14 + 5 * i + 1 + 1 + 1 + 1) = (18, i))) = true := by decide +kernel
  exact of_decide_eq_true (List.all_eq_true.mp key i (List.mem_range.mpr hi))
theorem sm_ors {i : Nat} (hi : i < 30) : ai_or (214 + i) = (19, i) := by
  have key : (List.range 30).all (fun i => decide (ai_or (214 + i) = (19, i))) = true := by decide +kernel
  exact of_decide_eq_true (List.all_eq_true.mp key i (List.mem_range.mpr hi))
theorem sm_orf {i : Nat} (hi : i < 3) : ai_or (244 + 3 * i) = (20, i) ∧ ai_or (244 + 3 * i + 1) = (21, i) ∧ ai_or (244 + 3 * i + 1 + 1) = (22, i) := by
  have key : (List.range 3).all (fun i => decide (ai_or (244 + 3 * i) = (20, i) ∧ ai_or (244 + 3 * i + 1) = (21, i) ∧ ai_or (244 + 3 * i + 1 + 1) = (22, i))) = true := by decide +kernel
  exact of_decide_eq_true (List.all_eq_true.mp key i (List.mem_range.mpr hi))
theorem sm_al {n t i : Nat} (h1 : t < ai_T) (h2 : i < ai_cn t) (h3 : ai_ps t i < n) : ai_al n t i = true := decide_eq_true ⟨h1, h2, h3⟩
/-- the heap when nb bills, nf funders, nm of the model's funders are begun -/
def ai_hb (xs : Nat → Int32) (nb nf nm : Nat) : ai_H := (fun t i k => if t = 99 ∧ i = 0 then xs k else if t = 14 ∧ i < nb ∧ k = 12 then Int32.ofInt (-1) else if t = 20 ∧ i < nf ∧ k = 0 then nI 80 else if t = 20 ∧ i < nf ∧ k = 1 then nI 100 else if t = 20 ∧ i < nf ∧ k = 2 then nI 3
  else if t = 27 ∧ i = 0 ∧ k < 3 * nm ∧ k % 3 = 0 then nI 80 else if t = 27 ∧ i = 0 ∧ k < 3 * nm ∧ k % 3 = 1 then nI 100 else if t = 27 ∧ i = 0 ∧ k < 3 * nm ∧ k % 3 = 2 then nI 3 else 0, fun _ _ _ => 0)
theorem sm_hbI (xs : Nat → Int32) (nb nf nm t i k : Nat) : ai_gI (ai_hb xs nb nf nm) t i k = if t = 99 ∧ i = 0 then xs k else if t = 14 ∧ i < nb ∧ k = 12 then Int32.ofInt (-1) else if t = 20 ∧ i < nf ∧ k = 0 then nI 80 else if t = 20 ∧ i < nf ∧ k = 1 then nI 100 else if t = 20 ∧ i < nf ∧ k = 2 then nI 3
  else if t = 27 ∧ i = 0 ∧ k < 3 * nm ∧ k % 3 = 0 then nI 80 else if t = 27 ∧ i = 0 ∧ k < 3 * nm ∧ k % 3 = 1 then nI 100 else if t = 27 ∧ i = 0 ∧ k < 3 * nm ∧ k % 3 = 2 then nI 3 else 0 := rfl
theorem sm_hbJ (xs : Nat → Int32) (nb nf nm t i k : Nat) : ai_gJ (ai_hb xs nb nf nm) t i k = 0 := rfl
theorem sm_hb0 (xs : Nat → Int32) : ai_hb xs 0 0 0 = ai_h0 xs := by
  refine sm_ext (fun t i k => ?_) (fun t i k => rfl)
  rw [sm_hbI]
  simp only [Nat.mul_zero, Nat.not_lt_zero, false_and, and_false, if_false]
  rfl

theorem sm_100 {i : Nat} (hi : i < 40) {L : Nat} {h : ai_H} (hz : ∀ k, ai_gI h 14 i k = 0) (z5 : ai_zH h 15 i = h) (z6 : ai_zH h 16 i = h) (z7 : ai_zH h 17 i = h) (z8 : ai_zH h 18 i = h) (r : ai_A) :
    ai_E 100 [ai_r 14 i] (14 + 5 * i + 1, 0, L, ai_Rp (13 + 5 * i)) h r ↔ r = (Sum.inl none, (14 + 5 * i + 1 + 1 + 1 + 1 + 1, 0, L, ai_Rp (13 + 5 * i + 1 + 1 + 1 + 1)), ai_wI h 14 i 12 (Int32.ofInt (-1))) := by
  obtain ⟨o4, o5, o6, o7, o8⟩ := sm_or hi
  have hp : ai_ps 14 i = 14 + 5 * i := rfl
  have a1 : ai_al (14 + 5 * i + 1) 14 i = true := sm_al (by decide) hi (by omega)
  have a2 : ai_al (14 + 5 * i + 1 + 1) 14 i = true := sm_al (by decide) hi (by omega)
  have a3 : ai_al (14 + 5 * i + 1 + 1 + 1) 14 i = true := sm_al (by decide) hi (by omega)
  have a4 : ai_al (14 + 5 * i + 1 + 1 + 1 + 1) 14 i = true := sm_al (by decide) hi (by omega)
  have a5 : ai_al (14 + 5 * i + 1 + 1 + 1 + 1 + 1) 14 i = true := sm_al (by decide) hi (by omega)
  have hN : 14 + 5 * i + 1 + 1 + 1 + 1 < ai_N := by unfold ai_N; omega
  have w6 : ai_wR (ai_Rp (13 + 5 * i)) 14 i 6 (some (15, i)) = ai_Rp (13 + 5 * i + 1) := sm_wR (if_pos hi) rfl
  have w7 : ai_wR (ai_Rp (13 + 5 * i + 1)) 14 i 7 (some (16, i)) = ai_Rp (13 + 5 * i + 1 + 1) := sm_wR (if_pos hi) rfl
  have w8 : ai_wR (ai_Rp (13 + 5 * i + 1 + 1)) 14 i 8 (some (17, i)) = ai_Rp (13 + 5 * i + 1 + 1 + 1) := sm_wR (if_pos hi) rfl
  have w9 : ai_wR (ai_Rp (13 + 5 * i + 1 + 1 + 1)) 14 i 9 (some (18, i)) = ai_Rp (13 + 5 * i + 1 + 1 + 1 + 1) := sm_wR (if_pos hi) rfl
  have y5 : ai_zR (ai_Rp (13 + 5 * i)) 15 i = ai_Rp (13 + 5 * i) := sm_zR fun k => Or.inl rfl
  have y6 : ai_zR (ai_Rp (13 + 5 * i + 1)) 16 i = ai_Rp (13 + 5 * i + 1) := sm_zR fun k => Or.inl rfl
  have y7 : ai_zR (ai_Rp (13 + 5 * i + 1 + 1)) 17 i = ai_Rp (13 + 5 * i + 1 + 1) := sm_zR fun k => Or.inl rfl
  have y8 : ai_zR (ai_Rp (13 + 5 * i + 1 + 1 + 1)) 18 i = ai_Rp (13 + 5 * i + 1 + 1 + 1) := sm_zR fun k => Or.inl rfl
  have id : ∀ (k : Nat), ¬ k = 12 → ai_wI (ai_wI h 14 i 12 (Int32.ofInt (-1))) 14 i k 0 = ai_wI h 14 i 12 (Int32.ofInt (-1)) := fun k hk => sm_wI (by rw [ai_gI_wI, if_neg (fun g => hk g.2.2), hz])
  have id0 : ∀ k, ai_wI h 14 i k 0 = h := fun k => sm_wI (hz k)
  rw [ai_E_eq, ai_X_eq []]
  simp only [ai_c_100_0, ai_c_100_1, ai_c_100_4, ai_c_100_5, ai_c_100_6, ai_c_100_9, ai_c_100_10, ai_c_100_11, ai_c_100_14, ai_c_100_15, ai_c_100_16, ai_c_100_19, ai_c_100_20, ai_c_100_21, ai_c_100_24, ai_c_100_25, ai_c_100_26, ai_c_100_29, ai_c_100_30, ai_c_100_31, ai_c_100_34, ai_c_100_35, ai_c_100_36, ai_c_100_38, ai_c_100_41, ai_c_100_42, ai_c_100_43, ai_c_100_45, ai_c_100_48, ai_c_100_49, ai_c_100_50, ai_c_100_52, ai_c_100_55, ai_c_100_56, ai_c_100_57, ai_c_100_59, ai_c_100_62, ai_c_100_63, ai_c_100_64, ai_c_100_67, ai_c_100_68, ai_c_100_69, ai_c_100_72, ai_c_100_73, ai_c_100_74, ai_c_100_77, ai_c_100_78, ai_c_100_79, ai_c_100_82, ai_ob_1_3, ai_om_100, ai_p_100_9, ai_p_100_15, ai_p_100_18, ai_p_100_21, ai_p_100_24, ai_p_100_27, ai_p_100_45, ai_p_100_48, ai_p_100_51, ai_p_100_54, ai_rk_100, ai_mx_100, sh_100, ai_XS_eq, List.contains_nil, List.contains_cons, Bool.or_false, Bool.false_or, Bool.or_self, Bool.false_eq_true, Nat.reduceBEq, beq_self_eq_true, ↓reduceIte, if_true, if_false,
 xe_iconst, xe_bipush, xe_sipush, xe_lconst, xe_ldc, xe_ldc_w, xe_ldc2_w, xe_iload, xe_iload_n, xe_lload, xe_lload_n, xe_aload, xe_aload_n, xe_istore, xe_istore_n, xe_lstore, xe_lstore_n, xe_astore, xe_astore_n, xe_iinc, xe_iadd, xe_isub, xe_imul, xe_iand, xe_ior, xe_ishl, xe_ishr, xe_ineg, xe_l2i, xe_newL, xe_newI, xe_ladd, xe_lsub, xe_lmul, xe_lcmp, xe_i2l, xe_idiv, xe_irem, xe_ldiv, xe_dupi, xe_dupr, xe_dup2ir, xe_getfield, xe_putfield, xe_iaload, xe_laload, xe_baload, xe_aaload, xe_iastore, xe_lastore, xe_bastore, xe_arraylength, xe_goto, xe_ifeq, xe_ifne, xe_iflt, xe_ifge, xe_ifgt, xe_ifle, xe_icmpeq, xe_icmpne, xe_icmplt, xe_icmpge, xe_icmpgt, xe_icmple, xe_return, xe_ireturn, xe_zreturn, xe_lreturn, xe_throw, xe_callvirtual, xe_callstatic, xe_callspecial, xe_min, xe_minL, xe_maxL, xe_object,
 ai_PI_s, ai_PJ_s, ai_PR_s, ai_PV_s, ai_PL_s, ai_PA_s, ai_PZ_s, ai_PQ_s, ai_PS_s, ai_PT_s, ai_PF_s, ai_PG_s, ai_PC_t, ai_PC_f, ai_QC_s, ai_inc_0, ai_inc_1, ai_inc_s, ai_ldi_0, ai_ldi_s, ai_ldj_0, ai_ldj_s, ai_ldr_0, ai_ldr_s, ai_st1_0, ai_st1_1, ai_st1_s, ai_st2_0, ai_st2_1, ai_st2_s, ai_wide_i, ai_wide_j, ai_wide_r, ai_wide_n, ai_one_i, ai_one_r, Option.map_some, Option.map_none, ai_EC_inl, Option.toList_some, Option.toList_none, List.cons_append, List.nil_append, List.append_nil, List.take_succ_cons, List.take_zero, List.drop_succ_cons, List.drop_zero, List.reverse_cons, List.reverse_nil, List.length_cons, List.length_nil, ai_en, ai_e0_n, ai_e0_i, ai_e0_j, ai_e0_r, List.replicate_succ, List.replicate_zero, Nat.reduceAdd, Nat.reduceSub, Nat.reduceDiv, Nat.reduceLeDiff, Nat.zero_add, Nat.le_refl, Nat.zero_le, and_self, true_and, and_true, Fin.isValue, Fin.val_ofNat, ai_tg, ai_tk, Int.reduceAdd, Int.reduceToNat, Int.reduceLE, Int.cast_ofNat_Int, decide_true, not_true_eq_false, not_false_eq_true, Nat.reducePow, Nat.reduceLT, ai_ix_nI, ai_ix_lit, ai_f0, ai_f1, ai_f2, ai_f3, ai_u0, ai_u1, sm_pv0, sm_pv1, sm_pv2, sm_pv3, sm_rc, sm_o0, sm_ex, (fun n R h i v ha => ai_pf_of (m := 100) (idx := 9) (c := 1) (k := 0) (f := 0) (n := n) (T := 14) (i := i) (R := R) (h := h) (v := v) rfl rfl ha : ∀ (n : Nat) (R : ai_R) (h : ai_H) (i : Nat) (v : ai_V), ai_al n 14 i = true → ai_pf 100 9 n R h 14 i v = ai_pv R h 14 i 0 0 v), (fun n R h i v ha => ai_pf_of (m := 100) (idx := 15) (c := 1) (k := 1) (f := 0) (n := n) (T := 14) (i := i) (R := R) (h := h) (v := v) rfl rfl ha : ∀ (n : Nat) (R : ai_R) (h : ai_H) (i : Nat) (v : ai_V), ai_al n 14 i = true → ai_pf 100 15 n R h 14 i v = ai_pv R h 14 i 1 0 v), (fun n R h i v ha => ai_pf_of (m := 100) (idx := 18) (c := 1) (k := 2) (f := 0) (n := n) (T := 14) (i := i) (R := R) (h := h) (v := v) rfl rfl ha : ∀ (n : Nat) (R : ai_R) (h : ai_H) (i : Nat) (v : ai_V), ai_al n 14 i = true → ai_pf 100 18 n R h 14 i v = ai_pv R h 14 i 2 0 v), (fun n R h i v ha => ai_pf_of (m := 100) (idx := 21) (c := 1) (k := 3) (f := 0) (n := n) (T := 14) (i := i) (R := R) (h := h) (v := v) rfl rfl ha : ∀ (n : Nat) (R : ai_R) (h : ai_H) (i : Nat) (v : ai_V), ai_al n 14 i = true → ai_pf 100 21 n R h 14 i v = ai_pv R h 14 i 3 0 v), (fun n R h i v ha => ai_pf_of (m := 100) (idx := 24) (c := 1) (k := 4) (f := 0) (n := n) (T := 14) (i := i) (R := R) (h := h) (v := v) rfl rfl ha : ∀ (n : Nat) (R : ai_R) (h : ai_H) (i : Nat) (v : ai_V), ai_al n 14 i = true → ai_pf 100 24 n R h 14 i v = ai_pv R h 14 i 4 0 v), (fun n R h i v ha => ai_pf_of (m := 100) (idx := 27) (c := 1) (k := 5) (f := 3) (n := n) (T := 14) (i := i) (R := R) (h := h) (v := v) rfl rfl ha : ∀ (n : Nat) (R : ai_R) (h : ai_H) (i : Nat) (v : ai_V), ai_al n 14 i = true → ai_pf 100 27 n R h 14 i v = ai_pv R h 14 i 5 3 v), (fun n R h i v ha => ai_pf_of (m := 100) (idx := 31) (c := 1) (k := 6) (f := 2) (n := n) (T := 14) (i := i) (R := R) (h := h) (v := v) rfl rfl ha : ∀ (n : Nat) (R : ai_R) (h : ai_H) (i : Nat) (v : ai_V), ai_al n 14 i = true → ai_pf 100 31 n R h 14 i v = ai_pv R h 14 i 6 2 v), (fun n R h i v ha => ai_pf_of (m := 100) (idx := 35) (c := 1) (k := 7) (f := 2) (n := n) (T := 14) (i := i) (R := R) (h := h) (v := v) rfl rfl ha : ∀ (n : Nat) (R : ai_R) (h : ai_H) (i : Nat) (v : ai_V), ai_al n 14 i = true → ai_pf 100 35 n R h 14 i v = ai_pv R h 14 i 7 2 v), (fun n R h i v ha => ai_pf_of (m := 100) (idx := 39) (c := 1) (k := 8) (f := 2) (n := n) (T := 14) (i := i) (R := R) (h := h) (v := v) rfl rfl ha : ∀ (n : Nat) (R : ai_R) (h : ai_H) (i : Nat) (v : ai_V), ai_al n 14 i = true → ai_pf 100 39 n R h 14 i v = ai_pv R h 14 i 8 2 v), (fun n R h i v ha => ai_pf_of (m := 100) (idx := 42) (c := 1) (k := 9) (f := 2) (n := n) (T := 14) (i := i) (R := R) (h := h) (v := v) rfl rfl ha : ∀ (n : Nat) (R : ai_R) (h : ai_H) (i : Nat) (v : ai_V), ai_al n 14 i = true → ai_pf 100 42 n R h 14 i v = ai_pv R h 14 i 9 2 v), (fun n R h i v ha => ai_pf_of (m := 100) (idx := 45) (c := 1) (k := 10) (f := 3) (n := n) (T := 14) (i := i) (R := R) (h := h) (v := v) rfl rfl ha : ∀ (n : Nat) (R : ai_R) (h : ai_H) (i : Nat) (v : ai_V), ai_al n 14 i = true → ai_pf 100 45 n R h 14 i v = ai_pv R h 14 i 10 3 v), (fun n R h i v ha => ai_pf_of (m := 100) (idx := 48) (c := 1) (k := 11) (f := 3) (n := n) (T := 14) (i := i) (R := R) (h := h) (v := v) rfl rfl ha : ∀ (n : Nat) (R : ai_R) (h : ai_H) (i : Nat) (v : ai_V), ai_al n 14 i = true → ai_pf 100 48 n R h 14 i v = ai_pv R h 14 i 11 3 v), (fun n R h i v ha => ai_pf_of (m := 100) (idx := 51) (c := 1) (k := 12) (f := 0) (n := n) (T := 14) (i := i) (R := R) (h := h) (v := v) rfl rfl ha : ∀ (n : Nat) (R : ai_R) (h : ai_H) (i : Nat) (v : ai_V), ai_al n 14 i = true → ai_pf 100 51 n R h 14 i v = ai_pv R h 14 i 12 0 v), (fun n R h i v ha => ai_pf_of (m := 100) (idx := 54) (c := 1) (k := 13) (f := 0) (n := n) (T := 14) (i := i) (R := R) (h := h) (v := v) rfl rfl ha : ∀ (n : Nat) (R : ai_R) (h : ai_H) (i : Nat) (v : ai_V), ai_al n 14 i = true → ai_pf 100 54 n R h 14 i v = ai_pv R h 14 i 13 0 v), a1, a2, a3, a4, a5, w6, w7, w8, w9, y5, y6, y7, y8, z5, z6, z7, z8, id0, id 13 (by decide),
    xe_mkarr [] 2 100 36 .boolean (Int32.ofInt 3) 15 i 3 (ho := o5) (hk := rfl) (hx := by decide +kernel) (hn := by omega), xe_mkarr [] 2 100 43 .int (Int32.ofInt 3) 16 i 3 (ho := o6) (hk := rfl) (hx := by decide +kernel) (hn := by omega), xe_mkarr [] 2 100 50 .int (Int32.ofInt 3) 17 i 3 (ho := o7) (hk := rfl) (hx := by decide +kernel) (hn := by omega), xe_mkarr [] 2 100 57 .int (Int32.ofInt 3) 18 i 3 (ho := o8) (hk := rfl) (hx := by decide +kernel) (hn := by omega)]
theorem sm_c80 : (Int8.ofInt 80).toInt32 = nI 80 := by decide +kernel
theorem sm_c100 : (Int8.ofInt 100).toInt32 = nI 100 := by decide +kernel
theorem sm_hz {xs : Nat → Int32} {nb nf nm t i : Nat} (h9 : ¬ t = 99) (h14 : t = 14 → nb ≤ i) (h20 : t = 20 → nf ≤ i) (h39 : nm = 0 ∨ ¬ t = 27) (k : Nat) : ai_gI (ai_hb xs nb nf nm) t i k = 0 := by
  rw [sm_hbI, if_neg (fun g => h9 g.1), if_neg (fun g => by have := h14 g.1; omega), if_neg (fun g => by have := h20 g.1; omega), if_neg (fun g => by have := h20 g.1; omega), if_neg (fun g => by have := h20 g.1; omega), if_neg (fun g => by omega), if_neg (fun g => by omega), if_neg (fun g => by omega)]
theorem sm_500 {i : Nat} (hi : i < 30) {L : Nat} {R : ai_R} {h : ai_H} (hz : ∀ k, ai_gI h 19 i k = 0) (r : ai_A) : ai_E 500 [ai_r 19 i] (214 + i + 1, 0, L, R) h r ↔ r = (Sum.inl none, (214 + i + 1, 0, L, R), h) := by
  have hp : ai_ps 19 i = 214 + 1 * i := rfl
  have a1 : ai_al (214 + i + 1) 19 i = true := sm_al (by decide) hi (by omega)
  have id0 : ∀ k, ai_wI h 19 i k 0 = h := fun k => sm_wI (hz k)
  rw [ai_E_eq, ai_X_eq []]
  simp only [ai_c_500_0, ai_c_500_1, ai_c_500_4, ai_c_500_5, ai_c_500_6, ai_c_500_9, ai_c_500_10, ai_c_500_11, ai_c_500_14, ai_c_500_15, ai_c_500_16, ai_c_500_19, ai_c_500_20, ai_c_500_21, ai_c_500_24, ai_ob_5_1, ai_om_500, ai_p_500_7, ai_p_500_13, ai_p_500_16, ai_p_500_19, ai_rk_500, ai_mx_500, sh_500, ai_XS_eq, List.contains_nil, List.contains_cons, Bool.or_false, Bool.false_or, Bool.or_self, Bool.false_eq_true, Nat.reduceBEq, beq_self_eq_true, ↓reduceIte, if_true, if_false,
 xe_iconst, xe_bipush, xe_sipush, xe_lconst, xe_ldc, xe_ldc_w, xe_ldc2_w, xe_iload, xe_iload_n, xe_lload, xe_lload_n, xe_aload, xe_aload_n, xe_istore, xe_istore_n, xe_lstore, xe_lstore_n, xe_astore, xe_astore_n, xe_iinc, xe_iadd, xe_isub, xe_imul, xe_iand, xe_ior, xe_ishl, xe_ishr, xe_ineg, xe_l2i, xe_newL, xe_newI, xe_ladd, xe_lsub, xe_lmul, xe_lcmp, xe_i2l, xe_idiv, xe_irem, xe_ldiv, xe_dupi, xe_dupr, xe_dup2ir, xe_getfield, xe_putfield, xe_iaload, xe_laload, xe_baload, xe_aaload, xe_iastore, xe_lastore, xe_bastore, xe_arraylength, xe_goto, xe_ifeq, xe_ifne, xe_iflt, xe_ifge, xe_ifgt, xe_ifle, xe_icmpeq, xe_icmpne, xe_icmplt, xe_icmpge, xe_icmpgt, xe_icmple, xe_return, xe_ireturn, xe_zreturn, xe_lreturn, xe_throw, xe_callvirtual, xe_callstatic, xe_callspecial, xe_min, xe_minL, xe_maxL, xe_object,
 ai_PI_s, ai_PJ_s, ai_PR_s, ai_PV_s, ai_PL_s, ai_PA_s, ai_PZ_s, ai_PQ_s, ai_PS_s, ai_PT_s, ai_PF_s, ai_PG_s, ai_PC_t, ai_PC_f, ai_QC_s, ai_inc_0, ai_inc_1, ai_inc_s, ai_ldi_0, ai_ldi_s, ai_ldj_0, ai_ldj_s, ai_ldr_0, ai_ldr_s, ai_st1_0, ai_st1_1, ai_st1_s, ai_st2_0, ai_st2_1, ai_st2_s, ai_wide_i, ai_wide_j, ai_wide_r, ai_wide_n, ai_one_i, ai_one_r, Option.map_some, Option.map_none, ai_EC_inl, Option.toList_some, Option.toList_none, List.cons_append, List.nil_append, List.append_nil, List.take_succ_cons, List.take_zero, List.drop_succ_cons, List.drop_zero, List.reverse_cons, List.reverse_nil, List.length_cons, List.length_nil, ai_en, ai_e0_n, ai_e0_i, ai_e0_j, ai_e0_r, List.replicate_succ, List.replicate_zero, Nat.reduceAdd, Nat.reduceSub, Nat.reduceDiv, Nat.reduceLeDiff, Nat.zero_add, Nat.le_refl, Nat.zero_le, and_self, true_and, and_true, Fin.isValue, Fin.val_ofNat, ai_tg, ai_tk, Int.reduceAdd, Int.reduceToNat, Int.reduceLE, Int.cast_ofNat_Int, decide_true, not_true_eq_false, not_false_eq_true, Nat.reducePow, Nat.reduceLT, ai_ix_nI, ai_ix_lit, ai_f0, ai_f1, ai_f2, ai_f3, ai_u0, ai_u1, sm_pv0, sm_pv1, sm_pv2, sm_pv3, sm_rc, sm_o0, sm_ex, (fun n R h i v ha => ai_pf_of (m := 500) (idx := 7) (c := 5) (k := 0) (f := 0) (n := n) (T := 19) (i := i) (R := R) (h := h) (v := v) rfl rfl ha : ∀ (n : Nat) (R : ai_R) (h : ai_H) (i : Nat) (v : ai_V), ai_al n 19 i = true → ai_pf 500 7 n R h 19 i v = ai_pv R h 19 i 0 0 v), (fun n R h i v ha => ai_pf_of (m := 500) (idx := 13) (c := 5) (k := 1) (f := 0) (n := n) (T := 19) (i := i) (R := R) (h := h) (v := v) rfl rfl ha : ∀ (n : Nat) (R : ai_R) (h : ai_H) (i : Nat) (v : ai_V), ai_al n 19 i = true → ai_pf 500 13 n R h 19 i v = ai_pv R h 19 i 1 0 v), (fun n R h i v ha => ai_pf_of (m := 500) (idx := 16) (c := 5) (k := 2) (f := 0) (n := n) (T := 19) (i := i) (R := R) (h := h) (v := v) rfl rfl ha : ∀ (n : Nat) (R : ai_R) (h : ai_H) (i : Nat) (v : ai_V), ai_al n 19 i = true → ai_pf 500 16 n R h 19 i v = ai_pv R h 19 i 2 0 v), (fun n R h i v ha => ai_pf_of (m := 500) (idx := 19) (c := 5) (k := 3) (f := 3) (n := n) (T := 19) (i := i) (R := R) (h := h) (v := v) rfl rfl ha : ∀ (n : Nat) (R : ai_R) (h : ai_H) (i : Nat) (v : ai_V), ai_al n 19 i = true → ai_pf 500 19 n R h 19 i v = ai_pv R h 19 i 3 3 v), a1, id0]
theorem sm_200 {i : Nat} (hi : i < 3) {L : Nat} {h : ai_H} (h1 : ∀ k, ai_gI h 21 i k = 0) (h2 : ∀ k, ai_gJ h 21 i k = 0) (h3 : ∀ k, ai_gI h 22 i k = 0) (h4 : ∀ k, ai_gJ h 22 i k = 0) (r : ai_A) :
    ai_E 200 [ai_r 20 i] (244 + 3 * i + 1, 0, L, ai_Rp (243 + 3 * i)) h r ↔ r = (Sum.inl none, (244 + 3 * i + 1 + 1 + 1, 0, L, ai_Rp (243 + 3 * i + 1 + 1)), ai_wI (ai_wI (ai_wI h 20 i 0 (nI 80)) 20 i 1 (nI 100)) 20 i 2 (nI 3)) := by
  obtain ⟨o0, o1, o2⟩ := sm_orf hi
  have hp : ai_ps 20 i = 244 + 3 * i := rfl
  have a1 : ai_al (244 + 3 * i + 1) 20 i = true := sm_al (by decide) hi (by omega)
  have a2 : ai_al (244 + 3 * i + 1 + 1) 20 i = true := sm_al (by decide) hi (by omega)
  have a3 : ai_al (244 + 3 * i + 1 + 1 + 1) 20 i = true := sm_al (by decide) hi (by omega)
  have hN : 244 + 3 * i + 1 + 1 < ai_N := by unfold ai_N; omega
  have w3 : ai_wR (ai_Rp (243 + 3 * i)) 20 i 3 (some (21, i)) = ai_Rp (243 + 3 * i + 1) := sm_wR (if_pos hi) rfl
  have w4 : ai_wR (ai_Rp (243 + 3 * i + 1)) 20 i 4 (some (22, i)) = ai_Rp (243 + 3 * i + 1 + 1) := sm_wR (if_pos hi) rfl
  have y3 : ai_zR (ai_Rp (243 + 3 * i)) 21 i = ai_Rp (243 + 3 * i) := sm_zR fun k => Or.inl rfl
  have y4 : ai_zR (ai_Rp (243 + 3 * i + 1)) 22 i = ai_Rp (243 + 3 * i + 1) := sm_zR fun k => Or.inl rfl
  have e : ∀ (t k : Nat), ¬ t = 20 → ai_gI (ai_wI (ai_wI (ai_wI h 20 i 0 (nI 80)) 20 i 1 (nI 100)) 20 i 2 (nI 3)) t i k = ai_gI h t i k := fun t k ht => by
    rw [ai_gI_wI, if_neg (fun g => ht g.1), ai_gI_wI, if_neg (fun g => ht g.1), ai_gI_wI, if_neg (fun g => ht g.1)]
  have z1 : ai_zH (ai_wI (ai_wI (ai_wI h 20 i 0 (nI 80)) 20 i 1 (nI 100)) 20 i 2 (nI 3)) 21 i = ai_wI (ai_wI (ai_wI h 20 i 0 (nI 80)) 20 i 1 (nI 100)) 20 i 2 (nI 3) := sm_zH (fun k => by rw [e 21 k (by decide), h1]) h2
  have z2 : ai_zH (ai_wI (ai_wI (ai_wI h 20 i 0 (nI 80)) 20 i 1 (nI 100)) 20 i 2 (nI 3)) 22 i = ai_wI (ai_wI (ai_wI h 20 i 0 (nI 80)) 20 i 1 (nI 100)) 20 i 2 (nI 3) := sm_zH (fun k => by rw [e 22 k (by decide), h3]) h4
  rw [ai_E_eq, ai_X_eq []]
  simp only [ai_c_200_0, ai_c_200_1, ai_c_200_4, ai_c_200_5, ai_c_200_7, ai_c_200_10, ai_c_200_11, ai_c_200_13, ai_c_200_16, ai_c_200_17, ai_c_200_18, ai_c_200_21, ai_c_200_22, ai_c_200_23, ai_c_200_25, ai_c_200_28, ai_c_200_29, ai_c_200_30, ai_c_200_32, ai_c_200_35, ai_ob_2_3, ai_om_200, ai_p_200_9, ai_p_200_15, ai_p_200_18, ai_rk_200, ai_mx_200, sh_200, ai_XS_eq, List.contains_nil, List.contains_cons, Bool.or_false, Bool.false_or, Bool.or_self, Bool.false_eq_true, Nat.reduceBEq, beq_self_eq_true, ↓reduceIte, if_true, if_false,
 xe_iconst, xe_bipush, xe_sipush, xe_lconst, xe_ldc, xe_ldc_w, xe_ldc2_w, xe_iload, xe_iload_n, xe_lload, xe_lload_n, xe_aload, xe_aload_n, xe_istore, xe_istore_n, xe_lstore, xe_lstore_n, xe_astore, xe_astore_n, xe_iinc, xe_iadd, xe_isub, xe_imul, xe_iand, xe_ior, xe_ishl, xe_ishr, xe_ineg, xe_l2i, xe_newL, xe_newI, xe_ladd, xe_lsub, xe_lmul, xe_lcmp, xe_i2l, xe_idiv, xe_irem, xe_ldiv, xe_dupi, xe_dupr, xe_dup2ir, xe_getfield, xe_putfield, xe_iaload, xe_laload, xe_baload, xe_aaload, xe_iastore, xe_lastore, xe_bastore, xe_arraylength, xe_goto, xe_ifeq, xe_ifne, xe_iflt, xe_ifge, xe_ifgt, xe_ifle, xe_icmpeq, xe_icmpne, xe_icmplt, xe_icmpge, xe_icmpgt, xe_icmple, xe_return, xe_ireturn, xe_zreturn, xe_lreturn, xe_throw, xe_callvirtual, xe_callstatic, xe_callspecial, xe_min, xe_minL, xe_maxL, xe_object,
 ai_PI_s, ai_PJ_s, ai_PR_s, ai_PV_s, ai_PL_s, ai_PA_s, ai_PZ_s, ai_PQ_s, ai_PS_s, ai_PT_s, ai_PF_s, ai_PG_s, ai_PC_t, ai_PC_f, ai_QC_s, ai_inc_0, ai_inc_1, ai_inc_s, ai_ldi_0, ai_ldi_s, ai_ldj_0, ai_ldj_s, ai_ldr_0, ai_ldr_s, ai_st1_0, ai_st1_1, ai_st1_s, ai_st2_0, ai_st2_1, ai_st2_s, ai_wide_i, ai_wide_j, ai_wide_r, ai_wide_n, ai_one_i, ai_one_r, Option.map_some, Option.map_none, ai_EC_inl, Option.toList_some, Option.toList_none, List.cons_append, List.nil_append, List.append_nil, List.take_succ_cons, List.take_zero, List.drop_succ_cons, List.drop_zero, List.reverse_cons, List.reverse_nil, List.length_cons, List.length_nil, ai_en, ai_e0_n, ai_e0_i, ai_e0_j, ai_e0_r, List.replicate_succ, List.replicate_zero, Nat.reduceAdd, Nat.reduceSub, Nat.reduceDiv, Nat.reduceLeDiff, Nat.zero_add, Nat.le_refl, Nat.zero_le, and_self, true_and, and_true, Fin.isValue, Fin.val_ofNat, ai_tg, ai_tk, Int.reduceAdd, Int.reduceToNat, Int.reduceLE, Int.cast_ofNat_Int, decide_true, not_true_eq_false, not_false_eq_true, Nat.reducePow, Nat.reduceLT, ai_ix_nI, ai_ix_lit, ai_f0, ai_f1, ai_f2, ai_f3, ai_u0, ai_u1, sm_pv0, sm_pv1, sm_pv2, sm_pv3, sm_rc, sm_o0, sm_ex, sm_c80, sm_c100, (fun n R h i v ha => ai_pf_of (m := 200) (idx := 9) (c := 2) (k := 0) (f := 0) (n := n) (T := 20) (i := i) (R := R) (h := h) (v := v) rfl rfl ha : ∀ (n : Nat) (R : ai_R) (h : ai_H) (i : Nat) (v : ai_V), ai_al n 20 i = true → ai_pf 200 9 n R h 20 i v = ai_pv R h 20 i 0 0 v), (fun n R h i v ha => ai_pf_of (m := 200) (idx := 15) (c := 2) (k := 1) (f := 0) (n := n) (T := 20) (i := i) (R := R) (h := h) (v := v) rfl rfl ha : ∀ (n : Nat) (R : ai_R) (h : ai_H) (i : Nat) (v : ai_V), ai_al n 20 i = true → ai_pf 200 15 n R h 20 i v = ai_pv R h 20 i 1 0 v), (fun n R h i v ha => ai_pf_of (m := 200) (idx := 18) (c := 2) (k := 2) (f := 0) (n := n) (T := 20) (i := i) (R := R) (h := h) (v := v) rfl rfl ha : ∀ (n : Nat) (R : ai_R) (h : ai_H) (i : Nat) (v : ai_V), ai_al n 20 i = true → ai_pf 200 18 n R h 20 i v = ai_pv R h 20 i 2 0 v), (fun n R h i v ha => ai_pf_of (m := 200) (idx := 21) (c := 2) (k := 3) (f := 2) (n := n) (T := 20) (i := i) (R := R) (h := h) (v := v) rfl rfl ha : ∀ (n : Nat) (R : ai_R) (h : ai_H) (i : Nat) (v : ai_V), ai_al n 20 i = true → ai_pf 200 21 n R h 20 i v = ai_pv R h 20 i 3 2 v), (fun n R h i v ha => ai_pf_of (m := 200) (idx := 25) (c := 2) (k := 4) (f := 2) (n := n) (T := 20) (i := i) (R := R) (h := h) (v := v) rfl rfl ha : ∀ (n : Nat) (R : ai_R) (h : ai_H) (i : Nat) (v : ai_V), ai_al n 20 i = true → ai_pf 200 25 n R h 20 i v = ai_pv R h 20 i 4 2 v), a1, a2, a3, w3, w4, y3, y4, z1, z2, sm_c3,
    xe_mkarr [] 2 200 23 .int (Int32.ofInt 5) 21 i 5 (ho := o1) (hk := rfl) (hx := by decide +kernel) (hn := by omega), xe_mkarr [] 2 200 30 .long (Int32.ofInt 4) 22 i 4 (ho := o2) (hk := rfl) (hx := by decide +kernel) (hn := by omega)]
theorem sm_300 {L : Nat} {h : ai_H} (h1 : ∀ k, ai_gI h 4 0 k = 0) (z1 : ai_zH h 5 0 = h) (z2 : ai_zH h 6 0 = h) (r : ai_A) :
    ai_E 300 [ai_r 4 0] (5, 0, L, ai_Rp 3) h r ↔ r = (Sum.inl none, (7, 0, L, ai_Rp 5), h) := by
  have id0 : ∀ k, ai_wI h 4 0 k 0 = h := fun k => sm_wI (h1 k)
  have w1 : ai_wR (ai_Rp 3) 4 0 0 (some (5, 0)) = ai_Rp 4 := sm_wR rfl rfl
  have w2 : ai_wR (ai_Rp 4) 4 0 1 (some (6, 0)) = ai_Rp 5 := sm_wR rfl rfl
  have y1 : ai_zR (ai_Rp 3) 5 0 = ai_Rp 3 := sm_zR fun k => Or.inl rfl
  have y2 : ai_zR (ai_Rp 4) 6 0 = ai_Rp 4 := sm_zR fun k => Or.inl rfl
  have a1 : ai_al 5 4 0 = true := rfl
  have a2 : ai_al 6 4 0 = true := rfl
  have a3 : ai_al 7 4 0 = true := rfl
  rw [ai_E_eq, ai_X_eq []]
  simp only [ai_c_300_0, ai_c_300_1, ai_c_300_4, ai_c_300_5, ai_c_300_8, ai_c_300_10, ai_c_300_13, ai_c_300_14, ai_c_300_17, ai_c_300_19, ai_c_300_22, ai_c_300_23, ai_c_300_24, ai_c_300_27, ai_ob_3_3, ai_om_300, ai_p_300_18, ai_rk_300, ai_mx_300, sh_300, ai_XS_eq, List.contains_nil, List.contains_cons, Bool.or_false, Bool.false_or, Bool.or_self, Bool.false_eq_true, Nat.reduceBEq, beq_self_eq_true, ↓reduceIte, if_true, if_false,
 xe_iconst, xe_bipush, xe_sipush, xe_lconst, xe_ldc, xe_ldc_w, xe_ldc2_w, xe_iload, xe_iload_n, xe_lload, xe_lload_n, xe_aload, xe_aload_n, xe_istore, xe_istore_n, xe_lstore, xe_lstore_n, xe_astore, xe_astore_n, xe_iinc, xe_iadd, xe_isub, xe_imul, xe_iand, xe_ior, xe_ishl, xe_ishr, xe_ineg, xe_l2i, xe_newL, xe_newI, xe_ladd, xe_lsub, xe_lmul, xe_lcmp, xe_i2l, xe_idiv, xe_irem, xe_ldiv, xe_dupi, xe_dupr, xe_dup2ir, xe_getfield, xe_putfield, xe_iaload, xe_laload, xe_baload, xe_aaload, xe_iastore, xe_lastore, xe_bastore, xe_arraylength, xe_goto, xe_ifeq, xe_ifne, xe_iflt, xe_ifge, xe_ifgt, xe_ifle, xe_icmpeq, xe_icmpne, xe_icmplt, xe_icmpge, xe_icmpgt, xe_icmple, xe_return, xe_ireturn, xe_zreturn, xe_lreturn, xe_throw, xe_callvirtual, xe_callstatic, xe_callspecial, xe_min, xe_minL, xe_maxL, xe_object,
 ai_PI_s, ai_PJ_s, ai_PR_s, ai_PV_s, ai_PL_s, ai_PA_s, ai_PZ_s, ai_PQ_s, ai_PS_s, ai_PT_s, ai_PF_s, ai_PG_s, ai_PC_t, ai_PC_f, ai_QC_s, ai_inc_0, ai_inc_1, ai_inc_s, ai_ldi_0, ai_ldi_s, ai_ldj_0, ai_ldj_s, ai_ldr_0, ai_ldr_s, ai_st1_0, ai_st1_1, ai_st1_s, ai_st2_0, ai_st2_1, ai_st2_s, ai_wide_i, ai_wide_j, ai_wide_r, ai_wide_n, ai_one_i, ai_one_r, Option.map_some, Option.map_none, ai_EC_inl, Option.toList_some, Option.toList_none, List.cons_append, List.nil_append, List.append_nil, List.take_succ_cons, List.take_zero, List.drop_succ_cons, List.drop_zero, List.reverse_cons, List.reverse_nil, List.length_cons, List.length_nil, ai_en, ai_e0_n, ai_e0_i, ai_e0_j, ai_e0_r, List.replicate_succ, List.replicate_zero, Nat.reduceAdd, Nat.reduceSub, Nat.reduceDiv, Nat.reduceLeDiff, Nat.zero_add, Nat.le_refl, Nat.zero_le, and_self, true_and, and_true, Fin.isValue, Fin.val_ofNat, ai_tg, ai_tk, Int.reduceAdd, Int.reduceToNat, Int.reduceLE, Int.cast_ofNat_Int, decide_true, not_true_eq_false, not_false_eq_true, Nat.reducePow, Nat.reduceLT, ai_ix_nI, ai_ix_lit, ai_f0, ai_f1, ai_f2, ai_f3, ai_u0, ai_u1, sm_pv0, sm_pv1, sm_pv2, sm_pv3, sm_rc, sm_o0, sm_ex, (fun n R h i v ha => ai_pf_of (m := 300) (idx := 11) (c := 3) (k := 0) (f := 2) (n := n) (T := 4) (i := i) (R := R) (h := h) (v := v) rfl rfl ha : ∀ (n : Nat) (R : ai_R) (h : ai_H) (i : Nat) (v : ai_V), ai_al n 4 i = true → ai_pf 300 11 n R h 4 i v = ai_pv R h 4 i 0 2 v), (fun n R h i v ha => ai_pf_of (m := 300) (idx := 15) (c := 3) (k := 1) (f := 2) (n := n) (T := 4) (i := i) (R := R) (h := h) (v := v) rfl rfl ha : ∀ (n : Nat) (R : ai_R) (h : ai_H) (i : Nat) (v : ai_V), ai_al n 4 i = true → ai_pf 300 15 n R h 4 i v = ai_pv R h 4 i 1 2 v), (fun n R h i v ha => ai_pf_of (m := 300) (idx := 18) (c := 3) (k := 2) (f := 0) (n := n) (T := 4) (i := i) (R := R) (h := h) (v := v) rfl rfl ha : ∀ (n : Nat) (R : ai_R) (h : ai_H) (i : Nat) (v : ai_V), ai_al n 4 i = true → ai_pf 300 18 n R h 4 i v = ai_pv R h 4 i 2 0 v), a1, a2, a3, id0, w1, w2, y1, y2, z1, z2,
    xe_mkarr [] 2 300 8 .int (Int16.ofInt 582).toInt32 5 0 582 (n := 5) (ho := rfl) (hk := rfl) (hx := by decide +kernel) (hn := by decide), xe_mkarr [] 2 300 17 .int (Int16.ofInt 582).toInt32 6 0 582 (n := 6) (ho := rfl) (hk := rfl) (hx := by decide +kernel) (hn := by decide)]
theorem sm_400 {L : Nat} {h : ai_H} (h1 : ∀ k, ai_gI h 7 0 k = 0) (z1 : ai_zH h 8 0 = h) (z2 : ai_zH h 9 0 = h) (r : ai_A) :
    ai_E 400 [ai_r 7 0] (8, 0, L, ai_Rp 6) h r ↔ r = (Sum.inl none, (10, 0, L, ai_Rp 8), h) := by
  have id0 : ∀ k, ai_wI h 7 0 k 0 = h := fun k => sm_wI (h1 k)
  have w1 : ai_wR (ai_Rp 6) 7 0 0 (some (8, 0)) = ai_Rp 7 := sm_wR rfl rfl
  have w2 : ai_wR (ai_Rp 7) 7 0 1 (some (9, 0)) = ai_Rp 8 := sm_wR rfl rfl
  have y1 : ai_zR (ai_Rp 6) 8 0 = ai_Rp 6 := sm_zR fun k => Or.inl rfl
  have y2 : ai_zR (ai_Rp 7) 9 0 = ai_Rp 7 := sm_zR fun k => Or.inl rfl
  have a1 : ai_al 8 7 0 = true := rfl
  have a2 : ai_al 9 7 0 = true := rfl
  have a3 : ai_al 10 7 0 = true := rfl
  rw [ai_E_eq, ai_X_eq []]
  simp only [ai_c_400_0, ai_c_400_1, ai_c_400_4, ai_c_400_5, ai_c_400_7, ai_c_400_9, ai_c_400_12, ai_c_400_13, ai_c_400_15, ai_c_400_17, ai_c_400_20, ai_c_400_21, ai_c_400_22, ai_c_400_25, ai_ob_4_3, ai_om_400, ai_p_400_18, ai_rk_400, ai_mx_400, sh_400, ai_XS_eq, List.contains_nil, List.contains_cons, Bool.or_false, Bool.false_or, Bool.or_self, Bool.false_eq_true, Nat.reduceBEq, beq_self_eq_true, ↓reduceIte, if_true, if_false,
 xe_iconst, xe_bipush, xe_sipush, xe_lconst, xe_ldc, xe_ldc_w, xe_ldc2_w, xe_iload, xe_iload_n, xe_lload, xe_lload_n, xe_aload, xe_aload_n, xe_istore, xe_istore_n, xe_lstore, xe_lstore_n, xe_astore, xe_astore_n, xe_iinc, xe_iadd, xe_isub, xe_imul, xe_iand, xe_ior, xe_ishl, xe_ishr, xe_ineg, xe_l2i, xe_newL, xe_newI, xe_ladd, xe_lsub, xe_lmul, xe_lcmp, xe_i2l, xe_idiv, xe_irem, xe_ldiv, xe_dupi, xe_dupr, xe_dup2ir, xe_getfield, xe_putfield, xe_iaload, xe_laload, xe_baload, xe_aaload, xe_iastore, xe_lastore, xe_bastore, xe_arraylength, xe_goto, xe_ifeq, xe_ifne, xe_iflt, xe_ifge, xe_ifgt, xe_ifle, xe_icmpeq, xe_icmpne, xe_icmplt, xe_icmpge, xe_icmpgt, xe_icmple, xe_return, xe_ireturn, xe_zreturn, xe_lreturn, xe_throw, xe_callvirtual, xe_callstatic, xe_callspecial, xe_min, xe_minL, xe_maxL, xe_object,
 ai_PI_s, ai_PJ_s, ai_PR_s, ai_PV_s, ai_PL_s, ai_PA_s, ai_PZ_s, ai_PQ_s, ai_PS_s, ai_PT_s, ai_PF_s, ai_PG_s, ai_PC_t, ai_PC_f, ai_QC_s, ai_inc_0, ai_inc_1, ai_inc_s, ai_ldi_0, ai_ldi_s, ai_ldj_0, ai_ldj_s, ai_ldr_0, ai_ldr_s, ai_st1_0, ai_st1_1, ai_st1_s, ai_st2_0, ai_st2_1, ai_st2_s, ai_wide_i, ai_wide_j, ai_wide_r, ai_wide_n, ai_one_i, ai_one_r, Option.map_some, Option.map_none, ai_EC_inl, Option.toList_some, Option.toList_none, List.cons_append, List.nil_append, List.append_nil, List.take_succ_cons, List.take_zero, List.drop_succ_cons, List.drop_zero, List.reverse_cons, List.reverse_nil, List.length_cons, List.length_nil, ai_en, ai_e0_n, ai_e0_i, ai_e0_j, ai_e0_r, List.replicate_succ, List.replicate_zero, Nat.reduceAdd, Nat.reduceSub, Nat.reduceDiv, Nat.reduceLeDiff, Nat.zero_add, Nat.le_refl, Nat.zero_le, and_self, true_and, and_true, Fin.isValue, Fin.val_ofNat, ai_tg, ai_tk, Int.reduceAdd, Int.reduceToNat, Int.reduceLE, Int.cast_ofNat_Int, decide_true, not_true_eq_false, not_false_eq_true, Nat.reducePow, Nat.reduceLT, ai_ix_nI, ai_ix_lit, ai_f0, ai_f1, ai_f2, ai_f3, ai_u0, ai_u1, sm_pv0, sm_pv1, sm_pv2, sm_pv3, sm_rc, sm_o0, sm_ex, (fun n R h i v ha => ai_pf_of (m := 400) (idx := 9) (c := 4) (k := 0) (f := 2) (n := n) (T := 7) (i := i) (R := R) (h := h) (v := v) rfl rfl ha : ∀ (n : Nat) (R : ai_R) (h : ai_H) (i : Nat) (v : ai_V), ai_al n 7 i = true → ai_pf 400 9 n R h 7 i v = ai_pv R h 7 i 0 2 v), (fun n R h i v ha => ai_pf_of (m := 400) (idx := 15) (c := 4) (k := 1) (f := 2) (n := n) (T := 7) (i := i) (R := R) (h := h) (v := v) rfl rfl ha : ∀ (n : Nat) (R : ai_R) (h : ai_H) (i : Nat) (v : ai_V), ai_al n 7 i = true → ai_pf 400 15 n R h 7 i v = ai_pv R h 7 i 1 2 v), (fun n R h i v ha => ai_pf_of (m := 400) (idx := 18) (c := 4) (k := 2) (f := 0) (n := n) (T := 7) (i := i) (R := R) (h := h) (v := v) rfl rfl ha : ∀ (n : Nat) (R : ai_R) (h : ai_H) (i : Nat) (v : ai_V), ai_al n 7 i = true → ai_pf 400 18 n R h 7 i v = ai_pv R h 7 i 2 0 v), a1, a2, a3, id0, w1, w2, y1, y2, z1, z2,
    xe_mkarr [] 2 400 7 .int (Int8.ofInt 40).toInt32 8 0 40 (n := 8) (ho := rfl) (hk := rfl) (hx := by decide +kernel) (hn := by decide), xe_mkarr [] 2 400 15 .int (Int8.ofInt 40).toInt32 9 0 40 (n := 9) (ho := rfl) (hk := rfl) (hx := by decide +kernel) (hn := by decide)]
