/-! out of the class's rows of whole, over the cells of this claim -/
theorem dub_tr {h : ai_H} {i j k : Nat} (a : ai_dub h i j) (b : ai_dub h j k) : ai_dub h i k := by
  unfold ai_dub at *
  simp only [Int32.lt_iff_toInt_lt, ← Int32.toInt_inj] at *
  omega
theorem dub_ir {h : ai_H} {i : Nat} : ¬ ai_dub h i i := by
  unfold ai_dub
  simp only [Int32.lt_iff_toInt_lt, ← Int32.toInt_inj]
  omega
theorem dub_to {h : ai_H} {i j : Nat} (g : ¬ i = j) (n : ¬ ai_dub h i j) : ai_dub h j i := by
  unfold ai_dub at *
  simp only [Int32.lt_iff_toInt_lt, ← Int32.toInt_inj] at *
  omega
abbrev op_n (h : ai_H) (y : Int32) (k : Nat) : Prop := ai_gI h 14 k 1 = y ∧ 0 < ai_gI h 14 k 3
theorem nxd_s (h : ai_H) (y : Int32) (o : Option Nat) (s : Nat) : ai_nxd h y o (s + 1) = @ite _ (ai_gI h 14 s 1 = y ∧ 0 < ai_gI h 14 s 3 ∧ ai_aft h o s ∧ ai_bef h (ai_nxd h y o s) s) (Classical.propDecidable _) (some s) (ai_nxd h y o s) := rfl
theorem nxd_sp (h : ai_H) (y : Int32) (o : Option Nat) : ∀ s, (ai_nxd h y o s = none ∧ ∀ k, k < s → ¬ (op_n h y k ∧ ai_aft h o k)) ∨ (∃ n, ai_nxd h y o s = some n ∧ n < s ∧ op_n h y n ∧ ai_aft h o n ∧ ∀ k, k < s → op_n h y k → ai_aft h o k → ¬ k = n → ai_dub h n k)
  | 0 => Or.inl ⟨rfl, fun k hk => absurd hk (Nat.not_lt_zero _)⟩
  | s + 1 => by
    rw [nxd_s]
    rcases nxd_sp h y o s with ⟨e, g⟩ | ⟨n, e, n0, n1, n2, g⟩
    · rw [e]
      by_cases c : ai_gI h 14 s 1 = y ∧ 0 < ai_gI h 14 s 3 ∧ ai_aft h o s ∧ ai_bef h none s
      · rw [if_pos c]
        refine Or.inr ⟨s, rfl, by omega, ⟨c.1, c.2.1⟩, c.2.2.1, fun k hk h1 h2 h3 => absurd ⟨h1, h2⟩ (g k (by omega))⟩
      · rw [if_neg c]
        refine Or.inl ⟨rfl, fun k hk q => ?_⟩
        by_cases ek : k = s
        · subst ek
          exact c ⟨q.1.1, q.1.2, q.2, trivial⟩
        · exact g k (by omega) q
    · rw [e]
      by_cases c : ai_gI h 14 s 1 = y ∧ 0 < ai_gI h 14 s 3 ∧ ai_aft h o s ∧ ai_bef h (some n) s
      · rw [if_pos c]
        have d : ai_dub h s n := c.2.2.2
        refine Or.inr ⟨s, rfl, by omega, ⟨c.1, c.2.1⟩, c.2.2.1, fun k hk h1 h2 h3 => ?_⟩
        by_cases ek : k = n
        · subst ek
          exact d
        · exact dub_tr d (g k (by omega) h1 h2 ek)
      · rw [if_neg c]
        refine Or.inr ⟨n, rfl, by omega, n1, n2, fun k hk h1 h2 h3 => ?_⟩
        by_cases ek : k = s
        · subst ek
          exact dub_to h3 fun d => c ⟨h1.1, h1.2, h2, d⟩
        · exact g k (by omega) h1 h2 h3
theorem nxd_cg {g h : ai_H} (e : ai_gI g 14 = ai_gI h 14) (y : Int32) (o : Option Nat) : ∀ s, ai_nxd g y o s = ai_nxd h y o s
  | 0 => rfl
  | s + 1 => by
    have ea : ai_aft g o s = ai_aft h o s := by
      cases o with
      | none => rfl
      | some j =>
        show ai_dub g j s = ai_dub h j s
        unfold ai_dub
        rw [e]
    have eb : ai_bef g (ai_nxd h y o s) s = ai_bef h (ai_nxd h y o s) s := by
      cases ai_nxd h y o s with
      | none => rfl
      | some j =>
        show ai_dub g s j = ai_dub h s j
        unfold ai_dub
        rw [e]
    rw [nxd_s, nxd_s, nxd_cg e y o s, e, ea, eb]
def lp_o (h : ai_H) (n : Nat) : Nat := pn (ai_gI h 14 n 3)
noncomputable def sl (h : ai_H) (N : Nat) (y : Int32) (v : Nat) : Nat → Option Nat × Nat
  | 0 => (none, v)
  | j + 1 => match ai_nxd h y (sl h N y v j).1 N with
    | some n => (some n, (sl h N y v j).2 - min (sl h N y v j).2 (lp_o h n))
    | none => sl h N y v j
noncomputable def sn (h : ai_H) (N : Nat) (y : Int32) (v j : Nat) : Nat := (ai_nxd h y (sl h N y v j).1 N).getD 0
noncomputable def sc (h : ai_H) (N : Nat) (y : Int32) (v j : Nat) : Nat := min (sl h N y v j).2 (lp_o h (sn h N y v j))
def sr (h : ai_H) (N : Nat) (y : Int32) (v j : Nat) : Prop := ¬ ai_nxd h y (sl h N y v j).1 N = none ∧ 0 < (sl h N y v j).2
theorem sr_n {h : ai_H} {N : Nat} {y : Int32} {v j : Nat} (r : sr h N y v j) : ai_nxd h y (sl h N y v j).1 N = some (sn h N y v j) := by
  unfold sn
  cases e : ai_nxd h y (sl h N y v j).1 N with
  | none => exact absurd e r.1
  | some n => rfl
theorem sr_s {h : ai_H} {N : Nat} {y : Int32} {v j : Nat} (r : sr h N y v j) : sl h N y v (j + 1) = (some (sn h N y v j), (sl h N y v j).2 - sc h N y v j) := by
  have e := sr_n r
  show (match ai_nxd h y (sl h N y v j).1 N with | some n => (some n, (sl h N y v j).2 - min (sl h N y v j).2 (lp_o h n)) | none => sl h N y v j) = _
  rw [e]
  rfl
noncomputable def sp (h : ai_H) (N : Nat) (y : Int32) (v : Nat) : Nat → Nat → Int32
  | 0 => fun _ => 0
  | j + 1 => ai_up (sp h N y v j) (sn h N y v j) (nI (sc h N y v j))
theorem cw_0f : ∀ n, ai_cw (fun _ => (0 : Int32)) n = 0
  | 0 => rfl
  | n + 1 => by
    unfold ai_cw
    rw [if_pos rfl, cw_0f n]
def sq_i (h : ai_H) (N : Nat) (y : Int32) (v j : Nat) : Prop :=
  (∀ k, k < N → op_n h y k → (sp h N y v j k = 0 ↔ ai_aft h (sl h N y v j).1 k)) ∧ ai_cw (sp h N y v j) N = j ∧
  (∀ a, a < j → sp h N y v j (sn h N y v a) = nI (sc h N y v a) ∧ 0 < sc h N y v a ∧ sc h N y v a ≤ v ∧ sn h N y v a < N ∧ op_n h y (sn h N y v a)) ∧
  (∀ a b, a < j → b < a → ¬ sn h N y v a = sn h N y v b) ∧ (sl h N y v j).2 ≤ v
theorem sq_inv {h : ai_H} {N : Nat} {y : Int32} {v : Nat} (hv : v ≤ 1000000) (hO : ∀ k, k < N → ∃ q, q ≤ 1000000 ∧ ai_gI h 14 k 3 = nI q) : ∀ j, (∀ i, i < j → sr h N y v i) → sq_i h N y v j
  | 0, _ => ⟨fun k hk ho => ⟨fun _ => trivial, fun _ => rfl⟩, cw_0f N, fun a ha => absurd ha (Nat.not_lt_zero _), fun a b ha => absurd ha (Nat.not_lt_zero _), Nat.le_refl v⟩
  | j + 1, hr => by
    obtain ⟨iA, iB, iC, iD, iE⟩ := sq_inv hv hO j fun i hi => hr i (by omega)
    have r := hr j (by omega)
    have en := sr_n r
    have es := sr_s r
    rcases nxd_sp h y (sl h N y v j).1 N with ⟨e, -⟩ | ⟨n, e, n0, n1, n2, nm⟩
    · exact absurd e r.1
    · have hn : n = sn h N y v j := Option.some.inj (e.symm.trans en)
      subst hn
      obtain ⟨q, q0, q1⟩ := hO _ n0
      have qp : 0 < q := by
        have h2 := n1.2
        rw [q1] at h2
        exact (nI_ltI (a := 0) (b := q) (by decide) (by omega)).mp h2
      have hc : sc h N y v j = min (sl h N y v j).2 q := by
        unfold sc lp_o
        rw [q1, pn_nI (by omega)]
      have hcp : 0 < sc h N y v j := by rw [hc]; have := r.2; omega
      have hcv : sc h N y v j ≤ v := by rw [hc]; omega
      have z0 : sp h N y v j (sn h N y v j) = 0 := (iA _ n0 n1).mpr n2
      have nz : ¬ nI (sc h N y v j) = 0 := nI_ne0 hcp (by omega)
      have dif : ∀ a, a < j → ¬ sn h N y v a = sn h N y v j := fun a ha q => by
        have h1 := (iC a ha).1
        have h2 := (iC a ha).2.1
        have h3 := (iC a ha).2.2.1
        rw [q, z0] at h1
        exact nI_ne0 h2 (by omega) h1.symm
      refine ⟨fun k hk ho => ?_, ?_, fun a ha => ?_, fun a b ha hb => ?_, ?_⟩
      · rw [es]
        show ai_up (sp h N y v j) (sn h N y v j) (nI (sc h N y v j)) k = 0 ↔ ai_dub h (sn h N y v j) k
        by_cases ek : k = sn h N y v j
        · rw [ek, ai_up_at]
          exact ⟨fun q => absurd q nz, fun q => absurd q dub_ir⟩
        · rw [ai_up_ne _ _ ek, iA k hk ho]
          constructor
          · exact fun q => nm k hk ho q ek
          · intro q
            cases eo : (sl h N y v j).1 with
            | none => trivial
            | some m =>
              rw [eo] at n2
              exact dub_tr n2 q
      · have cu := cw_up (f := sp h N y v j) (v := nI (sc h N y v j)) n0 z0
        rw [if_neg nz] at cu
        show ai_cw (ai_up (sp h N y v j) (sn h N y v j) (nI (sc h N y v j))) N = j + 1
        rw [cu, iB]
      · by_cases ea : a = j
        · subst ea
          exact ⟨ai_up_at _ _ _, hcp, hcv, n0, n1⟩
        · obtain ⟨c1, c2⟩ := iC a (by omega)
          exact ⟨(ai_up_ne _ _ (dif a (by omega))).trans c1, c2⟩
      · by_cases ea : a = j
        · subst ea
          exact fun q => dif b hb q.symm
        · exact iD a b (by omega) hb
      · rw [es]
        show (sl h N y v j).2 - sc h N y v j ≤ v
        omega
theorem ex_st {P : Nat → Prop} : ∀ K, (∃ j, j ≤ K ∧ ¬ P j) → ∃ M, M ≤ K ∧ (∀ j, j < M → P j) ∧ ¬ P M
  | 0, ⟨j, h1, h2⟩ => ⟨0, Nat.le_refl 0, fun i hi => absurd hi (Nat.not_lt_zero _), by
      have : j = 0 := by omega
      subst this
      exact h2⟩
  | K + 1, ⟨j, h1, h2⟩ => by
    by_cases g : ∃ j, j ≤ K ∧ ¬ P j
    · obtain ⟨M, m1, m2⟩ := ex_st K g
      exact ⟨M, by omega, m2⟩
    · have all : ∀ i, i ≤ K → P i := fun i hi => Classical.byContradiction fun q => g ⟨i, hi, q⟩
      have : j = K + 1 := by
        by_cases e : j = K + 1
        · exact e
        · exact absurd (all j (by omega)) h2
      subst this
      exact ⟨K + 1, Nat.le_refl _, fun i hi => all i (by omega), h2⟩
theorem sq_M {h : ai_H} {N : Nat} {y : Int32} {v : Nat} (hv : v ≤ 1000000) (hO : ∀ k, k < N → ∃ q, q ≤ 1000000 ∧ ai_gI h 14 k 3 = nI q) : ∃ M, M ≤ N ∧ (∀ j, j < M → sr h N y v j) ∧ ¬ sr h N y v M := by
  refine ex_st N (Classical.byContradiction fun g => ?_)
  have all : ∀ i, i < N + 1 → sr h N y v i := fun i hi => Classical.byContradiction fun q => g ⟨i, by omega, q⟩
  have iB := (sq_inv hv hO (N + 1) all).2.1
  have := cw_le (sp h N y v (N + 1)) N
  omega
theorem sq_ls {h : ai_H} {N : Nat} {y : Int32} {v M : Nat} (hv : v ≤ 1000000) (hO : ∀ k, k < N → ∃ q, q ≤ 1000000 ∧ ai_gI h 14 k 3 = nI q) (hM : ∀ j, j < M → sr h N y v j) : ls_ok h N M (sn h N y v) (sc h N y v) := by
  intro j hj
  obtain ⟨iA, iB, iC, iD, iE⟩ := sq_inv hv hO M hM
  obtain ⟨c1, c2, c3, c4, c5⟩ := iC j hj
  obtain ⟨q, q0, q1⟩ := hO _ c4
  have hc : sc h N y v j = min (sl h N y v j).2 q := by
    unfold sc lp_o
    rw [q1, pn_nI (by omega)]
  refine ⟨c4, fun a ha => iD j a hj ha, q, q0, q1, by rw [hc]; exact Nat.min_le_right _ _, ?_⟩
  by_cases e : j + 1 = M
  · exact Or.inr e
  · have r := hM (j + 1) (by omega)
    have es := sr_s (hM j hj)
    have r2 := r.2
    rw [es] at r2
    have r3 : 0 < (sl h N y v j).2 - sc h N y v j := r2
    exact Or.inl (by omega)
