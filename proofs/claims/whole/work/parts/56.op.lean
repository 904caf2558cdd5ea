/-! What one operation owes: the answers agree, the relation goes on -/
def op_I (xs : Nat → Int32) (C k L : Nat) (h : ai_H) (w q : Nat) (wa qa : List ai_V) : Prop := ∃ (kk v : Int32) (k1 : Nat) (h1 h2 : ai_H), (∀ r, ai_E w wa (281, k, L, ai_R0) h r ↔ r = (Sum.inl (some (ai_i kk)), (281, k1, L, ai_R0), h1)) ∧ (∀ r, ai_E q qa (281, k1, L, ai_R0) h1 r ↔ r = (Sum.inl (some (ai_i v)), (281, k1, L, ai_R0), h2)) ∧ ai_gI h2 23 0 30 = kk ∧ (kk = 0 → ai_gJ h2 50 0 0 = v.toInt64) ∧ k1 ≤ k + 1 ∧ (∀ j, ai_gI h1 99 0 j = ai_gI h 99 0 j) ∧ rl_I xs (C + 1) h2
def op_Z (xs : Nat → Int32) (C k L : Nat) (h : ai_H) (w q : Nat) (wa qa : List ai_V) : Prop := ∃ (kk v : Int32) (k1 : Nat) (h1 h2 : ai_H), (v = 0 ∨ v = 1) ∧ (∀ r, ai_E w wa (281, k, L, ai_R0) h r ↔ r = (Sum.inl (some (ai_i kk)), (281, k1, L, ai_R0), h1)) ∧ (∀ r, ai_E q qa (281, k1, L, ai_R0) h1 r ↔ r = (Sum.inl (some (ai_i v)), (281, k1, L, ai_R0), h2)) ∧ ai_gI h2 23 0 30 = kk ∧ (kk = 0 → ai_gJ h2 50 0 0 = v.toInt64) ∧ k1 ≤ k + 1 ∧ (∀ j, ai_gI h1 99 0 j = ai_gI h 99 0 j) ∧ rl_I xs (C + 1) h2
def op_J (xs : Nat → Int32) (C k L : Nat) (h : ai_H) (w q : Nat) (wa qa : List ai_V) : Prop := ∃ (kk : Int32) (v : Int64) (k1 : Nat) (h1 h2 : ai_H), (∀ r, ai_E w wa (281, k, L, ai_R0) h r ↔ r = (Sum.inl (some (ai_i kk)), (281, k1, L, ai_R0), h1)) ∧ (∀ r, ai_E q qa (281, k1, L, ai_R0) h1 r ↔ r = (Sum.inl (some (ai_j v)), (281, k1, L, ai_R0), h2)) ∧ ai_gI h2 23 0 30 = kk ∧ (kk = 0 → ai_gJ h2 50 0 0 = v) ∧ k1 ≤ k + 1 ∧ (∀ j, ai_gI h1 99 0 j = ai_gI h 99 0 j) ∧ rl_I xs (C + 1) h2
def op_V (xs : Nat → Int32) (C k L : Nat) (h : ai_H) (w q : Nat) (wa qa : List ai_V) : Prop := ∃ (kk : Int32) (k1 : Nat) (h1 h2 : ai_H), (∀ r, ai_E w wa (281, k, L, ai_R0) h r ↔ r = (Sum.inl (some (ai_i kk)), (281, k1, L, ai_R0), h1)) ∧ (∀ r, ai_E q qa (281, k1, L, ai_R0) h1 r ↔ r = (Sum.inl none, (281, k1, L, ai_R0), h2)) ∧ ai_gI h2 23 0 30 = kk ∧ k1 ≤ k + 1 ∧ (∀ j, ai_gI h1 99 0 j = ai_gI h 99 0 j) ∧ rl_I xs (C + 1) h2
/-- no wrapper: the answers themselves -/
def op_D (xs : Nat → Int32) (C k L : Nat) (h : ai_H) (w q : Nat) : Prop := ∃ (v : Int32) (h1 h2 : ai_H), (∀ r, ai_E w [ai_r 0 0] (281, k, L, ai_R0) h r ↔ r = (Sum.inl (some (ai_i v)), (281, k, L, ai_R0), h1)) ∧ (∀ r, ai_E q [ai_r 23 0] (281, k, L, ai_R0) h1 r ↔ r = (Sum.inl (some (ai_i v)), (281, k, L, ai_R0), h2)) ∧ rl_I xs (C + 1) h2
def op_G (xs : Nat → Int32) (C k L : Nat) (h : ai_H) (w q : Nat) : Prop := ∃ (v : Int64) (h1 h2 : ai_H), (∀ r, ai_E w [ai_r 0 0] (281, k, L, ai_R0) h r ↔ r = (Sum.inl (some (ai_j v)), (281, k, L, ai_R0), h1)) ∧ (∀ r, ai_E q [ai_r 23 0] (281, k, L, ai_R0) h1 r ↔ r = (Sum.inl (some (ai_j v)), (281, k, L, ai_R0), h2)) ∧ rl_I xs (C + 1) h2
theorem rl_I_ag {xs : Nat → Int32} {C : Nat} {h h' : ai_H} (I : rl_I xs C h) (hx : ag_x h h') (hm : ag_m h h') (hs : ∀ j, ai_gI h' 99 0 j = ai_gI h 99 0 j) : rl_I xs C h' := by
  obtain ⟨h1, N, W, T, h2, R⟩ := I
  exact ⟨fun j => (hs j).trans (h1 j), N, W, T, h2, rl_ag hx hm R⟩
theorem rl_I_thr {xs : Nat → Int32} {C : Nat} {h : ai_H} {v : Int32} (I : rl_I xs C h) : rl_I xs C (ai_wI h 23 0 30 v) :=
  rl_I_ag I (ag_x_I (Or.inl (by decide)) (ag_x_rf h)) (ag_m_I (Or.inr (Or.inr ⟨rfl, Or.inl rfl⟩)) (ag_m_rf h)) (fun j => by rw [ai_gI_wI, if_neg (by omega)])
theorem rl_I_13 {xs : Nat → Int32} {C : Nat} {h : ai_H} (f : Nat → Int64) (n : Nat) (I : rl_I xs C h) : rl_I xs C (ai_h13 h f n) :=
  rl_I_ag I (ag_x_13 h f n) (ag_m_13 h f n) (fun j => ai_h13I h f 99 0 j n)
theorem rl_I_out {xs : Nat → Int32} {C : Nat} {h : ai_H} {v : Int64} (I : rl_I xs C h) : rl_I xs C (ai_wJ h 50 0 0 v) :=
  rl_I_ag I (ag_x_J (Or.inl (by decide)) (ag_x_rf h)) (ag_m_J (Or.inr (by decide)) (ag_m_rf h)) (fun j => rfl)
theorem thr_at (h : ai_H) (v : Int32) : ai_gI (ai_wI h 23 0 30 v) 23 0 30 = v := by
  rw [ai_gI_wI, if_pos ⟨rfl, rfl, rfl⟩]
theorem op_badI {xs : Nat → Int32} {C k L w q : Nat} {h : ai_H} {wa qa : List ai_V} {kk : Int32} (I : rl_I xs C h) (hk : ¬ kk = 0) (hw : ∀ r, ai_E w wa (281, k, L, ai_R0) h r ↔ r = (Sum.inl (some (ai_i kk)), (281, k + 1, L, ai_R0), h)) (hq : ∀ r, ai_E q qa (281, k + 1, L, ai_R0) h r ↔ r = (Sum.inl (some (ai_i 0)), (281, k + 1, L, ai_R0), ai_wI h 23 0 30 kk)) : op_I xs C k L h w q wa qa :=
  ⟨kk, 0, k + 1, h, _, hw, hq, thr_at h kk, fun e => absurd e hk, Nat.le_refl _, fun _ => rfl, rl_I_mono (rl_I_thr I) (Nat.le_succ C)⟩
theorem op_badZ {xs : Nat → Int32} {C k L w q : Nat} {h : ai_H} {wa qa : List ai_V} {kk : Int32} (I : rl_I xs C h) (hk : ¬ kk = 0) (hw : ∀ r, ai_E w wa (281, k, L, ai_R0) h r ↔ r = (Sum.inl (some (ai_i kk)), (281, k + 1, L, ai_R0), h)) (hq : ∀ r, ai_E q qa (281, k + 1, L, ai_R0) h r ↔ r = (Sum.inl (some (ai_i 0)), (281, k + 1, L, ai_R0), ai_wI h 23 0 30 kk)) : op_Z xs C k L h w q wa qa :=
  ⟨kk, 0, k + 1, h, _, Or.inl rfl, hw, hq, thr_at h kk, fun e => absurd e hk, Nat.le_refl _, fun _ => rfl, rl_I_mono (rl_I_thr I) (Nat.le_succ C)⟩
theorem op_badJ {xs : Nat → Int32} {C k L w q : Nat} {h : ai_H} {wa qa : List ai_V} {kk : Int32} (I : rl_I xs C h) (hk : ¬ kk = 0) (hw : ∀ r, ai_E w wa (281, k, L, ai_R0) h r ↔ r = (Sum.inl (some (ai_i kk)), (281, k + 1, L, ai_R0), h)) (hq : ∀ r, ai_E q qa (281, k + 1, L, ai_R0) h r ↔ r = (Sum.inl (some (ai_j 0)), (281, k + 1, L, ai_R0), ai_wI h 23 0 30 kk)) : op_J xs C k L h w q wa qa :=
  ⟨kk, 0, k + 1, h, _, hw, hq, thr_at h kk, fun e => absurd e hk, Nat.le_refl _, fun _ => rfl, rl_I_mono (rl_I_thr I) (Nat.le_succ C)⟩
theorem op_badV {xs : Nat → Int32} {C k L w q : Nat} {h : ai_H} {wa qa : List ai_V} {kk : Int32} (I : rl_I xs C h) (hw : ∀ r, ai_E w wa (281, k, L, ai_R0) h r ↔ r = (Sum.inl (some (ai_i kk)), (281, k + 1, L, ai_R0), h)) (hq : ∀ r, ai_E q qa (281, k + 1, L, ai_R0) h r ↔ r = (Sum.inl none, (281, k + 1, L, ai_R0), ai_wI h 23 0 30 kk)) : op_V xs C k L h w q wa qa :=
  ⟨kk, k + 1, h, _, hw, hq, thr_at h kk, Nat.le_refl _, fun _ => rfl, rl_I_mono (rl_I_thr I) (Nat.le_succ C)⟩
/-- the same, where the class has noted something in its scratch first -/
theorem op_badJ' {xs : Nat → Int32} {C k L w q : Nat} {h h1 : ai_H} {wa qa : List ai_V} {kk : Int32} (I : rl_I xs C h1) (hs : ∀ j, ai_gI h1 99 0 j = ai_gI h 99 0 j) (hk : ¬ kk = 0) (hw : ∀ r, ai_E w wa (281, k, L, ai_R0) h r ↔ r = (Sum.inl (some (ai_i kk)), (281, k + 1, L, ai_R0), h1)) (hq : ∀ r, ai_E q qa (281, k + 1, L, ai_R0) h1 r ↔ r = (Sum.inl (some (ai_j 0)), (281, k + 1, L, ai_R0), ai_wI h1 23 0 30 kk)) : op_J xs C k L h w q wa qa :=
  ⟨kk, 0, k + 1, h1, _, hw, hq, thr_at h1 kk, fun e => absurd e hk, Nat.le_refl _, hs, rl_I_mono (rl_I_thr I) (Nat.le_succ C)⟩
theorem op_badI' {xs : Nat → Int32} {C k L w q : Nat} {h h1 h2 : ai_H} {wa qa : List ai_V} {kk : Int32} (I : rl_I xs C h2) (hs : ∀ j, ai_gI h1 99 0 j = ai_gI h 99 0 j) (ht : ai_gI h2 23 0 30 = kk) (hk : ¬ kk = 0) (hw : ∀ r, ai_E w wa (281, k, L, ai_R0) h r ↔ r = (Sum.inl (some (ai_i kk)), (281, k + 1, L, ai_R0), h1)) (hq : ∀ r, ai_E q qa (281, k + 1, L, ai_R0) h1 r ↔ r = (Sum.inl (some (ai_i 0)), (281, k + 1, L, ai_R0), h2)) : op_I xs C k L h w q wa qa :=
  ⟨kk, 0, k + 1, h1, h2, hw, hq, ht, fun e => absurd e hk, Nat.le_refl _, hs, rl_I_mono I (Nat.le_succ C)⟩
/-! the parts of the relation, when something changes -/
theorem rl_B_new {N n : Nat} {f g : Nat → Int32} {a : Nat} (h : rl_B N n f g) (ha : a < n) : rl_B (N + 1) n (ai_up f N (nI a)) (ai_up g N (nI a)) := by
  intro i hi
  by_cases e : i = N
  · subst e
    exact ⟨a, ha, ai_up_at _ _ _, ai_up_at _ _ _⟩
  · obtain ⟨b, h1, h2, h3⟩ := h i (by omega)
    exact ⟨b, h1, by rw [ai_up_ne _ _ e, h2], by rw [ai_up_ne _ _ e, h3]⟩
theorem rl_B_mono {N n n' : Nat} {f g : Nat → Int32} (h : rl_B N n f g) (hn : n ≤ n') : rl_B N n' f g := fun i hi => by
  obtain ⟨a, h1, h2⟩ := h i hi
  exact ⟨a, by omega, h2⟩
theorem rl_O_new {N : Nat} {f g : Nat → Int32} {q : Nat} (h : rl_O N f g) (hq : q ≤ 1000000) : rl_O (N + 1) (ai_up f N (nI q)) (ai_up g N (nI q)) := by
  intro i hi
  by_cases e : i = N
  · subst e
    exact ⟨q, hq, ai_up_at _ _ _, ai_up_at _ _ _⟩
  · obtain ⟨b, h1, h2, h3⟩ := h i (by omega)
    exact ⟨b, h1, by rw [ai_up_ne _ _ e, h2], by rw [ai_up_ne _ _ e, h3]⟩
theorem rl_O_up {N : Nat} {f g : Nat → Int32} {i q : Nat} {v v' : Int32} (h : rl_O N f g) (hq : q ≤ 1000000) (hv : v = nI q) (hv' : v' = nI q) : rl_O N (ai_up f i v) (ai_up g i v') := by
  intro j hj
  by_cases e : j = i
  · subst e
    exact ⟨q, hq, by rw [ai_up_at, hv], by rw [ai_up_at, hv']⟩
  · obtain ⟨b, h1, h2, h3⟩ := h j hj
    exact ⟨b, h1, by rw [ai_up_ne _ _ e, h2], by rw [ai_up_ne _ _ e, h3]⟩
theorem rl_E_up {α : Type} {N : Nat} {f g : Nat → α} {i : Nat} {v v' : α} (h : rl_E N f g) (hv : v = v') : rl_E N (ai_up f i v) (ai_up g i v') := by
  intro j hj
  by_cases e : j = i
  · subst e
    rw [ai_up_at, ai_up_at, hv]
  · rw [ai_up_ne _ _ e, ai_up_ne _ _ e]
    exact h j hj
theorem rl_E_new {α : Type} {N : Nat} {f g : Nat → α} {v v' : α} (h : rl_E N f g) (hv : v = v') : rl_E (N + 1) (ai_up f N v) (ai_up g N v') := by
  intro j hj
  by_cases e : j = N
  · subst e
    rw [ai_up_at, ai_up_at, hv]
  · rw [ai_up_ne _ _ e, ai_up_ne _ _ e]
    exact h j (by omega)
theorem rl_D_up {N : Nat} {f g : Nat → Int32} {i : Nat} {v : Int32} (h : rl_D N f g) (hv : v = 0 ∨ v = 1) : rl_D N (ai_up f i v) (ai_up g i v) := by
  intro j hj
  by_cases e : j = i
  · subst e
    rw [ai_up_at, ai_up_at]
    exact ⟨rfl, hv⟩
  · rw [ai_up_ne _ _ e, ai_up_ne _ _ e]
    exact h j hj
theorem rl_c_mono {T T' : Nat} (hT : T ≤ T') {w a n g st a' n' g' : Int32} (h : rl_c T w a n g st a' n' g') : rl_c T' w a n g st a' n' g' := by
  rcases h with h | ⟨h1, h2, ⟨q, q1, q2, q3⟩, ⟨p, p1, p2⟩, ⟨o, o1, o2⟩⟩ | h
  · exact Or.inl h
  · exact Or.inr (Or.inl ⟨h1, h2, ⟨q, q1, by omega, q3⟩, ⟨p, by omega, p2⟩, ⟨o, by omega, o2⟩⟩)
  · exact Or.inr (Or.inr h)
theorem rl_C_up {T T' i s : Nat} {f15 f16 f17 f18 F15 F16 F17 F18 : Nat → Nat → Int32} {g29 g30 g31 g32 G29 G30 G31 G32 : Nat → Int32} (h : rl_C T f15 f16 f17 f18 g29 g30 g31 g32) (hT : T ≤ T') (hs : s < 3)
    (h1 : ∀ a b, ¬ (a = i ∧ b = s) → ¬ 3 * a + b = 3 * i + s → F15 a b = f15 a b ∧ F16 a b = f16 a b ∧ F17 a b = f17 a b ∧ F18 a b = f18 a b ∧ G29 (3 * a + b) = g29 (3 * a + b) ∧ G30 (3 * a + b) = g30 (3 * a + b) ∧ G31 (3 * a + b) = g31 (3 * a + b) ∧ G32 (3 * a + b) = g32 (3 * a + b))
    (h2 : rl_c T' (F15 i s) (F16 i s) (F17 i s) (F18 i s) (G29 (3 * i + s)) (G30 (3 * i + s)) (G31 (3 * i + s)) (G32 (3 * i + s))) : rl_C T' F15 F16 F17 F18 G29 G30 G31 G32 := by
  intro a b ha hb
  by_cases e : a = i ∧ b = s
  · obtain ⟨rfl, rfl⟩ := e
    exact h2
  · obtain ⟨e1, e2, e3, e4, e5, e6, e7, e8⟩ := h1 a b e (by omega)
    rw [e1, e2, e3, e4, e5, e6, e7, e8]
    exact rl_c_mono hT (h a b ha hb)
theorem rl_C_mono {T T' : Nat} {f15 f16 f17 f18 : Nat → Nat → Int32} {g29 g30 g31 g32 : Nat → Int32} (h : rl_C T f15 f16 f17 f18 g29 g30 g31 g32) (hT : T ≤ T') : rl_C T' f15 f16 f17 f18 g29 g30 g31 g32 := fun a b ha hb => rl_c_mono hT (h a b ha hb)
theorem rl_K_up {α : Type} {n : Nat} {f : Nat → Nat → α} {g : Nat → α} {F : Nat → Nat → α} {G : Nat → α} {s b : Nat} (h : rl_K n f g) (hb : b < n)
    (h1 : ∀ a c, ¬ (a = s ∧ c = b) → ¬ n * a + c = n * s + b → F a c = f a c ∧ G (n * a + c) = g (n * a + c)) (h2 : F s b = G (n * s + b)) : rl_K n F G := by
  intro a c ha hc
  by_cases e : a = s ∧ c = b
  · obtain ⟨rfl, rfl⟩ := e
    exact h2
  · have hne : ¬ n * a + c = n * s + b := by
      intro q
      have d1 : (n * a + c) / n = a := by rw [Nat.mul_add_div (by omega), Nat.div_eq_of_lt hc, Nat.add_zero]
      have d2 : (n * s + b) / n = s := by rw [Nat.mul_add_div (by omega), Nat.div_eq_of_lt hb, Nat.add_zero]
      have d3 : a = s := by rw [← d1, q, d2]
      subst d3
      exact e ⟨rfl, by omega⟩
    obtain ⟨e1, e2⟩ := h1 a c e hne
    rw [e1, e2]
    exact h a c ha hc
theorem rl_J_add {N W C' i j : Nat} {f g am ow me : Nat → Int32} {v b : Int32} (hf : ∀ q, q < j → ∃ i, i < N ∧ f q = nI i) (ha : ∀ i, i < N → am i - ai_tkf f g (nI i) j = ow i) (hN : N ≤ 40) (hi : i < N) (hv : v = ow i - b) (hC : j + 1 ≤ C' + ai_cz (ai_up ow i v) N + ai_cw me W) : rl_J N W C' (nI (j + 1)) (ai_up f j (nI i)) (ai_up g j b) am (ai_up ow i v) me := by
  refine ⟨j + 1, hC, rfl, fun q hq => ?_, fun a ha' => ?_⟩
  · by_cases e : q = j
    · subst e
      exact ⟨i, hi, ai_up_at _ _ _⟩
    · rw [ai_up_ne _ _ e]
      exact hf q (by omega)
  · rw [tkf_add]
    by_cases e : a = i
    · subst e
      rw [if_pos rfl, ai_up_at, hv, ← ha a ha']
      rw [Int32.sub_sub]
    · rw [if_neg (fun q => e ((nI_eq (by omega) (by omega)).mp q).symm), ai_up_ne _ _ e]
      exact ha a ha'
