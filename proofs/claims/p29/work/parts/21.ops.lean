def ai_PI (o : Option (Int32)) (sl : List Nat) (m pc : Nat) (ls : ai_L) (s : List ai_V) (z : ai_Z) (h : ai_H) (r : ai_A) : Prop := match o with
  | some v => ai_XS sl m pc ls (ai_i v :: s) z h r
  | none => False
theorem ai_PI_s (v : Int32) (sl : List Nat) (m pc : Nat) (ls : ai_L) (s : List ai_V) (z : ai_Z) (h : ai_H) (r : ai_A) : ai_PI (some v) sl m pc ls s z h r ↔ ai_XS sl m pc ls (ai_i v :: s) z h r := Iff.rfl
def ai_PJ (o : Option (Int64)) (sl : List Nat) (m pc : Nat) (ls : ai_L) (s : List ai_V) (z : ai_Z) (h : ai_H) (r : ai_A) : Prop := match o with
  | some v => ai_XS sl m pc ls (ai_j v :: s) z h r
  | none => False
theorem ai_PJ_s (v : Int64) (sl : List Nat) (m pc : Nat) (ls : ai_L) (s : List ai_V) (z : ai_Z) (h : ai_H) (r : ai_A) : ai_PJ (some v) sl m pc ls s z h r ↔ ai_XS sl m pc ls (ai_j v :: s) z h r := Iff.rfl
def ai_PR (o : Option (Nat × Nat)) (sl : List Nat) (m pc : Nat) (ls : ai_L) (s : List ai_V) (z : ai_Z) (h : ai_H) (r : ai_A) : Prop := match o with
  | some v => ai_XS sl m pc ls (ai_r v.1 v.2 :: s) z h r
  | none => False
theorem ai_PR_s (v : Nat × Nat) (sl : List Nat) (m pc : Nat) (ls : ai_L) (s : List ai_V) (z : ai_Z) (h : ai_H) (r : ai_A) : ai_PR (some v) sl m pc ls s z h r ↔ ai_XS sl m pc ls (ai_r v.1 v.2 :: s) z h r := Iff.rfl
def ai_PV (o : Option (ai_V)) (sl : List Nat) (m pc : Nat) (ls : ai_L) (s : List ai_V) (z : ai_Z) (h : ai_H) (r : ai_A) : Prop := match o with
  | some v => ai_XS sl m pc ls (v :: s) z h r
  | none => False
theorem ai_PV_s (v : ai_V) (sl : List Nat) (m pc : Nat) (ls : ai_L) (s : List ai_V) (z : ai_Z) (h : ai_H) (r : ai_A) : ai_PV (some v) sl m pc ls s z h r ↔ ai_XS sl m pc ls (v :: s) z h r := Iff.rfl
def ai_PL (o : Option (ai_L)) (sl : List Nat) (m pc : Nat) (ls : ai_L) (s : List ai_V) (z : ai_Z) (h : ai_H) (r : ai_A) : Prop := match o with
  | some l => ai_XS sl m pc l s z h r
  | none => False
theorem ai_PL_s (l : ai_L) (sl : List Nat) (m pc : Nat) (ls : ai_L) (s : List ai_V) (z : ai_Z) (h : ai_H) (r : ai_A) : ai_PL (some l) sl m pc ls s z h r ↔ ai_XS sl m pc l s z h r := Iff.rfl
def ai_PA (o : Option (Nat)) (sl : List Nat) (m pc : Nat) (ls : ai_L) (s : List ai_V) (z : ai_Z) (h : ai_H) (r : ai_A) (t i : Nat) : Prop := match o with
  | some j => ai_XS sl m pc ls (ai_j (ai_gJ h t i j) :: s) z h r
  | none => False
theorem ai_PA_s (j : Nat) (sl : List Nat) (m pc : Nat) (ls : ai_L) (s : List ai_V) (z : ai_Z) (h : ai_H) (r : ai_A) (t i : Nat) : ai_PA (some j) sl m pc ls s z h r t i ↔ ai_XS sl m pc ls (ai_j (ai_gJ h t i j) :: s) z h r := Iff.rfl
def ai_PZ (o : Option (Nat)) (sl : List Nat) (m pc : Nat) (ls : ai_L) (s : List ai_V) (z : ai_Z) (h : ai_H) (r : ai_A) (t i : Nat) : Prop := match o with
  | some j => ai_XS sl m pc ls (ai_i (ai_gI h t i j) :: s) z h r
  | none => False
theorem ai_PZ_s (j : Nat) (sl : List Nat) (m pc : Nat) (ls : ai_L) (s : List ai_V) (z : ai_Z) (h : ai_H) (r : ai_A) (t i : Nat) : ai_PZ (some j) sl m pc ls s z h r t i ↔ ai_XS sl m pc ls (ai_i (ai_gI h t i j) :: s) z h r := Iff.rfl
def ai_PQ (o : Option (Nat)) (sl : List Nat) (m pc : Nat) (ls : ai_L) (s : List ai_V) (z : ai_Z) (h : ai_H) (r : ai_A) (t i : Nat) : Prop := match o with
  | some j => ai_PR (z.2.2.2 t i j) sl m pc ls s z h r
  | none => False
theorem ai_PQ_s (j : Nat) (sl : List Nat) (m pc : Nat) (ls : ai_L) (s : List ai_V) (z : ai_Z) (h : ai_H) (r : ai_A) (t i : Nat) : ai_PQ (some j) sl m pc ls s z h r t i ↔ ai_PR (z.2.2.2 t i j) sl m pc ls s z h r := Iff.rfl
def ai_PS (o : Option (Nat)) (sl : List Nat) (m pc : Nat) (ls : ai_L) (s : List ai_V) (z : ai_Z) (h : ai_H) (r : ai_A) (t i : Nat) (v : Int32) : Prop := match o with
  | some j => ai_XS sl m pc ls s z (ai_wI h t i j v) r
  | none => False
theorem ai_PS_s (j : Nat) (sl : List Nat) (m pc : Nat) (ls : ai_L) (s : List ai_V) (z : ai_Z) (h : ai_H) (r : ai_A) (t i : Nat) (v : Int32) : ai_PS (some j) sl m pc ls s z h r t i v ↔ ai_XS sl m pc ls s z (ai_wI h t i j v) r := Iff.rfl
def ai_PT (o : Option (Nat)) (sl : List Nat) (m pc : Nat) (ls : ai_L) (s : List ai_V) (z : ai_Z) (h : ai_H) (r : ai_A) (t i : Nat) (v : Int64) : Prop := match o with
  | some j => ai_XS sl m pc ls s z (ai_wJ h t i j v) r
  | none => False
theorem ai_PT_s (j : Nat) (sl : List Nat) (m pc : Nat) (ls : ai_L) (s : List ai_V) (z : ai_Z) (h : ai_H) (r : ai_A) (t i : Nat) (v : Int64) : ai_PT (some j) sl m pc ls s z h r t i v ↔ ai_XS sl m pc ls s z (ai_wJ h t i j v) r := Iff.rfl
def ai_PF (o : Option (ai_R × ai_H)) (sl : List Nat) (m pc : Nat) (ls : ai_L) (s : List ai_V) (z : ai_Z) (h : ai_H) (r : ai_A) : Prop := match o with
  | some g => ai_XS sl m pc ls s (z.1, z.2.1, z.2.2.1, g.1) g.2 r
  | none => False
theorem ai_PF_s (g : ai_R × ai_H) (sl : List Nat) (m pc : Nat) (ls : ai_L) (s : List ai_V) (z : ai_Z) (h : ai_H) (r : ai_A) : ai_PF (some g) sl m pc ls s z h r ↔ ai_XS sl m pc ls s (z.1, z.2.1, z.2.2.1, g.1) g.2 r := Iff.rfl
def ai_PG (o : Option (Nat)) (sl : List Nat) (m pc : Nat) (ls : ai_L) (s : List ai_V) (z : ai_Z) (h : ai_H) (r : ai_A) (t i : Nat) (v : Nat × Nat) : Prop := match o with
  | some j => ai_XS sl m pc ls s (z.1, z.2.1, z.2.2.1, ai_wR z.2.2.2 t i j (some v)) h r
  | none => False
theorem ai_PG_s (j : Nat) (sl : List Nat) (m pc : Nat) (ls : ai_L) (s : List ai_V) (z : ai_Z) (h : ai_H) (r : ai_A) (t i : Nat) (v : Nat × Nat) : ai_PG (some j) sl m pc ls s z h r t i v ↔ ai_XS sl m pc ls s (z.1, z.2.1, z.2.2.1, ai_wR z.2.2.2 t i j (some v)) h r := Iff.rfl
def ai_PC (c : Prop) (sl : List Nat) (m pc1 pc2 : Nat) (ls : ai_L) (s : List ai_V) (z : ai_Z) (h : ai_H) (r : ai_A) : Prop := (c → ai_XS sl m pc1 ls s z h r) ∧ (¬ c → ai_XS sl m pc2 ls s z h r)
theorem ai_PC_t (sl : List Nat) (m pc1 pc2 : Nat) (ls : ai_L) (s : List ai_V) (z : ai_Z) (h : ai_H) (r : ai_A) : ai_PC True sl m pc1 pc2 ls s z h r ↔ ai_XS sl m pc1 ls s z h r := ⟨fun h => h.1 trivial, fun h => ⟨fun _ => h, fun n => absurd trivial n⟩⟩
theorem ai_PC_f (sl : List Nat) (m pc1 pc2 : Nat) (ls : ai_L) (s : List ai_V) (z : ai_Z) (h : ai_H) (r : ai_A) : ai_PC False sl m pc1 pc2 ls s z h r ↔ ai_XS sl m pc2 ls s z h r := ⟨fun h => h.2 id, fun h => ⟨False.elim, fun _ => h⟩⟩
theorem ai_PC_i {c : Prop} {sl : List Nat} {m pc1 pc2 : Nat} {ls : ai_L} {s : List ai_V} {z : ai_Z} {h : ai_H} {r : ai_A} (a : c → ai_XS sl m pc1 ls s z h r) (b : ¬ c → ai_XS sl m pc2 ls s z h r) : ai_PC c sl m pc1 pc2 ls s z h r := ⟨a, b⟩
theorem ai_two (c : Prop) (d : Decidable c) (a b : Nat) (f : Nat → Prop) : f (@ite _ c d a b) ↔ (c → f a) ∧ (¬ c → f b) := by
  by_cases hc : c
  · rw [if_pos hc]
    exact ⟨fun h => ⟨fun _ => h, fun n => absurd hc n⟩, fun h => h.1 hc⟩
  · rw [if_neg hc]
    exact ⟨fun h => ⟨fun n => absurd n hc, fun _ => h⟩, fun h => h.2 hc⟩
theorem xe_iconst (sl : List Nat) (len m pc : Nat) (c : Int) (ls : ai_L) (s : List ai_V) (z : ai_Z) (h : ai_H) (r : ai_A) : ai_XE sl (some (.iconst c, len)) m pc ls s z h r ↔ ai_XS sl m (pc + len) ls (ai_i (Int32.ofInt c) :: s) z h r := Iff.rfl
theorem xe_bipush (sl : List Nat) (len m pc : Nat) (c : Int) (ls : ai_L) (s : List ai_V) (z : ai_Z) (h : ai_H) (r : ai_A) : ai_XE sl (some (.bipush c, len)) m pc ls s z h r ↔ ai_XS sl m (pc + len) ls (ai_i (Int8.ofInt c).toInt32 :: s) z h r := Iff.rfl
theorem xe_sipush (sl : List Nat) (len m pc : Nat) (c : Int) (ls : ai_L) (s : List ai_V) (z : ai_Z) (h : ai_H) (r : ai_A) : ai_XE sl (some (.sipush c, len)) m pc ls s z h r ↔ ai_XS sl m (pc + len) ls (ai_i (Int16.ofInt c).toInt32 :: s) z h r := Iff.rfl
theorem xe_lconst (sl : List Nat) (len m pc : Nat) (c : Fin 2) (ls : ai_L) (s : List ai_V) (z : ai_Z) (h : ai_H) (r : ai_A) : ai_XE sl (some (.lconst c, len)) m pc ls s z h r ↔ ai_XS sl m (pc + len) ls (ai_j (Int64.ofNat c) :: s) z h r := Iff.rfl
theorem xe_ldc (sl : List Nat) (len m pc : Nat) (k : Nat) (ls : ai_L) (s : List ai_V) (z : ai_Z) (h : ai_H) (r : ai_A) : ai_XE sl (some (.ldc k, len)) m pc ls s z h r ↔ ai_PI (ai_ci (m / 100) k) sl m (pc + len) ls s z h r := by
  unfold ai_XE ai_PI
  dsimp only [ai_ex]
  cases (ai_ci (m / 100) k) <;> exact Iff.rfl
theorem xe_ldc_w (sl : List Nat) (len m pc : Nat) (k : Nat) (ls : ai_L) (s : List ai_V) (z : ai_Z) (h : ai_H) (r : ai_A) : ai_XE sl (some (.ldc_w k, len)) m pc ls s z h r ↔ ai_PI (ai_ci (m / 100) k) sl m (pc + len) ls s z h r := by
  unfold ai_XE ai_PI
  dsimp only [ai_ex]
  cases (ai_ci (m / 100) k) <;> exact Iff.rfl
theorem xe_ldc2_w (sl : List Nat) (len m pc : Nat) (k : Nat) (ls : ai_L) (s : List ai_V) (z : ai_Z) (h : ai_H) (r : ai_A) : ai_XE sl (some (.ldc2_w k, len)) m pc ls s z h r ↔ ai_PJ (ai_cj (m / 100) k) sl m (pc + len) ls s z h r := by
  unfold ai_XE ai_PJ
  dsimp only [ai_ex]
  cases (ai_cj (m / 100) k) <;> exact Iff.rfl
theorem xe_iload (sl : List Nat) (len m pc : Nat) (k : Nat) (ls : ai_L) (s : List ai_V) (z : ai_Z) (h : ai_H) (r : ai_A) : ai_XE sl (some (.iload k, len)) m pc ls s z h r ↔ ai_PI (ai_ldi ls k) sl m (pc + len) ls s z h r := by
  unfold ai_XE ai_PI
  dsimp only [ai_ex]
  cases (ai_ldi ls k) <;> exact Iff.rfl
theorem xe_iload_n (sl : List Nat) (len m pc : Nat) (k : Fin 4) (ls : ai_L) (s : List ai_V) (z : ai_Z) (h : ai_H) (r : ai_A) : ai_XE sl (some (.iload_n k, len)) m pc ls s z h r ↔ ai_PI (ai_ldi ls k) sl m (pc + len) ls s z h r := by
  unfold ai_XE ai_PI
  dsimp only [ai_ex]
  cases (ai_ldi ls k) <;> exact Iff.rfl
theorem xe_lload (sl : List Nat) (len m pc : Nat) (k : Nat) (ls : ai_L) (s : List ai_V) (z : ai_Z) (h : ai_H) (r : ai_A) : ai_XE sl (some (.lload k, len)) m pc ls s z h r ↔ ai_PJ (ai_ldj ls k) sl m (pc + len) ls s z h r := by
  unfold ai_XE ai_PJ
  dsimp only [ai_ex]
  cases (ai_ldj ls k) <;> exact Iff.rfl
theorem xe_lload_n (sl : List Nat) (len m pc : Nat) (k : Fin 4) (ls : ai_L) (s : List ai_V) (z : ai_Z) (h : ai_H) (r : ai_A) : ai_XE sl (some (.lload_n k, len)) m pc ls s z h r ↔ ai_PJ (ai_ldj ls k) sl m (pc + len) ls s z h r := by
  unfold ai_XE ai_PJ
  dsimp only [ai_ex]
  cases (ai_ldj ls k) <;> exact Iff.rfl
theorem xe_aload (sl : List Nat) (len m pc : Nat) (k : Nat) (ls : ai_L) (s : List ai_V) (z : ai_Z) (h : ai_H) (r : ai_A) : ai_XE sl (some (.aload k, len)) m pc ls s z h r ↔ ai_PR (ai_ldr ls k) sl m (pc + len) ls s z h r := by
  unfold ai_XE ai_PR
  dsimp only [ai_ex]
  cases (ai_ldr ls k) <;> exact Iff.rfl
theorem xe_aload_n (sl : List Nat) (len m pc : Nat) (k : Fin 4) (ls : ai_L) (s : List ai_V) (z : ai_Z) (h : ai_H) (r : ai_A) : ai_XE sl (some (.aload_n k, len)) m pc ls s z h r ↔ ai_PR (ai_ldr ls k) sl m (pc + len) ls s z h r := by
  unfold ai_XE ai_PR
  dsimp only [ai_ex]
  cases (ai_ldr ls k) <;> exact Iff.rfl
theorem xe_istore (sl : List Nat) (len m pc : Nat) (x : Int32) (k : Nat) (ls : ai_L) (s : List ai_V) (z : ai_Z) (h : ai_H) (r : ai_A) : ai_XE sl (some (.istore k, len)) m pc ls (ai_i x :: s) z h r ↔ ai_PL (ai_st1 ls k (ai_i x)) sl m (pc + len) ls s z h r := by
  unfold ai_XE ai_PL
  dsimp only [ai_ex]
  cases (ai_st1 ls k (ai_i x)) <;> exact Iff.rfl
theorem xe_istore_n (sl : List Nat) (len m pc : Nat) (x : Int32) (k : Fin 4) (ls : ai_L) (s : List ai_V) (z : ai_Z) (h : ai_H) (r : ai_A) : ai_XE sl (some (.istore_n k, len)) m pc ls (ai_i x :: s) z h r ↔ ai_PL (ai_st1 ls k (ai_i x)) sl m (pc + len) ls s z h r := by
  unfold ai_XE ai_PL
  dsimp only [ai_ex]
  cases (ai_st1 ls k (ai_i x)) <;> exact Iff.rfl
theorem xe_lstore (sl : List Nat) (len m pc : Nat) (x : Int64) (k : Nat) (ls : ai_L) (s : List ai_V) (z : ai_Z) (h : ai_H) (r : ai_A) : ai_XE sl (some (.lstore k, len)) m pc ls (ai_j x :: s) z h r ↔ ai_PL (ai_st2 ls k (ai_j x)) sl m (pc + len) ls s z h r := by
  unfold ai_XE ai_PL
  dsimp only [ai_ex]
  cases (ai_st2 ls k (ai_j x)) <;> exact Iff.rfl
theorem xe_lstore_n (sl : List Nat) (len m pc : Nat) (x : Int64) (k : Fin 4) (ls : ai_L) (s : List ai_V) (z : ai_Z) (h : ai_H) (r : ai_A) : ai_XE sl (some (.lstore_n k, len)) m pc ls (ai_j x :: s) z h r ↔ ai_PL (ai_st2 ls k (ai_j x)) sl m (pc + len) ls s z h r := by
  unfold ai_XE ai_PL
  dsimp only [ai_ex]
  cases (ai_st2 ls k (ai_j x)) <;> exact Iff.rfl
theorem xe_astore (sl : List Nat) (len m pc : Nat) (t i : Nat) (k : Nat) (ls : ai_L) (s : List ai_V) (z : ai_Z) (h : ai_H) (r : ai_A) : ai_XE sl (some (.astore k, len)) m pc ls (ai_r t i :: s) z h r ↔ ai_PL (ai_st1 ls k (ai_r t i)) sl m (pc + len) ls s z h r := by
  unfold ai_XE ai_PL
  dsimp only [ai_ex]
  cases (ai_st1 ls k (ai_r t i)) <;> exact Iff.rfl
theorem xe_astore_n (sl : List Nat) (len m pc : Nat) (t i : Nat) (k : Fin 4) (ls : ai_L) (s : List ai_V) (z : ai_Z) (h : ai_H) (r : ai_A) : ai_XE sl (some (.astore_n k, len)) m pc ls (ai_r t i :: s) z h r ↔ ai_PL (ai_st1 ls k (ai_r t i)) sl m (pc + len) ls s z h r := by
  unfold ai_XE ai_PL
  dsimp only [ai_ex]
  cases (ai_st1 ls k (ai_r t i)) <;> exact Iff.rfl
def ai_inc (ls : ai_L) (k : Nat) (c : Int) : Option ai_L := match ai_ldi ls k with
  | some x => ai_st1 ls k (ai_i (x + Int32.ofInt c))
  | none => none
theorem xe_iinc (sl : List Nat) (len m pc : Nat) (k : Nat) (c : Int) (ls : ai_L) (s : List ai_V) (z : ai_Z) (h : ai_H) (r : ai_A) : ai_XE sl (some (.iinc k c, len)) m pc ls s z h r ↔ ai_PL (ai_inc ls k c) sl m (pc + len) ls s z h r := by
  unfold ai_XE ai_inc
  dsimp only [ai_ex]
  cases ai_ldi ls k with
  | none => exact Iff.rfl
  | some x =>
    dsimp only
    cases ai_st1 ls k (ai_i (x + Int32.ofInt c)) <;> exact Iff.rfl
theorem xe_iadd (sl : List Nat) (len m pc : Nat) (x y : Int32) (ls : ai_L) (s : List ai_V) (z : ai_Z) (h : ai_H) (r : ai_A) : ai_XE sl (some (.iadd, len)) m pc ls (ai_i y :: ai_i x :: s) z h r ↔ ai_XS sl m (pc + len) ls (ai_i (x + y) :: s) z h r := Iff.rfl
theorem xe_isub (sl : List Nat) (len m pc : Nat) (x y : Int32) (ls : ai_L) (s : List ai_V) (z : ai_Z) (h : ai_H) (r : ai_A) : ai_XE sl (some (.isub, len)) m pc ls (ai_i y :: ai_i x :: s) z h r ↔ ai_XS sl m (pc + len) ls (ai_i (x - y) :: s) z h r := Iff.rfl
theorem xe_imul (sl : List Nat) (len m pc : Nat) (x y : Int32) (ls : ai_L) (s : List ai_V) (z : ai_Z) (h : ai_H) (r : ai_A) : ai_XE sl (some (.imul, len)) m pc ls (ai_i y :: ai_i x :: s) z h r ↔ ai_XS sl m (pc + len) ls (ai_i (x * y) :: s) z h r := Iff.rfl
theorem xe_iand (sl : List Nat) (len m pc : Nat) (x y : Int32) (ls : ai_L) (s : List ai_V) (z : ai_Z) (h : ai_H) (r : ai_A) : ai_XE sl (some (.iand, len)) m pc ls (ai_i y :: ai_i x :: s) z h r ↔ ai_XS sl m (pc + len) ls (ai_i (x &&& y) :: s) z h r := Iff.rfl
theorem xe_ior (sl : List Nat) (len m pc : Nat) (x y : Int32) (ls : ai_L) (s : List ai_V) (z : ai_Z) (h : ai_H) (r : ai_A) : ai_XE sl (some (.ior, len)) m pc ls (ai_i y :: ai_i x :: s) z h r ↔ ai_XS sl m (pc + len) ls (ai_i (x ||| y) :: s) z h r := Iff.rfl
theorem xe_ishl (sl : List Nat) (len m pc : Nat) (x y : Int32) (ls : ai_L) (s : List ai_V) (z : ai_Z) (h : ai_H) (r : ai_A) : ai_XE sl (some (.ishl, len)) m pc ls (ai_i y :: ai_i x :: s) z h r ↔ ai_XS sl m (pc + len) ls (ai_i (x <<< (y &&& 31)) :: s) z h r := Iff.rfl
theorem xe_ishr (sl : List Nat) (len m pc : Nat) (x y : Int32) (ls : ai_L) (s : List ai_V) (z : ai_Z) (h : ai_H) (r : ai_A) : ai_XE sl (some (.ishr, len)) m pc ls (ai_i y :: ai_i x :: s) z h r ↔ ai_XS sl m (pc + len) ls (ai_i (x >>> (y &&& 31)) :: s) z h r := Iff.rfl
theorem xe_ladd (sl : List Nat) (len m pc : Nat) (x y : Int64) (ls : ai_L) (s : List ai_V) (z : ai_Z) (h : ai_H) (r : ai_A) : ai_XE sl (some (.ladd, len)) m pc ls (ai_j y :: ai_j x :: s) z h r ↔ ai_XS sl m (pc + len) ls (ai_j (x + y) :: s) z h r := Iff.rfl
theorem xe_lsub (sl : List Nat) (len m pc : Nat) (x y : Int64) (ls : ai_L) (s : List ai_V) (z : ai_Z) (h : ai_H) (r : ai_A) : ai_XE sl (some (.lsub, len)) m pc ls (ai_j y :: ai_j x :: s) z h r ↔ ai_XS sl m (pc + len) ls (ai_j (x - y) :: s) z h r := Iff.rfl
theorem xe_lmul (sl : List Nat) (len m pc : Nat) (x y : Int64) (ls : ai_L) (s : List ai_V) (z : ai_Z) (h : ai_H) (r : ai_A) : ai_XE sl (some (.lmul, len)) m pc ls (ai_j y :: ai_j x :: s) z h r ↔ ai_XS sl m (pc + len) ls (ai_j (x * y) :: s) z h r := Iff.rfl
theorem xe_lcmp (sl : List Nat) (len m pc : Nat) (x y : Int64) (ls : ai_L) (s : List ai_V) (z : ai_Z) (h : ai_H) (r : ai_A) : ai_XE sl (some (.lcmp, len)) m pc ls (ai_j y :: ai_j x :: s) z h r ↔ ai_XS sl m (pc + len) ls (ai_i (lg_cmp x y) :: s) z h r := Iff.rfl
theorem xe_i2l (sl : List Nat) (len m pc : Nat) (x : Int32) (ls : ai_L) (s : List ai_V) (z : ai_Z) (h : ai_H) (r : ai_A) : ai_XE sl (some (.i2l, len)) m pc ls (ai_i x :: s) z h r ↔ ai_XS sl m (pc + len) ls (ai_j x.toInt64 :: s) z h r := Iff.rfl
theorem xe_l2i (sl : List Nat) (len m pc : Nat) (x : Int64) (ls : ai_L) (s : List ai_V) (z : ai_Z) (h : ai_H) (r : ai_A) : ai_XE sl (some (.l2i, len)) m pc ls (ai_j x :: s) z h r ↔ ai_XS sl m (pc + len) ls (ai_i x.toInt32 :: s) z h r := Iff.rfl
theorem xe_ineg (sl : List Nat) (len m pc : Nat) (x : Int32) (ls : ai_L) (s : List ai_V) (z : ai_Z) (h : ai_H) (r : ai_A) : ai_XE sl (some (.ineg, len)) m pc ls (ai_i x :: s) z h r ↔ ai_XS sl m (pc + len) ls (ai_i (-x) :: s) z h r := Iff.rfl
theorem xe_idiv (sl : List Nat) (len m pc : Nat) (x y : Int32) (hy : ¬ y = 0) (ls : ai_L) (s : List ai_V) (z : ai_Z) (h : ai_H) (r : ai_A) : ai_XE sl (some (.idiv, len)) m pc ls (ai_i y :: ai_i x :: s) z h r ↔ ai_XS sl m (pc + len) ls (ai_i (x / y) :: s) z h r := by
  unfold ai_XE
  dsimp only [ai_ex]
  rw [if_neg hy]
theorem xe_irem (sl : List Nat) (len m pc : Nat) (x y : Int32) (hy : ¬ y = 0) (ls : ai_L) (s : List ai_V) (z : ai_Z) (h : ai_H) (r : ai_A) : ai_XE sl (some (.irem, len)) m pc ls (ai_i y :: ai_i x :: s) z h r ↔ ai_XS sl m (pc + len) ls (ai_i (x - x / y * y) :: s) z h r := by
  unfold ai_XE
  dsimp only [ai_ex]
  rw [if_neg hy]
theorem xe_ldiv (sl : List Nat) (len m pc : Nat) (x y : Int64) (hy : ¬ y = 0) (ls : ai_L) (s : List ai_V) (z : ai_Z) (h : ai_H) (r : ai_A) : ai_XE sl (some (.ldiv, len)) m pc ls (ai_j y :: ai_j x :: s) z h r ↔ ai_XS sl m (pc + len) ls (ai_j (x / y) :: s) z h r := by
  unfold ai_XE
  dsimp only [ai_ex]
  rw [if_neg hy]
theorem xe_dupi (sl : List Nat) (len m pc : Nat) (x : Int32) (ls : ai_L) (s : List ai_V) (z : ai_Z) (h : ai_H) (r : ai_A) : ai_XE sl (some (.dup, len)) m pc ls (ai_i x :: s) z h r ↔ ai_XS sl m (pc + len) ls (ai_i x :: ai_i x :: s) z h r := Iff.rfl
theorem xe_dupr (sl : List Nat) (len m pc : Nat) (t i : Nat) (ls : ai_L) (s : List ai_V) (z : ai_Z) (h : ai_H) (r : ai_A) : ai_XE sl (some (.dup, len)) m pc ls (ai_r t i :: s) z h r ↔ ai_XS sl m (pc + len) ls (ai_r t i :: ai_r t i :: s) z h r := Iff.rfl
theorem xe_dup2ir (sl : List Nat) (len m pc : Nat) (x : Int32) (t i : Nat) (ls : ai_L) (s : List ai_V) (z : ai_Z) (h : ai_H) (r : ai_A) : ai_XE sl (some (.dup2, len)) m pc ls (ai_i x :: ai_r t i :: s) z h r ↔ ai_XS sl m (pc + len) ls (ai_i x :: ai_r t i :: ai_i x :: ai_r t i :: s) z h r := Iff.rfl
theorem xe_getfield (sl : List Nat) (len m pc : Nat) (k t i : Nat) (ls : ai_L) (s : List ai_V) (z : ai_Z) (h : ai_H) (r : ai_A) : ai_XE sl (some (.getfield k, len)) m pc ls (ai_r t i :: s) z h r ↔ ai_PV (ai_gf (m / 100) k z.1 z.2.2.2 h t i) sl m (pc + len) ls s z h r := by
  unfold ai_XE ai_PV
  dsimp only [ai_ex]
  cases (ai_gf (m / 100) k z.1 z.2.2.2 h t i) <;> exact Iff.rfl
theorem xe_putfield (sl : List Nat) (len m pc : Nat) (k t i : Nat) (v : ai_V) (ls : ai_L) (s : List ai_V) (z : ai_Z) (h : ai_H) (r : ai_A) : ai_XE sl (some (.putfield k, len)) m pc ls (v :: ai_r t i :: s) z h r ↔ ai_PF (ai_pf m k z.1 z.2.2.2 h t i v) sl m (pc + len) ls s z h r := by
  unfold ai_XE ai_PF
  dsimp only [ai_ex]
  cases (ai_pf m k z.1 z.2.2.2 h t i v) <;> exact Iff.rfl
theorem xe_iaload (sl : List Nat) (len m pc : Nat) (x : Int32) (t i : Nat) (ls : ai_L) (s : List ai_V) (z : ai_Z) (h : ai_H) (r : ai_A) : ai_XE sl (some (.iaload, len)) m pc ls (ai_i x :: ai_r t i :: s) z h r ↔ ai_PI (ai_il z.1 z.2.2.1 h t i x) sl m (pc + len) ls s z h r := by
  unfold ai_XE ai_PI
  dsimp only [ai_ex]
  cases (ai_il z.1 z.2.2.1 h t i x) <;> exact Iff.rfl
theorem xe_laload (sl : List Nat) (len m pc : Nat) (x : Int32) (t i : Nat) (ls : ai_L) (s : List ai_V) (z : ai_Z) (h : ai_H) (r : ai_A) : ai_XE sl (some (.laload, len)) m pc ls (ai_i x :: ai_r t i :: s) z h r ↔ ai_PA (ai_js z.1 h t i x) sl m (pc + len) ls s z h r t i := by
  unfold ai_XE ai_PA
  dsimp only [ai_ex]
  cases (ai_js z.1 h t i x) <;> exact Iff.rfl
theorem xe_baload (sl : List Nat) (len m pc : Nat) (x : Int32) (t i : Nat) (ls : ai_L) (s : List ai_V) (z : ai_Z) (h : ai_H) (r : ai_A) : ai_XE sl (some (.baload, len)) m pc ls (ai_i x :: ai_r t i :: s) z h r ↔ ai_PZ (ai_ald (ai_kz t) z.1 t i x) sl m (pc + len) ls s z h r t i := by
  unfold ai_XE ai_PZ
  dsimp only [ai_ex]
  cases (ai_ald (ai_kz t) z.1 t i x) <;> exact Iff.rfl
theorem xe_aaload (sl : List Nat) (len m pc : Nat) (x : Int32) (t i : Nat) (ls : ai_L) (s : List ai_V) (z : ai_Z) (h : ai_H) (r : ai_A) : ai_XE sl (some (.aaload, len)) m pc ls (ai_i x :: ai_r t i :: s) z h r ↔ ai_PQ (ai_ald ((ai_kr t).map fun r => r.2) z.1 t i x) sl m (pc + len) ls s z h r t i := by
  unfold ai_XE ai_PQ
  dsimp only [ai_ex]
  cases ai_ald ((ai_kr t).map fun r => r.2) z.1 t i x with
  | none => exact Iff.rfl
  | some j =>
    unfold ai_PR
    dsimp only
    cases z.2.2.2 t i j <;> exact Iff.rfl
theorem xe_iastore (sl : List Nat) (len m pc : Nat) (v x : Int32) (t i : Nat) (ls : ai_L) (s : List ai_V) (z : ai_Z) (h : ai_H) (r : ai_A) : ai_XE sl (some (.iastore, len)) m pc ls (ai_i v :: ai_i x :: ai_r t i :: s) z h r ↔ ai_PS (ai_is z.1 h t i x) sl m (pc + len) ls s z h r t i v := by
  unfold ai_XE ai_PS
  dsimp only [ai_ex]
  cases (ai_is z.1 h t i x) <;> exact Iff.rfl
theorem xe_lastore (sl : List Nat) (len m pc : Nat) (v : Int64) (x : Int32) (t i : Nat) (ls : ai_L) (s : List ai_V) (z : ai_Z) (h : ai_H) (r : ai_A) : ai_XE sl (some (.lastore, len)) m pc ls (ai_j v :: ai_i x :: ai_r t i :: s) z h r ↔ ai_PT (ai_js z.1 h t i x) sl m (pc + len) ls s z h r t i v := by
  unfold ai_XE ai_PT
  dsimp only [ai_ex]
  cases (ai_js z.1 h t i x) <;> exact Iff.rfl
theorem xe_bastore (sl : List Nat) (len m pc : Nat) (v x : Int32) (t i : Nat) (hv : v = 0 ∨ v = 1) (ls : ai_L) (s : List ai_V) (z : ai_Z) (h : ai_H) (r : ai_A) : ai_XE sl (some (.bastore, len)) m pc ls (ai_i v :: ai_i x :: ai_r t i :: s) z h r ↔ ai_PS (ai_ald (ai_kz t) z.1 t i x) sl m (pc + len) ls s z h r t i v := by
  unfold ai_XE ai_PS
  dsimp only [ai_ex]
  rw [if_pos hv]
  cases ai_ald (ai_kz t) z.1 t i x <;> exact Iff.rfl
theorem xe_aastore (sl : List Nat) (len m pc : Nat) (x : Int32) (t i t2 i2 : Nat) (c n : Nat) (ls : ai_L) (s : List ai_V) (z : ai_Z) (h : ai_H) (r : ai_A) (hk : ai_kr t = some (c, n)) (hv : ai_ko t2 = some c ∧ ai_al z.1 t2 i2 = true) : ai_XE sl (some (.aastore, len)) m pc ls (ai_r t2 i2 :: ai_i x :: ai_r t i :: s) z h r ↔ ai_PG (ai_ald (some n) z.1 t i x) sl m (pc + len) ls s z h r t i (t2, i2) := by
  unfold ai_XE ai_PG
  dsimp only [ai_ex]
  rw [hk]
  dsimp only
  rw [if_pos hv]
  cases ai_ald (some n) z.1 t i x <;> exact Iff.rfl
theorem xe_arraylength (sl : List Nat) (len m pc : Nat) (t i : Nat) (ls : ai_L) (s : List ai_V) (z : ai_Z) (h : ai_H) (r : ai_A) : ai_XE sl (some (.arraylength, len)) m pc ls (ai_r t i :: s) z h r ↔ ai_PI (ai_len z.1 z.2.2.1 t i) sl m (pc + len) ls s z h r := by
  unfold ai_XE ai_PI
  dsimp only [ai_ex]
  cases (ai_len z.1 z.2.2.1 t i) <;> exact Iff.rfl
theorem xe_min (sl : List Nat) (len m pc : Nat) (k : Nat) (x y : Int32) (ls : ai_L) (s : List ai_V) (z : ai_Z) (h : ai_H) (r : ai_A) (hf : ai_mt (m / 100) k = some 0) (ho : ai_okm m = true) (hs : s.length ≤ 4) : ai_XE sl (some (.invokestatic k, len)) m pc ls (ai_i y :: ai_i x :: s) z h r ↔ ai_XS sl m (pc + len) ls (ai_i (ai_min x y) :: s) z h r := by
  unfold ai_XE
  dsimp only [ai_ex]
  rw [hf]
  dsimp only
  rw [if_pos ho, show ai_mm 0 (ai_i y :: ai_i x :: s) = some (ai_i (ai_min x y) :: s) from if_pos hs]
  exact Iff.rfl
theorem xe_minL (sl : List Nat) (len m pc : Nat) (k : Nat) (x y : Int64) (ls : ai_L) (s : List ai_V) (z : ai_Z) (h : ai_H) (r : ai_A) (hf : ai_mt (m / 100) k = some 1) (ho : ai_okm m = true) (hs : s.length ≤ 4) : ai_XE sl (some (.invokestatic k, len)) m pc ls (ai_j y :: ai_j x :: s) z h r ↔ ai_XS sl m (pc + len) ls (ai_j (ai_minL x y) :: s) z h r := by
  unfold ai_XE
  dsimp only [ai_ex]
  rw [hf]
  dsimp only
  rw [if_pos ho, show ai_mm 1 (ai_j y :: ai_j x :: s) = some (ai_j (ai_minL x y) :: s) from if_pos hs]
  exact Iff.rfl
theorem xe_maxL (sl : List Nat) (len m pc : Nat) (k : Nat) (x y : Int64) (ls : ai_L) (s : List ai_V) (z : ai_Z) (h : ai_H) (r : ai_A) (hf : ai_mt (m / 100) k = some 2) (ho : ai_okm m = true) (hs : s.length ≤ 4) : ai_XE sl (some (.invokestatic k, len)) m pc ls (ai_j y :: ai_j x :: s) z h r ↔ ai_XS sl m (pc + len) ls (ai_j (ai_maxL x y) :: s) z h r := by
  unfold ai_XE
  dsimp only [ai_ex]
  rw [hf]
  dsimp only
  rw [if_pos ho, show ai_mm 2 (ai_j y :: ai_j x :: s) = some (ai_j (ai_maxL x y) :: s) from if_pos hs]
  exact Iff.rfl
theorem xe_object (sl : List Nat) (len m pc : Nat) (k t i : Nat) (ls : ai_L) (s : List ai_V) (z : ai_Z) (h : ai_H) (r : ai_A) (hf : ai_ob (m / 100) k = true) (ho : ai_okm m = true) (hs : s.length ≤ 4) : ai_XE sl (some (.invokespecial k, len)) m pc ls (ai_r t i :: s) z h r ↔ ai_XS sl m (pc + len) ls s z h r := by
  unfold ai_XE
  dsimp only [ai_ex]
  rw [if_pos ⟨hf, ho, hs⟩]
theorem xe_goto (sl : List Nat) (len m pc : Nat) (o : Int) (ls : ai_L) (s : List ai_V) (z : ai_Z) (h : ai_H) (r : ai_A) (ho : ai_tk pc o = true) : ai_XE sl (some (.goto o, len)) m pc ls s z h r ↔ ai_XS sl m (ai_tg pc o) ls s z h r := by
  unfold ai_XE
  dsimp only [ai_ex, ai_jp]
  rw [if_pos ho]
theorem xe_ifeq (sl : List Nat) (len m pc : Nat) (o : Int) (x : Int32) (ls : ai_L) (s : List ai_V) (z : ai_Z) (h : ai_H) (r : ai_A) (ho : ai_tk pc o = true) : ai_XE sl (some (.ifCond .eq o, len)) m pc ls (ai_i x :: s) z h r ↔ ai_PC (x = 0) sl m (ai_tg pc o) (pc + len) ls s z h r := by
  unfold ai_XE
  dsimp only [ai_ex, ai_jp]
  rw [if_pos ho]
  exact ai_two _ _ _ _ (fun n => ai_XS sl m n ls s z h r)
theorem xe_ifne (sl : List Nat) (len m pc : Nat) (o : Int) (x : Int32) (ls : ai_L) (s : List ai_V) (z : ai_Z) (h : ai_H) (r : ai_A) (ho : ai_tk pc o = true) : ai_XE sl (some (.ifCond .ne o, len)) m pc ls (ai_i x :: s) z h r ↔ ai_PC (¬ x = 0) sl m (ai_tg pc o) (pc + len) ls s z h r := by
  unfold ai_XE
  dsimp only [ai_ex, ai_jp]
  rw [if_pos ho]
  exact ai_two _ _ _ _ (fun n => ai_XS sl m n ls s z h r)
theorem xe_iflt (sl : List Nat) (len m pc : Nat) (o : Int) (x : Int32) (ls : ai_L) (s : List ai_V) (z : ai_Z) (h : ai_H) (r : ai_A) (ho : ai_tk pc o = true) : ai_XE sl (some (.ifCond .lt o, len)) m pc ls (ai_i x :: s) z h r ↔ ai_PC (x < 0) sl m (ai_tg pc o) (pc + len) ls s z h r := by
  unfold ai_XE
  dsimp only [ai_ex, ai_jp]
  rw [if_pos ho]
  exact ai_two _ _ _ _ (fun n => ai_XS sl m n ls s z h r)
theorem xe_ifge (sl : List Nat) (len m pc : Nat) (o : Int) (x : Int32) (ls : ai_L) (s : List ai_V) (z : ai_Z) (h : ai_H) (r : ai_A) (ho : ai_tk pc o = true) : ai_XE sl (some (.ifCond .ge o, len)) m pc ls (ai_i x :: s) z h r ↔ ai_PC (0 ≤ x) sl m (ai_tg pc o) (pc + len) ls s z h r := by
  unfold ai_XE
  dsimp only [ai_ex, ai_jp]
  rw [if_pos ho]
  exact ai_two _ _ _ _ (fun n => ai_XS sl m n ls s z h r)
theorem xe_ifgt (sl : List Nat) (len m pc : Nat) (o : Int) (x : Int32) (ls : ai_L) (s : List ai_V) (z : ai_Z) (h : ai_H) (r : ai_A) (ho : ai_tk pc o = true) : ai_XE sl (some (.ifCond .gt o, len)) m pc ls (ai_i x :: s) z h r ↔ ai_PC (0 < x) sl m (ai_tg pc o) (pc + len) ls s z h r := by
  unfold ai_XE
  dsimp only [ai_ex, ai_jp]
  rw [if_pos ho]
  exact ai_two _ _ _ _ (fun n => ai_XS sl m n ls s z h r)
theorem xe_ifle (sl : List Nat) (len m pc : Nat) (o : Int) (x : Int32) (ls : ai_L) (s : List ai_V) (z : ai_Z) (h : ai_H) (r : ai_A) (ho : ai_tk pc o = true) : ai_XE sl (some (.ifCond .le o, len)) m pc ls (ai_i x :: s) z h r ↔ ai_PC (x ≤ 0) sl m (ai_tg pc o) (pc + len) ls s z h r := by
  unfold ai_XE
  dsimp only [ai_ex, ai_jp]
  rw [if_pos ho]
  exact ai_two _ _ _ _ (fun n => ai_XS sl m n ls s z h r)
theorem xe_icmpeq (sl : List Nat) (len m pc : Nat) (o : Int) (x y : Int32) (ls : ai_L) (s : List ai_V) (z : ai_Z) (h : ai_H) (r : ai_A) (ho : ai_tk pc o = true) : ai_XE sl (some (.if_icmp .eq o, len)) m pc ls (ai_i y :: ai_i x :: s) z h r ↔ ai_PC (x = y) sl m (ai_tg pc o) (pc + len) ls s z h r := by
  unfold ai_XE
  dsimp only [ai_ex, ai_jp]
  rw [if_pos ho]
  exact ai_two _ _ _ _ (fun n => ai_XS sl m n ls s z h r)
theorem xe_icmpne (sl : List Nat) (len m pc : Nat) (o : Int) (x y : Int32) (ls : ai_L) (s : List ai_V) (z : ai_Z) (h : ai_H) (r : ai_A) (ho : ai_tk pc o = true) : ai_XE sl (some (.if_icmp .ne o, len)) m pc ls (ai_i y :: ai_i x :: s) z h r ↔ ai_PC (¬ x = y) sl m (ai_tg pc o) (pc + len) ls s z h r := by
  unfold ai_XE
  dsimp only [ai_ex, ai_jp]
  rw [if_pos ho]
  exact ai_two _ _ _ _ (fun n => ai_XS sl m n ls s z h r)
theorem xe_icmplt (sl : List Nat) (len m pc : Nat) (o : Int) (x y : Int32) (ls : ai_L) (s : List ai_V) (z : ai_Z) (h : ai_H) (r : ai_A) (ho : ai_tk pc o = true) : ai_XE sl (some (.if_icmp .lt o, len)) m pc ls (ai_i y :: ai_i x :: s) z h r ↔ ai_PC (x < y) sl m (ai_tg pc o) (pc + len) ls s z h r := by
  unfold ai_XE
  dsimp only [ai_ex, ai_jp]
  rw [if_pos ho]
  exact ai_two _ _ _ _ (fun n => ai_XS sl m n ls s z h r)
theorem xe_icmpge (sl : List Nat) (len m pc : Nat) (o : Int) (x y : Int32) (ls : ai_L) (s : List ai_V) (z : ai_Z) (h : ai_H) (r : ai_A) (ho : ai_tk pc o = true) : ai_XE sl (some (.if_icmp .ge o, len)) m pc ls (ai_i y :: ai_i x :: s) z h r ↔ ai_PC (y ≤ x) sl m (ai_tg pc o) (pc + len) ls s z h r := by
  unfold ai_XE
  dsimp only [ai_ex, ai_jp]
  rw [if_pos ho]
  exact ai_two _ _ _ _ (fun n => ai_XS sl m n ls s z h r)
theorem xe_icmpgt (sl : List Nat) (len m pc : Nat) (o : Int) (x y : Int32) (ls : ai_L) (s : List ai_V) (z : ai_Z) (h : ai_H) (r : ai_A) (ho : ai_tk pc o = true) : ai_XE sl (some (.if_icmp .gt o, len)) m pc ls (ai_i y :: ai_i x :: s) z h r ↔ ai_PC (y < x) sl m (ai_tg pc o) (pc + len) ls s z h r := by
  unfold ai_XE
  dsimp only [ai_ex, ai_jp]
  rw [if_pos ho]
  exact ai_two _ _ _ _ (fun n => ai_XS sl m n ls s z h r)
theorem xe_icmple (sl : List Nat) (len m pc : Nat) (o : Int) (x y : Int32) (ls : ai_L) (s : List ai_V) (z : ai_Z) (h : ai_H) (r : ai_A) (ho : ai_tk pc o = true) : ai_XE sl (some (.if_icmp .le o, len)) m pc ls (ai_i y :: ai_i x :: s) z h r ↔ ai_PC (x ≤ y) sl m (ai_tg pc o) (pc + len) ls s z h r := by
  unfold ai_XE
  dsimp only [ai_ex, ai_jp]
  rw [if_pos ho]
  exact ai_two _ _ _ _ (fun n => ai_XS sl m n ls s z h r)
theorem xe_return (sl : List Nat) (len m pc : Nat) (ls : ai_L) (z : ai_Z) (h : ai_H) (r : ai_A) (hm : ai_rk m = 0) : ai_XE sl (some (.return_, len)) m pc ls [] z h r ↔ r = (Sum.inl none, z, h) := by
  unfold ai_XE
  dsimp only [ai_ex, ai_jp, ai_rt]
  rw [if_pos hm]
theorem xe_ireturn (sl : List Nat) (len m pc : Nat) (x : Int32) (ls : ai_L) (z : ai_Z) (h : ai_H) (r : ai_A) (hm : ai_rk m = 1) : ai_XE sl (some (.ireturn, len)) m pc ls [ai_i x] z h r ↔ r = (Sum.inl (some (ai_i x)), z, h) := by
  unfold ai_XE
  dsimp only [ai_ex, ai_jp, ai_rt]
  rw [if_pos (Or.inl hm)]
theorem xe_zreturn (sl : List Nat) (len m pc : Nat) (x : Int32) (ls : ai_L) (z : ai_Z) (h : ai_H) (r : ai_A) (hm : ai_rk m = 2) (hx : x = 0 ∨ x = 1) : ai_XE sl (some (.ireturn, len)) m pc ls [ai_i x] z h r ↔ r = (Sum.inl (some (ai_i x)), z, h) := by
  unfold ai_XE
  dsimp only [ai_ex, ai_jp, ai_rt]
  rw [if_pos (Or.inr ⟨hm, hx⟩)]
theorem xe_lreturn (sl : List Nat) (len m pc : Nat) (x : Int64) (ls : ai_L) (z : ai_Z) (h : ai_H) (r : ai_A) (hm : ai_rk m = 3) : ai_XE sl (some (.lreturn, len)) m pc ls [ai_j x] z h r ↔ r = (Sum.inl (some (ai_j x)), z, h) := by
  unfold ai_XE
  dsimp only [ai_ex, ai_jp, ai_rt]
  rw [if_pos hm]
theorem xe_throw (sl : List Nat) (len m pc : Nat) (k E : Nat) (ls : ai_L) (z : ai_Z) (h : ai_H) (r : ai_A) (hx : ai_nc (m / 100) k = none) (ho : ai_okt m = true) (hE : ai_xt m pc = some E) : ai_XE sl (some (.new k, len)) m pc ls [] z h r ↔ r = (Sum.inr E, (z.1, z.2.1 + 1, z.2.2), h) := by
  unfold ai_XE
  dsimp only [ai_ex, ai_jp, ai_rt, ai_nw, ai_nd, ai_th]
  rw [hx, if_pos ho, hE]
  exact ⟨fun h => h.2, fun h => ⟨rfl, h⟩⟩
def ai_QC (o : Option (Nat × Nat)) (i : Instr) (sl : List Nat) (m pc : Nat) (ls : ai_L) (s : List ai_V) (z : ai_Z) (h : ai_H) (r : ai_A) : Prop := match o with
  | some (y, n) => ai_okr m y = true ∧ n ≤ s.length ∧ s.length ≤ n + 4 ∧ ai_rc i y z.1 (s.take n).reverse = true ∧ (ai_en y (s.take n).reverse).length = ai_mx y ∧ ∃ (o : ai_O) (z1 : ai_Z) (h1 : ai_H), ai_E y (s.take n).reverse z h (o, z1, h1) ∧ ai_EC m pc sl ls (s.drop n) o z1 h1 r
  | none => False
theorem ai_QC_s (y n : Nat) (i : Instr) (sl : List Nat) (m pc : Nat) (ls : ai_L) (s : List ai_V) (z : ai_Z) (h : ai_H) (r : ai_A) : ai_QC (some (y, n)) i sl m pc ls s z h r ↔ ai_okr m y = true ∧ n ≤ s.length ∧ s.length ≤ n + 4 ∧ ai_rc i y z.1 (s.take n).reverse = true ∧ (ai_en y (s.take n).reverse).length = ai_mx y ∧ ∃ (o : ai_O) (z1 : ai_Z) (h1 : ai_H), ai_E y (s.take n).reverse z h (o, z1, h1) ∧ ai_EC m pc sl ls (s.drop n) o z1 h1 r := Iff.rfl
theorem xe_callvirtual (sl : List Nat) (len m pc : Nat) (k : Nat) (ls : ai_L) (s : List ai_V) (z : ai_Z) (h : ai_H) (r : ai_A) : ai_XE sl (some (.invokevirtual k, len)) m pc ls s z h r ↔ ai_QC (ai_cv (m / 100) k) (.invokevirtual k) sl m pc ls s z h r := by
  have e1 : ai_ex m (.invokevirtual k) ls s z h = none := by
    rfl
  unfold ai_XE ai_QC
  dsimp only
  rw [e1]
  dsimp only [ai_jp, ai_rt, ai_nw, ai_nd, ai_th, ai_cl, ai_ct]
  cases ai_cv (m / 100) k with
  | none => exact Iff.rfl
  | some q =>
    obtain ⟨y, n⟩ := q
    dsimp only
    by_cases hn : ai_okr m y = true ∧ n ≤ s.length ∧ s.length ≤ n + 4 ∧ ai_rc (.invokevirtual k) y z.1 (s.take n).reverse = true
    · rw [if_pos hn]
      exact ⟨fun h => ⟨hn.1, hn.2.1, hn.2.2.1, hn.2.2.2, h⟩, fun h => h.2.2.2.2⟩
    · rw [if_neg hn]
      exact ⟨False.elim, fun h => hn ⟨h.1, h.2.1, h.2.2.1, h.2.2.2.1⟩⟩
theorem xe_callstatic (sl : List Nat) (len m pc : Nat) (k : Nat) (ls : ai_L) (s : List ai_V) (z : ai_Z) (h : ai_H) (r : ai_A) (hq : ai_mt (m / 100) k = none) : ai_XE sl (some (.invokestatic k, len)) m pc ls s z h r ↔ ai_QC (ai_cs (m / 100) k) (.invokestatic k) sl m pc ls s z h r := by
  have e1 : ai_ex m (.invokestatic k) ls s z h = none := by
    dsimp only [ai_ex]
    rw [hq]
  unfold ai_XE ai_QC
  dsimp only
  rw [e1]
  dsimp only [ai_jp, ai_rt, ai_nw, ai_nd, ai_th, ai_cl, ai_ct]
  cases ai_cs (m / 100) k with
  | none => exact Iff.rfl
  | some q =>
    obtain ⟨y, n⟩ := q
    dsimp only
    by_cases hn : ai_okr m y = true ∧ n ≤ s.length ∧ s.length ≤ n + 4 ∧ ai_rc (.invokestatic k) y z.1 (s.take n).reverse = true
    · rw [if_pos hn]
      exact ⟨fun h => ⟨hn.1, hn.2.1, hn.2.2.1, hn.2.2.2, h⟩, fun h => h.2.2.2.2⟩
    · rw [if_neg hn]
      exact ⟨False.elim, fun h => hn ⟨h.1, h.2.1, h.2.2.1, h.2.2.2.1⟩⟩
theorem xe_callspecial (sl : List Nat) (len m pc : Nat) (k : Nat) (ls : ai_L) (s : List ai_V) (z : ai_Z) (h : ai_H) (r : ai_A) (hq : ai_ob (m / 100) k = false) : ai_XE sl (some (.invokespecial k, len)) m pc ls s z h r ↔ ai_QC (ai_cp (m / 100) k) (.invokespecial k) sl m pc ls s z h r := by
  have e1 : ai_ex m (.invokespecial k) ls s z h = none := by
    dsimp only [ai_ex]
    split
    · rw [if_neg (by rw [hq]; rintro ⟨h, -⟩; cases h)]
    · rfl
  unfold ai_XE ai_QC
  dsimp only
  rw [e1]
  dsimp only [ai_jp, ai_rt, ai_nw, ai_nd, ai_th, ai_cl, ai_ct]
  cases ai_cp (m / 100) k with
  | none => exact Iff.rfl
  | some q =>
    obtain ⟨y, n⟩ := q
    dsimp only
    by_cases hn : ai_okr m y = true ∧ n ≤ s.length ∧ s.length ≤ n + 4 ∧ ai_rc (.invokespecial k) y z.1 (s.take n).reverse = true
    · rw [if_pos hn]
      exact ⟨fun h => ⟨hn.1, hn.2.1, hn.2.2.1, hn.2.2.2, h⟩, fun h => h.2.2.2.2⟩
    · rw [if_neg hn]
      exact ⟨False.elim, fun h => hn ⟨h.1, h.2.1, h.2.2.1, h.2.2.2.1⟩⟩
theorem xe_newL (sl : List Nat) (len m pc : Nat) (ls : ai_L) (s : List ai_V) (k L : Nat) (R : ai_R) (h : ai_H) (r : ai_A) : ai_XE sl (some (.newarray .long, len)) m pc ls (ai_i 5 :: s) (263, k, L, R) h r ↔ ai_XS sl m (pc + len) ls (ai_r 90 (263 + k) :: s) (263, k + 1, L, R) (ai_hd2 h 90 (263 + k)) r := by
  have e1 : ai_nw m (.newarray .long) (ai_i 5 :: s) (263, k, L, R) = none := by
    have e0 : ai_or 263 = (33, 0) := by decide +kernel
    unfold ai_nw
    dsimp only
    rw [e0]
    rfl
  have e2 : ai_nd (.newarray .long) (ai_i 5 :: s) = some (90, s) := by
    show (if (5 : Int32) = 5 then some (90, s) else none) = _
    exact if_pos rfl
  unfold ai_XE
  dsimp only [ai_ex, ai_jp, ai_rt]
  rw [e1, e2]
theorem xe_newI (sl : List Nat) (len m pc : Nat) (ls : ai_L) (s : List ai_V) (k L : Nat) (R : ai_R) (h : ai_H) (r : ai_A) : ai_XE sl (some (.newarray .int, len)) m pc ls (ai_i 10 :: s) (263, k, L, R) h r ↔ ai_XS sl m (pc + len) ls (ai_r 91 (263 + k) :: s) (263, k + 1, L, R) (ai_hd2 h 91 (263 + k)) r := by
  have e1 : ai_nw m (.newarray .int) (ai_i 10 :: s) (263, k, L, R) = none := by
    have e0 : ai_or 263 = (33, 0) := by decide +kernel
    unfold ai_nw
    dsimp only
    rw [e0]
    rfl
  have e2 : ai_nd (.newarray .int) (ai_i 10 :: s) = some (91, s) := by
    show (if (10 : Int32) = 10 then some (91, s) else none) = _
    exact if_pos rfl
  unfold ai_XE
  dsimp only [ai_ex, ai_jp, ai_rt]
  rw [e1, e2]
theorem ai_gf_of {w idx c k f n T i : Nat} {R : ai_R} {h : ai_H} (hf : ai_fl w idx = some (c, k, f)) (hk : ai_ko T = some c) (ha : ai_al n T i = true) : ai_gf w idx n R h T i = ai_kv R h T i k f := by
  unfold ai_gf
  rw [hf]
  dsimp only
  rw [if_pos ⟨hk, ha⟩]
theorem ai_gf_ref {w idx c k n T i a b : Nat} {R : ai_R} {h : ai_H} (hf : ai_fl w idx = some (c, k, 2)) (hk : ai_ko T = some c) (ha : ai_al n T i = true) (hR : R T i k = some (a, b)) : ai_gf w idx n R h T i = some (ai_r a b) := by
  rw [ai_gf_of hf hk ha]
  unfold ai_kv
  rw [hR]
  rfl
theorem ai_pf_of {m idx c k f n T i : Nat} {R : ai_R} {h : ai_H} {v : ai_V} (hf : ai_fp m idx = some (c, k, f)) (hk : ai_ko T = some c) (ha : ai_al n T i = true) : ai_pf m idx n R h T i v = ai_pv R h T i k f v := by
  unfold ai_pf
  rw [hf]
  dsimp only
  rw [if_pos ⟨hk, ha⟩]
theorem ai_ldi_0 (x : Int32) (l : ai_L) : ai_ldi (some (Sum.inl x) :: l) 0 = some x := rfl
theorem ai_ldi_s (a : Option ai_V) (l : ai_L) (k : Nat) : ai_ldi (a :: l) (k + 1) = ai_ldi l k := rfl
theorem ai_ldj_0 (x : Int64) (l : ai_L) : ai_ldj (some (Sum.inr (Sum.inl x)) :: l) 0 = some x := rfl
theorem ai_ldj_s (a : Option ai_V) (l : ai_L) (k : Nat) : ai_ldj (a :: l) (k + 1) = ai_ldj l k := rfl
theorem ai_ldr_0 (x : Nat × Nat) (l : ai_L) : ai_ldr (some (Sum.inr (Sum.inr x)) :: l) 0 = some x := rfl
theorem ai_ldr_s (a : Option ai_V) (l : ai_L) (k : Nat) : ai_ldr (a :: l) (k + 1) = ai_ldr l k := rfl
theorem ai_wide_i (x : Int32) : ai_wide (some (Sum.inl x)) = false := rfl
theorem ai_wide_j (x : Int64) : ai_wide (some (Sum.inr (Sum.inl x))) = true := rfl
theorem ai_wide_r (x : Nat × Nat) : ai_wide (some (Sum.inr (Sum.inr x))) = false := rfl
theorem ai_wide_n : ai_wide none = false := rfl
theorem ai_st1_0 (a : Option ai_V) (l : ai_L) (v : ai_V) : ai_st1 (a :: l) 0 v = some (some v :: l) := by simp [ai_st1, ai_cut]
theorem ai_st1_1 (a b : Option ai_V) (l : ai_L) (v : ai_V) : ai_st1 (a :: b :: l) 1 v = some ((if ai_wide a = true then none else a) :: some v :: l) := by simp [ai_st1, ai_cut]
theorem ai_st1_s (a : Option ai_V) (l : ai_L) (k : Nat) (v : ai_V) : ai_st1 (a :: l) (k + 2) v = (ai_st1 l (k + 1) v).map fun l => a :: l := by
  unfold ai_st1
  by_cases h : k + 1 < l.length
  · rw [if_pos h, if_pos (by simp; omega)]
    simp [ai_cut]
  · rw [if_neg h, if_neg (by simp; omega)]
    rfl
theorem ai_st2_0 (a b : Option ai_V) (l : ai_L) (v : ai_V) : ai_st2 (a :: b :: l) 0 v = some (some v :: none :: l) := by simp [ai_st2, ai_cut]
theorem ai_st2_1 (a b c : Option ai_V) (l : ai_L) (v : ai_V) : ai_st2 (a :: b :: c :: l) 1 v = some ((if ai_wide a = true then none else a) :: some v :: none :: l) := by simp [ai_st2, ai_cut]
theorem ai_st2_s (a : Option ai_V) (l : ai_L) (k : Nat) (v : ai_V) : ai_st2 (a :: l) (k + 2) v = (ai_st2 l (k + 1) v).map fun l => a :: l := by
  unfold ai_st2
  by_cases h : k + 1 + 1 < l.length
  · rw [if_pos h, if_pos (by simp; omega)]
    simp [ai_cut]
  · rw [if_neg h, if_neg (by simp; omega)]
    rfl
theorem ai_ix_lit (k n : Nat) (h : k < n) (hn : n < 2147483648) : ai_ix (OfNat.ofNat k) n = some k := ai_ix_nI h hn
theorem ai_one_i (x : Int32) : ai_one (Sum.inl x) = true := rfl
theorem ai_one_r (x : Nat × Nat) : ai_one (Sum.inr (Sum.inr x)) = true := rfl
theorem ai_EC_inl (m pc : Nat) (sl : List Nat) (ls : ai_L) (s : List ai_V) (v : Option ai_V) (z : ai_Z) (h : ai_H) (r : ai_A) : ai_EC m pc sl ls s (Sum.inl v) z h r ↔ ai_XS sl m (pc + 3) ls (v.toList ++ s) z h r := Iff.rfl
theorem ai_E_eq (y : Nat) (args : List ai_V) (z : ai_Z) (h : ai_H) (r : ai_A) : ai_E y args z h r ↔ ai_X y 0 (ai_en y args) [] z h r := Iff.rfl
theorem ai_e0_n : ai_e0 [] = [] := rfl
theorem ai_e0_i (x : Int32) (l : List ai_V) : ai_e0 (Sum.inl x :: l) = some (Sum.inl x) :: ai_e0 l := rfl
theorem ai_e0_j (x : Int64) (l : List ai_V) : ai_e0 (Sum.inr (Sum.inl x) :: l) = some (Sum.inr (Sum.inl x)) :: none :: ai_e0 l := rfl
theorem ai_e0_r (x : Nat × Nat) (l : List ai_V) : ai_e0 (Sum.inr (Sum.inr x) :: l) = some (Sum.inr (Sum.inr x)) :: ai_e0 l := rfl
theorem ai_ald_of {o : Option Nat} {n t i len : Nat} {x : Int32} (ho : o = some len) (ha : ai_al n t i = true) : ai_ald o n t i x = ai_ix x len := by
  subst ho
  exact if_pos ha
theorem ai_len_of {n L t i len : Nat} (ho : ai_ki t = some len) (ha : ai_al n t i = true) (ht : ¬ t = ai_sc) : ai_len n L t i = some (Int32.ofNat len) := by
  unfold ai_len
  rw [if_neg ht, ho]
  exact if_pos ha
theorem ai_f0 : ((0 : Fin 4) : Nat) = 0 := rfl
theorem ai_f1 : ((1 : Fin 4) : Nat) = 1 := rfl
theorem ai_f2 : ((2 : Fin 4) : Nat) = 2 := rfl
theorem ai_f3 : ((3 : Fin 4) : Nat) = 3 := rfl
theorem ai_u0 : Int64.ofNat ((0 : Fin 2) : Nat) = 0 := rfl
theorem ai_u1 : Int64.ofNat ((1 : Fin 2) : Nat) = 1 := rfl
theorem ai_inc_0 (x : Int32) (l : ai_L) (c : Int) : ai_inc (some (Sum.inl x) :: l) 0 c = some (some (Sum.inl (x + Int32.ofInt c)) :: l) := by simp [ai_inc, ai_ldi, ai_st1, ai_cut]
theorem ai_inc_1 (a : Option ai_V) (x : Int32) (l : ai_L) (c : Int) : ai_inc (a :: some (Sum.inl x) :: l) 1 c = some ((if ai_wide a = true then none else a) :: some (Sum.inl (x + Int32.ofInt c)) :: l) := by simp [ai_inc, ai_ldi, ai_st1, ai_cut]
theorem ai_inc_s (a : Option ai_V) (l : ai_L) (k : Nat) (c : Int) : ai_inc (a :: l) (k + 2) c = (ai_inc l (k + 1) c).map fun l => a :: l := by
  unfold ai_inc
  rw [ai_ldi_s]
  cases ai_ldi l (k + 1) with
  | none => rfl
  | some x =>
    dsimp only
    rw [ai_st1_s]
