/-! Counting and bases are the same on both sides -/
theorem rl_ow {x m : ai_H} {N W T D C : Nat} (R : rl x m N W T D C) (hT : T < 2 ^ 29) {i s : Nat} (hi : i < N) (hs : s < 3) : ai_owS x i = nI s ↔ lw_ow m i = nI (4 + s) := by
  rcases rl_own R hT hi with ⟨a, ha, h1, h2, -⟩ | ⟨j, hj, h1, h2, -⟩
  · rw [h1, h2]
    constructor
    · exact fun g => absurd g.symm (sf_m1 (by omega))
    · intro g
      have := (nI_eq (a := a) (b := 4 + s) (by omega) (by omega)).mp g
      omega
  · rw [h1, h2, nI_eq (by omega) (by omega), nI_eq (by omega) (by omega)]
    omega
theorem rl_by {x m : ai_H} {N W T D C : Nat} (R : rl x m N W T D C) {i : Nat} (hi : i < N) : ∃ b, b < 5 ∧ ai_gI x 14 i 1 = nI b ∧ ai_gI m 23 0 (5 * i + 1) = nI b := R.2.2.1 i hi
theorem rl_sl {x m : ai_H} {N W T D C : Nat} (R : rl x m N W T D C) {i : Nat} (hi : i < N) : ∃ b, b < 4 ∧ ai_gI x 14 i 0 = nI b ∧ ai_gI m 23 0 (5 * i) = nI b := R.2.1 i hi
theorem rl_ce {x m : ai_H} {N W T D C : Nat} (R : rl x m N W T D C) {i : Nat} (hi : i < N) : ∃ q, q ≤ 5000 ∧ ai_gI x 14 i 3 = nI q ∧ ai_gI m 23 0 (5 * i + 2) = nI q := by
  obtain ⟨q, h1, h2⟩ := R.2.2.2.1 i hi
  exact ⟨q, by omega, h2⟩
theorem rl_du {x m : ai_H} {N W T D C : Nat} (R : rl x m N W T D C) {i : Nat} (hi : i < N) : ∃ q, q ≤ 3000 ∧ ai_gI x 14 i 4 = nI q ∧ ai_gI m 23 0 (5 * i + 3) = nI q := by
  obtain ⟨q, h1, h2⟩ := R.2.2.2.2.1 i hi
  exact ⟨q, by omega, h2⟩
theorem rl_di {x m : ai_H} {N W T D C : Nat} (R : rl x m N W T D C) {i : Nat} (hi : i < N) : ∃ e, e < 16 ∧ ai_gI m 23 0 (5 * i + 4) = nI e ∧ ai_gI x 14 i 5 = nI (e % 2) ∧ ai_gI m 23 0 (5 * i + 4) - ai_gI m 23 0 (5 * i + 4) / 2 * 2 = nI (e % 2) := by
  have hN : N ≤ 10 := R.1.2.2.1
  obtain ⟨e, h1, h2, h3, -⟩ := R.2.2.2.2.2.1 i (by omega)
  have h2 : ai_gI m 23 0 (5 * i + 4) = nI e := h2
  exact ⟨e, h1, h2, h3, by rw [h2]; exact pk_rem (d := 2) (by omega) (by decide) (by decide)⟩
theorem rl_day {x m : ai_H} {N W T D C : Nat} (R : rl x m N W T D C) : ai_gI x 0 0 11 = nI D ∧ ai_gI m 32 0 0 = nI D ∧ D ≤ 2940 := ⟨R.1.2.2.2.2.2.2.2.1, R.1.2.2.2.2.2.2.2.2.1, R.1.2.2.2.2.2.2.2.2.2⟩
theorem ld_lt {q D k : Nat} (hq : q ≤ 3000) (hD : D ≤ 2940) (hk : k ≤ 100) : (nI k < nI D - nI q ↔ q + k < D) ∧ (nI q + nI k < nI D ↔ q + k < D) ∧ (nI D ≤ nI q + nI k ↔ ¬ q + k < D) := by
  have e1 : (nI D - nI q).toInt = (D : Int) - q := pk_sub_toInt (by omega) (by omega)
  have e2 : (nI k).toInt = (k : Int) := nI_toInt (by omega)
  have e3 : nI q + nI k = nI (q + k) := nI_add _ _
  refine ⟨?_, ?_, ?_⟩
  · rw [Int32.lt_iff_toInt_lt, e1, e2]
    omega
  · rw [e3, nI_ltI (by omega) (by omega)]
  · rw [e3, nI_leI (by omega) (by omega)]
    omega
theorem rl_old {x m : ai_H} {N W T D C : Nat} (R : rl x m N W T D C) {i : Nat} (hi : i < N) : (ai_oldX x i ↔ lw_old m i) ∧ (ai_gI m 32 0 0 ≤ ai_gI m 23 0 (5 * i + 3) + 60 ↔ ¬ ai_oldX x i) := by
  obtain ⟨d1, d2, d3⟩ := rl_day R
  obtain ⟨q, h1, h2, h3⟩ := rl_du R hi
  obtain ⟨a, b, c⟩ := ld_lt (k := 60) h1 d3 (by decide)
  unfold ai_oldX lw_old
  rw [d1, d2, h2, h3]
  exact ⟨a.trans b.symm, c.trans (not_congr a).symm⟩
theorem rl_so {x m : ai_H} {N W T D C : Nat} (R : rl x m N W T D C) {i : Nat} (hi : i < N) : ai_soX x i ↔ 0 < ai_gI m 23 0 (5 * i + 2) ∧ ai_gI m 23 0 (5 * i + 4) - ai_gI m 23 0 (5 * i + 4) / 2 * 2 = 0 ∧ ai_gI m 32 0 0 ≤ ai_gI m 23 0 (5 * i + 3) + 60 := by
  obtain ⟨q, h0, h1, h2⟩ := rl_ce R hi
  obtain ⟨e, e0, e1, e2, e3⟩ := rl_di R hi
  obtain ⟨o1, o2⟩ := rl_old R hi
  unfold ai_soX
  rw [o2, h1, h2, e2, e3]
theorem sum_tot (c : Nat → Prop) [DecidablePred c] (v : Nat → Int64) : ∀ n, ai_sum c v n = ai_tot (fun i => if c i then v i else 0) n
  | 0 => rfl
  | n + 1 => by
    show (if c n then ai_sum c v n + v n else ai_sum c v n) = ai_tot (fun i => if c i then v i else 0) n + (if c n then v n else 0)
    rw [sum_tot c v n]
    by_cases g : c n
    · rw [if_pos g, if_pos g]
    · rw [if_neg g, if_neg g, sf_add0]
/-- the two sums of the class, the one of the law -/
theorem rl_sum {x m : ai_H} {N W T D C : Nat} (R : rl x m N W T D C) (hT : T < 2 ^ 29) {i s : Nat} (hi : i < N) (hs : s < 3) : ∀ n, n ≤ N → ∃ S B : Nat, S ≤ 5000 * n ∧ B ≤ S ∧ (ai_sX x (nI s) (ai_gI x 14 i 1) n).toInt = S ∧ (ai_dX x (nI s) (ai_gI x 14 i 1) n).toInt = B ∧ (lw_al m i (nI (4 + s)) n).toInt = (S : Int) - 2 * B
  | 0, _ => ⟨0, 0, Nat.le_refl _, Nat.le_refl _, rfl, rfl, rfl⟩
  | n + 1, hn => by
    obtain ⟨S, B, h1, h2, h3, h4, h5⟩ := rl_sum R hT hi hs n (by omega)
    have hN : N ≤ 10 := R.1.2.2.1
    have hj : n < N := by omega
    obtain ⟨q, q0, q1, q2⟩ := rl_ce R hj
    obtain ⟨b, b0, b1, b2⟩ := rl_by R hj
    obtain ⟨c, c0, c1, c2⟩ := rl_by R hi
    obtain ⟨o1, -⟩ := rl_old R hj
    have u1 : ai_sX x (nI s) (ai_gI x 14 i 1) (n + 1) = if ai_cX x (nI s) (ai_gI x 14 i 1) n then ai_sX x (nI s) (ai_gI x 14 i 1) n + (ai_gI x 14 n 3).toInt64 else ai_sX x (nI s) (ai_gI x 14 i 1) n := rfl
    have u2 : ai_dX x (nI s) (ai_gI x 14 i 1) (n + 1) = if ai_cX x (nI s) (ai_gI x 14 i 1) n ∧ ai_oldX x n then ai_dX x (nI s) (ai_gI x 14 i 1) n + (ai_gI x 14 n 3).toInt64 else ai_dX x (nI s) (ai_gI x 14 i 1) n := rfl
    have e1 : ai_cX x (nI s) (ai_gI x 14 i 1) n ↔ lw_c m i (nI (4 + s)) n := by
      unfold ai_cX lw_c
      rw [rl_ow R hT hj hs, b1, b2, c1, c2]
    have t1 : (nI q).toInt = (q : Int) := nI_toInt (by omega)
    have t2 : (nI q).toInt64.toInt = (q : Int) := by rw [Int32.toInt_toInt64, t1]
    have t3 : (-(nI q)).toInt64.toInt = -(q : Int) := by
      rw [Int32.toInt_toInt64, Int32.toInt_neg, t1]
      exact Int.bmod_eq_of_le (by omega) (by omega)
    rw [u1, u2, al_s]
    unfold lw_v
    rw [q1, q2]
    by_cases g1 : lw_c m i (nI (4 + s)) n
    · rw [if_pos (e1.mpr g1), if_pos g1]
      by_cases g2 : lw_old m n
      · rw [if_pos ⟨e1.mpr g1, o1.mpr g2⟩, if_pos g2]
        refine ⟨S + q, B + q, by omega, by omega, ?_, ?_, ?_⟩
        · rw [Jvm.Kit.i64_add (by omega) (by omega), h3, t2]; omega
        · rw [Jvm.Kit.i64_add (by omega) (by omega), h4, t2]; omega
        · rw [Jvm.Kit.i64_add (by omega) (by omega), h5, t3]; omega
      · rw [if_neg (fun z => g2 (o1.mp z.2)), if_neg g2]
        refine ⟨S + q, B, by omega, by omega, ?_, h4, ?_⟩
        · rw [Jvm.Kit.i64_add (by omega) (by omega), h3, t2]; omega
        · rw [Jvm.Kit.i64_add (by omega) (by omega), h5, t2]; omega
    · rw [if_neg (fun z => g1 (e1.mp z)), if_neg g1, if_neg (fun z => g1 (e1.mp z.1)), sf_add0]
      exact ⟨S, B, by omega, h2, h3, h4, h5⟩
theorem rl_half {x m : ai_H} {N W T D C : Nat} (R : rl x m N W T D C) (hT : T < 2 ^ 29) {i s : Nat} (hi : i < N) (hs : s < 3) : 0 ≤ lw_al m i (nI (4 + s)) N ↔ 2 * ai_dX x (nI s) (ai_gI x 14 i 1) N ≤ ai_sX x (nI s) (ai_gI x 14 i 1) N := by
  obtain ⟨S, B, h1, h2, h3, h4, h5⟩ := rl_sum R hT hi hs N (Nat.le_refl N)
  have hN : N ≤ 10 := R.1.2.2.1
  have t2 : (2 * ai_dX x (nI s) (ai_gI x 14 i 1) N).toInt = 2 * (B : Int) := by
    have t : (2 : Int64).toInt = 2 := rfl
    rw [Jvm.Kit.i64_mul (by rw [t, h4]; omega) (by rw [t, h4]; omega), h4, t]
  rw [Int64.le_iff_toInt_le, Int64.le_iff_toInt_le, h5, t2, h3, show (0 : Int64).toInt = 0 from rfl]
  omega
/-- counts for a factor -/
theorem rl_cn {x m : ai_H} {N W T D C : Nat} (R : rl x m N W T D C) (hT : T < 2 ^ 29) {i s : Nat} (hi : i < N) (hs : s < 3) : lw_ct m N i (nI (4 + s)) ↔ ai_ctX x N i ∧ ai_owS x i = nI s := by
  have e1 := rl_ow R hT hi hs
  have e2 := rl_so R hi
  have e3 := rl_half R hT hi hs
  unfold lw_ct ai_ctX
  rw [← e1, e3, e2]
  constructor
  · rintro ⟨a1, a2, a3, a4, a5⟩
    rw [a1]
    exact ⟨⟨sf_m1 (by omega), ⟨a2, a3, a4⟩, a5⟩, rfl⟩
  · rintro ⟨⟨a1, ⟨a2, a3, a4⟩, a5⟩, a6⟩
    rw [a6] at a5
    exact ⟨a6, a2, a3, a4, a5⟩
/-! bases -/
theorem rl_cb {x m : ai_H} {N W T D C : Nat} (R : rl x m N W T D C) (hT : T < 2 ^ 29) {s a b : Nat} (hs : s < 3) (ha : a < 4) (hb : b < 5) {bf : Nat → Nat} (hf : ∀ i, i < N → bf i < 5 ∧ ai_gI m 23 0 (5 * i + 1) = nI (bf i)) : ai_cb x N (nI s) (nI a) b = lb_b m N (nI a) (nI (4 + s)) bf b N := by
  have key : ∀ i, i < N → (bf i = b ↔ ai_gI x 14 i 1 = nI b) := fun i hi => by
    obtain ⟨c, c0, c1, c2⟩ := rl_by R hi
    obtain ⟨f0, f1⟩ := hf i hi
    rw [c2] at f1
    have := (nI_eq (by omega) (by omega)).mp f1
    subst this
    rw [c1, nI_eq (by omega) (by omega)]
  have ks : ∀ i, i < N → (ai_gI x 14 i 0 = nI a ↔ ai_gI m 23 0 (5 * i) = nI a) := fun i hi => by
    obtain ⟨c, c0, c1, c2⟩ := rl_sl R hi
    rw [c1, c2]
  have kv : ∀ i, i < N → (ai_gI x 14 i 3).toInt64 = (ai_gI m 23 0 (5 * i + 2)).toInt64 := fun i hi => by
    obtain ⟨c, c0, c1, c2⟩ := rl_ce R hi
    rw [c1, c2]
  unfold ai_cb lb_b
  by_cases g : 2 * ai_dX x (nI s) (nI b) N ≤ ai_sX x (nI s) (nI b) N
  · rw [if_pos g]
    unfold ai_uX
    rw [sum_tot]
    refine tot_eq fun i hi => ?_
    have e : ai_bX x (nI s) (nI a) (nI b) i ↔ (ai_gI m 23 0 (5 * i) = nI a ∧ lw_ct m N i (nI (4 + s))) ∧ bf i = b := by
      unfold ai_bX
      rw [key i hi, ← ks i hi, rl_cn R hT hi hs]
      unfold ai_ctX
      constructor
      · rintro ⟨a1, a2, a3, a4⟩
        rw [a3, a2]
        exact ⟨⟨a1, ⟨sf_m1 (by omega), a4, g⟩, rfl⟩, rfl⟩
      · rintro ⟨⟨a1, ⟨a3, a4, a5⟩, a6⟩, a2⟩
        exact ⟨a1, a2, a6, a4⟩
    show (if ai_bX x (nI s) (nI a) (nI b) i then (ai_gI x 14 i 3).toInt64 else 0) = if (ai_gI m 23 0 (5 * i) = nI a ∧ lw_ct m N i (nI (4 + s))) ∧ bf i = b then (ai_gI m 23 0 (5 * i + 2)).toInt64 else 0
    rw [kv i hi]
    by_cases g2 : ai_bX x (nI s) (nI a) (nI b) i
    · rw [if_pos g2, if_pos (e.mp g2)]
    · rw [if_neg g2, if_neg (fun z => g2 (e.mpr z))]
  · rw [if_neg g]
    refine (tot_z N).symm.trans (tot_eq fun i hi => ?_)
    show (0 : Int64) = if (ai_gI m 23 0 (5 * i) = nI a ∧ lw_ct m N i (nI (4 + s))) ∧ bf i = b then (ai_gI m 23 0 (5 * i + 2)).toInt64 else 0
    rw [if_neg]
    rintro ⟨⟨-, a2⟩, a3⟩
    have q := (rl_cn R hT hi hs).mp a2
    have q3 := q.1.2.2
    rw [q.2, (key i hi).mp a3] at q3
    exact g q3
theorem rl_all {m : ai_H} {N : Nat} {a f : Int32} {bf : Nat → Nat} (hf : ∀ i, i < N → bf i < 5) : ∀ n, n ≤ N → ai_tot (fun b => lb_b m N a f bf b n) 5 = lb_a m N a f n
  | 0, _ => tot_z 5
  | n + 1, hn => by
    have ih := rl_all (m := m) (a := a) (f := f) hf n (by omega)
    have h5 := hf n (by omega)
    have e : ∀ b, lb_b m N a f bf b (n + 1) = lb_b m N a f bf b n + (if b = bf n then (if ai_gI m 23 0 (5 * n) = a ∧ lw_ct m N n f then (ai_gI m 23 0 (5 * n + 2)).toInt64 else 0) else 0) := fun b => by
      show lb_b m N a f bf b n + (if (ai_gI m 23 0 (5 * n) = a ∧ lw_ct m N n f) ∧ bf n = b then (ai_gI m 23 0 (5 * n + 2)).toInt64 else 0) = _
      congr 1
      by_cases g : b = bf n
      · rw [if_pos g]
        by_cases g2 : ai_gI m 23 0 (5 * n) = a ∧ lw_ct m N n f
        · rw [if_pos g2, if_pos ⟨g2, g.symm⟩]
        · rw [if_neg g2, if_neg (fun z => g2 z.1)]
      · rw [if_neg g, if_neg (fun z => g z.2.symm)]
    have s1 : ai_tot (fun b => lb_b m N a f bf b (n + 1)) 5 = ai_tot (fun b => lb_b m N a f bf b n + (if b = bf n then (if ai_gI m 23 0 (5 * n) = a ∧ lw_ct m N n f then (ai_gI m 23 0 (5 * n + 2)).toInt64 else 0) else 0)) 5 := tot_eq fun b _ => e b
    have s2 : ai_tot (fun b => if b = bf n then (if ai_gI m 23 0 (5 * n) = a ∧ lw_ct m N n f then (ai_gI m 23 0 (5 * n + 2)).toInt64 else 0) else 0) 5 = (if ai_gI m 23 0 (5 * n) = a ∧ lw_ct m N n f then (ai_gI m 23 0 (5 * n + 2)).toInt64 else 0) := (tot_one 5).trans (if_pos h5)
    have s3 : lb_a m N a f (n + 1) = lb_a m N a f n + (if ai_gI m 23 0 (5 * n) = a ∧ lw_ct m N n f then (ai_gI m 23 0 (5 * n + 2)).toInt64 else 0) := rfl
    rw [s1, tot_add, s2, ih, s3]
theorem min_sw (x y : Int64) : ai_minL x y = if x < y then x else y := by
  unfold ai_minL
  by_cases g : y < x
  · rw [if_pos g, if_neg (fun z => by simp only [Int64.lt_iff_toInt_lt] at *; omega)]
  · rw [if_neg g]
    by_cases g2 : x < y
    · rw [if_pos g2]
    · rw [if_neg g2]
      simp only [Int64.lt_iff_toInt_lt] at *
      apply Int64.toInt_inj.mp
      omega
theorem rl_bs {x m : ai_H} {N W T D C : Nat} (R : rl x m N W T D C) (hT : T < 2 ^ 29) {s a : Nat} (hs : s < 3) (ha : a < 4) {bf : Nat → Nat} (hf : ∀ i, i < N → bf i < 5 ∧ ai_gI m 23 0 (5 * i + 1) = nI (bf i)) : ai_bsX x N s (nI a) = lw_bs m N s (nI a) bf := by
  obtain ⟨h1, h2, h3, h4, h5, h6, h7, h8, h9, h10, h11, h12, h13, h14, h15, h16, h17, h18, h19, h20⟩ := id R
  have e0 : ai_gI x 20 s 0 = ai_gI m 27 0 (3 * s) := h12 s hs
  have e1 : ai_gI x 20 s 1 = ai_gI m 27 0 (3 * s + 1) := h13 s hs
  have ec : ∀ b, b < 5 → ai_cb x N (nI s) (nI a) b = lb_b m N (nI a) (nI (4 + s)) bf b N := fun b hb => rl_cb R hT hs ha hb hf
  have e3 : ai_tot (ai_cb x N (nI s) (nI a)) 5 = lb_a m N (nI a) (nI (4 + s)) N := by
    rw [← rl_all (fun i hi => (hf i hi).1) N (Nat.le_refl _)]
    exact tot_eq fun b hb => ec b hb
  have ek : ∀ b, b < 5 → ai_lim x s (ai_tot (ai_cb x N (nI s) (nI a)) 5 * (ai_gI x 20 s 1).toInt64 / 100) (ai_cb x N (nI s) (nI a)) b = lb_n m s (lb_a m N (nI a) (nI (4 + s)) N) (fun b => lb_b m N (nI a) (nI (4 + s)) bf b N) b := fun b hb => by
    have e4 : ai_gI x 21 s b = ai_gI m 28 0 (5 * s + b) := h15 s b hs hb
    unfold ai_lim lb_n lb_m
    rw [min_sw, ec b hb, e4, e3, e1]
    unfold ai_minL
    rfl
  have ef : ai_tot (ai_lim x s (ai_tot (ai_cb x N (nI s) (nI a)) 5 * (ai_gI x 20 s 1).toInt64 / 100) (ai_cb x N (nI s) (nI a))) 5 = ai_tot (lb_n m s (lb_a m N (nI a) (nI (4 + s)) N) (fun b => lb_b m N (nI a) (nI (4 + s)) bf b N)) 5 := tot_eq ek
  unfold ai_bsX lw_bs
  rw [ef, e0]
