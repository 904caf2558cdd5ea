/-! A walk as one tree of decisions -/
theorem ai_PC_if (c : Prop) [d : Decidable c] (sl : List Nat) (m pc1 pc2 : Nat) (ls : ai_L) (s : List ai_V) (z : ai_Z) (h : ai_H) (r : ai_A) : ai_PC c sl m pc1 pc2 ls s z h r ↔ if c then ai_XS sl m pc1 ls s z h r else ai_XS sl m pc2 ls s z h r := by
  unfold ai_PC
  by_cases g : c
  · rw [if_pos g]
    exact ⟨fun a => a.1 g, fun a => ⟨fun _ => a, fun n => absurd g n⟩⟩
  · rw [if_neg g]
    exact ⟨fun a => a.2 g, fun a => ⟨fun n => absurd n g, fun _ => a⟩⟩
theorem sm_if {c : Prop} [Decidable c] {r a b : ai_A} : (if c then r = a else r = b) ↔ r = if c then a else b := by
  by_cases g : c
  · rw [if_pos g, if_pos g]
  · rw [if_neg g, if_neg g]
theorem sm_exif {c : Prop} [Decidable c] {a b : ai_A} {P : ai_O → ai_Z → ai_H → Prop} : (∃ (o : ai_O) (z : ai_Z) (h : ai_H), (o, z, h) = (if c then a else b) ∧ P o z h) ↔ if c then (∃ (o : ai_O) (z : ai_Z) (h : ai_H), (o, z, h) = a ∧ P o z h) else (∃ (o : ai_O) (z : ai_Z) (h : ai_H), (o, z, h) = b ∧ P o z h) := by
  by_cases g : c
  · rw [if_pos g, if_pos g]
  · rw [if_neg g, if_neg g]
theorem ai_EC_out (m pc : Nat) (sl : List Nat) (ls : ai_L) (s : List ai_V) (E : Nat) (z : ai_Z) (h : ai_H) (r : ai_A) (hm : ai_find [] ai_hs m = []) : ai_EC m pc sl ls s (Sum.inr E) z h r ↔ r = (Sum.inr E, z, h) := by
  unfold ai_EC ai_hd
  rw [hm]
theorem sm_rcs (k y n : Nat) (a : List ai_V) : ai_rc (.invokestatic k) y n a = true := rfl
theorem sm_rcv (k y n : Nat) (q : Nat × Nat) (a : List ai_V) : ai_rc (.invokevirtual k) y n (Sum.inr (Sum.inr q) :: a) = (decide (ai_ko q.1 = some (y / 100)) && ai_al n q.1 q.2) := rfl
theorem sk_im1 : Int32.ofInt (-1) = (-1 : Int32) := by decide +kernel
theorem sk_i0 : Int32.ofInt 0 = (0 : Int32) := by decide +kernel
theorem sk_i1 : Int32.ofInt 1 = (1 : Int32) := by decide +kernel
theorem sk_i2 : Int32.ofInt 2 = (2 : Int32) := by decide +kernel
theorem sk_i3 : Int32.ofInt 3 = (3 : Int32) := by decide +kernel
theorem sk_i4 : Int32.ofInt 4 = (4 : Int32) := by decide +kernel
theorem sk_i5 : Int32.ofInt 5 = (5 : Int32) := by decide +kernel
theorem sk_bm13 : (Int8.ofInt (-13)).toInt32 = (-13 : Int32) := by decide +kernel
theorem sk_b6 : (Int8.ofInt 6).toInt32 = (6 : Int32) := by decide +kernel
theorem sk_b7 : (Int8.ofInt 7).toInt32 = (7 : Int32) := by decide +kernel
theorem sk_b8 : (Int8.ofInt 8).toInt32 = (8 : Int32) := by decide +kernel
theorem sk_b9 : (Int8.ofInt 9).toInt32 = (9 : Int32) := by decide +kernel
theorem sk_b10 : (Int8.ofInt 10).toInt32 = (10 : Int32) := by decide +kernel
theorem sk_b11 : (Int8.ofInt 11).toInt32 = (11 : Int32) := by decide +kernel
theorem sk_b12 : (Int8.ofInt 12).toInt32 = (12 : Int32) := by decide +kernel
theorem sk_b13 : (Int8.ofInt 13).toInt32 = (13 : Int32) := by decide +kernel
theorem sk_b14 : (Int8.ofInt 14).toInt32 = (14 : Int32) := by decide +kernel
theorem sk_b15 : (Int8.ofInt 15).toInt32 = (15 : Int32) := by decide +kernel
theorem sk_b16 : (Int8.ofInt 16).toInt32 = (16 : Int32) := by decide +kernel
theorem sk_b20 : (Int8.ofInt 20).toInt32 = (20 : Int32) := by decide +kernel
theorem sk_b21 : (Int8.ofInt 21).toInt32 = (21 : Int32) := by decide +kernel
theorem sk_b22 : (Int8.ofInt 22).toInt32 = (22 : Int32) := by decide +kernel
theorem sk_b23 : (Int8.ofInt 23).toInt32 = (23 : Int32) := by decide +kernel
theorem sk_b24 : (Int8.ofInt 24).toInt32 = (24 : Int32) := by decide +kernel
theorem sk_b25 : (Int8.ofInt 25).toInt32 = (25 : Int32) := by decide +kernel
theorem sk_b26 : (Int8.ofInt 26).toInt32 = (26 : Int32) := by decide +kernel
theorem sk_b27 : (Int8.ofInt 27).toInt32 = (27 : Int32) := by decide +kernel
theorem sk_b29 : (Int8.ofInt 29).toInt32 = (29 : Int32) := by decide +kernel
theorem sk_b30 : (Int8.ofInt 30).toInt32 = (30 : Int32) := by decide +kernel
theorem sk_b32 : (Int8.ofInt 32).toInt32 = (32 : Int32) := by decide +kernel
theorem sk_b35 : (Int8.ofInt 35).toInt32 = (35 : Int32) := by decide +kernel
theorem sk_b40 : (Int8.ofInt 40).toInt32 = (40 : Int32) := by decide +kernel
theorem sk_b48 : (Int8.ofInt 48).toInt32 = (48 : Int32) := by decide +kernel
theorem sk_b50 : (Int8.ofInt 50).toInt32 = (50 : Int32) := by decide +kernel
theorem sk_b60 : (Int8.ofInt 60).toInt32 = (60 : Int32) := by decide +kernel
theorem sk_b64 : (Int8.ofInt 64).toInt32 = (64 : Int32) := by decide +kernel
theorem sk_b71 : (Int8.ofInt 71).toInt32 = (71 : Int32) := by decide +kernel
theorem sk_b80 : (Int8.ofInt 80).toInt32 = (80 : Int32) := by decide +kernel
theorem sk_b90 : (Int8.ofInt 90).toInt32 = (90 : Int32) := by decide +kernel
theorem sk_b96 : (Int8.ofInt 96).toInt32 = (96 : Int32) := by decide +kernel
theorem sk_b100 : (Int8.ofInt 100).toInt32 = (100 : Int32) := by decide +kernel
theorem sk_b101 : (Int8.ofInt 101).toInt32 = (101 : Int32) := by decide +kernel
theorem sk_s128 : (Int16.ofInt 128).toInt32 = (128 : Int32) := by decide +kernel
theorem sk_s130 : (Int16.ofInt 130).toInt32 = (130 : Int32) := by decide +kernel
theorem sk_s582 : (Int16.ofInt 582).toInt32 = (582 : Int32) := by decide +kernel
theorem sk_s672 : (Int16.ofInt 672).toInt32 = (672 : Int32) := by decide +kernel
theorem sk_s2000 : (Int16.ofInt 2000).toInt32 = (2000 : Int32) := by decide +kernel
theorem sk_s2016 : (Int16.ofInt 2016).toInt32 = (2016 : Int32) := by decide +kernel
theorem sk_s2900 : (Int16.ofInt 2900).toInt32 = (2900 : Int32) := by decide +kernel
theorem sk_s3000 : (Int16.ofInt 3000).toInt32 = (3000 : Int32) := by decide +kernel
theorem sk_s3400 : (Int16.ofInt 3400).toInt32 = (3400 : Int32) := by decide +kernel
theorem sk_s5000 : (Int16.ofInt 5000).toInt32 = (5000 : Int32) := by decide +kernel
theorem sk_s6000 : (Int16.ofInt 6000).toInt32 = (6000 : Int32) := by decide +kernel
theorem sk_s9000 : (Int16.ofInt 9000).toInt32 = (9000 : Int32) := by decide +kernel
theorem sk_s9041 : (Int16.ofInt 9041).toInt32 = (9041 : Int32) := by decide +kernel
theorem sh_0 : ai_find [] ai_hs 0 = [] := (id rfl)
theorem sh_1 : ai_find [] ai_hs 1 = [] := (id rfl)
theorem sh_2 : ai_find [] ai_hs 2 = [] := (id rfl)
theorem sh_3 : ai_find [] ai_hs 3 = [] := (id rfl)
theorem sh_4 : ai_find [] ai_hs 4 = [] := (id rfl)
theorem sh_5 : ai_find [] ai_hs 5 = [] := (id rfl)
theorem sh_6 : ai_find [] ai_hs 6 = [] := (id rfl)
theorem sh_7 : ai_find [] ai_hs 7 = [] := (id rfl)
theorem sh_8 : ai_find [] ai_hs 8 = [] := (id rfl)
theorem sh_9 : ai_find [] ai_hs 9 = [] := (id rfl)
theorem sh_10 : ai_find [] ai_hs 10 = [] := (id rfl)
theorem sh_11 : ai_find [] ai_hs 11 = [] := (id rfl)
theorem sh_12 : ai_find [] ai_hs 12 = [] := (id rfl)
theorem sh_13 : ai_find [] ai_hs 13 = [] := (id rfl)
theorem sh_14 : ai_find [] ai_hs 14 = [] := (id rfl)
theorem sh_15 : ai_find [] ai_hs 15 = [] := (id rfl)
theorem sh_16 : ai_find [] ai_hs 16 = [] := (id rfl)
theorem sh_17 : ai_find [] ai_hs 17 = [] := (id rfl)
theorem sh_18 : ai_find [] ai_hs 18 = [] := (id rfl)
theorem sh_19 : ai_find [] ai_hs 19 = [] := (id rfl)
theorem sh_20 : ai_find [] ai_hs 20 = [] := (id rfl)
theorem sh_21 : ai_find [] ai_hs 21 = [] := (id rfl)
theorem sh_22 : ai_find [] ai_hs 22 = [] := (id rfl)
theorem sh_23 : ai_find [] ai_hs 23 = [] := (id rfl)
theorem sh_24 : ai_find [] ai_hs 24 = [] := (id rfl)
theorem sh_25 : ai_find [] ai_hs 25 = [] := (id rfl)
theorem sh_26 : ai_find [] ai_hs 26 = [] := (id rfl)
theorem sh_27 : ai_find [] ai_hs 27 = [] := (id rfl)
theorem sh_28 : ai_find [] ai_hs 28 = [] := (id rfl)
theorem sh_29 : ai_find [] ai_hs 29 = [] := (id rfl)
theorem sh_30 : ai_find [] ai_hs 30 = [] := (id rfl)
theorem sh_31 : ai_find [] ai_hs 31 = [] := (id rfl)
theorem sh_32 : ai_find [] ai_hs 32 = [] := (id rfl)
theorem sh_33 : ai_find [] ai_hs 33 = [] := (id rfl)
theorem sh_34 : ai_find [] ai_hs 34 = [] := (id rfl)
theorem sh_35 : ai_find [] ai_hs 35 = [] := (id rfl)
theorem sh_36 : ai_find [] ai_hs 36 = [] := (id rfl)
theorem sh_37 : ai_find [] ai_hs 37 = [] := (id rfl)
theorem sh_38 : ai_find [] ai_hs 38 = [] := (id rfl)
theorem sh_39 : ai_find [] ai_hs 39 = [] := (id rfl)
theorem sh_40 : ai_find [] ai_hs 40 = [] := (id rfl)
theorem sh_41 : ai_find [] ai_hs 41 = [] := (id rfl)
theorem sh_42 : ai_find [] ai_hs 42 = [] := (id rfl)
theorem sh_43 : ai_find [] ai_hs 43 = [] := (id rfl)
theorem sh_44 : ai_find [] ai_hs 44 = [] := (id rfl)
theorem sh_45 : ai_find [] ai_hs 45 = [] := (id rfl)
theorem sh_46 : ai_find [] ai_hs 46 = [] := (id rfl)
theorem sh_47 : ai_find [] ai_hs 47 = [] := (id rfl)
theorem sh_48 : ai_find [] ai_hs 48 = [] := (id rfl)
theorem sh_49 : ai_find [] ai_hs 49 = [] := (id rfl)
theorem sh_50 : ai_find [] ai_hs 50 = [] := (id rfl)
theorem sh_51 : ai_find [] ai_hs 51 = [] := (id rfl)
theorem sh_52 : ai_find [] ai_hs 52 = [] := (id rfl)
theorem sh_53 : ai_find [] ai_hs 53 = [] := (id rfl)
theorem sh_54 : ai_find [] ai_hs 54 = [] := (id rfl)
theorem sh_100 : ai_find [] ai_hs 100 = [] := (id rfl)
theorem sh_101 : ai_find [] ai_hs 101 = [] := (id rfl)
theorem sh_102 : ai_find [] ai_hs 102 = [] := (id rfl)
theorem sh_103 : ai_find [] ai_hs 103 = [] := (id rfl)
theorem sh_104 : ai_find [] ai_hs 104 = [] := (id rfl)
theorem sh_105 : ai_find [] ai_hs 105 = [] := (id rfl)
theorem sh_106 : ai_find [] ai_hs 106 = [] := (id rfl)
theorem sh_107 : ai_find [] ai_hs 107 = [] := (id rfl)
theorem sh_108 : ai_find [] ai_hs 108 = [] := (id rfl)
theorem sh_200 : ai_find [] ai_hs 200 = [] := (id rfl)
theorem sh_201 : ai_find [] ai_hs 201 = [] := (id rfl)
theorem sh_300 : ai_find [] ai_hs 300 = [] := (id rfl)
theorem sh_301 : ai_find [] ai_hs 301 = [] := (id rfl)
theorem sh_302 : ai_find [] ai_hs 302 = [] := (id rfl)
theorem sh_400 : ai_find [] ai_hs 400 = [] := (id rfl)
theorem sh_401 : ai_find [] ai_hs 401 = [] := (id rfl)
theorem sh_402 : ai_find [] ai_hs 402 = [] := (id rfl)
theorem sh_500 : ai_find [] ai_hs 500 = [] := (id rfl)
theorem sh_501 : ai_find [] ai_hs 501 = [] := (id rfl)
theorem sh_600 : ai_find [] ai_hs 600 = [] := (id rfl)
theorem sh_601 : ai_find [] ai_hs 601 = [] := (id rfl)
theorem sh_602 : ai_find [] ai_hs 602 = [] := (id rfl)
theorem sh_603 : ai_find [] ai_hs 603 = [] := (id rfl)
theorem sh_604 : ai_find [] ai_hs 604 = [] := (id rfl)
theorem sh_605 : ai_find [] ai_hs 605 = [] := (id rfl)
theorem sh_606 : ai_find [] ai_hs 606 = [] := (id rfl)
theorem sh_607 : ai_find [] ai_hs 607 = [] := (id rfl)
theorem sh_608 : ai_find [] ai_hs 608 = [] := (id rfl)
theorem sh_609 : ai_find [] ai_hs 609 = [] := (id rfl)
theorem sh_610 : ai_find [] ai_hs 610 = [] := (id rfl)
theorem sh_612 : ai_find [] ai_hs 612 = [] := (id rfl)
theorem sh_613 : ai_find [] ai_hs 613 = [] := (id rfl)
