def ai_R0 : ai_R := fun t i k => match t with
  | 0 => if i < 1 then (match k with | 0 => some (1, i) | 2 => some (2, i) | 4 => some (3, i) | 5 => some (4, i) | 6 => some (7, i) | 7 => some (10, i) | 8 => some (11, i) | 9 => some (12, i) | 10 => some (13, i) | _ => none) else none
  | 1 => if i < 1 ∧ k < 40 then some (14, k) else none
  | 2 => if i < 1 ∧ k < 30 then some (19, k) else none
  | 3 => if i < 1 ∧ k < 3 then some (20, k) else none
  | 4 => if i < 1 then (match k with | 0 => some (5, i) | 1 => some (6, i) | _ => none) else none
  | 7 => if i < 1 then (match k with | 0 => some (8, i) | 1 => some (9, i) | _ => none) else none
  | 14 => if i < 40 then (match k with | 6 => some (15, i) | 7 => some (16, i) | 8 => some (17, i) | 9 => some (18, i) | _ => none) else none
  | 20 => if i < 3 then (match k with | 3 => some (21, i) | 4 => some (22, i) | _ => none) else none
  | 23 => if i < 1 then (match k with | 2 => some (24, i) | 3 => some (25, i) | 4 => some (26, i) | 5 => some (27, i) | 6 => some (28, i) | 7 => some (29, i) | 8 => some (30, i) | 9 => some (31, i) | 10 => some (32, i) | 12 => some (33, i) | 13 => some (34, i) | 15 => some (35, i) | 16 => some (36, i) | 17 => some (37, i) | 18 => some (38, i) | 19 => some (39, i) | 20 => some (40, i) | 21 => some (41, i) | 22 => some (42, i) | 23 => some (43, i) | 24 => some (44, i) | 25 => some (45, i) | 26 => some (46, i) | 27 => some (47, i) | 31 => some (48, i) | 32 => some (49, i) | _ => none) else none
  | _ => none
theorem ai_al_0 : ai_al 281 0 0 = true := (id rfl)
theorem ai_al_1 : ai_al 281 1 0 = true := (id rfl)
theorem ai_al_2 : ai_al 281 2 0 = true := (id rfl)
theorem ai_al_3 : ai_al 281 3 0 = true := (id rfl)
theorem ai_al_4 : ai_al 281 4 0 = true := (id rfl)
theorem ai_al_5 : ai_al 281 5 0 = true := (id rfl)
theorem ai_al_6 : ai_al 281 6 0 = true := (id rfl)
theorem ai_al_7 : ai_al 281 7 0 = true := (id rfl)
theorem ai_al_8 : ai_al 281 8 0 = true := (id rfl)
theorem ai_al_9 : ai_al 281 9 0 = true := (id rfl)
theorem ai_al_10 : ai_al 281 10 0 = true := (id rfl)
theorem ai_al_11 : ai_al 281 11 0 = true := (id rfl)
theorem ai_al_12 : ai_al 281 12 0 = true := (id rfl)
theorem ai_al_13 : ai_al 281 13 0 = true := (id rfl)
theorem ai_al_14 {i : Nat} (hi : i < 40) : ai_al 281 14 i = true := decide_eq_true ⟨by decide, hi, by show 14 + 5 * i < 281; omega⟩
theorem ai_al_15 {i : Nat} (hi : i < 40) : ai_al 281 15 i = true := decide_eq_true ⟨by decide, hi, by show 15 + 5 * i < 281; omega⟩
theorem ai_al_16 {i : Nat} (hi : i < 40) : ai_al 281 16 i = true := decide_eq_true ⟨by decide, hi, by show 16 + 5 * i < 281; omega⟩
theorem ai_al_17 {i : Nat} (hi : i < 40) : ai_al 281 17 i = true := decide_eq_true ⟨by decide, hi, by show 17 + 5 * i < 281; omega⟩
theorem ai_al_18 {i : Nat} (hi : i < 40) : ai_al 281 18 i = true := decide_eq_true ⟨by decide, hi, by show 18 + 5 * i < 281; omega⟩
theorem ai_al_19 {i : Nat} (hi : i < 30) : ai_al 281 19 i = true := decide_eq_true ⟨by decide, hi, by show 214 + 1 * i < 281; omega⟩
theorem ai_al_20 {i : Nat} (hi : i < 3) : ai_al 281 20 i = true := decide_eq_true ⟨by decide, hi, by show 244 + 3 * i < 281; omega⟩
theorem ai_al_21 {i : Nat} (hi : i < 3) : ai_al 281 21 i = true := decide_eq_true ⟨by decide, hi, by show 245 + 3 * i < 281; omega⟩
theorem ai_al_22 {i : Nat} (hi : i < 3) : ai_al 281 22 i = true := decide_eq_true ⟨by decide, hi, by show 246 + 3 * i < 281; omega⟩
theorem ai_al_23 : ai_al 281 23 0 = true := (id rfl)
theorem ai_al_24 : ai_al 281 24 0 = true := (id rfl)
theorem ai_al_25 : ai_al 281 25 0 = true := (id rfl)
theorem ai_al_26 : ai_al 281 26 0 = true := (id rfl)
theorem ai_al_27 : ai_al 281 27 0 = true := (id rfl)
theorem ai_al_28 : ai_al 281 28 0 = true := (id rfl)
theorem ai_al_29 : ai_al 281 29 0 = true := (id rfl)
theorem ai_al_30 : ai_al 281 30 0 = true := (id rfl)
theorem ai_al_31 : ai_al 281 31 0 = true := (id rfl)
theorem ai_al_32 : ai_al 281 32 0 = true := (id rfl)
theorem ai_al_33 : ai_al 281 33 0 = true := (id rfl)
theorem ai_al_34 : ai_al 281 34 0 = true := (id rfl)
theorem ai_al_35 : ai_al 281 35 0 = true := (id rfl)
theorem ai_al_36 : ai_al 281 36 0 = true := (id rfl)
theorem ai_al_37 : ai_al 281 37 0 = true := (id rfl)
theorem ai_al_38 : ai_al 281 38 0 = true := (id rfl)
theorem ai_al_39 : ai_al 281 39 0 = true := (id rfl)
theorem ai_al_40 : ai_al 281 40 0 = true := (id rfl)
theorem ai_al_41 : ai_al 281 41 0 = true := (id rfl)
theorem ai_al_42 : ai_al 281 42 0 = true := (id rfl)
theorem ai_al_43 : ai_al 281 43 0 = true := (id rfl)
theorem ai_al_44 : ai_al 281 44 0 = true := (id rfl)
theorem ai_al_45 : ai_al 281 45 0 = true := (id rfl)
theorem ai_al_46 : ai_al 281 46 0 = true := (id rfl)
theorem ai_al_47 : ai_al 281 47 0 = true := (id rfl)
theorem ai_al_48 : ai_al 281 48 0 = true := (id rfl)
theorem ai_al_49 : ai_al 281 49 0 = true := (id rfl)
theorem ai_al_50 : ai_al 281 50 0 = true := (id rfl)
theorem ai_g_0_11 (h : ai_H) : ai_gf 0 11 281 ai_R0 h 0 0 = some (ai_r 1 0) := ai_gf_ref (c := 0) (k := 0) rfl rfl ai_al_0 rfl
theorem ai_g_0_15 (R : ai_R) (h : ai_H) : ai_gf 0 15 281 R h 0 0 = some (ai_i (ai_gI h 0 0 1)) := ai_gf_of (c := 0) (k := 1) (f := 0) rfl rfl ai_al_0
theorem ai_g_0_21 (h : ai_H) : ai_gf 0 21 281 ai_R0 h 0 0 = some (ai_r 2 0) := ai_gf_ref (c := 0) (k := 2) rfl rfl ai_al_0 rfl
theorem ai_g_0_25 (R : ai_R) (h : ai_H) : ai_gf 0 25 281 R h 0 0 = some (ai_i (ai_gI h 0 0 3)) := ai_gf_of (c := 0) (k := 3) (f := 0) rfl rfl ai_al_0
theorem ai_g_0_30 (h : ai_H) : ai_gf 0 30 281 ai_R0 h 0 0 = some (ai_r 3 0) := ai_gf_ref (c := 0) (k := 4) rfl rfl ai_al_0 rfl
theorem ai_g_0_37 (h : ai_H) : ai_gf 0 37 281 ai_R0 h 0 0 = some (ai_r 4 0) := ai_gf_ref (c := 0) (k := 5) rfl rfl ai_al_0 rfl
theorem ai_g_0_44 (h : ai_H) : ai_gf 0 44 281 ai_R0 h 0 0 = some (ai_r 7 0) := ai_gf_ref (c := 0) (k := 6) rfl rfl ai_al_0 rfl
theorem ai_g_0_48 (h : ai_H) : ai_gf 0 48 281 ai_R0 h 0 0 = some (ai_r 10 0) := ai_gf_ref (c := 0) (k := 7) rfl rfl ai_al_0 rfl
theorem ai_g_0_52 (h : ai_H) : ai_gf 0 52 281 ai_R0 h 0 0 = some (ai_r 11 0) := ai_gf_ref (c := 0) (k := 8) rfl rfl ai_al_0 rfl
theorem ai_g_0_55 (h : ai_H) : ai_gf 0 55 281 ai_R0 h 0 0 = some (ai_r 12 0) := ai_gf_ref (c := 0) (k := 9) rfl rfl ai_al_0 rfl
theorem ai_g_0_59 (h : ai_H) : ai_gf 0 59 281 ai_R0 h 0 0 = some (ai_r 13 0) := ai_gf_ref (c := 0) (k := 10) rfl rfl ai_al_0 rfl
theorem ai_g_0_62 (R : ai_R) (h : ai_H) : ai_gf 0 62 281 R h 0 0 = some (ai_i (ai_gI h 0 0 11)) := ai_gf_of (c := 0) (k := 11) (f := 0) rfl rfl ai_al_0
theorem ai_g_0_65 (R : ai_R) (h : ai_H) : ai_gf 0 65 281 R h 0 0 = some (ai_i (ai_gI h 0 0 12)) := ai_gf_of (c := 0) (k := 12) (f := 0) rfl rfl ai_al_0
theorem ai_g_0_68 (R : ai_R) (h : ai_H) : ai_gf 0 68 281 R h 0 0 = some (ai_i (ai_gI h 0 0 13)) := ai_gf_of (c := 0) (k := 13) (f := 0) rfl rfl ai_al_0
theorem ai_g_0_71 (R : ai_R) (h : ai_H) : ai_gf 0 71 281 R h 0 0 = some (ai_j (ai_gJ h 0 0 14)) := ai_gf_of (c := 0) (k := 14) (f := 1) rfl rfl ai_al_0
theorem ai_g_0_75 (R : ai_R) (h : ai_H) : ai_gf 0 75 281 R h 0 0 = some (ai_j (ai_gJ h 0 0 15)) := ai_gf_of (c := 0) (k := 15) (f := 1) rfl rfl ai_al_0
theorem ai_g_0_113 (R : ai_R) (h : ai_H) {i : Nat} (hi : i < 40) : ai_gf 0 113 281 R h 14 i = some (ai_i (ai_gI h 14 i 3)) := ai_gf_of (c := 1) (k := 3) (f := 0) rfl rfl (ai_al_14 hi)
theorem ai_g_0_120 (R : ai_R) (h : ai_H) {i : Nat} (hi : i < 40) : ai_gf 0 120 281 R h 14 i = some (ai_i (ai_gI h 14 i 5)) := ai_gf_of (c := 1) (k := 5) (f := 3) rfl rfl (ai_al_14 hi)
theorem ai_g_0_127 (h : ai_H) {i : Nat} (hi : i < 40) : ai_gf 0 127 281 ai_R0 h 14 i = some (ai_r 15 i) := ai_gf_ref (c := 1) (k := 6) rfl rfl (ai_al_14 hi) (if_pos hi)
theorem ai_g_0_134 (R : ai_R) (h : ai_H) {i : Nat} (hi : i < 40) : ai_gf 0 134 281 R h 14 i = some (ai_i (ai_gI h 14 i 0)) := ai_gf_of (c := 1) (k := 0) (f := 0) rfl rfl (ai_al_14 hi)
theorem ai_g_0_137 (h : ai_H) {i : Nat} (hi : i < 40) : ai_gf 0 137 281 ai_R0 h 14 i = some (ai_r 16 i) := ai_gf_ref (c := 1) (k := 7) rfl rfl (ai_al_14 hi) (if_pos hi)
theorem ai_g_0_141 (h : ai_H) {i : Nat} (hi : i < 40) : ai_gf 0 141 281 ai_R0 h 14 i = some (ai_r 17 i) := ai_gf_ref (c := 1) (k := 8) rfl rfl (ai_al_14 hi) (if_pos hi)
theorem ai_g_0_155 (h : ai_H) {i : Nat} (hi : i < 40) : ai_gf 0 155 281 ai_R0 h 14 i = some (ai_r 18 i) := ai_gf_ref (c := 1) (k := 9) rfl rfl (ai_al_14 hi) (if_pos hi)
theorem ai_g_0_166 (R : ai_R) (h : ai_H) {i : Nat} (hi : i < 40) : ai_gf 0 166 281 R h 14 i = some (ai_i (ai_gI h 14 i 4)) := ai_gf_of (c := 1) (k := 4) (f := 0) rfl rfl (ai_al_14 hi)
theorem ai_g_0_173 (R : ai_R) (h : ai_H) {i : Nat} (hi : i < 40) : ai_gf 0 173 281 R h 14 i = some (ai_i (ai_gI h 14 i 2)) := ai_gf_of (c := 1) (k := 2) (f := 0) rfl rfl (ai_al_14 hi)
theorem ai_g_0_198 (R : ai_R) (h : ai_H) {i : Nat} (hi : i < 40) : ai_gf 0 198 281 R h 14 i = some (ai_i (ai_gI h 14 i 1)) := ai_gf_of (c := 1) (k := 1) (f := 0) rfl rfl (ai_al_14 hi)
theorem ai_g_0_208 (R : ai_R) (h : ai_H) : ai_gf 0 208 281 R h 7 0 = some (ai_i (ai_gI h 7 0 2)) := ai_gf_of (c := 4) (k := 2) (f := 0) rfl rfl ai_al_7
theorem ai_g_0_211 (R : ai_R) (h : ai_H) {i : Nat} (hi : i < 30) : ai_gf 0 211 281 R h 19 i = some (ai_i (ai_gI h 19 i 3)) := ai_gf_of (c := 5) (k := 3) (f := 3) rfl rfl (ai_al_19 hi)
theorem ai_g_0_214 (R : ai_R) (h : ai_H) {i : Nat} (hi : i < 30) : ai_gf 0 214 281 R h 19 i = some (ai_i (ai_gI h 19 i 1)) := ai_gf_of (c := 5) (k := 1) (f := 0) rfl rfl (ai_al_19 hi)
theorem ai_g_0_217 (R : ai_R) (h : ai_H) {i : Nat} (hi : i < 30) : ai_gf 0 217 281 R h 19 i = some (ai_i (ai_gI h 19 i 2)) := ai_gf_of (c := 5) (k := 2) (f := 0) rfl rfl (ai_al_19 hi)
theorem ai_g_0_228 (R : ai_R) (h : ai_H) {i : Nat} (hi : i < 3) : ai_gf 0 228 281 R h 20 i = some (ai_i (ai_gI h 20 i 0)) := ai_gf_of (c := 2) (k := 0) (f := 0) rfl rfl (ai_al_20 hi)
theorem ai_g_0_231 (R : ai_R) (h : ai_H) {i : Nat} (hi : i < 3) : ai_gf 0 231 281 R h 20 i = some (ai_i (ai_gI h 20 i 1)) := ai_gf_of (c := 2) (k := 1) (f := 0) rfl rfl (ai_al_20 hi)
theorem ai_g_0_239 (h : ai_H) {i : Nat} (hi : i < 3) : ai_gf 0 239 281 ai_R0 h 20 i = some (ai_r 21 i) := ai_gf_ref (c := 2) (k := 3) rfl rfl (ai_al_20 hi) (if_pos hi)
theorem ai_g_0_246 (h : ai_H) {i : Nat} (hi : i < 3) : ai_gf 0 246 281 ai_R0 h 20 i = some (ai_r 22 i) := ai_gf_ref (c := 2) (k := 4) rfl rfl (ai_al_20 hi) (if_pos hi)
theorem ai_g_0_272 (R : ai_R) (h : ai_H) {i : Nat} (hi : i < 40) : ai_gf 0 272 281 R h 14 i = some (ai_i (ai_gI h 14 i 10)) := ai_gf_of (c := 1) (k := 10) (f := 3) rfl rfl (ai_al_14 hi)
theorem ai_g_0_277 (R : ai_R) (h : ai_H) {i : Nat} (hi : i < 40) : ai_gf 0 277 281 R h 14 i = some (ai_i (ai_gI h 14 i 11)) := ai_gf_of (c := 1) (k := 11) (f := 3) rfl rfl (ai_al_14 hi)
theorem ai_g_0_280 (R : ai_R) (h : ai_H) {i : Nat} (hi : i < 40) : ai_gf 0 280 281 R h 14 i = some (ai_i (ai_gI h 14 i 12)) := ai_gf_of (c := 1) (k := 12) (f := 0) rfl rfl (ai_al_14 hi)
theorem ai_g_0_283 (R : ai_R) (h : ai_H) {i : Nat} (hi : i < 40) : ai_gf 0 283 281 R h 14 i = some (ai_i (ai_gI h 14 i 13)) := ai_gf_of (c := 1) (k := 13) (f := 0) rfl rfl (ai_al_14 hi)
theorem ai_g_0_316 (h : ai_H) : ai_gf 0 316 281 ai_R0 h 7 0 = some (ai_r 8 0) := ai_gf_ref (c := 4) (k := 0) rfl rfl ai_al_7 rfl
theorem ai_g_0_333 (h : ai_H) : ai_gf 0 333 281 ai_R0 h 7 0 = some (ai_r 9 0) := ai_gf_ref (c := 4) (k := 1) rfl rfl ai_al_7 rfl
theorem ai_g_0_343 (R : ai_R) (h : ai_H) {i : Nat} (hi : i < 30) : ai_gf 0 343 281 R h 19 i = some (ai_i (ai_gI h 19 i 0)) := ai_gf_of (c := 5) (k := 0) (f := 0) rfl rfl (ai_al_19 hi)
theorem ai_g_1_9 (R : ai_R) (h : ai_H) {i : Nat} (hi : i < 40) : ai_gf 1 9 281 R h 14 i = some (ai_i (ai_gI h 14 i 0)) := ai_gf_of (c := 1) (k := 0) (f := 0) rfl rfl (ai_al_14 hi)
theorem ai_g_1_35 (h : ai_H) {i : Nat} (hi : i < 40) : ai_gf 1 35 281 ai_R0 h 14 i = some (ai_r 16 i) := ai_gf_ref (c := 1) (k := 7) rfl rfl (ai_al_14 hi) (if_pos hi)
theorem ai_g_1_39 (h : ai_H) {i : Nat} (hi : i < 40) : ai_gf 1 39 281 ai_R0 h 14 i = some (ai_r 17 i) := ai_gf_ref (c := 1) (k := 8) rfl rfl (ai_al_14 hi) (if_pos hi)
theorem ai_g_1_42 (h : ai_H) {i : Nat} (hi : i < 40) : ai_gf 1 42 281 ai_R0 h 14 i = some (ai_r 18 i) := ai_gf_ref (c := 1) (k := 9) rfl rfl (ai_al_14 hi) (if_pos hi)
theorem ai_g_2_18 (R : ai_R) (h : ai_H) {i : Nat} (hi : i < 3) : ai_gf 2 18 281 R h 20 i = some (ai_i (ai_gI h 20 i 2)) := ai_gf_of (c := 2) (k := 2) (f := 0) rfl rfl (ai_al_20 hi)
theorem ai_g_2_25 (h : ai_H) {i : Nat} (hi : i < 3) : ai_gf 2 25 281 ai_R0 h 20 i = some (ai_r 22 i) := ai_gf_ref (c := 2) (k := 4) rfl rfl (ai_al_20 hi) (if_pos hi)
theorem ai_g_3_11 (h : ai_H) : ai_gf 3 11 281 ai_R0 h 4 0 = some (ai_r 5 0) := ai_gf_ref (c := 3) (k := 0) rfl rfl ai_al_4 rfl
theorem ai_g_3_15 (h : ai_H) : ai_gf 3 15 281 ai_R0 h 4 0 = some (ai_r 6 0) := ai_gf_ref (c := 3) (k := 1) rfl rfl ai_al_4 rfl
theorem ai_g_3_18 (R : ai_R) (h : ai_H) : ai_gf 3 18 281 R h 4 0 = some (ai_i (ai_gI h 4 0 2)) := ai_gf_of (c := 3) (k := 2) (f := 0) rfl rfl ai_al_4
theorem ai_g_4_9 (h : ai_H) : ai_gf 4 9 281 ai_R0 h 7 0 = some (ai_r 8 0) := ai_gf_ref (c := 4) (k := 0) rfl rfl ai_al_7 rfl
theorem ai_g_4_15 (h : ai_H) : ai_gf 4 15 281 ai_R0 h 7 0 = some (ai_r 9 0) := ai_gf_ref (c := 4) (k := 1) rfl rfl ai_al_7 rfl
theorem ai_g_4_18 (R : ai_R) (h : ai_H) : ai_gf 4 18 281 R h 7 0 = some (ai_i (ai_gI h 7 0 2)) := ai_gf_of (c := 4) (k := 2) (f := 0) rfl rfl ai_al_7
theorem ai_g_6_7 (h : ai_H) : ai_gf 6 7 281 ai_R0 h 23 0 = some (ai_r 24 0) := ai_gf_ref (c := 6) (k := 2) rfl rfl ai_al_23 rfl
theorem ai_g_6_13 (h : ai_H) : ai_gf 6 13 281 ai_R0 h 23 0 = some (ai_r 25 0) := ai_gf_ref (c := 6) (k := 3) rfl rfl ai_al_23 rfl
theorem ai_g_6_16 (h : ai_H) : ai_gf 6 16 281 ai_R0 h 23 0 = some (ai_r 26 0) := ai_gf_ref (c := 6) (k := 4) rfl rfl ai_al_23 rfl
theorem ai_g_6_19 (h : ai_H) : ai_gf 6 19 281 ai_R0 h 23 0 = some (ai_r 27 0) := ai_gf_ref (c := 6) (k := 5) rfl rfl ai_al_23 rfl
theorem ai_g_6_22 (h : ai_H) : ai_gf 6 22 281 ai_R0 h 23 0 = some (ai_r 28 0) := ai_gf_ref (c := 6) (k := 6) rfl rfl ai_al_23 rfl
theorem ai_g_6_26 (h : ai_H) : ai_gf 6 26 281 ai_R0 h 23 0 = some (ai_r 29 0) := ai_gf_ref (c := 6) (k := 7) rfl rfl ai_al_23 rfl
theorem ai_g_6_29 (h : ai_H) : ai_gf 6 29 281 ai_R0 h 23 0 = some (ai_r 30 0) := ai_gf_ref (c := 6) (k := 8) rfl rfl ai_al_23 rfl
theorem ai_g_6_32 (h : ai_H) : ai_gf 6 32 281 ai_R0 h 23 0 = some (ai_r 31 0) := ai_gf_ref (c := 6) (k := 9) rfl rfl ai_al_23 rfl
theorem ai_g_6_35 (h : ai_H) : ai_gf 6 35 281 ai_R0 h 23 0 = some (ai_r 32 0) := ai_gf_ref (c := 6) (k := 10) rfl rfl ai_al_23 rfl
theorem ai_g_6_38 (h : ai_H) : ai_gf 6 38 281 ai_R0 h 23 0 = some (ai_r 33 0) := ai_gf_ref (c := 6) (k := 12) rfl rfl ai_al_23 rfl
theorem ai_g_6_42 (h : ai_H) : ai_gf 6 42 281 ai_R0 h 23 0 = some (ai_r 34 0) := ai_gf_ref (c := 6) (k := 13) rfl rfl ai_al_23 rfl
theorem ai_g_6_45 (h : ai_H) : ai_gf 6 45 281 ai_R0 h 23 0 = some (ai_r 35 0) := ai_gf_ref (c := 6) (k := 15) rfl rfl ai_al_23 rfl
theorem ai_g_6_48 (h : ai_H) : ai_gf 6 48 281 ai_R0 h 23 0 = some (ai_r 36 0) := ai_gf_ref (c := 6) (k := 16) rfl rfl ai_al_23 rfl
theorem ai_g_6_51 (h : ai_H) : ai_gf 6 51 281 ai_R0 h 23 0 = some (ai_r 37 0) := ai_gf_ref (c := 6) (k := 17) rfl rfl ai_al_23 rfl
theorem ai_g_6_54 (h : ai_H) : ai_gf 6 54 281 ai_R0 h 23 0 = some (ai_r 38 0) := ai_gf_ref (c := 6) (k := 18) rfl rfl ai_al_23 rfl
theorem ai_g_6_57 (h : ai_H) : ai_gf 6 57 281 ai_R0 h 23 0 = some (ai_r 39 0) := ai_gf_ref (c := 6) (k := 19) rfl rfl ai_al_23 rfl
theorem ai_g_6_60 (h : ai_H) : ai_gf 6 60 281 ai_R0 h 23 0 = some (ai_r 40 0) := ai_gf_ref (c := 6) (k := 20) rfl rfl ai_al_23 rfl
theorem ai_g_6_63 (h : ai_H) : ai_gf 6 63 281 ai_R0 h 23 0 = some (ai_r 41 0) := ai_gf_ref (c := 6) (k := 21) rfl rfl ai_al_23 rfl
theorem ai_g_6_66 (h : ai_H) : ai_gf 6 66 281 ai_R0 h 23 0 = some (ai_r 42 0) := ai_gf_ref (c := 6) (k := 22) rfl rfl ai_al_23 rfl
theorem ai_g_6_69 (h : ai_H) : ai_gf 6 69 281 ai_R0 h 23 0 = some (ai_r 43 0) := ai_gf_ref (c := 6) (k := 23) rfl rfl ai_al_23 rfl
theorem ai_g_6_72 (h : ai_H) : ai_gf 6 72 281 ai_R0 h 23 0 = some (ai_r 44 0) := ai_gf_ref (c := 6) (k := 24) rfl rfl ai_al_23 rfl
theorem ai_g_6_75 (h : ai_H) : ai_gf 6 75 281 ai_R0 h 23 0 = some (ai_r 45 0) := ai_gf_ref (c := 6) (k := 25) rfl rfl ai_al_23 rfl
theorem ai_g_6_78 (h : ai_H) : ai_gf 6 78 281 ai_R0 h 23 0 = some (ai_r 46 0) := ai_gf_ref (c := 6) (k := 26) rfl rfl ai_al_23 rfl
theorem ai_g_6_81 (h : ai_H) : ai_gf 6 81 281 ai_R0 h 23 0 = some (ai_r 47 0) := ai_gf_ref (c := 6) (k := 27) rfl rfl ai_al_23 rfl
theorem ai_g_6_84 (h : ai_H) : ai_gf 6 84 281 ai_R0 h 23 0 = some (ai_r 48 0) := ai_gf_ref (c := 6) (k := 31) rfl rfl ai_al_23 rfl
theorem ai_g_6_87 (h : ai_H) : ai_gf 6 87 281 ai_R0 h 23 0 = some (ai_r 49 0) := ai_gf_ref (c := 6) (k := 32) rfl rfl ai_al_23 rfl
theorem ai_g_6_90 (R : ai_R) (h : ai_H) : ai_gf 6 90 281 R h 23 0 = some (ai_i (ai_gI h 23 0 30)) := ai_gf_of (c := 6) (k := 30) (f := 0) rfl rfl ai_al_23
theorem ai_g_6_98 (R : ai_R) (h : ai_H) : ai_gf 6 98 281 R h 23 0 = some (ai_i (ai_gI h 23 0 1)) := ai_gf_of (c := 6) (k := 1) (f := 0) rfl rfl ai_al_23
theorem ai_g_6_109 (R : ai_R) (h : ai_H) : ai_gf 6 109 281 R h 23 0 = some (ai_i (ai_gI h 23 0 0)) := ai_gf_of (c := 6) (k := 0) (f := 0) rfl rfl ai_al_23
theorem ai_g_6_126 (R : ai_R) (h : ai_H) : ai_gf 6 126 281 R h 23 0 = some (ai_i (ai_gI h 23 0 11)) := ai_gf_of (c := 6) (k := 11) (f := 0) rfl rfl ai_al_23
theorem ai_g_6_162 (R : ai_R) (h : ai_H) : ai_gf 6 162 281 R h 23 0 = some (ai_i (ai_gI h 23 0 14)) := ai_gf_of (c := 6) (k := 14) (f := 0) rfl rfl ai_al_23
theorem ai_g_6_178 (R : ai_R) (h : ai_H) : ai_gf 6 178 281 R h 23 0 = some (ai_i (ai_gI h 23 0 33)) := ai_gf_of (c := 6) (k := 33) (f := 0) rfl rfl ai_al_23
theorem ai_g_6_209 (R : ai_R) (h : ai_H) : ai_gf 6 209 281 R h 23 0 = some (ai_j (ai_gJ h 23 0 28)) := ai_gf_of (c := 6) (k := 28) (f := 1) rfl rfl ai_al_23
theorem ai_g_6_217 (R : ai_R) (h : ai_H) : ai_gf 6 217 281 R h 23 0 = some (ai_j (ai_gJ h 23 0 29)) := ai_gf_of (c := 6) (k := 29) (f := 1) rfl rfl ai_al_23
theorem ai_p_0_15 (R : ai_R) (h : ai_H) (x : Int32) : ai_pf 0 15 281 R h 0 0 (ai_i x) = some (R, ai_wI h 0 0 1 x) := ai_pf_of (c := 0) (k := 1) (f := 0) rfl rfl ai_al_0
theorem ai_p_0_25 (R : ai_R) (h : ai_H) (x : Int32) : ai_pf 0 25 281 R h 0 0 (ai_i x) = some (R, ai_wI h 0 0 3 x) := ai_pf_of (c := 0) (k := 3) (f := 0) rfl rfl ai_al_0
theorem ai_p_0_62 (R : ai_R) (h : ai_H) (x : Int32) : ai_pf 0 62 281 R h 0 0 (ai_i x) = some (R, ai_wI h 0 0 11 x) := ai_pf_of (c := 0) (k := 11) (f := 0) rfl rfl ai_al_0
theorem ai_p_0_65 (R : ai_R) (h : ai_H) (x : Int32) : ai_pf 0 65 281 R h 0 0 (ai_i x) = some (R, ai_wI h 0 0 12 x) := ai_pf_of (c := 0) (k := 12) (f := 0) rfl rfl ai_al_0
theorem ai_p_0_68 (R : ai_R) (h : ai_H) (x : Int32) : ai_pf 0 68 281 R h 0 0 (ai_i x) = some (R, ai_wI h 0 0 13 x) := ai_pf_of (c := 0) (k := 13) (f := 0) rfl rfl ai_al_0
theorem ai_p_0_71 (R : ai_R) (h : ai_H) (x : Int64) : ai_pf 0 71 281 R h 0 0 (ai_j x) = some (R, ai_wJ h 0 0 14 x) := ai_pf_of (c := 0) (k := 14) (f := 1) rfl rfl ai_al_0
theorem ai_p_0_75 (R : ai_R) (h : ai_H) (x : Int64) : ai_pf 0 75 281 R h 0 0 (ai_j x) = some (R, ai_wJ h 0 0 15 x) := ai_pf_of (c := 0) (k := 15) (f := 1) rfl rfl ai_al_0
theorem ai_p_1_15 (R : ai_R) (h : ai_H) (x : Int32) : ai_pf 1 15 281 R h 0 0 (ai_i x) = some (R, ai_wI h 0 0 1 x) := ai_pf_of (c := 0) (k := 1) (f := 0) rfl rfl ai_al_0
theorem ai_p_3_120 (R : ai_R) (h : ai_H) (x : Int32) (hx : x = 0 ∨ x = 1) {i : Nat} (hi : i < 40) : ai_pf 3 120 281 R h 14 i (ai_i x) = some (R, ai_wI h 14 i 5 x) := (ai_pf_of (c := 1) (k := 5) (f := 3) rfl rfl (ai_al_14 hi)).trans (if_pos hx)
theorem ai_p_4_65 (R : ai_R) (h : ai_H) (x : Int32) : ai_pf 4 65 281 R h 0 0 (ai_i x) = some (R, ai_wI h 0 0 12 x) := ai_pf_of (c := 0) (k := 12) (f := 0) rfl rfl ai_al_0
theorem ai_p_16_228 (R : ai_R) (h : ai_H) (x : Int32) {i : Nat} (hi : i < 3) : ai_pf 16 228 281 R h 20 i (ai_i x) = some (R, ai_wI h 20 i 0 x) := ai_pf_of (c := 2) (k := 0) (f := 0) rfl rfl (ai_al_20 hi)
theorem ai_p_16_231 (R : ai_R) (h : ai_H) (x : Int32) {i : Nat} (hi : i < 3) : ai_pf 16 231 281 R h 20 i (ai_i x) = some (R, ai_wI h 20 i 1 x) := ai_pf_of (c := 2) (k := 1) (f := 0) rfl rfl (ai_al_20 hi)
theorem ai_p_16_234 (R : ai_R) (h : ai_H) (x : Int32) {i : Nat} (hi : i < 3) : ai_pf 16 234 281 R h 20 i (ai_i x) = some (R, ai_wI h 20 i 2 x) := ai_pf_of (c := 2) (k := 2) (f := 0) rfl rfl (ai_al_20 hi)
theorem ai_p_23_62 (R : ai_R) (h : ai_H) (x : Int32) : ai_pf 23 62 281 R h 0 0 (ai_i x) = some (R, ai_wI h 0 0 11 x) := ai_pf_of (c := 0) (k := 11) (f := 0) rfl rfl ai_al_0
theorem ai_p_24_68 (R : ai_R) (h : ai_H) (x : Int32) : ai_pf 24 68 281 R h 0 0 (ai_i x) = some (R, ai_wI h 0 0 13 x) := ai_pf_of (c := 0) (k := 13) (f := 0) rfl rfl ai_al_0
theorem ai_p_24_71 (R : ai_R) (h : ai_H) (x : Int64) : ai_pf 24 71 281 R h 0 0 (ai_j x) = some (R, ai_wJ h 0 0 14 x) := ai_pf_of (c := 0) (k := 14) (f := 1) rfl rfl ai_al_0
theorem ai_p_24_272 (R : ai_R) (h : ai_H) (x : Int32) (hx : x = 0 ∨ x = 1) {i : Nat} (hi : i < 40) : ai_pf 24 272 281 R h 14 i (ai_i x) = some (R, ai_wI h 14 i 10 x) := (ai_pf_of (c := 1) (k := 10) (f := 3) rfl rfl (ai_al_14 hi)).trans (if_pos hx)
theorem ai_p_24_277 (R : ai_R) (h : ai_H) (x : Int32) (hx : x = 0 ∨ x = 1) {i : Nat} (hi : i < 40) : ai_pf 24 277 281 R h 14 i (ai_i x) = some (R, ai_wI h 14 i 11 x) := (ai_pf_of (c := 1) (k := 11) (f := 3) rfl rfl (ai_al_14 hi)).trans (if_pos hx)
theorem ai_p_24_280 (R : ai_R) (h : ai_H) (x : Int32) {i : Nat} (hi : i < 40) : ai_pf 24 280 281 R h 14 i (ai_i x) = some (R, ai_wI h 14 i 12 x) := ai_pf_of (c := 1) (k := 12) (f := 0) rfl rfl (ai_al_14 hi)
theorem ai_p_24_283 (R : ai_R) (h : ai_H) (x : Int32) {i : Nat} (hi : i < 40) : ai_pf 24 283 281 R h 14 i (ai_i x) = some (R, ai_wI h 14 i 13 x) := ai_pf_of (c := 1) (k := 13) (f := 0) rfl rfl (ai_al_14 hi)
theorem ai_p_36_65 (R : ai_R) (h : ai_H) (x : Int32) : ai_pf 36 65 281 R h 0 0 (ai_i x) = some (R, ai_wI h 0 0 12 x) := ai_pf_of (c := 0) (k := 12) (f := 0) rfl rfl ai_al_0
theorem ai_p_42_25 (R : ai_R) (h : ai_H) (x : Int32) : ai_pf 42 25 281 R h 0 0 (ai_i x) = some (R, ai_wI h 0 0 3 x) := ai_pf_of (c := 0) (k := 3) (f := 0) rfl rfl ai_al_0
theorem ai_p_43_211 (R : ai_R) (h : ai_H) (x : Int32) (hx : x = 0 ∨ x = 1) {i : Nat} (hi : i < 30) : ai_pf 43 211 281 R h 19 i (ai_i x) = some (R, ai_wI h 19 i 3 x) := (ai_pf_of (c := 5) (k := 3) (f := 3) rfl rfl (ai_al_19 hi)).trans (if_pos hx)
theorem ai_p_45_113 (R : ai_R) (h : ai_H) (x : Int32) {i : Nat} (hi : i < 40) : ai_pf 45 113 281 R h 14 i (ai_i x) = some (R, ai_wI h 14 i 3 x) := ai_pf_of (c := 1) (k := 3) (f := 0) rfl rfl (ai_al_14 hi)
theorem ai_p_54_68 (R : ai_R) (h : ai_H) (x : Int32) : ai_pf 54 68 281 R h 0 0 (ai_i x) = some (R, ai_wI h 0 0 13 x) := ai_pf_of (c := 0) (k := 13) (f := 0) rfl rfl ai_al_0
theorem ai_p_54_75 (R : ai_R) (h : ai_H) (x : Int64) : ai_pf 54 75 281 R h 0 0 (ai_j x) = some (R, ai_wJ h 0 0 15 x) := ai_pf_of (c := 0) (k := 15) (f := 1) rfl rfl ai_al_0
theorem ai_p_54_277 (R : ai_R) (h : ai_H) (x : Int32) (hx : x = 0 ∨ x = 1) {i : Nat} (hi : i < 40) : ai_pf 54 277 281 R h 14 i (ai_i x) = some (R, ai_wI h 14 i 11 x) := (ai_pf_of (c := 1) (k := 11) (f := 3) rfl rfl (ai_al_14 hi)).trans (if_pos hx)
theorem ai_p_100_9 (R : ai_R) (h : ai_H) (x : Int32) {i : Nat} (hi : i < 40) : ai_pf 100 9 281 R h 14 i (ai_i x) = some (R, ai_wI h 14 i 0 x) := ai_pf_of (c := 1) (k := 0) (f := 0) rfl rfl (ai_al_14 hi)
theorem ai_p_100_15 (R : ai_R) (h : ai_H) (x : Int32) {i : Nat} (hi : i < 40) : ai_pf 100 15 281 R h 14 i (ai_i x) = some (R, ai_wI h 14 i 1 x) := ai_pf_of (c := 1) (k := 1) (f := 0) rfl rfl (ai_al_14 hi)
theorem ai_p_100_18 (R : ai_R) (h : ai_H) (x : Int32) {i : Nat} (hi : i < 40) : ai_pf 100 18 281 R h 14 i (ai_i x) = some (R, ai_wI h 14 i 2 x) := ai_pf_of (c := 1) (k := 2) (f := 0) rfl rfl (ai_al_14 hi)
theorem ai_p_100_21 (R : ai_R) (h : ai_H) (x : Int32) {i : Nat} (hi : i < 40) : ai_pf 100 21 281 R h 14 i (ai_i x) = some (R, ai_wI h 14 i 3 x) := ai_pf_of (c := 1) (k := 3) (f := 0) rfl rfl (ai_al_14 hi)
theorem ai_p_100_24 (R : ai_R) (h : ai_H) (x : Int32) {i : Nat} (hi : i < 40) : ai_pf 100 24 281 R h 14 i (ai_i x) = some (R, ai_wI h 14 i 4 x) := ai_pf_of (c := 1) (k := 4) (f := 0) rfl rfl (ai_al_14 hi)
theorem ai_p_100_27 (R : ai_R) (h : ai_H) (x : Int32) (hx : x = 0 ∨ x = 1) {i : Nat} (hi : i < 40) : ai_pf 100 27 281 R h 14 i (ai_i x) = some (R, ai_wI h 14 i 5 x) := (ai_pf_of (c := 1) (k := 5) (f := 3) rfl rfl (ai_al_14 hi)).trans (if_pos hx)
theorem ai_p_100_45 (R : ai_R) (h : ai_H) (x : Int32) (hx : x = 0 ∨ x = 1) {i : Nat} (hi : i < 40) : ai_pf 100 45 281 R h 14 i (ai_i x) = some (R, ai_wI h 14 i 10 x) := (ai_pf_of (c := 1) (k := 10) (f := 3) rfl rfl (ai_al_14 hi)).trans (if_pos hx)
theorem ai_p_100_48 (R : ai_R) (h : ai_H) (x : Int32) (hx : x = 0 ∨ x = 1) {i : Nat} (hi : i < 40) : ai_pf 100 48 281 R h 14 i (ai_i x) = some (R, ai_wI h 14 i 11 x) := (ai_pf_of (c := 1) (k := 11) (f := 3) rfl rfl (ai_al_14 hi)).trans (if_pos hx)
theorem ai_p_100_51 (R : ai_R) (h : ai_H) (x : Int32) {i : Nat} (hi : i < 40) : ai_pf 100 51 281 R h 14 i (ai_i x) = some (R, ai_wI h 14 i 12 x) := ai_pf_of (c := 1) (k := 12) (f := 0) rfl rfl (ai_al_14 hi)
theorem ai_p_100_54 (R : ai_R) (h : ai_H) (x : Int32) {i : Nat} (hi : i < 40) : ai_pf 100 54 281 R h 14 i (ai_i x) = some (R, ai_wI h 14 i 13 x) := ai_pf_of (c := 1) (k := 13) (f := 0) rfl rfl (ai_al_14 hi)
theorem ai_p_101_9 (R : ai_R) (h : ai_H) (x : Int32) {i : Nat} (hi : i < 40) : ai_pf 101 9 281 R h 14 i (ai_i x) = some (R, ai_wI h 14 i 0 x) := ai_pf_of (c := 1) (k := 0) (f := 0) rfl rfl (ai_al_14 hi)
theorem ai_p_101_15 (R : ai_R) (h : ai_H) (x : Int32) {i : Nat} (hi : i < 40) : ai_pf 101 15 281 R h 14 i (ai_i x) = some (R, ai_wI h 14 i 1 x) := ai_pf_of (c := 1) (k := 1) (f := 0) rfl rfl (ai_al_14 hi)
theorem ai_p_101_18 (R : ai_R) (h : ai_H) (x : Int32) {i : Nat} (hi : i < 40) : ai_pf 101 18 281 R h 14 i (ai_i x) = some (R, ai_wI h 14 i 2 x) := ai_pf_of (c := 1) (k := 2) (f := 0) rfl rfl (ai_al_14 hi)
theorem ai_p_101_21 (R : ai_R) (h : ai_H) (x : Int32) {i : Nat} (hi : i < 40) : ai_pf 101 21 281 R h 14 i (ai_i x) = some (R, ai_wI h 14 i 3 x) := ai_pf_of (c := 1) (k := 3) (f := 0) rfl rfl (ai_al_14 hi)
theorem ai_p_101_24 (R : ai_R) (h : ai_H) (x : Int32) {i : Nat} (hi : i < 40) : ai_pf 101 24 281 R h 14 i (ai_i x) = some (R, ai_wI h 14 i 4 x) := ai_pf_of (c := 1) (k := 4) (f := 0) rfl rfl (ai_al_14 hi)
theorem ai_p_200_9 (R : ai_R) (h : ai_H) (x : Int32) {i : Nat} (hi : i < 3) : ai_pf 200 9 281 R h 20 i (ai_i x) = some (R, ai_wI h 20 i 0 x) := ai_pf_of (c := 2) (k := 0) (f := 0) rfl rfl (ai_al_20 hi)
theorem ai_p_200_15 (R : ai_R) (h : ai_H) (x : Int32) {i : Nat} (hi : i < 3) : ai_pf 200 15 281 R h 20 i (ai_i x) = some (R, ai_wI h 20 i 1 x) := ai_pf_of (c := 2) (k := 1) (f := 0) rfl rfl (ai_al_20 hi)
theorem ai_p_200_18 (R : ai_R) (h : ai_H) (x : Int32) {i : Nat} (hi : i < 3) : ai_pf 200 18 281 R h 20 i (ai_i x) = some (R, ai_wI h 20 i 2 x) := ai_pf_of (c := 2) (k := 2) (f := 0) rfl rfl (ai_al_20 hi)
theorem ai_p_300_18 (R : ai_R) (h : ai_H) (x : Int32) : ai_pf 300 18 281 R h 4 0 (ai_i x) = some (R, ai_wI h 4 0 2 x) := ai_pf_of (c := 3) (k := 2) (f := 0) rfl rfl ai_al_4
theorem ai_p_301_18 (R : ai_R) (h : ai_H) (x : Int32) : ai_pf 301 18 281 R h 4 0 (ai_i x) = some (R, ai_wI h 4 0 2 x) := ai_pf_of (c := 3) (k := 2) (f := 0) rfl rfl ai_al_4
theorem ai_p_400_18 (R : ai_R) (h : ai_H) (x : Int32) : ai_pf 400 18 281 R h 7 0 (ai_i x) = some (R, ai_wI h 7 0 2 x) := ai_pf_of (c := 4) (k := 2) (f := 0) rfl rfl ai_al_7
theorem ai_p_401_18 (R : ai_R) (h : ai_H) (x : Int32) : ai_pf 401 18 281 R h 7 0 (ai_i x) = some (R, ai_wI h 7 0 2 x) := ai_pf_of (c := 4) (k := 2) (f := 0) rfl rfl ai_al_7
theorem ai_p_402_18 (R : ai_R) (h : ai_H) (x : Int32) : ai_pf 402 18 281 R h 7 0 (ai_i x) = some (R, ai_wI h 7 0 2 x) := ai_pf_of (c := 4) (k := 2) (f := 0) rfl rfl ai_al_7
theorem ai_p_500_7 (R : ai_R) (h : ai_H) (x : Int32) {i : Nat} (hi : i < 30) : ai_pf 500 7 281 R h 19 i (ai_i x) = some (R, ai_wI h 19 i 0 x) := ai_pf_of (c := 5) (k := 0) (f := 0) rfl rfl (ai_al_19 hi)
theorem ai_p_500_13 (R : ai_R) (h : ai_H) (x : Int32) {i : Nat} (hi : i < 30) : ai_pf 500 13 281 R h 19 i (ai_i x) = some (R, ai_wI h 19 i 1 x) := ai_pf_of (c := 5) (k := 1) (f := 0) rfl rfl (ai_al_19 hi)
theorem ai_p_500_16 (R : ai_R) (h : ai_H) (x : Int32) {i : Nat} (hi : i < 30) : ai_pf 500 16 281 R h 19 i (ai_i x) = some (R, ai_wI h 19 i 2 x) := ai_pf_of (c := 5) (k := 2) (f := 0) rfl rfl (ai_al_19 hi)
theorem ai_p_500_19 (R : ai_R) (h : ai_H) (x : Int32) (hx : x = 0 ∨ x = 1) {i : Nat} (hi : i < 30) : ai_pf 500 19 281 R h 19 i (ai_i x) = some (R, ai_wI h 19 i 3 x) := (ai_pf_of (c := 5) (k := 3) (f := 3) rfl rfl (ai_al_19 hi)).trans (if_pos hx)
theorem ai_p_501_7 (R : ai_R) (h : ai_H) (x : Int32) {i : Nat} (hi : i < 30) : ai_pf 501 7 281 R h 19 i (ai_i x) = some (R, ai_wI h 19 i 0 x) := ai_pf_of (c := 5) (k := 0) (f := 0) rfl rfl (ai_al_19 hi)
theorem ai_p_501_13 (R : ai_R) (h : ai_H) (x : Int32) {i : Nat} (hi : i < 30) : ai_pf 501 13 281 R h 19 i (ai_i x) = some (R, ai_wI h 19 i 1 x) := ai_pf_of (c := 5) (k := 1) (f := 0) rfl rfl (ai_al_19 hi)
theorem ai_p_501_16 (R : ai_R) (h : ai_H) (x : Int32) {i : Nat} (hi : i < 30) : ai_pf 501 16 281 R h 19 i (ai_i x) = some (R, ai_wI h 19 i 2 x) := ai_pf_of (c := 5) (k := 2) (f := 0) rfl rfl (ai_al_19 hi)
theorem ai_p_608_90 (R : ai_R) (h : ai_H) (x : Int32) : ai_pf 608 90 281 R h 23 0 (ai_i x) = some (R, ai_wI h 23 0 30 x) := ai_pf_of (c := 6) (k := 30) (f := 0) rfl rfl ai_al_23
theorem ai_p_608_98 (R : ai_R) (h : ai_H) (x : Int32) : ai_pf 608 98 281 R h 23 0 (ai_i x) = some (R, ai_wI h 23 0 1 x) := ai_pf_of (c := 6) (k := 1) (f := 0) rfl rfl ai_al_23
theorem ai_p_609_90 (R : ai_R) (h : ai_H) (x : Int32) : ai_pf 609 90 281 R h 23 0 (ai_i x) = some (R, ai_wI h 23 0 30 x) := ai_pf_of (c := 6) (k := 30) (f := 0) rfl rfl ai_al_23
theorem ai_p_610_90 (R : ai_R) (h : ai_H) (x : Int32) : ai_pf 610 90 281 R h 23 0 (ai_i x) = some (R, ai_wI h 23 0 30 x) := ai_pf_of (c := 6) (k := 30) (f := 0) rfl rfl ai_al_23
theorem ai_p_615_90 (R : ai_R) (h : ai_H) (x : Int32) : ai_pf 615 90 281 R h 23 0 (ai_i x) = some (R, ai_wI h 23 0 30 x) := ai_pf_of (c := 6) (k := 30) (f := 0) rfl rfl ai_al_23
theorem ai_p_615_126 (R : ai_R) (h : ai_H) (x : Int32) : ai_pf 615 126 281 R h 23 0 (ai_i x) = some (R, ai_wI h 23 0 11 x) := ai_pf_of (c := 6) (k := 11) (f := 0) rfl rfl ai_al_23
theorem ai_p_616_90 (R : ai_R) (h : ai_H) (x : Int32) : ai_pf 616 90 281 R h 23 0 (ai_i x) = some (R, ai_wI h 23 0 30 x) := ai_pf_of (c := 6) (k := 30) (f := 0) rfl rfl ai_al_23
theorem ai_p_616_126 (R : ai_R) (h : ai_H) (x : Int32) : ai_pf 616 126 281 R h 23 0 (ai_i x) = some (R, ai_wI h 23 0 11 x) := ai_pf_of (c := 6) (k := 11) (f := 0) rfl rfl ai_al_23
theorem ai_p_617_90 (R : ai_R) (h : ai_H) (x : Int32) : ai_pf 617 90 281 R h 23 0 (ai_i x) = some (R, ai_wI h 23 0 30 x) := ai_pf_of (c := 6) (k := 30) (f := 0) rfl rfl ai_al_23
theorem ai_p_617_126 (R : ai_R) (h : ai_H) (x : Int32) : ai_pf 617 126 281 R h 23 0 (ai_i x) = some (R, ai_wI h 23 0 11 x) := ai_pf_of (c := 6) (k := 11) (f := 0) rfl rfl ai_al_23
theorem ai_p_618_90 (R : ai_R) (h : ai_H) (x : Int32) : ai_pf 618 90 281 R h 23 0 (ai_i x) = some (R, ai_wI h 23 0 30 x) := ai_pf_of (c := 6) (k := 30) (f := 0) rfl rfl ai_al_23
theorem ai_p_623_90 (R : ai_R) (h : ai_H) (x : Int32) : ai_pf 623 90 281 R h 23 0 (ai_i x) = some (R, ai_wI h 23 0 30 x) := ai_pf_of (c := 6) (k := 30) (f := 0) rfl rfl ai_al_23
theorem ai_p_624_90 (R : ai_R) (h : ai_H) (x : Int32) : ai_pf 624 90 281 R h 23 0 (ai_i x) = some (R, ai_wI h 23 0 30 x) := ai_pf_of (c := 6) (k := 30) (f := 0) rfl rfl ai_al_23
theorem ai_p_628_162 (R : ai_R) (h : ai_H) (x : Int32) : ai_pf 628 162 281 R h 23 0 (ai_i x) = some (R, ai_wI h 23 0 14 x) := ai_pf_of (c := 6) (k := 14) (f := 0) rfl rfl ai_al_23
theorem ai_p_631_90 (R : ai_R) (h : ai_H) (x : Int32) : ai_pf 631 90 281 R h 23 0 (ai_i x) = some (R, ai_wI h 23 0 30 x) := ai_pf_of (c := 6) (k := 30) (f := 0) rfl rfl ai_al_23
theorem ai_p_633_178 (R : ai_R) (h : ai_H) (x : Int32) : ai_pf 633 178 281 R h 23 0 (ai_i x) = some (R, ai_wI h 23 0 33 x) := ai_pf_of (c := 6) (k := 33) (f := 0) rfl rfl ai_al_23
theorem ai_p_634_178 (R : ai_R) (h : ai_H) (x : Int32) : ai_pf 634 178 281 R h 23 0 (ai_i x) = some (R, ai_wI h 23 0 33 x) := ai_pf_of (c := 6) (k := 33) (f := 0) rfl rfl ai_al_23
theorem ai_p_635_90 (R : ai_R) (h : ai_H) (x : Int32) : ai_pf 635 90 281 R h 23 0 (ai_i x) = some (R, ai_wI h 23 0 30 x) := ai_pf_of (c := 6) (k := 30) (f := 0) rfl rfl ai_al_23
theorem ai_p_637_90 (R : ai_R) (h : ai_H) (x : Int32) : ai_pf 637 90 281 R h 23 0 (ai_i x) = some (R, ai_wI h 23 0 30 x) := ai_pf_of (c := 6) (k := 30) (f := 0) rfl rfl ai_al_23
theorem ai_p_638_90 (R : ai_R) (h : ai_H) (x : Int32) : ai_pf 638 90 281 R h 23 0 (ai_i x) = some (R, ai_wI h 23 0 30 x) := ai_pf_of (c := 6) (k := 30) (f := 0) rfl rfl ai_al_23
theorem ai_p_639_90 (R : ai_R) (h : ai_H) (x : Int32) : ai_pf 639 90 281 R h 23 0 (ai_i x) = some (R, ai_wI h 23 0 30 x) := ai_pf_of (c := 6) (k := 30) (f := 0) rfl rfl ai_al_23
theorem ai_p_640_90 (R : ai_R) (h : ai_H) (x : Int32) : ai_pf 640 90 281 R h 23 0 (ai_i x) = some (R, ai_wI h 23 0 30 x) := ai_pf_of (c := 6) (k := 30) (f := 0) rfl rfl ai_al_23
theorem ai_p_641_90 (R : ai_R) (h : ai_H) (x : Int32) : ai_pf 641 90 281 R h 23 0 (ai_i x) = some (R, ai_wI h 23 0 30 x) := ai_pf_of (c := 6) (k := 30) (f := 0) rfl rfl ai_al_23
theorem ai_p_642_90 (R : ai_R) (h : ai_H) (x : Int32) : ai_pf 642 90 281 R h 23 0 (ai_i x) = some (R, ai_wI h 23 0 30 x) := ai_pf_of (c := 6) (k := 30) (f := 0) rfl rfl ai_al_23
theorem ai_p_646_90 (R : ai_R) (h : ai_H) (x : Int32) : ai_pf 646 90 281 R h 23 0 (ai_i x) = some (R, ai_wI h 23 0 30 x) := ai_pf_of (c := 6) (k := 30) (f := 0) rfl rfl ai_al_23
theorem ai_p_647_90 (R : ai_R) (h : ai_H) (x : Int32) : ai_pf 647 90 281 R h 23 0 (ai_i x) = some (R, ai_wI h 23 0 30 x) := ai_pf_of (c := 6) (k := 30) (f := 0) rfl rfl ai_al_23
theorem ai_p_648_90 (R : ai_R) (h : ai_H) (x : Int32) : ai_pf 648 90 281 R h 23 0 (ai_i x) = some (R, ai_wI h 23 0 30 x) := ai_pf_of (c := 6) (k := 30) (f := 0) rfl rfl ai_al_23
theorem ai_p_649_90 (R : ai_R) (h : ai_H) (x : Int32) : ai_pf 649 90 281 R h 23 0 (ai_i x) = some (R, ai_wI h 23 0 30 x) := ai_pf_of (c := 6) (k := 30) (f := 0) rfl rfl ai_al_23
theorem ai_p_650_90 (R : ai_R) (h : ai_H) (x : Int32) : ai_pf 650 90 281 R h 23 0 (ai_i x) = some (R, ai_wI h 23 0 30 x) := ai_pf_of (c := 6) (k := 30) (f := 0) rfl rfl ai_al_23
theorem ai_p_651_90 (R : ai_R) (h : ai_H) (x : Int32) : ai_pf 651 90 281 R h 23 0 (ai_i x) = some (R, ai_wI h 23 0 30 x) := ai_pf_of (c := 6) (k := 30) (f := 0) rfl rfl ai_al_23
theorem ai_p_651_109 (R : ai_R) (h : ai_H) (x : Int32) : ai_pf 651 109 281 R h 23 0 (ai_i x) = some (R, ai_wI h 23 0 0 x) := ai_pf_of (c := 6) (k := 0) (f := 0) rfl rfl ai_al_23
theorem ai_p_653_90 (R : ai_R) (h : ai_H) (x : Int32) : ai_pf 653 90 281 R h 23 0 (ai_i x) = some (R, ai_wI h 23 0 30 x) := ai_pf_of (c := 6) (k := 30) (f := 0) rfl rfl ai_al_23
theorem ai_p_653_209 (R : ai_R) (h : ai_H) (x : Int64) : ai_pf 653 209 281 R h 23 0 (ai_j x) = some (R, ai_wJ h 23 0 28 x) := ai_pf_of (c := 6) (k := 28) (f := 1) rfl rfl ai_al_23
theorem ai_p_654_90 (R : ai_R) (h : ai_H) (x : Int32) : ai_pf 654 90 281 R h 23 0 (ai_i x) = some (R, ai_wI h 23 0 30 x) := ai_pf_of (c := 6) (k := 30) (f := 0) rfl rfl ai_al_23
theorem ai_p_654_217 (R : ai_R) (h : ai_H) (x : Int64) : ai_pf 654 217 281 R h 23 0 (ai_j x) = some (R, ai_wJ h 23 0 29 x) := ai_pf_of (c := 6) (k := 29) (f := 1) rfl rfl ai_al_23
theorem ai_p_655_90 (R : ai_R) (h : ai_H) (x : Int32) : ai_pf 655 90 281 R h 23 0 (ai_i x) = some (R, ai_wI h 23 0 30 x) := ai_pf_of (c := 6) (k := 30) (f := 0) rfl rfl ai_al_23
theorem ai_a_1 (x : Int32) : ai_ald ((ai_kr 1).map fun r => r.2) 281 1 0 x = ai_ix x 40 := ai_ald_of rfl ai_al_1
theorem ai_R0_1 {j : Nat} (hj : j < 40) : ai_R0 1 0 j = some (14, j) := if_pos ⟨Nat.zero_lt_one, hj⟩
theorem ai_a_2 (x : Int32) : ai_ald ((ai_kr 2).map fun r => r.2) 281 2 0 x = ai_ix x 30 := ai_ald_of rfl ai_al_2
theorem ai_R0_2 {j : Nat} (hj : j < 30) : ai_R0 2 0 j = some (19, j) := if_pos ⟨Nat.zero_lt_one, hj⟩
theorem ai_a_3 (x : Int32) : ai_ald ((ai_kr 3).map fun r => r.2) 281 3 0 x = ai_ix x 3 := ai_ald_of rfl ai_al_3
theorem ai_R0_3 {j : Nat} (hj : j < 3) : ai_R0 3 0 j = some (20, j) := if_pos ⟨Nat.zero_lt_one, hj⟩
theorem ai_a_5 (x : Int32) : ai_ald (ai_ki 5) 281 5 0 x = ai_ix x 582 := ai_ald_of rfl ai_al_5
theorem ai_il_5 (L : Nat) (h : ai_H) (x : Int32) : ai_il 281 L h 5 0 x = (ai_ix x 582).map fun j => ai_gI h 5 0 j := (if_neg (by decide)).trans (by rw [ai_a_5])
theorem ai_a_6 (x : Int32) : ai_ald (ai_ki 6) 281 6 0 x = ai_ix x 582 := ai_ald_of rfl ai_al_6
theorem ai_il_6 (L : Nat) (h : ai_H) (x : Int32) : ai_il 281 L h 6 0 x = (ai_ix x 582).map fun j => ai_gI h 6 0 j := (if_neg (by decide)).trans (by rw [ai_a_6])
theorem ai_a_8 (x : Int32) : ai_ald (ai_ki 8) 281 8 0 x = ai_ix x 40 := ai_ald_of rfl ai_al_8
theorem ai_il_8 (L : Nat) (h : ai_H) (x : Int32) : ai_il 281 L h 8 0 x = (ai_ix x 40).map fun j => ai_gI h 8 0 j := (if_neg (by decide)).trans (by rw [ai_a_8])
theorem ai_a_9 (x : Int32) : ai_ald (ai_ki 9) 281 9 0 x = ai_ix x 40 := ai_ald_of rfl ai_al_9
theorem ai_il_9 (L : Nat) (h : ai_H) (x : Int32) : ai_il 281 L h 9 0 x = (ai_ix x 40).map fun j => ai_gI h 9 0 j := (if_neg (by decide)).trans (by rw [ai_a_9])
theorem ai_a_10 (x : Int32) : ai_ald (ai_kj 10) 281 10 0 x = ai_ix x 7 := ai_ald_of rfl ai_al_10
theorem ai_a_11 (x : Int32) : ai_ald (ai_kj 11) 281 11 0 x = ai_ix x 5 := ai_ald_of rfl ai_al_11
theorem ai_a_12 (x : Int32) : ai_ald (ai_kz 12) 281 12 0 x = ai_ix x 4 := ai_ald_of rfl ai_al_12
theorem ai_a_13 (x : Int32) : ai_ald (ai_kj 13) 281 13 0 x = ai_ix x 5 := ai_ald_of rfl ai_al_13
theorem ai_a_15 (x : Int32) {i : Nat} (hi : i < 40) : ai_ald (ai_kz 15) 281 15 i x = ai_ix x 3 := ai_ald_of rfl (ai_al_15 hi)
theorem ai_a_16 (x : Int32) {i : Nat} (hi : i < 40) : ai_ald (ai_ki 16) 281 16 i x = ai_ix x 3 := ai_ald_of rfl (ai_al_16 hi)
theorem ai_il_16 (L : Nat) (h : ai_H) (x : Int32) {i : Nat} (hi : i < 40) : ai_il 281 L h 16 i x = (ai_ix x 3).map fun j => ai_gI h 16 i j := (if_neg (by decide)).trans (by rw [ai_a_16 x hi])
theorem ai_le_16 (L : Nat) {i : Nat} (hi : i < 40) : ai_len 281 L 16 i = some 3 := ai_len_of rfl (ai_al_16 hi) (by decide)
theorem ai_a_17 (x : Int32) {i : Nat} (hi : i < 40) : ai_ald (ai_ki 17) 281 17 i x = ai_ix x 3 := ai_ald_of rfl (ai_al_17 hi)
theorem ai_il_17 (L : Nat) (h : ai_H) (x : Int32) {i : Nat} (hi : i < 40) : ai_il 281 L h 17 i x = (ai_ix x 3).map fun j => ai_gI h 17 i j := (if_neg (by decide)).trans (by rw [ai_a_17 x hi])
theorem ai_le_17 (L : Nat) {i : Nat} (hi : i < 40) : ai_len 281 L 17 i = some 3 := ai_len_of rfl (ai_al_17 hi) (by decide)
theorem ai_a_18 (x : Int32) {i : Nat} (hi : i < 40) : ai_ald (ai_ki 18) 281 18 i x = ai_ix x 3 := ai_ald_of rfl (ai_al_18 hi)
theorem ai_il_18 (L : Nat) (h : ai_H) (x : Int32) {i : Nat} (hi : i < 40) : ai_il 281 L h 18 i x = (ai_ix x 3).map fun j => ai_gI h 18 i j := (if_neg (by decide)).trans (by rw [ai_a_18 x hi])
theorem ai_le_18 (L : Nat) {i : Nat} (hi : i < 40) : ai_len 281 L 18 i = some 3 := ai_len_of rfl (ai_al_18 hi) (by decide)
theorem ai_a_21 (x : Int32) {i : Nat} (hi : i < 3) : ai_ald (ai_ki 21) 281 21 i x = ai_ix x 5 := ai_ald_of rfl (ai_al_21 hi)
theorem ai_il_21 (L : Nat) (h : ai_H) (x : Int32) {i : Nat} (hi : i < 3) : ai_il 281 L h 21 i x = (ai_ix x 5).map fun j => ai_gI h 21 i j := (if_neg (by decide)).trans (by rw [ai_a_21 x hi])
theorem ai_a_22 (x : Int32) {i : Nat} (hi : i < 3) : ai_ald (ai_kj 22) 281 22 i x = ai_ix x 4 := ai_ald_of rfl (ai_al_22 hi)
theorem ai_a_24 (x : Int32) : ai_ald (ai_ki 24) 281 24 0 x = ai_ix x 40 := ai_ald_of rfl ai_al_24
theorem ai_il_24 (L : Nat) (h : ai_H) (x : Int32) : ai_il 281 L h 24 0 x = (ai_ix x 40).map fun j => ai_gI h 24 0 j := (if_neg (by decide)).trans (by rw [ai_a_24])
theorem ai_a_25 (x : Int32) : ai_ald (ai_ki 25) 281 25 0 x = ai_ix x 40 := ai_ald_of rfl ai_al_25
theorem ai_il_25 (L : Nat) (h : ai_H) (x : Int32) : ai_il 281 L h 25 0 x = (ai_ix x 40).map fun j => ai_gI h 25 0 j := (if_neg (by decide)).trans (by rw [ai_a_25])
theorem ai_a_26 (x : Int32) : ai_ald (ai_ki 26) 281 26 0 x = ai_ix x 40 := ai_ald_of rfl ai_al_26
theorem ai_il_26 (L : Nat) (h : ai_H) (x : Int32) : ai_il 281 L h 26 0 x = (ai_ix x 40).map fun j => ai_gI h 26 0 j := (if_neg (by decide)).trans (by rw [ai_a_26])
theorem ai_a_27 (x : Int32) : ai_ald (ai_ki 27) 281 27 0 x = ai_ix x 40 := ai_ald_of rfl ai_al_27
theorem ai_il_27 (L : Nat) (h : ai_H) (x : Int32) : ai_il 281 L h 27 0 x = (ai_ix x 40).map fun j => ai_gI h 27 0 j := (if_neg (by decide)).trans (by rw [ai_a_27])
theorem ai_a_28 (x : Int32) : ai_ald (ai_kz 28) 281 28 0 x = ai_ix x 40 := ai_ald_of rfl ai_al_28
theorem ai_a_29 (x : Int32) : ai_ald (ai_ki 29) 281 29 0 x = ai_ix x 120 := ai_ald_of rfl ai_al_29
theorem ai_il_29 (L : Nat) (h : ai_H) (x : Int32) : ai_il 281 L h 29 0 x = (ai_ix x 120).map fun j => ai_gI h 29 0 j := (if_neg (by decide)).trans (by rw [ai_a_29])
theorem ai_a_30 (x : Int32) : ai_ald (ai_ki 30) 281 30 0 x = ai_ix x 120 := ai_ald_of rfl ai_al_30
theorem ai_il_30 (L : Nat) (h : ai_H) (x : Int32) : ai_il 281 L h 30 0 x = (ai_ix x 120).map fun j => ai_gI h 30 0 j := (if_neg (by decide)).trans (by rw [ai_a_30])
theorem ai_a_31 (x : Int32) : ai_ald (ai_ki 31) 281 31 0 x = ai_ix x 120 := ai_ald_of rfl ai_al_31
theorem ai_il_31 (L : Nat) (h : ai_H) (x : Int32) : ai_il 281 L h 31 0 x = (ai_ix x 120).map fun j => ai_gI h 31 0 j := (if_neg (by decide)).trans (by rw [ai_a_31])
theorem ai_a_32 (x : Int32) : ai_ald (ai_ki 32) 281 32 0 x = ai_ix x 120 := ai_ald_of rfl ai_al_32
theorem ai_il_32 (L : Nat) (h : ai_H) (x : Int32) : ai_il 281 L h 32 0 x = (ai_ix x 120).map fun j => ai_gI h 32 0 j := (if_neg (by decide)).trans (by rw [ai_a_32])
theorem ai_a_33 (x : Int32) : ai_ald (ai_kj 33) 281 33 0 x = ai_ix x 7 := ai_ald_of rfl ai_al_33
theorem ai_a_34 (x : Int32) : ai_ald (ai_kj 34) 281 34 0 x = ai_ix x 5 := ai_ald_of rfl ai_al_34
theorem ai_a_35 (x : Int32) : ai_ald (ai_ki 35) 281 35 0 x = ai_ix x 30 := ai_ald_of rfl ai_al_35
theorem ai_il_35 (L : Nat) (h : ai_H) (x : Int32) : ai_il 281 L h 35 0 x = (ai_ix x 30).map fun j => ai_gI h 35 0 j := (if_neg (by decide)).trans (by rw [ai_a_35])
theorem ai_a_36 (x : Int32) : ai_ald (ai_ki 36) 281 36 0 x = ai_ix x 30 := ai_ald_of rfl ai_al_36
theorem ai_il_36 (L : Nat) (h : ai_H) (x : Int32) : ai_il 281 L h 36 0 x = (ai_ix x 30).map fun j => ai_gI h 36 0 j := (if_neg (by decide)).trans (by rw [ai_a_36])
theorem ai_a_37 (x : Int32) : ai_ald (ai_ki 37) 281 37 0 x = ai_ix x 30 := ai_ald_of rfl ai_al_37
theorem ai_il_37 (L : Nat) (h : ai_H) (x : Int32) : ai_il 281 L h 37 0 x = (ai_ix x 30).map fun j => ai_gI h 37 0 j := (if_neg (by decide)).trans (by rw [ai_a_37])
theorem ai_a_38 (x : Int32) : ai_ald (ai_kz 38) 281 38 0 x = ai_ix x 30 := ai_ald_of rfl ai_al_38
theorem ai_a_39 (x : Int32) : ai_ald (ai_ki 39) 281 39 0 x = ai_ix x 3 := ai_ald_of rfl ai_al_39
theorem ai_il_39 (L : Nat) (h : ai_H) (x : Int32) : ai_il 281 L h 39 0 x = (ai_ix x 3).map fun j => ai_gI h 39 0 j := (if_neg (by decide)).trans (by rw [ai_a_39])
theorem ai_le_39 (L : Nat) : ai_len 281 L 39 0 = some 3 := ai_len_of rfl ai_al_39 (by decide)
theorem ai_a_40 (x : Int32) : ai_ald (ai_ki 40) 281 40 0 x = ai_ix x 3 := ai_ald_of rfl ai_al_40
theorem ai_il_40 (L : Nat) (h : ai_H) (x : Int32) : ai_il 281 L h 40 0 x = (ai_ix x 3).map fun j => ai_gI h 40 0 j := (if_neg (by decide)).trans (by rw [ai_a_40])
theorem ai_le_40 (L : Nat) : ai_len 281 L 40 0 = some 3 := ai_len_of rfl ai_al_40 (by decide)
theorem ai_a_41 (x : Int32) : ai_ald (ai_ki 41) 281 41 0 x = ai_ix x 3 := ai_ald_of rfl ai_al_41
theorem ai_il_41 (L : Nat) (h : ai_H) (x : Int32) : ai_il 281 L h 41 0 x = (ai_ix x 3).map fun j => ai_gI h 41 0 j := (if_neg (by decide)).trans (by rw [ai_a_41])
theorem ai_le_41 (L : Nat) : ai_len 281 L 41 0 = some 3 := ai_len_of rfl ai_al_41 (by decide)
theorem ai_a_42 (x : Int32) : ai_ald (ai_ki 42) 281 42 0 x = ai_ix x 15 := ai_ald_of rfl ai_al_42
theorem ai_il_42 (L : Nat) (h : ai_H) (x : Int32) : ai_il 281 L h 42 0 x = (ai_ix x 15).map fun j => ai_gI h 42 0 j := (if_neg (by decide)).trans (by rw [ai_a_42])
theorem ai_a_43 (x : Int32) : ai_ald (ai_kj 43) 281 43 0 x = ai_ix x 12 := ai_ald_of rfl ai_al_43
theorem ai_a_44 (x : Int32) : ai_ald (ai_kz 44) 281 44 0 x = ai_ix x 4 := ai_ald_of rfl ai_al_44
theorem ai_a_45 (x : Int32) : ai_ald (ai_ki 45) 281 45 0 x = ai_ix x 40 := ai_ald_of rfl ai_al_45
theorem ai_il_45 (L : Nat) (h : ai_H) (x : Int32) : ai_il 281 L h 45 0 x = (ai_ix x 40).map fun j => ai_gI h 45 0 j := (if_neg (by decide)).trans (by rw [ai_a_45])
theorem ai_a_46 (x : Int32) : ai_ald (ai_ki 46) 281 46 0 x = ai_ix x 40 := ai_ald_of rfl ai_al_46
theorem ai_il_46 (L : Nat) (h : ai_H) (x : Int32) : ai_il 281 L h 46 0 x = (ai_ix x 40).map fun j => ai_gI h 46 0 j := (if_neg (by decide)).trans (by rw [ai_a_46])
theorem ai_a_47 (x : Int32) : ai_ald (ai_kz 47) 281 47 0 x = ai_ix x 40 := ai_ald_of rfl ai_al_47
theorem ai_a_48 (x : Int32) : ai_ald (ai_ki 48) 281 48 0 x = ai_ix x 40 := ai_ald_of rfl ai_al_48
theorem ai_il_48 (L : Nat) (h : ai_H) (x : Int32) : ai_il 281 L h 48 0 x = (ai_ix x 40).map fun j => ai_gI h 48 0 j := (if_neg (by decide)).trans (by rw [ai_a_48])
theorem ai_a_49 (x : Int32) : ai_ald (ai_ki 49) 281 49 0 x = ai_ix x 40 := ai_ald_of rfl ai_al_49
theorem ai_il_49 (L : Nat) (h : ai_H) (x : Int32) : ai_il 281 L h 49 0 x = (ai_ix x 40).map fun j => ai_gI h 49 0 j := (if_neg (by decide)).trans (by rw [ai_a_49])
theorem ai_a_50 (x : Int32) : ai_ald (ai_kj 50) 281 50 0 x = ai_ix x 1 := ai_ald_of rfl ai_al_50
theorem ai_kob_0 : ai_ko 0 = some 0 := (id rfl)
theorem ai_kob_4 : ai_ko 4 = some 3 := (id rfl)
theorem ai_kob_7 : ai_ko 7 = some 4 := (id rfl)
theorem ai_kob_14 : ai_ko 14 = some 1 := (id rfl)
theorem ai_kob_19 : ai_ko 19 = some 5 := (id rfl)
theorem ai_kob_20 : ai_ko 20 = some 2 := (id rfl)
theorem ai_kob_23 : ai_ko 23 = some 6 := (id rfl)
theorem ai_il_sc (n L : Nat) (h : ai_H) (x : Int32) : ai_il n L h 99 0 x = (ai_ix x L).map fun j => ai_gI h 99 0 j := if_pos rfl
theorem ai_le_sc (n L : Nat) : ai_len n L 99 0 = some (Int32.ofNat L) := if_pos rfl
theorem ai_rk_0 : ai_rk 0 = 0 := by rw [ai_rk, ai_m_0]
theorem ai_mx_0 : ai_mx 0 = 2 := by rw [ai_mx, ai_m_0]
theorem ai_rk_1 : ai_rk 1 = 1 := by rw [ai_rk, ai_m_1]
theorem ai_mx_1 : ai_mx 1 = 6 := by rw [ai_mx, ai_m_1]
theorem ai_rk_2 : ai_rk 2 = 1 := by rw [ai_rk, ai_m_2]
theorem ai_mx_2 : ai_mx 2 = 3 := by rw [ai_mx, ai_m_2]
theorem ai_rk_3 : ai_rk 3 = 2 := by rw [ai_rk, ai_m_3]
theorem ai_mx_3 : ai_mx 3 = 4 := by rw [ai_mx, ai_m_3]
theorem ai_rk_4 : ai_rk 4 = 1 := by rw [ai_rk, ai_m_4]
theorem ai_mx_4 : ai_mx 4 = 6 := by rw [ai_mx, ai_m_4]
theorem ai_rk_5 : ai_rk 5 = 1 := by rw [ai_rk, ai_m_5]
theorem ai_mx_5 : ai_mx 5 = 3 := by rw [ai_mx, ai_m_5]
theorem ai_rk_6 : ai_rk 6 = 1 := by rw [ai_rk, ai_m_6]
theorem ai_mx_6 : ai_mx 6 = 3 := by rw [ai_mx, ai_m_6]
theorem ai_rk_7 : ai_rk 7 = 1 := by rw [ai_rk, ai_m_7]
theorem ai_mx_7 : ai_mx 7 = 3 := by rw [ai_mx, ai_m_7]
theorem ai_rk_8 : ai_rk 8 = 1 := by rw [ai_rk, ai_m_8]
theorem ai_mx_8 : ai_mx 8 = 5 := by rw [ai_mx, ai_m_8]
theorem ai_rk_9 : ai_rk 9 = 1 := by rw [ai_rk, ai_m_9]
theorem ai_mx_9 : ai_mx 9 = 2 := by rw [ai_mx, ai_m_9]
theorem ai_rk_10 : ai_rk 10 = 1 := by rw [ai_rk, ai_m_10]
theorem ai_mx_10 : ai_mx 10 = 5 := by rw [ai_mx, ai_m_10]
theorem ai_rk_11 : ai_rk 11 = 1 := by rw [ai_rk, ai_m_11]
theorem ai_mx_11 : ai_mx 11 = 4 := by rw [ai_mx, ai_m_11]
theorem ai_rk_12 : ai_rk 12 = 1 := by rw [ai_rk, ai_m_12]
theorem ai_mx_12 : ai_mx 12 = 4 := by rw [ai_mx, ai_m_12]
theorem ai_rk_13 : ai_rk 13 = 3 := by rw [ai_rk, ai_m_13]
theorem ai_mx_13 : ai_mx 13 = 2 := by rw [ai_mx, ai_m_13]
theorem ai_rk_14 : ai_rk 14 = 3 := by rw [ai_rk, ai_m_14]
theorem ai_mx_14 : ai_mx 14 = 2 := by rw [ai_mx, ai_m_14]
theorem ai_rk_15 : ai_rk 15 = 2 := by rw [ai_rk, ai_m_15]
theorem ai_mx_15 : ai_mx 15 = 4 := by rw [ai_mx, ai_m_15]
theorem ai_rk_16 : ai_rk 16 = 0 := by rw [ai_rk, ai_m_16]
theorem ai_mx_16 : ai_mx 16 = 6 := by rw [ai_mx, ai_m_16]
theorem ai_rk_17 : ai_rk 17 = 0 := by rw [ai_rk, ai_m_17]
theorem ai_mx_17 : ai_mx 17 = 4 := by rw [ai_mx, ai_m_17]
theorem ai_rk_18 : ai_rk 18 = 3 := by rw [ai_rk, ai_m_18]
theorem ai_mx_18 : ai_mx 18 = 3 := by rw [ai_mx, ai_m_18]
theorem ai_rk_19 : ai_rk 19 = 3 := by rw [ai_rk, ai_m_19]
theorem ai_mx_19 : ai_mx 19 = 3 := by rw [ai_mx, ai_m_19]
theorem ai_rk_20 : ai_rk 20 = 3 := by rw [ai_rk, ai_m_20]
theorem ai_mx_20 : ai_mx 20 = 6 := by rw [ai_mx, ai_m_20]
theorem ai_rk_21 : ai_rk 21 = 3 := by rw [ai_rk, ai_m_21]
theorem ai_mx_21 : ai_mx 21 = 4 := by rw [ai_mx, ai_m_21]
theorem ai_rk_22 : ai_rk 22 = 1 := by rw [ai_rk, ai_m_22]
theorem ai_mx_22 : ai_mx 22 = 4 := by rw [ai_mx, ai_m_22]
theorem ai_rk_23 : ai_rk 23 = 1 := by rw [ai_rk, ai_m_23]
theorem ai_mx_23 : ai_mx 23 = 4 := by rw [ai_mx, ai_m_23]
theorem ai_rk_24 : ai_rk 24 = 1 := by rw [ai_rk, ai_m_24]
theorem ai_mx_24 : ai_mx 24 = 4 := by rw [ai_mx, ai_m_24]
theorem ai_rk_25 : ai_rk 25 = 1 := by rw [ai_rk, ai_m_25]
theorem ai_mx_25 : ai_mx 25 = 4 := by rw [ai_mx, ai_m_25]
theorem ai_rk_26 : ai_rk 26 = 3 := by rw [ai_rk, ai_m_26]
theorem ai_mx_26 : ai_mx 26 = 4 := by rw [ai_mx, ai_m_26]
theorem ai_rk_27 : ai_rk 27 = 0 := by rw [ai_rk, ai_m_27]
theorem ai_mx_27 : ai_mx 27 = 1 := by rw [ai_mx, ai_m_27]
theorem ai_rk_28 : ai_rk 28 = 0 := by rw [ai_rk, ai_m_28]
theorem ai_mx_28 : ai_mx 28 = 1 := by rw [ai_mx, ai_m_28]
theorem ai_rk_29 : ai_rk 29 = 0 := by rw [ai_rk, ai_m_29]
theorem ai_mx_29 : ai_mx 29 = 1 := by rw [ai_mx, ai_m_29]
theorem ai_rk_30 : ai_rk 30 = 0 := by rw [ai_rk, ai_m_30]
theorem ai_mx_30 : ai_mx 30 = 1 := by rw [ai_mx, ai_m_30]
theorem ai_rk_31 : ai_rk 31 = 0 := by rw [ai_rk, ai_m_31]
theorem ai_mx_31 : ai_mx 31 = 2 := by rw [ai_mx, ai_m_31]
theorem ai_rk_32 : ai_rk 32 = 0 := by rw [ai_rk, ai_m_32]
theorem ai_mx_32 : ai_mx 32 = 4 := by rw [ai_mx, ai_m_32]
theorem ai_rk_33 : ai_rk 33 = 0 := by rw [ai_rk, ai_m_33]
theorem ai_mx_33 : ai_mx 33 = 2 := by rw [ai_mx, ai_m_33]
theorem ai_rk_34 : ai_rk 34 = 0 := by rw [ai_rk, ai_m_34]
theorem ai_mx_34 : ai_mx 34 = 3 := by rw [ai_mx, ai_m_34]
theorem ai_rk_35 : ai_rk 35 = 0 := by rw [ai_rk, ai_m_35]
theorem ai_mx_35 : ai_mx 35 = 4 := by rw [ai_mx, ai_m_35]
theorem ai_rk_36 : ai_rk 36 = 1 := by rw [ai_rk, ai_m_36]
theorem ai_mx_36 : ai_mx 36 = 4 := by rw [ai_mx, ai_m_36]
theorem ai_rk_37 : ai_rk 37 = 0 := by rw [ai_rk, ai_m_37]
theorem ai_mx_37 : ai_mx 37 = 8 := by rw [ai_mx, ai_m_37]
theorem ai_rk_38 : ai_rk 38 = 1 := by rw [ai_rk, ai_m_38]
theorem ai_mx_38 : ai_mx 38 = 4 := by rw [ai_mx, ai_m_38]
theorem ai_rk_39 : ai_rk 39 = 1 := by rw [ai_rk, ai_m_39]
theorem ai_mx_39 : ai_mx 39 = 5 := by rw [ai_mx, ai_m_39]
theorem ai_rk_40 : ai_rk 40 = 2 := by rw [ai_rk, ai_m_40]
theorem ai_mx_40 : ai_mx 40 = 5 := by rw [ai_mx, ai_m_40]
theorem ai_rk_41 : ai_rk 41 = 0 := by rw [ai_rk, ai_m_41]
theorem ai_mx_41 : ai_mx 41 = 6 := by rw [ai_mx, ai_m_41]
theorem ai_rk_42 : ai_rk 42 = 0 := by rw [ai_rk, ai_m_42]
theorem ai_mx_42 : ai_mx 42 = 4 := by rw [ai_mx, ai_m_42]
theorem ai_rk_43 : ai_rk 43 = 0 := by rw [ai_rk, ai_m_43]
theorem ai_mx_43 : ai_mx 43 = 5 := by rw [ai_mx, ai_m_43]
theorem ai_rk_44 : ai_rk 44 = 0 := by rw [ai_rk, ai_m_44]
theorem ai_mx_44 : ai_mx 44 = 9 := by rw [ai_mx, ai_m_44]
theorem ai_rk_45 : ai_rk 45 = 0 := by rw [ai_rk, ai_m_45]
theorem ai_mx_45 : ai_mx 45 = 3 := by rw [ai_mx, ai_m_45]
theorem ai_rk_46 : ai_rk 46 = 0 := by rw [ai_rk, ai_m_46]
theorem ai_mx_46 : ai_mx 46 = 5 := by rw [ai_mx, ai_m_46]
theorem ai_rk_47 : ai_rk 47 = 2 := by rw [ai_rk, ai_m_47]
theorem ai_mx_47 : ai_mx 47 = 2 := by rw [ai_mx, ai_m_47]
theorem ai_rk_48 : ai_rk 48 = 1 := by rw [ai_rk, ai_m_48]
theorem ai_mx_48 : ai_mx 48 = 3 := by rw [ai_mx, ai_m_48]
theorem ai_rk_49 : ai_rk 49 = 2 := by rw [ai_rk, ai_m_49]
theorem ai_mx_49 : ai_mx 49 = 2 := by rw [ai_mx, ai_m_49]
theorem ai_rk_50 : ai_rk 50 = 2 := by rw [ai_rk, ai_m_50]
theorem ai_mx_50 : ai_mx 50 = 9 := by rw [ai_mx, ai_m_50]
theorem ai_rk_51 : ai_rk 51 = 3 := by rw [ai_rk, ai_m_51]
theorem ai_mx_51 : ai_mx 51 = 8 := by rw [ai_mx, ai_m_51]
theorem ai_rk_52 : ai_rk 52 = 3 := by rw [ai_rk, ai_m_52]
theorem ai_mx_52 : ai_mx 52 = 13 := by rw [ai_mx, ai_m_52]
theorem ai_rk_53 : ai_rk 53 = 3 := by rw [ai_rk, ai_m_53]
theorem ai_mx_53 : ai_mx 53 = 8 := by rw [ai_mx, ai_m_53]
theorem ai_rk_54 : ai_rk 54 = 0 := by rw [ai_rk, ai_m_54]
theorem ai_mx_54 : ai_mx 54 = 2 := by rw [ai_mx, ai_m_54]
theorem ai_rk_100 : ai_rk 100 = 0 := by rw [ai_rk, ai_m_100]
theorem ai_mx_100 : ai_mx 100 = 1 := by rw [ai_mx, ai_m_100]
theorem ai_rk_101 : ai_rk 101 = 0 := by rw [ai_rk, ai_m_101]
theorem ai_mx_101 : ai_mx 101 = 5 := by rw [ai_mx, ai_m_101]
theorem ai_rk_102 : ai_rk 102 = 1 := by rw [ai_rk, ai_m_102]
theorem ai_mx_102 : ai_mx 102 = 1 := by rw [ai_mx, ai_m_102]
theorem ai_rk_103 : ai_rk 103 = 1 := by rw [ai_rk, ai_m_103]
theorem ai_mx_103 : ai_mx 103 = 2 := by rw [ai_mx, ai_m_103]
theorem ai_rk_104 : ai_rk 104 = 1 := by rw [ai_rk, ai_m_104]
theorem ai_mx_104 : ai_mx 104 = 1 := by rw [ai_mx, ai_m_104]
theorem ai_rk_105 : ai_rk 105 = 1 := by rw [ai_rk, ai_m_105]
theorem ai_mx_105 : ai_mx 105 = 2 := by rw [ai_mx, ai_m_105]
theorem ai_rk_106 : ai_rk 106 = 1 := by rw [ai_rk, ai_m_106]
theorem ai_mx_106 : ai_mx 106 = 4 := by rw [ai_mx, ai_m_106]
theorem ai_rk_107 : ai_rk 107 = 0 := by rw [ai_rk, ai_m_107]
theorem ai_mx_107 : ai_mx 107 = 2 := by rw [ai_mx, ai_m_107]
theorem ai_rk_108 : ai_rk 108 = 1 := by rw [ai_rk, ai_m_108]
theorem ai_mx_108 : ai_mx 108 = 3 := by rw [ai_mx, ai_m_108]
theorem ai_rk_200 : ai_rk 200 = 0 := by rw [ai_rk, ai_m_200]
theorem ai_mx_200 : ai_mx 200 = 1 := by rw [ai_mx, ai_m_200]
theorem ai_rk_201 : ai_rk 201 = 0 := by rw [ai_rk, ai_m_201]
theorem ai_mx_201 : ai_mx 201 = 2 := by rw [ai_mx, ai_m_201]
theorem ai_rk_300 : ai_rk 300 = 0 := by rw [ai_rk, ai_m_300]
theorem ai_mx_300 : ai_mx 300 = 1 := by rw [ai_mx, ai_m_300]
theorem ai_rk_301 : ai_rk 301 = 0 := by rw [ai_rk, ai_m_301]
theorem ai_mx_301 : ai_mx 301 = 3 := by rw [ai_mx, ai_m_301]
theorem ai_rk_302 : ai_rk 302 = 1 := by rw [ai_rk, ai_m_302]
theorem ai_mx_302 : ai_mx 302 = 4 := by rw [ai_mx, ai_m_302]
theorem ai_rk_400 : ai_rk 400 = 0 := by rw [ai_rk, ai_m_400]
theorem ai_mx_400 : ai_mx 400 = 1 := by rw [ai_mx, ai_m_400]
theorem ai_rk_401 : ai_rk 401 = 0 := by rw [ai_rk, ai_m_401]
theorem ai_mx_401 : ai_mx 401 = 1 := by rw [ai_mx, ai_m_401]
theorem ai_rk_402 : ai_rk 402 = 0 := by rw [ai_rk, ai_m_402]
theorem ai_mx_402 : ai_mx 402 = 3 := by rw [ai_mx, ai_m_402]
theorem ai_rk_500 : ai_rk 500 = 0 := by rw [ai_rk, ai_m_500]
theorem ai_mx_500 : ai_mx 500 = 1 := by rw [ai_mx, ai_m_500]
theorem ai_rk_501 : ai_rk 501 = 0 := by rw [ai_rk, ai_m_501]
theorem ai_mx_501 : ai_mx 501 = 4 := by rw [ai_mx, ai_m_501]
theorem ai_rk_600 : ai_rk 600 = 0 := by rw [ai_rk, ai_m_600]
theorem ai_mx_600 : ai_mx 600 = 2 := by rw [ai_mx, ai_m_600]
theorem ai_rk_601 : ai_rk 601 = 1 := by rw [ai_rk, ai_m_601]
theorem ai_mx_601 : ai_mx 601 = 1 := by rw [ai_mx, ai_m_601]
theorem ai_rk_602 : ai_rk 602 = 2 := by rw [ai_rk, ai_m_602]
theorem ai_mx_602 : ai_mx 602 = 3 := by rw [ai_mx, ai_m_602]
theorem ai_rk_603 : ai_rk 603 = 2 := by rw [ai_rk, ai_m_603]
theorem ai_mx_603 : ai_mx 603 = 1 := by rw [ai_mx, ai_m_603]
theorem ai_rk_604 : ai_rk 604 = 2 := by rw [ai_rk, ai_m_604]
theorem ai_mx_604 : ai_mx 604 = 1 := by rw [ai_mx, ai_m_604]
theorem ai_rk_605 : ai_rk 605 = 2 := by rw [ai_rk, ai_m_605]
theorem ai_mx_605 : ai_mx 605 = 1 := by rw [ai_mx, ai_m_605]
theorem ai_rk_606 : ai_rk 606 = 2 := by rw [ai_rk, ai_m_606]
theorem ai_mx_606 : ai_mx 606 = 1 := by rw [ai_mx, ai_m_606]
theorem ai_rk_607 : ai_rk 607 = 2 := by rw [ai_rk, ai_m_607]
theorem ai_mx_607 : ai_mx 607 = 2 := by rw [ai_mx, ai_m_607]
theorem ai_rk_608 : ai_rk 608 = 1 := by rw [ai_rk, ai_m_608]
theorem ai_mx_608 : ai_mx 608 = 5 := by rw [ai_mx, ai_m_608]
theorem ai_rk_609 : ai_rk 609 = 1 := by rw [ai_rk, ai_m_609]
theorem ai_mx_609 : ai_mx 609 = 3 := by rw [ai_mx, ai_m_609]
theorem ai_rk_610 : ai_rk 610 = 2 := by rw [ai_rk, ai_m_610]
theorem ai_mx_610 : ai_mx 610 = 4 := by rw [ai_mx, ai_m_610]
theorem ai_rk_611 : ai_rk 611 = 1 := by rw [ai_rk, ai_m_611]
theorem ai_mx_611 : ai_mx 611 = 6 := by rw [ai_mx, ai_m_611]
theorem ai_rk_612 : ai_rk 612 = 1 := by rw [ai_rk, ai_m_612]
theorem ai_mx_612 : ai_mx 612 = 3 := by rw [ai_mx, ai_m_612]
theorem ai_rk_613 : ai_rk 613 = 1 := by rw [ai_rk, ai_m_613]
theorem ai_mx_613 : ai_mx 613 = 3 := by rw [ai_mx, ai_m_613]
theorem ai_rk_614 : ai_rk 614 = 1 := by rw [ai_rk, ai_m_614]
theorem ai_mx_614 : ai_mx 614 = 2 := by rw [ai_mx, ai_m_614]
theorem ai_rk_615 : ai_rk 615 = 1 := by rw [ai_rk, ai_m_615]
theorem ai_mx_615 : ai_mx 615 = 5 := by rw [ai_mx, ai_m_615]
theorem ai_rk_616 : ai_rk 616 = 1 := by rw [ai_rk, ai_m_616]
theorem ai_mx_616 : ai_mx 616 = 3 := by rw [ai_mx, ai_m_616]
theorem ai_rk_617 : ai_rk 617 = 1 := by rw [ai_rk, ai_m_617]
theorem ai_mx_617 : ai_mx 617 = 3 := by rw [ai_mx, ai_m_617]
theorem ai_rk_618 : ai_rk 618 = 1 := by rw [ai_rk, ai_m_618]
theorem ai_mx_618 : ai_mx 618 = 3 := by rw [ai_mx, ai_m_618]
theorem ai_rk_619 : ai_rk 619 = 2 := by rw [ai_rk, ai_m_619]
theorem ai_mx_619 : ai_mx 619 = 2 := by rw [ai_mx, ai_m_619]
theorem ai_rk_620 : ai_rk 620 = 2 := by rw [ai_rk, ai_m_620]
theorem ai_mx_620 : ai_mx 620 = 9 := by rw [ai_mx, ai_m_620]
theorem ai_rk_621 : ai_rk 621 = 2 := by rw [ai_rk, ai_m_621]
theorem ai_mx_621 : ai_mx 621 = 3 := by rw [ai_mx, ai_m_621]
theorem ai_rk_622 : ai_rk 622 = 1 := by rw [ai_rk, ai_m_622]
theorem ai_mx_622 : ai_mx 622 = 3 := by rw [ai_mx, ai_m_622]
theorem ai_rk_623 : ai_rk 623 = 1 := by rw [ai_rk, ai_m_623]
theorem ai_mx_623 : ai_mx 623 = 3 := by rw [ai_mx, ai_m_623]
theorem ai_rk_624 : ai_rk 624 = 1 := by rw [ai_rk, ai_m_624]
theorem ai_mx_624 : ai_mx 624 = 2 := by rw [ai_mx, ai_m_624]
theorem ai_rk_625 : ai_rk 625 = 0 := by rw [ai_rk, ai_m_625]
theorem ai_mx_625 : ai_mx 625 = 5 := by rw [ai_mx, ai_m_625]
theorem ai_rk_626 : ai_rk 626 = 1 := by rw [ai_rk, ai_m_626]
theorem ai_mx_626 : ai_mx 626 = 2 := by rw [ai_mx, ai_m_626]
theorem ai_rk_627 : ai_rk 627 = 0 := by rw [ai_rk, ai_m_627]
theorem ai_mx_627 : ai_mx 627 = 7 := by rw [ai_mx, ai_m_627]
theorem ai_rk_628 : ai_rk 628 = 0 := by rw [ai_rk, ai_m_628]
theorem ai_mx_628 : ai_mx 628 = 4 := by rw [ai_mx, ai_m_628]
theorem ai_rk_629 : ai_rk 629 = 1 := by rw [ai_rk, ai_m_629]
theorem ai_mx_629 : ai_mx 629 = 2 := by rw [ai_mx, ai_m_629]
theorem ai_rk_630 : ai_rk 630 = 0 := by rw [ai_rk, ai_m_630]
theorem ai_mx_630 : ai_mx 630 = 4 := by rw [ai_mx, ai_m_630]
theorem ai_rk_631 : ai_rk 631 = 1 := by rw [ai_rk, ai_m_631]
theorem ai_mx_631 : ai_mx 631 = 4 := by rw [ai_mx, ai_m_631]
theorem ai_rk_632 : ai_rk 632 = 1 := by rw [ai_rk, ai_m_632]
theorem ai_mx_632 : ai_mx 632 = 5 := by rw [ai_mx, ai_m_632]
theorem ai_rk_633 : ai_rk 633 = 0 := by rw [ai_rk, ai_m_633]
theorem ai_mx_633 : ai_mx 633 = 3 := by rw [ai_mx, ai_m_633]
theorem ai_rk_634 : ai_rk 634 = 0 := by rw [ai_rk, ai_m_634]
theorem ai_mx_634 : ai_mx 634 = 6 := by rw [ai_mx, ai_m_634]
theorem ai_rk_635 : ai_rk 635 = 1 := by rw [ai_rk, ai_m_635]
theorem ai_mx_635 : ai_mx 635 = 6 := by rw [ai_mx, ai_m_635]
theorem ai_rk_636 : ai_rk 636 = 2 := by rw [ai_rk, ai_m_636]
theorem ai_mx_636 : ai_mx 636 = 6 := by rw [ai_mx, ai_m_636]
theorem ai_rk_637 : ai_rk 637 = 1 := by rw [ai_rk, ai_m_637]
theorem ai_mx_637 : ai_mx 637 = 3 := by rw [ai_mx, ai_m_637]
theorem ai_rk_638 : ai_rk 638 = 3 := by rw [ai_rk, ai_m_638]
theorem ai_mx_638 : ai_mx 638 = 2 := by rw [ai_mx, ai_m_638]
theorem ai_rk_639 : ai_rk 639 = 3 := by rw [ai_rk, ai_m_639]
theorem ai_mx_639 : ai_mx 639 = 2 := by rw [ai_mx, ai_m_639]
theorem ai_rk_640 : ai_rk 640 = 2 := by rw [ai_rk, ai_m_640]
theorem ai_mx_640 : ai_mx 640 = 4 := by rw [ai_mx, ai_m_640]
theorem ai_rk_641 : ai_rk 641 = 0 := by rw [ai_rk, ai_m_641]
theorem ai_mx_641 : ai_mx 641 = 5 := by rw [ai_mx, ai_m_641]
theorem ai_rk_642 : ai_rk 642 = 0 := by rw [ai_rk, ai_m_642]
theorem ai_mx_642 : ai_mx 642 = 4 := by rw [ai_mx, ai_m_642]
theorem ai_rk_643 : ai_rk 643 = 3 := by rw [ai_rk, ai_m_643]
theorem ai_mx_643 : ai_mx 643 = 7 := by rw [ai_mx, ai_m_643]
theorem ai_rk_644 : ai_rk 644 = 3 := by rw [ai_rk, ai_m_644]
theorem ai_mx_644 : ai_mx 644 = 12 := by rw [ai_mx, ai_m_644]
theorem ai_rk_645 : ai_rk 645 = 2 := by rw [ai_rk, ai_m_645]
theorem ai_mx_645 : ai_mx 645 = 2 := by rw [ai_mx, ai_m_645]
theorem ai_rk_646 : ai_rk 646 = 3 := by rw [ai_rk, ai_m_646]
theorem ai_mx_646 : ai_mx 646 = 3 := by rw [ai_mx, ai_m_646]
theorem ai_rk_647 : ai_rk 647 = 3 := by rw [ai_rk, ai_m_647]
theorem ai_mx_647 : ai_mx 647 = 3 := by rw [ai_mx, ai_m_647]
theorem ai_rk_648 : ai_rk 648 = 3 := by rw [ai_rk, ai_m_648]
theorem ai_mx_648 : ai_mx 648 = 6 := by rw [ai_mx, ai_m_648]
theorem ai_rk_649 : ai_rk 649 = 3 := by rw [ai_rk, ai_m_649]
theorem ai_mx_649 : ai_mx 649 = 7 := by rw [ai_mx, ai_m_649]
theorem ai_rk_650 : ai_rk 650 = 1 := by rw [ai_rk, ai_m_650]
theorem ai_mx_650 : ai_mx 650 = 4 := by rw [ai_mx, ai_m_650]
theorem ai_rk_651 : ai_rk 651 = 1 := by rw [ai_rk, ai_m_651]
theorem ai_mx_651 : ai_mx 651 = 4 := by rw [ai_mx, ai_m_651]
theorem ai_rk_652 : ai_rk 652 = 1 := by rw [ai_rk, ai_m_652]
theorem ai_mx_652 : ai_mx 652 = 3 := by rw [ai_mx, ai_m_652]
theorem ai_rk_653 : ai_rk 653 = 1 := by rw [ai_rk, ai_m_653]
theorem ai_mx_653 : ai_mx 653 = 2 := by rw [ai_mx, ai_m_653]
theorem ai_rk_654 : ai_rk 654 = 1 := by rw [ai_rk, ai_m_654]
theorem ai_mx_654 : ai_mx 654 = 3 := by rw [ai_mx, ai_m_654]
theorem ai_rk_655 : ai_rk 655 = 3 := by rw [ai_rk, ai_m_655]
theorem ai_mx_655 : ai_mx 655 = 4 := by rw [ai_mx, ai_m_655]
theorem ai_rk_700 : ai_rk 700 = 1 := by rw [ai_rk, ai_m_700]
theorem ai_mx_700 : ai_mx 700 = 7 := by rw [ai_mx, ai_m_700]
theorem ai_rk_701 : ai_rk 701 = 1 := by rw [ai_rk, ai_m_701]
theorem ai_mx_701 : ai_mx 701 = 5 := by rw [ai_mx, ai_m_701]
theorem ai_rk_702 : ai_rk 702 = 1 := by rw [ai_rk, ai_m_702]
theorem ai_mx_702 : ai_mx 702 = 5 := by rw [ai_mx, ai_m_702]
theorem ai_rk_703 : ai_rk 703 = 1 := by rw [ai_rk, ai_m_703]
theorem ai_mx_703 : ai_mx 703 = 6 := by rw [ai_mx, ai_m_703]
theorem ai_rk_704 : ai_rk 704 = 1 := by rw [ai_rk, ai_m_704]
theorem ai_mx_704 : ai_mx 704 = 5 := by rw [ai_mx, ai_m_704]
theorem ai_rk_705 : ai_rk 705 = 1 := by rw [ai_rk, ai_m_705]
theorem ai_mx_705 : ai_mx 705 = 5 := by rw [ai_mx, ai_m_705]
theorem ai_rk_706 : ai_rk 706 = 1 := by rw [ai_rk, ai_m_706]
theorem ai_mx_706 : ai_mx 706 = 5 := by rw [ai_mx, ai_m_706]
theorem ai_rk_707 : ai_rk 707 = 1 := by rw [ai_rk, ai_m_707]
theorem ai_mx_707 : ai_mx 707 = 5 := by rw [ai_mx, ai_m_707]
theorem ai_rk_708 : ai_rk 708 = 1 := by rw [ai_rk, ai_m_708]
theorem ai_mx_708 : ai_mx 708 = 4 := by rw [ai_mx, ai_m_708]
theorem ai_rk_709 : ai_rk 709 = 1 := by rw [ai_rk, ai_m_709]
theorem ai_mx_709 : ai_mx 709 = 6 := by rw [ai_mx, ai_m_709]
theorem ai_rk_710 : ai_rk 710 = 1 := by rw [ai_rk, ai_m_710]
theorem ai_mx_710 : ai_mx 710 = 6 := by rw [ai_mx, ai_m_710]
theorem ai_rk_711 : ai_rk 711 = 1 := by rw [ai_rk, ai_m_711]
theorem ai_mx_711 : ai_mx 711 = 4 := by rw [ai_mx, ai_m_711]
theorem ai_rk_712 : ai_rk 712 = 1 := by rw [ai_rk, ai_m_712]
theorem ai_mx_712 : ai_mx 712 = 4 := by rw [ai_mx, ai_m_712]
theorem ai_rk_713 : ai_rk 713 = 1 := by rw [ai_rk, ai_m_713]
theorem ai_mx_713 : ai_mx 713 = 6 := by rw [ai_mx, ai_m_713]
theorem ai_rk_714 : ai_rk 714 = 1 := by rw [ai_rk, ai_m_714]
theorem ai_mx_714 : ai_mx 714 = 5 := by rw [ai_mx, ai_m_714]
theorem ai_rk_715 : ai_rk 715 = 1 := by rw [ai_rk, ai_m_715]
theorem ai_mx_715 : ai_mx 715 = 5 := by rw [ai_mx, ai_m_715]
theorem ai_rk_716 : ai_rk 716 = 1 := by rw [ai_rk, ai_m_716]
theorem ai_mx_716 : ai_mx 716 = 5 := by rw [ai_mx, ai_m_716]
theorem ai_rk_717 : ai_rk 717 = 1 := by rw [ai_rk, ai_m_717]
theorem ai_mx_717 : ai_mx 717 = 6 := by rw [ai_mx, ai_m_717]
theorem ai_rk_718 : ai_rk 718 = 1 := by rw [ai_rk, ai_m_718]
theorem ai_mx_718 : ai_mx 718 = 4 := by rw [ai_mx, ai_m_718]
theorem ai_rk_719 : ai_rk 719 = 1 := by rw [ai_rk, ai_m_719]
theorem ai_mx_719 : ai_mx 719 = 4 := by rw [ai_mx, ai_m_719]
theorem ai_rk_720 : ai_rk 720 = 1 := by rw [ai_rk, ai_m_720]
theorem ai_mx_720 : ai_mx 720 = 4 := by rw [ai_mx, ai_m_720]
theorem ai_rk_721 : ai_rk 721 = 1 := by rw [ai_rk, ai_m_721]
theorem ai_mx_721 : ai_mx 721 = 4 := by rw [ai_mx, ai_m_721]
theorem ai_rk_722 : ai_rk 722 = 2 := by rw [ai_rk, ai_m_722]
theorem ai_mx_722 : ai_mx 722 = 8 := by rw [ai_mx, ai_m_722]
theorem ai_k_0_103 : ai_cv 0 103 = some (33, 2) := (id rfl)
theorem ai_k_0_106 : ai_cv 0 106 = some (101, 5) := (id rfl)
theorem ai_k_0_110 : ai_cv 0 110 = some (31, 2) := (id rfl)
theorem ai_k_0_116 : ai_cv 0 116 = some (45, 3) := (id rfl)
theorem ai_k_0_144 : ai_cv 0 144 = some (102, 1) := (id rfl)
theorem ai_k_0_148 : ai_cv 0 148 = some (34, 3) := (id rfl)
theorem ai_k_0_151 : ai_cv 0 151 = some (36, 4) := (id rfl)
theorem ai_k_0_158 : ai_cv 0 158 = some (107, 2) := (id rfl)
theorem ai_k_0_163 : ai_cv 0 163 = some (104, 1) := (id rfl)
theorem ai_k_0_169 : ai_cv 0 169 = some (48, 2) := (id rfl)
theorem ai_k_0_176 : ai_cv 0 176 = some (302, 2) := (id rfl)
theorem ai_k_0_183 : ai_cv 0 183 = some (401, 1) := (id rfl)
theorem ai_k_0_192 : ai_cv 0 192 = some (402, 3) := (id rfl)
theorem ai_k_0_195 : ai_cv 0 195 = some (35, 2) := (id rfl)
theorem ai_k_0_201 : ai_cv 0 201 = some (41, 4) := (id rfl)
theorem ai_k_0_205 : ai_cv 0 205 = some (37, 3) := (id rfl)
theorem ai_k_0_220 : ai_cv 0 220 = some (43, 2) := (id rfl)
theorem ai_k_0_242 : ai_cv 0 242 = some (52, 3) := (id rfl)
theorem ai_k_0_249 : ai_cv 0 249 = some (46, 4) := (id rfl)
theorem ai_k_0_252 : ai_cv 0 252 = some (103, 1) := (id rfl)
theorem ai_k_0_259 : ai_cv 0 259 = some (53, 3) := (id rfl)
theorem ai_k_0_262 : ai_cv 0 262 = some (108, 1) := (id rfl)
theorem ai_k_0_267 : ai_cv 0 267 = some (201, 1) := (id rfl)
theorem ai_k_0_286 : ai_cv 0 286 = some (54, 2) := (id rfl)
theorem ai_k_0_323 : ai_cv 0 323 = some (38, 3) := (id rfl)
theorem ai_k_0_326 : ai_cv 0 326 = some (39, 3) := (id rfl)
theorem ai_k_0_329 : ai_cv 0 329 = some (40, 3) := (id rfl)
theorem ai_k_0_335 : ai_cv 0 335 = some (44, 4) := (id rfl)
theorem ai_k_0_338 : ai_cv 0 338 = some (42, 4) := (id rfl)
theorem ai_k_0_341 : ai_cv 0 341 = some (501, 4) := (id rfl)
theorem ai_k_0_349 : ai_cv 0 349 = some (301, 3) := (id rfl)
theorem ai_k_0_350 : ai_cv 0 350 = some (49, 2) := (id rfl)
theorem ai_k_0_354 : ai_cv 0 354 = some (50, 3) := (id rfl)
theorem ai_k_0_357 : ai_cv 0 357 = some (47, 2) := (id rfl)
theorem ai_k_0_362 : ai_cv 0 362 = some (51, 4) := (id rfl)
theorem ai_k_0_81 : ai_cs 0 81 = some (27, 1) := (id rfl)
theorem ai_km_0_81 : ai_mt 0 81 = none := (id rfl)
theorem ai_k_0_85 : ai_cs 0 85 = some (30, 1) := (id rfl)
theorem ai_km_0_85 : ai_mt 0 85 = none := (id rfl)
theorem ai_k_0_90 : ai_cs 0 90 = some (32, 3) := (id rfl)
theorem ai_km_0_90 : ai_mt 0 90 = none := (id rfl)
theorem ai_k_0_124 : ai_cs 0 124 = some (28, 1) := (id rfl)
theorem ai_km_0_124 : ai_mt 0 124 = none := (id rfl)
theorem ai_k_0_180 : ai_cs 0 180 = some (29, 1) := (id rfl)
theorem ai_km_0_180 : ai_mt 0 180 = none := (id rfl)
theorem ai_k_0_36 : ai_cp 0 36 = some (300, 1) := (id rfl)
theorem ai_ko_0_36 : ai_ob 0 36 = false := (id rfl)
theorem ai_k_0_43 : ai_cp 0 43 = some (400, 1) := (id rfl)
theorem ai_ko_0_43 : ai_ob 0 43 = false := (id rfl)
theorem ai_k_0_78 : ai_cp 0 78 = some (100, 1) := (id rfl)
theorem ai_ko_0_78 : ai_ob 0 78 = false := (id rfl)
theorem ai_k_0_79 : ai_cp 0 79 = some (500, 1) := (id rfl)
theorem ai_ko_0_79 : ai_ob 0 79 = false := (id rfl)
theorem ai_k_0_80 : ai_cp 0 80 = some (200, 1) := (id rfl)
theorem ai_ko_0_80 : ai_ob 0 80 = false := (id rfl)
theorem ai_k_1_57 : ai_cv 1 57 = some (103, 1) := (id rfl)
theorem ai_k_1_61 : ai_cv 1 61 = some (105, 2) := (id rfl)
theorem ai_k_1_69 : ai_cv 1 69 = some (107, 2) := (id rfl)
theorem ai_k_1_65 : ai_cs 1 65 = some (106, 1) := (id rfl)
theorem ai_km_1_65 : ai_mt 1 65 = none := (id rfl)
theorem ai_k_6_112 : ai_cv 6 112 = some (607, 2) := (id rfl)
theorem ai_k_6_115 : ai_cv 6 115 = some (611, 3) := (id rfl)
theorem ai_k_6_129 : ai_cv 6 129 = some (613, 2) := (id rfl)
theorem ai_k_6_133 : ai_cv 6 133 = some (619, 2) := (id rfl)
theorem ai_k_6_138 : ai_cv 6 138 = some (620, 3) := (id rfl)
theorem ai_k_6_142 : ai_cv 6 142 = some (621, 3) := (id rfl)
theorem ai_k_6_145 : ai_cv 6 145 = some (612, 2) := (id rfl)
theorem ai_k_6_148 : ai_cv 6 148 = some (622, 2) := (id rfl)
theorem ai_k_6_154 : ai_cv 6 154 = some (625, 4) := (id rfl)
theorem ai_k_6_158 : ai_cv 6 158 = some (627, 3) := (id rfl)
theorem ai_k_6_168 : ai_cv 6 168 = some (630, 4) := (id rfl)
theorem ai_k_6_175 : ai_cv 6 175 = some (628, 4) := (id rfl)
theorem ai_k_6_181 : ai_cv 6 181 = some (633, 3) := (id rfl)
theorem ai_k_6_184 : ai_cv 6 184 = some (632, 2) := (id rfl)
theorem ai_k_6_187 : ai_cv 6 187 = some (634, 3) := (id rfl)
theorem ai_k_6_190 : ai_cv 6 190 = some (636, 2) := (id rfl)
theorem ai_k_6_194 : ai_cv 6 194 = some (643, 4) := (id rfl)
theorem ai_k_6_203 : ai_cv 6 203 = some (644, 3) := (id rfl)
theorem ai_k_6_213 : ai_cv 6 213 = some (652, 1) := (id rfl)
theorem ai_k_6_94 : ai_cs 6 94 = some (602, 3) := (id rfl)
theorem ai_km_6_94 : ai_mt 6 94 = none := (id rfl)
theorem ai_k_6_101 : ai_cs 6 101 = some (603, 1) := (id rfl)
theorem ai_km_6_101 : ai_mt 6 101 = none := (id rfl)
theorem ai_k_6_105 : ai_cs 6 105 = some (606, 1) := (id rfl)
theorem ai_km_6_105 : ai_mt 6 105 = none := (id rfl)
theorem ai_k_6_119 : ai_cs 6 119 = some (604, 1) := (id rfl)
theorem ai_km_6_119 : ai_mt 6 119 = none := (id rfl)
theorem ai_k_6_122 : ai_cs 6 122 = some (614, 2) := (id rfl)
theorem ai_km_6_122 : ai_mt 6 122 = none := (id rfl)
theorem ai_k_6_151 : ai_cs 6 151 = some (626, 2) := (id rfl)
theorem ai_km_6_151 : ai_mt 6 151 = none := (id rfl)
theorem ai_k_6_165 : ai_cs 6 165 = some (605, 1) := (id rfl)
theorem ai_km_6_165 : ai_mt 6 165 = none := (id rfl)
theorem ai_k_6_172 : ai_cs 6 172 = some (629, 2) := (id rfl)
theorem ai_km_6_172 : ai_mt 6 172 = none := (id rfl)
theorem ai_k_6_200 : ai_cs 6 200 = some (645, 2) := (id rfl)
theorem ai_km_6_200 : ai_mt 6 200 = none := (id rfl)
theorem ai_k_7_7 : ai_cv 7 7 = some (1, 5) := (id rfl)
theorem ai_k_7_19 : ai_cv 7 19 = some (2, 3) := (id rfl)
theorem ai_k_7_23 : ai_cv 7 23 = some (3, 3) := (id rfl)
theorem ai_k_7_27 : ai_cv 7 27 = some (4, 4) := (id rfl)
theorem ai_k_7_31 : ai_cv 7 31 = some (5, 3) := (id rfl)
theorem ai_k_7_34 : ai_cv 7 34 = some (6, 3) := (id rfl)
theorem ai_k_7_37 : ai_cv 7 37 = some (7, 3) := (id rfl)
theorem ai_k_7_40 : ai_cv 7 40 = some (8, 3) := (id rfl)
theorem ai_k_7_43 : ai_cv 7 43 = some (9, 2) := (id rfl)
theorem ai_k_7_47 : ai_cv 7 47 = some (10, 4) := (id rfl)
theorem ai_k_7_51 : ai_cv 7 51 = some (11, 4) := (id rfl)
theorem ai_k_7_54 : ai_cv 7 54 = some (13, 2) := (id rfl)
theorem ai_k_7_58 : ai_cv 7 58 = some (14, 2) := (id rfl)
theorem ai_k_7_61 : ai_cv 7 61 = some (16, 5) := (id rfl)
theorem ai_k_7_65 : ai_cv 7 65 = some (17, 4) := (id rfl)
theorem ai_k_7_69 : ai_cv 7 69 = some (18, 3) := (id rfl)
theorem ai_k_7_73 : ai_cv 7 73 = some (19, 3) := (id rfl)
theorem ai_k_7_76 : ai_cv 7 76 = some (20, 4) := (id rfl)
theorem ai_k_7_80 : ai_cv 7 80 = some (21, 2) := (id rfl)
theorem ai_k_7_83 : ai_cv 7 83 = some (22, 2) := (id rfl)
theorem ai_k_7_86 : ai_cv 7 86 = some (23, 2) := (id rfl)
theorem ai_k_7_89 : ai_cv 7 89 = some (24, 2) := (id rfl)
theorem ai_k_7_101 : ai_cv 7 101 = some (608, 5) := (id rfl)
theorem ai_k_7_102 : ai_cv 7 102 = some (601, 1) := (id rfl)
theorem ai_k_7_109 : ai_cv 7 109 = some (609, 3) := (id rfl)
theorem ai_k_7_113 : ai_cv 7 113 = some (610, 3) := (id rfl)
theorem ai_k_7_117 : ai_cv 7 117 = some (615, 4) := (id rfl)
theorem ai_k_7_120 : ai_cv 7 120 = some (616, 3) := (id rfl)
theorem ai_k_7_123 : ai_cv 7 123 = some (617, 3) := (id rfl)
theorem ai_k_7_126 : ai_cv 7 126 = some (618, 3) := (id rfl)
theorem ai_k_7_129 : ai_cv 7 129 = some (623, 3) := (id rfl)
theorem ai_k_7_133 : ai_cv 7 133 = some (624, 2) := (id rfl)
theorem ai_k_7_137 : ai_cv 7 137 = some (631, 4) := (id rfl)
theorem ai_k_7_140 : ai_cv 7 140 = some (635, 4) := (id rfl)
theorem ai_k_7_141 : ai_cv 7 141 = some (12, 1) := (id rfl)
theorem ai_k_7_144 : ai_cv 7 144 = some (637, 1) := (id rfl)
theorem ai_k_7_147 : ai_cv 7 147 = some (638, 2) := (id rfl)
theorem ai_k_7_150 : ai_cv 7 150 = some (639, 2) := (id rfl)
theorem ai_k_7_151 : ai_cv 7 151 = some (15, 1) := (id rfl)
theorem ai_k_7_155 : ai_cv 7 155 = some (640, 1) := (id rfl)
theorem ai_k_7_159 : ai_cv 7 159 = some (641, 5) := (id rfl)
theorem ai_k_7_163 : ai_cv 7 163 = some (642, 4) := (id rfl)
theorem ai_k_7_166 : ai_cv 7 166 = some (646, 3) := (id rfl)
theorem ai_k_7_169 : ai_cv 7 169 = some (647, 3) := (id rfl)
theorem ai_k_7_172 : ai_cv 7 172 = some (648, 4) := (id rfl)
theorem ai_k_7_175 : ai_cv 7 175 = some (649, 2) := (id rfl)
theorem ai_k_7_178 : ai_cv 7 178 = some (650, 2) := (id rfl)
theorem ai_k_7_181 : ai_cv 7 181 = some (651, 2) := (id rfl)
theorem ai_k_7_184 : ai_cv 7 184 = some (653, 2) := (id rfl)
theorem ai_k_7_185 : ai_cv 7 185 = some (25, 1) := (id rfl)
theorem ai_k_7_188 : ai_cv 7 188 = some (654, 1) := (id rfl)
theorem ai_k_7_189 : ai_cv 7 189 = some (26, 1) := (id rfl)
theorem ai_k_7_193 : ai_cv 7 193 = some (655, 1) := (id rfl)
theorem ai_k_7_96 : ai_cs 7 96 = some (700, 6) := (id rfl)
theorem ai_km_7_96 : ai_mt 7 96 = none := (id rfl)
theorem ai_k_7_106 : ai_cs 7 106 = some (701, 4) := (id rfl)
theorem ai_km_7_106 : ai_mt 7 106 = none := (id rfl)
theorem ai_k_7_110 : ai_cs 7 110 = some (702, 4) := (id rfl)
theorem ai_km_7_110 : ai_mt 7 110 = none := (id rfl)
theorem ai_k_7_114 : ai_cs 7 114 = some (703, 5) := (id rfl)
theorem ai_km_7_114 : ai_mt 7 114 = none := (id rfl)
theorem ai_k_7_118 : ai_cs 7 118 = some (704, 4) := (id rfl)
theorem ai_km_7_118 : ai_mt 7 118 = none := (id rfl)
theorem ai_k_7_121 : ai_cs 7 121 = some (705, 4) := (id rfl)
theorem ai_km_7_121 : ai_mt 7 121 = none := (id rfl)
theorem ai_k_7_124 : ai_cs 7 124 = some (706, 4) := (id rfl)
theorem ai_km_7_124 : ai_mt 7 124 = none := (id rfl)
theorem ai_k_7_127 : ai_cs 7 127 = some (707, 4) := (id rfl)
theorem ai_km_7_127 : ai_mt 7 127 = none := (id rfl)
theorem ai_k_7_130 : ai_cs 7 130 = some (708, 3) := (id rfl)
theorem ai_km_7_130 : ai_mt 7 130 = none := (id rfl)
theorem ai_k_7_134 : ai_cs 7 134 = some (709, 5) := (id rfl)
theorem ai_km_7_134 : ai_mt 7 134 = none := (id rfl)
theorem ai_k_7_138 : ai_cs 7 138 = some (710, 5) := (id rfl)
theorem ai_km_7_138 : ai_mt 7 138 = none := (id rfl)
theorem ai_k_7_145 : ai_cs 7 145 = some (711, 3) := (id rfl)
theorem ai_km_7_145 : ai_mt 7 145 = none := (id rfl)
theorem ai_k_7_148 : ai_cs 7 148 = some (712, 3) := (id rfl)
theorem ai_km_7_148 : ai_mt 7 148 = none := (id rfl)
theorem ai_k_7_156 : ai_cs 7 156 = some (713, 5) := (id rfl)
theorem ai_km_7_156 : ai_mt 7 156 = none := (id rfl)
theorem ai_k_7_160 : ai_cs 7 160 = some (714, 4) := (id rfl)
theorem ai_km_7_160 : ai_mt 7 160 = none := (id rfl)
theorem ai_k_7_164 : ai_cs 7 164 = some (715, 4) := (id rfl)
theorem ai_km_7_164 : ai_mt 7 164 = none := (id rfl)
theorem ai_k_7_167 : ai_cs 7 167 = some (716, 4) := (id rfl)
theorem ai_km_7_167 : ai_mt 7 167 = none := (id rfl)
theorem ai_k_7_170 : ai_cs 7 170 = some (717, 5) := (id rfl)
theorem ai_km_7_170 : ai_mt 7 170 = none := (id rfl)
theorem ai_k_7_173 : ai_cs 7 173 = some (718, 3) := (id rfl)
theorem ai_km_7_173 : ai_mt 7 173 = none := (id rfl)
theorem ai_k_7_176 : ai_cs 7 176 = some (719, 3) := (id rfl)
theorem ai_km_7_176 : ai_mt 7 176 = none := (id rfl)
theorem ai_k_7_179 : ai_cs 7 179 = some (720, 3) := (id rfl)
theorem ai_km_7_179 : ai_mt 7 179 = none := (id rfl)
theorem ai_k_7_182 : ai_cs 7 182 = some (721, 3) := (id rfl)
theorem ai_km_7_182 : ai_mt 7 182 = none := (id rfl)
theorem ai_k_7_92 : ai_cp 7 92 = some (0, 1) := (id rfl)
theorem ai_ko_7_92 : ai_ob 7 92 = false := (id rfl)
theorem ai_k_7_95 : ai_cp 7 95 = some (600, 1) := (id rfl)
theorem ai_ko_7_95 : ai_ob 7 95 = false := (id rfl)
theorem ai_rm_0_100 : ai_okr 0 100 = true := by rw [ai_okr, ai_fr, ai_fr, ai_lo, ai_lo, ai_mx, ai_m_0, ai_m_100]; rfl
theorem ai_rm_0_200 : ai_okr 0 200 = true := by rw [ai_okr, ai_fr, ai_fr, ai_lo, ai_lo, ai_mx, ai_m_0, ai_m_200]; rfl
theorem ai_rm_0_300 : ai_okr 0 300 = true := by rw [ai_okr, ai_fr, ai_fr, ai_lo, ai_lo, ai_mx, ai_m_0, ai_m_300]; rfl
theorem ai_rm_0_400 : ai_okr 0 400 = true := by rw [ai_okr, ai_fr, ai_fr, ai_lo, ai_lo, ai_mx, ai_m_0, ai_m_400]; rfl
theorem ai_rm_0_500 : ai_okr 0 500 = true := by rw [ai_okr, ai_fr, ai_fr, ai_lo, ai_lo, ai_mx, ai_m_0, ai_m_500]; rfl
theorem ai_rm_1_27 : ai_okr 1 27 = true := by rw [ai_okr, ai_fr, ai_fr, ai_lo, ai_lo, ai_mx, ai_m_1, ai_m_27]; rfl
theorem ai_rm_1_30 : ai_okr 1 30 = true := by rw [ai_okr, ai_fr, ai_fr, ai_lo, ai_lo, ai_mx, ai_m_1, ai_m_30]; rfl
theorem ai_rm_1_32 : ai_okr 1 32 = true := by rw [ai_okr, ai_fr, ai_fr, ai_lo, ai_lo, ai_mx, ai_m_1, ai_m_32]; rfl
theorem ai_rm_1_33 : ai_okr 1 33 = true := by rw [ai_okr, ai_fr, ai_fr, ai_lo, ai_lo, ai_mx, ai_m_1, ai_m_33]; rfl
theorem ai_rm_1_101 : ai_okr 1 101 = true := by rw [ai_okr, ai_fr, ai_fr, ai_lo, ai_lo, ai_mx, ai_m_1, ai_m_101]; rfl
theorem ai_rm_2_31 : ai_okr 2 31 = true := by rw [ai_okr, ai_fr, ai_fr, ai_lo, ai_lo, ai_mx, ai_m_2, ai_m_31]; rfl
theorem ai_rm_2_32 : ai_okr 2 32 = true := by rw [ai_okr, ai_fr, ai_fr, ai_lo, ai_lo, ai_mx, ai_m_2, ai_m_32]; rfl
theorem ai_rm_2_45 : ai_okr 2 45 = true := by rw [ai_okr, ai_fr, ai_fr, ai_lo, ai_lo, ai_mx, ai_m_2, ai_m_45]; rfl
theorem ai_rm_3_31 : ai_okr 3 31 = true := by rw [ai_okr, ai_fr, ai_fr, ai_lo, ai_lo, ai_mx, ai_m_3, ai_m_31]; rfl
theorem ai_rm_4_28 : ai_okr 4 28 = true := by rw [ai_okr, ai_fr, ai_fr, ai_lo, ai_lo, ai_mx, ai_m_4, ai_m_28]; rfl
theorem ai_rm_4_31 : ai_okr 4 31 = true := by rw [ai_okr, ai_fr, ai_fr, ai_lo, ai_lo, ai_mx, ai_m_4, ai_m_31]; rfl
theorem ai_rm_4_33 : ai_okr 4 33 = true := by rw [ai_okr, ai_fr, ai_fr, ai_lo, ai_lo, ai_mx, ai_m_4, ai_m_33]; rfl
theorem ai_rm_4_102 : ai_okr 4 102 = true := by rw [ai_okr, ai_fr, ai_fr, ai_lo, ai_lo, ai_mx, ai_m_4, ai_m_102]; rfl
theorem ai_rm_5_34 : ai_okr 5 34 = true := by rw [ai_okr, ai_fr, ai_fr, ai_lo, ai_lo, ai_mx, ai_m_5, ai_m_34]; rfl
theorem ai_rm_5_36 : ai_okr 5 36 = true := by rw [ai_okr, ai_fr, ai_fr, ai_lo, ai_lo, ai_mx, ai_m_5, ai_m_36]; rfl
theorem ai_rm_6_34 : ai_okr 6 34 = true := by rw [ai_okr, ai_fr, ai_fr, ai_lo, ai_lo, ai_mx, ai_m_6, ai_m_34]; rfl
theorem ai_rm_6_36 : ai_okr 6 36 = true := by rw [ai_okr, ai_fr, ai_fr, ai_lo, ai_lo, ai_mx, ai_m_6, ai_m_36]; rfl
theorem ai_rm_7_34 : ai_okr 7 34 = true := by rw [ai_okr, ai_fr, ai_fr, ai_lo, ai_lo, ai_mx, ai_m_7, ai_m_34]; rfl
theorem ai_rm_7_102 : ai_okr 7 102 = true := by rw [ai_okr, ai_fr, ai_fr, ai_lo, ai_lo, ai_mx, ai_m_7, ai_m_102]; rfl
theorem ai_rm_7_107 : ai_okr 7 107 = true := by rw [ai_okr, ai_fr, ai_fr, ai_lo, ai_lo, ai_mx, ai_m_7, ai_m_107]; rfl
theorem ai_rm_8_31 : ai_okr 8 31 = true := by rw [ai_okr, ai_fr, ai_fr, ai_lo, ai_lo, ai_mx, ai_m_8, ai_m_31]; rfl
theorem ai_rm_8_32 : ai_okr 8 32 = true := by rw [ai_okr, ai_fr, ai_fr, ai_lo, ai_lo, ai_mx, ai_m_8, ai_m_32]; rfl
theorem ai_rm_8_48 : ai_okr 8 48 = true := by rw [ai_okr, ai_fr, ai_fr, ai_lo, ai_lo, ai_mx, ai_m_8, ai_m_48]; rfl
theorem ai_rm_8_102 : ai_okr 8 102 = true := by rw [ai_okr, ai_fr, ai_fr, ai_lo, ai_lo, ai_mx, ai_m_8, ai_m_102]; rfl
theorem ai_rm_8_104 : ai_okr 8 104 = true := by rw [ai_okr, ai_fr, ai_fr, ai_lo, ai_lo, ai_mx, ai_m_8, ai_m_104]; rfl
theorem ai_rm_9_31 : ai_okr 9 31 = true := by rw [ai_okr, ai_fr, ai_fr, ai_lo, ai_lo, ai_mx, ai_m_9, ai_m_31]; rfl
theorem ai_rm_9_302 : ai_okr 9 302 = true := by rw [ai_okr, ai_fr, ai_fr, ai_lo, ai_lo, ai_mx, ai_m_9, ai_m_302]; rfl
theorem ai_rm_10_29 : ai_okr 10 29 = true := by rw [ai_okr, ai_fr, ai_fr, ai_lo, ai_lo, ai_mx, ai_m_10, ai_m_29]; rfl
theorem ai_rm_10_31 : ai_okr 10 31 = true := by rw [ai_okr, ai_fr, ai_fr, ai_lo, ai_lo, ai_mx, ai_m_10, ai_m_31]; rfl
theorem ai_rm_10_32 : ai_okr 10 32 = true := by rw [ai_okr, ai_fr, ai_fr, ai_lo, ai_lo, ai_mx, ai_m_10, ai_m_32]; rfl
theorem ai_rm_10_35 : ai_okr 10 35 = true := by rw [ai_okr, ai_fr, ai_fr, ai_lo, ai_lo, ai_mx, ai_m_10, ai_m_35]; rfl
theorem ai_rm_10_41 : ai_okr 10 41 = true := by rw [ai_okr, ai_fr, ai_fr, ai_lo, ai_lo, ai_mx, ai_m_10, ai_m_41]; rfl
theorem ai_rm_10_401 : ai_okr 10 401 = true := by rw [ai_okr, ai_fr, ai_fr, ai_lo, ai_lo, ai_mx, ai_m_10, ai_m_401]; rfl
theorem ai_rm_10_402 : ai_okr 10 402 = true := by rw [ai_okr, ai_fr, ai_fr, ai_lo, ai_lo, ai_mx, ai_m_10, ai_m_402]; rfl
theorem ai_rm_11_29 : ai_okr 11 29 = true := by rw [ai_okr, ai_fr, ai_fr, ai_lo, ai_lo, ai_mx, ai_m_11, ai_m_29]; rfl
theorem ai_rm_11_30 : ai_okr 11 30 = true := by rw [ai_okr, ai_fr, ai_fr, ai_lo, ai_lo, ai_mx, ai_m_11, ai_m_30]; rfl
theorem ai_rm_11_32 : ai_okr 11 32 = true := by rw [ai_okr, ai_fr, ai_fr, ai_lo, ai_lo, ai_mx, ai_m_11, ai_m_32]; rfl
theorem ai_rm_11_35 : ai_okr 11 35 = true := by rw [ai_okr, ai_fr, ai_fr, ai_lo, ai_lo, ai_mx, ai_m_11, ai_m_35]; rfl
theorem ai_rm_11_37 : ai_okr 11 37 = true := by rw [ai_okr, ai_fr, ai_fr, ai_lo, ai_lo, ai_mx, ai_m_11, ai_m_37]; rfl
theorem ai_rm_11_41 : ai_okr 11 41 = true := by rw [ai_okr, ai_fr, ai_fr, ai_lo, ai_lo, ai_mx, ai_m_11, ai_m_41]; rfl
theorem ai_rm_12_43 : ai_okr 12 43 = true := by rw [ai_okr, ai_fr, ai_fr, ai_lo, ai_lo, ai_mx, ai_m_12, ai_m_43]; rfl
theorem ai_rm_13_29 : ai_okr 13 29 = true := by rw [ai_okr, ai_fr, ai_fr, ai_lo, ai_lo, ai_mx, ai_m_13, ai_m_29]; rfl
theorem ai_rm_14_30 : ai_okr 14 30 = true := by rw [ai_okr, ai_fr, ai_fr, ai_lo, ai_lo, ai_mx, ai_m_14, ai_m_30]; rfl
theorem ai_rm_16_28 : ai_okr 16 28 = true := by rw [ai_okr, ai_fr, ai_fr, ai_lo, ai_lo, ai_mx, ai_m_16, ai_m_28]; rfl
theorem ai_rm_16_32 : ai_okr 16 32 = true := by rw [ai_okr, ai_fr, ai_fr, ai_lo, ai_lo, ai_mx, ai_m_16, ai_m_32]; rfl
theorem ai_rm_17_28 : ai_okr 17 28 = true := by rw [ai_okr, ai_fr, ai_fr, ai_lo, ai_lo, ai_mx, ai_m_17, ai_m_28]; rfl
theorem ai_rm_17_30 : ai_okr 17 30 = true := by rw [ai_okr, ai_fr, ai_fr, ai_lo, ai_lo, ai_mx, ai_m_17, ai_m_30]; rfl
theorem ai_rm_17_32 : ai_okr 17 32 = true := by rw [ai_okr, ai_fr, ai_fr, ai_lo, ai_lo, ai_mx, ai_m_17, ai_m_32]; rfl
theorem ai_rm_18_27 : ai_okr 18 27 = true := by rw [ai_okr, ai_fr, ai_fr, ai_lo, ai_lo, ai_mx, ai_m_18, ai_m_27]; rfl
theorem ai_rm_18_28 : ai_okr 18 28 = true := by rw [ai_okr, ai_fr, ai_fr, ai_lo, ai_lo, ai_mx, ai_m_18, ai_m_28]; rfl
theorem ai_rm_18_52 : ai_okr 18 52 = true := by rw [ai_okr, ai_fr, ai_fr, ai_lo, ai_lo, ai_mx, ai_m_18, ai_m_52]; rfl
theorem ai_rm_19_27 : ai_okr 19 27 = true := by rw [ai_okr, ai_fr, ai_fr, ai_lo, ai_lo, ai_mx, ai_m_19, ai_m_27]; rfl
theorem ai_rm_19_28 : ai_okr 19 28 = true := by rw [ai_okr, ai_fr, ai_fr, ai_lo, ai_lo, ai_mx, ai_m_19, ai_m_28]; rfl
theorem ai_rm_20_27 : ai_okr 20 27 = true := by rw [ai_okr, ai_fr, ai_fr, ai_lo, ai_lo, ai_mx, ai_m_20, ai_m_27]; rfl
theorem ai_rm_20_28 : ai_okr 20 28 = true := by rw [ai_okr, ai_fr, ai_fr, ai_lo, ai_lo, ai_mx, ai_m_20, ai_m_28]; rfl
theorem ai_rm_20_32 : ai_okr 20 32 = true := by rw [ai_okr, ai_fr, ai_fr, ai_lo, ai_lo, ai_mx, ai_m_20, ai_m_32]; rfl
theorem ai_rm_20_33 : ai_okr 20 33 = true := by rw [ai_okr, ai_fr, ai_fr, ai_lo, ai_lo, ai_mx, ai_m_20, ai_m_33]; rfl
theorem ai_rm_20_46 : ai_okr 20 46 = true := by rw [ai_okr, ai_fr, ai_fr, ai_lo, ai_lo, ai_mx, ai_m_20, ai_m_46]; rfl
theorem ai_rm_20_52 : ai_okr 20 52 = true := by rw [ai_okr, ai_fr, ai_fr, ai_lo, ai_lo, ai_mx, ai_m_20, ai_m_52]; rfl
theorem ai_rm_21_31 : ai_okr 21 31 = true := by rw [ai_okr, ai_fr, ai_fr, ai_lo, ai_lo, ai_mx, ai_m_21, ai_m_31]; rfl
theorem ai_rm_21_53 : ai_okr 21 53 = true := by rw [ai_okr, ai_fr, ai_fr, ai_lo, ai_lo, ai_mx, ai_m_21, ai_m_53]; rfl
theorem ai_rm_21_103 : ai_okr 21 103 = true := by rw [ai_okr, ai_fr, ai_fr, ai_lo, ai_lo, ai_mx, ai_m_21, ai_m_103]; rfl
theorem ai_rm_21_107 : ai_okr 21 107 = true := by rw [ai_okr, ai_fr, ai_fr, ai_lo, ai_lo, ai_mx, ai_m_21, ai_m_107]; rfl
theorem ai_rm_22_27 : ai_okr 22 27 = true := by rw [ai_okr, ai_fr, ai_fr, ai_lo, ai_lo, ai_mx, ai_m_22, ai_m_27]; rfl
theorem ai_rm_22_33 : ai_okr 22 33 = true := by rw [ai_okr, ai_fr, ai_fr, ai_lo, ai_lo, ai_mx, ai_m_22, ai_m_33]; rfl
theorem ai_rm_22_108 : ai_okr 22 108 = true := by rw [ai_okr, ai_fr, ai_fr, ai_lo, ai_lo, ai_mx, ai_m_22, ai_m_108]; rfl
theorem ai_rm_23_32 : ai_okr 23 32 = true := by rw [ai_okr, ai_fr, ai_fr, ai_lo, ai_lo, ai_mx, ai_m_23, ai_m_32]; rfl
theorem ai_rm_23_201 : ai_okr 23 201 = true := by rw [ai_okr, ai_fr, ai_fr, ai_lo, ai_lo, ai_mx, ai_m_23, ai_m_201]; rfl
theorem ai_rm_24_31 : ai_okr 24 31 = true := by rw [ai_okr, ai_fr, ai_fr, ai_lo, ai_lo, ai_mx, ai_m_24, ai_m_31]; rfl
theorem ai_rm_24_48 : ai_okr 24 48 = true := by rw [ai_okr, ai_fr, ai_fr, ai_lo, ai_lo, ai_mx, ai_m_24, ai_m_48]; rfl
theorem ai_rm_25_48 : ai_okr 25 48 = true := by rw [ai_okr, ai_fr, ai_fr, ai_lo, ai_lo, ai_mx, ai_m_25, ai_m_48]; rfl
theorem ai_rm_25_54 : ai_okr 25 54 = true := by rw [ai_okr, ai_fr, ai_fr, ai_lo, ai_lo, ai_mx, ai_m_25, ai_m_54]; rfl
theorem ai_rm_34_28 : ai_okr 34 28 = true := by rw [ai_okr, ai_fr, ai_fr, ai_lo, ai_lo, ai_mx, ai_m_34, ai_m_28]; rfl
theorem ai_rm_34_31 : ai_okr 34 31 = true := by rw [ai_okr, ai_fr, ai_fr, ai_lo, ai_lo, ai_mx, ai_m_34, ai_m_31]; rfl
theorem ai_rm_35_104 : ai_okr 35 104 = true := by rw [ai_okr, ai_fr, ai_fr, ai_lo, ai_lo, ai_mx, ai_m_35, ai_m_104]; rfl
theorem ai_rm_36_102 : ai_okr 36 102 = true := by rw [ai_okr, ai_fr, ai_fr, ai_lo, ai_lo, ai_mx, ai_m_36, ai_m_102]; rfl
theorem ai_rm_37_38 : ai_okr 37 38 = true := by rw [ai_okr, ai_fr, ai_fr, ai_lo, ai_lo, ai_mx, ai_m_37, ai_m_38]; rfl
theorem ai_rm_37_39 : ai_okr 37 39 = true := by rw [ai_okr, ai_fr, ai_fr, ai_lo, ai_lo, ai_mx, ai_m_37, ai_m_39]; rfl
theorem ai_rm_37_401 : ai_okr 37 401 = true := by rw [ai_okr, ai_fr, ai_fr, ai_lo, ai_lo, ai_mx, ai_m_37, ai_m_401]; rfl
theorem ai_rm_37_402 : ai_okr 37 402 = true := by rw [ai_okr, ai_fr, ai_fr, ai_lo, ai_lo, ai_mx, ai_m_37, ai_m_402]; rfl
theorem ai_rm_39_40 : ai_okr 39 40 = true := by rw [ai_okr, ai_fr, ai_fr, ai_lo, ai_lo, ai_mx, ai_m_39, ai_m_40]; rfl
theorem ai_rm_41_42 : ai_okr 41 42 = true := by rw [ai_okr, ai_fr, ai_fr, ai_lo, ai_lo, ai_mx, ai_m_41, ai_m_42]; rfl
theorem ai_rm_41_44 : ai_okr 41 44 = true := by rw [ai_okr, ai_fr, ai_fr, ai_lo, ai_lo, ai_mx, ai_m_41, ai_m_44]; rfl
theorem ai_rm_41_104 : ai_okr 41 104 = true := by rw [ai_okr, ai_fr, ai_fr, ai_lo, ai_lo, ai_mx, ai_m_41, ai_m_104]; rfl
theorem ai_rm_42_501 : ai_okr 42 501 = true := by rw [ai_okr, ai_fr, ai_fr, ai_lo, ai_lo, ai_mx, ai_m_42, ai_m_501]; rfl
theorem ai_rm_43_44 : ai_okr 43 44 = true := by rw [ai_okr, ai_fr, ai_fr, ai_lo, ai_lo, ai_mx, ai_m_43, ai_m_44]; rfl
theorem ai_rm_44_45 : ai_okr 44 45 = true := by rw [ai_okr, ai_fr, ai_fr, ai_lo, ai_lo, ai_mx, ai_m_44, ai_m_45]; rfl
theorem ai_rm_44_46 : ai_okr 44 46 = true := by rw [ai_okr, ai_fr, ai_fr, ai_lo, ai_lo, ai_mx, ai_m_44, ai_m_46]; rfl
theorem ai_rm_44_102 : ai_okr 44 102 = true := by rw [ai_okr, ai_fr, ai_fr, ai_lo, ai_lo, ai_mx, ai_m_44, ai_m_102]; rfl
theorem ai_rm_44_103 : ai_okr 44 103 = true := by rw [ai_okr, ai_fr, ai_fr, ai_lo, ai_lo, ai_mx, ai_m_44, ai_m_103]; rfl
theorem ai_rm_45_301 : ai_okr 45 301 = true := by rw [ai_okr, ai_fr, ai_fr, ai_lo, ai_lo, ai_mx, ai_m_45, ai_m_301]; rfl
theorem ai_rm_48_49 : ai_okr 48 49 = true := by rw [ai_okr, ai_fr, ai_fr, ai_lo, ai_lo, ai_mx, ai_m_48, ai_m_49]; rfl
theorem ai_rm_48_50 : ai_okr 48 50 = true := by rw [ai_okr, ai_fr, ai_fr, ai_lo, ai_lo, ai_mx, ai_m_48, ai_m_50]; rfl
theorem ai_rm_48_103 : ai_okr 48 103 = true := by rw [ai_okr, ai_fr, ai_fr, ai_lo, ai_lo, ai_mx, ai_m_48, ai_m_103]; rfl
theorem ai_rm_49_47 : ai_okr 49 47 = true := by rw [ai_okr, ai_fr, ai_fr, ai_lo, ai_lo, ai_mx, ai_m_49, ai_m_47]; rfl
theorem ai_rm_50_47 : ai_okr 50 47 = true := by rw [ai_okr, ai_fr, ai_fr, ai_lo, ai_lo, ai_mx, ai_m_50, ai_m_47]; rfl
theorem ai_rm_50_103 : ai_okr 50 103 = true := by rw [ai_okr, ai_fr, ai_fr, ai_lo, ai_lo, ai_mx, ai_m_50, ai_m_103]; rfl
theorem ai_rm_51_49 : ai_okr 51 49 = true := by rw [ai_okr, ai_fr, ai_fr, ai_lo, ai_lo, ai_mx, ai_m_51, ai_m_49]; rfl
theorem ai_rm_51_50 : ai_okr 51 50 = true := by rw [ai_okr, ai_fr, ai_fr, ai_lo, ai_lo, ai_mx, ai_m_51, ai_m_50]; rfl
theorem ai_rm_51_103 : ai_okr 51 103 = true := by rw [ai_okr, ai_fr, ai_fr, ai_lo, ai_lo, ai_mx, ai_m_51, ai_m_103]; rfl
theorem ai_rm_52_51 : ai_okr 52 51 = true := by rw [ai_okr, ai_fr, ai_fr, ai_lo, ai_lo, ai_mx, ai_m_52, ai_m_51]; rfl
theorem ai_rm_53_46 : ai_okr 53 46 = true := by rw [ai_okr, ai_fr, ai_fr, ai_lo, ai_lo, ai_mx, ai_m_53, ai_m_46]; rfl
theorem ai_rm_53_52 : ai_okr 53 52 = true := by rw [ai_okr, ai_fr, ai_fr, ai_lo, ai_lo, ai_mx, ai_m_53, ai_m_52]; rfl
theorem ai_rm_54_47 : ai_okr 54 47 = true := by rw [ai_okr, ai_fr, ai_fr, ai_lo, ai_lo, ai_mx, ai_m_54, ai_m_47]; rfl
theorem ai_rm_102_103 : ai_okr 102 103 = true := by rw [ai_okr, ai_fr, ai_fr, ai_lo, ai_lo, ai_mx, ai_m_102, ai_m_103]; rfl
theorem ai_rm_102_105 : ai_okr 102 105 = true := by rw [ai_okr, ai_fr, ai_fr, ai_lo, ai_lo, ai_mx, ai_m_102, ai_m_105]; rfl
theorem ai_rm_103_106 : ai_okr 103 106 = true := by rw [ai_okr, ai_fr, ai_fr, ai_lo, ai_lo, ai_mx, ai_m_103, ai_m_106]; rfl
theorem ai_rm_104_105 : ai_okr 104 105 = true := by rw [ai_okr, ai_fr, ai_fr, ai_lo, ai_lo, ai_mx, ai_m_104, ai_m_105]; rfl
theorem ai_rm_104_106 : ai_okr 104 106 = true := by rw [ai_okr, ai_fr, ai_fr, ai_lo, ai_lo, ai_mx, ai_m_104, ai_m_106]; rfl
theorem ai_rm_108_107 : ai_okr 108 107 = true := by rw [ai_okr, ai_fr, ai_fr, ai_lo, ai_lo, ai_mx, ai_m_108, ai_m_107]; rfl
theorem ai_rm_603_602 : ai_okr 603 602 = true := by rw [ai_okr, ai_fr, ai_fr, ai_lo, ai_lo, ai_mx, ai_m_603, ai_m_602]; rfl
theorem ai_rm_604_602 : ai_okr 604 602 = true := by rw [ai_okr, ai_fr, ai_fr, ai_lo, ai_lo, ai_mx, ai_m_604, ai_m_602]; rfl
theorem ai_rm_605_602 : ai_okr 605 602 = true := by rw [ai_okr, ai_fr, ai_fr, ai_lo, ai_lo, ai_mx, ai_m_605, ai_m_602]; rfl
theorem ai_rm_606_602 : ai_okr 606 602 = true := by rw [ai_okr, ai_fr, ai_fr, ai_lo, ai_lo, ai_mx, ai_m_606, ai_m_602]; rfl
theorem ai_rm_607_602 : ai_okr 607 602 = true := by rw [ai_okr, ai_fr, ai_fr, ai_lo, ai_lo, ai_mx, ai_m_607, ai_m_602]; rfl
theorem ai_rm_608_602 : ai_okr 608 602 = true := by rw [ai_okr, ai_fr, ai_fr, ai_lo, ai_lo, ai_mx, ai_m_608, ai_m_602]; rfl
theorem ai_rm_608_603 : ai_okr 608 603 = true := by rw [ai_okr, ai_fr, ai_fr, ai_lo, ai_lo, ai_mx, ai_m_608, ai_m_603]; rfl
theorem ai_rm_608_606 : ai_okr 608 606 = true := by rw [ai_okr, ai_fr, ai_fr, ai_lo, ai_lo, ai_mx, ai_m_608, ai_m_606]; rfl
theorem ai_rm_609_602 : ai_okr 609 602 = true := by rw [ai_okr, ai_fr, ai_fr, ai_lo, ai_lo, ai_mx, ai_m_609, ai_m_602]; rfl
theorem ai_rm_609_607 : ai_okr 609 607 = true := by rw [ai_okr, ai_fr, ai_fr, ai_lo, ai_lo, ai_mx, ai_m_609, ai_m_607]; rfl
theorem ai_rm_610_607 : ai_okr 610 607 = true := by rw [ai_okr, ai_fr, ai_fr, ai_lo, ai_lo, ai_mx, ai_m_610, ai_m_607]; rfl
theorem ai_rm_612_611 : ai_okr 612 611 = true := by rw [ai_okr, ai_fr, ai_fr, ai_lo, ai_lo, ai_mx, ai_m_612, ai_m_611]; rfl
theorem ai_rm_613_611 : ai_okr 613 611 = true := by rw [ai_okr, ai_fr, ai_fr, ai_lo, ai_lo, ai_mx, ai_m_613, ai_m_611]; rfl
theorem ai_rm_615_604 : ai_okr 615 604 = true := by rw [ai_okr, ai_fr, ai_fr, ai_lo, ai_lo, ai_mx, ai_m_615, ai_m_604]; rfl
theorem ai_rm_615_607 : ai_okr 615 607 = true := by rw [ai_okr, ai_fr, ai_fr, ai_lo, ai_lo, ai_mx, ai_m_615, ai_m_607]; rfl
theorem ai_rm_615_613 : ai_okr 615 613 = true := by rw [ai_okr, ai_fr, ai_fr, ai_lo, ai_lo, ai_mx, ai_m_615, ai_m_613]; rfl
theorem ai_rm_615_614 : ai_okr 615 614 = true := by rw [ai_okr, ai_fr, ai_fr, ai_lo, ai_lo, ai_mx, ai_m_615, ai_m_614]; rfl
theorem ai_rm_616_604 : ai_okr 616 604 = true := by rw [ai_okr, ai_fr, ai_fr, ai_lo, ai_lo, ai_mx, ai_m_616, ai_m_604]; rfl
theorem ai_rm_616_607 : ai_okr 616 607 = true := by rw [ai_okr, ai_fr, ai_fr, ai_lo, ai_lo, ai_mx, ai_m_616, ai_m_607]; rfl
theorem ai_rm_616_613 : ai_okr 616 613 = true := by rw [ai_okr, ai_fr, ai_fr, ai_lo, ai_lo, ai_mx, ai_m_616, ai_m_613]; rfl
theorem ai_rm_616_614 : ai_okr 616 614 = true := by rw [ai_okr, ai_fr, ai_fr, ai_lo, ai_lo, ai_mx, ai_m_616, ai_m_614]; rfl
theorem ai_rm_617_604 : ai_okr 617 604 = true := by rw [ai_okr, ai_fr, ai_fr, ai_lo, ai_lo, ai_mx, ai_m_617, ai_m_604]; rfl
theorem ai_rm_617_607 : ai_okr 617 607 = true := by rw [ai_okr, ai_fr, ai_fr, ai_lo, ai_lo, ai_mx, ai_m_617, ai_m_607]; rfl
theorem ai_rm_617_613 : ai_okr 617 613 = true := by rw [ai_okr, ai_fr, ai_fr, ai_lo, ai_lo, ai_mx, ai_m_617, ai_m_613]; rfl
theorem ai_rm_617_614 : ai_okr 617 614 = true := by rw [ai_okr, ai_fr, ai_fr, ai_lo, ai_lo, ai_mx, ai_m_617, ai_m_614]; rfl
theorem ai_rm_618_604 : ai_okr 618 604 = true := by rw [ai_okr, ai_fr, ai_fr, ai_lo, ai_lo, ai_mx, ai_m_618, ai_m_604]; rfl
theorem ai_rm_618_607 : ai_okr 618 607 = true := by rw [ai_okr, ai_fr, ai_fr, ai_lo, ai_lo, ai_mx, ai_m_618, ai_m_607]; rfl
theorem ai_rm_618_613 : ai_okr 618 613 = true := by rw [ai_okr, ai_fr, ai_fr, ai_lo, ai_lo, ai_mx, ai_m_618, ai_m_613]; rfl
theorem ai_rm_618_614 : ai_okr 618 614 = true := by rw [ai_okr, ai_fr, ai_fr, ai_lo, ai_lo, ai_mx, ai_m_618, ai_m_614]; rfl
theorem ai_rm_620_613 : ai_okr 620 613 = true := by rw [ai_okr, ai_fr, ai_fr, ai_lo, ai_lo, ai_mx, ai_m_620, ai_m_613]; rfl
theorem ai_rm_620_619 : ai_okr 620 619 = true := by rw [ai_okr, ai_fr, ai_fr, ai_lo, ai_lo, ai_mx, ai_m_620, ai_m_619]; rfl
theorem ai_rm_621_613 : ai_okr 621 613 = true := by rw [ai_okr, ai_fr, ai_fr, ai_lo, ai_lo, ai_mx, ai_m_621, ai_m_613]; rfl
theorem ai_rm_621_619 : ai_okr 621 619 = true := by rw [ai_okr, ai_fr, ai_fr, ai_lo, ai_lo, ai_mx, ai_m_621, ai_m_619]; rfl
theorem ai_rm_621_620 : ai_okr 621 620 = true := by rw [ai_okr, ai_fr, ai_fr, ai_lo, ai_lo, ai_mx, ai_m_621, ai_m_620]; rfl
theorem ai_rm_622_604 : ai_okr 622 604 = true := by rw [ai_okr, ai_fr, ai_fr, ai_lo, ai_lo, ai_mx, ai_m_622, ai_m_604]; rfl
theorem ai_rm_622_613 : ai_okr 622 613 = true := by rw [ai_okr, ai_fr, ai_fr, ai_lo, ai_lo, ai_mx, ai_m_622, ai_m_613]; rfl
theorem ai_rm_622_621 : ai_okr 622 621 = true := by rw [ai_okr, ai_fr, ai_fr, ai_lo, ai_lo, ai_mx, ai_m_622, ai_m_621]; rfl
theorem ai_rm_623_602 : ai_okr 623 602 = true := by rw [ai_okr, ai_fr, ai_fr, ai_lo, ai_lo, ai_mx, ai_m_623, ai_m_602]; rfl
theorem ai_rm_623_607 : ai_okr 623 607 = true := by rw [ai_okr, ai_fr, ai_fr, ai_lo, ai_lo, ai_mx, ai_m_623, ai_m_607]; rfl
theorem ai_rm_623_612 : ai_okr 623 612 = true := by rw [ai_okr, ai_fr, ai_fr, ai_lo, ai_lo, ai_mx, ai_m_623, ai_m_612]; rfl
theorem ai_rm_623_613 : ai_okr 623 613 = true := by rw [ai_okr, ai_fr, ai_fr, ai_lo, ai_lo, ai_mx, ai_m_623, ai_m_613]; rfl
theorem ai_rm_623_622 : ai_okr 623 622 = true := by rw [ai_okr, ai_fr, ai_fr, ai_lo, ai_lo, ai_mx, ai_m_623, ai_m_622]; rfl
theorem ai_rm_624_607 : ai_okr 624 607 = true := by rw [ai_okr, ai_fr, ai_fr, ai_lo, ai_lo, ai_mx, ai_m_624, ai_m_607]; rfl
theorem ai_rm_627_604 : ai_okr 627 604 = true := by rw [ai_okr, ai_fr, ai_fr, ai_lo, ai_lo, ai_mx, ai_m_627, ai_m_604]; rfl
theorem ai_rm_627_613 : ai_okr 627 613 = true := by rw [ai_okr, ai_fr, ai_fr, ai_lo, ai_lo, ai_mx, ai_m_627, ai_m_613]; rfl
theorem ai_rm_627_625 : ai_okr 627 625 = true := by rw [ai_okr, ai_fr, ai_fr, ai_lo, ai_lo, ai_mx, ai_m_627, ai_m_625]; rfl
theorem ai_rm_627_626 : ai_okr 627 626 = true := by rw [ai_okr, ai_fr, ai_fr, ai_lo, ai_lo, ai_mx, ai_m_627, ai_m_626]; rfl
theorem ai_rm_628_612 : ai_okr 628 612 = true := by rw [ai_okr, ai_fr, ai_fr, ai_lo, ai_lo, ai_mx, ai_m_628, ai_m_612]; rfl
theorem ai_rm_628_613 : ai_okr 628 613 = true := by rw [ai_okr, ai_fr, ai_fr, ai_lo, ai_lo, ai_mx, ai_m_628, ai_m_613]; rfl
theorem ai_rm_628_625 : ai_okr 628 625 = true := by rw [ai_okr, ai_fr, ai_fr, ai_lo, ai_lo, ai_mx, ai_m_628, ai_m_625]; rfl
theorem ai_rm_628_627 : ai_okr 628 627 = true := by rw [ai_okr, ai_fr, ai_fr, ai_lo, ai_lo, ai_mx, ai_m_628, ai_m_627]; rfl
theorem ai_rm_631_602 : ai_okr 631 602 = true := by rw [ai_okr, ai_fr, ai_fr, ai_lo, ai_lo, ai_mx, ai_m_631, ai_m_602]; rfl
theorem ai_rm_631_605 : ai_okr 631 605 = true := by rw [ai_okr, ai_fr, ai_fr, ai_lo, ai_lo, ai_mx, ai_m_631, ai_m_605]; rfl
theorem ai_rm_631_607 : ai_okr 631 607 = true := by rw [ai_okr, ai_fr, ai_fr, ai_lo, ai_lo, ai_mx, ai_m_631, ai_m_607]; rfl
theorem ai_rm_631_612 : ai_okr 631 612 = true := by rw [ai_okr, ai_fr, ai_fr, ai_lo, ai_lo, ai_mx, ai_m_631, ai_m_612]; rfl
theorem ai_rm_631_628 : ai_okr 631 628 = true := by rw [ai_okr, ai_fr, ai_fr, ai_lo, ai_lo, ai_mx, ai_m_631, ai_m_628]; rfl
theorem ai_rm_631_629 : ai_okr 631 629 = true := by rw [ai_okr, ai_fr, ai_fr, ai_lo, ai_lo, ai_mx, ai_m_631, ai_m_629]; rfl
theorem ai_rm_631_630 : ai_okr 631 630 = true := by rw [ai_okr, ai_fr, ai_fr, ai_lo, ai_lo, ai_mx, ai_m_631, ai_m_630]; rfl
theorem ai_rm_634_629 : ai_okr 634 629 = true := by rw [ai_okr, ai_fr, ai_fr, ai_lo, ai_lo, ai_mx, ai_m_634, ai_m_629]; rfl
theorem ai_rm_634_632 : ai_okr 634 632 = true := by rw [ai_okr, ai_fr, ai_fr, ai_lo, ai_lo, ai_mx, ai_m_634, ai_m_632]; rfl
theorem ai_rm_634_633 : ai_okr 634 633 = true := by rw [ai_okr, ai_fr, ai_fr, ai_lo, ai_lo, ai_mx, ai_m_634, ai_m_633]; rfl
theorem ai_rm_635_602 : ai_okr 635 602 = true := by rw [ai_okr, ai_fr, ai_fr, ai_lo, ai_lo, ai_mx, ai_m_635, ai_m_602]; rfl
theorem ai_rm_635_605 : ai_okr 635 605 = true := by rw [ai_okr, ai_fr, ai_fr, ai_lo, ai_lo, ai_mx, ai_m_635, ai_m_605]; rfl
theorem ai_rm_635_606 : ai_okr 635 606 = true := by rw [ai_okr, ai_fr, ai_fr, ai_lo, ai_lo, ai_mx, ai_m_635, ai_m_606]; rfl
theorem ai_rm_635_612 : ai_okr 635 612 = true := by rw [ai_okr, ai_fr, ai_fr, ai_lo, ai_lo, ai_mx, ai_m_635, ai_m_612]; rfl
theorem ai_rm_635_628 : ai_okr 635 628 = true := by rw [ai_okr, ai_fr, ai_fr, ai_lo, ai_lo, ai_mx, ai_m_635, ai_m_628]; rfl
theorem ai_rm_635_630 : ai_okr 635 630 = true := by rw [ai_okr, ai_fr, ai_fr, ai_lo, ai_lo, ai_mx, ai_m_635, ai_m_630]; rfl
theorem ai_rm_635_634 : ai_okr 635 634 = true := by rw [ai_okr, ai_fr, ai_fr, ai_lo, ai_lo, ai_mx, ai_m_635, ai_m_634]; rfl
theorem ai_rm_636_613 : ai_okr 636 613 = true := by rw [ai_okr, ai_fr, ai_fr, ai_lo, ai_lo, ai_mx, ai_m_636, ai_m_613]; rfl
theorem ai_rm_636_625 : ai_okr 636 625 = true := by rw [ai_okr, ai_fr, ai_fr, ai_lo, ai_lo, ai_mx, ai_m_636, ai_m_625]; rfl
theorem ai_rm_636_627 : ai_okr 636 627 = true := by rw [ai_okr, ai_fr, ai_fr, ai_lo, ai_lo, ai_mx, ai_m_636, ai_m_627]; rfl
theorem ai_rm_636_629 : ai_okr 636 629 = true := by rw [ai_okr, ai_fr, ai_fr, ai_lo, ai_lo, ai_mx, ai_m_636, ai_m_629]; rfl
theorem ai_rm_637_636 : ai_okr 637 636 = true := by rw [ai_okr, ai_fr, ai_fr, ai_lo, ai_lo, ai_mx, ai_m_637, ai_m_636]; rfl
theorem ai_rm_638_605 : ai_okr 638 605 = true := by rw [ai_okr, ai_fr, ai_fr, ai_lo, ai_lo, ai_mx, ai_m_638, ai_m_605]; rfl
theorem ai_rm_639_606 : ai_okr 639 606 = true := by rw [ai_okr, ai_fr, ai_fr, ai_lo, ai_lo, ai_mx, ai_m_639, ai_m_606]; rfl
theorem ai_rm_641_602 : ai_okr 641 602 = true := by rw [ai_okr, ai_fr, ai_fr, ai_lo, ai_lo, ai_mx, ai_m_641, ai_m_602]; rfl
theorem ai_rm_641_604 : ai_okr 641 604 = true := by rw [ai_okr, ai_fr, ai_fr, ai_lo, ai_lo, ai_mx, ai_m_641, ai_m_604]; rfl
theorem ai_rm_642_602 : ai_okr 642 602 = true := by rw [ai_okr, ai_fr, ai_fr, ai_lo, ai_lo, ai_mx, ai_m_642, ai_m_602]; rfl
theorem ai_rm_642_604 : ai_okr 642 604 = true := by rw [ai_okr, ai_fr, ai_fr, ai_lo, ai_lo, ai_mx, ai_m_642, ai_m_604]; rfl
theorem ai_rm_642_606 : ai_okr 642 606 = true := by rw [ai_okr, ai_fr, ai_fr, ai_lo, ai_lo, ai_mx, ai_m_642, ai_m_606]; rfl
theorem ai_rm_643_621 : ai_okr 643 621 = true := by rw [ai_okr, ai_fr, ai_fr, ai_lo, ai_lo, ai_mx, ai_m_643, ai_m_621]; rfl
theorem ai_rm_644_643 : ai_okr 644 643 = true := by rw [ai_okr, ai_fr, ai_fr, ai_lo, ai_lo, ai_mx, ai_m_644, ai_m_643]; rfl
theorem ai_rm_645_603 : ai_okr 645 603 = true := by rw [ai_okr, ai_fr, ai_fr, ai_lo, ai_lo, ai_mx, ai_m_645, ai_m_603]; rfl
theorem ai_rm_645_604 : ai_okr 645 604 = true := by rw [ai_okr, ai_fr, ai_fr, ai_lo, ai_lo, ai_mx, ai_m_645, ai_m_604]; rfl
theorem ai_rm_646_644 : ai_okr 646 644 = true := by rw [ai_okr, ai_fr, ai_fr, ai_lo, ai_lo, ai_mx, ai_m_646, ai_m_644]; rfl
theorem ai_rm_646_645 : ai_okr 646 645 = true := by rw [ai_okr, ai_fr, ai_fr, ai_lo, ai_lo, ai_mx, ai_m_646, ai_m_645]; rfl
theorem ai_rm_647_626 : ai_okr 647 626 = true := by rw [ai_okr, ai_fr, ai_fr, ai_lo, ai_lo, ai_mx, ai_m_647, ai_m_626]; rfl
theorem ai_rm_647_645 : ai_okr 647 645 = true := by rw [ai_okr, ai_fr, ai_fr, ai_lo, ai_lo, ai_mx, ai_m_647, ai_m_645]; rfl
theorem ai_rm_648_625 : ai_okr 648 625 = true := by rw [ai_okr, ai_fr, ai_fr, ai_lo, ai_lo, ai_mx, ai_m_648, ai_m_625]; rfl
theorem ai_rm_648_626 : ai_okr 648 626 = true := by rw [ai_okr, ai_fr, ai_fr, ai_lo, ai_lo, ai_mx, ai_m_648, ai_m_626]; rfl
theorem ai_rm_648_644 : ai_okr 648 644 = true := by rw [ai_okr, ai_fr, ai_fr, ai_lo, ai_lo, ai_mx, ai_m_648, ai_m_644]; rfl
theorem ai_rm_648_645 : ai_okr 648 645 = true := by rw [ai_okr, ai_fr, ai_fr, ai_lo, ai_lo, ai_mx, ai_m_648, ai_m_645]; rfl
theorem ai_rm_649_604 : ai_okr 649 604 = true := by rw [ai_okr, ai_fr, ai_fr, ai_lo, ai_lo, ai_mx, ai_m_649, ai_m_604]; rfl
theorem ai_rm_649_607 : ai_okr 649 607 = true := by rw [ai_okr, ai_fr, ai_fr, ai_lo, ai_lo, ai_mx, ai_m_649, ai_m_607]; rfl
theorem ai_rm_649_613 : ai_okr 649 613 = true := by rw [ai_okr, ai_fr, ai_fr, ai_lo, ai_lo, ai_mx, ai_m_649, ai_m_613]; rfl
theorem ai_rm_649_614 : ai_okr 649 614 = true := by rw [ai_okr, ai_fr, ai_fr, ai_lo, ai_lo, ai_mx, ai_m_649, ai_m_614]; rfl
theorem ai_rm_649_625 : ai_okr 649 625 = true := by rw [ai_okr, ai_fr, ai_fr, ai_lo, ai_lo, ai_mx, ai_m_649, ai_m_625]; rfl
theorem ai_rm_649_626 : ai_okr 649 626 = true := by rw [ai_okr, ai_fr, ai_fr, ai_lo, ai_lo, ai_mx, ai_m_649, ai_m_626]; rfl
theorem ai_rm_649_644 : ai_okr 649 644 = true := by rw [ai_okr, ai_fr, ai_fr, ai_lo, ai_lo, ai_mx, ai_m_649, ai_m_644]; rfl
theorem ai_rm_650_603 : ai_okr 650 603 = true := by rw [ai_okr, ai_fr, ai_fr, ai_lo, ai_lo, ai_mx, ai_m_650, ai_m_603]; rfl
theorem ai_rm_651_602 : ai_okr 651 602 = true := by rw [ai_okr, ai_fr, ai_fr, ai_lo, ai_lo, ai_mx, ai_m_651, ai_m_602]; rfl
theorem ai_rm_653_607 : ai_okr 653 607 = true := by rw [ai_okr, ai_fr, ai_fr, ai_lo, ai_lo, ai_mx, ai_m_653, ai_m_607]; rfl
theorem ai_rm_653_622 : ai_okr 653 622 = true := by rw [ai_okr, ai_fr, ai_fr, ai_lo, ai_lo, ai_mx, ai_m_653, ai_m_622]; rfl
theorem ai_rm_653_652 : ai_okr 653 652 = true := by rw [ai_okr, ai_fr, ai_fr, ai_lo, ai_lo, ai_mx, ai_m_653, ai_m_652]; rfl
theorem ai_rm_654_619 : ai_okr 654 619 = true := by rw [ai_okr, ai_fr, ai_fr, ai_lo, ai_lo, ai_mx, ai_m_654, ai_m_619]; rfl
theorem ai_rm_654_621 : ai_okr 654 621 = true := by rw [ai_okr, ai_fr, ai_fr, ai_lo, ai_lo, ai_mx, ai_m_654, ai_m_621]; rfl
theorem ai_rm_700_1 : ai_okr 700 1 = true := by rw [ai_okr, ai_fr, ai_fr, ai_lo, ai_lo, ai_mx, ai_m_700, ai_m_1]; rfl
theorem ai_rm_701_2 : ai_okr 701 2 = true := by rw [ai_okr, ai_fr, ai_fr, ai_lo, ai_lo, ai_mx, ai_m_701, ai_m_2]; rfl
theorem ai_rm_702_3 : ai_okr 702 3 = true := by rw [ai_okr, ai_fr, ai_fr, ai_lo, ai_lo, ai_mx, ai_m_702, ai_m_3]; rfl
theorem ai_rm_703_4 : ai_okr 703 4 = true := by rw [ai_okr, ai_fr, ai_fr, ai_lo, ai_lo, ai_mx, ai_m_703, ai_m_4]; rfl
theorem ai_rm_704_5 : ai_okr 704 5 = true := by rw [ai_okr, ai_fr, ai_fr, ai_lo, ai_lo, ai_mx, ai_m_704, ai_m_5]; rfl
theorem ai_rm_705_6 : ai_okr 705 6 = true := by rw [ai_okr, ai_fr, ai_fr, ai_lo, ai_lo, ai_mx, ai_m_705, ai_m_6]; rfl
theorem ai_rm_706_7 : ai_okr 706 7 = true := by rw [ai_okr, ai_fr, ai_fr, ai_lo, ai_lo, ai_mx, ai_m_706, ai_m_7]; rfl
theorem ai_rm_707_8 : ai_okr 707 8 = true := by rw [ai_okr, ai_fr, ai_fr, ai_lo, ai_lo, ai_mx, ai_m_707, ai_m_8]; rfl
theorem ai_rm_708_9 : ai_okr 708 9 = true := by rw [ai_okr, ai_fr, ai_fr, ai_lo, ai_lo, ai_mx, ai_m_708, ai_m_9]; rfl
theorem ai_rm_709_10 : ai_okr 709 10 = true := by rw [ai_okr, ai_fr, ai_fr, ai_lo, ai_lo, ai_mx, ai_m_709, ai_m_10]; rfl
theorem ai_rm_710_11 : ai_okr 710 11 = true := by rw [ai_okr, ai_fr, ai_fr, ai_lo, ai_lo, ai_mx, ai_m_710, ai_m_11]; rfl
theorem ai_rm_711_13 : ai_okr 711 13 = true := by rw [ai_okr, ai_fr, ai_fr, ai_lo, ai_lo, ai_mx, ai_m_711, ai_m_13]; rfl
theorem ai_rm_712_14 : ai_okr 712 14 = true := by rw [ai_okr, ai_fr, ai_fr, ai_lo, ai_lo, ai_mx, ai_m_712, ai_m_14]; rfl
theorem ai_rm_713_16 : ai_okr 713 16 = true := by rw [ai_okr, ai_fr, ai_fr, ai_lo, ai_lo, ai_mx, ai_m_713, ai_m_16]; rfl
theorem ai_rm_714_17 : ai_okr 714 17 = true := by rw [ai_okr, ai_fr, ai_fr, ai_lo, ai_lo, ai_mx, ai_m_714, ai_m_17]; rfl
theorem ai_rm_715_18 : ai_okr 715 18 = true := by rw [ai_okr, ai_fr, ai_fr, ai_lo, ai_lo, ai_mx, ai_m_715, ai_m_18]; rfl
theorem ai_rm_716_19 : ai_okr 716 19 = true := by rw [ai_okr, ai_fr, ai_fr, ai_lo, ai_lo, ai_mx, ai_m_716, ai_m_19]; rfl
theorem ai_rm_717_20 : ai_okr 717 20 = true := by rw [ai_okr, ai_fr, ai_fr, ai_lo, ai_lo, ai_mx, ai_m_717, ai_m_20]; rfl
theorem ai_rm_718_21 : ai_okr 718 21 = true := by rw [ai_okr, ai_fr, ai_fr, ai_lo, ai_lo, ai_mx, ai_m_718, ai_m_21]; rfl
theorem ai_rm_719_22 : ai_okr 719 22 = true := by rw [ai_okr, ai_fr, ai_fr, ai_lo, ai_lo, ai_mx, ai_m_719, ai_m_22]; rfl
theorem ai_rm_720_23 : ai_okr 720 23 = true := by rw [ai_okr, ai_fr, ai_fr, ai_lo, ai_lo, ai_mx, ai_m_720, ai_m_23]; rfl
theorem ai_rm_721_24 : ai_okr 721 24 = true := by rw [ai_okr, ai_fr, ai_fr, ai_lo, ai_lo, ai_mx, ai_m_721, ai_m_24]; rfl
theorem ai_rm_722_0 : ai_okr 722 0 = true := by rw [ai_okr, ai_fr, ai_fr, ai_lo, ai_lo, ai_mx, ai_m_722, ai_m_0]; rfl
theorem ai_rm_722_12 : ai_okr 722 12 = true := by rw [ai_okr, ai_fr, ai_fr, ai_lo, ai_lo, ai_mx, ai_m_722, ai_m_12]; rfl
theorem ai_rm_722_15 : ai_okr 722 15 = true := by rw [ai_okr, ai_fr, ai_fr, ai_lo, ai_lo, ai_mx, ai_m_722, ai_m_15]; rfl
theorem ai_rm_722_25 : ai_okr 722 25 = true := by rw [ai_okr, ai_fr, ai_fr, ai_lo, ai_lo, ai_mx, ai_m_722, ai_m_25]; rfl
theorem ai_rm_722_26 : ai_okr 722 26 = true := by rw [ai_okr, ai_fr, ai_fr, ai_lo, ai_lo, ai_mx, ai_m_722, ai_m_26]; rfl
theorem ai_rm_722_600 : ai_okr 722 600 = true := by rw [ai_okr, ai_fr, ai_fr, ai_lo, ai_lo, ai_mx, ai_m_722, ai_m_600]; rfl
theorem ai_rm_722_601 : ai_okr 722 601 = true := by rw [ai_okr, ai_fr, ai_fr, ai_lo, ai_lo, ai_mx, ai_m_722, ai_m_601]; rfl
theorem ai_rm_722_608 : ai_okr 722 608 = true := by rw [ai_okr, ai_fr, ai_fr, ai_lo, ai_lo, ai_mx, ai_m_722, ai_m_608]; rfl
theorem ai_rm_722_609 : ai_okr 722 609 = true := by rw [ai_okr, ai_fr, ai_fr, ai_lo, ai_lo, ai_mx, ai_m_722, ai_m_609]; rfl
theorem ai_rm_722_610 : ai_okr 722 610 = true := by rw [ai_okr, ai_fr, ai_fr, ai_lo, ai_lo, ai_mx, ai_m_722, ai_m_610]; rfl
theorem ai_rm_722_615 : ai_okr 722 615 = true := by rw [ai_okr, ai_fr, ai_fr, ai_lo, ai_lo, ai_mx, ai_m_722, ai_m_615]; rfl
theorem ai_rm_722_616 : ai_okr 722 616 = true := by rw [ai_okr, ai_fr, ai_fr, ai_lo, ai_lo, ai_mx, ai_m_722, ai_m_616]; rfl
theorem ai_rm_722_617 : ai_okr 722 617 = true := by rw [ai_okr, ai_fr, ai_fr, ai_lo, ai_lo, ai_mx, ai_m_722, ai_m_617]; rfl
theorem ai_rm_722_618 : ai_okr 722 618 = true := by rw [ai_okr, ai_fr, ai_fr, ai_lo, ai_lo, ai_mx, ai_m_722, ai_m_618]; rfl
theorem ai_rm_722_623 : ai_okr 722 623 = true := by rw [ai_okr, ai_fr, ai_fr, ai_lo, ai_lo, ai_mx, ai_m_722, ai_m_623]; rfl
theorem ai_rm_722_624 : ai_okr 722 624 = true := by rw [ai_okr, ai_fr, ai_fr, ai_lo, ai_lo, ai_mx, ai_m_722, ai_m_624]; rfl
theorem ai_rm_722_631 : ai_okr 722 631 = true := by rw [ai_okr, ai_fr, ai_fr, ai_lo, ai_lo, ai_mx, ai_m_722, ai_m_631]; rfl
theorem ai_rm_722_635 : ai_okr 722 635 = true := by rw [ai_okr, ai_fr, ai_fr, ai_lo, ai_lo, ai_mx, ai_m_722, ai_m_635]; rfl
theorem ai_rm_722_637 : ai_okr 722 637 = true := by rw [ai_okr, ai_fr, ai_fr, ai_lo, ai_lo, ai_mx, ai_m_722, ai_m_637]; rfl
theorem ai_rm_722_638 : ai_okr 722 638 = true := by rw [ai_okr, ai_fr, ai_fr, ai_lo, ai_lo, ai_mx, ai_m_722, ai_m_638]; rfl
theorem ai_rm_722_639 : ai_okr 722 639 = true := by rw [ai_okr, ai_fr, ai_fr, ai_lo, ai_lo, ai_mx, ai_m_722, ai_m_639]; rfl
theorem ai_rm_722_640 : ai_okr 722 640 = true := by rw [ai_okr, ai_fr, ai_fr, ai_lo, ai_lo, ai_mx, ai_m_722, ai_m_640]; rfl
theorem ai_rm_722_641 : ai_okr 722 641 = true := by rw [ai_okr, ai_fr, ai_fr, ai_lo, ai_lo, ai_mx, ai_m_722, ai_m_641]; rfl
theorem ai_rm_722_642 : ai_okr 722 642 = true := by rw [ai_okr, ai_fr, ai_fr, ai_lo, ai_lo, ai_mx, ai_m_722, ai_m_642]; rfl
theorem ai_rm_722_646 : ai_okr 722 646 = true := by rw [ai_okr, ai_fr, ai_fr, ai_lo, ai_lo, ai_mx, ai_m_722, ai_m_646]; rfl
theorem ai_rm_722_647 : ai_okr 722 647 = true := by rw [ai_okr, ai_fr, ai_fr, ai_lo, ai_lo, ai_mx, ai_m_722, ai_m_647]; rfl
theorem ai_rm_722_648 : ai_okr 722 648 = true := by rw [ai_okr, ai_fr, ai_fr, ai_lo, ai_lo, ai_mx, ai_m_722, ai_m_648]; rfl
theorem ai_rm_722_649 : ai_okr 722 649 = true := by rw [ai_okr, ai_fr, ai_fr, ai_lo, ai_lo, ai_mx, ai_m_722, ai_m_649]; rfl
theorem ai_rm_722_650 : ai_okr 722 650 = true := by rw [ai_okr, ai_fr, ai_fr, ai_lo, ai_lo, ai_mx, ai_m_722, ai_m_650]; rfl
theorem ai_rm_722_651 : ai_okr 722 651 = true := by rw [ai_okr, ai_fr, ai_fr, ai_lo, ai_lo, ai_mx, ai_m_722, ai_m_651]; rfl
theorem ai_rm_722_653 : ai_okr 722 653 = true := by rw [ai_okr, ai_fr, ai_fr, ai_lo, ai_lo, ai_mx, ai_m_722, ai_m_653]; rfl
theorem ai_rm_722_654 : ai_okr 722 654 = true := by rw [ai_okr, ai_fr, ai_fr, ai_lo, ai_lo, ai_mx, ai_m_722, ai_m_654]; rfl
theorem ai_rm_722_655 : ai_okr 722 655 = true := by rw [ai_okr, ai_fr, ai_fr, ai_lo, ai_lo, ai_mx, ai_m_722, ai_m_655]; rfl
theorem ai_rm_722_700 : ai_okr 722 700 = true := by rw [ai_okr, ai_fr, ai_fr, ai_lo, ai_lo, ai_mx, ai_m_722, ai_m_700]; rfl
theorem ai_rm_722_701 : ai_okr 722 701 = true := by rw [ai_okr, ai_fr, ai_fr, ai_lo, ai_lo, ai_mx, ai_m_722, ai_m_701]; rfl
theorem ai_rm_722_702 : ai_okr 722 702 = true := by rw [ai_okr, ai_fr, ai_fr, ai_lo, ai_lo, ai_mx, ai_m_722, ai_m_702]; rfl
theorem ai_rm_722_703 : ai_okr 722 703 = true := by rw [ai_okr, ai_fr, ai_fr, ai_lo, ai_lo, ai_mx, ai_m_722, ai_m_703]; rfl
theorem ai_rm_722_704 : ai_okr 722 704 = true := by rw [ai_okr, ai_fr, ai_fr, ai_lo, ai_lo, ai_mx, ai_m_722, ai_m_704]; rfl
theorem ai_rm_722_705 : ai_okr 722 705 = true := by rw [ai_okr, ai_fr, ai_fr, ai_lo, ai_lo, ai_mx, ai_m_722, ai_m_705]; rfl
theorem ai_rm_722_706 : ai_okr 722 706 = true := by rw [ai_okr, ai_fr, ai_fr, ai_lo, ai_lo, ai_mx, ai_m_722, ai_m_706]; rfl
theorem ai_rm_722_707 : ai_okr 722 707 = true := by rw [ai_okr, ai_fr, ai_fr, ai_lo, ai_lo, ai_mx, ai_m_722, ai_m_707]; rfl
theorem ai_rm_722_708 : ai_okr 722 708 = true := by rw [ai_okr, ai_fr, ai_fr, ai_lo, ai_lo, ai_mx, ai_m_722, ai_m_708]; rfl
theorem ai_rm_722_709 : ai_okr 722 709 = true := by rw [ai_okr, ai_fr, ai_fr, ai_lo, ai_lo, ai_mx, ai_m_722, ai_m_709]; rfl
theorem ai_rm_722_710 : ai_okr 722 710 = true := by rw [ai_okr, ai_fr, ai_fr, ai_lo, ai_lo, ai_mx, ai_m_722, ai_m_710]; rfl
theorem ai_rm_722_711 : ai_okr 722 711 = true := by rw [ai_okr, ai_fr, ai_fr, ai_lo, ai_lo, ai_mx, ai_m_722, ai_m_711]; rfl
theorem ai_rm_722_712 : ai_okr 722 712 = true := by rw [ai_okr, ai_fr, ai_fr, ai_lo, ai_lo, ai_mx, ai_m_722, ai_m_712]; rfl
theorem ai_rm_722_713 : ai_okr 722 713 = true := by rw [ai_okr, ai_fr, ai_fr, ai_lo, ai_lo, ai_mx, ai_m_722, ai_m_713]; rfl
theorem ai_rm_722_714 : ai_okr 722 714 = true := by rw [ai_okr, ai_fr, ai_fr, ai_lo, ai_lo, ai_mx, ai_m_722, ai_m_714]; rfl
theorem ai_rm_722_715 : ai_okr 722 715 = true := by rw [ai_okr, ai_fr, ai_fr, ai_lo, ai_lo, ai_mx, ai_m_722, ai_m_715]; rfl
theorem ai_rm_722_716 : ai_okr 722 716 = true := by rw [ai_okr, ai_fr, ai_fr, ai_lo, ai_lo, ai_mx, ai_m_722, ai_m_716]; rfl
theorem ai_rm_722_717 : ai_okr 722 717 = true := by rw [ai_okr, ai_fr, ai_fr, ai_lo, ai_lo, ai_mx, ai_m_722, ai_m_717]; rfl
theorem ai_rm_722_718 : ai_okr 722 718 = true := by rw [ai_okr, ai_fr, ai_fr, ai_lo, ai_lo, ai_mx, ai_m_722, ai_m_718]; rfl
theorem ai_rm_722_719 : ai_okr 722 719 = true := by rw [ai_okr, ai_fr, ai_fr, ai_lo, ai_lo, ai_mx, ai_m_722, ai_m_719]; rfl
theorem ai_rm_722_720 : ai_okr 722 720 = true := by rw [ai_okr, ai_fr, ai_fr, ai_lo, ai_lo, ai_mx, ai_m_722, ai_m_720]; rfl
theorem ai_rm_722_721 : ai_okr 722 721 = true := by rw [ai_okr, ai_fr, ai_fr, ai_lo, ai_lo, ai_mx, ai_m_722, ai_m_721]; rfl
theorem ai_om_0 : ai_okm 0 = true := by rw [ai_okm, ai_fr, ai_lo, ai_m_0]; rfl
theorem ai_ot_1 : ai_okt 1 = true := by rw [ai_okt, ai_fr, ai_lo, ai_m_1]; rfl
theorem ai_ot_4 : ai_okt 4 = true := by rw [ai_okt, ai_fr, ai_lo, ai_m_4]; rfl
theorem ai_om_10 : ai_okm 10 = true := by rw [ai_okm, ai_fr, ai_lo, ai_m_10]; rfl
theorem ai_ot_10 : ai_okt 10 = true := by rw [ai_okt, ai_fr, ai_lo, ai_m_10]; rfl
theorem ai_ot_21 : ai_okt 21 = true := by rw [ai_okt, ai_fr, ai_lo, ai_m_21]; rfl
theorem ai_ot_23 : ai_okt 23 = true := by rw [ai_okt, ai_fr, ai_lo, ai_m_23]; rfl
theorem ai_ot_24 : ai_okt 24 = true := by rw [ai_okt, ai_fr, ai_lo, ai_m_24]; rfl
theorem ai_ot_27 : ai_okt 27 = true := by rw [ai_okt, ai_fr, ai_lo, ai_m_27]; rfl
theorem ai_ot_28 : ai_okt 28 = true := by rw [ai_okt, ai_fr, ai_lo, ai_m_28]; rfl
theorem ai_ot_29 : ai_okt 29 = true := by rw [ai_okt, ai_fr, ai_lo, ai_m_29]; rfl
theorem ai_ot_30 : ai_okt 30 = true := by rw [ai_okt, ai_fr, ai_lo, ai_m_30]; rfl
theorem ai_ot_31 : ai_okt 31 = true := by rw [ai_okt, ai_fr, ai_lo, ai_m_31]; rfl
theorem ai_ot_32 : ai_okt 32 = true := by rw [ai_okt, ai_fr, ai_lo, ai_m_32]; rfl
theorem ai_ot_33 : ai_okt 33 = true := by rw [ai_okt, ai_fr, ai_lo, ai_m_33]; rfl
theorem ai_ot_34 : ai_okt 34 = true := by rw [ai_okt, ai_fr, ai_lo, ai_m_34]; rfl
theorem ai_ot_35 : ai_okt 35 = true := by rw [ai_okt, ai_fr, ai_lo, ai_m_35]; rfl
theorem ai_ot_36 : ai_okt 36 = true := by rw [ai_okt, ai_fr, ai_lo, ai_m_36]; rfl
theorem ai_om_37 : ai_okm 37 = true := by rw [ai_okm, ai_fr, ai_lo, ai_m_37]; rfl
theorem ai_om_43 : ai_okm 43 = true := by rw [ai_okm, ai_fr, ai_lo, ai_m_43]; rfl
theorem ai_om_44 : ai_okm 44 = true := by rw [ai_okm, ai_fr, ai_lo, ai_m_44]; rfl
theorem ai_om_52 : ai_okm 52 = true := by rw [ai_okm, ai_fr, ai_lo, ai_m_52]; rfl
theorem ai_om_53 : ai_okm 53 = true := by rw [ai_okm, ai_fr, ai_lo, ai_m_53]; rfl
theorem ai_om_100 : ai_okm 100 = true := by rw [ai_okm, ai_fr, ai_lo, ai_m_100]; rfl
theorem ai_om_200 : ai_okm 200 = true := by rw [ai_okm, ai_fr, ai_lo, ai_m_200]; rfl
theorem ai_om_300 : ai_okm 300 = true := by rw [ai_okm, ai_fr, ai_lo, ai_m_300]; rfl
theorem ai_om_400 : ai_okm 400 = true := by rw [ai_okm, ai_fr, ai_lo, ai_m_400]; rfl
theorem ai_om_500 : ai_okm 500 = true := by rw [ai_okm, ai_fr, ai_lo, ai_m_500]; rfl
theorem ai_om_600 : ai_okm 600 = true := by rw [ai_okm, ai_fr, ai_lo, ai_m_600]; rfl
theorem ai_ci_6_108 : ai_ci 6 108 = some (1000000) := (id rfl)
theorem ai_ci_6_193 : ai_ci 6 193 = some (100000000) := (id rfl)
theorem ai_cj_0_88 : ai_cj 0 88 = some (1000000) := (id rfl)
theorem ai_cj_0_94 : ai_cj 0 94 = some (300) := (id rfl)
theorem ai_cj_0_161 : ai_cj 0 161 = some (5) := (id rfl)
theorem ai_cj_0_224 : ai_cj 0 224 = some (100) := (id rfl)
theorem ai_cj_0_226 : ai_cj 0 226 = some (9) := (id rfl)
theorem ai_cj_0_237 : ai_cj 0 237 = some (100000000) := (id rfl)
theorem ai_cj_0_290 : ai_cj 0 290 = some (10) := (id rfl)
theorem ai_cj_0_292 : ai_cj 0 292 = some (90) := (id rfl)
theorem ai_cj_0_360 : ai_cj 0 360 = some (2) := (id rfl)
theorem ai_cj_2_29 : ai_cj 2 29 = some (10000) := (id rfl)
theorem ai_cj_6_136 : ai_cj 6 136 = some (2) := (id rfl)
theorem ai_cj_6_198 : ai_cj 6 198 = some (100) := (id rfl)
theorem ai_cj_6_207 : ai_cj 6 207 = some (10000) := (id rfl)
theorem ai_cj_6_220 : ai_cj 6 220 = some (10) := (id rfl)
theorem ai_cj_6_222 : ai_cj 6 222 = some (90) := (id rfl)
theorem ai_mt_0_186 : ai_mt 0 186 = some 0 := (id rfl)
theorem ai_mt_0_346 : ai_mt 0 346 = some 1 := (id rfl)
theorem ai_mt_0_366 : ai_mt 0 366 = some 2 := (id rfl)
theorem ai_ob_0_3 : ai_ob 0 3 = true := (id rfl)
theorem ai_ob_1_3 : ai_ob 1 3 = true := (id rfl)
theorem ai_ob_2_3 : ai_ob 2 3 = true := (id rfl)
theorem ai_ob_3_3 : ai_ob 3 3 = true := (id rfl)
theorem ai_ob_4_3 : ai_ob 4 3 = true := (id rfl)
theorem ai_ob_5_1 : ai_ob 5 1 = true := (id rfl)
theorem ai_ob_6_1 : ai_ob 6 1 = true := (id rfl)
theorem ai_x_1_34 : ai_xt 1 34 = some 3 := (id rfl)
theorem ai_xn_1_34 : ai_nc 0 96 = none := (id rfl)
theorem ai_x_4_33 : ai_xt 4 33 = some 3 := (id rfl)
theorem ai_xn_4_33 : ai_nc 0 96 = none := (id rfl)
theorem ai_x_4_51 : ai_xt 4 51 = some 3 := (id rfl)
theorem ai_xn_4_51 : ai_nc 0 96 = none := (id rfl)
theorem ai_x_10_33 : ai_xt 10 33 = some 3 := (id rfl)
theorem ai_xn_10_33 : ai_nc 0 96 = none := (id rfl)
theorem ai_x_21_22 : ai_xt 21 22 = some 3 := (id rfl)
theorem ai_xn_21_22 : ai_nc 0 96 = none := (id rfl)
theorem ai_x_21_53 : ai_xt 21 53 = some 3 := (id rfl)
theorem ai_xn_21_53 : ai_nc 0 96 = none := (id rfl)
theorem ai_x_23_20 : ai_xt 23 20 = some 3 := (id rfl)
theorem ai_xn_23_20 : ai_nc 0 96 = none := (id rfl)
theorem ai_x_24_23 : ai_xt 24 23 = some 3 := (id rfl)
theorem ai_xn_24_23 : ai_nc 0 96 = none := (id rfl)
theorem ai_x_24_41 : ai_xt 24 41 = some 3 := (id rfl)
theorem ai_xn_24_41 : ai_nc 0 96 = none := (id rfl)
theorem ai_x_27_9 : ai_xt 27 9 = some 1 := (id rfl)
theorem ai_xn_27_9 : ai_nc 0 294 = none := (id rfl)
theorem ai_x_28_11 : ai_xt 28 11 = some 1 := (id rfl)
theorem ai_xn_28_11 : ai_nc 0 294 = none := (id rfl)
theorem ai_x_29_10 : ai_xt 29 10 = some 1 := (id rfl)
theorem ai_xn_29_10 : ai_nc 0 294 = none := (id rfl)
theorem ai_x_30_9 : ai_xt 30 9 = some 1 := (id rfl)
theorem ai_xn_30_9 : ai_nc 0 294 = none := (id rfl)
theorem ai_x_31_12 : ai_xt 31 12 = some 1 := (id rfl)
theorem ai_xn_31_12 : ai_nc 0 294 = none := (id rfl)
theorem ai_x_32_12 : ai_xt 32 12 = some 2 := (id rfl)
theorem ai_xn_32_12 : ai_nc 0 307 = none := (id rfl)
theorem ai_x_33_9 : ai_xt 33 9 = some 3 := (id rfl)
theorem ai_xn_33_9 : ai_nc 0 96 = none := (id rfl)
theorem ai_x_34_25 : ai_xt 34 25 = some 3 := (id rfl)
theorem ai_xn_34_25 : ai_nc 0 96 = none := (id rfl)
theorem ai_x_35_56 : ai_xt 35 56 = some 3 := (id rfl)
theorem ai_xn_35_56 : ai_nc 0 96 = none := (id rfl)
theorem ai_x_36_6 : ai_xt 36 6 = some 3 := (id rfl)
theorem ai_xn_36_6 : ai_nc 0 96 = none := (id rfl)
