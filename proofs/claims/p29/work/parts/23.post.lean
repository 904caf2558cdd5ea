def ai_R0 : ai_R := fun t i k => match t with
  | 0 => if i < 1 then (match k with | 0 => some (1, i) | 2 => some (2, i) | 4 => some (3, i) | 5 => some (4, i) | 6 => some (7, i) | 7 => some (10, i) | 8 => some (11, i) | 9 => some (12, i) | 10 => some (13, i) | _ => none) else none
  | 1 => if i < 1 ∧ k < 40 then some (14, k) else none
  | 2 => if i < 1 ∧ k < 30 then some (19, k) else none
  | 3 => if i < 1 ∧ k < 3 then some (20, k) else none
  | 4 => if i < 1 then (match k with | 0 => some (5, i) | 1 => some (6, i) | _ => none) else none
  | 7 => if i < 1 then (match k with | 0 => some (8, i) | 1 => some (9, i) | _ => none) else none
  | 14 => if i < 40 then (match k with | 6 => some (15, i) | 7 => some (16, i) | 8 => some (17, i) | 9 => some (18, i) | _ => none) else none
  | 20 => if i < 3 then (match k with | 3 => some (21, i) | 4 => some (22, i) | _ => none) else none
  | _ => none
theorem ai_al_0 : ai_al 263 0 0 = true := (id rfl)
theorem ai_al_1 : ai_al 263 1 0 = true := (id rfl)
theorem ai_al_2 : ai_al 263 2 0 = true := (id rfl)
theorem ai_al_3 : ai_al 263 3 0 = true := (id rfl)
theorem ai_al_4 : ai_al 263 4 0 = true := (id rfl)
theorem ai_al_5 : ai_al 263 5 0 = true := (id rfl)
theorem ai_al_6 : ai_al 263 6 0 = true := (id rfl)
theorem ai_al_7 : ai_al 263 7 0 = true := (id rfl)
theorem ai_al_8 : ai_al 263 8 0 = true := (id rfl)
theorem ai_al_9 : ai_al 263 9 0 = true := (id rfl)
theorem ai_al_10 : ai_al 263 10 0 = true := (id rfl)
theorem ai_al_11 : ai_al 263 11 0 = true := (id rfl)
theorem ai_al_12 : ai_al 263 12 0 = true := (id rfl)
theorem ai_al_13 : ai_al 263 13 0 = true := (id rfl)
theorem ai_al_14 {i : Nat} (hi : i < 40) : ai_al 263 14 i = true := decide_eq_true ⟨by decide, hi, by show 14 + 5 * i < 263; omega⟩
theorem ai_al_15 {i : Nat} (hi : i < 40) : ai_al 263 15 i = true := decide_eq_true ⟨by decide, hi, by show 15 + 5 * i < 263; omega⟩
theorem ai_al_16 {i : Nat} (hi : i < 40) : ai_al 263 16 i = true := decide_eq_true ⟨by decide, hi, by show 16 + 5 * i < 263; omega⟩
theorem ai_al_17 {i : Nat} (hi : i < 40) : ai_al 263 17 i = true := decide_eq_true ⟨by decide, hi, by show 17 + 5 * i < 263; omega⟩
theorem ai_al_18 {i : Nat} (hi : i < 40) : ai_al 263 18 i = true := decide_eq_true ⟨by decide, hi, by show 18 + 5 * i < 263; omega⟩
theorem ai_al_19 {i : Nat} (hi : i < 30) : ai_al 263 19 i = true := decide_eq_true ⟨by decide, hi, by show 214 + 1 * i < 263; omega⟩
theorem ai_al_20 {i : Nat} (hi : i < 3) : ai_al 263 20 i = true := decide_eq_true ⟨by decide, hi, by show 244 + 3 * i < 263; omega⟩
theorem ai_al_21 {i : Nat} (hi : i < 3) : ai_al 263 21 i = true := decide_eq_true ⟨by decide, hi, by show 245 + 3 * i < 263; omega⟩
theorem ai_al_22 {i : Nat} (hi : i < 3) : ai_al 263 22 i = true := decide_eq_true ⟨by decide, hi, by show 246 + 3 * i < 263; omega⟩
theorem ai_al_23 : ai_al 263 23 0 = true := (id rfl)
theorem ai_al_24 : ai_al 263 24 0 = true := (id rfl)
theorem ai_al_25 : ai_al 263 25 0 = true := (id rfl)
theorem ai_al_26 : ai_al 263 26 0 = true := (id rfl)
theorem ai_al_27 : ai_al 263 27 0 = true := (id rfl)
theorem ai_al_28 : ai_al 263 28 0 = true := (id rfl)
theorem ai_al_29 : ai_al 263 29 0 = true := (id rfl)
theorem ai_al_30 : ai_al 263 30 0 = true := (id rfl)
theorem ai_al_31 : ai_al 263 31 0 = true := (id rfl)
theorem ai_al_32 : ai_al 263 32 0 = true := (id rfl)
theorem ai_g_0_11 (h : ai_H) : ai_gf 0 11 263 ai_R0 h 0 0 = some (ai_r 1 0) := ai_gf_ref (c := 0) (k := 0) rfl rfl ai_al_0 rfl
theorem ai_g_0_15 (R : ai_R) (h : ai_H) : ai_gf 0 15 263 R h 0 0 = some (ai_i (ai_gI h 0 0 1)) := ai_gf_of (c := 0) (k := 1) (f := 0) rfl rfl ai_al_0
theorem ai_g_0_21 (h : ai_H) : ai_gf 0 21 263 ai_R0 h 0 0 = some (ai_r 2 0) := ai_gf_ref (c := 0) (k := 2) rfl rfl ai_al_0 rfl
theorem ai_g_0_25 (R : ai_R) (h : ai_H) : ai_gf 0 25 263 R h 0 0 = some (ai_i (ai_gI h 0 0 3)) := ai_gf_of (c := 0) (k := 3) (f := 0) rfl rfl ai_al_0
theorem ai_g_0_30 (h : ai_H) : ai_gf 0 30 263 ai_R0 h 0 0 = some (ai_r 3 0) := ai_gf_ref (c := 0) (k := 4) rfl rfl ai_al_0 rfl
theorem ai_g_0_37 (h : ai_H) : ai_gf 0 37 263 ai_R0 h 0 0 = some (ai_r 4 0) := ai_gf_ref (c := 0) (k := 5) rfl rfl ai_al_0 rfl
theorem ai_g_0_44 (h : ai_H) : ai_gf 0 44 263 ai_R0 h 0 0 = some (ai_r 7 0) := ai_gf_ref (c := 0) (k := 6) rfl rfl ai_al_0 rfl
theorem ai_g_0_48 (h : ai_H) : ai_gf 0 48 263 ai_R0 h 0 0 = some (ai_r 10 0) := ai_gf_ref (c := 0) (k := 7) rfl rfl ai_al_0 rfl
theorem ai_g_0_52 (h : ai_H) : ai_gf 0 52 263 ai_R0 h 0 0 = some (ai_r 11 0) := ai_gf_ref (c := 0) (k := 8) rfl rfl ai_al_0 rfl
theorem ai_g_0_55 (h : ai_H) : ai_gf 0 55 263 ai_R0 h 0 0 = some (ai_r 12 0) := ai_gf_ref (c := 0) (k := 9) rfl rfl ai_al_0 rfl
theorem ai_g_0_59 (h : ai_H) : ai_gf 0 59 263 ai_R0 h 0 0 = some (ai_r 13 0) := ai_gf_ref (c := 0) (k := 10) rfl rfl ai_al_0 rfl
theorem ai_g_0_62 (R : ai_R) (h : ai_H) : ai_gf 0 62 263 R h 0 0 = some (ai_i (ai_gI h 0 0 11)) := ai_gf_of (c := 0) (k := 11) (f := 0) rfl rfl ai_al_0
theorem ai_g_0_65 (R : ai_R) (h : ai_H) : ai_gf 0 65 263 R h 0 0 = some (ai_i (ai_gI h 0 0 12)) := ai_gf_of (c := 0) (k := 12) (f := 0) rfl rfl ai_al_0
theorem ai_g_0_68 (R : ai_R) (h : ai_H) : ai_gf 0 68 263 R h 0 0 = some (ai_i (ai_gI h 0 0 13)) := ai_gf_of (c := 0) (k := 13) (f := 0) rfl rfl ai_al_0
theorem ai_g_0_71 (R : ai_R) (h : ai_H) : ai_gf 0 71 263 R h 0 0 = some (ai_j (ai_gJ h 0 0 14)) := ai_gf_of (c := 0) (k := 14) (f := 1) rfl rfl ai_al_0
theorem ai_g_0_75 (R : ai_R) (h : ai_H) : ai_gf 0 75 263 R h 0 0 = some (ai_j (ai_gJ h 0 0 15)) := ai_gf_of (c := 0) (k := 15) (f := 1) rfl rfl ai_al_0
theorem ai_g_0_113 (R : ai_R) (h : ai_H) {i : Nat} (hi : i < 40) : ai_gf 0 113 263 R h 14 i = some (ai_i (ai_gI h 14 i 3)) := ai_gf_of (c := 1) (k := 3) (f := 0) rfl rfl (ai_al_14 hi)
theorem ai_g_0_120 (R : ai_R) (h : ai_H) {i : Nat} (hi : i < 40) : ai_gf 0 120 263 R h 14 i = some (ai_i (ai_gI h 14 i 5)) := ai_gf_of (c := 1) (k := 5) (f := 3) rfl rfl (ai_al_14 hi)
theorem ai_g_0_127 (h : ai_H) {i : Nat} (hi : i < 40) : ai_gf 0 127 263 ai_R0 h 14 i = some (ai_r 15 i) := ai_gf_ref (c := 1) (k := 6) rfl rfl (ai_al_14 hi) (if_pos hi)
theorem ai_g_0_134 (R : ai_R) (h : ai_H) {i : Nat} (hi : i < 40) : ai_gf 0 134 263 R h 14 i = some (ai_i (ai_gI h 14 i 0)) := ai_gf_of (c := 1) (k := 0) (f := 0) rfl rfl (ai_al_14 hi)
theorem ai_g_0_137 (h : ai_H) {i : Nat} (hi : i < 40) : ai_gf 0 137 263 ai_R0 h 14 i = some (ai_r 16 i) := ai_gf_ref (c := 1) (k := 7) rfl rfl (ai_al_14 hi) (if_pos hi)
theorem ai_g_0_141 (h : ai_H) {i : Nat} (hi : i < 40) : ai_gf 0 141 263 ai_R0 h 14 i = some (ai_r 17 i) := ai_gf_ref (c := 1) (k := 8) rfl rfl (ai_al_14 hi) (if_pos hi)
theorem ai_g_0_155 (h : ai_H) {i : Nat} (hi : i < 40) : ai_gf 0 155 263 ai_R0 h 14 i = some (ai_r 18 i) := ai_gf_ref (c := 1) (k := 9) rfl rfl (ai_al_14 hi) (if_pos hi)
theorem ai_g_0_166 (R : ai_R) (h : ai_H) {i : Nat} (hi : i < 40) : ai_gf 0 166 263 R h 14 i = some (ai_i (ai_gI h 14 i 4)) := ai_gf_of (c := 1) (k := 4) (f := 0) rfl rfl (ai_al_14 hi)
theorem ai_g_0_173 (R : ai_R) (h : ai_H) {i : Nat} (hi : i < 40) : ai_gf 0 173 263 R h 14 i = some (ai_i (ai_gI h 14 i 2)) := ai_gf_of (c := 1) (k := 2) (f := 0) rfl rfl (ai_al_14 hi)
theorem ai_g_0_198 (R : ai_R) (h : ai_H) {i : Nat} (hi : i < 40) : ai_gf 0 198 263 R h 14 i = some (ai_i (ai_gI h 14 i 1)) := ai_gf_of (c := 1) (k := 1) (f := 0) rfl rfl (ai_al_14 hi)
theorem ai_g_0_208 (R : ai_R) (h : ai_H) : ai_gf 0 208 263 R h 7 0 = some (ai_i (ai_gI h 7 0 2)) := ai_gf_of (c := 4) (k := 2) (f := 0) rfl rfl ai_al_7
theorem ai_g_0_211 (R : ai_R) (h : ai_H) {i : Nat} (hi : i < 30) : ai_gf 0 211 263 R h 19 i = some (ai_i (ai_gI h 19 i 3)) := ai_gf_of (c := 5) (k := 3) (f := 3) rfl rfl (ai_al_19 hi)
theorem ai_g_0_214 (R : ai_R) (h : ai_H) {i : Nat} (hi : i < 30) : ai_gf 0 214 263 R h 19 i = some (ai_i (ai_gI h 19 i 1)) := ai_gf_of (c := 5) (k := 1) (f := 0) rfl rfl (ai_al_19 hi)
theorem ai_g_0_217 (R : ai_R) (h : ai_H) {i : Nat} (hi : i < 30) : ai_gf 0 217 263 R h 19 i = some (ai_i (ai_gI h 19 i 2)) := ai_gf_of (c := 5) (k := 2) (f := 0) rfl rfl (ai_al_19 hi)
theorem ai_g_0_228 (R : ai_R) (h : ai_H) {i : Nat} (hi : i < 3) : ai_gf 0 228 263 R h 20 i = some (ai_i (ai_gI h 20 i 0)) := ai_gf_of (c := 2) (k := 0) (f := 0) rfl rfl (ai_al_20 hi)
theorem ai_g_0_231 (R : ai_R) (h : ai_H) {i : Nat} (hi : i < 3) : ai_gf 0 231 263 R h 20 i = some (ai_i (ai_gI h 20 i 1)) := ai_gf_of (c := 2) (k := 1) (f := 0) rfl rfl (ai_al_20 hi)
theorem ai_g_0_239 (h : ai_H) {i : Nat} (hi : i < 3) : ai_gf 0 239 263 ai_R0 h 20 i = some (ai_r 21 i) := ai_gf_ref (c := 2) (k := 3) rfl rfl (ai_al_20 hi) (if_pos hi)
theorem ai_g_0_246 (h : ai_H) {i : Nat} (hi : i < 3) : ai_gf 0 246 263 ai_R0 h 20 i = some (ai_r 22 i) := ai_gf_ref (c := 2) (k := 4) rfl rfl (ai_al_20 hi) (if_pos hi)
theorem ai_g_0_272 (R : ai_R) (h : ai_H) {i : Nat} (hi : i < 40) : ai_gf 0 272 263 R h 14 i = some (ai_i (ai_gI h 14 i 10)) := ai_gf_of (c := 1) (k := 10) (f := 3) rfl rfl (ai_al_14 hi)
theorem ai_g_0_277 (R : ai_R) (h : ai_H) {i : Nat} (hi : i < 40) : ai_gf 0 277 263 R h 14 i = some (ai_i (ai_gI h 14 i 11)) := ai_gf_of (c := 1) (k := 11) (f := 3) rfl rfl (ai_al_14 hi)
theorem ai_g_0_280 (R : ai_R) (h : ai_H) {i : Nat} (hi : i < 40) : ai_gf 0 280 263 R h 14 i = some (ai_i (ai_gI h 14 i 12)) := ai_gf_of (c := 1) (k := 12) (f := 0) rfl rfl (ai_al_14 hi)
theorem ai_g_0_283 (R : ai_R) (h : ai_H) {i : Nat} (hi : i < 40) : ai_gf 0 283 263 R h 14 i = some (ai_i (ai_gI h 14 i 13)) := ai_gf_of (c := 1) (k := 13) (f := 0) rfl rfl (ai_al_14 hi)
theorem ai_g_0_316 (h : ai_H) : ai_gf 0 316 263 ai_R0 h 7 0 = some (ai_r 8 0) := ai_gf_ref (c := 4) (k := 0) rfl rfl ai_al_7 rfl
theorem ai_g_0_333 (h : ai_H) : ai_gf 0 333 263 ai_R0 h 7 0 = some (ai_r 9 0) := ai_gf_ref (c := 4) (k := 1) rfl rfl ai_al_7 rfl
theorem ai_g_0_343 (R : ai_R) (h : ai_H) {i : Nat} (hi : i < 30) : ai_gf 0 343 263 R h 19 i = some (ai_i (ai_gI h 19 i 0)) := ai_gf_of (c := 5) (k := 0) (f := 0) rfl rfl (ai_al_19 hi)
theorem ai_g_1_9 (R : ai_R) (h : ai_H) {i : Nat} (hi : i < 40) : ai_gf 1 9 263 R h 14 i = some (ai_i (ai_gI h 14 i 0)) := ai_gf_of (c := 1) (k := 0) (f := 0) rfl rfl (ai_al_14 hi)
theorem ai_g_1_35 (h : ai_H) {i : Nat} (hi : i < 40) : ai_gf 1 35 263 ai_R0 h 14 i = some (ai_r 16 i) := ai_gf_ref (c := 1) (k := 7) rfl rfl (ai_al_14 hi) (if_pos hi)
theorem ai_g_1_39 (h : ai_H) {i : Nat} (hi : i < 40) : ai_gf 1 39 263 ai_R0 h 14 i = some (ai_r 17 i) := ai_gf_ref (c := 1) (k := 8) rfl rfl (ai_al_14 hi) (if_pos hi)
theorem ai_g_1_42 (h : ai_H) {i : Nat} (hi : i < 40) : ai_gf 1 42 263 ai_R0 h 14 i = some (ai_r 18 i) := ai_gf_ref (c := 1) (k := 9) rfl rfl (ai_al_14 hi) (if_pos hi)
theorem ai_g_2_18 (R : ai_R) (h : ai_H) {i : Nat} (hi : i < 3) : ai_gf 2 18 263 R h 20 i = some (ai_i (ai_gI h 20 i 2)) := ai_gf_of (c := 2) (k := 2) (f := 0) rfl rfl (ai_al_20 hi)
theorem ai_g_2_25 (h : ai_H) {i : Nat} (hi : i < 3) : ai_gf 2 25 263 ai_R0 h 20 i = some (ai_r 22 i) := ai_gf_ref (c := 2) (k := 4) rfl rfl (ai_al_20 hi) (if_pos hi)
theorem ai_g_3_11 (h : ai_H) : ai_gf 3 11 263 ai_R0 h 4 0 = some (ai_r 5 0) := ai_gf_ref (c := 3) (k := 0) rfl rfl ai_al_4 rfl
theorem ai_g_3_15 (h : ai_H) : ai_gf 3 15 263 ai_R0 h 4 0 = some (ai_r 6 0) := ai_gf_ref (c := 3) (k := 1) rfl rfl ai_al_4 rfl
theorem ai_g_3_18 (R : ai_R) (h : ai_H) : ai_gf 3 18 263 R h 4 0 = some (ai_i (ai_gI h 4 0 2)) := ai_gf_of (c := 3) (k := 2) (f := 0) rfl rfl ai_al_4
theorem ai_g_4_9 (h : ai_H) : ai_gf 4 9 263 ai_R0 h 7 0 = some (ai_r 8 0) := ai_gf_ref (c := 4) (k := 0) rfl rfl ai_al_7 rfl
theorem ai_g_4_15 (h : ai_H) : ai_gf 4 15 263 ai_R0 h 7 0 = some (ai_r 9 0) := ai_gf_ref (c := 4) (k := 1) rfl rfl ai_al_7 rfl
theorem ai_g_4_18 (R : ai_R) (h : ai_H) : ai_gf 4 18 263 R h 7 0 = some (ai_i (ai_gI h 7 0 2)) := ai_gf_of (c := 4) (k := 2) (f := 0) rfl rfl ai_al_7
theorem ai_p_0_15 (R : ai_R) (h : ai_H) (x : Int32) : ai_pf 0 15 263 R h 0 0 (ai_i x) = some (R, ai_wI h 0 0 1 x) := ai_pf_of (c := 0) (k := 1) (f := 0) rfl rfl ai_al_0
theorem ai_p_0_25 (R : ai_R) (h : ai_H) (x : Int32) : ai_pf 0 25 263 R h 0 0 (ai_i x) = some (R, ai_wI h 0 0 3 x) := ai_pf_of (c := 0) (k := 3) (f := 0) rfl rfl ai_al_0
theorem ai_p_0_62 (R : ai_R) (h : ai_H) (x : Int32) : ai_pf 0 62 263 R h 0 0 (ai_i x) = some (R, ai_wI h 0 0 11 x) := ai_pf_of (c := 0) (k := 11) (f := 0) rfl rfl ai_al_0
theorem ai_p_0_65 (R : ai_R) (h : ai_H) (x : Int32) : ai_pf 0 65 263 R h 0 0 (ai_i x) = some (R, ai_wI h 0 0 12 x) := ai_pf_of (c := 0) (k := 12) (f := 0) rfl rfl ai_al_0
theorem ai_p_0_68 (R : ai_R) (h : ai_H) (x : Int32) : ai_pf 0 68 263 R h 0 0 (ai_i x) = some (R, ai_wI h 0 0 13 x) := ai_pf_of (c := 0) (k := 13) (f := 0) rfl rfl ai_al_0
theorem ai_p_0_71 (R : ai_R) (h : ai_H) (x : Int64) : ai_pf 0 71 263 R h 0 0 (ai_j x) = some (R, ai_wJ h 0 0 14 x) := ai_pf_of (c := 0) (k := 14) (f := 1) rfl rfl ai_al_0
theorem ai_p_0_75 (R : ai_R) (h : ai_H) (x : Int64) : ai_pf 0 75 263 R h 0 0 (ai_j x) = some (R, ai_wJ h 0 0 15 x) := ai_pf_of (c := 0) (k := 15) (f := 1) rfl rfl ai_al_0
theorem ai_p_1_15 (R : ai_R) (h : ai_H) (x : Int32) : ai_pf 1 15 263 R h 0 0 (ai_i x) = some (R, ai_wI h 0 0 1 x) := ai_pf_of (c := 0) (k := 1) (f := 0) rfl rfl ai_al_0
theorem ai_p_3_120 (R : ai_R) (h : ai_H) (x : Int32) (hx : x = 0 ∨ x = 1) {i : Nat} (hi : i < 40) : ai_pf 3 120 263 R h 14 i (ai_i x) = some (R, ai_wI h 14 i 5 x) := (ai_pf_of (c := 1) (k := 5) (f := 3) rfl rfl (ai_al_14 hi)).trans (if_pos hx)
theorem ai_p_4_65 (R : ai_R) (h : ai_H) (x : Int32) : ai_pf 4 65 263 R h 0 0 (ai_i x) = some (R, ai_wI h 0 0 12 x) := ai_pf_of (c := 0) (k := 12) (f := 0) rfl rfl ai_al_0
theorem ai_p_16_228 (R : ai_R) (h : ai_H) (x : Int32) {i : Nat} (hi : i < 3) : ai_pf 16 228 263 R h 20 i (ai_i x) = some (R, ai_wI h 20 i 0 x) := ai_pf_of (c := 2) (k := 0) (f := 0) rfl rfl (ai_al_20 hi)
theorem ai_p_16_231 (R : ai_R) (h : ai_H) (x : Int32) {i : Nat} (hi : i < 3) : ai_pf 16 231 263 R h 20 i (ai_i x) = some (R, ai_wI h 20 i 1 x) := ai_pf_of (c := 2) (k := 1) (f := 0) rfl rfl (ai_al_20 hi)
theorem ai_p_16_234 (R : ai_R) (h : ai_H) (x : Int32) {i : Nat} (hi : i < 3) : ai_pf 16 234 263 R h 20 i (ai_i x) = some (R, ai_wI h 20 i 2 x) := ai_pf_of (c := 2) (k := 2) (f := 0) rfl rfl (ai_al_20 hi)
theorem ai_p_23_62 (R : ai_R) (h : ai_H) (x : Int32) : ai_pf 23 62 263 R h 0 0 (ai_i x) = some (R, ai_wI h 0 0 11 x) := ai_pf_of (c := 0) (k := 11) (f := 0) rfl rfl ai_al_0
theorem ai_p_24_68 (R : ai_R) (h : ai_H) (x : Int32) : ai_pf 24 68 263 R h 0 0 (ai_i x) = some (R, ai_wI h 0 0 13 x) := ai_pf_of (c := 0) (k := 13) (f := 0) rfl rfl ai_al_0
theorem ai_p_24_71 (R : ai_R) (h : ai_H) (x : Int64) : ai_pf 24 71 263 R h 0 0 (ai_j x) = some (R, ai_wJ h 0 0 14 x) := ai_pf_of (c := 0) (k := 14) (f := 1) rfl rfl ai_al_0
theorem ai_p_24_272 (R : ai_R) (h : ai_H) (x : Int32) (hx : x = 0 ∨ x = 1) {i : Nat} (hi : i < 40) : ai_pf 24 272 263 R h 14 i (ai_i x) = some (R, ai_wI h 14 i 10 x) := (ai_pf_of (c := 1) (k := 10) (f := 3) rfl rfl (ai_al_14 hi)).trans (if_pos hx)
theorem ai_p_24_277 (R : ai_R) (h : ai_H) (x : Int32) (hx : x = 0 ∨ x = 1) {i : Nat} (hi : i < 40) : ai_pf 24 277 263 R h 14 i (ai_i x) = some (R, ai_wI h 14 i 11 x) := (ai_pf_of (c := 1) (k := 11) (f := 3) rfl rfl (ai_al_14 hi)).trans (if_pos hx)
theorem ai_p_24_280 (R : ai_R) (h : ai_H) (x : Int32) {i : Nat} (hi : i < 40) : ai_pf 24 280 263 R h 14 i (ai_i x) = some (R, ai_wI h 14 i 12 x) := ai_pf_of (c := 1) (k := 12) (f := 0) rfl rfl (ai_al_14 hi)
theorem ai_p_24_283 (R : ai_R) (h : ai_H) (x : Int32) {i : Nat} (hi : i < 40) : ai_pf 24 283 263 R h 14 i (ai_i x) = some (R, ai_wI h 14 i 13 x) := ai_pf_of (c := 1) (k := 13) (f := 0) rfl rfl (ai_al_14 hi)
theorem ai_p_36_65 (R : ai_R) (h : ai_H) (x : Int32) : ai_pf 36 65 263 R h 0 0 (ai_i x) = some (R, ai_wI h 0 0 12 x) := ai_pf_of (c := 0) (k := 12) (f := 0) rfl rfl ai_al_0
theorem ai_p_42_25 (R : ai_R) (h : ai_H) (x : Int32) : ai_pf 42 25 263 R h 0 0 (ai_i x) = some (R, ai_wI h 0 0 3 x) := ai_pf_of (c := 0) (k := 3) (f := 0) rfl rfl ai_al_0
theorem ai_p_43_211 (R : ai_R) (h : ai_H) (x : Int32) (hx : x = 0 ∨ x = 1) {i : Nat} (hi : i < 30) : ai_pf 43 211 263 R h 19 i (ai_i x) = some (R, ai_wI h 19 i 3 x) := (ai_pf_of (c := 5) (k := 3) (f := 3) rfl rfl (ai_al_19 hi)).trans (if_pos hx)
theorem ai_p_45_113 (R : ai_R) (h : ai_H) (x : Int32) {i : Nat} (hi : i < 40) : ai_pf 45 113 263 R h 14 i (ai_i x) = some (R, ai_wI h 14 i 3 x) := ai_pf_of (c := 1) (k := 3) (f := 0) rfl rfl (ai_al_14 hi)
theorem ai_p_54_68 (R : ai_R) (h : ai_H) (x : Int32) : ai_pf 54 68 263 R h 0 0 (ai_i x) = some (R, ai_wI h 0 0 13 x) := ai_pf_of (c := 0) (k := 13) (f := 0) rfl rfl ai_al_0
theorem ai_p_54_75 (R : ai_R) (h : ai_H) (x : Int64) : ai_pf 54 75 263 R h 0 0 (ai_j x) = some (R, ai_wJ h 0 0 15 x) := ai_pf_of (c := 0) (k := 15) (f := 1) rfl rfl ai_al_0
theorem ai_p_54_277 (R : ai_R) (h : ai_H) (x : Int32) (hx : x = 0 ∨ x = 1) {i : Nat} (hi : i < 40) : ai_pf 54 277 263 R h 14 i (ai_i x) = some (R, ai_wI h 14 i 11 x) := (ai_pf_of (c := 1) (k := 11) (f := 3) rfl rfl (ai_al_14 hi)).trans (if_pos hx)
theorem ai_p_100_9 (R : ai_R) (h : ai_H) (x : Int32) {i : Nat} (hi : i < 40) : ai_pf 100 9 263 R h 14 i (ai_i x) = some (R, ai_wI h 14 i 0 x) := ai_pf_of (c := 1) (k := 0) (f := 0) rfl rfl (ai_al_14 hi)
theorem ai_p_100_15 (R : ai_R) (h : ai_H) (x : Int32) {i : Nat} (hi : i < 40) : ai_pf 100 15 263 R h 14 i (ai_i x) = some (R, ai_wI h 14 i 1 x) := ai_pf_of (c := 1) (k := 1) (f := 0) rfl rfl (ai_al_14 hi)
theorem ai_p_100_18 (R : ai_R) (h : ai_H) (x : Int32) {i : Nat} (hi : i < 40) : ai_pf 100 18 263 R h 14 i (ai_i x) = some (R, ai_wI h 14 i 2 x) := ai_pf_of (c := 1) (k := 2) (f := 0) rfl rfl (ai_al_14 hi)
theorem ai_p_100_21 (R : ai_R) (h : ai_H) (x : Int32) {i : Nat} (hi : i < 40) : ai_pf 100 21 263 R h 14 i (ai_i x) = some (R, ai_wI h 14 i 3 x) := ai_pf_of (c := 1) (k := 3) (f := 0) rfl rfl (ai_al_14 hi)
theorem ai_p_100_24 (R : ai_R) (h : ai_H) (x : Int32) {i : Nat} (hi : i < 40) : ai_pf 100 24 263 R h 14 i (ai_i x) = some (R, ai_wI h 14 i 4 x) := ai_pf_of (c := 1) (k := 4) (f := 0) rfl rfl (ai_al_14 hi)
theorem ai_p_100_27 (R : ai_R) (h : ai_H) (x : Int32) (hx : x = 0 ∨ x = 1) {i : Nat} (hi : i < 40) : ai_pf 100 27 263 R h 14 i (ai_i x) = some (R, ai_wI h 14 i 5 x) := (ai_pf_of (c := 1) (k := 5) (f := 3) rfl rfl (ai_al_14 hi)).trans (if_pos hx)
theorem ai_p_100_45 (R : ai_R) (h : ai_H) (x : Int32) (hx : x = 0 ∨ x = 1) {i : Nat} (hi : i < 40) : ai_pf 100 45 263 R h 14 i (ai_i x) = some (R, ai_wI h 14 i 10 x) := (ai_pf_of (c := 1) (k := 10) (f := 3) rfl rfl (ai_al_14 hi)).trans (if_pos hx)
theorem ai_p_100_48 (R : ai_R) (h : ai_H) (x : Int32) (hx : x = 0 ∨ x = 1) {i : Nat} (hi : i < 40) : ai_pf 100 48 263 R h 14 i (ai_i x) = some (R, ai_wI h 14 i 11 x) := (ai_pf_of (c := 1) (k := 11) (f := 3) rfl rfl (ai_al_14 hi)).trans (if_pos hx)
theorem ai_p_100_51 (R : ai_R) (h : ai_H) (x : Int32) {i : Nat} (hi : i < 40) : ai_pf 100 51 263 R h 14 i (ai_i x) = some (R, ai_wI h 14 i 12 x) := ai_pf_of (c := 1) (k := 12) (f := 0) rfl rfl (ai_al_14 hi)
theorem ai_p_100_54 (R : ai_R) (h : ai_H) (x : Int32) {i : Nat} (hi : i < 40) : ai_pf 100 54 263 R h 14 i (ai_i x) = some (R, ai_wI h 14 i 13 x) := ai_pf_of (c := 1) (k := 13) (f := 0) rfl rfl (ai_al_14 hi)
theorem ai_p_101_9 (R : ai_R) (h : ai_H) (x : Int32) {i : Nat} (hi : i < 40) : ai_pf 101 9 263 R h 14 i (ai_i x) = some (R, ai_wI h 14 i 0 x) := ai_pf_of (c := 1) (k := 0) (f := 0) rfl rfl (ai_al_14 hi)
theorem ai_p_101_15 (R : ai_R) (h : ai_H) (x : Int32) {i : Nat} (hi : i < 40) : ai_pf 101 15 263 R h 14 i (ai_i x) = some (R, ai_wI h 14 i 1 x) := ai_pf_of (c := 1) (k := 1) (f := 0) rfl rfl (ai_al_14 hi)
theorem ai_p_101_18 (R : ai_R) (h : ai_H) (x : Int32) {i : Nat} (hi : i < 40) : ai_pf 101 18 263 R h 14 i (ai_i x) = some (R, ai_wI h 14 i 2 x) := ai_pf_of (c := 1) (k := 2) (f := 0) rfl rfl (ai_al_14 hi)
theorem ai_p_101_21 (R : ai_R) (h : ai_H) (x : Int32) {i : Nat} (hi : i < 40) : ai_pf 101 21 263 R h 14 i (ai_i x) = some (R, ai_wI h 14 i 3 x) := ai_pf_of (c := 1) (k := 3) (f := 0) rfl rfl (ai_al_14 hi)
theorem ai_p_101_24 (R : ai_R) (h : ai_H) (x : Int32) {i : Nat} (hi : i < 40) : ai_pf 101 24 263 R h 14 i (ai_i x) = some (R, ai_wI h 14 i 4 x) := ai_pf_of (c := 1) (k := 4) (f := 0) rfl rfl (ai_al_14 hi)
theorem ai_p_200_9 (R : ai_R) (h : ai_H) (x : Int32) {i : Nat} (hi : i < 3) : ai_pf 200 9 263 R h 20 i (ai_i x) = some (R, ai_wI h 20 i 0 x) := ai_pf_of (c := 2) (k := 0) (f := 0) rfl rfl (ai_al_20 hi)
theorem ai_p_200_15 (R : ai_R) (h : ai_H) (x : Int32) {i : Nat} (hi : i < 3) : ai_pf 200 15 263 R h 20 i (ai_i x) = some (R, ai_wI h 20 i 1 x) := ai_pf_of (c := 2) (k := 1) (f := 0) rfl rfl (ai_al_20 hi)
theorem ai_p_200_18 (R : ai_R) (h : ai_H) (x : Int32) {i : Nat} (hi : i < 3) : ai_pf 200 18 263 R h 20 i (ai_i x) = some (R, ai_wI h 20 i 2 x) := ai_pf_of (c := 2) (k := 2) (f := 0) rfl rfl (ai_al_20 hi)
theorem ai_p_300_18 (R : ai_R) (h : ai_H) (x : Int32) : ai_pf 300 18 263 R h 4 0 (ai_i x) = some (R, ai_wI h 4 0 2 x) := ai_pf_of (c := 3) (k := 2) (f := 0) rfl rfl ai_al_4
theorem ai_p_301_18 (R : ai_R) (h : ai_H) (x : Int32) : ai_pf 301 18 263 R h 4 0 (ai_i x) = some (R, ai_wI h 4 0 2 x) := ai_pf_of (c := 3) (k := 2) (f := 0) rfl rfl ai_al_4
theorem ai_p_400_18 (R : ai_R) (h : ai_H) (x : Int32) : ai_pf 400 18 263 R h 7 0 (ai_i x) = some (R, ai_wI h 7 0 2 x) := ai_pf_of (c := 4) (k := 2) (f := 0) rfl rfl ai_al_7
theorem ai_p_401_18 (R : ai_R) (h : ai_H) (x : Int32) : ai_pf 401 18 263 R h 7 0 (ai_i x) = some (R, ai_wI h 7 0 2 x) := ai_pf_of (c := 4) (k := 2) (f := 0) rfl rfl ai_al_7
theorem ai_p_402_18 (R : ai_R) (h : ai_H) (x : Int32) : ai_pf 402 18 263 R h 7 0 (ai_i x) = some (R, ai_wI h 7 0 2 x) := ai_pf_of (c := 4) (k := 2) (f := 0) rfl rfl ai_al_7
theorem ai_p_500_7 (R : ai_R) (h : ai_H) (x : Int32) {i : Nat} (hi : i < 30) : ai_pf 500 7 263 R h 19 i (ai_i x) = some (R, ai_wI h 19 i 0 x) := ai_pf_of (c := 5) (k := 0) (f := 0) rfl rfl (ai_al_19 hi)
theorem ai_p_500_13 (R : ai_R) (h : ai_H) (x : Int32) {i : Nat} (hi : i < 30) : ai_pf 500 13 263 R h 19 i (ai_i x) = some (R, ai_wI h 19 i 1 x) := ai_pf_of (c := 5) (k := 1) (f := 0) rfl rfl (ai_al_19 hi)
theorem ai_p_500_16 (R : ai_R) (h : ai_H) (x : Int32) {i : Nat} (hi : i < 30) : ai_pf 500 16 263 R h 19 i (ai_i x) = some (R, ai_wI h 19 i 2 x) := ai_pf_of (c := 5) (k := 2) (f := 0) rfl rfl (ai_al_19 hi)
theorem ai_p_500_19 (R : ai_R) (h : ai_H) (x : Int32) (hx : x = 0 ∨ x = 1) {i : Nat} (hi : i < 30) : ai_pf 500 19 263 R h 19 i (ai_i x) = some (R, ai_wI h 19 i 3 x) := (ai_pf_of (c := 5) (k := 3) (f := 3) rfl rfl (ai_al_19 hi)).trans (if_pos hx)
theorem ai_p_501_7 (R : ai_R) (h : ai_H) (x : Int32) {i : Nat} (hi : i < 30) : ai_pf 501 7 263 R h 19 i (ai_i x) = some (R, ai_wI h 19 i 0 x) := ai_pf_of (c := 5) (k := 0) (f := 0) rfl rfl (ai_al_19 hi)
theorem ai_p_501_13 (R : ai_R) (h : ai_H) (x : Int32) {i : Nat} (hi : i < 30) : ai_pf 501 13 263 R h 19 i (ai_i x) = some (R, ai_wI h 19 i 1 x) := ai_pf_of (c := 5) (k := 1) (f := 0) rfl rfl (ai_al_19 hi)
theorem ai_p_501_16 (R : ai_R) (h : ai_H) (x : Int32) {i : Nat} (hi : i < 30) : ai_pf 501 16 263 R h 19 i (ai_i x) = some (R, ai_wI h 19 i 2 x) := ai_pf_of (c := 5) (k := 2) (f := 0) rfl rfl (ai_al_19 hi)
theorem ai_a_1 (x : Int32) : ai_ald ((ai_kr 1).map fun r => r.2) 263 1 0 x = ai_ix x 40 := ai_ald_of rfl ai_al_1
theorem ai_R0_1 {j : Nat} (hj : j < 40) : ai_R0 1 0 j = some (14, j) := if_pos ⟨Nat.zero_lt_one, hj⟩
theorem ai_a_2 (x : Int32) : ai_ald ((ai_kr 2).map fun r => r.2) 263 2 0 x = ai_ix x 30 := ai_ald_of rfl ai_al_2
theorem ai_R0_2 {j : Nat} (hj : j < 30) : ai_R0 2 0 j = some (19, j) := if_pos ⟨Nat.zero_lt_one, hj⟩
theorem ai_a_3 (x : Int32) : ai_ald ((ai_kr 3).map fun r => r.2) 263 3 0 x = ai_ix x 3 := ai_ald_of rfl ai_al_3
theorem ai_R0_3 {j : Nat} (hj : j < 3) : ai_R0 3 0 j = some (20, j) := if_pos ⟨Nat.zero_lt_one, hj⟩
theorem ai_a_5 (h : ai_H) (x : Int32) : ai_is 263 h 5 0 x = ai_ix x 582 := (if_neg (by decide)).trans (ai_ald_of rfl ai_al_5)
theorem ai_il_5 (L : Nat) (h : ai_H) (x : Int32) : ai_il 263 L h 5 0 x = (ai_ix x 582).map fun j => ai_gI h 5 0 j := (if_neg (by decide)).trans (by rw [ai_a_5])
theorem ai_a_6 (h : ai_H) (x : Int32) : ai_is 263 h 6 0 x = ai_ix x 582 := (if_neg (by decide)).trans (ai_ald_of rfl ai_al_6)
theorem ai_il_6 (L : Nat) (h : ai_H) (x : Int32) : ai_il 263 L h 6 0 x = (ai_ix x 582).map fun j => ai_gI h 6 0 j := (if_neg (by decide)).trans (by rw [ai_a_6])
theorem ai_a_8 (h : ai_H) (x : Int32) : ai_is 263 h 8 0 x = ai_ix x 40 := (if_neg (by decide)).trans (ai_ald_of rfl ai_al_8)
theorem ai_il_8 (L : Nat) (h : ai_H) (x : Int32) : ai_il 263 L h 8 0 x = (ai_ix x 40).map fun j => ai_gI h 8 0 j := (if_neg (by decide)).trans (by rw [ai_a_8])
theorem ai_a_9 (h : ai_H) (x : Int32) : ai_is 263 h 9 0 x = ai_ix x 40 := (if_neg (by decide)).trans (ai_ald_of rfl ai_al_9)
theorem ai_il_9 (L : Nat) (h : ai_H) (x : Int32) : ai_il 263 L h 9 0 x = (ai_ix x 40).map fun j => ai_gI h 9 0 j := (if_neg (by decide)).trans (by rw [ai_a_9])
theorem ai_a_10 (h : ai_H) (x : Int32) : ai_js 263 h 10 0 x = ai_ix x 7 := (if_neg (by decide)).trans (ai_ald_of rfl ai_al_10)
theorem ai_a_11 (h : ai_H) (x : Int32) : ai_js 263 h 11 0 x = ai_ix x 5 := (if_neg (by decide)).trans (ai_ald_of rfl ai_al_11)
theorem ai_a_12 (x : Int32) : ai_ald (ai_kz 12) 263 12 0 x = ai_ix x 4 := ai_ald_of rfl ai_al_12
theorem ai_a_13 (h : ai_H) (x : Int32) : ai_js 263 h 13 0 x = ai_ix x 5 := (if_neg (by decide)).trans (ai_ald_of rfl ai_al_13)
theorem ai_a_15 (x : Int32) {i : Nat} (hi : i < 40) : ai_ald (ai_kz 15) 263 15 i x = ai_ix x 3 := ai_ald_of rfl (ai_al_15 hi)
theorem ai_a_16 (h : ai_H) (x : Int32) {i : Nat} (hi : i < 40) : ai_is 263 h 16 i x = ai_ix x 3 := (if_neg (by decide)).trans (ai_ald_of rfl (ai_al_16 hi))
theorem ai_il_16 (L : Nat) (h : ai_H) (x : Int32) {i : Nat} (hi : i < 40) : ai_il 263 L h 16 i x = (ai_ix x 3).map fun j => ai_gI h 16 i j := (if_neg (by decide)).trans (by rw [ai_a_16 h x hi])
theorem ai_le_16 (L : Nat) {i : Nat} (hi : i < 40) : ai_len 263 L 16 i = some 3 := ai_len_of rfl (ai_al_16 hi) (by decide)
theorem ai_a_17 (h : ai_H) (x : Int32) {i : Nat} (hi : i < 40) : ai_is 263 h 17 i x = ai_ix x 3 := (if_neg (by decide)).trans (ai_ald_of rfl (ai_al_17 hi))
theorem ai_il_17 (L : Nat) (h : ai_H) (x : Int32) {i : Nat} (hi : i < 40) : ai_il 263 L h 17 i x = (ai_ix x 3).map fun j => ai_gI h 17 i j := (if_neg (by decide)).trans (by rw [ai_a_17 h x hi])
theorem ai_le_17 (L : Nat) {i : Nat} (hi : i < 40) : ai_len 263 L 17 i = some 3 := ai_len_of rfl (ai_al_17 hi) (by decide)
theorem ai_a_18 (h : ai_H) (x : Int32) {i : Nat} (hi : i < 40) : ai_is 263 h 18 i x = ai_ix x 3 := (if_neg (by decide)).trans (ai_ald_of rfl (ai_al_18 hi))
theorem ai_il_18 (L : Nat) (h : ai_H) (x : Int32) {i : Nat} (hi : i < 40) : ai_il 263 L h 18 i x = (ai_ix x 3).map fun j => ai_gI h 18 i j := (if_neg (by decide)).trans (by rw [ai_a_18 h x hi])
theorem ai_le_18 (L : Nat) {i : Nat} (hi : i < 40) : ai_len 263 L 18 i = some 3 := ai_len_of rfl (ai_al_18 hi) (by decide)
theorem ai_a_21 (h : ai_H) (x : Int32) {i : Nat} (hi : i < 3) : ai_is 263 h 21 i x = ai_ix x 5 := (if_neg (by decide)).trans (ai_ald_of rfl (ai_al_21 hi))
theorem ai_il_21 (L : Nat) (h : ai_H) (x : Int32) {i : Nat} (hi : i < 3) : ai_il 263 L h 21 i x = (ai_ix x 5).map fun j => ai_gI h 21 i j := (if_neg (by decide)).trans (by rw [ai_a_21 h x hi])
theorem ai_a_22 (h : ai_H) (x : Int32) {i : Nat} (hi : i < 3) : ai_js 263 h 22 i x = ai_ix x 4 := (if_neg (by decide)).trans (ai_ald_of rfl (ai_al_22 hi))
theorem ai_a_23 (h : ai_H) (x : Int32) : ai_is 263 h 23 0 x = ai_ix x 50 := (if_neg (by decide)).trans (ai_ald_of rfl ai_al_23)
theorem ai_il_23 (L : Nat) (h : ai_H) (x : Int32) : ai_il 263 L h 23 0 x = (ai_ix x 50).map fun j => ai_gI h 23 0 j := (if_neg (by decide)).trans (by rw [ai_a_23])
theorem ai_a_24 (h : ai_H) (x : Int32) : ai_is 263 h 24 0 x = ai_ix x 30 := (if_neg (by decide)).trans (ai_ald_of rfl ai_al_24)
theorem ai_il_24 (L : Nat) (h : ai_H) (x : Int32) : ai_il 263 L h 24 0 x = (ai_ix x 30).map fun j => ai_gI h 24 0 j := (if_neg (by decide)).trans (by rw [ai_a_24])
theorem ai_a_25 (h : ai_H) (x : Int32) : ai_js 263 h 25 0 x = ai_ix x 12 := (if_neg (by decide)).trans (ai_ald_of rfl ai_al_25)
theorem ai_a_26 (h : ai_H) (x : Int32) : ai_js 263 h 26 0 x = ai_ix x 12 := (if_neg (by decide)).trans (ai_ald_of rfl ai_al_26)
theorem ai_a_27 (h : ai_H) (x : Int32) : ai_is 263 h 27 0 x = ai_ix x 9 := (if_neg (by decide)).trans (ai_ald_of rfl ai_al_27)
theorem ai_il_27 (L : Nat) (h : ai_H) (x : Int32) : ai_il 263 L h 27 0 x = (ai_ix x 9).map fun j => ai_gI h 27 0 j := (if_neg (by decide)).trans (by rw [ai_a_27])
theorem ai_a_28 (h : ai_H) (x : Int32) : ai_is 263 h 28 0 x = ai_ix x 15 := (if_neg (by decide)).trans (ai_ald_of rfl ai_al_28)
theorem ai_il_28 (L : Nat) (h : ai_H) (x : Int32) : ai_il 263 L h 28 0 x = (ai_ix x 15).map fun j => ai_gI h 28 0 j := (if_neg (by decide)).trans (by rw [ai_a_28])
theorem ai_a_29 (h : ai_H) (x : Int32) : ai_is 263 h 29 0 x = ai_ix x 30 := (if_neg (by decide)).trans (ai_ald_of rfl ai_al_29)
theorem ai_il_29 (L : Nat) (h : ai_H) (x : Int32) : ai_il 263 L h 29 0 x = (ai_ix x 30).map fun j => ai_gI h 29 0 j := (if_neg (by decide)).trans (by rw [ai_a_29])
theorem ai_a_30 (h : ai_H) (x : Int32) : ai_is 263 h 30 0 x = ai_ix x 30 := (if_neg (by decide)).trans (ai_ald_of rfl ai_al_30)
theorem ai_il_30 (L : Nat) (h : ai_H) (x : Int32) : ai_il 263 L h 30 0 x = (ai_ix x 30).map fun j => ai_gI h 30 0 j := (if_neg (by decide)).trans (by rw [ai_a_30])
theorem ai_a_31 (h : ai_H) (x : Int32) : ai_is 263 h 31 0 x = ai_ix x 20 := (if_neg (by decide)).trans (ai_ald_of rfl ai_al_31)
theorem ai_il_31 (L : Nat) (h : ai_H) (x : Int32) : ai_il 263 L h 31 0 x = (ai_ix x 20).map fun j => ai_gI h 31 0 j := (if_neg (by decide)).trans (by rw [ai_a_31])
theorem ai_a_32 (h : ai_H) (x : Int32) : ai_is 263 h 32 0 x = ai_ix x 6 := (if_neg (by decide)).trans (ai_ald_of rfl ai_al_32)
theorem ai_il_32 (L : Nat) (h : ai_H) (x : Int32) : ai_il 263 L h 32 0 x = (ai_ix x 6).map fun j => ai_gI h 32 0 j := (if_neg (by decide)).trans (by rw [ai_a_32])
theorem ai_kob_0 : ai_ko 0 = some 0 := (id rfl)
theorem ai_kob_4 : ai_ko 4 = some 3 := (id rfl)
theorem ai_kob_7 : ai_ko 7 = some 4 := (id rfl)
theorem ai_kob_14 : ai_ko 14 = some 1 := (id rfl)
theorem ai_kob_19 : ai_ko 19 = some 5 := (id rfl)
theorem ai_kob_20 : ai_ko 20 = some 2 := (id rfl)
theorem ai_il_sc (n L : Nat) (h : ai_H) (x : Int32) : ai_il n L h 99 0 x = (ai_ix x L).map fun j => ai_gI h 99 0 j := if_pos rfl
theorem ai_le_sc (n L : Nat) : ai_len n L 99 0 = some (Int32.ofNat L) := if_pos rfl
theorem ai_rk_0 : ai_rk 0 = 0 := by rw [ai_rk, ai_m_0]
theorem ai_mx_0 : ai_mx 0 = 2 := by rw [ai_mx, ai_m_0]
theorem ai_rk_1 : ai_rk 1 = 1 := by rw [ai_rk, ai_m_1]
theorem ai_mx_1 : ai_mx 1 = 6 := by rw [ai_mx, ai_m_1]
theorem ai_rk_2 : ai_rk 2 = 1 := by rw [ai_rk, ai_m_2]
theorem ai_mx_2 : ai_mx 2 = 3 := by rw [ai_mx, ai_m_2]
theorem ai_rk_3 : ai_rk 3 = 2 := by rw [ai_rk, ai_m_3]
theorem ai_mx_3 : ai_mx 3 = 4 := by rw [ai_mx, ai_m_3]
theorem ai_rk_4 : ai_rk 4 = 1 := by rw [ai_rk, ai_m_4]
theorem ai_mx_4 : ai_mx 4 = 6 := by rw [ai_mx, ai_m_4]
theorem ai_rk_5 : ai_rk 5 = 1 := by rw [ai_rk, ai_m_5]
theorem ai_mx_5 : ai_mx 5 = 3 := by rw [ai_mx, ai_m_5]
theorem ai_rk_6 : ai_rk 6 = 1 := by rw [ai_rk, ai_m_6]
theorem ai_mx_6 : ai_mx 6 = 3 := by rw [ai_mx, ai_m_6]
theorem ai_rk_7 : ai_rk 7 = 1 := by rw [ai_rk, ai_m_7]
theorem ai_mx_7 : ai_mx 7 = 3 := by rw [ai_mx, ai_m_7]
theorem ai_rk_8 : ai_rk 8 = 1 := by rw [ai_rk, ai_m_8]
theorem ai_mx_8 : ai_mx 8 = 5 := by rw [ai_mx, ai_m_8]
theorem ai_rk_9 : ai_rk 9 = 1 := by rw [ai_rk, ai_m_9]
theorem ai_mx_9 : ai_mx 9 = 2 := by rw [ai_mx, ai_m_9]
theorem ai_rk_10 : ai_rk 10 = 1 := by rw [ai_rk, ai_m_10]
theorem ai_mx_10 : ai_mx 10 = 5 := by rw [ai_mx, ai_m_10]
theorem ai_rk_11 : ai_rk 11 = 1 := by rw [ai_rk, ai_m_11]
theorem ai_mx_11 : ai_mx 11 = 4 := by rw [ai_mx, ai_m_11]
theorem ai_rk_12 : ai_rk 12 = 1 := by rw [ai_rk, ai_m_12]
theorem ai_mx_12 : ai_mx 12 = 4 := by rw [ai_mx, ai_m_12]
theorem ai_rk_13 : ai_rk 13 = 3 := by rw [ai_rk, ai_m_13]
theorem ai_mx_13 : ai_mx 13 = 2 := by rw [ai_mx, ai_m_13]
theorem ai_rk_14 : ai_rk 14 = 3 := by rw [ai_rk, ai_m_14]
theorem ai_mx_14 : ai_mx 14 = 2 := by rw [ai_mx, ai_m_14]
theorem ai_rk_15 : ai_rk 15 = 2 := by rw [ai_rk, ai_m_15]
theorem ai_mx_15 : ai_mx 15 = 4 := by rw [ai_mx, ai_m_15]
theorem ai_rk_16 : ai_rk 16 = 0 := by rw [ai_rk, ai_m_16]
theorem ai_mx_16 : ai_mx 16 = 6 := by rw [ai_mx, ai_m_16]
theorem ai_rk_17 : ai_rk 17 = 0 := by rw [ai_rk, ai_m_17]
theorem ai_mx_17 : ai_mx 17 = 4 := by rw [ai_mx, ai_m_17]
theorem ai_rk_18 : ai_rk 18 = 3 := by rw [ai_rk, ai_m_18]
theorem ai_mx_18 : ai_mx 18 = 3 := by rw [ai_mx, ai_m_18]
theorem ai_rk_19 : ai_rk 19 = 3 := by rw [ai_rk, ai_m_19]
theorem ai_mx_19 : ai_mx 19 = 3 := by rw [ai_mx, ai_m_19]
theorem ai_rk_20 : ai_rk 20 = 3 := by rw [ai_rk, ai_m_20]
theorem ai_mx_20 : ai_mx 20 = 6 := by rw [ai_mx, ai_m_20]
theorem ai_rk_21 : ai_rk 21 = 3 := by rw [ai_rk, ai_m_21]
theorem ai_mx_21 : ai_mx 21 = 4 := by rw [ai_mx, ai_m_21]
theorem ai_rk_22 : ai_rk 22 = 1 := by rw [ai_rk, ai_m_22]
theorem ai_mx_22 : ai_mx 22 = 4 := by rw [ai_mx, ai_m_22]
theorem ai_rk_23 : ai_rk 23 = 1 := by rw [ai_rk, ai_m_23]
theorem ai_mx_23 : ai_mx 23 = 4 := by rw [ai_mx, ai_m_23]
theorem ai_rk_24 : ai_rk 24 = 1 := by rw [ai_rk, ai_m_24]
theorem ai_mx_24 : ai_mx 24 = 4 := by rw [ai_mx, ai_m_24]
theorem ai_rk_25 : ai_rk 25 = 1 := by rw [ai_rk, ai_m_25]
theorem ai_mx_25 : ai_mx 25 = 4 := by rw [ai_mx, ai_m_25]
theorem ai_rk_26 : ai_rk 26 = 3 := by rw [ai_rk, ai_m_26]
theorem ai_mx_26 : ai_mx 26 = 4 := by rw [ai_mx, ai_m_26]
theorem ai_rk_27 : ai_rk 27 = 0 := by rw [ai_rk, ai_m_27]
theorem ai_mx_27 : ai_mx 27 = 1 := by rw [ai_mx, ai_m_27]
theorem ai_rk_28 : ai_rk 28 = 0 := by rw [ai_rk, ai_m_28]
theorem ai_mx_28 : ai_mx 28 = 1 := by rw [ai_mx, ai_m_28]
theorem ai_rk_29 : ai_rk 29 = 0 := by rw [ai_rk, ai_m_29]
theorem ai_mx_29 : ai_mx 29 = 1 := by rw [ai_mx, ai_m_29]
theorem ai_rk_30 : ai_rk 30 = 0 := by rw [ai_rk, ai_m_30]
theorem ai_mx_30 : ai_mx 30 = 1 := by rw [ai_mx, ai_m_30]
theorem ai_rk_31 : ai_rk 31 = 0 := by rw [ai_rk, ai_m_31]
theorem ai_mx_31 : ai_mx 31 = 2 := by rw [ai_mx, ai_m_31]
theorem ai_rk_32 : ai_rk 32 = 0 := by rw [ai_rk, ai_m_32]
theorem ai_mx_32 : ai_mx 32 = 4 := by rw [ai_mx, ai_m_32]
theorem ai_rk_33 : ai_rk 33 = 0 := by rw [ai_rk, ai_m_33]
theorem ai_mx_33 : ai_mx 33 = 2 := by rw [ai_mx, ai_m_33]
theorem ai_rk_34 : ai_rk 34 = 0 := by rw [ai_rk, ai_m_34]
theorem ai_mx_34 : ai_mx 34 = 3 := by rw [ai_mx, ai_m_34]
theorem ai_rk_35 : ai_rk 35 = 0 := by rw [ai_rk, ai_m_35]
theorem ai_mx_35 : ai_mx 35 = 4 := by rw [ai_mx, ai_m_35]
theorem ai_rk_36 : ai_rk 36 = 1 := by rw [ai_rk, ai_m_36]
theorem ai_mx_36 : ai_mx 36 = 4 := by rw [ai_mx, ai_m_36]
theorem ai_rk_37 : ai_rk 37 = 0 := by rw [ai_rk, ai_m_37]
theorem ai_mx_37 : ai_mx 37 = 8 := by rw [ai_mx, ai_m_37]
theorem ai_rk_38 : ai_rk 38 = 1 := by rw [ai_rk, ai_m_38]
theorem ai_mx_38 : ai_mx 38 = 4 := by rw [ai_mx, ai_m_38]
theorem ai_rk_39 : ai_rk 39 = 1 := by rw [ai_rk, ai_m_39]
theorem ai_mx_39 : ai_mx 39 = 5 := by rw [ai_mx, ai_m_39]
theorem ai_rk_40 : ai_rk 40 = 2 := by rw [ai_rk, ai_m_40]
theorem ai_mx_40 : ai_mx 40 = 5 := by rw [ai_mx, ai_m_40]
theorem ai_rk_41 : ai_rk 41 = 0 := by rw [ai_rk, ai_m_41]
theorem ai_mx_41 : ai_mx 41 = 6 := by rw [ai_mx, ai_m_41]
theorem ai_rk_42 : ai_rk 42 = 0 := by rw [ai_rk, ai_m_42]
theorem ai_mx_42 : ai_mx 42 = 4 := by rw [ai_mx, ai_m_42]
theorem ai_rk_43 : ai_rk 43 = 0 := by rw [ai_rk, ai_m_43]
theorem ai_mx_43 : ai_mx 43 = 5 := by rw [ai_mx, ai_m_43]
theorem ai_rk_44 : ai_rk 44 = 0 := by rw [ai_rk, ai_m_44]
theorem ai_mx_44 : ai_mx 44 = 9 := by rw [ai_mx, ai_m_44]
theorem ai_rk_45 : ai_rk 45 = 0 := by rw [ai_rk, ai_m_45]
theorem ai_mx_45 : ai_mx 45 = 3 := by rw [ai_mx, ai_m_45]
theorem ai_rk_46 : ai_rk 46 = 0 := by rw [ai_rk, ai_m_46]
theorem ai_mx_46 : ai_mx 46 = 5 := by rw [ai_mx, ai_m_46]
theorem ai_rk_47 : ai_rk 47 = 2 := by rw [ai_rk, ai_m_47]
theorem ai_mx_47 : ai_mx 47 = 2 := by rw [ai_mx, ai_m_47]
theorem ai_rk_48 : ai_rk 48 = 1 := by rw [ai_rk, ai_m_48]
theorem ai_mx_48 : ai_mx 48 = 3 := by rw [ai_mx, ai_m_48]
theorem ai_rk_49 : ai_rk 49 = 2 := by rw [ai_rk, ai_m_49]
theorem ai_mx_49 : ai_mx 49 = 2 := by rw [ai_mx, ai_m_49]
theorem ai_rk_50 : ai_rk 50 = 2 := by rw [ai_rk, ai_m_50]
theorem ai_mx_50 : ai_mx 50 = 9 := by rw [ai_mx, ai_m_50]
theorem ai_rk_51 : ai_rk 51 = 3 := by rw [ai_rk, ai_m_51]
theorem ai_mx_51 : ai_mx 51 = 8 := by rw [ai_mx, ai_m_51]
theorem ai_rk_52 : ai_rk 52 = 3 := by rw [ai_rk, ai_m_52]
theorem ai_mx_52 : ai_mx 52 = 13 := by rw [ai_mx, ai_m_52]
theorem ai_rk_53 : ai_rk 53 = 3 := by rw [ai_rk, ai_m_53]
theorem ai_mx_53 : ai_mx 53 = 8 := by rw [ai_mx, ai_m_53]
theorem ai_rk_54 : ai_rk 54 = 0 := by rw [ai_rk, ai_m_54]
theorem ai_mx_54 : ai_mx 54 = 2 := by rw [ai_mx, ai_m_54]
theorem ai_rk_100 : ai_rk 100 = 0 := by rw [ai_rk, ai_m_100]
theorem ai_mx_100 : ai_mx 100 = 1 := by rw [ai_mx, ai_m_100]
theorem ai_rk_101 : ai_rk 101 = 0 := by rw [ai_rk, ai_m_101]
theorem ai_mx_101 : ai_mx 101 = 5 := by rw [ai_mx, ai_m_101]
theorem ai_rk_102 : ai_rk 102 = 1 := by rw [ai_rk, ai_m_102]
theorem ai_mx_102 : ai_mx 102 = 1 := by rw [ai_mx, ai_m_102]
theorem ai_rk_103 : ai_rk 103 = 1 := by rw [ai_rk, ai_m_103]
theorem ai_mx_103 : ai_mx 103 = 2 := by rw [ai_mx, ai_m_103]
theorem ai_rk_104 : ai_rk 104 = 1 := by rw [ai_rk, ai_m_104]
theorem ai_mx_104 : ai_mx 104 = 1 := by rw [ai_mx, ai_m_104]
theorem ai_rk_105 : ai_rk 105 = 1 := by rw [ai_rk, ai_m_105]
theorem ai_mx_105 : ai_mx 105 = 2 := by rw [ai_mx, ai_m_105]
theorem ai_rk_106 : ai_rk 106 = 1 := by rw [ai_rk, ai_m_106]
theorem ai_mx_106 : ai_mx 106 = 4 := by rw [ai_mx, ai_m_106]
theorem ai_rk_107 : ai_rk 107 = 0 := by rw [ai_rk, ai_m_107]
theorem ai_mx_107 : ai_mx 107 = 2 := by rw [ai_mx, ai_m_107]
theorem ai_rk_108 : ai_rk 108 = 1 := by rw [ai_rk, ai_m_108]
theorem ai_mx_108 : ai_mx 108 = 3 := by rw [ai_mx, ai_m_108]
theorem ai_rk_200 : ai_rk 200 = 0 := by rw [ai_rk, ai_m_200]
theorem ai_mx_200 : ai_mx 200 = 1 := by rw [ai_mx, ai_m_200]
theorem ai_rk_201 : ai_rk 201 = 0 := by rw [ai_rk, ai_m_201]
theorem ai_mx_201 : ai_mx 201 = 2 := by rw [ai_mx, ai_m_201]
theorem ai_rk_300 : ai_rk 300 = 0 := by rw [ai_rk, ai_m_300]
theorem ai_mx_300 : ai_mx 300 = 1 := by rw [ai_mx, ai_m_300]
theorem ai_rk_301 : ai_rk 301 = 0 := by rw [ai_rk, ai_m_301]
theorem ai_mx_301 : ai_mx 301 = 3 := by rw [ai_mx, ai_m_301]
theorem ai_rk_302 : ai_rk 302 = 1 := by rw [ai_rk, ai_m_302]
theorem ai_mx_302 : ai_mx 302 = 4 := by rw [ai_mx, ai_m_302]
theorem ai_rk_400 : ai_rk 400 = 0 := by rw [ai_rk, ai_m_400]
theorem ai_mx_400 : ai_mx 400 = 1 := by rw [ai_mx, ai_m_400]
theorem ai_rk_401 : ai_rk 401 = 0 := by rw [ai_rk, ai_m_401]
theorem ai_mx_401 : ai_mx 401 = 1 := by rw [ai_mx, ai_m_401]
theorem ai_rk_402 : ai_rk 402 = 0 := by rw [ai_rk, ai_m_402]
theorem ai_mx_402 : ai_mx 402 = 3 := by rw [ai_mx, ai_m_402]
theorem ai_rk_500 : ai_rk 500 = 0 := by rw [ai_rk, ai_m_500]
theorem ai_mx_500 : ai_mx 500 = 1 := by rw [ai_mx, ai_m_500]
theorem ai_rk_501 : ai_rk 501 = 0 := by rw [ai_rk, ai_m_501]
theorem ai_mx_501 : ai_mx 501 = 4 := by rw [ai_mx, ai_m_501]
theorem ai_rk_600 : ai_rk 600 = 1 := by rw [ai_rk, ai_m_600]
theorem ai_mx_600 : ai_mx 600 = 5 := by rw [ai_mx, ai_m_600]
theorem ai_rk_601 : ai_rk 601 = 1 := by rw [ai_rk, ai_m_601]
theorem ai_mx_601 : ai_mx 601 = 4 := by rw [ai_mx, ai_m_601]
theorem ai_rk_602 : ai_rk 602 = 2 := by rw [ai_rk, ai_m_602]
theorem ai_mx_602 : ai_mx 602 = 4 := by rw [ai_mx, ai_m_602]
theorem ai_rk_603 : ai_rk 603 = 1 := by rw [ai_rk, ai_m_603]
theorem ai_mx_603 : ai_mx 603 = 3 := by rw [ai_mx, ai_m_603]
theorem ai_rk_604 : ai_rk 604 = 1 := by rw [ai_rk, ai_m_604]
theorem ai_mx_604 : ai_mx 604 = 4 := by rw [ai_mx, ai_m_604]
theorem ai_rk_605 : ai_rk 605 = 2 := by rw [ai_rk, ai_m_605]
theorem ai_mx_605 : ai_mx 605 = 8 := by rw [ai_mx, ai_m_605]
theorem ai_rk_606 : ai_rk 606 = 3 := by rw [ai_rk, ai_m_606]
theorem ai_mx_606 : ai_mx 606 = 15 := by rw [ai_mx, ai_m_606]
theorem ai_rk_607 : ai_rk 607 = 0 := by rw [ai_rk, ai_m_607]
theorem ai_mx_607 : ai_mx 607 = 11 := by rw [ai_mx, ai_m_607]
theorem ai_rk_608 : ai_rk 608 = 0 := by rw [ai_rk, ai_m_608]
theorem ai_mx_608 : ai_mx 608 = 10 := by rw [ai_mx, ai_m_608]
theorem ai_rk_609 : ai_rk 609 = 1 := by rw [ai_rk, ai_m_609]
theorem ai_mx_609 : ai_mx 609 = 16 := by rw [ai_mx, ai_m_609]
theorem ai_rk_610 : ai_rk 610 = 1 := by rw [ai_rk, ai_m_610]
theorem ai_mx_610 : ai_mx 610 = 12 := by rw [ai_mx, ai_m_610]
theorem ai_rk_611 : ai_rk 611 = 3 := by rw [ai_rk, ai_m_611]
theorem ai_mx_611 : ai_mx 611 = 7 := by rw [ai_mx, ai_m_611]
theorem ai_rk_612 : ai_rk 612 = 2 := by rw [ai_rk, ai_m_612]
theorem ai_mx_612 : ai_mx 612 = 15 := by rw [ai_mx, ai_m_612]
theorem ai_rk_613 : ai_rk 613 = 2 := by rw [ai_rk, ai_m_613]
theorem ai_mx_613 : ai_mx 613 = 26 := by rw [ai_mx, ai_m_613]
theorem ai_k_0_103 : ai_cv 0 103 = some (33, 2) := (id rfl)
theorem ai_k_0_106 : ai_cv 0 106 = some (101, 5) := (id rfl)
theorem ai_k_0_110 : ai_cv 0 110 = some (31, 2) := (id rfl)
theorem ai_k_0_116 : ai_cv 0 116 = some (45, 3) := (id rfl)
theorem ai_k_0_144 : ai_cv 0 144 = some (102, 1) := (id rfl)
theorem ai_k_0_148 : ai_cv 0 148 = some (34, 3) := (id rfl)
theorem ai_k_0_151 : ai_cv 0 151 = some (36, 4) := (id rfl)
theorem ai_k_0_158 : ai_cv 0 158 = some (107, 2) := (id rfl)
theorem ai_k_0_163 : ai_cv 0 163 = some (104, 1) := (id rfl)
theorem ai_k_0_169 : ai_cv 0 169 = some (48, 2) := (id rfl)
theorem ai_k_0_176 : ai_cv 0 176 = some (302, 2) := (id rfl)
theorem ai_k_0_183 : ai_cv 0 183 = some (401, 1) := (id rfl)
theorem ai_k_0_192 : ai_cv 0 192 = some (402, 3) := (id rfl)
theorem ai_k_0_195 : ai_cv 0 195 = some (35, 2) := (id rfl)
theorem ai_k_0_201 : ai_cv 0 201 = some (41, 4) := (id rfl)
theorem ai_k_0_205 : ai_cv 0 205 = some (37, 3) := (id rfl)
theorem ai_k_0_220 : ai_cv 0 220 = some (43, 2) := (id rfl)
theorem ai_k_0_242 : ai_cv 0 242 = some (52, 3) := (id rfl)
theorem ai_k_0_249 : ai_cv 0 249 = some (46, 4) := (id rfl)
theorem ai_k_0_252 : ai_cv 0 252 = some (103, 1) := (id rfl)
theorem ai_k_0_259 : ai_cv 0 259 = some (53, 3) := (id rfl)
theorem ai_k_0_262 : ai_cv 0 262 = some (108, 1) := (id rfl)
theorem ai_k_0_267 : ai_cv 0 267 = some (201, 1) := (id rfl)
theorem ai_k_0_286 : ai_cv 0 286 = some (54, 2) := (id rfl)
theorem ai_k_0_323 : ai_cv 0 323 = some (38, 3) := (id rfl)
theorem ai_k_0_326 : ai_cv 0 326 = some (39, 3) := (id rfl)
theorem ai_k_0_329 : ai_cv 0 329 = some (40, 3) := (id rfl)
theorem ai_k_0_335 : ai_cv 0 335 = some (44, 4) := (id rfl)
theorem ai_k_0_338 : ai_cv 0 338 = some (42, 4) := (id rfl)
theorem ai_k_0_341 : ai_cv 0 341 = some (501, 4) := (id rfl)
theorem ai_k_0_349 : ai_cv 0 349 = some (301, 3) := (id rfl)
theorem ai_k_0_350 : ai_cv 0 350 = some (49, 2) := (id rfl)
theorem ai_k_0_354 : ai_cv 0 354 = some (50, 3) := (id rfl)
theorem ai_k_0_357 : ai_cv 0 357 = some (47, 2) := (id rfl)
theorem ai_k_0_362 : ai_cv 0 362 = some (51, 4) := (id rfl)
theorem ai_k_0_81 : ai_cs 0 81 = some (27, 1) := (id rfl)
theorem ai_km_0_81 : ai_mt 0 81 = none := (id rfl)
theorem ai_k_0_85 : ai_cs 0 85 = some (30, 1) := (id rfl)
theorem ai_km_0_85 : ai_mt 0 85 = none := (id rfl)
theorem ai_k_0_90 : ai_cs 0 90 = some (32, 3) := (id rfl)
theorem ai_km_0_90 : ai_mt 0 90 = none := (id rfl)
theorem ai_k_0_124 : ai_cs 0 124 = some (28, 1) := (id rfl)
theorem ai_km_0_124 : ai_mt 0 124 = none := (id rfl)
theorem ai_k_0_180 : ai_cs 0 180 = some (29, 1) := (id rfl)
theorem ai_km_0_180 : ai_mt 0 180 = none := (id rfl)
theorem ai_k_0_36 : ai_cp 0 36 = some (300, 1) := (id rfl)
theorem ai_ko_0_36 : ai_ob 0 36 = false := (id rfl)
theorem ai_k_0_43 : ai_cp 0 43 = some (400, 1) := (id rfl)
theorem ai_ko_0_43 : ai_ob 0 43 = false := (id rfl)
theorem ai_k_0_78 : ai_cp 0 78 = some (100, 1) := (id rfl)
theorem ai_ko_0_78 : ai_ob 0 78 = false := (id rfl)
theorem ai_k_0_79 : ai_cp 0 79 = some (500, 1) := (id rfl)
theorem ai_ko_0_79 : ai_ob 0 79 = false := (id rfl)
theorem ai_k_0_80 : ai_cp 0 80 = some (200, 1) := (id rfl)
theorem ai_ko_0_80 : ai_ob 0 80 = false := (id rfl)
theorem ai_k_1_57 : ai_cv 1 57 = some (103, 1) := (id rfl)
theorem ai_k_1_61 : ai_cv 1 61 = some (105, 2) := (id rfl)
theorem ai_k_1_69 : ai_cv 1 69 = some (107, 2) := (id rfl)
theorem ai_k_1_65 : ai_cs 1 65 = some (106, 1) := (id rfl)
theorem ai_km_1_65 : ai_mt 1 65 = none := (id rfl)
theorem ai_k_6_30 : ai_cv 6 30 = some (1, 5) := (id rfl)
theorem ai_k_6_36 : ai_cv 6 36 = some (2, 3) := (id rfl)
theorem ai_k_6_40 : ai_cv 6 40 = some (4, 4) := (id rfl)
theorem ai_k_6_44 : ai_cv 6 44 = some (5, 3) := (id rfl)
theorem ai_k_6_47 : ai_cv 6 47 = some (6, 3) := (id rfl)
theorem ai_k_6_50 : ai_cv 6 50 = some (7, 3) := (id rfl)
theorem ai_k_6_53 : ai_cv 6 53 = some (10, 4) := (id rfl)
theorem ai_k_6_57 : ai_cv 6 57 = some (11, 4) := (id rfl)
theorem ai_k_6_60 : ai_cv 6 60 = some (20, 4) := (id rfl)
theorem ai_k_6_64 : ai_cv 6 64 = some (21, 2) := (id rfl)
theorem ai_k_6_68 : ai_cv 6 68 = some (22, 2) := (id rfl)
theorem ai_k_6_72 : ai_cv 6 72 = some (24, 2) := (id rfl)
theorem ai_k_6_75 : ai_cv 6 75 = some (23, 2) := (id rfl)
theorem ai_k_6_90 : ai_cv 6 90 = some (15, 1) := (id rfl)
theorem ai_k_6_94 : ai_cv 6 94 = some (13, 2) := (id rfl)
theorem ai_k_6_97 : ai_cv 6 97 = some (14, 2) := (id rfl)
theorem ai_k_6_100 : ai_cv 6 100 = some (8, 3) := (id rfl)
theorem ai_k_6_103 : ai_cv 6 103 = some (9, 2) := (id rfl)
theorem ai_k_6_106 : ai_cv 6 106 = some (19, 3) := (id rfl)
theorem ai_k_6_110 : ai_cv 6 110 = some (18, 3) := (id rfl)
theorem ai_k_6_116 : ai_cv 6 116 = some (26, 1) := (id rfl)
theorem ai_k_6_141 : ai_cv 6 141 = some (16, 5) := (id rfl)
theorem ai_k_6_145 : ai_cv 6 145 = some (17, 4) := (id rfl)
theorem ai_k_6_153 : ai_cv 6 153 = some (12, 1) := (id rfl)
theorem ai_k_6_162 : ai_cv 6 162 = some (3, 3) := (id rfl)
theorem ai_k_6_166 : ai_cv 6 166 = some (25, 1) := (id rfl)
theorem ai_k_6_7 : ai_cs 6 7 = some (604, 3) := (id rfl)
theorem ai_km_6_7 : ai_mt 6 7 = none := (id rfl)
theorem ai_k_6_13 : ai_cs 6 13 = some (605, 5) := (id rfl)
theorem ai_km_6_13 : ai_mt 6 13 = none := (id rfl)
theorem ai_k_6_19 : ai_cs 6 19 = some (603, 3) := (id rfl)
theorem ai_km_6_19 : ai_mt 6 19 = none := (id rfl)
theorem ai_k_6_22 : ai_cs 6 22 = some (607, 7) := (id rfl)
theorem ai_km_6_22 : ai_mt 6 22 = none := (id rfl)
theorem ai_k_6_26 : ai_cs 6 26 = some (608, 10) := (id rfl)
theorem ai_km_6_26 : ai_mt 6 26 = none := (id rfl)
theorem ai_k_6_113 : ai_cs 6 113 = some (606, 7) := (id rfl)
theorem ai_km_6_113 : ai_mt 6 113 = none := (id rfl)
theorem ai_k_6_127 : ai_cs 6 127 = some (611, 6) := (id rfl)
theorem ai_km_6_127 : ai_mt 6 127 = none := (id rfl)
theorem ai_k_6_131 : ai_cs 6 131 = some (601, 2) := (id rfl)
theorem ai_km_6_131 : ai_mt 6 131 = none := (id rfl)
theorem ai_k_6_134 : ai_cs 6 134 = some (602, 2) := (id rfl)
theorem ai_km_6_134 : ai_mt 6 134 = none := (id rfl)
theorem ai_k_6_138 : ai_cs 6 138 = some (600, 2) := (id rfl)
theorem ai_km_6_138 : ai_mt 6 138 = none := (id rfl)
theorem ai_k_6_149 : ai_cs 6 149 = some (609, 10) := (id rfl)
theorem ai_km_6_149 : ai_mt 6 149 = none := (id rfl)
theorem ai_k_6_157 : ai_cs 6 157 = some (610, 7) := (id rfl)
theorem ai_km_6_157 : ai_mt 6 157 = none := (id rfl)
theorem ai_k_6_171 : ai_cs 6 171 = some (612, 9) := (id rfl)
theorem ai_km_6_171 : ai_mt 6 171 = none := (id rfl)
theorem ai_k_6_124 : ai_cp 6 124 = some (0, 1) := (id rfl)
theorem ai_ko_6_124 : ai_ob 6 124 = false := (id rfl)
theorem ai_rm_0_100 : ai_okr 0 100 = true := by rw [ai_okr, ai_fr, ai_fr, ai_lo, ai_lo, ai_mx, ai_m_0, ai_m_100]; rfl
theorem ai_rm_0_200 : ai_okr 0 200 = true := by rw [ai_okr, ai_fr, ai_fr, ai_lo, ai_lo, ai_mx, ai_m_0, ai_m_200]; rfl
theorem ai_rm_0_300 : ai_okr 0 300 = true := by rw [ai_okr, ai_fr, ai_fr, ai_lo, ai_lo, ai_mx, ai_m_0, ai_m_300]; rfl
theorem ai_rm_0_400 : ai_okr 0 400 = true := by rw [ai_okr, ai_fr, ai_fr, ai_lo, ai_lo, ai_mx, ai_m_0, ai_m_400]; rfl
theorem ai_rm_0_500 : ai_okr 0 500 = true := by rw [ai_okr, ai_fr, ai_fr, ai_lo, ai_lo, ai_mx, ai_m_0, ai_m_500]; rfl
theorem ai_rm_1_27 : ai_okr 1 27 = true := by rw [ai_okr, ai_fr, ai_fr, ai_lo, ai_lo, ai_mx, ai_m_1, ai_m_27]; rfl
theorem ai_rm_1_30 : ai_okr 1 30 = true := by rw [ai_okr, ai_fr, ai_fr, ai_lo, ai_lo, ai_mx, ai_m_1, ai_m_30]; rfl
theorem ai_rm_1_32 : ai_okr 1 32 = true := by rw [ai_okr, ai_fr, ai_fr, ai_lo, ai_lo, ai_mx, ai_m_1, ai_m_32]; rfl
theorem ai_rm_1_33 : ai_okr 1 33 = true := by rw [ai_okr, ai_fr, ai_fr, ai_lo, ai_lo, ai_mx, ai_m_1, ai_m_33]; rfl
theorem ai_rm_1_101 : ai_okr 1 101 = true := by rw [ai_okr, ai_fr, ai_fr, ai_lo, ai_lo, ai_mx, ai_m_1, ai_m_101]; rfl
theorem ai_rm_2_31 : ai_okr 2 31 = true := by rw [ai_okr, ai_fr, ai_fr, ai_lo, ai_lo, ai_mx, ai_m_2, ai_m_31]; rfl
theorem ai_rm_2_32 : ai_okr 2 32 = true := by rw [ai_okr, ai_fr, ai_fr, ai_lo, ai_lo, ai_mx, ai_m_2, ai_m_32]; rfl
theorem ai_rm_2_45 : ai_okr 2 45 = true := by rw [ai_okr, ai_fr, ai_fr, ai_lo, ai_lo, ai_mx, ai_m_2, ai_m_45]; rfl
theorem ai_rm_3_31 : ai_okr 3 31 = true := by rw [ai_okr, ai_fr, ai_fr, ai_lo, ai_lo, ai_mx, ai_m_3, ai_m_31]; rfl
theorem ai_rm_4_28 : ai_okr 4 28 = true := by rw [ai_okr, ai_fr, ai_fr, ai_lo, ai_lo, ai_mx, ai_m_4, ai_m_28]; rfl
theorem ai_rm_4_31 : ai_okr 4 31 = true := by rw [ai_okr, ai_fr, ai_fr, ai_lo, ai_lo, ai_mx, ai_m_4, ai_m_31]; rfl
theorem ai_rm_4_33 : ai_okr 4 33 = true := by rw [ai_okr, ai_fr, ai_fr, ai_lo, ai_lo, ai_mx, ai_m_4, ai_m_33]; rfl
theorem ai_rm_4_102 : ai_okr 4 102 = true := by rw [ai_okr, ai_fr, ai_fr, ai_lo, ai_lo, ai_mx, ai_m_4, ai_m_102]; rfl
theorem ai_rm_5_34 : ai_okr 5 34 = true := by rw [ai_okr, ai_fr, ai_fr, ai_lo, ai_lo, ai_mx, ai_m_5, ai_m_34]; rfl
theorem ai_rm_5_36 : ai_okr 5 36 = true := by rw [ai_okr, ai_fr, ai_fr, ai_lo, ai_lo, ai_mx, ai_m_5, ai_m_36]; rfl
theorem ai_rm_6_34 : ai_okr 6 34 = true := by rw [ai_okr, ai_fr, ai_fr, ai_lo, ai_lo, ai_mx, ai_m_6, ai_m_34]; rfl
theorem ai_rm_6_36 : ai_okr 6 36 = true := by rw [ai_okr, ai_fr, ai_fr, ai_lo, ai_lo, ai_mx, ai_m_6, ai_m_36]; rfl
theorem ai_rm_7_34 : ai_okr 7 34 = true := by rw [ai_okr, ai_fr, ai_fr, ai_lo, ai_lo, ai_mx, ai_m_7, ai_m_34]; rfl
theorem ai_rm_7_102 : ai_okr 7 102 = true := by rw [ai_okr, ai_fr, ai_fr, ai_lo, ai_lo, ai_mx, ai_m_7, ai_m_102]; rfl
theorem ai_rm_7_107 : ai_okr 7 107 = true := by rw [ai_okr, ai_fr, ai_fr, ai_lo, ai_lo, ai_mx, ai_m_7, ai_m_107]; rfl
theorem ai_rm_8_31 : ai_okr 8 31 = true := by rw [ai_okr, ai_fr, ai_fr, ai_lo, ai_lo, ai_mx, ai_m_8, ai_m_31]; rfl
theorem ai_rm_8_32 : ai_okr 8 32 = true := by rw [ai_okr, ai_fr, ai_fr, ai_lo, ai_lo, ai_mx, ai_m_8, ai_m_32]; rfl
theorem ai_rm_8_48 : ai_okr 8 48 = true := by rw [ai_okr, ai_fr, ai_fr, ai_lo, ai_lo, ai_mx, ai_m_8, ai_m_48]; rfl
theorem ai_rm_8_102 : ai_okr 8 102 = true := by rw [ai_okr, ai_fr, ai_fr, ai_lo, ai_lo, ai_mx, ai_m_8, ai_m_102]; rfl
theorem ai_rm_8_104 : ai_okr 8 104 = true := by rw [ai_okr, ai_fr, ai_fr, ai_lo, ai_lo, ai_mx, ai_m_8, ai_m_104]; rfl
theorem ai_rm_9_31 : ai_okr 9 31 = true := by rw [ai_okr, ai_fr, ai_fr, ai_lo, ai_lo, ai_mx, ai_m_9, ai_m_31]; rfl
theorem ai_rm_9_302 : ai_okr 9 302 = true := by rw [ai_okr, ai_fr, ai_fr, ai_lo, ai_lo, ai_mx, ai_m_9, ai_m_302]; rfl
theorem ai_rm_10_29 : ai_okr 10 29 = true := by rw [ai_okr, ai_fr, ai_fr, ai_lo, ai_lo, ai_mx, ai_m_10, ai_m_29]; rfl
theorem ai_rm_10_31 : ai_okr 10 31 = true := by rw [ai_okr, ai_fr, ai_fr, ai_lo, ai_lo, ai_mx, ai_m_10, ai_m_31]; rfl
theorem ai_rm_10_32 : ai_okr 10 32 = true := by rw [ai_okr, ai_fr, ai_fr, ai_lo, ai_lo, ai_mx, ai_m_10, ai_m_32]; rfl
theorem ai_rm_10_35 : ai_okr 10 35 = true := by rw [ai_okr, ai_fr, ai_fr, ai_lo, ai_lo, ai_mx, ai_m_10, ai_m_35]; rfl
theorem ai_rm_10_41 : ai_okr 10 41 = true := by rw [ai_okr, ai_fr, ai_fr, ai_lo, ai_lo, ai_mx, ai_m_10, ai_m_41]; rfl
theorem ai_rm_10_401 : ai_okr 10 401 = true := by rw [ai_okr, ai_fr, ai_fr, ai_lo, ai_lo, ai_mx, ai_m_10, ai_m_401]; rfl
theorem ai_rm_10_402 : ai_okr 10 402 = true := by rw [ai_okr, ai_fr, ai_fr, ai_lo, ai_lo, ai_mx, ai_m_10, ai_m_402]; rfl
theorem ai_rm_11_29 : ai_okr 11 29 = true := by rw [ai_okr, ai_fr, ai_fr, ai_lo, ai_lo, ai_mx, ai_m_11, ai_m_29]; rfl
theorem ai_rm_11_30 : ai_okr 11 30 = true := by rw [ai_okr, ai_fr, ai_fr, ai_lo, ai_lo, ai_mx, ai_m_11, ai_m_30]; rfl
theorem ai_rm_11_32 : ai_okr 11 32 = true := by rw [ai_okr, ai_fr, ai_fr, ai_lo, ai_lo, ai_mx, ai_m_11, ai_m_32]; rfl
theorem ai_rm_11_35 : ai_okr 11 35 = true := by rw [ai_okr, ai_fr, ai_fr, ai_lo, ai_lo, ai_mx, ai_m_11, ai_m_35]; rfl
theorem ai_rm_11_37 : ai_okr 11 37 = true := by rw [ai_okr, ai_fr, ai_fr, ai_lo, ai_lo, ai_mx, ai_m_11, ai_m_37]; rfl
theorem ai_rm_11_41 : ai_okr 11 41 = true := by rw [ai_okr, ai_fr, ai_fr, ai_lo, ai_lo, ai_mx, ai_m_11, ai_m_41]; rfl
theorem ai_rm_12_43 : ai_okr 12 43 = true := by rw [ai_okr, ai_fr, ai_fr, ai_lo, ai_lo, ai_mx, ai_m_12, ai_m_43]; rfl
theorem ai_rm_13_29 : ai_okr 13 29 = true := by rw [ai_okr, ai_fr, ai_fr, ai_lo, ai_lo, ai_mx, ai_m_13, ai_m_29]; rfl
theorem ai_rm_14_30 : ai_okr 14 30 = true := by rw [ai_okr, ai_fr, ai_fr, ai_lo, ai_lo, ai_mx, ai_m_14, ai_m_30]; rfl
theorem ai_rm_16_28 : ai_okr 16 28 = true := by rw [ai_okr, ai_fr, ai_fr, ai_lo, ai_lo, ai_mx, ai_m_16, ai_m_28]; rfl
theorem ai_rm_16_32 : ai_okr 16 32 = true := by rw [ai_okr, ai_fr, ai_fr, ai_lo, ai_lo, ai_mx, ai_m_16, ai_m_32]; rfl
theorem ai_rm_17_28 : ai_okr 17 28 = true := by rw [ai_okr, ai_fr, ai_fr, ai_lo, ai_lo, ai_mx, ai_m_17, ai_m_28]; rfl
theorem ai_rm_17_30 : ai_okr 17 30 = true := by rw [ai_okr, ai_fr, ai_fr, ai_lo, ai_lo, ai_mx, ai_m_17, ai_m_30]; rfl
theorem ai_rm_17_32 : ai_okr 17 32 = true := by rw [ai_okr, ai_fr, ai_fr, ai_lo, ai_lo, ai_mx, ai_m_17, ai_m_32]; rfl
theorem ai_rm_18_27 : ai_okr 18 27 = true := by rw [ai_okr, ai_fr, ai_fr, ai_lo, ai_lo, ai_mx, ai_m_18, ai_m_27]; rfl
theorem ai_rm_18_28 : ai_okr 18 28 = true := by rw [ai_okr, ai_fr, ai_fr, ai_lo, ai_lo, ai_mx, ai_m_18, ai_m_28]; rfl
theorem ai_rm_18_52 : ai_okr 18 52 = true := by rw [ai_okr, ai_fr, ai_fr, ai_lo, ai_lo, ai_mx, ai_m_18, ai_m_52]; rfl
theorem ai_rm_19_27 : ai_okr 19 27 = true := by rw [ai_okr, ai_fr, ai_fr, ai_lo, ai_lo, ai_mx, ai_m_19, ai_m_27]; rfl
theorem ai_rm_19_28 : ai_okr 19 28 = true := by rw [ai_okr, ai_fr, ai_fr, ai_lo, ai_lo, ai_mx, ai_m_19, ai_m_28]; rfl
theorem ai_rm_20_27 : ai_okr 20 27 = true := by rw [ai_okr, ai_fr, ai_fr, ai_lo, ai_lo, ai_mx, ai_m_20, ai_m_27]; rfl
theorem ai_rm_20_28 : ai_okr 20 28 = true := by rw [ai_okr, ai_fr, ai_fr, ai_lo, ai_lo, ai_mx, ai_m_20, ai_m_28]; rfl
theorem ai_rm_20_32 : ai_okr 20 32 = true := by rw [ai_okr, ai_fr, ai_fr, ai_lo, ai_lo, ai_mx, ai_m_20, ai_m_32]; rfl
theorem ai_rm_20_33 : ai_okr 20 33 = true := by rw [ai_okr, ai_fr, ai_fr, ai_lo, ai_lo, ai_mx, ai_m_20, ai_m_33]; rfl
theorem ai_rm_20_46 : ai_okr 20 46 = true := by rw [ai_okr, ai_fr, ai_fr, ai_lo, ai_lo, ai_mx, ai_m_20, ai_m_46]; rfl
theorem ai_rm_20_52 : ai_okr 20 52 = true := by rw [ai_okr, ai_fr, ai_fr, ai_lo, ai_lo, ai_mx, ai_m_20, ai_m_52]; rfl
theorem ai_rm_21_31 : ai_okr 21 31 = true := by rw [ai_okr, ai_fr, ai_fr, ai_lo, ai_lo, ai_mx, ai_m_21, ai_m_31]; rfl
theorem ai_rm_21_53 : ai_okr 21 53 = true := by rw [ai_okr, ai_fr, ai_fr, ai_lo, ai_lo, ai_mx, ai_m_21, ai_m_53]; rfl
theorem ai_rm_21_103 : ai_okr 21 103 = true := by rw [ai_okr, ai_fr, ai_fr, ai_lo, ai_lo, ai_mx, ai_m_21, ai_m_103]; rfl
theorem ai_rm_21_107 : ai_okr 21 107 = true := by rw [ai_okr, ai_fr, ai_fr, ai_lo, ai_lo, ai_mx, ai_m_21, ai_m_107]; rfl
theorem ai_rm_22_27 : ai_okr 22 27 = true := by rw [ai_okr, ai_fr, ai_fr, ai_lo, ai_lo, ai_mx, ai_m_22, ai_m_27]; rfl
theorem ai_rm_22_33 : ai_okr 22 33 = true := by rw [ai_okr, ai_fr, ai_fr, ai_lo, ai_lo, ai_mx, ai_m_22, ai_m_33]; rfl
theorem ai_rm_22_108 : ai_okr 22 108 = true := by rw [ai_okr, ai_fr, ai_fr, ai_lo, ai_lo, ai_mx, ai_m_22, ai_m_108]; rfl
theorem ai_rm_23_32 : ai_okr 23 32 = true := by rw [ai_okr, ai_fr, ai_fr, ai_lo, ai_lo, ai_mx, ai_m_23, ai_m_32]; rfl
theorem ai_rm_23_201 : ai_okr 23 201 = true := by rw [ai_okr, ai_fr, ai_fr, ai_lo, ai_lo, ai_mx, ai_m_23, ai_m_201]; rfl
theorem ai_rm_24_31 : ai_okr 24 31 = true := by rw [ai_okr, ai_fr, ai_fr, ai_lo, ai_lo, ai_mx, ai_m_24, ai_m_31]; rfl
theorem ai_rm_24_48 : ai_okr 24 48 = true := by rw [ai_okr, ai_fr, ai_fr, ai_lo, ai_lo, ai_mx, ai_m_24, ai_m_48]; rfl
theorem ai_rm_25_48 : ai_okr 25 48 = true := by rw [ai_okr, ai_fr, ai_fr, ai_lo, ai_lo, ai_mx, ai_m_25, ai_m_48]; rfl
theorem ai_rm_25_54 : ai_okr 25 54 = true := by rw [ai_okr, ai_fr, ai_fr, ai_lo, ai_lo, ai_mx, ai_m_25, ai_m_54]; rfl
theorem ai_rm_34_28 : ai_okr 34 28 = true := by rw [ai_okr, ai_fr, ai_fr, ai_lo, ai_lo, ai_mx, ai_m_34, ai_m_28]; rfl
theorem ai_rm_34_31 : ai_okr 34 31 = true := by rw [ai_okr, ai_fr, ai_fr, ai_lo, ai_lo, ai_mx, ai_m_34, ai_m_31]; rfl
theorem ai_rm_35_104 : ai_okr 35 104 = true := by rw [ai_okr, ai_fr, ai_fr, ai_lo, ai_lo, ai_mx, ai_m_35, ai_m_104]; rfl
theorem ai_rm_36_102 : ai_okr 36 102 = true := by rw [ai_okr, ai_fr, ai_fr, ai_lo, ai_lo, ai_mx, ai_m_36, ai_m_102]; rfl
theorem ai_rm_37_38 : ai_okr 37 38 = true := by rw [ai_okr, ai_fr, ai_fr, ai_lo, ai_lo, ai_mx, ai_m_37, ai_m_38]; rfl
theorem ai_rm_37_39 : ai_okr 37 39 = true := by rw [ai_okr, ai_fr, ai_fr, ai_lo, ai_lo, ai_mx, ai_m_37, ai_m_39]; rfl
theorem ai_rm_37_401 : ai_okr 37 401 = true := by rw [ai_okr, ai_fr, ai_fr, ai_lo, ai_lo, ai_mx, ai_m_37, ai_m_401]; rfl
theorem ai_rm_37_402 : ai_okr 37 402 = true := by rw [ai_okr, ai_fr, ai_fr, ai_lo, ai_lo, ai_mx, ai_m_37, ai_m_402]; rfl
theorem ai_rm_39_40 : ai_okr 39 40 = true := by rw [ai_okr, ai_fr, ai_fr, ai_lo, ai_lo, ai_mx, ai_m_39, ai_m_40]; rfl
theorem ai_rm_41_42 : ai_okr 41 42 = true := by rw [ai_okr, ai_fr, ai_fr, ai_lo, ai_lo, ai_mx, ai_m_41, ai_m_42]; rfl
theorem ai_rm_41_44 : ai_okr 41 44 = true := by rw [ai_okr, ai_fr, ai_fr, ai_lo, ai_lo, ai_mx, ai_m_41, ai_m_44]; rfl
theorem ai_rm_41_104 : ai_okr 41 104 = true := by rw [ai_okr, ai_fr, ai_fr, ai_lo, ai_lo, ai_mx, ai_m_41, ai_m_104]; rfl
theorem ai_rm_42_501 : ai_okr 42 501 = true := by rw [ai_okr, ai_fr, ai_fr, ai_lo, ai_lo, ai_mx, ai_m_42, ai_m_501]; rfl
theorem ai_rm_43_44 : ai_okr 43 44 = true := by rw [ai_okr, ai_fr, ai_fr, ai_lo, ai_lo, ai_mx, ai_m_43, ai_m_44]; rfl
theorem ai_rm_44_45 : ai_okr 44 45 = true := by rw [ai_okr, ai_fr, ai_fr, ai_lo, ai_lo, ai_mx, ai_m_44, ai_m_45]; rfl
theorem ai_rm_44_46 : ai_okr 44 46 = true := by rw [ai_okr, ai_fr, ai_fr, ai_lo, ai_lo, ai_mx, ai_m_44, ai_m_46]; rfl
theorem ai_rm_44_102 : ai_okr 44 102 = true := by rw [ai_okr, ai_fr, ai_fr, ai_lo, ai_lo, ai_mx, ai_m_44, ai_m_102]; rfl
theorem ai_rm_44_103 : ai_okr 44 103 = true := by rw [ai_okr, ai_fr, ai_fr, ai_lo, ai_lo, ai_mx, ai_m_44, ai_m_103]; rfl
theorem ai_rm_45_301 : ai_okr 45 301 = true := by rw [ai_okr, ai_fr, ai_fr, ai_lo, ai_lo, ai_mx, ai_m_45, ai_m_301]; rfl
theorem ai_rm_48_49 : ai_okr 48 49 = true := by rw [ai_okr, ai_fr, ai_fr, ai_lo, ai_lo, ai_mx, ai_m_48, ai_m_49]; rfl
theorem ai_rm_48_50 : ai_okr 48 50 = true := by rw [ai_okr, ai_fr, ai_fr, ai_lo, ai_lo, ai_mx, ai_m_48, ai_m_50]; rfl
theorem ai_rm_48_103 : ai_okr 48 103 = true := by rw [ai_okr, ai_fr, ai_fr, ai_lo, ai_lo, ai_mx, ai_m_48, ai_m_103]; rfl
theorem ai_rm_49_47 : ai_okr 49 47 = true := by rw [ai_okr, ai_fr, ai_fr, ai_lo, ai_lo, ai_mx, ai_m_49, ai_m_47]; rfl
theorem ai_rm_50_47 : ai_okr 50 47 = true := by rw [ai_okr, ai_fr, ai_fr, ai_lo, ai_lo, ai_mx, ai_m_50, ai_m_47]; rfl
theorem ai_rm_50_103 : ai_okr 50 103 = true := by rw [ai_okr, ai_fr, ai_fr, ai_lo, ai_lo, ai_mx, ai_m_50, ai_m_103]; rfl
theorem ai_rm_51_49 : ai_okr 51 49 = true := by rw [ai_okr, ai_fr, ai_fr, ai_lo, ai_lo, ai_mx, ai_m_51, ai_m_49]; rfl
theorem ai_rm_51_50 : ai_okr 51 50 = true := by rw [ai_okr, ai_fr, ai_fr, ai_lo, ai_lo, ai_mx, ai_m_51, ai_m_50]; rfl
theorem ai_rm_51_103 : ai_okr 51 103 = true := by rw [ai_okr, ai_fr, ai_fr, ai_lo, ai_lo, ai_mx, ai_m_51, ai_m_103]; rfl
theorem ai_rm_52_51 : ai_okr 52 51 = true := by rw [ai_okr, ai_fr, ai_fr, ai_lo, ai_lo, ai_mx, ai_m_52, ai_m_51]; rfl
theorem ai_rm_53_46 : ai_okr 53 46 = true := by rw [ai_okr, ai_fr, ai_fr, ai_lo, ai_lo, ai_mx, ai_m_53, ai_m_46]; rfl
theorem ai_rm_53_52 : ai_okr 53 52 = true := by rw [ai_okr, ai_fr, ai_fr, ai_lo, ai_lo, ai_mx, ai_m_53, ai_m_52]; rfl
theorem ai_rm_54_47 : ai_okr 54 47 = true := by rw [ai_okr, ai_fr, ai_fr, ai_lo, ai_lo, ai_mx, ai_m_54, ai_m_47]; rfl
theorem ai_rm_102_103 : ai_okr 102 103 = true := by rw [ai_okr, ai_fr, ai_fr, ai_lo, ai_lo, ai_mx, ai_m_102, ai_m_103]; rfl
theorem ai_rm_102_105 : ai_okr 102 105 = true := by rw [ai_okr, ai_fr, ai_fr, ai_lo, ai_lo, ai_mx, ai_m_102, ai_m_105]; rfl
theorem ai_rm_103_106 : ai_okr 103 106 = true := by rw [ai_okr, ai_fr, ai_fr, ai_lo, ai_lo, ai_mx, ai_m_103, ai_m_106]; rfl
theorem ai_rm_104_105 : ai_okr 104 105 = true := by rw [ai_okr, ai_fr, ai_fr, ai_lo, ai_lo, ai_mx, ai_m_104, ai_m_105]; rfl
theorem ai_rm_104_106 : ai_okr 104 106 = true := by rw [ai_okr, ai_fr, ai_fr, ai_lo, ai_lo, ai_mx, ai_m_104, ai_m_106]; rfl
theorem ai_rm_108_107 : ai_okr 108 107 = true := by rw [ai_okr, ai_fr, ai_fr, ai_lo, ai_lo, ai_mx, ai_m_108, ai_m_107]; rfl
theorem ai_rm_605_604 : ai_okr 605 604 = true := by rw [ai_okr, ai_fr, ai_fr, ai_lo, ai_lo, ai_mx, ai_m_605, ai_m_604]; rfl
theorem ai_rm_606_605 : ai_okr 606 605 = true := by rw [ai_okr, ai_fr, ai_fr, ai_lo, ai_lo, ai_mx, ai_m_606, ai_m_605]; rfl
theorem ai_rm_607_604 : ai_okr 607 604 = true := by rw [ai_okr, ai_fr, ai_fr, ai_lo, ai_lo, ai_mx, ai_m_607, ai_m_604]; rfl
theorem ai_rm_608_603 : ai_okr 608 603 = true := by rw [ai_okr, ai_fr, ai_fr, ai_lo, ai_lo, ai_mx, ai_m_608, ai_m_603]; rfl
theorem ai_rm_608_607 : ai_okr 608 607 = true := by rw [ai_okr, ai_fr, ai_fr, ai_lo, ai_lo, ai_mx, ai_m_608, ai_m_607]; rfl
theorem ai_rm_609_603 : ai_okr 609 603 = true := by rw [ai_okr, ai_fr, ai_fr, ai_lo, ai_lo, ai_mx, ai_m_609, ai_m_603]; rfl
theorem ai_rm_609_608 : ai_okr 609 608 = true := by rw [ai_okr, ai_fr, ai_fr, ai_lo, ai_lo, ai_mx, ai_m_609, ai_m_608]; rfl
theorem ai_rm_610_607 : ai_okr 610 607 = true := by rw [ai_okr, ai_fr, ai_fr, ai_lo, ai_lo, ai_mx, ai_m_610, ai_m_607]; rfl
theorem ai_rm_611_1 : ai_okr 611 1 = true := by rw [ai_okr, ai_fr, ai_fr, ai_lo, ai_lo, ai_mx, ai_m_611, ai_m_1]; rfl
theorem ai_rm_611_2 : ai_okr 611 2 = true := by rw [ai_okr, ai_fr, ai_fr, ai_lo, ai_lo, ai_mx, ai_m_611, ai_m_2]; rfl
theorem ai_rm_611_4 : ai_okr 611 4 = true := by rw [ai_okr, ai_fr, ai_fr, ai_lo, ai_lo, ai_mx, ai_m_611, ai_m_4]; rfl
theorem ai_rm_611_5 : ai_okr 611 5 = true := by rw [ai_okr, ai_fr, ai_fr, ai_lo, ai_lo, ai_mx, ai_m_611, ai_m_5]; rfl
theorem ai_rm_611_6 : ai_okr 611 6 = true := by rw [ai_okr, ai_fr, ai_fr, ai_lo, ai_lo, ai_mx, ai_m_611, ai_m_6]; rfl
theorem ai_rm_611_7 : ai_okr 611 7 = true := by rw [ai_okr, ai_fr, ai_fr, ai_lo, ai_lo, ai_mx, ai_m_611, ai_m_7]; rfl
theorem ai_rm_611_10 : ai_okr 611 10 = true := by rw [ai_okr, ai_fr, ai_fr, ai_lo, ai_lo, ai_mx, ai_m_611, ai_m_10]; rfl
theorem ai_rm_611_11 : ai_okr 611 11 = true := by rw [ai_okr, ai_fr, ai_fr, ai_lo, ai_lo, ai_mx, ai_m_611, ai_m_11]; rfl
theorem ai_rm_611_20 : ai_okr 611 20 = true := by rw [ai_okr, ai_fr, ai_fr, ai_lo, ai_lo, ai_mx, ai_m_611, ai_m_20]; rfl
theorem ai_rm_611_21 : ai_okr 611 21 = true := by rw [ai_okr, ai_fr, ai_fr, ai_lo, ai_lo, ai_mx, ai_m_611, ai_m_21]; rfl
theorem ai_rm_611_22 : ai_okr 611 22 = true := by rw [ai_okr, ai_fr, ai_fr, ai_lo, ai_lo, ai_mx, ai_m_611, ai_m_22]; rfl
theorem ai_rm_611_23 : ai_okr 611 23 = true := by rw [ai_okr, ai_fr, ai_fr, ai_lo, ai_lo, ai_mx, ai_m_611, ai_m_23]; rfl
theorem ai_rm_611_24 : ai_okr 611 24 = true := by rw [ai_okr, ai_fr, ai_fr, ai_lo, ai_lo, ai_mx, ai_m_611, ai_m_24]; rfl
theorem ai_rm_612_8 : ai_okr 612 8 = true := by rw [ai_okr, ai_fr, ai_fr, ai_lo, ai_lo, ai_mx, ai_m_612, ai_m_8]; rfl
theorem ai_rm_612_9 : ai_okr 612 9 = true := by rw [ai_okr, ai_fr, ai_fr, ai_lo, ai_lo, ai_mx, ai_m_612, ai_m_9]; rfl
theorem ai_rm_612_13 : ai_okr 612 13 = true := by rw [ai_okr, ai_fr, ai_fr, ai_lo, ai_lo, ai_mx, ai_m_612, ai_m_13]; rfl
theorem ai_rm_612_14 : ai_okr 612 14 = true := by rw [ai_okr, ai_fr, ai_fr, ai_lo, ai_lo, ai_mx, ai_m_612, ai_m_14]; rfl
theorem ai_rm_612_15 : ai_okr 612 15 = true := by rw [ai_okr, ai_fr, ai_fr, ai_lo, ai_lo, ai_mx, ai_m_612, ai_m_15]; rfl
theorem ai_rm_612_18 : ai_okr 612 18 = true := by rw [ai_okr, ai_fr, ai_fr, ai_lo, ai_lo, ai_mx, ai_m_612, ai_m_18]; rfl
theorem ai_rm_612_19 : ai_okr 612 19 = true := by rw [ai_okr, ai_fr, ai_fr, ai_lo, ai_lo, ai_mx, ai_m_612, ai_m_19]; rfl
theorem ai_rm_612_26 : ai_okr 612 26 = true := by rw [ai_okr, ai_fr, ai_fr, ai_lo, ai_lo, ai_mx, ai_m_612, ai_m_26]; rfl
theorem ai_rm_612_603 : ai_okr 612 603 = true := by rw [ai_okr, ai_fr, ai_fr, ai_lo, ai_lo, ai_mx, ai_m_612, ai_m_603]; rfl
theorem ai_rm_612_604 : ai_okr 612 604 = true := by rw [ai_okr, ai_fr, ai_fr, ai_lo, ai_lo, ai_mx, ai_m_612, ai_m_604]; rfl
theorem ai_rm_612_605 : ai_okr 612 605 = true := by rw [ai_okr, ai_fr, ai_fr, ai_lo, ai_lo, ai_mx, ai_m_612, ai_m_605]; rfl
theorem ai_rm_612_606 : ai_okr 612 606 = true := by rw [ai_okr, ai_fr, ai_fr, ai_lo, ai_lo, ai_mx, ai_m_612, ai_m_606]; rfl
theorem ai_rm_613_0 : ai_okr 613 0 = true := by rw [ai_okr, ai_fr, ai_fr, ai_lo, ai_lo, ai_mx, ai_m_613, ai_m_0]; rfl
theorem ai_rm_613_3 : ai_okr 613 3 = true := by rw [ai_okr, ai_fr, ai_fr, ai_lo, ai_lo, ai_mx, ai_m_613, ai_m_3]; rfl
theorem ai_rm_613_12 : ai_okr 613 12 = true := by rw [ai_okr, ai_fr, ai_fr, ai_lo, ai_lo, ai_mx, ai_m_613, ai_m_12]; rfl
theorem ai_rm_613_16 : ai_okr 613 16 = true := by rw [ai_okr, ai_fr, ai_fr, ai_lo, ai_lo, ai_mx, ai_m_613, ai_m_16]; rfl
theorem ai_rm_613_17 : ai_okr 613 17 = true := by rw [ai_okr, ai_fr, ai_fr, ai_lo, ai_lo, ai_mx, ai_m_613, ai_m_17]; rfl
theorem ai_rm_613_25 : ai_okr 613 25 = true := by rw [ai_okr, ai_fr, ai_fr, ai_lo, ai_lo, ai_mx, ai_m_613, ai_m_25]; rfl
theorem ai_rm_613_600 : ai_okr 613 600 = true := by rw [ai_okr, ai_fr, ai_fr, ai_lo, ai_lo, ai_mx, ai_m_613, ai_m_600]; rfl
theorem ai_rm_613_601 : ai_okr 613 601 = true := by rw [ai_okr, ai_fr, ai_fr, ai_lo, ai_lo, ai_mx, ai_m_613, ai_m_601]; rfl
theorem ai_rm_613_602 : ai_okr 613 602 = true := by rw [ai_okr, ai_fr, ai_fr, ai_lo, ai_lo, ai_mx, ai_m_613, ai_m_602]; rfl
theorem ai_rm_613_603 : ai_okr 613 603 = true := by rw [ai_okr, ai_fr, ai_fr, ai_lo, ai_lo, ai_mx, ai_m_613, ai_m_603]; rfl
theorem ai_rm_613_604 : ai_okr 613 604 = true := by rw [ai_okr, ai_fr, ai_fr, ai_lo, ai_lo, ai_mx, ai_m_613, ai_m_604]; rfl
theorem ai_rm_613_605 : ai_okr 613 605 = true := by rw [ai_okr, ai_fr, ai_fr, ai_lo, ai_lo, ai_mx, ai_m_613, ai_m_605]; rfl
theorem ai_rm_613_606 : ai_okr 613 606 = true := by rw [ai_okr, ai_fr, ai_fr, ai_lo, ai_lo, ai_mx, ai_m_613, ai_m_606]; rfl
theorem ai_rm_613_608 : ai_okr 613 608 = true := by rw [ai_okr, ai_fr, ai_fr, ai_lo, ai_lo, ai_mx, ai_m_613, ai_m_608]; rfl
theorem ai_rm_613_609 : ai_okr 613 609 = true := by rw [ai_okr, ai_fr, ai_fr, ai_lo, ai_lo, ai_mx, ai_m_613, ai_m_609]; rfl
theorem ai_rm_613_610 : ai_okr 613 610 = true := by rw [ai_okr, ai_fr, ai_fr, ai_lo, ai_lo, ai_mx, ai_m_613, ai_m_610]; rfl
theorem ai_rm_613_611 : ai_okr 613 611 = true := by rw [ai_okr, ai_fr, ai_fr, ai_lo, ai_lo, ai_mx, ai_m_613, ai_m_611]; rfl
theorem ai_rm_613_612 : ai_okr 613 612 = true := by rw [ai_okr, ai_fr, ai_fr, ai_lo, ai_lo, ai_mx, ai_m_613, ai_m_612]; rfl
theorem ai_om_0 : ai_okm 0 = true := by rw [ai_okm, ai_fr, ai_lo, ai_m_0]; rfl
theorem ai_ot_1 : ai_okt 1 = true := by rw [ai_okt, ai_fr, ai_lo, ai_m_1]; rfl
theorem ai_ot_4 : ai_okt 4 = true := by rw [ai_okt, ai_fr, ai_lo, ai_m_4]; rfl
theorem ai_om_10 : ai_okm 10 = true := by rw [ai_okm, ai_fr, ai_lo, ai_m_10]; rfl
theorem ai_ot_10 : ai_okt 10 = true := by rw [ai_okt, ai_fr, ai_lo, ai_m_10]; rfl
theorem ai_ot_21 : ai_okt 21 = true := by rw [ai_okt, ai_fr, ai_lo, ai_m_21]; rfl
theorem ai_ot_23 : ai_okt 23 = true := by rw [ai_okt, ai_fr, ai_lo, ai_m_23]; rfl
theorem ai_ot_24 : ai_okt 24 = true := by rw [ai_okt, ai_fr, ai_lo, ai_m_24]; rfl
theorem ai_ot_27 : ai_okt 27 = true := by rw [ai_okt, ai_fr, ai_lo, ai_m_27]; rfl
theorem ai_ot_28 : ai_okt 28 = true := by rw [ai_okt, ai_fr, ai_lo, ai_m_28]; rfl
theorem ai_ot_29 : ai_okt 29 = true := by rw [ai_okt, ai_fr, ai_lo, ai_m_29]; rfl
theorem ai_ot_30 : ai_okt 30 = true := by rw [ai_okt, ai_fr, ai_lo, ai_m_30]; rfl
theorem ai_ot_31 : ai_okt 31 = true := by rw [ai_okt, ai_fr, ai_lo, ai_m_31]; rfl
theorem ai_ot_32 : ai_okt 32 = true := by rw [ai_okt, ai_fr, ai_lo, ai_m_32]; rfl
theorem ai_ot_33 : ai_okt 33 = true := by rw [ai_okt, ai_fr, ai_lo, ai_m_33]; rfl
theorem ai_ot_34 : ai_okt 34 = true := by rw [ai_okt, ai_fr, ai_lo, ai_m_34]; rfl
theorem ai_ot_35 : ai_okt 35 = true := by rw [ai_okt, ai_fr, ai_lo, ai_m_35]; rfl
theorem ai_ot_36 : ai_okt 36 = true := by rw [ai_okt, ai_fr, ai_lo, ai_m_36]; rfl
theorem ai_om_37 : ai_okm 37 = true := by rw [ai_okm, ai_fr, ai_lo, ai_m_37]; rfl
theorem ai_om_43 : ai_okm 43 = true := by rw [ai_okm, ai_fr, ai_lo, ai_m_43]; rfl
theorem ai_om_44 : ai_okm 44 = true := by rw [ai_okm, ai_fr, ai_lo, ai_m_44]; rfl
theorem ai_om_52 : ai_okm 52 = true := by rw [ai_okm, ai_fr, ai_lo, ai_m_52]; rfl
theorem ai_om_53 : ai_okm 53 = true := by rw [ai_okm, ai_fr, ai_lo, ai_m_53]; rfl
theorem ai_om_100 : ai_okm 100 = true := by rw [ai_okm, ai_fr, ai_lo, ai_m_100]; rfl
theorem ai_om_200 : ai_okm 200 = true := by rw [ai_okm, ai_fr, ai_lo, ai_m_200]; rfl
theorem ai_om_300 : ai_okm 300 = true := by rw [ai_okm, ai_fr, ai_lo, ai_m_300]; rfl
theorem ai_om_400 : ai_okm 400 = true := by rw [ai_okm, ai_fr, ai_lo, ai_m_400]; rfl
theorem ai_om_500 : ai_okm 500 = true := by rw [ai_okm, ai_fr, ai_lo, ai_m_500]; rfl
theorem ai_ci_6_125 : ai_ci 6 125 = some (2147483647) := (id rfl)
theorem ai_ci_6_126 : ai_ci 6 126 = some (45191) := (id rfl)
theorem ai_ci_6_161 : ai_ci 6 161 = some (200000) := (id rfl)
theorem ai_cj_0_88 : ai_cj 0 88 = some (1000000) := (id rfl)
theorem ai_cj_0_94 : ai_cj 0 94 = some (300) := (id rfl)
theorem ai_cj_0_161 : ai_cj 0 161 = some (5) := (id rfl)
theorem ai_cj_0_224 : ai_cj 0 224 = some (100) := (id rfl)
theorem ai_cj_0_226 : ai_cj 0 226 = some (9) := (id rfl)
theorem ai_cj_0_237 : ai_cj 0 237 = some (100000000) := (id rfl)
theorem ai_cj_0_290 : ai_cj 0 290 = some (10) := (id rfl)
theorem ai_cj_0_292 : ai_cj 0 292 = some (90) := (id rfl)
theorem ai_cj_0_360 : ai_cj 0 360 = some (2) := (id rfl)
theorem ai_cj_2_29 : ai_cj 2 29 = some (10000) := (id rfl)
theorem ai_cj_6_17 : ai_cj 6 17 = some (100) := (id rfl)
theorem ai_cj_6_80 : ai_cj 6 80 = some (-99999999911) := (id rfl)
theorem ai_cj_6_84 : ai_cj 6 84 = some (-99999999912) := (id rfl)
theorem ai_cj_6_88 : ai_cj 6 88 = some (-99999999913) := (id rfl)
theorem ai_cj_6_120 : ai_cj 6 120 = some (10) := (id rfl)
theorem ai_cj_6_122 : ai_cj 6 122 = some (9) := (id rfl)
theorem ai_cj_6_169 : ai_cj 6 169 = some (10000) := (id rfl)
theorem ai_mt_0_186 : ai_mt 0 186 = some 0 := (id rfl)
theorem ai_mt_0_346 : ai_mt 0 346 = some 1 := (id rfl)
theorem ai_mt_0_366 : ai_mt 0 366 = some 2 := (id rfl)
theorem ai_ob_0_3 : ai_ob 0 3 = true := (id rfl)
theorem ai_ob_1_3 : ai_ob 1 3 = true := (id rfl)
theorem ai_ob_2_3 : ai_ob 2 3 = true := (id rfl)
theorem ai_ob_3_3 : ai_ob 3 3 = true := (id rfl)
theorem ai_ob_4_3 : ai_ob 4 3 = true := (id rfl)
theorem ai_ob_5_1 : ai_ob 5 1 = true := (id rfl)
theorem ai_x_1_34 : ai_xt 1 34 = some 3 := (id rfl)
theorem ai_xn_1_34 : ai_nc 0 96 = none := (id rfl)
theorem ai_x_4_33 : ai_xt 4 33 = some 3 := (id rfl)
theorem ai_xn_4_33 : ai_nc 0 96 = none := (id rfl)
theorem ai_x_4_51 : ai_xt 4 51 = some 3 := (id rfl)
theorem ai_xn_4_51 : ai_nc 0 96 = none := (id rfl)
theorem ai_x_10_33 : ai_xt 10 33 = some 3 := (id rfl)
theorem ai_xn_10_33 : ai_nc 0 96 = none := (id rfl)
theorem ai_x_21_22 : ai_xt 21 22 = some 3 := (id rfl)
theorem ai_xn_21_22 : ai_nc 0 96 = none := (id rfl)
theorem ai_x_21_53 : ai_xt 21 53 = some 3 := (id rfl)
theorem ai_xn_21_53 : ai_nc 0 96 = none := (id rfl)
theorem ai_x_23_20 : ai_xt 23 20 = some 3 := (id rfl)
theorem ai_xn_23_20 : ai_nc 0 96 = none := (id rfl)
theorem ai_x_24_23 : ai_xt 24 23 = some 3 := (id rfl)
theorem ai_xn_24_23 : ai_nc 0 96 = none := (id rfl)
theorem ai_x_24_41 : ai_xt 24 41 = some 3 := (id rfl)
theorem ai_xn_24_41 : ai_nc 0 96 = none := (id rfl)
theorem ai_x_27_9 : ai_xt 27 9 = some 1 := (id rfl)
theorem ai_xn_27_9 : ai_nc 0 294 = none := (id rfl)
theorem ai_x_28_11 : ai_xt 28 11 = some 1 := (id rfl)
theorem ai_xn_28_11 : ai_nc 0 294 = none := (id rfl)
theorem ai_x_29_10 : ai_xt 29 10 = some 1 := (id rfl)
theorem ai_xn_29_10 : ai_nc 0 294 = none := (id rfl)
theorem ai_x_30_9 : ai_xt 30 9 = some 1 := (id rfl)
theorem ai_xn_30_9 : ai_nc 0 294 = none := (id rfl)
theorem ai_x_31_12 : ai_xt 31 12 = some 1 := (id rfl)
theorem ai_xn_31_12 : ai_nc 0 294 = none := (id rfl)
theorem ai_x_32_12 : ai_xt 32 12 = some 2 := (id rfl)
theorem ai_xn_32_12 : ai_nc 0 307 = none := (id rfl)
theorem ai_x_33_9 : ai_xt 33 9 = some 3 := (id rfl)
theorem ai_xn_33_9 : ai_nc 0 96 = none := (id rfl)
theorem ai_x_34_25 : ai_xt 34 25 = some 3 := (id rfl)
theorem ai_xn_34_25 : ai_nc 0 96 = none := (id rfl)
theorem ai_x_35_56 : ai_xt 35 56 = some 3 := (id rfl)
theorem ai_xn_35_56 : ai_nc 0 96 = none := (id rfl)
theorem ai_x_36_6 : ai_xt 36 6 = some 3 := (id rfl)
theorem ai_xn_36_6 : ai_nc 0 96 = none := (id rfl)
