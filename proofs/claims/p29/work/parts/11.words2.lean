def sd_cas : List Cond := sd_la.map (fun q => Cond.castable q.1 q.2) ++ sd_ld.map (fun q => Cond.declares q)
def sd_wk (w : Cond) : Bool := if goodWord w = true then decide (w ∈ lw_tbl) else decide (w ∈ sd_cas)
set_option maxRecDepth 100000 in
theorem sd_xw_1 : (vx_atS "FactorHouse" 298 (sd_xn 1) sd_xa).all sd_wk = true := by decide +kernel
theorem sd_xo_1 : (Cond.classLink "FactorHouse" 294 (sd_xn 1) :: Cond.initialized (sd_xn 1) :: vx_atS "FactorHouse" 298 (sd_xn 1) sd_xa).all vx_ot = true := by decide +kernel
set_option maxRecDepth 100000 in
theorem sd_xw_2 : (vx_atS "FactorHouse" 311 (sd_xn 2) sd_xa).all sd_wk = true := by decide +kernel
theorem sd_xo_2 : (Cond.classLink "FactorHouse" 307 (sd_xn 2) :: Cond.initialized (sd_xn 2) :: vx_atS "FactorHouse" 311 (sd_xn 2) sd_xa).all vx_ot = true := by decide +kernel
set_option maxRecDepth 100000 in
theorem sd_xw_3 : (vx_atS "FactorHouse" 100 (sd_xn 3) sd_xa).all sd_wk = true := by decide +kernel
theorem sd_xo_3 : (Cond.classLink "FactorHouse" 96 (sd_xn 3) :: Cond.initialized (sd_xn 3) :: vx_atS "FactorHouse" 100 (sd_xn 3) sd_xa).all vx_ot = true := by decide +kernel
/-- a throw: class entry, text entry, constructor entry, text, wide -/
def sd_xT : List ((Nat × Nat) × (Nat × Nat × Nat × String × Bool)) := [((1, 34), (96, 98, 100, "there are 40 invoices", false)), ((4, 33), (96, 130, 100, "it was assigned to this factor", false)), ((4, 51), (96, 132, 100, "nothing is owed", false)), ((10, 33), (96, 132, 100, "nothing is owed", false)), ((21, 22), (96, 255, 100, "its owner is no factor", false)), ((21, 53), (96, 257, 100, "it is neither disputed nor due for so long", true)), ((23, 20), (96, 265, 100, "it would be above 3000", true)), ((24, 23), (96, 270, 100, "it counts for none", true)), ((24, 41), (96, 275, 100, "it was put in", true)), ((27, 9), (294, 296, 298, "there is no such seller", true)), ((28, 11), (294, 299, 298, "there is no such factor", true)), ((29, 10), (294, 301, 298, "there is no such party", true)), ((30, 9), (294, 303, 298, "there is no such buyer", true)), ((31, 12), (294, 305, 298, "there is no such invoice", true)), ((32, 12), (307, 309, 311, "an argument is out of its range", true)), ((33, 9), (96, 312, 100, "the seller failed", true)), ((34, 25), (96, 314, 100, "there is no such assignment", true)), ((35, 56), (96, 319, 100, "there would be more than 30 wrong payments", true)), ((36, 6), (96, 321, 100, "the assignment has it already", true))]
def sd_xk (m pc E : Nat) (p : (Nat × Nat × Nat × String × Bool) × Nat × Nat) : Bool :=
  decide (decode (ai_by m) pc = .ok (.new p.1.1, 3)) && decide (decode (ai_by m) (pc + 3) = .ok (.dup, 1)) &&
  (if p.1.2.2.2.2 = true then decide (decode (ai_by m) (pc + 4) = .ok (.ldc_w p.1.2.1, 3)) && decide (decode (ai_by m) (pc + 7) = .ok (.invokespecial p.1.2.2.1, 3)) && decide (decode (ai_by m) (pc + 10) = .ok (.athrow, 1))
   else decide (decode (ai_by m) (pc + 4) = .ok (.ldc p.1.2.1, 2)) && decide (decode (ai_by m) (pc + 6) = .ok (.invokespecial p.1.2.2.1, 3)) && decide (decode (ai_by m) (pc + 9) = .ok (.athrow, 1))) &&
  decide ((sd_R (m / 100), p.1.2.1, p.1.2.2.2.1) ∈ sd_ls) && sd_at p.2.1 (.classLink (sd_R (m / 100)) p.1.1 (sd_xn E)) && sd_at p.2.2 (.initialized (sd_xn E)) && decide (m / 100 = 0) && decide (0 < E ∧ E < 4) && decide (ai_find [] sd_hw m = []) &&
  (match E with
   | 1 => decide (p.1.1 = 294 ∧ p.1.2.2.1 = 298)
   | 2 => decide (p.1.1 = 307 ∧ p.1.2.2.1 = 311)
   | _ => decide (p.1.1 = 96 ∧ p.1.2.2.1 = 100))
theorem sd_xt_ok {m pc E : Nat} (h : ai_xt m pc = some E) : ∃ p, sd_xk m pc E p = true := sd_tabled (T := ai_xtT) (chk := sd_xk) (ps := [((96, 98, 100, "there are 40 invoices", false), 2220, 1012), ((96, 130, 100, "it was assigned to this factor", false), 2220, 1012), ((96, 132, 100, "nothing is owed", false), 2220, 1012), ((96, 132, 100, "nothing is owed", false), 2220, 1012), ((96, 255, 100, "its owner is no factor", false), 2220, 1012), ((96, 257, 100, "it is neither disputed nor due for so long", true), 2220, 1012), ((96, 265, 100, "it would be above 3000", true), 2220, 1012), ((96, 270, 100, "it counts for none", true), 2220, 1012), ((96, 275, 100, "it was put in", true), 2220, 1012), ((294, 296, 298, "there is no such seller", true), 1233, 1010), ((294, 299, 298, "there is no such factor", true), 1233, 1010), ((294, 301, 298, "there is no such party", true), 1233, 1010), ((294, 303, 298, "there is no such buyer", true), 1233, 1010), ((294, 305, 298, "there is no such invoice", true), 1233, 1010), ((307, 309, 311, "an argument is out of its range", true), 2119, 1011), ((96, 312, 100, "the seller failed", true), 2220, 1012), ((96, 314, 100, "there is no such assignment", true), 2220, 1012), ((96, 319, 100, "there would be more than 30 wrong payments", true), 2220, 1012), ((96, 321, 100, "the assignment has it already", true), 2220, 1012)]) rfl (by decide +kernel) h
def sd_hk (m : Nat) (q : Nat × Nat × Nat × Nat × Nat × Nat) (r : Nat × Nat × Nat × Nat) (p : Nat) : Bool :=
  decide (q.1 = r.1 ∧ q.2.1 = r.2.1 ∧ q.2.2.1 = r.2.2.1 ∧ r.2.2.2 ≠ 0 ∧ 0 < q.2.2.2.1 ∧ q.2.2.2.1 < 4) && sd_at p (.classLink (sd_R (m / 100)) r.2.2.2 (sd_xn q.2.2.2.1)) &&
  (decide (decode (ai_by m) q.2.2.1 = .ok (.astore q.2.2.2.2.1, 2) ∧ q.2.2.2.2.2 = 2) || (match decode (ai_by m) q.2.2.1 with
    | .ok (.astore_n k, 1) => decide ((k : Nat) = q.2.2.2.2.1 ∧ q.2.2.2.2.2 = 1)
    | _ => false)) && decide ((sd_xn q.2.2.2.1, sd_xn q.2.2.2.1) ∈ sd_la)
def sd_hks (m : Nat) : List (Nat × Nat × Nat × Nat × Nat × Nat) → List (Nat × Nat × Nat × Nat) → List Nat → Bool
  | [], [], _ => true
  | q :: l, r :: k, p :: ps => sd_hk m q r p && sd_hks m l k ps
  | _, _, _ => false
def sd_hp : List (Nat × List Nat) := [(611, [2207, 2208, 2209])]
theorem sd_hs_all : (sd_hp.all fun q => sd_hks q.1 (ai_find [] ai_hs q.1) (ai_find [] sd_hw q.1) q.2) = true := by decide +kernel
theorem sd_hs_keys : (ai_hs.map fun q => q.1) = sd_hp.map (fun q => q.1) ∧ (sd_hw.map fun q => q.1) = sd_hp.map (fun q => q.1) := by decide +kernel
