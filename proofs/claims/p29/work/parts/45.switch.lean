/-! out of the class's rows of whole, over the cells of this claim -/
theorem xe_switch_at (sl : List Nat) (len m pc : Nat) (d lo hi : Int) (offs : Array Int) (x : Int32) (off : Int) (ls : ai_L) (s : List ai_V) (z : ai_Z) (h : ai_H) (r : ai_A) (h1 : ¬ (x.toInt < lo ∨ hi < x.toInt)) (hx : offs[(x.toInt - lo).toNat]? = some off) (hk : ai_tk pc off = true) : ai_XE sl (some (.tableswitch d lo hi offs, len)) m pc ls (ai_i x :: s) z h r ↔ ai_XS sl m (ai_tg pc off) ls s z h r := by
  have e : ai_jp (.tableswitch d lo hi offs) len pc (ai_i x :: s) = some (ai_tg pc off, s) := by
    unfold ai_jp
    dsimp only
    rw [if_neg h1, hx]
    exact if_pos hk
  unfold ai_XE
  dsimp only [ai_ex]
  first | (rw [e]; done) | (rw [e]; exact Iff.rfl)
theorem xe_switch_no (sl : List Nat) (len m pc : Nat) (d lo hi : Int) (offs : Array Int) (x : Int32) (ls : ai_L) (s : List ai_V) (z : ai_Z) (h : ai_H) (r : ai_A) (h1 : x.toInt < lo ∨ hi < x.toInt) (hk : ai_tk pc d = true) : ai_XE sl (some (.tableswitch d lo hi offs, len)) m pc ls (ai_i x :: s) z h r ↔ ai_XS sl m (ai_tg pc d) ls s z h r := by
  have e : ai_jp (.tableswitch d lo hi offs) len pc (ai_i x :: s) = some (ai_tg pc d, s) := by
    unfold ai_jp
    dsimp only
    rw [if_pos h1]
    exact if_pos hk
  unfold ai_XE
  dsimp only [ai_ex]
  first | (rw [e]; done) | (rw [e]; exact Iff.rfl)
