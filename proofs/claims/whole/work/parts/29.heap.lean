theorem sm_hb3 (xs : Nat → Int32) (i : Nat) : ai_wI (ai_wI (ai_wI (ai_hb xs 40 3 i) 39 0 i (nI 80)) 40 0 i (nI 100)) 41 0 i (nI 3) = ai_hb xs 40 3 (i + 1) := by
  refine sm_ext (fun a b c => ?_) (fun a b c => rfl)
  rw [ai_gI_wI, ai_gI_wI, ai_gI_wI, sm_hbI, sm_hbI]
  repeat' split
  all_goals first | rfl | (exfalso; omega)
