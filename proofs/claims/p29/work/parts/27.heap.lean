theorem sm_hb1 (xs : Nat → Int32) (i : Nat) : ai_wI (ai_hb xs i 0 0) 14 i 12 (Int32.ofInt (-1)) = ai_hb xs (i + 1) 0 0 := by
  refine sm_ext (fun a b c => ?_) (fun a b c => rfl)
  rw [ai_gI_wI, sm_hbI, sm_hbI]
  repeat' split
  all_goals first | rfl | (exfalso; omega)
theorem sm_hb2 (xs : Nat → Int32) (i : Nat) : ai_wI (ai_wI (ai_wI (ai_hb xs 40 i 0) 20 i 0 (nI 80)) 20 i 1 (nI 100)) 20 i 2 (nI 3) = ai_hb xs 40 (i + 1) 0 := by
  refine sm_ext (fun a b c => ?_) (fun a b c => rfl)
  rw [ai_gI_wI, ai_gI_wI, ai_gI_wI, sm_hbI, sm_hbI]
  repeat' split
  all_goals first | rfl | (exfalso; omega)
