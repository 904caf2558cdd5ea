/-! out of the class's rows of whole, over the cells of this claim -/
def ad (h : ai_H) (t k : Nat) (v : Int64) : ai_H := ai_wJ h t 0 k (ai_gJ h t 0 k + v)
theorem ad_J (h : ai_H) (t k a b c : Nat) (v : Int64) : ai_gJ (ad h t k v) a b c = if a = t ∧ b = 0 ∧ c = k then ai_gJ h t 0 k + v else ai_gJ h a b c := ai_gJ_wJ _ _ _ _ _ _ _ _
theorem ad_comm (h : ai_H) (t k t' k' : Nat) (v v' : Int64) : ad (ad h t k v) t' k' v' = ad (ad h t' k' v') t k v := by
  refine sm_ext (fun _ _ _ => rfl) (fun a b c => ?_)
  simp only [ad_J]
  by_cases e : t = t' ∧ k = k'
  · obtain ⟨rfl, rfl⟩ := e
    simp only [and_self, if_true]
    split
    · ac_rfl
    · rfl
  · repeat' split
    all_goals first | rfl | (exfalso; omega)
theorem ad_w (h : ai_H) (t k t' i' k' : Nat) (v v' : Int64) (ht : ¬ t = t') : ad (ai_wJ h t' i' k' v') t k v = ai_wJ (ad h t k v) t' i' k' v' := by
  refine sm_ext (fun _ _ _ => rfl) (fun a b c => ?_)
  rw [ad_J, ai_gJ_wJ, ai_gJ_wJ, ai_gJ_wJ, ad_J]
  repeat' split
  all_goals first | rfl | (exfalso; omega)
theorem wI_comm (h : ai_H) (t i k t' i' k' : Nat) (v v' : Int32) (ht : ¬ t = t') : ai_wI (ai_wI h t i k v) t' i' k' v' = ai_wI (ai_wI h t' i' k' v') t i k v := by
  refine sm_ext (fun a b c => ?_) (fun _ _ _ => rfl)
  rw [ai_gI_wI, ai_gI_wI, ai_gI_wI, ai_gI_wI]
  by_cases g : a = t ∧ b = i ∧ c = k
  · rw [if_neg (fun q => ht (g.1.symm.trans q.1)), if_pos g, if_pos g]
  · rw [if_neg g, if_neg g]
theorem rl_M_up {W w : Nat} {f g : Nat → Int32} (h : rl_M W f g) (hw : w < W) : rl_M W (ai_up f w 1) (ai_up g w 1) := by
  refine ⟨fun v hv => ?_, fun v h1 h2 => ?_⟩
  · by_cases e : v = w
    · subst e
      rw [ai_up_at, ai_up_at]
      exact ⟨rfl, Or.inr rfl⟩
    · rw [ai_up_ne _ _ e, ai_up_ne _ _ e]
      exact h.1 v hv
  · rw [ai_up_ne _ _ (by omega)]
    exact h.2 v h1 h2
/-- a wrong payment is mended -/
def me_x (h : ai_H) (w : Nat) : ai_H := ad (ad (st_x (ai_wI h 19 w 3 1) (pn (ai_gI h 19 w 0)) (pn (ai_gI h 19 w 1)) (ai_min (ai_gI h 19 w 2) (ai_gI h 14 (pn (ai_gI h 19 w 0)) 3))) 10 (pn (ai_gI h 19 w 1)) (-(ai_gI h 19 w 2 - ai_min (ai_gI h 19 w 2) (ai_gI h 14 (pn (ai_gI h 19 w 0)) 3)).toInt64)) 11 (pn (ai_gI h 14 (pn (ai_gI h 19 w 0)) 1)) (ai_gI h 19 w 2 - ai_min (ai_gI h 19 w 2) (ai_gI h 14 (pn (ai_gI h 19 w 0)) 3)).toInt64
theorem me_fx {x h : ai_H} {w : Nat} (f : fx x h) : fx x (me_x h w) := fx_J (by decide) (fx_J (by decide) (st_fx (fx_I (by decide) f)))
theorem ad_sub (h : ai_H) (t k : Nat) (v : Int64) : ai_wJ h t 0 k (ai_gJ h t 0 k - v) = ad h t k (-v) := by
  unfold ad
  rw [Int64.sub_eq_add_neg]
theorem ad_add (h : ai_H) (t k : Nat) (v : Int64) : ai_wJ h t 0 k (ai_gJ h t 0 k + v) = ad h t k v := rfl
abbrev mn_c (h : ai_H) (w : Nat) : Prop := ai_gI h 19 w 3 = 0 ∧ ¬ ai_gJ h 10 0 (pn (ai_gI h 19 w 1)) < (ai_gI h 19 w 2).toInt64
def mn_x (h : ai_H) : Nat → ai_H × Nat
  | 0 => (h, 0)
  | w + 1 => if mn_c (mn_x h w).1 w then (me_x (mn_x h w).1 w, (mn_x h w).2 + 1) else mn_x h w
theorem mn_xs (h : ai_H) (w : Nat) : mn_x h (w + 1) = if mn_c (mn_x h w).1 w then (me_x (mn_x h w).1 w, (mn_x h w).2 + 1) else mn_x h w := rfl
theorem mn_fx {h : ai_H} : ∀ w, fx h (mn_x h w).1
  | 0 => fx_rf h
  | w + 1 => by
    rw [mn_xs]
    split
    · exact me_fx (mn_fx w)
    · exact mn_fx w
def ai_m3 : Nat → Option ai_V
  | 0 => none
  | w + 1 => some (ai_r 19 w)
