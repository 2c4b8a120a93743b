/-! what a minute leaves as it was: the kinds' ints -/
def xYs (x : xS) : Nat → Nat → Int32 := x.2.2.2.2.2.1
theorem x_rows_of {x y : xS} (h : xYs y = xYs x) (hr : x_rows x) : x_rows y := by
  intro p hp
  obtain ⟨r, h1, h2⟩ := hr p hp
  exact ⟨r, h1, (congrFun (congrFun h p) 0).trans h2⟩
theorem xYs_O (x : xS) (k j : Nat) (v : Int64) : xYs (xO' x k j v) = xYs x := rfl
theorem xYs_T (x : xS) (i j : Nat) (v : Int64) : xYs (xT' x i j v) = xYs x := rfl
theorem xYs_I (x : xS) (k : Nat) (v : Int32) : xYs (xI' x k v) = xYs x := rfl
theorem xYs_F (x : xS) (v : Int64) : xYs (xF' x v) = xYs x := rfl
theorem xYs_breakPart (x : xS) (i p : Nat) (w : Int64) : xYs (x_breakPart x i p w) = xYs x := by
  unfold x_breakPart
  show xYs (xO' (xO' (xO' (xT' (xT' (xT' x _ _ _) _ _ _) _ _ _) _ _ _) _ _ _) _ _ _) = _
  rw [xYs_O, xYs_O, xYs_O, xYs_T, xYs_T, xYs_T]
theorem xYs_break (x : xS) (i : Nat) : xYs (x_break x i) = xYs x := by
  unfold x_break
  split
  · show xYs (x_breakPart (x_breakPart (x_breakPart x i 0 _) i 1 _) i 2 _) = _
    rw [xYs_breakPart, xYs_breakPart, xYs_breakPart]
  · rfl
theorem xYs_takeSurplus (x : xS) (i : Nat) : xYs (x_takeSurplus x i) = xYs x := rfl
theorem xYs_loseHeat (x : xS) (i : Nat) : xYs (x_loseHeat x i) = xYs x := by
  unfold x_loseHeat
  show xYs (xO' (xT' x _ _ _) _ _ _) = _
  rw [xYs_O, xYs_T]
theorem xYs_driveOff (x : xS) (i : Nat) : xYs (x_driveOff x i) = xYs x := by
  unfold x_driveOff
  show xYs (xO' (xO' (xT' (xT' x _ _ _) _ _ _) _ _ _) _ _ _) = _
  rw [xYs_O, xYs_O, xYs_T, xYs_T]
theorem xYs_pour (L : Nat) (x : xS) (gr : Int64) (l : Int32) : xYs (x_pour L x gr l) = xYs x := by
  unfold x_pour
  split
  · exact xYs_O _ _ _ _
  · exact xYs_T _ _ _ _
theorem xYs_layer (L : Nat) (x : xS) (i : Nat) : xYs (x_layer L x i) = xYs x := by
  unfold x_layer
  show xYs (x_pour L (x_takeSurplus (x_driveOff (x_loseHeat (x_break x i) i) i) i) _ _) = _
  rw [xYs_pour, xYs_takeSurplus, xYs_driveOff, xYs_loseHeat, xYs_break]
theorem xYs_layersN (L : Nat) (x : xS) : ∀ n, xYs (x_layersN L x n) = xYs x
  | 0 => rfl
  | n + 1 => by
    rw [x_layersN, xYs_layer, xYs_layersN L x n]
theorem xYs_adjust (x : xS) (gw : Int64) : xYs (x_adjust x gw) = xYs x := by
  unfold x_adjust
  split
  · rfl
  · show xYs (xI' (xF' x _) _ _) = _
    rw [xYs_I, xYs_F]
theorem xYs_minute (L : Nat) (x : xS) : xYs (x_minute L x) = xYs x := by
  unfold x_minute
  show xYs (xO' (x_adjust (x_layersN L (xO' (x_pour L x _ _) _ _ _) L) _) _ _ _) = _
  rw [xYs_O, xYs_adjust, xYs_layersN, xYs_O, xYs_pour]
theorem x_rows_breakPart {x : xS} (h : x_rows x) (i p : Nat) (w : Int64) : x_rows (x_breakPart x i p w) := x_rows_of (xYs_breakPart x i p w) h
theorem x_rows_layersN {x : xS} (h : x_rows x) (L n : Nat) : x_rows (x_layersN L x n) := x_rows_of (xYs_layersN L x n) h
theorem x_rows_minute {x : xS} (h : x_rows x) (L : Nat) : x_rows (x_minute L x) := x_rows_of (xYs_minute L x) h
theorem x_within_run {a : Int32} (h : ¬ x_within a 1 1000 = 0) : ∃ j : Nat, j ≤ 1000 ∧ 1 ≤ j ∧ a = nI j := by
  unfold x_within at h
  by_cases h1 : a < 1
  · rw [if_pos h1] at h; exact absurd rfl h
  · rw [if_neg h1] at h
    by_cases h2 : (1000 : Int32) < a
    · rw [if_pos h2] at h; exact absurd rfl h
    · have h3 : ¬ a < 0 := fun q => h1 (Int32.lt_trans q (by decide))
      obtain ⟨j, hj, rfl⟩ := nI_of2 (n := 1000) (M := 1000) (by decide) h3 (Int32.not_lt.mp h2)
      refine ⟨j, hj, ?_, rfl⟩
      rcases Nat.eq_zero_or_pos j with rfl | q
      · exact absurd (by decide) h1
      · exact q
theorem x_goN_step {L fu r : Nat} {z : xS} (h : ¬ 0 < lg_cmp (x_gwN z L) (Int32.toInt64 (xI z 2))) : ((x_goN L (fu + 1) z).1 + r, (x_goN L (fu + 1) z).2) = ((x_goN L fu (x_minute L z)).1 + (r + 1), (x_goN L fu (x_minute L z)).2) := by
  rw [x_goN, if_neg h]
  congr 1
  simp only
  omega
