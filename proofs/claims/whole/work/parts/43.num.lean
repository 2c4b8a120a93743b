/-! numbers -/
theorem ti_add {a b : Int64} (h1 : -9223372036854775808 ≤ a.toInt + b.toInt) (h2 : a.toInt + b.toInt < 9223372036854775808) : (a + b).toInt = a.toInt + b.toInt := by
  rw [Int64.toInt_add]
  exact Int.bmod_eq_of_le_mul_two (by omega) (by omega)
theorem ti_sub {a b : Int64} (h1 : -9223372036854775808 ≤ a.toInt - b.toInt) (h2 : a.toInt - b.toInt < 9223372036854775808) : (a - b).toInt = a.toInt - b.toInt := by
  rw [Int64.toInt_sub]
  exact Int.bmod_eq_of_le_mul_two (by omega) (by omega)
theorem ti_mul {a b : Int64} (h1 : -9223372036854775808 ≤ a.toInt * b.toInt) (h2 : a.toInt * b.toInt < 9223372036854775808) : (a * b).toInt = a.toInt * b.toInt := by
  rw [Int64.toInt_mul]
  exact Int.bmod_eq_of_le_mul_two (by omega) (by omega)
theorem ti_div {a b : Int64} (h1 : 0 ≤ a.toInt) (h2 : 0 < b.toInt) : (a / b).toInt = a.toInt / b.toInt := by
  rw [Int64.toInt_div_of_ne_right _ _ (fun q => by rw [q] at h2; exact absurd h2 (by decide)), Int.tdiv_eq_ediv_of_nonneg h1]
theorem ti_i (a : Int32) : (Int32.toInt64 a).toInt = a.toInt := Int32.toInt_toInt64 a
theorem lt_ti {a b : Int64} : a < b ↔ a.toInt < b.toInt := Int64.lt_iff_toInt_lt
theorem le_ti {a b : Int64} : a ≤ b ↔ a.toInt ≤ b.toInt := Int64.le_iff_toInt_le
theorem eq_ti {a b : Int64} : a = b ↔ a.toInt = b.toInt := ⟨fun h => by rw [h], fun h => Int64.toInt_inj.mp h⟩
theorem ti_mil : (1000000 : Int64).toInt = 1000000 := by decide
theorem ti_tho : (1000 : Int64).toInt = 1000 := by decide
theorem ti_0 : (0 : Int64).toInt = 0 := by decide
theorem ti_1 : (1 : Int64).toInt = 1 := by decide
theorem ti_600 : (600 : Int64).toInt = 600 := by decide
/-- millionths of n: between 0 and n -/
theorem mo_le {u m : Int64} (hu : 0 ≤ u.toInt) (hu2 : u.toInt ≤ 100000000000000) (hm : 0 ≤ m.toInt) (hm2 : m.toInt ≤ 1000000) : 0 ≤ (x_mo u m).toInt ∧ (x_mo u m).toInt ≤ u.toInt := by
  unfold x_mo
  have hq : (u / 1000000).toInt = u.toInt / 1000000 := by rw [ti_div hu (by decide), ti_mil]
  have hq0 : 0 ≤ u.toInt / 1000000 := by omega
  have hq1 : u.toInt / 1000000 ≤ 100000000 := by omega
  have b1 : 0 ≤ u.toInt / 1000000 * m.toInt := Int.mul_nonneg hq0 hm
  have b2 : u.toInt / 1000000 * m.toInt ≤ u.toInt / 1000000 * 1000000 := Int.mul_le_mul_of_nonneg_left hm2 hq0
  have e1 : (u / 1000000 * m).toInt = u.toInt / 1000000 * m.toInt := by
    rw [ti_mul (by rw [hq]; omega) (by rw [hq]; omega), hq]
  have e2 : (u / 1000000 * 1000000).toInt = u.toInt / 1000000 * 1000000 := by
    rw [ti_mul (by rw [hq, ti_mil]; omega) (by rw [hq, ti_mil]; omega), hq, ti_mil]
  have e3 : (u - u / 1000000 * 1000000).toInt = u.toInt - u.toInt / 1000000 * 1000000 := by
    rw [ti_sub (by rw [e2]; omega) (by rw [e2]; omega), e2]
  have r0 : 0 ≤ u.toInt - u.toInt / 1000000 * 1000000 := by omega
  have r1 : u.toInt - u.toInt / 1000000 * 1000000 < 1000000 := by omega
  generalize hR : u.toInt - u.toInt / 1000000 * 1000000 = R at e3 r0 r1
  have c1 : 0 ≤ R * m.toInt := Int.mul_nonneg r0 hm
  have c2 : R * m.toInt ≤ R * 1000000 := Int.mul_le_mul_of_nonneg_left hm2 r0
  have e4 : ((u - u / 1000000 * 1000000) * m).toInt = R * m.toInt := by
    rw [ti_mul (by rw [e3]; omega) (by rw [e3]; omega), e3]
  have e5 : ((u - u / 1000000 * 1000000) * m / 1000000).toInt = R * m.toInt / 1000000 := by
    rw [ti_div (by rw [e4]; exact c1) (by decide), e4, ti_mil]
  have d0 : 0 ≤ R * m.toInt / 1000000 := by omega
  have d1 : R * m.toInt / 1000000 ≤ R := by omega
  rw [ti_add (by rw [e1, e5]; omega) (by rw [e1, e5]; omega), e1, e5]
  omega
theorem x_max_ti (a b : Int64) : (x_max a b).toInt = if b.toInt < a.toInt then a.toInt else b.toInt := by
  unfold x_max
  by_cases h : b < a
  · rw [if_pos h, if_pos (lt_ti.mp h)]
  · rw [if_neg h, if_neg (fun q => h (lt_ti.mpr q))]
theorem x_min_ti (a b : Int64) : (x_min a b).toInt = if b.toInt < a.toInt then b.toInt else a.toInt := by
  unfold x_min
  by_cases h : b < a
  · rw [if_pos h, if_pos (lt_ti.mp h)]
  · rw [if_neg h, if_neg (fun q => h (lt_ti.mpr q))]
theorem cut_ti (v lo hi : Int64) : (x_cut v lo hi).toInt = if (if v.toInt < hi.toInt then v.toInt else hi.toInt) < lo.toInt then lo.toInt else (if v.toInt < hi.toInt then v.toInt else hi.toInt) := by
  unfold x_cut
  rw [x_max_ti, x_min_ti]
theorem cut_eq (v lo hi : Int64) (h : lo.toInt ≤ hi.toInt) : m_cut v lo hi = x_cut v lo hi := by
  rw [eq_ti, cut_ti]
  unfold m_cut
  by_cases h1 : 0 ≤ lg_cmp v lo
  · rw [if_pos h1]
    have h2 := le_ti.mp ((lg_cmp_ge _ _).mp h1)
    by_cases h3 : lg_cmp v hi ≤ 0
    · rw [if_pos h3]
      have h4 := le_ti.mp ((lg_cmp_le _ _).mp h3)
      split <;> split <;> omega
    · rw [if_neg h3]
      have h4 : ¬ v.toInt ≤ hi.toInt := fun q => h3 ((lg_cmp_le _ _).mpr (le_ti.mpr q))
      split <;> split <;> omega
  · rw [if_neg h1]
    have h2 : ¬ lo.toInt ≤ v.toInt := fun q => h1 ((lg_cmp_ge _ _).mpr (le_ti.mpr q))
    split <;> split <;> omega
theorem tdiv_lt0 {a : Int} (h : a < 0) : a.tdiv 1000 = -((-a) / 1000) := by
  rw [show a = -(-a) by omega, Int.neg_tdiv, Int.tdiv_eq_ediv_of_nonneg (by omega)]
  simp
/-- over 1000, down: the two ways are one -/
theorem floor_eq (a : Int64) : a / 1000 - (if 0 ≤ lg_cmp (a - a / 1000 * 1000) 0 then 0 else 1) = x_floorDiv a 1000 := by
  have hlo := Int64.le_toInt a
  have hhi := Int64.toInt_lt a
  have hd : (a / 1000).toInt = a.toInt.tdiv 1000 := by
    rw [Int64.toInt_div_of_ne_right _ _ (by decide), ti_tho]
  unfold x_floorDiv
  have hx : (0 ≤ lg_cmp (a ^^^ 1000) 0) ↔ 0 ≤ a.toInt := by
    rw [lg_cmp_ge, le_ti, ti_0]
    have e : (a ^^^ 1000).toInt < 0 ↔ a.toInt < 0 := by
      have m1 : (a ^^^ 1000).toBitVec.msb = a.toBitVec.msb := by
        rw [Int64.toBitVec_xor, BitVec.msb_xor]
        have : (1000 : Int64).toBitVec.msb = false := by decide
        rw [this]; simp
      have f1 : ∀ z : Int64, z.toInt < 0 ↔ z.toBitVec.msb = true := fun z => by
        show z.toBitVec.toInt < 0 ↔ _
        rw [BitVec.msb_eq_toInt]; simp
      rw [f1, f1, m1]
    omega
  by_cases h : 0 ≤ a.toInt
  · rw [if_pos (hx.mpr h)]
    have e1 : (a / 1000).toInt = a.toInt / 1000 := by rw [hd, Int.tdiv_eq_ediv_of_nonneg h]
    have e2 : (a / 1000 * 1000).toInt = a.toInt / 1000 * 1000 := by rw [ti_mul (by rw [e1, ti_tho]; omega) (by rw [e1, ti_tho]; omega), e1, ti_tho]
    have e3 : (a - a / 1000 * 1000).toInt = a.toInt - a.toInt / 1000 * 1000 := by rw [ti_sub (by rw [e2]; omega) (by rw [e2]; omega), e2]
    rw [if_pos ((lg_cmp_ge _ _).mpr (le_ti.mpr (by rw [ti_0, e3]; omega)))]
    exact Int64.sub_zero _
  · rw [if_neg (fun q => h (hx.mp q))]
    have e1 : (a / 1000).toInt = -((-a.toInt) / 1000) := by rw [hd, tdiv_lt0 (by omega)]
    have e2 : (a / 1000 * 1000).toInt = -((-a.toInt) / 1000) * 1000 := by rw [ti_mul (by rw [e1, ti_tho]; omega) (by rw [e1, ti_tho]; omega), e1, ti_tho]
    have e3 : (a - a / 1000 * 1000).toInt = a.toInt - -((-a.toInt) / 1000) * 1000 := by rw [ti_sub (by rw [e2]; omega) (by rw [e2]; omega), e2]
    by_cases h2 : a.toInt - -((-a.toInt) / 1000) * 1000 = 0
    · rw [if_pos ((lg_cmp_ge _ _).mpr (le_ti.mpr (by rw [ti_0, e3]; omega))), if_pos ((lg_cmp_eq _ _).mpr (eq_ti.mpr (by rw [e2]; omega)))]
      exact Int64.sub_zero _
    · rw [if_neg (fun q => by have := le_ti.mp ((lg_cmp_ge _ _).mp q); rw [ti_0, e3] at this; omega), if_neg (fun q => by have := eq_ti.mp ((lg_cmp_eq _ _).mp q); rw [e2] at this; omega)]
theorem rate_eq (x : xS) (p : Nat) (w : Int64) : ∀ n, m_rateN x p w n = Int32.toInt64 (x_mAtN x p w n)
  | 0 => by
    show (0 : Int64) = Int32.toInt64 0
    decide
  | n + 1 => by
    rw [m_rateN, x_mAtN, rate_eq x p w n]
    have h : (0 < lg_cmp (Int32.toInt64 (xR x p 0 n)) w) ↔ (lg_cmp w (Int32.toInt64 (xR x p 0 n)) < 0) := by rw [lg_cmp_gt, lg_cmp_lt]
    by_cases h2 : lg_cmp w (Int32.toInt64 (xR x p 0 n)) < 0
    · rw [if_pos (h.mpr h2), if_pos h2]
    · rw [if_neg (fun q => h2 (h.mp q)), if_neg h2]
