/-! the minute: the two ways are one -/
theorem warm_eq {x : xS} {i : Nat} (h : 0 ≤ (x_mass x i).toInt) : m_warm x i = x_warm x i := by
  unfold m_warm x_warm
  have e : (lg_cmp (x_mass x i) 0 = 0) ↔ (lg_cmp (x_mass x i) 0 ≤ 0) := by
    rw [lg_cmp_eq, lg_cmp_le, eq_ti, le_ti, ti_0]; omega
  by_cases h2 : lg_cmp (x_mass x i) 0 ≤ 0
  · rw [if_pos (e.mpr h2), if_pos h2]
  · rw [if_neg (fun q => h2 (e.mp q)), if_neg h2]
theorem mass_ti {L : Nat} {A B : Int} (hA : A ≤ 5000000000) {x : xS} (h : x_ok L A B x) {i : Nat} (hi : i < L) : (x_mass x i).toInt = f1 x i ∧ 0 ≤ f1 x i := by
  obtain ⟨hn, b1, -⟩ := ok_at h hi
  obtain ⟨n0, n1, n2, n3, -⟩ := hn
  unfold f1 at b1 ⊢
  unfold x_mass
  have e1 : (xT x i 3 + xT x i 0).toInt = (xT x i 3).toInt + (xT x i 0).toInt := ti_add (by omega) (by omega)
  have e2 : (xT x i 3 + xT x i 0 + xT x i 1).toInt = (xT x i 3).toInt + (xT x i 0).toInt + (xT x i 1).toInt := by rw [ti_add (by rw [e1]; omega) (by rw [e1]; omega), e1]
  rw [ti_add (by rw [e2]; omega) (by rw [e2]; omega), e2]
  omega
theorem warm_nn {L : Nat} {A B : Int} (hA : A ≤ 5000000000) {x : xS} (h : x_ok L A B x) {i : Nat} (hi : i < L) : 0 ≤ (x_warm x i).toInt := by
  unfold x_warm
  split
  · rw [ti_0]; omega
  · rename_i h2
    have hm : 0 < (x_mass x i).toInt := by
      have : ¬ (x_mass x i).toInt ≤ 0 := fun q => h2 ((lg_cmp_le _ _).mpr (le_ti.mpr (by rw [ti_0]; exact q)))
      omega
    have h4 := (ok_at h hi).1.2.2.2.2
    rw [ti_div h4 hm]
    exact Int.ediv_nonneg h4 (by omega)
theorem wN_eq {L : Nat} {A B : Int} (hA : A ≤ 5000000000) {x : xS} (h : x_ok L A B x) : ∀ n, n < L → m_wN x n = x_gwN x (n + 1)
  | 0, hn => by
    rw [m_wN, x_gwN, x_gwN, warm_eq (by rw [(mass_ti hA h hn).1]; exact (mass_ti hA h hn).2)]
    have := warm_nn hA h hn
    unfold x_max
    rw [if_neg (fun q => by have := lt_ti.mp q; rw [ti_0] at this; omega)]
  | n + 1, hn => by
    rw [m_wN, x_gwN, wN_eq hA h n (by omega), warm_eq (by rw [(mass_ti hA h hn).1]; exact (mass_ti hA h hn).2)]
    unfold x_max
    by_cases h2 : lg_cmp (x_warm x (n + 1)) (x_gwN x (n + 1)) ≤ 0
    · rw [if_pos h2]
      by_cases h3 : x_warm x (n + 1) < x_gwN x (n + 1)
      · rw [if_pos h3]
      · rw [if_neg h3, eq_ti]
        have := le_ti.mp ((lg_cmp_le _ _).mp h2)
        have h4 : ¬ (x_warm x (n + 1)).toInt < (x_gwN x (n + 1)).toInt := fun q => h3 (lt_ti.mpr q)
        omega
    · rw [if_neg h2, if_neg (fun q => h2 ((lg_cmp_le _ _).mpr (le_ti.mpr (by have := lt_ti.mp q; omega))))]
theorem xO_xT (x : xS) (i j k l : Nat) (v w : Int64) : xO' (xT' x i j v) k l w = xT' (xO' x k l w) i j v := rfl
theorem breakPart_eq (x : xS) (i p : Nat) (w : Int64) : m_breakPart x i p w = x_breakPart x i p w := by
  unfold m_breakPart x_breakPart
  have e : m_rate x p w = Int32.toInt64 (x_mAt x p w) := rate_eq x p w _
  rw [e]
  rfl
theorem breaks_eq {L : Nat} {A B : Int} (hA : A ≤ 5000000000) {x : xS} (h : x_ok L A B x) {i : Nat} (hi : i < L) : (if lg_cmp (xT x i 3) (Int32.toInt64 (xB x i 0)) < 0 then x else m_breaks x i) = x_break x i := by
  unfold x_break m_breaks
  dsimp only
  rw [warm_eq (by rw [(mass_ti hA h hi).1]; exact (mass_ti hA h hi).2), breakPart_eq, breakPart_eq, breakPart_eq]
  by_cases h2 : lg_cmp (xT x i 3) (Int32.toInt64 (xB x i 0)) < 0
  · rw [if_pos h2, if_neg (fun q => by have a := (lg_cmp_lt _ _).mp h2; have b := (lg_cmp_ge _ _).mp q; rw [lt_ti] at a; rw [le_ti] at b; omega)]
  · rw [if_neg h2, if_pos ((lg_cmp_ge _ _).mpr (le_ti.mpr (by have : ¬ (xT x i 3).toInt < (Int32.toInt64 (xB x i 0)).toInt := fun q => h2 ((lg_cmp_lt _ _).mpr (lt_ti.mpr q)); omega)))]
theorem min_eq (a b : Int64) : (if 0 ≤ lg_cmp (600 * a) b then b else 600 * a) = x_min (a * 600) b := by
  rw [Int64.mul_comm 600 a]
  unfold x_min
  by_cases h : 0 ≤ lg_cmp (a * 600) b
  · rw [if_pos h]
    by_cases h2 : b < a * 600
    · rw [if_pos h2]
    · rw [if_neg h2, eq_ti]
      have h3 := le_ti.mp ((lg_cmp_ge _ _).mp h)
      have h4 : ¬ b.toInt < (a * 600).toInt := fun q => h2 (lt_ti.mpr q)
      omega
  · rw [if_neg h, if_neg (fun q => h ((lg_cmp_ge _ _).mpr (le_ti.mpr (by have := lt_ti.mp q; omega))))]
theorem loses_eq (x : xS) (i : Nat) : m_loses x i = x_driveOff (x_loseHeat x i) i := by
  obtain ⟨y, hy⟩ : ∃ z9, z9 = x_loseHeat x i := ⟨_, rfl⟩
  have hm : m_loses x i = (let off := x_mo (xT y i 3) (Int32.toInt64 (xI y 8))
    let z := xO' (xT' y i 3 (xT y i 3 - off)) 0 1 (xO (xT' y i 3 (xT y i 3 - off)) 0 1 + off)
    let he := if 0 ≤ lg_cmp (600 * off) (xT z i 4) then xT z i 4 else 600 * off
    let z2 := xT' z i 4 (xT z i 4 - he)
    xO' z2 0 6 (xO z2 0 6 + he)) := by rw [hy]; rfl
  rw [hm, ← hy]
  unfold x_driveOff
  dsimp only
  have e4 : xT (xO' (xT' y i 3 (xT y i 3 - x_mo (xT y i 3) (Int32.toInt64 (xI y 8)))) 0 1 (xO (xT' y i 3 (xT y i 3 - x_mo (xT y i 3) (Int32.toInt64 (xI y 8)))) 0 1 + x_mo (xT y i 3) (Int32.toInt64 (xI y 8)))) i 4 = xT y i 4 := by
    rw [xT_O, xT_get, if_neg (by omega)]
  have e5 : xT (xT' y i 3 (xT y i 3 - x_mo (xT y i 3) (Int32.toInt64 (xI y 8)))) i 4 = xT y i 4 := by
    rw [xT_get, if_neg (by omega)]
  rw [e4, e5, min_eq]
  rfl
theorem over_eq {x : xS} (hp : x_par x) {i : Nat} (h0 : 0 ≤ (xT x i 3).toInt) : m_over x i = x_surplus x i := by
  rw [eq_ti, surplus_ti hp h0]
  unfold m_over
  have hb := hp.2.2.2.2.2.2 i
  have h1 := Int64.toInt_lt (xT x i 3)
  have h2 : (xB x i 1).toInt < 2147483648 := Int32.toInt_lt _
  by_cases h : lg_cmp (xT x i 3) (Int32.toInt64 (xB x i 1)) ≤ 0
  · rw [if_pos h]
    have := le_ti.mp ((lg_cmp_le _ _).mp h)
    rw [ti_i] at this
    rw [ti_0]
    split <;> omega
  · rw [if_neg h]
    have h3 : ¬ (xT x i 3).toInt ≤ (xB x i 1).toInt := fun q => h ((lg_cmp_le _ _).mpr (le_ti.mpr (by rw [ti_i]; exact q)))
    rw [ti_sub (by rw [ti_i]; omega) (by rw [ti_i]; omega), ti_i]
    split <;> omega
theorem down_eq {L : Nat} (hL : 1 ≤ L ∧ L ≤ 6) {x : xS} (hp : x_par x) {i : Nat} (hi : i < L) (h0 : 0 ≤ (xT x i 3).toInt) : m_down L x i = x_pour L (x_takeSurplus x i) (x_surplus x i) (nI (i + 1)) := by
  unfold m_down x_pour x_takeSurplus
  dsimp only
  rw [over_eq hp h0, la_nI hL (by omega)]
  by_cases h : i + 1 < L
  · rw [if_pos h, if_neg (nI_ge h (by omega))]
  · rw [if_neg h, if_pos (nI_le (by omega) (by omega))]
theorem layer_all {L : Nat} (hL : 1 ≤ L ∧ L ≤ 6) {A B : Int} (hA : A ≤ 4000000000) (hB : B ≤ 80000000000000) {x : xS} (hp : x_par x) (h : x_ok L A B x) {i : Nat} (hi : i < L) : m_layer L x i = x_layer L x i ∧ x_ok L A B (x_layer L x i) ∧ par (x_layer L x i) = par x := by
  obtain ⟨o1, p1⟩ := break_ok hA hB hp h hi
  have q1 := par_of p1 hp
  have o2 := lose_ok hA hB q1 o1 hi
  have p2 : par (x_loseHeat (x_break x i) i) = par (x_break x i) := by
    unfold x_loseHeat; dsimp only; rw [par_O, par_T]
  have q2 := par_of p2 q1
  have o3 := drive_ok hA hB q2 o2 hi
  have p3 : par (x_driveOff (x_loseHeat (x_break x i) i) i) = par (x_loseHeat (x_break x i) i) := by
    unfold x_driveOff; dsimp only; rw [par_O, par_O, par_T, par_T]
  have q3 := par_of p3 q2
  obtain ⟨y, hy⟩ : ∃ z9, z9 = x_driveOff (x_loseHeat (x_break x i) i) i := ⟨_, rfl⟩
  rw [← hy] at o3 p3 q3
  have hx : x_layer L x i = x_pour L (x_takeSurplus y i) (x_surplus y i) (nI (i + 1)) := by rw [hy]; rfl
  have hm : m_layer L x i = m_down L y i := by
    unfold m_layer
    rw [breaks_eq (by omega) h hi, loses_eq, ← hy]
  obtain ⟨hn, b1, -⟩ := ok_at o3 hi
  obtain ⟨n0, n1, n2, n3, -⟩ := hn
  unfold f1 at b1
  have hb := q3.2.2.2.2.2.2 i
  have hs := surplus_ti q3 n3
  have hs0 : 0 ≤ (x_surplus y i).toInt := by rw [hs]; split <;> omega
  have hs1 : (x_surplus y i).toInt ≤ (xT y i 3).toInt := by rw [hs]; split <;> omega
  refine ⟨by rw [hm, hx]; exact down_eq hL q3 hi n3, ?_, ?_⟩
  · rw [hx]
    have e : (xT y i 3 - x_surplus y i).toInt = (xT y i 3).toInt - (x_surplus y i).toInt := ti_sub (by omega) (by omega)
    have o4 := ok_w o3 hi (v := xT y i 3 - x_surplus y i) (by rw [e]; omega)
    have o5 := (pour_ok hL (A := A + ((xT y i 3 - x_surplus y i).toInt - (xT y i 3).toInt)) (by rw [e]; omega) o4 hs0 (by omega) (show i + 1 ≤ 6 by omega)).1
    refine ok_mono o5 (by rw [e]; omega) (Int.le_refl _)
  · rw [hx]
    unfold x_pour x_takeSurplus
    split
    · rw [par_O, par_T, p3, p2, p1]
    · rw [par_T, par_T, p3, p2, p1]
theorem layers_all {L : Nat} (hL : 1 ≤ L ∧ L ≤ 6) {A B : Int} (hA : A ≤ 4000000000) (hB : B ≤ 80000000000000) {x : xS} (hp : x_par x) (h : x_ok L A B x) : ∀ n, n ≤ L → m_layersN L x n = x_layersN L x n ∧ x_ok L A B (x_layersN L x n) ∧ par (x_layersN L x n) = par x
  | 0, _ => ⟨rfl, h, rfl⟩
  | n + 1, hn => by
    obtain ⟨e, o, p⟩ := layers_all hL hA hB hp h n (by omega)
    obtain ⟨e2, o2, p2⟩ := layer_all hL hA hB (par_of p hp) o (show n < L by omega)
    rw [m_layersN, x_layersN, e]
    exact ⟨e2, o2, p2.trans p⟩
theorem toInt32_small {v : Int64} (h0 : 0 ≤ v.toInt) (h1 : v.toInt ≤ 1000) : (Int64.toInt32 v).toInt = v.toInt := by
  rw [Int64.toInt_toInt32]
  exact Int.bmod_eq_of_le_mul_two (by omega) (by omega)
theorem fan_all {L : Nat} (hL : 1 ≤ L ∧ L ≤ 6) {A B : Int} (hA : A ≤ 5000000000) {x : xS} (hp : x_par x) (h : x_ok L A B x) : m_setFan L x = x_adjust x (x_gwN x L) ∧ x_ok L A B (x_adjust x (x_gwN x L)) ∧ x_par (x_adjust x (x_gwN x L)) := by
  have e : m_wN x (L - 1) = x_gwN x L := by
    rw [wN_eq hA h (L - 1) (by omega), show L - 1 + 1 = L by omega]
  have hq : m_setFan L x = x_adjust x (x_gwN x L) := by
    unfold m_setFan x_adjust
    rw [e]
    split
    · rfl
    · dsimp only
      rw [cut_eq _ _ _ (by decide), floor_eq, cut_eq _ _ _ (by decide)]
  refine ⟨hq, ?_, ?_⟩
  · refine ok_same h (fun a c => ?_)
    unfold x_adjust
    split <;> rfl
  · unfold x_adjust
    split
    · exact hp
    · dsimp only
      generalize x_floorDiv _ 1000 = fd
      generalize x_cut (xF x + _) _ _ = cu
      have hb : 0 ≤ (x_cut fd 0 1000).toInt ∧ (x_cut fd 0 1000).toInt ≤ 1000 := by
        rw [cut_ti, ti_0, ti_tho]
        split <;> split <;> omega
      have h8 := toInt32_small hb.1 hb.2
      obtain ⟨a1, a2, a3, a4, a5, a6, a7⟩ := hp
      refine ⟨a1, a2, ?_, ?_, ?_, ?_, a7⟩
      · exact a3
      · exact a4
      · exact a5
      · rw [xI_get, if_pos rfl, h8]; exact hb
def O8 (x : xS) : Int64 := xO x 0 8
theorem O8_T (x : xS) (i k : Nat) (v : Int64) : O8 (xT' x i k v) = O8 x := rfl
theorem O8_O (x : xS) {j : Nat} (hj : 8 ≠ j) (v : Int64) : O8 (xO' x 0 j v) = O8 x := by
  unfold O8
  rw [xO_get, if_neg (fun q => hj q.2)]
theorem O8_bp (x : xS) (i p : Nat) (w : Int64) : O8 (x_breakPart x i p w) = O8 x := by
  obtain ⟨o1, o2, o3, h⟩ := bp_def x i p w
  rw [h, O8_O _ (by omega), O8_O _ (by omega), O8_O _ (by omega), O8_T, O8_T, O8_T]
theorem O8_break (x : xS) (i : Nat) : O8 (x_break x i) = O8 x := by
  unfold x_break
  split
  · dsimp only; rw [O8_bp, O8_bp, O8_bp]
  · rfl
theorem O8_pour (L : Nat) (x : xS) (v : Int64) (l : Int32) : O8 (x_pour L x v l) = O8 x := by
  unfold x_pour
  split
  · rw [O8_O _ (by omega)]
  · rw [O8_T]
theorem O8_layer (L : Nat) (x : xS) (i : Nat) : O8 (x_layer L x i) = O8 x := by
  have h1 : ∀ y : xS, O8 (x_loseHeat y i) = O8 y := fun y => by unfold x_loseHeat; dsimp only; rw [O8_O _ (by omega), O8_T]
  have h2 : ∀ y : xS, O8 (x_driveOff y i) = O8 y := fun y => by unfold x_driveOff; dsimp only; rw [O8_O _ (by omega), O8_O _ (by omega), O8_T, O8_T]
  have h3 : ∀ y : xS, O8 (x_takeSurplus y i) = O8 y := fun y => rfl
  unfold x_layer
  dsimp only
  rw [O8_pour, h3, h2, h1, O8_break]
theorem O8_layersN (L : Nat) (x : xS) : ∀ n, O8 (x_layersN L x n) = O8 x
  | 0 => rfl
  | n + 1 => by rw [x_layersN, O8_layer, O8_layersN L x n]
theorem O8_adjust (x : xS) (w : Int64) : O8 (x_adjust x w) = O8 x := by
  unfold x_adjust
  split <;> rfl
theorem minute_all {L t : Nat} (hL : 1 ≤ L ∧ L ≤ 6) (ht : t ≤ 512) {x : xS} (hI : x_inv L t x) (hM : (xO x 0 8).toInt < 20000) : m_minute L x = x_minute L x ∧ x_inv L t (x_minute L x) ∧ (xO (x_minute L x) 0 8).toInt = (xO x 0 8).toInt + 1 := by
  obtain ⟨hrow, hp, hm0, hm1, hok⟩ := id hI
  obtain ⟨r0, r1⟩ := hp.2.2.1
  have hR : (Int32.toInt64 (xI x 0)).toInt = (xI x 0).toInt := ti_i _
  obtain ⟨x1, e1⟩ : ∃ z9, z9 = x_pour L x (Int32.toInt64 (xI x 0)) (nI 0) := ⟨_, rfl⟩
  obtain ⟨o1, p1⟩ := pour_ok hL (by omega) hok (v := Int32.toInt64 (xI x 0)) (by omega) (by omega) (show 0 ≤ 6 by omega)
  rw [← e1] at o1 p1
  have e1' : x1 = xT' x 0 3 (xT x 0 3 + Int32.toInt64 (xI x 0)) := by
    rw [e1]; unfold x_pour; rw [la_nI hL (by omega), if_pos (by omega)]
  have i1 : xI x1 0 = xI x 0 := by rw [e1']; rfl
  obtain ⟨x2, e2⟩ : ∃ z9, z9 = xO' x1 0 3 (xO x1 0 3 + Int32.toInt64 (xI x1 0)) := ⟨_, rfl⟩
  have o2 : x_ok L (1000000 * (t : Int) + 100000 * ((xO x 0 8).toInt + 1)) (101000000000 * (t : Int)) x2 := by
    rw [e2]; exact ok_mono (ok_O o1 _ _ _) (by rw [hR]; omega) (Int.le_refl _)
  have p2 : par x2 = par x := by rw [e2, par_O, p1]
  obtain ⟨e3, o3, p3⟩ := layers_all hL (by omega) (by omega) (par_of p2 hp) o2 L (Nat.le_refl L)
  obtain ⟨e4, o4, p4⟩ := fan_all hL (by omega) (par_of (p3.trans p2) hp) o3
  obtain ⟨x4, e5⟩ : ∃ z9, z9 = x_adjust (x_layersN L x2 L) (x_gwN (x_layersN L x2 L) L) := ⟨_, rfl⟩
  rw [← e5] at o4 p4
  have hx : x_minute L x = xO' x4 0 8 (xO x4 0 8 + 1) := by rw [e5, e2, e1]; rfl
  have hmm : m_minute L x = xO' x4 0 8 (xO x4 0 8 + 1) := by
    have : m_minute L x = xO' (m_setFan L (m_layersN L x2 L)) 0 8 (xO (m_setFan L (m_layersN L x2 L)) 0 8 + 1) := by rw [e2, e1']; rfl
    rw [this, e3, e4, ← e5]
  have h8 : xO x4 0 8 = xO x 0 8 := by
    show O8 x4 = O8 x
    rw [e5, O8_adjust, O8_layersN, e2, O8_O _ (by omega), e1, O8_pour]
  have h9 : (xO (x_minute L x) 0 8).toInt = (xO x 0 8).toInt + 1 := by
    rw [hx, xO_get, if_pos (by omega), h8, ti_add (by rw [ti_1]; omega) (by rw [ti_1]; omega), ti_1]
  refine ⟨by rw [hmm, hx], ⟨x_rows_minute hrow L, ?_, by rw [h9]; omega, by rw [h9]; omega, ?_⟩, h9⟩
  · rw [hx]; exact par_of (par_O _ _ _ _) p4
  · rw [h9, hx]; exact ok_O o4 _ _ _
theorem go_all {L t : Nat} (hL : 1 ≤ L ∧ L ≤ 6) (ht : t ≤ 512) : ∀ (n : Nat) (x : xS), x_inv L t x → (xO x 0 8).toInt + (n : Int) ≤ 20000 → m_goN L n x = x_goN L n x ∧ x_inv L t (x_goN L n x).2
  | 0, x, h, _ => ⟨rfl, h⟩
  | n + 1, x, h, hn => by
    have hw : m_wN x (L - 1) = x_gwN x L := by
      rw [wN_eq (A := 1000000 * (t : Int) + 100000 * (xO x 0 8).toInt) (B := 101000000000 * (t : Int)) (by have := h.2.2.2.1; omega) h.2.2.2.2 (L - 1) (by omega), show L - 1 + 1 = L by omega]
    rw [m_goN, x_goN, hw]
    split
    · exact ⟨rfl, h⟩
    · obtain ⟨e, i2, m2⟩ := minute_all hL ht h (by omega)
      obtain ⟨e2, i3⟩ := go_all hL ht n (x_minute L x) i2 (by rw [m2]; omega)
      rw [e, e2]
      exact ⟨rfl, i3⟩
