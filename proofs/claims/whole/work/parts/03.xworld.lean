/-! THE CLASS'S STATE -/
/-- ints (0 rain, 1 loss, 2 limit, 3 turns, 4 told, 5 target, 6 p, 7 i, 8 setting); the fan's sum; a layer's stocks; a layer's ints (0 dry, 1 holds); a kind's rows (0 from, 1 millionths); a kind's ints (0 rows, 1 heat, 2 water); longs (0 sums, 1 put in, 2 taken) -/
abbrev xS : Type := (Nat → Int32) × Int64 × (Nat → Nat → Int64) × (Nat → Nat → Int32) × (Nat → Nat → Nat → Int32) × (Nat → Nat → Int32) × (Nat → Nat → Int64)
def xI (x : xS) (k : Nat) : Int32 := x.1 k
def xF (x : xS) : Int64 := x.2.1
def xT (x : xS) (i : Nat) : Nat → Int64 := x.2.2.1 i
def xB (x : xS) (i k : Nat) : Int32 := x.2.2.2.1 i k
def xR (x : xS) (p k : Nat) : Nat → Int32 := x.2.2.2.2.1 p k
def xY (x : xS) (p k : Nat) : Int32 := x.2.2.2.2.2.1 p k
def xO (x : xS) (k : Nat) : Nat → Int64 := x.2.2.2.2.2.2 k
def xI' (x : xS) (k : Nat) (v : Int32) : xS := (upd x.1 k v, x.2)
def xF' (x : xS) (v : Int64) : xS := (x.1, v, x.2.2)
def xT' (x : xS) (i j : Nat) (v : Int64) : xS := (x.1, x.2.1, va_up x.2.2.1 i (vp_updL (x.2.2.1 i) j v), x.2.2.2)
def xB' (x : xS) (i k : Nat) (v : Int32) : xS := (x.1, x.2.1, x.2.2.1, va_up x.2.2.2.1 i (upd (x.2.2.2.1 i) k v), x.2.2.2.2)
def xR' (x : xS) (p k r : Nat) (v : Int32) : xS := (x.1, x.2.1, x.2.2.1, x.2.2.2.1, va_up x.2.2.2.2.1 p (va_up (x.2.2.2.2.1 p) k (upd (x.2.2.2.2.1 p k) r v)), x.2.2.2.2.2)
def xY' (x : xS) (p k : Nat) (v : Int32) : xS := (x.1, x.2.1, x.2.2.1, x.2.2.2.1, x.2.2.2.2.1, va_up x.2.2.2.2.2.1 p (upd (x.2.2.2.2.2.1 p) k v), x.2.2.2.2.2.2)
def xO' (x : xS) (k j : Nat) (v : Int64) : xS := (x.1, x.2.1, x.2.2.1, x.2.2.2.1, x.2.2.2.2.1, x.2.2.2.2.2.1, va_up x.2.2.2.2.2.2 k (vp_updL (x.2.2.2.2.2.2 k) j v))
/-! THE CLASS'S CELLS: 0 this, 1 kinds, 2 fan, 3 sums, 4 put in, 5 taken, 6 layers, 7 + 2i layer i, 8 + 2i its stocks, 7 + 2L + 3p kind p, and its two rows -/
def xE (g : wG) (ad : Nat → Nat) (L : Nat) (x : xS) : Nat → va_E
  | 0 => .inr (ciX, [.ref (ad 6), .ref (ad 1), .ref (ad 2), .ref (ad 3), .ref (ad 4), .ref (ad 5), .int (xI x 0), .int (xI x 1), .int (xI x 2), .int (xI x 3)])
  | 1 => .inl (g.2 tK, 3, .inr (.inr (.inr (.inr (fun p => if p < 3 then some (ad (7 + 2 * L + 3 * p)) else none)))))
  | 2 => .inr (ciFan, [.int (xI x 4), .int (xI x 5), .int (xI x 6), .int (xI x 7), .long (xF x), .int (xI x 8)])
  | 3 => .inl (g.2 tJ, 9, .inr (.inl (xO x 0)))
  | 4 => .inl (g.2 tJ, 5, .inr (.inl (xO x 1)))
  | 5 => .inl (g.2 tJ, 5, .inr (.inl (xO x 2)))
  | 6 => .inl (g.2 tL, L, .inr (.inr (.inr (.inr (fun i => if i < L then some (ad (7 + 2 * i)) else none)))))
  | k + 7 => if k < 2 * L then (if k % 2 = 0 then .inr (ciLay, [.ref (ad (8 + 2 * (k / 2))), .int (xB x (k / 2) 0), .int (xB x (k / 2) 1)]) else .inl (g.2 tJ, 5, .inr (.inl (xT x (k / 2)))))
    else (if (k - 2 * L) % 3 = 0 then .inr (ciKind, [.ref (ad (8 + 2 * L + 3 * ((k - 2 * L) / 3))), .ref (ad (9 + 2 * L + 3 * ((k - 2 * L) / 3))), .int (xY x ((k - 2 * L) / 3) 0), .int (xY x ((k - 2 * L) / 3) 1), .int (xY x ((k - 2 * L) / 3) 2)])
      else if (k - 2 * L) % 3 = 1 then .inl (g.2 tI, 4, .inl (xR x ((k - 2 * L) / 3) 0)) else .inl (g.2 tI, 4, .inl (xR x ((k - 2 * L) / 3) 1)))
abbrev xN (L : Nat) : Nat := 16 + 2 * L
theorem xE_lay (g : wG) (ad : Nat → Nat) (L : Nat) (x : xS) {i : Nat} (h : i < L) : xE g ad L x (7 + 2 * i) = .inr (ciLay, [.ref (ad (8 + 2 * i)), .int (xB x i 0), .int (xB x i 1)]) := by
  rw [show 7 + 2 * i = 2 * i + 7 by omega]
  simp only [xE]
  rw [if_pos (by omega), if_pos (by omega), show 2 * i / 2 = i by omega]
theorem xE_stk (g : wG) (ad : Nat → Nat) (L : Nat) (x : xS) {i : Nat} (h : i < L) : xE g ad L x (8 + 2 * i) = .inl (g.2 tJ, 5, .inr (.inl (xT x i))) := by
  rw [show 8 + 2 * i = (2 * i + 1) + 7 by omega]
  simp only [xE]
  rw [if_pos (by omega), if_neg (by omega), show (2 * i + 1) / 2 = i by omega]
theorem xE_kind (g : wG) (ad : Nat → Nat) (L : Nat) (x : xS) (p : Nat) : xE g ad L x (7 + 2 * L + 3 * p) = .inr (ciKind, [.ref (ad (8 + 2 * L + 3 * p)), .ref (ad (9 + 2 * L + 3 * p)), .int (xY x p 0), .int (xY x p 1), .int (xY x p 2)]) := by
  rw [show 7 + 2 * L + 3 * p = (2 * L + 3 * p) + 7 by omega]
  simp only [xE]
  rw [if_neg (by omega), if_pos (by omega), show (2 * L + 3 * p - 2 * L) / 3 = p by omega]
theorem xE_from (g : wG) (ad : Nat → Nat) (L : Nat) (x : xS) (p : Nat) : xE g ad L x (8 + 2 * L + 3 * p) = .inl (g.2 tI, 4, .inl (xR x p 0)) := by
  rw [show 8 + 2 * L + 3 * p = (2 * L + 3 * p + 1) + 7 by omega]
  simp only [xE]
  rw [if_neg (by omega), if_neg (by omega), if_pos (by omega), show (2 * L + 3 * p + 1 - 2 * L) / 3 = p by omega]
theorem xE_mill (g : wG) (ad : Nat → Nat) (L : Nat) (x : xS) (p : Nat) : xE g ad L x (9 + 2 * L + 3 * p) = .inl (g.2 tI, 4, .inl (xR x p 1)) := by
  rw [show 9 + 2 * L + 3 * p = (2 * L + 3 * p + 2) + 7 by omega]
  simp only [xE]
  rw [if_neg (by omega), if_neg (by omega), if_neg (by omega), show (2 * L + 3 * p + 2 - 2 * L) / 3 = p by omega]
/-- what a write leaves as it was -/
theorem xI_ne (x : xS) {k j : Nat} (v : Int32) (h : j ≠ k) : xI (xI' x k v) j = xI x j := if_neg h
theorem xI_eq (x : xS) (k : Nat) (v : Int32) : xI (xI' x k v) k = v := if_pos rfl
theorem xU_I (g : wG) (ad : Nat → Nat) (L : Nat) (x : xS) (k : Nat) (hk : k < 4) (v : Int32) : wU (xE g ad L x) (xE g ad L (xI' x k v)) 0 (.inr (ciX, ([.ref (ad 6), .ref (ad 1), .ref (ad 2), .ref (ad 3), .ref (ad 4), .ref (ad 5), .int (xI x 0), .int (xI x 1), .int (xI x 2), .int (xI x 3)] : List Value).set (6 + k) (.int v))) := by
  refine ⟨?_, fun j hj => ?_⟩
  · match k, hk with
    | 0, _ => rfl
    | 1, _ => rfl
    | 2, _ => rfl
    | 3, _ => rfl
  · match j, hj with
    | 0, h => exact absurd rfl h
    | 1, _ => rfl
    | 2, _ =>
      match k, hk with
      | 0, _ => rfl
      | 1, _ => rfl
      | 2, _ => rfl
      | 3, _ => rfl
    | 3, _ => rfl
    | 4, _ => rfl
    | 5, _ => rfl
    | 6, _ => rfl
    | j + 7, _ => rfl
theorem xU_Fi (g : wG) (ad : Nat → Nat) (L : Nat) (x : xS) (k : Nat) (hk : k < 5) (v : Int32) : wU (xE g ad L x) (xE g ad L (xI' x (4 + k) v)) 2 (.inr (ciFan, ([.int (xI x 4), .int (xI x 5), .int (xI x 6), .int (xI x 7), .long (xF x), .int (xI x 8)] : List Value).set (if k = 4 then 5 else k) (.int v))) := by
  refine ⟨?_, fun j hj => ?_⟩
  · match k, hk with
    | 0, _ => rfl
    | 1, _ => rfl
    | 2, _ => rfl
    | 3, _ => rfl
    | 4, _ => rfl
  · match j, hj with
    | 0, _ =>
      match k, hk with
      | 0, _ => rfl
      | 1, _ => rfl
      | 2, _ => rfl
      | 3, _ => rfl
      | 4, _ => rfl
    | 1, _ => rfl
    | 2, h => exact absurd rfl h
    | 3, _ => rfl
    | 4, _ => rfl
    | 5, _ => rfl
    | 6, _ => rfl
    | j + 7, _ => rfl
theorem xU_F (g : wG) (ad : Nat → Nat) (L : Nat) (x : xS) (v : Int64) : wU (xE g ad L x) (xE g ad L (xF' x v)) 2 (.inr (ciFan, ([.int (xI x 4), .int (xI x 5), .int (xI x 6), .int (xI x 7), .long (xF x), .int (xI x 8)] : List Value).set 4 (.long v))) := by
  refine ⟨rfl, fun j hj => ?_⟩
  match j, hj with
  | 0, _ => rfl
  | 1, _ => rfl
  | 2, h => exact absurd rfl h
  | 3, _ => rfl
  | 4, _ => rfl
  | 5, _ => rfl
  | 6, _ => rfl
  | j + 7, _ => rfl
theorem xU_O (g : wG) (ad : Nat → Nat) (L : Nat) (x : xS) (k j : Nat) (hk : k < 3) (v : Int64) : wU (xE g ad L x) (xE g ad L (xO' x k j v)) (3 + k) (.inl (g.2 tJ, if k = 0 then 9 else 5, .inr (.inl (vp_updL (xO x k) j v)))) := by
  refine ⟨?_, fun i hi => ?_⟩
  · match k, hk with
    | 0, _ => simp [xE, xO, xO', va_up]
    | 1, _ => simp [xE, xO, xO', va_up]
    | 2, _ => simp [xE, xO, xO', va_up]
  · match i, hi with
    | 0, _ => rfl
    | 1, _ => rfl
    | 2, _ => rfl
    | 3, h => simp only [xE, xO, xO']; rw [va_up_ne _ _ (by omega)]
    | 4, h => simp only [xE, xO, xO']; rw [va_up_ne _ _ (by omega)]
    | 5, h => simp only [xE, xO, xO']; rw [va_up_ne _ _ (by omega)]
    | 6, _ => rfl
    | i + 7, _ => rfl
theorem xU_T (g : wG) (ad : Nat → Nat) (L : Nat) (x : xS) {i : Nat} (hi : i < L) (j : Nat) (v : Int64) : wU (xE g ad L x) (xE g ad L (xT' x i j v)) (8 + 2 * i) (.inl (g.2 tJ, 5, .inr (.inl (vp_updL (xT x i) j v)))) := by
  refine ⟨?_, fun k hk => ?_⟩
  · rw [xE_stk g ad L _ hi]
    simp [xT, xT', va_up]
  · match k, hk with
    | 0, _ => rfl
    | 1, _ => rfl
    | 2, _ => rfl
    | 3, _ => rfl
    | 4, _ => rfl
    | 5, _ => rfl
    | 6, _ => rfl
    | k + 7, h =>
      simp only [xE]
      by_cases h1 : k < 2 * L
      · rw [if_pos h1, if_pos h1]
        by_cases h2 : k % 2 = 0
        · rw [if_pos h2, if_pos h2]; rfl
        · rw [if_neg h2, if_neg h2]
          have h3 : k / 2 ≠ i := by omega
          simp only [xT, xT']
          rw [va_up_ne _ _ h3]
      · rw [if_neg h1, if_neg h1]; rfl
theorem xU_B (g : wG) (ad : Nat → Nat) (L : Nat) (x : xS) {i : Nat} (hi : i < L) (k : Nat) (hk : k < 2) (v : Int32) : wU (xE g ad L x) (xE g ad L (xB' x i k v)) (7 + 2 * i) (.inr (ciLay, ([.ref (ad (8 + 2 * i)), .int (xB x i 0), .int (xB x i 1)] : List Value).set (1 + k) (.int v))) := by
  refine ⟨?_, fun j hj => ?_⟩
  · rw [xE_lay g ad L _ hi]
    match k, hk with
    | 0, _ => simp [xB, xB', va_up, upd]
    | 1, _ => simp [xB, xB', va_up, upd]
  · match j, hj with
    | 0, _ => rfl
    | 1, _ => rfl
    | 2, _ => rfl
    | 3, _ => rfl
    | 4, _ => rfl
    | 5, _ => rfl
    | 6, _ => rfl
    | j + 7, h =>
      simp only [xE]
      by_cases h1 : j < 2 * L
      · rw [if_pos h1, if_pos h1]
        by_cases h2 : j % 2 = 0
        · rw [if_pos h2, if_pos h2]
          have h3 : j / 2 ≠ i := by omega
          simp only [xB, xB']
          rw [va_up_ne _ _ h3]
        · rw [if_neg h2, if_neg h2]; rfl
      · rw [if_neg h1, if_neg h1]; rfl
theorem xU_Y (g : wG) (ad : Nat → Nat) (L : Nat) (x : xS) (p : Nat) (k : Nat) (hk : k < 3) (v : Int32) : wU (xE g ad L x) (xE g ad L (xY' x p k v)) (7 + 2 * L + 3 * p) (.inr (ciKind, ([.ref (ad (8 + 2 * L + 3 * p)), .ref (ad (9 + 2 * L + 3 * p)), .int (xY x p 0), .int (xY x p 1), .int (xY x p 2)] : List Value).set (2 + k) (.int v))) := by
  refine ⟨?_, fun j hj => ?_⟩
  · rw [xE_kind g ad L]
    match k, hk with
    | 0, _ => simp [xY, xY', va_up, upd]
    | 1, _ => simp [xY, xY', va_up, upd]
    | 2, _ => simp [xY, xY', va_up, upd]
  · match j, hj with
    | 0, _ => rfl
    | 1, _ => rfl
    | 2, _ => rfl
    | 3, _ => rfl
    | 4, _ => rfl
    | 5, _ => rfl
    | 6, _ => rfl
    | j + 7, h =>
      simp only [xE]
      by_cases h1 : j < 2 * L
      · rw [if_pos h1, if_pos h1]; rfl
      · rw [if_neg h1, if_neg h1]
        by_cases h2 : (j - 2 * L) % 3 = 0
        · rw [if_pos h2, if_pos h2]
          have h3 : (j - 2 * L) / 3 ≠ p := by omega
          simp only [xY, xY']
          rw [va_up_ne _ _ h3]
        · rw [if_neg h2, if_neg h2]; rfl
theorem xU_R (g : wG) (ad : Nat → Nat) (L : Nat) (x : xS) (p k r : Nat) (hk : k < 2) (v : Int32) : wU (xE g ad L x) (xE g ad L (xR' x p k r v)) (8 + k + 2 * L + 3 * p) (.inl (g.2 tI, 4, .inl (upd (xR x p k) r v))) := by
  have h3 : ∀ j, j ≠ p → ∀ k', xR (xR' x p k r v) j k' = xR x j k' := by
    intro j hj k'
    simp only [xR, xR']
    rw [va_up_ne _ _ hj]
  have h4 : ∀ k', k' ≠ k → xR (xR' x p k r v) p k' = xR x p k' := by
    intro k' hk'
    simp only [xR, xR']
    rw [va_up_self, va_up_ne _ _ hk']
  refine ⟨?_, fun j hj => ?_⟩
  · match k, hk with
    | 0, _ =>
      rw [show 8 + 0 + 2 * L + 3 * p = 8 + 2 * L + 3 * p by omega, xE_from g ad L]
      simp [xR, xR', va_up]
    | 1, _ =>
      rw [show 8 + 1 + 2 * L + 3 * p = 9 + 2 * L + 3 * p by omega, xE_mill g ad L]
      simp [xR, xR', va_up]
  · match j, hj with
    | 0, _ => rfl
    | 1, _ => rfl
    | 2, _ => rfl
    | 3, _ => rfl
    | 4, _ => rfl
    | 5, _ => rfl
    | 6, _ => rfl
    | j + 7, h =>
      simp only [xE]
      by_cases h1 : j < 2 * L
      · rw [if_pos h1, if_pos h1]; rfl
      · rw [if_neg h1, if_neg h1]
        by_cases h2 : (j - 2 * L) % 3 = 0
        · rw [if_pos h2, if_pos h2]; rfl
        · rw [if_neg h2, if_neg h2]
          by_cases h5 : (j - 2 * L) / 3 = p
          · by_cases h6 : (j - 2 * L) % 3 = 1
            · rw [if_pos h6, if_pos h6, h5, h4 0 (by omega)]
            · rw [if_neg h6, if_neg h6, h5, h4 1 (by omega)]
          · rw [h3 _ h5, h3 _ h5]
