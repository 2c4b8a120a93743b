/-! THE REFERENCE'S CELLS, a picture of the SAME state: 0 this, 1 parts, 2 waters, 3 heats, 4 dry, 5 holds, 6 counts of rows, 7 their warmths, 8 their rates, 9 and 10 yields, 11 gone, 12 put, 13 taken -/
def mPut (x : xS) : Nat → Int64 := fun k => if k = 0 then xO x 1 0 + xO x 1 1 + xO x 1 2 else if k = 1 then xO x 1 3 else if k = 2 then xO x 1 4 else 0
def mTak (x : xS) : Nat → Int64 := fun k => if k = 0 then xO x 2 0 + xO x 2 1 + xO x 2 2 else if k = 1 then xO x 2 3 else if k = 2 then xO x 2 4 else 0
abbrev mF (ad : Nat → Nat) (L : Nat) (x : xS) : List Value := [.int (nI L), .ref (ad 1), .ref (ad 2), .ref (ad 3), .ref (ad 4), .ref (ad 5), .ref (ad 6), .ref (ad 7), .ref (ad 8), .ref (ad 9), .ref (ad 10), .int (xI x 0), .int (xI x 1), .int (xI x 4), .int (xI x 5), .int (xI x 6), .int (xI x 7), .long (xF x), .int (xI x 8), .long (Int32.toInt64 (xI x 2)), .int (xI x 3), .ref (ad 11), .ref (ad 12), .ref (ad 13)]
def mE (g : wG) (ad : Nat → Nat) (L : Nat) (x : xS) : Nat → va_E
  | 0 => .inr (ciM, mF ad L x)
  | 1 => .inl (g.2 tJ, 18, .inr (.inl (fun k => xT x (k / 3) (k % 3))))
  | 2 => .inl (g.2 tJ, 6, .inr (.inl (fun i => xT x i 3)))
  | 3 => .inl (g.2 tJ, 6, .inr (.inl (fun i => xT x i 4)))
  | 4 => .inl (g.2 tJ, 6, .inr (.inl (fun i => Int32.toInt64 (xB x i 0))))
  | 5 => .inl (g.2 tJ, 6, .inr (.inl (fun i => Int32.toInt64 (xB x i 1))))
  | 6 => .inl (g.2 tI, 3, .inl (fun p => xY x p 0))
  | 7 => .inl (g.2 tI, 12, .inl (fun k => xR x (k / 4) 0 (k % 4)))
  | 8 => .inl (g.2 tI, 12, .inl (fun k => xR x (k / 4) 1 (k % 4)))
  | 9 => .inl (g.2 tI, 3, .inl (fun p => xY x p 1))
  | 10 => .inl (g.2 tI, 3, .inl (fun p => xY x p 2))
  | 11 => .inl (g.2 tJ, 9, .inr (.inl (xO x 0)))
  | 12 => .inl (g.2 tJ, 3, .inr (.inl (mPut x)))
  | 13 => .inl (g.2 tJ, 3, .inr (.inl (mTak x)))
  | _ + 14 => .inr (0, [])
theorem m3 {l p : Nat} (hp : p < 3) : (3 * l + p) / 3 = l ∧ (3 * l + p) % 3 = p := by omega
theorem m4 {l p : Nat} (hp : p < 4) : (4 * l + p) / 4 = l ∧ (4 * l + p) % 4 = p := by omega
theorem mPA (x : xS) (l p : Nat) (hp : p < 3) : xT x ((3 * l + p) / 3) ((3 * l + p) % 3) = xT x l p := by
  rw [(m3 hp).1, (m3 hp).2]
theorem mRW (x : xS) (l p j : Nat) (hp : p < 4) : xR x ((4 * l + p) / 4) j ((4 * l + p) % 4) = xR x l j p := by
  rw [(m4 hp).1, (m4 hp).2]
theorem mI3 (l p : Nat) : (3 : Int32) * nI l + nI p = nI (3 * l + p) := by
  rw [show (3 : Int32) = nI 3 from rfl, pk_mul, nI_add]
theorem mI4 (l p : Nat) : (4 : Int32) * nI l + nI p = nI (4 * l + p) := by
  rw [show (4 : Int32) = nI 4 from rfl, pk_mul, nI_add]
theorem mI4' (l : Nat) : (4 : Int32) * nI l = nI (4 * l) := by
  rw [show (4 : Int32) = nI 4 from rfl, pk_mul]
/-- reading and writing the state's parts -/
theorem xT_get (x : xS) (i j a b : Nat) (v : Int64) : xT (xT' x i j v) a b = if a = i ∧ b = j then v else xT x a b := by
  simp only [xT, xT', va_up]
  by_cases h : a = i
  · subst h
    rw [if_pos rfl]
    simp only [vp_updL]
    by_cases h2 : b = j <;> simp [h2]
  · rw [if_neg h, if_neg (fun q => h q.1)]
theorem xB_get (x : xS) (i j a b : Nat) (v : Int32) : xB (xB' x i j v) a b = if a = i ∧ b = j then v else xB x a b := by
  simp only [xB, xB', va_up]
  by_cases h : a = i
  · subst h
    rw [if_pos rfl]
    simp only [upd]
    by_cases h2 : b = j <;> simp [h2]
  · rw [if_neg h, if_neg (fun q => h q.1)]
theorem xY_get (x : xS) (i j a b : Nat) (v : Int32) : xY (xY' x i j v) a b = if a = i ∧ b = j then v else xY x a b := by
  simp only [xY, xY', va_up]
  by_cases h : a = i
  · subst h
    rw [if_pos rfl]
    simp only [upd]
    by_cases h2 : b = j <;> simp [h2]
  · rw [if_neg h, if_neg (fun q => h q.1)]
theorem xR_get (x : xS) (p k r a b c : Nat) (v : Int32) : xR (xR' x p k r v) a b c = if a = p ∧ b = k ∧ c = r then v else xR x a b c := by
  by_cases h : a = p <;> by_cases h2 : b = k <;> by_cases h3 : c = r <;> simp [xR, xR', va_up, upd, h, h2, h3]
theorem xO_get (x : xS) (k j a b : Nat) (v : Int64) : xO (xO' x k j v) a b = if a = k ∧ b = j then v else xO x a b := by
  simp only [xO, xO', va_up]
  by_cases h : a = k
  · subst h
    rw [if_pos rfl]
    simp only [vp_updL]
    by_cases h2 : b = j <;> simp [h2]
  · rw [if_neg h, if_neg (fun q => h q.1)]
theorem xI_get (x : xS) (k a : Nat) (v : Int32) : xI (xI' x k v) a = if a = k then v else xI x a := rfl
theorem mU_PA (g : wG) (ad : Nat → Nat) (L : Nat) (x : xS) {i p : Nat} (hp : p < 3) (v : Int64) : wU (mE g ad L x) (mE g ad L (xT' x i p v)) 1 (.inl (g.2 tJ, 18, .inr (.inl (vp_updL (fun k => xT x (k / 3) (k % 3)) (3 * i + p) v)))) := by
  refine ⟨?_, fun j hj => ?_⟩
  · refine congrArg (fun f => (Sum.inl (_, _, Sum.inr (Sum.inl f)) : va_E)) (funext fun k => ?_)
    rw [xT_get]
    unfold vp_updL
    by_cases h : k = 3 * i + p
    · rw [if_pos h, if_pos (by omega)]
    · rw [if_neg h, if_neg (by omega)]
  · exact match j, hj with
    | 0, h => rfl
    | 1, h => absurd rfl h
    | 2, h => congrArg (fun f => (Sum.inl (_, _, Sum.inr (Sum.inl f)) : va_E)) (funext fun k => by rw [xT_get, if_neg (by omega)])
    | 3, h => congrArg (fun f => (Sum.inl (_, _, Sum.inr (Sum.inl f)) : va_E)) (funext fun k => by rw [xT_get, if_neg (by omega)])
    | 4, h => rfl
    | 5, h => rfl
    | 6, h => rfl
    | 7, h => rfl
    | 8, h => rfl
    | 9, h => rfl
    | 10, h => rfl
    | 11, h => rfl
    | 12, h => rfl
    | 13, h => rfl
    | j + 14, _ => rfl
theorem mU_WA (g : wG) (ad : Nat → Nat) (L : Nat) (x : xS) (i : Nat) (v : Int64) : wU (mE g ad L x) (mE g ad L (xT' x i 3 v)) 2 (.inl (g.2 tJ, 6, .inr (.inl (vp_updL (fun i => xT x i 3) i v)))) := by
  refine ⟨?_, fun j hj => ?_⟩
  · refine congrArg (fun f => (Sum.inl (_, _, Sum.inr (Sum.inl f)) : va_E)) (funext fun k => ?_)
    rw [xT_get]
    unfold vp_updL
    by_cases h : k = i
    · rw [if_pos h, if_pos (by omega)]
    · rw [if_neg h, if_neg (by omega)]
  · exact match j, hj with
    | 0, h => rfl
    | 1, h => congrArg (fun f => (Sum.inl (_, _, Sum.inr (Sum.inl f)) : va_E)) (funext fun k => by rw [xT_get, if_neg (by have := Nat.mod_lt k (show 0 < 3 by decide); omega)])
    | 2, h => absurd rfl h
    | 3, h => congrArg (fun f => (Sum.inl (_, _, Sum.inr (Sum.inl f)) : va_E)) (funext fun k => by rw [xT_get, if_neg (by omega)])
    | 4, h => rfl
    | 5, h => rfl
    | 6, h => rfl
    | 7, h => rfl
    | 8, h => rfl
    | 9, h => rfl
    | 10, h => rfl
    | 11, h => rfl
    | 12, h => rfl
    | 13, h => rfl
    | j + 14, _ => rfl
theorem mU_HE (g : wG) (ad : Nat → Nat) (L : Nat) (x : xS) (i : Nat) (v : Int64) : wU (mE g ad L x) (mE g ad L (xT' x i 4 v)) 3 (.inl (g.2 tJ, 6, .inr (.inl (vp_updL (fun i => xT x i 4) i v)))) := by
  refine ⟨?_, fun j hj => ?_⟩
  · refine congrArg (fun f => (Sum.inl (_, _, Sum.inr (Sum.inl f)) : va_E)) (funext fun k => ?_)
    rw [xT_get]
    unfold vp_updL
    by_cases h : k = i
    · rw [if_pos h, if_pos (by omega)]
    · rw [if_neg h, if_neg (by omega)]
  · exact match j, hj with
    | 0, h => rfl
    | 1, h => congrArg (fun f => (Sum.inl (_, _, Sum.inr (Sum.inl f)) : va_E)) (funext fun k => by rw [xT_get, if_neg (by have := Nat.mod_lt k (show 0 < 3 by decide); omega)])
    | 2, h => congrArg (fun f => (Sum.inl (_, _, Sum.inr (Sum.inl f)) : va_E)) (funext fun k => by rw [xT_get, if_neg (by omega)])
    | 3, h => absurd rfl h
    | 4, h => rfl
    | 5, h => rfl
    | 6, h => rfl
    | 7, h => rfl
    | 8, h => rfl
    | 9, h => rfl
    | 10, h => rfl
    | 11, h => rfl
    | 12, h => rfl
    | 13, h => rfl
    | j + 14, _ => rfl
theorem mU_DR (g : wG) (ad : Nat → Nat) (L : Nat) (x : xS) (i : Nat) (v : Int32) : wU (mE g ad L x) (mE g ad L (xB' x i 0 v)) 4 (.inl (g.2 tJ, 6, .inr (.inl (vp_updL (fun i => Int32.toInt64 (xB x i 0)) i (Int32.toInt64 v))))) := by
  refine ⟨?_, fun j hj => ?_⟩
  · refine congrArg (fun f => (Sum.inl (_, _, Sum.inr (Sum.inl f)) : va_E)) (funext fun k => ?_)
    rw [xB_get]
    unfold vp_updL
    by_cases h : k = i
    · rw [if_pos h, if_pos (by omega)]
    · rw [if_neg h, if_neg (by omega)]
  · exact match j, hj with
    | 0, h => rfl
    | 1, h => rfl
    | 2, h => rfl
    | 3, h => rfl
    | 4, h => absurd rfl h
    | 5, h => congrArg (fun f => (Sum.inl (_, _, Sum.inr (Sum.inl f)) : va_E)) (funext fun k => by rw [xB_get, if_neg (by omega)])
    | 6, h => rfl
    | 7, h => rfl
    | 8, h => rfl
    | 9, h => rfl
    | 10, h => rfl
    | 11, h => rfl
    | 12, h => rfl
    | 13, h => rfl
    | j + 14, _ => rfl
theorem mU_HO (g : wG) (ad : Nat → Nat) (L : Nat) (x : xS) (i : Nat) (v : Int32) : wU (mE g ad L x) (mE g ad L (xB' x i 1 v)) 5 (.inl (g.2 tJ, 6, .inr (.inl (vp_updL (fun i => Int32.toInt64 (xB x i 1)) i (Int32.toInt64 v))))) := by
  refine ⟨?_, fun j hj => ?_⟩
  · refine congrArg (fun f => (Sum.inl (_, _, Sum.inr (Sum.inl f)) : va_E)) (funext fun k => ?_)
    rw [xB_get]
    unfold vp_updL
    by_cases h : k = i
    · rw [if_pos h, if_pos (by omega)]
    · rw [if_neg h, if_neg (by omega)]
  · exact match j, hj with
    | 0, h => rfl
    | 1, h => rfl
    | 2, h => rfl
    | 3, h => rfl
    | 4, h => congrArg (fun f => (Sum.inl (_, _, Sum.inr (Sum.inl f)) : va_E)) (funext fun k => by rw [xB_get, if_neg (by omega)])
    | 5, h => absurd rfl h
    | 6, h => rfl
    | 7, h => rfl
    | 8, h => rfl
    | 9, h => rfl
    | 10, h => rfl
    | 11, h => rfl
    | 12, h => rfl
    | 13, h => rfl
    | j + 14, _ => rfl
theorem mU_RC (g : wG) (ad : Nat → Nat) (L : Nat) (x : xS) (p : Nat) (v : Int32) : wU (mE g ad L x) (mE g ad L (xY' x p 0 v)) 6 (.inl (g.2 tI, 3, .inl (upd (fun p => xY x p 0) p v))) := by
  refine ⟨?_, fun j hj => ?_⟩
  · refine congrArg (fun f => (Sum.inl (_, _, Sum.inl f) : va_E)) (funext fun k => ?_)
    rw [xY_get]
    unfold upd
    by_cases h : k = p
    · rw [if_pos h, if_pos (by omega)]
    · rw [if_neg h, if_neg (by omega)]
  · exact match j, hj with
    | 0, h => rfl
    | 1, h => rfl
    | 2, h => rfl
    | 3, h => rfl
    | 4, h => rfl
    | 5, h => rfl
    | 6, h => absurd rfl h
    | 7, h => rfl
    | 8, h => rfl
    | 9, h => congrArg (fun f => (Sum.inl (_, _, Sum.inl f) : va_E)) (funext fun k => by rw [xY_get, if_neg (by omega)])
    | 10, h => congrArg (fun f => (Sum.inl (_, _, Sum.inl f) : va_E)) (funext fun k => by rw [xY_get, if_neg (by omega)])
    | 11, h => rfl
    | 12, h => rfl
    | 13, h => rfl
    | j + 14, _ => rfl
theorem mU_HY (g : wG) (ad : Nat → Nat) (L : Nat) (x : xS) (p : Nat) (v : Int32) : wU (mE g ad L x) (mE g ad L (xY' x p 1 v)) 9 (.inl (g.2 tI, 3, .inl (upd (fun p => xY x p 1) p v))) := by
  refine ⟨?_, fun j hj => ?_⟩
  · refine congrArg (fun f => (Sum.inl (_, _, Sum.inl f) : va_E)) (funext fun k => ?_)
    rw [xY_get]
    unfold upd
    by_cases h : k = p
    · rw [if_pos h, if_pos (by omega)]
    · rw [if_neg h, if_neg (by omega)]
  · exact match j, hj with
    | 0, h => rfl
    | 1, h => rfl
    | 2, h => rfl
    | 3, h => rfl
    | 4, h => rfl
    | 5, h => rfl
    | 6, h => congrArg (fun f => (Sum.inl (_, _, Sum.inl f) : va_E)) (funext fun k => by rw [xY_get, if_neg (by omega)])
    | 7, h => rfl
    | 8, h => rfl
    | 9, h => absurd rfl h
    | 10, h => congrArg (fun f => (Sum.inl (_, _, Sum.inl f) : va_E)) (funext fun k => by rw [xY_get, if_neg (by omega)])
    | 11, h => rfl
    | 12, h => rfl
    | 13, h => rfl
    | j + 14, _ => rfl
theorem mU_WY (g : wG) (ad : Nat → Nat) (L : Nat) (x : xS) (p : Nat) (v : Int32) : wU (mE g ad L x) (mE g ad L (xY' x p 2 v)) 10 (.inl (g.2 tI, 3, .inl (upd (fun p => xY x p 2) p v))) := by
  refine ⟨?_, fun j hj => ?_⟩
  · refine congrArg (fun f => (Sum.inl (_, _, Sum.inl f) : va_E)) (funext fun k => ?_)
    rw [xY_get]
    unfold upd
    by_cases h : k = p
    · rw [if_pos h, if_pos (by omega)]
    · rw [if_neg h, if_neg (by omega)]
  · exact match j, hj with
    | 0, h => rfl
    | 1, h => rfl
    | 2, h => rfl
    | 3, h => rfl
    | 4, h => rfl
    | 5, h => rfl
    | 6, h => congrArg (fun f => (Sum.inl (_, _, Sum.inl f) : va_E)) (funext fun k => by rw [xY_get, if_neg (by omega)])
    | 7, h => rfl
    | 8, h => rfl
    | 9, h => congrArg (fun f => (Sum.inl (_, _, Sum.inl f) : va_E)) (funext fun k => by rw [xY_get, if_neg (by omega)])
    | 10, h => absurd rfl h
    | 11, h => rfl
    | 12, h => rfl
    | 13, h => rfl
    | j + 14, _ => rfl
theorem mU_RW (g : wG) (ad : Nat → Nat) (L : Nat) (x : xS) {p r : Nat} (hr : r < 4) (v : Int32) : wU (mE g ad L x) (mE g ad L (xR' x p 0 r v)) 7 (.inl (g.2 tI, 12, .inl (upd (fun k => xR x (k / 4) 0 (k % 4)) (4 * p + r) v))) := by
  refine ⟨?_, fun j hj => ?_⟩
  · refine congrArg (fun f => (Sum.inl (_, _, Sum.inl f) : va_E)) (funext fun k => ?_)
    rw [xR_get]
    unfold upd
    by_cases h : k = 4 * p + r
    · rw [if_pos h, if_pos (by omega)]
    · rw [if_neg h, if_neg (by omega)]
  · exact match j, hj with
    | 0, h => rfl
    | 1, h => rfl
    | 2, h => rfl
    | 3, h => rfl
    | 4, h => rfl
    | 5, h => rfl
    | 6, h => rfl
    | 7, h => absurd rfl h
    | 8, h => congrArg (fun f => (Sum.inl (_, _, Sum.inl f) : va_E)) (funext fun k => by rw [xR_get, if_neg (by omega)])
    | 9, h => rfl
    | 10, h => rfl
    | 11, h => rfl
    | 12, h => rfl
    | 13, h => rfl
    | j + 14, _ => rfl
theorem mU_RR (g : wG) (ad : Nat → Nat) (L : Nat) (x : xS) {p r : Nat} (hr : r < 4) (v : Int32) : wU (mE g ad L x) (mE g ad L (xR' x p 1 r v)) 8 (.inl (g.2 tI, 12, .inl (upd (fun k => xR x (k / 4) 1 (k % 4)) (4 * p + r) v))) := by
  refine ⟨?_, fun j hj => ?_⟩
  · refine congrArg (fun f => (Sum.inl (_, _, Sum.inl f) : va_E)) (funext fun k => ?_)
    rw [xR_get]
    unfold upd
    by_cases h : k = 4 * p + r
    · rw [if_pos h, if_pos (by omega)]
    · rw [if_neg h, if_neg (by omega)]
  · exact match j, hj with
    | 0, h => rfl
    | 1, h => rfl
    | 2, h => rfl
    | 3, h => rfl
    | 4, h => rfl
    | 5, h => rfl
    | 6, h => rfl
    | 7, h => congrArg (fun f => (Sum.inl (_, _, Sum.inl f) : va_E)) (funext fun k => by rw [xR_get, if_neg (by omega)])
    | 8, h => absurd rfl h
    | 9, h => rfl
    | 10, h => rfl
    | 11, h => rfl
    | 12, h => rfl
    | 13, h => rfl
    | j + 14, _ => rfl
theorem mU_GO (g : wG) (ad : Nat → Nat) (L : Nat) (x : xS) (j0 : Nat) (v : Int64) : wU (mE g ad L x) (mE g ad L (xO' x 0 j0 v)) 11 (.inl (g.2 tJ, 9, .inr (.inl (vp_updL (xO x 0) j0 v)))) := by
  refine ⟨?_, fun j hj => ?_⟩
  · refine congrArg (fun f => (Sum.inl (_, _, Sum.inr (Sum.inl f)) : va_E)) (funext fun k => ?_)
    rw [xO_get]
    unfold vp_updL
    by_cases h : k = j0
    · rw [if_pos h, if_pos (by omega)]
    · rw [if_neg h, if_neg (by omega)]
  · exact match j, hj with
    | 0, h => rfl
    | 1, h => rfl
    | 2, h => rfl
    | 3, h => rfl
    | 4, h => rfl
    | 5, h => rfl
    | 6, h => rfl
    | 7, h => rfl
    | 8, h => rfl
    | 9, h => rfl
    | 10, h => rfl
    | 11, h => absurd rfl h
    | 12, h => rfl
    | 13, h => rfl
    | j + 14, _ => rfl
theorem mU_rain (g : wG) (ad : Nat → Nat) (L : Nat) (x : xS) (v : Int32) : wU (mE g ad L x) (mE g ad L (xI' x 0 v)) 0 (.inr (ciM, (mF ad L x).set 11 (.int v))) := by
  refine ⟨?_, fun j hj => ?_⟩
  · rfl
  · exact match j, hj with
    | 0, h => absurd rfl h
    | 1, h => rfl
    | 2, h => rfl
    | 3, h => rfl
    | 4, h => rfl
    | 5, h => rfl
    | 6, h => rfl
    | 7, h => rfl
    | 8, h => rfl
    | 9, h => rfl
    | 10, h => rfl
    | 11, h => rfl
    | 12, h => rfl
    | 13, h => rfl
    | j + 14, _ => rfl
theorem mU_loss (g : wG) (ad : Nat → Nat) (L : Nat) (x : xS) (v : Int32) : wU (mE g ad L x) (mE g ad L (xI' x 1 v)) 0 (.inr (ciM, (mF ad L x).set 12 (.int v))) := by
  refine ⟨?_, fun j hj => ?_⟩
  · rfl
  · exact match j, hj with
    | 0, h => absurd rfl h
    | 1, h => rfl
    | 2, h => rfl
    | 3, h => rfl
    | 4, h => rfl
    | 5, h => rfl
    | 6, h => rfl
    | 7, h => rfl
    | 8, h => rfl
    | 9, h => rfl
    | 10, h => rfl
    | 11, h => rfl
    | 12, h => rfl
    | 13, h => rfl
    | j + 14, _ => rfl
theorem mU_hasFan (g : wG) (ad : Nat → Nat) (L : Nat) (x : xS) (v : Int32) : wU (mE g ad L x) (mE g ad L (xI' x 4 v)) 0 (.inr (ciM, (mF ad L x).set 13 (.int v))) := by
  refine ⟨?_, fun j hj => ?_⟩
  · rfl
  · exact match j, hj with
    | 0, h => absurd rfl h
    | 1, h => rfl
    | 2, h => rfl
    | 3, h => rfl
    | 4, h => rfl
    | 5, h => rfl
    | 6, h => rfl
    | 7, h => rfl
    | 8, h => rfl
    | 9, h => rfl
    | 10, h => rfl
    | 11, h => rfl
    | 12, h => rfl
    | 13, h => rfl
    | j + 14, _ => rfl
theorem mU_target (g : wG) (ad : Nat → Nat) (L : Nat) (x : xS) (v : Int32) : wU (mE g ad L x) (mE g ad L (xI' x 5 v)) 0 (.inr (ciM, (mF ad L x).set 14 (.int v))) := by
  refine ⟨?_, fun j hj => ?_⟩
  · rfl
  · exact match j, hj with
    | 0, h => absurd rfl h
    | 1, h => rfl
    | 2, h => rfl
    | 3, h => rfl
    | 4, h => rfl
    | 5, h => rfl
    | 6, h => rfl
    | 7, h => rfl
    | 8, h => rfl
    | 9, h => rfl
    | 10, h => rfl
    | 11, h => rfl
    | 12, h => rfl
    | 13, h => rfl
    | j + 14, _ => rfl
theorem mU_byNow (g : wG) (ad : Nat → Nat) (L : Nat) (x : xS) (v : Int32) : wU (mE g ad L x) (mE g ad L (xI' x 6 v)) 0 (.inr (ciM, (mF ad L x).set 15 (.int v))) := by
  refine ⟨?_, fun j hj => ?_⟩
  · rfl
  · exact match j, hj with
    | 0, h => absurd rfl h
    | 1, h => rfl
    | 2, h => rfl
    | 3, h => rfl
    | 4, h => rfl
    | 5, h => rfl
    | 6, h => rfl
    | 7, h => rfl
    | 8, h => rfl
    | 9, h => rfl
    | 10, h => rfl
    | 11, h => rfl
    | 12, h => rfl
    | 13, h => rfl
    | j + 14, _ => rfl
theorem mU_bySum (g : wG) (ad : Nat → Nat) (L : Nat) (x : xS) (v : Int32) : wU (mE g ad L x) (mE g ad L (xI' x 7 v)) 0 (.inr (ciM, (mF ad L x).set 16 (.int v))) := by
  refine ⟨?_, fun j hj => ?_⟩
  · rfl
  · exact match j, hj with
    | 0, h => absurd rfl h
    | 1, h => rfl
    | 2, h => rfl
    | 3, h => rfl
    | 4, h => rfl
    | 5, h => rfl
    | 6, h => rfl
    | 7, h => rfl
    | 8, h => rfl
    | 9, h => rfl
    | 10, h => rfl
    | 11, h => rfl
    | 12, h => rfl
    | 13, h => rfl
    | j + 14, _ => rfl
theorem mU_air (g : wG) (ad : Nat → Nat) (L : Nat) (x : xS) (v : Int32) : wU (mE g ad L x) (mE g ad L (xI' x 8 v)) 0 (.inr (ciM, (mF ad L x).set 18 (.int v))) := by
  refine ⟨?_, fun j hj => ?_⟩
  · rfl
  · exact match j, hj with
    | 0, h => absurd rfl h
    | 1, h => rfl
    | 2, h => rfl
    | 3, h => rfl
    | 4, h => rfl
    | 5, h => rfl
    | 6, h => rfl
    | 7, h => rfl
    | 8, h => rfl
    | 9, h => rfl
    | 10, h => rfl
    | 11, h => rfl
    | 12, h => rfl
    | 13, h => rfl
    | j + 14, _ => rfl
theorem mU_turns (g : wG) (ad : Nat → Nat) (L : Nat) (x : xS) (v : Int32) : wU (mE g ad L x) (mE g ad L (xI' x 3 v)) 0 (.inr (ciM, (mF ad L x).set 20 (.int v))) := by
  refine ⟨?_, fun j hj => ?_⟩
  · rfl
  · exact match j, hj with
    | 0, h => absurd rfl h
    | 1, h => rfl
    | 2, h => rfl
    | 3, h => rfl
    | 4, h => rfl
    | 5, h => rfl
    | 6, h => rfl
    | 7, h => rfl
    | 8, h => rfl
    | 9, h => rfl
    | 10, h => rfl
    | 11, h => rfl
    | 12, h => rfl
    | 13, h => rfl
    | j + 14, _ => rfl
theorem mU_limit (g : wG) (ad : Nat → Nat) (L : Nat) (x : xS) (v : Int32) : wU (mE g ad L x) (mE g ad L (xI' x 2 v)) 0 (.inr (ciM, (mF ad L x).set 19 (.long (Int32.toInt64 v)))) := by
  refine ⟨?_, fun j hj => ?_⟩
  · rfl
  · exact match j, hj with
    | 0, h => absurd rfl h
    | 1, h => rfl
    | 2, h => rfl
    | 3, h => rfl
    | 4, h => rfl
    | 5, h => rfl
    | 6, h => rfl
    | 7, h => rfl
    | 8, h => rfl
    | 9, h => rfl
    | 10, h => rfl
    | 11, h => rfl
    | 12, h => rfl
    | 13, h => rfl
    | j + 14, _ => rfl
theorem mU_sum (g : wG) (ad : Nat → Nat) (L : Nat) (x : xS) (v : Int64) : wU (mE g ad L x) (mE g ad L (xF' x v)) 0 (.inr (ciM, (mF ad L x).set 17 (.long v))) := by
  refine ⟨?_, fun j hj => ?_⟩
  · rfl
  · exact match j, hj with
    | 0, h => absurd rfl h
    | 1, h => rfl
    | 2, h => rfl
    | 3, h => rfl
    | 4, h => rfl
    | 5, h => rfl
    | 6, h => rfl
    | 7, h => rfl
    | 8, h => rfl
    | 9, h => rfl
    | 10, h => rfl
    | 11, h => rfl
    | 12, h => rfl
    | 13, h => rfl
    | j + 14, _ => rfl
theorem mU_PU0 (g : wG) (ad : Nat → Nat) (L : Nat) (x : xS) {p : Nat} (hp : p < 3) (v : Int64) : wU (mE g ad L x) (mE g ad L (xO' x 1 p (xO x 1 p + v))) 12 (.inl (g.2 tJ, 3, .inr (.inl (vp_updL (mPut x) 0 (mPut x 0 + v))))) := by
  refine ⟨?_, fun j hj => ?_⟩
  · refine congrArg (fun f => (Sum.inl (_, _, Sum.inr (Sum.inl f)) : va_E)) (funext fun k => ?_)
    by_cases h : k = 0
    · subst h
      match p, hp with
      | 0, _ => simp [mPut, vp_updL, xO_get]; ac_rfl
      | 1, _ => simp [mPut, vp_updL, xO_get]; ac_rfl
      | 2, _ => simp [mPut, vp_updL, xO_get]; ac_rfl
    · simp [mPut, vp_updL, xO_get, h, show ¬ 3 = p by omega, show ¬ 4 = p by omega]
  · exact match j, hj with
    | 0, h => rfl
    | 1, h => rfl
    | 2, h => rfl
    | 3, h => rfl
    | 4, h => rfl
    | 5, h => rfl
    | 6, h => rfl
    | 7, h => rfl
    | 8, h => rfl
    | 9, h => rfl
    | 10, h => rfl
    | 11, h => congrArg (fun f => (Sum.inl (_, _, Sum.inr (Sum.inl f)) : va_E)) (funext fun k => by rw [xO_get, if_neg (by omega)])
    | 12, h => absurd rfl h
    | 13, h => congrArg (fun f => (Sum.inl (_, _, Sum.inr (Sum.inl f)) : va_E)) (funext fun k => by simp only [mTak, xO_get]; simp)
    | j + 14, _ => rfl
theorem mU_PU1 (g : wG) (ad : Nat → Nat) (L : Nat) (x : xS) (v : Int64) : wU (mE g ad L x) (mE g ad L (xO' x 1 3 v)) 12 (.inl (g.2 tJ, 3, .inr (.inl (vp_updL (mPut x) 1 v)))) := by
  refine ⟨?_, fun j hj => ?_⟩
  · refine congrArg (fun f => (Sum.inl (_, _, Sum.inr (Sum.inl f)) : va_E)) (funext fun k => ?_)
    by_cases h : k = 1
    · simp [mPut, vp_updL, xO_get, h]
    · by_cases h0 : k = 0
      · simp [mPut, vp_updL, xO_get, h0]
      · simp [mPut, vp_updL, xO_get, h, h0]
  · exact match j, hj with
    | 0, h => rfl
    | 1, h => rfl
    | 2, h => rfl
    | 3, h => rfl
    | 4, h => rfl
    | 5, h => rfl
    | 6, h => rfl
    | 7, h => rfl
    | 8, h => rfl
    | 9, h => rfl
    | 10, h => rfl
    | 11, h => congrArg (fun f => (Sum.inl (_, _, Sum.inr (Sum.inl f)) : va_E)) (funext fun k => by rw [xO_get, if_neg (by omega)])
    | 12, h => absurd rfl h
    | 13, h => congrArg (fun f => (Sum.inl (_, _, Sum.inr (Sum.inl f)) : va_E)) (funext fun k => by simp only [mTak, xO_get]; simp)
    | j + 14, _ => rfl
theorem mU_PU2 (g : wG) (ad : Nat → Nat) (L : Nat) (x : xS) (v : Int64) : wU (mE g ad L x) (mE g ad L (xO' x 1 4 v)) 12 (.inl (g.2 tJ, 3, .inr (.inl (vp_updL (mPut x) 2 v)))) := by
  refine ⟨?_, fun j hj => ?_⟩
  · refine congrArg (fun f => (Sum.inl (_, _, Sum.inr (Sum.inl f)) : va_E)) (funext fun k => ?_)
    by_cases h : k = 2
    · simp [mPut, vp_updL, xO_get, h]
    · by_cases h0 : k = 0
      · simp [mPut, vp_updL, xO_get, h0]
      · by_cases h1 : k = 1
        · simp [mPut, vp_updL, xO_get, h1]
        · simp [mPut, vp_updL, xO_get, h, h0, h1]
  · exact match j, hj with
    | 0, h => rfl
    | 1, h => rfl
    | 2, h => rfl
    | 3, h => rfl
    | 4, h => rfl
    | 5, h => rfl
    | 6, h => rfl
    | 7, h => rfl
    | 8, h => rfl
    | 9, h => rfl
    | 10, h => rfl
    | 11, h => congrArg (fun f => (Sum.inl (_, _, Sum.inr (Sum.inl f)) : va_E)) (funext fun k => by rw [xO_get, if_neg (by omega)])
    | 12, h => absurd rfl h
    | 13, h => congrArg (fun f => (Sum.inl (_, _, Sum.inr (Sum.inl f)) : va_E)) (funext fun k => by simp only [mTak, xO_get]; simp)
    | j + 14, _ => rfl
theorem mU_TK0 (g : wG) (ad : Nat → Nat) (L : Nat) (x : xS) {p : Nat} (hp : p < 3) (v : Int64) : wU (mE g ad L x) (mE g ad L (xO' x 2 p (xO x 2 p + v))) 13 (.inl (g.2 tJ, 3, .inr (.inl (vp_updL (mTak x) 0 (mTak x 0 + v))))) := by
  refine ⟨?_, fun j hj => ?_⟩
  · refine congrArg (fun f => (Sum.inl (_, _, Sum.inr (Sum.inl f)) : va_E)) (funext fun k => ?_)
    by_cases h : k = 0
    · subst h
      match p, hp with
      | 0, _ => simp [mTak, vp_updL, xO_get]; ac_rfl
      | 1, _ => simp [mTak, vp_updL, xO_get]; ac_rfl
      | 2, _ => simp [mTak, vp_updL, xO_get]; ac_rfl
    · simp [mTak, vp_updL, xO_get, h, show ¬ 3 = p by omega, show ¬ 4 = p by omega]
  · exact match j, hj with
    | 0, h => rfl
    | 1, h => rfl
    | 2, h => rfl
    | 3, h => rfl
    | 4, h => rfl
    | 5, h => rfl
    | 6, h => rfl
    | 7, h => rfl
    | 8, h => rfl
    | 9, h => rfl
    | 10, h => rfl
    | 11, h => congrArg (fun f => (Sum.inl (_, _, Sum.inr (Sum.inl f)) : va_E)) (funext fun k => by rw [xO_get, if_neg (by omega)])
    | 12, h => congrArg (fun f => (Sum.inl (_, _, Sum.inr (Sum.inl f)) : va_E)) (funext fun k => by simp only [mPut, xO_get]; simp)
    | 13, h => absurd rfl h
    | j + 14, _ => rfl
theorem mU_TK1 (g : wG) (ad : Nat → Nat) (L : Nat) (x : xS) (v : Int64) : wU (mE g ad L x) (mE g ad L (xO' x 2 3 v)) 13 (.inl (g.2 tJ, 3, .inr (.inl (vp_updL (mTak x) 1 v)))) := by
  refine ⟨?_, fun j hj => ?_⟩
  · refine congrArg (fun f => (Sum.inl (_, _, Sum.inr (Sum.inl f)) : va_E)) (funext fun k => ?_)
    by_cases h : k = 1
    · simp [mTak, vp_updL, xO_get, h]
    · by_cases h0 : k = 0
      · simp [mTak, vp_updL, xO_get, h0]
      · simp [mTak, vp_updL, xO_get, h, h0]
  · exact match j, hj with
    | 0, h => rfl
    | 1, h => rfl
    | 2, h => rfl
    | 3, h => rfl
    | 4, h => rfl
    | 5, h => rfl
    | 6, h => rfl
    | 7, h => rfl
    | 8, h => rfl
    | 9, h => rfl
    | 10, h => rfl
    | 11, h => congrArg (fun f => (Sum.inl (_, _, Sum.inr (Sum.inl f)) : va_E)) (funext fun k => by rw [xO_get, if_neg (by omega)])
    | 12, h => congrArg (fun f => (Sum.inl (_, _, Sum.inr (Sum.inl f)) : va_E)) (funext fun k => by simp only [mPut, xO_get]; simp)
    | 13, h => absurd rfl h
    | j + 14, _ => rfl
theorem mU_TK2 (g : wG) (ad : Nat → Nat) (L : Nat) (x : xS) (v : Int64) : wU (mE g ad L x) (mE g ad L (xO' x 2 4 v)) 13 (.inl (g.2 tJ, 3, .inr (.inl (vp_updL (mTak x) 2 v)))) := by
  refine ⟨?_, fun j hj => ?_⟩
  · refine congrArg (fun f => (Sum.inl (_, _, Sum.inr (Sum.inl f)) : va_E)) (funext fun k => ?_)
    by_cases h : k = 2
    · simp [mTak, vp_updL, xO_get, h]
    · by_cases h0 : k = 0
      · simp [mTak, vp_updL, xO_get, h0]
      · by_cases h1 : k = 1
        · simp [mTak, vp_updL, xO_get, h1]
        · simp [mTak, vp_updL, xO_get, h, h0, h1]
  · exact match j, hj with
    | 0, h => rfl
    | 1, h => rfl
    | 2, h => rfl
    | 3, h => rfl
    | 4, h => rfl
    | 5, h => rfl
    | 6, h => rfl
    | 7, h => rfl
    | 8, h => rfl
    | 9, h => rfl
    | 10, h => rfl
    | 11, h => congrArg (fun f => (Sum.inl (_, _, Sum.inr (Sum.inl f)) : va_E)) (funext fun k => by rw [xO_get, if_neg (by omega)])
    | 12, h => congrArg (fun f => (Sum.inl (_, _, Sum.inr (Sum.inl f)) : va_E)) (funext fun k => by simp only [mPut, xO_get]; simp)
    | 13, h => absurd rfl h
    | j + 14, _ => rfl
