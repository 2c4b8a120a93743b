/-! a batch: both take the same away -/
/-- all of a state but stocks and longs -/
def oTO (x : xS) : (Nat → Int32) × Int64 × (Nat → Nat → Int32) × (Nat → Nat → Nat → Int32) × (Nat → Nat → Int32) := (x.1, x.2.1, x.2.2.2.1, x.2.2.2.2.1, x.2.2.2.2.2.1)
theorem oTO_T (x : xS) (i k : Nat) (v : Int64) : oTO (xT' x i k v) = oTO x := rfl
theorem oTO_O (x : xS) (i k : Nat) (v : Int64) : oTO (xO' x i k v) = oTO x := rfl
theorem xT_O (x : xS) (i k : Nat) (v : Int64) (a c : Nat) : xT (xO' x i k v) a c = xT x a c := rfl
theorem xO_T (x : xS) (i k : Nat) (v : Int64) (a c : Nat) : xO (xT' x i k v) a c = xO x a c := rfl
theorem oTO_takeN (x : xS) (i : Nat) : ∀ n, oTO (x_takeN x i n) = oTO x
  | 0 => rfl
  | n + 1 => by rw [x_takeN, oTO_T, oTO_O, oTO_takeN x i n]
theorem xT_takeN (x : xS) (i a c : Nat) : ∀ n, xT (x_takeN x i n) a c = if a = i ∧ c < n then 0 else xT x a c
  | 0 => by rw [if_neg (by omega)]; rfl
  | n + 1 => by
    rw [x_takeN, xT_get, xT_O, xT_takeN x i a c n]
    by_cases h : a = i ∧ c = n
    · rw [if_pos h, if_pos (by omega)]
    · rw [if_neg h]
      by_cases h2 : a = i ∧ c < n
      · rw [if_pos h2, if_pos (by omega)]
      · rw [if_neg h2, if_neg (by omega)]
theorem xO_takeN (x : xS) (i a c : Nat) : ∀ n, xO (x_takeN x i n) a c = if a = 2 ∧ c < n then xO x 2 c + xT x i c else xO x a c
  | 0 => by rw [if_neg (by omega)]; rfl
  | n + 1 => by
    rw [x_takeN, xO_T, xO_get, xO_takeN x i 2 n n, xT_takeN x i i n n, xO_takeN x i a c n, if_neg (show ¬ (2 = 2 ∧ n < n) by omega), if_neg (show ¬ (i = i ∧ n < n) by omega)]
    by_cases h : a = 2 ∧ c = n
    · rw [if_pos h, if_pos (by omega), h.2]
    · rw [if_neg h]
      by_cases h2 : a = 2 ∧ c < n
      · rw [if_pos h2, if_pos (by omega)]
      · rw [if_neg h2, if_neg (by omega)]
theorem oTO_batchN (x : xS) : ∀ n, oTO (x_batchN x n).2 = oTO x
  | 0 => rfl
  | n + 1 => by rw [x_batchN]; dsimp only; rw [oTO_takeN, oTO_batchN x n]
theorem xT_batchN (x : xS) (a c : Nat) : ∀ n, xT (x_batchN x n).2 a c = if a < n ∧ c < 5 then 0 else xT x a c
  | 0 => by rw [if_neg (by omega)]; rfl
  | n + 1 => by
    rw [x_batchN]; dsimp only
    rw [xT_takeN, xT_batchN x a c n]
    by_cases h : a = n ∧ c < 5
    · rw [if_pos h, if_pos (by omega)]
    · rw [if_neg h]
      by_cases h2 : a < n ∧ c < 5
      · rw [if_pos h2, if_pos (by omega)]
      · rw [if_neg h2, if_neg (by omega)]
theorem xO_batchN (x : xS) (a c : Nat) : ∀ n, xO (x_batchN x n).2 a c = if a = 2 ∧ c < 5 then xO x 2 c + x_inAllN x c n else xO x a c
  | 0 => by
    by_cases h : a = 2 ∧ c < 5
    · rw [if_pos h, h.1]; exact (Int64.add_zero _).symm
    · rw [if_neg h]; rfl
  | n + 1 => by
    rw [x_batchN]; dsimp only
    rw [xO_takeN, xO_batchN x 2 c n, xO_batchN x a c n, xT_batchN, if_neg (show ¬ (n < n ∧ c < 5) by omega), x_inAllN]
    by_cases h : a = 2 ∧ c < 5
    · rw [if_pos h, if_pos h, if_pos (show 2 = 2 ∧ c < 5 by omega), Int64.add_assoc]
    · rw [if_neg h, if_neg h, if_neg h]
theorem mass_batchN (x : xS) (n : Nat) : x_mass (x_batchN x n).2 n = x_mass x n := by
  unfold x_mass
  rw [xT_batchN, xT_batchN, xT_batchN, xT_batchN, if_neg (by omega), if_neg (by omega), if_neg (by omega), if_neg (by omega)]
theorem batch1 (x : xS) : ∀ n, (x_batchN x n).1 = m_thereN x n + x_inAllN x 3 n
  | 0 => rfl
  | n + 1 => by
    rw [x_batchN, m_thereN, x_inAllN]; dsimp only
    rw [batch1 x n, mass_batchN, mass_rest]
    unfold x_mass
    grind
theorem eq_batch1' {L : Nat} (x : xS) : (m_batch L x).1 = (x_batchN x L).1 := (batch1 x L).symm
theorem oT_zeroN (x : xS) : ∀ n, oT (m_zeroN x n) = oT x
  | 0 => rfl
  | n + 1 => by rw [m_zeroN, m_zero, oT_T, oT_T, oT_T, oT_T, oT_T, oT_zeroN x n]
theorem xT_zeroN (x : xS) (a c : Nat) : ∀ n, xT (m_zeroN x n) a c = if a < n ∧ c < 5 then 0 else xT x a c
  | 0 => by rw [if_neg (by omega)]; rfl
  | n + 1 => by
    rw [m_zeroN, m_zero, xT_get, xT_get, xT_get, xT_get, xT_get, xT_zeroN x a c n]
    by_cases h4 : a = n ∧ c = 4
    · rw [if_pos h4, if_pos (by omega)]
    rw [if_neg h4]
    by_cases h3 : a = n ∧ c = 3
    · rw [if_pos h3, if_pos (by omega)]
    rw [if_neg h3]
    by_cases h2 : a = n ∧ c = 2
    · rw [if_pos h2, if_pos (by omega)]
    rw [if_neg h2]
    by_cases h1 : a = n ∧ c = 1
    · rw [if_pos h1, if_pos (by omega)]
    rw [if_neg h1]
    by_cases h0 : a = n ∧ c = 0
    · rw [if_pos h0, if_pos (by omega)]
    rw [if_neg h0]
    by_cases h : a < n ∧ c < 5
    · rw [if_pos h, if_pos (by omega)]
    · rw [if_neg h, if_neg (by omega)]
/-- the reference's picture shows of a state only this -/
theorem mE_eq {g : wG} {ad : Nat → Nat} {L : Nat} {x y : xS} (h : oTO x = oTO y) (ht : ∀ a c, xT x a c = xT y a c) (h0 : ∀ c, xO x 0 c = xO y 0 c) (h1 : mPut x = mPut y) (h2 : mTak x = mTak y) : mE g ad L x = mE g ad L y := by
  have ht' : xT x = xT y := funext fun a => funext fun c => ht a c
  have h0' : xO x 0 = xO y 0 := funext h0
  simp only [oTO, Prod.mk.injEq] at h
  obtain ⟨a1, a2, a3, a4, a5⟩ := h
  have b1 : xI x = xI y := funext fun k => congrFun a1 k
  have b2 : xF x = xF y := a2
  have b3 : xB x = xB y := funext fun i => funext fun k => congrFun (congrFun a3 i) k
  have b4 : xR x = xR y := funext fun p => funext fun k => congrFun (congrFun a4 p) k
  have b5 : xY x = xY y := funext fun p => funext fun k => congrFun (congrFun a5 p) k
  funext k
  match k with
  | 0 => simp only [mE, mF, b1, b2]
  | 1 => simp only [mE, ht']
  | 2 => simp only [mE, ht']
  | 3 => simp only [mE, ht']
  | 4 => simp only [mE, b3]
  | 5 => simp only [mE, b3]
  | 6 => simp only [mE, b5]
  | 7 => simp only [mE, b4]
  | 8 => simp only [mE, b4]
  | 9 => simp only [mE, b5]
  | 10 => simp only [mE, b5]
  | 11 => simp only [mE, h0']
  | 12 => simp only [mE, h1]
  | 13 => simp only [mE, h2]
  | k + 14 => rfl
theorem eq_batch2' {L : Nat} (g : wG) (ad : Nat → Nat) (x : xS) : mE g ad L (m_batch L x).2 = mE g ad L (x_batchN x L).2 := by
  obtain ⟨x1, e1⟩ : ∃ z9, z9 = xO' x 2 0 (xO x 2 0 + m_thereN x L) := ⟨_, rfl⟩
  obtain ⟨x2, e2⟩ : ∃ z9, z9 = xO' x1 2 3 (mTak x1 1 + x_inAllN x1 3 L) := ⟨_, rfl⟩
  obtain ⟨x3, e3⟩ : ∃ z9, z9 = xO' x2 2 4 (mTak x2 2 + x_inAllN x2 4 L) := ⟨_, rfl⟩
  have hb : (m_batch L x).2 = m_zeroN x3 L := by
    rw [e3, e2, e1]; rfl
  rw [hb]
  have hT1 : ∀ a c, xT x1 a c = xT x a c := fun a c => by rw [e1]; rfl
  have hT2 : ∀ a c, xT x2 a c = xT x a c := fun a c => by rw [e2, xT_O, hT1]
  have hT3 : ∀ a c, xT x3 a c = xT x a c := fun a c => by rw [e3, xT_O, hT2]
  have hA1 : ∀ k, x_inAllN x1 k L = x_inAllN x k L := fun k => inAll_congr L (fun a _ => hT1 a k)
  have hA2 : ∀ k, x_inAllN x2 k L = x_inAllN x k L := fun k => inAll_congr L (fun a _ => hT2 a k)
  have hz : oT (m_zeroN x3 L) = oT x3 := oT_zeroN x3 L
  have hzO : ∀ a c, xO (m_zeroN x3 L) a c = xO x3 a c := fun a c => congrFun (congrFun (congrArg (fun z => z.2.2.2.2.2) hz) a) c
  have hzTO : oTO (m_zeroN x3 L) = oTO x3 := congrArg (fun z => (z.1, z.2.1, z.2.2.1, z.2.2.2.1, z.2.2.2.2.1)) hz
  have hO3 : ∀ a c, xO x3 a c = if a = 2 ∧ c = 4 then xO x 2 4 + x_inAllN x 4 L else if a = 2 ∧ c = 3 then xO x 2 3 + x_inAllN x 3 L else if a = 2 ∧ c = 0 then xO x 2 0 + m_thereN x L else xO x a c := by
    intro a c
    have q2 : mTak x2 2 = xO x 2 4 := by
      show xO x2 2 4 = _
      rw [e2, xO_get, if_neg (by omega), e1, xO_get, if_neg (by omega)]
    have q1 : mTak x1 1 = xO x 2 3 := by
      show xO x1 2 3 = _
      rw [e1, xO_get, if_neg (by omega)]
    rw [e3, xO_get, q2, hA2, e2, xO_get, q1, hA1, e1, xO_get]
  apply mE_eq
  · rw [hzTO, oTO_batchN, e3, oTO_O, e2, oTO_O, e1, oTO_O]
  · intro a c
    rw [xT_zeroN, xT_batchN, hT3]
  · intro c
    rw [hzO, hO3, xO_batchN, if_neg (by omega), if_neg (by omega), if_neg (by omega), if_neg (by omega)]
  · funext k
    simp only [mPut, hzO, hO3, xO_batchN]
    simp
  · funext k
    simp only [mTak, hzO, hO3, xO_batchN]
    by_cases h0 : k = 0
    · simp [h0]
      rw [there_all]
      grind
    · by_cases h1 : k = 1
      · simp [h1]
      · by_cases h2 : k = 2
        · simp [h2]
        · simp [h0, h1, h2]
