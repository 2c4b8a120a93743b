/-! what needs no bounds: sums and shares -/
theorem mass_rest (x : xS) (n : Nat) : x_mass x n - xT x n 3 = xT x n 0 + xT x n 1 + xT x n 2 := by
  unfold x_mass
  grind
theorem there_all (x : xS) : ∀ n, m_thereN x n = x_inAllN x 0 n + x_inAllN x 1 n + x_inAllN x 2 n
  | 0 => rfl
  | n + 1 => by
    simp only [m_thereN, x_inAllN]
    rw [there_all x n, mass_rest]
    grind
theorem eq_balance' {L : Nat} (x : xS) (a : Int32) : m_balance L x a = x_balance L x a := by
  unfold m_balance x_balance
  by_cases h : x_within a 0 2 = 0
  · have h0 : ¬ a = 0 := fun q => by rw [q] at h; exact absurd h (by decide)
    have h1 : ¬ a = 1 := fun q => by rw [q] at h; exact absurd h (by decide)
    have h2 : ¬ a = 2 := fun q => by rw [q] at h; exact absurd h (by decide)
    rw [if_pos h, if_neg h0, if_neg h1, if_neg h2]
  · rw [if_neg h]
    obtain ⟨k, hk, rfl⟩ := x_within_nat (n := 2) (by decide) h
    match k, hk with
    | 0, _ =>
      rw [if_pos (by decide), if_pos (by decide)]
      simp only [mPut, mTak, x_less, there_all, if_true]
      grind
    | 1, _ =>
      rw [if_neg (by decide), if_pos (by decide), if_neg (by decide), if_pos (by decide)]
      rfl
    | 2, _ =>
      rw [if_neg (by decide), if_neg (by decide), if_neg (by decide), if_neg (by decide), if_pos (by decide)]
      rfl
/-- all of a state but its stocks -/
def oT (x : xS) : (Nat → Int32) × Int64 × (Nat → Nat → Int32) × (Nat → Nat → Nat → Int32) × (Nat → Nat → Int32) × (Nat → Nat → Int64) := (x.1, x.2.1, x.2.2.2)
theorem oT_T (x : xS) (i k : Nat) (v : Int64) : oT (xT' x i k v) = oT x := rfl
theorem xs_extT {x y : xS} (h : oT x = oT y) (ht : ∀ a b, xT x a b = xT y a b) : x = y := by
  obtain ⟨x1, x2, x3, x4⟩ := x
  obtain ⟨y1, y2, y3, y4⟩ := y
  simp only [oT, Prod.mk.injEq] at h
  obtain ⟨rfl, rfl, rfl⟩ := h
  have : x3 = y3 := funext fun a => funext fun b => ht a b
  rw [this]
theorem oT_shareN (x : xS) (k : Nat) (e o : Int64) : ∀ n, oT (x_shareN x k e o n) = oT x
  | 0 => rfl
  | n + 1 => by rw [x_shareN, oT_T, oT_shareN x k e o n]
theorem oT_share2N (L : Nat) (x : xS) (w h : Int64) : ∀ n, oT (m_share2N L x w h n) = oT x
  | 0 => rfl
  | n + 1 => by rw [m_share2N, oT_T, oT_T, oT_share2N L x w h n]
theorem xT_shareN (x : xS) (k : Nat) (e o : Int64) (a c : Nat) : ∀ n, xT (x_shareN x k e o n) a c = if a < n ∧ c = k then (if 0 ≤ lg_cmp (Int32.toInt64 (nI a)) o then e else e + 1) else xT x a c
  | 0 => by rw [if_neg (by omega)]; rfl
  | n + 1 => by
    rw [x_shareN, xT_get, xT_shareN x k e o a c n]
    by_cases h : a = n ∧ c = k
    · rw [if_pos h, if_pos (show a < n + 1 ∧ c = k by omega), h.1]
    · rw [if_neg h]
      by_cases h2 : a < n ∧ c = k
      · rw [if_pos h2, if_pos (show a < n + 1 ∧ c = k by omega)]
      · rw [if_neg h2, if_neg (show ¬ (a < n + 1 ∧ c = k) by omega)]
theorem share_eq (L : Nat) (all : Int64) (i : Nat) : m_share L all i = if 0 ≤ lg_cmp (Int32.toInt64 (nI i)) (all - all / Int32.toInt64 (nI L) * Int32.toInt64 (nI L)) then all / Int32.toInt64 (nI L) else all / Int32.toInt64 (nI L) + 1 := by
  unfold m_share
  split
  · exact Int64.add_zero _
  · rfl
theorem shareN_eq (L : Nat) (x : xS) (k : Nat) (all : Int64) : ∀ n, m_shareN L x k all n = x_shareN x k (all / Int32.toInt64 (nI L)) (all - all / Int32.toInt64 (nI L) * Int32.toInt64 (nI L)) n
  | 0 => rfl
  | n + 1 => by rw [m_shareN, x_shareN, shareN_eq L x k all n, share_eq]
theorem xT_share2N (L : Nat) (x : xS) (w h : Int64) (a c : Nat) : ∀ n, xT (m_share2N L x w h n) a c = if a < n ∧ c = 3 then m_share L w a else if a < n ∧ c = 4 then m_share L h a else xT x a c
  | 0 => by rw [if_neg (by omega), if_neg (by omega)]; rfl
  | n + 1 => by
    rw [m_share2N, xT_get, xT_get, xT_share2N L x w h a c n]
    by_cases h4 : a = n ∧ c = 4
    · rw [if_pos h4, if_neg (by omega), if_pos (by omega), h4.1]
    · rw [if_neg h4]
      by_cases h3 : a = n ∧ c = 3
      · rw [if_pos h3, if_pos (by omega), h3.1]
      · rw [if_neg h3]
        by_cases h5 : a < n ∧ c = 3
        · rw [if_pos h5, if_pos (by omega)]
        · rw [if_neg h5, if_neg (show ¬ (a < n + 1 ∧ c = 3) by omega)]
          by_cases h6 : a < n ∧ c = 4
          · rw [if_pos h6, if_pos (by omega)]
          · rw [if_neg h6, if_neg (by omega)]
theorem inAll_congr {x y : xS} {k : Nat} : ∀ n, (∀ a, a < n → xT x a k = xT y a k) → x_inAllN x k n = x_inAllN y k n
  | 0, _ => rfl
  | n + 1, h => by rw [x_inAllN, x_inAllN, inAll_congr n (fun a ha => h a (by omega)), h n (by omega)]
theorem xT_share (L : Nat) (y : xS) (k a c : Nat) : xT (x_share L y k) a c = if a < L ∧ c = k then m_share L (x_inAllN y k L) a else xT y a c := by
  unfold x_share
  dsimp only
  rw [xT_shareN, share_eq]
theorem eq_turn' {L : Nat} (x : xS) : m_turn L x = x_turn L x := by
  have key : ∀ y : xS, m_share2N L y (x_inAllN y 3 L) (x_inAllN y 4 L) L = x_share L (x_share L y 3) 4 := by
    intro y
    have e4 : x_inAllN (x_share L y 3) 4 L = x_inAllN y 4 L := inAll_congr L (fun a _ => by
      unfold x_share
      dsimp only
      rw [xT_shareN, if_neg (by omega)])
    apply xs_extT
    · rw [oT_share2N]
      unfold x_share
      dsimp only
      rw [oT_shareN, oT_shareN]
    · intro a c
      rw [xT_share2N]
      rw [xT_share L (x_share L y 3), e4, xT_share L y 3]
      by_cases h3 : a < L ∧ c = 3
      · rw [if_pos h3, if_neg (by omega), if_pos h3]
      · rw [if_neg h3, if_neg h3]
  unfold m_turn x_turn
  dsimp only
  rw [key, shareN_eq, shareN_eq, shareN_eq]
  rfl
