/-! turning keeps what is in all layers -/
def col (x : xS) (k : Nat) : Nat → Int
  | 0 => 0
  | n + 1 => col x k n + (xT x n k).toInt
theorem S_col (x : xS) : ∀ n, x_S1 x n = col x 0 n + col x 1 n + col x 2 n + col x 3 n ∧ x_S2 x n = col x 4 n + 100000 * (col x 0 n + col x 1 n + col x 2 n)
  | 0 => ⟨rfl, rfl⟩
  | n + 1 => by
    obtain ⟨h1, h2⟩ := S_col x n
    rw [S1_f, S2_f, h1, h2]
    unfold f1 f2
    simp only [col]
    omega
theorem col_nn {x : xS} {k : Nat} : ∀ n, (∀ i, i < n → 0 ≤ (xT x i k).toInt) → 0 ≤ col x k n
  | 0, _ => Int.le_refl _
  | n + 1, h => by
    have h1 := col_nn n (fun i hi => h i (by omega))
    have h2 := h n (by omega)
    rw [col]; omega
theorem col_congr {x y : xS} {k : Nat} : ∀ n, (∀ a, a < n → xT x a k = xT y a k) → col x k n = col y k n
  | 0, _ => rfl
  | n + 1, h => by rw [col, col, col_congr n (fun a ha => h a (by omega)), h n (by omega)]
theorem inAll_ti {x : xS} {k L : Nat} (h : ∀ i, i < L → 0 ≤ (xT x i k).toInt) (hb : col x k L ≤ 100000000000000) : ∀ n, n ≤ L → (x_inAllN x k n).toInt = col x k n ∧ col x k n ≤ col x k L
  | 0, _ => ⟨ti_0, col_nn L h⟩
  | n + 1, hn => by
    have hm : ∀ d m, m + d ≤ L → col x k m ≤ col x k (m + d) := by
      intro d
      induction d with
      | zero => exact fun m _ => Int.le_refl _
      | succ d ih =>
        intro m hm
        have h1 := ih m (by omega)
        have h2 := h (m + d) (by omega)
        rw [show m + (d + 1) = (m + d) + 1 by omega, col]; omega
    obtain ⟨e, b⟩ := inAll_ti h hb n (by omega)
    have h0 := col_nn n (fun i hi => h i (by omega))
    have h1 := h n (by omega)
    have h2 := hm (L - (n + 1)) (n + 1) (by omega)
    rw [show n + 1 + (L - (n + 1)) = L by omega] at h2
    have h3 : col x k (n + 1) = col x k n + (xT x n k).toInt := rfl
    refine ⟨?_, h2⟩
    rw [x_inAllN, ti_add (by rw [e]; omega) (by rw [e]; omega), e, h3]
theorem ok_share {L : Nat} (hL : 1 ≤ L ∧ L ≤ 6) {A B : Int} (hA : A ≤ 5000000000) (hB : B ≤ 80000000000000) {x : xS} (h : x_ok L A B x) {k : Nat} (hk : k < 5) : x_ok L A B (x_share L x k) := by
  obtain ⟨hn, h1, h2⟩ := h
  have hnk : ∀ k, k < 5 → ∀ i, i < L → 0 ≤ (xT x i k).toInt := fun k hk i hi => hn i hi k hk
  have c0 := col_nn L (hnk 0 (by omega))
  have c1 := col_nn L (hnk 1 (by omega))
  have c2 := col_nn L (hnk 2 (by omega))
  have c3 := col_nn L (hnk 3 (by omega))
  have c4 := col_nn L (hnk 4 (by omega))
  rw [(S_col x L).1] at h1
  rw [(S_col x L).2] at h2
  have hb : col x k L ≤ 100000000000000 := by
    match k, hk with
    | 0, _ => omega
    | 1, _ => omega
    | 2, _ => omega
    | 3, _ => omega
    | 4, _ => omega
  have hu0 := col_nn L (hnk k hk)
  have hu := (inAll_ti (hnk k hk) hb L (Nat.le_refl L)).1
  obtain ⟨U, hU⟩ : ∃ z9, z9 = col x k L := ⟨_, rfl⟩
  rw [← hU] at hu hb hu0
  have hc : (Int32.toInt64 (nI L)).toInt = (L : Int) := by rw [ti_i, nI_toInt (by omega)]
  obtain ⟨u, hu'⟩ : ∃ z9, z9 = x_inAllN x k L := ⟨_, rfl⟩
  rw [← hu'] at hu
  have hL0 : (0 : Int) < (L : Int) := by omega
  have e1 : (u / Int32.toInt64 (nI L)).toInt = U / (L : Int) := by rw [ti_div (by rw [hu]; exact hu0) (by rw [hc]; exact hL0), hu, hc]
  have hE0 : 0 ≤ U / (L : Int) := Int.ediv_nonneg hu0 (by omega)
  have hE1 : U / (L : Int) * (L : Int) ≤ U := Int.ediv_mul_le U (by omega)
  have hE2 : U < (U / (L : Int) + 1) * (L : Int) := Int.lt_ediv_add_one_mul_self U hL0
  obtain ⟨E, hE⟩ : ∃ z9, z9 = U / (L : Int) := ⟨_, rfl⟩
  rw [← hE] at e1 hE0 hE1 hE2
  rw [Int.add_mul, Int.one_mul] at hE2
  have hEU : E ≤ U := by rw [hE]; exact Int.ediv_le_self _ hu0
  obtain ⟨P, hP⟩ : ∃ z9, z9 = E * (L : Int) := ⟨_, rfl⟩
  rw [← hP] at hE1 hE2
  have hP0 : 0 ≤ P := by rw [hP]; exact Int.mul_nonneg hE0 (by omega)
  have e2 : (u / Int32.toInt64 (nI L) * Int32.toInt64 (nI L)).toInt = P := by
    rw [ti_mul (by rw [e1, hc, ← hP]; omega) (by rw [e1, hc, ← hP]; omega), e1, hc, hP]
  have e3 : (u - u / Int32.toInt64 (nI L) * Int32.toInt64 (nI L)).toInt = U - P := by
    rw [ti_sub (by rw [e2, hu]; omega) (by rw [e2, hu]; omega), e2, hu]
  have hs : ∀ a, a < L → (m_share L u a).toInt = if U - P ≤ (a : Int) then E else E + 1 := by
    intro a ha
    rw [share_eq]
    have ha' : (Int32.toInt64 (nI a)).toInt = (a : Int) := by rw [ti_i, nI_toInt (by omega)]
    by_cases q : 0 ≤ lg_cmp (Int32.toInt64 (nI a)) (u - u / Int32.toInt64 (nI L) * Int32.toInt64 (nI L))
    · rw [if_pos q]
      have := le_ti.mp ((lg_cmp_ge _ _).mp q)
      rw [e3, ha'] at this
      rw [if_pos this, e1]
    · rw [if_neg q]
      have : ¬ U - P ≤ (a : Int) := fun z => q ((lg_cmp_ge _ _).mpr (le_ti.mpr (by rw [e3, ha']; exact z)))
      rw [if_neg this, ti_add (by rw [e1, ti_1]; omega) (by rw [e1, ti_1]; omega), e1, ti_1]
  have ht : ∀ a c, xT (x_share L x k) a c = if a < L ∧ c = k then m_share L u a else xT x a c := fun a c => by rw [xT_share, ← hu']
  have hcol : ∀ n, n ≤ L → col (x_share L x k) k n = (n : Int) * E + (if (n : Int) ≤ U - P then (n : Int) else U - P) := by
    intro n
    induction n with
    | zero =>
      intro _
      show (0 : Int) = _
      rw [if_pos (show ((0 : Nat) : Int) ≤ U - P by omega)]
      simp
    | succ n ih =>
      intro hn
      rw [col, ih (by omega), ht, if_pos (show n < L ∧ k = k from ⟨by omega, rfl⟩), hs n (by omega)]
      have : ((n + 1 : Nat) : Int) * E = (n : Int) * E + E := by
        rw [Int.natCast_add, Int.add_mul]; simp
      rw [this]
      generalize (n : Int) * E = M
      split <;> split <;> split <;> omega
  have hkk : col (x_share L x k) k L = col x k L := by
    rw [hcol L (Nat.le_refl L), ← hU, Int.mul_comm (L : Int) E, ← hP]
    split <;> omega
  have hall : ∀ c, col (x_share L x k) c L = col x c L := by
    intro c
    by_cases hck : c = k
    · subst hck; exact hkk
    · exact col_congr L (fun a _ => by rw [ht, if_neg (fun q => hck q.2)])
  refine ⟨fun a ha c hc5 => ?_, ?_, ?_⟩
  · rw [ht]
    split
    · rw [hs a ha]; split <;> omega
    · exact hn a ha c hc5
  · rw [(S_col _ L).1, hall, hall, hall, hall]; exact h1
  · rw [(S_col _ L).2, hall, hall, hall, hall]; exact h2
theorem oT_share (L : Nat) (x : xS) (k : Nat) : oT (x_share L x k) = oT x := by
  unfold x_share
  dsimp only
  rw [oT_shareN]
theorem inv_turn' {L t : Nat} (hL : 1 ≤ L ∧ L ≤ 6) {x : xS} (h : x_inv L t x) (ht : t < 512) : x_inv L (t + 1) (x_turn L x).2 := by
  obtain ⟨hrow, hp, c, d, o⟩ := id h
  have hA : 1000000 * (t : Int) + 100000 * (xO x 0 8).toInt ≤ 5000000000 := by omega
  have hB : 101000000000 * (t : Int) ≤ 80000000000000 := by omega
  have o0 := ok_share hL hA hB o (show 0 < 5 by omega)
  have o1 := ok_share hL hA hB o0 (show 1 < 5 by omega)
  have o2 := ok_share hL hA hB o1 (show 2 < 5 by omega)
  have o3 := ok_share hL hA hB o2 (show 3 < 5 by omega)
  have o4 := ok_share hL hA hB o3 (show 4 < 5 by omega)
  obtain ⟨y, hy⟩ : ∃ z9, z9 = x_share L (x_share L (x_share L (x_share L (x_share L x 0) 1) 2) 3) 4 := ⟨_, rfl⟩
  rw [← hy] at o4
  have e : oT y = oT x := by rw [hy, oT_share, oT_share, oT_share, oT_share, oT_share]
  have hx : (x_turn L x).2 = xI' y 3 (xI y 3 + 1) := by rw [hy]; rfl
  have h8 : xO (x_turn L x).2 0 8 = xO x 0 8 := by
    rw [hx]
    exact congrFun (congrFun (congrArg (fun z => z.2.2.2.2.2) e) 0) 8
  have hpy : x_par y := par_of (congrArg (fun z => (z.1, z.2.2.1, z.2.2.2.1, z.2.2.2.2.1)) e) hp
  have hry : x_rows y := x_rows_of (congrArg (fun z => z.2.2.2.2.1) e) hrow
  refine ⟨by rw [hx]; exact hry, ?_, by rw [h8]; exact c, by rw [h8]; exact d, ?_⟩
  · rw [hx]
    obtain ⟨a1, a2, a3, a4, a5, a6, a7⟩ := hpy
    exact ⟨a1, a2, a3, a4, a5, a6, a7⟩
  · rw [h8, hx]
    exact ok_mono (ok_same o4 (fun _ _ => rfl)) (by omega) (by omega)
