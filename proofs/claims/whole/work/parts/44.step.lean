/-! steps of a minute: the two ways are one, and the bounds hold -/
def f1 (x : xS) (i : Nat) : Int := (xT x i 0).toInt + (xT x i 1).toInt + (xT x i 2).toInt + (xT x i 3).toInt
def f2 (x : xS) (i : Nat) : Int := (xT x i 4).toInt + 100000 * ((xT x i 0).toInt + (xT x i 1).toInt + (xT x i 2).toInt)
def nn (x : xS) (i : Nat) : Prop := 0 ≤ (xT x i 0).toInt ∧ 0 ≤ (xT x i 1).toInt ∧ 0 ≤ (xT x i 2).toInt ∧ 0 ≤ (xT x i 3).toInt ∧ 0 ≤ (xT x i 4).toInt
theorem nn_of {x : xS} {i : Nat} (h : ∀ k, k < 5 → 0 ≤ (xT x i k).toInt) : nn x i := ⟨h 0 (by omega), h 1 (by omega), h 2 (by omega), h 3 (by omega), h 4 (by omega)⟩
theorem of_nn {x : xS} {i : Nat} (h : nn x i) : ∀ k, k < 5 → 0 ≤ (xT x i k).toInt := fun k hk => by
  match k, hk with
  | 0, _ => exact h.1
  | 1, _ => exact h.2.1
  | 2, _ => exact h.2.2.1
  | 3, _ => exact h.2.2.2.1
  | 4, _ => exact h.2.2.2.2
theorem S1_f (x : xS) (n : Nat) : x_S1 x (n + 1) = x_S1 x n + f1 x n := rfl
theorem S2_f (x : xS) (n : Nat) : x_S2 x (n + 1) = x_S2 x n + f2 x n := rfl
theorem S1_nn {x : xS} : ∀ n, (∀ i, i < n → nn x i) → 0 ≤ x_S1 x n ∧ ∀ i, i < n → f1 x i ≤ x_S1 x n
  | 0, _ => ⟨Int.le_refl _, fun i h => absurd h (Nat.not_lt_zero i)⟩
  | n + 1, h => by
    obtain ⟨h1, h2⟩ := S1_nn n (fun i hi => h i (by omega))
    have h3 := h n (by omega)
    have h4 : 0 ≤ f1 x n := by unfold f1; obtain ⟨a, b, c, d, -⟩ := h3; omega
    rw [S1_f]
    refine ⟨by omega, fun i hi => ?_⟩
    by_cases hin : i = n
    · subst hin; omega
    · have := h2 i (by omega); omega
theorem S2_nn {x : xS} : ∀ n, (∀ i, i < n → nn x i) → 0 ≤ x_S2 x n ∧ ∀ i, i < n → f2 x i ≤ x_S2 x n
  | 0, _ => ⟨Int.le_refl _, fun i h => absurd h (Nat.not_lt_zero i)⟩
  | n + 1, h => by
    obtain ⟨h1, h2⟩ := S2_nn n (fun i hi => h i (by omega))
    have h3 := h n (by omega)
    have h4 : 0 ≤ f2 x n := by unfold f2; obtain ⟨a, b, c, -, d⟩ := h3; omega
    rw [S2_f]
    refine ⟨by omega, fun i hi => ?_⟩
    by_cases hin : i = n
    · subst hin; omega
    · have := h2 i (by omega); omega
theorem S1_le {x y : xS} : ∀ n, (∀ i, i < n → f1 y i ≤ f1 x i) → x_S1 y n ≤ x_S1 x n
  | 0, _ => Int.le_refl _
  | n + 1, h => by
    have h1 := S1_le n (fun i hi => h i (by omega))
    have h2 := h n (by omega)
    rw [S1_f, S1_f]; omega
theorem S2_le {x y : xS} : ∀ n, (∀ i, i < n → f2 y i ≤ f2 x i) → x_S2 y n ≤ x_S2 x n
  | 0, _ => Int.le_refl _
  | n + 1, h => by
    have h1 := S2_le n (fun i hi => h i (by omega))
    have h2 := h n (by omega)
    rw [S2_f, S2_f]; omega
/-- what one layer's bounds are -/
theorem ok_at {L : Nat} {A B : Int} {x : xS} (h : x_ok L A B x) {i : Nat} (hi : i < L) : nn x i ∧ f1 x i ≤ A ∧ f2 x i ≤ B := by
  obtain ⟨h1, h2, h3⟩ := h
  have hn : ∀ i, i < L → nn x i := fun i hi => nn_of (h1 i hi)
  exact ⟨hn i hi, Int.le_trans ((S1_nn L hn).2 i hi) h2, Int.le_trans ((S2_nn L hn).2 i hi) h3⟩
/-- one layer is changed, and has not more -/
theorem ok_step {L : Nat} {A B : Int} {x y : xS} (h : x_ok L A B x) (i : Nat) (ho : ∀ a c, a ≠ i → xT y a c = xT x a c) (hn : i < L → nn y i) (h1 : i < L → f1 y i ≤ f1 x i) (h2 : i < L → f2 y i ≤ f2 x i) : x_ok L A B y := by
  refine ⟨fun a ha => ?_, Int.le_trans (S1_le L (fun a ha => ?_)) h.2.1, Int.le_trans (S2_le L (fun a ha => ?_)) h.2.2⟩
  · by_cases hai : a = i
    · subst hai; exact of_nn (hn ha)
    · intro k hk; rw [ho a k hai]; exact h.1 a ha k hk
  · by_cases hai : a = i
    · subst hai; exact h1 ha
    · unfold f1; rw [ho a 0 hai, ho a 1 hai, ho a 2 hai, ho a 3 hai]; exact Int.le_refl _
  · by_cases hai : a = i
    · subst hai; exact h2 ha
    · unfold f2; rw [ho a 0 hai, ho a 1 hai, ho a 2 hai, ho a 4 hai]; exact Int.le_refl _
/-- the part of the state that the bounds speak of, told apart -/
def par (x : xS) : (Nat → Int32) × (Nat → Nat → Int32) × (Nat → Nat → Nat → Int32) × (Nat → Nat → Int32) := (x.1, x.2.2.2.1, x.2.2.2.2.1, x.2.2.2.2.2.1)
theorem par_T (x : xS) (i k : Nat) (v : Int64) : par (xT' x i k v) = par x := rfl
theorem par_O (x : xS) (i k : Nat) (v : Int64) : par (xO' x i k v) = par x := rfl
theorem par_F (x : xS) (v : Int64) : par (xF' x v) = par x := rfl
theorem par_of {x y : xS} (h : par y = par x) (hp : x_par x) : x_par y := by
  simp only [par, Prod.mk.injEq] at h
  obtain ⟨a1, a2, a3, a4⟩ := h
  obtain ⟨h1, h2, h3, h4, h5, h6, h7⟩ := hp
  have b1 : ∀ k, xI y k = xI x k := fun k => congrFun a1 k
  have b2 : ∀ i k, xB y i k = xB x i k := fun i k => congrFun (congrFun a2 i) k
  have b3 : ∀ p k r, xR y p k r = xR x p k r := fun p k r => congrFun (congrFun (congrFun a3 p) k) r
  have b4 : ∀ p k, xY y p k = xY x p k := fun p k => congrFun (congrFun a4 p) k
  refine ⟨fun p hp r => ?_, fun p hp => ?_, ?_, ?_, ?_, ?_, fun i => ?_⟩
  · rw [b3]; exact h1 p hp r
  · rw [b4, b4]; exact h2 p hp
  · rw [b1]; exact h3
  · rw [b1]; exact h4
  · rw [b1]; exact h5
  · rw [b1]; exact h6
  · rw [b2]; exact h7 i
/-- a kind's millionths are within bounds -/
theorem mAt_le {x : xS} (hp : x_par x) {p : Nat} (h3 : p < 3) (w : Int64) : ∀ n, 0 ≤ (x_mAtN x p w n).toInt ∧ (x_mAtN x p w n).toInt ≤ 100000
  | 0 => by
    show 0 ≤ (0 : Int32).toInt ∧ (0 : Int32).toInt ≤ 100000
    decide
  | n + 1 => by
    rw [x_mAtN]
    split
    · exact mAt_le hp h3 w n
    · exact hp.1 p h3 n
