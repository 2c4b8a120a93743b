/-! THE INVARIANT: what was told lies in its bounds; stocks are not negative, and what is in all layers is bounded by the calls and minutes so far -/
def x_par (x : xS) : Prop := (∀ p, p < 3 → ∀ r, 0 ≤ (xR x p 1 r).toInt ∧ (xR x p 1 r).toInt ≤ 100000) ∧ (∀ p, p < 3 → 0 ≤ (xY x p 1).toInt ∧ (xY x p 1).toInt ≤ 100000 ∧ 0 ≤ (xY x p 2).toInt ∧ (xY x p 2).toInt ≤ 1000) ∧ (0 ≤ (xI x 0).toInt ∧ (xI x 0).toInt ≤ 100000) ∧ (0 ≤ (xI x 1).toInt ∧ (xI x 1).toInt ≤ 1000000) ∧ 0 ≤ (xI x 2).toInt ∧ (0 ≤ (xI x 8).toInt ∧ (xI x 8).toInt ≤ 1000) ∧ ∀ i, 0 ≤ (xB x i 1).toInt
def x_S1 (x : xS) : Nat → Int
  | 0 => 0
  | n + 1 => x_S1 x n + ((xT x n 0).toInt + (xT x n 1).toInt + (xT x n 2).toInt + (xT x n 3).toInt)
def x_S2 (x : xS) : Nat → Int
  | 0 => 0
  | n + 1 => x_S2 x n + ((xT x n 4).toInt + 100000 * ((xT x n 0).toInt + (xT x n 1).toInt + (xT x n 2).toInt))
def x_ok (L : Nat) (A B : Int) (x : xS) : Prop := (∀ i, i < L → ∀ k, k < 5 → 0 ≤ (xT x i k).toInt) ∧ x_S1 x L ≤ A ∧ x_S2 x L ≤ B
def x_inv (L t : Nat) (x : xS) : Prop := x_rows x ∧ x_par x ∧ 0 ≤ (xO x 0 8).toInt ∧ (xO x 0 8).toInt ≤ 20000 ∧ x_ok L (1000000 * (t : Int) + 100000 * (xO x 0 8).toInt) (101000000000 * (t : Int)) x
