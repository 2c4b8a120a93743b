/-! WHAT THE CLASS'S METHODS DO, in its own numbers -/
def x_within (a b c : Int32) : Int32 := if a < b then 0 else if c < a then 0 else 1
def x_mo (u m : Int64) : Int64 := u / 1000000 * m + (u - u / 1000000 * 1000000) * m / 1000000
def x_min (x y : Int64) : Int64 := if y < x then y else x
def x_max (x y : Int64) : Int64 := if y < x then x else y
def x_cut (n lo hi : Int64) : Int64 := x_max lo (x_min hi n)
def x_la (L : Nat) (l : Int32) : Option Nat := if x_within l 0 (nI L - 1) = 0 then none else some l.toNatClampNeg
def x_bring (x : xS) (i k : Nat) (u : Int32) (most : Int64) : Int32 × xS :=
  if lg_cmp (xT x i k + Int32.toInt64 u) most ≤ 0 then
    let y := xT' x i k (xT x i k + Int32.toInt64 u)
    (1, xO' y 1 k (xO y 1 k + Int32.toInt64 u))
  else (0, x)
def x_bringAt (x : xS) (o : Option Nat) (k : Nat) (u : Int32) (most : Int64) : Int32 × xS := match o with
  | none => (0, x)
  | some i => x_bring x i k u most
def x_part (L : Nat) (x : xS) (l p u : Int32) : Int32 × xS :=
  if x_within p 0 2 = 0 then (0, x) else if x_within u 0 1000000 = 0 then (0, x) else x_bringAt x (x_la L l) p.toNatClampNeg u 1000000000
def x_water (L : Nat) (x : xS) (l u : Int32) : Int32 × xS :=
  if x_within u 0 1000000 = 0 then (0, x) else x_bringAt x (x_la L l) 3 u 1000000000
def x_heat (L : Nat) (x : xS) (l u : Int32) : Int32 × xS :=
  if x_within u 0 1000000000 = 0 then (0, x) else x_bringAt x (x_la L l) 4 u 1000000000000000
def x_addRow (x : xS) (p : Nat) (w m : Int32) : Int32 × xS :=
  let r := (xY x p 0).toNatClampNeg
  let ok : Int32 × xS :=
    let y := xR' x p 0 r w
    let y := xR' y p 1 r m
    (1, xY' y p 0 (xY y p 0 + 1))
  if 4 ≤ xY x p 0 then (0, x) else if xY x p 0 ≤ 0 then ok else if xR x p 0 (r - 1) < w then ok else (0, x)
def x_rate (x : xS) (p w m : Int32) : Int32 × xS :=
  if x_within p 0 2 = 0 then (0, x) else if x_within w 0 1000000 = 0 then (0, x) else if x_within m 0 100000 = 0 then (0, x) else x_addRow x p.toNatClampNeg w m
def x_yields (x : xS) (p h w : Int32) : Int32 × xS :=
  if x_within p 0 2 = 0 then (0, x) else if x_within h 0 100000 = 0 then (0, x) else if x_within w 0 1000 = 0 then (0, x) else
    (1, xY' (xY' x p.toNatClampNeg 1 h) p.toNatClampNeg 2 w)
def x_bounds (L : Nat) (x : xS) (l d h : Int32) : Int32 × xS := match x_la L l with
  | none => (0, x)
  | some i => if x_within d 0 1000000000 = 0 then (0, x) else if x_within h 0 1000000000 = 0 then (0, x) else (1, xB' (xB' x i 0 d) i 1 h)
def x_rain (x : xS) (u : Int32) : Int32 × xS := if x_within u 0 100000 = 0 then (0, x) else (1, xI' x 0 u)
def x_loss (x : xS) (u : Int32) : Int32 × xS := if x_within u 0 1000000 = 0 then (0, x) else (1, xI' x 1 u)
def x_limit (x : xS) (u : Int32) : Int32 × xS := if x_within u 0 1000000000 = 0 then (0, x) else (1, xI' x 2 u)
def x_tell (x : xS) (t p i : Int32) : xS := xF' (xI' (xI' (xI' (xI' x 4 1) 5 t) 6 p) 7 i) 0
def x_fan (x : xS) (t p i : Int32) : Int32 × xS :=
  if x_within t 0 1000000 = 0 then (0, x) else if x_within p (-1000) 1000 = 0 then (0, x) else if x_within i (-1000) 1000 = 0 then (0, x) else (1, x_tell x t p i)
/-- a layer -/
def x_mass (x : xS) (i : Nat) : Int64 := xT x i 3 + xT x i 0 + xT x i 1 + xT x i 2
def x_warm (x : xS) (i : Nat) : Int64 := if lg_cmp (x_mass x i) 0 ≤ 0 then 0 else xT x i 4 / x_mass x i
def x_surplus (x : xS) (i : Nat) : Int64 := x_max 0 (xT x i 3 - Int32.toInt64 (xB x i 1))
def x_takeSurplus (x : xS) (i : Nat) : xS := xT' x i 3 (xT x i 3 - x_surplus x i)
def x_gwN (x : xS) : Nat → Int64
  | 0 => 0
  | n + 1 => x_max (x_gwN x n) (x_warm x n)
/-- a kind's millionths at a warmth, by its first n rows -/
def x_mAtN (x : xS) (p : Nat) (w : Int64) : Nat → Int32
  | 0 => 0
  | n + 1 => if lg_cmp w (Int32.toInt64 (xR x p 0 n)) < 0 then x_mAtN x p w n else xR x p 1 n
def x_mAt (x : xS) (p : Nat) (w : Int64) : Int32 := x_mAtN x p w (xY x p 0).toNatClampNeg
def x_breakPart (x : xS) (i p : Nat) (w : Int64) : xS :=
  let gr := x_mo (xT x i p) (Int32.toInt64 (x_mAt x p w))
  let he := gr * Int32.toInt64 (xY x p 1)
  let wa := gr * Int32.toInt64 (xY x p 2) / 1000
  let x := xT' x i p (xT x i p - gr)
  let x := xT' x i 4 (xT x i 4 + he)
  let x := xT' x i 3 (xT x i 3 + wa)
  let x := xO' x 0 0 (xO x 0 0 + gr)
  let x := xO' x 0 4 (xO x 0 4 + he)
  xO' x 0 7 (xO x 0 7 + wa)
def x_break (x : xS) (i : Nat) : xS :=
  if 0 ≤ lg_cmp (xT x i 3) (Int32.toInt64 (xB x i 0)) then
    let w := x_warm x i
    x_breakPart (x_breakPart (x_breakPart x i 0 w) i 1 w) i 2 w
  else x
def x_loseHeat (x : xS) (i : Nat) : xS :=
  let he := x_mo (xT x i 4) (Int32.toInt64 (xI x 1))
  let x := xT' x i 4 (xT x i 4 - he)
  xO' x 0 5 (xO x 0 5 + he)
def x_driveOff (x : xS) (i : Nat) : xS :=
  let wa := x_mo (xT x i 3) (Int32.toInt64 (xI x 8))
  let he := x_min (wa * 600) (xT x i 4)
  let x := xT' x i 3 (xT x i 3 - wa)
  let x := xT' x i 4 (xT x i 4 - he)
  let x := xO' x 0 1 (xO x 0 1 + wa)
  xO' x 0 6 (xO x 0 6 + he)
def x_pour (L : Nat) (x : xS) (gr : Int64) (l : Int32) : xS := match x_la L l with
  | none => xO' x 0 2 (xO x 0 2 + gr)
  | some i => xT' x i 3 (xT x i 3 + gr)
def x_layer (L : Nat) (x : xS) (i : Nat) : xS :=
  let x := x_driveOff (x_loseHeat (x_break x i) i) i
  x_pour L (x_takeSurplus x i) (x_surplus x i) (nI (i + 1))
def x_layersN (L : Nat) (x : xS) : Nat → xS
  | 0 => x
  | n + 1 => x_layer L (x_layersN L x n) n
def x_floorDiv (x y : Int64) : Int64 := if 0 ≤ lg_cmp (x ^^^ y) 0 then x / y else if lg_cmp (x / y * y) x = 0 then x / y else x / y - 1
def x_adjust (x : xS) (gw : Int64) : xS :=
  if xI x 4 = 0 then x else
    let e := gw - Int32.toInt64 (xI x 5)
    let x := xF' x (x_cut (xF x + e) (-1000000000) 1000000000)
    xI' x 8 (Int64.toInt32 (x_cut (x_floorDiv (Int32.toInt64 (xI x 6) * e + Int32.toInt64 (xI x 7) * xF x) 1000) 0 1000))
def x_minute (L : Nat) (x : xS) : xS :=
  let x := x_pour L x (Int32.toInt64 (xI x 0)) 0
  let x := xO' x 0 3 (xO x 0 3 + Int32.toInt64 (xI x 0))
  let x := x_layersN L x L
  let x := x_adjust x (x_gwN x L)
  xO' x 0 8 (xO x 0 8 + 1)
/-- at most n minutes more -/
def x_goN (L : Nat) : Nat → xS → Nat × xS
  | 0, x => (0, x)
  | n + 1, x => if 0 < lg_cmp (x_gwN x L) (Int32.toInt64 (xI x 2)) then (0, x) else ((x_goN L n (x_minute L x)).1 + 1, (x_goN L n (x_minute L x)).2)
def x_run (L : Nat) (x : xS) (k : Int32) : Int32 × xS :=
  if x_within k 1 1000 = 0 then (-1, x) else if lg_cmp (xO x 0 8 + Int32.toInt64 k) 20000 ≤ 0 then (nI (x_goN L k.toNatClampNeg x).1, (x_goN L k.toNatClampNeg x).2) else (-1, x)
def x_left (L : Nat) (x : xS) (l p : Int32) : Int64 := match x_la L l with
  | none => -1
  | some i => if x_within p 0 2 = 0 then -1 else xT x i p.toNatClampNeg
def x_wet (L : Nat) (x : xS) (l : Int32) : Int64 := match x_la L l with
  | none => -1
  | some i => xT x i 3
def x_warmth (L : Nat) (x : xS) (l : Int32) : Int64 := match x_la L l with
  | none => -1
  | some i => x_warm x i
def x_inAllN (x : xS) (k : Nat) : Nat → Int64
  | 0 => 0
  | n + 1 => x_inAllN x k n + xT x n k
def x_shareN (x : xS) (k : Nat) (each over : Int64) : Nat → xS
  | 0 => x
  | n + 1 => xT' (x_shareN x k each over n) n k (if 0 ≤ lg_cmp (Int32.toInt64 (nI n)) over then each else each + 1)
def x_share (L : Nat) (x : xS) (k : Nat) : xS :=
  let u := x_inAllN x k L
  let c := Int32.toInt64 (nI L)
  x_shareN x k (u / c) (u - u / c * c) L
def x_turn (L : Nat) (x : xS) : Int32 × xS :=
  let x := x_share L (x_share L (x_share L (x_share L (x_share L x 0) 1) 2) 3) 4
  (xI x 3 + 1, xI' x 3 (xI x 3 + 1))
def x_gone (x : xS) (k : Int32) : Int64 := if x_within k 0 8 = 0 then -1 else xO x 0 k.toNatClampNeg
def x_less (L : Nat) (x : xS) (k : Nat) : Int64 := xO x 1 k - xO x 2 k - x_inAllN x k L
def x_balance (L : Nat) (x : xS) (k : Int32) : Int64 :=
  if k = 0 then x_less L x 0 + x_less L x 1 + x_less L x 2 - xO x 0 0
  else if k = 1 then x_less L x 3 + xO x 0 3 + xO x 0 7 - xO x 0 1 - xO x 0 2
  else if k = 2 then x_less L x 4 + xO x 0 4 - xO x 0 5 - xO x 0 6
  else -1
def x_takeN (x : xS) (i : Nat) : Nat → xS
  | 0 => x
  | n + 1 => xT' (xO' (x_takeN x i n) 2 n (xO (x_takeN x i n) 2 n + xT (x_takeN x i n) i n)) i n 0
def x_batchN (x : xS) : Nat → Int64 × xS
  | 0 => (0, x)
  | n + 1 => ((x_batchN x n).1 + x_mass (x_batchN x n).2 n, x_takeN (x_batchN x n).2 n 5)
/-! small facts -/
theorem nb_01 {v : Int32} (h : v = 0 ∨ v = 1) : narrow .boolean (.int v) = .int v := by
  rcases h with rfl | rfl <;> rfl
theorem x_within_01 (a b c : Int32) : x_within a b c = 0 ∨ x_within a b c = 1 := by
  unfold x_within
  split
  · exact Or.inl rfl
  · split
    · exact Or.inl rfl
    · exact Or.inr rfl
theorem nb_within (a b c : Int32) : narrow .boolean (.int (x_within a b c)) = .int (x_within a b c) := nb_01 (x_within_01 a b c)
theorem x_bring_01 (x : xS) (i k : Nat) (u : Int32) (most : Int64) : (x_bring x i k u most).1 = 0 ∨ (x_bring x i k u most).1 = 1 := by
  unfold x_bring
  split
  · exact Or.inr rfl
  · exact Or.inl rfl
theorem x_addRow_01 (x : xS) (p : Nat) (w m : Int32) : (x_addRow x p w m).1 = 0 ∨ (x_addRow x p w m).1 = 1 := by
  unfold x_addRow
  simp only
  split
  · exact Or.inl rfl
  · split
    · exact Or.inr rfl
    · split
      · exact Or.inr rfl
      · exact Or.inl rfl
/-- a number within 0 and a small bound is a small Nat -/
theorem x_within_nat {a c : Int32} {n : Nat} (hc : c.toInt = n) (h : ¬ x_within a 0 c = 0) : ∃ j : Nat, j ≤ n ∧ a = nI j := by
  unfold x_within at h
  by_cases h1 : a < 0
  · rw [if_pos h1] at h; exact absurd rfl h
  · rw [if_neg h1] at h
    by_cases h2 : c < a
    · rw [if_pos h2] at h; exact absurd rfl h
    · exact nI_of2 hc h1 (Int32.not_lt.mp h2)
theorem x_la_cases {L : Nat} (hL : 1 ≤ L ∧ L ≤ 6) (l : Int32) : x_la L l = none ∨ ∃ i, i < L ∧ l = nI i ∧ x_la L l = some i := by
  unfold x_la
  by_cases h : x_within l 0 (nI L - 1) = 0
  · rw [if_pos h]; exact Or.inl rfl
  · rw [if_neg h]
    obtain ⟨k, rfl⟩ : ∃ k, L = k + 1 := ⟨L - 1, by omega⟩
    rw [nI_pred] at h
    obtain ⟨j, hj, rfl⟩ := x_within_nat (nI_toInt (by omega)) h
    exact Or.inr ⟨j, by omega, rfl, by rw [nI_clamp (by omega)]⟩
theorem x_la_some {L : Nat} (hL : 1 ≤ L ∧ L ≤ 6) {l : Int32} (h : ¬ x_within l 0 (nI L - 1) = 0) : ∃ i, i < L ∧ l = nI i := by
  rcases x_la_cases hL l with h1 | ⟨i, h1, h2, -⟩
  · unfold x_la at h1
    rw [if_neg h] at h1
    cases h1
  · exact ⟨i, h1, h2⟩
def x_rows (x : xS) : Prop := ∀ p, p < 3 → ∃ r, r ≤ 4 ∧ xY x p 0 = nI r
theorem nI_dec {r : Nat} (hr : r ≤ 4) (h : ¬ nI r ≤ 0) : nI r - 1 = nI (r - 1) ∧ 1 ≤ r := by
  match r, hr, h with
  | 0, _, h => exact absurd (by decide) h
  | k + 1, _, _ => exact ⟨nI_pred k, by omega⟩
theorem nIL_ne0 {L : Nat} (hL : 1 ≤ L ∧ L ≤ 6) : ¬ Int32.toInt64 (nI L) = 0 := by
  rw [nI_l (by omega)]
  intro h
  have := (lN_eq (a := L) (b := 0) (by omega) (by omega)).mp h
  omega
theorem tab_out3 {a : Int32} (h0 : ¬ a = 0) (h1 : ¬ a = 1) (h2 : ¬ a = 2) : a.toInt < 0 ∨ 2 < a.toInt := by
  have e0 : a.toInt ≠ 0 := fun h => h0 (Int32.toInt_inj.mp (by rw [h]; rfl))
  have e1 : a.toInt ≠ 1 := fun h => h1 (Int32.toInt_inj.mp (by rw [h]; rfl))
  have e2 : a.toInt ≠ 2 := fun h => h2 (Int32.toInt_inj.mp (by rw [h]; rfl))
  omega
