/-! THE START: all is 0; a layer holds 1000000000, the limit is 1000000000 -/
def x0 : xS := (fun k => if k = 2 then 1000000000 else 0, 0, fun _ _ => 0, fun i k => match k with | 1 => (if i < 6 then 1000000000 else 0) | _ => 0, fun _ _ _ => 0, fun _ _ => 0, fun _ _ => 0)
def x_cnt (a : Int32) : Int32 := if x_within a 1 6 = 0 then 1 else a
theorem x_cnt_L (a : Int32) : ∃ L : Nat, (1 ≤ L ∧ L ≤ 6) ∧ x_cnt a = nI L := by
  unfold x_cnt
  by_cases h : x_within a 1 6 = 0
  · rw [if_pos h]; exact ⟨1, by omega, rfl⟩
  · rw [if_neg h]
    unfold x_within at h
    by_cases h1 : a < 1
    · rw [if_pos h1] at h; exact absurd rfl h
    · rw [if_neg h1] at h
      by_cases h2 : (6 : Int32) < a
      · rw [if_pos h2] at h; exact absurd rfl h
      · have h3 : ¬ a < 0 := fun q => h1 (Int32.lt_trans q (by decide))
        obtain ⟨j, hj, rfl⟩ := nI_of2 (n := 6) (M := 6) (by decide) h3 (Int32.not_lt.mp h2)
        refine ⟨j, ⟨?_, hj⟩, rfl⟩
        rcases Nat.eq_zero_or_pos j with rfl | q
        · exact absurd (by decide) h1
        · exact q
theorem cnt_0 {a : Int32} {L : Nat} (h : x_within a 1 6 = 0) (hc : x_cnt a = nI L) : (1 : Int32) = nI L := by
  rw [← hc]; unfold x_cnt; rw [if_pos h]
theorem cnt_n {a : Int32} {L : Nat} (h : ¬ x_within a 1 6 = 0) (hc : x_cnt a = nI L) : a = nI L := by
  rw [← hc]; unfold x_cnt; rw [if_neg h]
theorem cnt_lt {a : Int32} {L : Nat} (h : a < 1) (hc : x_cnt a = nI L) : (1 : Int32) = nI L := cnt_0 (by unfold x_within; rw [if_pos h]) hc
theorem cnt_gt {a : Int32} {L : Nat} (h1 : ¬ a < 1) (h : (6 : Int32) < a) (hc : x_cnt a = nI L) : (1 : Int32) = nI L := cnt_0 (by unfold x_within; rw [if_neg h1, if_pos h]) hc
theorem cnt_in {a : Int32} {L : Nat} (h1 : ¬ a < 1) (h : ¬ (6 : Int32) < a) (hc : x_cnt a = nI L) : a = nI L := cnt_n (by unfold x_within; rw [if_neg h1, if_neg h]; decide) hc
/-- a layer, a kind that is being made behind n cells -/
def yE (g : wG) (E0 : Nat → va_E) (n : Nat) (f : List Value) : Nat → va_E := fun k => if k < n then E0 k else if k = n then .inr (ciLay, f) else .inl (g.2 tJ, 5, .inr (.inl (fun _ => 0)))
def kE (g : wG) (E0 : Nat → va_E) (n : Nat) (f : List Value) : Nat → va_E := fun k => if k < n then E0 k else if k = n then .inr (ciKind, f) else .inl (g.2 tI, 4, .inl (fun _ => 0))
theorem yE_lt (g : wG) (E0 : Nat → va_E) (n : Nat) (f : List Value) : ∀ k, k < n → yE g E0 n f k = E0 k := fun _ h => if_pos h
theorem kE_lt (g : wG) (E0 : Nat → va_E) (n : Nat) (f : List Value) : ∀ k, k < n → kE g E0 n f k = E0 k := fun _ h => if_pos h
theorem yE_at (g : wG) (E0 : Nat → va_E) (n : Nat) (f : List Value) : yE g E0 n f n = .inr (ciLay, f) := by
  unfold yE; rw [if_neg (Nat.lt_irrefl n), if_pos rfl]
theorem kE_at (g : wG) (E0 : Nat → va_E) (n : Nat) (f : List Value) : kE g E0 n f n = .inr (ciKind, f) := by
  unfold kE; rw [if_neg (Nat.lt_irrefl n), if_pos rfl]
theorem yE_gt (g : wG) (E0 : Nat → va_E) (n : Nat) (f : List Value) {k : Nat} (h : n < k) : yE g E0 n f k = .inl (g.2 tJ, 5, .inr (.inl (fun _ => 0))) := by
  unfold yE; rw [if_neg (by omega), if_neg (by omega)]
theorem kE_gt (g : wG) (E0 : Nat → va_E) (n : Nat) (f : List Value) {k : Nat} (h : n < k) : kE g E0 n f k = .inl (g.2 tI, 4, .inl (fun _ => 0)) := by
  unfold kE; rw [if_neg (by omega), if_neg (by omega)]
theorem yU (g : wG) (E0 : Nat → va_E) (n : Nat) (f f' : List Value) : wU (yE g E0 n f) (yE g E0 n f') n (.inr (ciLay, f')) := by
  refine ⟨yE_at g E0 n f', fun j hj => ?_⟩
  unfold yE
  by_cases h : j < n
  · rw [if_pos h, if_pos h]
  · rw [if_neg h, if_neg h, if_neg hj, if_neg hj]
theorem kU (g : wG) (E0 : Nat → va_E) (n : Nat) (f f' : List Value) : wU (kE g E0 n f) (kE g E0 n f') n (.inr (ciKind, f')) := by
  refine ⟨kE_at g E0 n f', fun j hj => ?_⟩
  unfold kE
  by_cases h : j < n
  · rw [if_pos h, if_pos h]
  · rw [if_neg h, if_neg h, if_neg hj, if_neg hj]
/-- the class while it is being made -/
def Kst (b L j : Nat) : Nat → Option Nat := fun p => if p < j then some (adl b (7 + 2 * L + 3 * p)) else none
def Lst (b i : Nat) : Nat → Option Nat := fun p => if p < i then some (adl b (7 + 2 * p)) else none
def cE (g : wG) (b L : Nat) (f : List Value) (j i : Nat) : Nat → va_E := fun k => if k = 0 then .inr (ciX, f) else if k = 1 then .inl (g.2 tK, 3, .inr (.inr (.inr (.inr (Kst b L j))))) else if k = 6 then .inl (g.2 tL, L, .inr (.inr (.inr (.inr (Lst b i))))) else xE g (adl b) L x0 k
theorem Kst_0 (b L : Nat) : Kst b L 0 = fun _ => none := by funext p; simp [Kst]
theorem Lst_0 (b : Nat) : Lst b 0 = fun _ => none := by funext p; simp [Lst]
theorem Kst_s (b L j : Nat) : va_up (Kst b L j) j (some (adl b (7 + 2 * L + 3 * j))) = Kst b L (j + 1) := by
  funext p
  unfold va_up Kst
  by_cases h : p = j
  · subst h; rw [if_pos rfl, if_pos (by omega)]
  · rw [if_neg h]
    by_cases h2 : p < j
    · rw [if_pos h2, if_pos (by omega)]
    · rw [if_neg h2, if_neg (by omega)]
theorem Lst_s (b i : Nat) : va_up (Lst b i) i (some (adl b (7 + 2 * i))) = Lst b (i + 1) := by
  funext p
  unfold va_up Lst
  by_cases h : p = i
  · subst h; rw [if_pos rfl, if_pos (by omega)]
  · rw [if_neg h]
    by_cases h2 : p < i
    · rw [if_pos h2, if_pos (by omega)]
    · rw [if_neg h2, if_neg (by omega)]
theorem cU_f (g : wG) (b L : Nat) (f f' : List Value) (j i : Nat) : wU (cE g b L f j i) (cE g b L f' j i) 0 (.inr (ciX, f')) := by
  refine ⟨rfl, fun k hk => ?_⟩
  unfold cE
  rw [if_neg hk, if_neg hk]
theorem cU_L (g : wG) (b L : Nat) (f : List Value) (j i : Nat) : wU (cE g b L f j i) (cE g b L f j (i + 1)) 6 (.inl (g.2 tL, L, .inr (.inr (.inr (.inr (va_up (Lst b i) i (some (adl b (7 + 2 * i))))))))) := by
  refine ⟨?_, fun k hk => ?_⟩
  · rw [Lst_s]; rfl
  · unfold cE
    rw [if_neg hk, if_neg hk]
theorem cU_K (g : wG) (b L : Nat) (f : List Value) (j i : Nat) : wU (cE g b L f j i) (cE g b L f (j + 1) i) 1 (.inl (g.2 tK, 3, .inr (.inr (.inr (.inr (va_up (Kst b L j) j (some (adl b (7 + 2 * L + 3 * j))))))))) := by
  refine ⟨?_, fun k hk => ?_⟩
  · rw [Kst_s]; rfl
  · unfold cE
    rw [if_neg hk, if_neg hk]
theorem cE_1 (g : wG) (b L : Nat) (f : List Value) (i : Nat) : cE g b L f 0 i 1 = .inl (g.2 tK, 3, .inr (.inr (.inr (.inr (fun _ => none))))) := by
  rw [← Kst_0 b L]; rfl
theorem cE_6 (g : wG) (b L : Nat) (f : List Value) (j : Nat) : cE g b L f j 0 6 = .inl (g.2 tL, L, .inr (.inr (.inr (.inr (fun _ => none))))) := by
  rw [← Lst_0 b]; rfl
theorem cE_x (g : wG) (b L : Nat) (f : List Value) (j i : Nat) {k : Nat} (h : 7 ≤ k) : cE g b L f j i k = xE g (adl b) L x0 k := by
  unfold cE; rw [if_neg (by omega), if_neg (by omega), if_neg (by omega)]
theorem x0_B {i : Nat} (h : i < 6) : xB x0 i 1 = 1000000000 := if_pos h
/-- layer i is made -/
theorem cE_lay (g : wG) (b L : Nat) (f : List Value) (j i : Nat) {q : Nat} (hq : q < L) (hL : L ≤ 6) : ∀ k, k < 7 + 2 * q + 2 → yE g (cE g b L f j i) (7 + 2 * q) [.ref (adl b (7 + 2 * q + 1)), .int 0, .int 1000000000] k = cE g b L f j i k := by
  intro k hk
  by_cases h1 : k < 7 + 2 * q
  · exact yE_lt _ _ _ _ k h1
  · by_cases h2 : k = 7 + 2 * q
    · subst h2
      rw [yE_at, cE_x _ _ _ _ _ _ (by omega), xE_lay g _ L x0 hq, x0_B (by omega), show 8 + 2 * q = 7 + 2 * q + 1 by omega]; rfl
    · have h3 : k = 8 + 2 * q := by omega
      subst h3
      rw [yE_gt _ _ _ _ (by omega), cE_x _ _ _ _ _ _ (by omega), xE_stk g _ L x0 hq]; rfl
theorem cE_kind (g : wG) (b L : Nat) (f : List Value) (j i q : Nat) : ∀ k, k < 7 + 2 * L + 3 * q + 3 → kE g (cE g b L f j i) (7 + 2 * L + 3 * q) [.ref (adl b (7 + 2 * L + 3 * q + 1)), .ref (adl b (7 + 2 * L + 3 * q + 2)), .int 0, .int 0, .int 0] k = cE g b L f j i k := by
  intro k hk
  by_cases h1 : k < 7 + 2 * L + 3 * q
  · exact kE_lt _ _ _ _ k h1
  · by_cases h2 : k = 7 + 2 * L + 3 * q
    · subst h2
      rw [kE_at, cE_x _ _ _ _ _ _ (by omega), xE_kind g _ L x0, show 8 + 2 * L + 3 * q = 7 + 2 * L + 3 * q + 1 by omega, show 9 + 2 * L + 3 * q = 7 + 2 * L + 3 * q + 2 by omega]; rfl
    · by_cases h3 : k = 8 + 2 * L + 3 * q
      · subst h3
        rw [kE_gt _ _ _ _ (by omega), cE_x _ _ _ _ _ _ (by omega), xE_from g _ L x0]; rfl
      · have h4 : k = 9 + 2 * L + 3 * q := by omega
        subst h4
        rw [kE_gt _ _ _ _ (by omega), cE_x _ _ _ _ _ _ (by omega), xE_mill g _ L x0]; rfl
theorem cE_end (g : wG) (b L : Nat) : ∀ k, cE g b L [.ref (adl b 6), .ref (adl b 1), .ref (adl b 2), .ref (adl b 3), .ref (adl b 4), .ref (adl b 5), .int 0, .int 0, .int 1000000000, .int 0] 3 L k = xE g (adl b) L x0 k := by
  intro k
  match k with
  | 0 => rfl
  | 1 => rfl
  | 2 => rfl
  | 3 => rfl
  | 4 => rfl
  | 5 => rfl
  | 6 => rfl
  | k + 7 => exact cE_x _ _ _ _ _ _ (by omega)
theorem wo_eqE {n : Nat} {ad : Nat → Nat} {E E' : Nat → va_E} (h : ∀ k, k < n → E k = E' k) : wo n ad E = wo n ad E' := wo_congr (fun _ _ => rfl) h
/-- the reference while it is being made -/
def mcE (g : wG) (b L : Nat) (f : List Value) (h : Nat → Int64) : Nat → va_E := fun k => if k = 0 then .inr (ciM, f) else if k = 5 then .inl (g.2 tJ, 6, .inr (.inl h)) else mE g (adl b) L x0 k
theorem mcU_f (g : wG) (b L : Nat) (f f' : List Value) (h : Nat → Int64) : wU (mcE g b L f h) (mcE g b L f' h) 0 (.inr (ciM, f')) := by
  refine ⟨rfl, fun k hk => ?_⟩
  unfold mcE
  rw [if_neg hk, if_neg hk]
theorem mcU_h (g : wG) (b L : Nat) (f : List Value) (h h' : Nat → Int64) : wU (mcE g b L f h) (mcE g b L f h') 5 (.inl (g.2 tJ, 6, .inr (.inl h'))) := by
  refine ⟨rfl, fun k hk => ?_⟩
  unfold mcE
  rw [if_neg hk, if_neg hk]
theorem mPut_0 : mPut x0 = fun _ => 0 := by
  funext k; unfold mPut
  split
  · rfl
  · split
    · rfl
    · split <;> rfl
theorem mTak_0 : mTak x0 = fun _ => 0 := by
  funext k; unfold mTak
  split
  · rfl
  · split
    · rfl
    · split <;> rfl
theorem mcE_12 (g : wG) (b L : Nat) (f : List Value) (h : Nat → Int64) : mcE g b L f h 12 = .inl (g.2 tJ, 3, .inr (.inl (fun _ => 0))) := by
  rw [← mPut_0]; rfl
theorem mcE_13 (g : wG) (b L : Nat) (f : List Value) (h : Nat → Int64) : mcE g b L f h 13 = .inl (g.2 tJ, 3, .inr (.inl (fun _ => 0))) := by
  rw [← mTak_0]; rfl
theorem mHold : (vp_updL (vp_updL (vp_updL (vp_updL (vp_updL (vp_updL (fun _ => 0) 0 1000000000) 1 1000000000) 2 1000000000) 3 1000000000) 4 1000000000) 5 1000000000) = fun i => Int32.toInt64 (xB x0 i 1) := by
  funext i
  match i with
  | 0 => rfl
  | 1 => rfl
  | 2 => rfl
  | 3 => rfl
  | 4 => rfl
  | 5 => rfl
  | i + 6 =>
    have h : xB x0 (i + 6) 1 = 0 := by
      show (if i + 6 < 6 then (1000000000 : Int32) else 0) = 0
      rw [if_neg (by omega)]
    rw [h]
    simp [vp_updL]
theorem mcE_end (g : wG) (b L : Nat) : ∀ k, mcE g b L [.int (nI L), .ref (adl b 1), .ref (adl b 2), .ref (adl b 3), .ref (adl b 4), .ref (adl b 5), .ref (adl b 6), .ref (adl b 7), .ref (adl b 8), .ref (adl b 9), .ref (adl b 10), .int 0, .int 0, .int 0, .int 0, .int 0, .int 0, .long 0, .int 0, .long 1000000000, .int 0, .ref (adl b 11), .ref (adl b 12), .ref (adl b 13)] (vp_updL (vp_updL (vp_updL (vp_updL (vp_updL (vp_updL (fun _ => 0) 0 1000000000) 1 1000000000) 2 1000000000) 3 1000000000) 4 1000000000) 5 1000000000) k = mE g (adl b) L x0 k := by
  intro k
  unfold mcE
  by_cases h0 : k = 0
  · subst h0; rw [if_pos rfl]; rfl
  · rw [if_neg h0]
    by_cases h5 : k = 5
    · subst h5; rw [if_pos rfl, mHold]; rfl
    · rw [if_neg h5]
theorem ar16 (L : Nat) : 16 + 2 * L = 7 + 2 * L + 3 * 3 := by omega
theorem ar27 {L : Nat} (h : 1 ≤ L ∧ L ≤ 6) : 6 + 2 * L + 1 + 2 + 1 + 2 + 1 + 2 ≤ 27 := by omega
theorem ar121 {L : Nat} (h : 1 ≤ L ∧ L ≤ 6) : 28 + 9 * L + 5 + 8 + 5 + 8 + 5 + 8 ≤ 121 := by omega
