/-! what each call leaves of the invariant -/
theorem inv_next' {L t : Nat} {x : xS} (h : x_inv L t x) : x_inv L (t + 1) x := by
  obtain ⟨a, b, c, d, o⟩ := h
  exact ⟨a, b, c, d, ok_mono o (by omega) (by omega)⟩
theorem inv_of {L t : Nat} {x y : xS} (h : x_inv L t x) (hrow : x_rows y) (hp : x_par y) (h8 : xO y 0 8 = xO x 0 8) (ht : ∀ a c, xT y a c = xT x a c) : x_inv L (t + 1) y := by
  obtain ⟨-, -, c, d, o⟩ := h
  refine ⟨hrow, hp, by rw [h8]; exact c, by rw [h8]; exact d, ?_⟩
  rw [h8]
  exact ok_mono (ok_same o ht) (by omega) (by omega)
theorem x0_S (n : Nat) : x_S1 x0 n = 0 ∧ x_S2 x0 n = 0 := by
  induction n with
  | zero => exact ⟨rfl, rfl⟩
  | succ n ih =>
    have h : ∀ k, (xT x0 n k).toInt = 0 := fun k => by show (0 : Int64).toInt = 0; decide
    rw [S1_f, S2_f, ih.1, ih.2]
    unfold f1 f2
    rw [h, h, h, h, h]
    omega
theorem inv_0' (L : Nat) : x_inv L 0 x0 := by
  have hT : ∀ a k, (xT x0 a k).toInt = 0 := fun a k => by show (0 : Int64).toInt = 0; decide
  have hO : (xO x0 0 8).toInt = 0 := by show (0 : Int64).toInt = 0; decide
  refine ⟨fun p _ => ⟨0, by omega, rfl⟩, ⟨fun p _ r => ?_, fun p _ => ?_, ?_, ?_, ?_, ?_, fun i => ?_⟩, by rw [hO]; omega, by rw [hO]; omega, fun a _ k _ => by rw [hT]; omega, ?_, ?_⟩
  · show 0 ≤ (0 : Int32).toInt ∧ (0 : Int32).toInt ≤ 100000
    decide
  · show 0 ≤ (0 : Int32).toInt ∧ (0 : Int32).toInt ≤ 100000 ∧ 0 ≤ (0 : Int32).toInt ∧ (0 : Int32).toInt ≤ 1000
    decide
  · show 0 ≤ (0 : Int32).toInt ∧ (0 : Int32).toInt ≤ 100000
    decide
  · show 0 ≤ (0 : Int32).toInt ∧ (0 : Int32).toInt ≤ 1000000
    decide
  · show 0 ≤ (1000000000 : Int32).toInt
    decide
  · show 0 ≤ (0 : Int32).toInt ∧ (0 : Int32).toInt ≤ 1000
    decide
  · show 0 ≤ (if i < 6 then (1000000000 : Int32) else 0).toInt
    split <;> decide
  · rw [(x0_S L).1, hO]; omega
  · rw [(x0_S L).2]; omega
/-- within, as numbers -/
theorem within_ti {a b c : Int32} (h : ¬ x_within a b c = 0) : b.toInt ≤ a.toInt ∧ a.toInt ≤ c.toInt := by
  unfold x_within at h
  by_cases h1 : a < b
  · rw [if_pos h1] at h; exact absurd rfl h
  · rw [if_neg h1] at h
    by_cases h2 : c < a
    · rw [if_pos h2] at h; exact absurd rfl h
    · rw [Int32.lt_iff_toInt_lt] at h1 h2
      omega
theorem inv_rain' {L t : Nat} {x : xS} (h : x_inv L t x) (a : Int32) : x_inv L (t + 1) (x_rain x a).2 := by
  unfold x_rain
  split
  · exact inv_next' h
  · rename_i hw
    obtain ⟨w1, w2⟩ := within_ti hw
    obtain ⟨a1, a2, a3, a4, a5, a6, a7⟩ := h.2.1
    refine inv_of h h.1 ⟨a1, a2, ?_, a4, a5, a6, a7⟩ rfl (fun _ _ => rfl)
    exact ⟨w1, w2⟩
theorem inv_loss' {L t : Nat} {x : xS} (h : x_inv L t x) (a : Int32) : x_inv L (t + 1) (x_loss x a).2 := by
  unfold x_loss
  split
  · exact inv_next' h
  · rename_i hw
    obtain ⟨w1, w2⟩ := within_ti hw
    obtain ⟨a1, a2, a3, a4, a5, a6, a7⟩ := h.2.1
    refine inv_of h h.1 ⟨a1, a2, a3, ?_, a5, a6, a7⟩ rfl (fun _ _ => rfl)
    exact ⟨w1, w2⟩
theorem inv_limit' {L t : Nat} {x : xS} (h : x_inv L t x) (a : Int32) : x_inv L (t + 1) (x_limit x a).2 := by
  unfold x_limit
  split
  · exact inv_next' h
  · rename_i hw
    obtain ⟨w1, w2⟩ := within_ti hw
    obtain ⟨a1, a2, a3, a4, a5, a6, a7⟩ := h.2.1
    refine inv_of h h.1 ⟨a1, a2, a3, a4, ?_, a6, a7⟩ rfl (fun _ _ => rfl)
    exact w1
theorem inv_fan' {L t : Nat} {x : xS} (h : x_inv L t x) (a b c : Int32) : x_inv L (t + 1) (x_fan x a b c).2 := by
  unfold x_fan
  split
  · exact inv_next' h
  · split
    · exact inv_next' h
    · split
      · exact inv_next' h
      · obtain ⟨a1, a2, a3, a4, a5, a6, a7⟩ := h.2.1
        exact inv_of h h.1 ⟨a1, a2, a3, a4, a5, a6, a7⟩ rfl (fun _ _ => rfl)
theorem inv_yields' {L t : Nat} {x : xS} (h : x_inv L t x) (a b c : Int32) : x_inv L (t + 1) (x_yields x a b c).2 := by
  unfold x_yields
  split
  · exact inv_next' h
  · split
    · exact inv_next' h
    · split
      · exact inv_next' h
      · rename_i hp h1 h2
        obtain ⟨w1, w2⟩ := within_ti h1
        obtain ⟨w3, w4⟩ := within_ti h2
        obtain ⟨a1, a2, a3, a4, a5, a6, a7⟩ := h.2.1
        have w1 : (0 : Int) ≤ b.toInt := w1
        have w2 : b.toInt ≤ (100000 : Int) := w2
        have w3 : (0 : Int) ≤ c.toInt := w3
        have w4 : c.toInt ≤ (1000 : Int) := w4
        refine inv_of h (fun p hp => ?_) ⟨a1, fun p hp => ?_, a3, a4, a5, a6, a7⟩ rfl (fun _ _ => rfl)
        · obtain ⟨r, hr, he⟩ := h.1 p hp
          refine ⟨r, hr, ?_⟩
          dsimp only
          rw [xY_get, if_neg (by omega), xY_get, if_neg (by omega), he]
        · obtain ⟨y1, y2, y3, y4⟩ := a2 p hp
          dsimp only
          rw [xY_get, xY_get, xY_get, xY_get]
          by_cases hq : p = a.toNatClampNeg
          · rw [if_neg (by omega), if_pos (by omega), if_pos (by omega)]
            exact ⟨w1, w2, w3, w4⟩
          · rw [if_neg (by omega), if_neg (by omega), if_neg (by omega), if_neg (by omega)]
            exact ⟨y1, y2, y3, y4⟩
theorem inv_bounds' {L t : Nat} {x : xS} (h : x_inv L t x) (a b c : Int32) : x_inv L (t + 1) (x_bounds L x a b c).2 := by
  unfold x_bounds
  split
  · exact inv_next' h
  · split
    · exact inv_next' h
    · split
      · exact inv_next' h
      · rename_i i _ h1 h2
        obtain ⟨w3, w4⟩ := within_ti h2
        have w3 : (0 : Int) ≤ c.toInt := w3
        obtain ⟨a1, a2, a3, a4, a5, a6, a7⟩ := h.2.1
        refine inv_of h h.1 ⟨a1, a2, a3, a4, a5, a6, fun q => ?_⟩ rfl (fun _ _ => rfl)
        dsimp only
        rw [xB_get]
        split
        · exact w3
        · rw [xB_get, if_neg (by omega)]; exact a7 q
theorem inv_rate' {L t : Nat} {x : xS} (h : x_inv L t x) (a b c : Int32) : x_inv L (t + 1) (x_rate x a b c).2 := by
  unfold x_rate
  split
  · exact inv_next' h
  · split
    · exact inv_next' h
    · split
      · exact inv_next' h
      · rename_i hp h1 h2
        obtain ⟨k, hk, rfl⟩ := x_within_nat (n := 2) (by decide) hp
        rw [nI_clamp (by omega)]
        obtain ⟨w3, w4⟩ := within_ti h2
        have w3 : (0 : Int) ≤ c.toInt := w3
        have w4 : c.toInt ≤ (100000 : Int) := w4
        obtain ⟨a1, a2, a3, a4, a5, a6, a7⟩ := h.2.1
        obtain ⟨r, hr, he⟩ := h.1 k (by omega)
        have key : ¬ 4 ≤ xY x k 0 → x_inv L (t + 1) (xY' (xR' (xR' x k 0 r b) k 1 r c) k 0 (xY (xR' (xR' x k 0 r b) k 1 r c) k 0 + 1)) := by
          intro h4
          have hr5 : r < 4 := by
            rcases Nat.lt_or_ge r 4 with q | q
            · exact q
            · exact absurd (by rw [he]; exact nI_le q (by omega)) h4
          refine inv_of h (fun p hp => ?_) ⟨fun p hp q => ?_, fun p hp => ?_, a3, a4, a5, a6, a7⟩ rfl (fun _ _ => rfl)
          · rw [xY_get]
            by_cases hq : p = k
            · rw [if_pos (by omega)]
              refine ⟨r + 1, by omega, ?_⟩
              show xY x k 0 + 1 = _
              rw [he]; exact nI_1 r
            · rw [if_neg (by omega)]
              exact h.1 p hp
          · show 0 ≤ (xR (xR' (xR' x k 0 r b) k 1 r c) p 1 q).toInt ∧ (xR (xR' (xR' x k 0 r b) k 1 r c) p 1 q).toInt ≤ 100000
            rw [xR_get]
            split
            · exact ⟨w3, w4⟩
            · rw [xR_get, if_neg (by omega)]; exact a1 p hp q
          · have e1 : xY (xY' (xR' (xR' x k 0 r b) k 1 r c) k 0 (xY (xR' (xR' x k 0 r b) k 1 r c) k 0 + 1)) p 1 = xY x p 1 := by rw [xY_get, if_neg (by omega)]; rfl
            have e2 : xY (xY' (xR' (xR' x k 0 r b) k 1 r c) k 0 (xY (xR' (xR' x k 0 r b) k 1 r c) k 0 + 1)) p 2 = xY x p 2 := by rw [xY_get, if_neg (by omega)]; rfl
            rw [e1, e2]; exact a2 p hp
        have hrc : (xY x k 0).toNatClampNeg = r := by rw [he]; exact nI_clamp (by omega)
        unfold x_addRow
        dsimp only
        rw [hrc]
        by_cases q1 : 4 ≤ xY x k 0
        · rw [if_pos q1]; exact inv_next' h
        · rw [if_neg q1]
          by_cases q2 : xY x k 0 ≤ 0
          · rw [if_pos q2]; exact key q1
          · rw [if_neg q2]
            by_cases q3 : xR x k 0 (r - 1) < b
            · rw [if_pos q3]; exact key q1
            · rw [if_neg q3]; exact inv_next' h
/-- one stock of a layer becomes v -/
theorem f1_u (x : xS) (i k : Nat) (hk : k < 5) (v : Int64) (a : Nat) : f1 (xT' x i k v) a = f1 x a + (if a = i ∧ k < 4 then v.toInt - (xT x i k).toInt else 0) := by
  unfold f1
  rw [xT_get, xT_get, xT_get, xT_get]
  by_cases h : a = i
  · subst h
    match k, hk with
    | 0, _ => simp; omega
    | 1, _ => simp; omega
    | 2, _ => simp; omega
    | 3, _ => simp; omega
    | 4, _ => simp
  · simp [h]
theorem f2_u (x : xS) (i k : Nat) (hk : k < 5) (v : Int64) (a : Nat) : f2 (xT' x i k v) a = f2 x a + (if a = i then (if k = 4 then v.toInt - (xT x i k).toInt else if k < 3 then 100000 * (v.toInt - (xT x i k).toInt) else 0) else 0) := by
  unfold f2
  rw [xT_get, xT_get, xT_get, xT_get]
  by_cases h : a = i
  · subst h
    match k, hk with
    | 0, _ => simp; omega
    | 1, _ => simp; omega
    | 2, _ => simp; omega
    | 3, _ => simp
    | 4, _ => simp; omega
  · simp [h]
theorem S1_u (x : xS) (i k : Nat) (hk : k < 5) (v : Int64) : ∀ n, x_S1 (xT' x i k v) n = x_S1 x n + (if i < n ∧ k < 4 then v.toInt - (xT x i k).toInt else 0)
  | 0 => by rw [if_neg (by omega)]; rfl
  | n + 1 => by
    rw [S1_f, S1_f, S1_u x i k hk v n, f1_u x i k hk]
    by_cases h : n = i
    · by_cases h4 : k < 4
      · rw [if_neg (show ¬ (i < n ∧ k < 4) by omega), if_pos (show n = i ∧ k < 4 by omega), if_pos (show i < n + 1 ∧ k < 4 by omega)]; omega
      · rw [if_neg (show ¬ (i < n ∧ k < 4) by omega), if_neg (show ¬ (n = i ∧ k < 4) by omega), if_neg (show ¬ (i < n + 1 ∧ k < 4) by omega)]; omega
    · rw [if_neg (show ¬ (n = i ∧ k < 4) by omega)]
      by_cases h2 : i < n ∧ k < 4
      · rw [if_pos h2, if_pos (show i < n + 1 ∧ k < 4 by omega)]; omega
      · rw [if_neg h2, if_neg (show ¬ (i < n + 1 ∧ k < 4) by omega)]; omega
theorem S2_u (x : xS) (i k : Nat) (hk : k < 5) (v : Int64) : ∀ n, x_S2 (xT' x i k v) n = x_S2 x n + (if i < n then (if k = 4 then v.toInt - (xT x i k).toInt else if k < 3 then 100000 * (v.toInt - (xT x i k).toInt) else 0) else 0)
  | 0 => by rw [if_neg (by omega)]; rfl
  | n + 1 => by
    rw [S2_f, S2_f, S2_u x i k hk v n, f2_u x i k hk]
    by_cases h : n = i
    · rw [if_neg (show ¬ i < n by omega), if_pos h, if_pos (show i < n + 1 by omega)]; omega
    · rw [if_neg h]
      by_cases h2 : i < n
      · rw [if_pos h2, if_pos (show i < n + 1 by omega)]; omega
      · rw [if_neg h2, if_neg (show ¬ i < n + 1 by omega)]; omega
theorem inv_bring {L t : Nat} {x : xS} (h : x_inv L t x) (ht : t < 512) {i k : Nat} (hi : i < L) (hk : k < 5) {u : Int32} (hu : 0 ≤ u.toInt) (hu2 : k < 4 → u.toInt ≤ 1000000) (hu3 : u.toInt ≤ 1000000000) (most : Int64) : x_inv L (t + 1) (x_bring x i k u most).2 := by
  unfold x_bring
  split
  · dsimp only
    obtain ⟨hrow, hp, c, d, o⟩ := h
    obtain ⟨hn, b1, b2⟩ := ok_at o hi
    have h0 := o.1 i hi k hk
    have hle : (xT x i k).toInt ≤ 100000000000000 := by
      obtain ⟨n0, n1, n2, n3, n4⟩ := hn
      unfold f1 at b1
      unfold f2 at b2
      match k, hk with
      | 0, _ => omega
      | 1, _ => omega
      | 2, _ => omega
      | 3, _ => omega
      | 4, _ => omega
    have e : (xT x i k + Int32.toInt64 u).toInt = (xT x i k).toInt + u.toInt := by
      rw [ti_add (by rw [ti_i]; omega) (by rw [ti_i]; omega), ti_i]
    refine ⟨hrow, par_of (by rw [par_O, par_T]) hp, ?_, ?_, ?_⟩
    · rw [xO_get, if_neg (by omega), xO_T]; exact c
    · rw [xO_get, if_neg (by omega), xO_T]; exact d
    · rw [xO_get, if_neg (by omega), xO_T]
      refine ok_O ⟨fun a ha q hq => ?_, ?_, ?_⟩ _ _ _
      · rw [xT_get]
        split
        · rw [e]; omega
        · exact o.1 a ha q hq
      · rw [S1_u x i k hk, e]
        have := o.2.1
        split
        · rename_i hh; have := hu2 hh.2; omega
        · omega
      · rw [S2_u x i k hk, e, if_pos hi]
        have := o.2.2
        split
        · omega
        · split
          · rename_i hh; have := hu2 (by omega); omega
          · omega
  · exact inv_next' h
theorem inv_bringAt {L t : Nat} (hL : 1 ≤ L ∧ L ≤ 6) {x : xS} (h : x_inv L t x) (ht : t < 512) (a : Int32) {k : Nat} (hk : k < 5) {u : Int32} (hu : 0 ≤ u.toInt) (hu2 : k < 4 → u.toInt ≤ 1000000) (hu3 : u.toInt ≤ 1000000000) (most : Int64) : x_inv L (t + 1) (x_bringAt x (x_la L a) k u most).2 := by
  rcases x_la_cases hL a with q | ⟨i, hi, -, q⟩
  · rw [q]; exact inv_next' h
  · rw [q]; exact inv_bring h ht hi hk hu hu2 hu3 most
theorem inv_part' {L t : Nat} (hL : 1 ≤ L ∧ L ≤ 6) {x : xS} (h : x_inv L t x) (ht : t < 512) (a b c : Int32) : x_inv L (t + 1) (x_part L x a b c).2 := by
  unfold x_part
  split
  · exact inv_next' h
  · split
    · exact inv_next' h
    · rename_i hp hw
      obtain ⟨k, hk, rfl⟩ := x_within_nat (n := 2) (by decide) hp
      obtain ⟨w1, w2⟩ := within_ti hw
      have w1 : (0 : Int) ≤ c.toInt := w1
      have w2 : c.toInt ≤ (1000000 : Int) := w2
      rw [nI_clamp (by omega)]
      exact inv_bringAt hL h ht a (by omega) w1 (fun _ => w2) (by omega) _
theorem inv_water' {L t : Nat} (hL : 1 ≤ L ∧ L ≤ 6) {x : xS} (h : x_inv L t x) (ht : t < 512) (a c : Int32) : x_inv L (t + 1) (x_water L x a c).2 := by
  unfold x_water
  split
  · exact inv_next' h
  · rename_i hw
    obtain ⟨w1, w2⟩ := within_ti hw
    have w1 : (0 : Int) ≤ c.toInt := w1
    have w2 : c.toInt ≤ (1000000 : Int) := w2
    exact inv_bringAt hL h ht a (by omega) w1 (fun _ => w2) (by omega) _
theorem inv_heat' {L t : Nat} (hL : 1 ≤ L ∧ L ≤ 6) {x : xS} (h : x_inv L t x) (ht : t < 512) (a c : Int32) : x_inv L (t + 1) (x_heat L x a c).2 := by
  unfold x_heat
  split
  · exact inv_next' h
  · rename_i hw
    obtain ⟨w1, w2⟩ := within_ti hw
    have w1 : (0 : Int) ≤ c.toInt := w1
    have w2 : c.toInt ≤ (1000000000 : Int) := w2
    exact inv_bringAt hL h ht a (by omega) w1 (fun q => absurd q (by omega)) w2 _
theorem run_min {L t : Nat} {x : xS} (h : x_inv L t x) {k : Nat} (hk : k ≤ 1000) (hc : lg_cmp (xO x 0 8 + Int32.toInt64 (nI k)) 20000 ≤ 0) : (xO x 0 8).toInt + (k : Int) ≤ 20000 := by
  obtain ⟨-, -, c, d, -⟩ := h
  have h1 := le_ti.mp ((lg_cmp_le _ _).mp hc)
  have h2 : (Int32.toInt64 (nI k)).toInt = (k : Int) := by rw [ti_i, nI_toInt (by omega)]
  rw [ti_add (by rw [h2]; omega) (by rw [h2]; omega), h2] at h1
  have h3 : (20000 : Int64).toInt = 20000 := by decide
  omega
theorem inv_run' {L t : Nat} (hL : 1 ≤ L ∧ L ≤ 6) {x : xS} (h : x_inv L t x) (ht : t < 512) (a : Int32) : x_inv L (t + 1) (x_run L x a).2 := by
  unfold x_run
  split
  · exact inv_next' h
  · rename_i hw
    obtain ⟨k, hk, -, rfl⟩ := x_within_run hw
    split
    · rename_i hc
      rw [nI_clamp (by omega)]
      exact inv_next' (go_all hL (by omega) k x h (run_min h hk hc)).2
    · exact inv_next' h
theorem eq_run' {L t : Nat} (hL : 1 ≤ L ∧ L ≤ 6) {x : xS} (h : x_inv L t x) (ht : t < 512) (a : Int32) : m_run L x a = x_run L x a := by
  unfold m_run x_run
  split
  · rfl
  · rename_i hw
    obtain ⟨k, hk, -, rfl⟩ := x_within_run hw
    split
    · rename_i hc
      rw [nI_clamp (by omega), (go_all hL (by omega) k x h (run_min h hk hc)).1]
    · rfl
theorem eq_warmth' {L t : Nat} (hL : 1 ≤ L ∧ L ≤ 6) {x : xS} (h : x_inv L t x) (ht : t < 512) (a : Int32) : m_warmth L x a = x_warmth L x a := by
  unfold m_warmth x_warmth
  rcases x_la_cases hL a with q | ⟨i, hi, -, q⟩
  · rw [q]
  · rw [q]
    have hA : 1000000 * (t : Int) + 100000 * (xO x 0 8).toInt ≤ 5000000000 := by have := h.2.2.2.1; omega
    exact warm_eq (by rw [(mass_ti hA h.2.2.2.2 hi).1]; exact (mass_ti hA h.2.2.2.2 hi).2)
theorem inv_batch' {L t : Nat} {x : xS} (h : x_inv L t x) : x_inv L (t + 1) (x_batchN x L).2 := by
  obtain ⟨hrow, hp, c, d, o⟩ := h
  have e := oTO_batchN x L
  have h8 : xO (x_batchN x L).2 0 8 = xO x 0 8 := by rw [xO_batchN, if_neg (by omega)]
  have hz : ∀ a, a < L → ∀ k, k < 5 → (xT (x_batchN x L).2 a k).toInt = 0 := fun a ha k hk => by rw [xT_batchN, if_pos ⟨ha, hk⟩, ti_0]
  refine ⟨x_rows_of (congrArg (fun z => z.2.2.2.2) e) hrow, par_of (congrArg (fun z => (z.1, z.2.2.1, z.2.2.2.1, z.2.2.2.2)) e) hp, by rw [h8]; exact c, by rw [h8]; exact d, ?_⟩
  rw [h8]
  have hs : ∀ n, n ≤ L → x_S1 (x_batchN x L).2 n = 0 ∧ x_S2 (x_batchN x L).2 n = 0 := by
    intro n
    induction n with
    | zero => exact fun _ => ⟨rfl, rfl⟩
    | succ n ih =>
      intro hn
      obtain ⟨i1, i2⟩ := ih (by omega)
      rw [S1_f, S2_f, i1, i2]
      unfold f1 f2
      rw [hz n (by omega) 0 (by omega), hz n (by omega) 1 (by omega), hz n (by omega) 2 (by omega), hz n (by omega) 3 (by omega), hz n (by omega) 4 (by omega)]
      omega
  obtain ⟨s1, s2⟩ := hs L (Nat.le_refl L)
  exact ⟨fun a ha k hk => by rw [hz a ha k hk]; omega, by rw [s1]; omega, by rw [s2]; omega⟩
