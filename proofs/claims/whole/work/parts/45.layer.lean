/-! a layer's minute -/
def bp_gr (x : xS) (i p : Nat) (w : Int64) : Int64 := x_mo (xT x i p) (Int32.toInt64 (x_mAt x p w))
def bp_he (x : xS) (i p : Nat) (w : Int64) : Int64 := bp_gr x i p w * Int32.toInt64 (xY x p 1)
def bp_wa (x : xS) (i p : Nat) (w : Int64) : Int64 := bp_gr x i p w * Int32.toInt64 (xY x p 2) / 1000
theorem bp_def (x : xS) (i p : Nat) (w : Int64) : ∃ o1 o2 o3, x_breakPart x i p w = xO' (xO' (xO' (xT' (xT' (xT' x i p (xT x i p - bp_gr x i p w)) i 4 (xT (xT' x i p (xT x i p - bp_gr x i p w)) i 4 + bp_he x i p w)) i 3 (xT (xT' (xT' x i p (xT x i p - bp_gr x i p w)) i 4 (xT (xT' x i p (xT x i p - bp_gr x i p w)) i 4 + bp_he x i p w)) i 3 + bp_wa x i p w)) 0 0 o1) 0 4 o2) 0 7 o3 := ⟨_, _, _, rfl⟩
theorem xT_bp (x : xS) {i p : Nat} (hp : p < 3) (w : Int64) (a c : Nat) : xT (x_breakPart x i p w) a c = if a = i ∧ c = 3 then xT x i 3 + bp_wa x i p w else if a = i ∧ c = 4 then xT x i 4 + bp_he x i p w else if a = i ∧ c = p then xT x i p - bp_gr x i p w else xT x a c := by
  obtain ⟨o1, o2, o3, h⟩ := bp_def x i p w
  rw [h, xT_O, xT_O, xT_O, xT_get, xT_get, xT_get, xT_get, xT_get, xT_get]
  rw [if_neg (show ¬ (i = i ∧ 4 = p) by omega), if_neg (show ¬ (i = i ∧ 3 = 4) by omega), if_neg (show ¬ (i = i ∧ 3 = p) by omega)]
theorem par_bp (x : xS) (i p : Nat) (w : Int64) : par (x_breakPart x i p w) = par x := by
  obtain ⟨o1, o2, o3, h⟩ := bp_def x i p w
  rw [h, par_O, par_O, par_O, par_T, par_T, par_T]
theorem bp_nums {x : xS} (hp : x_par x) {i p : Nat} (h3 : p < 3) (w : Int64) (h0 : 0 ≤ (xT x i p).toInt) (h1 : (xT x i p).toInt ≤ 4000000000) : ∃ G HE WA : Int, (bp_gr x i p w).toInt = G ∧ (bp_he x i p w).toInt = HE ∧ (bp_wa x i p w).toInt = WA ∧ 0 ≤ G ∧ G ≤ (xT x i p).toInt ∧ 0 ≤ HE ∧ HE ≤ 100000 * G ∧ 0 ≤ WA ∧ WA ≤ G := by
  have hm := mAt_le hp h3 w (xY x p 0).toNatClampNeg
  obtain ⟨g0, g1⟩ := mo_le (u := xT x i p) (m := Int32.toInt64 (x_mAt x p w)) h0 (by omega) (by rw [ti_i]; exact hm.1) (by rw [ti_i]; exact Int.le_trans hm.2 (by omega))
  obtain ⟨y1, y2, y3, y4⟩ := hp.2.1 p h3
  have g0' : 0 ≤ (bp_gr x i p w).toInt := g0
  have g1' : (bp_gr x i p w).toInt ≤ (xT x i p).toInt := g1
  have a1 := Int.mul_nonneg g0' y1
  have a2 := Int.mul_le_mul_of_nonneg_left y2 g0'
  have a3 := Int.mul_nonneg g0' y3
  have a4 := Int.mul_le_mul_of_nonneg_left y4 g0'
  have e1 : (bp_he x i p w).toInt = (bp_gr x i p w).toInt * (xY x p 1).toInt := by
    unfold bp_he
    rw [ti_mul (by rw [ti_i]; omega) (by rw [ti_i]; omega), ti_i]
  have e2 : (bp_gr x i p w * Int32.toInt64 (xY x p 2)).toInt = (bp_gr x i p w).toInt * (xY x p 2).toInt := by
    rw [ti_mul (by rw [ti_i]; omega) (by rw [ti_i]; omega), ti_i]
  have e3 : (bp_wa x i p w).toInt = (bp_gr x i p w).toInt * (xY x p 2).toInt / 1000 := by
    unfold bp_wa
    rw [ti_div (by rw [e2]; exact a3) (by decide), e2, ti_tho]
  refine ⟨_, _, _, rfl, e1, e3, g0', g1', a1, by omega, by omega, by omega⟩
theorem bp_ok {L : Nat} {A B : Int} (hA : A ≤ 4000000000) (hB : B ≤ 80000000000000) {x : xS} (hp : x_par x) (h : x_ok L A B x) {i p : Nat} (hi : i < L) (h3 : p < 3) (w : Int64) : x_ok L A B (x_breakPart x i p w) := by
  obtain ⟨hn, b1, b2⟩ := ok_at h hi
  obtain ⟨n0, n1, n2, n3, n4⟩ := hn
  unfold f1 at b1
  unfold f2 at b2
  have ho : ∀ a c, a ≠ i → xT (x_breakPart x i p w) a c = xT x a c := fun a c ha => by
    rw [xT_bp x h3, if_neg (fun q => ha q.1), if_neg (fun q => ha q.1), if_neg (fun q => ha q.1)]
  match p, h3 with
  | 0, h3 =>
    obtain ⟨G, HE, WA, e1, e2, e3, g0, g1, g2, g3, g4, g5⟩ := bp_nums hp h3 w n0 (by omega)
    have t0 : (xT (x_breakPart x i 0 w) i 0).toInt = (xT x i 0).toInt - G := by
      rw [xT_bp x h3, if_neg (by omega), if_neg (by omega), if_pos (by omega), ti_sub (by rw [e1]; omega) (by rw [e1]; omega), e1]
    have t1 : xT (x_breakPart x i 0 w) i 1 = xT x i 1 := by rw [xT_bp x h3, if_neg (by omega), if_neg (by omega), if_neg (by omega)]
    have t2 : xT (x_breakPart x i 0 w) i 2 = xT x i 2 := by rw [xT_bp x h3, if_neg (by omega), if_neg (by omega), if_neg (by omega)]
    have t3 : (xT (x_breakPart x i 0 w) i 3).toInt = (xT x i 3).toInt + WA := by
      rw [xT_bp x h3, if_pos (by omega), ti_add (by rw [e3]; omega) (by rw [e3]; omega), e3]
    have t4 : (xT (x_breakPart x i 0 w) i 4).toInt = (xT x i 4).toInt + HE := by
      rw [xT_bp x h3, if_neg (by omega), if_pos (by omega), ti_add (by rw [e2]; omega) (by rw [e2]; omega), e2]
    refine ok_step h i ho (fun _ => ⟨?_, ?_, ?_, ?_, ?_⟩) (fun _ => ?_) (fun _ => ?_)
    · rw [t0]; omega
    · rw [t1]; omega
    · rw [t2]; omega
    · rw [t3]; omega
    · rw [t4]; omega
    · unfold f1; rw [t0, t1, t2, t3]; omega
    · unfold f2; rw [t0, t1, t2, t4]; omega
  | 1, h3 =>
    obtain ⟨G, HE, WA, e1, e2, e3, g0, g1, g2, g3, g4, g5⟩ := bp_nums hp h3 w n1 (by omega)
    have t0 : xT (x_breakPart x i 1 w) i 0 = xT x i 0 := by rw [xT_bp x h3, if_neg (by omega), if_neg (by omega), if_neg (by omega)]
    have t1 : (xT (x_breakPart x i 1 w) i 1).toInt = (xT x i 1).toInt - G := by
      rw [xT_bp x h3, if_neg (by omega), if_neg (by omega), if_pos (by omega), ti_sub (by rw [e1]; omega) (by rw [e1]; omega), e1]
    have t2 : xT (x_breakPart x i 1 w) i 2 = xT x i 2 := by rw [xT_bp x h3, if_neg (by omega), if_neg (by omega), if_neg (by omega)]
    have t3 : (xT (x_breakPart x i 1 w) i 3).toInt = (xT x i 3).toInt + WA := by
      rw [xT_bp x h3, if_pos (by omega), ti_add (by rw [e3]; omega) (by rw [e3]; omega), e3]
    have t4 : (xT (x_breakPart x i 1 w) i 4).toInt = (xT x i 4).toInt + HE := by
      rw [xT_bp x h3, if_neg (by omega), if_pos (by omega), ti_add (by rw [e2]; omega) (by rw [e2]; omega), e2]
    refine ok_step h i ho (fun _ => ⟨?_, ?_, ?_, ?_, ?_⟩) (fun _ => ?_) (fun _ => ?_)
    · rw [t0]; omega
    · rw [t1]; omega
    · rw [t2]; omega
    · rw [t3]; omega
    · rw [t4]; omega
    · unfold f1; rw [t0, t1, t2, t3]; omega
    · unfold f2; rw [t0, t1, t2, t4]; omega
  | 2, h3 =>
    obtain ⟨G, HE, WA, e1, e2, e3, g0, g1, g2, g3, g4, g5⟩ := bp_nums hp h3 w n2 (by omega)
    have t0 : xT (x_breakPart x i 2 w) i 0 = xT x i 0 := by rw [xT_bp x h3, if_neg (by omega), if_neg (by omega), if_neg (by omega)]
    have t1 : xT (x_breakPart x i 2 w) i 1 = xT x i 1 := by rw [xT_bp x h3, if_neg (by omega), if_neg (by omega), if_neg (by omega)]
    have t2 : (xT (x_breakPart x i 2 w) i 2).toInt = (xT x i 2).toInt - G := by
      rw [xT_bp x h3, if_neg (by omega), if_neg (by omega), if_pos (by omega), ti_sub (by rw [e1]; omega) (by rw [e1]; omega), e1]
    have t3 : (xT (x_breakPart x i 2 w) i 3).toInt = (xT x i 3).toInt + WA := by
      rw [xT_bp x h3, if_pos (by omega), ti_add (by rw [e3]; omega) (by rw [e3]; omega), e3]
    have t4 : (xT (x_breakPart x i 2 w) i 4).toInt = (xT x i 4).toInt + HE := by
      rw [xT_bp x h3, if_neg (by omega), if_pos (by omega), ti_add (by rw [e2]; omega) (by rw [e2]; omega), e2]
    refine ok_step h i ho (fun _ => ⟨?_, ?_, ?_, ?_, ?_⟩) (fun _ => ?_) (fun _ => ?_)
    · rw [t0]; omega
    · rw [t1]; omega
    · rw [t2]; omega
    · rw [t3]; omega
    · rw [t4]; omega
    · unfold f1; rw [t0, t1, t2, t3]; omega
    · unfold f2; rw [t0, t1, t2, t4]; omega
theorem break_ok {L : Nat} {A B : Int} (hA : A ≤ 4000000000) (hB : B ≤ 80000000000000) {x : xS} (hp : x_par x) (h : x_ok L A B x) {i : Nat} (hi : i < L) : x_ok L A B (x_break x i) ∧ par (x_break x i) = par x := by
  unfold x_break
  split
  · dsimp only
    have p1 := par_bp x i 0 (x_warm x i)
    have o1 := bp_ok hA hB hp h hi (show 0 < 3 by omega) (x_warm x i)
    have q1 := par_of p1 hp
    have p2 := par_bp (x_breakPart x i 0 (x_warm x i)) i 1 (x_warm x i)
    have o2 := bp_ok hA hB q1 o1 hi (show 1 < 3 by omega) (x_warm x i)
    have q2 := par_of p2 q1
    have p3 := par_bp (x_breakPart (x_breakPart x i 0 (x_warm x i)) i 1 (x_warm x i)) i 2 (x_warm x i)
    have o3 := bp_ok hA hB q2 o2 hi (show 2 < 3 by omega) (x_warm x i)
    exact ⟨o3, p3.trans (p2.trans p1)⟩
  · exact ⟨h, rfl⟩
theorem lose_ok {L : Nat} {A B : Int} (hA : A ≤ 4000000000) (hB : B ≤ 80000000000000) {x : xS} (hp : x_par x) (h : x_ok L A B x) {i : Nat} (hi : i < L) : x_ok L A B (x_loseHeat x i) := by
  obtain ⟨hn, b1, b2⟩ := ok_at h hi
  obtain ⟨n0, n1, n2, n3, n4⟩ := hn
  unfold f1 at b1
  unfold f2 at b2
  obtain ⟨g0, g1⟩ := mo_le (u := xT x i 4) (m := Int32.toInt64 (xI x 1)) n4 (by omega) (by rw [ti_i]; exact hp.2.2.2.1.1) (by rw [ti_i]; exact hp.2.2.2.1.2)
  have ht : ∀ a c, xT (x_loseHeat x i) a c = if a = i ∧ c = 4 then xT x i 4 - x_mo (xT x i 4) (Int32.toInt64 (xI x 1)) else xT x a c := fun a c => by
    unfold x_loseHeat
    dsimp only
    rw [xT_O, xT_get]
  have ho : ∀ a c, a ≠ i → xT (x_loseHeat x i) a c = xT x a c := fun a c ha => by rw [ht, if_neg (fun q => ha q.1)]
  have tk : ∀ c, c ≠ 4 → xT (x_loseHeat x i) i c = xT x i c := fun c hc => by rw [ht, if_neg (fun q => hc q.2)]
  have t4 : (xT (x_loseHeat x i) i 4).toInt = (xT x i 4).toInt - (x_mo (xT x i 4) (Int32.toInt64 (xI x 1))).toInt := by
    rw [ht, if_pos (by omega), ti_sub (by omega) (by omega)]
  refine ok_step h i ho (fun _ => ⟨?_, ?_, ?_, ?_, ?_⟩) (fun _ => ?_) (fun _ => ?_)
  · rw [tk 0 (by omega)]; omega
  · rw [tk 1 (by omega)]; omega
  · rw [tk 2 (by omega)]; omega
  · rw [tk 3 (by omega)]; omega
  · rw [t4]; omega
  · unfold f1; rw [tk 0 (by omega), tk 1 (by omega), tk 2 (by omega), tk 3 (by omega)]; omega
  · unfold f2; rw [tk 0 (by omega), tk 1 (by omega), tk 2 (by omega), t4]; omega
theorem drive_ok {L : Nat} {A B : Int} (hA : A ≤ 4000000000) (hB : B ≤ 80000000000000) {x : xS} (hp : x_par x) (h : x_ok L A B x) {i : Nat} (hi : i < L) : x_ok L A B (x_driveOff x i) := by
  obtain ⟨hn, b1, b2⟩ := ok_at h hi
  obtain ⟨n0, n1, n2, n3, n4⟩ := hn
  unfold f1 at b1
  unfold f2 at b2
  obtain ⟨g0, g1⟩ := mo_le (u := xT x i 3) (m := Int32.toInt64 (xI x 8)) n3 (by omega) (by rw [ti_i]; exact hp.2.2.2.2.2.1.1) (by rw [ti_i]; exact Int.le_trans hp.2.2.2.2.2.1.2 (by omega))
  obtain ⟨wa, hwa⟩ : ∃ z9, z9 = x_mo (xT x i 3) (Int32.toInt64 (xI x 8)) := ⟨_, rfl⟩
  rw [← hwa] at g0 g1
  obtain ⟨he, hhe⟩ : ∃ z9, z9 = x_min (wa * 600) (xT x i 4) := ⟨_, rfl⟩
  have e6 : (wa * 600).toInt = wa.toInt * 600 := by rw [ti_mul (by rw [ti_600]; omega) (by rw [ti_600]; omega), ti_600]
  have e7 : 0 ≤ he.toInt ∧ he.toInt ≤ (xT x i 4).toInt := by
    rw [hhe, x_min_ti, e6]
    split <;> omega
  have ht : ∀ a c, xT (x_driveOff x i) a c = if a = i ∧ c = 4 then xT x i 4 - he else if a = i ∧ c = 3 then xT x i 3 - wa else xT x a c := fun a c => by
    unfold x_driveOff
    dsimp only
    rw [xT_O, xT_O, xT_get, xT_get, xT_get, if_neg (show ¬ (i = i ∧ 4 = 3) by omega), ← hwa, ← hhe]
  have ho : ∀ a c, a ≠ i → xT (x_driveOff x i) a c = xT x a c := fun a c ha => by rw [ht, if_neg (fun q => ha q.1), if_neg (fun q => ha q.1)]
  have tk : ∀ c, c ≠ 4 → c ≠ 3 → xT (x_driveOff x i) i c = xT x i c := fun c hc hc3 => by rw [ht, if_neg (fun q => hc q.2), if_neg (fun q => hc3 q.2)]
  have t4 : (xT (x_driveOff x i) i 4).toInt = (xT x i 4).toInt - he.toInt := by
    rw [ht, if_pos (by omega), ti_sub (by omega) (by omega)]
  have t3 : (xT (x_driveOff x i) i 3).toInt = (xT x i 3).toInt - wa.toInt := by
    rw [ht, if_neg (by omega), if_pos (by omega), ti_sub (by omega) (by omega)]
  refine ok_step h i ho (fun _ => ⟨?_, ?_, ?_, ?_, ?_⟩) (fun _ => ?_) (fun _ => ?_)
  · rw [tk 0 (by omega) (by omega)]; omega
  · rw [tk 1 (by omega) (by omega)]; omega
  · rw [tk 2 (by omega) (by omega)]; omega
  · rw [t3]; omega
  · rw [t4]; omega
  · unfold f1; rw [tk 0 (by omega) (by omega), tk 1 (by omega) (by omega), tk 2 (by omega) (by omega), t3]; omega
  · unfold f2; rw [tk 0 (by omega) (by omega), tk 1 (by omega) (by omega), tk 2 (by omega) (by omega), t4]; omega
/-- water of a layer becomes v -/
theorem S1_w (x : xS) (i : Nat) (v : Int64) : ∀ n, x_S1 (xT' x i 3 v) n = x_S1 x n + (if i < n then v.toInt - (xT x i 3).toInt else 0)
  | 0 => by rw [if_neg (by omega)]; rfl
  | n + 1 => by
    rw [S1_f, S1_f, S1_w x i v n]
    unfold f1
    rw [xT_get, xT_get, xT_get, xT_get, if_neg (show ¬ (n = i ∧ 0 = 3) by omega), if_neg (show ¬ (n = i ∧ 1 = 3) by omega), if_neg (show ¬ (n = i ∧ 2 = 3) by omega)]
    by_cases h : n = i
    · rw [if_pos (show n = i ∧ 3 = 3 from ⟨h, rfl⟩), if_neg (show ¬ i < n by omega), if_pos (show i < n + 1 by omega), h]; omega
    · rw [if_neg (show ¬ (n = i ∧ 3 = 3) from fun q => h q.1)]
      by_cases h2 : i < n
      · rw [if_pos h2, if_pos (show i < n + 1 by omega)]; omega
      · rw [if_neg h2, if_neg (show ¬ i < n + 1 by omega)]; omega
theorem S2_w (x : xS) (i : Nat) (v : Int64) : ∀ n, x_S2 (xT' x i 3 v) n = x_S2 x n
  | 0 => rfl
  | n + 1 => by
    rw [S2_f, S2_f, S2_w x i v n]
    unfold f2
    rw [xT_get, xT_get, xT_get, xT_get, if_neg (by omega), if_neg (by omega), if_neg (by omega), if_neg (by omega)]
theorem ok_w {L : Nat} {A B : Int} {x : xS} (h : x_ok L A B x) {i : Nat} (hi : i < L) {v : Int64} (hv : 0 ≤ v.toInt) : x_ok L (A + (v.toInt - (xT x i 3).toInt)) B (xT' x i 3 v) := by
  refine ⟨fun a ha k hk => ?_, ?_, ?_⟩
  · rw [xT_get]
    split
    · exact hv
    · exact h.1 a ha k hk
  · rw [S1_w, if_pos hi]; have := h.2.1; omega
  · rw [S2_w]; exact h.2.2
theorem ok_O {L : Nat} {A B : Int} {x : xS} (h : x_ok L A B x) (k j : Nat) (v : Int64) : x_ok L A B (xO' x k j v) := by
  have e : ∀ n, x_S1 (xO' x k j v) n = x_S1 x n ∧ x_S2 (xO' x k j v) n = x_S2 x n := by
    intro n
    induction n with
    | zero => exact ⟨rfl, rfl⟩
    | succ n ih => exact ⟨by rw [S1_f, S1_f, ih.1]; rfl, by rw [S2_f, S2_f, ih.2]; rfl⟩
  exact ⟨h.1, by rw [(e L).1]; exact h.2.1, by rw [(e L).2]; exact h.2.2⟩
theorem ok_same {L : Nat} {A B : Int} {x y : xS} (h : x_ok L A B x) (ht : ∀ a c, xT y a c = xT x a c) : x_ok L A B y := by
  have e : ∀ n, x_S1 y n = x_S1 x n ∧ x_S2 y n = x_S2 x n := by
    intro n
    induction n with
    | zero => exact ⟨rfl, rfl⟩
    | succ n ih => exact ⟨by rw [S1_f, S1_f, ih.1]; unfold f1; rw [ht, ht, ht, ht], by rw [S2_f, S2_f, ih.2]; unfold f2; rw [ht, ht, ht, ht]⟩
  exact ⟨fun a ha k hk => by rw [ht]; exact h.1 a ha k hk, by rw [(e L).1]; exact h.2.1, by rw [(e L).2]; exact h.2.2⟩
theorem ok_mono {L : Nat} {A A' B B' : Int} {x : xS} (h : x_ok L A B x) (ha : A ≤ A') (hb : B ≤ B') : x_ok L A' B' x := ⟨h.1, Int.le_trans h.2.1 ha, Int.le_trans h.2.2 hb⟩
theorem la_nI {L : Nat} (hL : 1 ≤ L ∧ L ≤ 6) {i : Nat} (hi : i ≤ 6) : x_la L (nI i) = if i < L then some i else none := by
  rcases x_la_cases hL (nI i) with h | ⟨j, h1, h2, h3⟩
  · by_cases hlt : i < L
    · exfalso
      have := isLayer_none hL h
      rw [isLayer_some hL hlt] at this
      exact absurd this (by decide)
    · rw [h, if_neg hlt]
  · have : i = j := (nI_eq (by omega) (by omega)).mp h2
    subst this
    rw [h3, if_pos h1]
theorem surplus_ti {x : xS} (hp : x_par x) {i : Nat} (h0 : 0 ≤ (xT x i 3).toInt) : (x_surplus x i).toInt = if (xT x i 3).toInt - (xB x i 1).toInt < 0 then 0 else (xT x i 3).toInt - (xB x i 1).toInt := by
  have hb := hp.2.2.2.2.2.2 i
  have h1 := Int64.toInt_lt (xT x i 3)
  have h2 : (xB x i 1).toInt < 2147483648 := Int32.toInt_lt _
  unfold x_surplus
  rw [x_max_ti, ti_sub (by rw [ti_i]; omega) (by rw [ti_i]; omega), ti_i, ti_0]
theorem pour_ok {L : Nat} (hL : 1 ≤ L ∧ L ≤ 6) {A B : Int} (hA : A ≤ 5000000000) {x : xS} (h : x_ok L A B x) {v : Int64} (hv : 0 ≤ v.toInt) (hv2 : v.toInt ≤ 5000000000) {i : Nat} (hi : i ≤ 6) : x_ok L (A + v.toInt) B (x_pour L x v (nI i)) ∧ par (x_pour L x v (nI i)) = par x := by
  unfold x_pour
  rw [la_nI hL hi]
  by_cases hlt : i < L
  · rw [if_pos hlt]
    obtain ⟨hn, b1, -⟩ := ok_at h hlt
    unfold f1 at b1
    obtain ⟨n0, n1, n2, n3, -⟩ := hn
    have e : (xT x i 3 + v).toInt = (xT x i 3).toInt + v.toInt := ti_add (by omega) (by omega)
    have := ok_w h hlt (v := xT x i 3 + v) (by rw [e]; omega)
    refine ⟨ok_mono this (by rw [e]; omega) (Int.le_refl _), par_T _ _ _ _⟩
  · rw [if_neg hlt]
    exact ⟨ok_mono (ok_O h _ _ _) (by omega) (Int.le_refl _), par_O _ _ _ _⟩
