/-! WHAT THE REFERENCE'S METHODS DO, on the same state -/
def m_isIn (u v w : Int64) : Int32 := if lg_cmp u v < 0 then 0 else if 0 < lg_cmp u w then 0 else 1
def m_isLayer (L : Nat) (l : Int32) : Int32 := if l < 0 then 0 else if nI L ≤ l then 0 else 1
def m_isPart (p : Int32) : Int32 := if p < 0 then 0 else if 3 ≤ p then 0 else 1
def m_warm (x : xS) (i : Nat) : Int64 := if lg_cmp (x_mass x i) 0 = 0 then 0 else xT x i 4 / x_mass x i
def m_rateN (x : xS) (p : Nat) (w : Int64) : Nat → Int64
  | 0 => 0
  | n + 1 => if 0 < lg_cmp (Int32.toInt64 (xR x p 0 n)) w then m_rateN x p w n else Int32.toInt64 (xR x p 1 n)
def m_rate (x : xS) (p : Nat) (w : Int64) : Int64 := m_rateN x p w (xY x p 0).toNatClampNeg
def m_breakPart (x : xS) (i p : Nat) (w : Int64) : xS :=
  let gr := x_mo (xT x i p) (m_rate x p w)
  let x := xT' x i p (xT x i p - gr)
  let x := xO' x 0 0 (xO x 0 0 + gr)
  let he := gr * Int32.toInt64 (xY x p 1)
  let x := xT' x i 4 (xT x i 4 + he)
  let x := xO' x 0 4 (xO x 0 4 + he)
  let wa := gr * Int32.toInt64 (xY x p 2) / 1000
  let x := xT' x i 3 (xT x i 3 + wa)
  xO' x 0 7 (xO x 0 7 + wa)
def m_breaks (x : xS) (i : Nat) : xS :=
  let w := m_warm x i
  m_breakPart (m_breakPart (m_breakPart x i 0 w) i 1 w) i 2 w
def m_loses (x : xS) (i : Nat) : xS :=
  let lo := x_mo (xT x i 4) (Int32.toInt64 (xI x 1))
  let x := xT' x i 4 (xT x i 4 - lo)
  let x := xO' x 0 5 (xO x 0 5 + lo)
  let off := x_mo (xT x i 3) (Int32.toInt64 (xI x 8))
  let x := xT' x i 3 (xT x i 3 - off)
  let x := xO' x 0 1 (xO x 0 1 + off)
  let he := if 0 ≤ lg_cmp (600 * off) (xT x i 4) then xT x i 4 else 600 * off
  let x := xT' x i 4 (xT x i 4 - he)
  xO' x 0 6 (xO x 0 6 + he)
def m_cut (v lo hi : Int64) : Int64 := if 0 ≤ lg_cmp v lo then (if lg_cmp v hi ≤ 0 then v else hi) else lo
def m_wN (x : xS) : Nat → Int64
  | 0 => m_warm x 0
  | n + 1 => if lg_cmp (m_warm x (n + 1)) (m_wN x n) ≤ 0 then m_wN x n else m_warm x (n + 1)
def m_setFan (L : Nat) (x : xS) : xS :=
  if xI x 4 = 0 then x else
    let e := m_wN x (L - 1) - Int32.toInt64 (xI x 5)
    let x := xF' x (m_cut (xF x + e) (-1000000000) 1000000000)
    let all := Int32.toInt64 (xI x 6) * e + Int32.toInt64 (xI x 7) * xF x
    let down := all / 1000 - (if 0 ≤ lg_cmp (all - all / 1000 * 1000) 0 then 0 else 1)
    xI' x 8 (Int64.toInt32 (m_cut down 0 1000))
def m_over (x : xS) (i : Nat) : Int64 := if lg_cmp (xT x i 3) (Int32.toInt64 (xB x i 1)) ≤ 0 then 0 else xT x i 3 - Int32.toInt64 (xB x i 1)
def m_down (L : Nat) (x : xS) (i : Nat) : xS :=
  let ov := m_over x i
  let x := xT' x i 3 (xT x i 3 - ov)
  if nI L ≤ nI (i + 1) then xO' x 0 2 (xO x 0 2 + ov) else xT' x (i + 1) 3 (xT x (i + 1) 3 + ov)
def m_layer (L : Nat) (x : xS) (i : Nat) : xS :=
  m_down L (m_loses (if lg_cmp (xT x i 3) (Int32.toInt64 (xB x i 0)) < 0 then x else m_breaks x i) i) i
def m_layersN (L : Nat) (x : xS) : Nat → xS
  | 0 => x
  | n + 1 => m_layer L (m_layersN L x n) n
def m_minute (L : Nat) (x : xS) : xS :=
  let x := xT' x 0 3 (xT x 0 3 + Int32.toInt64 (xI x 0))
  let x := xO' x 0 3 (xO x 0 3 + Int32.toInt64 (xI x 0))
  let x := m_setFan L (m_layersN L x L)
  xO' x 0 8 (xO x 0 8 + 1)
def m_goN (L : Nat) : Nat → xS → Nat × xS
  | 0, x => (0, x)
  | n + 1, x => if 0 < lg_cmp (m_wN x (L - 1)) (Int32.toInt64 (xI x 2)) then (0, x) else ((m_goN L n (m_minute L x)).1 + 1, (m_goN L n (m_minute L x)).2)
def m_run (L : Nat) (x : xS) (k : Int32) : Int32 × xS :=
  if x_within k 1 1000 = 0 then (-1, x) else if lg_cmp (xO x 0 8 + Int32.toInt64 k) 20000 ≤ 0 then (nI (m_goN L k.toNatClampNeg x).1, (m_goN L k.toNatClampNeg x).2) else (-1, x)
def m_warmth (L : Nat) (x : xS) (l : Int32) : Int64 := match x_la L l with
  | none => -1
  | some i => m_warm x i
def m_share (L : Nat) (all : Int64) (i : Nat) : Int64 := all / Int32.toInt64 (nI L) + (if 0 ≤ lg_cmp (Int32.toInt64 (nI i)) (all - all / Int32.toInt64 (nI L) * Int32.toInt64 (nI L)) then 0 else 1)
def m_shareN (L : Nat) (x : xS) (k : Nat) (all : Int64) : Nat → xS
  | 0 => x
  | n + 1 => xT' (m_shareN L x k all n) n k (m_share L all n)
def m_share2N (L : Nat) (x : xS) (w h : Int64) : Nat → xS
  | 0 => x
  | n + 1 => xT' (xT' (m_share2N L x w h n) n 3 (m_share L w n)) n 4 (m_share L h n)
def m_turn (L : Nat) (x : xS) : Int32 × xS :=
  let x := m_shareN L x 0 (x_inAllN x 0 L) L
  let x := m_shareN L x 1 (x_inAllN x 1 L) L
  let x := m_shareN L x 2 (x_inAllN x 2 L) L
  let x := m_share2N L x (x_inAllN x 3 L) (x_inAllN x 4 L) L
  (xI x 3 + 1, xI' x 3 (xI x 3 + 1))
def m_thereN (x : xS) : Nat → Int64
  | 0 => 0
  | n + 1 => m_thereN x n + (x_mass x n - xT x n 3)
def m_balance (L : Nat) (x : xS) (k : Int32) : Int64 :=
  if x_within k 0 2 = 0 then -1
  else if k = 0 then mPut x 0 - mTak x 0 - m_thereN x L - xO x 0 0
  else if k = 1 then mPut x 1 - mTak x 1 - x_inAllN x 3 L + xO x 0 3 + xO x 0 7 - xO x 0 1 - xO x 0 2
  else mPut x 2 - mTak x 2 - x_inAllN x 4 L + xO x 0 4 - xO x 0 5 - xO x 0 6
def m_zero (x : xS) (i : Nat) : xS := xT' (xT' (xT' (xT' (xT' x i 0 0) i 1 0) i 2 0) i 3 0) i 4 0
def m_zeroN (x : xS) : Nat → xS
  | 0 => x
  | n + 1 => m_zero (m_zeroN x n) n
def m_batch (L : Nat) (x : xS) : Int64 × xS :=
  let x1 := xO' x 2 0 (xO x 2 0 + m_thereN x L)
  let x2 := xO' x1 2 3 (mTak x1 1 + x_inAllN x1 3 L)
  let x3 := xO' x2 2 4 (mTak x2 2 + x_inAllN x2 4 L)
  (m_thereN x L + x_inAllN x 3 L, m_zeroN x3 L)
/-! the tests of the two are the same -/
theorem i64_lt (a b : Int32) : Int32.toInt64 a < Int32.toInt64 b ↔ a < b := by
  rw [Int64.lt_iff_toInt_lt, Int32.toInt_toInt64, Int32.toInt_toInt64, Int32.lt_iff_toInt_lt]
theorem isIn_x {a b c : Int32} {v w : Int64} (hv : v = Int32.toInt64 b) (hw : w = Int32.toInt64 c) : m_isIn (Int32.toInt64 a) v w = x_within a b c := by
  subst hv; subst hw
  unfold m_isIn x_within
  have h1 : lg_cmp (Int32.toInt64 a) (Int32.toInt64 b) < 0 ↔ a < b := (lg_cmp_lt _ _).trans (i64_lt a b)
  have h2 : 0 < lg_cmp (Int32.toInt64 a) (Int32.toInt64 c) ↔ c < a := (lg_cmp_gt _ _).trans (i64_lt c a)
  simp only [h1, h2]
theorem isPart_x (p : Int32) : m_isPart p = x_within p 0 2 := by
  unfold m_isPart x_within
  have h : (3 ≤ p) ↔ (2 < p) := by
    rw [Int32.le_iff_toInt_le, Int32.lt_iff_toInt_lt]
    show (3 : Int) ≤ _ ↔ (2 : Int) < _
    omega
  simp only [h]
theorem isLayer_none {L : Nat} (hL : 1 ≤ L ∧ L ≤ 6) {l : Int32} (h : x_la L l = none) : m_isLayer L l = 0 := by
  unfold m_isLayer
  by_cases h1 : l < 0
  · rw [if_pos h1]
  · rw [if_neg h1]
    by_cases h2 : nI L ≤ l
    · rw [if_pos h2]
    · obtain ⟨j, hj, rfl⟩ := nI_of h1
      have hjL : j < L := by
        rcases Nat.lt_or_ge j L with q | q
        · exact q
        · exact absurd (nI_le q hj) h2
      unfold x_la x_within at h
      rw [if_neg h1] at h
      obtain ⟨k, rfl⟩ : ∃ k, L = k + 1 := ⟨L - 1, by omega⟩
      rw [nI_pred] at h
      rw [if_neg (nI_nlt (by omega) (by omega)), if_neg (by decide)] at h
      cases h
theorem isLayer_some {L : Nat} (hL : 1 ≤ L ∧ L ≤ 6) {i : Nat} (h : i < L) : m_isLayer L (nI i) = 1 := by
  unfold m_isLayer
  rw [if_neg (nI_pos (by omega)), if_neg (nI_ge h (by omega))]
theorem x_within_1 {a b c : Int32} (h : ¬ x_within a b c = 0) : x_within a b c = 1 := by
  rcases x_within_01 a b c with q | q
  · exact absurd q h
  · exact q
section WV
variable {p : Program} {l : Launch} {e : Env} {R : Room} {s : State} {m : MethodId} {args : Array Value} {below : List Frame} {meth : Method} {c : Code} {H : Heap} {locs : List Loc} {cells slots : Nat} {Q : State → Prop}
variable {cc : ByteArray} {pc : Nat} {ls : Array Slot} {rest st0 : List Value} {g : wG} {n : Nat} {ad : Nat → Nat} {E E' : Nat → va_E} {H0 : Heap}
theorem wr_laldv (hx : p.tables.exec = Jvm.exec) (hb : c.code = cc) (hK : va_K g.1 vwCl (wtys g) s) (hP : va_P g.1 vwCl (wo n ad E) H) (q0 t0 : Nat) (hq : q0 < n) {cA : ClassId} {N : Nat} {f : Nat → Int64} (he : E q0 = .inl (cA, N, .inr (.inl f))) (ht : (wtys g)[t0]? = some (cA, .long)) {i : Int32} (j : Nat) (hi : i = nI j) (hj : j < N) (hN : N < 2 ^ 31) {v : Int64} (hv : f j = v) (hdg : decode cc pc = .ok (.laload, 1))
    (kk : W p l e R s m args below meth c H locs cells slots Q (F0 m (pc + 1) ls (.long v :: rest))) : W p l e R s m args below meth c H locs cells slots Q (F0 m pc ls (.int i :: .ref (ad q0) :: rest)) := by
  subst hv
  exact wr_lald hx hb hK hP q0 t0 hq he ht j hi hj hN hdg kk
theorem wr_ialdv (hx : p.tables.exec = Jvm.exec) (hb : c.code = cc) (hK : va_K g.1 vwCl (wtys g) s) (hP : va_P g.1 vwCl (wo n ad E) H) (q0 t0 : Nat) (hq : q0 < n) {cA : ClassId} {N : Nat} {f : Nat → Int32} (he : E q0 = .inl (cA, N, .inl f)) (ht : (wtys g)[t0]? = some (cA, .int)) {i : Int32} (j : Nat) (hi : i = nI j) (hj : j < N) (hN : N < 2 ^ 31) {v : Int32} (hv : f j = v) (hdg : decode cc pc = .ok (.iaload, 1))
    (kk : W p l e R s m args below meth c H locs cells slots Q (F0 m (pc + 1) ls (.int v :: rest))) : W p l e R s m args below meth c H locs cells slots Q (F0 m pc ls (.int i :: .ref (ad q0) :: rest)) := by
  subst hv
  exact wr_iald hx hb hK hP q0 t0 hq he ht j hi hj hN hdg kk
end WV
theorem m4dec {k r : Nat} (h : 1 ≤ r) : nI (4 * k + r) - 1 = nI (4 * k + (r - 1)) := by
  obtain ⟨r', rfl⟩ : ∃ r', r = r' + 1 := ⟨r - 1, by omega⟩
  exact nI_pred (4 * k + r')
theorem rate_n4 {v : Int32} {r : Nat} (hr4 : r ≤ 4) (hre : v = nI r) (h : ¬ v = 4) : ¬ 4 ≤ v := by
  subst hre
  have h5 : r ≠ 4 := fun q => h (by rw [q]; rfl)
  exact nI_ge (a := r) (b := 4) (by omega) (by omega)
/-! what a minute leaves as it was -/
theorem xYs_mbreakPart (x : xS) (i p : Nat) (w : Int64) : xYs (m_breakPart x i p w) = xYs x := by
  unfold m_breakPart
  show xYs (xO' (xT' (xO' (xT' (xO' (xT' x _ _ _) _ _ _) _ _ _) _ _ _) _ _ _) _ _ _) = _
  rw [xYs_O, xYs_T, xYs_O, xYs_T, xYs_O, xYs_T]
theorem xYs_mbreaks (x : xS) (i : Nat) : xYs (m_breaks x i) = xYs x := by
  unfold m_breaks
  show xYs (m_breakPart (m_breakPart (m_breakPart x i 0 _) i 1 _) i 2 _) = _
  rw [xYs_mbreakPart, xYs_mbreakPart, xYs_mbreakPart]
theorem xYs_mloses (x : xS) (i : Nat) : xYs (m_loses x i) = xYs x := by
  unfold m_loses
  show xYs (xO' (xT' (xO' (xT' (xO' (xT' x _ _ _) _ _ _) _ _ _) _ _ _) _ _ _) _ _ _) = _
  rw [xYs_O, xYs_T, xYs_O, xYs_T, xYs_O, xYs_T]
theorem xYs_mdown (L : Nat) (x : xS) (i : Nat) : xYs (m_down L x i) = xYs x := by
  unfold m_down
  dsimp only
  split
  · rw [xYs_O, xYs_T]
  · rw [xYs_T, xYs_T]
theorem xYs_mlayer (L : Nat) (x : xS) (i : Nat) : xYs (m_layer L x i) = xYs x := by
  unfold m_layer
  rw [xYs_mdown, xYs_mloses]
  split
  · rfl
  · rw [xYs_mbreaks]
theorem xYs_mlayersN (L : Nat) (x : xS) : ∀ n, xYs (m_layersN L x n) = xYs x
  | 0 => rfl
  | n + 1 => by rw [m_layersN, xYs_mlayer, xYs_mlayersN L x n]
theorem xYs_msetFan (L : Nat) (x : xS) : xYs (m_setFan L x) = xYs x := by
  unfold m_setFan
  split
  · rfl
  · show xYs (xI' (xF' x _) _ _) = _
    rw [xYs_I, xYs_F]
theorem xYs_mminute (L : Nat) (x : xS) : xYs (m_minute L x) = xYs x := by
  unfold m_minute
  show xYs (xO' (m_setFan L (m_layersN L (xO' (xT' x _ _ _) _ _ _) L)) _ _ _) = _
  rw [xYs_O, xYs_msetFan, xYs_mlayersN, xYs_O, xYs_T]
theorem x_rows_mlayersN {x : xS} (h : x_rows x) (L n : Nat) : x_rows (m_layersN L x n) := x_rows_of (xYs_mlayersN L x n) h
theorem x_rows_mminute {x : xS} (h : x_rows x) (L : Nat) : x_rows (m_minute L x) := x_rows_of (xYs_mminute L x) h
theorem m_goN_step {L fu r : Nat} {z : xS} (h : ¬ 0 < lg_cmp (m_wN z (L - 1)) (Int32.toInt64 (xI z 2))) : ((m_goN L (fu + 1) z).1 + r, (m_goN L (fu + 1) z).2) = ((m_goN L fu (m_minute L z)).1 + (r + 1), (m_goN L fu (m_minute L z)).2) := by
  rw [m_goN, if_neg h]
  congr 1
  simp only
  omega
