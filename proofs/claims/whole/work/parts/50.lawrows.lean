/-! THE LAW'S ROWS: two worlds and the script -/
section WL
variable {p : Program} {l : Launch} {e : Env} {R : Room} {s : State} {m : MethodId} {args : Array Value} {below : List Frame} {meth : Method} {c : Code} {H : Heap} {locs : List Loc} {cells slots : Nat} {Q : State → Prop}
variable {cc : ByteArray} {pc : Nat} {ls : Array Slot} {rest st0 : List Value} {g : wG} {n n2 : Nat} {ad ad2 : Nat → Nat} {E E' E2 : Nat → va_E} {H0 : Heap} {As : List Value} {a : Array Value}
theorem wl_low (hS : H0.size ≤ H.size) (hlo : ∀ k, k < n → H0.size ≤ ad k) {q : Nat} (h : wA n ad H.size q) : H0.size ≤ q := by
  rcases h with ⟨k, hk, rfl⟩ | h
  · exact hlo k hk
  · exact Nat.le_trans hS h
theorem wl_other {D : va_G} {cl : List vw_C} {H1 : Heap} (hP2 : va_P D cl (wo n2 ad2 E2) H) (hd : ∀ i j, i < n → j < n2 → ad i ≠ ad2 j) (hk : ∀ q : Nat, q < H.size → ¬ wA n ad H.size q → H1[q]? = H[q]?) : va_P D cl (wo n2 ad2 E2) H1 := by
  refine hP2.kept (fun k q hq => ?_)
  have hlt := (hP2 k q hq).lt
  obtain ⟨h1, rfl⟩ := wo_lt hq
  refine hk _ hlt (fun h => ?_)
  rcases h with ⟨i, hi, h⟩ | h
  · exact hd i k hi h1 h
  · exact absurd hlt (Nat.not_lt.mpr h)
theorem wl_i {r : Int32} (hr : va_Run p l e R s m args below meth c H locs cells slots 0 0 (F0 m pc ls st0) rest (va_Qi (fun x (_ : Unit) => x = r) (fun _ t => va_P g.1 vwCl (wo n ad E') t.heap) (wA n ad H.size) a) (wA n ad H.size)) (hS : va_S (fun q => H0.size ≤ q) H0 H locs) (hlo : ∀ k, k < n → H0.size ≤ ad k) (hP2 : va_P g.1 vwCl (wo n2 ad2 E2) H) (hd : ∀ i j, i < n → j < n2 → ad i ≠ ad2 j)
    (kk : ∀ (H1 : Heap) (locs1 : List Loc), va_P g.1 vwCl (wo n ad E') H1 → va_P g.1 vwCl (wo n2 ad2 E2) H1 → va_S (fun q => H0.size ≤ q) H0 H1 locs1 → W p l e R s m args below meth c H1 locs1 cells slots Q (F0 m (pc + 3) ls (.int r :: rest))) : W p l e R s m args below meth c H locs cells slots Q (F0 m pc ls st0) :=
  va_calli hr hS (fun q _ h => wl_low hS.1 hlo h) (fun q h => wl_low hS.1 hlo h) (fun r1 _ t H1 locs1 ht _ hw hB _ hk hS1 => by subst hw; rw [ht] at hB; exact kk H1 locs1 hB (wl_other hP2 hd hk) hS1)
theorem wl_l {r : Int64} (hr : va_Run p l e R s m args below meth c H locs cells slots 0 0 (F0 m pc ls st0) rest (va_Ql (fun x (_ : Unit) => x = r) (fun _ t => va_P g.1 vwCl (wo n ad E') t.heap) (wA n ad H.size) a) (wA n ad H.size)) (hS : va_S (fun q => H0.size ≤ q) H0 H locs) (hlo : ∀ k, k < n → H0.size ≤ ad k) (hP2 : va_P g.1 vwCl (wo n2 ad2 E2) H) (hd : ∀ i j, i < n → j < n2 → ad i ≠ ad2 j)
    (kk : ∀ (H1 : Heap) (locs1 : List Loc), va_P g.1 vwCl (wo n ad E') H1 → va_P g.1 vwCl (wo n2 ad2 E2) H1 → va_S (fun q => H0.size ≤ q) H0 H1 locs1 → W p l e R s m args below meth c H1 locs1 cells slots Q (F0 m (pc + 3) ls (.long r :: rest))) : W p l e R s m args below meth c H locs cells slots Q (F0 m pc ls st0) :=
  va_calll hr hS (fun q _ h => wl_low hS.1 hlo h) (fun q h => wl_low hS.1 hlo h) (fun r1 _ t H1 locs1 ht _ hw hB _ hk hS1 => by subst hw; rw [ht] at hB; exact kk H1 locs1 hB (wl_other hP2 hd hk) hS1)
theorem ws_ld (hx : p.tables.exec = Jvm.exec) (hb : c.code = cc) {b L : Nat} {xs : Nat → Int32} (hX : va_X b L xs s H0) (hbl : b < H0.size) (hS : va_S (fun q => H0.size ≤ q) H0 H locs) {i : Int32} (j : Nat) (hi : i = nI j) (hj : j < L) (hL : L ≤ 2049) (hdg : decode cc pc = .ok (.iaload, 1))
    (kk : W p l e R s m args below meth c H locs cells slots Q (F0 m (pc + 1) ls (.int (xs j) :: rest))) : W p l e R s m args below meth c H locs cells slots Q (F0 m pc ls (.int i :: .ref b :: rest)) := by
  subst hi
  refine va_sld (A := fun q => H0.size ≤ q) hx hb hX hbl (Nat.not_le.mpr hbl) hS (vp_in_nI hj (by omega)) hdg ?_
  rw [nI_clamp (by omega)]
  exact kk
theorem ws_len (hx : p.tables.exec = Jvm.exec) (hb : c.code = cc) {b L : Nat} {xs : Nat → Int32} (hX : va_X b L xs s H0) (hbl : b < H0.size) (hS : va_S (fun q => H0.size ≤ q) H0 H locs) (hdg : decode cc pc = .ok (.arraylength, 1))
    (kk : W p l e R s m args below meth c H locs cells slots Q (F0 m (pc + 1) ls (.int (nI L) :: rest))) : W p l e R s m args below meth c H locs cells slots Q (F0 m pc ls (.ref b :: rest)) :=
  va_slen (A := fun q => H0.size ≤ q) hx hb hX hbl (Nat.not_le.mpr hbl) hS hdg kk
theorem wr_newL {b : Nat} {A : Nat → Prop} (hx : p.tables.exec = Jvm.exec) (hb : c.code = cc) {own C : String} {T : u_T} {N ci index : Nat} {Ts : List Cond} (hts : ∀ w ∈ Ts, w.before args s = true) (hin : ∀ w ∈ u_ws C T N, w ∈ Ts) (ty : Nat → FieldType) (hty : ∀ k, k < N → parseFieldDescriptor (T k).2.2.1 = some (ty k)) (hown : s.vm.findClass own = some m.cls) (hcl : (Cond.classLink own index C).before args s = true) (hinst : (Cond.instantiable C N).before args s = true) (hini : (Cond.initialized C).before args s = true)
    (hK : va_K g.1 vwCl (wtys g) s) (hS : va_S A H0 H locs) (hz : H.size = b) {fs : List Value} (hn : E' 0 = .inr (ci, fs)) (hc : vwCl[ci]? = some (C, T, N)) (hfs : ∀ j, j < N → defaultValue (ty j) = vp_V fs j) (hcells : cells + 1 ≤ R.cells) (hslots : slots + N ≤ R.slots) (hdg : decode cc pc = .ok (.new index, 3))
    (kk : ∀ (H1 : Heap), va_P g.1 vwCl (wo 1 (adl b) E') H1 → H1.size = b + 1 → (∀ q, q < H.size → H1[q]? = H[q]?) → va_S A H0 H1 locs →
      W p l e R s m args below meth c H1 locs (cells + 1) (slots + N) Q (F0 m (pc + 3) ls (.ref (adl b 0) :: rest))) : W p l e R s m args below meth c H locs cells slots Q (F0 m pc ls rest) := by
  have hKn := hK.1 ci _ hc
  refine W.newcK hx hb hown hcl hinst hini rfl hdg hcells hslots hKn.2.1 rfl fun H1 kC hkC e1 z1 o1 => ?_
  have h0 : va_P g.1 vwCl (wo 0 (adl b) E') H := fun k q h => by simp [wo] at h
  have := kk H1 (wo_more h0 o1 (fun k hk => absurd hk (Nat.not_lt_zero k)) hn ⟨_, hc, by show t_OB (b + 0) _ _ _ _ _; rw [Nat.add_zero, ← hz]; exact (u_born ty hts hin hKn hkC e1 hty).to hfs⟩) (by omega) o1 (hS.more z1 o1)
  rw [hz]
  exact this
theorem wc_nL {b n' mc ms : Nat} (hr : va_Run p l e R s m args below meth c H locs cells slots mc ms (F0 m pc ls st0) rest (va_Qv (fun (_ : Unit) => True) (fun _ t => va_P g.1 vwCl (wo n' (adl b) E') t.heap ∧ t.heap.size = b + n') (fun q => b ≤ q) a) (fun q => b ≤ q)) (hS : va_S (fun q => H0.size ≤ q) H0 H locs) (hlo : H0.size ≤ b)
    (kk : ∀ (H1 : Heap) (locs1 : List Loc), va_P g.1 vwCl (wo n' (adl b) E') H1 → H1.size = b + n' → (∀ q : Nat, q < H.size → ¬ b ≤ q → H1[q]? = H[q]?) → va_S (fun q => H0.size ≤ q) H0 H1 locs1 → W p l e R s m args below meth c H1 locs1 (cells + mc) (slots + ms) Q (F0 m (pc + 3) ls rest)) : W p l e R s m args below meth c H locs cells slots Q (F0 m pc ls st0) :=
  va_callv hr hS (fun q _ h => Nat.le_trans hlo h) (fun q h => Nat.le_trans hlo h) (fun _ t H1 locs1 ht _ hw hB _ hk hS1 => by rw [ht] at hB; exact kk H1 locs1 hB.1 hB.2 hk hS1)
end WL
/-- what holds in the law's loop, but for heap and locals -/
def lw_C (p : Program) (s : State) (m : MethodId) (meth : Method) (c : Code) (b N : Nat) (xs : Nat → Int32) (g : wG) (L bx bm : Nat) : Prop :=
  p.tables.exec = Jvm.exec ∧ c.code = code ∧ c.maxLocals = 4 ∧ s.vm.findClass "HeapStepsLaw" = some m.cls ∧ (∀ w ∈ tb, w.before #[Value.ref b] s = true) ∧ va_X b N xs s s.heap ∧ b < s.heap.size ∧ N ≤ 2049 ∧ va_K g.1 vwCl (wtys g) s ∧ wN s ∧ (1 ≤ L ∧ L ≤ 6) ∧ s.heap.size ≤ bx ∧ bm = bx + (16 + 2 * L)
theorem lw_lo {s : State} {bx n : Nat} (h : s.heap.size ≤ bx) : ∀ k, k < n → s.heap.size ≤ adl bx k := fun k _ => Nat.le_trans h (Nat.le_add_right bx k)
theorem lw_dx {bx bm L : Nat} (h : bm = bx + (16 + 2 * L)) : ∀ i j, i < 16 + 2 * L → j < 14 → adl bx i ≠ adl bm j := fun i j _ _ => by unfold adl; omega
theorem lw_dm {bx bm L : Nat} (h : bm = bx + (16 + 2 * L)) : ∀ i j, i < 14 → j < 16 + 2 * L → adl bm i ≠ adl bx j := fun i j _ _ => by unfold adl; omega
