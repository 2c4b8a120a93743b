/-! WORLDS BY PLACES: a world of n cells, the k-th at the address 'ad k' with the contents 'E k' -/
abbrev wG : Type := va_G × (Nat → ClassId)
/-! the array classes of the system, by number -/
abbrev tJ : Nat := 0
abbrev tI : Nat := 1
abbrev tL : Nat := 2
abbrev tK : Nat := 3
abbrev ciX : Nat := 0
abbrev ciFan : Nat := 1
abbrev ciKind : Nat := 2
abbrev ciLay : Nat := 3
abbrev ciM : Nat := 4
def wtys (g : wG) : List (ClassId × FieldType) := [(g.2 tJ, .long), (g.2 tI, .int), (g.2 tL, .object "HeapSteps$Layer"), (g.2 tK, .object "HeapSteps$Kind")]
def wo (n : Nat) (ad : Nat → Nat) (E : Nat → va_E) : va_W := (List.range n).map (fun k => (ad k, E k))
theorem wo_at {n : Nat} {ad : Nat → Nat} {E : Nat → va_E} {k : Nat} {e : va_E} (hk : k < n) (he : E k = e) : (wo n ad E)[k]? = some (ad k, e) := by
  subst he
  simp [wo, hk]
theorem wo_lt {n : Nat} {ad : Nat → Nat} {E : Nat → va_E} {k : Nat} {q : Nat × va_E} (h : (wo n ad E)[k]? = some q) : k < n ∧ q = (ad k, E k) := by
  have hl := (List.getElem?_eq_some_iff.mp h).1
  have hk : k < n := by simpa [wo] using hl
  rw [wo_at hk rfl] at h
  exact ⟨hk, (Option.some.inj h).symm⟩
def wJ (n : Nat) (ad : Nat → Nat) : Prop := ∀ i j : Nat, i < n → j < n → ad i = ad j → i = j
def wA (n : Nat) (ad : Nat → Nat) (sz : Nat) : Nat → Prop := fun q => (∃ k, k < n ∧ ad k = q) ∨ sz ≤ q
theorem wA_at {n : Nat} {ad : Nat → Nat} {sz k : Nat} (hk : k < n) : wA n ad sz (ad k) := Or.inl ⟨k, hk, rfl⟩
theorem wo_D {n : Nat} {ad : Nat → Nat} {E : Nat → va_E} {A : Nat → Prop} (hJ : wJ n ad) (hA : ∀ k, k < n → A (ad k)) : va_D A (wo n ad E) := by
  refine ⟨fun i j x y hx hy hxy => ?_, fun k q hq => ?_⟩
  · obtain ⟨a, rfl⟩ := wo_lt hx
    obtain ⟨b, rfl⟩ := wo_lt hy
    exact hJ i j a b hxy
  · obtain ⟨a, rfl⟩ := wo_lt hq
    exact hA k a
def wU (E E' : Nat → va_E) (k : Nat) (e : va_E) : Prop := E' k = e ∧ ∀ j, j ≠ k → E' j = E j
theorem wo_set {n : Nat} {ad : Nat → Nat} {E E' : Nat → va_E} {k : Nat} {e : va_E} (hk : k < n) (h : wU E E' k e) : (wo n ad E).set k (ad k, e) = wo n ad E' := by
  apply List.ext_getElem?
  intro j
  by_cases hj : j = k
  · subst hj
    rw [List.getElem?_set_self (by simpa [wo] using hk), wo_at hk h.1]
  · rw [List.getElem?_set_ne (Ne.symm hj)]
    by_cases hn : j < n
    · rw [wo_at hn rfl, wo_at hn (h.2 j hj)]
    · rw [List.getElem?_eq_none (by simp [wo]; omega), List.getElem?_eq_none (by simp [wo]; omega)]
theorem wo_congr {n : Nat} {ad ad' : Nat → Nat} {E E' : Nat → va_E} (ha : ∀ k, k < n → ad k = ad' k) (h : ∀ k, k < n → E k = E' k) : wo n ad E = wo n ad' E' := by
  apply List.map_congr_left
  intro k hk
  have hk := List.mem_range.mp hk
  rw [ha k hk, h k hk]
theorem wo_push {n : Nat} {ad : Nat → Nat} {E : Nat → va_E} (q : Nat) (e : va_E) : wo n ad E ++ [(q, e)] = wo (n + 1) (va_up ad n q) (va_up E n e) := by
  unfold wo
  rw [List.range_succ, List.map_append]
  congr 1
  · apply List.map_congr_left
    intro k hk
    have hk := List.mem_range.mp hk
    rw [va_up_ne _ _ (by omega), va_up_ne _ _ (by omega)]
  · simp [va_up]
theorem wJ_push {n : Nat} {ad : Nat → Nat} {A : Nat → Prop} {E : Nat → va_E} (h : va_D A (wo n ad E)) : wJ n ad := fun i j hi hj e => h.1 i j _ _ (wo_at hi rfl) (wo_at hj rfl) e
/-- what a method of the system needs at its start, and what it leaves -/
def wPre (g : wG) (n : Nat) (ad : Nat → Nat) (E : Nat → va_E) (sz : Nat) (U : State) : Prop := U.heap.size = sz ∧ va_P g.1 vwCl (wo n ad E) U.heap ∧ va_K g.1 vwCl (wtys g) U ∧ wN U ∧ wJ n ad
def CtI (l : Launch) (y : MethodName) (ws : List Cond) (rm : Room) (g : wG) (n : Nat) (ad : Nat → Nat) (E E' : Nat → va_E) (As : List Value) (r : Int32) : Prop :=
  ∀ sz : Nat, Met l y ws rm (va_Pc As (wPre g n ad E sz)) (va_Qi (fun x (_ : Unit) => x = r) (fun _ t => va_P g.1 vwCl (wo n ad E') t.heap) (wA n ad sz)) 0 0 (wA n ad sz)
def CtL (l : Launch) (y : MethodName) (ws : List Cond) (rm : Room) (g : wG) (n : Nat) (ad : Nat → Nat) (E E' : Nat → va_E) (As : List Value) (r : Int64) : Prop :=
  ∀ sz : Nat, Met l y ws rm (va_Pc As (wPre g n ad E sz)) (va_Ql (fun x (_ : Unit) => x = r) (fun _ t => va_P g.1 vwCl (wo n ad E') t.heap) (wA n ad sz)) 0 0 (wA n ad sz)
def CtV (l : Launch) (y : MethodName) (ws : List Cond) (rm : Room) (g : wG) (n : Nat) (ad : Nat → Nat) (E E' : Nat → va_E) (As : List Value) : Prop :=
  ∀ sz : Nat, Met l y ws rm (va_Pc As (wPre g n ad E sz)) (va_Qv (fun (_ : Unit) => True) (fun _ t => va_P g.1 vwCl (wo n ad E') t.heap) (wA n ad sz)) 0 0 (wA n ad sz)
def CtQ (l : Launch) (y : MethodName) (ws : List Cond) (rm : Room) (g : wG) (n : Nat) (ad : Nat → Nat) (E E' : Nat → va_E) (As : List Value) (r : Option Nat) : Prop :=
  ∀ sz : Nat, Met l y ws rm (va_Pc As (wPre g n ad E sz)) (va_Qq (fun x (_ : Unit) => x = r) (fun _ t => va_P g.1 vwCl (wo n ad E') t.heap) (wA n ad sz)) 0 0 (wA n ad sz)
theorem tb_ok {w : Cond} (h : w ∈ tb) : w ∈ tb ∧ ((w.onTables && w.keeps) = true ∨ ∃ ty, w = .arrayClass ty) := ⟨h, good_of_word (tb_good w h)⟩
theorem gd_C {y : MethodName} {cc : ByteArray} {n : Nat} {r : Option FieldType} (h5 : Cond.code y cc n r ∈ tb) : GoodIn tb (Cond.code y cc n r :: tb) := by
  intro w hw
  rcases List.mem_cons.mp hw with rfl | h
  · exact tb_ok h5
  · exact tb_ok h
theorem gd_S {own : String} {idx : Nat} {y : MethodName} {cc : ByteArray} {n : Nat} {r : Option FieldType} (h1 : Cond.methodLink own idx y ∈ tb) (h2 : Cond.static y ∈ tb) (h3 : Cond.initialized own ∈ tb) (h5 : Cond.code y cc n r ∈ tb) : GoodIn tb (wsS own idx y (Cond.code y cc n r :: tb)) := by
  intro w hw
  unfold wsS at hw
  rcases List.mem_append.mp hw with h | h
  · rcases List.mem_cons.mp h with rfl | h
    · exact tb_ok h1
    · rcases List.mem_cons.mp h with rfl | h
      · exact tb_ok h2
      · rw [List.mem_singleton.mp h]; exact tb_ok h3
  · exact gd_C h5 w h
theorem gd_V {own : String} {idx : Nat} {C : String} {y : MethodName} {cc : ByteArray} {n : Nat} {r : Option FieldType} (h1 : Cond.methodLink own idx y ∈ tb) (h2 : Cond.instanceMethod y ∈ tb) (h3 : Cond.selects C y y ∈ tb) (h4 : Cond.initialized C ∈ tb) (h5 : Cond.code y cc n r ∈ tb) : GoodIn tb (wsV own idx C y (Cond.code y cc n r :: tb)) := by
  intro w hw
  unfold wsV at hw
  rcases List.mem_append.mp hw with h | h
  · rcases List.mem_cons.mp h with rfl | h
    · exact tb_ok h1
    · rcases List.mem_cons.mp h with rfl | h
      · exact tb_ok h2
      · rcases List.mem_cons.mp h with rfl | h
        · exact tb_ok h3
        · rw [List.mem_singleton.mp h]; exact tb_ok h4
  · exact gd_C h5 w h
section WR
variable {p : Program} {l : Launch} {e : Env} {R : Room} {s : State} {m : MethodId} {args : Array Value} {below : List Frame} {meth : Method} {c : Code} {H : Heap} {locs : List Loc} {cells slots : Nat} {Q : State → Prop}
variable {cc : ByteArray} {pc : Nat} {ls : Array Slot} {rest st0 : List Value} {g : wG} {n : Nat} {ad : Nat → Nat} {E E' : Nat → va_E} {H0 : Heap} {As : List Value} {a : Array Value}
theorem wr_get (hx : p.tables.exec = Jvm.exec) (hb : c.code = cc) {own C : String} {T : u_T} {N ci index : Nat} {Ts : List Cond} (hts : ∀ w ∈ Ts, w.before args s = true) (hin : ∀ w ∈ u_ws C T N, w ∈ Ts) (hown : s.vm.findClass own = some m.cls) (hK : va_K g.1 vwCl (wtys g) s) (hP : va_P g.1 vwCl (wo n ad E) H) (q0 : Nat) (hq : q0 < n) {fs : List Value} (he : E q0 = .inr (ci, fs)) (hc : vwCl[ci]? = some (C, T, N)) (k : Nat) (hk : k < N) (hlink : (Cond.fieldLink own index (T k).1 (T k).2.1 (T k).2.2.1).before args s = true) {v : Value} (hv : fs[k]? = some v) (hdg : decode cc pc = .ok (.getfield index, 3))
    (kk : W p l e R s m args below meth c H locs cells slots Q (F0 m (pc + 3) ls (v :: rest))) : W p l e R s m args below meth c H locs cells slots Q (F0 m pc ls (.ref (ad q0) :: rest)) :=
  va_get hx hb hts hin hown hK hP q0 (wo_at hq he) hc k hk hlink (fun _ h9 => h9) hv hdg kk
theorem wr_put (hx : p.tables.exec = Jvm.exec) (hb : c.code = cc) {own C : String} {T : u_T} {N ci index : Nat} {Ts : List Cond} (hts : ∀ w ∈ Ts, w.before args s = true) (hin : ∀ w ∈ u_ws C T N, w ∈ Ts) (ty0 : Nat → FieldType) (hty : ∀ k, k < N → parseFieldDescriptor (T k).2.2.1 = some (ty0 k)) (hnm : ∀ a, a < N → ∀ b, b < N → a ≠ b → (T a).2.1 ≠ (T b).2.1) (hown : s.vm.findClass own = some m.cls) (hK : va_K g.1 vwCl (wtys g) s) (hP : va_P g.1 vwCl (wo n ad E) H) (hJ : wJ n ad) (hS : va_S (wA n ad H0.size) H0 H locs) (q0 : Nat) (hq : q0 < n) {fs : List Value} (he : E q0 = .inr (ci, fs)) (hc : vwCl[ci]? = some (C, T, N)) (k : Nat) (hk : k < N) (hlink : (Cond.fieldLink own index (T k).1 (T k).2.1 (T k).2.2.1).before args s = true) (hfin : (T k).2.2.2 = false) {v : Value} (hn : narrow (ty0 k) v = v) (hfit : fits (ty0 k) v = true) (hl : k < fs.length) (hU : wU E E' q0 (.inr (ci, fs.set k v)))
    (hdg : decode cc pc = .ok (.putfield index, 3)) (kk : ∀ (H1 : Heap) (locs1 : List Loc), va_P g.1 vwCl (wo n ad E') H1 → va_S (wA n ad H0.size) H0 H1 locs1 → W p l e R s m args below meth c H1 locs1 cells slots Q (F0 m (pc + 3) ls rest)) : W p l e R s m args below meth c H locs cells slots Q (F0 m pc ls (v :: .ref (ad q0) :: rest)) := by
  refine va_put hx hb hts hin ty0 hty hnm hown hK hP (wo_D hJ (fun k hk => wA_at hk)) hS q0 (wo_at hq he) hc k hk hlink (fun _ h9 => h9) hfin (hty k hk) hn hfit hl hdg (fun H1 locs1 h1 _ h3 => ?_)
  rw [wo_set hq hU] at h1
  exact kk H1 locs1 h1 h3
theorem wr_lald (hx : p.tables.exec = Jvm.exec) (hb : c.code = cc) (hK : va_K g.1 vwCl (wtys g) s) (hP : va_P g.1 vwCl (wo n ad E) H) (q0 t0 : Nat) (hq : q0 < n) {cA : ClassId} {N : Nat} {f : Nat → Int64} (he : E q0 = .inl (cA, N, .inr (.inl f))) (ht : (wtys g)[t0]? = some (cA, .long)) {i : Int32} (j : Nat) (hi : i = nI j) (hj : j < N) (hN : N < 2 ^ 31) (hdg : decode cc pc = .ok (.laload, 1))
    (kk : W p l e R s m args below meth c H locs cells slots Q (F0 m (pc + 1) ls (.long (f j) :: rest))) : W p l e R s m args below meth c H locs cells slots Q (F0 m pc ls (.int i :: .ref (ad q0) :: rest)) := by
  subst hi
  refine va_lald hx hb hK hP q0 t0 (wo_at hq he) ht (vp_in_nI hj hN) hdg ?_
  rw [nI_clamp (by omega)]
  exact kk
theorem wr_iald (hx : p.tables.exec = Jvm.exec) (hb : c.code = cc) (hK : va_K g.1 vwCl (wtys g) s) (hP : va_P g.1 vwCl (wo n ad E) H) (q0 t0 : Nat) (hq : q0 < n) {cA : ClassId} {N : Nat} {f : Nat → Int32} (he : E q0 = .inl (cA, N, .inl f)) (ht : (wtys g)[t0]? = some (cA, .int)) {i : Int32} (j : Nat) (hi : i = nI j) (hj : j < N) (hN : N < 2 ^ 31) (hdg : decode cc pc = .ok (.iaload, 1))
    (kk : W p l e R s m args below meth c H locs cells slots Q (F0 m (pc + 1) ls (.int (f j) :: rest))) : W p l e R s m args below meth c H locs cells slots Q (F0 m pc ls (.int i :: .ref (ad q0) :: rest)) := by
  subst hi
  refine va_iald hx hb hK hP q0 t0 (wo_at hq he) ht (vp_in_nI hj hN) hdg ?_
  rw [nI_clamp (by omega)]
  exact kk
theorem wr_aldq (hx : p.tables.exec = Jvm.exec) (hb : c.code = cc) (hK : va_K g.1 vwCl (wtys g) s) (hP : va_P g.1 vwCl (wo n ad E) H) (q0 t0 : Nat) (hq : q0 < n) {cA : ClassId} {C : String} {N : Nat} {f : Nat → Option Nat} (he : E q0 = .inl (cA, N, .inr (.inr (.inr (.inr f))))) (ht : (wtys g)[t0]? = some (cA, .object C)) {i : Int32} (j : Nat) (hi : i = nI j) (hj : j < N) (hN : N < 2 ^ 31) {v : Nat} (hv : f j = some v) (hdg : decode cc pc = .ok (.aaload, 1))
    (kk : W p l e R s m args below meth c H locs cells slots Q (F0 m (pc + 1) ls (.ref v :: rest))) : W p l e R s m args below meth c H locs cells slots Q (F0 m pc ls (.int i :: .ref (ad q0) :: rest)) := by
  subst hi
  refine va_aldq hx hb hK hP q0 t0 (wo_at hq he) ht (vp_in_nI hj hN) hdg ?_
  rw [nI_clamp (by omega), hv]
  exact kk
theorem wr_alen (hx : p.tables.exec = Jvm.exec) (hb : c.code = cc) (hK : va_K g.1 vwCl (wtys g) s) (hP : va_P g.1 vwCl (wo n ad E) H) (q0 t0 : Nat) (hq : q0 < n) {cA : ClassId} {x : vp_A} (he : E q0 = .inl (cA, x)) {ty : FieldType} (ht : (wtys g)[t0]? = some (cA, ty)) {v : Int32} (hv : nI x.1 = v) (hdg : decode cc pc = .ok (.arraylength, 1))
    (kk : W p l e R s m args below meth c H locs cells slots Q (F0 m (pc + 1) ls (.int v :: rest))) : W p l e R s m args below meth c H locs cells slots Q (F0 m pc ls (.ref (ad q0) :: rest)) :=
  va_alen hx hb hK hP q0 t0 (wo_at hq he) ht hv hdg kk
theorem wr_last (hx : p.tables.exec = Jvm.exec) (hb : c.code = cc) (hK : va_K g.1 vwCl (wtys g) s) (hP : va_P g.1 vwCl (wo n ad E) H) (hJ : wJ n ad) (hS : va_S (wA n ad H0.size) H0 H locs) (q0 t0 : Nat) (hq : q0 < n) {cA : ClassId} {N : Nat} {f : Nat → Int64} (he : E q0 = .inl (cA, N, .inr (.inl f))) (ht : (wtys g)[t0]? = some (cA, .long)) {i : Int32} {x : Int64} (j : Nat) (hi : i = nI j) (hj : j < N) (hN : N < 2 ^ 31) (hU : wU E E' q0 (.inl (cA, N, .inr (.inl (vp_updL f j x))))) (hdg : decode cc pc = .ok (.lastore, 1))
    (kk : ∀ (H1 : Heap) (locs1 : List Loc), va_P g.1 vwCl (wo n ad E') H1 → va_S (wA n ad H0.size) H0 H1 locs1 → W p l e R s m args below meth c H1 locs1 cells slots Q (F0 m (pc + 1) ls rest)) : W p l e R s m args below meth c H locs cells slots Q (F0 m pc ls (.long x :: .int i :: .ref (ad q0) :: rest)) := by
  subst hi
  refine va_last hx hb hK hP (wo_D hJ (fun k hk => wA_at hk)) hS q0 t0 (wo_at hq he) ht (vp_in_nI hj hN) hdg (fun H1 locs1 h1 _ h3 => ?_)
  rw [nI_clamp (by omega), wo_set hq hU] at h1
  exact kk H1 locs1 h1 h3
theorem wr_iast (hx : p.tables.exec = Jvm.exec) (hb : c.code = cc) (hK : va_K g.1 vwCl (wtys g) s) (hP : va_P g.1 vwCl (wo n ad E) H) (hJ : wJ n ad) (hS : va_S (wA n ad H0.size) H0 H locs) (q0 t0 : Nat) (hq : q0 < n) {cA : ClassId} {N : Nat} {f : Nat → Int32} (he : E q0 = .inl (cA, N, .inl f)) (ht : (wtys g)[t0]? = some (cA, .int)) {i : Int32} {x : Int32} (j : Nat) (hi : i = nI j) (hj : j < N) (hN : N < 2 ^ 31) (hU : wU E E' q0 (.inl (cA, N, .inl (upd f j x)))) (hdg : decode cc pc = .ok (.iastore, 1))
    (kk : ∀ (H1 : Heap) (locs1 : List Loc), va_P g.1 vwCl (wo n ad E') H1 → va_S (wA n ad H0.size) H0 H1 locs1 → W p l e R s m args below meth c H1 locs1 cells slots Q (F0 m (pc + 1) ls rest)) : W p l e R s m args below meth c H locs cells slots Q (F0 m pc ls (.int x :: .int i :: .ref (ad q0) :: rest)) := by
  subst hi
  refine va_iast hx hb hK hP (wo_D hJ (fun k hk => wA_at hk)) hS q0 t0 (wo_at hq he) ht (vp_in_nI hj hN) hdg (fun H1 locs1 h1 _ h3 => ?_)
  rw [nI_clamp (by omega), wo_set hq hU] at h1
  exact kk H1 locs1 h1 h3
theorem wp_blind {sz : Nat} : FrameBlind (va_Pc As (wPre g n ad E sz)) := fun a U gg mk q => by
  obtain ⟨q0, q1, qP, qK, qN, qJ⟩ := q
  exact ⟨q0, q1, qP, va_K.moved (u := U) (U := U.calling gg mk a) (Vm.Alike.refl U.vm) qK, wN.same (u := U) (U := U.calling gg mk a) rfl qN, qJ⟩
theorem wp_start (hK : va_K g.1 vwCl (wtys g) s) (hN : wN s) (hP : va_P g.1 vwCl (wo n ad E) H) (hJ : wJ n ad) : ∀ U : State, U.heap = H → s.WarmedH U.vm → va_Pc As (wPre g n ad E H.size) As.toArray U := fun U hU hW => ⟨rfl, by rw [hU], by rw [hU]; exact hP, va_K.moved hW.alike hK, hN.warm hW, hJ⟩
theorem wp_S (hK : va_K g.1 vwCl (wtys g) s) (hN : wN s) (hP : va_P g.1 vwCl (wo n ad E) H) (hJ : wJ n ad) : PreS s H (va_Pc As (wPre g n ad E H.size)) As := ⟨wp_blind, wp_start hK hN hP hJ⟩
theorem wp_V (hK : va_K g.1 vwCl (wtys g) s) (hN : wN s) (hP : va_P g.1 vwCl (wo n ad E) H) (hJ : wJ n ad) (q0 : Nat) (hq : q0 < n) {ci : Nat} {fs : List Value} (he : E q0 = .inr (ci, fs)) {C : String} {T : u_T} {N : Nat} (hc : vwCl[ci]? = some (C, T, N)) : PreV s H C (ad q0) (va_Pc (.ref (ad q0) :: As) (wPre g n ad E H.size)) As :=
  ⟨wp_blind, va_recv hK hP hc (wo_at hq he), wp_start hK hN hP hJ⟩
theorem wA_lt {q : Nat} (h : q < H.size) (hq : wA n ad H.size q) : wA n ad H0.size q := by
  rcases hq with h1 | h1
  · exact Or.inl h1
  · omega
theorem wA_le {q : Nat} (h : H0.size ≤ H.size) (hq : wA n ad H.size q) : wA n ad H0.size q := by
  rcases hq with h1 | h1
  · exact Or.inl h1
  · exact Or.inr (Nat.le_trans h h1)
theorem wc_i {r : Int32} (hr : va_Run p l e R s m args below meth c H locs cells slots 0 0 (F0 m pc ls st0) rest (va_Qi (fun x (_ : Unit) => x = r) (fun _ t => va_P g.1 vwCl (wo n ad E') t.heap) (wA n ad H.size) a) (wA n ad H.size)) (hS : va_S (wA n ad H0.size) H0 H locs)
    (kk : ∀ (H1 : Heap) (locs1 : List Loc), va_P g.1 vwCl (wo n ad E') H1 → va_S (wA n ad H0.size) H0 H1 locs1 → W p l e R s m args below meth c H1 locs1 cells slots Q (F0 m (pc + 3) ls (.int r :: rest))) : W p l e R s m args below meth c H locs cells slots Q (F0 m pc ls st0) :=
  va_calli hr hS (fun q h1 h2 => wA_lt h1 h2) (fun q h => wA_le hS.1 h) (fun r1 _ t H1 locs1 ht _ hw hB _ _ hS1 => by subst hw; rw [ht] at hB; exact kk H1 locs1 hB hS1)
theorem wc_l {r : Int64} (hr : va_Run p l e R s m args below meth c H locs cells slots 0 0 (F0 m pc ls st0) rest (va_Ql (fun x (_ : Unit) => x = r) (fun _ t => va_P g.1 vwCl (wo n ad E') t.heap) (wA n ad H.size) a) (wA n ad H.size)) (hS : va_S (wA n ad H0.size) H0 H locs)
    (kk : ∀ (H1 : Heap) (locs1 : List Loc), va_P g.1 vwCl (wo n ad E') H1 → va_S (wA n ad H0.size) H0 H1 locs1 → W p l e R s m args below meth c H1 locs1 cells slots Q (F0 m (pc + 3) ls (.long r :: rest))) : W p l e R s m args below meth c H locs cells slots Q (F0 m pc ls st0) :=
  va_calll hr hS (fun q h1 h2 => wA_lt h1 h2) (fun q h => wA_le hS.1 h) (fun r1 _ t H1 locs1 ht _ hw hB _ _ hS1 => by subst hw; rw [ht] at hB; exact kk H1 locs1 hB hS1)
theorem wc_v (hr : va_Run p l e R s m args below meth c H locs cells slots 0 0 (F0 m pc ls st0) rest (va_Qv (fun (_ : Unit) => True) (fun _ t => va_P g.1 vwCl (wo n ad E') t.heap) (wA n ad H.size) a) (wA n ad H.size)) (hS : va_S (wA n ad H0.size) H0 H locs)
    (kk : ∀ (H1 : Heap) (locs1 : List Loc), va_P g.1 vwCl (wo n ad E') H1 → va_S (wA n ad H0.size) H0 H1 locs1 → W p l e R s m args below meth c H1 locs1 cells slots Q (F0 m (pc + 3) ls rest)) : W p l e R s m args below meth c H locs cells slots Q (F0 m pc ls st0) :=
  va_callv hr hS (fun q h1 h2 => wA_lt h1 h2) (fun q h => wA_le hS.1 h) (fun _ t H1 locs1 ht _ hw hB _ _ hS1 => by rw [ht] at hB; exact kk H1 locs1 hB hS1)
theorem wc_q {r : Option Nat} (hr : va_Run p l e R s m args below meth c H locs cells slots 0 0 (F0 m pc ls st0) rest (va_Qq (fun x (_ : Unit) => x = r) (fun _ t => va_P g.1 vwCl (wo n ad E') t.heap) (wA n ad H.size) a) (wA n ad H.size)) (hS : va_S (wA n ad H0.size) H0 H locs)
    (kk : ∀ (H1 : Heap) (locs1 : List Loc), va_P g.1 vwCl (wo n ad E') H1 → va_S (wA n ad H0.size) H0 H1 locs1 → W p l e R s m args below meth c H1 locs1 cells slots Q (F0 m (pc + 3) ls (va_rf r :: rest))) : W p l e R s m args below meth c H locs cells slots Q (F0 m pc ls st0) :=
  va_callq hr hS (fun q h1 h2 => wA_lt h1 h2) (fun q h => wA_le hS.1 h) (fun r1 _ t H1 locs1 ht _ hw hB _ _ hS1 => by subst hw; rw [ht] at hB; exact kk H1 locs1 hB hS1)
/-- a loop: n rounds are left at its head -/
theorem wl_loop (I : Nat → Heap → List Loc → Array Slot → Prop) {st : List Value} (h0 : ∀ H locs ls, I 0 H locs ls → W p l e R s m args below meth c H locs cells slots Q (F0 m pc ls st))
    (hs : ∀ n, (∀ H locs ls, I n H locs ls → W p l e R s m args below meth c H locs cells slots Q (F0 m pc ls st)) → ∀ H locs ls, I (n + 1) H locs ls → W p l e R s m args below meth c H locs cells slots Q (F0 m pc ls st)) :
    ∀ n H locs ls, I n H locs ls → W p l e R s m args below meth c H locs cells slots Q (F0 m pc ls st)
  | 0 => h0
  | n + 1 => hs n (wl_loop I h0 hs n)
end WR
