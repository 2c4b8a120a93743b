/-! MAKING CELLS: the world's cells lie one behind another from b on; the next one lies at the heap's end -/
def adl (b k : Nat) : Nat := b + k
theorem wJ_adl (b n : Nat) : wJ n (adl b) := fun i j _ _ h => by unfold adl at h; omega
theorem wo_more {D : va_G} {cl : List vw_C} {n b : Nat} {E E' : Nat → va_E} {e : va_E} {H H1 : Heap} (hP : va_P D cl (wo n (adl b) E) H) (hk : ∀ q, q < H.size → H1[q]? = H[q]?) (hE : ∀ k, k < n → E' k = E k) (hn : E' n = e) (he : va_at D cl (adl b n, e) H1) : va_P D cl (wo (n + 1) (adl b) E') H1 := by
  intro k q hq
  obtain ⟨h1, rfl⟩ := wo_lt hq
  by_cases hkn : k = n
  · subst hkn
    rw [hn]
    exact he
  · rw [hE k (by omega)]
    have h2 := hP k _ (wo_at (by omega) rfl)
    exact h2.kept (hk _ h2.lt)
theorem va_S.more {A : Nat → Prop} {H0 H H1 : Heap} {locs : List Loc} (h : va_S A H0 H locs) (z : H1.size = H.size + 1) (o : ∀ q, q < H.size → H1[q]? = H[q]?) : va_S A H0 H1 locs := ⟨Nat.le_trans h.1 (by omega), fun x h1 h2 => (o x (Nat.lt_of_lt_of_le h1 h.1)).trans (h.2.1 x h1 h2), h.2.2⟩
/-- a constructor's contract: n cells with the contents E become n' cells with the contents E' -/
def CtC (l : Launch) (y : MethodName) (ws : List Cond) (rm : Room) (g : wG) (b n : Nat) (E : Nat → va_E) (n' : Nat) (E' : Nat → va_E) (As : List Value) (mc ms : Nat) : Prop :=
  Met l y ws rm (va_Pc As (wPre g n (adl b) E (b + n))) (va_Qv (fun (_ : Unit) => True) (fun _ t => va_P g.1 vwCl (wo n' (adl b) E') t.heap ∧ t.heap.size = b + n') (fun q => b ≤ q)) mc ms (fun q => b ≤ q)
section WM
variable {p : Program} {l : Launch} {e : Env} {R : Room} {s : State} {m : MethodId} {args : Array Value} {below : List Frame} {meth : Method} {c : Code} {H : Heap} {locs : List Loc} {cells slots : Nat} {Q : State → Prop}
variable {cc : ByteArray} {pc : Nat} {ls : Array Slot} {rest st0 : List Value} {g : wG} {n b : Nat} {E E' : Nat → va_E} {H0 : Heap} {As : List Value} {a : Array Value}
theorem wr_new {c0 : Code} (hx : p.tables.exec = Jvm.exec) (hb : c0.code = cc) {own C : String} {T : u_T} {N ci index : Nat} {Ts : List Cond} (hts : ∀ w ∈ Ts, w.before args s = true) (hin : ∀ w ∈ u_ws C T N, w ∈ Ts) (ty : Nat → FieldType) (hty : ∀ k, k < N → parseFieldDescriptor (T k).2.2.1 = some (ty k)) (hown : s.vm.findClass own = some m.cls) (hcl : (Cond.classLink own index C).before args s = true) (hinst : (Cond.instantiable C N).before args s = true) (hini : (Cond.initialized C).before args s = true)
    (hK : va_K g.1 vwCl (wtys g) s) (hP : va_P g.1 vwCl (wo n (adl b) E) H) (hS : va_S (fun q => b ≤ q) H0 H locs) (hz : H.size = b + n) (hE : ∀ k, k < n → E' k = E k) {fs : List Value} (hn : E' n = .inr (ci, fs)) (hc : vwCl[ci]? = some (C, T, N)) (hfs : ∀ j, j < N → defaultValue (ty j) = vp_V fs j) (hcells : cells + 1 ≤ R.cells) (hslots : slots + N ≤ R.slots) (hdg : decode cc pc = .ok (.new index, 3))
    (kk : ∀ (H1 : Heap), va_P g.1 vwCl (wo (n + 1) (adl b) E') H1 → H1.size = b + (n + 1) → va_S (fun q => b ≤ q) H0 H1 locs →
      W p l e R s m args below meth c0 H1 locs (cells + 1) (slots + N) Q (F0 m (pc + 3) ls (.ref (adl b n) :: rest))) : W p l e R s m args below meth c0 H locs cells slots Q (F0 m pc ls rest) := by
  have hKn := hK.1 ci _ hc
  refine W.newcK hx hb hown hcl hinst hini rfl hdg hcells hslots hKn.2.1 rfl fun H1 kC hkC e1 z1 o1 => ?_
  have := kk H1 (wo_more hP o1 hE hn ⟨_, hc, by show t_OB (b + n) _ _ _ _ _; rw [← hz]; exact (u_born ty hts hin hKn hkC e1 hty).to hfs⟩) (by omega) (hS.more z1 o1)
  rw [hz]
  exact this
theorem wr_newl (hx : p.tables.exec = Jvm.exec) (hb : c.code = cc) (harr : (Cond.arrayClass .long).before args s = true) (hK : va_K g.1 vwCl (wtys g) s) (hP : va_P g.1 vwCl (wo n (adl b) E) H) (hS : va_S (fun q => b ≤ q) H0 H locs) (hz : H.size = b + n) (hE : ∀ k, k < n → E' k = E k) {i : Int32} (N : Nat) (hn : E' n = .inl (g.2 tJ, N, .inr (.inl (fun _ => 0)))) (hi : i = nI N) (hN : N < 1000) (hcells : cells + 1 ≤ R.cells) (hslots : slots + N ≤ R.slots) (hdg : decode cc pc = .ok (.newarray .long, 2))
    (kk : ∀ (H1 : Heap), va_P g.1 vwCl (wo (n + 1) (adl b) E') H1 → H1.size = b + (n + 1) → va_S (fun q => b ≤ q) H0 H1 locs →
      W p l e R s m args below meth c H1 locs (cells + 1) (slots + N) Q (F0 m (pc + 2) ls (.ref (adl b n) :: rest))) : W p l e R s m args below meth c H locs cells slots Q (F0 m pc ls (.int i :: rest)) := by
  subst hi
  refine va_newaK hx hb (atype := .long) harr rfl hdg rfl (nI_pos (by omega)) (nI_clamp (by omega)) (by show N * 8 ≤ _; omega) hcells hslots rfl fun H1 cA' e1 z1 o1 hAr hNm => ?_
  have h2 : cA' = g.2 tJ := by
    have h3 : s.vm.findClass ("[" ++ (FieldType.long).toString) = some (g.2 tJ) := (hK.2 0 (g.2 tJ, .long) rfl).2
    exact Option.some.inj (hNm.symm.trans h3)
  subst h2
  have := kk H1 (wo_more hP o1 hE hn (by show H1[b + n]? = some (vp_cell _ _); rw [← hz]; exact e1)) (by omega) (hS.more z1 o1)
  rw [hz]
  exact this
theorem wr_newi (hx : p.tables.exec = Jvm.exec) (hb : c.code = cc) (harr : (Cond.arrayClass .int).before args s = true) (hK : va_K g.1 vwCl (wtys g) s) (hP : va_P g.1 vwCl (wo n (adl b) E) H) (hS : va_S (fun q => b ≤ q) H0 H locs) (hz : H.size = b + n) (hE : ∀ k, k < n → E' k = E k) {i : Int32} (N : Nat) (hn : E' n = .inl (g.2 tI, N, .inl (fun _ => 0))) (hi : i = nI N) (hN : N < 1000) (hcells : cells + 1 ≤ R.cells) (hslots : slots + N ≤ R.slots) (hdg : decode cc pc = .ok (.newarray .int, 2))
    (kk : ∀ (H1 : Heap), va_P g.1 vwCl (wo (n + 1) (adl b) E') H1 → H1.size = b + (n + 1) → va_S (fun q => b ≤ q) H0 H1 locs →
      W p l e R s m args below meth c H1 locs (cells + 1) (slots + N) Q (F0 m (pc + 2) ls (.ref (adl b n) :: rest))) : W p l e R s m args below meth c H locs cells slots Q (F0 m pc ls (.int i :: rest)) := by
  subst hi
  refine va_newaK hx hb (atype := .int) harr rfl hdg rfl (nI_pos (by omega)) (nI_clamp (by omega)) (by show N * 4 ≤ _; omega) hcells hslots rfl fun H1 cA' e1 z1 o1 hAr hNm => ?_
  have h2 : cA' = g.2 tI := by
    have h3 : s.vm.findClass ("[" ++ (FieldType.int).toString) = some (g.2 tI) := (hK.2 1 (g.2 tI, .int) rfl).2
    exact Option.some.inj (hNm.symm.trans h3)
  subst h2
  have := kk H1 (wo_more hP o1 hE hn (by show H1[b + n]? = some (vp_cell _ _); rw [← hz]; exact e1)) (by omega) (hS.more z1 o1)
  rw [hz]
  exact this
theorem wr_newq (hx : p.tables.exec = Jvm.exec) (hb : c.code = cc) {own C : String} {index : Nat} (hown : s.vm.findClass own = some m.cls) (hclink : (Cond.classLink own index C).before args s = true) (hover : va_AO C s) (hK : va_K g.1 vwCl (wtys g) s) (hP : va_P g.1 vwCl (wo n (adl b) E) H) (hS : va_S (fun q => b ≤ q) H0 H locs) (hz : H.size = b + n) (hE : ∀ k, k < n → E' k = E k) (t0 : Nat) {cA : ClassId} (ht : (wtys g)[t0]? = some (cA, .object C)) {i : Int32} (N : Nat) (hn : E' n = .inl (cA, N, .inr (.inr (.inr (.inr (fun _ => none)))))) (hi : i = nI N) (hN : N < 1000) (hcells : cells + 1 ≤ R.cells) (hslots : slots + N ≤ R.slots) (hdg : decode cc pc = .ok (.anewarray index, 3))
    (kk : ∀ (H1 : Heap), va_P g.1 vwCl (wo (n + 1) (adl b) E') H1 → H1.size = b + (n + 1) → va_S (fun q => b ≤ q) H0 H1 locs →
      W p l e R s m args below meth c H1 locs (cells + 1) (slots + N) Q (F0 m (pc + 3) ls (.ref (adl b n) :: rest))) : W p l e R s m args below meth c H locs cells slots Q (F0 m pc ls (.int i :: rest)) := by
  subst hi
  have hcl : (nI N).toNatClampNeg = N := nI_clamp (by omega)
  refine W.anew hx hb hown hclink (va_AO.use hover) rfl hdg rfl (nI_pos (by omega)) (by rw [hcl]; omega) hcells (by rw [hcl]; exact hslots) fun cA' kA comp f1 f2 f3 f4 => ?_
  rw [hcl]
  have h2 : cA' = cA := by
    obtain ⟨kA', comp', -, -, -, h3⟩ := (hK.2 t0 _ ht).2
    exact Option.some.inj (f1.symm.trans h3)
  subst h2
  generalize hH1 : H.push ({ cls := cA', slots := Array.replicate N .null, vm := .none } : Cell) = H1
  have z1 : H1.size = H.size + 1 := by rw [← hH1, Array.size_push]
  have e1 : H1[H.size]? = some (arrV cA' N (fun _ => .null)) := by rw [← hH1, Array.getElem?_push_size, ← arrV_new]
  have o1 : ∀ q : Nat, q < H.size → H1[q]? = H[q]? := fun q hq => by rw [← hH1, Array.getElem?_push, if_neg (Nat.ne_of_lt hq)]
  have := kk H1 (wo_more hP o1 hE hn (by show H1[b + n]? = some (vp_cell _ _); rw [← hz]; exact e1)) (by omega) (hS.more z1 o1)
  rw [hz]
  exact this
theorem wB (b n : Nat) : ∀ k, k < n → b ≤ adl b k := fun k _ => Nat.le_add_right b k
theorem wr_astq (hx : p.tables.exec = Jvm.exec) (hb : c.code = cc) (hK : va_K g.1 vwCl (wtys g) s) (hP : va_P g.1 vwCl (wo n (adl b) E) H) (hS : va_S (fun q => b ≤ q) H0 H locs) (hz : H.size = b + n) (q0 t0 qk : Nat) (hq : q0 < n) (hqk : qk < n) {ci : Nat} {cA : ClassId} {C : String} {T : u_T} {N0 N : Nat} {vs : List Value} {f : Nat → Option Nat} (he : E q0 = .inl (cA, N, .inr (.inr (.inr (.inr f))))) (ht : (wtys g)[t0]? = some (cA, .object C)) (hv : E qk = .inr (ci, vs)) (hc : vwCl[ci]? = some (C, T, N0)) {i : Int32} (j : Nat) (hi : i = nI j) (hj : j < N) (hN : N < 2 ^ 31) (hU : wU E E' q0 (.inl (cA, N, .inr (.inr (.inr (.inr (va_up f j (some (adl b qk)))))))) ) (hdg : decode cc pc = .ok (.aastore, 1))
    (kk : ∀ (H1 : Heap) (locs1 : List Loc), va_P g.1 vwCl (wo n (adl b) E') H1 → H1.size = b + n → va_S (fun q => b ≤ q) H0 H1 locs1 → W p l e R s m args below meth c H1 locs1 cells slots Q (F0 m (pc + 1) ls rest)) : W p l e R s m args below meth c H locs cells slots Q (F0 m pc ls (.ref (adl b qk) :: .int i :: .ref (adl b q0) :: rest)) := by
  subst hi
  have hcl : (nI j).toNatClampNeg = j := nI_clamp (by omega)
  have hD : va_D (fun q => b ≤ q) (wo n (adl b) E) := wo_D (wJ_adl b n) (wB b n)
  have ha := wo_at (ad := adl b) hq he
  obtain ⟨r', hr', cellV, g1, g2, g3, -⟩ := hP qk _ (wo_at hqk hv)
  have hcls := (hK.1 ci _ hc).2
  obtain ⟨kA, comp, k1, k2, k3, -⟩ := (hK.2 t0 _ ht).2
  have hcomp : comp = g.1.1 ci := Option.some.inj (k3.symm.trans hcls.1)
  subst hcomp
  obtain ⟨kC, hkC, -⟩ := hcls.2
  refine W.aast hx hb (hP q0 _ ha) (fun q h => by cases h) (fun h => by cases h) k1 k2 rfl hkC ⟨nI_pos (by omega), by show _ < (arrV _ _ _).slots.size; rw [arrV_size, hcl]; exact hj⟩ g1 (fun q h => by rw [g3] at h; cases h) (by rw [g2]; exact hkC) (by rw [g2]; exact va_assign hcls) rfl rfl hdg fun H1 e z oq => ?_
  have h2 := hP.set hD ha (e := .inl (cA, N, .inr (.inr (.inr (.inr (va_up f j (some (adl b qk)))))))) (H1 := H1) (by
    show H1[adl b q0]? = some (vp_cell _ _)
    rw [e, vp_cell_q, vp_cell_q, arrV_store, hcl]
    congr 2
    funext q
    by_cases hq : q = j
    · subst hq
      simp [updV, va_up, va_rf]
    · simp [updV, va_up, hq]) oq
  rw [wo_set hq hU] at h2
  exact kk H1 _ h2 (z.trans hz) (hS.put z oq (wB b n q0 hq))
theorem wr_putZ (hx : p.tables.exec = Jvm.exec) (hb : c.code = cc) {own C : String} {T : u_T} {N ci index : Nat} {Ts : List Cond} (hts : ∀ w ∈ Ts, w.before args s = true) (hin : ∀ w ∈ u_ws C T N, w ∈ Ts) (ty0 : Nat → FieldType) (hty : ∀ k, k < N → parseFieldDescriptor (T k).2.2.1 = some (ty0 k)) (hnm : ∀ a, a < N → ∀ b, b < N → a ≠ b → (T a).2.1 ≠ (T b).2.1) (hown : s.vm.findClass own = some m.cls) (hK : va_K g.1 vwCl (wtys g) s) (hP : va_P g.1 vwCl (wo n (adl b) E) H) (hS : va_S (fun q => b ≤ q) H0 H locs) (hz : H.size = b + n) (q0 : Nat) (hq : q0 < n) {fs : List Value} (he : E q0 = .inr (ci, fs)) (hc : vwCl[ci]? = some (C, T, N)) (k : Nat) (hk : k < N) (hlink : (Cond.fieldLink own index (T k).1 (T k).2.1 (T k).2.2.1).before args s = true) (hfin : (T k).2.2.2 = false) {v : Value} (hn : narrow (ty0 k) v = v) (hfit : fits (ty0 k) v = true) (hl : k < fs.length) (hU : wU E E' q0 (.inr (ci, fs.set k v)))
    (hdg : decode cc pc = .ok (.putfield index, 3)) (kk : ∀ (H1 : Heap) (locs1 : List Loc), va_P g.1 vwCl (wo n (adl b) E') H1 → H1.size = b + n → va_S (fun q => b ≤ q) H0 H1 locs1 → W p l e R s m args below meth c H1 locs1 cells slots Q (F0 m (pc + 3) ls rest)) : W p l e R s m args below meth c H locs cells slots Q (F0 m pc ls (v :: .ref (adl b q0) :: rest)) := by
  have hap := va_apart (own := own) hts hin ty0 hty hnm hK hc
  have hD : va_D (fun q => b ≤ q) (wo n (adl b) E) := wo_D (wJ_adl b n) (wB b n)
  have ha := wo_at (ad := adl b) hq he
  obtain ⟨r, h1, cell, q1, q2, q3, q4⟩ := hP q0 _ ha
  have hr : r = (C, T, N) := Option.some.inj (h1.symm.trans hc)
  subst hr
  obtain ⟨hSl, hfc, kC, hkC, hkind⟩ := hK.1 ci _ hc
  obtain ⟨cf, kf, fi, f, hi, hsl⟩ := hSl k hk
  have hlay := hts _ (hin _ (u_in_lay hk))
  unfold u_lay at hlay
  rw [if_neg (by rw [hfin]; decide)] at hlay
  have hst := (u_facts hfc hkC (u_lays hts hin hk) hi).1
  have h6 := u_store hfc hkC hkind hlay hi (hty k hk) hn hfit
  refine W.putK hx hb (f := f) ⟨hown, hlink, ⟨_, _, _, hi⟩, hst⟩ (by rw [q2]; exact h6) q1 q3 (by rw [hsl]; exact k2_hasslot (q4 k hk)) rfl rfl hdg fun H' e1 e2 e3 => ?_
  rw [hsl] at e1 ⊢
  have h2 := hP.set hD ha (e := .inr (ci, fs.set k v)) (H1 := H') ⟨_, hc, t_OB.to (V := updV (vp_V fs) k v) ⟨_, e1, q2, q3, t_set q4 hap hk v⟩ (fun j _ => vp_updV_set hl v j)⟩ e3
  rw [wo_set hq hU] at h2
  exact kk H' _ h2 (e2.trans hz) (hS.put e2 e3 (wB b n q0 hq))
theorem wr_putF (hx : p.tables.exec = Jvm.exec) (hb : c.code = cc) {own C : String} {T : u_T} {N ci index : Nat} {Ts : List Cond} (hts : ∀ w ∈ Ts, w.before args s = true) (hin : ∀ w ∈ u_ws C T N, w ∈ Ts) (ty0 : Nat → FieldType) (hty : ∀ k, k < N → parseFieldDescriptor (T k).2.2.1 = some (ty0 k)) (hnm : ∀ a, a < N → ∀ b, b < N → a ≠ b → (T a).2.1 ≠ (T b).2.1) (hown : s.vm.findClass own = some m.cls) (hK : va_K g.1 vwCl (wtys g) s) (hP : va_P g.1 vwCl (wo n (adl b) E) H) (hS : va_S (fun q => b ≤ q) H0 H locs) (hz : H.size = b + n) (q0 : Nat) (hq : q0 < n) {fs : List Value} (he : E q0 = .inr (ci, fs)) (hc : vwCl[ci]? = some (C, T, N)) (k : Nat) (hk : k < N) (hlink : (Cond.fieldLink own index (T k).1 (T k).2.1 (T k).2.2.1).before args s = true) (hfin : (T k).2.2.2 = true) (hin2 : meth.name = "<init>") (hdecl : (T k).1 = own) {v : Value} (hn : narrow (ty0 k) v = v) (hfit : fits (ty0 k) v = true) (hl : k < fs.length) (hU : wU E E' q0 (.inr (ci, fs.set k v)))
    (hdg : decode cc pc = .ok (.putfield index, 3)) (kk : ∀ (H1 : Heap) (locs1 : List Loc), va_P g.1 vwCl (wo n (adl b) E') H1 → H1.size = b + n → va_S (fun q => b ≤ q) H0 H1 locs1 → W p l e R s m args below meth c H1 locs1 cells slots Q (F0 m (pc + 3) ls rest)) : W p l e R s m args below meth c H locs cells slots Q (F0 m pc ls (v :: .ref (adl b q0) :: rest)) := by
  have hap := va_apart (own := own) hts hin ty0 hty hnm hK hc
  have hD : va_D (fun q => b ≤ q) (wo n (adl b) E) := wo_D (wJ_adl b n) (wB b n)
  have ha := wo_at (ad := adl b) hq he
  obtain ⟨r, h1, cell, q1, q2, q3, q4⟩ := hP q0 _ ha
  have hr : r = (C, T, N) := Option.some.inj (h1.symm.trans hc)
  subst hr
  obtain ⟨hSl, hfc, kC, hkC, hkind⟩ := hK.1 ci _ hc
  obtain ⟨cf, kf, fi, f, hi, hsl⟩ := hSl k hk
  have hlay := hts _ (hin _ (u_in_lay hk))
  unfold u_lay at hlay
  rw [if_pos hfin] at hlay
  have hst := (u_facts hfc hkC (u_lays hts hin hk) hi).1
  have hcf : m.cls = cf := by
    obtain ⟨_, _, c', _, _, _, -, -, hf', -, -, -, hown2, -⟩ := Cond.laysFinal_spec hlay
    have e1 : c' = cf := by have := hi.symm.trans hf'; simp at this; exact this.1.symm
    rw [hdecl] at hown2
    rw [← e1]; exact Option.some.inj (hown.symm.trans hown2)
  have h6 := u_fits hfc hkC hkind (Or.inr hlay) hi (hty k hk) hn hfit
  refine W.putFinK hx hb hown hlink hi hst hcf hin2 (by rw [q2]; exact h6) q1 q3 (by rw [hsl]; exact k2_hasslot (q4 k hk)) rfl rfl hdg fun H' e1 e2 e3 => ?_
  rw [hsl] at e1 ⊢
  have h2 := hP.set hD ha (e := .inr (ci, fs.set k v)) (H1 := H') ⟨_, hc, t_OB.to (V := updV (vp_V fs) k v) ⟨_, e1, q2, q3, t_set q4 hap hk v⟩ (fun j _ => vp_updV_set hl v j)⟩ e3
  rw [wo_set hq hU] at h2
  exact kk H' _ h2 (e2.trans hz) (hS.put e2 e3 (wB b n q0 hq))
theorem wr_lastZ (hx : p.tables.exec = Jvm.exec) (hb : c.code = cc) (hK : va_K g.1 vwCl (wtys g) s) (hP : va_P g.1 vwCl (wo n (adl b) E) H) (hS : va_S (fun q => b ≤ q) H0 H locs) (hz : H.size = b + n) (q0 t0 : Nat) (hq : q0 < n) {cA : ClassId} {N : Nat} {f : Nat → Int64} (he : E q0 = .inl (cA, N, .inr (.inl f))) (ht : (wtys g)[t0]? = some (cA, .long)) {i : Int32} {x : Int64} (j : Nat) (hi : i = nI j) (hj : j < N) (hN : N < 2 ^ 31) (hU : wU E E' q0 (.inl (cA, N, .inr (.inl (vp_updL f j x))))) (hdg : decode cc pc = .ok (.lastore, 1))
    (kk : ∀ (H1 : Heap) (locs1 : List Loc), va_P g.1 vwCl (wo n (adl b) E') H1 → H1.size = b + n → va_S (fun q => b ≤ q) H0 H1 locs1 → W p l e R s m args below meth c H1 locs1 cells slots Q (F0 m (pc + 1) ls rest)) : W p l e R s m args below meth c H locs cells slots Q (F0 m pc ls (.long x :: .int i :: .ref (adl b q0) :: rest)) := by
  subst hi
  have hcl : (nI j).toNatClampNeg = j := nI_clamp (by omega)
  have hD : va_D (fun q => b ≤ q) (wo n (adl b) E) := wo_D (wJ_adl b n) (wB b n)
  have ha := wo_at (ad := adl b) hq he
  refine W.last hx hb (hP q0 _ ha) ((hK.2 t0 _ ht).1 N (fun j => .long (f j))) (fun q => by cases q) (by show ¬ (_ < 0 ∨ (arrV _ _ _).slots.size ≤ _); rw [arrV_size]; exact vp_in_nI hj hN) rfl rfl hdg fun H1 e z oq => ?_
  have h2 := hP.set hD ha (e := .inl (cA, N, .inr (.inl (vp_updL f j x)))) (H1 := H1) (by
    show H1[adl b q0]? = some (vp_cell _ _)
    rw [e, vp_cell_l, vp_cell_l, arrV_store, hcl]
    congr 2
    funext q
    by_cases hq : q = j
    · subst hq
      simp [updV, vp_updL]
    · simp [updV, vp_updL, hq]) oq
  rw [wo_set hq hU] at h2
  exact kk H1 _ h2 (z.trans hz) (hS.put z oq (wB b n q0 hq))
/-- behind a constructor -/
theorem wc_n {n' mc ms : Nat} (hr : va_Run p l e R s m args below meth c H locs cells slots mc ms (F0 m pc ls st0) rest (va_Qv (fun (_ : Unit) => True) (fun _ t => va_P g.1 vwCl (wo n' (adl b) E') t.heap ∧ t.heap.size = b + n') (fun q => b ≤ q) a) (fun q => b ≤ q)) (hS : va_S (fun q => b ≤ q) H0 H locs)
    (kk : ∀ (H1 : Heap) (locs1 : List Loc), va_P g.1 vwCl (wo n' (adl b) E') H1 → H1.size = b + n' → va_S (fun q => b ≤ q) H0 H1 locs1 → W p l e R s m args below meth c H1 locs1 (cells + mc) (slots + ms) Q (F0 m (pc + 3) ls rest)) : W p l e R s m args below meth c H locs cells slots Q (F0 m pc ls st0) :=
  va_callv hr hS (fun q _ h => h) (fun q h => h) (fun _ t H1 locs1 ht _ hw hB _ _ hS1 => by rw [ht] at hB; exact kk H1 locs1 hB.1 hB.2 hS1)
theorem wp_C (hK : va_K g.1 vwCl (wtys g) s) (hN : wN s) (hP : va_P g.1 vwCl (wo n (adl b) E) H) (hz : H.size = b + n) : PreS s H (va_Pc As (wPre g n (adl b) E (b + n))) As :=
  ⟨wp_blind, fun U hU hW => ⟨rfl, by rw [hU, hz], by rw [hU]; exact hP, va_K.moved hW.alike hK, hN.warm hW, wJ_adl b n⟩⟩
/-- a loop whose rounds make cells -/
theorem wl_loopC (cf sf : Nat → Nat) (I : Nat → Heap → List Loc → Array Slot → Prop) {st : List Value} (h0 : ∀ H locs ls, I 0 H locs ls → W p l e R s m args below meth c H locs (cf 0) (sf 0) Q (F0 m pc ls st))
    (hs : ∀ n, (∀ H locs ls, I n H locs ls → W p l e R s m args below meth c H locs (cf n) (sf n) Q (F0 m pc ls st)) → ∀ H locs ls, I (n + 1) H locs ls → W p l e R s m args below meth c H locs (cf (n + 1)) (sf (n + 1)) Q (F0 m pc ls st)) :
    ∀ n H locs ls, I n H locs ls → W p l e R s m args below meth c H locs (cf n) (sf n) Q (F0 m pc ls st)
  | 0 => h0
  | n + 1 => hs n (wl_loopC cf sf I h0 hs n)
end WM
/-- a static method of numbers alone: the heap is as it was -/
def CtZ (l : Launch) (y : MethodName) (ws : List Cond) (rm : Room) (As : List Value) (r : Int32) : Prop := Met l y ws rm (va_Pc As (fun _ => True)) (vp_Si (fun x => x = r)) 0 0 (fun _ => False)
section WZ
variable {p : Program} {l : Launch} {e : Env} {R : Room} {s : State} {m : MethodId} {args : Array Value} {below : List Frame} {meth : Method} {c : Code} {H : Heap} {locs : List Loc} {cells slots : Nat} {Q : State → Prop}
variable {pc : Nat} {ls : Array Slot} {rest st0 : List Value} {As : List Value} {a : Array Value}
theorem wp_Z : PreS s H (va_Pc As (fun _ => True)) As := ⟨fun a U g mk q => ⟨q.1, trivial⟩, fun U hU hW => ⟨rfl, trivial⟩⟩
theorem wc_iZ {r : Int32} (hr : CallRun p l e R s m args below meth c H locs cells slots 0 0 (F0 m pc ls st0) rest (vp_Si (fun x => x = r) a) (fun _ => False)) (kk : W p l e R s m args below meth c H locs cells slots Q (F0 m (pc + 3) ls (.int r :: rest))) : W p l e R s m args below meth c H locs cells slots Q (F0 m pc ls st0) :=
  vp_callSi hr (fun r1 h => by subst h; exact kk)
end WZ
