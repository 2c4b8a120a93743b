/-! THE CLAIM OUT OF ONE WALK OF THE LAW'S BODY. Your part is whole_start (and what it stands on); all else here is the same for every law, but numbers. -/
def R_law : String := "HeapStepsLaw"
def lw_P (b : Addr) (xs : List Int32) (args : Array Value) (s : State) : Prop := args = #[.ref b] ∧ s.IntsAt b xs ∧ xs.length ≤ 2049 ∧ (Jvm.Cond.and given_1 narrow_1).before args s = true
def lw_Q (_ : Array Value) (s : State) (o : Outcome) (t : State) : Prop := o = .returned (some (.int 1)) ∧ Framed s o t [] 600000 7302250
def lw_Z (below : List Frame) (a : Array Value) (s : State) : State → Prop := fun t => ∃ o, t.status = .running ∧ Ended t below o ∧ lw_Q a s o t
/-- the law's own end, with 1 on the stack, nothing written that was there before, its room as the claim has it -/
theorem lw_ret {p : Program} {l : Launch} {e : Env} {s : State} {m : MethodId} {below : List Frame} {meth : Method} {c : Code} {b : Nat} (hx : p.tables.exec = Jvm.exec) (hb : c.code = code) (hr : meth.sig.returnType = ret) (hlocks : meth.locks = false) {pc : Nat} {H : Heap} {ls : Array Slot} (hdg : decode code pc = .ok (.ireturn, 1)) : W p l e room_1 s m #[Value.ref b] below meth c H [] 600000 7302250 (lw_Z below #[Value.ref b] s) (F0 m pc ls [.int 1]) := by
  intro T hT X
  obtain ⟨fs, hret, hrun, hended, hW, hframe⟩ := X.leave (v := some (.int 1)) (hlocks := hlocks) (fun h => by rw [hr] at h; cases h)
  have hmeth' : T.vm.method? m = some meth := X.method'
  refine ⟨T.setFrames fs, ?_, .returned (some (.int 1)), hrun, hended, rfl, ⟨_, rfl⟩, hW, hframe⟩
  jvm_step X.here [X.here.top, hx, hb, hdg, hmeth', hr, ret, narrow_b1]
  (try refine ⟨rfl, ?_⟩); (try refine ⟨rfl, ?_⟩)
  first | (intro acts; rw [hret _ acts rfl rfl rfl]) | rw [hret _ _ rfl rfl rfl]
  exact Steps.refl _
/-- what holds at the law's entry: the machine, the code, the tables' words (any of lw_tbl by 'hts w (by decide +kernel)'), the script of L ints xs at the cell b, what the Statement gives of the start (any of its parts by flat_of_before) -/
def lw_At (p : Program) (s : State) (m : MethodId) (meth : Method) (c : Code) (b L : Nat) (xs : Nat → Int32) : Prop :=
  p.tables.exec = Jvm.exec ∧ c.code = code ∧ meth.sig.returnType = ret ∧ c.maxLocals = 4 ∧ s.vm.findClass R_law = some m.cls ∧ (∀ w ∈ lw_tbl, w.before #[Value.ref b] s = true) ∧ va_X b L xs s s.heap ∧ b < s.heap.size ∧ meth.locks = false ∧ (Jvm.Cond.and given_1 narrow_1).before #[Value.ref b] s = true

def lw_cell (N : Nat) (xs : Nat → Int32) : Int32 := if nI N ≤ 0 then 0 else xs 0
set_option maxHeartbeats 4000000 in
set_option maxRecDepth 100000 in
theorem c_L_cell (l : Launch) (b N : Nat) (hN : N ≤ 2049) (xs : Nat → Int32) : Met l y_L_cell ws_L_cell ({ frames := 0, cells := 0, slots := 0, locals := 0 }) (va_Pc [.ref b, .int 0] (fun U => va_X b N xs U U.heap ∧ b < U.heap.size)) (vp_Si (fun x => x = lw_cell N xs)) 0 0 (fun _ => False) := by
  refine Met.ofW (cc := b_L_cell) (maxL := 2) (ret := (some .int)) (by decide) rfl ?_
  intro p e s m args below meth c s₁ B hml hv
  obtain ⟨rfl, hX, hbl⟩ := hv
  have hx := B.exec
  have hb := B.bytes
  have hr := B.returns
  have hlocks := B.notSynchronized
  have hS : va_S (fun q => s.heap.size ≤ q) s.heap s.heap [] := va_S.rf
  have hl := lv_entry ([.ref b, .int 0]) (n := 2) (Nat.le_of_ble_eq_true rfl)
  rw [lg_entry_eq]
  generalize (lg_sl ([.ref b, .int 0]) ++ List.replicate (2 - (lg_sl ([.ref b, .int 0])).length) Slot.unset).toArray = ls at hl ⊢
  have hl : lv_has ls 2 [(0, .ref b), (1, .int 0)] := hl
  refine lv_iload_n hx hb d_L_cell_0 rfl (lv_at hl 1 rfl) ?_
  refine lv_aload_n hx hb d_L_cell_1 rfl (lv_at hl 0 rfl) ?_
  refine ws_len hx hb hX hbl hS d_L_cell_2 ?_
  refine lv_icmp_ge (tgt := 12) hx hb d_L_cell_3 (by decide) (fun c_1 => ?_) (fun c_1 => ?_)
  · refine lv_iconst (v := 0) hx hb d_L_cell_12 (by decide) ?_
    exact W.iret hx hb hr (fun t ht hW => ⟨_, rfl, by simp only [lw_cell, if_pos c_1], ht⟩) (fun q h => by cases h) d_L_cell_13
  · have hpos : 0 < N := by
      rcases Nat.eq_zero_or_pos N with rfl | q
      · exact absurd (by decide) c_1
      · exact q
    refine lv_aload_n hx hb d_L_cell_6 rfl (lv_at hl 0 rfl) ?_
    refine lv_iload_n hx hb d_L_cell_7 rfl (lv_at hl 1 rfl) ?_
    refine ws_ld hx hb hX hbl hS 0 (by decide) hpos hN d_L_cell_8 ?_
    refine lv_goto (tgt := 13) hx hb d_L_cell_9 (by decide) ?_
    exact W.iret hx hb hr (fun t ht hW => ⟨_, rfl, by simp only [lw_cell, if_neg c_1], ht⟩) (fun q h => by cases h) d_L_cell_13
theorem law_in {N t : Nat} (hN : N ≤ 2049) (ht : t ≤ 513) (h : ¬ nI N - 4 < nI (1 + 4 * t)) : 1 + 4 * t + 3 < N := by
  rw [Int32.lt_iff_toInt_lt, nI_toInt (by omega)] at h
  have h2 : (nI N - nI 4).toInt = (N : Int) - (4 : Nat) := pk_sub_toInt (by omega) (by omega)
  have h3 : (nI N - 4).toInt = (N : Int) - 4 := h2
  rw [h3] at h
  omega
set_option maxHeartbeats 4000000 in
set_option maxRecDepth 100000 in
/-- the law's loop: t calls are done, both hold the state x -/
theorem law_loop {p : Program} {l : Launch} {e : Env} {s : State} {m : MethodId} {below : List Frame} {meth : Method} {c : Code} {b N : Nat} {xs : Nat → Int32} {g : wG} {L bx bm : Nat} (hr : meth.sig.returnType = ret) (hlocks : meth.locks = false) (C1 : lw_C p s m meth c b N xs g L bx bm) : ∀ (fu : Nat) (H : Heap) (locs : List Loc) (ls : Array Slot), (∃ (t : Nat) (x : xS), t + fu = 513 ∧ x_inv L t x ∧ va_P g.1 vwCl (wo (16 + 2 * L) (adl bx) (xE g (adl bx) L x)) H ∧ va_P g.1 vwCl (wo 14 (adl bm) (mE g (adl bm) L x)) H ∧ va_S (fun q => s.heap.size ≤ q) s.heap H locs ∧ lv_has ls 4 [(3, .int (nI (1 + 4 * t))), (2, .ref (adl bm 0)), (1, .ref (adl bx 0)), (0, .ref b)]) → W p l e room_1 s m #[Value.ref b] below meth c H locs 1000 10000 (lw_Z below #[Value.ref b] s) (F0 m 28 ls []) := by
  obtain ⟨hx, hb, hml, hown, hts, hX, hbl, hN9, hK, hN, hL, hbx, hbm⟩ := id C1
  intro fu
  induction fu with
  | zero =>
    intro H locs ls hI
    obtain ⟨t, x, ht, hI, hPx, hPm, hS, hl⟩ := hI
    refine lv_iload_n hx hb d_L_law_28 rfl (lv_at hl 0 rfl) ?_
    refine lv_aload_n hx hb d_L_law_29 rfl (lv_at hl 3 rfl) ?_
    refine ws_len hx hb hX hbl hS d_L_law_30 ?_
    refine lv_iconst (v := 4) hx hb d_L_law_31 (by decide) ?_
    refine lv_isub hx hb d_L_law_32 ?_
    refine lv_icmp_gt (tgt := 681) hx hb d_L_law_33 (by decide) (fun c_1 => ?_) (fun c_1 => absurd (law_in hN9 (by omega) c_1) (by omega))
    refine lv_iconst (v := 1) hx hb d_L_law_681 (by decide) ?_
    refine va_forget (fun q hq => hS.2.2 q hq) ?_
    refine W.widen (k := 600000) (n := 7302250) (by omega) (by omega) ?_
    exact lw_ret hx hb hr hlocks d_L_law_682
  | succ fu ih =>
    intro H locs ls hI
    obtain ⟨t, x, ht, hI, hPx, hPm, hS, hl⟩ := hI
    have cont : ∀ (y : xS) (H1 : Heap) (locs1 : List Loc), x_inv L (t + 1) y → va_P g.1 vwCl (wo (16 + 2 * L) (adl bx) (xE g (adl bx) L y)) H1 → va_P g.1 vwCl (wo 14 (adl bm) (mE g (adl bm) L y)) H1 → va_S (fun q => s.heap.size ≤ q) s.heap H1 locs1 → W p l e room_1 s m #[Value.ref b] below meth c H1 locs1 1000 10000 (lw_Z below #[Value.ref b] s) (F0 m 675 ls []) := by
      intro y H1 locs1 hI hPx hPm hS
      refine lv_iinc (v := nI (1 + 4 * (t + 1))) (lv' := [(3, .int (nI (1 + 4 * (t + 1)))), (2, .ref (adl bm 0)), (1, .ref (adl bx 0)), (0, .ref b)]) hx hb d_L_law_675 hl (k := 0) rfl (by rw [show 1 + 4 * (t + 1) = 1 + 4 * t + 4 by omega]; exact nI_add (1 + 4 * t) 4) (by decide) rfl (fun ls hl => ?_)
      refine lv_goto (tgt := 28) hx hb d_L_law_678 (by decide) ?_
      exact ih H1 locs1 ls ⟨t + 1, y, by omega, hI, hPx, hPm, hS, hl⟩
    refine lv_iload_n hx hb d_L_law_28 rfl (lv_at hl 0 rfl) ?_
    refine lv_aload_n hx hb d_L_law_29 rfl (lv_at hl 3 rfl) ?_
    refine ws_len hx hb hX hbl hS d_L_law_30 ?_
    refine lv_iconst (v := 4) hx hb d_L_law_31 (by decide) ?_
    refine lv_isub hx hb d_L_law_32 ?_
    refine lv_icmp_gt (tgt := 681) hx hb d_L_law_33 (by decide) (fun c_1 => ?_) (fun c_1 => ?_)
    · refine lv_iconst (v := 1) hx hb d_L_law_681 (by decide) ?_
      refine va_forget (fun q hq => hS.2.2 q hq) ?_
      refine W.widen (k := 600000) (n := 7302250) (by omega) (by omega) ?_
      exact lw_ret hx hb hr hlocks d_L_law_682
    · have htN := law_in hN9 (by omega) c_1
      have ht5 : t < 512 := by omega
      refine lv_aload_n hx hb d_L_law_36 rfl (lv_at hl 3 rfl) ?_
      refine lv_iload_n hx hb d_L_law_37 rfl (lv_at hl 0 rfl) ?_
      refine ws_ld hx hb hX hbl hS (1 + 4 * t) rfl (by omega) hN9 d_L_law_38 ?_
      refine lv_bipush (v := 31) hx hb d_L_law_39 (by decide) ?_
      refine lv_iand hx hb d_L_law_41 ?_
      obtain ⟨j, hj, hje⟩ := pk_andE (xs (1 + 4 * t)) (m := 31) 5 (by decide)
      rw [hje]
      by_cases hj19 : j < 19
      · match j, hj19 with
        | 0, _ => exact lv_tableIn (off := 90) (tgt := 132) hx hb d_L_law_42 (by decide) (by decide) rfl (by decide) (lc_part C1 ht5 htN hI (Nat.le_of_ble_eq_true rfl) (Nat.le_of_ble_eq_true rfl) hPx hPm hS hl cont)
        | 1, _ => exact lv_tableIn (off := 133) (tgt := 175) hx hb d_L_law_42 (by decide) (by decide) rfl (by decide) (lc_water C1 ht5 htN hI (Nat.le_of_ble_eq_true rfl) (Nat.le_of_ble_eq_true rfl) hPx hPm hS hl cont)
        | 2, _ => exact lv_tableIn (off := 166) (tgt := 208) hx hb d_L_law_42 (by decide) (by decide) rfl (by decide) (lc_heat C1 ht5 htN hI (Nat.le_of_ble_eq_true rfl) (Nat.le_of_ble_eq_true rfl) hPx hPm hS hl cont)
        | 3, _ => exact lv_tableIn (off := 199) (tgt := 241) hx hb d_L_law_42 (by decide) (by decide) rfl (by decide) (lc_rate C1 ht5 htN hI (Nat.le_of_ble_eq_true rfl) (Nat.le_of_ble_eq_true rfl) hPx hPm hS hl cont)
        | 4, _ => exact lv_tableIn (off := 242) (tgt := 284) hx hb d_L_law_42 (by decide) (by decide) rfl (by decide) (lc_yields C1 ht5 htN hI (Nat.le_of_ble_eq_true rfl) (Nat.le_of_ble_eq_true rfl) hPx hPm hS hl cont)
        | 5, _ => exact lv_tableIn (off := 285) (tgt := 327) hx hb d_L_law_42 (by decide) (by decide) rfl (by decide) (lc_bounds C1 ht5 htN hI (Nat.le_of_ble_eq_true rfl) (Nat.le_of_ble_eq_true rfl) hPx hPm hS hl cont)
        | 6, _ => exact lv_tableIn (off := 328) (tgt := 370) hx hb d_L_law_42 (by decide) (by decide) rfl (by decide) (lc_rain C1 ht5 htN hI (Nat.le_of_ble_eq_true rfl) (Nat.le_of_ble_eq_true rfl) hPx hPm hS hl cont)
        | 7, _ => exact lv_tableIn (off := 351) (tgt := 393) hx hb d_L_law_42 (by decide) (by decide) rfl (by decide) (lc_loss C1 ht5 htN hI (Nat.le_of_ble_eq_true rfl) (Nat.le_of_ble_eq_true rfl) hPx hPm hS hl cont)
        | 8, _ => exact lv_tableIn (off := 374) (tgt := 416) hx hb d_L_law_42 (by decide) (by decide) rfl (by decide) (lc_fan C1 ht5 htN hI (Nat.le_of_ble_eq_true rfl) (Nat.le_of_ble_eq_true rfl) hPx hPm hS hl cont)
        | 9, _ => exact lv_tableIn (off := 417) (tgt := 459) hx hb d_L_law_42 (by decide) (by decide) rfl (by decide) (lc_limit C1 ht5 htN hI (Nat.le_of_ble_eq_true rfl) (Nat.le_of_ble_eq_true rfl) hPx hPm hS hl cont)
        | 10, _ => exact lv_tableIn (off := 440) (tgt := 482) hx hb d_L_law_42 (by decide) (by decide) rfl (by decide) (lc_run C1 ht5 htN hI (Nat.le_of_ble_eq_true rfl) (Nat.le_of_ble_eq_true rfl) hPx hPm hS hl cont)
        | 11, _ => exact lv_tableIn (off := 463) (tgt := 505) hx hb d_L_law_42 (by decide) (by decide) rfl (by decide) (lc_left C1 ht5 htN hI (Nat.le_of_ble_eq_true rfl) (Nat.le_of_ble_eq_true rfl) hPx hPm hS hl cont)
        | 12, _ => exact lv_tableIn (off := 497) (tgt := 539) hx hb d_L_law_42 (by decide) (by decide) rfl (by decide) (lc_wet C1 ht5 htN hI (Nat.le_of_ble_eq_true rfl) (Nat.le_of_ble_eq_true rfl) hPx hPm hS hl cont)
        | 13, _ => exact lv_tableIn (off := 521) (tgt := 563) hx hb d_L_law_42 (by decide) (by decide) rfl (by decide) (lc_warmth C1 ht5 htN hI (Nat.le_of_ble_eq_true rfl) (Nat.le_of_ble_eq_true rfl) hPx hPm hS hl cont)
        | 14, _ => exact lv_tableIn (off := 545) (tgt := 587) hx hb d_L_law_42 (by decide) (by decide) rfl (by decide) (lc_air C1 ht5 htN hI (Nat.le_of_ble_eq_true rfl) (Nat.le_of_ble_eq_true rfl) hPx hPm hS hl cont)
        | 15, _ => exact lv_tableIn (off := 558) (tgt := 600) hx hb d_L_law_42 (by decide) (by decide) rfl (by decide) (lc_turn C1 ht5 htN hI (Nat.le_of_ble_eq_true rfl) (Nat.le_of_ble_eq_true rfl) hPx hPm hS hl cont)
        | 16, _ => exact lv_tableIn (off := 571) (tgt := 613) hx hb d_L_law_42 (by decide) (by decide) rfl (by decide) (lc_gone C1 ht5 htN hI (Nat.le_of_ble_eq_true rfl) (Nat.le_of_ble_eq_true rfl) hPx hPm hS hl cont)
        | 17, _ => exact lv_tableIn (off := 595) (tgt := 637) hx hb d_L_law_42 (by decide) (by decide) rfl (by decide) (lc_balance C1 ht5 htN hI (Nat.le_of_ble_eq_true rfl) (Nat.le_of_ble_eq_true rfl) hPx hPm hS hl cont)
        | 18, _ => exact lv_tableIn (off := 619) (tgt := 661) hx hb d_L_law_42 (by decide) (by decide) rfl (by decide) (lc_batch C1 ht5 htN hI (Nat.le_of_ble_eq_true rfl) (Nat.le_of_ble_eq_true rfl) hPx hPm hS hl cont)
        | j + 19, h => exact absurd h (by omega)
      · refine lv_tableOut (tgt := 675) hx hb d_L_law_42 (Or.inr (by rw [nI_toInt (by omega)]; omega)) (by decide) ?_
        exact cont x H locs (inv_next hI) hPx hPm hS
theorem lw_pcell {s : State} {H : Heap} {locs : List Loc} {b N : Nat} {xs : Nat → Int32} (hX : va_X b N xs s s.heap) (hbl : b < s.heap.size) (hS : va_S (fun q => s.heap.size ≤ q) s.heap H locs) : PreS s H (va_Pc [.ref b, .int 0] (fun U => va_X b N xs U U.heap ∧ b < U.heap.size)) [.ref b, .int 0] := by
  refine ⟨fun a U g mk q => ⟨q.1, va_X.moved (u := U) (U := U.calling g mk a) (Vm.Alike.refl U.vm) q.2.1, q.2.2⟩, fun U hU hW => ⟨rfl, ?_, ?_⟩⟩
  · rw [hU]
    exact va_X.moved hW.alike (hX.kept (hS.2.1 b hbl (Nat.not_le.mpr hbl)))
  · rw [hU]
    exact Nat.lt_of_lt_of_le hbl hS.1
set_option maxHeartbeats 4000000 in
set_option maxRecDepth 100000 in
/-- THE LAW, from its entry -/
theorem whole_start {p : Program} {e : Env} {s : State} {m : MethodId} {below : List Frame} {meth : Method} {c : Code} (l : Launch) {b L : Nat} {xs : Nat → Int32} (hL : L ≤ 2049) (C0 : lw_At p s m meth c b L xs) : W p l e room_1 s m #[Value.ref b] below meth c s.heap [] 0 0 (lw_Z below #[Value.ref b] s) (entryFrame m ([Value.ref b] : List Value).toArray 4) := by
  obtain ⟨hx, hb, hr, hml, hown, htsl, hX, hbl, hlocks, hgv⟩ := id C0
  have hown : s.vm.findClass "HeapStepsLaw" = some m.cls := hown
  have hts : ∀ w ∈ tb, w.before #[Value.ref b] s = true := fun w h => htsl w (tb_lw w h)
  have hN : wN s := wN_of htsl
  obtain ⟨c0, iS0, hKn0⟩ := u_known (C := "HeapSteps") (T := T_X) (N := 10) (n := 10) hts in_X (hts _ tw_31)
  obtain ⟨c1, iS1, hKn1⟩ := u_known (C := "HeapSteps$Fan") (T := T_F) (N := 6) (n := 6) hts in_F (hts _ tw_41)
  obtain ⟨c2, iS2, hKn2⟩ := u_known (C := "HeapSteps$Kind") (T := T_K) (N := 5) (n := 5) hts in_K (hts _ tw_92)
  obtain ⟨c3, iS3, hKn3⟩ := u_known (C := "HeapSteps$Layer") (T := T_Y) (N := 3) (n := 3) hts in_Y (hts _ tw_72)
  obtain ⟨c4, iS4, hKn4⟩ := u_known (C := "HeapStepsModel") (T := T_M) (N := 24) (n := 24) hts in_M (hts _ tw_335)
  obtain ⟨dC, dI, hKc⟩ : ∃ (dC : Nat → ClassId) (dI : Nat → Nat → Nat), ∀ (k : Nat) (q : vw_C), vwCl[k]? = some q → u_Kn s q.1 q.2.1 q.2.2 (dC k) (dI k) := by
    refine ⟨fun k => if k = 0 then c0 else if k = 1 then c1 else if k = 2 then c2 else if k = 3 then c3 else c4, fun k => if k = 0 then iS0 else if k = 1 then iS1 else if k = 2 then iS2 else if k = 3 then iS3 else iS4, ?_⟩
    intro k q hq
    match k, hq with
    | 0, hq => cases hq; exact hKn0
    | 1, hq => cases hq; exact hKn1
    | 2, hq => cases hq; exact hKn2
    | 3, hq => cases hq; exact hKn3
    | 4, hq => cases hq; exact hKn4
    | k + 5, hq => simp [vwCl] at hq
  obtain ⟨cJ, kJ, oJ, hJ1, hJ2, hJ3⟩ := Cond.arrayClass_spec (hts _ tw_91)
  obtain ⟨cI, kI, oI, hI1, hI2, hI3⟩ := Cond.arrayClass_spec (hts _ tw_115)
  obtain ⟨oL, cL, kL, hL1, -, hL3, hL4, hL5⟩ := Cond.arrayOver_spec (wN_71 hN)
  obtain ⟨oK, cK, kK, hK1, -, hK3, hK4, hK5⟩ := Cond.arrayOver_spec (wN_39 hN)
  obtain ⟨g, hg⟩ : ∃ g : wG, g = ((dC, dI), fun k => if k = 0 then cJ else if k = 1 then cI else if k = 2 then cL else cK) := ⟨_, rfl⟩
  have hK : va_K g.1 vwCl (wtys g) s := by
    subst hg
    refine ⟨hKc, fun k q hq => ?_⟩
    match k, hq with
    | 0, hq => cases hq; exact ⟨fun n z => ⟨fun k h => (by cases h), kJ, hJ2, oJ, hJ3⟩, hJ1⟩
    | 1, hq => cases hq; exact ⟨fun n z => ⟨fun k h => (by cases h), kI, hI2, oI, hI3⟩, hI1⟩
    | 2, hq => cases hq; exact ⟨fun n z => ⟨fun k h => (by cases h), kL, hL3, oL, hL4⟩, kL, oL, hL3, hL4, hL1, hL5⟩
    | 3, hq => cases hq; exact ⟨fun n z => ⟨fun k h => (by cases h), kK, hK3, oK, hK4⟩, kK, oK, hK3, hK4, hK1, hK5⟩
    | k + 4, hq => simp [wtys] at hq
  clear hg
  obtain ⟨L9, hL9, hc9⟩ := x_cnt_L (lw_cell L xs)
  have hS : va_S (fun q => s.heap.size ≤ q) s.heap s.heap [] := va_S.rf
  have hl := lv_entry ([.ref b]) (n := 4) (Nat.le_of_ble_eq_true rfl)
  rw [lg_entry_eq]
  generalize (lg_sl ([.ref b]) ++ List.replicate (4 - (lg_sl ([.ref b])).length) Slot.unset).toArray = ls at hl ⊢
  have hl : lv_has ls 4 [(0, .ref b)] := hl
  refine wr_newL (g := g) (b := s.heap.size) (E' := cE g s.heap.size L9 [.null, .null, .null, .null, .null, .null, .int 0, .int 0, .int 0, .int 0] 0 0) (fs := [.null, .null, .null, .null, .null, .null, .int 0, .int 0, .int 0, .int 0]) hx hb hts in_X ty_X ty_X_ok hown (hts _ tw_30) (hts _ tw_31) (hts _ tw_24) hK hS rfl rfl rfl (fun j hj => by rcases (show j = 0 ∨ j = 1 ∨ j = 2 ∨ j = 3 ∨ j = 4 ∨ j = 5 ∨ j = 6 ∨ j = 7 ∨ j = 8 ∨ j = 9 by omega) with rfl | rfl | rfl | rfl | rfl | rfl | rfl | rfl | rfl | rfl <;> rfl) (Nat.le_of_ble_eq_true rfl) (Nat.le_of_ble_eq_true rfl) d_L_law_0 (fun H hP hz _ hS => ?_)
  refine lv_dup hx hb d_L_law_3 rfl ?_
  refine lv_aload_n hx hb d_L_law_4 rfl (lv_at hl 0 rfl) ?_
  refine lv_iconst (v := 0) hx hb d_L_law_5 (by decide) ?_
  refine wc_iZ (W.runS (As := [.ref b, .int 0]) (rest := [.ref (adl s.heap.size 0), .ref (adl s.heap.size 0)]) ⟨hx, hb, hml, hown, hts⟩ (c_L_cell l b L hL xs) (cwS 2 hts (gd_S tw_331 tw_332 tw_23 tw_333) rfl rfl rfl (by decide +kernel) ⟨Nat.le_of_ble_eq_true rfl, Nat.le_of_ble_eq_true rfl⟩) (lw_pcell hX hbl hS) rfl rfl hl.1 rfl (lv_room (Nat.le_of_ble_eq_true rfl)) d_L_law_6 ⟨Nat.le_of_ble_eq_true rfl, Nat.le_of_ble_eq_true rfl⟩) ?_
  refine wc_nL (va_runI (As := [.int (lw_cell L xs)]) (rest := [.ref (adl s.heap.size 0)]) ⟨hx, hb, hml, hown, hts⟩ (c_X_init l g s.heap.size hL9 (lw_cell L xs) hc9) (cwI 1 hts (gd_C tw_34) rfl rfl rfl (hts _ tw_24) (hts _ tw_32) (hts _ tw_33) rfl (by decide +kernel) ⟨Nat.le_of_ble_eq_true rfl, Nat.le_of_ble_eq_true rfl⟩) (wp_C hK hN hP hz) rfl rfl hl.1 rfl (lv_room (Nat.le_of_ble_eq_true rfl)) d_L_law_9 ⟨Nat.le_of_ble_eq_true rfl, Nat.le_of_ble_eq_true rfl⟩) hS (Nat.le_refl _) (fun H locs hPx hz _ hS => ?_)
  obtain ⟨bx, hbx⟩ : ∃ z9, z9 = s.heap.size := ⟨_, rfl⟩
  rw [← hbx] at hPx hz ⊢
  obtain ⟨bm, hbm⟩ : ∃ z9, z9 = bx + (16 + 2 * L9) := ⟨_, rfl⟩
  have hzm : H.size = bm := by rw [hz, hbm]
  refine lv_astore_n (lv' := [(1, .ref (adl bx 0)), (0, .ref b)]) hx hb d_L_law_12 rfl hl (by decide) rfl (fun ls hl => ?_)
  refine wr_newL (g := g) (b := bm) (E' := mcE g bm L9 [.int 0, .null, .null, .null, .null, .null, .null, .null, .null, .null, .null, .int 0, .int 0, .int 0, .int 0, .int 0, .int 0, .long 0, .int 0, .long 0, .int 0, .null, .null, .null] (fun _ => 0)) (fs := [.int 0, .null, .null, .null, .null, .null, .null, .null, .null, .null, .null, .int 0, .int 0, .int 0, .int 0, .int 0, .int 0, .long 0, .int 0, .long 0, .int 0, .null, .null, .null]) hx hb hts in_M ty_M ty_M_ok hown (hts _ tw_334) (hts _ tw_335) (hts _ tw_28) hK hS hzm rfl rfl (fun j hj => by rcases (show j = 0 ∨ j = 1 ∨ j = 2 ∨ j = 3 ∨ j = 4 ∨ j = 5 ∨ j = 6 ∨ j = 7 ∨ j = 8 ∨ j = 9 ∨ j = 10 ∨ j = 11 ∨ j = 12 ∨ j = 13 ∨ j = 14 ∨ j = 15 ∨ j = 16 ∨ j = 17 ∨ j = 18 ∨ j = 19 ∨ j = 20 ∨ j = 21 ∨ j = 22 ∨ j = 23 by omega) with rfl | rfl | rfl | rfl | rfl | rfl | rfl | rfl | rfl | rfl | rfl | rfl | rfl | rfl | rfl | rfl | rfl | rfl | rfl | rfl | rfl | rfl | rfl | rfl <;> rfl) (Nat.le_of_ble_eq_true rfl) (Nat.le_of_ble_eq_true rfl) d_L_law_13 (fun H1 hP hz ho hS => ?_)
  have hPx := va_P.kept hPx (fun k q hq => ho q.1 (hPx k q hq).lt)
  refine lv_dup hx hb d_L_law_16 rfl ?_
  refine lv_aload_n hx hb d_L_law_17 rfl (lv_at hl 1 rfl) ?_
  refine lv_iconst (v := 0) hx hb d_L_law_18 (by decide) ?_
  refine wc_iZ (W.runS (As := [.ref b, .int 0]) (rest := [.ref (adl bm 0), .ref (adl bm 0)]) ⟨hx, hb, hml, hown, hts⟩ (c_L_cell l b L hL xs) (cwS 2 hts (gd_S tw_331 tw_332 tw_23 tw_333) rfl rfl rfl (by decide +kernel) ⟨Nat.le_of_ble_eq_true rfl, Nat.le_of_ble_eq_true rfl⟩) (lw_pcell hX hbl hS) rfl rfl hl.1 rfl (lv_room (Nat.le_of_ble_eq_true rfl)) d_L_law_19 ⟨Nat.le_of_ble_eq_true rfl, Nat.le_of_ble_eq_true rfl⟩) ?_
  refine wc_nL (va_runI (As := [.int (lw_cell L xs)]) (rest := [.ref (adl bm 0)]) ⟨hx, hb, hml, hown, hts⟩ (c_M_init l g bm hL9 (lw_cell L xs) hc9) (cwI 1 hts (gd_C tw_338) rfl rfl rfl (hts _ tw_28) (hts _ tw_336) (hts _ tw_337) rfl (by decide +kernel) ⟨Nat.le_of_ble_eq_true rfl, Nat.le_of_ble_eq_true rfl⟩) (wp_C hK hN hP hz) rfl rfl hl.1 rfl (lv_room (Nat.le_of_ble_eq_true rfl)) d_L_law_22 ⟨Nat.le_of_ble_eq_true rfl, Nat.le_of_ble_eq_true rfl⟩) hS (by omega) (fun H2 locs hPm hz2 ho2 hS => ?_)
  have hPx := va_P.kept hPx (fun k q hq => ho2 q.1 (hPx k q hq).lt (by obtain ⟨h1, rfl⟩ := wo_lt hq; show ¬ bm ≤ bx + k; omega))
  refine lv_astore_n (lv' := [(2, .ref (adl bm 0)), (1, .ref (adl bx 0)), (0, .ref b)]) hx hb d_L_law_25 rfl hl (by decide) rfl (fun ls hl => ?_)
  refine lv_iconst (v := 1) hx hb d_L_law_26 (by decide) ?_
  refine lv_istore_n (lv' := [(3, .int 1), (2, .ref (adl bm 0)), (1, .ref (adl bx 0)), (0, .ref b)]) hx hb d_L_law_27 rfl hl (by decide) rfl (fun ls hl => ?_)
  refine W.widen (k := 1000) (n := 10000) (by omega) (by omega) ?_
  exact law_loop hr hlocks ⟨hx, hb, hml, hown, hts, hX, hbl, hL, hK, hN, hL9, Nat.le_of_eq hbx.symm, hbm⟩ 513 H2 locs ls ⟨0, x0, by omega, inv_0 L9, hPx, hPm, hS, hl⟩
-- ===== YOUR PART ENDS =====
set_option maxHeartbeats 4000000 in
theorem lw_walk (l : Launch) (b : Addr) (xs : List Int32) : MetFree l x (headSpec (Jvm.Cond.code x code maxLocals ret :: tables_1) room_1) (lw_P b xs) (fun _ _ _ _ _ => True) lw_Q := by
  refine MetFree.of_bodyS (code := code) (maxLocals := maxLocals) (ret := ret) (by decide) ?_ ?_
  · intro args s m h hn
    obtain ⟨meth, c, h1, h2, h3, h4, h5, h6, -, -⟩ := Cond.code_spec hn (atoms_spec (ws := Jvm.Cond.code x code maxLocals ret :: tables_1) h _ List.mem_cons_self)
    exact ⟨meth, c, h1, h2, h3, h4, h5, h6⟩
  · intro p e s m args below meth c s₁ B hml0 hP _
    obtain ⟨rfl, hx, hbd, hgv⟩ := hP
    obtain ⟨scr, harrAt, hlist, hof, hsmall⟩ := hx
    obtain ⟨hcb, hkn, -, -⟩ := State.arrayAt?_spec harrAt
    have hown : s.vm.findClass R_law = some m.cls := findClass_of_methodNamed B.named
    have hts0 : ∀ c ∈ (Jvm.Cond.code x code maxLocals ret :: tables_1), c.before #[Value.ref b] s = true := atoms_spec (ws := Jvm.Cond.code x code maxLocals ret :: tables_1) B.pre
    have hts : ∀ w ∈ lw_tbl, w.before #[Value.ref b] s = true := k2_hts_sels lw_privs (fun w hw => hts0 w (List.mem_cons_of_mem _ hw)) lw_privs_ok
    have hml : c.maxLocals = 4 := B.maxLocals_eq (hts0 _ List.mem_cons_self)
    have X₀ : Stand p l e room_1 s m #[Value.ref b] below meth c s₁ [] 0 0 := Stand.of_body B
    have hh0 : s₁.heap = s.heap := by rw [B.state]; rfl
    have hsz : scr.slots.size = xs.length := by rw [← Array.length_toList, hlist, List.length_map]
    have hval : ∀ j : Nat, j < xs.length → scr.slots[j]? = some (.int (xs.getD j 0)) := fun j hj => by
      rw [← Array.getElem?_toList, hlist]
      simp [hj]
    have hbl : b < s.heap.size := (Array.getElem?_eq_some_iff.mp hcb).1
    have hX : va_X b xs.length (fun j => xs.getD j 0) s s.heap := ⟨scr, hcb, hof, hkn, hsz, hval⟩
    have K : W p l e room_1 s m #[Value.ref b] below meth c s₁.heap [] 0 0 (lw_Z below #[Value.ref b] s) (entryFrame m ([Value.ref b] : List Value).toArray 4) := by
      rw [hh0]
      exact whole_start l hbd ⟨B.exec, B.bytes, B.returns, hml, hown, hts, hX, hbl, B.notSynchronized, hgv⟩
    obtain ⟨t, a1, o, b1, b2, b3⟩ := K s₁ rfl X₀
    exact ⟨t, o, a1, b1, b2, b3⟩
theorem lw_pre_spec {args : Array Value} {s : State} (h : (Jvm.Cond.and given_1 narrow_1).before args s = true) (hr : rest_1_c.before args s = true) : ∃ (b : Addr) (xs : List Int32), lw_P b xs args s := by
  have hs := flat_of_before _ h
  have hq := flat_of_before _ hr
  have hc : (Cond.count 1).before args s = true := hs _ (by decide +kernel)
  have harr : (Cond.arrayOf (.arg 0) .int).before args s = true := hs _ (by decide +kernel)
  have hle : (Cond.le (.length (.arg 0)) (.int 2049)).before args s = true := hs _ (by decide +kernel)
  have hlen : (Cond.isInt (.length (.arg 0))).before args s = true := hq _ (by decide +kernel)
  have hall : (Cond.all (.arg 0) (.isInt (.elem (.arg 0) (.index 0)))).before args s = true := hq _ (by decide +kernel)
  obtain ⟨b, xs, hb, hx⟩ := State.ints_of_pre rfl harr hlen hall
  have hsm : xs.length < 2 ^ 31 := hx.choose_spec.2.2.2
  have hev : (Term.length (.arg 0)).eval args s none [] s = some (.int xs.length.toInt32) := hx.length_eval hb
  have hv := Cond.le_ints hev (show (Term.int 2049).eval args s none [] s = some (.int 2049) from rfl)
  have hd : xs.length.toInt32 ≤ 2049 := by
    simpa [Cond.before, Cond.holds, hv] using hle
  have hN : xs.length ≤ 2049 := (Int32.ofNat_le_ofNat hsm (by decide)).mp (show Int32.ofNat xs.length ≤ Int32.ofNat 2049 from hd)
  exact ⟨b, xs, Cond.one_arg hc (show args[0]? = some (.ref b) from hb), hx, hN, h⟩
theorem lw_comes (l : Launch) : Comes l x (Jvm.Cond.code x code maxLocals ret :: tables_1) room_1 (fun tb e args s => Calls_1 tb e args s ∧ rest_1 tb e args s ∧ Pre_1 tb e args s)
    (fun _ _ args s o t => lw_Q args s o t) := by
  intro p e ha hc hk s m args below hf hfit hheap happ hpre
  obtain ⟨b, xs, hP⟩ := lw_pre_spec hpre.2.2 hpre.2.1
  obtain ⟨k, o, h1, h2, h3, hQ⟩ := lw_walk l b xs p e ha hc hk s m args below hf ((Spec.applies_iff_loose hf).mp happ).1 hP trivial
  exact ⟨k, o, h1, h2, h3, hQ⟩
theorem lw_frame {s t : State} {o : Outcome} {args : Array Value} (h : Framed s o t [] 600000 7302250) :
    Framed s o t (fieldLocs frame_1_writes args s ++ arrayLocs frame_1_arrays args s ++ staticLocs frame_1_statics s) 600000 7302250 := h
theorem lw_limb (L : Cond) (hL : ∀ (args : Array Value) (s t : State), L.after args s (.returned (some (.int 1))) t = true) :
    ArmFor flags0 classFile x code maxLocals ret World_1 tables_1 room_1 Calls_1 rest_1 Pre_1
      (fun tb e a s o t => postC L tb e a s o t ∧ Framed s o t (fieldLocs frame_1_writes a s ++ arrayLocs frame_1_arrays a s ++ staticLocs frame_1_statics s) 600000 7302250) := by
  intro l _ _ _ p e ha hc hk s m args below hf hfit hheap happ hpre
  obtain ⟨k, o, h1, h2, h3, rfl, hF⟩ := lw_comes l p e ha hc hk s m args below hf hfit hheap happ hpre
  exact ⟨k, _, h1, h2, h3, hL args s _, lw_frame hF⟩
theorem i_vc : Claimed_1_1 ∧ Claimed_1_2 := ⟨lw_limb limb_1_1 (fun args s t => by simp [limb_1_1, Cond.after, Cond.holds, Cond.value]), lw_limb limb_1_2 (fun args s t => Cond.after_iff.mpr (by
  first | (rw [show limb_1_2 = Cond.eq .result (.int 1) from rfl, Cond.eq_ints (x := 1) (y := 1) rfl rfl]; simp; done) | (simp [limb_1_2, Cond.value, Term.eval]; done)))⟩
