set_option maxHeartbeats 4000000 in
set_option maxRecDepth 100000 in
theorem c_X_greatestWarmth (l : Launch) (g : wG) (ad : Nat → Nat) {L : Nat} (hL : 1 ≤ L ∧ L ≤ 6) (x : xS) : CtL l y_X_greatestWarmth ws_X_greatestWarmth ({ frames := 2, cells := 0, slots := 0, locals := 45 }) g (16 + 2 * L) ad (xE g ad L x) (xE g ad L x) [.ref (ad 0)] (x_gwN x L) := by
  intro sz
  refine Met.ofW (cc := b_X_greatestWarmth) (maxL := 7) (ret := (some .long)) (by decide +kernel) rfl ?_
  intro p e s m args below meth c s₁ B hml hv
  obtain ⟨rfl, hsz, hP, hK, hN, hJ⟩ := hv
  have hx := B.exec
  have hb := B.bytes
  have hr := B.returns
  have hts0 := atoms_spec (ws := ws_X_greatestWarmth) B.pre
  have hts : ∀ w ∈ tb, w.before _ s = true := fun w h => hts0 w (List.mem_cons_of_mem _ h)
  have hown : s.vm.findClass "HeapSteps" = some m.cls := findClass_of_methodNamed B.named
  have hlocks := B.notSynchronized
  subst hsz
  have hS : va_S (wA (16 + 2 * L) ad s.heap.size) s.heap s.heap [] := va_S.rf
  have hl := lv_entry ([.ref (ad 0)]) (n := 7) (Nat.le_of_ble_eq_true rfl)
  rw [lg_entry_eq]
  generalize (lg_sl ([.ref (ad 0)]) ++ List.replicate (7 - (lg_sl ([.ref (ad 0)])).length) Slot.unset).toArray = ls at hl ⊢
  have hl : lv_has ls 7 [(0, .ref (ad 0))] := hl
  refine lv_lconst (v := 0) hx hb d_X_greatestWarmth_0 (by decide) ?_
  refine lv_lstore_n (lv' := [(1, .long 0), (0, .ref (ad 0))]) hx hb d_X_greatestWarmth_1 rfl hl (by decide) rfl (fun ls hl => ?_)
  refine lv_aload_n hx hb d_X_greatestWarmth_2 rfl (lv_at hl 1 rfl) ?_
  refine wr_get hx hb hts in_X hown hK hP (0) (by omega) rfl rfl 0 (by decide) (hts _ tw_116) rfl d_X_greatestWarmth_3 ?_
  refine lv_astore_n (lv' := [(3, .ref (ad 6)), (1, .long 0), (0, .ref (ad 0))]) hx hb d_X_greatestWarmth_6 rfl hl (by decide) rfl (fun ls hl => ?_)
  refine lv_aload_n hx hb d_X_greatestWarmth_7 rfl (lv_at hl 0 rfl) ?_
  refine wr_alen (v := nI L) hx hb hK hP (6) 2 (by omega) rfl rfl rfl d_X_greatestWarmth_8 ?_
  refine lv_istore (lv' := [(4, .int (nI L)), (3, .ref (ad 6)), (1, .long 0), (0, .ref (ad 0))]) hx hb d_X_greatestWarmth_9 hl (by decide) rfl (fun ls hl => ?_)
  refine lv_iconst (v := 0) hx hb d_X_greatestWarmth_11 (by decide) ?_
  refine lv_istore (lv' := [(5, .int 0), (4, .int (nI L)), (3, .ref (ad 6)), (1, .long 0), (0, .ref (ad 0))]) hx hb d_X_greatestWarmth_12 hl (by decide) rfl (fun ls hl => ?_)
  refine wl_loop (pc := 14) (fun fu H locs ls => ∃ i : Nat, i + fu = L ∧ va_P g.1 vwCl (wo (16 + 2 * L) ad (xE g ad L x)) H ∧ va_S (wA (16 + 2 * L) ad s.heap.size) s.heap H locs ∧ lv_has ls 7 [(5, .int (nI i)), (4, .int (nI L)), (3, .ref (ad 6)), (1, .long (x_gwN x i)), (0, .ref (ad 0))]) ?_ ?_ L _ _ _ ⟨0, by omega, hP, hS, lv_sub hl [0, 1, 2, 3, 4] rfl⟩
  · intro H locs ls hI
    obtain ⟨i, hi, hP, hS, hl⟩ := hI
    have hT_i : i = L := by omega
    try rw [hT_i] at hP
    try rw [hT_i] at hl
    refine lv_iload hx hb d_X_greatestWarmth_14 (lv_at hl 0 rfl) ?_
    refine lv_iload hx hb d_X_greatestWarmth_16 (lv_at hl 1 rfl) ?_
    refine lv_icmp_ge (tgt := 43) hx hb d_X_greatestWarmth_18 (by decide) (fun c_1 => ?_) (fun c_1 => absurd (nI_le (by omega) (by omega)) c_1)
    refine lv_lload_n hx hb d_X_greatestWarmth_43 rfl (lv_at hl 3 rfl) ?_
    exact W.lret hx hb hr (fun t ht hW => ⟨⟨_, (), rfl, by skip; first | done | rfl, by dsimp only; rw [ht]; skip; exact hP⟩, hS.F ht⟩) hS.2.2 d_X_greatestWarmth_44
  · intro fu ih_i H locs ls hI
    obtain ⟨i, hi, hP, hS, hl⟩ := hI
    have hi_i : i < L := by omega
    refine lv_iload hx hb d_X_greatestWarmth_14 (lv_at hl 0 rfl) ?_
    refine lv_iload hx hb d_X_greatestWarmth_16 (lv_at hl 1 rfl) ?_
    refine lv_icmp_ge (tgt := 43) hx hb d_X_greatestWarmth_18 (by decide) (fun c_2 => absurd c_2 (nI_ge hi_i (by omega))) (fun c_2 => ?_)
    refine lv_aload_n hx hb d_X_greatestWarmth_21 rfl (lv_at hl 2 rfl) ?_
    refine lv_iload hx hb d_X_greatestWarmth_22 (lv_at hl 0 rfl) ?_
    refine wr_aldq hx hb hK hP (6) 2 (by omega) rfl rfl i rfl (by omega) (by omega) (v := ad (7 + 2 * i)) (if_pos hi_i) d_X_greatestWarmth_24 ?_
    refine lv_astore (lv' := [(6, .ref (ad (7 + 2 * i))), (5, .int (nI i)), (4, .int (nI L)), (3, .ref (ad 6)), (1, .long (x_gwN x i)), (0, .ref (ad 0))]) hx hb d_X_greatestWarmth_25 hl (by decide) rfl (fun ls hl => ?_)
    refine lv_lload_n hx hb d_X_greatestWarmth_27 rfl (lv_at hl 4 rfl) ?_
    refine lv_aload hx hb d_X_greatestWarmth_28 (lv_at hl 0 rfl) ?_
    refine wc_l (va_runV (As := []) (rest := [.long (x_gwN x i)]) ⟨hx, hb, hml, hown, hts⟩ (c_Y_warmthNow l g ad hL x hi_i _) (cwV 0 hts (gd_V tw_219 tw_220 tw_221 tw_26 tw_222) rfl rfl rfl (by decide +kernel) ⟨Nat.le_of_ble_eq_true rfl, Nat.le_of_ble_eq_true rfl⟩) (wp_V hK hN hP hJ (7 + 2 * i) (by omega) (xE_lay g ad L x hi_i) rfl) rfl rfl hl.1 rfl (lv_room (Nat.le_of_ble_eq_true rfl)) d_X_greatestWarmth_30 ⟨Nat.zero_le _, Nat.zero_le _⟩) hS (fun H locs hP hS => ?_)
    refine va_mmax_long hx hb (hml.trans hl.1.symm) hown (hts _ tw_227) (hts _ tw_228) (hts _ tw_29) (hts _ tw_229) (Nat.le_of_ble_eq_true rfl) (Nat.le_of_ble_eq_true rfl) (Nat.zero_le _) (Nat.zero_le _) d_X_greatestWarmth_33 ?_
    refine W.eq (g2 := F0 m 36 ls [.long (x_max (x_gwN x i) (x_warm x i))]) rfl ?_
    refine lv_topl (fun v_3 ev_3 => ?_)
    refine lv_lstore_n (lv' := [(1, .long v_3), (6, .ref (ad (7 + 2 * i))), (5, .int (nI i)), (4, .int (nI L)), (3, .ref (ad 6)), (0, .ref (ad 0))]) hx hb d_X_greatestWarmth_36 rfl hl (by decide) rfl (fun ls hl => ?_)
    refine lv_iinc (v := nI (i + 1)) (lv' := [(5, .int (nI (i + 1))), (1, .long v_3), (6, .ref (ad (7 + 2 * i))), (4, .int (nI L)), (3, .ref (ad 6)), (0, .ref (ad 0))]) hx hb d_X_greatestWarmth_37 hl (k := 2) rfl (nI_1 i) (by decide) rfl (fun ls hl => ?_)
    refine lv_goto (tgt := 14) hx hb d_X_greatestWarmth_40 (by decide) ?_
    subst ev_3
    exact ih_i _ _ _ ⟨i + 1, by omega, (by skip; exact hP), hS, lv_sub hl [0, 3, 4, 1, 5] (by skip; rfl)⟩
set_option maxHeartbeats 4000000 in
set_option maxRecDepth 100000 in
theorem c_X_inAllLayers (l : Launch) (g : wG) (ad : Nat → Nat) {L : Nat} (hL : 1 ≤ L ∧ L ≤ 6) (x : xS) (k : Nat) (hk : k < 5) : CtL l y_X_inAllLayers ws_X_inAllLayers ({ frames := 0, cells := 0, slots := 0, locals := 0 }) g (16 + 2 * L) ad (xE g ad L x) (xE g ad L x) [.ref (ad 0), .int (nI k)] (x_inAllN x k L) := by
  intro sz
  refine Met.ofW (cc := b_X_inAllLayers) (maxL := 8) (ret := (some .long)) (by decide +kernel) rfl ?_
  intro p e s m args below meth c s₁ B hml hv
  obtain ⟨rfl, hsz, hP, hK, hN, hJ⟩ := hv
  have hx := B.exec
  have hb := B.bytes
  have hr := B.returns
  have hts0 := atoms_spec (ws := ws_X_inAllLayers) B.pre
  have hts : ∀ w ∈ tb, w.before _ s = true := fun w h => hts0 w (List.mem_cons_of_mem _ h)
  have hown : s.vm.findClass "HeapSteps" = some m.cls := findClass_of_methodNamed B.named
  have hlocks := B.notSynchronized
  subst hsz
  have hS : va_S (wA (16 + 2 * L) ad s.heap.size) s.heap s.heap [] := va_S.rf
  have hl := lv_entry ([.ref (ad 0), .int (nI k)]) (n := 8) (Nat.le_of_ble_eq_true rfl)
  rw [lg_entry_eq]
  generalize (lg_sl ([.ref (ad 0), .int (nI k)]) ++ List.replicate (8 - (lg_sl ([.ref (ad 0), .int (nI k)])).length) Slot.unset).toArray = ls at hl ⊢
  have hl : lv_has ls 8 [(0, .ref (ad 0)), (1, .int (nI k))] := hl
  refine lv_lconst (v := 0) hx hb d_X_inAllLayers_0 (by decide) ?_
  refine lv_lstore_n (lv' := [(2, .long 0), (0, .ref (ad 0)), (1, .int (nI k))]) hx hb d_X_inAllLayers_1 rfl hl (by decide) rfl (fun ls hl => ?_)
  refine lv_aload_n hx hb d_X_inAllLayers_2 rfl (lv_at hl 1 rfl) ?_
  refine wr_get hx hb hts in_X hown hK hP (0) (by omega) rfl rfl 0 (by decide) (hts _ tw_116) rfl d_X_inAllLayers_3 ?_
  refine lv_astore (lv' := [(4, .ref (ad 6)), (2, .long 0), (0, .ref (ad 0)), (1, .int (nI k))]) hx hb d_X_inAllLayers_6 hl (by decide) rfl (fun ls hl => ?_)
  refine lv_aload hx hb d_X_inAllLayers_8 (lv_at hl 0 rfl) ?_
  refine wr_alen (v := nI L) hx hb hK hP (6) 2 (by omega) rfl rfl rfl d_X_inAllLayers_10 ?_
  refine lv_istore (lv' := [(5, .int (nI L)), (4, .ref (ad 6)), (2, .long 0), (0, .ref (ad 0)), (1, .int (nI k))]) hx hb d_X_inAllLayers_11 hl (by decide) rfl (fun ls hl => ?_)
  refine lv_iconst (v := 0) hx hb d_X_inAllLayers_13 (by decide) ?_
  refine lv_istore (lv' := [(6, .int 0), (5, .int (nI L)), (4, .ref (ad 6)), (2, .long 0), (0, .ref (ad 0)), (1, .int (nI k))]) hx hb d_X_inAllLayers_14 hl (by decide) rfl (fun ls hl => ?_)
  refine wl_loop (pc := 16) (fun fu H locs ls => ∃ i : Nat, i + fu = L ∧ va_P g.1 vwCl (wo (16 + 2 * L) ad (xE g ad L x)) H ∧ va_S (wA (16 + 2 * L) ad s.heap.size) s.heap H locs ∧ lv_has ls 8 [(6, .int (nI i)), (5, .int (nI L)), (4, .ref (ad 6)), (2, .long (x_inAllN x k i)), (0, .ref (ad 0)), (1, .int (nI k))]) ?_ ?_ L _ _ _ ⟨0, by omega, hP, hS, lv_sub hl [0, 1, 2, 3, 4, 5] rfl⟩
  · intro H locs ls hI
    obtain ⟨i, hi, hP, hS, hl⟩ := hI
    have hT_i : i = L := by omega
    try rw [hT_i] at hP
    try rw [hT_i] at hl
    refine lv_iload hx hb d_X_inAllLayers_16 (lv_at hl 0 rfl) ?_
    refine lv_iload hx hb d_X_inAllLayers_18 (lv_at hl 1 rfl) ?_
    refine lv_icmp_ge (tgt := 46) hx hb d_X_inAllLayers_20 (by decide) (fun c_1 => ?_) (fun c_1 => absurd (nI_le (by omega) (by omega)) c_1)
    refine lv_lload_n hx hb d_X_inAllLayers_46 rfl (lv_at hl 3 rfl) ?_
    exact W.lret hx hb hr (fun t ht hW => ⟨⟨_, (), rfl, by skip; first | done | rfl, by dsimp only; rw [ht]; skip; exact hP⟩, hS.F ht⟩) hS.2.2 d_X_inAllLayers_47
  · intro fu ih_i H locs ls hI
    obtain ⟨i, hi, hP, hS, hl⟩ := hI
    have hi_i : i < L := by omega
    refine lv_iload hx hb d_X_inAllLayers_16 (lv_at hl 0 rfl) ?_
    refine lv_iload hx hb d_X_inAllLayers_18 (lv_at hl 1 rfl) ?_
    refine lv_icmp_ge (tgt := 46) hx hb d_X_inAllLayers_20 (by decide) (fun c_2 => absurd c_2 (nI_ge hi_i (by omega))) (fun c_2 => ?_)
    refine lv_aload hx hb d_X_inAllLayers_23 (lv_at hl 2 rfl) ?_
    refine lv_iload hx hb d_X_inAllLayers_25 (lv_at hl 0 rfl) ?_
    refine wr_aldq hx hb hK hP (6) 2 (by omega) rfl rfl i rfl (by omega) (by omega) (v := ad (7 + 2 * i)) (if_pos hi_i) d_X_inAllLayers_27 ?_
    refine lv_astore (lv' := [(7, .ref (ad (7 + 2 * i))), (6, .int (nI i)), (5, .int (nI L)), (4, .ref (ad 6)), (2, .long (x_inAllN x k i)), (0, .ref (ad 0)), (1, .int (nI k))]) hx hb d_X_inAllLayers_28 hl (by decide) rfl (fun ls hl => ?_)
    refine lv_lload_n hx hb d_X_inAllLayers_30 rfl (lv_at hl 4 rfl) ?_
    refine lv_aload hx hb d_X_inAllLayers_31 (lv_at hl 0 rfl) ?_
    refine wr_get hx hb hts in_Y hown hK hP (7 + 2 * i) (by omega) (xE_lay g ad L x hi_i) rfl 0 (by decide) (hts _ tw_79) rfl d_X_inAllLayers_33 ?_
    refine lv_iload_n hx hb d_X_inAllLayers_36 rfl (lv_at hl 6 rfl) ?_
    refine wr_lald hx hb hK hP (8 + 2 * i) 0 (by omega) (xE_stk g ad L x hi_i) rfl k rfl (by omega) (by omega) d_X_inAllLayers_37 ?_
    refine lv_ladd hx hb d_X_inAllLayers_38 ?_
    refine lv_topl (fun v_3 ev_3 => ?_)
    refine lv_lstore_n (lv' := [(2, .long v_3), (7, .ref (ad (7 + 2 * i))), (6, .int (nI i)), (5, .int (nI L)), (4, .ref (ad 6)), (0, .ref (ad 0)), (1, .int (nI k))]) hx hb d_X_inAllLayers_39 rfl hl (by decide) rfl (fun ls hl => ?_)
    refine lv_iinc (v := nI (i + 1)) (lv' := [(6, .int (nI (i + 1))), (2, .long v_3), (7, .ref (ad (7 + 2 * i))), (5, .int (nI L)), (4, .ref (ad 6)), (0, .ref (ad 0)), (1, .int (nI k))]) hx hb d_X_inAllLayers_40 hl (k := 2) rfl (nI_1 i) (by decide) rfl (fun ls hl => ?_)
    refine lv_goto (tgt := 16) hx hb d_X_inAllLayers_43 (by decide) ?_
    subst ev_3
    exact ih_i _ _ _ ⟨i + 1, by omega, (by skip; exact hP), hS, lv_sub hl [0, 3, 4, 1, 5, 6] (by skip; rfl)⟩
set_option maxHeartbeats 4000000 in
set_option maxRecDepth 100000 in
theorem c_X_putInLessThere (l : Launch) (g : wG) (ad : Nat → Nat) {L : Nat} (hL : 1 ≤ L ∧ L ≤ 6) (x : xS) (k : Nat) (hk : k < 5) : CtL l y_X_putInLessThere ws_X_putInLessThere ({ frames := 1, cells := 0, slots := 0, locals := 27 }) g (16 + 2 * L) ad (xE g ad L x) (xE g ad L x) [.ref (ad 0), .int (nI k)] (x_less L x k) := by
  intro sz
  refine Met.ofW (cc := b_X_putInLessThere) (maxL := 2) (ret := (some .long)) (by decide +kernel) rfl ?_
  intro p e s m args below meth c s₁ B hml hv
  obtain ⟨rfl, hsz, hP, hK, hN, hJ⟩ := hv
  have hx := B.exec
  have hb := B.bytes
  have hr := B.returns
  have hts0 := atoms_spec (ws := ws_X_putInLessThere) B.pre
  have hts : ∀ w ∈ tb, w.before _ s = true := fun w h => hts0 w (List.mem_cons_of_mem _ h)
  have hown : s.vm.findClass "HeapSteps" = some m.cls := findClass_of_methodNamed B.named
  have hlocks := B.notSynchronized
  subst hsz
  have hS : va_S (wA (16 + 2 * L) ad s.heap.size) s.heap s.heap [] := va_S.rf
  have hl := lv_entry ([.ref (ad 0), .int (nI k)]) (n := 2) (Nat.le_of_ble_eq_true rfl)
  rw [lg_entry_eq]
  generalize (lg_sl ([.ref (ad 0), .int (nI k)]) ++ List.replicate (2 - (lg_sl ([.ref (ad 0), .int (nI k)])).length) Slot.unset).toArray = ls at hl ⊢
  have hl : lv_has ls 2 [(0, .ref (ad 0)), (1, .int (nI k))] := hl
  refine lv_aload_n hx hb d_X_putInLessThere_0 rfl (lv_at hl 0 rfl) ?_
  refine wr_get hx hb hts in_X hown hK hP (0) (by omega) rfl rfl 4 (by decide) (hts _ tw_120) rfl d_X_putInLessThere_1 ?_
  refine lv_iload_n hx hb d_X_putInLessThere_4 rfl (lv_at hl 1 rfl) ?_
  refine wr_lald hx hb hK hP (4) 0 (by omega) rfl rfl k rfl (by omega) (by omega) d_X_putInLessThere_5 ?_
  refine lv_aload_n hx hb d_X_putInLessThere_6 rfl (lv_at hl 0 rfl) ?_
  refine wr_get hx hb hts in_X hown hK hP (0) (by omega) rfl rfl 5 (by decide) (hts _ tw_121) rfl d_X_putInLessThere_7 ?_
  refine lv_iload_n hx hb d_X_putInLessThere_10 rfl (lv_at hl 1 rfl) ?_
  refine wr_lald hx hb hK hP (5) 0 (by omega) rfl rfl k rfl (by omega) (by omega) d_X_putInLessThere_11 ?_
  refine lv_lsub hx hb d_X_putInLessThere_12 ?_
  refine lv_aload_n hx hb d_X_putInLessThere_13 rfl (lv_at hl 0 rfl) ?_
  refine lv_iload_n hx hb d_X_putInLessThere_14 rfl (lv_at hl 1 rfl) ?_
  refine wc_l (va_runV (As := [.int (nI k)]) (rest := [.long ((xO x 1 k) - (xO x 2 k))]) ⟨hx, hb, hml, hown, hts⟩ (c_X_inAllLayers l g ad hL x k (by omega) _) (cwV 1 hts (gd_V tw_310 tw_312 tw_10 tw_24 tw_313) rfl rfl rfl (by decide +kernel) ⟨Nat.le_of_ble_eq_true rfl, Nat.le_of_ble_eq_true rfl⟩) (wp_V hK hN hP hJ (0) (by omega) rfl rfl) rfl rfl hl.1 rfl (lv_room (Nat.le_of_ble_eq_true rfl)) d_X_putInLessThere_15 ⟨Nat.zero_le _, Nat.zero_le _⟩) hS (fun H locs hP hS => ?_)
  refine lv_lsub hx hb d_X_putInLessThere_18 ?_
  exact W.lret hx hb hr (fun t ht hW => ⟨⟨_, (), rfl, by (try simp only [x_less]); first | done | rfl, by dsimp only; rw [ht]; (try simp only [x_less]); exact hP⟩, hS.F ht⟩) hS.2.2 d_X_putInLessThere_19
set_option maxHeartbeats 4000000 in
set_option maxRecDepth 100000 in
theorem c_X_left (l : Launch) (g : wG) (ad : Nat → Nat) {L : Nat} (hL : 1 ≤ L ∧ L ≤ 6) (x : xS) (a1 a2 : Int32) : CtL l y_X_left ws_X_left ({ frames := 2, cells := 0, slots := 0, locals := 43 }) g (16 + 2 * L) ad (xE g ad L x) (xE g ad L x) [.ref (ad 0), .int a1, .int a2] (x_left L x a1 a2) := by
  intro sz
  refine Met.ofW (cc := b_X_left) (maxL := 4) (ret := (some .long)) (by decide +kernel) rfl ?_
  intro p e s m args below meth c s₁ B hml hv
  obtain ⟨rfl, hsz, hP, hK, hN, hJ⟩ := hv
  have hx := B.exec
  have hb := B.bytes
  have hr := B.returns
  have hts0 := atoms_spec (ws := ws_X_left) B.pre
  have hts : ∀ w ∈ tb, w.before _ s = true := fun w h => hts0 w (List.mem_cons_of_mem _ h)
  have hown : s.vm.findClass "HeapSteps" = some m.cls := findClass_of_methodNamed B.named
  have hlocks := B.notSynchronized
  subst hsz
  have hS : va_S (wA (16 + 2 * L) ad s.heap.size) s.heap s.heap [] := va_S.rf
  have hl := lv_entry ([.ref (ad 0), .int a1, .int a2]) (n := 4) (Nat.le_of_ble_eq_true rfl)
  rw [lg_entry_eq]
  generalize (lg_sl ([.ref (ad 0), .int a1, .int a2]) ++ List.replicate (4 - (lg_sl ([.ref (ad 0), .int a1, .int a2])).length) Slot.unset).toArray = ls at hl ⊢
  have hl : lv_has ls 4 [(0, .ref (ad 0)), (1, .int a1), (2, .int a2)] := hl
  refine lv_aload_n hx hb d_X_left_0 rfl (lv_at hl 0 rfl) ?_
  refine lv_iload_n hx hb d_X_left_1 rfl (lv_at hl 1 rfl) ?_
  refine wc_q (va_runV (As := [.int a1]) (rest := []) ⟨hx, hb, hml, hown, hts⟩ (c_X_layerAt l g ad hL x a1 _) (cwV 1 hts (gd_V tw_155 tw_157 tw_0 tw_24 tw_158) rfl rfl rfl (by decide +kernel) ⟨Nat.le_of_ble_eq_true rfl, Nat.le_of_ble_eq_true rfl⟩) (wp_V hK hN hP hJ (0) (by omega) rfl rfl) rfl rfl hl.1 rfl (lv_room (Nat.le_of_ble_eq_true rfl)) d_X_left_2 ⟨Nat.zero_le _, Nat.zero_le _⟩) hS (fun H locs hP hS => ?_)
  rcases x_la_cases hL a1 with q_1 | ⟨i_2, hi_2, hni_2, q_1⟩
  · rw [q_1]
    refine W.eq (g2 := F0 m 5 ls [.null]) rfl ?_
    refine lv_astore_nN (lv' := [(3, .null), (0, .ref (ad 0)), (1, .int a1), (2, .int a2)]) hx hb d_X_left_5 rfl hl (by decide) rfl (fun ls hl => ?_)
    refine lv_aload_nN hx hb d_X_left_6 rfl (lv_at hl 0 rfl) ?_
    refine lv_ifnullN (tgt := 17) hx hb d_X_left_7 (by decide) ?_
    refine lv_ldc2 (v := -1) hx hb hown (hts _ tw_289) d_X_left_17 ?_
    refine lv_goto (tgt := 29) hx hb d_X_left_20 (by decide) ?_
    exact W.lret hx hb hr (fun t ht hW => ⟨⟨_, (), rfl, by (try simp only [x_left, q_1]); first | done | rfl, by dsimp only; rw [ht]; (try simp only [x_left, q_1]); exact hP⟩, hS.F ht⟩) hS.2.2 d_X_left_29
  · rw [q_1]
    refine W.eq (g2 := F0 m 5 ls [.ref (ad (7 + 2 * i_2))]) rfl ?_
    refine lv_astore_n (lv' := [(3, .ref (ad (7 + 2 * i_2))), (0, .ref (ad 0)), (1, .int a1), (2, .int a2)]) hx hb d_X_left_5 rfl hl (by decide) rfl (fun ls hl => ?_)
    refine lv_aload_n hx hb d_X_left_6 rfl (lv_at hl 0 rfl) ?_
    refine lv_ifnull hx hb d_X_left_7 ?_
    refine lv_iload_n hx hb d_X_left_10 rfl (lv_at hl 3 rfl) ?_
    refine wc_i (va_runS (As := [.int a2]) (rest := []) ⟨hx, hb, hml, hown, hts⟩ (c_X_isPart l g _ ad _ a2 _) (cwS 1 hts (gd_S tw_151 tw_152 tw_24 tw_153) rfl rfl rfl (by decide +kernel) ⟨Nat.le_of_ble_eq_true rfl, Nat.le_of_ble_eq_true rfl⟩) (wp_S hK hN hP hJ) rfl rfl hl.1 rfl (lv_room (Nat.le_of_ble_eq_true rfl)) d_X_left_11 ⟨Nat.zero_le _, Nat.zero_le _⟩) hS (fun H locs hP hS => ?_)
    refine lv_if_ne (tgt := 23) hx hb d_X_left_14 (by decide) (fun c_3 => ?_) (fun c_3 => ?_)
    · skip
      obtain ⟨k, hk, rfl⟩ := x_within_nat (n := 2) (by decide) c_3
      refine lv_aload_n hx hb d_X_left_23 rfl (lv_at hl 0 rfl) ?_
      refine wr_get hx hb hts in_Y hown hK hP (7 + 2 * i_2) (by omega) (xE_lay g ad L x hi_2) rfl 0 (by decide) (hts _ tw_79) rfl d_X_left_24 ?_
      refine lv_iload_n hx hb d_X_left_27 rfl (lv_at hl 3 rfl) ?_
      refine wr_lald hx hb hK hP (8 + 2 * i_2) 0 (by omega) (xE_stk g ad L x hi_2) rfl k rfl (by omega) (by omega) d_X_left_28 ?_
      exact W.lret hx hb hr (fun t ht hW => ⟨⟨_, (), rfl, by (try simp only [x_left, if_neg c_3, q_1, nI_clamp (show k < 2 ^ 31 by omega)]); first | done | rfl, by dsimp only; rw [ht]; (try simp only [x_left, if_neg c_3, q_1, nI_clamp (show k < 2 ^ 31 by omega)]); exact hP⟩, hS.F ht⟩) hS.2.2 d_X_left_29
    · skip
      refine lv_ldc2 (v := -1) hx hb hown (hts _ tw_289) d_X_left_17 ?_
      refine lv_goto (tgt := 29) hx hb d_X_left_20 (by decide) ?_
      exact W.lret hx hb hr (fun t ht hW => ⟨⟨_, (), rfl, by (try simp only [x_left, if_pos c_3, q_1]); first | done | rfl, by dsimp only; rw [ht]; (try simp only [x_left, if_pos c_3, q_1]); exact hP⟩, hS.F ht⟩) hS.2.2 d_X_left_29
set_option maxHeartbeats 4000000 in
set_option maxRecDepth 100000 in
theorem c_X_wet (l : Launch) (g : wG) (ad : Nat → Nat) {L : Nat} (hL : 1 ≤ L ∧ L ≤ 6) (x : xS) (a1 : Int32) : CtL l y_X_wet ws_X_wet ({ frames := 2, cells := 0, slots := 0, locals := 43 }) g (16 + 2 * L) ad (xE g ad L x) (xE g ad L x) [.ref (ad 0), .int a1] (x_wet L x a1) := by
  intro sz
  refine Met.ofW (cc := b_X_wet) (maxL := 3) (ret := (some .long)) (by decide +kernel) rfl ?_
  intro p e s m args below meth c s₁ B hml hv
  obtain ⟨rfl, hsz, hP, hK, hN, hJ⟩ := hv
  have hx := B.exec
  have hb := B.bytes
  have hr := B.returns
  have hts0 := atoms_spec (ws := ws_X_wet) B.pre
  have hts : ∀ w ∈ tb, w.before _ s = true := fun w h => hts0 w (List.mem_cons_of_mem _ h)
  have hown : s.vm.findClass "HeapSteps" = some m.cls := findClass_of_methodNamed B.named
  have hlocks := B.notSynchronized
  subst hsz
  have hS : va_S (wA (16 + 2 * L) ad s.heap.size) s.heap s.heap [] := va_S.rf
  have hl := lv_entry ([.ref (ad 0), .int a1]) (n := 3) (Nat.le_of_ble_eq_true rfl)
  rw [lg_entry_eq]
  generalize (lg_sl ([.ref (ad 0), .int a1]) ++ List.replicate (3 - (lg_sl ([.ref (ad 0), .int a1])).length) Slot.unset).toArray = ls at hl ⊢
  have hl : lv_has ls 3 [(0, .ref (ad 0)), (1, .int a1)] := hl
  refine lv_aload_n hx hb d_X_wet_0 rfl (lv_at hl 0 rfl) ?_
  refine lv_iload_n hx hb d_X_wet_1 rfl (lv_at hl 1 rfl) ?_
  refine wc_q (va_runV (As := [.int a1]) (rest := []) ⟨hx, hb, hml, hown, hts⟩ (c_X_layerAt l g ad hL x a1 _) (cwV 1 hts (gd_V tw_155 tw_157 tw_0 tw_24 tw_158) rfl rfl rfl (by decide +kernel) ⟨Nat.le_of_ble_eq_true rfl, Nat.le_of_ble_eq_true rfl⟩) (wp_V hK hN hP hJ (0) (by omega) rfl rfl) rfl rfl hl.1 rfl (lv_room (Nat.le_of_ble_eq_true rfl)) d_X_wet_2 ⟨Nat.zero_le _, Nat.zero_le _⟩) hS (fun H locs hP hS => ?_)
  rcases x_la_cases hL a1 with q_1 | ⟨i_2, hi_2, hni_2, q_1⟩
  · rw [q_1]
    refine W.eq (g2 := F0 m 5 ls [.null]) rfl ?_
    refine lv_astore_nN (lv' := [(2, .null), (0, .ref (ad 0)), (1, .int a1)]) hx hb d_X_wet_5 rfl hl (by decide) rfl (fun ls hl => ?_)
    refine lv_aload_nN hx hb d_X_wet_6 rfl (lv_at hl 0 rfl) ?_
    refine lv_ifnonnullN hx hb d_X_wet_7 ?_
    refine lv_ldc2 (v := -1) hx hb hown (hts _ tw_289) d_X_wet_10 ?_
    refine lv_goto (tgt := 22) hx hb d_X_wet_13 (by decide) ?_
    exact W.lret hx hb hr (fun t ht hW => ⟨⟨_, (), rfl, by (try simp only [x_wet, q_1]); first | done | rfl, by dsimp only; rw [ht]; (try simp only [x_wet, q_1]); exact hP⟩, hS.F ht⟩) hS.2.2 d_X_wet_22
  · rw [q_1]
    refine W.eq (g2 := F0 m 5 ls [.ref (ad (7 + 2 * i_2))]) rfl ?_
    refine lv_astore_n (lv' := [(2, .ref (ad (7 + 2 * i_2))), (0, .ref (ad 0)), (1, .int a1)]) hx hb d_X_wet_5 rfl hl (by decide) rfl (fun ls hl => ?_)
    refine lv_aload_n hx hb d_X_wet_6 rfl (lv_at hl 0 rfl) ?_
    refine lv_ifnonnull (tgt := 16) hx hb d_X_wet_7 (by decide) ?_
    refine lv_aload_n hx hb d_X_wet_16 rfl (lv_at hl 0 rfl) ?_
    refine wr_get hx hb hts in_Y hown hK hP (7 + 2 * i_2) (by omega) (xE_lay g ad L x hi_2) rfl 0 (by decide) (hts _ tw_79) rfl d_X_wet_17 ?_
    refine lv_iconst (v := 3) hx hb d_X_wet_20 (by decide) ?_
    refine wr_lald hx hb hK hP (8 + 2 * i_2) 0 (by omega) (xE_stk g ad L x hi_2) rfl 3 (by decide) (by omega) (by omega) d_X_wet_21 ?_
    exact W.lret hx hb hr (fun t ht hW => ⟨⟨_, (), rfl, by (try simp only [x_wet, q_1]); first | done | rfl, by dsimp only; rw [ht]; (try simp only [x_wet, q_1]); exact hP⟩, hS.F ht⟩) hS.2.2 d_X_wet_22
set_option maxHeartbeats 4000000 in
set_option maxRecDepth 100000 in
theorem c_X_warmth (l : Launch) (g : wG) (ad : Nat → Nat) {L : Nat} (hL : 1 ≤ L ∧ L ≤ 6) (x : xS) (a1 : Int32) : CtL l y_X_warmth ws_X_warmth ({ frames := 2, cells := 0, slots := 0, locals := 45 }) g (16 + 2 * L) ad (xE g ad L x) (xE g ad L x) [.ref (ad 0), .int a1] (x_warmth L x a1) := by
  intro sz
  refine Met.ofW (cc := b_X_warmth) (maxL := 3) (ret := (some .long)) (by decide +kernel) rfl ?_
  intro p e s m args below meth c s₁ B hml hv
  obtain ⟨rfl, hsz, hP, hK, hN, hJ⟩ := hv
  have hx := B.exec
  have hb := B.bytes
  have hr := B.returns
  have hts0 := atoms_spec (ws := ws_X_warmth) B.pre
  have hts : ∀ w ∈ tb, w.before _ s = true := fun w h => hts0 w (List.mem_cons_of_mem _ h)
  have hown : s.vm.findClass "HeapSteps" = some m.cls := findClass_of_methodNamed B.named
  have hlocks := B.notSynchronized
  subst hsz
  have hS : va_S (wA (16 + 2 * L) ad s.heap.size) s.heap s.heap [] := va_S.rf
  have hl := lv_entry ([.ref (ad 0), .int a1]) (n := 3) (Nat.le_of_ble_eq_true rfl)
  rw [lg_entry_eq]
  generalize (lg_sl ([.ref (ad 0), .int a1]) ++ List.replicate (3 - (lg_sl ([.ref (ad 0), .int a1])).length) Slot.unset).toArray = ls at hl ⊢
  have hl : lv_has ls 3 [(0, .ref (ad 0)), (1, .int a1)] := hl
  refine lv_aload_n hx hb d_X_warmth_0 rfl (lv_at hl 0 rfl) ?_
  refine lv_iload_n hx hb d_X_warmth_1 rfl (lv_at hl 1 rfl) ?_
  refine wc_q (va_runV (As := [.int a1]) (rest := []) ⟨hx, hb, hml, hown, hts⟩ (c_X_layerAt l g ad hL x a1 _) (cwV 1 hts (gd_V tw_155 tw_157 tw_0 tw_24 tw_158) rfl rfl rfl (by decide +kernel) ⟨Nat.le_of_ble_eq_true rfl, Nat.le_of_ble_eq_true rfl⟩) (wp_V hK hN hP hJ (0) (by omega) rfl rfl) rfl rfl hl.1 rfl (lv_room (Nat.le_of_ble_eq_true rfl)) d_X_warmth_2 ⟨Nat.zero_le _, Nat.zero_le _⟩) hS (fun H locs hP hS => ?_)
  rcases x_la_cases hL a1 with q_1 | ⟨i_2, hi_2, hni_2, q_1⟩
  · rw [q_1]
    refine W.eq (g2 := F0 m 5 ls [.null]) rfl ?_
    refine lv_astore_nN (lv' := [(2, .null), (0, .ref (ad 0)), (1, .int a1)]) hx hb d_X_warmth_5 rfl hl (by decide) rfl (fun ls hl => ?_)
    refine lv_aload_nN hx hb d_X_warmth_6 rfl (lv_at hl 0 rfl) ?_
    refine lv_ifnonnullN hx hb d_X_warmth_7 ?_
    refine lv_ldc2 (v := -1) hx hb hown (hts _ tw_289) d_X_warmth_10 ?_
    refine lv_goto (tgt := 20) hx hb d_X_warmth_13 (by decide) ?_
    exact W.lret hx hb hr (fun t ht hW => ⟨⟨_, (), rfl, by (try simp only [x_warmth, q_1]); first | done | rfl, by dsimp only; rw [ht]; (try simp only [x_warmth, q_1]); exact hP⟩, hS.F ht⟩) hS.2.2 d_X_warmth_20
  · rw [q_1]
    refine W.eq (g2 := F0 m 5 ls [.ref (ad (7 + 2 * i_2))]) rfl ?_
    refine lv_astore_n (lv' := [(2, .ref (ad (7 + 2 * i_2))), (0, .ref (ad 0)), (1, .int a1)]) hx hb d_X_warmth_5 rfl hl (by decide) rfl (fun ls hl => ?_)
    refine lv_aload_n hx hb d_X_warmth_6 rfl (lv_at hl 0 rfl) ?_
    refine lv_ifnonnull (tgt := 16) hx hb d_X_warmth_7 (by decide) ?_
    refine lv_aload_n hx hb d_X_warmth_16 rfl (lv_at hl 0 rfl) ?_
    refine wc_l (va_runV (As := []) (rest := []) ⟨hx, hb, hml, hown, hts⟩ (c_Y_warmthNow l g ad hL x hi_2 _) (cwV 0 hts (gd_V tw_219 tw_220 tw_221 tw_26 tw_222) rfl rfl rfl (by decide +kernel) ⟨Nat.le_of_ble_eq_true rfl, Nat.le_of_ble_eq_true rfl⟩) (wp_V hK hN hP hJ (7 + 2 * i_2) (by omega) (xE_lay g ad L x hi_2) rfl) rfl rfl hl.1 rfl (lv_room (Nat.le_of_ble_eq_true rfl)) d_X_warmth_17 ⟨Nat.zero_le _, Nat.zero_le _⟩) hS (fun H locs hP hS => ?_)
    exact W.lret hx hb hr (fun t ht hW => ⟨⟨_, (), rfl, by (try simp only [x_warmth, q_1]); first | done | rfl, by dsimp only; rw [ht]; (try simp only [x_warmth, q_1]); exact hP⟩, hS.F ht⟩) hS.2.2 d_X_warmth_20
set_option maxHeartbeats 4000000 in
set_option maxRecDepth 100000 in
theorem c_X_air (l : Launch) (g : wG) (ad : Nat → Nat) {L : Nat} (hL : 1 ≤ L ∧ L ≤ 6) (x : xS) : CtI l y_X_air ws_X_air ({ frames := 0, cells := 0, slots := 0, locals := 0 }) g (16 + 2 * L) ad (xE g ad L x) (xE g ad L x) [.ref (ad 0)] (xI x 8) := by
  intro sz
  refine Met.ofW (cc := b_X_air) (maxL := 1) (ret := (some .int)) (by decide +kernel) rfl ?_
  intro p e s m args below meth c s₁ B hml hv
  obtain ⟨rfl, hsz, hP, hK, hN, hJ⟩ := hv
  have hx := B.exec
  have hb := B.bytes
  have hr := B.returns
  have hts0 := atoms_spec (ws := ws_X_air) B.pre
  have hts : ∀ w ∈ tb, w.before _ s = true := fun w h => hts0 w (List.mem_cons_of_mem _ h)
  have hown : s.vm.findClass "HeapSteps" = some m.cls := findClass_of_methodNamed B.named
  have hlocks := B.notSynchronized
  subst hsz
  have hS : va_S (wA (16 + 2 * L) ad s.heap.size) s.heap s.heap [] := va_S.rf
  have hl := lv_entry ([.ref (ad 0)]) (n := 1) (Nat.le_of_ble_eq_true rfl)
  rw [lg_entry_eq]
  generalize (lg_sl ([.ref (ad 0)]) ++ List.replicate (1 - (lg_sl ([.ref (ad 0)])).length) Slot.unset).toArray = ls at hl ⊢
  have hl : lv_has ls 1 [(0, .ref (ad 0))] := hl
  refine lv_aload_n hx hb d_X_air_0 rfl (lv_at hl 0 rfl) ?_
  refine wr_get hx hb hts in_X hown hK hP (0) (by omega) rfl rfl 2 (by decide) (hts _ tw_118) rfl d_X_air_1 ?_
  refine wr_get hx hb hts in_F hown hK hP (2) (by omega) rfl rfl 5 (by decide) (hts _ tw_52) rfl d_X_air_4 ?_
  exact W.iret hx hb hr (fun t ht hW => ⟨⟨_, (), rfl, by skip; first | done | rfl, by dsimp only; rw [ht]; skip; exact hP⟩, hS.F ht⟩) hS.2.2 d_X_air_7
set_option maxHeartbeats 4000000 in
set_option maxRecDepth 100000 in
theorem c_X_gone (l : Launch) (g : wG) (ad : Nat → Nat) {L : Nat} (hL : 1 ≤ L ∧ L ≤ 6) (x : xS) (a1 : Int32) : CtL l y_X_gone ws_X_gone ({ frames := 1, cells := 0, slots := 0, locals := 22 }) g (16 + 2 * L) ad (xE g ad L x) (xE g ad L x) [.ref (ad 0), .int a1] (x_gone x a1) := by
  intro sz
  refine Met.ofW (cc := b_X_gone) (maxL := 2) (ret := (some .long)) (by decide +kernel) rfl ?_
  intro p e s m args below meth c s₁ B hml hv
  obtain ⟨rfl, hsz, hP, hK, hN, hJ⟩ := hv
  have hx := B.exec
  have hb := B.bytes
  have hr := B.returns
  have hts0 := atoms_spec (ws := ws_X_gone) B.pre
  have hts : ∀ w ∈ tb, w.before _ s = true := fun w h => hts0 w (List.mem_cons_of_mem _ h)
  have hown : s.vm.findClass "HeapSteps" = some m.cls := findClass_of_methodNamed B.named
  have hlocks := B.notSynchronized
  subst hsz
  have hS : va_S (wA (16 + 2 * L) ad s.heap.size) s.heap s.heap [] := va_S.rf
  have hl := lv_entry ([.ref (ad 0), .int a1]) (n := 2) (Nat.le_of_ble_eq_true rfl)
  rw [lg_entry_eq]
  generalize (lg_sl ([.ref (ad 0), .int a1]) ++ List.replicate (2 - (lg_sl ([.ref (ad 0), .int a1])).length) Slot.unset).toArray = ls at hl ⊢
  have hl : lv_has ls 2 [(0, .ref (ad 0)), (1, .int a1)] := hl
  refine lv_iload_n hx hb d_X_gone_0 rfl (lv_at hl 1 rfl) ?_
  refine lv_iconst (v := 0) hx hb d_X_gone_1 (by decide) ?_
  refine lv_bipush (v := 8) hx hb d_X_gone_2 (by decide) ?_
  refine wc_i (va_runS (As := [.int a1, .int 0, .int 8]) (rest := []) ⟨hx, hb, hml, hown, hts⟩ (c_X_within l g _ ad _ a1 0 8 _) (cwS 3 hts (gd_S tw_67 tw_68 tw_24 tw_69) rfl rfl rfl (by decide +kernel) ⟨Nat.le_of_ble_eq_true rfl, Nat.le_of_ble_eq_true rfl⟩) (wp_S hK hN hP hJ) rfl rfl hl.1 rfl (lv_room (Nat.le_of_ble_eq_true rfl)) d_X_gone_4 ⟨Nat.zero_le _, Nat.zero_le _⟩) hS (fun H locs hP hS => ?_)
  refine lv_if_eq (tgt := 19) hx hb d_X_gone_7 (by decide) (fun c_1 => ?_) (fun c_1 => ?_)
  · skip
    refine lv_ldc2 (v := -1) hx hb hown (hts _ tw_289) d_X_gone_19 ?_
    exact W.lret hx hb hr (fun t ht hW => ⟨⟨_, (), rfl, by (try simp only [x_gone, if_pos c_1]); first | done | rfl, by dsimp only; rw [ht]; (try simp only [x_gone, if_pos c_1]); exact hP⟩, hS.F ht⟩) hS.2.2 d_X_gone_22
  · skip
    obtain ⟨k, hk, rfl⟩ := x_within_nat (n := 8) (by decide) c_1
    refine lv_aload_n hx hb d_X_gone_10 rfl (lv_at hl 0 rfl) ?_
    refine wr_get hx hb hts in_X hown hK hP (0) (by omega) rfl rfl 3 (by decide) (hts _ tw_119) rfl d_X_gone_11 ?_
    refine lv_iload_n hx hb d_X_gone_14 rfl (lv_at hl 1 rfl) ?_
    refine wr_lald hx hb hK hP (3) 0 (by omega) rfl rfl k rfl (by omega) (by omega) d_X_gone_15 ?_
    refine lv_goto (tgt := 22) hx hb d_X_gone_16 (by decide) ?_
    exact W.lret hx hb hr (fun t ht hW => ⟨⟨_, (), rfl, by (try simp only [x_gone, if_neg c_1, nI_clamp (show k < 2 ^ 31 by omega)]); first | done | rfl, by dsimp only; rw [ht]; (try simp only [x_gone, if_neg c_1, nI_clamp (show k < 2 ^ 31 by omega)]); exact hP⟩, hS.F ht⟩) hS.2.2 d_X_gone_22
set_option maxHeartbeats 4000000 in
set_option maxRecDepth 100000 in
theorem c_X_balance (l : Launch) (g : wG) (ad : Nat → Nat) {L : Nat} (hL : 1 ≤ L ∧ L ≤ 6) (x : xS) (a1 : Int32) : CtL l y_X_balance ws_X_balance ({ frames := 2, cells := 0, slots := 0, locals := 48 }) g (16 + 2 * L) ad (xE g ad L x) (xE g ad L x) [.ref (ad 0), .int a1] (x_balance L x a1) := by
  intro sz
  refine Met.ofW (cc := b_X_balance) (maxL := 2) (ret := (some .long)) (by decide +kernel) rfl ?_
  intro p e s m args below meth c s₁ B hml hv
  obtain ⟨rfl, hsz, hP, hK, hN, hJ⟩ := hv
  have hx := B.exec
  have hb := B.bytes
  have hr := B.returns
  have hts0 := atoms_spec (ws := ws_X_balance) B.pre
  have hts : ∀ w ∈ tb, w.before _ s = true := fun w h => hts0 w (List.mem_cons_of_mem _ h)
  have hown : s.vm.findClass "HeapSteps" = some m.cls := findClass_of_methodNamed B.named
  have hlocks := B.notSynchronized
  subst hsz
  have hS : va_S (wA (16 + 2 * L) ad s.heap.size) s.heap s.heap [] := va_S.rf
  have hl := lv_entry ([.ref (ad 0), .int a1]) (n := 2) (Nat.le_of_ble_eq_true rfl)
  rw [lg_entry_eq]
  generalize (lg_sl ([.ref (ad 0), .int a1]) ++ List.replicate (2 - (lg_sl ([.ref (ad 0), .int a1])).length) Slot.unset).toArray = ls at hl ⊢
  have hl : lv_has ls 2 [(0, .ref (ad 0)), (1, .int a1)] := hl
  refine lv_iload_n hx hb d_X_balance_0 rfl (lv_at hl 1 rfl) ?_
  by_cases c_1 : a1 = 0
  · subst c_1
    refine lv_tableIn (off := 27) (tgt := 28) hx hb d_X_balance_1 (by decide) (by decide) rfl (by decide) ?_
    refine lv_aload_n hx hb d_X_balance_28 rfl (lv_at hl 0 rfl) ?_
    refine lv_iconst (v := 0) hx hb d_X_balance_29 (by decide) ?_
    refine wc_l (va_runV (As := [.int 0]) (rest := []) ⟨hx, hb, hml, hown, hts⟩ (c_X_putInLessThere l g ad hL x 0 (by omega) _) (cwV 1 hts (gd_V tw_322 tw_324 tw_11 tw_24 tw_325) rfl rfl rfl (by decide +kernel) ⟨Nat.le_of_ble_eq_true rfl, Nat.le_of_ble_eq_true rfl⟩) (wp_V hK hN hP hJ (0) (by omega) rfl rfl) rfl rfl hl.1 rfl (lv_room (Nat.le_of_ble_eq_true rfl)) d_X_balance_30 ⟨Nat.zero_le _, Nat.zero_le _⟩) hS (fun H locs hP hS => ?_)
    refine lv_aload_n hx hb d_X_balance_33 rfl (lv_at hl 0 rfl) ?_
    refine lv_iconst (v := 1) hx hb d_X_balance_34 (by decide) ?_
    refine wc_l (va_runV (As := [.int 1]) (rest := [.long (x_less L x 0)]) ⟨hx, hb, hml, hown, hts⟩ (c_X_putInLessThere l g ad hL x 1 (by omega) _) (cwV 1 hts (gd_V tw_322 tw_324 tw_11 tw_24 tw_325) rfl rfl rfl (by decide +kernel) ⟨Nat.le_of_ble_eq_true rfl, Nat.le_of_ble_eq_true rfl⟩) (wp_V hK hN hP hJ (0) (by omega) rfl rfl) rfl rfl hl.1 rfl (lv_room (Nat.le_of_ble_eq_true rfl)) d_X_balance_35 ⟨Nat.zero_le _, Nat.zero_le _⟩) hS (fun H locs hP hS => ?_)
    refine lv_ladd hx hb d_X_balance_38 ?_
    refine lv_aload_n hx hb d_X_balance_39 rfl (lv_at hl 0 rfl) ?_
    refine lv_iconst (v := 2) hx hb d_X_balance_40 (by decide) ?_
    refine wc_l (va_runV (As := [.int 2]) (rest := [.long ((x_less L x 0) + (x_less L x 1))]) ⟨hx, hb, hml, hown, hts⟩ (c_X_putInLessThere l g ad hL x 2 (by omega) _) (cwV 1 hts (gd_V tw_322 tw_324 tw_11 tw_24 tw_325) rfl rfl rfl (by decide +kernel) ⟨Nat.le_of_ble_eq_true rfl, Nat.le_of_ble_eq_true rfl⟩) (wp_V hK hN hP hJ (0) (by omega) rfl rfl) rfl rfl hl.1 rfl (lv_room (Nat.le_of_ble_eq_true rfl)) d_X_balance_41 ⟨Nat.zero_le _, Nat.zero_le _⟩) hS (fun H locs hP hS => ?_)
    refine lv_ladd hx hb d_X_balance_44 ?_
    refine lv_aload_n hx hb d_X_balance_45 rfl (lv_at hl 0 rfl) ?_
    refine wr_get hx hb hts in_X hown hK hP (0) (by omega) rfl rfl 3 (by decide) (hts _ tw_119) rfl d_X_balance_46 ?_
    refine lv_iconst (v := 0) hx hb d_X_balance_49 (by decide) ?_
    refine wr_lald hx hb hK hP (3) 0 (by omega) rfl rfl 0 (by decide) (by omega) (by omega) d_X_balance_50 ?_
    refine lv_lsub hx hb d_X_balance_51 ?_
    exact W.lret hx hb hr (fun t ht hW => ⟨⟨_, (), rfl, by (try simp only [x_balance, if_pos (show (0 : Int32) = 0 by decide)]); first | done | rfl, by dsimp only; rw [ht]; (try simp only [x_balance, if_pos (show (0 : Int32) = 0 by decide)]); exact hP⟩, hS.F ht⟩) hS.2.2 d_X_balance_52
  · skip
    by_cases c_2 : a1 = 1
    · subst c_2
      refine lv_tableIn (off := 52) (tgt := 53) hx hb d_X_balance_1 (by decide) (by decide) rfl (by decide) ?_
      refine lv_aload_n hx hb d_X_balance_53 rfl (lv_at hl 0 rfl) ?_
      refine lv_iconst (v := 3) hx hb d_X_balance_54 (by decide) ?_
      refine wc_l (va_runV (As := [.int 3]) (rest := []) ⟨hx, hb, hml, hown, hts⟩ (c_X_putInLessThere l g ad hL x 3 (by omega) _) (cwV 1 hts (gd_V tw_322 tw_324 tw_11 tw_24 tw_325) rfl rfl rfl (by decide +kernel) ⟨Nat.le_of_ble_eq_true rfl, Nat.le_of_ble_eq_true rfl⟩) (wp_V hK hN hP hJ (0) (by omega) rfl rfl) rfl rfl hl.1 rfl (lv_room (Nat.le_of_ble_eq_true rfl)) d_X_balance_55 ⟨Nat.zero_le _, Nat.zero_le _⟩) hS (fun H locs hP hS => ?_)
      refine lv_aload_n hx hb d_X_balance_58 rfl (lv_at hl 0 rfl) ?_
      refine wr_get hx hb hts in_X hown hK hP (0) (by omega) rfl rfl 3 (by decide) (hts _ tw_119) rfl d_X_balance_59 ?_
      refine lv_iconst (v := 3) hx hb d_X_balance_62 (by decide) ?_
      refine wr_lald hx hb hK hP (3) 0 (by omega) rfl rfl 3 (by decide) (by omega) (by omega) d_X_balance_63 ?_
      refine lv_ladd hx hb d_X_balance_64 ?_
      refine lv_aload_n hx hb d_X_balance_65 rfl (lv_at hl 0 rfl) ?_
      refine wr_get hx hb hts in_X hown hK hP (0) (by omega) rfl rfl 3 (by decide) (hts _ tw_119) rfl d_X_balance_66 ?_
      refine lv_bipush (v := 7) hx hb d_X_balance_69 (by decide) ?_
      refine wr_lald hx hb hK hP (3) 0 (by omega) rfl rfl 7 (by decide) (by omega) (by omega) d_X_balance_71 ?_
      refine lv_ladd hx hb d_X_balance_72 ?_
      refine lv_aload_n hx hb d_X_balance_73 rfl (lv_at hl 0 rfl) ?_
      refine wr_get hx hb hts in_X hown hK hP (0) (by omega) rfl rfl 3 (by decide) (hts _ tw_119) rfl d_X_balance_74 ?_
      refine lv_iconst (v := 1) hx hb d_X_balance_77 (by decide) ?_
      refine wr_lald hx hb hK hP (3) 0 (by omega) rfl rfl 1 (by decide) (by omega) (by omega) d_X_balance_78 ?_
      refine lv_lsub hx hb d_X_balance_79 ?_
      refine lv_aload_n hx hb d_X_balance_80 rfl (lv_at hl 0 rfl) ?_
      refine wr_get hx hb hts in_X hown hK hP (0) (by omega) rfl rfl 3 (by decide) (hts _ tw_119) rfl d_X_balance_81 ?_
      refine lv_iconst (v := 2) hx hb d_X_balance_84 (by decide) ?_
      refine wr_lald hx hb hK hP (3) 0 (by omega) rfl rfl 2 (by decide) (by omega) (by omega) d_X_balance_85 ?_
      refine lv_lsub hx hb d_X_balance_86 ?_
      exact W.lret hx hb hr (fun t ht hW => ⟨⟨_, (), rfl, by (try simp only [x_balance, if_neg (show ¬ (1 : Int32) = 0 by decide), if_pos (show (1 : Int32) = 1 by decide)]); first | done | rfl, by dsimp only; rw [ht]; (try simp only [x_balance, if_neg (show ¬ (1 : Int32) = 0 by decide), if_pos (show (1 : Int32) = 1 by decide)]); exact hP⟩, hS.F ht⟩) hS.2.2 d_X_balance_87
    · skip
      by_cases c_3 : a1 = 2
      · subst c_3
        refine lv_tableIn (off := 87) (tgt := 88) hx hb d_X_balance_1 (by decide) (by decide) rfl (by decide) ?_
        refine lv_aload_n hx hb d_X_balance_88 rfl (lv_at hl 0 rfl) ?_
        refine lv_iconst (v := 4) hx hb d_X_balance_89 (by decide) ?_
        refine wc_l (va_runV (As := [.int 4]) (rest := []) ⟨hx, hb, hml, hown, hts⟩ (c_X_putInLessThere l g ad hL x 4 (by omega) _) (cwV 1 hts (gd_V tw_322 tw_324 tw_11 tw_24 tw_325) rfl rfl rfl (by decide +kernel) ⟨Nat.le_of_ble_eq_true rfl, Nat.le_of_ble_eq_true rfl⟩) (wp_V hK hN hP hJ (0) (by omega) rfl rfl) rfl rfl hl.1 rfl (lv_room (Nat.le_of_ble_eq_true rfl)) d_X_balance_90 ⟨Nat.zero_le _, Nat.zero_le _⟩) hS (fun H locs hP hS => ?_)
        refine lv_aload_n hx hb d_X_balance_93 rfl (lv_at hl 0 rfl) ?_
        refine wr_get hx hb hts in_X hown hK hP (0) (by omega) rfl rfl 3 (by decide) (hts _ tw_119) rfl d_X_balance_94 ?_
        refine lv_iconst (v := 4) hx hb d_X_balance_97 (by decide) ?_
        refine wr_lald hx hb hK hP (3) 0 (by omega) rfl rfl 4 (by decide) (by omega) (by omega) d_X_balance_98 ?_
        refine lv_ladd hx hb d_X_balance_99 ?_
        refine lv_aload_n hx hb d_X_balance_100 rfl (lv_at hl 0 rfl) ?_
        refine wr_get hx hb hts in_X hown hK hP (0) (by omega) rfl rfl 3 (by decide) (hts _ tw_119) rfl d_X_balance_101 ?_
        refine lv_iconst (v := 5) hx hb d_X_balance_104 (by decide) ?_
        refine wr_lald hx hb hK hP (3) 0 (by omega) rfl rfl 5 (by decide) (by omega) (by omega) d_X_balance_105 ?_
        refine lv_lsub hx hb d_X_balance_106 ?_
        refine lv_aload_n hx hb d_X_balance_107 rfl (lv_at hl 0 rfl) ?_
        refine wr_get hx hb hts in_X hown hK hP (0) (by omega) rfl rfl 3 (by decide) (hts _ tw_119) rfl d_X_balance_108 ?_
        refine lv_bipush (v := 6) hx hb d_X_balance_111 (by decide) ?_
        refine wr_lald hx hb hK hP (3) 0 (by omega) rfl rfl 6 (by decide) (by omega) (by omega) d_X_balance_113 ?_
        refine lv_lsub hx hb d_X_balance_114 ?_
        exact W.lret hx hb hr (fun t ht hW => ⟨⟨_, (), rfl, by (try simp only [x_balance, if_neg (show ¬ (2 : Int32) = 0 by decide), if_neg (show ¬ (2 : Int32) = 1 by decide), if_pos (show (2 : Int32) = 2 by decide)]); first | done | rfl, by dsimp only; rw [ht]; (try simp only [x_balance, if_neg (show ¬ (2 : Int32) = 0 by decide), if_neg (show ¬ (2 : Int32) = 1 by decide), if_pos (show (2 : Int32) = 2 by decide)]); exact hP⟩, hS.F ht⟩) hS.2.2 d_X_balance_115
      · skip
        refine lv_tableOut (tgt := 116) hx hb d_X_balance_1 (tab_out3 c_1 c_2 c_3) (by decide) ?_
        refine lv_ldc2 (v := -1) hx hb hown (hts _ tw_289) d_X_balance_116 ?_
        exact W.lret hx hb hr (fun t ht hW => ⟨⟨_, (), rfl, by (try simp only [x_balance, if_neg c_1, if_neg c_2, if_neg c_3]); first | done | rfl, by dsimp only; rw [ht]; (try simp only [x_balance, if_neg c_1, if_neg c_2, if_neg c_3]); exact hP⟩, hS.F ht⟩) hS.2.2 d_X_balance_119
