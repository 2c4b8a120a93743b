set_option maxHeartbeats 4000000 in
set_option maxRecDepth 100000 in
theorem c_M_massOf (l : Launch) (g : wG) (ad : Nat → Nat) {L : Nat} (hL : 1 ≤ L ∧ L ≤ 6) (x : xS) (i : Nat) (hi : i < 6) : CtL l y_M_massOf ws_M_massOf ({ frames := 0, cells := 0, slots := 0, locals := 0 }) g 14 ad (mE g ad L x) (mE g ad L x) [.ref (ad 0), .int (nI i)] (x_mass x i) := by
  intro sz
  refine Met.ofW (cc := b_M_massOf) (maxL := 5) (ret := (some .long)) (by decide +kernel) rfl ?_
  intro p e s m args below meth c s₁ B hml hv
  obtain ⟨rfl, hsz, hP, hK, hN, hJ⟩ := hv
  have hx := B.exec
  have hb := B.bytes
  have hr := B.returns
  have hts0 := atoms_spec (ws := ws_M_massOf) B.pre
  have hts : ∀ w ∈ tb, w.before _ s = true := fun w h => hts0 w (List.mem_cons_of_mem _ h)
  have hown : s.vm.findClass "HeapStepsModel" = some m.cls := findClass_of_methodNamed B.named
  have hlocks := B.notSynchronized
  subst hsz
  have hS : va_S (wA 14 ad s.heap.size) s.heap s.heap [] := va_S.rf
  have hl := lv_entry ([.ref (ad 0), .int (nI i)]) (n := 5) (Nat.le_of_ble_eq_true rfl)
  rw [lg_entry_eq]
  generalize (lg_sl ([.ref (ad 0), .int (nI i)]) ++ List.replicate (5 - (lg_sl ([.ref (ad 0), .int (nI i)])).length) Slot.unset).toArray = ls at hl ⊢
  have hl : lv_has ls 5 [(0, .ref (ad 0)), (1, .int (nI i))] := hl
  refine lv_aload_n hx hb d_M_massOf_0 rfl (lv_at hl 0 rfl) ?_
  refine wr_get hx hb hts in_M hown hK hP (0) (by omega) rfl rfl 2 (by decide) (hts _ tw_343) rfl d_M_massOf_1 ?_
  refine lv_iload_n hx hb d_M_massOf_4 rfl (lv_at hl 1 rfl) ?_
  refine wr_laldv (v := xT x i 3) hx hb hK hP (2) 0 (by omega) rfl rfl i rfl (by omega) (by omega) rfl d_M_massOf_5 ?_
  refine lv_topl (fun v_1 ev_1 => ?_)
  refine lv_lstore_n (lv' := [(2, .long v_1), (0, .ref (ad 0)), (1, .int (nI i))]) hx hb d_M_massOf_6 rfl hl (by decide) rfl (fun ls hl => ?_)
  refine lv_iconst (v := 0) hx hb d_M_massOf_7 (by decide) ?_
  refine lv_istore (lv' := [(4, .int 0), (2, .long v_1), (0, .ref (ad 0)), (1, .int (nI i))]) hx hb d_M_massOf_8 hl (by decide) rfl (fun ls hl => ?_)
  refine lv_iload hx hb d_M_massOf_10 (lv_at hl 0 rfl) ?_
  refine lv_iconst (v := 3) hx hb d_M_massOf_12 (by decide) ?_
  refine lv_icmp_ge (tgt := 36) hx hb d_M_massOf_13 (by decide) (fun c_2 => absurd c_2 (by decide)) (fun c_2 => ?_)
  refine lv_lload_n hx hb d_M_massOf_16 rfl (lv_at hl 1 rfl) ?_
  refine lv_aload_n hx hb d_M_massOf_17 rfl (lv_at hl 2 rfl) ?_
  refine wr_get hx hb hts in_M hown hK hP (0) (by omega) rfl rfl 1 (by decide) (hts _ tw_342) rfl d_M_massOf_18 ?_
  refine lv_iconst (v := 3) hx hb d_M_massOf_21 (by decide) ?_
  refine lv_iload_n hx hb d_M_massOf_22 rfl (lv_at hl 3 rfl) ?_
  refine lv_imul hx hb d_M_massOf_23 ?_
  refine lv_iload hx hb d_M_massOf_24 (lv_at hl 0 rfl) ?_
  refine lv_iadd hx hb d_M_massOf_26 ?_
  refine wr_laldv (v := xT x i 0) hx hb hK hP (1) 0 (by omega) rfl rfl (3 * i + 0) (mI3 i 0) (by omega) (by omega) (mPA x i 0 (by omega)) d_M_massOf_27 ?_
  refine lv_ladd hx hb d_M_massOf_28 ?_
  refine lv_topl (fun v_3 ev_3 => ?_)
  refine lv_lstore_n (lv' := [(2, .long v_3), (4, .int 0), (0, .ref (ad 0)), (1, .int (nI i))]) hx hb d_M_massOf_29 rfl hl (by decide) rfl (fun ls hl => ?_)
  refine lv_iinc (v := 1) (lv' := [(4, .int 1), (2, .long v_3), (0, .ref (ad 0)), (1, .int (nI i))]) hx hb d_M_massOf_30 hl (k := 1) rfl (by decide) (by decide) rfl (fun ls hl => ?_)
  refine lv_goto (tgt := 10) hx hb d_M_massOf_33 (by decide) ?_
  refine lv_iload hx hb d_M_massOf_10 (lv_at hl 0 rfl) ?_
  refine lv_iconst (v := 3) hx hb d_M_massOf_12 (by decide) ?_
  refine lv_icmp_ge (tgt := 36) hx hb d_M_massOf_13 (by decide) (fun c_4 => absurd c_4 (by decide)) (fun c_4 => ?_)
  refine lv_lload_n hx hb d_M_massOf_16 rfl (lv_at hl 1 rfl) ?_
  refine lv_aload_n hx hb d_M_massOf_17 rfl (lv_at hl 2 rfl) ?_
  refine wr_get hx hb hts in_M hown hK hP (0) (by omega) rfl rfl 1 (by decide) (hts _ tw_342) rfl d_M_massOf_18 ?_
  refine lv_iconst (v := 3) hx hb d_M_massOf_21 (by decide) ?_
  refine lv_iload_n hx hb d_M_massOf_22 rfl (lv_at hl 3 rfl) ?_
  refine lv_imul hx hb d_M_massOf_23 ?_
  refine lv_iload hx hb d_M_massOf_24 (lv_at hl 0 rfl) ?_
  refine lv_iadd hx hb d_M_massOf_26 ?_
  refine wr_laldv (v := xT x i 1) hx hb hK hP (1) 0 (by omega) rfl rfl (3 * i + 1) (mI3 i 1) (by omega) (by omega) (mPA x i 1 (by omega)) d_M_massOf_27 ?_
  refine lv_ladd hx hb d_M_massOf_28 ?_
  refine lv_topl (fun v_5 ev_5 => ?_)
  refine lv_lstore_n (lv' := [(2, .long v_5), (4, .int 1), (0, .ref (ad 0)), (1, .int (nI i))]) hx hb d_M_massOf_29 rfl hl (by decide) rfl (fun ls hl => ?_)
  refine lv_iinc (v := 2) (lv' := [(4, .int 2), (2, .long v_5), (0, .ref (ad 0)), (1, .int (nI i))]) hx hb d_M_massOf_30 hl (k := 1) rfl (by decide) (by decide) rfl (fun ls hl => ?_)
  refine lv_goto (tgt := 10) hx hb d_M_massOf_33 (by decide) ?_
  refine lv_iload hx hb d_M_massOf_10 (lv_at hl 0 rfl) ?_
  refine lv_iconst (v := 3) hx hb d_M_massOf_12 (by decide) ?_
  refine lv_icmp_ge (tgt := 36) hx hb d_M_massOf_13 (by decide) (fun c_6 => absurd c_6 (by decide)) (fun c_6 => ?_)
  refine lv_lload_n hx hb d_M_massOf_16 rfl (lv_at hl 1 rfl) ?_
  refine lv_aload_n hx hb d_M_massOf_17 rfl (lv_at hl 2 rfl) ?_
  refine wr_get hx hb hts in_M hown hK hP (0) (by omega) rfl rfl 1 (by decide) (hts _ tw_342) rfl d_M_massOf_18 ?_
  refine lv_iconst (v := 3) hx hb d_M_massOf_21 (by decide) ?_
  refine lv_iload_n hx hb d_M_massOf_22 rfl (lv_at hl 3 rfl) ?_
  refine lv_imul hx hb d_M_massOf_23 ?_
  refine lv_iload hx hb d_M_massOf_24 (lv_at hl 0 rfl) ?_
  refine lv_iadd hx hb d_M_massOf_26 ?_
  refine wr_laldv (v := xT x i 2) hx hb hK hP (1) 0 (by omega) rfl rfl (3 * i + 2) (mI3 i 2) (by omega) (by omega) (mPA x i 2 (by omega)) d_M_massOf_27 ?_
  refine lv_ladd hx hb d_M_massOf_28 ?_
  refine lv_topl (fun v_7 ev_7 => ?_)
  refine lv_lstore_n (lv' := [(2, .long v_7), (4, .int 2), (0, .ref (ad 0)), (1, .int (nI i))]) hx hb d_M_massOf_29 rfl hl (by decide) rfl (fun ls hl => ?_)
  refine lv_iinc (v := 3) (lv' := [(4, .int 3), (2, .long v_7), (0, .ref (ad 0)), (1, .int (nI i))]) hx hb d_M_massOf_30 hl (k := 1) rfl (by decide) (by decide) rfl (fun ls hl => ?_)
  refine lv_goto (tgt := 10) hx hb d_M_massOf_33 (by decide) ?_
  refine lv_iload hx hb d_M_massOf_10 (lv_at hl 0 rfl) ?_
  refine lv_iconst (v := 3) hx hb d_M_massOf_12 (by decide) ?_
  refine lv_icmp_ge (tgt := 36) hx hb d_M_massOf_13 (by decide) (fun c_8 => ?_) (fun c_8 => absurd (by decide) c_8)
  refine lv_lload_n hx hb d_M_massOf_36 rfl (lv_at hl 1 rfl) ?_
  subst ev_1
  subst ev_3
  subst ev_5
  subst ev_7
  exact W.lret hx hb hr (fun t ht hW => ⟨⟨_, (), rfl, by (try simp only [x_mass, ite_self]); first | done | rfl | assumption | exact x_within_1 (by assumption), by dsimp only; rw [ht]; (try simp only [x_mass, ite_self]); exact hP⟩, hS.F ht⟩) hS.2.2 d_M_massOf_37
set_option maxHeartbeats 4000000 in
set_option maxRecDepth 100000 in
theorem c_M_warmthOf (l : Launch) (g : wG) (ad : Nat → Nat) {L : Nat} (hL : 1 ≤ L ∧ L ≤ 6) (x : xS) (i : Nat) (hi : i < 6) : CtL l y_M_warmthOf ws_M_warmthOf ({ frames := 1, cells := 0, slots := 0, locals := 24 }) g 14 ad (mE g ad L x) (mE g ad L x) [.ref (ad 0), .int (nI i)] (m_warm x i) := by
  intro sz
  refine Met.ofW (cc := b_M_warmthOf) (maxL := 2) (ret := (some .long)) (by decide +kernel) rfl ?_
  intro p e s m args below meth c s₁ B hml hv
  obtain ⟨rfl, hsz, hP, hK, hN, hJ⟩ := hv
  have hx := B.exec
  have hb := B.bytes
  have hr := B.returns
  have hts0 := atoms_spec (ws := ws_M_warmthOf) B.pre
  have hts : ∀ w ∈ tb, w.before _ s = true := fun w h => hts0 w (List.mem_cons_of_mem _ h)
  have hown : s.vm.findClass "HeapStepsModel" = some m.cls := findClass_of_methodNamed B.named
  have hlocks := B.notSynchronized
  subst hsz
  have hS : va_S (wA 14 ad s.heap.size) s.heap s.heap [] := va_S.rf
  have hl := lv_entry ([.ref (ad 0), .int (nI i)]) (n := 2) (Nat.le_of_ble_eq_true rfl)
  rw [lg_entry_eq]
  generalize (lg_sl ([.ref (ad 0), .int (nI i)]) ++ List.replicate (2 - (lg_sl ([.ref (ad 0), .int (nI i)])).length) Slot.unset).toArray = ls at hl ⊢
  have hl : lv_has ls 2 [(0, .ref (ad 0)), (1, .int (nI i))] := hl
  refine lv_aload_n hx hb d_M_warmthOf_0 rfl (lv_at hl 0 rfl) ?_
  refine lv_iload_n hx hb d_M_warmthOf_1 rfl (lv_at hl 1 rfl) ?_
  refine wc_l (va_runV (As := [.int (nI i)]) (rest := []) ⟨hx, hb, hml, hown, hts⟩ (c_M_massOf l g ad hL x i (by omega) _) (cwV 1 hts (gd_V tw_482 tw_484 tw_15 tw_28 tw_485) rfl rfl rfl (by decide +kernel) ⟨Nat.le_of_ble_eq_true rfl, Nat.le_of_ble_eq_true rfl⟩) (wp_V hK hN hP hJ (0) (by omega) rfl rfl) rfl rfl hl.1 rfl (lv_room (Nat.le_of_ble_eq_true rfl)) d_M_warmthOf_2 ⟨Nat.zero_le _, Nat.zero_le _⟩) hS (fun H locs hP hS => ?_)
  refine lv_lconst (v := 0) hx hb d_M_warmthOf_5 (by decide) ?_
  refine W.lcmp hx hb d_M_warmthOf_6 ?_
  refine lv_if_ne (tgt := 14) hx hb d_M_warmthOf_7 (by decide) (fun c_1 => ?_) (fun c_1 => ?_)
  · skip
    refine lv_aload_n hx hb d_M_warmthOf_14 rfl (lv_at hl 0 rfl) ?_
    refine wr_get hx hb hts in_M hown hK hP (0) (by omega) rfl rfl 3 (by decide) (hts _ tw_344) rfl d_M_warmthOf_15 ?_
    refine lv_iload_n hx hb d_M_warmthOf_18 rfl (lv_at hl 1 rfl) ?_
    refine wr_laldv (v := xT x i 4) hx hb hK hP (3) 0 (by omega) rfl rfl i rfl (by omega) (by omega) rfl d_M_warmthOf_19 ?_
    refine lv_aload_n hx hb d_M_warmthOf_20 rfl (lv_at hl 0 rfl) ?_
    refine lv_iload_n hx hb d_M_warmthOf_21 rfl (lv_at hl 1 rfl) ?_
    refine wc_l (va_runV (As := [.int (nI i)]) (rest := [.long (xT x i 4)]) ⟨hx, hb, hml, hown, hts⟩ (c_M_massOf l g ad hL x i (by omega) _) (cwV 1 hts (gd_V tw_482 tw_484 tw_15 tw_28 tw_485) rfl rfl rfl (by decide +kernel) ⟨Nat.le_of_ble_eq_true rfl, Nat.le_of_ble_eq_true rfl⟩) (wp_V hK hN hP hJ (0) (by omega) rfl rfl) rfl rfl hl.1 rfl (lv_room (Nat.le_of_ble_eq_true rfl)) d_M_warmthOf_22 ⟨Nat.zero_le _, Nat.zero_le _⟩) hS (fun H locs hP hS => ?_)
    refine lv_ldiv hx hb d_M_warmthOf_25 (fun q => c_1 ((lg_cmp_eq _ _).mpr q)) ?_
    exact W.lret hx hb hr (fun t ht hW => ⟨⟨_, (), rfl, by (try simp only [m_warm, if_neg c_1, ite_self]); first | done | rfl | assumption | exact x_within_1 (by assumption), by dsimp only; rw [ht]; (try simp only [m_warm, if_neg c_1, ite_self]); exact hP⟩, hS.F ht⟩) hS.2.2 d_M_warmthOf_26
  · skip
    refine lv_lconst (v := 0) hx hb d_M_warmthOf_10 (by decide) ?_
    refine lv_goto (tgt := 26) hx hb d_M_warmthOf_11 (by decide) ?_
    exact W.lret hx hb hr (fun t ht hW => ⟨⟨_, (), rfl, by (try simp only [m_warm, if_pos c_1, ite_self]); first | done | rfl | assumption | exact x_within_1 (by assumption), by dsimp only; rw [ht]; (try simp only [m_warm, if_pos c_1, ite_self]); exact hP⟩, hS.F ht⟩) hS.2.2 d_M_warmthOf_26
set_option maxHeartbeats 4000000 in
set_option maxRecDepth 100000 in
theorem c_M_warmest (l : Launch) (g : wG) (ad : Nat → Nat) {L : Nat} (hL : 1 ≤ L ∧ L ≤ 6) (x : xS) : CtL l y_M_warmest ws_M_warmest ({ frames := 2, cells := 0, slots := 0, locals := 45 }) g 14 ad (mE g ad L x) (mE g ad L x) [.ref (ad 0)] (m_wN x (L - 1)) := by
  intro sz
  refine Met.ofW (cc := b_M_warmest) (maxL := 4) (ret := (some .long)) (by decide +kernel) rfl ?_
  intro p e s m args below meth c s₁ B hml hv
  obtain ⟨rfl, hsz, hP, hK, hN, hJ⟩ := hv
  have hx := B.exec
  have hb := B.bytes
  have hr := B.returns
  have hts0 := atoms_spec (ws := ws_M_warmest) B.pre
  have hts : ∀ w ∈ tb, w.before _ s = true := fun w h => hts0 w (List.mem_cons_of_mem _ h)
  have hown : s.vm.findClass "HeapStepsModel" = some m.cls := findClass_of_methodNamed B.named
  have hlocks := B.notSynchronized
  subst hsz
  have hS : va_S (wA 14 ad s.heap.size) s.heap s.heap [] := va_S.rf
  have hl := lv_entry ([.ref (ad 0)]) (n := 4) (Nat.le_of_ble_eq_true rfl)
  rw [lg_entry_eq]
  generalize (lg_sl ([.ref (ad 0)]) ++ List.replicate (4 - (lg_sl ([.ref (ad 0)])).length) Slot.unset).toArray = ls at hl ⊢
  have hl : lv_has ls 4 [(0, .ref (ad 0))] := hl
  refine lv_aload_n hx hb d_M_warmest_0 rfl (lv_at hl 0 rfl) ?_
  refine lv_iconst (v := 0) hx hb d_M_warmest_1 (by decide) ?_
  refine wc_l (va_runV (As := [.int 0]) (rest := []) ⟨hx, hb, hml, hown, hts⟩ (c_M_warmthOf l g ad hL x 0 (by omega) _) (cwV 1 hts (gd_V tw_478 tw_480 tw_14 tw_28 tw_481) rfl rfl rfl (by decide +kernel) ⟨Nat.le_of_ble_eq_true rfl, Nat.le_of_ble_eq_true rfl⟩) (wp_V hK hN hP hJ (0) (by omega) rfl rfl) rfl rfl hl.1 rfl (lv_room (Nat.le_of_ble_eq_true rfl)) d_M_warmest_2 ⟨Nat.zero_le _, Nat.zero_le _⟩) hS (fun H locs hP hS => ?_)
  refine lv_lstore_n (lv' := [(1, .long (m_warm x 0)), (0, .ref (ad 0))]) hx hb d_M_warmest_5 rfl hl (by decide) rfl (fun ls hl => ?_)
  refine lv_iconst (v := 1) hx hb d_M_warmest_6 (by decide) ?_
  refine lv_istore_n (lv' := [(3, .int 1), (1, .long (m_warm x 0)), (0, .ref (ad 0))]) hx hb d_M_warmest_7 rfl hl (by decide) rfl (fun ls hl => ?_)
  refine wl_loop (pc := 8) (fun fu H locs ls => ∃ i : Nat, i + fu = L - 1 ∧ va_P g.1 vwCl (wo 14 ad (mE g ad L x)) H ∧ va_S (wA 14 ad s.heap.size) s.heap H locs ∧ lv_has ls 4 [(3, .int (nI (i + 1))), (1, .long (m_wN x i)), (0, .ref (ad 0))]) ?_ ?_ (L - 1) _ _ _ ⟨0, by omega, hP, hS, lv_sub hl [0, 1, 2] rfl⟩
  · intro H locs ls hI
    obtain ⟨i, hi, hP, hS, hl⟩ := hI
    have hT_i : i = L - 1 := by omega
    try rw [hT_i] at hP
    try rw [hT_i] at hl
    refine lv_iload_n hx hb d_M_warmest_8 rfl (lv_at hl 0 rfl) ?_
    refine lv_aload_n hx hb d_M_warmest_9 rfl (lv_at hl 2 rfl) ?_
    refine wr_get hx hb hts in_M hown hK hP (0) (by omega) rfl rfl 0 (by decide) (hts _ tw_341) rfl d_M_warmest_10 ?_
    refine lv_icmp_ge (tgt := 42) hx hb d_M_warmest_13 (by decide) (fun c_1 => ?_) (fun c_1 => absurd (nI_le (by omega) (by omega)) c_1)
    refine lv_lload_n hx hb d_M_warmest_42 rfl (lv_at hl 1 rfl) ?_
    exact W.lret hx hb hr (fun t ht hW => ⟨⟨_, (), rfl, by skip; first | done | rfl | assumption | exact x_within_1 (by assumption), by dsimp only; rw [ht]; skip; exact hP⟩, hS.F ht⟩) hS.2.2 d_M_warmest_43
  · intro fu ih_i H locs ls hI
    obtain ⟨i, hi, hP, hS, hl⟩ := hI
    have hi_i : i < L - 1 := by omega
    refine lv_iload_n hx hb d_M_warmest_8 rfl (lv_at hl 0 rfl) ?_
    refine lv_aload_n hx hb d_M_warmest_9 rfl (lv_at hl 2 rfl) ?_
    refine wr_get hx hb hts in_M hown hK hP (0) (by omega) rfl rfl 0 (by decide) (hts _ tw_341) rfl d_M_warmest_10 ?_
    refine lv_icmp_ge (tgt := 42) hx hb d_M_warmest_13 (by decide) (fun c_2 => absurd c_2 (nI_ge (by omega) (by omega))) (fun c_2 => ?_)
    refine lv_aload_n hx hb d_M_warmest_16 rfl (lv_at hl 2 rfl) ?_
    refine lv_iload_n hx hb d_M_warmest_17 rfl (lv_at hl 0 rfl) ?_
    refine wc_l (va_runV (As := [.int (nI (i + 1))]) (rest := []) ⟨hx, hb, hml, hown, hts⟩ (c_M_warmthOf l g ad hL x (i + 1) (by omega) _) (cwV 1 hts (gd_V tw_478 tw_480 tw_14 tw_28 tw_481) rfl rfl rfl (by decide +kernel) ⟨Nat.le_of_ble_eq_true rfl, Nat.le_of_ble_eq_true rfl⟩) (wp_V hK hN hP hJ (0) (by omega) rfl rfl) rfl rfl hl.1 rfl (lv_room (Nat.le_of_ble_eq_true rfl)) d_M_warmest_18 ⟨Nat.zero_le _, Nat.zero_le _⟩) hS (fun H locs hP hS => ?_)
    refine lv_lload_n hx hb d_M_warmest_21 rfl (lv_at hl 1 rfl) ?_
    refine W.lcmp hx hb d_M_warmest_22 ?_
    refine lv_if_le (tgt := 34) hx hb d_M_warmest_23 (by decide) (fun c_3 => ?_) (fun c_3 => ?_)
    · skip
      refine lv_lload_n hx hb d_M_warmest_34 rfl (lv_at hl 1 rfl) ?_
      refine lv_topl (fun v_4 ev_4 => ?_)
      refine lv_lstore_n (lv' := [(1, .long v_4), (3, .int (nI (i + 1))), (0, .ref (ad 0))]) hx hb d_M_warmest_35 rfl hl (by decide) rfl (fun ls hl => ?_)
      refine lv_iinc (v := nI (i + 1 + 1)) (lv' := [(3, .int (nI (i + 1 + 1))), (1, .long v_4), (0, .ref (ad 0))]) hx hb d_M_warmest_36 hl (k := 1) rfl (nI_1 (i + 1)) (by decide) rfl (fun ls hl => ?_)
      refine lv_goto (tgt := 8) hx hb d_M_warmest_39 (by decide) ?_
      subst ev_4
      exact ih_i _ _ _ ⟨i + 1, by omega, (by (try simp only [m_wN, if_pos c_3]); exact hP), hS, lv_sub hl [0, 1, 2] (by (try simp only [m_wN, if_pos c_3]); rfl)⟩
    · skip
      refine lv_aload_n hx hb d_M_warmest_26 rfl (lv_at hl 2 rfl) ?_
      refine lv_iload_n hx hb d_M_warmest_27 rfl (lv_at hl 0 rfl) ?_
      refine wc_l (va_runV (As := [.int (nI (i + 1))]) (rest := []) ⟨hx, hb, hml, hown, hts⟩ (c_M_warmthOf l g ad hL x (i + 1) (by omega) _) (cwV 1 hts (gd_V tw_478 tw_480 tw_14 tw_28 tw_481) rfl rfl rfl (by decide +kernel) ⟨Nat.le_of_ble_eq_true rfl, Nat.le_of_ble_eq_true rfl⟩) (wp_V hK hN hP hJ (0) (by omega) rfl rfl) rfl rfl hl.1 rfl (lv_room (Nat.le_of_ble_eq_true rfl)) d_M_warmest_28 ⟨Nat.zero_le _, Nat.zero_le _⟩) hS (fun H locs hP hS => ?_)
      refine lv_goto (tgt := 35) hx hb d_M_warmest_31 (by decide) ?_
      refine lv_topl (fun v_5 ev_5 => ?_)
      refine lv_lstore_n (lv' := [(1, .long v_5), (3, .int (nI (i + 1))), (0, .ref (ad 0))]) hx hb d_M_warmest_35 rfl hl (by decide) rfl (fun ls hl => ?_)
      refine lv_iinc (v := nI (i + 1 + 1)) (lv' := [(3, .int (nI (i + 1 + 1))), (1, .long v_5), (0, .ref (ad 0))]) hx hb d_M_warmest_36 hl (k := 1) rfl (nI_1 (i + 1)) (by decide) rfl (fun ls hl => ?_)
      refine lv_goto (tgt := 8) hx hb d_M_warmest_39 (by decide) ?_
      subst ev_5
      exact ih_i _ _ _ ⟨i + 1, by omega, (by (try simp only [m_wN, if_neg c_3]); exact hP), hS, lv_sub hl [0, 1, 2] (by (try simp only [m_wN, if_neg c_3]); rfl)⟩
set_option maxHeartbeats 4000000 in
set_option maxRecDepth 100000 in
theorem c_M_setFan (l : Launch) (g : wG) (ad : Nat → Nat) {L : Nat} (hL : 1 ≤ L ∧ L ≤ 6) (x : xS) : CtV l y_M_setFan ws_M_setFan ({ frames := 3, cells := 0, slots := 0, locals := 68 }) g 14 ad (mE g ad L x) (mE g ad L (m_setFan L x)) [.ref (ad 0)] := by
  intro sz
  refine Met.ofW (cc := b_M_setFan) (maxL := 7) (ret := none) (by decide +kernel) rfl ?_
  intro p e s m args below meth c s₁ B hml hv
  obtain ⟨rfl, hsz, hP, hK, hN, hJ⟩ := hv
  have hx := B.exec
  have hb := B.bytes
  have hr := B.returns
  have hts0 := atoms_spec (ws := ws_M_setFan) B.pre
  have hts : ∀ w ∈ tb, w.before _ s = true := fun w h => hts0 w (List.mem_cons_of_mem _ h)
  have hown : s.vm.findClass "HeapStepsModel" = some m.cls := findClass_of_methodNamed B.named
  have hlocks := B.notSynchronized
  subst hsz
  have hS : va_S (wA 14 ad s.heap.size) s.heap s.heap [] := va_S.rf
  have hl := lv_entry ([.ref (ad 0)]) (n := 7) (Nat.le_of_ble_eq_true rfl)
  rw [lg_entry_eq]
  generalize (lg_sl ([.ref (ad 0)]) ++ List.replicate (7 - (lg_sl ([.ref (ad 0)])).length) Slot.unset).toArray = ls at hl ⊢
  have hl : lv_has ls 7 [(0, .ref (ad 0))] := hl
  refine lv_aload_n hx hb d_M_setFan_0 rfl (lv_at hl 0 rfl) ?_
  refine wr_get hx hb hts in_M hown hK hP (0) (by omega) rfl rfl 13 (by decide) (hts _ tw_354) rfl d_M_setFan_1 ?_
  refine lv_if_ne (tgt := 8) hx hb d_M_setFan_4 (by decide) (fun c_1 => ?_) (fun c_1 => ?_)
  · skip
    refine lv_aload_n hx hb d_M_setFan_8 rfl (lv_at hl 0 rfl) ?_
    refine wc_l (va_runV (As := []) (rest := []) ⟨hx, hb, hml, hown, hts⟩ (c_M_warmest l g ad hL x _) (cwV 0 hts (gd_V tw_474 tw_476 tw_13 tw_28 tw_477) rfl rfl rfl (by decide +kernel) ⟨Nat.le_of_ble_eq_true rfl, Nat.le_of_ble_eq_true rfl⟩) (wp_V hK hN hP hJ (0) (by omega) rfl rfl) rfl rfl hl.1 rfl (lv_room (Nat.le_of_ble_eq_true rfl)) d_M_setFan_9 ⟨Nat.zero_le _, Nat.zero_le _⟩) hS (fun H locs hP hS => ?_)
    refine lv_aload_n hx hb d_M_setFan_12 rfl (lv_at hl 0 rfl) ?_
    refine wr_get hx hb hts in_M hown hK hP (0) (by omega) rfl rfl 14 (by decide) (hts _ tw_355) rfl d_M_setFan_13 ?_
    refine lv_i2l hx hb d_M_setFan_16 rfl ?_
    refine lv_lsub hx hb d_M_setFan_17 ?_
    refine lv_topl (fun v_2 ev_2 => ?_)
    refine lv_lstore_n (lv' := [(1, .long v_2), (0, .ref (ad 0))]) hx hb d_M_setFan_18 rfl hl (by decide) rfl (fun ls hl => ?_)
    refine lv_aload_n hx hb d_M_setFan_19 rfl (lv_at hl 1 rfl) ?_
    refine lv_aload_n hx hb d_M_setFan_20 rfl (lv_at hl 1 rfl) ?_
    refine wr_get hx hb hts in_M hown hK hP (0) (by omega) rfl rfl 17 (by decide) (hts _ tw_358) rfl d_M_setFan_21 ?_
    refine lv_lload_n hx hb d_M_setFan_24 rfl (lv_at hl 0 rfl) ?_
    refine lv_ladd hx hb d_M_setFan_25 ?_
    refine lv_ldc2 (v := -1000000000) hx hb hown (hts _ tw_510) d_M_setFan_26 ?_
    refine lv_ldc2 (v := 1000000000) hx hb hown (hts _ tw_340) d_M_setFan_29 ?_
    refine wc_l (va_runS (As := [.long ((xF x) + v_2), .long (-1000000000), .long 1000000000]) (rest := [.ref (ad 0)]) ⟨hx, hb, hml, hown, hts⟩ (c_M_cut l g _ ad _ ((xF x) + v_2) (-1000000000) 1000000000 _) (cwS 3 hts (gd_S tw_511 tw_512 tw_28 tw_513) rfl rfl rfl (by decide +kernel) ⟨Nat.le_of_ble_eq_true rfl, Nat.le_of_ble_eq_true rfl⟩) (wp_S hK hN hP hJ) rfl rfl hl.1 rfl (lv_room (Nat.le_of_ble_eq_true rfl)) d_M_setFan_32 ⟨Nat.zero_le _, Nat.zero_le _⟩) hS (fun H locs hP hS => ?_)
    obtain ⟨x_3, ex_3⟩ : ∃ z9, z9 = xF' x (m_cut ((xF x) + v_2) (-1000000000) 1000000000) := ⟨_, rfl⟩
    refine wr_put (E' := mE g ad L x_3) hx hb hts in_M ty_M ty_M_ok n_M hown hK hP hJ hS (0) (by omega) rfl rfl 17 (by decide) (hts _ tw_358) rfl rfl rfl (Nat.le_of_ble_eq_true rfl) (by rw [ex_3]; exact mU_sum g ad L x (m_cut ((xF x) + v_2) (-1000000000) 1000000000)) d_M_setFan_35 (fun H locs hP hS => ?_)
    refine lv_aload_n hx hb d_M_setFan_38 rfl (lv_at hl 1 rfl) ?_
    refine wr_get hx hb hts in_M hown hK hP (0) (by omega) rfl rfl 15 (by decide) (hts _ tw_356) rfl d_M_setFan_39 ?_
    refine lv_i2l hx hb d_M_setFan_42 rfl ?_
    refine lv_lload_n hx hb d_M_setFan_43 rfl (lv_at hl 0 rfl) ?_
    refine lv_lmul hx hb d_M_setFan_44 ?_
    refine lv_aload_n hx hb d_M_setFan_45 rfl (lv_at hl 1 rfl) ?_
    refine wr_get hx hb hts in_M hown hK hP (0) (by omega) rfl rfl 16 (by decide) (hts _ tw_357) rfl d_M_setFan_46 ?_
    refine lv_i2l hx hb d_M_setFan_49 rfl ?_
    refine lv_aload_n hx hb d_M_setFan_50 rfl (lv_at hl 1 rfl) ?_
    refine wr_get hx hb hts in_M hown hK hP (0) (by omega) rfl rfl 17 (by decide) (hts _ tw_358) rfl d_M_setFan_51 ?_
    refine lv_lmul hx hb d_M_setFan_54 ?_
    refine lv_ladd hx hb d_M_setFan_55 ?_
    refine lv_topl (fun v_4 ev_4 => ?_)
    refine lv_lstore_n (lv' := [(3, .long v_4), (1, .long v_2), (0, .ref (ad 0))]) hx hb d_M_setFan_56 rfl hl (by decide) rfl (fun ls hl => ?_)
    refine lv_lload_n hx hb d_M_setFan_57 rfl (lv_at hl 0 rfl) ?_
    refine lv_ldc2 (v := 1000) hx hb hown (hts _ tw_447) d_M_setFan_58 ?_
    refine lv_ldiv hx hb d_M_setFan_61 (by decide) ?_
    refine lv_lload_n hx hb d_M_setFan_62 rfl (lv_at hl 0 rfl) ?_
    refine lv_ldc2 (v := 1000) hx hb hown (hts _ tw_447) d_M_setFan_63 ?_
    refine lv_lrem hx hb d_M_setFan_66 (by decide) ?_
    refine lv_lconst (v := 0) hx hb d_M_setFan_67 (by decide) ?_
    refine W.lcmp hx hb d_M_setFan_68 ?_
    refine lv_if_ge (tgt := 76) hx hb d_M_setFan_69 (by decide) (fun c_5 => ?_) (fun c_5 => ?_)
    · skip
      refine lv_lconst (v := 0) hx hb d_M_setFan_76 (by decide) ?_
      refine lv_lsub hx hb d_M_setFan_77 ?_
      refine lv_topl (fun v_6 ev_6 => ?_)
      refine lv_lstore (lv' := [(5, .long v_6), (3, .long v_4), (1, .long v_2), (0, .ref (ad 0))]) hx hb d_M_setFan_78 hl (by decide) rfl (fun ls hl => ?_)
      refine lv_aload_n hx hb d_M_setFan_80 rfl (lv_at hl 3 rfl) ?_
      refine lv_lload hx hb d_M_setFan_81 (lv_at hl 0 rfl) ?_
      refine lv_lconst (v := 0) hx hb d_M_setFan_83 (by decide) ?_
      refine lv_ldc2 (v := 1000) hx hb hown (hts _ tw_447) d_M_setFan_84 ?_
      refine wc_l (va_runS (As := [.long v_6, .long 0, .long 1000]) (rest := [.ref (ad 0)]) ⟨hx, hb, hml, hown, hts⟩ (c_M_cut l g _ ad _ v_6 0 1000 _) (cwS 3 hts (gd_S tw_511 tw_512 tw_28 tw_513) rfl rfl rfl (by decide +kernel) ⟨Nat.le_of_ble_eq_true rfl, Nat.le_of_ble_eq_true rfl⟩) (wp_S hK hN hP hJ) rfl rfl hl.1 rfl (lv_room (Nat.le_of_ble_eq_true rfl)) d_M_setFan_87 ⟨Nat.zero_le _, Nat.zero_le _⟩) hS (fun H locs hP hS => ?_)
      refine lv_l2i hx hb d_M_setFan_90 rfl ?_
      obtain ⟨x_7, ex_7⟩ : ∃ z9, z9 = xI' x_3 8 (Int64.toInt32 (m_cut v_6 0 1000)) := ⟨_, rfl⟩
      refine wr_put (E' := mE g ad L x_7) hx hb hts in_M ty_M ty_M_ok n_M hown hK hP hJ hS (0) (by omega) rfl rfl 18 (by decide) (hts _ tw_359) rfl rfl rfl (Nat.le_of_ble_eq_true rfl) (by rw [ex_7]; exact mU_air g ad L x_3 (Int64.toInt32 (m_cut v_6 0 1000))) d_M_setFan_91 (fun H locs hP hS => ?_)
      subst ev_2
      subst ex_3
      subst ev_4
      subst ev_6
      subst ex_7
      exact W.vret hx hb hr (fun t ht hW => ⟨⟨(), rfl, trivial, by dsimp only; rw [ht]; (try simp only [m_setFan, if_neg c_1, if_pos c_5, ite_self]); exact hP⟩, hS.F ht⟩) hS.2.2 d_M_setFan_94
    · skip
      refine lv_lconst (v := 1) hx hb d_M_setFan_72 (by decide) ?_
      refine lv_goto (tgt := 77) hx hb d_M_setFan_73 (by decide) ?_
      refine lv_lsub hx hb d_M_setFan_77 ?_
      refine lv_topl (fun v_8 ev_8 => ?_)
      refine lv_lstore (lv' := [(5, .long v_8), (3, .long v_4), (1, .long v_2), (0, .ref (ad 0))]) hx hb d_M_setFan_78 hl (by decide) rfl (fun ls hl => ?_)
      refine lv_aload_n hx hb d_M_setFan_80 rfl (lv_at hl 3 rfl) ?_
      refine lv_lload hx hb d_M_setFan_81 (lv_at hl 0 rfl) ?_
      refine lv_lconst (v := 0) hx hb d_M_setFan_83 (by decide) ?_
      refine lv_ldc2 (v := 1000) hx hb hown (hts _ tw_447) d_M_setFan_84 ?_
      refine wc_l (va_runS (As := [.long v_8, .long 0, .long 1000]) (rest := [.ref (ad 0)]) ⟨hx, hb, hml, hown, hts⟩ (c_M_cut l g _ ad _ v_8 0 1000 _) (cwS 3 hts (gd_S tw_511 tw_512 tw_28 tw_513) rfl rfl rfl (by decide +kernel) ⟨Nat.le_of_ble_eq_true rfl, Nat.le_of_ble_eq_true rfl⟩) (wp_S hK hN hP hJ) rfl rfl hl.1 rfl (lv_room (Nat.le_of_ble_eq_true rfl)) d_M_setFan_87 ⟨Nat.zero_le _, Nat.zero_le _⟩) hS (fun H locs hP hS => ?_)
      refine lv_l2i hx hb d_M_setFan_90 rfl ?_
      obtain ⟨x_9, ex_9⟩ : ∃ z9, z9 = xI' x_3 8 (Int64.toInt32 (m_cut v_8 0 1000)) := ⟨_, rfl⟩
      refine wr_put (E' := mE g ad L x_9) hx hb hts in_M ty_M ty_M_ok n_M hown hK hP hJ hS (0) (by omega) rfl rfl 18 (by decide) (hts _ tw_359) rfl rfl rfl (Nat.le_of_ble_eq_true rfl) (by rw [ex_9]; exact mU_air g ad L x_3 (Int64.toInt32 (m_cut v_8 0 1000))) d_M_setFan_91 (fun H locs hP hS => ?_)
      subst ev_2
      subst ex_3
      subst ev_4
      subst ev_8
      subst ex_9
      exact W.vret hx hb hr (fun t ht hW => ⟨⟨(), rfl, trivial, by dsimp only; rw [ht]; (try simp only [m_setFan, if_neg c_1, if_neg c_5, ite_self]); exact hP⟩, hS.F ht⟩) hS.2.2 d_M_setFan_94
  · skip
    exact W.vret hx hb hr (fun t ht hW => ⟨⟨(), rfl, trivial, by dsimp only; rw [ht]; (try simp only [m_setFan, if_pos c_1, ite_self]); exact hP⟩, hS.F ht⟩) hS.2.2 d_M_setFan_7
set_option maxHeartbeats 4000000 in
set_option maxRecDepth 100000 in
theorem c_M_loses (l : Launch) (g : wG) (ad : Nat → Nat) {L : Nat} (hL : 1 ≤ L ∧ L ≤ 6) (x : xS) (i : Nat) (hi : i < 6) : CtV l y_M_loses ws_M_loses ({ frames := 1, cells := 0, slots := 0, locals := 23 }) g 14 ad (mE g ad L x) (mE g ad L (m_loses x i)) [.ref (ad 0), .int (nI i)] := by
  intro sz
  refine Met.ofW (cc := b_M_loses) (maxL := 8) (ret := none) (by decide +kernel) rfl ?_
  intro p e s m args below meth c s₁ B hml hv
  obtain ⟨rfl, hsz, hP, hK, hN, hJ⟩ := hv
  have hx := B.exec
  have hb := B.bytes
  have hr := B.returns
  have hts0 := atoms_spec (ws := ws_M_loses) B.pre
  have hts : ∀ w ∈ tb, w.before _ s = true := fun w h => hts0 w (List.mem_cons_of_mem _ h)
  have hown : s.vm.findClass "HeapStepsModel" = some m.cls := findClass_of_methodNamed B.named
  have hlocks := B.notSynchronized
  subst hsz
  have hS : va_S (wA 14 ad s.heap.size) s.heap s.heap [] := va_S.rf
  have hl := lv_entry ([.ref (ad 0), .int (nI i)]) (n := 8) (Nat.le_of_ble_eq_true rfl)
  rw [lg_entry_eq]
  generalize (lg_sl ([.ref (ad 0), .int (nI i)]) ++ List.replicate (8 - (lg_sl ([.ref (ad 0), .int (nI i)])).length) Slot.unset).toArray = ls at hl ⊢
  have hl : lv_has ls 8 [(0, .ref (ad 0)), (1, .int (nI i))] := hl
  refine lv_aload_n hx hb d_M_loses_0 rfl (lv_at hl 0 rfl) ?_
  refine wr_get hx hb hts in_M hown hK hP (0) (by omega) rfl rfl 3 (by decide) (hts _ tw_344) rfl d_M_loses_1 ?_
  refine lv_iload_n hx hb d_M_loses_4 rfl (lv_at hl 1 rfl) ?_
  refine wr_laldv (v := xT x i 4) hx hb hK hP (3) 0 (by omega) rfl rfl i rfl (by omega) (by omega) rfl d_M_loses_5 ?_
  refine lv_aload_n hx hb d_M_loses_6 rfl (lv_at hl 0 rfl) ?_
  refine wr_get hx hb hts in_M hown hK hP (0) (by omega) rfl rfl 12 (by decide) (hts _ tw_353) rfl d_M_loses_7 ?_
  refine lv_i2l hx hb d_M_loses_10 rfl ?_
  refine wc_l (va_runS (As := [.long (xT x i 4), .long (Int32.toInt64 (xI x 1))]) (rest := []) ⟨hx, hb, hml, hown, hts⟩ (c_M_partOf l g _ ad _ (xT x i 4) (Int32.toInt64 (xI x 1)) _) (cwS 2 hts (gd_S tw_498 tw_499 tw_28 tw_500) rfl rfl rfl (by decide +kernel) ⟨Nat.le_of_ble_eq_true rfl, Nat.le_of_ble_eq_true rfl⟩) (wp_S hK hN hP hJ) rfl rfl hl.1 rfl (lv_room (Nat.le_of_ble_eq_true rfl)) d_M_loses_11 ⟨Nat.zero_le _, Nat.zero_le _⟩) hS (fun H locs hP hS => ?_)
  refine lv_topl (fun v_1 ev_1 => ?_)
  refine lv_lstore_n (lv' := [(2, .long v_1), (0, .ref (ad 0)), (1, .int (nI i))]) hx hb d_M_loses_14 rfl hl (by decide) rfl (fun ls hl => ?_)
  refine lv_aload_n hx hb d_M_loses_15 rfl (lv_at hl 1 rfl) ?_
  refine wr_get hx hb hts in_M hown hK hP (0) (by omega) rfl rfl 3 (by decide) (hts _ tw_344) rfl d_M_loses_16 ?_
  refine lv_iload_n hx hb d_M_loses_19 rfl (lv_at hl 2 rfl) ?_
  refine lv_dup2_11 hx hb d_M_loses_20 rfl rfl ?_
  refine wr_laldv (v := xT x i 4) hx hb hK hP (3) 0 (by omega) rfl rfl i rfl (by omega) (by omega) rfl d_M_loses_21 ?_
  refine lv_lload_n hx hb d_M_loses_22 rfl (lv_at hl 0 rfl) ?_
  refine lv_lsub hx hb d_M_loses_23 ?_
  obtain ⟨x_2, ex_2⟩ : ∃ z9, z9 = xT' x i 4 ((xT x i 4) - v_1) := ⟨_, rfl⟩
  refine wr_last (E' := mE g ad L x_2) hx hb hK hP hJ hS (3) 0 (by omega) rfl rfl i rfl (by omega) (by omega) (by rw [ex_2]; exact mU_HE g ad L x i ((xT x i 4) - v_1)) d_M_loses_24 (fun H locs hP hS => ?_)
  refine lv_aload_n hx hb d_M_loses_25 rfl (lv_at hl 1 rfl) ?_
  refine wr_get hx hb hts in_M hown hK hP (0) (by omega) rfl rfl 21 (by decide) (hts _ tw_362) rfl d_M_loses_26 ?_
  refine lv_iconst (v := 5) hx hb d_M_loses_29 (by decide) ?_
  refine lv_dup2_11 hx hb d_M_loses_30 rfl rfl ?_
  refine wr_laldv (v := xO x_2 0 5) hx hb hK hP (11) 0 (by omega) rfl rfl 5 (by decide) (by omega) (by omega) rfl d_M_loses_31 ?_
  refine lv_lload_n hx hb d_M_loses_32 rfl (lv_at hl 0 rfl) ?_
  refine lv_ladd hx hb d_M_loses_33 ?_
  obtain ⟨x_3, ex_3⟩ : ∃ z9, z9 = xO' x_2 0 5 ((xO x_2 0 5) + v_1) := ⟨_, rfl⟩
  refine wr_last (E' := mE g ad L x_3) hx hb hK hP hJ hS (11) 0 (by omega) rfl rfl 5 (by decide) (by omega) (by omega) (by rw [ex_3]; exact mU_GO g ad L x_2 5 ((xO x_2 0 5) + v_1)) d_M_loses_34 (fun H locs hP hS => ?_)
  refine lv_aload_n hx hb d_M_loses_35 rfl (lv_at hl 1 rfl) ?_
  refine wr_get hx hb hts in_M hown hK hP (0) (by omega) rfl rfl 2 (by decide) (hts _ tw_343) rfl d_M_loses_36 ?_
  refine lv_iload_n hx hb d_M_loses_39 rfl (lv_at hl 2 rfl) ?_
  refine wr_laldv (v := xT x_3 i 3) hx hb hK hP (2) 0 (by omega) rfl rfl i rfl (by omega) (by omega) rfl d_M_loses_40 ?_
  refine lv_aload_n hx hb d_M_loses_41 rfl (lv_at hl 1 rfl) ?_
  refine wr_get hx hb hts in_M hown hK hP (0) (by omega) rfl rfl 18 (by decide) (hts _ tw_359) rfl d_M_loses_42 ?_
  refine lv_i2l hx hb d_M_loses_45 rfl ?_
  refine wc_l (va_runS (As := [.long (xT x_3 i 3), .long (Int32.toInt64 (xI x_3 8))]) (rest := []) ⟨hx, hb, hml, hown, hts⟩ (c_M_partOf l g _ ad _ (xT x_3 i 3) (Int32.toInt64 (xI x_3 8)) _) (cwS 2 hts (gd_S tw_498 tw_499 tw_28 tw_500) rfl rfl rfl (by decide +kernel) ⟨Nat.le_of_ble_eq_true rfl, Nat.le_of_ble_eq_true rfl⟩) (wp_S hK hN hP hJ) rfl rfl hl.1 rfl (lv_room (Nat.le_of_ble_eq_true rfl)) d_M_loses_46 ⟨Nat.zero_le _, Nat.zero_le _⟩) hS (fun H locs hP hS => ?_)
  refine lv_topl (fun v_4 ev_4 => ?_)
  refine lv_lstore (lv' := [(4, .long v_4), (2, .long v_1), (0, .ref (ad 0)), (1, .int (nI i))]) hx hb d_M_loses_49 hl (by decide) rfl (fun ls hl => ?_)
  refine lv_aload_n hx hb d_M_loses_51 rfl (lv_at hl 2 rfl) ?_
  refine wr_get hx hb hts in_M hown hK hP (0) (by omega) rfl rfl 2 (by decide) (hts _ tw_343) rfl d_M_loses_52 ?_
  refine lv_iload_n hx hb d_M_loses_55 rfl (lv_at hl 3 rfl) ?_
  refine lv_dup2_11 hx hb d_M_loses_56 rfl rfl ?_
  refine wr_laldv (v := xT x_3 i 3) hx hb hK hP (2) 0 (by omega) rfl rfl i rfl (by omega) (by omega) rfl d_M_loses_57 ?_
  refine lv_lload hx hb d_M_loses_58 (lv_at hl 0 rfl) ?_
  refine lv_lsub hx hb d_M_loses_60 ?_
  obtain ⟨x_5, ex_5⟩ : ∃ z9, z9 = xT' x_3 i 3 ((xT x_3 i 3) - v_4) := ⟨_, rfl⟩
  refine wr_last (E' := mE g ad L x_5) hx hb hK hP hJ hS (2) 0 (by omega) rfl rfl i rfl (by omega) (by omega) (by rw [ex_5]; exact mU_WA g ad L x_3 i ((xT x_3 i 3) - v_4)) d_M_loses_61 (fun H locs hP hS => ?_)
  refine lv_aload_n hx hb d_M_loses_62 rfl (lv_at hl 2 rfl) ?_
  refine wr_get hx hb hts in_M hown hK hP (0) (by omega) rfl rfl 21 (by decide) (hts _ tw_362) rfl d_M_loses_63 ?_
  refine lv_iconst (v := 1) hx hb d_M_loses_66 (by decide) ?_
  refine lv_dup2_11 hx hb d_M_loses_67 rfl rfl ?_
  refine wr_laldv (v := xO x_5 0 1) hx hb hK hP (11) 0 (by omega) rfl rfl 1 (by decide) (by omega) (by omega) rfl d_M_loses_68 ?_
  refine lv_lload hx hb d_M_loses_69 (lv_at hl 0 rfl) ?_
  refine lv_ladd hx hb d_M_loses_71 ?_
  obtain ⟨x_6, ex_6⟩ : ∃ z9, z9 = xO' x_5 0 1 ((xO x_5 0 1) + v_4) := ⟨_, rfl⟩
  refine wr_last (E' := mE g ad L x_6) hx hb hK hP hJ hS (11) 0 (by omega) rfl rfl 1 (by decide) (by omega) (by omega) (by rw [ex_6]; exact mU_GO g ad L x_5 1 ((xO x_5 0 1) + v_4)) d_M_loses_72 (fun H locs hP hS => ?_)
  refine lv_ldc2 (v := 600) hx hb hown (hts _ tw_505) d_M_loses_73 ?_
  refine lv_lload hx hb d_M_loses_76 (lv_at hl 0 rfl) ?_
  refine lv_lmul hx hb d_M_loses_78 ?_
  refine lv_aload_n hx hb d_M_loses_79 rfl (lv_at hl 2 rfl) ?_
  refine wr_get hx hb hts in_M hown hK hP (0) (by omega) rfl rfl 3 (by decide) (hts _ tw_344) rfl d_M_loses_80 ?_
  refine lv_iload_n hx hb d_M_loses_83 rfl (lv_at hl 3 rfl) ?_
  refine wr_laldv (v := xT x_6 i 4) hx hb hK hP (3) 0 (by omega) rfl rfl i rfl (by omega) (by omega) rfl d_M_loses_84 ?_
  refine W.lcmp hx hb d_M_loses_85 ?_
  refine lv_if_ge (tgt := 98) hx hb d_M_loses_86 (by decide) (fun c_7 => ?_) (fun c_7 => ?_)
  · skip
    refine lv_aload_n hx hb d_M_loses_98 rfl (lv_at hl 2 rfl) ?_
    refine wr_get hx hb hts in_M hown hK hP (0) (by omega) rfl rfl 3 (by decide) (hts _ tw_344) rfl d_M_loses_99 ?_
    refine lv_iload_n hx hb d_M_loses_102 rfl (lv_at hl 3 rfl) ?_
    refine wr_laldv (v := xT x_6 i 4) hx hb hK hP (3) 0 (by omega) rfl rfl i rfl (by omega) (by omega) rfl d_M_loses_103 ?_
    refine lv_topl (fun v_8 ev_8 => ?_)
    refine lv_lstore (lv' := [(6, .long v_8), (4, .long v_4), (2, .long v_1), (0, .ref (ad 0)), (1, .int (nI i))]) hx hb d_M_loses_104 hl (by decide) rfl (fun ls hl => ?_)
    refine lv_aload_n hx hb d_M_loses_106 rfl (lv_at hl 3 rfl) ?_
    refine wr_get hx hb hts in_M hown hK hP (0) (by omega) rfl rfl 3 (by decide) (hts _ tw_344) rfl d_M_loses_107 ?_
    refine lv_iload_n hx hb d_M_loses_110 rfl (lv_at hl 4 rfl) ?_
    refine lv_dup2_11 hx hb d_M_loses_111 rfl rfl ?_
    refine wr_laldv (v := xT x_6 i 4) hx hb hK hP (3) 0 (by omega) rfl rfl i rfl (by omega) (by omega) rfl d_M_loses_112 ?_
    refine lv_lload hx hb d_M_loses_113 (lv_at hl 0 rfl) ?_
    refine lv_lsub hx hb d_M_loses_115 ?_
    obtain ⟨x_9, ex_9⟩ : ∃ z9, z9 = xT' x_6 i 4 ((xT x_6 i 4) - v_8) := ⟨_, rfl⟩
    refine wr_last (E' := mE g ad L x_9) hx hb hK hP hJ hS (3) 0 (by omega) rfl rfl i rfl (by omega) (by omega) (by rw [ex_9]; exact mU_HE g ad L x_6 i ((xT x_6 i 4) - v_8)) d_M_loses_116 (fun H locs hP hS => ?_)
    refine lv_aload_n hx hb d_M_loses_117 rfl (lv_at hl 3 rfl) ?_
    refine wr_get hx hb hts in_M hown hK hP (0) (by omega) rfl rfl 21 (by decide) (hts _ tw_362) rfl d_M_loses_118 ?_
    refine lv_bipush (v := 6) hx hb d_M_loses_121 (by decide) ?_
    refine lv_dup2_11 hx hb d_M_loses_123 rfl rfl ?_
    refine wr_laldv (v := xO x_9 0 6) hx hb hK hP (11) 0 (by omega) rfl rfl 6 (by decide) (by omega) (by omega) rfl d_M_loses_124 ?_
    refine lv_lload hx hb d_M_loses_125 (lv_at hl 0 rfl) ?_
    refine lv_ladd hx hb d_M_loses_127 ?_
    obtain ⟨x_10, ex_10⟩ : ∃ z9, z9 = xO' x_9 0 6 ((xO x_9 0 6) + v_8) := ⟨_, rfl⟩
    refine wr_last (E' := mE g ad L x_10) hx hb hK hP hJ hS (11) 0 (by omega) rfl rfl 6 (by decide) (by omega) (by omega) (by rw [ex_10]; exact mU_GO g ad L x_9 6 ((xO x_9 0 6) + v_8)) d_M_loses_128 (fun H locs hP hS => ?_)
    subst ev_1
    subst ex_2
    subst ex_3
    subst ev_4
    subst ex_5
    subst ex_6
    subst ev_8
    subst ex_9
    subst ex_10
    exact W.vret hx hb hr (fun t ht hW => ⟨⟨(), rfl, trivial, by dsimp only; rw [ht]; (try simp only [m_loses, if_pos c_7, ite_self]); exact hP⟩, hS.F ht⟩) hS.2.2 d_M_loses_129
  · skip
    refine lv_ldc2 (v := 600) hx hb hown (hts _ tw_505) d_M_loses_89 ?_
    refine lv_lload hx hb d_M_loses_92 (lv_at hl 0 rfl) ?_
    refine lv_lmul hx hb d_M_loses_94 ?_
    refine lv_goto (tgt := 104) hx hb d_M_loses_95 (by decide) ?_
    refine lv_topl (fun v_11 ev_11 => ?_)
    refine lv_lstore (lv' := [(6, .long v_11), (4, .long v_4), (2, .long v_1), (0, .ref (ad 0)), (1, .int (nI i))]) hx hb d_M_loses_104 hl (by decide) rfl (fun ls hl => ?_)
    refine lv_aload_n hx hb d_M_loses_106 rfl (lv_at hl 3 rfl) ?_
    refine wr_get hx hb hts in_M hown hK hP (0) (by omega) rfl rfl 3 (by decide) (hts _ tw_344) rfl d_M_loses_107 ?_
    refine lv_iload_n hx hb d_M_loses_110 rfl (lv_at hl 4 rfl) ?_
    refine lv_dup2_11 hx hb d_M_loses_111 rfl rfl ?_
    refine wr_laldv (v := xT x_6 i 4) hx hb hK hP (3) 0 (by omega) rfl rfl i rfl (by omega) (by omega) rfl d_M_loses_112 ?_
    refine lv_lload hx hb d_M_loses_113 (lv_at hl 0 rfl) ?_
    refine lv_lsub hx hb d_M_loses_115 ?_
    obtain ⟨x_12, ex_12⟩ : ∃ z9, z9 = xT' x_6 i 4 ((xT x_6 i 4) - v_11) := ⟨_, rfl⟩
    refine wr_last (E' := mE g ad L x_12) hx hb hK hP hJ hS (3) 0 (by omega) rfl rfl i rfl (by omega) (by omega) (by rw [ex_12]; exact mU_HE g ad L x_6 i ((xT x_6 i 4) - v_11)) d_M_loses_116 (fun H locs hP hS => ?_)
    refine lv_aload_n hx hb d_M_loses_117 rfl (lv_at hl 3 rfl) ?_
    refine wr_get hx hb hts in_M hown hK hP (0) (by omega) rfl rfl 21 (by decide) (hts _ tw_362) rfl d_M_loses_118 ?_
    refine lv_bipush (v := 6) hx hb d_M_loses_121 (by decide) ?_
    refine lv_dup2_11 hx hb d_M_loses_123 rfl rfl ?_
    refine wr_laldv (v := xO x_12 0 6) hx hb hK hP (11) 0 (by omega) rfl rfl 6 (by decide) (by omega) (by omega) rfl d_M_loses_124 ?_
    refine lv_lload hx hb d_M_loses_125 (lv_at hl 0 rfl) ?_
    refine lv_ladd hx hb d_M_loses_127 ?_
    obtain ⟨x_13, ex_13⟩ : ∃ z9, z9 = xO' x_12 0 6 ((xO x_12 0 6) + v_11) := ⟨_, rfl⟩
    refine wr_last (E' := mE g ad L x_13) hx hb hK hP hJ hS (11) 0 (by omega) rfl rfl 6 (by decide) (by omega) (by omega) (by rw [ex_13]; exact mU_GO g ad L x_12 6 ((xO x_12 0 6) + v_11)) d_M_loses_128 (fun H locs hP hS => ?_)
    subst ev_1
    subst ex_2
    subst ex_3
    subst ev_4
    subst ex_5
    subst ex_6
    subst ev_11
    subst ex_12
    subst ex_13
    exact W.vret hx hb hr (fun t ht hW => ⟨⟨(), rfl, trivial, by dsimp only; rw [ht]; (try simp only [m_loses, if_neg c_7, ite_self]); exact hP⟩, hS.F ht⟩) hS.2.2 d_M_loses_129
