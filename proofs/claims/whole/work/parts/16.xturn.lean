set_option maxHeartbeats 4000000 in
set_option maxRecDepth 100000 in
theorem c_X_shareOut (l : Launch) (g : wG) (ad : Nat → Nat) {L : Nat} (hL : 1 ≤ L ∧ L ≤ 6) (x : xS) (k : Nat) (hk : k < 5) : CtV l y_X_shareOut ws_X_shareOut ({ frames := 1, cells := 0, slots := 0, locals := 27 }) g (16 + 2 * L) ad (xE g ad L x) (xE g ad L (x_share L x k)) [.ref (ad 0), .int (nI k)] := by
  intro sz
  refine Met.ofW (cc := b_X_shareOut) (maxL := 10) (ret := none) (by decide +kernel) rfl ?_
  intro p e s m args below meth c s₁ B hml hv
  obtain ⟨rfl, hsz, hP, hK, hN, hJ⟩ := hv
  have hx := B.exec
  have hb := B.bytes
  have hr := B.returns
  have hts0 := atoms_spec (ws := ws_X_shareOut) B.pre
  have hts : ∀ w ∈ tb, w.before _ s = true := fun w h => hts0 w (List.mem_cons_of_mem _ h)
  have hown : s.vm.findClass "HeapSteps" = some m.cls := findClass_of_methodNamed B.named
  have hlocks := B.notSynchronized
  subst hsz
  have hS : va_S (wA (16 + 2 * L) ad s.heap.size) s.heap s.heap [] := va_S.rf
  have hl := lv_entry ([.ref (ad 0), .int (nI k)]) (n := 10) (Nat.le_of_ble_eq_true rfl)
  rw [lg_entry_eq]
  generalize (lg_sl ([.ref (ad 0), .int (nI k)]) ++ List.replicate (10 - (lg_sl ([.ref (ad 0), .int (nI k)])).length) Slot.unset).toArray = ls at hl ⊢
  have hl : lv_has ls 10 [(0, .ref (ad 0)), (1, .int (nI k))] := hl
  have hne := nIL_ne0 hL
  refine lv_aload_n hx hb d_X_shareOut_0 rfl (lv_at hl 0 rfl) ?_
  refine wr_get hx hb hts in_X hown hK hP (0) (by omega) rfl rfl 0 (by decide) (hts _ tw_116) rfl d_X_shareOut_1 ?_
  refine wr_alen (v := nI L) hx hb hK hP (6) 2 (by omega) rfl rfl rfl d_X_shareOut_4 ?_
  refine lv_istore_n (lv' := [(2, .int (nI L)), (0, .ref (ad 0)), (1, .int (nI k))]) hx hb d_X_shareOut_5 rfl hl (by decide) rfl (fun ls hl => ?_)
  refine lv_iload_n hx hb d_X_shareOut_6 rfl (lv_at hl 0 rfl) ?_
  refine lv_if_ne (tgt := 11) hx hb d_X_shareOut_7 (by decide) (fun c_1 => ?_) (fun c_1 => absurd c_1 (nI_ne0 (by omega) (by omega)))
  refine lv_aload_n hx hb d_X_shareOut_11 rfl (lv_at hl 1 rfl) ?_
  refine lv_iload_n hx hb d_X_shareOut_12 rfl (lv_at hl 2 rfl) ?_
  refine wc_l (va_runV (As := [.int (nI k)]) (rest := []) ⟨hx, hb, hml, hown, hts⟩ (c_X_inAllLayers l g ad hL x k (by omega) _) (cwV 1 hts (gd_V tw_310 tw_312 tw_10 tw_24 tw_313) rfl rfl rfl (by decide +kernel) ⟨Nat.le_of_ble_eq_true rfl, Nat.le_of_ble_eq_true rfl⟩) (wp_V hK hN hP hJ (0) (by omega) rfl rfl) rfl rfl hl.1 rfl (lv_room (Nat.le_of_ble_eq_true rfl)) d_X_shareOut_13 ⟨Nat.zero_le _, Nat.zero_le _⟩) hS (fun H locs hP hS => ?_)
  refine lv_topl (fun v_2 ev_2 => ?_)
  refine lv_lstore_n (lv' := [(3, .long v_2), (2, .int (nI L)), (0, .ref (ad 0)), (1, .int (nI k))]) hx hb d_X_shareOut_16 rfl hl (by decide) rfl (fun ls hl => ?_)
  refine lv_lload_n hx hb d_X_shareOut_17 rfl (lv_at hl 0 rfl) ?_
  refine lv_iload_n hx hb d_X_shareOut_18 rfl (lv_at hl 1 rfl) ?_
  refine lv_i2l hx hb d_X_shareOut_19 rfl ?_
  refine lv_ldiv hx hb d_X_shareOut_20 (by assumption) ?_
  refine lv_topl (fun v_3 ev_3 => ?_)
  refine lv_lstore (lv' := [(5, .long v_3), (3, .long v_2), (2, .int (nI L)), (0, .ref (ad 0)), (1, .int (nI k))]) hx hb d_X_shareOut_21 hl (by decide) rfl (fun ls hl => ?_)
  refine lv_lload_n hx hb d_X_shareOut_23 rfl (lv_at hl 1 rfl) ?_
  refine lv_iload_n hx hb d_X_shareOut_24 rfl (lv_at hl 2 rfl) ?_
  refine lv_i2l hx hb d_X_shareOut_25 rfl ?_
  refine lv_lrem hx hb d_X_shareOut_26 (by assumption) ?_
  refine lv_topl (fun v_4 ev_4 => ?_)
  refine lv_lstore (lv' := [(7, .long v_4), (5, .long v_3), (3, .long v_2), (2, .int (nI L)), (0, .ref (ad 0)), (1, .int (nI k))]) hx hb d_X_shareOut_27 hl (by decide) rfl (fun ls hl => ?_)
  refine lv_iconst (v := 0) hx hb d_X_shareOut_29 (by decide) ?_
  refine lv_istore (lv' := [(9, .int 0), (7, .long v_4), (5, .long v_3), (3, .long v_2), (2, .int (nI L)), (0, .ref (ad 0)), (1, .int (nI k))]) hx hb d_X_shareOut_30 hl (by decide) rfl (fun ls hl => ?_)
  refine wl_loop (pc := 32) (fun fu H locs ls => ∃ i : Nat, i + fu = L ∧ va_P g.1 vwCl (wo (16 + 2 * L) ad (xE g ad L (x_shareN x k v_3 v_4 i))) H ∧ va_S (wA (16 + 2 * L) ad s.heap.size) s.heap H locs ∧ lv_has ls 10 [(9, .int (nI i)), (7, .long v_4), (5, .long v_3), (3, .long v_2), (2, .int (nI L)), (1, .int (nI k)), (0, .ref (ad 0))]) ?_ ?_ L _ _ _ ⟨0, by omega, hP, hS, lv_sub hl [0, 1, 2, 3, 4, 6, 5] rfl⟩
  · intro H locs ls hI
    obtain ⟨i, hi, hP, hS, hl⟩ := hI
    have hT_i : i = L := by omega
    try rw [hT_i] at hP
    try rw [hT_i] at hl
    obtain ⟨x_5, ex_5⟩ : ∃ z9, z9 = x_shareN x k v_3 v_4 L := ⟨_, rfl⟩
    rw [← ex_5] at hP
    refine lv_iload hx hb d_X_shareOut_32 (lv_at hl 0 rfl) ?_
    refine lv_iload_n hx hb d_X_shareOut_34 rfl (lv_at hl 4 rfl) ?_
    refine lv_icmp_ge (tgt := 74) hx hb d_X_shareOut_35 (by decide) (fun c_6 => ?_) (fun c_6 => absurd (nI_le (by omega) (by omega)) c_6)
    subst ev_2
    subst ev_3
    subst ev_4
    subst ex_5
    exact W.vret hx hb hr (fun t ht hW => ⟨⟨(), rfl, trivial, by dsimp only; rw [ht]; (try simp only [x_share]); exact hP⟩, hS.F ht⟩) hS.2.2 d_X_shareOut_74
  · intro fu ih_i H locs ls hI
    obtain ⟨i, hi, hP, hS, hl⟩ := hI
    have hi_i : i < L := by omega
    obtain ⟨x_7, ex_7⟩ : ∃ z9, z9 = x_shareN x k v_3 v_4 i := ⟨_, rfl⟩
    rw [← ex_7] at hP
    refine lv_iload hx hb d_X_shareOut_32 (lv_at hl 0 rfl) ?_
    refine lv_iload_n hx hb d_X_shareOut_34 rfl (lv_at hl 4 rfl) ?_
    refine lv_icmp_ge (tgt := 74) hx hb d_X_shareOut_35 (by decide) (fun c_8 => absurd c_8 (nI_ge hi_i (by omega))) (fun c_8 => ?_)
    refine lv_aload_n hx hb d_X_shareOut_38 rfl (lv_at hl 6 rfl) ?_
    refine wr_get hx hb hts in_X hown hK hP (0) (by omega) rfl rfl 0 (by decide) (hts _ tw_116) rfl d_X_shareOut_39 ?_
    refine lv_iload hx hb d_X_shareOut_42 (lv_at hl 0 rfl) ?_
    refine wr_aldq hx hb hK hP (6) 2 (by omega) rfl rfl i rfl (by omega) (by omega) (v := ad (7 + 2 * i)) (if_pos hi_i) d_X_shareOut_44 ?_
    refine wr_get hx hb hts in_Y hown hK hP (7 + 2 * i) (by omega) (xE_lay g ad L x_7 hi_i) rfl 0 (by decide) (hts _ tw_79) rfl d_X_shareOut_45 ?_
    refine lv_iload_n hx hb d_X_shareOut_48 rfl (lv_at hl 5 rfl) ?_
    refine lv_iload hx hb d_X_shareOut_49 (lv_at hl 0 rfl) ?_
    refine lv_i2l hx hb d_X_shareOut_51 rfl ?_
    refine lv_lload hx hb d_X_shareOut_52 (lv_at hl 1 rfl) ?_
    refine W.lcmp hx hb d_X_shareOut_54 ?_
    refine lv_if_ge (tgt := 65) hx hb d_X_shareOut_55 (by decide) (fun c_9 => ?_) (fun c_9 => ?_)
    · skip
      refine lv_lload hx hb d_X_shareOut_65 (lv_at hl 2 rfl) ?_
      obtain ⟨x_10, ex_10⟩ : ∃ z9, z9 = xT' x_7 i k v_3 := ⟨_, rfl⟩
      refine wr_last (E' := xE g ad L x_10) hx hb hK hP hJ hS (8 + 2 * i) 0 (by omega) (xE_stk g ad L x_7 hi_i) rfl k rfl (by omega) (by omega) (by rw [ex_10]; exact xU_T g ad L x_7 hi_i k v_3) d_X_shareOut_67 (fun H locs hP hS => ?_)
      refine lv_iinc (v := nI (i + 1)) (lv' := [(9, .int (nI (i + 1))), (7, .long v_4), (5, .long v_3), (3, .long v_2), (2, .int (nI L)), (1, .int (nI k)), (0, .ref (ad 0))]) hx hb d_X_shareOut_68 hl (k := 0) rfl (nI_1 i) (by decide) rfl (fun ls hl => ?_)
      refine lv_goto (tgt := 32) hx hb d_X_shareOut_71 (by decide) ?_
      subst ex_7
      subst ex_10
      exact ih_i _ _ _ ⟨i + 1, by omega, (by (try simp only [x_shareN, if_pos c_9]); exact hP), hS, lv_sub hl [0, 1, 2, 3, 4, 5, 6] (by (try simp only [x_shareN, if_pos c_9]); rfl)⟩
    · skip
      refine lv_lload hx hb d_X_shareOut_58 (lv_at hl 2 rfl) ?_
      refine lv_lconst (v := 1) hx hb d_X_shareOut_60 (by decide) ?_
      refine lv_ladd hx hb d_X_shareOut_61 ?_
      refine lv_goto (tgt := 67) hx hb d_X_shareOut_62 (by decide) ?_
      obtain ⟨x_11, ex_11⟩ : ∃ z9, z9 = xT' x_7 i k (v_3 + 1) := ⟨_, rfl⟩
      refine wr_last (E' := xE g ad L x_11) hx hb hK hP hJ hS (8 + 2 * i) 0 (by omega) (xE_stk g ad L x_7 hi_i) rfl k rfl (by omega) (by omega) (by rw [ex_11]; exact xU_T g ad L x_7 hi_i k (v_3 + 1)) d_X_shareOut_67 (fun H locs hP hS => ?_)
      refine lv_iinc (v := nI (i + 1)) (lv' := [(9, .int (nI (i + 1))), (7, .long v_4), (5, .long v_3), (3, .long v_2), (2, .int (nI L)), (1, .int (nI k)), (0, .ref (ad 0))]) hx hb d_X_shareOut_68 hl (k := 0) rfl (nI_1 i) (by decide) rfl (fun ls hl => ?_)
      refine lv_goto (tgt := 32) hx hb d_X_shareOut_71 (by decide) ?_
      subst ex_7
      subst ex_11
      exact ih_i _ _ _ ⟨i + 1, by omega, (by (try simp only [x_shareN, if_neg c_9]); exact hP), hS, lv_sub hl [0, 1, 2, 3, 4, 5, 6] (by (try simp only [x_shareN, if_neg c_9]); rfl)⟩
set_option maxHeartbeats 4000000 in
set_option maxRecDepth 100000 in
theorem c_X_turn (l : Launch) (g : wG) (ad : Nat → Nat) {L : Nat} (hL : 1 ≤ L ∧ L ≤ 6) (x : xS) : CtI l y_X_turn ws_X_turn ({ frames := 2, cells := 0, slots := 0, locals := 56 }) g (16 + 2 * L) ad (xE g ad L x) (xE g ad L (x_turn L x).2) [.ref (ad 0)] (x_turn L x).1 := by
  intro sz
  refine Met.ofW (cc := b_X_turn) (maxL := 2) (ret := (some .int)) (by decide +kernel) rfl ?_
  intro p e s m args below meth c s₁ B hml hv
  obtain ⟨rfl, hsz, hP, hK, hN, hJ⟩ := hv
  have hx := B.exec
  have hb := B.bytes
  have hr := B.returns
  have hts0 := atoms_spec (ws := ws_X_turn) B.pre
  have hts : ∀ w ∈ tb, w.before _ s = true := fun w h => hts0 w (List.mem_cons_of_mem _ h)
  have hown : s.vm.findClass "HeapSteps" = some m.cls := findClass_of_methodNamed B.named
  have hlocks := B.notSynchronized
  subst hsz
  have hS : va_S (wA (16 + 2 * L) ad s.heap.size) s.heap s.heap [] := va_S.rf
  have hl := lv_entry ([.ref (ad 0)]) (n := 2) (Nat.le_of_ble_eq_true rfl)
  rw [lg_entry_eq]
  generalize (lg_sl ([.ref (ad 0)]) ++ List.replicate (2 - (lg_sl ([.ref (ad 0)])).length) Slot.unset).toArray = ls at hl ⊢
  have hl : lv_has ls 2 [(0, .ref (ad 0))] := hl
  refine lv_iconst (v := 0) hx hb d_X_turn_0 (by decide) ?_
  refine lv_istore_n (lv' := [(1, .int 0), (0, .ref (ad 0))]) hx hb d_X_turn_1 rfl hl (by decide) rfl (fun ls hl => ?_)
  refine lv_iload_n hx hb d_X_turn_2 rfl (lv_at hl 0 rfl) ?_
  refine lv_iconst (v := 5) hx hb d_X_turn_3 (by decide) ?_
  refine lv_icmp_ge (tgt := 18) hx hb d_X_turn_4 (by decide) (fun c_1 => absurd c_1 (by decide)) (fun c_1 => ?_)
  refine lv_aload_n hx hb d_X_turn_7 rfl (lv_at hl 1 rfl) ?_
  refine lv_iload_n hx hb d_X_turn_8 rfl (lv_at hl 0 rfl) ?_
  refine wc_v (va_runV (As := [.int 0]) (rest := []) ⟨hx, hb, hml, hown, hts⟩ (c_X_shareOut l g ad hL x 0 (by omega) _) (cwV 1 hts (gd_V tw_306 tw_308 tw_9 tw_24 tw_309) rfl rfl rfl (by decide +kernel) ⟨Nat.le_of_ble_eq_true rfl, Nat.le_of_ble_eq_true rfl⟩) (wp_V hK hN hP hJ (0) (by omega) rfl rfl) rfl rfl hl.1 rfl (lv_room (Nat.le_of_ble_eq_true rfl)) d_X_turn_9 ⟨Nat.zero_le _, Nat.zero_le _⟩) hS (fun H locs hP hS => ?_)
  obtain ⟨x_2, ex_2⟩ : ∃ z9, z9 = x_share L x 0 := ⟨_, rfl⟩
  rw [← ex_2] at hP
  refine lv_iinc (v := 1) (lv' := [(1, .int 1), (0, .ref (ad 0))]) hx hb d_X_turn_12 hl (k := 0) rfl (by decide) (by decide) rfl (fun ls hl => ?_)
  refine lv_goto (tgt := 2) hx hb d_X_turn_15 (by decide) ?_
  refine lv_iload_n hx hb d_X_turn_2 rfl (lv_at hl 0 rfl) ?_
  refine lv_iconst (v := 5) hx hb d_X_turn_3 (by decide) ?_
  refine lv_icmp_ge (tgt := 18) hx hb d_X_turn_4 (by decide) (fun c_3 => absurd c_3 (by decide)) (fun c_3 => ?_)
  refine lv_aload_n hx hb d_X_turn_7 rfl (lv_at hl 1 rfl) ?_
  refine lv_iload_n hx hb d_X_turn_8 rfl (lv_at hl 0 rfl) ?_
  refine wc_v (va_runV (As := [.int 1]) (rest := []) ⟨hx, hb, hml, hown, hts⟩ (c_X_shareOut l g ad hL x_2 1 (by omega) _) (cwV 1 hts (gd_V tw_306 tw_308 tw_9 tw_24 tw_309) rfl rfl rfl (by decide +kernel) ⟨Nat.le_of_ble_eq_true rfl, Nat.le_of_ble_eq_true rfl⟩) (wp_V hK hN hP hJ (0) (by omega) rfl rfl) rfl rfl hl.1 rfl (lv_room (Nat.le_of_ble_eq_true rfl)) d_X_turn_9 ⟨Nat.zero_le _, Nat.zero_le _⟩) hS (fun H locs hP hS => ?_)
  obtain ⟨x_4, ex_4⟩ : ∃ z9, z9 = x_share L x_2 1 := ⟨_, rfl⟩
  rw [← ex_4] at hP
  refine lv_iinc (v := 2) (lv' := [(1, .int 2), (0, .ref (ad 0))]) hx hb d_X_turn_12 hl (k := 0) rfl (by decide) (by decide) rfl (fun ls hl => ?_)
  refine lv_goto (tgt := 2) hx hb d_X_turn_15 (by decide) ?_
  refine lv_iload_n hx hb d_X_turn_2 rfl (lv_at hl 0 rfl) ?_
  refine lv_iconst (v := 5) hx hb d_X_turn_3 (by decide) ?_
  refine lv_icmp_ge (tgt := 18) hx hb d_X_turn_4 (by decide) (fun c_5 => absurd c_5 (by decide)) (fun c_5 => ?_)
  refine lv_aload_n hx hb d_X_turn_7 rfl (lv_at hl 1 rfl) ?_
  refine lv_iload_n hx hb d_X_turn_8 rfl (lv_at hl 0 rfl) ?_
  refine wc_v (va_runV (As := [.int 2]) (rest := []) ⟨hx, hb, hml, hown, hts⟩ (c_X_shareOut l g ad hL x_4 2 (by omega) _) (cwV 1 hts (gd_V tw_306 tw_308 tw_9 tw_24 tw_309) rfl rfl rfl (by decide +kernel) ⟨Nat.le_of_ble_eq_true rfl, Nat.le_of_ble_eq_true rfl⟩) (wp_V hK hN hP hJ (0) (by omega) rfl rfl) rfl rfl hl.1 rfl (lv_room (Nat.le_of_ble_eq_true rfl)) d_X_turn_9 ⟨Nat.zero_le _, Nat.zero_le _⟩) hS (fun H locs hP hS => ?_)
  obtain ⟨x_6, ex_6⟩ : ∃ z9, z9 = x_share L x_4 2 := ⟨_, rfl⟩
  rw [← ex_6] at hP
  refine lv_iinc (v := 3) (lv' := [(1, .int 3), (0, .ref (ad 0))]) hx hb d_X_turn_12 hl (k := 0) rfl (by decide) (by decide) rfl (fun ls hl => ?_)
  refine lv_goto (tgt := 2) hx hb d_X_turn_15 (by decide) ?_
  refine lv_iload_n hx hb d_X_turn_2 rfl (lv_at hl 0 rfl) ?_
  refine lv_iconst (v := 5) hx hb d_X_turn_3 (by decide) ?_
  refine lv_icmp_ge (tgt := 18) hx hb d_X_turn_4 (by decide) (fun c_7 => absurd c_7 (by decide)) (fun c_7 => ?_)
  refine lv_aload_n hx hb d_X_turn_7 rfl (lv_at hl 1 rfl) ?_
  refine lv_iload_n hx hb d_X_turn_8 rfl (lv_at hl 0 rfl) ?_
  refine wc_v (va_runV (As := [.int 3]) (rest := []) ⟨hx, hb, hml, hown, hts⟩ (c_X_shareOut l g ad hL x_6 3 (by omega) _) (cwV 1 hts (gd_V tw_306 tw_308 tw_9 tw_24 tw_309) rfl rfl rfl (by decide +kernel) ⟨Nat.le_of_ble_eq_true rfl, Nat.le_of_ble_eq_true rfl⟩) (wp_V hK hN hP hJ (0) (by omega) rfl rfl) rfl rfl hl.1 rfl (lv_room (Nat.le_of_ble_eq_true rfl)) d_X_turn_9 ⟨Nat.zero_le _, Nat.zero_le _⟩) hS (fun H locs hP hS => ?_)
  obtain ⟨x_8, ex_8⟩ : ∃ z9, z9 = x_share L x_6 3 := ⟨_, rfl⟩
  rw [← ex_8] at hP
  refine lv_iinc (v := 4) (lv' := [(1, .int 4), (0, .ref (ad 0))]) hx hb d_X_turn_12 hl (k := 0) rfl (by decide) (by decide) rfl (fun ls hl => ?_)
  refine lv_goto (tgt := 2) hx hb d_X_turn_15 (by decide) ?_
  refine lv_iload_n hx hb d_X_turn_2 rfl (lv_at hl 0 rfl) ?_
  refine lv_iconst (v := 5) hx hb d_X_turn_3 (by decide) ?_
  refine lv_icmp_ge (tgt := 18) hx hb d_X_turn_4 (by decide) (fun c_9 => absurd c_9 (by decide)) (fun c_9 => ?_)
  refine lv_aload_n hx hb d_X_turn_7 rfl (lv_at hl 1 rfl) ?_
  refine lv_iload_n hx hb d_X_turn_8 rfl (lv_at hl 0 rfl) ?_
  refine wc_v (va_runV (As := [.int 4]) (rest := []) ⟨hx, hb, hml, hown, hts⟩ (c_X_shareOut l g ad hL x_8 4 (by omega) _) (cwV 1 hts (gd_V tw_306 tw_308 tw_9 tw_24 tw_309) rfl rfl rfl (by decide +kernel) ⟨Nat.le_of_ble_eq_true rfl, Nat.le_of_ble_eq_true rfl⟩) (wp_V hK hN hP hJ (0) (by omega) rfl rfl) rfl rfl hl.1 rfl (lv_room (Nat.le_of_ble_eq_true rfl)) d_X_turn_9 ⟨Nat.zero_le _, Nat.zero_le _⟩) hS (fun H locs hP hS => ?_)
  obtain ⟨x_10, ex_10⟩ : ∃ z9, z9 = x_share L x_8 4 := ⟨_, rfl⟩
  rw [← ex_10] at hP
  refine lv_iinc (v := 5) (lv' := [(1, .int 5), (0, .ref (ad 0))]) hx hb d_X_turn_12 hl (k := 0) rfl (by decide) (by decide) rfl (fun ls hl => ?_)
  refine lv_goto (tgt := 2) hx hb d_X_turn_15 (by decide) ?_
  refine lv_iload_n hx hb d_X_turn_2 rfl (lv_at hl 0 rfl) ?_
  refine lv_iconst (v := 5) hx hb d_X_turn_3 (by decide) ?_
  refine lv_icmp_ge (tgt := 18) hx hb d_X_turn_4 (by decide) (fun c_11 => ?_) (fun c_11 => absurd (by decide) c_11)
  refine lv_aload_n hx hb d_X_turn_18 rfl (lv_at hl 1 rfl) ?_
  refine lv_dup hx hb d_X_turn_19 rfl ?_
  refine wr_get hx hb hts in_X hown hK hP (0) (by omega) rfl rfl 9 (by decide) (hts _ tw_125) rfl d_X_turn_20 ?_
  refine lv_iconst (v := 1) hx hb d_X_turn_23 (by decide) ?_
  refine lv_iadd hx hb d_X_turn_24 ?_
  obtain ⟨x_12, ex_12⟩ : ∃ z9, z9 = xI' x_10 3 ((xI x_10 3) + 1) := ⟨_, rfl⟩
  refine wr_put (E' := xE g ad L x_12) hx hb hts in_X ty_X ty_X_ok n_X hown hK hP hJ hS (0) (by omega) rfl rfl 9 (by decide) (hts _ tw_125) rfl rfl rfl (Nat.le_of_ble_eq_true rfl) (by rw [ex_12]; exact xU_I g ad L x_10 3 (by decide) ((xI x_10 3) + 1)) d_X_turn_25 (fun H locs hP hS => ?_)
  refine lv_aload_n hx hb d_X_turn_28 rfl (lv_at hl 1 rfl) ?_
  refine wr_get hx hb hts in_X hown hK hP (0) (by omega) rfl rfl 9 (by decide) (hts _ tw_125) rfl d_X_turn_29 ?_
  subst ex_2
  subst ex_4
  subst ex_6
  subst ex_8
  subst ex_10
  subst ex_12
  exact W.iret hx hb hr (fun t ht hW => ⟨⟨_, (), rfl, by (try simp only [x_turn]); first | done | rfl, by dsimp only; rw [ht]; (try simp only [x_turn]); exact hP⟩, hS.F ht⟩) hS.2.2 d_X_turn_32
set_option maxHeartbeats 4000000 in
set_option maxRecDepth 100000 in
theorem c_X_batch (l : Launch) (g : wG) (ad : Nat → Nat) {L : Nat} (hL : 1 ≤ L ∧ L ≤ 6) (x : xS) : CtL l y_X_batch ws_X_batch ({ frames := 1, cells := 0, slots := 0, locals := 23 }) g (16 + 2 * L) ad (xE g ad L x) (xE g ad L (x_batchN x L).2) [.ref (ad 0)] (x_batchN x L).1 := by
  intro sz
  refine Met.ofW (cc := b_X_batch) (maxL := 8) (ret := (some .long)) (by decide +kernel) rfl ?_
  intro p e s m args below meth c s₁ B hml hv
  obtain ⟨rfl, hsz, hP, hK, hN, hJ⟩ := hv
  have hx := B.exec
  have hb := B.bytes
  have hr := B.returns
  have hts0 := atoms_spec (ws := ws_X_batch) B.pre
  have hts : ∀ w ∈ tb, w.before _ s = true := fun w h => hts0 w (List.mem_cons_of_mem _ h)
  have hown : s.vm.findClass "HeapSteps" = some m.cls := findClass_of_methodNamed B.named
  have hlocks := B.notSynchronized
  subst hsz
  have hS : va_S (wA (16 + 2 * L) ad s.heap.size) s.heap s.heap [] := va_S.rf
  have hl := lv_entry ([.ref (ad 0)]) (n := 8) (Nat.le_of_ble_eq_true rfl)
  rw [lg_entry_eq]
  generalize (lg_sl ([.ref (ad 0)]) ++ List.replicate (8 - (lg_sl ([.ref (ad 0)])).length) Slot.unset).toArray = ls at hl ⊢
  have hl : lv_has ls 8 [(0, .ref (ad 0))] := hl
  refine lv_lconst (v := 0) hx hb d_X_batch_0 (by decide) ?_
  refine lv_lstore_n (lv' := [(1, .long 0), (0, .ref (ad 0))]) hx hb d_X_batch_1 rfl hl (by decide) rfl (fun ls hl => ?_)
  refine lv_aload_n hx hb d_X_batch_2 rfl (lv_at hl 1 rfl) ?_
  refine wr_get hx hb hts in_X hown hK hP (0) (by omega) rfl rfl 0 (by decide) (hts _ tw_116) rfl d_X_batch_3 ?_
  refine lv_astore_n (lv' := [(3, .ref (ad 6)), (1, .long 0), (0, .ref (ad 0))]) hx hb d_X_batch_6 rfl hl (by decide) rfl (fun ls hl => ?_)
  refine lv_aload_n hx hb d_X_batch_7 rfl (lv_at hl 0 rfl) ?_
  refine wr_alen (v := nI L) hx hb hK hP (6) 2 (by omega) rfl rfl rfl d_X_batch_8 ?_
  refine lv_istore (lv' := [(4, .int (nI L)), (3, .ref (ad 6)), (1, .long 0), (0, .ref (ad 0))]) hx hb d_X_batch_9 hl (by decide) rfl (fun ls hl => ?_)
  refine lv_iconst (v := 0) hx hb d_X_batch_11 (by decide) ?_
  refine lv_istore (lv' := [(5, .int 0), (4, .int (nI L)), (3, .ref (ad 6)), (1, .long 0), (0, .ref (ad 0))]) hx hb d_X_batch_12 hl (by decide) rfl (fun ls hl => ?_)
  refine wl_loop (pc := 14) (fun fu H locs ls => ∃ i : Nat, i + fu = L ∧ va_P g.1 vwCl (wo (16 + 2 * L) ad (xE g ad L ((x_batchN x i).2))) H ∧ va_S (wA (16 + 2 * L) ad s.heap.size) s.heap H locs ∧ lv_has ls 8 [(5, .int (nI i)), (4, .int (nI L)), (3, .ref (ad 6)), (1, .long ((x_batchN x i).1)), (0, .ref (ad 0))]) ?_ ?_ L _ _ _ ⟨0, by omega, hP, hS, lv_sub hl [0, 1, 2, 3, 4] rfl⟩
  · intro H locs ls hI
    obtain ⟨i, hi, hP, hS, hl⟩ := hI
    have hT_i : i = L := by omega
    try rw [hT_i] at hP
    try rw [hT_i] at hl
    obtain ⟨x_1, ex_1⟩ : ∃ z9, z9 = (x_batchN x L).2 := ⟨_, rfl⟩
    rw [← ex_1] at hP
    refine lv_iload hx hb d_X_batch_14 (lv_at hl 0 rfl) ?_
    refine lv_iload hx hb d_X_batch_16 (lv_at hl 1 rfl) ?_
    refine lv_icmp_ge (tgt := 83) hx hb d_X_batch_18 (by decide) (fun c_2 => ?_) (fun c_2 => absurd (nI_le (by omega) (by omega)) c_2)
    refine lv_lload_n hx hb d_X_batch_83 rfl (lv_at hl 3 rfl) ?_
    subst ex_1
    exact W.lret hx hb hr (fun t ht hW => ⟨⟨_, (), rfl, by skip; first | done | rfl, by dsimp only; rw [ht]; skip; exact hP⟩, hS.F ht⟩) hS.2.2 d_X_batch_84
  · intro fu ih_i H locs ls hI
    obtain ⟨i, hi, hP, hS, hl⟩ := hI
    have hi_i : i < L := by omega
    obtain ⟨x_3, ex_3⟩ : ∃ z9, z9 = (x_batchN x i).2 := ⟨_, rfl⟩
    rw [← ex_3] at hP
    refine lv_iload hx hb d_X_batch_14 (lv_at hl 0 rfl) ?_
    refine lv_iload hx hb d_X_batch_16 (lv_at hl 1 rfl) ?_
    refine lv_icmp_ge (tgt := 83) hx hb d_X_batch_18 (by decide) (fun c_4 => absurd c_4 (nI_ge hi_i (by omega))) (fun c_4 => ?_)
    refine lv_aload_n hx hb d_X_batch_21 rfl (lv_at hl 2 rfl) ?_
    refine lv_iload hx hb d_X_batch_22 (lv_at hl 0 rfl) ?_
    refine wr_aldq hx hb hK hP (6) 2 (by omega) rfl rfl i rfl (by omega) (by omega) (v := ad (7 + 2 * i)) (if_pos hi_i) d_X_batch_24 ?_
    refine lv_astore (lv' := [(6, .ref (ad (7 + 2 * i))), (5, .int (nI i)), (4, .int (nI L)), (3, .ref (ad 6)), (1, .long ((x_batchN x i).1)), (0, .ref (ad 0))]) hx hb d_X_batch_25 hl (by decide) rfl (fun ls hl => ?_)
    refine lv_lload_n hx hb d_X_batch_27 rfl (lv_at hl 4 rfl) ?_
    refine lv_aload hx hb d_X_batch_28 (lv_at hl 0 rfl) ?_
    refine wc_l (va_runV (As := []) (rest := [.long ((x_batchN x i).1)]) ⟨hx, hb, hml, hown, hts⟩ (c_Y_mass l g ad hL x_3 hi_i _) (cwV 0 hts (gd_V tw_330 tw_224 tw_225 tw_26 tw_226) rfl rfl rfl (by decide +kernel) ⟨Nat.le_of_ble_eq_true rfl, Nat.le_of_ble_eq_true rfl⟩) (wp_V hK hN hP hJ (7 + 2 * i) (by omega) (xE_lay g ad L x_3 hi_i) rfl) rfl rfl hl.1 rfl (lv_room (Nat.le_of_ble_eq_true rfl)) d_X_batch_30 ⟨Nat.zero_le _, Nat.zero_le _⟩) hS (fun H locs hP hS => ?_)
    refine lv_ladd hx hb d_X_batch_33 ?_
    refine lv_topl (fun v_5 ev_5 => ?_)
    refine lv_lstore_n (lv' := [(1, .long v_5), (6, .ref (ad (7 + 2 * i))), (5, .int (nI i)), (4, .int (nI L)), (3, .ref (ad 6)), (0, .ref (ad 0))]) hx hb d_X_batch_34 rfl hl (by decide) rfl (fun ls hl => ?_)
    refine lv_iconst (v := 0) hx hb d_X_batch_35 (by decide) ?_
    refine lv_istore (lv' := [(7, .int 0), (1, .long v_5), (6, .ref (ad (7 + 2 * i))), (5, .int (nI i)), (4, .int (nI L)), (3, .ref (ad 6)), (0, .ref (ad 0))]) hx hb d_X_batch_36 hl (by decide) rfl (fun ls hl => ?_)
    refine lv_iload hx hb d_X_batch_38 (lv_at hl 0 rfl) ?_
    refine lv_iconst (v := 5) hx hb d_X_batch_40 (by decide) ?_
    refine lv_icmp_ge (tgt := 77) hx hb d_X_batch_41 (by decide) (fun c_6 => absurd c_6 (by decide)) (fun c_6 => ?_)
    refine lv_aload_n hx hb d_X_batch_44 rfl (lv_at hl 6 rfl) ?_
    refine wr_get hx hb hts in_X hown hK hP (0) (by omega) rfl rfl 5 (by decide) (hts _ tw_121) rfl d_X_batch_45 ?_
    refine lv_iload hx hb d_X_batch_48 (lv_at hl 0 rfl) ?_
    refine lv_dup2_11 hx hb d_X_batch_50 rfl rfl ?_
    refine wr_lald hx hb hK hP (5) 0 (by omega) rfl rfl 0 (by decide) (by omega) (by omega) d_X_batch_51 ?_
    refine lv_aload hx hb d_X_batch_52 (lv_at hl 2 rfl) ?_
    refine wr_get hx hb hts in_Y hown hK hP (7 + 2 * i) (by omega) (xE_lay g ad L x_3 hi_i) rfl 0 (by decide) (hts _ tw_79) rfl d_X_batch_54 ?_
    refine lv_iload hx hb d_X_batch_57 (lv_at hl 0 rfl) ?_
    refine wr_lald hx hb hK hP (8 + 2 * i) 0 (by omega) (xE_stk g ad L x_3 hi_i) rfl 0 (by decide) (by omega) (by omega) d_X_batch_59 ?_
    refine lv_ladd hx hb d_X_batch_60 ?_
    obtain ⟨x_7, ex_7⟩ : ∃ z9, z9 = xO' x_3 2 0 ((xO x_3 2 0) + (xT x_3 i 0)) := ⟨_, rfl⟩
    refine wr_last (E' := xE g ad L x_7) hx hb hK hP hJ hS (5) 0 (by omega) rfl rfl 0 (by decide) (by omega) (by omega) (by rw [ex_7]; exact xU_O g ad L x_3 2 0 (by decide) ((xO x_3 2 0) + (xT x_3 i 0))) d_X_batch_61 (fun H locs hP hS => ?_)
    refine lv_aload hx hb d_X_batch_62 (lv_at hl 2 rfl) ?_
    refine wr_get hx hb hts in_Y hown hK hP (7 + 2 * i) (by omega) (xE_lay g ad L x_7 hi_i) rfl 0 (by decide) (hts _ tw_79) rfl d_X_batch_64 ?_
    refine lv_iload hx hb d_X_batch_67 (lv_at hl 0 rfl) ?_
    refine lv_lconst (v := 0) hx hb d_X_batch_69 (by decide) ?_
    obtain ⟨x_8, ex_8⟩ : ∃ z9, z9 = xT' x_7 i 0 0 := ⟨_, rfl⟩
    refine wr_last (E' := xE g ad L x_8) hx hb hK hP hJ hS (8 + 2 * i) 0 (by omega) (xE_stk g ad L x_7 hi_i) rfl 0 (by decide) (by omega) (by omega) (by rw [ex_8]; exact xU_T g ad L x_7 hi_i 0 0) d_X_batch_70 (fun H locs hP hS => ?_)
    refine lv_iinc (v := 1) (lv' := [(7, .int 1), (1, .long v_5), (6, .ref (ad (7 + 2 * i))), (5, .int (nI i)), (4, .int (nI L)), (3, .ref (ad 6)), (0, .ref (ad 0))]) hx hb d_X_batch_71 hl (k := 0) rfl (by decide) (by decide) rfl (fun ls hl => ?_)
    refine lv_goto (tgt := 38) hx hb d_X_batch_74 (by decide) ?_
    refine lv_iload hx hb d_X_batch_38 (lv_at hl 0 rfl) ?_
    refine lv_iconst (v := 5) hx hb d_X_batch_40 (by decide) ?_
    refine lv_icmp_ge (tgt := 77) hx hb d_X_batch_41 (by decide) (fun c_9 => absurd c_9 (by decide)) (fun c_9 => ?_)
    refine lv_aload_n hx hb d_X_batch_44 rfl (lv_at hl 6 rfl) ?_
    refine wr_get hx hb hts in_X hown hK hP (0) (by omega) rfl rfl 5 (by decide) (hts _ tw_121) rfl d_X_batch_45 ?_
    refine lv_iload hx hb d_X_batch_48 (lv_at hl 0 rfl) ?_
    refine lv_dup2_11 hx hb d_X_batch_50 rfl rfl ?_
    refine wr_lald hx hb hK hP (5) 0 (by omega) rfl rfl 1 (by decide) (by omega) (by omega) d_X_batch_51 ?_
    refine lv_aload hx hb d_X_batch_52 (lv_at hl 2 rfl) ?_
    refine wr_get hx hb hts in_Y hown hK hP (7 + 2 * i) (by omega) (xE_lay g ad L x_8 hi_i) rfl 0 (by decide) (hts _ tw_79) rfl d_X_batch_54 ?_
    refine lv_iload hx hb d_X_batch_57 (lv_at hl 0 rfl) ?_
    refine wr_lald hx hb hK hP (8 + 2 * i) 0 (by omega) (xE_stk g ad L x_8 hi_i) rfl 1 (by decide) (by omega) (by omega) d_X_batch_59 ?_
    refine lv_ladd hx hb d_X_batch_60 ?_
    obtain ⟨x_10, ex_10⟩ : ∃ z9, z9 = xO' x_8 2 1 ((xO x_8 2 1) + (xT x_8 i 1)) := ⟨_, rfl⟩
    refine wr_last (E' := xE g ad L x_10) hx hb hK hP hJ hS (5) 0 (by omega) rfl rfl 1 (by decide) (by omega) (by omega) (by rw [ex_10]; exact xU_O g ad L x_8 2 1 (by decide) ((xO x_8 2 1) + (xT x_8 i 1))) d_X_batch_61 (fun H locs hP hS => ?_)
    refine lv_aload hx hb d_X_batch_62 (lv_at hl 2 rfl) ?_
    refine wr_get hx hb hts in_Y hown hK hP (7 + 2 * i) (by omega) (xE_lay g ad L x_10 hi_i) rfl 0 (by decide) (hts _ tw_79) rfl d_X_batch_64 ?_
    refine lv_iload hx hb d_X_batch_67 (lv_at hl 0 rfl) ?_
    refine lv_lconst (v := 0) hx hb d_X_batch_69 (by decide) ?_
    obtain ⟨x_11, ex_11⟩ : ∃ z9, z9 = xT' x_10 i 1 0 := ⟨_, rfl⟩
    refine wr_last (E' := xE g ad L x_11) hx hb hK hP hJ hS (8 + 2 * i) 0 (by omega) (xE_stk g ad L x_10 hi_i) rfl 1 (by decide) (by omega) (by omega) (by rw [ex_11]; exact xU_T g ad L x_10 hi_i 1 0) d_X_batch_70 (fun H locs hP hS => ?_)
    refine lv_iinc (v := 2) (lv' := [(7, .int 2), (1, .long v_5), (6, .ref (ad (7 + 2 * i))), (5, .int (nI i)), (4, .int (nI L)), (3, .ref (ad 6)), (0, .ref (ad 0))]) hx hb d_X_batch_71 hl (k := 0) rfl (by decide) (by decide) rfl (fun ls hl => ?_)
    refine lv_goto (tgt := 38) hx hb d_X_batch_74 (by decide) ?_
    refine lv_iload hx hb d_X_batch_38 (lv_at hl 0 rfl) ?_
    refine lv_iconst (v := 5) hx hb d_X_batch_40 (by decide) ?_
    refine lv_icmp_ge (tgt := 77) hx hb d_X_batch_41 (by decide) (fun c_12 => absurd c_12 (by decide)) (fun c_12 => ?_)
    refine lv_aload_n hx hb d_X_batch_44 rfl (lv_at hl 6 rfl) ?_
    refine wr_get hx hb hts in_X hown hK hP (0) (by omega) rfl rfl 5 (by decide) (hts _ tw_121) rfl d_X_batch_45 ?_
    refine lv_iload hx hb d_X_batch_48 (lv_at hl 0 rfl) ?_
    refine lv_dup2_11 hx hb d_X_batch_50 rfl rfl ?_
    refine wr_lald hx hb hK hP (5) 0 (by omega) rfl rfl 2 (by decide) (by omega) (by omega) d_X_batch_51 ?_
    refine lv_aload hx hb d_X_batch_52 (lv_at hl 2 rfl) ?_
    refine wr_get hx hb hts in_Y hown hK hP (7 + 2 * i) (by omega) (xE_lay g ad L x_11 hi_i) rfl 0 (by decide) (hts _ tw_79) rfl d_X_batch_54 ?_
    refine lv_iload hx hb d_X_batch_57 (lv_at hl 0 rfl) ?_
    refine wr_lald hx hb hK hP (8 + 2 * i) 0 (by omega) (xE_stk g ad L x_11 hi_i) rfl 2 (by decide) (by omega) (by omega) d_X_batch_59 ?_
    refine lv_ladd hx hb d_X_batch_60 ?_
    obtain ⟨x_13, ex_13⟩ : ∃ z9, z9 = xO' x_11 2 2 ((xO x_11 2 2) + (xT x_11 i 2)) := ⟨_, rfl⟩
    refine wr_last (E' := xE g ad L x_13) hx hb hK hP hJ hS (5) 0 (by omega) rfl rfl 2 (by decide) (by omega) (by omega) (by rw [ex_13]; exact xU_O g ad L x_11 2 2 (by decide) ((xO x_11 2 2) + (xT x_11 i 2))) d_X_batch_61 (fun H locs hP hS => ?_)
    refine lv_aload hx hb d_X_batch_62 (lv_at hl 2 rfl) ?_
    refine wr_get hx hb hts in_Y hown hK hP (7 + 2 * i) (by omega) (xE_lay g ad L x_13 hi_i) rfl 0 (by decide) (hts _ tw_79) rfl d_X_batch_64 ?_
    refine lv_iload hx hb d_X_batch_67 (lv_at hl 0 rfl) ?_
    refine lv_lconst (v := 0) hx hb d_X_batch_69 (by decide) ?_
    obtain ⟨x_14, ex_14⟩ : ∃ z9, z9 = xT' x_13 i 2 0 := ⟨_, rfl⟩
    refine wr_last (E' := xE g ad L x_14) hx hb hK hP hJ hS (8 + 2 * i) 0 (by omega) (xE_stk g ad L x_13 hi_i) rfl 2 (by decide) (by omega) (by omega) (by rw [ex_14]; exact xU_T g ad L x_13 hi_i 2 0) d_X_batch_70 (fun H locs hP hS => ?_)
    refine lv_iinc (v := 3) (lv' := [(7, .int 3), (1, .long v_5), (6, .ref (ad (7 + 2 * i))), (5, .int (nI i)), (4, .int (nI L)), (3, .ref (ad 6)), (0, .ref (ad 0))]) hx hb d_X_batch_71 hl (k := 0) rfl (by decide) (by decide) rfl (fun ls hl => ?_)
    refine lv_goto (tgt := 38) hx hb d_X_batch_74 (by decide) ?_
    refine lv_iload hx hb d_X_batch_38 (lv_at hl 0 rfl) ?_
    refine lv_iconst (v := 5) hx hb d_X_batch_40 (by decide) ?_
    refine lv_icmp_ge (tgt := 77) hx hb d_X_batch_41 (by decide) (fun c_15 => absurd c_15 (by decide)) (fun c_15 => ?_)
    refine lv_aload_n hx hb d_X_batch_44 rfl (lv_at hl 6 rfl) ?_
    refine wr_get hx hb hts in_X hown hK hP (0) (by omega) rfl rfl 5 (by decide) (hts _ tw_121) rfl d_X_batch_45 ?_
    refine lv_iload hx hb d_X_batch_48 (lv_at hl 0 rfl) ?_
    refine lv_dup2_11 hx hb d_X_batch_50 rfl rfl ?_
    refine wr_lald hx hb hK hP (5) 0 (by omega) rfl rfl 3 (by decide) (by omega) (by omega) d_X_batch_51 ?_
    refine lv_aload hx hb d_X_batch_52 (lv_at hl 2 rfl) ?_
    refine wr_get hx hb hts in_Y hown hK hP (7 + 2 * i) (by omega) (xE_lay g ad L x_14 hi_i) rfl 0 (by decide) (hts _ tw_79) rfl d_X_batch_54 ?_
    refine lv_iload hx hb d_X_batch_57 (lv_at hl 0 rfl) ?_
    refine wr_lald hx hb hK hP (8 + 2 * i) 0 (by omega) (xE_stk g ad L x_14 hi_i) rfl 3 (by decide) (by omega) (by omega) d_X_batch_59 ?_
    refine lv_ladd hx hb d_X_batch_60 ?_
    obtain ⟨x_16, ex_16⟩ : ∃ z9, z9 = xO' x_14 2 3 ((xO x_14 2 3) + (xT x_14 i 3)) := ⟨_, rfl⟩
    refine wr_last (E' := xE g ad L x_16) hx hb hK hP hJ hS (5) 0 (by omega) rfl rfl 3 (by decide) (by omega) (by omega) (by rw [ex_16]; exact xU_O g ad L x_14 2 3 (by decide) ((xO x_14 2 3) + (xT x_14 i 3))) d_X_batch_61 (fun H locs hP hS => ?_)
    refine lv_aload hx hb d_X_batch_62 (lv_at hl 2 rfl) ?_
    refine wr_get hx hb hts in_Y hown hK hP (7 + 2 * i) (by omega) (xE_lay g ad L x_16 hi_i) rfl 0 (by decide) (hts _ tw_79) rfl d_X_batch_64 ?_
    refine lv_iload hx hb d_X_batch_67 (lv_at hl 0 rfl) ?_
    refine lv_lconst (v := 0) hx hb d_X_batch_69 (by decide) ?_
    obtain ⟨x_17, ex_17⟩ : ∃ z9, z9 = xT' x_16 i 3 0 := ⟨_, rfl⟩
    refine wr_last (E' := xE g ad L x_17) hx hb hK hP hJ hS (8 + 2 * i) 0 (by omega) (xE_stk g ad L x_16 hi_i) rfl 3 (by decide) (by omega) (by omega) (by rw [ex_17]; exact xU_T g ad L x_16 hi_i 3 0) d_X_batch_70 (fun H locs hP hS => ?_)
    refine lv_iinc (v := 4) (lv' := [(7, .int 4), (1, .long v_5), (6, .ref (ad (7 + 2 * i))), (5, .int (nI i)), (4, .int (nI L)), (3, .ref (ad 6)), (0, .ref (ad 0))]) hx hb d_X_batch_71 hl (k := 0) rfl (by decide) (by decide) rfl (fun ls hl => ?_)
    refine lv_goto (tgt := 38) hx hb d_X_batch_74 (by decide) ?_
    refine lv_iload hx hb d_X_batch_38 (lv_at hl 0 rfl) ?_
    refine lv_iconst (v := 5) hx hb d_X_batch_40 (by decide) ?_
    refine lv_icmp_ge (tgt := 77) hx hb d_X_batch_41 (by decide) (fun c_18 => absurd c_18 (by decide)) (fun c_18 => ?_)
    refine lv_aload_n hx hb d_X_batch_44 rfl (lv_at hl 6 rfl) ?_
    refine wr_get hx hb hts in_X hown hK hP (0) (by omega) rfl rfl 5 (by decide) (hts _ tw_121) rfl d_X_batch_45 ?_
    refine lv_iload hx hb d_X_batch_48 (lv_at hl 0 rfl) ?_
    refine lv_dup2_11 hx hb d_X_batch_50 rfl rfl ?_
    refine wr_lald hx hb hK hP (5) 0 (by omega) rfl rfl 4 (by decide) (by omega) (by omega) d_X_batch_51 ?_
    refine lv_aload hx hb d_X_batch_52 (lv_at hl 2 rfl) ?_
    refine wr_get hx hb hts in_Y hown hK hP (7 + 2 * i) (by omega) (xE_lay g ad L x_17 hi_i) rfl 0 (by decide) (hts _ tw_79) rfl d_X_batch_54 ?_
    refine lv_iload hx hb d_X_batch_57 (lv_at hl 0 rfl) ?_
    refine wr_lald hx hb hK hP (8 + 2 * i) 0 (by omega) (xE_stk g ad L x_17 hi_i) rfl 4 (by decide) (by omega) (by omega) d_X_batch_59 ?_
    refine lv_ladd hx hb d_X_batch_60 ?_
    obtain ⟨x_19, ex_19⟩ : ∃ z9, z9 = xO' x_17 2 4 ((xO x_17 2 4) + (xT x_17 i 4)) := ⟨_, rfl⟩
    refine wr_last (E' := xE g ad L x_19) hx hb hK hP hJ hS (5) 0 (by omega) rfl rfl 4 (by decide) (by omega) (by omega) (by rw [ex_19]; exact xU_O g ad L x_17 2 4 (by decide) ((xO x_17 2 4) + (xT x_17 i 4))) d_X_batch_61 (fun H locs hP hS => ?_)
    refine lv_aload hx hb d_X_batch_62 (lv_at hl 2 rfl) ?_
    refine wr_get hx hb hts in_Y hown hK hP (7 + 2 * i) (by omega) (xE_lay g ad L x_19 hi_i) rfl 0 (by decide) (hts _ tw_79) rfl d_X_batch_64 ?_
    refine lv_iload hx hb d_X_batch_67 (lv_at hl 0 rfl) ?_
    refine lv_lconst (v := 0) hx hb d_X_batch_69 (by decide) ?_
    obtain ⟨x_20, ex_20⟩ : ∃ z9, z9 = xT' x_19 i 4 0 := ⟨_, rfl⟩
    refine wr_last (E' := xE g ad L x_20) hx hb hK hP hJ hS (8 + 2 * i) 0 (by omega) (xE_stk g ad L x_19 hi_i) rfl 4 (by decide) (by omega) (by omega) (by rw [ex_20]; exact xU_T g ad L x_19 hi_i 4 0) d_X_batch_70 (fun H locs hP hS => ?_)
    refine lv_iinc (v := 5) (lv' := [(7, .int 5), (1, .long v_5), (6, .ref (ad (7 + 2 * i))), (5, .int (nI i)), (4, .int (nI L)), (3, .ref (ad 6)), (0, .ref (ad 0))]) hx hb d_X_batch_71 hl (k := 0) rfl (by decide) (by decide) rfl (fun ls hl => ?_)
    refine lv_goto (tgt := 38) hx hb d_X_batch_74 (by decide) ?_
    refine lv_iload hx hb d_X_batch_38 (lv_at hl 0 rfl) ?_
    refine lv_iconst (v := 5) hx hb d_X_batch_40 (by decide) ?_
    refine lv_icmp_ge (tgt := 77) hx hb d_X_batch_41 (by decide) (fun c_21 => ?_) (fun c_21 => absurd (by decide) c_21)
    refine lv_iinc (v := nI (i + 1)) (lv' := [(5, .int (nI (i + 1))), (7, .int 5), (1, .long v_5), (6, .ref (ad (7 + 2 * i))), (4, .int (nI L)), (3, .ref (ad 6)), (0, .ref (ad 0))]) hx hb d_X_batch_77 hl (k := 3) rfl (nI_1 i) (by decide) rfl (fun ls hl => ?_)
    refine lv_goto (tgt := 14) hx hb d_X_batch_80 (by decide) ?_
    subst ex_3
    subst ev_5
    subst ex_7
    subst ex_8
    subst ex_10
    subst ex_11
    subst ex_13
    subst ex_14
    subst ex_16
    subst ex_17
    subst ex_19
    subst ex_20
    exact ih_i _ _ _ ⟨i + 1, by omega, (by skip; exact hP), hS, lv_sub hl [0, 4, 5, 2, 6] (by skip; rfl)⟩
