set_option maxHeartbeats 4000000 in
set_option maxRecDepth 100000 in
theorem c_X_pour (l : Launch) (g : wG) (ad : Nat → Nat) {L : Nat} (hL : 1 ≤ L ∧ L ≤ 6) (x : xS) (a1 : Int64) (a2 : Int32) : CtV l y_X_pour ws_X_pour ({ frames := 2, cells := 0, slots := 0, locals := 43 }) g (16 + 2 * L) ad (xE g ad L x) (xE g ad L (x_pour L x a1 a2)) [.ref (ad 0), .long a1, .int a2] := by
  intro sz
  refine Met.ofW (cc := b_X_pour) (maxL := 5) (ret := none) (by decide +kernel) rfl ?_
  intro p e s m args below meth c s₁ B hml hv
  obtain ⟨rfl, hsz, hP, hK, hN, hJ⟩ := hv
  have hx := B.exec
  have hb := B.bytes
  have hr := B.returns
  have hts0 := atoms_spec (ws := ws_X_pour) B.pre
  have hts : ∀ w ∈ tb, w.before _ s = true := fun w h => hts0 w (List.mem_cons_of_mem _ h)
  have hown : s.vm.findClass "HeapSteps" = some m.cls := findClass_of_methodNamed B.named
  have hlocks := B.notSynchronized
  subst hsz
  have hS : va_S (wA (16 + 2 * L) ad s.heap.size) s.heap s.heap [] := va_S.rf
  have hl := lv_entry ([.ref (ad 0), .long a1, .int a2]) (n := 5) (Nat.le_of_ble_eq_true rfl)
  rw [lg_entry_eq]
  generalize (lg_sl ([.ref (ad 0), .long a1, .int a2]) ++ List.replicate (5 - (lg_sl ([.ref (ad 0), .long a1, .int a2])).length) Slot.unset).toArray = ls at hl ⊢
  have hl : lv_has ls 5 [(0, .ref (ad 0)), (1, .long a1), (3, .int a2)] := hl
  refine lv_aload_n hx hb d_X_pour_0 rfl (lv_at hl 0 rfl) ?_
  refine lv_iload_n hx hb d_X_pour_1 rfl (lv_at hl 2 rfl) ?_
  refine wc_q (va_runV (As := [.int a2]) (rest := []) ⟨hx, hb, hml, hown, hts⟩ (c_X_layerAt l g ad hL x a2 _) (cwV 1 hts (gd_V tw_155 tw_157 tw_0 tw_24 tw_158) rfl rfl rfl (by decide +kernel) ⟨Nat.le_of_ble_eq_true rfl, Nat.le_of_ble_eq_true rfl⟩) (wp_V hK hN hP hJ (0) (by omega) rfl rfl) rfl rfl hl.1 rfl (lv_room (Nat.le_of_ble_eq_true rfl)) d_X_pour_2 ⟨Nat.zero_le _, Nat.zero_le _⟩) hS (fun H locs hP hS => ?_)
  rcases x_la_cases hL a2 with q_1 | ⟨i_2, hi_2, hni_2, q_1⟩
  · rw [q_1]
    refine W.eq (g2 := F0 m 5 ls [.null]) rfl ?_
    refine lv_astoreN (lv' := [(4, .null), (0, .ref (ad 0)), (1, .long a1), (3, .int a2)]) hx hb d_X_pour_5 hl (by decide) rfl (fun ls hl => ?_)
    refine lv_aloadN hx hb d_X_pour_7 (lv_at hl 0 rfl) ?_
    refine lv_ifnonnullN hx hb d_X_pour_9 ?_
    refine lv_aload_n hx hb d_X_pour_12 rfl (lv_at hl 1 rfl) ?_
    refine wr_get hx hb hts in_X hown hK hP (0) (by omega) rfl rfl 3 (by decide) (hts _ tw_119) rfl d_X_pour_13 ?_
    refine lv_iconst (v := 2) hx hb d_X_pour_16 (by decide) ?_
    refine lv_dup2_11 hx hb d_X_pour_17 rfl rfl ?_
    refine wr_lald hx hb hK hP (3) 0 (by omega) rfl rfl 2 (by decide) (by omega) (by omega) d_X_pour_18 ?_
    refine lv_lload_n hx hb d_X_pour_19 rfl (lv_at hl 2 rfl) ?_
    refine lv_ladd hx hb d_X_pour_20 ?_
    obtain ⟨x_3, ex_3⟩ : ∃ z9, z9 = xO' x 0 2 ((xO x 0 2) + a1) := ⟨_, rfl⟩
    refine wr_last (E' := xE g ad L x_3) hx hb hK hP hJ hS (3) 0 (by omega) rfl rfl 2 (by decide) (by omega) (by omega) (by rw [ex_3]; exact xU_O g ad L x 0 2 (by decide) ((xO x 0 2) + a1)) d_X_pour_21 (fun H locs hP hS => ?_)
    refine lv_goto (tgt := 36) hx hb d_X_pour_22 (by decide) ?_
    subst ex_3
    exact W.vret hx hb hr (fun t ht hW => ⟨⟨(), rfl, trivial, by dsimp only; rw [ht]; (try simp only [x_pour, q_1]); exact hP⟩, hS.F ht⟩) hS.2.2 d_X_pour_36
  · rw [q_1]
    refine W.eq (g2 := F0 m 5 ls [.ref (ad (7 + 2 * i_2))]) rfl ?_
    refine lv_astore (lv' := [(4, .ref (ad (7 + 2 * i_2))), (0, .ref (ad 0)), (1, .long a1), (3, .int a2)]) hx hb d_X_pour_5 hl (by decide) rfl (fun ls hl => ?_)
    refine lv_aload hx hb d_X_pour_7 (lv_at hl 0 rfl) ?_
    refine lv_ifnonnull (tgt := 25) hx hb d_X_pour_9 (by decide) ?_
    refine lv_aload hx hb d_X_pour_25 (lv_at hl 0 rfl) ?_
    refine wr_get hx hb hts in_Y hown hK hP (7 + 2 * i_2) (by omega) (xE_lay g ad L x hi_2) rfl 0 (by decide) (hts _ tw_79) rfl d_X_pour_27 ?_
    refine lv_iconst (v := 3) hx hb d_X_pour_30 (by decide) ?_
    refine lv_dup2_11 hx hb d_X_pour_31 rfl rfl ?_
    refine wr_lald hx hb hK hP (8 + 2 * i_2) 0 (by omega) (xE_stk g ad L x hi_2) rfl 3 (by decide) (by omega) (by omega) d_X_pour_32 ?_
    refine lv_lload_n hx hb d_X_pour_33 rfl (lv_at hl 2 rfl) ?_
    refine lv_ladd hx hb d_X_pour_34 ?_
    obtain ⟨x_4, ex_4⟩ : ∃ z9, z9 = xT' x i_2 3 ((xT x i_2 3) + a1) := ⟨_, rfl⟩
    refine wr_last (E' := xE g ad L x_4) hx hb hK hP hJ hS (8 + 2 * i_2) 0 (by omega) (xE_stk g ad L x hi_2) rfl 3 (by decide) (by omega) (by omega) (by rw [ex_4]; exact xU_T g ad L x hi_2 3 ((xT x i_2 3) + a1)) d_X_pour_35 (fun H locs hP hS => ?_)
    subst ex_4
    exact W.vret hx hb hr (fun t ht hW => ⟨⟨(), rfl, trivial, by dsimp only; rw [ht]; (try simp only [x_pour, q_1]); exact hP⟩, hS.F ht⟩) hS.2.2 d_X_pour_36
set_option maxHeartbeats 4000000 in
set_option maxRecDepth 100000 in
theorem c_X_breakPart (l : Launch) (g : wG) (ad : Nat → Nat) {L : Nat} (hL : 1 ≤ L ∧ L ≤ 6) (x : xS) (hrow : x_rows x) {i : Nat} (hi : i < L) (k : Nat) (hk : k < 3) (a3 : Int64) : CtV l y_X_breakPart ws_X_breakPart ({ frames := 1, cells := 0, slots := 0, locals := 24 }) g (16 + 2 * L) ad (xE g ad L x) (xE g ad L (x_breakPart x i k a3)) [.ref (ad 0), .ref (ad (7 + 2 * i)), .int (nI k), .long a3] := by
  intro sz
  refine Met.ofW (cc := b_X_breakPart) (maxL := 12) (ret := none) (by decide +kernel) rfl ?_
  intro p e s m args below meth c s₁ B hml hv
  obtain ⟨rfl, hsz, hP, hK, hN, hJ⟩ := hv
  have hx := B.exec
  have hb := B.bytes
  have hr := B.returns
  have hts0 := atoms_spec (ws := ws_X_breakPart) B.pre
  have hts : ∀ w ∈ tb, w.before _ s = true := fun w h => hts0 w (List.mem_cons_of_mem _ h)
  have hown : s.vm.findClass "HeapSteps" = some m.cls := findClass_of_methodNamed B.named
  have hlocks := B.notSynchronized
  subst hsz
  have hS : va_S (wA (16 + 2 * L) ad s.heap.size) s.heap s.heap [] := va_S.rf
  have hl := lv_entry ([.ref (ad 0), .ref (ad (7 + 2 * i)), .int (nI k), .long a3]) (n := 12) (Nat.le_of_ble_eq_true rfl)
  rw [lg_entry_eq]
  generalize (lg_sl ([.ref (ad 0), .ref (ad (7 + 2 * i)), .int (nI k), .long a3]) ++ List.replicate (12 - (lg_sl ([.ref (ad 0), .ref (ad (7 + 2 * i)), .int (nI k), .long a3])).length) Slot.unset).toArray = ls at hl ⊢
  have hl : lv_has ls 12 [(0, .ref (ad 0)), (1, .ref (ad (7 + 2 * i))), (2, .int (nI k)), (3, .long a3)] := hl
  refine lv_aload_n hx hb d_X_breakPart_0 rfl (lv_at hl 0 rfl) ?_
  refine wr_get hx hb hts in_X hown hK hP (0) (by omega) rfl rfl 1 (by decide) (hts _ tw_117) rfl d_X_breakPart_1 ?_
  refine lv_iload_n hx hb d_X_breakPart_4 rfl (lv_at hl 2 rfl) ?_
  refine wr_aldq hx hb hK hP (1) 3 (by omega) rfl rfl k rfl (by omega) (by omega) (v := ad (7 + 2 * L + 3 * k)) (if_pos (by omega)) d_X_breakPart_5 ?_
  refine lv_astore (lv' := [(5, .ref (ad (7 + 2 * L + 3 * k))), (0, .ref (ad 0)), (1, .ref (ad (7 + 2 * i))), (2, .int (nI k)), (3, .long a3)]) hx hb d_X_breakPart_6 hl (by decide) rfl (fun ls hl => ?_)
  refine lv_aload_n hx hb d_X_breakPart_8 rfl (lv_at hl 2 rfl) ?_
  refine wr_get hx hb hts in_Y hown hK hP (7 + 2 * i) (by omega) (xE_lay g ad L x hi) rfl 0 (by decide) (hts _ tw_79) rfl d_X_breakPart_9 ?_
  refine lv_iload_n hx hb d_X_breakPart_12 rfl (lv_at hl 3 rfl) ?_
  refine wr_lald hx hb hK hP (8 + 2 * i) 0 (by omega) (xE_stk g ad L x hi) rfl k rfl (by omega) (by omega) d_X_breakPart_13 ?_
  refine lv_aload hx hb d_X_breakPart_14 (lv_at hl 0 rfl) ?_
  refine lv_lload_n hx hb d_X_breakPart_16 rfl (lv_at hl 4 rfl) ?_
  refine wc_i (va_runV (As := [.long a3]) (rest := [.long (xT x i k)]) ⟨hx, hb, hml, hown, hts⟩ (c_K_millionthsAt l g ad hL x k (by omega) (hrow k (by omega)) a3 _) (cwV 1 hts (gd_V tw_246 tw_247 tw_248 tw_27 tw_249) rfl rfl rfl (by decide +kernel) ⟨Nat.le_of_ble_eq_true rfl, Nat.le_of_ble_eq_true rfl⟩) (wp_V hK hN hP hJ (7 + 2 * L + 3 * k) (by omega) (xE_kind g ad L x k) rfl) rfl rfl hl.1 rfl (lv_room (Nat.le_of_ble_eq_true rfl)) d_X_breakPart_17 ⟨Nat.zero_le _, Nat.zero_le _⟩) hS (fun H locs hP hS => ?_)
  refine lv_i2l hx hb d_X_breakPart_20 rfl ?_
  refine wc_l (va_runS (As := [.long (xT x i k), .long (Int32.toInt64 (x_mAt x k a3))]) (rest := []) ⟨hx, hb, hml, hown, hts⟩ (c_X_millionthsOf l g _ ad _ (xT x i k) (Int32.toInt64 (x_mAt x k a3)) _) (cwS 2 hts (gd_S tw_250 tw_251 tw_24 tw_252) rfl rfl rfl (by decide +kernel) ⟨Nat.le_of_ble_eq_true rfl, Nat.le_of_ble_eq_true rfl⟩) (wp_S hK hN hP hJ) rfl rfl hl.1 rfl (lv_room (Nat.le_of_ble_eq_true rfl)) d_X_breakPart_21 ⟨Nat.zero_le _, Nat.zero_le _⟩) hS (fun H locs hP hS => ?_)
  refine lv_topl (fun v_1 ev_1 => ?_)
  refine lv_lstore (lv' := [(6, .long v_1), (5, .ref (ad (7 + 2 * L + 3 * k))), (0, .ref (ad 0)), (1, .ref (ad (7 + 2 * i))), (2, .int (nI k)), (3, .long a3)]) hx hb d_X_breakPart_24 hl (by decide) rfl (fun ls hl => ?_)
  refine lv_lload hx hb d_X_breakPart_26 (lv_at hl 0 rfl) ?_
  refine lv_aload hx hb d_X_breakPart_28 (lv_at hl 1 rfl) ?_
  refine wr_get hx hb hts in_K hown hK hP (7 + 2 * L + 3 * k) (by omega) (xE_kind g ad L x k) rfl 3 (by decide) (hts _ tw_101) rfl d_X_breakPart_30 ?_
  refine lv_i2l hx hb d_X_breakPart_33 rfl ?_
  refine lv_lmul hx hb d_X_breakPart_34 ?_
  refine lv_topl (fun v_2 ev_2 => ?_)
  refine lv_lstore (lv' := [(8, .long v_2), (6, .long v_1), (5, .ref (ad (7 + 2 * L + 3 * k))), (0, .ref (ad 0)), (1, .ref (ad (7 + 2 * i))), (2, .int (nI k)), (3, .long a3)]) hx hb d_X_breakPart_35 hl (by decide) rfl (fun ls hl => ?_)
  refine lv_lload hx hb d_X_breakPart_37 (lv_at hl 1 rfl) ?_
  refine lv_aload hx hb d_X_breakPart_39 (lv_at hl 2 rfl) ?_
  refine wr_get hx hb hts in_K hown hK hP (7 + 2 * L + 3 * k) (by omega) (xE_kind g ad L x k) rfl 4 (by decide) (hts _ tw_103) rfl d_X_breakPart_41 ?_
  refine lv_i2l hx hb d_X_breakPart_44 rfl ?_
  refine lv_lmul hx hb d_X_breakPart_45 ?_
  refine lv_ldc2 (v := 1000) hx hb hown (hts _ tw_254) d_X_breakPart_46 ?_
  refine lv_ldiv hx hb d_X_breakPart_49 (by decide) ?_
  refine lv_topl (fun v_3 ev_3 => ?_)
  refine lv_lstore (lv' := [(10, .long v_3), (8, .long v_2), (6, .long v_1), (5, .ref (ad (7 + 2 * L + 3 * k))), (0, .ref (ad 0)), (1, .ref (ad (7 + 2 * i))), (2, .int (nI k)), (3, .long a3)]) hx hb d_X_breakPart_50 hl (by decide) rfl (fun ls hl => ?_)
  refine lv_aload_n hx hb d_X_breakPart_52 rfl (lv_at hl 5 rfl) ?_
  refine wr_get hx hb hts in_Y hown hK hP (7 + 2 * i) (by omega) (xE_lay g ad L x hi) rfl 0 (by decide) (hts _ tw_79) rfl d_X_breakPart_53 ?_
  refine lv_iload_n hx hb d_X_breakPart_56 rfl (lv_at hl 6 rfl) ?_
  refine lv_dup2_11 hx hb d_X_breakPart_57 rfl rfl ?_
  refine wr_lald hx hb hK hP (8 + 2 * i) 0 (by omega) (xE_stk g ad L x hi) rfl k rfl (by omega) (by omega) d_X_breakPart_58 ?_
  refine lv_lload hx hb d_X_breakPart_59 (lv_at hl 2 rfl) ?_
  refine lv_lsub hx hb d_X_breakPart_61 ?_
  obtain ⟨x_4, ex_4⟩ : ∃ z9, z9 = xT' x i k ((xT x i k) - v_1) := ⟨_, rfl⟩
  refine wr_last (E' := xE g ad L x_4) hx hb hK hP hJ hS (8 + 2 * i) 0 (by omega) (xE_stk g ad L x hi) rfl k rfl (by omega) (by omega) (by rw [ex_4]; exact xU_T g ad L x hi k ((xT x i k) - v_1)) d_X_breakPart_62 (fun H locs hP hS => ?_)
  refine lv_aload_n hx hb d_X_breakPart_63 rfl (lv_at hl 5 rfl) ?_
  refine wr_get hx hb hts in_Y hown hK hP (7 + 2 * i) (by omega) (xE_lay g ad L x_4 hi) rfl 0 (by decide) (hts _ tw_79) rfl d_X_breakPart_64 ?_
  refine lv_iconst (v := 4) hx hb d_X_breakPart_67 (by decide) ?_
  refine lv_dup2_11 hx hb d_X_breakPart_68 rfl rfl ?_
  refine wr_lald hx hb hK hP (8 + 2 * i) 0 (by omega) (xE_stk g ad L x_4 hi) rfl 4 (by decide) (by omega) (by omega) d_X_breakPart_69 ?_
  refine lv_lload hx hb d_X_breakPart_70 (lv_at hl 1 rfl) ?_
  refine lv_ladd hx hb d_X_breakPart_72 ?_
  obtain ⟨x_5, ex_5⟩ : ∃ z9, z9 = xT' x_4 i 4 ((xT x_4 i 4) + v_2) := ⟨_, rfl⟩
  refine wr_last (E' := xE g ad L x_5) hx hb hK hP hJ hS (8 + 2 * i) 0 (by omega) (xE_stk g ad L x_4 hi) rfl 4 (by decide) (by omega) (by omega) (by rw [ex_5]; exact xU_T g ad L x_4 hi 4 ((xT x_4 i 4) + v_2)) d_X_breakPart_73 (fun H locs hP hS => ?_)
  refine lv_aload_n hx hb d_X_breakPart_74 rfl (lv_at hl 5 rfl) ?_
  refine wr_get hx hb hts in_Y hown hK hP (7 + 2 * i) (by omega) (xE_lay g ad L x_5 hi) rfl 0 (by decide) (hts _ tw_79) rfl d_X_breakPart_75 ?_
  refine lv_iconst (v := 3) hx hb d_X_breakPart_78 (by decide) ?_
  refine lv_dup2_11 hx hb d_X_breakPart_79 rfl rfl ?_
  refine wr_lald hx hb hK hP (8 + 2 * i) 0 (by omega) (xE_stk g ad L x_5 hi) rfl 3 (by decide) (by omega) (by omega) d_X_breakPart_80 ?_
  refine lv_lload hx hb d_X_breakPart_81 (lv_at hl 0 rfl) ?_
  refine lv_ladd hx hb d_X_breakPart_83 ?_
  obtain ⟨x_6, ex_6⟩ : ∃ z9, z9 = xT' x_5 i 3 ((xT x_5 i 3) + v_3) := ⟨_, rfl⟩
  refine wr_last (E' := xE g ad L x_6) hx hb hK hP hJ hS (8 + 2 * i) 0 (by omega) (xE_stk g ad L x_5 hi) rfl 3 (by decide) (by omega) (by omega) (by rw [ex_6]; exact xU_T g ad L x_5 hi 3 ((xT x_5 i 3) + v_3)) d_X_breakPart_84 (fun H locs hP hS => ?_)
  refine lv_aload_n hx hb d_X_breakPart_85 rfl (lv_at hl 4 rfl) ?_
  refine wr_get hx hb hts in_X hown hK hP (0) (by omega) rfl rfl 3 (by decide) (hts _ tw_119) rfl d_X_breakPart_86 ?_
  refine lv_iconst (v := 0) hx hb d_X_breakPart_89 (by decide) ?_
  refine lv_dup2_11 hx hb d_X_breakPart_90 rfl rfl ?_
  refine wr_lald hx hb hK hP (3) 0 (by omega) rfl rfl 0 (by decide) (by omega) (by omega) d_X_breakPart_91 ?_
  refine lv_lload hx hb d_X_breakPart_92 (lv_at hl 2 rfl) ?_
  refine lv_ladd hx hb d_X_breakPart_94 ?_
  obtain ⟨x_7, ex_7⟩ : ∃ z9, z9 = xO' x_6 0 0 ((xO x_6 0 0) + v_1) := ⟨_, rfl⟩
  refine wr_last (E' := xE g ad L x_7) hx hb hK hP hJ hS (3) 0 (by omega) rfl rfl 0 (by decide) (by omega) (by omega) (by rw [ex_7]; exact xU_O g ad L x_6 0 0 (by decide) ((xO x_6 0 0) + v_1)) d_X_breakPart_95 (fun H locs hP hS => ?_)
  refine lv_aload_n hx hb d_X_breakPart_96 rfl (lv_at hl 4 rfl) ?_
  refine wr_get hx hb hts in_X hown hK hP (0) (by omega) rfl rfl 3 (by decide) (hts _ tw_119) rfl d_X_breakPart_97 ?_
  refine lv_iconst (v := 4) hx hb d_X_breakPart_100 (by decide) ?_
  refine lv_dup2_11 hx hb d_X_breakPart_101 rfl rfl ?_
  refine wr_lald hx hb hK hP (3) 0 (by omega) rfl rfl 4 (by decide) (by omega) (by omega) d_X_breakPart_102 ?_
  refine lv_lload hx hb d_X_breakPart_103 (lv_at hl 1 rfl) ?_
  refine lv_ladd hx hb d_X_breakPart_105 ?_
  obtain ⟨x_8, ex_8⟩ : ∃ z9, z9 = xO' x_7 0 4 ((xO x_7 0 4) + v_2) := ⟨_, rfl⟩
  refine wr_last (E' := xE g ad L x_8) hx hb hK hP hJ hS (3) 0 (by omega) rfl rfl 4 (by decide) (by omega) (by omega) (by rw [ex_8]; exact xU_O g ad L x_7 0 4 (by decide) ((xO x_7 0 4) + v_2)) d_X_breakPart_106 (fun H locs hP hS => ?_)
  refine lv_aload_n hx hb d_X_breakPart_107 rfl (lv_at hl 4 rfl) ?_
  refine wr_get hx hb hts in_X hown hK hP (0) (by omega) rfl rfl 3 (by decide) (hts _ tw_119) rfl d_X_breakPart_108 ?_
  refine lv_bipush (v := 7) hx hb d_X_breakPart_111 (by decide) ?_
  refine lv_dup2_11 hx hb d_X_breakPart_113 rfl rfl ?_
  refine wr_lald hx hb hK hP (3) 0 (by omega) rfl rfl 7 (by decide) (by omega) (by omega) d_X_breakPart_114 ?_
  refine lv_lload hx hb d_X_breakPart_115 (lv_at hl 0 rfl) ?_
  refine lv_ladd hx hb d_X_breakPart_117 ?_
  obtain ⟨x_9, ex_9⟩ : ∃ z9, z9 = xO' x_8 0 7 ((xO x_8 0 7) + v_3) := ⟨_, rfl⟩
  refine wr_last (E' := xE g ad L x_9) hx hb hK hP hJ hS (3) 0 (by omega) rfl rfl 7 (by decide) (by omega) (by omega) (by rw [ex_9]; exact xU_O g ad L x_8 0 7 (by decide) ((xO x_8 0 7) + v_3)) d_X_breakPart_118 (fun H locs hP hS => ?_)
  subst ev_1
  subst ev_2
  subst ev_3
  subst ex_4
  subst ex_5
  subst ex_6
  subst ex_7
  subst ex_8
  subst ex_9
  exact W.vret hx hb hr (fun t ht hW => ⟨⟨(), rfl, trivial, by dsimp only; rw [ht]; (try simp only [x_breakPart]); exact hP⟩, hS.F ht⟩) hS.2.2 d_X_breakPart_119
set_option maxHeartbeats 4000000 in
set_option maxRecDepth 100000 in
theorem c_X_breakParts (l : Launch) (g : wG) (ad : Nat → Nat) {L : Nat} (hL : 1 ≤ L ∧ L ≤ 6) (x : xS) (hrow : x_rows x) {i : Nat} (hi : i < L) : CtV l y_X_breakParts ws_X_breakParts ({ frames := 2, cells := 0, slots := 0, locals := 55 }) g (16 + 2 * L) ad (xE g ad L x) (xE g ad L (x_break x i)) [.ref (ad 0), .ref (ad (7 + 2 * i))] := by
  intro sz
  refine Met.ofW (cc := b_X_breakParts) (maxL := 5) (ret := none) (by decide +kernel) rfl ?_
  intro p e s m args below meth c s₁ B hml hv
  obtain ⟨rfl, hsz, hP, hK, hN, hJ⟩ := hv
  have hx := B.exec
  have hb := B.bytes
  have hr := B.returns
  have hts0 := atoms_spec (ws := ws_X_breakParts) B.pre
  have hts : ∀ w ∈ tb, w.before _ s = true := fun w h => hts0 w (List.mem_cons_of_mem _ h)
  have hown : s.vm.findClass "HeapSteps" = some m.cls := findClass_of_methodNamed B.named
  have hlocks := B.notSynchronized
  subst hsz
  have hS : va_S (wA (16 + 2 * L) ad s.heap.size) s.heap s.heap [] := va_S.rf
  have hl := lv_entry ([.ref (ad 0), .ref (ad (7 + 2 * i))]) (n := 5) (Nat.le_of_ble_eq_true rfl)
  rw [lg_entry_eq]
  generalize (lg_sl ([.ref (ad 0), .ref (ad (7 + 2 * i))]) ++ List.replicate (5 - (lg_sl ([.ref (ad 0), .ref (ad (7 + 2 * i))])).length) Slot.unset).toArray = ls at hl ⊢
  have hl : lv_has ls 5 [(0, .ref (ad 0)), (1, .ref (ad (7 + 2 * i)))] := hl
  refine lv_aload_n hx hb d_X_breakParts_0 rfl (lv_at hl 1 rfl) ?_
  refine wr_get hx hb hts in_Y hown hK hP (7 + 2 * i) (by omega) (xE_lay g ad L x hi) rfl 0 (by decide) (hts _ tw_79) rfl d_X_breakParts_1 ?_
  refine lv_iconst (v := 3) hx hb d_X_breakParts_4 (by decide) ?_
  refine wr_lald hx hb hK hP (8 + 2 * i) 0 (by omega) (xE_stk g ad L x hi) rfl 3 (by decide) (by omega) (by omega) d_X_breakParts_5 ?_
  refine lv_aload_n hx hb d_X_breakParts_6 rfl (lv_at hl 1 rfl) ?_
  refine wr_get hx hb hts in_Y hown hK hP (7 + 2 * i) (by omega) (xE_lay g ad L x hi) rfl 1 (by decide) (hts _ tw_81) rfl d_X_breakParts_7 ?_
  refine lv_i2l hx hb d_X_breakParts_10 rfl ?_
  refine W.lcmp hx hb d_X_breakParts_11 ?_
  refine lv_if_ge (tgt := 16) hx hb d_X_breakParts_12 (by decide) (fun c_1 => ?_) (fun c_1 => ?_)
  · skip
    refine lv_aload_n hx hb d_X_breakParts_16 rfl (lv_at hl 1 rfl) ?_
    refine wc_l (va_runV (As := []) (rest := []) ⟨hx, hb, hml, hown, hts⟩ (c_Y_warmthNow l g ad hL x hi _) (cwV 0 hts (gd_V tw_219 tw_220 tw_221 tw_26 tw_222) rfl rfl rfl (by decide +kernel) ⟨Nat.le_of_ble_eq_true rfl, Nat.le_of_ble_eq_true rfl⟩) (wp_V hK hN hP hJ (7 + 2 * i) (by omega) (xE_lay g ad L x hi) rfl) rfl rfl hl.1 rfl (lv_room (Nat.le_of_ble_eq_true rfl)) d_X_breakParts_17 ⟨Nat.zero_le _, Nat.zero_le _⟩) hS (fun H locs hP hS => ?_)
    refine lv_topl (fun v_2 ev_2 => ?_)
    refine lv_lstore_n (lv' := [(2, .long v_2), (0, .ref (ad 0)), (1, .ref (ad (7 + 2 * i)))]) hx hb d_X_breakParts_20 rfl hl (by decide) rfl (fun ls hl => ?_)
    refine lv_iconst (v := 0) hx hb d_X_breakParts_21 (by decide) ?_
    refine lv_istore (lv' := [(4, .int 0), (2, .long v_2), (0, .ref (ad 0)), (1, .ref (ad (7 + 2 * i)))]) hx hb d_X_breakParts_22 hl (by decide) rfl (fun ls hl => ?_)
    refine lv_iload hx hb d_X_breakParts_24 (lv_at hl 0 rfl) ?_
    refine lv_iconst (v := 3) hx hb d_X_breakParts_26 (by decide) ?_
    refine lv_icmp_ge (tgt := 44) hx hb d_X_breakParts_27 (by decide) (fun c_3 => absurd c_3 (by decide)) (fun c_3 => ?_)
    refine lv_aload_n hx hb d_X_breakParts_30 rfl (lv_at hl 2 rfl) ?_
    refine lv_aload_n hx hb d_X_breakParts_31 rfl (lv_at hl 3 rfl) ?_
    refine lv_iload hx hb d_X_breakParts_32 (lv_at hl 0 rfl) ?_
    refine lv_lload_n hx hb d_X_breakParts_34 rfl (lv_at hl 1 rfl) ?_
    refine wc_v (va_runV (As := [.ref (ad (7 + 2 * i)), .int 0, .long v_2]) (rest := []) ⟨hx, hb, hml, hown, hts⟩ (c_X_breakPart l g ad hL x hrow hi 0 (by omega) v_2 _) (cwV 3 hts (gd_V tw_242 tw_244 tw_6 tw_24 tw_245) rfl rfl rfl (by decide +kernel) ⟨Nat.le_of_ble_eq_true rfl, Nat.le_of_ble_eq_true rfl⟩) (wp_V hK hN hP hJ (0) (by omega) rfl rfl) rfl rfl hl.1 rfl (lv_room (Nat.le_of_ble_eq_true rfl)) d_X_breakParts_35 ⟨Nat.zero_le _, Nat.zero_le _⟩) hS (fun H locs hP hS => ?_)
    obtain ⟨x_4, ex_4⟩ : ∃ z9, z9 = x_breakPart x i 0 v_2 := ⟨_, rfl⟩
    have hrow : x_rows x_4 := by rw [ex_4]; exact x_rows_breakPart hrow _ _ _
    rw [← ex_4] at hP
    refine lv_iinc (v := 1) (lv' := [(4, .int 1), (2, .long v_2), (0, .ref (ad 0)), (1, .ref (ad (7 + 2 * i)))]) hx hb d_X_breakParts_38 hl (k := 0) rfl (by decide) (by decide) rfl (fun ls hl => ?_)
    refine lv_goto (tgt := 24) hx hb d_X_breakParts_41 (by decide) ?_
    refine lv_iload hx hb d_X_breakParts_24 (lv_at hl 0 rfl) ?_
    refine lv_iconst (v := 3) hx hb d_X_breakParts_26 (by decide) ?_
    refine lv_icmp_ge (tgt := 44) hx hb d_X_breakParts_27 (by decide) (fun c_5 => absurd c_5 (by decide)) (fun c_5 => ?_)
    refine lv_aload_n hx hb d_X_breakParts_30 rfl (lv_at hl 2 rfl) ?_
    refine lv_aload_n hx hb d_X_breakParts_31 rfl (lv_at hl 3 rfl) ?_
    refine lv_iload hx hb d_X_breakParts_32 (lv_at hl 0 rfl) ?_
    refine lv_lload_n hx hb d_X_breakParts_34 rfl (lv_at hl 1 rfl) ?_
    refine wc_v (va_runV (As := [.ref (ad (7 + 2 * i)), .int 1, .long v_2]) (rest := []) ⟨hx, hb, hml, hown, hts⟩ (c_X_breakPart l g ad hL x_4 hrow hi 1 (by omega) v_2 _) (cwV 3 hts (gd_V tw_242 tw_244 tw_6 tw_24 tw_245) rfl rfl rfl (by decide +kernel) ⟨Nat.le_of_ble_eq_true rfl, Nat.le_of_ble_eq_true rfl⟩) (wp_V hK hN hP hJ (0) (by omega) rfl rfl) rfl rfl hl.1 rfl (lv_room (Nat.le_of_ble_eq_true rfl)) d_X_breakParts_35 ⟨Nat.zero_le _, Nat.zero_le _⟩) hS (fun H locs hP hS => ?_)
    obtain ⟨x_6, ex_6⟩ : ∃ z9, z9 = x_breakPart x_4 i 1 v_2 := ⟨_, rfl⟩
    have hrow : x_rows x_6 := by rw [ex_6]; exact x_rows_breakPart hrow _ _ _
    rw [← ex_6] at hP
    refine lv_iinc (v := 2) (lv' := [(4, .int 2), (2, .long v_2), (0, .ref (ad 0)), (1, .ref (ad (7 + 2 * i)))]) hx hb d_X_breakParts_38 hl (k := 0) rfl (by decide) (by decide) rfl (fun ls hl => ?_)
    refine lv_goto (tgt := 24) hx hb d_X_breakParts_41 (by decide) ?_
    refine lv_iload hx hb d_X_breakParts_24 (lv_at hl 0 rfl) ?_
    refine lv_iconst (v := 3) hx hb d_X_breakParts_26 (by decide) ?_
    refine lv_icmp_ge (tgt := 44) hx hb d_X_breakParts_27 (by decide) (fun c_7 => absurd c_7 (by decide)) (fun c_7 => ?_)
    refine lv_aload_n hx hb d_X_breakParts_30 rfl (lv_at hl 2 rfl) ?_
    refine lv_aload_n hx hb d_X_breakParts_31 rfl (lv_at hl 3 rfl) ?_
    refine lv_iload hx hb d_X_breakParts_32 (lv_at hl 0 rfl) ?_
    refine lv_lload_n hx hb d_X_breakParts_34 rfl (lv_at hl 1 rfl) ?_
    refine wc_v (va_runV (As := [.ref (ad (7 + 2 * i)), .int 2, .long v_2]) (rest := []) ⟨hx, hb, hml, hown, hts⟩ (c_X_breakPart l g ad hL x_6 hrow hi 2 (by omega) v_2 _) (cwV 3 hts (gd_V tw_242 tw_244 tw_6 tw_24 tw_245) rfl rfl rfl (by decide +kernel) ⟨Nat.le_of_ble_eq_true rfl, Nat.le_of_ble_eq_true rfl⟩) (wp_V hK hN hP hJ (0) (by omega) rfl rfl) rfl rfl hl.1 rfl (lv_room (Nat.le_of_ble_eq_true rfl)) d_X_breakParts_35 ⟨Nat.zero_le _, Nat.zero_le _⟩) hS (fun H locs hP hS => ?_)
    obtain ⟨x_8, ex_8⟩ : ∃ z9, z9 = x_breakPart x_6 i 2 v_2 := ⟨_, rfl⟩
    have hrow : x_rows x_8 := by rw [ex_8]; exact x_rows_breakPart hrow _ _ _
    rw [← ex_8] at hP
    refine lv_iinc (v := 3) (lv' := [(4, .int 3), (2, .long v_2), (0, .ref (ad 0)), (1, .ref (ad (7 + 2 * i)))]) hx hb d_X_breakParts_38 hl (k := 0) rfl (by decide) (by decide) rfl (fun ls hl => ?_)
    refine lv_goto (tgt := 24) hx hb d_X_breakParts_41 (by decide) ?_
    refine lv_iload hx hb d_X_breakParts_24 (lv_at hl 0 rfl) ?_
    refine lv_iconst (v := 3) hx hb d_X_breakParts_26 (by decide) ?_
    refine lv_icmp_ge (tgt := 44) hx hb d_X_breakParts_27 (by decide) (fun c_9 => ?_) (fun c_9 => absurd (by decide) c_9)
    subst ev_2
    subst ex_4
    subst ex_6
    subst ex_8
    exact W.vret hx hb hr (fun t ht hW => ⟨⟨(), rfl, trivial, by dsimp only; rw [ht]; (try simp only [x_break, if_pos c_1]); exact hP⟩, hS.F ht⟩) hS.2.2 d_X_breakParts_44
  · skip
    exact W.vret hx hb hr (fun t ht hW => ⟨⟨(), rfl, trivial, by dsimp only; rw [ht]; (try simp only [x_break, if_neg c_1]); exact hP⟩, hS.F ht⟩) hS.2.2 d_X_breakParts_15
set_option maxHeartbeats 4000000 in
set_option maxRecDepth 100000 in
theorem c_X_loseHeat (l : Launch) (g : wG) (ad : Nat → Nat) {L : Nat} (hL : 1 ≤ L ∧ L ≤ 6) (x : xS) {i : Nat} (hi : i < L) : CtV l y_X_loseHeat ws_X_loseHeat ({ frames := 1, cells := 0, slots := 0, locals := 23 }) g (16 + 2 * L) ad (xE g ad L x) (xE g ad L (x_loseHeat x i)) [.ref (ad 0), .ref (ad (7 + 2 * i))] := by
  intro sz
  refine Met.ofW (cc := b_X_loseHeat) (maxL := 4) (ret := none) (by decide +kernel) rfl ?_
  intro p e s m args below meth c s₁ B hml hv
  obtain ⟨rfl, hsz, hP, hK, hN, hJ⟩ := hv
  have hx := B.exec
  have hb := B.bytes
  have hr := B.returns
  have hts0 := atoms_spec (ws := ws_X_loseHeat) B.pre
  have hts : ∀ w ∈ tb, w.before _ s = true := fun w h => hts0 w (List.mem_cons_of_mem _ h)
  have hown : s.vm.findClass "HeapSteps" = some m.cls := findClass_of_methodNamed B.named
  have hlocks := B.notSynchronized
  subst hsz
  have hS : va_S (wA (16 + 2 * L) ad s.heap.size) s.heap s.heap [] := va_S.rf
  have hl := lv_entry ([.ref (ad 0), .ref (ad (7 + 2 * i))]) (n := 4) (Nat.le_of_ble_eq_true rfl)
  rw [lg_entry_eq]
  generalize (lg_sl ([.ref (ad 0), .ref (ad (7 + 2 * i))]) ++ List.replicate (4 - (lg_sl ([.ref (ad 0), .ref (ad (7 + 2 * i))])).length) Slot.unset).toArray = ls at hl ⊢
  have hl : lv_has ls 4 [(0, .ref (ad 0)), (1, .ref (ad (7 + 2 * i)))] := hl
  refine lv_aload_n hx hb d_X_loseHeat_0 rfl (lv_at hl 1 rfl) ?_
  refine wr_get hx hb hts in_Y hown hK hP (7 + 2 * i) (by omega) (xE_lay g ad L x hi) rfl 0 (by decide) (hts _ tw_79) rfl d_X_loseHeat_1 ?_
  refine lv_iconst (v := 4) hx hb d_X_loseHeat_4 (by decide) ?_
  refine wr_lald hx hb hK hP (8 + 2 * i) 0 (by omega) (xE_stk g ad L x hi) rfl 4 (by decide) (by omega) (by omega) d_X_loseHeat_5 ?_
  refine lv_aload_n hx hb d_X_loseHeat_6 rfl (lv_at hl 0 rfl) ?_
  refine wr_get hx hb hts in_X hown hK hP (0) (by omega) rfl rfl 7 (by decide) (hts _ tw_123) rfl d_X_loseHeat_7 ?_
  refine lv_i2l hx hb d_X_loseHeat_10 rfl ?_
  refine wc_l (va_runS (As := [.long (xT x i 4), .long (Int32.toInt64 (xI x 1))]) (rest := []) ⟨hx, hb, hml, hown, hts⟩ (c_X_millionthsOf l g _ ad _ (xT x i 4) (Int32.toInt64 (xI x 1)) _) (cwS 2 hts (gd_S tw_250 tw_251 tw_24 tw_252) rfl rfl rfl (by decide +kernel) ⟨Nat.le_of_ble_eq_true rfl, Nat.le_of_ble_eq_true rfl⟩) (wp_S hK hN hP hJ) rfl rfl hl.1 rfl (lv_room (Nat.le_of_ble_eq_true rfl)) d_X_loseHeat_11 ⟨Nat.zero_le _, Nat.zero_le _⟩) hS (fun H locs hP hS => ?_)
  refine lv_topl (fun v_1 ev_1 => ?_)
  refine lv_lstore_n (lv' := [(2, .long v_1), (0, .ref (ad 0)), (1, .ref (ad (7 + 2 * i)))]) hx hb d_X_loseHeat_14 rfl hl (by decide) rfl (fun ls hl => ?_)
  refine lv_aload_n hx hb d_X_loseHeat_15 rfl (lv_at hl 2 rfl) ?_
  refine wr_get hx hb hts in_Y hown hK hP (7 + 2 * i) (by omega) (xE_lay g ad L x hi) rfl 0 (by decide) (hts _ tw_79) rfl d_X_loseHeat_16 ?_
  refine lv_iconst (v := 4) hx hb d_X_loseHeat_19 (by decide) ?_
  refine lv_dup2_11 hx hb d_X_loseHeat_20 rfl rfl ?_
  refine wr_lald hx hb hK hP (8 + 2 * i) 0 (by omega) (xE_stk g ad L x hi) rfl 4 (by decide) (by omega) (by omega) d_X_loseHeat_21 ?_
  refine lv_lload_n hx hb d_X_loseHeat_22 rfl (lv_at hl 0 rfl) ?_
  refine lv_lsub hx hb d_X_loseHeat_23 ?_
  obtain ⟨x_2, ex_2⟩ : ∃ z9, z9 = xT' x i 4 ((xT x i 4) - v_1) := ⟨_, rfl⟩
  refine wr_last (E' := xE g ad L x_2) hx hb hK hP hJ hS (8 + 2 * i) 0 (by omega) (xE_stk g ad L x hi) rfl 4 (by decide) (by omega) (by omega) (by rw [ex_2]; exact xU_T g ad L x hi 4 ((xT x i 4) - v_1)) d_X_loseHeat_24 (fun H locs hP hS => ?_)
  refine lv_aload_n hx hb d_X_loseHeat_25 rfl (lv_at hl 1 rfl) ?_
  refine wr_get hx hb hts in_X hown hK hP (0) (by omega) rfl rfl 3 (by decide) (hts _ tw_119) rfl d_X_loseHeat_26 ?_
  refine lv_iconst (v := 5) hx hb d_X_loseHeat_29 (by decide) ?_
  refine lv_dup2_11 hx hb d_X_loseHeat_30 rfl rfl ?_
  refine wr_lald hx hb hK hP (3) 0 (by omega) rfl rfl 5 (by decide) (by omega) (by omega) d_X_loseHeat_31 ?_
  refine lv_lload_n hx hb d_X_loseHeat_32 rfl (lv_at hl 0 rfl) ?_
  refine lv_ladd hx hb d_X_loseHeat_33 ?_
  obtain ⟨x_3, ex_3⟩ : ∃ z9, z9 = xO' x_2 0 5 ((xO x_2 0 5) + v_1) := ⟨_, rfl⟩
  refine wr_last (E' := xE g ad L x_3) hx hb hK hP hJ hS (3) 0 (by omega) rfl rfl 5 (by decide) (by omega) (by omega) (by rw [ex_3]; exact xU_O g ad L x_2 0 5 (by decide) ((xO x_2 0 5) + v_1)) d_X_loseHeat_34 (fun H locs hP hS => ?_)
  subst ev_1
  subst ex_2
  subst ex_3
  exact W.vret hx hb hr (fun t ht hW => ⟨⟨(), rfl, trivial, by dsimp only; rw [ht]; (try simp only [x_loseHeat]); exact hP⟩, hS.F ht⟩) hS.2.2 d_X_loseHeat_35
set_option maxHeartbeats 4000000 in
set_option maxRecDepth 100000 in
theorem c_X_driveOff (l : Launch) (g : wG) (ad : Nat → Nat) {L : Nat} (hL : 1 ≤ L ∧ L ≤ 6) (x : xS) {i : Nat} (hi : i < L) : CtV l y_X_driveOff ws_X_driveOff ({ frames := 1, cells := 0, slots := 0, locals := 23 }) g (16 + 2 * L) ad (xE g ad L x) (xE g ad L (x_driveOff x i)) [.ref (ad 0), .ref (ad (7 + 2 * i))] := by
  intro sz
  refine Met.ofW (cc := b_X_driveOff) (maxL := 6) (ret := none) (by decide +kernel) rfl ?_
  intro p e s m args below meth c s₁ B hml hv
  obtain ⟨rfl, hsz, hP, hK, hN, hJ⟩ := hv
  have hx := B.exec
  have hb := B.bytes
  have hr := B.returns
  have hts0 := atoms_spec (ws := ws_X_driveOff) B.pre
  have hts : ∀ w ∈ tb, w.before _ s = true := fun w h => hts0 w (List.mem_cons_of_mem _ h)
  have hown : s.vm.findClass "HeapSteps" = some m.cls := findClass_of_methodNamed B.named
  have hlocks := B.notSynchronized
  subst hsz
  have hS : va_S (wA (16 + 2 * L) ad s.heap.size) s.heap s.heap [] := va_S.rf
  have hl := lv_entry ([.ref (ad 0), .ref (ad (7 + 2 * i))]) (n := 6) (Nat.le_of_ble_eq_true rfl)
  rw [lg_entry_eq]
  generalize (lg_sl ([.ref (ad 0), .ref (ad (7 + 2 * i))]) ++ List.replicate (6 - (lg_sl ([.ref (ad 0), .ref (ad (7 + 2 * i))])).length) Slot.unset).toArray = ls at hl ⊢
  have hl : lv_has ls 6 [(0, .ref (ad 0)), (1, .ref (ad (7 + 2 * i)))] := hl
  refine lv_aload_n hx hb d_X_driveOff_0 rfl (lv_at hl 1 rfl) ?_
  refine wr_get hx hb hts in_Y hown hK hP (7 + 2 * i) (by omega) (xE_lay g ad L x hi) rfl 0 (by decide) (hts _ tw_79) rfl d_X_driveOff_1 ?_
  refine lv_iconst (v := 3) hx hb d_X_driveOff_4 (by decide) ?_
  refine wr_lald hx hb hK hP (8 + 2 * i) 0 (by omega) (xE_stk g ad L x hi) rfl 3 (by decide) (by omega) (by omega) d_X_driveOff_5 ?_
  refine lv_aload_n hx hb d_X_driveOff_6 rfl (lv_at hl 0 rfl) ?_
  refine wr_get hx hb hts in_X hown hK hP (0) (by omega) rfl rfl 2 (by decide) (hts _ tw_118) rfl d_X_driveOff_7 ?_
  refine wr_get hx hb hts in_F hown hK hP (2) (by omega) rfl rfl 5 (by decide) (hts _ tw_52) rfl d_X_driveOff_10 ?_
  refine lv_i2l hx hb d_X_driveOff_13 rfl ?_
  refine wc_l (va_runS (As := [.long (xT x i 3), .long (Int32.toInt64 (xI x 8))]) (rest := []) ⟨hx, hb, hml, hown, hts⟩ (c_X_millionthsOf l g _ ad _ (xT x i 3) (Int32.toInt64 (xI x 8)) _) (cwS 2 hts (gd_S tw_250 tw_251 tw_24 tw_252) rfl rfl rfl (by decide +kernel) ⟨Nat.le_of_ble_eq_true rfl, Nat.le_of_ble_eq_true rfl⟩) (wp_S hK hN hP hJ) rfl rfl hl.1 rfl (lv_room (Nat.le_of_ble_eq_true rfl)) d_X_driveOff_14 ⟨Nat.zero_le _, Nat.zero_le _⟩) hS (fun H locs hP hS => ?_)
  refine lv_topl (fun v_1 ev_1 => ?_)
  refine lv_lstore_n (lv' := [(2, .long v_1), (0, .ref (ad 0)), (1, .ref (ad (7 + 2 * i)))]) hx hb d_X_driveOff_17 rfl hl (by decide) rfl (fun ls hl => ?_)
  refine lv_lload_n hx hb d_X_driveOff_18 rfl (lv_at hl 0 rfl) ?_
  refine lv_ldc2 (v := 600) hx hb hown (hts _ tw_263) d_X_driveOff_19 ?_
  refine lv_lmul hx hb d_X_driveOff_22 ?_
  refine lv_aload_n hx hb d_X_driveOff_23 rfl (lv_at hl 2 rfl) ?_
  refine wr_get hx hb hts in_Y hown hK hP (7 + 2 * i) (by omega) (xE_lay g ad L x hi) rfl 0 (by decide) (hts _ tw_79) rfl d_X_driveOff_24 ?_
  refine lv_iconst (v := 4) hx hb d_X_driveOff_27 (by decide) ?_
  refine wr_lald hx hb hK hP (8 + 2 * i) 0 (by omega) (xE_stk g ad L x hi) rfl 4 (by decide) (by omega) (by omega) d_X_driveOff_28 ?_
  refine va_mmin_long hx hb (hml.trans hl.1.symm) hown (hts _ tw_264) (hts _ tw_265) (hts _ tw_29) (hts _ tw_266) (Nat.le_of_ble_eq_true rfl) (Nat.le_of_ble_eq_true rfl) (Nat.zero_le _) (Nat.zero_le _) d_X_driveOff_29 ?_
  refine W.eq (g2 := F0 m 32 ls [.long (x_min (v_1 * 600) (xT x i 4))]) rfl ?_
  refine lv_topl (fun v_2 ev_2 => ?_)
  refine lv_lstore (lv' := [(4, .long v_2), (2, .long v_1), (0, .ref (ad 0)), (1, .ref (ad (7 + 2 * i)))]) hx hb d_X_driveOff_32 hl (by decide) rfl (fun ls hl => ?_)
  refine lv_aload_n hx hb d_X_driveOff_34 rfl (lv_at hl 3 rfl) ?_
  refine wr_get hx hb hts in_Y hown hK hP (7 + 2 * i) (by omega) (xE_lay g ad L x hi) rfl 0 (by decide) (hts _ tw_79) rfl d_X_driveOff_35 ?_
  refine lv_iconst (v := 3) hx hb d_X_driveOff_38 (by decide) ?_
  refine lv_dup2_11 hx hb d_X_driveOff_39 rfl rfl ?_
  refine wr_lald hx hb hK hP (8 + 2 * i) 0 (by omega) (xE_stk g ad L x hi) rfl 3 (by decide) (by omega) (by omega) d_X_driveOff_40 ?_
  refine lv_lload_n hx hb d_X_driveOff_41 rfl (lv_at hl 1 rfl) ?_
  refine lv_lsub hx hb d_X_driveOff_42 ?_
  obtain ⟨x_3, ex_3⟩ : ∃ z9, z9 = xT' x i 3 ((xT x i 3) - v_1) := ⟨_, rfl⟩
  refine wr_last (E' := xE g ad L x_3) hx hb hK hP hJ hS (8 + 2 * i) 0 (by omega) (xE_stk g ad L x hi) rfl 3 (by decide) (by omega) (by omega) (by rw [ex_3]; exact xU_T g ad L x hi 3 ((xT x i 3) - v_1)) d_X_driveOff_43 (fun H locs hP hS => ?_)
  refine lv_aload_n hx hb d_X_driveOff_44 rfl (lv_at hl 3 rfl) ?_
  refine wr_get hx hb hts in_Y hown hK hP (7 + 2 * i) (by omega) (xE_lay g ad L x_3 hi) rfl 0 (by decide) (hts _ tw_79) rfl d_X_driveOff_45 ?_
  refine lv_iconst (v := 4) hx hb d_X_driveOff_48 (by decide) ?_
  refine lv_dup2_11 hx hb d_X_driveOff_49 rfl rfl ?_
  refine wr_lald hx hb hK hP (8 + 2 * i) 0 (by omega) (xE_stk g ad L x_3 hi) rfl 4 (by decide) (by omega) (by omega) d_X_driveOff_50 ?_
  refine lv_lload hx hb d_X_driveOff_51 (lv_at hl 0 rfl) ?_
  refine lv_lsub hx hb d_X_driveOff_53 ?_
  obtain ⟨x_4, ex_4⟩ : ∃ z9, z9 = xT' x_3 i 4 ((xT x_3 i 4) - v_2) := ⟨_, rfl⟩
  refine wr_last (E' := xE g ad L x_4) hx hb hK hP hJ hS (8 + 2 * i) 0 (by omega) (xE_stk g ad L x_3 hi) rfl 4 (by decide) (by omega) (by omega) (by rw [ex_4]; exact xU_T g ad L x_3 hi 4 ((xT x_3 i 4) - v_2)) d_X_driveOff_54 (fun H locs hP hS => ?_)
  refine lv_aload_n hx hb d_X_driveOff_55 rfl (lv_at hl 2 rfl) ?_
  refine wr_get hx hb hts in_X hown hK hP (0) (by omega) rfl rfl 3 (by decide) (hts _ tw_119) rfl d_X_driveOff_56 ?_
  refine lv_iconst (v := 1) hx hb d_X_driveOff_59 (by decide) ?_
  refine lv_dup2_11 hx hb d_X_driveOff_60 rfl rfl ?_
  refine wr_lald hx hb hK hP (3) 0 (by omega) rfl rfl 1 (by decide) (by omega) (by omega) d_X_driveOff_61 ?_
  refine lv_lload_n hx hb d_X_driveOff_62 rfl (lv_at hl 1 rfl) ?_
  refine lv_ladd hx hb d_X_driveOff_63 ?_
  obtain ⟨x_5, ex_5⟩ : ∃ z9, z9 = xO' x_4 0 1 ((xO x_4 0 1) + v_1) := ⟨_, rfl⟩
  refine wr_last (E' := xE g ad L x_5) hx hb hK hP hJ hS (3) 0 (by omega) rfl rfl 1 (by decide) (by omega) (by omega) (by rw [ex_5]; exact xU_O g ad L x_4 0 1 (by decide) ((xO x_4 0 1) + v_1)) d_X_driveOff_64 (fun H locs hP hS => ?_)
  refine lv_aload_n hx hb d_X_driveOff_65 rfl (lv_at hl 2 rfl) ?_
  refine wr_get hx hb hts in_X hown hK hP (0) (by omega) rfl rfl 3 (by decide) (hts _ tw_119) rfl d_X_driveOff_66 ?_
  refine lv_bipush (v := 6) hx hb d_X_driveOff_69 (by decide) ?_
  refine lv_dup2_11 hx hb d_X_driveOff_71 rfl rfl ?_
  refine wr_lald hx hb hK hP (3) 0 (by omega) rfl rfl 6 (by decide) (by omega) (by omega) d_X_driveOff_72 ?_
  refine lv_lload hx hb d_X_driveOff_73 (lv_at hl 0 rfl) ?_
  refine lv_ladd hx hb d_X_driveOff_75 ?_
  obtain ⟨x_6, ex_6⟩ : ∃ z9, z9 = xO' x_5 0 6 ((xO x_5 0 6) + v_2) := ⟨_, rfl⟩
  refine wr_last (E' := xE g ad L x_6) hx hb hK hP hJ hS (3) 0 (by omega) rfl rfl 6 (by decide) (by omega) (by omega) (by rw [ex_6]; exact xU_O g ad L x_5 0 6 (by decide) ((xO x_5 0 6) + v_2)) d_X_driveOff_76 (fun H locs hP hS => ?_)
  subst ev_1
  subst ev_2
  subst ex_3
  subst ex_4
  subst ex_5
  subst ex_6
  exact W.vret hx hb hr (fun t ht hW => ⟨⟨(), rfl, trivial, by dsimp only; rw [ht]; (try simp only [x_driveOff]); exact hP⟩, hS.F ht⟩) hS.2.2 d_X_driveOff_77
