set_option maxHeartbeats 4000000 in
set_option maxRecDepth 100000 in
theorem c_F_tell (l : Launch) (g : wG) (ad : Nat → Nat) {L : Nat} (hL : 1 ≤ L ∧ L ≤ 6) (x : xS) (a1 a2 a3 : Int32) : CtV l y_F_tell ws_F_tell ({ frames := 0, cells := 0, slots := 0, locals := 0 }) g (16 + 2 * L) ad (xE g ad L x) (xE g ad L (x_tell x a1 a2 a3)) [.ref (ad 2), .int a1, .int a2, .int a3] := by
  intro sz
  refine Met.ofW (cc := b_F_tell) (maxL := 4) (ret := none) (by decide +kernel) rfl ?_
  intro p e s m args below meth c s₁ B hml hv
  obtain ⟨rfl, hsz, hP, hK, hN, hJ⟩ := hv
  have hx := B.exec
  have hb := B.bytes
  have hr := B.returns
  have hts0 := atoms_spec (ws := ws_F_tell) B.pre
  have hts : ∀ w ∈ tb, w.before _ s = true := fun w h => hts0 w (List.mem_cons_of_mem _ h)
  have hown : s.vm.findClass "HeapSteps$Fan" = some m.cls := findClass_of_methodNamed B.named
  have hlocks := B.notSynchronized
  subst hsz
  have hS : va_S (wA (16 + 2 * L) ad s.heap.size) s.heap s.heap [] := va_S.rf
  have hl := lv_entry ([.ref (ad 2), .int a1, .int a2, .int a3]) (n := 4) (Nat.le_of_ble_eq_true rfl)
  rw [lg_entry_eq]
  generalize (lg_sl ([.ref (ad 2), .int a1, .int a2, .int a3]) ++ List.replicate (4 - (lg_sl ([.ref (ad 2), .int a1, .int a2, .int a3])).length) Slot.unset).toArray = ls at hl ⊢
  have hl : lv_has ls 4 [(0, .ref (ad 2)), (1, .int a1), (2, .int a2), (3, .int a3)] := hl
  refine lv_aload_n hx hb d_F_tell_0 rfl (lv_at hl 0 rfl) ?_
  refine lv_iconst (v := 1) hx hb d_F_tell_1 (by decide) ?_
  obtain ⟨x_1, ex_1⟩ : ∃ z9, z9 = xI' x 4 1 := ⟨_, rfl⟩
  refine wr_put (E' := xE g ad L x_1) hx hb hts in_F ty_F ty_F_ok n_F hown hK hP hJ hS (2) (by omega) rfl rfl 0 (by decide) (hts _ tw_46) rfl rfl rfl (Nat.le_of_ble_eq_true rfl) (by rw [ex_1]; exact xU_Fi g ad L x 0 (by decide) 1) d_F_tell_2 (fun H locs hP hS => ?_)
  refine lv_aload_n hx hb d_F_tell_5 rfl (lv_at hl 0 rfl) ?_
  refine lv_iload_n hx hb d_F_tell_6 rfl (lv_at hl 1 rfl) ?_
  obtain ⟨x_2, ex_2⟩ : ∃ z9, z9 = xI' x_1 5 a1 := ⟨_, rfl⟩
  refine wr_put (E' := xE g ad L x_2) hx hb hts in_F ty_F ty_F_ok n_F hown hK hP hJ hS (2) (by omega) rfl rfl 1 (by decide) (hts _ tw_47) rfl rfl rfl (Nat.le_of_ble_eq_true rfl) (by rw [ex_2]; exact xU_Fi g ad L x_1 1 (by decide) a1) d_F_tell_7 (fun H locs hP hS => ?_)
  refine lv_aload_n hx hb d_F_tell_10 rfl (lv_at hl 0 rfl) ?_
  refine lv_iload_n hx hb d_F_tell_11 rfl (lv_at hl 2 rfl) ?_
  obtain ⟨x_3, ex_3⟩ : ∃ z9, z9 = xI' x_2 6 a2 := ⟨_, rfl⟩
  refine wr_put (E' := xE g ad L x_3) hx hb hts in_F ty_F ty_F_ok n_F hown hK hP hJ hS (2) (by omega) rfl rfl 2 (by decide) (hts _ tw_48) rfl rfl rfl (Nat.le_of_ble_eq_true rfl) (by rw [ex_3]; exact xU_Fi g ad L x_2 2 (by decide) a2) d_F_tell_12 (fun H locs hP hS => ?_)
  refine lv_aload_n hx hb d_F_tell_15 rfl (lv_at hl 0 rfl) ?_
  refine lv_iload_n hx hb d_F_tell_16 rfl (lv_at hl 3 rfl) ?_
  obtain ⟨x_4, ex_4⟩ : ∃ z9, z9 = xI' x_3 7 a3 := ⟨_, rfl⟩
  refine wr_put (E' := xE g ad L x_4) hx hb hts in_F ty_F ty_F_ok n_F hown hK hP hJ hS (2) (by omega) rfl rfl 3 (by decide) (hts _ tw_49) rfl rfl rfl (Nat.le_of_ble_eq_true rfl) (by rw [ex_4]; exact xU_Fi g ad L x_3 3 (by decide) a3) d_F_tell_17 (fun H locs hP hS => ?_)
  refine lv_aload_n hx hb d_F_tell_20 rfl (lv_at hl 0 rfl) ?_
  refine lv_lconst (v := 0) hx hb d_F_tell_21 (by decide) ?_
  obtain ⟨x_5, ex_5⟩ : ∃ z9, z9 = xF' x_4 0 := ⟨_, rfl⟩
  refine wr_put (E' := xE g ad L x_5) hx hb hts in_F ty_F ty_F_ok n_F hown hK hP hJ hS (2) (by omega) rfl rfl 4 (by decide) (hts _ tw_50) rfl rfl rfl (Nat.le_of_ble_eq_true rfl) (by rw [ex_5]; exact xU_F g ad L x_4 0) d_F_tell_22 (fun H locs hP hS => ?_)
  subst ex_1
  subst ex_2
  subst ex_3
  subst ex_4
  subst ex_5
  exact W.vret hx hb hr (fun t ht hW => ⟨⟨(), rfl, trivial, by dsimp only; rw [ht]; (try simp only [x_tell]); exact hP⟩, hS.F ht⟩) hS.2.2 d_F_tell_25
set_option maxHeartbeats 4000000 in
set_option maxRecDepth 100000 in
theorem c_F_adjust (l : Launch) (g : wG) (ad : Nat → Nat) {L : Nat} (hL : 1 ≤ L ∧ L ≤ 6) (x : xS) (a1 : Int64) : CtV l y_F_adjust ws_F_adjust ({ frames := 2, cells := 0, slots := 0, locals := 48 }) g (16 + 2 * L) ad (xE g ad L x) (xE g ad L (x_adjust x a1)) [.ref (ad 2), .long a1] := by
  intro sz
  refine Met.ofW (cc := b_F_adjust) (maxL := 5) (ret := none) (by decide +kernel) rfl ?_
  intro p e s m args below meth c s₁ B hml hv
  obtain ⟨rfl, hsz, hP, hK, hN, hJ⟩ := hv
  have hx := B.exec
  have hb := B.bytes
  have hr := B.returns
  have hts0 := atoms_spec (ws := ws_F_adjust) B.pre
  have hts : ∀ w ∈ tb, w.before _ s = true := fun w h => hts0 w (List.mem_cons_of_mem _ h)
  have hown : s.vm.findClass "HeapSteps$Fan" = some m.cls := findClass_of_methodNamed B.named
  have hlocks := B.notSynchronized
  subst hsz
  have hS : va_S (wA (16 + 2 * L) ad s.heap.size) s.heap s.heap [] := va_S.rf
  have hl := lv_entry ([.ref (ad 2), .long a1]) (n := 5) (Nat.le_of_ble_eq_true rfl)
  rw [lg_entry_eq]
  generalize (lg_sl ([.ref (ad 2), .long a1]) ++ List.replicate (5 - (lg_sl ([.ref (ad 2), .long a1])).length) Slot.unset).toArray = ls at hl ⊢
  have hl : lv_has ls 5 [(0, .ref (ad 2)), (1, .long a1)] := hl
  refine lv_aload_n hx hb d_F_adjust_0 rfl (lv_at hl 0 rfl) ?_
  refine wr_get hx hb hts in_F hown hK hP (2) (by omega) rfl rfl 0 (by decide) (hts _ tw_46) rfl d_F_adjust_1 ?_
  refine lv_if_ne (tgt := 8) hx hb d_F_adjust_4 (by decide) (fun c_1 => ?_) (fun c_1 => ?_)
  · skip
    refine lv_lload_n hx hb d_F_adjust_8 rfl (lv_at hl 1 rfl) ?_
    refine lv_aload_n hx hb d_F_adjust_9 rfl (lv_at hl 0 rfl) ?_
    refine wr_get hx hb hts in_F hown hK hP (2) (by omega) rfl rfl 1 (by decide) (hts _ tw_47) rfl d_F_adjust_10 ?_
    refine lv_i2l hx hb d_F_adjust_13 rfl ?_
    refine lv_lsub hx hb d_F_adjust_14 ?_
    refine lv_topl (fun v_2 ev_2 => ?_)
    refine lv_lstore_n (lv' := [(3, .long v_2), (0, .ref (ad 2)), (1, .long a1)]) hx hb d_F_adjust_15 rfl hl (by decide) rfl (fun ls hl => ?_)
    refine lv_aload_n hx hb d_F_adjust_16 rfl (lv_at hl 1 rfl) ?_
    refine lv_aload_n hx hb d_F_adjust_17 rfl (lv_at hl 1 rfl) ?_
    refine wr_get hx hb hts in_F hown hK hP (2) (by omega) rfl rfl 4 (by decide) (hts _ tw_50) rfl d_F_adjust_18 ?_
    refine lv_lload_n hx hb d_F_adjust_21 rfl (lv_at hl 0 rfl) ?_
    refine lv_ladd hx hb d_F_adjust_22 ?_
    refine lv_ldc2 (v := -1000000000) hx hb hown (hts _ tw_276) d_F_adjust_23 ?_
    refine lv_ldc2 (v := 1000000000) hx hb hown (hts _ tw_277) d_F_adjust_26 ?_
    refine wc_l (va_runSN (As := [.long ((xF x) + v_2), .long (-1000000000), .long 1000000000]) (rest := [.ref (ad 2)]) ⟨hx, hb, hml, hown, hts⟩ (c_X_cut l g _ ad _ ((xF x) + v_2) (-1000000000) 1000000000 _) ⟨va_cnB 3 hts (gd_C tw_280) rfl rfl rfl (wN_278 hN) (hts _ tw_24) (by decide +kernel) ⟨Nat.le_of_ble_eq_true rfl, Nat.le_of_ble_eq_true rfl⟩, hts _ tw_279, trivial⟩ (wp_S hK hN hP hJ) rfl rfl hl.1 rfl (lv_room (Nat.le_of_ble_eq_true rfl)) d_F_adjust_29 ⟨Nat.zero_le _, Nat.zero_le _⟩) hS (fun H locs hP hS => ?_)
    obtain ⟨x_3, ex_3⟩ : ∃ z9, z9 = xF' x (x_cut ((xF x) + v_2) (-1000000000) 1000000000) := ⟨_, rfl⟩
    refine wr_put (E' := xE g ad L x_3) hx hb hts in_F ty_F ty_F_ok n_F hown hK hP hJ hS (2) (by omega) rfl rfl 4 (by decide) (hts _ tw_50) rfl rfl rfl (Nat.le_of_ble_eq_true rfl) (by rw [ex_3]; exact xU_F g ad L x (x_cut ((xF x) + v_2) (-1000000000) 1000000000)) d_F_adjust_32 (fun H locs hP hS => ?_)
    refine lv_aload_n hx hb d_F_adjust_35 rfl (lv_at hl 1 rfl) ?_
    refine lv_aload_n hx hb d_F_adjust_36 rfl (lv_at hl 1 rfl) ?_
    refine wr_get hx hb hts in_F hown hK hP (2) (by omega) rfl rfl 2 (by decide) (hts _ tw_48) rfl d_F_adjust_37 ?_
    refine lv_i2l hx hb d_F_adjust_40 rfl ?_
    refine lv_lload_n hx hb d_F_adjust_41 rfl (lv_at hl 0 rfl) ?_
    refine lv_lmul hx hb d_F_adjust_42 ?_
    refine lv_aload_n hx hb d_F_adjust_43 rfl (lv_at hl 1 rfl) ?_
    refine wr_get hx hb hts in_F hown hK hP (2) (by omega) rfl rfl 3 (by decide) (hts _ tw_49) rfl d_F_adjust_44 ?_
    refine lv_i2l hx hb d_F_adjust_47 rfl ?_
    refine lv_aload_n hx hb d_F_adjust_48 rfl (lv_at hl 1 rfl) ?_
    refine wr_get hx hb hts in_F hown hK hP (2) (by omega) rfl rfl 4 (by decide) (hts _ tw_50) rfl d_F_adjust_49 ?_
    refine lv_lmul hx hb d_F_adjust_52 ?_
    refine lv_ladd hx hb d_F_adjust_53 ?_
    refine lv_ldc2 (v := 1000) hx hb hown (hts _ tw_281) d_F_adjust_54 ?_
    refine wc_l (va_runS (As := [.long (((Int32.toInt64 (xI x_3 6)) * v_2) + ((Int32.toInt64 (xI x_3 7)) * (xF x_3))), .long 1000]) (rest := [.ref (ad 2)]) ⟨hx, hb, hml, hown, hts⟩ (c_J_floorDiv l g _ ad _ (((Int32.toInt64 (xI x_3 6)) * v_2) + ((Int32.toInt64 (xI x_3 7)) * (xF x_3))) 1000 (by decide) _) ⟨callB_of 2 hts (gd_C tw_284) rfl rfl rfl (hts _ tw_29) (hts _ tw_282) (by decide +kernel) ⟨Nat.le_of_ble_eq_true rfl, Nat.le_of_ble_eq_true rfl⟩, hts _ tw_283⟩ (wp_S hK hN hP hJ) rfl rfl hl.1 rfl (lv_room (Nat.le_of_ble_eq_true rfl)) d_F_adjust_57 ⟨Nat.zero_le _, Nat.zero_le _⟩) hS (fun H locs hP hS => ?_)
    refine lv_lconst (v := 0) hx hb d_F_adjust_60 (by decide) ?_
    refine lv_ldc2 (v := 1000) hx hb hown (hts _ tw_281) d_F_adjust_61 ?_
    refine wc_l (va_runSN (As := [.long (x_floorDiv (((Int32.toInt64 (xI x_3 6)) * v_2) + ((Int32.toInt64 (xI x_3 7)) * (xF x_3))) 1000), .long 0, .long 1000]) (rest := [.ref (ad 2)]) ⟨hx, hb, hml, hown, hts⟩ (c_X_cut l g _ ad _ (x_floorDiv (((Int32.toInt64 (xI x_3 6)) * v_2) + ((Int32.toInt64 (xI x_3 7)) * (xF x_3))) 1000) 0 1000 _) ⟨va_cnB 3 hts (gd_C tw_280) rfl rfl rfl (wN_278 hN) (hts _ tw_24) (by decide +kernel) ⟨Nat.le_of_ble_eq_true rfl, Nat.le_of_ble_eq_true rfl⟩, hts _ tw_279, trivial⟩ (wp_S hK hN hP hJ) rfl rfl hl.1 rfl (lv_room (Nat.le_of_ble_eq_true rfl)) d_F_adjust_64 ⟨Nat.zero_le _, Nat.zero_le _⟩) hS (fun H locs hP hS => ?_)
    refine lv_l2i hx hb d_F_adjust_67 rfl ?_
    obtain ⟨x_4, ex_4⟩ : ∃ z9, z9 = xI' x_3 8 (Int64.toInt32 (x_cut (x_floorDiv (((Int32.toInt64 (xI x_3 6)) * v_2) + ((Int32.toInt64 (xI x_3 7)) * (xF x_3))) 1000) 0 1000)) := ⟨_, rfl⟩
    refine wr_put (E' := xE g ad L x_4) hx hb hts in_F ty_F ty_F_ok n_F hown hK hP hJ hS (2) (by omega) rfl rfl 5 (by decide) (hts _ tw_51) rfl rfl rfl (Nat.le_of_ble_eq_true rfl) (by rw [ex_4]; exact xU_Fi g ad L x_3 4 (by decide) (Int64.toInt32 (x_cut (x_floorDiv (((Int32.toInt64 (xI x_3 6)) * v_2) + ((Int32.toInt64 (xI x_3 7)) * (xF x_3))) 1000) 0 1000))) d_F_adjust_68 (fun H locs hP hS => ?_)
    subst ev_2
    subst ex_3
    subst ex_4
    exact W.vret hx hb hr (fun t ht hW => ⟨⟨(), rfl, trivial, by dsimp only; rw [ht]; (try simp only [x_adjust, if_neg c_1]); exact hP⟩, hS.F ht⟩) hS.2.2 d_F_adjust_71
  · skip
    exact W.vret hx hb hr (fun t ht hW => ⟨⟨(), rfl, trivial, by dsimp only; rw [ht]; (try simp only [x_adjust, if_pos c_1]); exact hP⟩, hS.F ht⟩) hS.2.2 d_F_adjust_7
