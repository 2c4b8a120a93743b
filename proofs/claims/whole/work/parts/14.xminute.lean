set_option maxHeartbeats 4000000 in
set_option maxRecDepth 100000 in
theorem c_X_passMinute (l : Launch) (g : wG) (ad : Nat → Nat) {L : Nat} (hL : 1 ≤ L ∧ L ≤ 6) (x : xS) (hrow : x_rows x) : CtV l y_X_passMinute ws_X_passMinute ({ frames := 3, cells := 0, slots := 0, locals := 79 }) g (16 + 2 * L) ad (xE g ad L x) (xE g ad L (x_minute L x)) [.ref (ad 0)] := by
  intro sz
  refine Met.ofW (cc := b_X_passMinute) (maxL := 3) (ret := none) (by decide +kernel) rfl ?_
  intro p e s m args below meth c s₁ B hml hv
  obtain ⟨rfl, hsz, hP, hK, hN, hJ⟩ := hv
  have hx := B.exec
  have hb := B.bytes
  have hr := B.returns
  have hts0 := atoms_spec (ws := ws_X_passMinute) B.pre
  have hts : ∀ w ∈ tb, w.before _ s = true := fun w h => hts0 w (List.mem_cons_of_mem _ h)
  have hown : s.vm.findClass "HeapSteps" = some m.cls := findClass_of_methodNamed B.named
  have hlocks := B.notSynchronized
  subst hsz
  have hS : va_S (wA (16 + 2 * L) ad s.heap.size) s.heap s.heap [] := va_S.rf
  have hl := lv_entry ([.ref (ad 0)]) (n := 3) (Nat.le_of_ble_eq_true rfl)
  rw [lg_entry_eq]
  generalize (lg_sl ([.ref (ad 0)]) ++ List.replicate (3 - (lg_sl ([.ref (ad 0)])).length) Slot.unset).toArray = ls at hl ⊢
  have hl : lv_has ls 3 [(0, .ref (ad 0))] := hl
  refine lv_aload_n hx hb d_X_passMinute_0 rfl (lv_at hl 0 rfl) ?_
  refine lv_aload_n hx hb d_X_passMinute_1 rfl (lv_at hl 0 rfl) ?_
  refine wr_get hx hb hts in_X hown hK hP (0) (by omega) rfl rfl 6 (by decide) (hts _ tw_122) rfl d_X_passMinute_2 ?_
  refine lv_i2l hx hb d_X_passMinute_5 rfl ?_
  refine lv_iconst (v := 0) hx hb d_X_passMinute_6 (by decide) ?_
  refine wc_v (va_runV (As := [.long (Int32.toInt64 (xI x 0)), .int 0]) (rest := []) ⟨hx, hb, hml, hown, hts⟩ (c_X_pour l g ad hL x (Int32.toInt64 (xI x 0)) 0 _) (cwV 2 hts (gd_V tw_234 tw_236 tw_4 tw_24 tw_237) rfl rfl rfl (by decide +kernel) ⟨Nat.le_of_ble_eq_true rfl, Nat.le_of_ble_eq_true rfl⟩) (wp_V hK hN hP hJ (0) (by omega) rfl rfl) rfl rfl hl.1 rfl (lv_room (Nat.le_of_ble_eq_true rfl)) d_X_passMinute_7 ⟨Nat.zero_le _, Nat.zero_le _⟩) hS (fun H locs hP hS => ?_)
  obtain ⟨x_1, ex_1⟩ : ∃ z9, z9 = x_pour L x (Int32.toInt64 (xI x 0)) 0 := ⟨_, rfl⟩
  have hrow : x_rows x_1 := by rw [ex_1]; exact x_rows_of (xYs_pour _ _ _ _) hrow
  rw [← ex_1] at hP
  refine lv_aload_n hx hb d_X_passMinute_10 rfl (lv_at hl 0 rfl) ?_
  refine wr_get hx hb hts in_X hown hK hP (0) (by omega) rfl rfl 3 (by decide) (hts _ tw_119) rfl d_X_passMinute_11 ?_
  refine lv_iconst (v := 3) hx hb d_X_passMinute_14 (by decide) ?_
  refine lv_dup2_11 hx hb d_X_passMinute_15 rfl rfl ?_
  refine wr_lald hx hb hK hP (3) 0 (by omega) rfl rfl 3 (by decide) (by omega) (by omega) d_X_passMinute_16 ?_
  refine lv_aload_n hx hb d_X_passMinute_17 rfl (lv_at hl 0 rfl) ?_
  refine wr_get hx hb hts in_X hown hK hP (0) (by omega) rfl rfl 6 (by decide) (hts _ tw_122) rfl d_X_passMinute_18 ?_
  refine lv_i2l hx hb d_X_passMinute_21 rfl ?_
  refine lv_ladd hx hb d_X_passMinute_22 ?_
  obtain ⟨x_2, ex_2⟩ : ∃ z9, z9 = xO' x_1 0 3 ((xO x_1 0 3) + (Int32.toInt64 (xI x_1 0))) := ⟨_, rfl⟩
  have hrow : x_rows x_2 := by rw [ex_2]; exact x_rows_of (xYs_O _ _ _ _) hrow
  refine wr_last (E' := xE g ad L x_2) hx hb hK hP hJ hS (3) 0 (by omega) rfl rfl 3 (by decide) (by omega) (by omega) (by rw [ex_2]; exact xU_O g ad L x_1 0 3 (by decide) ((xO x_1 0 3) + (Int32.toInt64 (xI x_1 0)))) d_X_passMinute_23 (fun H locs hP hS => ?_)
  refine lv_iconst (v := 0) hx hb d_X_passMinute_24 (by decide) ?_
  refine lv_istore_n (lv' := [(1, .int 0), (0, .ref (ad 0))]) hx hb d_X_passMinute_25 rfl hl (by decide) rfl (fun ls hl => ?_)
  refine wl_loop (pc := 26) (fun fu H locs ls => ∃ i : Nat, i + fu = L ∧ va_P g.1 vwCl (wo (16 + 2 * L) ad (xE g ad L (x_layersN L x_2 i))) H ∧ va_S (wA (16 + 2 * L) ad s.heap.size) s.heap H locs ∧ lv_has ls 3 [(1, .int (nI i)), (0, .ref (ad 0))]) ?_ ?_ L _ _ _ ⟨0, by omega, hP, hS, lv_sub hl [0, 1] rfl⟩
  · intro H locs ls hI
    obtain ⟨i, hi, hP, hS, hl⟩ := hI
    have hT_i : i = L := by omega
    try rw [hT_i] at hP
    try rw [hT_i] at hl
    obtain ⟨x_3, ex_3⟩ : ∃ z9, z9 = x_layersN L x_2 L := ⟨_, rfl⟩
    rw [← ex_3] at hP
    refine lv_iload_n hx hb d_X_passMinute_26 rfl (lv_at hl 0 rfl) ?_
    refine lv_aload_n hx hb d_X_passMinute_27 rfl (lv_at hl 1 rfl) ?_
    refine wr_get hx hb hts in_X hown hK hP (0) (by omega) rfl rfl 0 (by decide) (hts _ tw_116) rfl d_X_passMinute_28 ?_
    refine wr_alen (v := nI L) hx hb hK hP (6) 2 (by omega) rfl rfl rfl d_X_passMinute_31 ?_
    refine lv_icmp_ge (tgt := 74) hx hb d_X_passMinute_32 (by decide) (fun c_4 => ?_) (fun c_4 => absurd (nI_le (by omega) (by omega)) c_4)
    refine lv_aload_n hx hb d_X_passMinute_74 rfl (lv_at hl 1 rfl) ?_
    refine wr_get hx hb hts in_X hown hK hP (0) (by omega) rfl rfl 2 (by decide) (hts _ tw_118) rfl d_X_passMinute_75 ?_
    refine lv_aload_n hx hb d_X_passMinute_78 rfl (lv_at hl 1 rfl) ?_
    refine wc_l (va_runV (As := []) (rest := [.ref (ad 2)]) ⟨hx, hb, hml, hown, hts⟩ (c_X_greatestWarmth l g ad hL x_3 _) (cwV 0 hts (gd_V tw_215 tw_217 tw_2 tw_24 tw_218) rfl rfl rfl (by decide +kernel) ⟨Nat.le_of_ble_eq_true rfl, Nat.le_of_ble_eq_true rfl⟩) (wp_V hK hN hP hJ (0) (by omega) rfl rfl) rfl rfl hl.1 rfl (lv_room (Nat.le_of_ble_eq_true rfl)) d_X_passMinute_79 ⟨Nat.zero_le _, Nat.zero_le _⟩) hS (fun H locs hP hS => ?_)
    refine wc_v (va_runV (As := [.long (x_gwN x_3 L)]) (rest := []) ⟨hx, hb, hml, hown, hts⟩ (c_F_adjust l g ad hL x_3 (x_gwN x_3 L) _) (cwV 1 hts (gd_V tw_272 tw_273 tw_274 tw_25 tw_275) rfl rfl rfl (by decide +kernel) ⟨Nat.le_of_ble_eq_true rfl, Nat.le_of_ble_eq_true rfl⟩) (wp_V hK hN hP hJ (2) (by omega) rfl rfl) rfl rfl hl.1 rfl (lv_room (Nat.le_of_ble_eq_true rfl)) d_X_passMinute_82 ⟨Nat.zero_le _, Nat.zero_le _⟩) hS (fun H locs hP hS => ?_)
    obtain ⟨x_5, ex_5⟩ : ∃ z9, z9 = x_adjust x_3 (x_gwN x_3 L) := ⟨_, rfl⟩
    rw [← ex_5] at hP
    refine lv_aload_n hx hb d_X_passMinute_85 rfl (lv_at hl 1 rfl) ?_
    refine wr_get hx hb hts in_X hown hK hP (0) (by omega) rfl rfl 3 (by decide) (hts _ tw_119) rfl d_X_passMinute_86 ?_
    refine lv_bipush (v := 8) hx hb d_X_passMinute_89 (by decide) ?_
    refine lv_dup2_11 hx hb d_X_passMinute_91 rfl rfl ?_
    refine wr_lald hx hb hK hP (3) 0 (by omega) rfl rfl 8 (by decide) (by omega) (by omega) d_X_passMinute_92 ?_
    refine lv_lconst (v := 1) hx hb d_X_passMinute_93 (by decide) ?_
    refine lv_ladd hx hb d_X_passMinute_94 ?_
    obtain ⟨x_6, ex_6⟩ : ∃ z9, z9 = xO' x_5 0 8 ((xO x_5 0 8) + 1) := ⟨_, rfl⟩
    refine wr_last (E' := xE g ad L x_6) hx hb hK hP hJ hS (3) 0 (by omega) rfl rfl 8 (by decide) (by omega) (by omega) (by rw [ex_6]; exact xU_O g ad L x_5 0 8 (by decide) ((xO x_5 0 8) + 1)) d_X_passMinute_95 (fun H locs hP hS => ?_)
    subst ex_1
    subst ex_2
    subst ex_3
    subst ex_5
    subst ex_6
    exact W.vret hx hb hr (fun t ht hW => ⟨⟨(), rfl, trivial, by dsimp only; rw [ht]; (try simp only [x_minute]); exact hP⟩, hS.F ht⟩) hS.2.2 d_X_passMinute_96
  · intro fu ih_i H locs ls hI
    obtain ⟨i, hi, hP, hS, hl⟩ := hI
    have hi_i : i < L := by omega
    obtain ⟨x_7, ex_7⟩ : ∃ z9, z9 = x_layersN L x_2 i := ⟨_, rfl⟩
    rw [← ex_7] at hP
    have hrow : x_rows x_7 := by rw [ex_7]; exact x_rows_layersN hrow _ _
    refine lv_iload_n hx hb d_X_passMinute_26 rfl (lv_at hl 0 rfl) ?_
    refine lv_aload_n hx hb d_X_passMinute_27 rfl (lv_at hl 1 rfl) ?_
    refine wr_get hx hb hts in_X hown hK hP (0) (by omega) rfl rfl 0 (by decide) (hts _ tw_116) rfl d_X_passMinute_28 ?_
    refine wr_alen (v := nI L) hx hb hK hP (6) 2 (by omega) rfl rfl rfl d_X_passMinute_31 ?_
    refine lv_icmp_ge (tgt := 74) hx hb d_X_passMinute_32 (by decide) (fun c_8 => absurd c_8 (nI_ge hi_i (by omega))) (fun c_8 => ?_)
    refine lv_aload_n hx hb d_X_passMinute_35 rfl (lv_at hl 1 rfl) ?_
    refine wr_get hx hb hts in_X hown hK hP (0) (by omega) rfl rfl 0 (by decide) (hts _ tw_116) rfl d_X_passMinute_36 ?_
    refine lv_iload_n hx hb d_X_passMinute_39 rfl (lv_at hl 0 rfl) ?_
    refine wr_aldq hx hb hK hP (6) 2 (by omega) rfl rfl i rfl (by omega) (by omega) (v := ad (7 + 2 * i)) (if_pos hi_i) d_X_passMinute_40 ?_
    refine lv_astore_n (lv' := [(2, .ref (ad (7 + 2 * i))), (1, .int (nI i)), (0, .ref (ad 0))]) hx hb d_X_passMinute_41 rfl hl (by decide) rfl (fun ls hl => ?_)
    refine lv_aload_n hx hb d_X_passMinute_42 rfl (lv_at hl 2 rfl) ?_
    refine lv_aload_n hx hb d_X_passMinute_43 rfl (lv_at hl 0 rfl) ?_
    refine wc_v (va_runV (As := [.ref (ad (7 + 2 * i))]) (rest := []) ⟨hx, hb, hml, hown, hts⟩ (c_X_breakParts l g ad hL x_7 hrow hi_i _) (cwV 1 hts (gd_V tw_238 tw_240 tw_5 tw_24 tw_241) rfl rfl rfl (by decide +kernel) ⟨Nat.le_of_ble_eq_true rfl, Nat.le_of_ble_eq_true rfl⟩) (wp_V hK hN hP hJ (0) (by omega) rfl rfl) rfl rfl hl.1 rfl (lv_room (Nat.le_of_ble_eq_true rfl)) d_X_passMinute_44 ⟨Nat.zero_le _, Nat.zero_le _⟩) hS (fun H locs hP hS => ?_)
    obtain ⟨x_9, ex_9⟩ : ∃ z9, z9 = x_break x_7 i := ⟨_, rfl⟩
    rw [← ex_9] at hP
    refine lv_aload_n hx hb d_X_passMinute_47 rfl (lv_at hl 2 rfl) ?_
    refine lv_aload_n hx hb d_X_passMinute_48 rfl (lv_at hl 0 rfl) ?_
    refine wc_v (va_runV (As := [.ref (ad (7 + 2 * i))]) (rest := []) ⟨hx, hb, hml, hown, hts⟩ (c_X_loseHeat l g ad hL x_9 hi_i _) (cwV 1 hts (gd_V tw_255 tw_257 tw_7 tw_24 tw_258) rfl rfl rfl (by decide +kernel) ⟨Nat.le_of_ble_eq_true rfl, Nat.le_of_ble_eq_true rfl⟩) (wp_V hK hN hP hJ (0) (by omega) rfl rfl) rfl rfl hl.1 rfl (lv_room (Nat.le_of_ble_eq_true rfl)) d_X_passMinute_49 ⟨Nat.zero_le _, Nat.zero_le _⟩) hS (fun H locs hP hS => ?_)
    obtain ⟨x_10, ex_10⟩ : ∃ z9, z9 = x_loseHeat x_9 i := ⟨_, rfl⟩
    rw [← ex_10] at hP
    refine lv_aload_n hx hb d_X_passMinute_52 rfl (lv_at hl 2 rfl) ?_
    refine lv_aload_n hx hb d_X_passMinute_53 rfl (lv_at hl 0 rfl) ?_
    refine wc_v (va_runV (As := [.ref (ad (7 + 2 * i))]) (rest := []) ⟨hx, hb, hml, hown, hts⟩ (c_X_driveOff l g ad hL x_10 hi_i _) (cwV 1 hts (gd_V tw_259 tw_261 tw_8 tw_24 tw_262) rfl rfl rfl (by decide +kernel) ⟨Nat.le_of_ble_eq_true rfl, Nat.le_of_ble_eq_true rfl⟩) (wp_V hK hN hP hJ (0) (by omega) rfl rfl) rfl rfl hl.1 rfl (lv_room (Nat.le_of_ble_eq_true rfl)) d_X_passMinute_54 ⟨Nat.zero_le _, Nat.zero_le _⟩) hS (fun H locs hP hS => ?_)
    obtain ⟨x_11, ex_11⟩ : ∃ z9, z9 = x_driveOff x_10 i := ⟨_, rfl⟩
    rw [← ex_11] at hP
    refine lv_aload_n hx hb d_X_passMinute_57 rfl (lv_at hl 2 rfl) ?_
    refine lv_aload_n hx hb d_X_passMinute_58 rfl (lv_at hl 0 rfl) ?_
    refine wc_l (va_runV (As := []) (rest := [.ref (ad 0)]) ⟨hx, hb, hml, hown, hts⟩ (c_Y_takeSurplus l g ad hL x_11 hi_i _) (cwV 0 hts (gd_V tw_267 tw_268 tw_269 tw_26 tw_270) rfl rfl rfl (by decide +kernel) ⟨Nat.le_of_ble_eq_true rfl, Nat.le_of_ble_eq_true rfl⟩) (wp_V hK hN hP hJ (7 + 2 * i) (by omega) (xE_lay g ad L x_11 hi_i) rfl) rfl rfl hl.1 rfl (lv_room (Nat.le_of_ble_eq_true rfl)) d_X_passMinute_59 ⟨Nat.zero_le _, Nat.zero_le _⟩) hS (fun H locs hP hS => ?_)
    obtain ⟨x_12, ex_12⟩ : ∃ z9, z9 = x_takeSurplus x_11 i := ⟨_, rfl⟩
    rw [← ex_12] at hP
    refine lv_iload_n hx hb d_X_passMinute_62 rfl (lv_at hl 1 rfl) ?_
    refine lv_iconst (v := 1) hx hb d_X_passMinute_63 (by decide) ?_
    refine lv_iadd hx hb d_X_passMinute_64 ?_
    rw [nI_1]
    refine wc_v (va_runV (As := [.long (x_surplus x_11 i), .int (nI (i + 1))]) (rest := []) ⟨hx, hb, hml, hown, hts⟩ (c_X_pour l g ad hL x_12 (x_surplus x_11 i) (nI (i + 1)) _) (cwV 2 hts (gd_V tw_234 tw_236 tw_4 tw_24 tw_237) rfl rfl rfl (by decide +kernel) ⟨Nat.le_of_ble_eq_true rfl, Nat.le_of_ble_eq_true rfl⟩) (wp_V hK hN hP hJ (0) (by omega) rfl rfl) rfl rfl hl.1 rfl (lv_room (Nat.le_of_ble_eq_true rfl)) d_X_passMinute_65 ⟨Nat.zero_le _, Nat.zero_le _⟩) hS (fun H locs hP hS => ?_)
    obtain ⟨x_13, ex_13⟩ : ∃ z9, z9 = x_pour L x_12 (x_surplus x_11 i) (nI (i + 1)) := ⟨_, rfl⟩
    rw [← ex_13] at hP
    refine lv_iinc (v := nI (i + 1)) (lv' := [(1, .int (nI (i + 1))), (2, .ref (ad (7 + 2 * i))), (0, .ref (ad 0))]) hx hb d_X_passMinute_68 hl (k := 1) rfl (nI_1 i) (by decide) rfl (fun ls hl => ?_)
    refine lv_goto (tgt := 26) hx hb d_X_passMinute_71 (by decide) ?_
    subst ex_7
    subst ex_9
    subst ex_10
    subst ex_11
    subst ex_12
    subst ex_13
    exact ih_i _ _ _ ⟨i + 1, by omega, (by skip; exact hP), hS, lv_sub hl [0, 2] (by skip; rfl)⟩
