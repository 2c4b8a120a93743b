set_option maxHeartbeats 4000000 in
set_option maxRecDepth 100000 in
theorem c_X_layerAt (l : Launch) (g : wG) (ad : Nat → Nat) {L : Nat} (hL : 1 ≤ L ∧ L ≤ 6) (x : xS) (a1 : Int32) : CtQ l y_X_layerAt ws_X_layerAt ({ frames := 1, cells := 0, slots := 0, locals := 22 }) g (16 + 2 * L) ad (xE g ad L x) (xE g ad L x) [.ref (ad 0), .int a1] ((x_la L a1).map (fun i => ad (7 + 2 * i))) := by
  intro sz
  refine Met.ofW (cc := b_X_layerAt) (maxL := 2) (ret := (some (.object "HeapSteps$Layer"))) (by decide +kernel) rfl ?_
  intro p e s m args below meth c s₁ B hml hv
  obtain ⟨rfl, hsz, hP, hK, hN, hJ⟩ := hv
  have hx := B.exec
  have hb := B.bytes
  have hr := B.returns
  have hts0 := atoms_spec (ws := ws_X_layerAt) B.pre
  have hts : ∀ w ∈ tb, w.before _ s = true := fun w h => hts0 w (List.mem_cons_of_mem _ h)
  have hown : s.vm.findClass "HeapSteps" = some m.cls := findClass_of_methodNamed B.named
  have hlocks := B.notSynchronized
  subst hsz
  have hS : va_S (wA (16 + 2 * L) ad s.heap.size) s.heap s.heap [] := va_S.rf
  have hl := lv_entry ([.ref (ad 0), .int a1]) (n := 2) (Nat.le_of_ble_eq_true rfl)
  rw [lg_entry_eq]
  generalize (lg_sl ([.ref (ad 0), .int a1]) ++ List.replicate (2 - (lg_sl ([.ref (ad 0), .int a1])).length) Slot.unset).toArray = ls at hl ⊢
  have hl : lv_has ls 2 [(0, .ref (ad 0)), (1, .int a1)] := hl
  refine lv_iload_n hx hb d_X_layerAt_0 rfl (lv_at hl 1 rfl) ?_
  refine lv_iconst (v := 0) hx hb d_X_layerAt_1 (by decide) ?_
  refine lv_aload_n hx hb d_X_layerAt_2 rfl (lv_at hl 0 rfl) ?_
  refine wr_get hx hb hts in_X hown hK hP (0) (by omega) rfl rfl 0 (by decide) (hts _ tw_116) rfl d_X_layerAt_3 ?_
  refine wr_alen (v := nI L) hx hb hK hP (6) 2 (by omega) rfl rfl rfl d_X_layerAt_6 ?_
  refine lv_iconst (v := 1) hx hb d_X_layerAt_7 (by decide) ?_
  refine lv_isub hx hb d_X_layerAt_8 ?_
  refine wc_i (va_runS (As := [.int a1, .int 0, .int ((nI L) - 1)]) (rest := []) ⟨hx, hb, hml, hown, hts⟩ (c_X_within l g _ ad _ a1 0 ((nI L) - 1) _) (cwS 3 hts (gd_S tw_67 tw_68 tw_24 tw_69) rfl rfl rfl (by decide +kernel) ⟨Nat.le_of_ble_eq_true rfl, Nat.le_of_ble_eq_true rfl⟩) (wp_S hK hN hP hJ) rfl rfl hl.1 rfl (lv_room (Nat.le_of_ble_eq_true rfl)) d_X_layerAt_9 ⟨Nat.zero_le _, Nat.zero_le _⟩) hS (fun H locs hP hS => ?_)
  refine lv_if_eq (tgt := 24) hx hb d_X_layerAt_12 (by decide) (fun c_1 => ?_) (fun c_1 => ?_)
  · skip
    refine lv_null hx hb d_X_layerAt_24 ?_
    exact W.aret hx hb hr (Or.inl ⟨_, rfl⟩) (Or.inl rfl) (fun t ht hW => ⟨⟨none, (), rfl, by (try simp only [x_la, Option.map_some, Option.map_none, if_pos c_1]); first | done | rfl, by dsimp only; rw [ht]; (try simp only [x_la, Option.map_some, Option.map_none, if_pos c_1]); exact hP⟩, hS.F ht⟩) hS.2.2 d_X_layerAt_25
  · skip
    obtain ⟨i, hi, rfl⟩ := x_la_some hL c_1
    refine lv_aload_n hx hb d_X_layerAt_15 rfl (lv_at hl 0 rfl) ?_
    refine wr_get hx hb hts in_X hown hK hP (0) (by omega) rfl rfl 0 (by decide) (hts _ tw_116) rfl d_X_layerAt_16 ?_
    refine lv_iload_n hx hb d_X_layerAt_19 rfl (lv_at hl 1 rfl) ?_
    refine wr_aldq hx hb hK hP (6) 2 (by omega) rfl rfl i rfl (by omega) (by omega) (v := ad (7 + 2 * i)) (if_pos hi) d_X_layerAt_20 ?_
    refine lv_goto (tgt := 25) hx hb d_X_layerAt_21 (by decide) ?_
    exact W.aret hx hb hr (Or.inl ⟨_, rfl⟩) (Or.inr ⟨_, rfl⟩) (fun t ht hW => ⟨⟨some (ad (7 + 2 * i)), (), rfl, by (try simp only [x_la, Option.map_some, Option.map_none, if_neg c_1, nI_clamp (show i < 2 ^ 31 by omega)]); first | done | rfl, by dsimp only; rw [ht]; (try simp only [x_la, Option.map_some, Option.map_none, if_neg c_1, nI_clamp (show i < 2 ^ 31 by omega)]); exact hP⟩, hS.F ht⟩) hS.2.2 d_X_layerAt_25
set_option maxHeartbeats 4000000 in
set_option maxRecDepth 100000 in
theorem c_X_bringN (l : Launch) (g : wG) (ad : Nat → Nat) {L : Nat} (hL : 1 ≤ L ∧ L ≤ 6) (x : xS) (a2 a3 : Int32) (a4 : Int64) : CtI l y_X_bring ws_X_bring ({ frames := 0, cells := 0, slots := 0, locals := 0 }) g (16 + 2 * L) ad (xE g ad L x) (xE g ad L x) [.ref (ad 0), .null, .int a2, .int a3, .long a4] 0 := by
  intro sz
  refine Met.ofW (cc := b_X_bring) (maxL := 6) (ret := (some .boolean)) (by decide +kernel) rfl ?_
  intro p e s m args below meth c s₁ B hml hv
  obtain ⟨rfl, hsz, hP, hK, hN, hJ⟩ := hv
  have hx := B.exec
  have hb := B.bytes
  have hr := B.returns
  have hts0 := atoms_spec (ws := ws_X_bring) B.pre
  have hts : ∀ w ∈ tb, w.before _ s = true := fun w h => hts0 w (List.mem_cons_of_mem _ h)
  have hown : s.vm.findClass "HeapSteps" = some m.cls := findClass_of_methodNamed B.named
  have hlocks := B.notSynchronized
  subst hsz
  have hS : va_S (wA (16 + 2 * L) ad s.heap.size) s.heap s.heap [] := va_S.rf
  have hl := lv_entry ([.ref (ad 0), .null, .int a2, .int a3, .long a4]) (n := 6) (Nat.le_of_ble_eq_true rfl)
  rw [lg_entry_eq]
  generalize (lg_sl ([.ref (ad 0), .null, .int a2, .int a3, .long a4]) ++ List.replicate (6 - (lg_sl ([.ref (ad 0), .null, .int a2, .int a3, .long a4])).length) Slot.unset).toArray = ls at hl ⊢
  have hl : lv_has ls 6 [(0, .ref (ad 0)), (1, .null), (2, .int a2), (3, .int a3), (4, .long a4)] := hl
  refine lv_aload_nN hx hb d_X_bring_0 rfl (lv_at hl 1 rfl) ?_
  refine lv_ifnullN (tgt := 19) hx hb d_X_bring_1 (by decide) ?_
  refine lv_iconst (v := 0) hx hb d_X_bring_19 (by decide) ?_
  exact W.zret hx hb hr rfl (fun t ht hW => ⟨⟨_, (), rfl, by skip; first | done | rfl, by dsimp only; rw [ht]; skip; exact hP⟩, hS.F ht⟩) hS.2.2 d_X_bring_20
set_option maxHeartbeats 4000000 in
set_option maxRecDepth 100000 in
theorem c_X_bring (l : Launch) (g : wG) (ad : Nat → Nat) {L : Nat} (hL : 1 ≤ L ∧ L ≤ 6) (x : xS) {i : Nat} (hi : i < L) (k : Nat) (hk : k < 5) (a3 : Int32) (a4 : Int64) : CtI l y_X_bring ws_X_bring ({ frames := 0, cells := 0, slots := 0, locals := 0 }) g (16 + 2 * L) ad (xE g ad L x) (xE g ad L (x_bring x i k a3 a4).2) [.ref (ad 0), .ref (ad (7 + 2 * i)), .int (nI k), .int a3, .long a4] (x_bring x i k a3 a4).1 := by
  intro sz
  refine Met.ofW (cc := b_X_bring) (maxL := 6) (ret := (some .boolean)) (by decide +kernel) rfl ?_
  intro p e s m args below meth c s₁ B hml hv
  obtain ⟨rfl, hsz, hP, hK, hN, hJ⟩ := hv
  have hx := B.exec
  have hb := B.bytes
  have hr := B.returns
  have hts0 := atoms_spec (ws := ws_X_bring) B.pre
  have hts : ∀ w ∈ tb, w.before _ s = true := fun w h => hts0 w (List.mem_cons_of_mem _ h)
  have hown : s.vm.findClass "HeapSteps" = some m.cls := findClass_of_methodNamed B.named
  have hlocks := B.notSynchronized
  subst hsz
  have hS : va_S (wA (16 + 2 * L) ad s.heap.size) s.heap s.heap [] := va_S.rf
  have hl := lv_entry ([.ref (ad 0), .ref (ad (7 + 2 * i)), .int (nI k), .int a3, .long a4]) (n := 6) (Nat.le_of_ble_eq_true rfl)
  rw [lg_entry_eq]
  generalize (lg_sl ([.ref (ad 0), .ref (ad (7 + 2 * i)), .int (nI k), .int a3, .long a4]) ++ List.replicate (6 - (lg_sl ([.ref (ad 0), .ref (ad (7 + 2 * i)), .int (nI k), .int a3, .long a4])).length) Slot.unset).toArray = ls at hl ⊢
  have hl : lv_has ls 6 [(0, .ref (ad 0)), (1, .ref (ad (7 + 2 * i))), (2, .int (nI k)), (3, .int a3), (4, .long a4)] := hl
  refine lv_aload_n hx hb d_X_bring_0 rfl (lv_at hl 1 rfl) ?_
  refine lv_ifnull hx hb d_X_bring_1 ?_
  refine lv_aload_n hx hb d_X_bring_4 rfl (lv_at hl 1 rfl) ?_
  refine wr_get hx hb hts in_Y hown hK hP (7 + 2 * i) (by omega) (xE_lay g ad L x hi) rfl 0 (by decide) (hts _ tw_79) rfl d_X_bring_5 ?_
  refine lv_iload_n hx hb d_X_bring_8 rfl (lv_at hl 2 rfl) ?_
  refine wr_lald hx hb hK hP (8 + 2 * i) 0 (by omega) (xE_stk g ad L x hi) rfl k rfl (by omega) (by omega) d_X_bring_9 ?_
  refine lv_iload_n hx hb d_X_bring_10 rfl (lv_at hl 3 rfl) ?_
  refine lv_i2l hx hb d_X_bring_11 rfl ?_
  refine lv_ladd hx hb d_X_bring_12 ?_
  refine lv_lload hx hb d_X_bring_13 (lv_at hl 4 rfl) ?_
  refine W.lcmp hx hb d_X_bring_15 ?_
  refine lv_if_le (tgt := 21) hx hb d_X_bring_16 (by decide) (fun c_1 => ?_) (fun c_1 => ?_)
  · skip
    refine lv_aload_n hx hb d_X_bring_21 rfl (lv_at hl 1 rfl) ?_
    refine wr_get hx hb hts in_Y hown hK hP (7 + 2 * i) (by omega) (xE_lay g ad L x hi) rfl 0 (by decide) (hts _ tw_79) rfl d_X_bring_22 ?_
    refine lv_iload_n hx hb d_X_bring_25 rfl (lv_at hl 2 rfl) ?_
    refine lv_dup2_11 hx hb d_X_bring_26 rfl rfl ?_
    refine wr_lald hx hb hK hP (8 + 2 * i) 0 (by omega) (xE_stk g ad L x hi) rfl k rfl (by omega) (by omega) d_X_bring_27 ?_
    refine lv_iload_n hx hb d_X_bring_28 rfl (lv_at hl 3 rfl) ?_
    refine lv_i2l hx hb d_X_bring_29 rfl ?_
    refine lv_ladd hx hb d_X_bring_30 ?_
    obtain ⟨x_2, ex_2⟩ : ∃ z9, z9 = xT' x i k ((xT x i k) + (Int32.toInt64 a3)) := ⟨_, rfl⟩
    refine wr_last (E' := xE g ad L x_2) hx hb hK hP hJ hS (8 + 2 * i) 0 (by omega) (xE_stk g ad L x hi) rfl k rfl (by omega) (by omega) (by rw [ex_2]; exact xU_T g ad L x hi k ((xT x i k) + (Int32.toInt64 a3))) d_X_bring_31 (fun H locs hP hS => ?_)
    refine lv_aload_n hx hb d_X_bring_32 rfl (lv_at hl 0 rfl) ?_
    refine wr_get hx hb hts in_X hown hK hP (0) (by omega) rfl rfl 4 (by decide) (hts _ tw_120) rfl d_X_bring_33 ?_
    refine lv_iload_n hx hb d_X_bring_36 rfl (lv_at hl 2 rfl) ?_
    refine lv_dup2_11 hx hb d_X_bring_37 rfl rfl ?_
    refine wr_lald hx hb hK hP (4) 0 (by omega) rfl rfl k rfl (by omega) (by omega) d_X_bring_38 ?_
    refine lv_iload_n hx hb d_X_bring_39 rfl (lv_at hl 3 rfl) ?_
    refine lv_i2l hx hb d_X_bring_40 rfl ?_
    refine lv_ladd hx hb d_X_bring_41 ?_
    obtain ⟨x_3, ex_3⟩ : ∃ z9, z9 = xO' x_2 1 k ((xO x_2 1 k) + (Int32.toInt64 a3)) := ⟨_, rfl⟩
    refine wr_last (E' := xE g ad L x_3) hx hb hK hP hJ hS (4) 0 (by omega) rfl rfl k rfl (by omega) (by omega) (by rw [ex_3]; exact xU_O g ad L x_2 1 k (by decide) ((xO x_2 1 k) + (Int32.toInt64 a3))) d_X_bring_42 (fun H locs hP hS => ?_)
    refine lv_iconst (v := 1) hx hb d_X_bring_43 (by decide) ?_
    subst ex_2
    subst ex_3
    exact W.zret hx hb hr rfl (fun t ht hW => ⟨⟨_, (), rfl, by (try simp only [x_bring, if_pos c_1]); first | done | rfl, by dsimp only; rw [ht]; (try simp only [x_bring, if_pos c_1]); exact hP⟩, hS.F ht⟩) hS.2.2 d_X_bring_44
  · skip
    refine lv_iconst (v := 0) hx hb d_X_bring_19 (by decide) ?_
    exact W.zret hx hb hr rfl (fun t ht hW => ⟨⟨_, (), rfl, by (try simp only [x_bring, if_neg c_1]); first | done | rfl, by dsimp only; rw [ht]; (try simp only [x_bring, if_neg c_1]); exact hP⟩, hS.F ht⟩) hS.2.2 d_X_bring_20
set_option maxHeartbeats 4000000 in
set_option maxRecDepth 100000 in
theorem c_X_part (l : Launch) (g : wG) (ad : Nat → Nat) {L : Nat} (hL : 1 ≤ L ∧ L ≤ 6) (x : xS) (a1 a2 a3 : Int32) : CtI l y_X_part ws_X_part ({ frames := 2, cells := 0, slots := 0, locals := 43 }) g (16 + 2 * L) ad (xE g ad L x) (xE g ad L (x_part L x a1 a2 a3).2) [.ref (ad 0), .int a1, .int a2, .int a3] (x_part L x a1 a2 a3).1 := by
  intro sz
  refine Met.ofW (cc := b_X_part) (maxL := 4) (ret := (some .boolean)) (by decide +kernel) rfl ?_
  intro p e s m args below meth c s₁ B hml hv
  obtain ⟨rfl, hsz, hP, hK, hN, hJ⟩ := hv
  have hx := B.exec
  have hb := B.bytes
  have hr := B.returns
  have hts0 := atoms_spec (ws := ws_X_part) B.pre
  have hts : ∀ w ∈ tb, w.before _ s = true := fun w h => hts0 w (List.mem_cons_of_mem _ h)
  have hown : s.vm.findClass "HeapSteps" = some m.cls := findClass_of_methodNamed B.named
  have hlocks := B.notSynchronized
  subst hsz
  have hS : va_S (wA (16 + 2 * L) ad s.heap.size) s.heap s.heap [] := va_S.rf
  have hl := lv_entry ([.ref (ad 0), .int a1, .int a2, .int a3]) (n := 4) (Nat.le_of_ble_eq_true rfl)
  rw [lg_entry_eq]
  generalize (lg_sl ([.ref (ad 0), .int a1, .int a2, .int a3]) ++ List.replicate (4 - (lg_sl ([.ref (ad 0), .int a1, .int a2, .int a3])).length) Slot.unset).toArray = ls at hl ⊢
  have hl : lv_has ls 4 [(0, .ref (ad 0)), (1, .int a1), (2, .int a2), (3, .int a3)] := hl
  refine lv_iload_n hx hb d_X_part_0 rfl (lv_at hl 2 rfl) ?_
  refine wc_i (va_runS (As := [.int a2]) (rest := []) ⟨hx, hb, hml, hown, hts⟩ (c_X_isPart l g _ ad _ a2 _) (cwS 1 hts (gd_S tw_151 tw_152 tw_24 tw_153) rfl rfl rfl (by decide +kernel) ⟨Nat.le_of_ble_eq_true rfl, Nat.le_of_ble_eq_true rfl⟩) (wp_S hK hN hP hJ) rfl rfl hl.1 rfl (lv_room (Nat.le_of_ble_eq_true rfl)) d_X_part_1 ⟨Nat.zero_le _, Nat.zero_le _⟩) hS (fun H locs hP hS => ?_)
  refine lv_if_eq (tgt := 17) hx hb d_X_part_4 (by decide) (fun c_1 => ?_) (fun c_1 => ?_)
  · skip
    refine lv_iconst (v := 0) hx hb d_X_part_17 (by decide) ?_
    exact W.zret hx hb hr rfl (fun t ht hW => ⟨⟨_, (), rfl, by (try simp only [x_part, x_bringAt, if_pos c_1]); first | done | rfl, by dsimp only; rw [ht]; (try simp only [x_part, x_bringAt, if_pos c_1]); exact hP⟩, hS.F ht⟩) hS.2.2 d_X_part_18
  · skip
    refine lv_iload_n hx hb d_X_part_7 rfl (lv_at hl 3 rfl) ?_
    refine lv_iconst (v := 0) hx hb d_X_part_8 (by decide) ?_
    refine lv_ldc (v := 1000000) hx hb hown (hts _ tw_154) d_X_part_9 ?_
    refine wc_i (va_runS (As := [.int a3, .int 0, .int 1000000]) (rest := []) ⟨hx, hb, hml, hown, hts⟩ (c_X_within l g _ ad _ a3 0 1000000 _) (cwS 3 hts (gd_S tw_67 tw_68 tw_24 tw_69) rfl rfl rfl (by decide +kernel) ⟨Nat.le_of_ble_eq_true rfl, Nat.le_of_ble_eq_true rfl⟩) (wp_S hK hN hP hJ) rfl rfl hl.1 rfl (lv_room (Nat.le_of_ble_eq_true rfl)) d_X_part_11 ⟨Nat.zero_le _, Nat.zero_le _⟩) hS (fun H locs hP hS => ?_)
    refine lv_if_ne (tgt := 19) hx hb d_X_part_14 (by decide) (fun c_2 => ?_) (fun c_2 => ?_)
    · skip
      obtain ⟨k, hk, rfl⟩ := x_within_nat (n := 2) (by decide) c_1
      refine lv_aload_n hx hb d_X_part_19 rfl (lv_at hl 0 rfl) ?_
      refine lv_aload_n hx hb d_X_part_20 rfl (lv_at hl 0 rfl) ?_
      refine lv_iload_n hx hb d_X_part_21 rfl (lv_at hl 1 rfl) ?_
      refine wc_q (va_runV (As := [.int a1]) (rest := [.ref (ad 0)]) ⟨hx, hb, hml, hown, hts⟩ (c_X_layerAt l g ad hL x a1 _) (cwV 1 hts (gd_V tw_155 tw_157 tw_0 tw_24 tw_158) rfl rfl rfl (by decide +kernel) ⟨Nat.le_of_ble_eq_true rfl, Nat.le_of_ble_eq_true rfl⟩) (wp_V hK hN hP hJ (0) (by omega) rfl rfl) rfl rfl hl.1 rfl (lv_room (Nat.le_of_ble_eq_true rfl)) d_X_part_22 ⟨Nat.zero_le _, Nat.zero_le _⟩) hS (fun H locs hP hS => ?_)
      rcases x_la_cases hL a1 with q_3 | ⟨i_4, hi_4, hni_4, q_3⟩
      · rw [q_3]
        refine W.eq (g2 := F0 m 25 ls [.null, .ref (ad 0)]) rfl ?_
        refine lv_iload_n hx hb d_X_part_25 rfl (lv_at hl 2 rfl) ?_
        refine lv_iload_n hx hb d_X_part_26 rfl (lv_at hl 3 rfl) ?_
        refine lv_ldc2 (v := 1000000000) hx hb hown (hts _ tw_159) d_X_part_27 ?_
        refine wc_i (va_runV (As := [.null, .int (nI k), .int a3, .long 1000000000]) (rest := []) ⟨hx, hb, hml, hown, hts⟩ (c_X_bringN l g ad hL x (nI k) a3 1000000000 _) (cwV 4 hts (gd_V tw_160 tw_162 tw_1 tw_24 tw_163) rfl rfl rfl (by decide +kernel) ⟨Nat.le_of_ble_eq_true rfl, Nat.le_of_ble_eq_true rfl⟩) (wp_V hK hN hP hJ (0) (by omega) rfl rfl) rfl rfl hl.1 rfl (lv_room (Nat.le_of_ble_eq_true rfl)) d_X_part_30 ⟨Nat.zero_le _, Nat.zero_le _⟩) hS (fun H locs hP hS => ?_)
        exact W.zret hx hb hr rfl (fun t ht hW => ⟨⟨_, (), rfl, by (try simp only [x_part, x_bringAt, if_neg c_1, if_neg c_2, q_3, nI_clamp (show k < 2 ^ 31 by omega)]); first | done | rfl, by dsimp only; rw [ht]; (try simp only [x_part, x_bringAt, if_neg c_1, if_neg c_2, q_3, nI_clamp (show k < 2 ^ 31 by omega)]); exact hP⟩, hS.F ht⟩) hS.2.2 d_X_part_33
      · rw [q_3]
        refine W.eq (g2 := F0 m 25 ls [.ref (ad (7 + 2 * i_4)), .ref (ad 0)]) rfl ?_
        refine lv_iload_n hx hb d_X_part_25 rfl (lv_at hl 2 rfl) ?_
        refine lv_iload_n hx hb d_X_part_26 rfl (lv_at hl 3 rfl) ?_
        refine lv_ldc2 (v := 1000000000) hx hb hown (hts _ tw_159) d_X_part_27 ?_
        refine wc_i (va_runV (As := [.ref (ad (7 + 2 * i_4)), .int (nI k), .int a3, .long 1000000000]) (rest := []) ⟨hx, hb, hml, hown, hts⟩ (c_X_bring l g ad hL x hi_4 k (by omega) a3 1000000000 _) (cwV 4 hts (gd_V tw_160 tw_162 tw_1 tw_24 tw_163) rfl rfl rfl (by decide +kernel) ⟨Nat.le_of_ble_eq_true rfl, Nat.le_of_ble_eq_true rfl⟩) (wp_V hK hN hP hJ (0) (by omega) rfl rfl) rfl rfl hl.1 rfl (lv_room (Nat.le_of_ble_eq_true rfl)) d_X_part_30 ⟨Nat.zero_le _, Nat.zero_le _⟩) hS (fun H locs hP hS => ?_)
        obtain ⟨x_5, ex_5⟩ : ∃ z9, z9 = (x_bring x i_4 k a3 1000000000).2 := ⟨_, rfl⟩
        rw [← ex_5] at hP
        subst ex_5
        exact W.zret hx hb hr (nb_01 (x_bring_01 _ _ _ _ _)) (fun t ht hW => ⟨⟨_, (), rfl, by (try simp only [x_part, x_bringAt, if_neg c_1, if_neg c_2, q_3, nI_clamp (show k < 2 ^ 31 by omega)]); first | done | rfl, by dsimp only; rw [ht]; (try simp only [x_part, x_bringAt, if_neg c_1, if_neg c_2, q_3, nI_clamp (show k < 2 ^ 31 by omega)]); exact hP⟩, hS.F ht⟩) hS.2.2 d_X_part_33
    · skip
      refine lv_iconst (v := 0) hx hb d_X_part_17 (by decide) ?_
      exact W.zret hx hb hr rfl (fun t ht hW => ⟨⟨_, (), rfl, by (try simp only [x_part, x_bringAt, if_neg c_1, if_pos c_2]); first | done | rfl, by dsimp only; rw [ht]; (try simp only [x_part, x_bringAt, if_neg c_1, if_pos c_2]); exact hP⟩, hS.F ht⟩) hS.2.2 d_X_part_18
set_option maxHeartbeats 4000000 in
set_option maxRecDepth 100000 in
theorem c_X_water (l : Launch) (g : wG) (ad : Nat → Nat) {L : Nat} (hL : 1 ≤ L ∧ L ≤ 6) (x : xS) (a1 a2 : Int32) : CtI l y_X_water ws_X_water ({ frames := 2, cells := 0, slots := 0, locals := 43 }) g (16 + 2 * L) ad (xE g ad L x) (xE g ad L (x_water L x a1 a2).2) [.ref (ad 0), .int a1, .int a2] (x_water L x a1 a2).1 := by
  intro sz
  refine Met.ofW (cc := b_X_water) (maxL := 3) (ret := (some .boolean)) (by decide +kernel) rfl ?_
  intro p e s m args below meth c s₁ B hml hv
  obtain ⟨rfl, hsz, hP, hK, hN, hJ⟩ := hv
  have hx := B.exec
  have hb := B.bytes
  have hr := B.returns
  have hts0 := atoms_spec (ws := ws_X_water) B.pre
  have hts : ∀ w ∈ tb, w.before _ s = true := fun w h => hts0 w (List.mem_cons_of_mem _ h)
  have hown : s.vm.findClass "HeapSteps" = some m.cls := findClass_of_methodNamed B.named
  have hlocks := B.notSynchronized
  subst hsz
  have hS : va_S (wA (16 + 2 * L) ad s.heap.size) s.heap s.heap [] := va_S.rf
  have hl := lv_entry ([.ref (ad 0), .int a1, .int a2]) (n := 3) (Nat.le_of_ble_eq_true rfl)
  rw [lg_entry_eq]
  generalize (lg_sl ([.ref (ad 0), .int a1, .int a2]) ++ List.replicate (3 - (lg_sl ([.ref (ad 0), .int a1, .int a2])).length) Slot.unset).toArray = ls at hl ⊢
  have hl : lv_has ls 3 [(0, .ref (ad 0)), (1, .int a1), (2, .int a2)] := hl
  refine lv_iload_n hx hb d_X_water_0 rfl (lv_at hl 2 rfl) ?_
  refine lv_iconst (v := 0) hx hb d_X_water_1 (by decide) ?_
  refine lv_ldc (v := 1000000) hx hb hown (hts _ tw_154) d_X_water_2 ?_
  refine wc_i (va_runS (As := [.int a2, .int 0, .int 1000000]) (rest := []) ⟨hx, hb, hml, hown, hts⟩ (c_X_within l g _ ad _ a2 0 1000000 _) (cwS 3 hts (gd_S tw_67 tw_68 tw_24 tw_69) rfl rfl rfl (by decide +kernel) ⟨Nat.le_of_ble_eq_true rfl, Nat.le_of_ble_eq_true rfl⟩) (wp_S hK hN hP hJ) rfl rfl hl.1 rfl (lv_room (Nat.le_of_ble_eq_true rfl)) d_X_water_4 ⟨Nat.zero_le _, Nat.zero_le _⟩) hS (fun H locs hP hS => ?_)
  refine lv_if_ne (tgt := 12) hx hb d_X_water_7 (by decide) (fun c_1 => ?_) (fun c_1 => ?_)
  · skip
    refine lv_aload_n hx hb d_X_water_12 rfl (lv_at hl 0 rfl) ?_
    refine lv_aload_n hx hb d_X_water_13 rfl (lv_at hl 0 rfl) ?_
    refine lv_iload_n hx hb d_X_water_14 rfl (lv_at hl 1 rfl) ?_
    refine wc_q (va_runV (As := [.int a1]) (rest := [.ref (ad 0)]) ⟨hx, hb, hml, hown, hts⟩ (c_X_layerAt l g ad hL x a1 _) (cwV 1 hts (gd_V tw_155 tw_157 tw_0 tw_24 tw_158) rfl rfl rfl (by decide +kernel) ⟨Nat.le_of_ble_eq_true rfl, Nat.le_of_ble_eq_true rfl⟩) (wp_V hK hN hP hJ (0) (by omega) rfl rfl) rfl rfl hl.1 rfl (lv_room (Nat.le_of_ble_eq_true rfl)) d_X_water_15 ⟨Nat.zero_le _, Nat.zero_le _⟩) hS (fun H locs hP hS => ?_)
    rcases x_la_cases hL a1 with q_2 | ⟨i_3, hi_3, hni_3, q_2⟩
    · rw [q_2]
      refine W.eq (g2 := F0 m 18 ls [.null, .ref (ad 0)]) rfl ?_
      refine lv_iconst (v := 3) hx hb d_X_water_18 (by decide) ?_
      refine lv_iload_n hx hb d_X_water_19 rfl (lv_at hl 2 rfl) ?_
      refine lv_ldc2 (v := 1000000000) hx hb hown (hts _ tw_159) d_X_water_20 ?_
      refine wc_i (va_runV (As := [.null, .int 3, .int a2, .long 1000000000]) (rest := []) ⟨hx, hb, hml, hown, hts⟩ (c_X_bringN l g ad hL x 3 a2 1000000000 _) (cwV 4 hts (gd_V tw_160 tw_162 tw_1 tw_24 tw_163) rfl rfl rfl (by decide +kernel) ⟨Nat.le_of_ble_eq_true rfl, Nat.le_of_ble_eq_true rfl⟩) (wp_V hK hN hP hJ (0) (by omega) rfl rfl) rfl rfl hl.1 rfl (lv_room (Nat.le_of_ble_eq_true rfl)) d_X_water_23 ⟨Nat.zero_le _, Nat.zero_le _⟩) hS (fun H locs hP hS => ?_)
      exact W.zret hx hb hr rfl (fun t ht hW => ⟨⟨_, (), rfl, by (try simp only [x_water, x_bringAt, if_neg c_1, q_2]); first | done | rfl, by dsimp only; rw [ht]; (try simp only [x_water, x_bringAt, if_neg c_1, q_2]); exact hP⟩, hS.F ht⟩) hS.2.2 d_X_water_26
    · rw [q_2]
      refine W.eq (g2 := F0 m 18 ls [.ref (ad (7 + 2 * i_3)), .ref (ad 0)]) rfl ?_
      refine lv_iconst (v := 3) hx hb d_X_water_18 (by decide) ?_
      refine lv_iload_n hx hb d_X_water_19 rfl (lv_at hl 2 rfl) ?_
      refine lv_ldc2 (v := 1000000000) hx hb hown (hts _ tw_159) d_X_water_20 ?_
      refine wc_i (va_runV (As := [.ref (ad (7 + 2 * i_3)), .int 3, .int a2, .long 1000000000]) (rest := []) ⟨hx, hb, hml, hown, hts⟩ (c_X_bring l g ad hL x hi_3 3 (by omega) a2 1000000000 _) (cwV 4 hts (gd_V tw_160 tw_162 tw_1 tw_24 tw_163) rfl rfl rfl (by decide +kernel) ⟨Nat.le_of_ble_eq_true rfl, Nat.le_of_ble_eq_true rfl⟩) (wp_V hK hN hP hJ (0) (by omega) rfl rfl) rfl rfl hl.1 rfl (lv_room (Nat.le_of_ble_eq_true rfl)) d_X_water_23 ⟨Nat.zero_le _, Nat.zero_le _⟩) hS (fun H locs hP hS => ?_)
      obtain ⟨x_4, ex_4⟩ : ∃ z9, z9 = (x_bring x i_3 3 a2 1000000000).2 := ⟨_, rfl⟩
      rw [← ex_4] at hP
      subst ex_4
      exact W.zret hx hb hr (nb_01 (x_bring_01 _ _ _ _ _)) (fun t ht hW => ⟨⟨_, (), rfl, by (try simp only [x_water, x_bringAt, if_neg c_1, q_2]); first | done | rfl, by dsimp only; rw [ht]; (try simp only [x_water, x_bringAt, if_neg c_1, q_2]); exact hP⟩, hS.F ht⟩) hS.2.2 d_X_water_26
  · skip
    refine lv_iconst (v := 0) hx hb d_X_water_10 (by decide) ?_
    exact W.zret hx hb hr rfl (fun t ht hW => ⟨⟨_, (), rfl, by (try simp only [x_water, x_bringAt, if_pos c_1]); first | done | rfl, by dsimp only; rw [ht]; (try simp only [x_water, x_bringAt, if_pos c_1]); exact hP⟩, hS.F ht⟩) hS.2.2 d_X_water_11
set_option maxHeartbeats 4000000 in
set_option maxRecDepth 100000 in
theorem c_X_heat (l : Launch) (g : wG) (ad : Nat → Nat) {L : Nat} (hL : 1 ≤ L ∧ L ≤ 6) (x : xS) (a1 a2 : Int32) : CtI l y_X_heat ws_X_heat ({ frames := 2, cells := 0, slots := 0, locals := 43 }) g (16 + 2 * L) ad (xE g ad L x) (xE g ad L (x_heat L x a1 a2).2) [.ref (ad 0), .int a1, .int a2] (x_heat L x a1 a2).1 := by
  intro sz
  refine Met.ofW (cc := b_X_heat) (maxL := 3) (ret := (some .boolean)) (by decide +kernel) rfl ?_
  intro p e s m args below meth c s₁ B hml hv
  obtain ⟨rfl, hsz, hP, hK, hN, hJ⟩ := hv
  have hx := B.exec
  have hb := B.bytes
  have hr := B.returns
  have hts0 := atoms_spec (ws := ws_X_heat) B.pre
  have hts : ∀ w ∈ tb, w.before _ s = true := fun w h => hts0 w (List.mem_cons_of_mem _ h)
  have hown : s.vm.findClass "HeapSteps" = some m.cls := findClass_of_methodNamed B.named
  have hlocks := B.notSynchronized
  subst hsz
  have hS : va_S (wA (16 + 2 * L) ad s.heap.size) s.heap s.heap [] := va_S.rf
  have hl := lv_entry ([.ref (ad 0), .int a1, .int a2]) (n := 3) (Nat.le_of_ble_eq_true rfl)
  rw [lg_entry_eq]
  generalize (lg_sl ([.ref (ad 0), .int a1, .int a2]) ++ List.replicate (3 - (lg_sl ([.ref (ad 0), .int a1, .int a2])).length) Slot.unset).toArray = ls at hl ⊢
  have hl : lv_has ls 3 [(0, .ref (ad 0)), (1, .int a1), (2, .int a2)] := hl
  refine lv_iload_n hx hb d_X_heat_0 rfl (lv_at hl 2 rfl) ?_
  refine lv_iconst (v := 0) hx hb d_X_heat_1 (by decide) ?_
  refine lv_ldc (v := 1000000000) hx hb hown (hts _ tw_66) d_X_heat_2 ?_
  refine wc_i (va_runS (As := [.int a2, .int 0, .int 1000000000]) (rest := []) ⟨hx, hb, hml, hown, hts⟩ (c_X_within l g _ ad _ a2 0 1000000000 _) (cwS 3 hts (gd_S tw_67 tw_68 tw_24 tw_69) rfl rfl rfl (by decide +kernel) ⟨Nat.le_of_ble_eq_true rfl, Nat.le_of_ble_eq_true rfl⟩) (wp_S hK hN hP hJ) rfl rfl hl.1 rfl (lv_room (Nat.le_of_ble_eq_true rfl)) d_X_heat_4 ⟨Nat.zero_le _, Nat.zero_le _⟩) hS (fun H locs hP hS => ?_)
  refine lv_if_ne (tgt := 12) hx hb d_X_heat_7 (by decide) (fun c_1 => ?_) (fun c_1 => ?_)
  · skip
    refine lv_aload_n hx hb d_X_heat_12 rfl (lv_at hl 0 rfl) ?_
    refine lv_aload_n hx hb d_X_heat_13 rfl (lv_at hl 0 rfl) ?_
    refine lv_iload_n hx hb d_X_heat_14 rfl (lv_at hl 1 rfl) ?_
    refine wc_q (va_runV (As := [.int a1]) (rest := [.ref (ad 0)]) ⟨hx, hb, hml, hown, hts⟩ (c_X_layerAt l g ad hL x a1 _) (cwV 1 hts (gd_V tw_155 tw_157 tw_0 tw_24 tw_158) rfl rfl rfl (by decide +kernel) ⟨Nat.le_of_ble_eq_true rfl, Nat.le_of_ble_eq_true rfl⟩) (wp_V hK hN hP hJ (0) (by omega) rfl rfl) rfl rfl hl.1 rfl (lv_room (Nat.le_of_ble_eq_true rfl)) d_X_heat_15 ⟨Nat.zero_le _, Nat.zero_le _⟩) hS (fun H locs hP hS => ?_)
    rcases x_la_cases hL a1 with q_2 | ⟨i_3, hi_3, hni_3, q_2⟩
    · rw [q_2]
      refine W.eq (g2 := F0 m 18 ls [.null, .ref (ad 0)]) rfl ?_
      refine lv_iconst (v := 4) hx hb d_X_heat_18 (by decide) ?_
      refine lv_iload_n hx hb d_X_heat_19 rfl (lv_at hl 2 rfl) ?_
      refine lv_ldc2 (v := 1000000000000000) hx hb hown (hts _ tw_172) d_X_heat_20 ?_
      refine wc_i (va_runV (As := [.null, .int 4, .int a2, .long 1000000000000000]) (rest := []) ⟨hx, hb, hml, hown, hts⟩ (c_X_bringN l g ad hL x 4 a2 1000000000000000 _) (cwV 4 hts (gd_V tw_160 tw_162 tw_1 tw_24 tw_163) rfl rfl rfl (by decide +kernel) ⟨Nat.le_of_ble_eq_true rfl, Nat.le_of_ble_eq_true rfl⟩) (wp_V hK hN hP hJ (0) (by omega) rfl rfl) rfl rfl hl.1 rfl (lv_room (Nat.le_of_ble_eq_true rfl)) d_X_heat_23 ⟨Nat.zero_le _, Nat.zero_le _⟩) hS (fun H locs hP hS => ?_)
      exact W.zret hx hb hr rfl (fun t ht hW => ⟨⟨_, (), rfl, by (try simp only [x_heat, x_bringAt, if_neg c_1, q_2]); first | done | rfl, by dsimp only; rw [ht]; (try simp only [x_heat, x_bringAt, if_neg c_1, q_2]); exact hP⟩, hS.F ht⟩) hS.2.2 d_X_heat_26
    · rw [q_2]
      refine W.eq (g2 := F0 m 18 ls [.ref (ad (7 + 2 * i_3)), .ref (ad 0)]) rfl ?_
      refine lv_iconst (v := 4) hx hb d_X_heat_18 (by decide) ?_
      refine lv_iload_n hx hb d_X_heat_19 rfl (lv_at hl 2 rfl) ?_
      refine lv_ldc2 (v := 1000000000000000) hx hb hown (hts _ tw_172) d_X_heat_20 ?_
      refine wc_i (va_runV (As := [.ref (ad (7 + 2 * i_3)), .int 4, .int a2, .long 1000000000000000]) (rest := []) ⟨hx, hb, hml, hown, hts⟩ (c_X_bring l g ad hL x hi_3 4 (by omega) a2 1000000000000000 _) (cwV 4 hts (gd_V tw_160 tw_162 tw_1 tw_24 tw_163) rfl rfl rfl (by decide +kernel) ⟨Nat.le_of_ble_eq_true rfl, Nat.le_of_ble_eq_true rfl⟩) (wp_V hK hN hP hJ (0) (by omega) rfl rfl) rfl rfl hl.1 rfl (lv_room (Nat.le_of_ble_eq_true rfl)) d_X_heat_23 ⟨Nat.zero_le _, Nat.zero_le _⟩) hS (fun H locs hP hS => ?_)
      obtain ⟨x_4, ex_4⟩ : ∃ z9, z9 = (x_bring x i_3 4 a2 1000000000000000).2 := ⟨_, rfl⟩
      rw [← ex_4] at hP
      subst ex_4
      exact W.zret hx hb hr (nb_01 (x_bring_01 _ _ _ _ _)) (fun t ht hW => ⟨⟨_, (), rfl, by (try simp only [x_heat, x_bringAt, if_neg c_1, q_2]); first | done | rfl, by dsimp only; rw [ht]; (try simp only [x_heat, x_bringAt, if_neg c_1, q_2]); exact hP⟩, hS.F ht⟩) hS.2.2 d_X_heat_26
  · skip
    refine lv_iconst (v := 0) hx hb d_X_heat_10 (by decide) ?_
    exact W.zret hx hb hr rfl (fun t ht hW => ⟨⟨_, (), rfl, by (try simp only [x_heat, x_bringAt, if_pos c_1]); first | done | rfl, by dsimp only; rw [ht]; (try simp only [x_heat, x_bringAt, if_pos c_1]); exact hP⟩, hS.F ht⟩) hS.2.2 d_X_heat_11
set_option maxHeartbeats 4000000 in
set_option maxRecDepth 100000 in
theorem c_X_rate (l : Launch) (g : wG) (ad : Nat → Nat) {L : Nat} (hL : 1 ≤ L ∧ L ≤ 6) (x : xS) (hrow : x_rows x) (a1 a2 a3 : Int32) : CtI l y_X_rate ws_X_rate ({ frames := 2, cells := 0, slots := 0, locals := 42 }) g (16 + 2 * L) ad (xE g ad L x) (xE g ad L (x_rate x a1 a2 a3).2) [.ref (ad 0), .int a1, .int a2, .int a3] (x_rate x a1 a2 a3).1 := by
  intro sz
  refine Met.ofW (cc := b_X_rate) (maxL := 4) (ret := (some .boolean)) (by decide +kernel) rfl ?_
  intro p e s m args below meth c s₁ B hml hv
  obtain ⟨rfl, hsz, hP, hK, hN, hJ⟩ := hv
  have hx := B.exec
  have hb := B.bytes
  have hr := B.returns
  have hts0 := atoms_spec (ws := ws_X_rate) B.pre
  have hts : ∀ w ∈ tb, w.before _ s = true := fun w h => hts0 w (List.mem_cons_of_mem _ h)
  have hown : s.vm.findClass "HeapSteps" = some m.cls := findClass_of_methodNamed B.named
  have hlocks := B.notSynchronized
  subst hsz
  have hS : va_S (wA (16 + 2 * L) ad s.heap.size) s.heap s.heap [] := va_S.rf
  have hl := lv_entry ([.ref (ad 0), .int a1, .int a2, .int a3]) (n := 4) (Nat.le_of_ble_eq_true rfl)
  rw [lg_entry_eq]
  generalize (lg_sl ([.ref (ad 0), .int a1, .int a2, .int a3]) ++ List.replicate (4 - (lg_sl ([.ref (ad 0), .int a1, .int a2, .int a3])).length) Slot.unset).toArray = ls at hl ⊢
  have hl : lv_has ls 4 [(0, .ref (ad 0)), (1, .int a1), (2, .int a2), (3, .int a3)] := hl
  refine lv_iload_n hx hb d_X_rate_0 rfl (lv_at hl 1 rfl) ?_
  refine wc_i (va_runS (As := [.int a1]) (rest := []) ⟨hx, hb, hml, hown, hts⟩ (c_X_isPart l g _ ad _ a1 _) (cwS 1 hts (gd_S tw_151 tw_152 tw_24 tw_153) rfl rfl rfl (by decide +kernel) ⟨Nat.le_of_ble_eq_true rfl, Nat.le_of_ble_eq_true rfl⟩) (wp_S hK hN hP hJ) rfl rfl hl.1 rfl (lv_room (Nat.le_of_ble_eq_true rfl)) d_X_rate_1 ⟨Nat.zero_le _, Nat.zero_le _⟩) hS (fun H locs hP hS => ?_)
  refine lv_if_eq (tgt := 27) hx hb d_X_rate_4 (by decide) (fun c_1 => ?_) (fun c_1 => ?_)
  · skip
    refine lv_iconst (v := 0) hx hb d_X_rate_27 (by decide) ?_
    exact W.zret hx hb hr rfl (fun t ht hW => ⟨⟨_, (), rfl, by (try simp only [x_rate, if_pos c_1]); first | done | rfl, by dsimp only; rw [ht]; (try simp only [x_rate, if_pos c_1]); exact hP⟩, hS.F ht⟩) hS.2.2 d_X_rate_28
  · skip
    refine lv_iload_n hx hb d_X_rate_7 rfl (lv_at hl 2 rfl) ?_
    refine lv_iconst (v := 0) hx hb d_X_rate_8 (by decide) ?_
    refine lv_ldc (v := 1000000) hx hb hown (hts _ tw_154) d_X_rate_9 ?_
    refine wc_i (va_runS (As := [.int a2, .int 0, .int 1000000]) (rest := []) ⟨hx, hb, hml, hown, hts⟩ (c_X_within l g _ ad _ a2 0 1000000 _) (cwS 3 hts (gd_S tw_67 tw_68 tw_24 tw_69) rfl rfl rfl (by decide +kernel) ⟨Nat.le_of_ble_eq_true rfl, Nat.le_of_ble_eq_true rfl⟩) (wp_S hK hN hP hJ) rfl rfl hl.1 rfl (lv_room (Nat.le_of_ble_eq_true rfl)) d_X_rate_11 ⟨Nat.zero_le _, Nat.zero_le _⟩) hS (fun H locs hP hS => ?_)
    refine lv_if_eq (tgt := 27) hx hb d_X_rate_14 (by decide) (fun c_2 => ?_) (fun c_2 => ?_)
    · skip
      refine lv_iconst (v := 0) hx hb d_X_rate_27 (by decide) ?_
      exact W.zret hx hb hr rfl (fun t ht hW => ⟨⟨_, (), rfl, by (try simp only [x_rate, if_neg c_1, if_pos c_2]); first | done | rfl, by dsimp only; rw [ht]; (try simp only [x_rate, if_neg c_1, if_pos c_2]); exact hP⟩, hS.F ht⟩) hS.2.2 d_X_rate_28
    · skip
      refine lv_iload_n hx hb d_X_rate_17 rfl (lv_at hl 3 rfl) ?_
      refine lv_iconst (v := 0) hx hb d_X_rate_18 (by decide) ?_
      refine lv_ldc (v := 100000) hx hb hown (hts _ tw_177) d_X_rate_19 ?_
      refine wc_i (va_runS (As := [.int a3, .int 0, .int 100000]) (rest := []) ⟨hx, hb, hml, hown, hts⟩ (c_X_within l g _ ad _ a3 0 100000 _) (cwS 3 hts (gd_S tw_67 tw_68 tw_24 tw_69) rfl rfl rfl (by decide +kernel) ⟨Nat.le_of_ble_eq_true rfl, Nat.le_of_ble_eq_true rfl⟩) (wp_S hK hN hP hJ) rfl rfl hl.1 rfl (lv_room (Nat.le_of_ble_eq_true rfl)) d_X_rate_21 ⟨Nat.zero_le _, Nat.zero_le _⟩) hS (fun H locs hP hS => ?_)
      refine lv_if_ne (tgt := 29) hx hb d_X_rate_24 (by decide) (fun c_3 => ?_) (fun c_3 => ?_)
      · skip
        obtain ⟨k, hk, rfl⟩ := x_within_nat (n := 2) (by decide) c_1
        refine lv_aload_n hx hb d_X_rate_29 rfl (lv_at hl 0 rfl) ?_
        refine wr_get hx hb hts in_X hown hK hP (0) (by omega) rfl rfl 1 (by decide) (hts _ tw_117) rfl d_X_rate_30 ?_
        refine lv_iload_n hx hb d_X_rate_33 rfl (lv_at hl 1 rfl) ?_
        refine wr_aldq hx hb hK hP (1) 3 (by omega) rfl rfl k rfl (by omega) (by omega) (v := ad (7 + 2 * L + 3 * k)) (if_pos (by omega)) d_X_rate_34 ?_
        refine lv_iload_n hx hb d_X_rate_35 rfl (lv_at hl 2 rfl) ?_
        refine lv_iload_n hx hb d_X_rate_36 rfl (lv_at hl 3 rfl) ?_
        refine wc_i (va_runV (As := [.int a2, .int a3]) (rest := []) ⟨hx, hb, hml, hown, hts⟩ (c_K_addRow l g ad hL x k (by omega) (hrow k (by omega)) a2 a3 _) (cwV 2 hts (gd_V tw_178 tw_179 tw_180 tw_27 tw_181) rfl rfl rfl (by decide +kernel) ⟨Nat.le_of_ble_eq_true rfl, Nat.le_of_ble_eq_true rfl⟩) (wp_V hK hN hP hJ (7 + 2 * L + 3 * k) (by omega) (xE_kind g ad L x k) rfl) rfl rfl hl.1 rfl (lv_room (Nat.le_of_ble_eq_true rfl)) d_X_rate_37 ⟨Nat.zero_le _, Nat.zero_le _⟩) hS (fun H locs hP hS => ?_)
        obtain ⟨x_4, ex_4⟩ : ∃ z9, z9 = (x_addRow x k a2 a3).2 := ⟨_, rfl⟩
        rw [← ex_4] at hP
        subst ex_4
        exact W.zret hx hb hr (nb_01 (x_addRow_01 _ _ _ _)) (fun t ht hW => ⟨⟨_, (), rfl, by (try simp only [x_rate, if_neg c_1, if_neg c_2, if_neg c_3, nI_clamp (show k < 2 ^ 31 by omega)]); first | done | rfl, by dsimp only; rw [ht]; (try simp only [x_rate, if_neg c_1, if_neg c_2, if_neg c_3, nI_clamp (show k < 2 ^ 31 by omega)]); exact hP⟩, hS.F ht⟩) hS.2.2 d_X_rate_40
      · skip
        refine lv_iconst (v := 0) hx hb d_X_rate_27 (by decide) ?_
        exact W.zret hx hb hr rfl (fun t ht hW => ⟨⟨_, (), rfl, by (try simp only [x_rate, if_neg c_1, if_neg c_2, if_pos c_3]); first | done | rfl, by dsimp only; rw [ht]; (try simp only [x_rate, if_neg c_1, if_neg c_2, if_pos c_3]); exact hP⟩, hS.F ht⟩) hS.2.2 d_X_rate_28
set_option maxHeartbeats 4000000 in
set_option maxRecDepth 100000 in
theorem c_X_yields (l : Launch) (g : wG) (ad : Nat → Nat) {L : Nat} (hL : 1 ≤ L ∧ L ≤ 6) (x : xS) (a1 a2 a3 : Int32) : CtI l y_X_yields ws_X_yields ({ frames := 2, cells := 0, slots := 0, locals := 42 }) g (16 + 2 * L) ad (xE g ad L x) (xE g ad L (x_yields x a1 a2 a3).2) [.ref (ad 0), .int a1, .int a2, .int a3] (x_yields x a1 a2 a3).1 := by
  intro sz
  refine Met.ofW (cc := b_X_yields) (maxL := 4) (ret := (some .boolean)) (by decide +kernel) rfl ?_
  intro p e s m args below meth c s₁ B hml hv
  obtain ⟨rfl, hsz, hP, hK, hN, hJ⟩ := hv
  have hx := B.exec
  have hb := B.bytes
  have hr := B.returns
  have hts0 := atoms_spec (ws := ws_X_yields) B.pre
  have hts : ∀ w ∈ tb, w.before _ s = true := fun w h => hts0 w (List.mem_cons_of_mem _ h)
  have hown : s.vm.findClass "HeapSteps" = some m.cls := findClass_of_methodNamed B.named
  have hlocks := B.notSynchronized
  subst hsz
  have hS : va_S (wA (16 + 2 * L) ad s.heap.size) s.heap s.heap [] := va_S.rf
  have hl := lv_entry ([.ref (ad 0), .int a1, .int a2, .int a3]) (n := 4) (Nat.le_of_ble_eq_true rfl)
  rw [lg_entry_eq]
  generalize (lg_sl ([.ref (ad 0), .int a1, .int a2, .int a3]) ++ List.replicate (4 - (lg_sl ([.ref (ad 0), .int a1, .int a2, .int a3])).length) Slot.unset).toArray = ls at hl ⊢
  have hl : lv_has ls 4 [(0, .ref (ad 0)), (1, .int a1), (2, .int a2), (3, .int a3)] := hl
  refine lv_iload_n hx hb d_X_yields_0 rfl (lv_at hl 1 rfl) ?_
  refine wc_i (va_runS (As := [.int a1]) (rest := []) ⟨hx, hb, hml, hown, hts⟩ (c_X_isPart l g _ ad _ a1 _) (cwS 1 hts (gd_S tw_151 tw_152 tw_24 tw_153) rfl rfl rfl (by decide +kernel) ⟨Nat.le_of_ble_eq_true rfl, Nat.le_of_ble_eq_true rfl⟩) (wp_S hK hN hP hJ) rfl rfl hl.1 rfl (lv_room (Nat.le_of_ble_eq_true rfl)) d_X_yields_1 ⟨Nat.zero_le _, Nat.zero_le _⟩) hS (fun H locs hP hS => ?_)
  refine lv_if_eq (tgt := 28) hx hb d_X_yields_4 (by decide) (fun c_1 => ?_) (fun c_1 => ?_)
  · skip
    refine lv_iconst (v := 0) hx hb d_X_yields_28 (by decide) ?_
    exact W.zret hx hb hr rfl (fun t ht hW => ⟨⟨_, (), rfl, by (try simp only [x_yields, if_pos c_1]); first | done | rfl, by dsimp only; rw [ht]; (try simp only [x_yields, if_pos c_1]); exact hP⟩, hS.F ht⟩) hS.2.2 d_X_yields_29
  · skip
    refine lv_iload_n hx hb d_X_yields_7 rfl (lv_at hl 2 rfl) ?_
    refine lv_iconst (v := 0) hx hb d_X_yields_8 (by decide) ?_
    refine lv_ldc (v := 100000) hx hb hown (hts _ tw_177) d_X_yields_9 ?_
    refine wc_i (va_runS (As := [.int a2, .int 0, .int 100000]) (rest := []) ⟨hx, hb, hml, hown, hts⟩ (c_X_within l g _ ad _ a2 0 100000 _) (cwS 3 hts (gd_S tw_67 tw_68 tw_24 tw_69) rfl rfl rfl (by decide +kernel) ⟨Nat.le_of_ble_eq_true rfl, Nat.le_of_ble_eq_true rfl⟩) (wp_S hK hN hP hJ) rfl rfl hl.1 rfl (lv_room (Nat.le_of_ble_eq_true rfl)) d_X_yields_11 ⟨Nat.zero_le _, Nat.zero_le _⟩) hS (fun H locs hP hS => ?_)
    refine lv_if_eq (tgt := 28) hx hb d_X_yields_14 (by decide) (fun c_2 => ?_) (fun c_2 => ?_)
    · skip
      refine lv_iconst (v := 0) hx hb d_X_yields_28 (by decide) ?_
      exact W.zret hx hb hr rfl (fun t ht hW => ⟨⟨_, (), rfl, by (try simp only [x_yields, if_neg c_1, if_pos c_2]); first | done | rfl, by dsimp only; rw [ht]; (try simp only [x_yields, if_neg c_1, if_pos c_2]); exact hP⟩, hS.F ht⟩) hS.2.2 d_X_yields_29
    · skip
      refine lv_iload_n hx hb d_X_yields_17 rfl (lv_at hl 3 rfl) ?_
      refine lv_iconst (v := 0) hx hb d_X_yields_18 (by decide) ?_
      refine lv_sipush (v := 1000) hx hb d_X_yields_19 (by decide) ?_
      refine wc_i (va_runS (As := [.int a3, .int 0, .int 1000]) (rest := []) ⟨hx, hb, hml, hown, hts⟩ (c_X_within l g _ ad _ a3 0 1000 _) (cwS 3 hts (gd_S tw_67 tw_68 tw_24 tw_69) rfl rfl rfl (by decide +kernel) ⟨Nat.le_of_ble_eq_true rfl, Nat.le_of_ble_eq_true rfl⟩) (wp_S hK hN hP hJ) rfl rfl hl.1 rfl (lv_room (Nat.le_of_ble_eq_true rfl)) d_X_yields_22 ⟨Nat.zero_le _, Nat.zero_le _⟩) hS (fun H locs hP hS => ?_)
      refine lv_if_ne (tgt := 30) hx hb d_X_yields_25 (by decide) (fun c_3 => ?_) (fun c_3 => ?_)
      · skip
        obtain ⟨k, hk, rfl⟩ := x_within_nat (n := 2) (by decide) c_1
        refine lv_aload_n hx hb d_X_yields_30 rfl (lv_at hl 0 rfl) ?_
        refine wr_get hx hb hts in_X hown hK hP (0) (by omega) rfl rfl 1 (by decide) (hts _ tw_117) rfl d_X_yields_31 ?_
        refine lv_iload_n hx hb d_X_yields_34 rfl (lv_at hl 1 rfl) ?_
        refine wr_aldq hx hb hK hP (1) 3 (by omega) rfl rfl k rfl (by omega) (by omega) (v := ad (7 + 2 * L + 3 * k)) (if_pos (by omega)) d_X_yields_35 ?_
        refine lv_iload_n hx hb d_X_yields_36 rfl (lv_at hl 2 rfl) ?_
        obtain ⟨x_4, ex_4⟩ : ∃ z9, z9 = xY' x k 1 a2 := ⟨_, rfl⟩
        refine wr_put (E' := xE g ad L x_4) hx hb hts in_K ty_K ty_K_ok n_K hown hK hP hJ hS (7 + 2 * L + 3 * k) (by omega) (xE_kind g ad L x k) rfl 3 (by decide) (hts _ tw_101) rfl rfl rfl (Nat.le_of_ble_eq_true rfl) (by rw [ex_4]; exact xU_Y g ad L x k 1 (by decide) a2) d_X_yields_37 (fun H locs hP hS => ?_)
        refine lv_aload_n hx hb d_X_yields_40 rfl (lv_at hl 0 rfl) ?_
        refine wr_get hx hb hts in_X hown hK hP (0) (by omega) rfl rfl 1 (by decide) (hts _ tw_117) rfl d_X_yields_41 ?_
        refine lv_iload_n hx hb d_X_yields_44 rfl (lv_at hl 1 rfl) ?_
        refine wr_aldq hx hb hK hP (1) 3 (by omega) rfl rfl k rfl (by omega) (by omega) (v := ad (7 + 2 * L + 3 * k)) (if_pos (by omega)) d_X_yields_45 ?_
        refine lv_iload_n hx hb d_X_yields_46 rfl (lv_at hl 3 rfl) ?_
        obtain ⟨x_5, ex_5⟩ : ∃ z9, z9 = xY' x_4 k 2 a3 := ⟨_, rfl⟩
        refine wr_put (E' := xE g ad L x_5) hx hb hts in_K ty_K ty_K_ok n_K hown hK hP hJ hS (7 + 2 * L + 3 * k) (by omega) (xE_kind g ad L x_4 k) rfl 4 (by decide) (hts _ tw_103) rfl rfl rfl (Nat.le_of_ble_eq_true rfl) (by rw [ex_5]; exact xU_Y g ad L x_4 k 2 (by decide) a3) d_X_yields_47 (fun H locs hP hS => ?_)
        refine lv_iconst (v := 1) hx hb d_X_yields_50 (by decide) ?_
        subst ex_4
        subst ex_5
        exact W.zret hx hb hr rfl (fun t ht hW => ⟨⟨_, (), rfl, by (try simp only [x_yields, if_neg c_1, if_neg c_2, if_neg c_3, nI_clamp (show k < 2 ^ 31 by omega)]); first | done | rfl, by dsimp only; rw [ht]; (try simp only [x_yields, if_neg c_1, if_neg c_2, if_neg c_3, nI_clamp (show k < 2 ^ 31 by omega)]); exact hP⟩, hS.F ht⟩) hS.2.2 d_X_yields_51
      · skip
        refine lv_iconst (v := 0) hx hb d_X_yields_28 (by decide) ?_
        exact W.zret hx hb hr rfl (fun t ht hW => ⟨⟨_, (), rfl, by (try simp only [x_yields, if_neg c_1, if_neg c_2, if_pos c_3]); first | done | rfl, by dsimp only; rw [ht]; (try simp only [x_yields, if_neg c_1, if_neg c_2, if_pos c_3]); exact hP⟩, hS.F ht⟩) hS.2.2 d_X_yields_29
set_option maxHeartbeats 4000000 in
set_option maxRecDepth 100000 in
theorem c_X_bounds (l : Launch) (g : wG) (ad : Nat → Nat) {L : Nat} (hL : 1 ≤ L ∧ L ≤ 6) (x : xS) (a1 a2 a3 : Int32) : CtI l y_X_bounds ws_X_bounds ({ frames := 2, cells := 0, slots := 0, locals := 43 }) g (16 + 2 * L) ad (xE g ad L x) (xE g ad L (x_bounds L x a1 a2 a3).2) [.ref (ad 0), .int a1, .int a2, .int a3] (x_bounds L x a1 a2 a3).1 := by
  intro sz
  refine Met.ofW (cc := b_X_bounds) (maxL := 5) (ret := (some .boolean)) (by decide +kernel) rfl ?_
  intro p e s m args below meth c s₁ B hml hv
  obtain ⟨rfl, hsz, hP, hK, hN, hJ⟩ := hv
  have hx := B.exec
  have hb := B.bytes
  have hr := B.returns
  have hts0 := atoms_spec (ws := ws_X_bounds) B.pre
  have hts : ∀ w ∈ tb, w.before _ s = true := fun w h => hts0 w (List.mem_cons_of_mem _ h)
  have hown : s.vm.findClass "HeapSteps" = some m.cls := findClass_of_methodNamed B.named
  have hlocks := B.notSynchronized
  subst hsz
  have hS : va_S (wA (16 + 2 * L) ad s.heap.size) s.heap s.heap [] := va_S.rf
  have hl := lv_entry ([.ref (ad 0), .int a1, .int a2, .int a3]) (n := 5) (Nat.le_of_ble_eq_true rfl)
  rw [lg_entry_eq]
  generalize (lg_sl ([.ref (ad 0), .int a1, .int a2, .int a3]) ++ List.replicate (5 - (lg_sl ([.ref (ad 0), .int a1, .int a2, .int a3])).length) Slot.unset).toArray = ls at hl ⊢
  have hl : lv_has ls 5 [(0, .ref (ad 0)), (1, .int a1), (2, .int a2), (3, .int a3)] := hl
  refine lv_aload_n hx hb d_X_bounds_0 rfl (lv_at hl 0 rfl) ?_
  refine lv_iload_n hx hb d_X_bounds_1 rfl (lv_at hl 1 rfl) ?_
  refine wc_q (va_runV (As := [.int a1]) (rest := []) ⟨hx, hb, hml, hown, hts⟩ (c_X_layerAt l g ad hL x a1 _) (cwV 1 hts (gd_V tw_155 tw_157 tw_0 tw_24 tw_158) rfl rfl rfl (by decide +kernel) ⟨Nat.le_of_ble_eq_true rfl, Nat.le_of_ble_eq_true rfl⟩) (wp_V hK hN hP hJ (0) (by omega) rfl rfl) rfl rfl hl.1 rfl (lv_room (Nat.le_of_ble_eq_true rfl)) d_X_bounds_2 ⟨Nat.zero_le _, Nat.zero_le _⟩) hS (fun H locs hP hS => ?_)
  rcases x_la_cases hL a1 with q_1 | ⟨i_2, hi_2, hni_2, q_1⟩
  · rw [q_1]
    refine W.eq (g2 := F0 m 5 ls [.null]) rfl ?_
    refine lv_astoreN (lv' := [(4, .null), (0, .ref (ad 0)), (1, .int a1), (2, .int a2), (3, .int a3)]) hx hb d_X_bounds_5 hl (by decide) rfl (fun ls hl => ?_)
    refine lv_aloadN hx hb d_X_bounds_7 (lv_at hl 0 rfl) ?_
    refine lv_ifnullN (tgt := 32) hx hb d_X_bounds_9 (by decide) ?_
    refine lv_iconst (v := 0) hx hb d_X_bounds_32 (by decide) ?_
    exact W.zret hx hb hr rfl (fun t ht hW => ⟨⟨_, (), rfl, by (try simp only [x_bounds, q_1]); first | done | rfl, by dsimp only; rw [ht]; (try simp only [x_bounds, q_1]); exact hP⟩, hS.F ht⟩) hS.2.2 d_X_bounds_33
  · rw [q_1]
    refine W.eq (g2 := F0 m 5 ls [.ref (ad (7 + 2 * i_2))]) rfl ?_
    refine lv_astore (lv' := [(4, .ref (ad (7 + 2 * i_2))), (0, .ref (ad 0)), (1, .int a1), (2, .int a2), (3, .int a3)]) hx hb d_X_bounds_5 hl (by decide) rfl (fun ls hl => ?_)
    refine lv_aload hx hb d_X_bounds_7 (lv_at hl 0 rfl) ?_
    refine lv_ifnull hx hb d_X_bounds_9 ?_
    refine lv_iload_n hx hb d_X_bounds_12 rfl (lv_at hl 3 rfl) ?_
    refine lv_iconst (v := 0) hx hb d_X_bounds_13 (by decide) ?_
    refine lv_ldc (v := 1000000000) hx hb hown (hts _ tw_66) d_X_bounds_14 ?_
    refine wc_i (va_runS (As := [.int a2, .int 0, .int 1000000000]) (rest := []) ⟨hx, hb, hml, hown, hts⟩ (c_X_within l g _ ad _ a2 0 1000000000 _) (cwS 3 hts (gd_S tw_67 tw_68 tw_24 tw_69) rfl rfl rfl (by decide +kernel) ⟨Nat.le_of_ble_eq_true rfl, Nat.le_of_ble_eq_true rfl⟩) (wp_S hK hN hP hJ) rfl rfl hl.1 rfl (lv_room (Nat.le_of_ble_eq_true rfl)) d_X_bounds_16 ⟨Nat.zero_le _, Nat.zero_le _⟩) hS (fun H locs hP hS => ?_)
    refine lv_if_eq (tgt := 32) hx hb d_X_bounds_19 (by decide) (fun c_3 => ?_) (fun c_3 => ?_)
    · skip
      refine lv_iconst (v := 0) hx hb d_X_bounds_32 (by decide) ?_
      exact W.zret hx hb hr rfl (fun t ht hW => ⟨⟨_, (), rfl, by (try simp only [x_bounds, if_pos c_3, q_1]); first | done | rfl, by dsimp only; rw [ht]; (try simp only [x_bounds, if_pos c_3, q_1]); exact hP⟩, hS.F ht⟩) hS.2.2 d_X_bounds_33
    · skip
      refine lv_iload_n hx hb d_X_bounds_22 rfl (lv_at hl 4 rfl) ?_
      refine lv_iconst (v := 0) hx hb d_X_bounds_23 (by decide) ?_
      refine lv_ldc (v := 1000000000) hx hb hown (hts _ tw_66) d_X_bounds_24 ?_
      refine wc_i (va_runS (As := [.int a3, .int 0, .int 1000000000]) (rest := []) ⟨hx, hb, hml, hown, hts⟩ (c_X_within l g _ ad _ a3 0 1000000000 _) (cwS 3 hts (gd_S tw_67 tw_68 tw_24 tw_69) rfl rfl rfl (by decide +kernel) ⟨Nat.le_of_ble_eq_true rfl, Nat.le_of_ble_eq_true rfl⟩) (wp_S hK hN hP hJ) rfl rfl hl.1 rfl (lv_room (Nat.le_of_ble_eq_true rfl)) d_X_bounds_26 ⟨Nat.zero_le _, Nat.zero_le _⟩) hS (fun H locs hP hS => ?_)
      refine lv_if_ne (tgt := 34) hx hb d_X_bounds_29 (by decide) (fun c_4 => ?_) (fun c_4 => ?_)
      · skip
        refine lv_aload hx hb d_X_bounds_34 (lv_at hl 0 rfl) ?_
        refine lv_iload_n hx hb d_X_bounds_36 rfl (lv_at hl 3 rfl) ?_
        obtain ⟨x_5, ex_5⟩ : ∃ z9, z9 = xB' x i_2 0 a2 := ⟨_, rfl⟩
        refine wr_put (E' := xE g ad L x_5) hx hb hts in_Y ty_Y ty_Y_ok n_Y hown hK hP hJ hS (7 + 2 * i_2) (by omega) (xE_lay g ad L x hi_2) rfl 1 (by decide) (hts _ tw_81) rfl rfl rfl (Nat.le_of_ble_eq_true rfl) (by rw [ex_5]; exact xU_B g ad L x hi_2 0 (by decide) a2) d_X_bounds_37 (fun H locs hP hS => ?_)
        refine lv_aload hx hb d_X_bounds_40 (lv_at hl 0 rfl) ?_
        refine lv_iload_n hx hb d_X_bounds_42 rfl (lv_at hl 4 rfl) ?_
        obtain ⟨x_6, ex_6⟩ : ∃ z9, z9 = xB' x_5 i_2 1 a3 := ⟨_, rfl⟩
        refine wr_put (E' := xE g ad L x_6) hx hb hts in_Y ty_Y ty_Y_ok n_Y hown hK hP hJ hS (7 + 2 * i_2) (by omega) (xE_lay g ad L x_5 hi_2) rfl 2 (by decide) (hts _ tw_83) rfl rfl rfl (Nat.le_of_ble_eq_true rfl) (by rw [ex_6]; exact xU_B g ad L x_5 hi_2 1 (by decide) a3) d_X_bounds_43 (fun H locs hP hS => ?_)
        refine lv_iconst (v := 1) hx hb d_X_bounds_46 (by decide) ?_
        subst ex_5
        subst ex_6
        exact W.zret hx hb hr rfl (fun t ht hW => ⟨⟨_, (), rfl, by (try simp only [x_bounds, if_neg c_3, if_neg c_4, q_1]); first | done | rfl, by dsimp only; rw [ht]; (try simp only [x_bounds, if_neg c_3, if_neg c_4, q_1]); exact hP⟩, hS.F ht⟩) hS.2.2 d_X_bounds_47
      · skip
        refine lv_iconst (v := 0) hx hb d_X_bounds_32 (by decide) ?_
        exact W.zret hx hb hr rfl (fun t ht hW => ⟨⟨_, (), rfl, by (try simp only [x_bounds, if_neg c_3, if_pos c_4, q_1]); first | done | rfl, by dsimp only; rw [ht]; (try simp only [x_bounds, if_neg c_3, if_pos c_4, q_1]); exact hP⟩, hS.F ht⟩) hS.2.2 d_X_bounds_33
set_option maxHeartbeats 4000000 in
set_option maxRecDepth 100000 in
theorem c_X_rain (l : Launch) (g : wG) (ad : Nat → Nat) {L : Nat} (hL : 1 ≤ L ∧ L ≤ 6) (x : xS) (a1 : Int32) : CtI l y_X_rain ws_X_rain ({ frames := 1, cells := 0, slots := 0, locals := 22 }) g (16 + 2 * L) ad (xE g ad L x) (xE g ad L (x_rain x a1).2) [.ref (ad 0), .int a1] (x_rain x a1).1 := by
  intro sz
  refine Met.ofW (cc := b_X_rain) (maxL := 2) (ret := (some .boolean)) (by decide +kernel) rfl ?_
  intro p e s m args below meth c s₁ B hml hv
  obtain ⟨rfl, hsz, hP, hK, hN, hJ⟩ := hv
  have hx := B.exec
  have hb := B.bytes
  have hr := B.returns
  have hts0 := atoms_spec (ws := ws_X_rain) B.pre
  have hts : ∀ w ∈ tb, w.before _ s = true := fun w h => hts0 w (List.mem_cons_of_mem _ h)
  have hown : s.vm.findClass "HeapSteps" = some m.cls := findClass_of_methodNamed B.named
  have hlocks := B.notSynchronized
  subst hsz
  have hS : va_S (wA (16 + 2 * L) ad s.heap.size) s.heap s.heap [] := va_S.rf
  have hl := lv_entry ([.ref (ad 0), .int a1]) (n := 2) (Nat.le_of_ble_eq_true rfl)
  rw [lg_entry_eq]
  generalize (lg_sl ([.ref (ad 0), .int a1]) ++ List.replicate (2 - (lg_sl ([.ref (ad 0), .int a1])).length) Slot.unset).toArray = ls at hl ⊢
  have hl : lv_has ls 2 [(0, .ref (ad 0)), (1, .int a1)] := hl
  refine lv_iload_n hx hb d_X_rain_0 rfl (lv_at hl 1 rfl) ?_
  refine lv_iconst (v := 0) hx hb d_X_rain_1 (by decide) ?_
  refine lv_ldc (v := 100000) hx hb hown (hts _ tw_177) d_X_rain_2 ?_
  refine wc_i (va_runS (As := [.int a1, .int 0, .int 100000]) (rest := []) ⟨hx, hb, hml, hown, hts⟩ (c_X_within l g _ ad _ a1 0 100000 _) (cwS 3 hts (gd_S tw_67 tw_68 tw_24 tw_69) rfl rfl rfl (by decide +kernel) ⟨Nat.le_of_ble_eq_true rfl, Nat.le_of_ble_eq_true rfl⟩) (wp_S hK hN hP hJ) rfl rfl hl.1 rfl (lv_room (Nat.le_of_ble_eq_true rfl)) d_X_rain_4 ⟨Nat.zero_le _, Nat.zero_le _⟩) hS (fun H locs hP hS => ?_)
  refine lv_if_ne (tgt := 12) hx hb d_X_rain_7 (by decide) (fun c_1 => ?_) (fun c_1 => ?_)
  · skip
    refine lv_aload_n hx hb d_X_rain_12 rfl (lv_at hl 0 rfl) ?_
    refine lv_iload_n hx hb d_X_rain_13 rfl (lv_at hl 1 rfl) ?_
    obtain ⟨x_2, ex_2⟩ : ∃ z9, z9 = xI' x 0 a1 := ⟨_, rfl⟩
    refine wr_put (E' := xE g ad L x_2) hx hb hts in_X ty_X ty_X_ok n_X hown hK hP hJ hS (0) (by omega) rfl rfl 6 (by decide) (hts _ tw_122) rfl rfl rfl (Nat.le_of_ble_eq_true rfl) (by rw [ex_2]; exact xU_I g ad L x 0 (by decide) a1) d_X_rain_14 (fun H locs hP hS => ?_)
    refine lv_iconst (v := 1) hx hb d_X_rain_17 (by decide) ?_
    subst ex_2
    exact W.zret hx hb hr rfl (fun t ht hW => ⟨⟨_, (), rfl, by (try simp only [x_rain, if_neg c_1]); first | done | rfl, by dsimp only; rw [ht]; (try simp only [x_rain, if_neg c_1]); exact hP⟩, hS.F ht⟩) hS.2.2 d_X_rain_18
  · skip
    refine lv_iconst (v := 0) hx hb d_X_rain_10 (by decide) ?_
    exact W.zret hx hb hr rfl (fun t ht hW => ⟨⟨_, (), rfl, by (try simp only [x_rain, if_pos c_1]); first | done | rfl, by dsimp only; rw [ht]; (try simp only [x_rain, if_pos c_1]); exact hP⟩, hS.F ht⟩) hS.2.2 d_X_rain_11
set_option maxHeartbeats 4000000 in
set_option maxRecDepth 100000 in
theorem c_X_loss (l : Launch) (g : wG) (ad : Nat → Nat) {L : Nat} (hL : 1 ≤ L ∧ L ≤ 6) (x : xS) (a1 : Int32) : CtI l y_X_loss ws_X_loss ({ frames := 1, cells := 0, slots := 0, locals := 22 }) g (16 + 2 * L) ad (xE g ad L x) (xE g ad L (x_loss x a1).2) [.ref (ad 0), .int a1] (x_loss x a1).1 := by
  intro sz
  refine Met.ofW (cc := b_X_loss) (maxL := 2) (ret := (some .boolean)) (by decide +kernel) rfl ?_
  intro p e s m args below meth c s₁ B hml hv
  obtain ⟨rfl, hsz, hP, hK, hN, hJ⟩ := hv
  have hx := B.exec
  have hb := B.bytes
  have hr := B.returns
  have hts0 := atoms_spec (ws := ws_X_loss) B.pre
  have hts : ∀ w ∈ tb, w.before _ s = true := fun w h => hts0 w (List.mem_cons_of_mem _ h)
  have hown : s.vm.findClass "HeapSteps" = some m.cls := findClass_of_methodNamed B.named
  have hlocks := B.notSynchronized
  subst hsz
  have hS : va_S (wA (16 + 2 * L) ad s.heap.size) s.heap s.heap [] := va_S.rf
  have hl := lv_entry ([.ref (ad 0), .int a1]) (n := 2) (Nat.le_of_ble_eq_true rfl)
  rw [lg_entry_eq]
  generalize (lg_sl ([.ref (ad 0), .int a1]) ++ List.replicate (2 - (lg_sl ([.ref (ad 0), .int a1])).length) Slot.unset).toArray = ls at hl ⊢
  have hl : lv_has ls 2 [(0, .ref (ad 0)), (1, .int a1)] := hl
  refine lv_iload_n hx hb d_X_loss_0 rfl (lv_at hl 1 rfl) ?_
  refine lv_iconst (v := 0) hx hb d_X_loss_1 (by decide) ?_
  refine lv_ldc (v := 1000000) hx hb hown (hts _ tw_154) d_X_loss_2 ?_
  refine wc_i (va_runS (As := [.int a1, .int 0, .int 1000000]) (rest := []) ⟨hx, hb, hml, hown, hts⟩ (c_X_within l g _ ad _ a1 0 1000000 _) (cwS 3 hts (gd_S tw_67 tw_68 tw_24 tw_69) rfl rfl rfl (by decide +kernel) ⟨Nat.le_of_ble_eq_true rfl, Nat.le_of_ble_eq_true rfl⟩) (wp_S hK hN hP hJ) rfl rfl hl.1 rfl (lv_room (Nat.le_of_ble_eq_true rfl)) d_X_loss_4 ⟨Nat.zero_le _, Nat.zero_le _⟩) hS (fun H locs hP hS => ?_)
  refine lv_if_ne (tgt := 12) hx hb d_X_loss_7 (by decide) (fun c_1 => ?_) (fun c_1 => ?_)
  · skip
    refine lv_aload_n hx hb d_X_loss_12 rfl (lv_at hl 0 rfl) ?_
    refine lv_iload_n hx hb d_X_loss_13 rfl (lv_at hl 1 rfl) ?_
    obtain ⟨x_2, ex_2⟩ : ∃ z9, z9 = xI' x 1 a1 := ⟨_, rfl⟩
    refine wr_put (E' := xE g ad L x_2) hx hb hts in_X ty_X ty_X_ok n_X hown hK hP hJ hS (0) (by omega) rfl rfl 7 (by decide) (hts _ tw_123) rfl rfl rfl (Nat.le_of_ble_eq_true rfl) (by rw [ex_2]; exact xU_I g ad L x 1 (by decide) a1) d_X_loss_14 (fun H locs hP hS => ?_)
    refine lv_iconst (v := 1) hx hb d_X_loss_17 (by decide) ?_
    subst ex_2
    exact W.zret hx hb hr rfl (fun t ht hW => ⟨⟨_, (), rfl, by (try simp only [x_loss, if_neg c_1]); first | done | rfl, by dsimp only; rw [ht]; (try simp only [x_loss, if_neg c_1]); exact hP⟩, hS.F ht⟩) hS.2.2 d_X_loss_18
  · skip
    refine lv_iconst (v := 0) hx hb d_X_loss_10 (by decide) ?_
    exact W.zret hx hb hr rfl (fun t ht hW => ⟨⟨_, (), rfl, by (try simp only [x_loss, if_pos c_1]); first | done | rfl, by dsimp only; rw [ht]; (try simp only [x_loss, if_pos c_1]); exact hP⟩, hS.F ht⟩) hS.2.2 d_X_loss_11
set_option maxHeartbeats 4000000 in
set_option maxRecDepth 100000 in
theorem c_X_limit (l : Launch) (g : wG) (ad : Nat → Nat) {L : Nat} (hL : 1 ≤ L ∧ L ≤ 6) (x : xS) (a1 : Int32) : CtI l y_X_limit ws_X_limit ({ frames := 1, cells := 0, slots := 0, locals := 22 }) g (16 + 2 * L) ad (xE g ad L x) (xE g ad L (x_limit x a1).2) [.ref (ad 0), .int a1] (x_limit x a1).1 := by
  intro sz
  refine Met.ofW (cc := b_X_limit) (maxL := 2) (ret := (some .boolean)) (by decide +kernel) rfl ?_
  intro p e s m args below meth c s₁ B hml hv
  obtain ⟨rfl, hsz, hP, hK, hN, hJ⟩ := hv
  have hx := B.exec
  have hb := B.bytes
  have hr := B.returns
  have hts0 := atoms_spec (ws := ws_X_limit) B.pre
  have hts : ∀ w ∈ tb, w.before _ s = true := fun w h => hts0 w (List.mem_cons_of_mem _ h)
  have hown : s.vm.findClass "HeapSteps" = some m.cls := findClass_of_methodNamed B.named
  have hlocks := B.notSynchronized
  subst hsz
  have hS : va_S (wA (16 + 2 * L) ad s.heap.size) s.heap s.heap [] := va_S.rf
  have hl := lv_entry ([.ref (ad 0), .int a1]) (n := 2) (Nat.le_of_ble_eq_true rfl)
  rw [lg_entry_eq]
  generalize (lg_sl ([.ref (ad 0), .int a1]) ++ List.replicate (2 - (lg_sl ([.ref (ad 0), .int a1])).length) Slot.unset).toArray = ls at hl ⊢
  have hl : lv_has ls 2 [(0, .ref (ad 0)), (1, .int a1)] := hl
  refine lv_iload_n hx hb d_X_limit_0 rfl (lv_at hl 1 rfl) ?_
  refine lv_iconst (v := 0) hx hb d_X_limit_1 (by decide) ?_
  refine lv_ldc (v := 1000000000) hx hb hown (hts _ tw_66) d_X_limit_2 ?_
  refine wc_i (va_runS (As := [.int a1, .int 0, .int 1000000000]) (rest := []) ⟨hx, hb, hml, hown, hts⟩ (c_X_within l g _ ad _ a1 0 1000000000 _) (cwS 3 hts (gd_S tw_67 tw_68 tw_24 tw_69) rfl rfl rfl (by decide +kernel) ⟨Nat.le_of_ble_eq_true rfl, Nat.le_of_ble_eq_true rfl⟩) (wp_S hK hN hP hJ) rfl rfl hl.1 rfl (lv_room (Nat.le_of_ble_eq_true rfl)) d_X_limit_4 ⟨Nat.zero_le _, Nat.zero_le _⟩) hS (fun H locs hP hS => ?_)
  refine lv_if_ne (tgt := 12) hx hb d_X_limit_7 (by decide) (fun c_1 => ?_) (fun c_1 => ?_)
  · skip
    refine lv_aload_n hx hb d_X_limit_12 rfl (lv_at hl 0 rfl) ?_
    refine lv_iload_n hx hb d_X_limit_13 rfl (lv_at hl 1 rfl) ?_
    obtain ⟨x_2, ex_2⟩ : ∃ z9, z9 = xI' x 2 a1 := ⟨_, rfl⟩
    refine wr_put (E' := xE g ad L x_2) hx hb hts in_X ty_X ty_X_ok n_X hown hK hP hJ hS (0) (by omega) rfl rfl 8 (by decide) (hts _ tw_124) rfl rfl rfl (Nat.le_of_ble_eq_true rfl) (by rw [ex_2]; exact xU_I g ad L x 2 (by decide) a1) d_X_limit_14 (fun H locs hP hS => ?_)
    refine lv_iconst (v := 1) hx hb d_X_limit_17 (by decide) ?_
    subst ex_2
    exact W.zret hx hb hr rfl (fun t ht hW => ⟨⟨_, (), rfl, by (try simp only [x_limit, if_neg c_1]); first | done | rfl, by dsimp only; rw [ht]; (try simp only [x_limit, if_neg c_1]); exact hP⟩, hS.F ht⟩) hS.2.2 d_X_limit_18
  · skip
    refine lv_iconst (v := 0) hx hb d_X_limit_10 (by decide) ?_
    exact W.zret hx hb hr rfl (fun t ht hW => ⟨⟨_, (), rfl, by (try simp only [x_limit, if_pos c_1]); first | done | rfl, by dsimp only; rw [ht]; (try simp only [x_limit, if_pos c_1]); exact hP⟩, hS.F ht⟩) hS.2.2 d_X_limit_11
set_option maxHeartbeats 4000000 in
set_option maxRecDepth 100000 in
theorem c_X_fan (l : Launch) (g : wG) (ad : Nat → Nat) {L : Nat} (hL : 1 ≤ L ∧ L ≤ 6) (x : xS) (a1 a2 a3 : Int32) : CtI l y_X_fan ws_X_fan ({ frames := 1, cells := 0, slots := 0, locals := 23 }) g (16 + 2 * L) ad (xE g ad L x) (xE g ad L (x_fan x a1 a2 a3).2) [.ref (ad 0), .int a1, .int a2, .int a3] (x_fan x a1 a2 a3).1 := by
  intro sz
  refine Met.ofW (cc := b_X_fan) (maxL := 4) (ret := (some .boolean)) (by decide +kernel) rfl ?_
  intro p e s m args below meth c s₁ B hml hv
  obtain ⟨rfl, hsz, hP, hK, hN, hJ⟩ := hv
  have hx := B.exec
  have hb := B.bytes
  have hr := B.returns
  have hts0 := atoms_spec (ws := ws_X_fan) B.pre
  have hts : ∀ w ∈ tb, w.before _ s = true := fun w h => hts0 w (List.mem_cons_of_mem _ h)
  have hown : s.vm.findClass "HeapSteps" = some m.cls := findClass_of_methodNamed B.named
  have hlocks := B.notSynchronized
  subst hsz
  have hS : va_S (wA (16 + 2 * L) ad s.heap.size) s.heap s.heap [] := va_S.rf
  have hl := lv_entry ([.ref (ad 0), .int a1, .int a2, .int a3]) (n := 4) (Nat.le_of_ble_eq_true rfl)
  rw [lg_entry_eq]
  generalize (lg_sl ([.ref (ad 0), .int a1, .int a2, .int a3]) ++ List.replicate (4 - (lg_sl ([.ref (ad 0), .int a1, .int a2, .int a3])).length) Slot.unset).toArray = ls at hl ⊢
  have hl : lv_has ls 4 [(0, .ref (ad 0)), (1, .int a1), (2, .int a2), (3, .int a3)] := hl
  refine lv_iload_n hx hb d_X_fan_0 rfl (lv_at hl 1 rfl) ?_
  refine lv_iconst (v := 0) hx hb d_X_fan_1 (by decide) ?_
  refine lv_ldc (v := 1000000) hx hb hown (hts _ tw_154) d_X_fan_2 ?_
  refine wc_i (va_runS (As := [.int a1, .int 0, .int 1000000]) (rest := []) ⟨hx, hb, hml, hown, hts⟩ (c_X_within l g _ ad _ a1 0 1000000 _) (cwS 3 hts (gd_S tw_67 tw_68 tw_24 tw_69) rfl rfl rfl (by decide +kernel) ⟨Nat.le_of_ble_eq_true rfl, Nat.le_of_ble_eq_true rfl⟩) (wp_S hK hN hP hJ) rfl rfl hl.1 rfl (lv_room (Nat.le_of_ble_eq_true rfl)) d_X_fan_4 ⟨Nat.zero_le _, Nat.zero_le _⟩) hS (fun H locs hP hS => ?_)
  refine lv_if_eq (tgt := 36) hx hb d_X_fan_7 (by decide) (fun c_1 => ?_) (fun c_1 => ?_)
  · skip
    refine lv_iconst (v := 0) hx hb d_X_fan_36 (by decide) ?_
    exact W.zret hx hb hr rfl (fun t ht hW => ⟨⟨_, (), rfl, by (try simp only [x_fan, if_pos c_1]); first | done | rfl, by dsimp only; rw [ht]; (try simp only [x_fan, if_pos c_1]); exact hP⟩, hS.F ht⟩) hS.2.2 d_X_fan_37
  · skip
    refine lv_iload_n hx hb d_X_fan_10 rfl (lv_at hl 2 rfl) ?_
    refine lv_sipush (v := -1000) hx hb d_X_fan_11 (by decide) ?_
    refine lv_sipush (v := 1000) hx hb d_X_fan_14 (by decide) ?_
    refine wc_i (va_runS (As := [.int a2, .int (-1000), .int 1000]) (rest := []) ⟨hx, hb, hml, hown, hts⟩ (c_X_within l g _ ad _ a2 (-1000) 1000 _) (cwS 3 hts (gd_S tw_67 tw_68 tw_24 tw_69) rfl rfl rfl (by decide +kernel) ⟨Nat.le_of_ble_eq_true rfl, Nat.le_of_ble_eq_true rfl⟩) (wp_S hK hN hP hJ) rfl rfl hl.1 rfl (lv_room (Nat.le_of_ble_eq_true rfl)) d_X_fan_17 ⟨Nat.zero_le _, Nat.zero_le _⟩) hS (fun H locs hP hS => ?_)
    refine lv_if_eq (tgt := 36) hx hb d_X_fan_20 (by decide) (fun c_2 => ?_) (fun c_2 => ?_)
    · skip
      refine lv_iconst (v := 0) hx hb d_X_fan_36 (by decide) ?_
      exact W.zret hx hb hr rfl (fun t ht hW => ⟨⟨_, (), rfl, by (try simp only [x_fan, if_neg c_1, if_pos c_2]); first | done | rfl, by dsimp only; rw [ht]; (try simp only [x_fan, if_neg c_1, if_pos c_2]); exact hP⟩, hS.F ht⟩) hS.2.2 d_X_fan_37
    · skip
      refine lv_iload_n hx hb d_X_fan_23 rfl (lv_at hl 3 rfl) ?_
      refine lv_sipush (v := -1000) hx hb d_X_fan_24 (by decide) ?_
      refine lv_sipush (v := 1000) hx hb d_X_fan_27 (by decide) ?_
      refine wc_i (va_runS (As := [.int a3, .int (-1000), .int 1000]) (rest := []) ⟨hx, hb, hml, hown, hts⟩ (c_X_within l g _ ad _ a3 (-1000) 1000 _) (cwS 3 hts (gd_S tw_67 tw_68 tw_24 tw_69) rfl rfl rfl (by decide +kernel) ⟨Nat.le_of_ble_eq_true rfl, Nat.le_of_ble_eq_true rfl⟩) (wp_S hK hN hP hJ) rfl rfl hl.1 rfl (lv_room (Nat.le_of_ble_eq_true rfl)) d_X_fan_30 ⟨Nat.zero_le _, Nat.zero_le _⟩) hS (fun H locs hP hS => ?_)
      refine lv_if_ne (tgt := 38) hx hb d_X_fan_33 (by decide) (fun c_3 => ?_) (fun c_3 => ?_)
      · skip
        refine lv_aload_n hx hb d_X_fan_38 rfl (lv_at hl 0 rfl) ?_
        refine wr_get hx hb hts in_X hown hK hP (0) (by omega) rfl rfl 2 (by decide) (hts _ tw_118) rfl d_X_fan_39 ?_
        refine lv_iload_n hx hb d_X_fan_42 rfl (lv_at hl 1 rfl) ?_
        refine lv_iload_n hx hb d_X_fan_43 rfl (lv_at hl 2 rfl) ?_
        refine lv_iload_n hx hb d_X_fan_44 rfl (lv_at hl 3 rfl) ?_
        refine wc_v (va_runV (As := [.int a1, .int a2, .int a3]) (rest := []) ⟨hx, hb, hml, hown, hts⟩ (c_F_tell l g ad hL x a1 a2 a3 _) (cwV 3 hts (gd_V tw_202 tw_203 tw_204 tw_25 tw_205) rfl rfl rfl (by decide +kernel) ⟨Nat.le_of_ble_eq_true rfl, Nat.le_of_ble_eq_true rfl⟩) (wp_V hK hN hP hJ (2) (by omega) rfl rfl) rfl rfl hl.1 rfl (lv_room (Nat.le_of_ble_eq_true rfl)) d_X_fan_45 ⟨Nat.zero_le _, Nat.zero_le _⟩) hS (fun H locs hP hS => ?_)
        obtain ⟨x_4, ex_4⟩ : ∃ z9, z9 = x_tell x a1 a2 a3 := ⟨_, rfl⟩
        rw [← ex_4] at hP
        refine lv_iconst (v := 1) hx hb d_X_fan_48 (by decide) ?_
        subst ex_4
        exact W.zret hx hb hr rfl (fun t ht hW => ⟨⟨_, (), rfl, by (try simp only [x_fan, if_neg c_1, if_neg c_2, if_neg c_3]); first | done | rfl, by dsimp only; rw [ht]; (try simp only [x_fan, if_neg c_1, if_neg c_2, if_neg c_3]); exact hP⟩, hS.F ht⟩) hS.2.2 d_X_fan_49
      · skip
        refine lv_iconst (v := 0) hx hb d_X_fan_36 (by decide) ?_
        exact W.zret hx hb hr rfl (fun t ht hW => ⟨⟨_, (), rfl, by (try simp only [x_fan, if_neg c_1, if_neg c_2, if_pos c_3]); first | done | rfl, by dsimp only; rw [ht]; (try simp only [x_fan, if_neg c_1, if_neg c_2, if_pos c_3]); exact hP⟩, hS.F ht⟩) hS.2.2 d_X_fan_37
