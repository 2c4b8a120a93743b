set_option maxHeartbeats 4000000 in
set_option maxRecDepth 100000 in
theorem c_M_part (l : Launch) (g : wG) (ad : Nat → Nat) {L : Nat} (hL : 1 ≤ L ∧ L ≤ 6) (x : xS) (a1 a2 a3 : Int32) : CtI l y_M_part ws_M_part ({ frames := 1, cells := 0, slots := 0, locals := 25 }) g 14 ad (mE g ad L x) (mE g ad L (x_part L x a1 a2 a3).2) [.ref (ad 0), .int a1, .int a2, .int a3] (x_part L x a1 a2 a3).1 := by
  intro sz
  refine Met.ofW (cc := b_M_part) (maxL := 4) (ret := (some .boolean)) (by decide +kernel) rfl ?_
  intro p e s m args below meth c s₁ B hml hv
  obtain ⟨rfl, hsz, hP, hK, hN, hJ⟩ := hv
  have hx := B.exec
  have hb := B.bytes
  have hr := B.returns
  have hts0 := atoms_spec (ws := ws_M_part) B.pre
  have hts : ∀ w ∈ tb, w.before _ s = true := fun w h => hts0 w (List.mem_cons_of_mem _ h)
  have hown : s.vm.findClass "HeapStepsModel" = some m.cls := findClass_of_methodNamed B.named
  have hlocks := B.notSynchronized
  subst hsz
  have hS : va_S (wA 14 ad s.heap.size) s.heap s.heap [] := va_S.rf
  have hl := lv_entry ([.ref (ad 0), .int a1, .int a2, .int a3]) (n := 4) (Nat.le_of_ble_eq_true rfl)
  rw [lg_entry_eq]
  generalize (lg_sl ([.ref (ad 0), .int a1, .int a2, .int a3]) ++ List.replicate (4 - (lg_sl ([.ref (ad 0), .int a1, .int a2, .int a3])).length) Slot.unset).toArray = ls at hl ⊢
  have hl : lv_has ls 4 [(0, .ref (ad 0)), (1, .int a1), (2, .int a2), (3, .int a3)] := hl
  refine lv_aload_n hx hb d_M_part_0 rfl (lv_at hl 0 rfl) ?_
  refine lv_iload_n hx hb d_M_part_1 rfl (lv_at hl 1 rfl) ?_
  refine wc_i (va_runV (As := [.int a1]) (rest := []) ⟨hx, hb, hml, hown, hts⟩ (c_M_isLayer l g ad hL x a1 _) (cwV 1 hts (gd_V tw_418 tw_420 tw_12 tw_28 tw_421) rfl rfl rfl (by decide +kernel) ⟨Nat.le_of_ble_eq_true rfl, Nat.le_of_ble_eq_true rfl⟩) (wp_V hK hN hP hJ (0) (by omega) rfl rfl) rfl rfl hl.1 rfl (lv_room (Nat.le_of_ble_eq_true rfl)) d_M_part_2 ⟨Nat.zero_le _, Nat.zero_le _⟩) hS (fun H locs hP hS => ?_)
  rcases x_la_cases hL a1 with q_1 | ⟨i_2, hi_2, rfl, q_1⟩
  · rw [isLayer_none hL q_1]
    refine lv_if_eq (tgt := 47) hx hb d_M_part_5 (by decide) (fun c_3 => ?_) (fun c_3 => absurd (by decide) c_3)
    refine lv_iconst (v := 0) hx hb d_M_part_47 (by decide) ?_
    exact W.zret hx hb hr rfl (fun t ht hW => ⟨⟨_, (), rfl, by (try simp only [x_part, x_bringAt, x_bring, q_1, ite_self]); first | done | rfl | assumption | exact x_within_1 (by assumption), by dsimp only; rw [ht]; (try simp only [x_part, x_bringAt, x_bring, q_1, ite_self]); exact hP⟩, hS.F ht⟩) hS.2.2 d_M_part_48
  · rw [isLayer_some hL hi_2]
    refine lv_if_eq (tgt := 47) hx hb d_M_part_5 (by decide) (fun c_4 => absurd c_4 (by decide)) (fun c_4 => ?_)
    refine lv_iload_n hx hb d_M_part_8 rfl (lv_at hl 2 rfl) ?_
    refine wc_i (va_runS (As := [.int a2]) (rest := []) ⟨hx, hb, hml, hown, hts⟩ (c_M_isPart l g _ ad _ a2 _) (cwS 1 hts (gd_S tw_422 tw_423 tw_28 tw_424) rfl rfl rfl (by decide +kernel) ⟨Nat.le_of_ble_eq_true rfl, Nat.le_of_ble_eq_true rfl⟩) (wp_S hK hN hP hJ) rfl rfl hl.1 rfl (lv_room (Nat.le_of_ble_eq_true rfl)) d_M_part_9 ⟨Nat.zero_le _, Nat.zero_le _⟩) hS (fun H locs hP hS => ?_)
    rw [isPart_x a2]
    refine lv_if_eq (tgt := 47) hx hb d_M_part_12 (by decide) (fun c_5 => ?_) (fun c_5 => ?_)
    · skip
      refine lv_iconst (v := 0) hx hb d_M_part_47 (by decide) ?_
      exact W.zret hx hb hr rfl (fun t ht hW => ⟨⟨_, (), rfl, by (try simp only [x_part, x_bringAt, x_bring, if_pos c_5, q_1, ite_self]); first | done | rfl | assumption | exact x_within_1 (by assumption), by dsimp only; rw [ht]; (try simp only [x_part, x_bringAt, x_bring, if_pos c_5, q_1, ite_self]); exact hP⟩, hS.F ht⟩) hS.2.2 d_M_part_48
    · skip
      refine lv_iload_n hx hb d_M_part_15 rfl (lv_at hl 3 rfl) ?_
      refine lv_i2l hx hb d_M_part_16 rfl ?_
      refine lv_lconst (v := 0) hx hb d_M_part_17 (by decide) ?_
      refine lv_ldc2 (v := 1000000) hx hb hown (hts _ tw_425) d_M_part_18 ?_
      refine wc_i (va_runS (As := [.long (Int32.toInt64 a3), .long 0, .long 1000000]) (rest := []) ⟨hx, hb, hml, hown, hts⟩ (c_M_isIn l g _ ad _ (Int32.toInt64 a3) 0 1000000 _) (cwS 3 hts (gd_S tw_426 tw_427 tw_28 tw_428) rfl rfl rfl (by decide +kernel) ⟨Nat.le_of_ble_eq_true rfl, Nat.le_of_ble_eq_true rfl⟩) (wp_S hK hN hP hJ) rfl rfl hl.1 rfl (lv_room (Nat.le_of_ble_eq_true rfl)) d_M_part_21 ⟨Nat.zero_le _, Nat.zero_le _⟩) hS (fun H locs hP hS => ?_)
      rw [isIn_x (a := a3) (b := 0) (c := 1000000) (by decide) (by decide)]
      refine lv_if_eq (tgt := 47) hx hb d_M_part_24 (by decide) (fun c_6 => ?_) (fun c_6 => ?_)
      · skip
        refine lv_iconst (v := 0) hx hb d_M_part_47 (by decide) ?_
        exact W.zret hx hb hr rfl (fun t ht hW => ⟨⟨_, (), rfl, by (try simp only [x_part, x_bringAt, x_bring, if_neg c_5, if_pos c_6, q_1, ite_self]); first | done | rfl | assumption | exact x_within_1 (by assumption), by dsimp only; rw [ht]; (try simp only [x_part, x_bringAt, x_bring, if_neg c_5, if_pos c_6, q_1, ite_self]); exact hP⟩, hS.F ht⟩) hS.2.2 d_M_part_48
      · skip
        obtain ⟨k, hk, rfl⟩ := x_within_nat (n := 2) (by decide) c_5
        refine lv_aload_n hx hb d_M_part_27 rfl (lv_at hl 0 rfl) ?_
        refine wr_get hx hb hts in_M hown hK hP (0) (by omega) rfl rfl 1 (by decide) (hts _ tw_342) rfl d_M_part_28 ?_
        refine lv_iconst (v := 3) hx hb d_M_part_31 (by decide) ?_
        refine lv_iload_n hx hb d_M_part_32 rfl (lv_at hl 1 rfl) ?_
        refine lv_imul hx hb d_M_part_33 ?_
        refine lv_iload_n hx hb d_M_part_34 rfl (lv_at hl 2 rfl) ?_
        refine lv_iadd hx hb d_M_part_35 ?_
        refine wr_laldv (v := xT x i_2 k) hx hb hK hP (1) 0 (by omega) rfl rfl (3 * i_2 + k) (mI3 i_2 k) (by omega) (by omega) (mPA x i_2 k (by omega)) d_M_part_36 ?_
        refine lv_iload_n hx hb d_M_part_37 rfl (lv_at hl 3 rfl) ?_
        refine lv_i2l hx hb d_M_part_38 rfl ?_
        refine lv_ladd hx hb d_M_part_39 ?_
        refine lv_ldc2 (v := 1000000000) hx hb hown (hts _ tw_340) d_M_part_40 ?_
        refine W.lcmp hx hb d_M_part_43 ?_
        refine lv_if_le (tgt := 49) hx hb d_M_part_44 (by decide) (fun c_7 => ?_) (fun c_7 => ?_)
        · skip
          refine lv_aload_n hx hb d_M_part_49 rfl (lv_at hl 0 rfl) ?_
          refine wr_get hx hb hts in_M hown hK hP (0) (by omega) rfl rfl 1 (by decide) (hts _ tw_342) rfl d_M_part_50 ?_
          refine lv_iconst (v := 3) hx hb d_M_part_53 (by decide) ?_
          refine lv_iload_n hx hb d_M_part_54 rfl (lv_at hl 1 rfl) ?_
          refine lv_imul hx hb d_M_part_55 ?_
          refine lv_iload_n hx hb d_M_part_56 rfl (lv_at hl 2 rfl) ?_
          refine lv_iadd hx hb d_M_part_57 ?_
          refine lv_dup2_11 hx hb d_M_part_58 rfl rfl ?_
          refine wr_laldv (v := xT x i_2 k) hx hb hK hP (1) 0 (by omega) rfl rfl (3 * i_2 + k) (mI3 i_2 k) (by omega) (by omega) (mPA x i_2 k (by omega)) d_M_part_59 ?_
          refine lv_iload_n hx hb d_M_part_60 rfl (lv_at hl 3 rfl) ?_
          refine lv_i2l hx hb d_M_part_61 rfl ?_
          refine lv_ladd hx hb d_M_part_62 ?_
          obtain ⟨x_8, ex_8⟩ : ∃ z9, z9 = xT' x i_2 k ((xT x i_2 k) + (Int32.toInt64 a3)) := ⟨_, rfl⟩
          refine wr_last (E' := mE g ad L x_8) hx hb hK hP hJ hS (1) 0 (by omega) rfl rfl (3 * i_2 + k) (mI3 i_2 k) (by omega) (by omega) (by rw [ex_8]; exact mU_PA g ad L x (i := i_2) (p := k) (by omega) ((xT x i_2 k) + (Int32.toInt64 a3))) d_M_part_63 (fun H locs hP hS => ?_)
          refine lv_aload_n hx hb d_M_part_64 rfl (lv_at hl 0 rfl) ?_
          refine wr_get hx hb hts in_M hown hK hP (0) (by omega) rfl rfl 22 (by decide) (hts _ tw_363) rfl d_M_part_65 ?_
          refine lv_iconst (v := 0) hx hb d_M_part_68 (by decide) ?_
          refine lv_dup2_11 hx hb d_M_part_69 rfl rfl ?_
          refine wr_laldv (v := mPut x_8 0) hx hb hK hP (12) 0 (by omega) rfl rfl 0 (by decide) (by omega) (by omega) rfl d_M_part_70 ?_
          refine lv_iload_n hx hb d_M_part_71 rfl (lv_at hl 3 rfl) ?_
          refine lv_i2l hx hb d_M_part_72 rfl ?_
          refine lv_ladd hx hb d_M_part_73 ?_
          obtain ⟨x_9, ex_9⟩ : ∃ z9, z9 = xO' x_8 1 k ((xO x_8 1 k) + (Int32.toInt64 a3)) := ⟨_, rfl⟩
          refine wr_last (E' := mE g ad L x_9) hx hb hK hP hJ hS (12) 0 (by omega) rfl rfl 0 (by decide) (by omega) (by omega) (by rw [ex_9]; exact mU_PU0 g ad L x_8 (p := k) (by omega) (Int32.toInt64 a3)) d_M_part_74 (fun H locs hP hS => ?_)
          refine lv_iconst (v := 1) hx hb d_M_part_75 (by decide) ?_
          subst ex_8
          subst ex_9
          exact W.zret hx hb hr rfl (fun t ht hW => ⟨⟨_, (), rfl, by (try simp only [x_part, x_bringAt, x_bring, if_neg c_5, if_neg c_6, if_pos c_7, q_1, nI_clamp (show k < 2 ^ 31 by omega), ite_self]); first | done | rfl | assumption | exact x_within_1 (by assumption), by dsimp only; rw [ht]; (try simp only [x_part, x_bringAt, x_bring, if_neg c_5, if_neg c_6, if_pos c_7, q_1, nI_clamp (show k < 2 ^ 31 by omega), ite_self]); exact hP⟩, hS.F ht⟩) hS.2.2 d_M_part_76
        · skip
          refine lv_iconst (v := 0) hx hb d_M_part_47 (by decide) ?_
          exact W.zret hx hb hr rfl (fun t ht hW => ⟨⟨_, (), rfl, by (try simp only [x_part, x_bringAt, x_bring, if_neg c_5, if_neg c_6, if_neg c_7, q_1, nI_clamp (show k < 2 ^ 31 by omega), ite_self]); first | done | rfl | assumption | exact x_within_1 (by assumption), by dsimp only; rw [ht]; (try simp only [x_part, x_bringAt, x_bring, if_neg c_5, if_neg c_6, if_neg c_7, q_1, nI_clamp (show k < 2 ^ 31 by omega), ite_self]); exact hP⟩, hS.F ht⟩) hS.2.2 d_M_part_48
set_option maxHeartbeats 4000000 in
set_option maxRecDepth 100000 in
theorem c_M_water (l : Launch) (g : wG) (ad : Nat → Nat) {L : Nat} (hL : 1 ≤ L ∧ L ≤ 6) (x : xS) (a1 a2 : Int32) : CtI l y_M_water ws_M_water ({ frames := 1, cells := 0, slots := 0, locals := 25 }) g 14 ad (mE g ad L x) (mE g ad L (x_water L x a1 a2).2) [.ref (ad 0), .int a1, .int a2] (x_water L x a1 a2).1 := by
  intro sz
  refine Met.ofW (cc := b_M_water) (maxL := 3) (ret := (some .boolean)) (by decide +kernel) rfl ?_
  intro p e s m args below meth c s₁ B hml hv
  obtain ⟨rfl, hsz, hP, hK, hN, hJ⟩ := hv
  have hx := B.exec
  have hb := B.bytes
  have hr := B.returns
  have hts0 := atoms_spec (ws := ws_M_water) B.pre
  have hts : ∀ w ∈ tb, w.before _ s = true := fun w h => hts0 w (List.mem_cons_of_mem _ h)
  have hown : s.vm.findClass "HeapStepsModel" = some m.cls := findClass_of_methodNamed B.named
  have hlocks := B.notSynchronized
  subst hsz
  have hS : va_S (wA 14 ad s.heap.size) s.heap s.heap [] := va_S.rf
  have hl := lv_entry ([.ref (ad 0), .int a1, .int a2]) (n := 3) (Nat.le_of_ble_eq_true rfl)
  rw [lg_entry_eq]
  generalize (lg_sl ([.ref (ad 0), .int a1, .int a2]) ++ List.replicate (3 - (lg_sl ([.ref (ad 0), .int a1, .int a2])).length) Slot.unset).toArray = ls at hl ⊢
  have hl : lv_has ls 3 [(0, .ref (ad 0)), (1, .int a1), (2, .int a2)] := hl
  refine lv_aload_n hx hb d_M_water_0 rfl (lv_at hl 0 rfl) ?_
  refine lv_iload_n hx hb d_M_water_1 rfl (lv_at hl 1 rfl) ?_
  refine wc_i (va_runV (As := [.int a1]) (rest := []) ⟨hx, hb, hml, hown, hts⟩ (c_M_isLayer l g ad hL x a1 _) (cwV 1 hts (gd_V tw_418 tw_420 tw_12 tw_28 tw_421) rfl rfl rfl (by decide +kernel) ⟨Nat.le_of_ble_eq_true rfl, Nat.le_of_ble_eq_true rfl⟩) (wp_V hK hN hP hJ (0) (by omega) rfl rfl) rfl rfl hl.1 rfl (lv_room (Nat.le_of_ble_eq_true rfl)) d_M_water_2 ⟨Nat.zero_le _, Nat.zero_le _⟩) hS (fun H locs hP hS => ?_)
  rcases x_la_cases hL a1 with q_1 | ⟨i_2, hi_2, rfl, q_1⟩
  · rw [isLayer_none hL q_1]
    refine lv_if_eq (tgt := 36) hx hb d_M_water_5 (by decide) (fun c_3 => ?_) (fun c_3 => absurd (by decide) c_3)
    refine lv_iconst (v := 0) hx hb d_M_water_36 (by decide) ?_
    exact W.zret hx hb hr rfl (fun t ht hW => ⟨⟨_, (), rfl, by (try simp only [x_water, x_bringAt, x_bring, q_1, ite_self]); first | done | rfl | assumption | exact x_within_1 (by assumption), by dsimp only; rw [ht]; (try simp only [x_water, x_bringAt, x_bring, q_1, ite_self]); exact hP⟩, hS.F ht⟩) hS.2.2 d_M_water_37
  · rw [isLayer_some hL hi_2]
    refine lv_if_eq (tgt := 36) hx hb d_M_water_5 (by decide) (fun c_4 => absurd c_4 (by decide)) (fun c_4 => ?_)
    refine lv_iload_n hx hb d_M_water_8 rfl (lv_at hl 2 rfl) ?_
    refine lv_i2l hx hb d_M_water_9 rfl ?_
    refine lv_lconst (v := 0) hx hb d_M_water_10 (by decide) ?_
    refine lv_ldc2 (v := 1000000) hx hb hown (hts _ tw_425) d_M_water_11 ?_
    refine wc_i (va_runS (As := [.long (Int32.toInt64 a2), .long 0, .long 1000000]) (rest := []) ⟨hx, hb, hml, hown, hts⟩ (c_M_isIn l g _ ad _ (Int32.toInt64 a2) 0 1000000 _) (cwS 3 hts (gd_S tw_426 tw_427 tw_28 tw_428) rfl rfl rfl (by decide +kernel) ⟨Nat.le_of_ble_eq_true rfl, Nat.le_of_ble_eq_true rfl⟩) (wp_S hK hN hP hJ) rfl rfl hl.1 rfl (lv_room (Nat.le_of_ble_eq_true rfl)) d_M_water_14 ⟨Nat.zero_le _, Nat.zero_le _⟩) hS (fun H locs hP hS => ?_)
    rw [isIn_x (a := a2) (b := 0) (c := 1000000) (by decide) (by decide)]
    refine lv_if_eq (tgt := 36) hx hb d_M_water_17 (by decide) (fun c_5 => ?_) (fun c_5 => ?_)
    · skip
      refine lv_iconst (v := 0) hx hb d_M_water_36 (by decide) ?_
      exact W.zret hx hb hr rfl (fun t ht hW => ⟨⟨_, (), rfl, by (try simp only [x_water, x_bringAt, x_bring, if_pos c_5, q_1, ite_self]); first | done | rfl | assumption | exact x_within_1 (by assumption), by dsimp only; rw [ht]; (try simp only [x_water, x_bringAt, x_bring, if_pos c_5, q_1, ite_self]); exact hP⟩, hS.F ht⟩) hS.2.2 d_M_water_37
    · skip
      refine lv_aload_n hx hb d_M_water_20 rfl (lv_at hl 0 rfl) ?_
      refine wr_get hx hb hts in_M hown hK hP (0) (by omega) rfl rfl 2 (by decide) (hts _ tw_343) rfl d_M_water_21 ?_
      refine lv_iload_n hx hb d_M_water_24 rfl (lv_at hl 1 rfl) ?_
      refine wr_laldv (v := xT x i_2 3) hx hb hK hP (2) 0 (by omega) rfl rfl i_2 rfl (by omega) (by omega) rfl d_M_water_25 ?_
      refine lv_iload_n hx hb d_M_water_26 rfl (lv_at hl 2 rfl) ?_
      refine lv_i2l hx hb d_M_water_27 rfl ?_
      refine lv_ladd hx hb d_M_water_28 ?_
      refine lv_ldc2 (v := 1000000000) hx hb hown (hts _ tw_340) d_M_water_29 ?_
      refine W.lcmp hx hb d_M_water_32 ?_
      refine lv_if_le (tgt := 38) hx hb d_M_water_33 (by decide) (fun c_6 => ?_) (fun c_6 => ?_)
      · skip
        refine lv_aload_n hx hb d_M_water_38 rfl (lv_at hl 0 rfl) ?_
        refine wr_get hx hb hts in_M hown hK hP (0) (by omega) rfl rfl 2 (by decide) (hts _ tw_343) rfl d_M_water_39 ?_
        refine lv_iload_n hx hb d_M_water_42 rfl (lv_at hl 1 rfl) ?_
        refine lv_dup2_11 hx hb d_M_water_43 rfl rfl ?_
        refine wr_laldv (v := xT x i_2 3) hx hb hK hP (2) 0 (by omega) rfl rfl i_2 rfl (by omega) (by omega) rfl d_M_water_44 ?_
        refine lv_iload_n hx hb d_M_water_45 rfl (lv_at hl 2 rfl) ?_
        refine lv_i2l hx hb d_M_water_46 rfl ?_
        refine lv_ladd hx hb d_M_water_47 ?_
        obtain ⟨x_7, ex_7⟩ : ∃ z9, z9 = xT' x i_2 3 ((xT x i_2 3) + (Int32.toInt64 a2)) := ⟨_, rfl⟩
        refine wr_last (E' := mE g ad L x_7) hx hb hK hP hJ hS (2) 0 (by omega) rfl rfl i_2 rfl (by omega) (by omega) (by rw [ex_7]; exact mU_WA g ad L x i_2 ((xT x i_2 3) + (Int32.toInt64 a2))) d_M_water_48 (fun H locs hP hS => ?_)
        refine lv_aload_n hx hb d_M_water_49 rfl (lv_at hl 0 rfl) ?_
        refine wr_get hx hb hts in_M hown hK hP (0) (by omega) rfl rfl 22 (by decide) (hts _ tw_363) rfl d_M_water_50 ?_
        refine lv_iconst (v := 1) hx hb d_M_water_53 (by decide) ?_
        refine lv_dup2_11 hx hb d_M_water_54 rfl rfl ?_
        refine wr_laldv (v := mPut x_7 1) hx hb hK hP (12) 0 (by omega) rfl rfl 1 (by decide) (by omega) (by omega) rfl d_M_water_55 ?_
        refine lv_iload_n hx hb d_M_water_56 rfl (lv_at hl 2 rfl) ?_
        refine lv_i2l hx hb d_M_water_57 rfl ?_
        refine lv_ladd hx hb d_M_water_58 ?_
        obtain ⟨x_8, ex_8⟩ : ∃ z9, z9 = xO' x_7 1 3 ((mPut x_7 1) + (Int32.toInt64 a2)) := ⟨_, rfl⟩
        refine wr_last (E' := mE g ad L x_8) hx hb hK hP hJ hS (12) 0 (by omega) rfl rfl 1 (by decide) (by omega) (by omega) (by rw [ex_8]; exact mU_PU1 g ad L x_7 ((mPut x_7 1) + (Int32.toInt64 a2))) d_M_water_59 (fun H locs hP hS => ?_)
        refine lv_iconst (v := 1) hx hb d_M_water_60 (by decide) ?_
        subst ex_7
        subst ex_8
        exact W.zret hx hb hr rfl (fun t ht hW => ⟨⟨_, (), rfl, by (try simp only [x_water, x_bringAt, x_bring, if_neg c_5, if_pos c_6, q_1, ite_self]); first | done | rfl | assumption | exact x_within_1 (by assumption), by dsimp only; rw [ht]; (try simp only [x_water, x_bringAt, x_bring, if_neg c_5, if_pos c_6, q_1, ite_self]); exact hP⟩, hS.F ht⟩) hS.2.2 d_M_water_61
      · skip
        refine lv_iconst (v := 0) hx hb d_M_water_36 (by decide) ?_
        exact W.zret hx hb hr rfl (fun t ht hW => ⟨⟨_, (), rfl, by (try simp only [x_water, x_bringAt, x_bring, if_neg c_5, if_neg c_6, q_1, ite_self]); first | done | rfl | assumption | exact x_within_1 (by assumption), by dsimp only; rw [ht]; (try simp only [x_water, x_bringAt, x_bring, if_neg c_5, if_neg c_6, q_1, ite_self]); exact hP⟩, hS.F ht⟩) hS.2.2 d_M_water_37
set_option maxHeartbeats 4000000 in
set_option maxRecDepth 100000 in
theorem c_M_heat (l : Launch) (g : wG) (ad : Nat → Nat) {L : Nat} (hL : 1 ≤ L ∧ L ≤ 6) (x : xS) (a1 a2 : Int32) : CtI l y_M_heat ws_M_heat ({ frames := 1, cells := 0, slots := 0, locals := 25 }) g 14 ad (mE g ad L x) (mE g ad L (x_heat L x a1 a2).2) [.ref (ad 0), .int a1, .int a2] (x_heat L x a1 a2).1 := by
  intro sz
  refine Met.ofW (cc := b_M_heat) (maxL := 3) (ret := (some .boolean)) (by decide +kernel) rfl ?_
  intro p e s m args below meth c s₁ B hml hv
  obtain ⟨rfl, hsz, hP, hK, hN, hJ⟩ := hv
  have hx := B.exec
  have hb := B.bytes
  have hr := B.returns
  have hts0 := atoms_spec (ws := ws_M_heat) B.pre
  have hts : ∀ w ∈ tb, w.before _ s = true := fun w h => hts0 w (List.mem_cons_of_mem _ h)
  have hown : s.vm.findClass "HeapStepsModel" = some m.cls := findClass_of_methodNamed B.named
  have hlocks := B.notSynchronized
  subst hsz
  have hS : va_S (wA 14 ad s.heap.size) s.heap s.heap [] := va_S.rf
  have hl := lv_entry ([.ref (ad 0), .int a1, .int a2]) (n := 3) (Nat.le_of_ble_eq_true rfl)
  rw [lg_entry_eq]
  generalize (lg_sl ([.ref (ad 0), .int a1, .int a2]) ++ List.replicate (3 - (lg_sl ([.ref (ad 0), .int a1, .int a2])).length) Slot.unset).toArray = ls at hl ⊢
  have hl : lv_has ls 3 [(0, .ref (ad 0)), (1, .int a1), (2, .int a2)] := hl
  refine lv_aload_n hx hb d_M_heat_0 rfl (lv_at hl 0 rfl) ?_
  refine lv_iload_n hx hb d_M_heat_1 rfl (lv_at hl 1 rfl) ?_
  refine wc_i (va_runV (As := [.int a1]) (rest := []) ⟨hx, hb, hml, hown, hts⟩ (c_M_isLayer l g ad hL x a1 _) (cwV 1 hts (gd_V tw_418 tw_420 tw_12 tw_28 tw_421) rfl rfl rfl (by decide +kernel) ⟨Nat.le_of_ble_eq_true rfl, Nat.le_of_ble_eq_true rfl⟩) (wp_V hK hN hP hJ (0) (by omega) rfl rfl) rfl rfl hl.1 rfl (lv_room (Nat.le_of_ble_eq_true rfl)) d_M_heat_2 ⟨Nat.zero_le _, Nat.zero_le _⟩) hS (fun H locs hP hS => ?_)
  rcases x_la_cases hL a1 with q_1 | ⟨i_2, hi_2, rfl, q_1⟩
  · rw [isLayer_none hL q_1]
    refine lv_if_eq (tgt := 36) hx hb d_M_heat_5 (by decide) (fun c_3 => ?_) (fun c_3 => absurd (by decide) c_3)
    refine lv_iconst (v := 0) hx hb d_M_heat_36 (by decide) ?_
    exact W.zret hx hb hr rfl (fun t ht hW => ⟨⟨_, (), rfl, by (try simp only [x_heat, x_bringAt, x_bring, q_1, ite_self]); first | done | rfl | assumption | exact x_within_1 (by assumption), by dsimp only; rw [ht]; (try simp only [x_heat, x_bringAt, x_bring, q_1, ite_self]); exact hP⟩, hS.F ht⟩) hS.2.2 d_M_heat_37
  · rw [isLayer_some hL hi_2]
    refine lv_if_eq (tgt := 36) hx hb d_M_heat_5 (by decide) (fun c_4 => absurd c_4 (by decide)) (fun c_4 => ?_)
    refine lv_iload_n hx hb d_M_heat_8 rfl (lv_at hl 2 rfl) ?_
    refine lv_i2l hx hb d_M_heat_9 rfl ?_
    refine lv_lconst (v := 0) hx hb d_M_heat_10 (by decide) ?_
    refine lv_ldc2 (v := 1000000000) hx hb hown (hts _ tw_340) d_M_heat_11 ?_
    refine wc_i (va_runS (As := [.long (Int32.toInt64 a2), .long 0, .long 1000000000]) (rest := []) ⟨hx, hb, hml, hown, hts⟩ (c_M_isIn l g _ ad _ (Int32.toInt64 a2) 0 1000000000 _) (cwS 3 hts (gd_S tw_426 tw_427 tw_28 tw_428) rfl rfl rfl (by decide +kernel) ⟨Nat.le_of_ble_eq_true rfl, Nat.le_of_ble_eq_true rfl⟩) (wp_S hK hN hP hJ) rfl rfl hl.1 rfl (lv_room (Nat.le_of_ble_eq_true rfl)) d_M_heat_14 ⟨Nat.zero_le _, Nat.zero_le _⟩) hS (fun H locs hP hS => ?_)
    rw [isIn_x (a := a2) (b := 0) (c := 1000000000) (by decide) (by decide)]
    refine lv_if_eq (tgt := 36) hx hb d_M_heat_17 (by decide) (fun c_5 => ?_) (fun c_5 => ?_)
    · skip
      refine lv_iconst (v := 0) hx hb d_M_heat_36 (by decide) ?_
      exact W.zret hx hb hr rfl (fun t ht hW => ⟨⟨_, (), rfl, by (try simp only [x_heat, x_bringAt, x_bring, if_pos c_5, q_1, ite_self]); first | done | rfl | assumption | exact x_within_1 (by assumption), by dsimp only; rw [ht]; (try simp only [x_heat, x_bringAt, x_bring, if_pos c_5, q_1, ite_self]); exact hP⟩, hS.F ht⟩) hS.2.2 d_M_heat_37
    · skip
      refine lv_aload_n hx hb d_M_heat_20 rfl (lv_at hl 0 rfl) ?_
      refine wr_get hx hb hts in_M hown hK hP (0) (by omega) rfl rfl 3 (by decide) (hts _ tw_344) rfl d_M_heat_21 ?_
      refine lv_iload_n hx hb d_M_heat_24 rfl (lv_at hl 1 rfl) ?_
      refine wr_laldv (v := xT x i_2 4) hx hb hK hP (3) 0 (by omega) rfl rfl i_2 rfl (by omega) (by omega) rfl d_M_heat_25 ?_
      refine lv_iload_n hx hb d_M_heat_26 rfl (lv_at hl 2 rfl) ?_
      refine lv_i2l hx hb d_M_heat_27 rfl ?_
      refine lv_ladd hx hb d_M_heat_28 ?_
      refine lv_ldc2 (v := 1000000000000000) hx hb hown (hts _ tw_437) d_M_heat_29 ?_
      refine W.lcmp hx hb d_M_heat_32 ?_
      refine lv_if_le (tgt := 38) hx hb d_M_heat_33 (by decide) (fun c_6 => ?_) (fun c_6 => ?_)
      · skip
        refine lv_aload_n hx hb d_M_heat_38 rfl (lv_at hl 0 rfl) ?_
        refine wr_get hx hb hts in_M hown hK hP (0) (by omega) rfl rfl 3 (by decide) (hts _ tw_344) rfl d_M_heat_39 ?_
        refine lv_iload_n hx hb d_M_heat_42 rfl (lv_at hl 1 rfl) ?_
        refine lv_dup2_11 hx hb d_M_heat_43 rfl rfl ?_
        refine wr_laldv (v := xT x i_2 4) hx hb hK hP (3) 0 (by omega) rfl rfl i_2 rfl (by omega) (by omega) rfl d_M_heat_44 ?_
        refine lv_iload_n hx hb d_M_heat_45 rfl (lv_at hl 2 rfl) ?_
        refine lv_i2l hx hb d_M_heat_46 rfl ?_
        refine lv_ladd hx hb d_M_heat_47 ?_
        obtain ⟨x_7, ex_7⟩ : ∃ z9, z9 = xT' x i_2 4 ((xT x i_2 4) + (Int32.toInt64 a2)) := ⟨_, rfl⟩
        refine wr_last (E' := mE g ad L x_7) hx hb hK hP hJ hS (3) 0 (by omega) rfl rfl i_2 rfl (by omega) (by omega) (by rw [ex_7]; exact mU_HE g ad L x i_2 ((xT x i_2 4) + (Int32.toInt64 a2))) d_M_heat_48 (fun H locs hP hS => ?_)
        refine lv_aload_n hx hb d_M_heat_49 rfl (lv_at hl 0 rfl) ?_
        refine wr_get hx hb hts in_M hown hK hP (0) (by omega) rfl rfl 22 (by decide) (hts _ tw_363) rfl d_M_heat_50 ?_
        refine lv_iconst (v := 2) hx hb d_M_heat_53 (by decide) ?_
        refine lv_dup2_11 hx hb d_M_heat_54 rfl rfl ?_
        refine wr_laldv (v := mPut x_7 2) hx hb hK hP (12) 0 (by omega) rfl rfl 2 (by decide) (by omega) (by omega) rfl d_M_heat_55 ?_
        refine lv_iload_n hx hb d_M_heat_56 rfl (lv_at hl 2 rfl) ?_
        refine lv_i2l hx hb d_M_heat_57 rfl ?_
        refine lv_ladd hx hb d_M_heat_58 ?_
        obtain ⟨x_8, ex_8⟩ : ∃ z9, z9 = xO' x_7 1 4 ((mPut x_7 2) + (Int32.toInt64 a2)) := ⟨_, rfl⟩
        refine wr_last (E' := mE g ad L x_8) hx hb hK hP hJ hS (12) 0 (by omega) rfl rfl 2 (by decide) (by omega) (by omega) (by rw [ex_8]; exact mU_PU2 g ad L x_7 ((mPut x_7 2) + (Int32.toInt64 a2))) d_M_heat_59 (fun H locs hP hS => ?_)
        refine lv_iconst (v := 1) hx hb d_M_heat_60 (by decide) ?_
        subst ex_7
        subst ex_8
        exact W.zret hx hb hr rfl (fun t ht hW => ⟨⟨_, (), rfl, by (try simp only [x_heat, x_bringAt, x_bring, if_neg c_5, if_pos c_6, q_1, ite_self]); first | done | rfl | assumption | exact x_within_1 (by assumption), by dsimp only; rw [ht]; (try simp only [x_heat, x_bringAt, x_bring, if_neg c_5, if_pos c_6, q_1, ite_self]); exact hP⟩, hS.F ht⟩) hS.2.2 d_M_heat_61
      · skip
        refine lv_iconst (v := 0) hx hb d_M_heat_36 (by decide) ?_
        exact W.zret hx hb hr rfl (fun t ht hW => ⟨⟨_, (), rfl, by (try simp only [x_heat, x_bringAt, x_bring, if_neg c_5, if_neg c_6, q_1, ite_self]); first | done | rfl | assumption | exact x_within_1 (by assumption), by dsimp only; rw [ht]; (try simp only [x_heat, x_bringAt, x_bring, if_neg c_5, if_neg c_6, q_1, ite_self]); exact hP⟩, hS.F ht⟩) hS.2.2 d_M_heat_37
set_option maxHeartbeats 4000000 in
set_option maxRecDepth 100000 in
theorem c_M_yields (l : Launch) (g : wG) (ad : Nat → Nat) {L : Nat} (hL : 1 ≤ L ∧ L ≤ 6) (x : xS) (a1 a2 a3 : Int32) : CtI l y_M_yields ws_M_yields ({ frames := 1, cells := 0, slots := 0, locals := 25 }) g 14 ad (mE g ad L x) (mE g ad L (x_yields x a1 a2 a3).2) [.ref (ad 0), .int a1, .int a2, .int a3] (x_yields x a1 a2 a3).1 := by
  intro sz
  refine Met.ofW (cc := b_M_yields) (maxL := 4) (ret := (some .boolean)) (by decide +kernel) rfl ?_
  intro p e s m args below meth c s₁ B hml hv
  obtain ⟨rfl, hsz, hP, hK, hN, hJ⟩ := hv
  have hx := B.exec
  have hb := B.bytes
  have hr := B.returns
  have hts0 := atoms_spec (ws := ws_M_yields) B.pre
  have hts : ∀ w ∈ tb, w.before _ s = true := fun w h => hts0 w (List.mem_cons_of_mem _ h)
  have hown : s.vm.findClass "HeapStepsModel" = some m.cls := findClass_of_methodNamed B.named
  have hlocks := B.notSynchronized
  subst hsz
  have hS : va_S (wA 14 ad s.heap.size) s.heap s.heap [] := va_S.rf
  have hl := lv_entry ([.ref (ad 0), .int a1, .int a2, .int a3]) (n := 4) (Nat.le_of_ble_eq_true rfl)
  rw [lg_entry_eq]
  generalize (lg_sl ([.ref (ad 0), .int a1, .int a2, .int a3]) ++ List.replicate (4 - (lg_sl ([.ref (ad 0), .int a1, .int a2, .int a3])).length) Slot.unset).toArray = ls at hl ⊢
  have hl : lv_has ls 4 [(0, .ref (ad 0)), (1, .int a1), (2, .int a2), (3, .int a3)] := hl
  refine lv_iload_n hx hb d_M_yields_0 rfl (lv_at hl 1 rfl) ?_
  refine wc_i (va_runS (As := [.int a1]) (rest := []) ⟨hx, hb, hml, hown, hts⟩ (c_M_isPart l g _ ad _ a1 _) (cwS 1 hts (gd_S tw_422 tw_423 tw_28 tw_424) rfl rfl rfl (by decide +kernel) ⟨Nat.le_of_ble_eq_true rfl, Nat.le_of_ble_eq_true rfl⟩) (wp_S hK hN hP hJ) rfl rfl hl.1 rfl (lv_room (Nat.le_of_ble_eq_true rfl)) d_M_yields_1 ⟨Nat.zero_le _, Nat.zero_le _⟩) hS (fun H locs hP hS => ?_)
  rw [isPart_x a1]
  refine lv_if_eq (tgt := 31) hx hb d_M_yields_4 (by decide) (fun c_1 => ?_) (fun c_1 => ?_)
  · skip
    refine lv_iconst (v := 0) hx hb d_M_yields_31 (by decide) ?_
    exact W.zret hx hb hr rfl (fun t ht hW => ⟨⟨_, (), rfl, by (try simp only [x_yields, if_pos c_1, ite_self]); first | done | rfl | assumption | exact x_within_1 (by assumption), by dsimp only; rw [ht]; (try simp only [x_yields, if_pos c_1, ite_self]); exact hP⟩, hS.F ht⟩) hS.2.2 d_M_yields_32
  · skip
    refine lv_iload_n hx hb d_M_yields_7 rfl (lv_at hl 2 rfl) ?_
    refine lv_i2l hx hb d_M_yields_8 rfl ?_
    refine lv_lconst (v := 0) hx hb d_M_yields_9 (by decide) ?_
    refine lv_ldc2 (v := 100000) hx hb hown (hts _ tw_442) d_M_yields_10 ?_
    refine wc_i (va_runS (As := [.long (Int32.toInt64 a2), .long 0, .long 100000]) (rest := []) ⟨hx, hb, hml, hown, hts⟩ (c_M_isIn l g _ ad _ (Int32.toInt64 a2) 0 100000 _) (cwS 3 hts (gd_S tw_426 tw_427 tw_28 tw_428) rfl rfl rfl (by decide +kernel) ⟨Nat.le_of_ble_eq_true rfl, Nat.le_of_ble_eq_true rfl⟩) (wp_S hK hN hP hJ) rfl rfl hl.1 rfl (lv_room (Nat.le_of_ble_eq_true rfl)) d_M_yields_13 ⟨Nat.zero_le _, Nat.zero_le _⟩) hS (fun H locs hP hS => ?_)
    rw [isIn_x (a := a2) (b := 0) (c := 100000) (by decide) (by decide)]
    refine lv_if_eq (tgt := 31) hx hb d_M_yields_16 (by decide) (fun c_2 => ?_) (fun c_2 => ?_)
    · skip
      refine lv_iconst (v := 0) hx hb d_M_yields_31 (by decide) ?_
      exact W.zret hx hb hr rfl (fun t ht hW => ⟨⟨_, (), rfl, by (try simp only [x_yields, if_neg c_1, if_pos c_2, ite_self]); first | done | rfl | assumption | exact x_within_1 (by assumption), by dsimp only; rw [ht]; (try simp only [x_yields, if_neg c_1, if_pos c_2, ite_self]); exact hP⟩, hS.F ht⟩) hS.2.2 d_M_yields_32
    · skip
      refine lv_iload_n hx hb d_M_yields_19 rfl (lv_at hl 3 rfl) ?_
      refine lv_i2l hx hb d_M_yields_20 rfl ?_
      refine lv_lconst (v := 0) hx hb d_M_yields_21 (by decide) ?_
      refine lv_ldc2 (v := 1000) hx hb hown (hts _ tw_447) d_M_yields_22 ?_
      refine wc_i (va_runS (As := [.long (Int32.toInt64 a3), .long 0, .long 1000]) (rest := []) ⟨hx, hb, hml, hown, hts⟩ (c_M_isIn l g _ ad _ (Int32.toInt64 a3) 0 1000 _) (cwS 3 hts (gd_S tw_426 tw_427 tw_28 tw_428) rfl rfl rfl (by decide +kernel) ⟨Nat.le_of_ble_eq_true rfl, Nat.le_of_ble_eq_true rfl⟩) (wp_S hK hN hP hJ) rfl rfl hl.1 rfl (lv_room (Nat.le_of_ble_eq_true rfl)) d_M_yields_25 ⟨Nat.zero_le _, Nat.zero_le _⟩) hS (fun H locs hP hS => ?_)
      rw [isIn_x (a := a3) (b := 0) (c := 1000) (by decide) (by decide)]
      refine lv_if_ne (tgt := 33) hx hb d_M_yields_28 (by decide) (fun c_3 => ?_) (fun c_3 => ?_)
      · skip
        obtain ⟨k, hk, rfl⟩ := x_within_nat (n := 2) (by decide) c_1
        refine lv_aload_n hx hb d_M_yields_33 rfl (lv_at hl 0 rfl) ?_
        refine wr_get hx hb hts in_M hown hK hP (0) (by omega) rfl rfl 9 (by decide) (hts _ tw_350) rfl d_M_yields_34 ?_
        refine lv_iload_n hx hb d_M_yields_37 rfl (lv_at hl 1 rfl) ?_
        refine lv_iload_n hx hb d_M_yields_38 rfl (lv_at hl 2 rfl) ?_
        obtain ⟨x_4, ex_4⟩ : ∃ z9, z9 = xY' x k 1 a2 := ⟨_, rfl⟩
        refine wr_iast (E' := mE g ad L x_4) hx hb hK hP hJ hS (9) 1 (by omega) rfl rfl k rfl (by omega) (by omega) (by rw [ex_4]; exact mU_HY g ad L x k a2) d_M_yields_39 (fun H locs hP hS => ?_)
        refine lv_aload_n hx hb d_M_yields_40 rfl (lv_at hl 0 rfl) ?_
        refine wr_get hx hb hts in_M hown hK hP (0) (by omega) rfl rfl 10 (by decide) (hts _ tw_351) rfl d_M_yields_41 ?_
        refine lv_iload_n hx hb d_M_yields_44 rfl (lv_at hl 1 rfl) ?_
        refine lv_iload_n hx hb d_M_yields_45 rfl (lv_at hl 3 rfl) ?_
        obtain ⟨x_5, ex_5⟩ : ∃ z9, z9 = xY' x_4 k 2 a3 := ⟨_, rfl⟩
        refine wr_iast (E' := mE g ad L x_5) hx hb hK hP hJ hS (10) 1 (by omega) rfl rfl k rfl (by omega) (by omega) (by rw [ex_5]; exact mU_WY g ad L x_4 k a3) d_M_yields_46 (fun H locs hP hS => ?_)
        refine lv_iconst (v := 1) hx hb d_M_yields_47 (by decide) ?_
        subst ex_4
        subst ex_5
        exact W.zret hx hb hr rfl (fun t ht hW => ⟨⟨_, (), rfl, by (try simp only [x_yields, if_neg c_1, if_neg c_2, if_neg c_3, nI_clamp (show k < 2 ^ 31 by omega), ite_self]); first | done | rfl | assumption | exact x_within_1 (by assumption), by dsimp only; rw [ht]; (try simp only [x_yields, if_neg c_1, if_neg c_2, if_neg c_3, nI_clamp (show k < 2 ^ 31 by omega), ite_self]); exact hP⟩, hS.F ht⟩) hS.2.2 d_M_yields_48
      · skip
        refine lv_iconst (v := 0) hx hb d_M_yields_31 (by decide) ?_
        exact W.zret hx hb hr rfl (fun t ht hW => ⟨⟨_, (), rfl, by (try simp only [x_yields, if_neg c_1, if_neg c_2, if_pos c_3, ite_self]); first | done | rfl | assumption | exact x_within_1 (by assumption), by dsimp only; rw [ht]; (try simp only [x_yields, if_neg c_1, if_neg c_2, if_pos c_3, ite_self]); exact hP⟩, hS.F ht⟩) hS.2.2 d_M_yields_32
set_option maxHeartbeats 4000000 in
set_option maxRecDepth 100000 in
theorem c_M_bounds (l : Launch) (g : wG) (ad : Nat → Nat) {L : Nat} (hL : 1 ≤ L ∧ L ≤ 6) (x : xS) (a1 a2 a3 : Int32) : CtI l y_M_bounds ws_M_bounds ({ frames := 1, cells := 0, slots := 0, locals := 25 }) g 14 ad (mE g ad L x) (mE g ad L (x_bounds L x a1 a2 a3).2) [.ref (ad 0), .int a1, .int a2, .int a3] (x_bounds L x a1 a2 a3).1 := by
  intro sz
  refine Met.ofW (cc := b_M_bounds) (maxL := 4) (ret := (some .boolean)) (by decide +kernel) rfl ?_
  intro p e s m args below meth c s₁ B hml hv
  obtain ⟨rfl, hsz, hP, hK, hN, hJ⟩ := hv
  have hx := B.exec
  have hb := B.bytes
  have hr := B.returns
  have hts0 := atoms_spec (ws := ws_M_bounds) B.pre
  have hts : ∀ w ∈ tb, w.before _ s = true := fun w h => hts0 w (List.mem_cons_of_mem _ h)
  have hown : s.vm.findClass "HeapStepsModel" = some m.cls := findClass_of_methodNamed B.named
  have hlocks := B.notSynchronized
  subst hsz
  have hS : va_S (wA 14 ad s.heap.size) s.heap s.heap [] := va_S.rf
  have hl := lv_entry ([.ref (ad 0), .int a1, .int a2, .int a3]) (n := 4) (Nat.le_of_ble_eq_true rfl)
  rw [lg_entry_eq]
  generalize (lg_sl ([.ref (ad 0), .int a1, .int a2, .int a3]) ++ List.replicate (4 - (lg_sl ([.ref (ad 0), .int a1, .int a2, .int a3])).length) Slot.unset).toArray = ls at hl ⊢
  have hl : lv_has ls 4 [(0, .ref (ad 0)), (1, .int a1), (2, .int a2), (3, .int a3)] := hl
  refine lv_aload_n hx hb d_M_bounds_0 rfl (lv_at hl 0 rfl) ?_
  refine lv_iload_n hx hb d_M_bounds_1 rfl (lv_at hl 1 rfl) ?_
  refine wc_i (va_runV (As := [.int a1]) (rest := []) ⟨hx, hb, hml, hown, hts⟩ (c_M_isLayer l g ad hL x a1 _) (cwV 1 hts (gd_V tw_418 tw_420 tw_12 tw_28 tw_421) rfl rfl rfl (by decide +kernel) ⟨Nat.le_of_ble_eq_true rfl, Nat.le_of_ble_eq_true rfl⟩) (wp_V hK hN hP hJ (0) (by omega) rfl rfl) rfl rfl hl.1 rfl (lv_room (Nat.le_of_ble_eq_true rfl)) d_M_bounds_2 ⟨Nat.zero_le _, Nat.zero_le _⟩) hS (fun H locs hP hS => ?_)
  rcases x_la_cases hL a1 with q_1 | ⟨i_2, hi_2, rfl, q_1⟩
  · rw [isLayer_none hL q_1]
    refine lv_if_eq (tgt := 32) hx hb d_M_bounds_5 (by decide) (fun c_3 => ?_) (fun c_3 => absurd (by decide) c_3)
    refine lv_iconst (v := 0) hx hb d_M_bounds_32 (by decide) ?_
    exact W.zret hx hb hr rfl (fun t ht hW => ⟨⟨_, (), rfl, by (try simp only [x_bounds, q_1, ite_self]); first | done | rfl | assumption | exact x_within_1 (by assumption), by dsimp only; rw [ht]; (try simp only [x_bounds, q_1, ite_self]); exact hP⟩, hS.F ht⟩) hS.2.2 d_M_bounds_33
  · rw [isLayer_some hL hi_2]
    refine lv_if_eq (tgt := 32) hx hb d_M_bounds_5 (by decide) (fun c_4 => absurd c_4 (by decide)) (fun c_4 => ?_)
    refine lv_iload_n hx hb d_M_bounds_8 rfl (lv_at hl 2 rfl) ?_
    refine lv_i2l hx hb d_M_bounds_9 rfl ?_
    refine lv_lconst (v := 0) hx hb d_M_bounds_10 (by decide) ?_
    refine lv_ldc2 (v := 1000000000) hx hb hown (hts _ tw_340) d_M_bounds_11 ?_
    refine wc_i (va_runS (As := [.long (Int32.toInt64 a2), .long 0, .long 1000000000]) (rest := []) ⟨hx, hb, hml, hown, hts⟩ (c_M_isIn l g _ ad _ (Int32.toInt64 a2) 0 1000000000 _) (cwS 3 hts (gd_S tw_426 tw_427 tw_28 tw_428) rfl rfl rfl (by decide +kernel) ⟨Nat.le_of_ble_eq_true rfl, Nat.le_of_ble_eq_true rfl⟩) (wp_S hK hN hP hJ) rfl rfl hl.1 rfl (lv_room (Nat.le_of_ble_eq_true rfl)) d_M_bounds_14 ⟨Nat.zero_le _, Nat.zero_le _⟩) hS (fun H locs hP hS => ?_)
    rw [isIn_x (a := a2) (b := 0) (c := 1000000000) (by decide) (by decide)]
    refine lv_if_eq (tgt := 32) hx hb d_M_bounds_17 (by decide) (fun c_5 => ?_) (fun c_5 => ?_)
    · skip
      refine lv_iconst (v := 0) hx hb d_M_bounds_32 (by decide) ?_
      exact W.zret hx hb hr rfl (fun t ht hW => ⟨⟨_, (), rfl, by (try simp only [x_bounds, if_pos c_5, q_1, ite_self]); first | done | rfl | assumption | exact x_within_1 (by assumption), by dsimp only; rw [ht]; (try simp only [x_bounds, if_pos c_5, q_1, ite_self]); exact hP⟩, hS.F ht⟩) hS.2.2 d_M_bounds_33
    · skip
      refine lv_iload_n hx hb d_M_bounds_20 rfl (lv_at hl 3 rfl) ?_
      refine lv_i2l hx hb d_M_bounds_21 rfl ?_
      refine lv_lconst (v := 0) hx hb d_M_bounds_22 (by decide) ?_
      refine lv_ldc2 (v := 1000000000) hx hb hown (hts _ tw_340) d_M_bounds_23 ?_
      refine wc_i (va_runS (As := [.long (Int32.toInt64 a3), .long 0, .long 1000000000]) (rest := []) ⟨hx, hb, hml, hown, hts⟩ (c_M_isIn l g _ ad _ (Int32.toInt64 a3) 0 1000000000 _) (cwS 3 hts (gd_S tw_426 tw_427 tw_28 tw_428) rfl rfl rfl (by decide +kernel) ⟨Nat.le_of_ble_eq_true rfl, Nat.le_of_ble_eq_true rfl⟩) (wp_S hK hN hP hJ) rfl rfl hl.1 rfl (lv_room (Nat.le_of_ble_eq_true rfl)) d_M_bounds_26 ⟨Nat.zero_le _, Nat.zero_le _⟩) hS (fun H locs hP hS => ?_)
      rw [isIn_x (a := a3) (b := 0) (c := 1000000000) (by decide) (by decide)]
      refine lv_if_ne (tgt := 34) hx hb d_M_bounds_29 (by decide) (fun c_6 => ?_) (fun c_6 => ?_)
      · skip
        refine lv_aload_n hx hb d_M_bounds_34 rfl (lv_at hl 0 rfl) ?_
        refine wr_get hx hb hts in_M hown hK hP (0) (by omega) rfl rfl 4 (by decide) (hts _ tw_345) rfl d_M_bounds_35 ?_
        refine lv_iload_n hx hb d_M_bounds_38 rfl (lv_at hl 1 rfl) ?_
        refine lv_iload_n hx hb d_M_bounds_39 rfl (lv_at hl 2 rfl) ?_
        refine lv_i2l hx hb d_M_bounds_40 rfl ?_
        obtain ⟨x_7, ex_7⟩ : ∃ z9, z9 = xB' x i_2 0 a2 := ⟨_, rfl⟩
        refine wr_last (E' := mE g ad L x_7) hx hb hK hP hJ hS (4) 0 (by omega) rfl rfl i_2 rfl (by omega) (by omega) (by rw [ex_7]; exact mU_DR g ad L x i_2 a2) d_M_bounds_41 (fun H locs hP hS => ?_)
        refine lv_aload_n hx hb d_M_bounds_42 rfl (lv_at hl 0 rfl) ?_
        refine wr_get hx hb hts in_M hown hK hP (0) (by omega) rfl rfl 5 (by decide) (hts _ tw_346) rfl d_M_bounds_43 ?_
        refine lv_iload_n hx hb d_M_bounds_46 rfl (lv_at hl 1 rfl) ?_
        refine lv_iload_n hx hb d_M_bounds_47 rfl (lv_at hl 3 rfl) ?_
        refine lv_i2l hx hb d_M_bounds_48 rfl ?_
        obtain ⟨x_8, ex_8⟩ : ∃ z9, z9 = xB' x_7 i_2 1 a3 := ⟨_, rfl⟩
        refine wr_last (E' := mE g ad L x_8) hx hb hK hP hJ hS (5) 0 (by omega) rfl rfl i_2 rfl (by omega) (by omega) (by rw [ex_8]; exact mU_HO g ad L x_7 i_2 a3) d_M_bounds_49 (fun H locs hP hS => ?_)
        refine lv_iconst (v := 1) hx hb d_M_bounds_50 (by decide) ?_
        subst ex_7
        subst ex_8
        exact W.zret hx hb hr rfl (fun t ht hW => ⟨⟨_, (), rfl, by (try simp only [x_bounds, if_neg c_5, if_neg c_6, q_1, ite_self]); first | done | rfl | assumption | exact x_within_1 (by assumption), by dsimp only; rw [ht]; (try simp only [x_bounds, if_neg c_5, if_neg c_6, q_1, ite_self]); exact hP⟩, hS.F ht⟩) hS.2.2 d_M_bounds_51
      · skip
        refine lv_iconst (v := 0) hx hb d_M_bounds_32 (by decide) ?_
        exact W.zret hx hb hr rfl (fun t ht hW => ⟨⟨_, (), rfl, by (try simp only [x_bounds, if_neg c_5, if_pos c_6, q_1, ite_self]); first | done | rfl | assumption | exact x_within_1 (by assumption), by dsimp only; rw [ht]; (try simp only [x_bounds, if_neg c_5, if_pos c_6, q_1, ite_self]); exact hP⟩, hS.F ht⟩) hS.2.2 d_M_bounds_33
set_option maxHeartbeats 4000000 in
set_option maxRecDepth 100000 in
theorem c_M_rain (l : Launch) (g : wG) (ad : Nat → Nat) {L : Nat} (hL : 1 ≤ L ∧ L ≤ 6) (x : xS) (a1 : Int32) : CtI l y_M_rain ws_M_rain ({ frames := 1, cells := 0, slots := 0, locals := 25 }) g 14 ad (mE g ad L x) (mE g ad L (x_rain x a1).2) [.ref (ad 0), .int a1] (x_rain x a1).1 := by
  intro sz
  refine Met.ofW (cc := b_M_rain) (maxL := 2) (ret := (some .boolean)) (by decide +kernel) rfl ?_
  intro p e s m args below meth c s₁ B hml hv
  obtain ⟨rfl, hsz, hP, hK, hN, hJ⟩ := hv
  have hx := B.exec
  have hb := B.bytes
  have hr := B.returns
  have hts0 := atoms_spec (ws := ws_M_rain) B.pre
  have hts : ∀ w ∈ tb, w.before _ s = true := fun w h => hts0 w (List.mem_cons_of_mem _ h)
  have hown : s.vm.findClass "HeapStepsModel" = some m.cls := findClass_of_methodNamed B.named
  have hlocks := B.notSynchronized
  subst hsz
  have hS : va_S (wA 14 ad s.heap.size) s.heap s.heap [] := va_S.rf
  have hl := lv_entry ([.ref (ad 0), .int a1]) (n := 2) (Nat.le_of_ble_eq_true rfl)
  rw [lg_entry_eq]
  generalize (lg_sl ([.ref (ad 0), .int a1]) ++ List.replicate (2 - (lg_sl ([.ref (ad 0), .int a1])).length) Slot.unset).toArray = ls at hl ⊢
  have hl : lv_has ls 2 [(0, .ref (ad 0)), (1, .int a1)] := hl
  refine lv_aload_n hx hb d_M_rain_0 rfl (lv_at hl 0 rfl) ?_
  refine lv_iload_n hx hb d_M_rain_1 rfl (lv_at hl 1 rfl) ?_
  refine lv_i2l hx hb d_M_rain_2 rfl ?_
  refine lv_lconst (v := 0) hx hb d_M_rain_3 (by decide) ?_
  refine lv_ldc2 (v := 100000) hx hb hown (hts _ tw_442) d_M_rain_4 ?_
  refine wc_i (va_runS (As := [.long (Int32.toInt64 a1), .long 0, .long 100000]) (rest := [.ref (ad 0)]) ⟨hx, hb, hml, hown, hts⟩ (c_M_isIn l g _ ad _ (Int32.toInt64 a1) 0 100000 _) (cwS 3 hts (gd_S tw_426 tw_427 tw_28 tw_428) rfl rfl rfl (by decide +kernel) ⟨Nat.le_of_ble_eq_true rfl, Nat.le_of_ble_eq_true rfl⟩) (wp_S hK hN hP hJ) rfl rfl hl.1 rfl (lv_room (Nat.le_of_ble_eq_true rfl)) d_M_rain_7 ⟨Nat.zero_le _, Nat.zero_le _⟩) hS (fun H locs hP hS => ?_)
  rw [isIn_x (a := a1) (b := 0) (c := 100000) (by decide) (by decide)]
  refine lv_if_eq (tgt := 17) hx hb d_M_rain_10 (by decide) (fun c_1 => ?_) (fun c_1 => ?_)
  · skip
    refine lv_aload_n hx hb d_M_rain_17 rfl (lv_at hl 0 rfl) ?_
    refine wr_get hx hb hts in_M hown hK hP (0) (by omega) rfl rfl 11 (by decide) (hts _ tw_352) rfl d_M_rain_18 ?_
    refine wr_put (E' := mE g ad L x) hx hb hts in_M ty_M ty_M_ok n_M hown hK hP hJ hS (0) (by omega) rfl rfl 11 (by decide) (hts _ tw_352) rfl rfl rfl (Nat.le_of_ble_eq_true rfl) ⟨rfl, fun _ _ => rfl⟩ d_M_rain_21 (fun H locs hP hS => ?_)
    refine lv_iload_n hx hb d_M_rain_24 rfl (lv_at hl 1 rfl) ?_
    refine lv_i2l hx hb d_M_rain_25 rfl ?_
    refine lv_lconst (v := 0) hx hb d_M_rain_26 (by decide) ?_
    refine lv_ldc2 (v := 100000) hx hb hown (hts _ tw_442) d_M_rain_27 ?_
    refine wc_i (va_runS (As := [.long (Int32.toInt64 a1), .long 0, .long 100000]) (rest := []) ⟨hx, hb, hml, hown, hts⟩ (c_M_isIn l g _ ad _ (Int32.toInt64 a1) 0 100000 _) (cwS 3 hts (gd_S tw_426 tw_427 tw_28 tw_428) rfl rfl rfl (by decide +kernel) ⟨Nat.le_of_ble_eq_true rfl, Nat.le_of_ble_eq_true rfl⟩) (wp_S hK hN hP hJ) rfl rfl hl.1 rfl (lv_room (Nat.le_of_ble_eq_true rfl)) d_M_rain_30 ⟨Nat.zero_le _, Nat.zero_le _⟩) hS (fun H locs hP hS => ?_)
    rw [isIn_x (a := a1) (b := 0) (c := 100000) (by decide) (by decide)]
    exact W.zret hx hb hr (nb_within _ _ _) (fun t ht hW => ⟨⟨_, (), rfl, by (try simp only [x_rain, if_pos c_1, ite_self]); first | done | rfl | assumption | exact x_within_1 (by assumption), by dsimp only; rw [ht]; (try simp only [x_rain, if_pos c_1, ite_self]); exact hP⟩, hS.F ht⟩) hS.2.2 d_M_rain_33
  · skip
    refine lv_iload_n hx hb d_M_rain_13 rfl (lv_at hl 1 rfl) ?_
    refine lv_goto (tgt := 21) hx hb d_M_rain_14 (by decide) ?_
    obtain ⟨x_2, ex_2⟩ : ∃ z9, z9 = xI' x 0 a1 := ⟨_, rfl⟩
    refine wr_put (E' := mE g ad L x_2) hx hb hts in_M ty_M ty_M_ok n_M hown hK hP hJ hS (0) (by omega) rfl rfl 11 (by decide) (hts _ tw_352) rfl rfl rfl (Nat.le_of_ble_eq_true rfl) (by rw [ex_2]; exact mU_rain g ad L x a1) d_M_rain_21 (fun H locs hP hS => ?_)
    refine lv_iload_n hx hb d_M_rain_24 rfl (lv_at hl 1 rfl) ?_
    refine lv_i2l hx hb d_M_rain_25 rfl ?_
    refine lv_lconst (v := 0) hx hb d_M_rain_26 (by decide) ?_
    refine lv_ldc2 (v := 100000) hx hb hown (hts _ tw_442) d_M_rain_27 ?_
    refine wc_i (va_runS (As := [.long (Int32.toInt64 a1), .long 0, .long 100000]) (rest := []) ⟨hx, hb, hml, hown, hts⟩ (c_M_isIn l g _ ad _ (Int32.toInt64 a1) 0 100000 _) (cwS 3 hts (gd_S tw_426 tw_427 tw_28 tw_428) rfl rfl rfl (by decide +kernel) ⟨Nat.le_of_ble_eq_true rfl, Nat.le_of_ble_eq_true rfl⟩) (wp_S hK hN hP hJ) rfl rfl hl.1 rfl (lv_room (Nat.le_of_ble_eq_true rfl)) d_M_rain_30 ⟨Nat.zero_le _, Nat.zero_le _⟩) hS (fun H locs hP hS => ?_)
    rw [isIn_x (a := a1) (b := 0) (c := 100000) (by decide) (by decide)]
    subst ex_2
    exact W.zret hx hb hr (nb_within _ _ _) (fun t ht hW => ⟨⟨_, (), rfl, by (try simp only [x_rain, if_neg c_1, ite_self]); first | done | rfl | assumption | exact x_within_1 (by assumption), by dsimp only; rw [ht]; (try simp only [x_rain, if_neg c_1, ite_self]); exact hP⟩, hS.F ht⟩) hS.2.2 d_M_rain_33
set_option maxHeartbeats 4000000 in
set_option maxRecDepth 100000 in
theorem c_M_loss (l : Launch) (g : wG) (ad : Nat → Nat) {L : Nat} (hL : 1 ≤ L ∧ L ≤ 6) (x : xS) (a1 : Int32) : CtI l y_M_loss ws_M_loss ({ frames := 1, cells := 0, slots := 0, locals := 25 }) g 14 ad (mE g ad L x) (mE g ad L (x_loss x a1).2) [.ref (ad 0), .int a1] (x_loss x a1).1 := by
  intro sz
  refine Met.ofW (cc := b_M_loss) (maxL := 2) (ret := (some .boolean)) (by decide +kernel) rfl ?_
  intro p e s m args below meth c s₁ B hml hv
  obtain ⟨rfl, hsz, hP, hK, hN, hJ⟩ := hv
  have hx := B.exec
  have hb := B.bytes
  have hr := B.returns
  have hts0 := atoms_spec (ws := ws_M_loss) B.pre
  have hts : ∀ w ∈ tb, w.before _ s = true := fun w h => hts0 w (List.mem_cons_of_mem _ h)
  have hown : s.vm.findClass "HeapStepsModel" = some m.cls := findClass_of_methodNamed B.named
  have hlocks := B.notSynchronized
  subst hsz
  have hS : va_S (wA 14 ad s.heap.size) s.heap s.heap [] := va_S.rf
  have hl := lv_entry ([.ref (ad 0), .int a1]) (n := 2) (Nat.le_of_ble_eq_true rfl)
  rw [lg_entry_eq]
  generalize (lg_sl ([.ref (ad 0), .int a1]) ++ List.replicate (2 - (lg_sl ([.ref (ad 0), .int a1])).length) Slot.unset).toArray = ls at hl ⊢
  have hl : lv_has ls 2 [(0, .ref (ad 0)), (1, .int a1)] := hl
  refine lv_aload_n hx hb d_M_loss_0 rfl (lv_at hl 0 rfl) ?_
  refine lv_iload_n hx hb d_M_loss_1 rfl (lv_at hl 1 rfl) ?_
  refine lv_i2l hx hb d_M_loss_2 rfl ?_
  refine lv_lconst (v := 0) hx hb d_M_loss_3 (by decide) ?_
  refine lv_ldc2 (v := 1000000) hx hb hown (hts _ tw_425) d_M_loss_4 ?_
  refine wc_i (va_runS (As := [.long (Int32.toInt64 a1), .long 0, .long 1000000]) (rest := [.ref (ad 0)]) ⟨hx, hb, hml, hown, hts⟩ (c_M_isIn l g _ ad _ (Int32.toInt64 a1) 0 1000000 _) (cwS 3 hts (gd_S tw_426 tw_427 tw_28 tw_428) rfl rfl rfl (by decide +kernel) ⟨Nat.le_of_ble_eq_true rfl, Nat.le_of_ble_eq_true rfl⟩) (wp_S hK hN hP hJ) rfl rfl hl.1 rfl (lv_room (Nat.le_of_ble_eq_true rfl)) d_M_loss_7 ⟨Nat.zero_le _, Nat.zero_le _⟩) hS (fun H locs hP hS => ?_)
  rw [isIn_x (a := a1) (b := 0) (c := 1000000) (by decide) (by decide)]
  refine lv_if_eq (tgt := 17) hx hb d_M_loss_10 (by decide) (fun c_1 => ?_) (fun c_1 => ?_)
  · skip
    refine lv_aload_n hx hb d_M_loss_17 rfl (lv_at hl 0 rfl) ?_
    refine wr_get hx hb hts in_M hown hK hP (0) (by omega) rfl rfl 12 (by decide) (hts _ tw_353) rfl d_M_loss_18 ?_
    refine wr_put (E' := mE g ad L x) hx hb hts in_M ty_M ty_M_ok n_M hown hK hP hJ hS (0) (by omega) rfl rfl 12 (by decide) (hts _ tw_353) rfl rfl rfl (Nat.le_of_ble_eq_true rfl) ⟨rfl, fun _ _ => rfl⟩ d_M_loss_21 (fun H locs hP hS => ?_)
    refine lv_iload_n hx hb d_M_loss_24 rfl (lv_at hl 1 rfl) ?_
    refine lv_i2l hx hb d_M_loss_25 rfl ?_
    refine lv_lconst (v := 0) hx hb d_M_loss_26 (by decide) ?_
    refine lv_ldc2 (v := 1000000) hx hb hown (hts _ tw_425) d_M_loss_27 ?_
    refine wc_i (va_runS (As := [.long (Int32.toInt64 a1), .long 0, .long 1000000]) (rest := []) ⟨hx, hb, hml, hown, hts⟩ (c_M_isIn l g _ ad _ (Int32.toInt64 a1) 0 1000000 _) (cwS 3 hts (gd_S tw_426 tw_427 tw_28 tw_428) rfl rfl rfl (by decide +kernel) ⟨Nat.le_of_ble_eq_true rfl, Nat.le_of_ble_eq_true rfl⟩) (wp_S hK hN hP hJ) rfl rfl hl.1 rfl (lv_room (Nat.le_of_ble_eq_true rfl)) d_M_loss_30 ⟨Nat.zero_le _, Nat.zero_le _⟩) hS (fun H locs hP hS => ?_)
    rw [isIn_x (a := a1) (b := 0) (c := 1000000) (by decide) (by decide)]
    exact W.zret hx hb hr (nb_within _ _ _) (fun t ht hW => ⟨⟨_, (), rfl, by (try simp only [x_loss, if_pos c_1, ite_self]); first | done | rfl | assumption | exact x_within_1 (by assumption), by dsimp only; rw [ht]; (try simp only [x_loss, if_pos c_1, ite_self]); exact hP⟩, hS.F ht⟩) hS.2.2 d_M_loss_33
  · skip
    refine lv_iload_n hx hb d_M_loss_13 rfl (lv_at hl 1 rfl) ?_
    refine lv_goto (tgt := 21) hx hb d_M_loss_14 (by decide) ?_
    obtain ⟨x_2, ex_2⟩ : ∃ z9, z9 = xI' x 1 a1 := ⟨_, rfl⟩
    refine wr_put (E' := mE g ad L x_2) hx hb hts in_M ty_M ty_M_ok n_M hown hK hP hJ hS (0) (by omega) rfl rfl 12 (by decide) (hts _ tw_353) rfl rfl rfl (Nat.le_of_ble_eq_true rfl) (by rw [ex_2]; exact mU_loss g ad L x a1) d_M_loss_21 (fun H locs hP hS => ?_)
    refine lv_iload_n hx hb d_M_loss_24 rfl (lv_at hl 1 rfl) ?_
    refine lv_i2l hx hb d_M_loss_25 rfl ?_
    refine lv_lconst (v := 0) hx hb d_M_loss_26 (by decide) ?_
    refine lv_ldc2 (v := 1000000) hx hb hown (hts _ tw_425) d_M_loss_27 ?_
    refine wc_i (va_runS (As := [.long (Int32.toInt64 a1), .long 0, .long 1000000]) (rest := []) ⟨hx, hb, hml, hown, hts⟩ (c_M_isIn l g _ ad _ (Int32.toInt64 a1) 0 1000000 _) (cwS 3 hts (gd_S tw_426 tw_427 tw_28 tw_428) rfl rfl rfl (by decide +kernel) ⟨Nat.le_of_ble_eq_true rfl, Nat.le_of_ble_eq_true rfl⟩) (wp_S hK hN hP hJ) rfl rfl hl.1 rfl (lv_room (Nat.le_of_ble_eq_true rfl)) d_M_loss_30 ⟨Nat.zero_le _, Nat.zero_le _⟩) hS (fun H locs hP hS => ?_)
    rw [isIn_x (a := a1) (b := 0) (c := 1000000) (by decide) (by decide)]
    subst ex_2
    exact W.zret hx hb hr (nb_within _ _ _) (fun t ht hW => ⟨⟨_, (), rfl, by (try simp only [x_loss, if_neg c_1, ite_self]); first | done | rfl | assumption | exact x_within_1 (by assumption), by dsimp only; rw [ht]; (try simp only [x_loss, if_neg c_1, ite_self]); exact hP⟩, hS.F ht⟩) hS.2.2 d_M_loss_33
set_option maxHeartbeats 4000000 in
set_option maxRecDepth 100000 in
theorem c_M_limit (l : Launch) (g : wG) (ad : Nat → Nat) {L : Nat} (hL : 1 ≤ L ∧ L ≤ 6) (x : xS) (a1 : Int32) : CtI l y_M_limit ws_M_limit ({ frames := 1, cells := 0, slots := 0, locals := 25 }) g 14 ad (mE g ad L x) (mE g ad L (x_limit x a1).2) [.ref (ad 0), .int a1] (x_limit x a1).1 := by
  intro sz
  refine Met.ofW (cc := b_M_limit) (maxL := 2) (ret := (some .boolean)) (by decide +kernel) rfl ?_
  intro p e s m args below meth c s₁ B hml hv
  obtain ⟨rfl, hsz, hP, hK, hN, hJ⟩ := hv
  have hx := B.exec
  have hb := B.bytes
  have hr := B.returns
  have hts0 := atoms_spec (ws := ws_M_limit) B.pre
  have hts : ∀ w ∈ tb, w.before _ s = true := fun w h => hts0 w (List.mem_cons_of_mem _ h)
  have hown : s.vm.findClass "HeapStepsModel" = some m.cls := findClass_of_methodNamed B.named
  have hlocks := B.notSynchronized
  subst hsz
  have hS : va_S (wA 14 ad s.heap.size) s.heap s.heap [] := va_S.rf
  have hl := lv_entry ([.ref (ad 0), .int a1]) (n := 2) (Nat.le_of_ble_eq_true rfl)
  rw [lg_entry_eq]
  generalize (lg_sl ([.ref (ad 0), .int a1]) ++ List.replicate (2 - (lg_sl ([.ref (ad 0), .int a1])).length) Slot.unset).toArray = ls at hl ⊢
  have hl : lv_has ls 2 [(0, .ref (ad 0)), (1, .int a1)] := hl
  refine lv_aload_n hx hb d_M_limit_0 rfl (lv_at hl 0 rfl) ?_
  refine lv_iload_n hx hb d_M_limit_1 rfl (lv_at hl 1 rfl) ?_
  refine lv_i2l hx hb d_M_limit_2 rfl ?_
  refine lv_lconst (v := 0) hx hb d_M_limit_3 (by decide) ?_
  refine lv_ldc2 (v := 1000000000) hx hb hown (hts _ tw_340) d_M_limit_4 ?_
  refine wc_i (va_runS (As := [.long (Int32.toInt64 a1), .long 0, .long 1000000000]) (rest := [.ref (ad 0)]) ⟨hx, hb, hml, hown, hts⟩ (c_M_isIn l g _ ad _ (Int32.toInt64 a1) 0 1000000000 _) (cwS 3 hts (gd_S tw_426 tw_427 tw_28 tw_428) rfl rfl rfl (by decide +kernel) ⟨Nat.le_of_ble_eq_true rfl, Nat.le_of_ble_eq_true rfl⟩) (wp_S hK hN hP hJ) rfl rfl hl.1 rfl (lv_room (Nat.le_of_ble_eq_true rfl)) d_M_limit_7 ⟨Nat.zero_le _, Nat.zero_le _⟩) hS (fun H locs hP hS => ?_)
  rw [isIn_x (a := a1) (b := 0) (c := 1000000000) (by decide) (by decide)]
  refine lv_if_eq (tgt := 18) hx hb d_M_limit_10 (by decide) (fun c_1 => ?_) (fun c_1 => ?_)
  · skip
    refine lv_aload_n hx hb d_M_limit_18 rfl (lv_at hl 0 rfl) ?_
    refine wr_get hx hb hts in_M hown hK hP (0) (by omega) rfl rfl 19 (by decide) (hts _ tw_360) rfl d_M_limit_19 ?_
    refine wr_put (E' := mE g ad L x) hx hb hts in_M ty_M ty_M_ok n_M hown hK hP hJ hS (0) (by omega) rfl rfl 19 (by decide) (hts _ tw_360) rfl rfl rfl (Nat.le_of_ble_eq_true rfl) ⟨rfl, fun _ _ => rfl⟩ d_M_limit_22 (fun H locs hP hS => ?_)
    refine lv_iload_n hx hb d_M_limit_25 rfl (lv_at hl 1 rfl) ?_
    refine lv_i2l hx hb d_M_limit_26 rfl ?_
    refine lv_lconst (v := 0) hx hb d_M_limit_27 (by decide) ?_
    refine lv_ldc2 (v := 1000000000) hx hb hown (hts _ tw_340) d_M_limit_28 ?_
    refine wc_i (va_runS (As := [.long (Int32.toInt64 a1), .long 0, .long 1000000000]) (rest := []) ⟨hx, hb, hml, hown, hts⟩ (c_M_isIn l g _ ad _ (Int32.toInt64 a1) 0 1000000000 _) (cwS 3 hts (gd_S tw_426 tw_427 tw_28 tw_428) rfl rfl rfl (by decide +kernel) ⟨Nat.le_of_ble_eq_true rfl, Nat.le_of_ble_eq_true rfl⟩) (wp_S hK hN hP hJ) rfl rfl hl.1 rfl (lv_room (Nat.le_of_ble_eq_true rfl)) d_M_limit_31 ⟨Nat.zero_le _, Nat.zero_le _⟩) hS (fun H locs hP hS => ?_)
    rw [isIn_x (a := a1) (b := 0) (c := 1000000000) (by decide) (by decide)]
    exact W.zret hx hb hr (nb_within _ _ _) (fun t ht hW => ⟨⟨_, (), rfl, by (try simp only [x_limit, if_pos c_1, ite_self]); first | done | rfl | assumption | exact x_within_1 (by assumption), by dsimp only; rw [ht]; (try simp only [x_limit, if_pos c_1, ite_self]); exact hP⟩, hS.F ht⟩) hS.2.2 d_M_limit_34
  · skip
    refine lv_iload_n hx hb d_M_limit_13 rfl (lv_at hl 1 rfl) ?_
    refine lv_i2l hx hb d_M_limit_14 rfl ?_
    refine lv_goto (tgt := 22) hx hb d_M_limit_15 (by decide) ?_
    obtain ⟨x_2, ex_2⟩ : ∃ z9, z9 = xI' x 2 a1 := ⟨_, rfl⟩
    refine wr_put (E' := mE g ad L x_2) hx hb hts in_M ty_M ty_M_ok n_M hown hK hP hJ hS (0) (by omega) rfl rfl 19 (by decide) (hts _ tw_360) rfl rfl rfl (Nat.le_of_ble_eq_true rfl) (by rw [ex_2]; exact mU_limit g ad L x a1) d_M_limit_22 (fun H locs hP hS => ?_)
    refine lv_iload_n hx hb d_M_limit_25 rfl (lv_at hl 1 rfl) ?_
    refine lv_i2l hx hb d_M_limit_26 rfl ?_
    refine lv_lconst (v := 0) hx hb d_M_limit_27 (by decide) ?_
    refine lv_ldc2 (v := 1000000000) hx hb hown (hts _ tw_340) d_M_limit_28 ?_
    refine wc_i (va_runS (As := [.long (Int32.toInt64 a1), .long 0, .long 1000000000]) (rest := []) ⟨hx, hb, hml, hown, hts⟩ (c_M_isIn l g _ ad _ (Int32.toInt64 a1) 0 1000000000 _) (cwS 3 hts (gd_S tw_426 tw_427 tw_28 tw_428) rfl rfl rfl (by decide +kernel) ⟨Nat.le_of_ble_eq_true rfl, Nat.le_of_ble_eq_true rfl⟩) (wp_S hK hN hP hJ) rfl rfl hl.1 rfl (lv_room (Nat.le_of_ble_eq_true rfl)) d_M_limit_31 ⟨Nat.zero_le _, Nat.zero_le _⟩) hS (fun H locs hP hS => ?_)
    rw [isIn_x (a := a1) (b := 0) (c := 1000000000) (by decide) (by decide)]
    subst ex_2
    exact W.zret hx hb hr (nb_within _ _ _) (fun t ht hW => ⟨⟨_, (), rfl, by (try simp only [x_limit, if_neg c_1, ite_self]); first | done | rfl | assumption | exact x_within_1 (by assumption), by dsimp only; rw [ht]; (try simp only [x_limit, if_neg c_1, ite_self]); exact hP⟩, hS.F ht⟩) hS.2.2 d_M_limit_34
set_option maxHeartbeats 4000000 in
set_option maxRecDepth 100000 in
theorem c_M_fan (l : Launch) (g : wG) (ad : Nat → Nat) {L : Nat} (hL : 1 ≤ L ∧ L ≤ 6) (x : xS) (a1 a2 a3 : Int32) : CtI l y_M_fan ws_M_fan ({ frames := 1, cells := 0, slots := 0, locals := 25 }) g 14 ad (mE g ad L x) (mE g ad L (x_fan x a1 a2 a3).2) [.ref (ad 0), .int a1, .int a2, .int a3] (x_fan x a1 a2 a3).1 := by
  intro sz
  refine Met.ofW (cc := b_M_fan) (maxL := 4) (ret := (some .boolean)) (by decide +kernel) rfl ?_
  intro p e s m args below meth c s₁ B hml hv
  obtain ⟨rfl, hsz, hP, hK, hN, hJ⟩ := hv
  have hx := B.exec
  have hb := B.bytes
  have hr := B.returns
  have hts0 := atoms_spec (ws := ws_M_fan) B.pre
  have hts : ∀ w ∈ tb, w.before _ s = true := fun w h => hts0 w (List.mem_cons_of_mem _ h)
  have hown : s.vm.findClass "HeapStepsModel" = some m.cls := findClass_of_methodNamed B.named
  have hlocks := B.notSynchronized
  subst hsz
  have hS : va_S (wA 14 ad s.heap.size) s.heap s.heap [] := va_S.rf
  have hl := lv_entry ([.ref (ad 0), .int a1, .int a2, .int a3]) (n := 4) (Nat.le_of_ble_eq_true rfl)
  rw [lg_entry_eq]
  generalize (lg_sl ([.ref (ad 0), .int a1, .int a2, .int a3]) ++ List.replicate (4 - (lg_sl ([.ref (ad 0), .int a1, .int a2, .int a3])).length) Slot.unset).toArray = ls at hl ⊢
  have hl : lv_has ls 4 [(0, .ref (ad 0)), (1, .int a1), (2, .int a2), (3, .int a3)] := hl
  refine lv_iload_n hx hb d_M_fan_0 rfl (lv_at hl 1 rfl) ?_
  refine lv_i2l hx hb d_M_fan_1 rfl ?_
  refine lv_lconst (v := 0) hx hb d_M_fan_2 (by decide) ?_
  refine lv_ldc2 (v := 1000000) hx hb hown (hts _ tw_425) d_M_fan_3 ?_
  refine wc_i (va_runS (As := [.long (Int32.toInt64 a1), .long 0, .long 1000000]) (rest := []) ⟨hx, hb, hml, hown, hts⟩ (c_M_isIn l g _ ad _ (Int32.toInt64 a1) 0 1000000 _) (cwS 3 hts (gd_S tw_426 tw_427 tw_28 tw_428) rfl rfl rfl (by decide +kernel) ⟨Nat.le_of_ble_eq_true rfl, Nat.le_of_ble_eq_true rfl⟩) (wp_S hK hN hP hJ) rfl rfl hl.1 rfl (lv_room (Nat.le_of_ble_eq_true rfl)) d_M_fan_6 ⟨Nat.zero_le _, Nat.zero_le _⟩) hS (fun H locs hP hS => ?_)
  rw [isIn_x (a := a1) (b := 0) (c := 1000000) (by decide) (by decide)]
  refine lv_if_eq (tgt := 40) hx hb d_M_fan_9 (by decide) (fun c_1 => ?_) (fun c_1 => ?_)
  · skip
    refine lv_iconst (v := 0) hx hb d_M_fan_40 (by decide) ?_
    exact W.zret hx hb hr rfl (fun t ht hW => ⟨⟨_, (), rfl, by (try simp only [x_fan, x_tell, if_pos c_1, ite_self]); first | done | rfl | assumption | exact x_within_1 (by assumption), by dsimp only; rw [ht]; (try simp only [x_fan, x_tell, if_pos c_1, ite_self]); exact hP⟩, hS.F ht⟩) hS.2.2 d_M_fan_41
  · skip
    refine lv_iload_n hx hb d_M_fan_12 rfl (lv_at hl 2 rfl) ?_
    refine lv_i2l hx hb d_M_fan_13 rfl ?_
    refine lv_ldc2 (v := -1000) hx hb hown (hts _ tw_464) d_M_fan_14 ?_
    refine lv_ldc2 (v := 1000) hx hb hown (hts _ tw_447) d_M_fan_17 ?_
    refine wc_i (va_runS (As := [.long (Int32.toInt64 a2), .long (-1000), .long 1000]) (rest := []) ⟨hx, hb, hml, hown, hts⟩ (c_M_isIn l g _ ad _ (Int32.toInt64 a2) (-1000) 1000 _) (cwS 3 hts (gd_S tw_426 tw_427 tw_28 tw_428) rfl rfl rfl (by decide +kernel) ⟨Nat.le_of_ble_eq_true rfl, Nat.le_of_ble_eq_true rfl⟩) (wp_S hK hN hP hJ) rfl rfl hl.1 rfl (lv_room (Nat.le_of_ble_eq_true rfl)) d_M_fan_20 ⟨Nat.zero_le _, Nat.zero_le _⟩) hS (fun H locs hP hS => ?_)
    rw [isIn_x (a := a2) (b := -1000) (c := 1000) (by decide) (by decide)]
    refine lv_if_eq (tgt := 40) hx hb d_M_fan_23 (by decide) (fun c_2 => ?_) (fun c_2 => ?_)
    · skip
      refine lv_iconst (v := 0) hx hb d_M_fan_40 (by decide) ?_
      exact W.zret hx hb hr rfl (fun t ht hW => ⟨⟨_, (), rfl, by (try simp only [x_fan, x_tell, if_neg c_1, if_pos c_2, ite_self]); first | done | rfl | assumption | exact x_within_1 (by assumption), by dsimp only; rw [ht]; (try simp only [x_fan, x_tell, if_neg c_1, if_pos c_2, ite_self]); exact hP⟩, hS.F ht⟩) hS.2.2 d_M_fan_41
    · skip
      refine lv_iload_n hx hb d_M_fan_26 rfl (lv_at hl 3 rfl) ?_
      refine lv_i2l hx hb d_M_fan_27 rfl ?_
      refine lv_ldc2 (v := -1000) hx hb hown (hts _ tw_464) d_M_fan_28 ?_
      refine lv_ldc2 (v := 1000) hx hb hown (hts _ tw_447) d_M_fan_31 ?_
      refine wc_i (va_runS (As := [.long (Int32.toInt64 a3), .long (-1000), .long 1000]) (rest := []) ⟨hx, hb, hml, hown, hts⟩ (c_M_isIn l g _ ad _ (Int32.toInt64 a3) (-1000) 1000 _) (cwS 3 hts (gd_S tw_426 tw_427 tw_28 tw_428) rfl rfl rfl (by decide +kernel) ⟨Nat.le_of_ble_eq_true rfl, Nat.le_of_ble_eq_true rfl⟩) (wp_S hK hN hP hJ) rfl rfl hl.1 rfl (lv_room (Nat.le_of_ble_eq_true rfl)) d_M_fan_34 ⟨Nat.zero_le _, Nat.zero_le _⟩) hS (fun H locs hP hS => ?_)
      rw [isIn_x (a := a3) (b := -1000) (c := 1000) (by decide) (by decide)]
      refine lv_if_ne (tgt := 42) hx hb d_M_fan_37 (by decide) (fun c_3 => ?_) (fun c_3 => ?_)
      · skip
        refine lv_aload_n hx hb d_M_fan_42 rfl (lv_at hl 0 rfl) ?_
        refine lv_iconst (v := 1) hx hb d_M_fan_43 (by decide) ?_
        obtain ⟨x_4, ex_4⟩ : ∃ z9, z9 = xI' x 4 1 := ⟨_, rfl⟩
        refine wr_put (E' := mE g ad L x_4) hx hb hts in_M ty_M ty_M_ok n_M hown hK hP hJ hS (0) (by omega) rfl rfl 13 (by decide) (hts _ tw_354) rfl rfl rfl (Nat.le_of_ble_eq_true rfl) (by rw [ex_4]; exact mU_hasFan g ad L x 1) d_M_fan_44 (fun H locs hP hS => ?_)
        refine lv_aload_n hx hb d_M_fan_47 rfl (lv_at hl 0 rfl) ?_
        refine lv_iload_n hx hb d_M_fan_48 rfl (lv_at hl 1 rfl) ?_
        obtain ⟨x_5, ex_5⟩ : ∃ z9, z9 = xI' x_4 5 a1 := ⟨_, rfl⟩
        refine wr_put (E' := mE g ad L x_5) hx hb hts in_M ty_M ty_M_ok n_M hown hK hP hJ hS (0) (by omega) rfl rfl 14 (by decide) (hts _ tw_355) rfl rfl rfl (Nat.le_of_ble_eq_true rfl) (by rw [ex_5]; exact mU_target g ad L x_4 a1) d_M_fan_49 (fun H locs hP hS => ?_)
        refine lv_aload_n hx hb d_M_fan_52 rfl (lv_at hl 0 rfl) ?_
        refine lv_iload_n hx hb d_M_fan_53 rfl (lv_at hl 2 rfl) ?_
        obtain ⟨x_6, ex_6⟩ : ∃ z9, z9 = xI' x_5 6 a2 := ⟨_, rfl⟩
        refine wr_put (E' := mE g ad L x_6) hx hb hts in_M ty_M ty_M_ok n_M hown hK hP hJ hS (0) (by omega) rfl rfl 15 (by decide) (hts _ tw_356) rfl rfl rfl (Nat.le_of_ble_eq_true rfl) (by rw [ex_6]; exact mU_byNow g ad L x_5 a2) d_M_fan_54 (fun H locs hP hS => ?_)
        refine lv_aload_n hx hb d_M_fan_57 rfl (lv_at hl 0 rfl) ?_
        refine lv_iload_n hx hb d_M_fan_58 rfl (lv_at hl 3 rfl) ?_
        obtain ⟨x_7, ex_7⟩ : ∃ z9, z9 = xI' x_6 7 a3 := ⟨_, rfl⟩
        refine wr_put (E' := mE g ad L x_7) hx hb hts in_M ty_M ty_M_ok n_M hown hK hP hJ hS (0) (by omega) rfl rfl 16 (by decide) (hts _ tw_357) rfl rfl rfl (Nat.le_of_ble_eq_true rfl) (by rw [ex_7]; exact mU_bySum g ad L x_6 a3) d_M_fan_59 (fun H locs hP hS => ?_)
        refine lv_aload_n hx hb d_M_fan_62 rfl (lv_at hl 0 rfl) ?_
        refine lv_lconst (v := 0) hx hb d_M_fan_63 (by decide) ?_
        obtain ⟨x_8, ex_8⟩ : ∃ z9, z9 = xF' x_7 0 := ⟨_, rfl⟩
        refine wr_put (E' := mE g ad L x_8) hx hb hts in_M ty_M ty_M_ok n_M hown hK hP hJ hS (0) (by omega) rfl rfl 17 (by decide) (hts _ tw_358) rfl rfl rfl (Nat.le_of_ble_eq_true rfl) (by rw [ex_8]; exact mU_sum g ad L x_7 0) d_M_fan_64 (fun H locs hP hS => ?_)
        refine lv_iconst (v := 1) hx hb d_M_fan_67 (by decide) ?_
        subst ex_4
        subst ex_5
        subst ex_6
        subst ex_7
        subst ex_8
        exact W.zret hx hb hr rfl (fun t ht hW => ⟨⟨_, (), rfl, by (try simp only [x_fan, x_tell, if_neg c_1, if_neg c_2, if_neg c_3, ite_self]); first | done | rfl | assumption | exact x_within_1 (by assumption), by dsimp only; rw [ht]; (try simp only [x_fan, x_tell, if_neg c_1, if_neg c_2, if_neg c_3, ite_self]); exact hP⟩, hS.F ht⟩) hS.2.2 d_M_fan_68
      · skip
        refine lv_iconst (v := 0) hx hb d_M_fan_40 (by decide) ?_
        exact W.zret hx hb hr rfl (fun t ht hW => ⟨⟨_, (), rfl, by (try simp only [x_fan, x_tell, if_neg c_1, if_neg c_2, if_pos c_3, ite_self]); first | done | rfl | assumption | exact x_within_1 (by assumption), by dsimp only; rw [ht]; (try simp only [x_fan, x_tell, if_neg c_1, if_neg c_2, if_pos c_3, ite_self]); exact hP⟩, hS.F ht⟩) hS.2.2 d_M_fan_41
