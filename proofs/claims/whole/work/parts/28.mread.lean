set_option maxHeartbeats 4000000 in
set_option maxRecDepth 100000 in
theorem c_M_run (l : Launch) (g : wG) (ad : Nat → Nat) {L : Nat} (hL : 1 ≤ L ∧ L ≤ 6) (x : xS) (hrow : x_rows x) (a1 : Int32) : CtI l y_M_run ws_M_run ({ frames := 5, cells := 0, slots := 0, locals := 117 }) g 14 ad (mE g ad L x) (mE g ad L (m_run L x a1).2) [.ref (ad 0), .int a1] (m_run L x a1).1 := by
  intro sz
  refine Met.ofW (cc := b_M_run) (maxL := 3) (ret := (some .int)) (by decide +kernel) rfl ?_
  intro p e s m args below meth c s₁ B hml hv
  obtain ⟨rfl, hsz, hP, hK, hN, hJ⟩ := hv
  have hx := B.exec
  have hb := B.bytes
  have hr := B.returns
  have hts0 := atoms_spec (ws := ws_M_run) B.pre
  have hts : ∀ w ∈ tb, w.before _ s = true := fun w h => hts0 w (List.mem_cons_of_mem _ h)
  have hown : s.vm.findClass "HeapStepsModel" = some m.cls := findClass_of_methodNamed B.named
  have hlocks := B.notSynchronized
  subst hsz
  have hS : va_S (wA 14 ad s.heap.size) s.heap s.heap [] := va_S.rf
  have hl := lv_entry ([.ref (ad 0), .int a1]) (n := 3) (Nat.le_of_ble_eq_true rfl)
  rw [lg_entry_eq]
  generalize (lg_sl ([.ref (ad 0), .int a1]) ++ List.replicate (3 - (lg_sl ([.ref (ad 0), .int a1])).length) Slot.unset).toArray = ls at hl ⊢
  have hl : lv_has ls 3 [(0, .ref (ad 0)), (1, .int a1)] := hl
  refine lv_iload_n hx hb d_M_run_0 rfl (lv_at hl 1 rfl) ?_
  refine lv_i2l hx hb d_M_run_1 rfl ?_
  refine lv_lconst (v := 1) hx hb d_M_run_2 (by decide) ?_
  refine lv_ldc2 (v := 1000) hx hb hown (hts _ tw_447) d_M_run_3 ?_
  refine wc_i (va_runS (As := [.long (Int32.toInt64 a1), .long 1, .long 1000]) (rest := []) ⟨hx, hb, hml, hown, hts⟩ (c_M_isIn l g _ ad _ (Int32.toInt64 a1) 1 1000 _) (cwS 3 hts (gd_S tw_426 tw_427 tw_28 tw_428) rfl rfl rfl (by decide +kernel) ⟨Nat.le_of_ble_eq_true rfl, Nat.le_of_ble_eq_true rfl⟩) (wp_S hK hN hP hJ) rfl rfl hl.1 rfl (lv_room (Nat.le_of_ble_eq_true rfl)) d_M_run_6 ⟨Nat.zero_le _, Nat.zero_le _⟩) hS (fun H locs hP hS => ?_)
  rw [isIn_x (a := a1) (b := 1) (c := 1000) (by decide) (by decide)]
  refine lv_if_eq (tgt := 29) hx hb d_M_run_9 (by decide) (fun c_1 => ?_) (fun c_1 => ?_)
  · skip
    refine lv_iconst (v := -1) hx hb d_M_run_29 (by decide) ?_
    exact W.iret hx hb hr (fun t ht hW => ⟨⟨_, (), rfl, by (try simp only [m_run, if_pos c_1, ite_self]); first | done | rfl | assumption | exact x_within_1 (by assumption), by dsimp only; rw [ht]; (try simp only [m_run, if_pos c_1, ite_self]); exact hP⟩, hS.F ht⟩) hS.2.2 d_M_run_30
  · skip
    obtain ⟨kn, hkn, hk1, rfl⟩ := x_within_run c_1
    refine lv_aload_n hx hb d_M_run_12 rfl (lv_at hl 0 rfl) ?_
    refine wr_get hx hb hts in_M hown hK hP (0) (by omega) rfl rfl 21 (by decide) (hts _ tw_362) rfl d_M_run_13 ?_
    refine lv_bipush (v := 8) hx hb d_M_run_16 (by decide) ?_
    refine wr_laldv (v := xO x 0 8) hx hb hK hP (11) 0 (by omega) rfl rfl 8 (by decide) (by omega) (by omega) rfl d_M_run_18 ?_
    refine lv_iload_n hx hb d_M_run_19 rfl (lv_at hl 1 rfl) ?_
    refine lv_i2l hx hb d_M_run_20 rfl ?_
    refine lv_ladd hx hb d_M_run_21 ?_
    refine lv_ldc2 (v := 20000) hx hb hown (hts _ tw_473) d_M_run_22 ?_
    refine W.lcmp hx hb d_M_run_25 ?_
    refine lv_if_le (tgt := 31) hx hb d_M_run_26 (by decide) (fun c_2 => ?_) (fun c_2 => ?_)
    · skip
      refine lv_iconst (v := 0) hx hb d_M_run_31 (by decide) ?_
      refine lv_istore_n (lv' := [(2, .int 0), (0, .ref (ad 0)), (1, .int (nI kn))]) hx hb d_M_run_32 rfl hl (by decide) rfl (fun ls hl => ?_)
      refine wl_loop (pc := 33) (fun fu H locs ls => ∃ (r : Nat) (z : xS), r + fu = kn ∧ x_rows z ∧ m_goN L kn x = ((m_goN L fu z).1 + r, (m_goN L fu z).2) ∧ va_P g.1 vwCl (wo 14 ad (mE g ad L z)) H ∧ va_S (wA 14 ad s.heap.size) s.heap H locs ∧ lv_has ls 3 [(2, .int (nI r)), (1, .int (nI kn)), (0, .ref (ad 0))]) ?_ ?_ kn _ _ _ ⟨0, x, by omega, hrow, rfl, hP, hS, lv_sub hl [0, 2, 1] rfl⟩
      · intro H locs ls hI
        obtain ⟨r, z, hr1, hrow, hgo, hP, hS, hl⟩ := hI
        refine lv_iload_n hx hb d_M_run_33 rfl (lv_at hl 0 rfl) ?_
        refine lv_iload_n hx hb d_M_run_34 rfl (lv_at hl 1 rfl) ?_
        refine lv_icmp_ge (tgt := 60) hx hb d_M_run_35 (by decide) (fun c_3 => ?_) (fun c_3 => absurd (nI_le (by omega) (by omega)) c_3)
        refine lv_iload_n hx hb d_M_run_60 rfl (lv_at hl 0 rfl) ?_
        exact W.iret hx hb hr (fun t ht hW => ⟨⟨_, (), rfl, by (simp only [m_run, if_neg c_1, if_pos c_2, hgo, m_goN, nI_clamp (show kn < 2 ^ 31 by omega), Nat.zero_add]); first | done | rfl | assumption | exact x_within_1 (by assumption), by dsimp only; rw [ht]; (simp only [m_run, if_neg c_1, if_pos c_2, hgo, m_goN, nI_clamp (show kn < 2 ^ 31 by omega), Nat.zero_add]); exact hP⟩, hS.F ht⟩) hS.2.2 d_M_run_61
      · intro fu ih H locs ls hI
        obtain ⟨r, z, hr1, hrow, hgo, hP, hS, hl⟩ := hI
        have hi_r : r < kn := by omega
        refine lv_iload_n hx hb d_M_run_33 rfl (lv_at hl 0 rfl) ?_
        refine lv_iload_n hx hb d_M_run_34 rfl (lv_at hl 1 rfl) ?_
        refine lv_icmp_ge (tgt := 60) hx hb d_M_run_35 (by decide) (fun c_4 => absurd c_4 (nI_ge hi_r (by omega))) (fun c_4 => ?_)
        refine lv_aload_n hx hb d_M_run_38 rfl (lv_at hl 2 rfl) ?_
        refine wc_l (va_runV (As := []) (rest := []) ⟨hx, hb, hml, hown, hts⟩ (c_M_warmest l g ad hL z _) (cwV 0 hts (gd_V tw_474 tw_476 tw_13 tw_28 tw_477) rfl rfl rfl (by decide +kernel) ⟨Nat.le_of_ble_eq_true rfl, Nat.le_of_ble_eq_true rfl⟩) (wp_V hK hN hP hJ (0) (by omega) rfl rfl) rfl rfl hl.1 rfl (lv_room (Nat.le_of_ble_eq_true rfl)) d_M_run_39 ⟨Nat.zero_le _, Nat.zero_le _⟩) hS (fun H locs hP hS => ?_)
        refine lv_aload_n hx hb d_M_run_42 rfl (lv_at hl 2 rfl) ?_
        refine wr_get hx hb hts in_M hown hK hP (0) (by omega) rfl rfl 19 (by decide) (hts _ tw_360) rfl d_M_run_43 ?_
        refine W.lcmp hx hb d_M_run_46 ?_
        refine lv_if_gt (tgt := 60) hx hb d_M_run_47 (by decide) (fun c_5 => ?_) (fun c_5 => ?_)
        · skip
          refine lv_iload_n hx hb d_M_run_60 rfl (lv_at hl 0 rfl) ?_
          exact W.iret hx hb hr (fun t ht hW => ⟨⟨_, (), rfl, by (simp only [m_run, if_neg c_1, if_pos c_2, if_pos c_5, hgo, m_goN, nI_clamp (show kn < 2 ^ 31 by omega), Nat.zero_add]); first | done | rfl | assumption | exact x_within_1 (by assumption), by dsimp only; rw [ht]; (simp only [m_run, if_neg c_1, if_pos c_2, if_pos c_5, hgo, m_goN, nI_clamp (show kn < 2 ^ 31 by omega), Nat.zero_add]); exact hP⟩, hS.F ht⟩) hS.2.2 d_M_run_61
        · skip
          refine lv_aload_n hx hb d_M_run_50 rfl (lv_at hl 2 rfl) ?_
          refine wc_v (va_runV (As := []) (rest := []) ⟨hx, hb, hml, hown, hts⟩ (c_M_minute l g ad hL z hrow _) (cwV 0 hts (gd_V tw_486 tw_488 tw_16 tw_28 tw_489) rfl rfl rfl (by decide +kernel) ⟨Nat.le_of_ble_eq_true rfl, Nat.le_of_ble_eq_true rfl⟩) (wp_V hK hN hP hJ (0) (by omega) rfl rfl) rfl rfl hl.1 rfl (lv_room (Nat.le_of_ble_eq_true rfl)) d_M_run_51 ⟨Nat.zero_le _, Nat.zero_le _⟩) hS (fun H locs hP hS => ?_)
          obtain ⟨x_6, ex_6⟩ : ∃ z9, z9 = m_minute L z := ⟨_, rfl⟩
          rw [← ex_6] at hP
          refine lv_iinc (v := nI (r + 1)) (lv' := [(2, .int (nI (r + 1))), (1, .int (nI kn)), (0, .ref (ad 0))]) hx hb d_M_run_54 hl (k := 0) rfl (nI_1 r) (by decide) rfl (fun ls hl => ?_)
          refine lv_goto (tgt := 33) hx hb d_M_run_57 (by decide) ?_
          subst ex_6
          exact ih _ _ _ ⟨r + 1, m_minute L z, by omega, x_rows_mminute hrow L, by rw [hgo]; exact m_goN_step c_5, hP, hS, lv_sub hl [0, 1, 2] rfl⟩
    · skip
      refine lv_iconst (v := -1) hx hb d_M_run_29 (by decide) ?_
      exact W.iret hx hb hr (fun t ht hW => ⟨⟨_, (), rfl, by (try simp only [m_run, if_neg c_1, if_neg c_2, nI_clamp (show kn < 2 ^ 31 by omega), ite_self]); first | done | rfl | assumption | exact x_within_1 (by assumption), by dsimp only; rw [ht]; (try simp only [m_run, if_neg c_1, if_neg c_2, nI_clamp (show kn < 2 ^ 31 by omega), ite_self]); exact hP⟩, hS.F ht⟩) hS.2.2 d_M_run_30
set_option maxHeartbeats 4000000 in
set_option maxRecDepth 100000 in
theorem c_M_left (l : Launch) (g : wG) (ad : Nat → Nat) {L : Nat} (hL : 1 ≤ L ∧ L ≤ 6) (x : xS) (a1 a2 : Int32) : CtL l y_M_left ws_M_left ({ frames := 1, cells := 0, slots := 0, locals := 21 }) g 14 ad (mE g ad L x) (mE g ad L x) [.ref (ad 0), .int a1, .int a2] (x_left L x a1 a2) := by
  intro sz
  refine Met.ofW (cc := b_M_left) (maxL := 3) (ret := (some .long)) (by decide +kernel) rfl ?_
  intro p e s m args below meth c s₁ B hml hv
  obtain ⟨rfl, hsz, hP, hK, hN, hJ⟩ := hv
  have hx := B.exec
  have hb := B.bytes
  have hr := B.returns
  have hts0 := atoms_spec (ws := ws_M_left) B.pre
  have hts : ∀ w ∈ tb, w.before _ s = true := fun w h => hts0 w (List.mem_cons_of_mem _ h)
  have hown : s.vm.findClass "HeapStepsModel" = some m.cls := findClass_of_methodNamed B.named
  have hlocks := B.notSynchronized
  subst hsz
  have hS : va_S (wA 14 ad s.heap.size) s.heap s.heap [] := va_S.rf
  have hl := lv_entry ([.ref (ad 0), .int a1, .int a2]) (n := 3) (Nat.le_of_ble_eq_true rfl)
  rw [lg_entry_eq]
  generalize (lg_sl ([.ref (ad 0), .int a1, .int a2]) ++ List.replicate (3 - (lg_sl ([.ref (ad 0), .int a1, .int a2])).length) Slot.unset).toArray = ls at hl ⊢
  have hl : lv_has ls 3 [(0, .ref (ad 0)), (1, .int a1), (2, .int a2)] := hl
  refine lv_aload_n hx hb d_M_left_0 rfl (lv_at hl 0 rfl) ?_
  refine lv_iload_n hx hb d_M_left_1 rfl (lv_at hl 1 rfl) ?_
  refine wc_i (va_runV (As := [.int a1]) (rest := []) ⟨hx, hb, hml, hown, hts⟩ (c_M_isLayer l g ad hL x a1 _) (cwV 1 hts (gd_V tw_418 tw_420 tw_12 tw_28 tw_421) rfl rfl rfl (by decide +kernel) ⟨Nat.le_of_ble_eq_true rfl, Nat.le_of_ble_eq_true rfl⟩) (wp_V hK hN hP hJ (0) (by omega) rfl rfl) rfl rfl hl.1 rfl (lv_room (Nat.le_of_ble_eq_true rfl)) d_M_left_2 ⟨Nat.zero_le _, Nat.zero_le _⟩) hS (fun H locs hP hS => ?_)
  rcases x_la_cases hL a1 with q_1 | ⟨i_2, hi_2, rfl, q_1⟩
  · rw [isLayer_none hL q_1]
    refine lv_if_eq (tgt := 28) hx hb d_M_left_5 (by decide) (fun c_3 => ?_) (fun c_3 => absurd (by decide) c_3)
    refine lv_ldc2 (v := -1) hx hb hown (hts _ tw_518) d_M_left_28 ?_
    exact W.lret hx hb hr (fun t ht hW => ⟨⟨_, (), rfl, by (try simp only [x_left, q_1, ite_self]); first | done | rfl | assumption | exact x_within_1 (by assumption), by dsimp only; rw [ht]; (try simp only [x_left, q_1, ite_self]); exact hP⟩, hS.F ht⟩) hS.2.2 d_M_left_31
  · rw [isLayer_some hL hi_2]
    refine lv_if_eq (tgt := 28) hx hb d_M_left_5 (by decide) (fun c_4 => absurd c_4 (by decide)) (fun c_4 => ?_)
    refine lv_iload_n hx hb d_M_left_8 rfl (lv_at hl 2 rfl) ?_
    refine wc_i (va_runS (As := [.int a2]) (rest := []) ⟨hx, hb, hml, hown, hts⟩ (c_M_isPart l g _ ad _ a2 _) (cwS 1 hts (gd_S tw_422 tw_423 tw_28 tw_424) rfl rfl rfl (by decide +kernel) ⟨Nat.le_of_ble_eq_true rfl, Nat.le_of_ble_eq_true rfl⟩) (wp_S hK hN hP hJ) rfl rfl hl.1 rfl (lv_room (Nat.le_of_ble_eq_true rfl)) d_M_left_9 ⟨Nat.zero_le _, Nat.zero_le _⟩) hS (fun H locs hP hS => ?_)
    rw [isPart_x a2]
    refine lv_if_eq (tgt := 28) hx hb d_M_left_12 (by decide) (fun c_5 => ?_) (fun c_5 => ?_)
    · skip
      refine lv_ldc2 (v := -1) hx hb hown (hts _ tw_518) d_M_left_28 ?_
      exact W.lret hx hb hr (fun t ht hW => ⟨⟨_, (), rfl, by (try simp only [x_left, if_pos c_5, q_1, ite_self]); first | done | rfl | assumption | exact x_within_1 (by assumption), by dsimp only; rw [ht]; (try simp only [x_left, if_pos c_5, q_1, ite_self]); exact hP⟩, hS.F ht⟩) hS.2.2 d_M_left_31
    · skip
      obtain ⟨k, hk, rfl⟩ := x_within_nat (n := 2) (by decide) c_5
      refine lv_aload_n hx hb d_M_left_15 rfl (lv_at hl 0 rfl) ?_
      refine wr_get hx hb hts in_M hown hK hP (0) (by omega) rfl rfl 1 (by decide) (hts _ tw_342) rfl d_M_left_16 ?_
      refine lv_iconst (v := 3) hx hb d_M_left_19 (by decide) ?_
      refine lv_iload_n hx hb d_M_left_20 rfl (lv_at hl 1 rfl) ?_
      refine lv_imul hx hb d_M_left_21 ?_
      refine lv_iload_n hx hb d_M_left_22 rfl (lv_at hl 2 rfl) ?_
      refine lv_iadd hx hb d_M_left_23 ?_
      refine wr_laldv (v := xT x i_2 k) hx hb hK hP (1) 0 (by omega) rfl rfl (3 * i_2 + k) (mI3 i_2 k) (by omega) (by omega) (mPA x i_2 k (by omega)) d_M_left_24 ?_
      refine lv_goto (tgt := 31) hx hb d_M_left_25 (by decide) ?_
      exact W.lret hx hb hr (fun t ht hW => ⟨⟨_, (), rfl, by (try simp only [x_left, if_neg c_5, q_1, nI_clamp (show k < 2 ^ 31 by omega), ite_self]); first | done | rfl | assumption | exact x_within_1 (by assumption), by dsimp only; rw [ht]; (try simp only [x_left, if_neg c_5, q_1, nI_clamp (show k < 2 ^ 31 by omega), ite_self]); exact hP⟩, hS.F ht⟩) hS.2.2 d_M_left_31
set_option maxHeartbeats 4000000 in
set_option maxRecDepth 100000 in
theorem c_M_wet (l : Launch) (g : wG) (ad : Nat → Nat) {L : Nat} (hL : 1 ≤ L ∧ L ≤ 6) (x : xS) (a1 : Int32) : CtL l y_M_wet ws_M_wet ({ frames := 1, cells := 0, slots := 0, locals := 21 }) g 14 ad (mE g ad L x) (mE g ad L x) [.ref (ad 0), .int a1] (x_wet L x a1) := by
  intro sz
  refine Met.ofW (cc := b_M_wet) (maxL := 2) (ret := (some .long)) (by decide +kernel) rfl ?_
  intro p e s m args below meth c s₁ B hml hv
  obtain ⟨rfl, hsz, hP, hK, hN, hJ⟩ := hv
  have hx := B.exec
  have hb := B.bytes
  have hr := B.returns
  have hts0 := atoms_spec (ws := ws_M_wet) B.pre
  have hts : ∀ w ∈ tb, w.before _ s = true := fun w h => hts0 w (List.mem_cons_of_mem _ h)
  have hown : s.vm.findClass "HeapStepsModel" = some m.cls := findClass_of_methodNamed B.named
  have hlocks := B.notSynchronized
  subst hsz
  have hS : va_S (wA 14 ad s.heap.size) s.heap s.heap [] := va_S.rf
  have hl := lv_entry ([.ref (ad 0), .int a1]) (n := 2) (Nat.le_of_ble_eq_true rfl)
  rw [lg_entry_eq]
  generalize (lg_sl ([.ref (ad 0), .int a1]) ++ List.replicate (2 - (lg_sl ([.ref (ad 0), .int a1])).length) Slot.unset).toArray = ls at hl ⊢
  have hl : lv_has ls 2 [(0, .ref (ad 0)), (1, .int a1)] := hl
  refine lv_aload_n hx hb d_M_wet_0 rfl (lv_at hl 0 rfl) ?_
  refine lv_iload_n hx hb d_M_wet_1 rfl (lv_at hl 1 rfl) ?_
  refine wc_i (va_runV (As := [.int a1]) (rest := []) ⟨hx, hb, hml, hown, hts⟩ (c_M_isLayer l g ad hL x a1 _) (cwV 1 hts (gd_V tw_418 tw_420 tw_12 tw_28 tw_421) rfl rfl rfl (by decide +kernel) ⟨Nat.le_of_ble_eq_true rfl, Nat.le_of_ble_eq_true rfl⟩) (wp_V hK hN hP hJ (0) (by omega) rfl rfl) rfl rfl hl.1 rfl (lv_room (Nat.le_of_ble_eq_true rfl)) d_M_wet_2 ⟨Nat.zero_le _, Nat.zero_le _⟩) hS (fun H locs hP hS => ?_)
  rcases x_la_cases hL a1 with q_1 | ⟨i_2, hi_2, rfl, q_1⟩
  · rw [isLayer_none hL q_1]
    refine lv_if_eq (tgt := 17) hx hb d_M_wet_5 (by decide) (fun c_3 => ?_) (fun c_3 => absurd (by decide) c_3)
    refine lv_ldc2 (v := -1) hx hb hown (hts _ tw_518) d_M_wet_17 ?_
    exact W.lret hx hb hr (fun t ht hW => ⟨⟨_, (), rfl, by (try simp only [x_wet, q_1, ite_self]); first | done | rfl | assumption | exact x_within_1 (by assumption), by dsimp only; rw [ht]; (try simp only [x_wet, q_1, ite_self]); exact hP⟩, hS.F ht⟩) hS.2.2 d_M_wet_20
  · rw [isLayer_some hL hi_2]
    refine lv_if_eq (tgt := 17) hx hb d_M_wet_5 (by decide) (fun c_4 => absurd c_4 (by decide)) (fun c_4 => ?_)
    refine lv_aload_n hx hb d_M_wet_8 rfl (lv_at hl 0 rfl) ?_
    refine wr_get hx hb hts in_M hown hK hP (0) (by omega) rfl rfl 2 (by decide) (hts _ tw_343) rfl d_M_wet_9 ?_
    refine lv_iload_n hx hb d_M_wet_12 rfl (lv_at hl 1 rfl) ?_
    refine wr_laldv (v := xT x i_2 3) hx hb hK hP (2) 0 (by omega) rfl rfl i_2 rfl (by omega) (by omega) rfl d_M_wet_13 ?_
    refine lv_goto (tgt := 20) hx hb d_M_wet_14 (by decide) ?_
    exact W.lret hx hb hr (fun t ht hW => ⟨⟨_, (), rfl, by (try simp only [x_wet, q_1, ite_self]); first | done | rfl | assumption | exact x_within_1 (by assumption), by dsimp only; rw [ht]; (try simp only [x_wet, q_1, ite_self]); exact hP⟩, hS.F ht⟩) hS.2.2 d_M_wet_20
set_option maxHeartbeats 4000000 in
set_option maxRecDepth 100000 in
theorem c_M_warmth (l : Launch) (g : wG) (ad : Nat → Nat) {L : Nat} (hL : 1 ≤ L ∧ L ≤ 6) (x : xS) (a1 : Int32) : CtL l y_M_warmth ws_M_warmth ({ frames := 2, cells := 0, slots := 0, locals := 45 }) g 14 ad (mE g ad L x) (mE g ad L x) [.ref (ad 0), .int a1] (m_warmth L x a1) := by
  intro sz
  refine Met.ofW (cc := b_M_warmth) (maxL := 2) (ret := (some .long)) (by decide +kernel) rfl ?_
  intro p e s m args below meth c s₁ B hml hv
  obtain ⟨rfl, hsz, hP, hK, hN, hJ⟩ := hv
  have hx := B.exec
  have hb := B.bytes
  have hr := B.returns
  have hts0 := atoms_spec (ws := ws_M_warmth) B.pre
  have hts : ∀ w ∈ tb, w.before _ s = true := fun w h => hts0 w (List.mem_cons_of_mem _ h)
  have hown : s.vm.findClass "HeapStepsModel" = some m.cls := findClass_of_methodNamed B.named
  have hlocks := B.notSynchronized
  subst hsz
  have hS : va_S (wA 14 ad s.heap.size) s.heap s.heap [] := va_S.rf
  have hl := lv_entry ([.ref (ad 0), .int a1]) (n := 2) (Nat.le_of_ble_eq_true rfl)
  rw [lg_entry_eq]
  generalize (lg_sl ([.ref (ad 0), .int a1]) ++ List.replicate (2 - (lg_sl ([.ref (ad 0), .int a1])).length) Slot.unset).toArray = ls at hl ⊢
  have hl : lv_has ls 2 [(0, .ref (ad 0)), (1, .int a1)] := hl
  refine lv_aload_n hx hb d_M_warmth_0 rfl (lv_at hl 0 rfl) ?_
  refine lv_iload_n hx hb d_M_warmth_1 rfl (lv_at hl 1 rfl) ?_
  refine wc_i (va_runV (As := [.int a1]) (rest := []) ⟨hx, hb, hml, hown, hts⟩ (c_M_isLayer l g ad hL x a1 _) (cwV 1 hts (gd_V tw_418 tw_420 tw_12 tw_28 tw_421) rfl rfl rfl (by decide +kernel) ⟨Nat.le_of_ble_eq_true rfl, Nat.le_of_ble_eq_true rfl⟩) (wp_V hK hN hP hJ (0) (by omega) rfl rfl) rfl rfl hl.1 rfl (lv_room (Nat.le_of_ble_eq_true rfl)) d_M_warmth_2 ⟨Nat.zero_le _, Nat.zero_le _⟩) hS (fun H locs hP hS => ?_)
  rcases x_la_cases hL a1 with q_1 | ⟨i_2, hi_2, rfl, q_1⟩
  · rw [isLayer_none hL q_1]
    refine lv_if_eq (tgt := 16) hx hb d_M_warmth_5 (by decide) (fun c_3 => ?_) (fun c_3 => absurd (by decide) c_3)
    refine lv_ldc2 (v := -1) hx hb hown (hts _ tw_518) d_M_warmth_16 ?_
    exact W.lret hx hb hr (fun t ht hW => ⟨⟨_, (), rfl, by (try simp only [m_warmth, q_1, ite_self]); first | done | rfl | assumption | exact x_within_1 (by assumption), by dsimp only; rw [ht]; (try simp only [m_warmth, q_1, ite_self]); exact hP⟩, hS.F ht⟩) hS.2.2 d_M_warmth_19
  · rw [isLayer_some hL hi_2]
    refine lv_if_eq (tgt := 16) hx hb d_M_warmth_5 (by decide) (fun c_4 => absurd c_4 (by decide)) (fun c_4 => ?_)
    refine lv_aload_n hx hb d_M_warmth_8 rfl (lv_at hl 0 rfl) ?_
    refine lv_iload_n hx hb d_M_warmth_9 rfl (lv_at hl 1 rfl) ?_
    refine wc_l (va_runV (As := [.int (nI i_2)]) (rest := []) ⟨hx, hb, hml, hown, hts⟩ (c_M_warmthOf l g ad hL x i_2 (by omega) _) (cwV 1 hts (gd_V tw_478 tw_480 tw_14 tw_28 tw_481) rfl rfl rfl (by decide +kernel) ⟨Nat.le_of_ble_eq_true rfl, Nat.le_of_ble_eq_true rfl⟩) (wp_V hK hN hP hJ (0) (by omega) rfl rfl) rfl rfl hl.1 rfl (lv_room (Nat.le_of_ble_eq_true rfl)) d_M_warmth_10 ⟨Nat.zero_le _, Nat.zero_le _⟩) hS (fun H locs hP hS => ?_)
    refine lv_goto (tgt := 19) hx hb d_M_warmth_13 (by decide) ?_
    exact W.lret hx hb hr (fun t ht hW => ⟨⟨_, (), rfl, by (try simp only [m_warmth, q_1, ite_self]); first | done | rfl | assumption | exact x_within_1 (by assumption), by dsimp only; rw [ht]; (try simp only [m_warmth, q_1, ite_self]); exact hP⟩, hS.F ht⟩) hS.2.2 d_M_warmth_19
set_option maxHeartbeats 4000000 in
set_option maxRecDepth 100000 in
theorem c_M_air (l : Launch) (g : wG) (ad : Nat → Nat) {L : Nat} (hL : 1 ≤ L ∧ L ≤ 6) (x : xS) : CtI l y_M_air ws_M_air ({ frames := 0, cells := 0, slots := 0, locals := 0 }) g 14 ad (mE g ad L x) (mE g ad L x) [.ref (ad 0)] (xI x 8) := by
  intro sz
  refine Met.ofW (cc := b_M_air) (maxL := 1) (ret := (some .int)) (by decide +kernel) rfl ?_
  intro p e s m args below meth c s₁ B hml hv
  obtain ⟨rfl, hsz, hP, hK, hN, hJ⟩ := hv
  have hx := B.exec
  have hb := B.bytes
  have hr := B.returns
  have hts0 := atoms_spec (ws := ws_M_air) B.pre
  have hts : ∀ w ∈ tb, w.before _ s = true := fun w h => hts0 w (List.mem_cons_of_mem _ h)
  have hown : s.vm.findClass "HeapStepsModel" = some m.cls := findClass_of_methodNamed B.named
  have hlocks := B.notSynchronized
  subst hsz
  have hS : va_S (wA 14 ad s.heap.size) s.heap s.heap [] := va_S.rf
  have hl := lv_entry ([.ref (ad 0)]) (n := 1) (Nat.le_of_ble_eq_true rfl)
  rw [lg_entry_eq]
  generalize (lg_sl ([.ref (ad 0)]) ++ List.replicate (1 - (lg_sl ([.ref (ad 0)])).length) Slot.unset).toArray = ls at hl ⊢
  have hl : lv_has ls 1 [(0, .ref (ad 0))] := hl
  refine lv_aload_n hx hb d_M_air_0 rfl (lv_at hl 0 rfl) ?_
  refine wr_get hx hb hts in_M hown hK hP (0) (by omega) rfl rfl 18 (by decide) (hts _ tw_359) rfl d_M_air_1 ?_
  exact W.iret hx hb hr (fun t ht hW => ⟨⟨_, (), rfl, by skip; first | done | rfl | assumption | exact x_within_1 (by assumption), by dsimp only; rw [ht]; skip; exact hP⟩, hS.F ht⟩) hS.2.2 d_M_air_4
set_option maxHeartbeats 4000000 in
set_option maxRecDepth 100000 in
theorem c_M_gone (l : Launch) (g : wG) (ad : Nat → Nat) {L : Nat} (hL : 1 ≤ L ∧ L ≤ 6) (x : xS) (a1 : Int32) : CtL l y_M_gone ws_M_gone ({ frames := 1, cells := 0, slots := 0, locals := 25 }) g 14 ad (mE g ad L x) (mE g ad L x) [.ref (ad 0), .int a1] (x_gone x a1) := by
  intro sz
  refine Met.ofW (cc := b_M_gone) (maxL := 2) (ret := (some .long)) (by decide +kernel) rfl ?_
  intro p e s m args below meth c s₁ B hml hv
  obtain ⟨rfl, hsz, hP, hK, hN, hJ⟩ := hv
  have hx := B.exec
  have hb := B.bytes
  have hr := B.returns
  have hts0 := atoms_spec (ws := ws_M_gone) B.pre
  have hts : ∀ w ∈ tb, w.before _ s = true := fun w h => hts0 w (List.mem_cons_of_mem _ h)
  have hown : s.vm.findClass "HeapStepsModel" = some m.cls := findClass_of_methodNamed B.named
  have hlocks := B.notSynchronized
  subst hsz
  have hS : va_S (wA 14 ad s.heap.size) s.heap s.heap [] := va_S.rf
  have hl := lv_entry ([.ref (ad 0), .int a1]) (n := 2) (Nat.le_of_ble_eq_true rfl)
  rw [lg_entry_eq]
  generalize (lg_sl ([.ref (ad 0), .int a1]) ++ List.replicate (2 - (lg_sl ([.ref (ad 0), .int a1])).length) Slot.unset).toArray = ls at hl ⊢
  have hl : lv_has ls 2 [(0, .ref (ad 0)), (1, .int a1)] := hl
  refine lv_iload_n hx hb d_M_gone_0 rfl (lv_at hl 1 rfl) ?_
  refine lv_i2l hx hb d_M_gone_1 rfl ?_
  refine lv_lconst (v := 0) hx hb d_M_gone_2 (by decide) ?_
  refine lv_ldc2 (v := 8) hx hb hown (hts _ tw_543) d_M_gone_3 ?_
  refine wc_i (va_runS (As := [.long (Int32.toInt64 a1), .long 0, .long 8]) (rest := []) ⟨hx, hb, hml, hown, hts⟩ (c_M_isIn l g _ ad _ (Int32.toInt64 a1) 0 8 _) (cwS 3 hts (gd_S tw_426 tw_427 tw_28 tw_428) rfl rfl rfl (by decide +kernel) ⟨Nat.le_of_ble_eq_true rfl, Nat.le_of_ble_eq_true rfl⟩) (wp_S hK hN hP hJ) rfl rfl hl.1 rfl (lv_room (Nat.le_of_ble_eq_true rfl)) d_M_gone_6 ⟨Nat.zero_le _, Nat.zero_le _⟩) hS (fun H locs hP hS => ?_)
  rw [isIn_x (a := a1) (b := 0) (c := 8) (by decide) (by decide)]
  refine lv_if_eq (tgt := 21) hx hb d_M_gone_9 (by decide) (fun c_1 => ?_) (fun c_1 => ?_)
  · skip
    refine lv_ldc2 (v := -1) hx hb hown (hts _ tw_518) d_M_gone_21 ?_
    exact W.lret hx hb hr (fun t ht hW => ⟨⟨_, (), rfl, by (try simp only [x_gone, if_pos c_1, ite_self]); first | done | rfl | assumption | exact x_within_1 (by assumption), by dsimp only; rw [ht]; (try simp only [x_gone, if_pos c_1, ite_self]); exact hP⟩, hS.F ht⟩) hS.2.2 d_M_gone_24
  · skip
    obtain ⟨k, hk, rfl⟩ := x_within_nat (n := 8) (by decide) c_1
    refine lv_aload_n hx hb d_M_gone_12 rfl (lv_at hl 0 rfl) ?_
    refine wr_get hx hb hts in_M hown hK hP (0) (by omega) rfl rfl 21 (by decide) (hts _ tw_362) rfl d_M_gone_13 ?_
    refine lv_iload_n hx hb d_M_gone_16 rfl (lv_at hl 1 rfl) ?_
    refine wr_laldv (v := xO x 0 k) hx hb hK hP (11) 0 (by omega) rfl rfl k rfl (by omega) (by omega) rfl d_M_gone_17 ?_
    refine lv_goto (tgt := 24) hx hb d_M_gone_18 (by decide) ?_
    exact W.lret hx hb hr (fun t ht hW => ⟨⟨_, (), rfl, by (try simp only [x_gone, if_neg c_1, nI_clamp (show k < 2 ^ 31 by omega), ite_self]); first | done | rfl | assumption | exact x_within_1 (by assumption), by dsimp only; rw [ht]; (try simp only [x_gone, if_neg c_1, nI_clamp (show k < 2 ^ 31 by omega), ite_self]); exact hP⟩, hS.F ht⟩) hS.2.2 d_M_gone_24
set_option maxHeartbeats 4000000 in
set_option maxRecDepth 100000 in
theorem c_M_there0 (l : Launch) (g : wG) (ad : Nat → Nat) {L : Nat} (hL : 1 ≤ L ∧ L ≤ 6) (x : xS) : CtL l y_M_there ws_M_there ({ frames := 1, cells := 0, slots := 0, locals := 24 }) g 14 ad (mE g ad L x) (mE g ad L x) [.ref (ad 0), .int 0] (m_thereN x L) := by
  intro sz
  refine Met.ofW (cc := b_M_there) (maxL := 5) (ret := (some .long)) (by decide +kernel) rfl ?_
  intro p e s m args below meth c s₁ B hml hv
  obtain ⟨rfl, hsz, hP, hK, hN, hJ⟩ := hv
  have hx := B.exec
  have hb := B.bytes
  have hr := B.returns
  have hts0 := atoms_spec (ws := ws_M_there) B.pre
  have hts : ∀ w ∈ tb, w.before _ s = true := fun w h => hts0 w (List.mem_cons_of_mem _ h)
  have hown : s.vm.findClass "HeapStepsModel" = some m.cls := findClass_of_methodNamed B.named
  have hlocks := B.notSynchronized
  subst hsz
  have hS : va_S (wA 14 ad s.heap.size) s.heap s.heap [] := va_S.rf
  have hl := lv_entry ([.ref (ad 0), .int 0]) (n := 5) (Nat.le_of_ble_eq_true rfl)
  rw [lg_entry_eq]
  generalize (lg_sl ([.ref (ad 0), .int 0]) ++ List.replicate (5 - (lg_sl ([.ref (ad 0), .int 0])).length) Slot.unset).toArray = ls at hl ⊢
  have hl : lv_has ls 5 [(0, .ref (ad 0)), (1, .int 0)] := hl
  refine lv_lconst (v := 0) hx hb d_M_there_0 (by decide) ?_
  refine lv_lstore_n (lv' := [(2, .long 0), (0, .ref (ad 0)), (1, .int 0)]) hx hb d_M_there_1 rfl hl (by decide) rfl (fun ls hl => ?_)
  refine lv_iconst (v := 0) hx hb d_M_there_2 (by decide) ?_
  refine lv_istore (lv' := [(4, .int 0), (2, .long 0), (0, .ref (ad 0)), (1, .int 0)]) hx hb d_M_there_3 hl (by decide) rfl (fun ls hl => ?_)
  refine wl_loop (pc := 5) (fun fu H locs ls => ∃ i : Nat, i + fu = L ∧ va_P g.1 vwCl (wo 14 ad (mE g ad L x)) H ∧ va_S (wA 14 ad s.heap.size) s.heap H locs ∧ lv_has ls 5 [(4, .int (nI i)), (2, .long (m_thereN x i)), (1, .int 0), (0, .ref (ad 0))]) ?_ ?_ L _ _ _ ⟨0, by omega, hP, hS, lv_sub hl [0, 1, 3, 2] rfl⟩
  · intro H locs ls hI
    obtain ⟨i, hi, hP, hS, hl⟩ := hI
    have hT_i : i = L := by omega
    try rw [hT_i] at hP
    try rw [hT_i] at hl
    refine lv_iload hx hb d_M_there_5 (lv_at hl 0 rfl) ?_
    refine lv_aload_n hx hb d_M_there_7 rfl (lv_at hl 3 rfl) ?_
    refine wr_get hx hb hts in_M hown hK hP (0) (by omega) rfl rfl 0 (by decide) (hts _ tw_341) rfl d_M_there_8 ?_
    refine lv_icmp_ge (tgt := 66) hx hb d_M_there_11 (by decide) (fun c_1 => ?_) (fun c_1 => absurd (nI_le (by omega) (by omega)) c_1)
    refine lv_lload_n hx hb d_M_there_66 rfl (lv_at hl 1 rfl) ?_
    exact W.lret hx hb hr (fun t ht hW => ⟨⟨_, (), rfl, by skip; first | done | rfl | assumption | exact x_within_1 (by assumption), by dsimp only; rw [ht]; skip; exact hP⟩, hS.F ht⟩) hS.2.2 d_M_there_67
  · intro fu ih_i H locs ls hI
    obtain ⟨i, hi, hP, hS, hl⟩ := hI
    have hi_i : i < L := by omega
    refine lv_iload hx hb d_M_there_5 (lv_at hl 0 rfl) ?_
    refine lv_aload_n hx hb d_M_there_7 rfl (lv_at hl 3 rfl) ?_
    refine wr_get hx hb hts in_M hown hK hP (0) (by omega) rfl rfl 0 (by decide) (hts _ tw_341) rfl d_M_there_8 ?_
    refine lv_icmp_ge (tgt := 66) hx hb d_M_there_11 (by decide) (fun c_2 => absurd c_2 (nI_ge hi_i (by omega))) (fun c_2 => ?_)
    refine lv_lload_n hx hb d_M_there_14 rfl (lv_at hl 1 rfl) ?_
    refine lv_iload_n hx hb d_M_there_15 rfl (lv_at hl 2 rfl) ?_
    refine lv_if_ne (tgt := 36) hx hb d_M_there_16 (by decide) (fun c_3 => absurd c_3 (by decide)) (fun c_3 => ?_)
    refine lv_aload_n hx hb d_M_there_19 rfl (lv_at hl 3 rfl) ?_
    refine lv_iload hx hb d_M_there_20 (lv_at hl 0 rfl) ?_
    refine wc_l (va_runV (As := [.int (nI i)]) (rest := [.long (m_thereN x i)]) ⟨hx, hb, hml, hown, hts⟩ (c_M_massOf l g ad hL x i (by omega) _) (cwV 1 hts (gd_V tw_482 tw_484 tw_15 tw_28 tw_485) rfl rfl rfl (by decide +kernel) ⟨Nat.le_of_ble_eq_true rfl, Nat.le_of_ble_eq_true rfl⟩) (wp_V hK hN hP hJ (0) (by omega) rfl rfl) rfl rfl hl.1 rfl (lv_room (Nat.le_of_ble_eq_true rfl)) d_M_there_22 ⟨Nat.zero_le _, Nat.zero_le _⟩) hS (fun H locs hP hS => ?_)
    refine lv_aload_n hx hb d_M_there_25 rfl (lv_at hl 3 rfl) ?_
    refine wr_get hx hb hts in_M hown hK hP (0) (by omega) rfl rfl 2 (by decide) (hts _ tw_343) rfl d_M_there_26 ?_
    refine lv_iload hx hb d_M_there_29 (lv_at hl 0 rfl) ?_
    refine wr_laldv (v := xT x i 3) hx hb hK hP (2) 0 (by omega) rfl rfl i rfl (by omega) (by omega) rfl d_M_there_31 ?_
    refine lv_lsub hx hb d_M_there_32 ?_
    refine lv_goto (tgt := 58) hx hb d_M_there_33 (by decide) ?_
    refine lv_ladd hx hb d_M_there_58 ?_
    refine lv_topl (fun v_4 ev_4 => ?_)
    refine lv_lstore_n (lv' := [(2, .long v_4), (4, .int (nI i)), (1, .int 0), (0, .ref (ad 0))]) hx hb d_M_there_59 rfl hl (by decide) rfl (fun ls hl => ?_)
    refine lv_iinc (v := nI (i + 1)) (lv' := [(4, .int (nI (i + 1))), (2, .long v_4), (1, .int 0), (0, .ref (ad 0))]) hx hb d_M_there_60 hl (k := 1) rfl (nI_1 i) (by decide) rfl (fun ls hl => ?_)
    refine lv_goto (tgt := 5) hx hb d_M_there_63 (by decide) ?_
    subst ev_4
    exact ih_i _ _ _ ⟨i + 1, by omega, (by skip; exact hP), hS, lv_sub hl [0, 1, 2, 3] (by skip; rfl)⟩
set_option maxHeartbeats 4000000 in
set_option maxRecDepth 100000 in
theorem c_M_there1 (l : Launch) (g : wG) (ad : Nat → Nat) {L : Nat} (hL : 1 ≤ L ∧ L ≤ 6) (x : xS) : CtL l y_M_there ws_M_there ({ frames := 0, cells := 0, slots := 0, locals := 0 }) g 14 ad (mE g ad L x) (mE g ad L x) [.ref (ad 0), .int 1] (x_inAllN x 3 L) := by
  intro sz
  refine Met.ofW (cc := b_M_there) (maxL := 5) (ret := (some .long)) (by decide +kernel) rfl ?_
  intro p e s m args below meth c s₁ B hml hv
  obtain ⟨rfl, hsz, hP, hK, hN, hJ⟩ := hv
  have hx := B.exec
  have hb := B.bytes
  have hr := B.returns
  have hts0 := atoms_spec (ws := ws_M_there) B.pre
  have hts : ∀ w ∈ tb, w.before _ s = true := fun w h => hts0 w (List.mem_cons_of_mem _ h)
  have hown : s.vm.findClass "HeapStepsModel" = some m.cls := findClass_of_methodNamed B.named
  have hlocks := B.notSynchronized
  subst hsz
  have hS : va_S (wA 14 ad s.heap.size) s.heap s.heap [] := va_S.rf
  have hl := lv_entry ([.ref (ad 0), .int 1]) (n := 5) (Nat.le_of_ble_eq_true rfl)
  rw [lg_entry_eq]
  generalize (lg_sl ([.ref (ad 0), .int 1]) ++ List.replicate (5 - (lg_sl ([.ref (ad 0), .int 1])).length) Slot.unset).toArray = ls at hl ⊢
  have hl : lv_has ls 5 [(0, .ref (ad 0)), (1, .int 1)] := hl
  refine lv_lconst (v := 0) hx hb d_M_there_0 (by decide) ?_
  refine lv_lstore_n (lv' := [(2, .long 0), (0, .ref (ad 0)), (1, .int 1)]) hx hb d_M_there_1 rfl hl (by decide) rfl (fun ls hl => ?_)
  refine lv_iconst (v := 0) hx hb d_M_there_2 (by decide) ?_
  refine lv_istore (lv' := [(4, .int 0), (2, .long 0), (0, .ref (ad 0)), (1, .int 1)]) hx hb d_M_there_3 hl (by decide) rfl (fun ls hl => ?_)
  refine wl_loop (pc := 5) (fun fu H locs ls => ∃ i : Nat, i + fu = L ∧ va_P g.1 vwCl (wo 14 ad (mE g ad L x)) H ∧ va_S (wA 14 ad s.heap.size) s.heap H locs ∧ lv_has ls 5 [(4, .int (nI i)), (2, .long (x_inAllN x 3 i)), (1, .int 1), (0, .ref (ad 0))]) ?_ ?_ L _ _ _ ⟨0, by omega, hP, hS, lv_sub hl [0, 1, 3, 2] rfl⟩
  · intro H locs ls hI
    obtain ⟨i, hi, hP, hS, hl⟩ := hI
    have hT_i : i = L := by omega
    try rw [hT_i] at hP
    try rw [hT_i] at hl
    refine lv_iload hx hb d_M_there_5 (lv_at hl 0 rfl) ?_
    refine lv_aload_n hx hb d_M_there_7 rfl (lv_at hl 3 rfl) ?_
    refine wr_get hx hb hts in_M hown hK hP (0) (by omega) rfl rfl 0 (by decide) (hts _ tw_341) rfl d_M_there_8 ?_
    refine lv_icmp_ge (tgt := 66) hx hb d_M_there_11 (by decide) (fun c_1 => ?_) (fun c_1 => absurd (nI_le (by omega) (by omega)) c_1)
    refine lv_lload_n hx hb d_M_there_66 rfl (lv_at hl 1 rfl) ?_
    exact W.lret hx hb hr (fun t ht hW => ⟨⟨_, (), rfl, by skip; first | done | rfl | assumption | exact x_within_1 (by assumption), by dsimp only; rw [ht]; skip; exact hP⟩, hS.F ht⟩) hS.2.2 d_M_there_67
  · intro fu ih_i H locs ls hI
    obtain ⟨i, hi, hP, hS, hl⟩ := hI
    have hi_i : i < L := by omega
    refine lv_iload hx hb d_M_there_5 (lv_at hl 0 rfl) ?_
    refine lv_aload_n hx hb d_M_there_7 rfl (lv_at hl 3 rfl) ?_
    refine wr_get hx hb hts in_M hown hK hP (0) (by omega) rfl rfl 0 (by decide) (hts _ tw_341) rfl d_M_there_8 ?_
    refine lv_icmp_ge (tgt := 66) hx hb d_M_there_11 (by decide) (fun c_2 => absurd c_2 (nI_ge hi_i (by omega))) (fun c_2 => ?_)
    refine lv_lload_n hx hb d_M_there_14 rfl (lv_at hl 1 rfl) ?_
    refine lv_iload_n hx hb d_M_there_15 rfl (lv_at hl 2 rfl) ?_
    refine lv_if_ne (tgt := 36) hx hb d_M_there_16 (by decide) (fun c_3 => ?_) (fun c_3 => absurd c_3 (by decide))
    refine lv_iload_n hx hb d_M_there_36 rfl (lv_at hl 2 rfl) ?_
    refine lv_iconst (v := 1) hx hb d_M_there_37 (by decide) ?_
    refine lv_icmp_ne (tgt := 51) hx hb d_M_there_38 (by decide) (fun c_4 => absurd c_4 (by decide)) (fun c_4 => ?_)
    refine lv_aload_n hx hb d_M_there_41 rfl (lv_at hl 3 rfl) ?_
    refine wr_get hx hb hts in_M hown hK hP (0) (by omega) rfl rfl 2 (by decide) (hts _ tw_343) rfl d_M_there_42 ?_
    refine lv_iload hx hb d_M_there_45 (lv_at hl 0 rfl) ?_
    refine wr_laldv (v := xT x i 3) hx hb hK hP (2) 0 (by omega) rfl rfl i rfl (by omega) (by omega) rfl d_M_there_47 ?_
    refine lv_goto (tgt := 58) hx hb d_M_there_48 (by decide) ?_
    refine lv_ladd hx hb d_M_there_58 ?_
    refine lv_topl (fun v_5 ev_5 => ?_)
    refine lv_lstore_n (lv' := [(2, .long v_5), (4, .int (nI i)), (1, .int 1), (0, .ref (ad 0))]) hx hb d_M_there_59 rfl hl (by decide) rfl (fun ls hl => ?_)
    refine lv_iinc (v := nI (i + 1)) (lv' := [(4, .int (nI (i + 1))), (2, .long v_5), (1, .int 1), (0, .ref (ad 0))]) hx hb d_M_there_60 hl (k := 1) rfl (nI_1 i) (by decide) rfl (fun ls hl => ?_)
    refine lv_goto (tgt := 5) hx hb d_M_there_63 (by decide) ?_
    subst ev_5
    exact ih_i _ _ _ ⟨i + 1, by omega, (by skip; exact hP), hS, lv_sub hl [0, 1, 2, 3] (by skip; rfl)⟩
set_option maxHeartbeats 4000000 in
set_option maxRecDepth 100000 in
theorem c_M_there2 (l : Launch) (g : wG) (ad : Nat → Nat) {L : Nat} (hL : 1 ≤ L ∧ L ≤ 6) (x : xS) : CtL l y_M_there ws_M_there ({ frames := 0, cells := 0, slots := 0, locals := 0 }) g 14 ad (mE g ad L x) (mE g ad L x) [.ref (ad 0), .int 2] (x_inAllN x 4 L) := by
  intro sz
  refine Met.ofW (cc := b_M_there) (maxL := 5) (ret := (some .long)) (by decide +kernel) rfl ?_
  intro p e s m args below meth c s₁ B hml hv
  obtain ⟨rfl, hsz, hP, hK, hN, hJ⟩ := hv
  have hx := B.exec
  have hb := B.bytes
  have hr := B.returns
  have hts0 := atoms_spec (ws := ws_M_there) B.pre
  have hts : ∀ w ∈ tb, w.before _ s = true := fun w h => hts0 w (List.mem_cons_of_mem _ h)
  have hown : s.vm.findClass "HeapStepsModel" = some m.cls := findClass_of_methodNamed B.named
  have hlocks := B.notSynchronized
  subst hsz
  have hS : va_S (wA 14 ad s.heap.size) s.heap s.heap [] := va_S.rf
  have hl := lv_entry ([.ref (ad 0), .int 2]) (n := 5) (Nat.le_of_ble_eq_true rfl)
  rw [lg_entry_eq]
  generalize (lg_sl ([.ref (ad 0), .int 2]) ++ List.replicate (5 - (lg_sl ([.ref (ad 0), .int 2])).length) Slot.unset).toArray = ls at hl ⊢
  have hl : lv_has ls 5 [(0, .ref (ad 0)), (1, .int 2)] := hl
  refine lv_lconst (v := 0) hx hb d_M_there_0 (by decide) ?_
  refine lv_lstore_n (lv' := [(2, .long 0), (0, .ref (ad 0)), (1, .int 2)]) hx hb d_M_there_1 rfl hl (by decide) rfl (fun ls hl => ?_)
  refine lv_iconst (v := 0) hx hb d_M_there_2 (by decide) ?_
  refine lv_istore (lv' := [(4, .int 0), (2, .long 0), (0, .ref (ad 0)), (1, .int 2)]) hx hb d_M_there_3 hl (by decide) rfl (fun ls hl => ?_)
  refine wl_loop (pc := 5) (fun fu H locs ls => ∃ i : Nat, i + fu = L ∧ va_P g.1 vwCl (wo 14 ad (mE g ad L x)) H ∧ va_S (wA 14 ad s.heap.size) s.heap H locs ∧ lv_has ls 5 [(4, .int (nI i)), (2, .long (x_inAllN x 4 i)), (1, .int 2), (0, .ref (ad 0))]) ?_ ?_ L _ _ _ ⟨0, by omega, hP, hS, lv_sub hl [0, 1, 3, 2] rfl⟩
  · intro H locs ls hI
    obtain ⟨i, hi, hP, hS, hl⟩ := hI
    have hT_i : i = L := by omega
    try rw [hT_i] at hP
    try rw [hT_i] at hl
    refine lv_iload hx hb d_M_there_5 (lv_at hl 0 rfl) ?_
    refine lv_aload_n hx hb d_M_there_7 rfl (lv_at hl 3 rfl) ?_
    refine wr_get hx hb hts in_M hown hK hP (0) (by omega) rfl rfl 0 (by decide) (hts _ tw_341) rfl d_M_there_8 ?_
    refine lv_icmp_ge (tgt := 66) hx hb d_M_there_11 (by decide) (fun c_1 => ?_) (fun c_1 => absurd (nI_le (by omega) (by omega)) c_1)
    refine lv_lload_n hx hb d_M_there_66 rfl (lv_at hl 1 rfl) ?_
    exact W.lret hx hb hr (fun t ht hW => ⟨⟨_, (), rfl, by skip; first | done | rfl | assumption | exact x_within_1 (by assumption), by dsimp only; rw [ht]; skip; exact hP⟩, hS.F ht⟩) hS.2.2 d_M_there_67
  · intro fu ih_i H locs ls hI
    obtain ⟨i, hi, hP, hS, hl⟩ := hI
    have hi_i : i < L := by omega
    refine lv_iload hx hb d_M_there_5 (lv_at hl 0 rfl) ?_
    refine lv_aload_n hx hb d_M_there_7 rfl (lv_at hl 3 rfl) ?_
    refine wr_get hx hb hts in_M hown hK hP (0) (by omega) rfl rfl 0 (by decide) (hts _ tw_341) rfl d_M_there_8 ?_
    refine lv_icmp_ge (tgt := 66) hx hb d_M_there_11 (by decide) (fun c_2 => absurd c_2 (nI_ge hi_i (by omega))) (fun c_2 => ?_)
    refine lv_lload_n hx hb d_M_there_14 rfl (lv_at hl 1 rfl) ?_
    refine lv_iload_n hx hb d_M_there_15 rfl (lv_at hl 2 rfl) ?_
    refine lv_if_ne (tgt := 36) hx hb d_M_there_16 (by decide) (fun c_3 => ?_) (fun c_3 => absurd c_3 (by decide))
    refine lv_iload_n hx hb d_M_there_36 rfl (lv_at hl 2 rfl) ?_
    refine lv_iconst (v := 1) hx hb d_M_there_37 (by decide) ?_
    refine lv_icmp_ne (tgt := 51) hx hb d_M_there_38 (by decide) (fun c_4 => ?_) (fun c_4 => absurd c_4 (by decide))
    refine lv_aload_n hx hb d_M_there_51 rfl (lv_at hl 3 rfl) ?_
    refine wr_get hx hb hts in_M hown hK hP (0) (by omega) rfl rfl 3 (by decide) (hts _ tw_344) rfl d_M_there_52 ?_
    refine lv_iload hx hb d_M_there_55 (lv_at hl 0 rfl) ?_
    refine wr_laldv (v := xT x i 4) hx hb hK hP (3) 0 (by omega) rfl rfl i rfl (by omega) (by omega) rfl d_M_there_57 ?_
    refine lv_ladd hx hb d_M_there_58 ?_
    refine lv_topl (fun v_5 ev_5 => ?_)
    refine lv_lstore_n (lv' := [(2, .long v_5), (4, .int (nI i)), (1, .int 2), (0, .ref (ad 0))]) hx hb d_M_there_59 rfl hl (by decide) rfl (fun ls hl => ?_)
    refine lv_iinc (v := nI (i + 1)) (lv' := [(4, .int (nI (i + 1))), (2, .long v_5), (1, .int 2), (0, .ref (ad 0))]) hx hb d_M_there_60 hl (k := 1) rfl (nI_1 i) (by decide) rfl (fun ls hl => ?_)
    refine lv_goto (tgt := 5) hx hb d_M_there_63 (by decide) ?_
    subst ev_5
    exact ih_i _ _ _ ⟨i + 1, by omega, (by skip; exact hP), hS, lv_sub hl [0, 1, 2, 3] (by skip; rfl)⟩
set_option maxHeartbeats 4000000 in
set_option maxRecDepth 100000 in
theorem c_M_balance (l : Launch) (g : wG) (ad : Nat → Nat) {L : Nat} (hL : 1 ≤ L ∧ L ≤ 6) (x : xS) (a1 : Int32) : CtL l y_M_balance ws_M_balance ({ frames := 2, cells := 0, slots := 0, locals := 48 }) g 14 ad (mE g ad L x) (mE g ad L x) [.ref (ad 0), .int a1] (m_balance L x a1) := by
  intro sz
  refine Met.ofW (cc := b_M_balance) (maxL := 4) (ret := (some .long)) (by decide +kernel) rfl ?_
  intro p e s m args below meth c s₁ B hml hv
  obtain ⟨rfl, hsz, hP, hK, hN, hJ⟩ := hv
  have hx := B.exec
  have hb := B.bytes
  have hr := B.returns
  have hts0 := atoms_spec (ws := ws_M_balance) B.pre
  have hts : ∀ w ∈ tb, w.before _ s = true := fun w h => hts0 w (List.mem_cons_of_mem _ h)
  have hown : s.vm.findClass "HeapStepsModel" = some m.cls := findClass_of_methodNamed B.named
  have hlocks := B.notSynchronized
  subst hsz
  have hS : va_S (wA 14 ad s.heap.size) s.heap s.heap [] := va_S.rf
  have hl := lv_entry ([.ref (ad 0), .int a1]) (n := 4) (Nat.le_of_ble_eq_true rfl)
  rw [lg_entry_eq]
  generalize (lg_sl ([.ref (ad 0), .int a1]) ++ List.replicate (4 - (lg_sl ([.ref (ad 0), .int a1])).length) Slot.unset).toArray = ls at hl ⊢
  have hl : lv_has ls 4 [(0, .ref (ad 0)), (1, .int a1)] := hl
  refine lv_iload_n hx hb d_M_balance_0 rfl (lv_at hl 1 rfl) ?_
  refine lv_i2l hx hb d_M_balance_1 rfl ?_
  refine lv_lconst (v := 0) hx hb d_M_balance_2 (by decide) ?_
  refine lv_ldc2 (v := 2) hx hb hown (hts _ tw_548) d_M_balance_3 ?_
  refine wc_i (va_runS (As := [.long (Int32.toInt64 a1), .long 0, .long 2]) (rest := []) ⟨hx, hb, hml, hown, hts⟩ (c_M_isIn l g _ ad _ (Int32.toInt64 a1) 0 2 _) (cwS 3 hts (gd_S tw_426 tw_427 tw_28 tw_428) rfl rfl rfl (by decide +kernel) ⟨Nat.le_of_ble_eq_true rfl, Nat.le_of_ble_eq_true rfl⟩) (wp_S hK hN hP hJ) rfl rfl hl.1 rfl (lv_room (Nat.le_of_ble_eq_true rfl)) d_M_balance_6 ⟨Nat.zero_le _, Nat.zero_le _⟩) hS (fun H locs hP hS => ?_)
  rw [isIn_x (a := a1) (b := 0) (c := 2) (by decide) (by decide)]
  refine lv_if_ne (tgt := 16) hx hb d_M_balance_9 (by decide) (fun c_1 => ?_) (fun c_1 => ?_)
  · skip
    obtain ⟨k, hk, rfl⟩ := x_within_nat (n := 2) (by decide) c_1
    rcases (show k = 0 ∨ k = 1 ∨ k = 2 by omega) with rfl | rfl | rfl
    · have hl : lv_has ls 4 [(0, .ref (ad 0)), (1, .int 0)] := hl
      refine lv_aload_n hx hb d_M_balance_16 rfl (lv_at hl 0 rfl) ?_
      refine wr_get hx hb hts in_M hown hK hP (0) (by omega) rfl rfl 22 (by decide) (hts _ tw_363) rfl d_M_balance_17 ?_
      refine lv_iload_n hx hb d_M_balance_20 rfl (lv_at hl 1 rfl) ?_
      refine wr_laldv (v := mPut x 0) hx hb hK hP (12) 0 (by omega) rfl rfl 0 (by decide) (by omega) (by omega) rfl d_M_balance_21 ?_
      refine lv_aload_n hx hb d_M_balance_22 rfl (lv_at hl 0 rfl) ?_
      refine wr_get hx hb hts in_M hown hK hP (0) (by omega) rfl rfl 23 (by decide) (hts _ tw_364) rfl d_M_balance_23 ?_
      refine lv_iload_n hx hb d_M_balance_26 rfl (lv_at hl 1 rfl) ?_
      refine wr_laldv (v := mTak x 0) hx hb hK hP (13) 0 (by omega) rfl rfl 0 (by decide) (by omega) (by omega) rfl d_M_balance_27 ?_
      refine lv_lsub hx hb d_M_balance_28 ?_
      refine lv_aload_n hx hb d_M_balance_29 rfl (lv_at hl 0 rfl) ?_
      refine lv_iload_n hx hb d_M_balance_30 rfl (lv_at hl 1 rfl) ?_
      refine wc_l (va_runV (As := [.int 0]) (rest := [.long ((mPut x 0) - (mTak x 0))]) ⟨hx, hb, hml, hown, hts⟩ (c_M_there0 l g ad hL x _) (cwV 1 hts (gd_V tw_549 tw_551 tw_22 tw_28 tw_552) rfl rfl rfl (by decide +kernel) ⟨Nat.le_of_ble_eq_true rfl, Nat.le_of_ble_eq_true rfl⟩) (wp_V hK hN hP hJ (0) (by omega) rfl rfl) rfl rfl hl.1 rfl (lv_room (Nat.le_of_ble_eq_true rfl)) d_M_balance_31 ⟨Nat.zero_le _, Nat.zero_le _⟩) hS (fun H locs hP hS => ?_)
      refine lv_lsub hx hb d_M_balance_34 ?_
      refine lv_topl (fun v_2 ev_2 => ?_)
      refine lv_lstore_n (lv' := [(2, .long v_2), (0, .ref (ad 0)), (1, .int 0)]) hx hb d_M_balance_35 rfl hl (by decide) rfl (fun ls hl => ?_)
      refine lv_iload_n hx hb d_M_balance_36 rfl (lv_at hl 2 rfl) ?_
      refine lv_if_ne (tgt := 49) hx hb d_M_balance_37 (by decide) (fun c_3 => absurd c_3 (by decide)) (fun c_3 => ?_)
      refine lv_lload_n hx hb d_M_balance_40 rfl (lv_at hl 0 rfl) ?_
      refine lv_aload_n hx hb d_M_balance_41 rfl (lv_at hl 1 rfl) ?_
      refine wr_get hx hb hts in_M hown hK hP (0) (by omega) rfl rfl 21 (by decide) (hts _ tw_362) rfl d_M_balance_42 ?_
      refine lv_iconst (v := 0) hx hb d_M_balance_45 (by decide) ?_
      refine wr_laldv (v := xO x 0 0) hx hb hK hP (11) 0 (by omega) rfl rfl 0 (by decide) (by omega) (by omega) rfl d_M_balance_46 ?_
      refine lv_lsub hx hb d_M_balance_47 ?_
      subst ev_2
      exact W.lret hx hb hr (fun t ht hW => ⟨⟨_, (), rfl, by (try simp only [m_balance, if_neg c_1, if_pos (show nI 0 = 0 by decide)]); first | done | rfl | assumption | exact x_within_1 (by assumption), by dsimp only; rw [ht]; (try simp only [m_balance, if_neg c_1, if_pos (show nI 0 = 0 by decide)]); exact hP⟩, hS.F ht⟩) hS.2.2 d_M_balance_48
    · have hl : lv_has ls 4 [(0, .ref (ad 0)), (1, .int 1)] := hl
      refine lv_aload_n hx hb d_M_balance_16 rfl (lv_at hl 0 rfl) ?_
      refine wr_get hx hb hts in_M hown hK hP (0) (by omega) rfl rfl 22 (by decide) (hts _ tw_363) rfl d_M_balance_17 ?_
      refine lv_iload_n hx hb d_M_balance_20 rfl (lv_at hl 1 rfl) ?_
      refine wr_laldv (v := mPut x 1) hx hb hK hP (12) 0 (by omega) rfl rfl 1 (by decide) (by omega) (by omega) rfl d_M_balance_21 ?_
      refine lv_aload_n hx hb d_M_balance_22 rfl (lv_at hl 0 rfl) ?_
      refine wr_get hx hb hts in_M hown hK hP (0) (by omega) rfl rfl 23 (by decide) (hts _ tw_364) rfl d_M_balance_23 ?_
      refine lv_iload_n hx hb d_M_balance_26 rfl (lv_at hl 1 rfl) ?_
      refine wr_laldv (v := mTak x 1) hx hb hK hP (13) 0 (by omega) rfl rfl 1 (by decide) (by omega) (by omega) rfl d_M_balance_27 ?_
      refine lv_lsub hx hb d_M_balance_28 ?_
      refine lv_aload_n hx hb d_M_balance_29 rfl (lv_at hl 0 rfl) ?_
      refine lv_iload_n hx hb d_M_balance_30 rfl (lv_at hl 1 rfl) ?_
      refine wc_l (va_runV (As := [.int 1]) (rest := [.long ((mPut x 1) - (mTak x 1))]) ⟨hx, hb, hml, hown, hts⟩ (c_M_there1 l g ad hL x _) (cwV 1 hts (gd_V tw_549 tw_551 tw_22 tw_28 tw_552) rfl rfl rfl (by decide +kernel) ⟨Nat.le_of_ble_eq_true rfl, Nat.le_of_ble_eq_true rfl⟩) (wp_V hK hN hP hJ (0) (by omega) rfl rfl) rfl rfl hl.1 rfl (lv_room (Nat.le_of_ble_eq_true rfl)) d_M_balance_31 ⟨Nat.zero_le _, Nat.zero_le _⟩) hS (fun H locs hP hS => ?_)
      refine lv_lsub hx hb d_M_balance_34 ?_
      refine lv_topl (fun v_4 ev_4 => ?_)
      refine lv_lstore_n (lv' := [(2, .long v_4), (0, .ref (ad 0)), (1, .int 1)]) hx hb d_M_balance_35 rfl hl (by decide) rfl (fun ls hl => ?_)
      refine lv_iload_n hx hb d_M_balance_36 rfl (lv_at hl 2 rfl) ?_
      refine lv_if_ne (tgt := 49) hx hb d_M_balance_37 (by decide) (fun c_5 => ?_) (fun c_5 => absurd c_5 (by decide))
      refine lv_iload_n hx hb d_M_balance_49 rfl (lv_at hl 2 rfl) ?_
      refine lv_iconst (v := 1) hx hb d_M_balance_50 (by decide) ?_
      refine lv_icmp_ne (tgt := 87) hx hb d_M_balance_51 (by decide) (fun c_6 => absurd c_6 (by decide)) (fun c_6 => ?_)
      refine lv_lload_n hx hb d_M_balance_54 rfl (lv_at hl 0 rfl) ?_
      refine lv_aload_n hx hb d_M_balance_55 rfl (lv_at hl 1 rfl) ?_
      refine wr_get hx hb hts in_M hown hK hP (0) (by omega) rfl rfl 21 (by decide) (hts _ tw_362) rfl d_M_balance_56 ?_
      refine lv_iconst (v := 3) hx hb d_M_balance_59 (by decide) ?_
      refine wr_laldv (v := xO x 0 3) hx hb hK hP (11) 0 (by omega) rfl rfl 3 (by decide) (by omega) (by omega) rfl d_M_balance_60 ?_
      refine lv_ladd hx hb d_M_balance_61 ?_
      refine lv_aload_n hx hb d_M_balance_62 rfl (lv_at hl 1 rfl) ?_
      refine wr_get hx hb hts in_M hown hK hP (0) (by omega) rfl rfl 21 (by decide) (hts _ tw_362) rfl d_M_balance_63 ?_
      refine lv_bipush (v := 7) hx hb d_M_balance_66 (by decide) ?_
      refine wr_laldv (v := xO x 0 7) hx hb hK hP (11) 0 (by omega) rfl rfl 7 (by decide) (by omega) (by omega) rfl d_M_balance_68 ?_
      refine lv_ladd hx hb d_M_balance_69 ?_
      refine lv_aload_n hx hb d_M_balance_70 rfl (lv_at hl 1 rfl) ?_
      refine wr_get hx hb hts in_M hown hK hP (0) (by omega) rfl rfl 21 (by decide) (hts _ tw_362) rfl d_M_balance_71 ?_
      refine lv_iconst (v := 1) hx hb d_M_balance_74 (by decide) ?_
      refine wr_laldv (v := xO x 0 1) hx hb hK hP (11) 0 (by omega) rfl rfl 1 (by decide) (by omega) (by omega) rfl d_M_balance_75 ?_
      refine lv_lsub hx hb d_M_balance_76 ?_
      refine lv_aload_n hx hb d_M_balance_77 rfl (lv_at hl 1 rfl) ?_
      refine wr_get hx hb hts in_M hown hK hP (0) (by omega) rfl rfl 21 (by decide) (hts _ tw_362) rfl d_M_balance_78 ?_
      refine lv_iconst (v := 2) hx hb d_M_balance_81 (by decide) ?_
      refine wr_laldv (v := xO x 0 2) hx hb hK hP (11) 0 (by omega) rfl rfl 2 (by decide) (by omega) (by omega) rfl d_M_balance_82 ?_
      refine lv_lsub hx hb d_M_balance_83 ?_
      refine lv_goto (tgt := 110) hx hb d_M_balance_84 (by decide) ?_
      subst ev_4
      exact W.lret hx hb hr (fun t ht hW => ⟨⟨_, (), rfl, by (try simp only [m_balance, if_neg c_1, if_neg (show ¬ nI 1 = 0 by decide), if_pos (show nI 1 = 1 by decide)]); first | done | rfl | assumption | exact x_within_1 (by assumption), by dsimp only; rw [ht]; (try simp only [m_balance, if_neg c_1, if_neg (show ¬ nI 1 = 0 by decide), if_pos (show nI 1 = 1 by decide)]); exact hP⟩, hS.F ht⟩) hS.2.2 d_M_balance_110
    · have hl : lv_has ls 4 [(0, .ref (ad 0)), (1, .int 2)] := hl
      refine lv_aload_n hx hb d_M_balance_16 rfl (lv_at hl 0 rfl) ?_
      refine wr_get hx hb hts in_M hown hK hP (0) (by omega) rfl rfl 22 (by decide) (hts _ tw_363) rfl d_M_balance_17 ?_
      refine lv_iload_n hx hb d_M_balance_20 rfl (lv_at hl 1 rfl) ?_
      refine wr_laldv (v := mPut x 2) hx hb hK hP (12) 0 (by omega) rfl rfl 2 (by decide) (by omega) (by omega) rfl d_M_balance_21 ?_
      refine lv_aload_n hx hb d_M_balance_22 rfl (lv_at hl 0 rfl) ?_
      refine wr_get hx hb hts in_M hown hK hP (0) (by omega) rfl rfl 23 (by decide) (hts _ tw_364) rfl d_M_balance_23 ?_
      refine lv_iload_n hx hb d_M_balance_26 rfl (lv_at hl 1 rfl) ?_
      refine wr_laldv (v := mTak x 2) hx hb hK hP (13) 0 (by omega) rfl rfl 2 (by decide) (by omega) (by omega) rfl d_M_balance_27 ?_
      refine lv_lsub hx hb d_M_balance_28 ?_
      refine lv_aload_n hx hb d_M_balance_29 rfl (lv_at hl 0 rfl) ?_
      refine lv_iload_n hx hb d_M_balance_30 rfl (lv_at hl 1 rfl) ?_
      refine wc_l (va_runV (As := [.int 2]) (rest := [.long ((mPut x 2) - (mTak x 2))]) ⟨hx, hb, hml, hown, hts⟩ (c_M_there2 l g ad hL x _) (cwV 1 hts (gd_V tw_549 tw_551 tw_22 tw_28 tw_552) rfl rfl rfl (by decide +kernel) ⟨Nat.le_of_ble_eq_true rfl, Nat.le_of_ble_eq_true rfl⟩) (wp_V hK hN hP hJ (0) (by omega) rfl rfl) rfl rfl hl.1 rfl (lv_room (Nat.le_of_ble_eq_true rfl)) d_M_balance_31 ⟨Nat.zero_le _, Nat.zero_le _⟩) hS (fun H locs hP hS => ?_)
      refine lv_lsub hx hb d_M_balance_34 ?_
      refine lv_topl (fun v_7 ev_7 => ?_)
      refine lv_lstore_n (lv' := [(2, .long v_7), (0, .ref (ad 0)), (1, .int 2)]) hx hb d_M_balance_35 rfl hl (by decide) rfl (fun ls hl => ?_)
      refine lv_iload_n hx hb d_M_balance_36 rfl (lv_at hl 2 rfl) ?_
      refine lv_if_ne (tgt := 49) hx hb d_M_balance_37 (by decide) (fun c_8 => ?_) (fun c_8 => absurd c_8 (by decide))
      refine lv_iload_n hx hb d_M_balance_49 rfl (lv_at hl 2 rfl) ?_
      refine lv_iconst (v := 1) hx hb d_M_balance_50 (by decide) ?_
      refine lv_icmp_ne (tgt := 87) hx hb d_M_balance_51 (by decide) (fun c_9 => ?_) (fun c_9 => absurd c_9 (by decide))
      refine lv_lload_n hx hb d_M_balance_87 rfl (lv_at hl 0 rfl) ?_
      refine lv_aload_n hx hb d_M_balance_88 rfl (lv_at hl 1 rfl) ?_
      refine wr_get hx hb hts in_M hown hK hP (0) (by omega) rfl rfl 21 (by decide) (hts _ tw_362) rfl d_M_balance_89 ?_
      refine lv_iconst (v := 4) hx hb d_M_balance_92 (by decide) ?_
      refine wr_laldv (v := xO x 0 4) hx hb hK hP (11) 0 (by omega) rfl rfl 4 (by decide) (by omega) (by omega) rfl d_M_balance_93 ?_
      refine lv_ladd hx hb d_M_balance_94 ?_
      refine lv_aload_n hx hb d_M_balance_95 rfl (lv_at hl 1 rfl) ?_
      refine wr_get hx hb hts in_M hown hK hP (0) (by omega) rfl rfl 21 (by decide) (hts _ tw_362) rfl d_M_balance_96 ?_
      refine lv_iconst (v := 5) hx hb d_M_balance_99 (by decide) ?_
      refine wr_laldv (v := xO x 0 5) hx hb hK hP (11) 0 (by omega) rfl rfl 5 (by decide) (by omega) (by omega) rfl d_M_balance_100 ?_
      refine lv_lsub hx hb d_M_balance_101 ?_
      refine lv_aload_n hx hb d_M_balance_102 rfl (lv_at hl 1 rfl) ?_
      refine wr_get hx hb hts in_M hown hK hP (0) (by omega) rfl rfl 21 (by decide) (hts _ tw_362) rfl d_M_balance_103 ?_
      refine lv_bipush (v := 6) hx hb d_M_balance_106 (by decide) ?_
      refine wr_laldv (v := xO x 0 6) hx hb hK hP (11) 0 (by omega) rfl rfl 6 (by decide) (by omega) (by omega) rfl d_M_balance_108 ?_
      refine lv_lsub hx hb d_M_balance_109 ?_
      subst ev_7
      exact W.lret hx hb hr (fun t ht hW => ⟨⟨_, (), rfl, by (try simp only [m_balance, if_neg c_1, if_neg (show ¬ nI 2 = 0 by decide), if_neg (show ¬ nI 2 = 1 by decide)]); first | done | rfl | assumption | exact x_within_1 (by assumption), by dsimp only; rw [ht]; (try simp only [m_balance, if_neg c_1, if_neg (show ¬ nI 2 = 0 by decide), if_neg (show ¬ nI 2 = 1 by decide)]); exact hP⟩, hS.F ht⟩) hS.2.2 d_M_balance_110
  · skip
    refine lv_ldc2 (v := -1) hx hb hown (hts _ tw_518) d_M_balance_12 ?_
    exact W.lret hx hb hr (fun t ht hW => ⟨⟨_, (), rfl, by (try simp only [m_balance, if_pos c_1, ite_self]); first | done | rfl | assumption | exact x_within_1 (by assumption), by dsimp only; rw [ht]; (try simp only [m_balance, if_pos c_1, ite_self]); exact hP⟩, hS.F ht⟩) hS.2.2 d_M_balance_15
