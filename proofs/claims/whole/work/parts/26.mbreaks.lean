set_option maxHeartbeats 4000000 in
set_option maxRecDepth 100000 in
theorem c_M_breaks (l : Launch) (g : wG) (ad : Nat → Nat) {L : Nat} (hL : 1 ≤ L ∧ L ≤ 6) (x : xS) (hrow : x_rows x) (i : Nat) (hi : i < 6) : CtV l y_M_breaks ws_M_breaks ({ frames := 2, cells := 0, slots := 0, locals := 45 }) g 14 ad (mE g ad L x) (mE g ad L (m_breaks x i)) [.ref (ad 0), .int (nI i)] := by
  intro sz
  refine Met.ofW (cc := b_M_breaks) (maxL := 11) (ret := none) (by decide +kernel) rfl ?_
  intro p e s m args below meth c s₁ B hml hv
  obtain ⟨rfl, hsz, hP, hK, hN, hJ⟩ := hv
  have hx := B.exec
  have hb := B.bytes
  have hr := B.returns
  have hts0 := atoms_spec (ws := ws_M_breaks) B.pre
  have hts : ∀ w ∈ tb, w.before _ s = true := fun w h => hts0 w (List.mem_cons_of_mem _ h)
  have hown : s.vm.findClass "HeapStepsModel" = some m.cls := findClass_of_methodNamed B.named
  have hlocks := B.notSynchronized
  subst hsz
  have hS : va_S (wA 14 ad s.heap.size) s.heap s.heap [] := va_S.rf
  have hl := lv_entry ([.ref (ad 0), .int (nI i)]) (n := 11) (Nat.le_of_ble_eq_true rfl)
  rw [lg_entry_eq]
  generalize (lg_sl ([.ref (ad 0), .int (nI i)]) ++ List.replicate (11 - (lg_sl ([.ref (ad 0), .int (nI i)])).length) Slot.unset).toArray = ls at hl ⊢
  have hl : lv_has ls 11 [(0, .ref (ad 0)), (1, .int (nI i))] := hl
  have hrow0 := hrow
  refine lv_aload_n hx hb d_M_breaks_0 rfl (lv_at hl 0 rfl) ?_
  refine lv_iload_n hx hb d_M_breaks_1 rfl (lv_at hl 1 rfl) ?_
  refine wc_l (va_runV (As := [.int (nI i)]) (rest := []) ⟨hx, hb, hml, hown, hts⟩ (c_M_warmthOf l g ad hL x i (by omega) _) (cwV 1 hts (gd_V tw_478 tw_480 tw_14 tw_28 tw_481) rfl rfl rfl (by decide +kernel) ⟨Nat.le_of_ble_eq_true rfl, Nat.le_of_ble_eq_true rfl⟩) (wp_V hK hN hP hJ (0) (by omega) rfl rfl) rfl rfl hl.1 rfl (lv_room (Nat.le_of_ble_eq_true rfl)) d_M_breaks_2 ⟨Nat.zero_le _, Nat.zero_le _⟩) hS (fun H locs hP hS => ?_)
  refine lv_topl (fun v_1 ev_1 => ?_)
  refine lv_lstore_n (lv' := [(2, .long v_1), (0, .ref (ad 0)), (1, .int (nI i))]) hx hb d_M_breaks_5 rfl hl (by decide) rfl (fun ls hl => ?_)
  refine lv_iconst (v := 0) hx hb d_M_breaks_6 (by decide) ?_
  refine lv_istore (lv' := [(4, .int 0), (2, .long v_1), (0, .ref (ad 0)), (1, .int (nI i))]) hx hb d_M_breaks_7 hl (by decide) rfl (fun ls hl => ?_)
  refine lv_iload hx hb d_M_breaks_9 (lv_at hl 0 rfl) ?_
  refine lv_iconst (v := 3) hx hb d_M_breaks_11 (by decide) ?_
  refine lv_icmp_ge (tgt := 146) hx hb d_M_breaks_12 (by decide) (fun c_2 => absurd c_2 (by decide)) (fun c_2 => ?_)
  refine lv_aload_n hx hb d_M_breaks_15 rfl (lv_at hl 2 rfl) ?_
  refine wr_get hx hb hts in_M hown hK hP (0) (by omega) rfl rfl 1 (by decide) (hts _ tw_342) rfl d_M_breaks_16 ?_
  refine lv_iconst (v := 3) hx hb d_M_breaks_19 (by decide) ?_
  refine lv_iload_n hx hb d_M_breaks_20 rfl (lv_at hl 3 rfl) ?_
  refine lv_imul hx hb d_M_breaks_21 ?_
  refine lv_iload hx hb d_M_breaks_22 (lv_at hl 0 rfl) ?_
  refine lv_iadd hx hb d_M_breaks_24 ?_
  refine wr_laldv (v := xT x i 0) hx hb hK hP (1) 0 (by omega) rfl rfl (3 * i + 0) (mI3 i 0) (by omega) (by omega) (mPA x i 0 (by omega)) d_M_breaks_25 ?_
  refine lv_aload_n hx hb d_M_breaks_26 rfl (lv_at hl 2 rfl) ?_
  refine lv_iload hx hb d_M_breaks_27 (lv_at hl 0 rfl) ?_
  refine lv_lload_n hx hb d_M_breaks_29 rfl (lv_at hl 1 rfl) ?_
  refine wc_l (va_runV (As := [.int 0, .long v_1]) (rest := [.long (xT x i 0)]) ⟨hx, hb, hml, hown, hts⟩ (c_M_rateOf l g ad hL x 0 (by omega) (hrow 0 (by omega)) v_1 _) (cwV 2 hts (gd_V tw_494 tw_496 tw_18 tw_28 tw_497) rfl rfl rfl (by decide +kernel) ⟨Nat.le_of_ble_eq_true rfl, Nat.le_of_ble_eq_true rfl⟩) (wp_V hK hN hP hJ (0) (by omega) rfl rfl) rfl rfl hl.1 rfl (lv_room (Nat.le_of_ble_eq_true rfl)) d_M_breaks_30 ⟨Nat.zero_le _, Nat.zero_le _⟩) hS (fun H locs hP hS => ?_)
  refine wc_l (va_runS (As := [.long (xT x i 0), .long (m_rate x 0 v_1)]) (rest := []) ⟨hx, hb, hml, hown, hts⟩ (c_M_partOf l g _ ad _ (xT x i 0) (m_rate x 0 v_1) _) (cwS 2 hts (gd_S tw_498 tw_499 tw_28 tw_500) rfl rfl rfl (by decide +kernel) ⟨Nat.le_of_ble_eq_true rfl, Nat.le_of_ble_eq_true rfl⟩) (wp_S hK hN hP hJ) rfl rfl hl.1 rfl (lv_room (Nat.le_of_ble_eq_true rfl)) d_M_breaks_33 ⟨Nat.zero_le _, Nat.zero_le _⟩) hS (fun H locs hP hS => ?_)
  refine lv_topl (fun v_3 ev_3 => ?_)
  refine lv_lstore (lv' := [(5, .long v_3), (4, .int 0), (2, .long v_1), (0, .ref (ad 0)), (1, .int (nI i))]) hx hb d_M_breaks_36 hl (by decide) rfl (fun ls hl => ?_)
  refine lv_aload_n hx hb d_M_breaks_38 rfl (lv_at hl 3 rfl) ?_
  refine wr_get hx hb hts in_M hown hK hP (0) (by omega) rfl rfl 1 (by decide) (hts _ tw_342) rfl d_M_breaks_39 ?_
  refine lv_iconst (v := 3) hx hb d_M_breaks_42 (by decide) ?_
  refine lv_iload_n hx hb d_M_breaks_43 rfl (lv_at hl 4 rfl) ?_
  refine lv_imul hx hb d_M_breaks_44 ?_
  refine lv_iload hx hb d_M_breaks_45 (lv_at hl 1 rfl) ?_
  refine lv_iadd hx hb d_M_breaks_47 ?_
  refine lv_dup2_11 hx hb d_M_breaks_48 rfl rfl ?_
  refine wr_laldv (v := xT x i 0) hx hb hK hP (1) 0 (by omega) rfl rfl (3 * i + 0) (mI3 i 0) (by omega) (by omega) (mPA x i 0 (by omega)) d_M_breaks_49 ?_
  refine lv_lload hx hb d_M_breaks_50 (lv_at hl 0 rfl) ?_
  refine lv_lsub hx hb d_M_breaks_52 ?_
  obtain ⟨x_4, ex_4⟩ : ∃ z9, z9 = xT' x i 0 ((xT x i 0) - v_3) := ⟨_, rfl⟩
  have hrow : x_rows x_4 := by rw [ex_4]; exact x_rows_of (xYs_T _ _ _ _) hrow
  refine wr_last (E' := mE g ad L x_4) hx hb hK hP hJ hS (1) 0 (by omega) rfl rfl (3 * i + 0) (mI3 i 0) (by omega) (by omega) (by rw [ex_4]; exact mU_PA g ad L x (i := i) (p := 0) (by omega) ((xT x i 0) - v_3)) d_M_breaks_53 (fun H locs hP hS => ?_)
  refine lv_aload_n hx hb d_M_breaks_54 rfl (lv_at hl 3 rfl) ?_
  refine wr_get hx hb hts in_M hown hK hP (0) (by omega) rfl rfl 21 (by decide) (hts _ tw_362) rfl d_M_breaks_55 ?_
  refine lv_iconst (v := 0) hx hb d_M_breaks_58 (by decide) ?_
  refine lv_dup2_11 hx hb d_M_breaks_59 rfl rfl ?_
  refine wr_laldv (v := xO x_4 0 0) hx hb hK hP (11) 0 (by omega) rfl rfl 0 (by decide) (by omega) (by omega) rfl d_M_breaks_60 ?_
  refine lv_lload hx hb d_M_breaks_61 (lv_at hl 0 rfl) ?_
  refine lv_ladd hx hb d_M_breaks_63 ?_
  obtain ⟨x_5, ex_5⟩ : ∃ z9, z9 = xO' x_4 0 0 ((xO x_4 0 0) + v_3) := ⟨_, rfl⟩
  have hrow : x_rows x_5 := by rw [ex_5]; exact x_rows_of (xYs_O _ _ _ _) hrow
  refine wr_last (E' := mE g ad L x_5) hx hb hK hP hJ hS (11) 0 (by omega) rfl rfl 0 (by decide) (by omega) (by omega) (by rw [ex_5]; exact mU_GO g ad L x_4 0 ((xO x_4 0 0) + v_3)) d_M_breaks_64 (fun H locs hP hS => ?_)
  refine lv_lload hx hb d_M_breaks_65 (lv_at hl 0 rfl) ?_
  refine lv_aload_n hx hb d_M_breaks_67 rfl (lv_at hl 3 rfl) ?_
  refine wr_get hx hb hts in_M hown hK hP (0) (by omega) rfl rfl 9 (by decide) (hts _ tw_350) rfl d_M_breaks_68 ?_
  refine lv_iload hx hb d_M_breaks_71 (lv_at hl 1 rfl) ?_
  refine wr_ialdv (v := xY x_5 0 1) hx hb hK hP (9) 1 (by omega) rfl rfl 0 (by decide) (by omega) (by omega) rfl d_M_breaks_73 ?_
  refine lv_i2l hx hb d_M_breaks_74 rfl ?_
  refine lv_lmul hx hb d_M_breaks_75 ?_
  refine lv_topl (fun v_6 ev_6 => ?_)
  refine lv_lstore (lv' := [(7, .long v_6), (5, .long v_3), (4, .int 0), (2, .long v_1), (0, .ref (ad 0)), (1, .int (nI i))]) hx hb d_M_breaks_76 hl (by decide) rfl (fun ls hl => ?_)
  refine lv_aload_n hx hb d_M_breaks_78 rfl (lv_at hl 4 rfl) ?_
  refine wr_get hx hb hts in_M hown hK hP (0) (by omega) rfl rfl 3 (by decide) (hts _ tw_344) rfl d_M_breaks_79 ?_
  refine lv_iload_n hx hb d_M_breaks_82 rfl (lv_at hl 5 rfl) ?_
  refine lv_dup2_11 hx hb d_M_breaks_83 rfl rfl ?_
  refine wr_laldv (v := xT x_5 i 4) hx hb hK hP (3) 0 (by omega) rfl rfl i rfl (by omega) (by omega) rfl d_M_breaks_84 ?_
  refine lv_lload hx hb d_M_breaks_85 (lv_at hl 0 rfl) ?_
  refine lv_ladd hx hb d_M_breaks_87 ?_
  obtain ⟨x_7, ex_7⟩ : ∃ z9, z9 = xT' x_5 i 4 ((xT x_5 i 4) + v_6) := ⟨_, rfl⟩
  have hrow : x_rows x_7 := by rw [ex_7]; exact x_rows_of (xYs_T _ _ _ _) hrow
  refine wr_last (E' := mE g ad L x_7) hx hb hK hP hJ hS (3) 0 (by omega) rfl rfl i rfl (by omega) (by omega) (by rw [ex_7]; exact mU_HE g ad L x_5 i ((xT x_5 i 4) + v_6)) d_M_breaks_88 (fun H locs hP hS => ?_)
  refine lv_aload_n hx hb d_M_breaks_89 rfl (lv_at hl 4 rfl) ?_
  refine wr_get hx hb hts in_M hown hK hP (0) (by omega) rfl rfl 21 (by decide) (hts _ tw_362) rfl d_M_breaks_90 ?_
  refine lv_iconst (v := 4) hx hb d_M_breaks_93 (by decide) ?_
  refine lv_dup2_11 hx hb d_M_breaks_94 rfl rfl ?_
  refine wr_laldv (v := xO x_7 0 4) hx hb hK hP (11) 0 (by omega) rfl rfl 4 (by decide) (by omega) (by omega) rfl d_M_breaks_95 ?_
  refine lv_lload hx hb d_M_breaks_96 (lv_at hl 0 rfl) ?_
  refine lv_ladd hx hb d_M_breaks_98 ?_
  obtain ⟨x_8, ex_8⟩ : ∃ z9, z9 = xO' x_7 0 4 ((xO x_7 0 4) + v_6) := ⟨_, rfl⟩
  have hrow : x_rows x_8 := by rw [ex_8]; exact x_rows_of (xYs_O _ _ _ _) hrow
  refine wr_last (E' := mE g ad L x_8) hx hb hK hP hJ hS (11) 0 (by omega) rfl rfl 4 (by decide) (by omega) (by omega) (by rw [ex_8]; exact mU_GO g ad L x_7 4 ((xO x_7 0 4) + v_6)) d_M_breaks_99 (fun H locs hP hS => ?_)
  refine lv_lload hx hb d_M_breaks_100 (lv_at hl 1 rfl) ?_
  refine lv_aload_n hx hb d_M_breaks_102 rfl (lv_at hl 4 rfl) ?_
  refine wr_get hx hb hts in_M hown hK hP (0) (by omega) rfl rfl 10 (by decide) (hts _ tw_351) rfl d_M_breaks_103 ?_
  refine lv_iload hx hb d_M_breaks_106 (lv_at hl 2 rfl) ?_
  refine wr_ialdv (v := xY x_8 0 2) hx hb hK hP (10) 1 (by omega) rfl rfl 0 (by decide) (by omega) (by omega) rfl d_M_breaks_108 ?_
  refine lv_i2l hx hb d_M_breaks_109 rfl ?_
  refine lv_lmul hx hb d_M_breaks_110 ?_
  refine lv_ldc2 (v := 1000) hx hb hown (hts _ tw_447) d_M_breaks_111 ?_
  refine lv_ldiv hx hb d_M_breaks_114 (by decide) ?_
  refine lv_topl (fun v_9 ev_9 => ?_)
  refine lv_lstore (lv' := [(9, .long v_9), (7, .long v_6), (5, .long v_3), (4, .int 0), (2, .long v_1), (0, .ref (ad 0)), (1, .int (nI i))]) hx hb d_M_breaks_115 hl (by decide) rfl (fun ls hl => ?_)
  refine lv_aload_n hx hb d_M_breaks_117 rfl (lv_at hl 5 rfl) ?_
  refine wr_get hx hb hts in_M hown hK hP (0) (by omega) rfl rfl 2 (by decide) (hts _ tw_343) rfl d_M_breaks_118 ?_
  refine lv_iload_n hx hb d_M_breaks_121 rfl (lv_at hl 6 rfl) ?_
  refine lv_dup2_11 hx hb d_M_breaks_122 rfl rfl ?_
  refine wr_laldv (v := xT x_8 i 3) hx hb hK hP (2) 0 (by omega) rfl rfl i rfl (by omega) (by omega) rfl d_M_breaks_123 ?_
  refine lv_lload hx hb d_M_breaks_124 (lv_at hl 0 rfl) ?_
  refine lv_ladd hx hb d_M_breaks_126 ?_
  obtain ⟨x_10, ex_10⟩ : ∃ z9, z9 = xT' x_8 i 3 ((xT x_8 i 3) + v_9) := ⟨_, rfl⟩
  have hrow : x_rows x_10 := by rw [ex_10]; exact x_rows_of (xYs_T _ _ _ _) hrow
  refine wr_last (E' := mE g ad L x_10) hx hb hK hP hJ hS (2) 0 (by omega) rfl rfl i rfl (by omega) (by omega) (by rw [ex_10]; exact mU_WA g ad L x_8 i ((xT x_8 i 3) + v_9)) d_M_breaks_127 (fun H locs hP hS => ?_)
  refine lv_aload_n hx hb d_M_breaks_128 rfl (lv_at hl 5 rfl) ?_
  refine wr_get hx hb hts in_M hown hK hP (0) (by omega) rfl rfl 21 (by decide) (hts _ tw_362) rfl d_M_breaks_129 ?_
  refine lv_bipush (v := 7) hx hb d_M_breaks_132 (by decide) ?_
  refine lv_dup2_11 hx hb d_M_breaks_134 rfl rfl ?_
  refine wr_laldv (v := xO x_10 0 7) hx hb hK hP (11) 0 (by omega) rfl rfl 7 (by decide) (by omega) (by omega) rfl d_M_breaks_135 ?_
  refine lv_lload hx hb d_M_breaks_136 (lv_at hl 0 rfl) ?_
  refine lv_ladd hx hb d_M_breaks_138 ?_
  obtain ⟨x_11, ex_11⟩ : ∃ z9, z9 = xO' x_10 0 7 ((xO x_10 0 7) + v_9) := ⟨_, rfl⟩
  have hrow : x_rows x_11 := by rw [ex_11]; exact x_rows_of (xYs_O _ _ _ _) hrow
  refine wr_last (E' := mE g ad L x_11) hx hb hK hP hJ hS (11) 0 (by omega) rfl rfl 7 (by decide) (by omega) (by omega) (by rw [ex_11]; exact mU_GO g ad L x_10 7 ((xO x_10 0 7) + v_9)) d_M_breaks_139 (fun H locs hP hS => ?_)
  obtain ⟨y_12, ey_12⟩ : ∃ z9, z9 = m_breakPart x i 0 v_1 := ⟨_, rfl⟩
  have hrow : x_rows y_12 := by rw [ey_12]; exact x_rows_of (xYs_mbreakPart _ _ _ _) hrow0
  have hrow0 := hrow
  have hP : va_P g.1 vwCl (wo 14 ad (mE g ad L y_12)) H := by
    subst ev_3
    subst ex_4
    subst ex_5
    subst ev_6
    subst ex_7
    subst ex_8
    subst ev_9
    subst ex_10
    subst ex_11
    rw [ey_12]; simp only [m_breakPart]; exact hP
  have hl : lv_has ls 11 [(4, .int 0), (2, .long v_1), (0, .ref (ad 0)), (1, .int (nI i))] := lv_sub hl [3, 4, 5, 6] rfl
  refine lv_iinc (v := 1) (lv' := [(4, .int 1), (2, .long v_1), (0, .ref (ad 0)), (1, .int (nI i))]) hx hb d_M_breaks_140 hl (k := 0) rfl (by decide) (by decide) rfl (fun ls hl => ?_)
  refine lv_goto (tgt := 9) hx hb d_M_breaks_143 (by decide) ?_
  refine lv_iload hx hb d_M_breaks_9 (lv_at hl 0 rfl) ?_
  refine lv_iconst (v := 3) hx hb d_M_breaks_11 (by decide) ?_
  refine lv_icmp_ge (tgt := 146) hx hb d_M_breaks_12 (by decide) (fun c_13 => absurd c_13 (by decide)) (fun c_13 => ?_)
  refine lv_aload_n hx hb d_M_breaks_15 rfl (lv_at hl 2 rfl) ?_
  refine wr_get hx hb hts in_M hown hK hP (0) (by omega) rfl rfl 1 (by decide) (hts _ tw_342) rfl d_M_breaks_16 ?_
  refine lv_iconst (v := 3) hx hb d_M_breaks_19 (by decide) ?_
  refine lv_iload_n hx hb d_M_breaks_20 rfl (lv_at hl 3 rfl) ?_
  refine lv_imul hx hb d_M_breaks_21 ?_
  refine lv_iload hx hb d_M_breaks_22 (lv_at hl 0 rfl) ?_
  refine lv_iadd hx hb d_M_breaks_24 ?_
  refine wr_laldv (v := xT y_12 i 1) hx hb hK hP (1) 0 (by omega) rfl rfl (3 * i + 1) (mI3 i 1) (by omega) (by omega) (mPA y_12 i 1 (by omega)) d_M_breaks_25 ?_
  refine lv_aload_n hx hb d_M_breaks_26 rfl (lv_at hl 2 rfl) ?_
  refine lv_iload hx hb d_M_breaks_27 (lv_at hl 0 rfl) ?_
  refine lv_lload_n hx hb d_M_breaks_29 rfl (lv_at hl 1 rfl) ?_
  refine wc_l (va_runV (As := [.int 1, .long v_1]) (rest := [.long (xT y_12 i 1)]) ⟨hx, hb, hml, hown, hts⟩ (c_M_rateOf l g ad hL y_12 1 (by omega) (hrow 1 (by omega)) v_1 _) (cwV 2 hts (gd_V tw_494 tw_496 tw_18 tw_28 tw_497) rfl rfl rfl (by decide +kernel) ⟨Nat.le_of_ble_eq_true rfl, Nat.le_of_ble_eq_true rfl⟩) (wp_V hK hN hP hJ (0) (by omega) rfl rfl) rfl rfl hl.1 rfl (lv_room (Nat.le_of_ble_eq_true rfl)) d_M_breaks_30 ⟨Nat.zero_le _, Nat.zero_le _⟩) hS (fun H locs hP hS => ?_)
  refine wc_l (va_runS (As := [.long (xT y_12 i 1), .long (m_rate y_12 1 v_1)]) (rest := []) ⟨hx, hb, hml, hown, hts⟩ (c_M_partOf l g _ ad _ (xT y_12 i 1) (m_rate y_12 1 v_1) _) (cwS 2 hts (gd_S tw_498 tw_499 tw_28 tw_500) rfl rfl rfl (by decide +kernel) ⟨Nat.le_of_ble_eq_true rfl, Nat.le_of_ble_eq_true rfl⟩) (wp_S hK hN hP hJ) rfl rfl hl.1 rfl (lv_room (Nat.le_of_ble_eq_true rfl)) d_M_breaks_33 ⟨Nat.zero_le _, Nat.zero_le _⟩) hS (fun H locs hP hS => ?_)
  refine lv_topl (fun v_14 ev_14 => ?_)
  refine lv_lstore (lv' := [(5, .long v_14), (4, .int 1), (2, .long v_1), (0, .ref (ad 0)), (1, .int (nI i))]) hx hb d_M_breaks_36 hl (by decide) rfl (fun ls hl => ?_)
  refine lv_aload_n hx hb d_M_breaks_38 rfl (lv_at hl 3 rfl) ?_
  refine wr_get hx hb hts in_M hown hK hP (0) (by omega) rfl rfl 1 (by decide) (hts _ tw_342) rfl d_M_breaks_39 ?_
  refine lv_iconst (v := 3) hx hb d_M_breaks_42 (by decide) ?_
  refine lv_iload_n hx hb d_M_breaks_43 rfl (lv_at hl 4 rfl) ?_
  refine lv_imul hx hb d_M_breaks_44 ?_
  refine lv_iload hx hb d_M_breaks_45 (lv_at hl 1 rfl) ?_
  refine lv_iadd hx hb d_M_breaks_47 ?_
  refine lv_dup2_11 hx hb d_M_breaks_48 rfl rfl ?_
  refine wr_laldv (v := xT y_12 i 1) hx hb hK hP (1) 0 (by omega) rfl rfl (3 * i + 1) (mI3 i 1) (by omega) (by omega) (mPA y_12 i 1 (by omega)) d_M_breaks_49 ?_
  refine lv_lload hx hb d_M_breaks_50 (lv_at hl 0 rfl) ?_
  refine lv_lsub hx hb d_M_breaks_52 ?_
  obtain ⟨x_15, ex_15⟩ : ∃ z9, z9 = xT' y_12 i 1 ((xT y_12 i 1) - v_14) := ⟨_, rfl⟩
  have hrow : x_rows x_15 := by rw [ex_15]; exact x_rows_of (xYs_T _ _ _ _) hrow
  refine wr_last (E' := mE g ad L x_15) hx hb hK hP hJ hS (1) 0 (by omega) rfl rfl (3 * i + 1) (mI3 i 1) (by omega) (by omega) (by rw [ex_15]; exact mU_PA g ad L y_12 (i := i) (p := 1) (by omega) ((xT y_12 i 1) - v_14)) d_M_breaks_53 (fun H locs hP hS => ?_)
  refine lv_aload_n hx hb d_M_breaks_54 rfl (lv_at hl 3 rfl) ?_
  refine wr_get hx hb hts in_M hown hK hP (0) (by omega) rfl rfl 21 (by decide) (hts _ tw_362) rfl d_M_breaks_55 ?_
  refine lv_iconst (v := 0) hx hb d_M_breaks_58 (by decide) ?_
  refine lv_dup2_11 hx hb d_M_breaks_59 rfl rfl ?_
  refine wr_laldv (v := xO x_15 0 0) hx hb hK hP (11) 0 (by omega) rfl rfl 0 (by decide) (by omega) (by omega) rfl d_M_breaks_60 ?_
  refine lv_lload hx hb d_M_breaks_61 (lv_at hl 0 rfl) ?_
  refine lv_ladd hx hb d_M_breaks_63 ?_
  obtain ⟨x_16, ex_16⟩ : ∃ z9, z9 = xO' x_15 0 0 ((xO x_15 0 0) + v_14) := ⟨_, rfl⟩
  have hrow : x_rows x_16 := by rw [ex_16]; exact x_rows_of (xYs_O _ _ _ _) hrow
  refine wr_last (E' := mE g ad L x_16) hx hb hK hP hJ hS (11) 0 (by omega) rfl rfl 0 (by decide) (by omega) (by omega) (by rw [ex_16]; exact mU_GO g ad L x_15 0 ((xO x_15 0 0) + v_14)) d_M_breaks_64 (fun H locs hP hS => ?_)
  refine lv_lload hx hb d_M_breaks_65 (lv_at hl 0 rfl) ?_
  refine lv_aload_n hx hb d_M_breaks_67 rfl (lv_at hl 3 rfl) ?_
  refine wr_get hx hb hts in_M hown hK hP (0) (by omega) rfl rfl 9 (by decide) (hts _ tw_350) rfl d_M_breaks_68 ?_
  refine lv_iload hx hb d_M_breaks_71 (lv_at hl 1 rfl) ?_
  refine wr_ialdv (v := xY x_16 1 1) hx hb hK hP (9) 1 (by omega) rfl rfl 1 (by decide) (by omega) (by omega) rfl d_M_breaks_73 ?_
  refine lv_i2l hx hb d_M_breaks_74 rfl ?_
  refine lv_lmul hx hb d_M_breaks_75 ?_
  refine lv_topl (fun v_17 ev_17 => ?_)
  refine lv_lstore (lv' := [(7, .long v_17), (5, .long v_14), (4, .int 1), (2, .long v_1), (0, .ref (ad 0)), (1, .int (nI i))]) hx hb d_M_breaks_76 hl (by decide) rfl (fun ls hl => ?_)
  refine lv_aload_n hx hb d_M_breaks_78 rfl (lv_at hl 4 rfl) ?_
  refine wr_get hx hb hts in_M hown hK hP (0) (by omega) rfl rfl 3 (by decide) (hts _ tw_344) rfl d_M_breaks_79 ?_
  refine lv_iload_n hx hb d_M_breaks_82 rfl (lv_at hl 5 rfl) ?_
  refine lv_dup2_11 hx hb d_M_breaks_83 rfl rfl ?_
  refine wr_laldv (v := xT x_16 i 4) hx hb hK hP (3) 0 (by omega) rfl rfl i rfl (by omega) (by omega) rfl d_M_breaks_84 ?_
  refine lv_lload hx hb d_M_breaks_85 (lv_at hl 0 rfl) ?_
  refine lv_ladd hx hb d_M_breaks_87 ?_
  obtain ⟨x_18, ex_18⟩ : ∃ z9, z9 = xT' x_16 i 4 ((xT x_16 i 4) + v_17) := ⟨_, rfl⟩
  have hrow : x_rows x_18 := by rw [ex_18]; exact x_rows_of (xYs_T _ _ _ _) hrow
  refine wr_last (E' := mE g ad L x_18) hx hb hK hP hJ hS (3) 0 (by omega) rfl rfl i rfl (by omega) (by omega) (by rw [ex_18]; exact mU_HE g ad L x_16 i ((xT x_16 i 4) + v_17)) d_M_breaks_88 (fun H locs hP hS => ?_)
  refine lv_aload_n hx hb d_M_breaks_89 rfl (lv_at hl 4 rfl) ?_
  refine wr_get hx hb hts in_M hown hK hP (0) (by omega) rfl rfl 21 (by decide) (hts _ tw_362) rfl d_M_breaks_90 ?_
  refine lv_iconst (v := 4) hx hb d_M_breaks_93 (by decide) ?_
  refine lv_dup2_11 hx hb d_M_breaks_94 rfl rfl ?_
  refine wr_laldv (v := xO x_18 0 4) hx hb hK hP (11) 0 (by omega) rfl rfl 4 (by decide) (by omega) (by omega) rfl d_M_breaks_95 ?_
  refine lv_lload hx hb d_M_breaks_96 (lv_at hl 0 rfl) ?_
  refine lv_ladd hx hb d_M_breaks_98 ?_
  obtain ⟨x_19, ex_19⟩ : ∃ z9, z9 = xO' x_18 0 4 ((xO x_18 0 4) + v_17) := ⟨_, rfl⟩
  have hrow : x_rows x_19 := by rw [ex_19]; exact x_rows_of (xYs_O _ _ _ _) hrow
  refine wr_last (E' := mE g ad L x_19) hx hb hK hP hJ hS (11) 0 (by omega) rfl rfl 4 (by decide) (by omega) (by omega) (by rw [ex_19]; exact mU_GO g ad L x_18 4 ((xO x_18 0 4) + v_17)) d_M_breaks_99 (fun H locs hP hS => ?_)
  refine lv_lload hx hb d_M_breaks_100 (lv_at hl 1 rfl) ?_
  refine lv_aload_n hx hb d_M_breaks_102 rfl (lv_at hl 4 rfl) ?_
  refine wr_get hx hb hts in_M hown hK hP (0) (by omega) rfl rfl 10 (by decide) (hts _ tw_351) rfl d_M_breaks_103 ?_
  refine lv_iload hx hb d_M_breaks_106 (lv_at hl 2 rfl) ?_
  refine wr_ialdv (v := xY x_19 1 2) hx hb hK hP (10) 1 (by omega) rfl rfl 1 (by decide) (by omega) (by omega) rfl d_M_breaks_108 ?_
  refine lv_i2l hx hb d_M_breaks_109 rfl ?_
  refine lv_lmul hx hb d_M_breaks_110 ?_
  refine lv_ldc2 (v := 1000) hx hb hown (hts _ tw_447) d_M_breaks_111 ?_
  refine lv_ldiv hx hb d_M_breaks_114 (by decide) ?_
  refine lv_topl (fun v_20 ev_20 => ?_)
  refine lv_lstore (lv' := [(9, .long v_20), (7, .long v_17), (5, .long v_14), (4, .int 1), (2, .long v_1), (0, .ref (ad 0)), (1, .int (nI i))]) hx hb d_M_breaks_115 hl (by decide) rfl (fun ls hl => ?_)
  refine lv_aload_n hx hb d_M_breaks_117 rfl (lv_at hl 5 rfl) ?_
  refine wr_get hx hb hts in_M hown hK hP (0) (by omega) rfl rfl 2 (by decide) (hts _ tw_343) rfl d_M_breaks_118 ?_
  refine lv_iload_n hx hb d_M_breaks_121 rfl (lv_at hl 6 rfl) ?_
  refine lv_dup2_11 hx hb d_M_breaks_122 rfl rfl ?_
  refine wr_laldv (v := xT x_19 i 3) hx hb hK hP (2) 0 (by omega) rfl rfl i rfl (by omega) (by omega) rfl d_M_breaks_123 ?_
  refine lv_lload hx hb d_M_breaks_124 (lv_at hl 0 rfl) ?_
  refine lv_ladd hx hb d_M_breaks_126 ?_
  obtain ⟨x_21, ex_21⟩ : ∃ z9, z9 = xT' x_19 i 3 ((xT x_19 i 3) + v_20) := ⟨_, rfl⟩
  have hrow : x_rows x_21 := by rw [ex_21]; exact x_rows_of (xYs_T _ _ _ _) hrow
  refine wr_last (E' := mE g ad L x_21) hx hb hK hP hJ hS (2) 0 (by omega) rfl rfl i rfl (by omega) (by omega) (by rw [ex_21]; exact mU_WA g ad L x_19 i ((xT x_19 i 3) + v_20)) d_M_breaks_127 (fun H locs hP hS => ?_)
  refine lv_aload_n hx hb d_M_breaks_128 rfl (lv_at hl 5 rfl) ?_
  refine wr_get hx hb hts in_M hown hK hP (0) (by omega) rfl rfl 21 (by decide) (hts _ tw_362) rfl d_M_breaks_129 ?_
  refine lv_bipush (v := 7) hx hb d_M_breaks_132 (by decide) ?_
  refine lv_dup2_11 hx hb d_M_breaks_134 rfl rfl ?_
  refine wr_laldv (v := xO x_21 0 7) hx hb hK hP (11) 0 (by omega) rfl rfl 7 (by decide) (by omega) (by omega) rfl d_M_breaks_135 ?_
  refine lv_lload hx hb d_M_breaks_136 (lv_at hl 0 rfl) ?_
  refine lv_ladd hx hb d_M_breaks_138 ?_
  obtain ⟨x_22, ex_22⟩ : ∃ z9, z9 = xO' x_21 0 7 ((xO x_21 0 7) + v_20) := ⟨_, rfl⟩
  have hrow : x_rows x_22 := by rw [ex_22]; exact x_rows_of (xYs_O _ _ _ _) hrow
  refine wr_last (E' := mE g ad L x_22) hx hb hK hP hJ hS (11) 0 (by omega) rfl rfl 7 (by decide) (by omega) (by omega) (by rw [ex_22]; exact mU_GO g ad L x_21 7 ((xO x_21 0 7) + v_20)) d_M_breaks_139 (fun H locs hP hS => ?_)
  obtain ⟨y_23, ey_23⟩ : ∃ z9, z9 = m_breakPart y_12 i 1 v_1 := ⟨_, rfl⟩
  have hrow : x_rows y_23 := by rw [ey_23]; exact x_rows_of (xYs_mbreakPart _ _ _ _) hrow0
  have hrow0 := hrow
  have hP : va_P g.1 vwCl (wo 14 ad (mE g ad L y_23)) H := by
    subst ev_14
    subst ex_15
    subst ex_16
    subst ev_17
    subst ex_18
    subst ex_19
    subst ev_20
    subst ex_21
    subst ex_22
    rw [ey_23]; simp only [m_breakPart]; exact hP
  have hl : lv_has ls 11 [(4, .int 1), (2, .long v_1), (0, .ref (ad 0)), (1, .int (nI i))] := lv_sub hl [3, 4, 5, 6] rfl
  refine lv_iinc (v := 2) (lv' := [(4, .int 2), (2, .long v_1), (0, .ref (ad 0)), (1, .int (nI i))]) hx hb d_M_breaks_140 hl (k := 0) rfl (by decide) (by decide) rfl (fun ls hl => ?_)
  refine lv_goto (tgt := 9) hx hb d_M_breaks_143 (by decide) ?_
  refine lv_iload hx hb d_M_breaks_9 (lv_at hl 0 rfl) ?_
  refine lv_iconst (v := 3) hx hb d_M_breaks_11 (by decide) ?_
  refine lv_icmp_ge (tgt := 146) hx hb d_M_breaks_12 (by decide) (fun c_24 => absurd c_24 (by decide)) (fun c_24 => ?_)
  refine lv_aload_n hx hb d_M_breaks_15 rfl (lv_at hl 2 rfl) ?_
  refine wr_get hx hb hts in_M hown hK hP (0) (by omega) rfl rfl 1 (by decide) (hts _ tw_342) rfl d_M_breaks_16 ?_
  refine lv_iconst (v := 3) hx hb d_M_breaks_19 (by decide) ?_
  refine lv_iload_n hx hb d_M_breaks_20 rfl (lv_at hl 3 rfl) ?_
  refine lv_imul hx hb d_M_breaks_21 ?_
  refine lv_iload hx hb d_M_breaks_22 (lv_at hl 0 rfl) ?_
  refine lv_iadd hx hb d_M_breaks_24 ?_
  refine wr_laldv (v := xT y_23 i 2) hx hb hK hP (1) 0 (by omega) rfl rfl (3 * i + 2) (mI3 i 2) (by omega) (by omega) (mPA y_23 i 2 (by omega)) d_M_breaks_25 ?_
  refine lv_aload_n hx hb d_M_breaks_26 rfl (lv_at hl 2 rfl) ?_
  refine lv_iload hx hb d_M_breaks_27 (lv_at hl 0 rfl) ?_
  refine lv_lload_n hx hb d_M_breaks_29 rfl (lv_at hl 1 rfl) ?_
  refine wc_l (va_runV (As := [.int 2, .long v_1]) (rest := [.long (xT y_23 i 2)]) ⟨hx, hb, hml, hown, hts⟩ (c_M_rateOf l g ad hL y_23 2 (by omega) (hrow 2 (by omega)) v_1 _) (cwV 2 hts (gd_V tw_494 tw_496 tw_18 tw_28 tw_497) rfl rfl rfl (by decide +kernel) ⟨Nat.le_of_ble_eq_true rfl, Nat.le_of_ble_eq_true rfl⟩) (wp_V hK hN hP hJ (0) (by omega) rfl rfl) rfl rfl hl.1 rfl (lv_room (Nat.le_of_ble_eq_true rfl)) d_M_breaks_30 ⟨Nat.zero_le _, Nat.zero_le _⟩) hS (fun H locs hP hS => ?_)
  refine wc_l (va_runS (As := [.long (xT y_23 i 2), .long (m_rate y_23 2 v_1)]) (rest := []) ⟨hx, hb, hml, hown, hts⟩ (c_M_partOf l g _ ad _ (xT y_23 i 2) (m_rate y_23 2 v_1) _) (cwS 2 hts (gd_S tw_498 tw_499 tw_28 tw_500) rfl rfl rfl (by decide +kernel) ⟨Nat.le_of_ble_eq_true rfl, Nat.le_of_ble_eq_true rfl⟩) (wp_S hK hN hP hJ) rfl rfl hl.1 rfl (lv_room (Nat.le_of_ble_eq_true rfl)) d_M_breaks_33 ⟨Nat.zero_le _, Nat.zero_le _⟩) hS (fun H locs hP hS => ?_)
  refine lv_topl (fun v_25 ev_25 => ?_)
  refine lv_lstore (lv' := [(5, .long v_25), (4, .int 2), (2, .long v_1), (0, .ref (ad 0)), (1, .int (nI i))]) hx hb d_M_breaks_36 hl (by decide) rfl (fun ls hl => ?_)
  refine lv_aload_n hx hb d_M_breaks_38 rfl (lv_at hl 3 rfl) ?_
  refine wr_get hx hb hts in_M hown hK hP (0) (by omega) rfl rfl 1 (by decide) (hts _ tw_342) rfl d_M_breaks_39 ?_
  refine lv_iconst (v := 3) hx hb d_M_breaks_42 (by decide) ?_
  refine lv_iload_n hx hb d_M_breaks_43 rfl (lv_at hl 4 rfl) ?_
  refine lv_imul hx hb d_M_breaks_44 ?_
  refine lv_iload hx hb d_M_breaks_45 (lv_at hl 1 rfl) ?_
  refine lv_iadd hx hb d_M_breaks_47 ?_
  refine lv_dup2_11 hx hb d_M_breaks_48 rfl rfl ?_
  refine wr_laldv (v := xT y_23 i 2) hx hb hK hP (1) 0 (by omega) rfl rfl (3 * i + 2) (mI3 i 2) (by omega) (by omega) (mPA y_23 i 2 (by omega)) d_M_breaks_49 ?_
  refine lv_lload hx hb d_M_breaks_50 (lv_at hl 0 rfl) ?_
  refine lv_lsub hx hb d_M_breaks_52 ?_
  obtain ⟨x_26, ex_26⟩ : ∃ z9, z9 = xT' y_23 i 2 ((xT y_23 i 2) - v_25) := ⟨_, rfl⟩
  have hrow : x_rows x_26 := by rw [ex_26]; exact x_rows_of (xYs_T _ _ _ _) hrow
  refine wr_last (E' := mE g ad L x_26) hx hb hK hP hJ hS (1) 0 (by omega) rfl rfl (3 * i + 2) (mI3 i 2) (by omega) (by omega) (by rw [ex_26]; exact mU_PA g ad L y_23 (i := i) (p := 2) (by omega) ((xT y_23 i 2) - v_25)) d_M_breaks_53 (fun H locs hP hS => ?_)
  refine lv_aload_n hx hb d_M_breaks_54 rfl (lv_at hl 3 rfl) ?_
  refine wr_get hx hb hts in_M hown hK hP (0) (by omega) rfl rfl 21 (by decide) (hts _ tw_362) rfl d_M_breaks_55 ?_
  refine lv_iconst (v := 0) hx hb d_M_breaks_58 (by decide) ?_
  refine lv_dup2_11 hx hb d_M_breaks_59 rfl rfl ?_
  refine wr_laldv (v := xO x_26 0 0) hx hb hK hP (11) 0 (by omega) rfl rfl 0 (by decide) (by omega) (by omega) rfl d_M_breaks_60 ?_
  refine lv_lload hx hb d_M_breaks_61 (lv_at hl 0 rfl) ?_
  refine lv_ladd hx hb d_M_breaks_63 ?_
  obtain ⟨x_27, ex_27⟩ : ∃ z9, z9 = xO' x_26 0 0 ((xO x_26 0 0) + v_25) := ⟨_, rfl⟩
  have hrow : x_rows x_27 := by rw [ex_27]; exact x_rows_of (xYs_O _ _ _ _) hrow
  refine wr_last (E' := mE g ad L x_27) hx hb hK hP hJ hS (11) 0 (by omega) rfl rfl 0 (by decide) (by omega) (by omega) (by rw [ex_27]; exact mU_GO g ad L x_26 0 ((xO x_26 0 0) + v_25)) d_M_breaks_64 (fun H locs hP hS => ?_)
  refine lv_lload hx hb d_M_breaks_65 (lv_at hl 0 rfl) ?_
  refine lv_aload_n hx hb d_M_breaks_67 rfl (lv_at hl 3 rfl) ?_
  refine wr_get hx hb hts in_M hown hK hP (0) (by omega) rfl rfl 9 (by decide) (hts _ tw_350) rfl d_M_breaks_68 ?_
  refine lv_iload hx hb d_M_breaks_71 (lv_at hl 1 rfl) ?_
  refine wr_ialdv (v := xY x_27 2 1) hx hb hK hP (9) 1 (by omega) rfl rfl 2 (by decide) (by omega) (by omega) rfl d_M_breaks_73 ?_
  refine lv_i2l hx hb d_M_breaks_74 rfl ?_
  refine lv_lmul hx hb d_M_breaks_75 ?_
  refine lv_topl (fun v_28 ev_28 => ?_)
  refine lv_lstore (lv' := [(7, .long v_28), (5, .long v_25), (4, .int 2), (2, .long v_1), (0, .ref (ad 0)), (1, .int (nI i))]) hx hb d_M_breaks_76 hl (by decide) rfl (fun ls hl => ?_)
  refine lv_aload_n hx hb d_M_breaks_78 rfl (lv_at hl 4 rfl) ?_
  refine wr_get hx hb hts in_M hown hK hP (0) (by omega) rfl rfl 3 (by decide) (hts _ tw_344) rfl d_M_breaks_79 ?_
  refine lv_iload_n hx hb d_M_breaks_82 rfl (lv_at hl 5 rfl) ?_
  refine lv_dup2_11 hx hb d_M_breaks_83 rfl rfl ?_
  refine wr_laldv (v := xT x_27 i 4) hx hb hK hP (3) 0 (by omega) rfl rfl i rfl (by omega) (by omega) rfl d_M_breaks_84 ?_
  refine lv_lload hx hb d_M_breaks_85 (lv_at hl 0 rfl) ?_
  refine lv_ladd hx hb d_M_breaks_87 ?_
  obtain ⟨x_29, ex_29⟩ : ∃ z9, z9 = xT' x_27 i 4 ((xT x_27 i 4) + v_28) := ⟨_, rfl⟩
  have hrow : x_rows x_29 := by rw [ex_29]; exact x_rows_of (xYs_T _ _ _ _) hrow
  refine wr_last (E' := mE g ad L x_29) hx hb hK hP hJ hS (3) 0 (by omega) rfl rfl i rfl (by omega) (by omega) (by rw [ex_29]; exact mU_HE g ad L x_27 i ((xT x_27 i 4) + v_28)) d_M_breaks_88 (fun H locs hP hS => ?_)
  refine lv_aload_n hx hb d_M_breaks_89 rfl (lv_at hl 4 rfl) ?_
  refine wr_get hx hb hts in_M hown hK hP (0) (by omega) rfl rfl 21 (by decide) (hts _ tw_362) rfl d_M_breaks_90 ?_
  refine lv_iconst (v := 4) hx hb d_M_breaks_93 (by decide) ?_
  refine lv_dup2_11 hx hb d_M_breaks_94 rfl rfl ?_
  refine wr_laldv (v := xO x_29 0 4) hx hb hK hP (11) 0 (by omega) rfl rfl 4 (by decide) (by omega) (by omega) rfl d_M_breaks_95 ?_
  refine lv_lload hx hb d_M_breaks_96 (lv_at hl 0 rfl) ?_
  refine lv_ladd hx hb d_M_breaks_98 ?_
  obtain ⟨x_30, ex_30⟩ : ∃ z9, z9 = xO' x_29 0 4 ((xO x_29 0 4) + v_28) := ⟨_, rfl⟩
  have hrow : x_rows x_30 := by rw [ex_30]; exact x_rows_of (xYs_O _ _ _ _) hrow
  refine wr_last (E' := mE g ad L x_30) hx hb hK hP hJ hS (11) 0 (by omega) rfl rfl 4 (by decide) (by omega) (by omega) (by rw [ex_30]; exact mU_GO g ad L x_29 4 ((xO x_29 0 4) + v_28)) d_M_breaks_99 (fun H locs hP hS => ?_)
  refine lv_lload hx hb d_M_breaks_100 (lv_at hl 1 rfl) ?_
  refine lv_aload_n hx hb d_M_breaks_102 rfl (lv_at hl 4 rfl) ?_
  refine wr_get hx hb hts in_M hown hK hP (0) (by omega) rfl rfl 10 (by decide) (hts _ tw_351) rfl d_M_breaks_103 ?_
  refine lv_iload hx hb d_M_breaks_106 (lv_at hl 2 rfl) ?_
  refine wr_ialdv (v := xY x_30 2 2) hx hb hK hP (10) 1 (by omega) rfl rfl 2 (by decide) (by omega) (by omega) rfl d_M_breaks_108 ?_
  refine lv_i2l hx hb d_M_breaks_109 rfl ?_
  refine lv_lmul hx hb d_M_breaks_110 ?_
  refine lv_ldc2 (v := 1000) hx hb hown (hts _ tw_447) d_M_breaks_111 ?_
  refine lv_ldiv hx hb d_M_breaks_114 (by decide) ?_
  refine lv_topl (fun v_31 ev_31 => ?_)
  refine lv_lstore (lv' := [(9, .long v_31), (7, .long v_28), (5, .long v_25), (4, .int 2), (2, .long v_1), (0, .ref (ad 0)), (1, .int (nI i))]) hx hb d_M_breaks_115 hl (by decide) rfl (fun ls hl => ?_)
  refine lv_aload_n hx hb d_M_breaks_117 rfl (lv_at hl 5 rfl) ?_
  refine wr_get hx hb hts in_M hown hK hP (0) (by omega) rfl rfl 2 (by decide) (hts _ tw_343) rfl d_M_breaks_118 ?_
  refine lv_iload_n hx hb d_M_breaks_121 rfl (lv_at hl 6 rfl) ?_
  refine lv_dup2_11 hx hb d_M_breaks_122 rfl rfl ?_
  refine wr_laldv (v := xT x_30 i 3) hx hb hK hP (2) 0 (by omega) rfl rfl i rfl (by omega) (by omega) rfl d_M_breaks_123 ?_
  refine lv_lload hx hb d_M_breaks_124 (lv_at hl 0 rfl) ?_
  refine lv_ladd hx hb d_M_breaks_126 ?_
  obtain ⟨x_32, ex_32⟩ : ∃ z9, z9 = xT' x_30 i 3 ((xT x_30 i 3) + v_31) := ⟨_, rfl⟩
  have hrow : x_rows x_32 := by rw [ex_32]; exact x_rows_of (xYs_T _ _ _ _) hrow
  refine wr_last (E' := mE g ad L x_32) hx hb hK hP hJ hS (2) 0 (by omega) rfl rfl i rfl (by omega) (by omega) (by rw [ex_32]; exact mU_WA g ad L x_30 i ((xT x_30 i 3) + v_31)) d_M_breaks_127 (fun H locs hP hS => ?_)
  refine lv_aload_n hx hb d_M_breaks_128 rfl (lv_at hl 5 rfl) ?_
  refine wr_get hx hb hts in_M hown hK hP (0) (by omega) rfl rfl 21 (by decide) (hts _ tw_362) rfl d_M_breaks_129 ?_
  refine lv_bipush (v := 7) hx hb d_M_breaks_132 (by decide) ?_
  refine lv_dup2_11 hx hb d_M_breaks_134 rfl rfl ?_
  refine wr_laldv (v := xO x_32 0 7) hx hb hK hP (11) 0 (by omega) rfl rfl 7 (by decide) (by omega) (by omega) rfl d_M_breaks_135 ?_
  refine lv_lload hx hb d_M_breaks_136 (lv_at hl 0 rfl) ?_
  refine lv_ladd hx hb d_M_breaks_138 ?_
  obtain ⟨x_33, ex_33⟩ : ∃ z9, z9 = xO' x_32 0 7 ((xO x_32 0 7) + v_31) := ⟨_, rfl⟩
  have hrow : x_rows x_33 := by rw [ex_33]; exact x_rows_of (xYs_O _ _ _ _) hrow
  refine wr_last (E' := mE g ad L x_33) hx hb hK hP hJ hS (11) 0 (by omega) rfl rfl 7 (by decide) (by omega) (by omega) (by rw [ex_33]; exact mU_GO g ad L x_32 7 ((xO x_32 0 7) + v_31)) d_M_breaks_139 (fun H locs hP hS => ?_)
  obtain ⟨y_34, ey_34⟩ : ∃ z9, z9 = m_breakPart y_23 i 2 v_1 := ⟨_, rfl⟩
  have hrow : x_rows y_34 := by rw [ey_34]; exact x_rows_of (xYs_mbreakPart _ _ _ _) hrow0
  have hrow0 := hrow
  have hP : va_P g.1 vwCl (wo 14 ad (mE g ad L y_34)) H := by
    subst ev_25
    subst ex_26
    subst ex_27
    subst ev_28
    subst ex_29
    subst ex_30
    subst ev_31
    subst ex_32
    subst ex_33
    rw [ey_34]; simp only [m_breakPart]; exact hP
  have hl : lv_has ls 11 [(4, .int 2), (2, .long v_1), (0, .ref (ad 0)), (1, .int (nI i))] := lv_sub hl [3, 4, 5, 6] rfl
  refine lv_iinc (v := 3) (lv' := [(4, .int 3), (2, .long v_1), (0, .ref (ad 0)), (1, .int (nI i))]) hx hb d_M_breaks_140 hl (k := 0) rfl (by decide) (by decide) rfl (fun ls hl => ?_)
  refine lv_goto (tgt := 9) hx hb d_M_breaks_143 (by decide) ?_
  refine lv_iload hx hb d_M_breaks_9 (lv_at hl 0 rfl) ?_
  refine lv_iconst (v := 3) hx hb d_M_breaks_11 (by decide) ?_
  refine lv_icmp_ge (tgt := 146) hx hb d_M_breaks_12 (by decide) (fun c_35 => ?_) (fun c_35 => absurd (by decide) c_35)
  subst ev_1
  subst ey_12
  subst ey_23
  subst ey_34
  exact W.vret hx hb hr (fun t ht hW => ⟨⟨(), rfl, trivial, by dsimp only; rw [ht]; (try simp only [m_breaks, ite_self]); exact hP⟩, hS.F ht⟩) hS.2.2 d_M_breaks_146
