set_option maxHeartbeats 4000000 in
set_option maxRecDepth 100000 in
theorem c_M_minute (l : Launch) (g : wG) (ad : Nat → Nat) {L : Nat} (hL : 1 ≤ L ∧ L ≤ 6) (x : xS) (hrow : x_rows x) : CtV l y_M_minute ws_M_minute ({ frames := 4, cells := 0, slots := 0, locals := 94 }) g 14 ad (mE g ad L x) (mE g ad L (m_minute L x)) [.ref (ad 0)] := by
  intro sz
  refine Met.ofW (cc := b_M_minute) (maxL := 4) (ret := none) (by decide +kernel) rfl ?_
  intro p e s m args below meth c s₁ B hml hv
  obtain ⟨rfl, hsz, hP, hK, hN, hJ⟩ := hv
  have hx := B.exec
  have hb := B.bytes
  have hr := B.returns
  have hts0 := atoms_spec (ws := ws_M_minute) B.pre
  have hts : ∀ w ∈ tb, w.before _ s = true := fun w h => hts0 w (List.mem_cons_of_mem _ h)
  have hown : s.vm.findClass "HeapStepsModel" = some m.cls := findClass_of_methodNamed B.named
  have hlocks := B.notSynchronized
  subst hsz
  have hS : va_S (wA 14 ad s.heap.size) s.heap s.heap [] := va_S.rf
  have hl := lv_entry ([.ref (ad 0)]) (n := 4) (Nat.le_of_ble_eq_true rfl)
  rw [lg_entry_eq]
  generalize (lg_sl ([.ref (ad 0)]) ++ List.replicate (4 - (lg_sl ([.ref (ad 0)])).length) Slot.unset).toArray = ls at hl ⊢
  have hl : lv_has ls 4 [(0, .ref (ad 0))] := hl
  refine lv_aload_n hx hb d_M_minute_0 rfl (lv_at hl 0 rfl) ?_
  refine wr_get hx hb hts in_M hown hK hP (0) (by omega) rfl rfl 2 (by decide) (hts _ tw_343) rfl d_M_minute_1 ?_
  refine lv_iconst (v := 0) hx hb d_M_minute_4 (by decide) ?_
  refine lv_dup2_11 hx hb d_M_minute_5 rfl rfl ?_
  refine wr_laldv (v := xT x 0 3) hx hb hK hP (2) 0 (by omega) rfl rfl 0 (by decide) (by omega) (by omega) rfl d_M_minute_6 ?_
  refine lv_aload_n hx hb d_M_minute_7 rfl (lv_at hl 0 rfl) ?_
  refine wr_get hx hb hts in_M hown hK hP (0) (by omega) rfl rfl 11 (by decide) (hts _ tw_352) rfl d_M_minute_8 ?_
  refine lv_i2l hx hb d_M_minute_11 rfl ?_
  refine lv_ladd hx hb d_M_minute_12 ?_
  obtain ⟨x_1, ex_1⟩ : ∃ z9, z9 = xT' x 0 3 ((xT x 0 3) + (Int32.toInt64 (xI x 0))) := ⟨_, rfl⟩
  have hrow : x_rows x_1 := by rw [ex_1]; exact x_rows_of (xYs_T _ _ _ _) hrow
  refine wr_last (E' := mE g ad L x_1) hx hb hK hP hJ hS (2) 0 (by omega) rfl rfl 0 (by decide) (by omega) (by omega) (by rw [ex_1]; exact mU_WA g ad L x 0 ((xT x 0 3) + (Int32.toInt64 (xI x 0)))) d_M_minute_13 (fun H locs hP hS => ?_)
  refine lv_aload_n hx hb d_M_minute_14 rfl (lv_at hl 0 rfl) ?_
  refine wr_get hx hb hts in_M hown hK hP (0) (by omega) rfl rfl 21 (by decide) (hts _ tw_362) rfl d_M_minute_15 ?_
  refine lv_iconst (v := 3) hx hb d_M_minute_18 (by decide) ?_
  refine lv_dup2_11 hx hb d_M_minute_19 rfl rfl ?_
  refine wr_laldv (v := xO x_1 0 3) hx hb hK hP (11) 0 (by omega) rfl rfl 3 (by decide) (by omega) (by omega) rfl d_M_minute_20 ?_
  refine lv_aload_n hx hb d_M_minute_21 rfl (lv_at hl 0 rfl) ?_
  refine wr_get hx hb hts in_M hown hK hP (0) (by omega) rfl rfl 11 (by decide) (hts _ tw_352) rfl d_M_minute_22 ?_
  refine lv_i2l hx hb d_M_minute_25 rfl ?_
  refine lv_ladd hx hb d_M_minute_26 ?_
  obtain ⟨x_2, ex_2⟩ : ∃ z9, z9 = xO' x_1 0 3 ((xO x_1 0 3) + (Int32.toInt64 (xI x_1 0))) := ⟨_, rfl⟩
  have hrow : x_rows x_2 := by rw [ex_2]; exact x_rows_of (xYs_O _ _ _ _) hrow
  refine wr_last (E' := mE g ad L x_2) hx hb hK hP hJ hS (11) 0 (by omega) rfl rfl 3 (by decide) (by omega) (by omega) (by rw [ex_2]; exact mU_GO g ad L x_1 3 ((xO x_1 0 3) + (Int32.toInt64 (xI x_1 0)))) d_M_minute_27 (fun H locs hP hS => ?_)
  refine lv_iconst (v := 0) hx hb d_M_minute_28 (by decide) ?_
  refine lv_istore_n (lv' := [(1, .int 0), (0, .ref (ad 0))]) hx hb d_M_minute_29 rfl hl (by decide) rfl (fun ls hl => ?_)
  refine wl_loop (pc := 30) (fun fu H locs ls => ∃ i : Nat, i + fu = L ∧ va_P g.1 vwCl (wo 14 ad (mE g ad L (m_layersN L x_2 i))) H ∧ va_S (wA 14 ad s.heap.size) s.heap H locs ∧ lv_has ls 4 [(1, .int (nI i)), (0, .ref (ad 0))]) ?_ ?_ L _ _ _ ⟨0, by omega, hP, hS, lv_sub hl [0, 1] rfl⟩
  · intro H locs ls hI
    obtain ⟨i, hi, hP, hS, hl⟩ := hI
    have hT_i : i = L := by omega
    try rw [hT_i] at hP
    try rw [hT_i] at hl
    obtain ⟨x_3, ex_3⟩ : ∃ z9, z9 = m_layersN L x_2 L := ⟨_, rfl⟩
    rw [← ex_3] at hP
    refine lv_iload_n hx hb d_M_minute_30 rfl (lv_at hl 0 rfl) ?_
    refine lv_aload_n hx hb d_M_minute_31 rfl (lv_at hl 1 rfl) ?_
    refine wr_get hx hb hts in_M hown hK hP (0) (by omega) rfl rfl 0 (by decide) (hts _ tw_341) rfl d_M_minute_32 ?_
    refine lv_icmp_ge (tgt := 149) hx hb d_M_minute_35 (by decide) (fun c_4 => ?_) (fun c_4 => absurd (nI_le (by omega) (by omega)) c_4)
    refine lv_aload_n hx hb d_M_minute_149 rfl (lv_at hl 1 rfl) ?_
    refine wc_v (va_runV (As := []) (rest := []) ⟨hx, hb, hml, hown, hts⟩ (c_M_setFan l g ad hL x_3 _) (cwV 0 hts (gd_V tw_506 tw_508 tw_20 tw_28 tw_509) rfl rfl rfl (by decide +kernel) ⟨Nat.le_of_ble_eq_true rfl, Nat.le_of_ble_eq_true rfl⟩) (wp_V hK hN hP hJ (0) (by omega) rfl rfl) rfl rfl hl.1 rfl (lv_room (Nat.le_of_ble_eq_true rfl)) d_M_minute_150 ⟨Nat.zero_le _, Nat.zero_le _⟩) hS (fun H locs hP hS => ?_)
    obtain ⟨x_5, ex_5⟩ : ∃ z9, z9 = m_setFan L x_3 := ⟨_, rfl⟩
    rw [← ex_5] at hP
    refine lv_aload_n hx hb d_M_minute_153 rfl (lv_at hl 1 rfl) ?_
    refine wr_get hx hb hts in_M hown hK hP (0) (by omega) rfl rfl 21 (by decide) (hts _ tw_362) rfl d_M_minute_154 ?_
    refine lv_bipush (v := 8) hx hb d_M_minute_157 (by decide) ?_
    refine lv_dup2_11 hx hb d_M_minute_159 rfl rfl ?_
    refine wr_laldv (v := xO x_5 0 8) hx hb hK hP (11) 0 (by omega) rfl rfl 8 (by decide) (by omega) (by omega) rfl d_M_minute_160 ?_
    refine lv_lconst (v := 1) hx hb d_M_minute_161 (by decide) ?_
    refine lv_ladd hx hb d_M_minute_162 ?_
    obtain ⟨x_6, ex_6⟩ : ∃ z9, z9 = xO' x_5 0 8 ((xO x_5 0 8) + 1) := ⟨_, rfl⟩
    refine wr_last (E' := mE g ad L x_6) hx hb hK hP hJ hS (11) 0 (by omega) rfl rfl 8 (by decide) (by omega) (by omega) (by rw [ex_6]; exact mU_GO g ad L x_5 8 ((xO x_5 0 8) + 1)) d_M_minute_163 (fun H locs hP hS => ?_)
    subst ex_1
    subst ex_2
    subst ex_3
    subst ex_5
    subst ex_6
    exact W.vret hx hb hr (fun t ht hW => ⟨⟨(), rfl, trivial, by dsimp only; rw [ht]; (try simp only [m_minute, ite_self]); exact hP⟩, hS.F ht⟩) hS.2.2 d_M_minute_164
  · intro fu ih_i H locs ls hI
    obtain ⟨i, hi, hP, hS, hl⟩ := hI
    have hi_i : i < L := by omega
    obtain ⟨x_7, ex_7⟩ : ∃ z9, z9 = m_layersN L x_2 i := ⟨_, rfl⟩
    rw [← ex_7] at hP
    have hrow : x_rows x_7 := by rw [ex_7]; exact x_rows_mlayersN hrow _ _
    refine lv_iload_n hx hb d_M_minute_30 rfl (lv_at hl 0 rfl) ?_
    refine lv_aload_n hx hb d_M_minute_31 rfl (lv_at hl 1 rfl) ?_
    refine wr_get hx hb hts in_M hown hK hP (0) (by omega) rfl rfl 0 (by decide) (hts _ tw_341) rfl d_M_minute_32 ?_
    refine lv_icmp_ge (tgt := 149) hx hb d_M_minute_35 (by decide) (fun c_8 => absurd c_8 (nI_ge hi_i (by omega))) (fun c_8 => ?_)
    refine lv_aload_n hx hb d_M_minute_38 rfl (lv_at hl 1 rfl) ?_
    refine wr_get hx hb hts in_M hown hK hP (0) (by omega) rfl rfl 2 (by decide) (hts _ tw_343) rfl d_M_minute_39 ?_
    refine lv_iload_n hx hb d_M_minute_42 rfl (lv_at hl 0 rfl) ?_
    refine wr_laldv (v := xT x_7 i 3) hx hb hK hP (2) 0 (by omega) rfl rfl i rfl (by omega) (by omega) rfl d_M_minute_43 ?_
    refine lv_aload_n hx hb d_M_minute_44 rfl (lv_at hl 1 rfl) ?_
    refine wr_get hx hb hts in_M hown hK hP (0) (by omega) rfl rfl 4 (by decide) (hts _ tw_345) rfl d_M_minute_45 ?_
    refine lv_iload_n hx hb d_M_minute_48 rfl (lv_at hl 0 rfl) ?_
    refine wr_laldv (v := Int32.toInt64 (xB x_7 i 0)) hx hb hK hP (4) 0 (by omega) rfl rfl i rfl (by omega) (by omega) rfl d_M_minute_49 ?_
    refine W.lcmp hx hb d_M_minute_50 ?_
    refine lv_if_lt (tgt := 59) hx hb d_M_minute_51 (by decide) (fun c_9 => ?_) (fun c_9 => ?_)
    · skip
      refine lv_aload_n hx hb d_M_minute_59 rfl (lv_at hl 1 rfl) ?_
      refine lv_iload_n hx hb d_M_minute_60 rfl (lv_at hl 0 rfl) ?_
      refine wc_v (va_runV (As := [.int (nI i)]) (rest := []) ⟨hx, hb, hml, hown, hts⟩ (c_M_loses l g ad hL x_7 i (by omega) _) (cwV 1 hts (gd_V tw_501 tw_503 tw_19 tw_28 tw_504) rfl rfl rfl (by decide +kernel) ⟨Nat.le_of_ble_eq_true rfl, Nat.le_of_ble_eq_true rfl⟩) (wp_V hK hN hP hJ (0) (by omega) rfl rfl) rfl rfl hl.1 rfl (lv_room (Nat.le_of_ble_eq_true rfl)) d_M_minute_61 ⟨Nat.zero_le _, Nat.zero_le _⟩) hS (fun H locs hP hS => ?_)
      obtain ⟨x_10, ex_10⟩ : ∃ z9, z9 = m_loses x_7 i := ⟨_, rfl⟩
      rw [← ex_10] at hP
      refine lv_aload_n hx hb d_M_minute_64 rfl (lv_at hl 1 rfl) ?_
      refine wr_get hx hb hts in_M hown hK hP (0) (by omega) rfl rfl 2 (by decide) (hts _ tw_343) rfl d_M_minute_65 ?_
      refine lv_iload_n hx hb d_M_minute_68 rfl (lv_at hl 0 rfl) ?_
      refine wr_laldv (v := xT x_10 i 3) hx hb hK hP (2) 0 (by omega) rfl rfl i rfl (by omega) (by omega) rfl d_M_minute_69 ?_
      refine lv_aload_n hx hb d_M_minute_70 rfl (lv_at hl 1 rfl) ?_
      refine wr_get hx hb hts in_M hown hK hP (0) (by omega) rfl rfl 5 (by decide) (hts _ tw_346) rfl d_M_minute_71 ?_
      refine lv_iload_n hx hb d_M_minute_74 rfl (lv_at hl 0 rfl) ?_
      refine wr_laldv (v := Int32.toInt64 (xB x_10 i 1)) hx hb hK hP (5) 0 (by omega) rfl rfl i rfl (by omega) (by omega) rfl d_M_minute_75 ?_
      refine W.lcmp hx hb d_M_minute_76 ?_
      refine lv_if_le (tgt := 96) hx hb d_M_minute_77 (by decide) (fun c_11 => ?_) (fun c_11 => ?_)
      · skip
        refine lv_lconst (v := 0) hx hb d_M_minute_96 (by decide) ?_
        refine lv_lstore_n (lv' := [(2, .long 0), (1, .int (nI i)), (0, .ref (ad 0))]) hx hb d_M_minute_97 rfl hl (by decide) rfl (fun ls hl => ?_)
        refine lv_aload_n hx hb d_M_minute_98 rfl (lv_at hl 2 rfl) ?_
        refine wr_get hx hb hts in_M hown hK hP (0) (by omega) rfl rfl 2 (by decide) (hts _ tw_343) rfl d_M_minute_99 ?_
        refine lv_iload_n hx hb d_M_minute_102 rfl (lv_at hl 1 rfl) ?_
        refine lv_dup2_11 hx hb d_M_minute_103 rfl rfl ?_
        refine wr_laldv (v := xT x_10 i 3) hx hb hK hP (2) 0 (by omega) rfl rfl i rfl (by omega) (by omega) rfl d_M_minute_104 ?_
        refine lv_lload_n hx hb d_M_minute_105 rfl (lv_at hl 0 rfl) ?_
        refine lv_lsub hx hb d_M_minute_106 ?_
        obtain ⟨x_12, ex_12⟩ : ∃ z9, z9 = xT' x_10 i 3 ((xT x_10 i 3) - 0) := ⟨_, rfl⟩
        refine wr_last (E' := mE g ad L x_12) hx hb hK hP hJ hS (2) 0 (by omega) rfl rfl i rfl (by omega) (by omega) (by rw [ex_12]; exact mU_WA g ad L x_10 i ((xT x_10 i 3) - 0)) d_M_minute_107 (fun H locs hP hS => ?_)
        refine lv_iload_n hx hb d_M_minute_108 rfl (lv_at hl 1 rfl) ?_
        refine lv_iconst (v := 1) hx hb d_M_minute_109 (by decide) ?_
        refine lv_iadd hx hb d_M_minute_110 ?_
        rw [nI_1]
        refine lv_aload_n hx hb d_M_minute_111 rfl (lv_at hl 2 rfl) ?_
        refine wr_get hx hb hts in_M hown hK hP (0) (by omega) rfl rfl 0 (by decide) (hts _ tw_341) rfl d_M_minute_112 ?_
        refine lv_icmp_ge (tgt := 133) hx hb d_M_minute_115 (by decide) (fun c_13 => ?_) (fun c_13 => ?_)
        · skip
          refine lv_aload_n hx hb d_M_minute_133 rfl (lv_at hl 2 rfl) ?_
          refine wr_get hx hb hts in_M hown hK hP (0) (by omega) rfl rfl 21 (by decide) (hts _ tw_362) rfl d_M_minute_134 ?_
          refine lv_iconst (v := 2) hx hb d_M_minute_137 (by decide) ?_
          refine lv_dup2_11 hx hb d_M_minute_138 rfl rfl ?_
          refine wr_laldv (v := xO x_12 0 2) hx hb hK hP (11) 0 (by omega) rfl rfl 2 (by decide) (by omega) (by omega) rfl d_M_minute_139 ?_
          refine lv_lload_n hx hb d_M_minute_140 rfl (lv_at hl 0 rfl) ?_
          refine lv_ladd hx hb d_M_minute_141 ?_
          obtain ⟨x_14, ex_14⟩ : ∃ z9, z9 = xO' x_12 0 2 ((xO x_12 0 2) + 0) := ⟨_, rfl⟩
          refine wr_last (E' := mE g ad L x_14) hx hb hK hP hJ hS (11) 0 (by omega) rfl rfl 2 (by decide) (by omega) (by omega) (by rw [ex_14]; exact mU_GO g ad L x_12 2 ((xO x_12 0 2) + 0)) d_M_minute_142 (fun H locs hP hS => ?_)
          refine lv_iinc (v := nI (i + 1)) (lv' := [(1, .int (nI (i + 1))), (2, .long 0), (0, .ref (ad 0))]) hx hb d_M_minute_143 hl (k := 1) rfl (nI_1 i) (by decide) rfl (fun ls hl => ?_)
          refine lv_goto (tgt := 30) hx hb d_M_minute_146 (by decide) ?_
          subst ex_7
          subst ex_10
          subst ex_12
          subst ex_14
          exact ih_i _ _ _ ⟨i + 1, by omega, (by (try simp only [m_layersN, m_layer, m_down, m_over, if_pos c_9, if_pos c_11, if_pos c_13]); exact hP), hS, lv_sub hl [0, 2] (by (try simp only [m_layersN, m_layer, m_down, m_over, if_pos c_9, if_pos c_11, if_pos c_13]); rfl)⟩
        · skip
          have hi1 : i + 1 < L := by
            rcases Nat.lt_or_ge (i + 1) L with q | q
            · exact q
            · exact absurd (nI_le q (by omega)) c_13
          refine lv_aload_n hx hb d_M_minute_118 rfl (lv_at hl 2 rfl) ?_
          refine wr_get hx hb hts in_M hown hK hP (0) (by omega) rfl rfl 2 (by decide) (hts _ tw_343) rfl d_M_minute_119 ?_
          refine lv_iload_n hx hb d_M_minute_122 rfl (lv_at hl 1 rfl) ?_
          refine lv_iconst (v := 1) hx hb d_M_minute_123 (by decide) ?_
          refine lv_iadd hx hb d_M_minute_124 ?_
          rw [nI_1]
          refine lv_dup2_11 hx hb d_M_minute_125 rfl rfl ?_
          refine wr_laldv (v := xT x_12 (i + 1) 3) hx hb hK hP (2) 0 (by omega) rfl rfl (i + 1) rfl (by omega) (by omega) rfl d_M_minute_126 ?_
          refine lv_lload_n hx hb d_M_minute_127 rfl (lv_at hl 0 rfl) ?_
          refine lv_ladd hx hb d_M_minute_128 ?_
          obtain ⟨x_15, ex_15⟩ : ∃ z9, z9 = xT' x_12 (i + 1) 3 ((xT x_12 (i + 1) 3) + 0) := ⟨_, rfl⟩
          refine wr_last (E' := mE g ad L x_15) hx hb hK hP hJ hS (2) 0 (by omega) rfl rfl (i + 1) rfl (by omega) (by omega) (by rw [ex_15]; exact mU_WA g ad L x_12 (i + 1) ((xT x_12 (i + 1) 3) + 0)) d_M_minute_129 (fun H locs hP hS => ?_)
          refine lv_goto (tgt := 143) hx hb d_M_minute_130 (by decide) ?_
          refine lv_iinc (v := nI (i + 1)) (lv' := [(1, .int (nI (i + 1))), (2, .long 0), (0, .ref (ad 0))]) hx hb d_M_minute_143 hl (k := 1) rfl (nI_1 i) (by decide) rfl (fun ls hl => ?_)
          refine lv_goto (tgt := 30) hx hb d_M_minute_146 (by decide) ?_
          subst ex_7
          subst ex_10
          subst ex_12
          subst ex_15
          exact ih_i _ _ _ ⟨i + 1, by omega, (by (try simp only [m_layersN, m_layer, m_down, m_over, if_pos c_9, if_pos c_11, if_neg c_13]); exact hP), hS, lv_sub hl [0, 2] (by (try simp only [m_layersN, m_layer, m_down, m_over, if_pos c_9, if_pos c_11, if_neg c_13]); rfl)⟩
      · skip
        refine lv_aload_n hx hb d_M_minute_80 rfl (lv_at hl 1 rfl) ?_
        refine wr_get hx hb hts in_M hown hK hP (0) (by omega) rfl rfl 2 (by decide) (hts _ tw_343) rfl d_M_minute_81 ?_
        refine lv_iload_n hx hb d_M_minute_84 rfl (lv_at hl 0 rfl) ?_
        refine wr_laldv (v := xT x_10 i 3) hx hb hK hP (2) 0 (by omega) rfl rfl i rfl (by omega) (by omega) rfl d_M_minute_85 ?_
        refine lv_aload_n hx hb d_M_minute_86 rfl (lv_at hl 1 rfl) ?_
        refine wr_get hx hb hts in_M hown hK hP (0) (by omega) rfl rfl 5 (by decide) (hts _ tw_346) rfl d_M_minute_87 ?_
        refine lv_iload_n hx hb d_M_minute_90 rfl (lv_at hl 0 rfl) ?_
        refine wr_laldv (v := Int32.toInt64 (xB x_10 i 1)) hx hb hK hP (5) 0 (by omega) rfl rfl i rfl (by omega) (by omega) rfl d_M_minute_91 ?_
        refine lv_lsub hx hb d_M_minute_92 ?_
        refine lv_goto (tgt := 97) hx hb d_M_minute_93 (by decide) ?_
        refine lv_topl (fun v_16 ev_16 => ?_)
        refine lv_lstore_n (lv' := [(2, .long v_16), (1, .int (nI i)), (0, .ref (ad 0))]) hx hb d_M_minute_97 rfl hl (by decide) rfl (fun ls hl => ?_)
        refine lv_aload_n hx hb d_M_minute_98 rfl (lv_at hl 2 rfl) ?_
        refine wr_get hx hb hts in_M hown hK hP (0) (by omega) rfl rfl 2 (by decide) (hts _ tw_343) rfl d_M_minute_99 ?_
        refine lv_iload_n hx hb d_M_minute_102 rfl (lv_at hl 1 rfl) ?_
        refine lv_dup2_11 hx hb d_M_minute_103 rfl rfl ?_
        refine wr_laldv (v := xT x_10 i 3) hx hb hK hP (2) 0 (by omega) rfl rfl i rfl (by omega) (by omega) rfl d_M_minute_104 ?_
        refine lv_lload_n hx hb d_M_minute_105 rfl (lv_at hl 0 rfl) ?_
        refine lv_lsub hx hb d_M_minute_106 ?_
        obtain ⟨x_17, ex_17⟩ : ∃ z9, z9 = xT' x_10 i 3 ((xT x_10 i 3) - v_16) := ⟨_, rfl⟩
        refine wr_last (E' := mE g ad L x_17) hx hb hK hP hJ hS (2) 0 (by omega) rfl rfl i rfl (by omega) (by omega) (by rw [ex_17]; exact mU_WA g ad L x_10 i ((xT x_10 i 3) - v_16)) d_M_minute_107 (fun H locs hP hS => ?_)
        refine lv_iload_n hx hb d_M_minute_108 rfl (lv_at hl 1 rfl) ?_
        refine lv_iconst (v := 1) hx hb d_M_minute_109 (by decide) ?_
        refine lv_iadd hx hb d_M_minute_110 ?_
        rw [nI_1]
        refine lv_aload_n hx hb d_M_minute_111 rfl (lv_at hl 2 rfl) ?_
        refine wr_get hx hb hts in_M hown hK hP (0) (by omega) rfl rfl 0 (by decide) (hts _ tw_341) rfl d_M_minute_112 ?_
        refine lv_icmp_ge (tgt := 133) hx hb d_M_minute_115 (by decide) (fun c_18 => ?_) (fun c_18 => ?_)
        · skip
          refine lv_aload_n hx hb d_M_minute_133 rfl (lv_at hl 2 rfl) ?_
          refine wr_get hx hb hts in_M hown hK hP (0) (by omega) rfl rfl 21 (by decide) (hts _ tw_362) rfl d_M_minute_134 ?_
          refine lv_iconst (v := 2) hx hb d_M_minute_137 (by decide) ?_
          refine lv_dup2_11 hx hb d_M_minute_138 rfl rfl ?_
          refine wr_laldv (v := xO x_17 0 2) hx hb hK hP (11) 0 (by omega) rfl rfl 2 (by decide) (by omega) (by omega) rfl d_M_minute_139 ?_
          refine lv_lload_n hx hb d_M_minute_140 rfl (lv_at hl 0 rfl) ?_
          refine lv_ladd hx hb d_M_minute_141 ?_
          obtain ⟨x_19, ex_19⟩ : ∃ z9, z9 = xO' x_17 0 2 ((xO x_17 0 2) + v_16) := ⟨_, rfl⟩
          refine wr_last (E' := mE g ad L x_19) hx hb hK hP hJ hS (11) 0 (by omega) rfl rfl 2 (by decide) (by omega) (by omega) (by rw [ex_19]; exact mU_GO g ad L x_17 2 ((xO x_17 0 2) + v_16)) d_M_minute_142 (fun H locs hP hS => ?_)
          refine lv_iinc (v := nI (i + 1)) (lv' := [(1, .int (nI (i + 1))), (2, .long v_16), (0, .ref (ad 0))]) hx hb d_M_minute_143 hl (k := 1) rfl (nI_1 i) (by decide) rfl (fun ls hl => ?_)
          refine lv_goto (tgt := 30) hx hb d_M_minute_146 (by decide) ?_
          subst ex_7
          subst ex_10
          subst ev_16
          subst ex_17
          subst ex_19
          exact ih_i _ _ _ ⟨i + 1, by omega, (by (try simp only [m_layersN, m_layer, m_down, m_over, if_pos c_9, if_neg c_11, if_pos c_18]); exact hP), hS, lv_sub hl [0, 2] (by (try simp only [m_layersN, m_layer, m_down, m_over, if_pos c_9, if_neg c_11, if_pos c_18]); rfl)⟩
        · skip
          have hi1 : i + 1 < L := by
            rcases Nat.lt_or_ge (i + 1) L with q | q
            · exact q
            · exact absurd (nI_le q (by omega)) c_18
          refine lv_aload_n hx hb d_M_minute_118 rfl (lv_at hl 2 rfl) ?_
          refine wr_get hx hb hts in_M hown hK hP (0) (by omega) rfl rfl 2 (by decide) (hts _ tw_343) rfl d_M_minute_119 ?_
          refine lv_iload_n hx hb d_M_minute_122 rfl (lv_at hl 1 rfl) ?_
          refine lv_iconst (v := 1) hx hb d_M_minute_123 (by decide) ?_
          refine lv_iadd hx hb d_M_minute_124 ?_
          rw [nI_1]
          refine lv_dup2_11 hx hb d_M_minute_125 rfl rfl ?_
          refine wr_laldv (v := xT x_17 (i + 1) 3) hx hb hK hP (2) 0 (by omega) rfl rfl (i + 1) rfl (by omega) (by omega) rfl d_M_minute_126 ?_
          refine lv_lload_n hx hb d_M_minute_127 rfl (lv_at hl 0 rfl) ?_
          refine lv_ladd hx hb d_M_minute_128 ?_
          obtain ⟨x_20, ex_20⟩ : ∃ z9, z9 = xT' x_17 (i + 1) 3 ((xT x_17 (i + 1) 3) + v_16) := ⟨_, rfl⟩
          refine wr_last (E' := mE g ad L x_20) hx hb hK hP hJ hS (2) 0 (by omega) rfl rfl (i + 1) rfl (by omega) (by omega) (by rw [ex_20]; exact mU_WA g ad L x_17 (i + 1) ((xT x_17 (i + 1) 3) + v_16)) d_M_minute_129 (fun H locs hP hS => ?_)
          refine lv_goto (tgt := 143) hx hb d_M_minute_130 (by decide) ?_
          refine lv_iinc (v := nI (i + 1)) (lv' := [(1, .int (nI (i + 1))), (2, .long v_16), (0, .ref (ad 0))]) hx hb d_M_minute_143 hl (k := 1) rfl (nI_1 i) (by decide) rfl (fun ls hl => ?_)
          refine lv_goto (tgt := 30) hx hb d_M_minute_146 (by decide) ?_
          subst ex_7
          subst ex_10
          subst ev_16
          subst ex_17
          subst ex_20
          exact ih_i _ _ _ ⟨i + 1, by omega, (by (try simp only [m_layersN, m_layer, m_down, m_over, if_pos c_9, if_neg c_11, if_neg c_18]); exact hP), hS, lv_sub hl [0, 2] (by (try simp only [m_layersN, m_layer, m_down, m_over, if_pos c_9, if_neg c_11, if_neg c_18]); rfl)⟩
    · skip
      refine lv_aload_n hx hb d_M_minute_54 rfl (lv_at hl 1 rfl) ?_
      refine lv_iload_n hx hb d_M_minute_55 rfl (lv_at hl 0 rfl) ?_
      refine wc_v (va_runV (As := [.int (nI i)]) (rest := []) ⟨hx, hb, hml, hown, hts⟩ (c_M_breaks l g ad hL x_7 hrow i (by omega) _) (cwV 1 hts (gd_V tw_490 tw_492 tw_17 tw_28 tw_493) rfl rfl rfl (by decide +kernel) ⟨Nat.le_of_ble_eq_true rfl, Nat.le_of_ble_eq_true rfl⟩) (wp_V hK hN hP hJ (0) (by omega) rfl rfl) rfl rfl hl.1 rfl (lv_room (Nat.le_of_ble_eq_true rfl)) d_M_minute_56 ⟨Nat.zero_le _, Nat.zero_le _⟩) hS (fun H locs hP hS => ?_)
      obtain ⟨x_21, ex_21⟩ : ∃ z9, z9 = m_breaks x_7 i := ⟨_, rfl⟩
      rw [← ex_21] at hP
      refine lv_aload_n hx hb d_M_minute_59 rfl (lv_at hl 1 rfl) ?_
      refine lv_iload_n hx hb d_M_minute_60 rfl (lv_at hl 0 rfl) ?_
      refine wc_v (va_runV (As := [.int (nI i)]) (rest := []) ⟨hx, hb, hml, hown, hts⟩ (c_M_loses l g ad hL x_21 i (by omega) _) (cwV 1 hts (gd_V tw_501 tw_503 tw_19 tw_28 tw_504) rfl rfl rfl (by decide +kernel) ⟨Nat.le_of_ble_eq_true rfl, Nat.le_of_ble_eq_true rfl⟩) (wp_V hK hN hP hJ (0) (by omega) rfl rfl) rfl rfl hl.1 rfl (lv_room (Nat.le_of_ble_eq_true rfl)) d_M_minute_61 ⟨Nat.zero_le _, Nat.zero_le _⟩) hS (fun H locs hP hS => ?_)
      obtain ⟨x_22, ex_22⟩ : ∃ z9, z9 = m_loses x_21 i := ⟨_, rfl⟩
      rw [← ex_22] at hP
      refine lv_aload_n hx hb d_M_minute_64 rfl (lv_at hl 1 rfl) ?_
      refine wr_get hx hb hts in_M hown hK hP (0) (by omega) rfl rfl 2 (by decide) (hts _ tw_343) rfl d_M_minute_65 ?_
      refine lv_iload_n hx hb d_M_minute_68 rfl (lv_at hl 0 rfl) ?_
      refine wr_laldv (v := xT x_22 i 3) hx hb hK hP (2) 0 (by omega) rfl rfl i rfl (by omega) (by omega) rfl d_M_minute_69 ?_
      refine lv_aload_n hx hb d_M_minute_70 rfl (lv_at hl 1 rfl) ?_
      refine wr_get hx hb hts in_M hown hK hP (0) (by omega) rfl rfl 5 (by decide) (hts _ tw_346) rfl d_M_minute_71 ?_
      refine lv_iload_n hx hb d_M_minute_74 rfl (lv_at hl 0 rfl) ?_
      refine wr_laldv (v := Int32.toInt64 (xB x_22 i 1)) hx hb hK hP (5) 0 (by omega) rfl rfl i rfl (by omega) (by omega) rfl d_M_minute_75 ?_
      refine W.lcmp hx hb d_M_minute_76 ?_
      refine lv_if_le (tgt := 96) hx hb d_M_minute_77 (by decide) (fun c_23 => ?_) (fun c_23 => ?_)
      · skip
        refine lv_lconst (v := 0) hx hb d_M_minute_96 (by decide) ?_
        refine lv_lstore_n (lv' := [(2, .long 0), (1, .int (nI i)), (0, .ref (ad 0))]) hx hb d_M_minute_97 rfl hl (by decide) rfl (fun ls hl => ?_)
        refine lv_aload_n hx hb d_M_minute_98 rfl (lv_at hl 2 rfl) ?_
        refine wr_get hx hb hts in_M hown hK hP (0) (by omega) rfl rfl 2 (by decide) (hts _ tw_343) rfl d_M_minute_99 ?_
        refine lv_iload_n hx hb d_M_minute_102 rfl (lv_at hl 1 rfl) ?_
        refine lv_dup2_11 hx hb d_M_minute_103 rfl rfl ?_
        refine wr_laldv (v := xT x_22 i 3) hx hb hK hP (2) 0 (by omega) rfl rfl i rfl (by omega) (by omega) rfl d_M_minute_104 ?_
        refine lv_lload_n hx hb d_M_minute_105 rfl (lv_at hl 0 rfl) ?_
        refine lv_lsub hx hb d_M_minute_106 ?_
        obtain ⟨x_24, ex_24⟩ : ∃ z9, z9 = xT' x_22 i 3 ((xT x_22 i 3) - 0) := ⟨_, rfl⟩
        refine wr_last (E' := mE g ad L x_24) hx hb hK hP hJ hS (2) 0 (by omega) rfl rfl i rfl (by omega) (by omega) (by rw [ex_24]; exact mU_WA g ad L x_22 i ((xT x_22 i 3) - 0)) d_M_minute_107 (fun H locs hP hS => ?_)
        refine lv_iload_n hx hb d_M_minute_108 rfl (lv_at hl 1 rfl) ?_
        refine lv_iconst (v := 1) hx hb d_M_minute_109 (by decide) ?_
        refine lv_iadd hx hb d_M_minute_110 ?_
        rw [nI_1]
        refine lv_aload_n hx hb d_M_minute_111 rfl (lv_at hl 2 rfl) ?_
        refine wr_get hx hb hts in_M hown hK hP (0) (by omega) rfl rfl 0 (by decide) (hts _ tw_341) rfl d_M_minute_112 ?_
        refine lv_icmp_ge (tgt := 133) hx hb d_M_minute_115 (by decide) (fun c_25 => ?_) (fun c_25 => ?_)
        · skip
          refine lv_aload_n hx hb d_M_minute_133 rfl (lv_at hl 2 rfl) ?_
          refine wr_get hx hb hts in_M hown hK hP (0) (by omega) rfl rfl 21 (by decide) (hts _ tw_362) rfl d_M_minute_134 ?_
          refine lv_iconst (v := 2) hx hb d_M_minute_137 (by decide) ?_
          refine lv_dup2_11 hx hb d_M_minute_138 rfl rfl ?_
          refine wr_laldv (v := xO x_24 0 2) hx hb hK hP (11) 0 (by omega) rfl rfl 2 (by decide) (by omega) (by omega) rfl d_M_minute_139 ?_
          refine lv_lload_n hx hb d_M_minute_140 rfl (lv_at hl 0 rfl) ?_
          refine lv_ladd hx hb d_M_minute_141 ?_
          obtain ⟨x_26, ex_26⟩ : ∃ z9, z9 = xO' x_24 0 2 ((xO x_24 0 2) + 0) := ⟨_, rfl⟩
          refine wr_last (E' := mE g ad L x_26) hx hb hK hP hJ hS (11) 0 (by omega) rfl rfl 2 (by decide) (by omega) (by omega) (by rw [ex_26]; exact mU_GO g ad L x_24 2 ((xO x_24 0 2) + 0)) d_M_minute_142 (fun H locs hP hS => ?_)
          refine lv_iinc (v := nI (i + 1)) (lv' := [(1, .int (nI (i + 1))), (2, .long 0), (0, .ref (ad 0))]) hx hb d_M_minute_143 hl (k := 1) rfl (nI_1 i) (by decide) rfl (fun ls hl => ?_)
          refine lv_goto (tgt := 30) hx hb d_M_minute_146 (by decide) ?_
          subst ex_7
          subst ex_21
          subst ex_22
          subst ex_24
          subst ex_26
          exact ih_i _ _ _ ⟨i + 1, by omega, (by (try simp only [m_layersN, m_layer, m_down, m_over, if_neg c_9, if_pos c_23, if_pos c_25]); exact hP), hS, lv_sub hl [0, 2] (by (try simp only [m_layersN, m_layer, m_down, m_over, if_neg c_9, if_pos c_23, if_pos c_25]); rfl)⟩
        · skip
          have hi1 : i + 1 < L := by
            rcases Nat.lt_or_ge (i + 1) L with q | q
            · exact q
            · exact absurd (nI_le q (by omega)) c_25
          refine lv_aload_n hx hb d_M_minute_118 rfl (lv_at hl 2 rfl) ?_
          refine wr_get hx hb hts in_M hown hK hP (0) (by omega) rfl rfl 2 (by decide) (hts _ tw_343) rfl d_M_minute_119 ?_
          refine lv_iload_n hx hb d_M_minute_122 rfl (lv_at hl 1 rfl) ?_
          refine lv_iconst (v := 1) hx hb d_M_minute_123 (by decide) ?_
          refine lv_iadd hx hb d_M_minute_124 ?_
          rw [nI_1]
          refine lv_dup2_11 hx hb d_M_minute_125 rfl rfl ?_
          refine wr_laldv (v := xT x_24 (i + 1) 3) hx hb hK hP (2) 0 (by omega) rfl rfl (i + 1) rfl (by omega) (by omega) rfl d_M_minute_126 ?_
          refine lv_lload_n hx hb d_M_minute_127 rfl (lv_at hl 0 rfl) ?_
          refine lv_ladd hx hb d_M_minute_128 ?_
          obtain ⟨x_27, ex_27⟩ : ∃ z9, z9 = xT' x_24 (i + 1) 3 ((xT x_24 (i + 1) 3) + 0) := ⟨_, rfl⟩
          refine wr_last (E' := mE g ad L x_27) hx hb hK hP hJ hS (2) 0 (by omega) rfl rfl (i + 1) rfl (by omega) (by omega) (by rw [ex_27]; exact mU_WA g ad L x_24 (i + 1) ((xT x_24 (i + 1) 3) + 0)) d_M_minute_129 (fun H locs hP hS => ?_)
          refine lv_goto (tgt := 143) hx hb d_M_minute_130 (by decide) ?_
          refine lv_iinc (v := nI (i + 1)) (lv' := [(1, .int (nI (i + 1))), (2, .long 0), (0, .ref (ad 0))]) hx hb d_M_minute_143 hl (k := 1) rfl (nI_1 i) (by decide) rfl (fun ls hl => ?_)
          refine lv_goto (tgt := 30) hx hb d_M_minute_146 (by decide) ?_
          subst ex_7
          subst ex_21
          subst ex_22
          subst ex_24
          subst ex_27
          exact ih_i _ _ _ ⟨i + 1, by omega, (by (try simp only [m_layersN, m_layer, m_down, m_over, if_neg c_9, if_pos c_23, if_neg c_25]); exact hP), hS, lv_sub hl [0, 2] (by (try simp only [m_layersN, m_layer, m_down, m_over, if_neg c_9, if_pos c_23, if_neg c_25]); rfl)⟩
      · skip
        refine lv_aload_n hx hb d_M_minute_80 rfl (lv_at hl 1 rfl) ?_
        refine wr_get hx hb hts in_M hown hK hP (0) (by omega) rfl rfl 2 (by decide) (hts _ tw_343) rfl d_M_minute_81 ?_
        refine lv_iload_n hx hb d_M_minute_84 rfl (lv_at hl 0 rfl) ?_
        refine wr_laldv (v := xT x_22 i 3) hx hb hK hP (2) 0 (by omega) rfl rfl i rfl (by omega) (by omega) rfl d_M_minute_85 ?_
        refine lv_aload_n hx hb d_M_minute_86 rfl (lv_at hl 1 rfl) ?_
        refine wr_get hx hb hts in_M hown hK hP (0) (by omega) rfl rfl 5 (by decide) (hts _ tw_346) rfl d_M_minute_87 ?_
        refine lv_iload_n hx hb d_M_minute_90 rfl (lv_at hl 0 rfl) ?_
        refine wr_laldv (v := Int32.toInt64 (xB x_22 i 1)) hx hb hK hP (5) 0 (by omega) rfl rfl i rfl (by omega) (by omega) rfl d_M_minute_91 ?_
        refine lv_lsub hx hb d_M_minute_92 ?_
        refine lv_goto (tgt := 97) hx hb d_M_minute_93 (by decide) ?_
        refine lv_topl (fun v_28 ev_28 => ?_)
        refine lv_lstore_n (lv' := [(2, .long v_28), (1, .int (nI i)), (0, .ref (ad 0))]) hx hb d_M_minute_97 rfl hl (by decide) rfl (fun ls hl => ?_)
        refine lv_aload_n hx hb d_M_minute_98 rfl (lv_at hl 2 rfl) ?_
        refine wr_get hx hb hts in_M hown hK hP (0) (by omega) rfl rfl 2 (by decide) (hts _ tw_343) rfl d_M_minute_99 ?_
        refine lv_iload_n hx hb d_M_minute_102 rfl (lv_at hl 1 rfl) ?_
        refine lv_dup2_11 hx hb d_M_minute_103 rfl rfl ?_
        refine wr_laldv (v := xT x_22 i 3) hx hb hK hP (2) 0 (by omega) rfl rfl i rfl (by omega) (by omega) rfl d_M_minute_104 ?_
        refine lv_lload_n hx hb d_M_minute_105 rfl (lv_at hl 0 rfl) ?_
        refine lv_lsub hx hb d_M_minute_106 ?_
        obtain ⟨x_29, ex_29⟩ : ∃ z9, z9 = xT' x_22 i 3 ((xT x_22 i 3) - v_28) := ⟨_, rfl⟩
        refine wr_last (E' := mE g ad L x_29) hx hb hK hP hJ hS (2) 0 (by omega) rfl rfl i rfl (by omega) (by omega) (by rw [ex_29]; exact mU_WA g ad L x_22 i ((xT x_22 i 3) - v_28)) d_M_minute_107 (fun H locs hP hS => ?_)
        refine lv_iload_n hx hb d_M_minute_108 rfl (lv_at hl 1 rfl) ?_
        refine lv_iconst (v := 1) hx hb d_M_minute_109 (by decide) ?_
        refine lv_iadd hx hb d_M_minute_110 ?_
        rw [nI_1]
        refine lv_aload_n hx hb d_M_minute_111 rfl (lv_at hl 2 rfl) ?_
        refine wr_get hx hb hts in_M hown hK hP (0) (by omega) rfl rfl 0 (by decide) (hts _ tw_341) rfl d_M_minute_112 ?_
        refine lv_icmp_ge (tgt := 133) hx hb d_M_minute_115 (by decide) (fun c_30 => ?_) (fun c_30 => ?_)
        · skip
          refine lv_aload_n hx hb d_M_minute_133 rfl (lv_at hl 2 rfl) ?_
          refine wr_get hx hb hts in_M hown hK hP (0) (by omega) rfl rfl 21 (by decide) (hts _ tw_362) rfl d_M_minute_134 ?_
          refine lv_iconst (v := 2) hx hb d_M_minute_137 (by decide) ?_
          refine lv_dup2_11 hx hb d_M_minute_138 rfl rfl ?_
          refine wr_laldv (v := xO x_29 0 2) hx hb hK hP (11) 0 (by omega) rfl rfl 2 (by decide) (by omega) (by omega) rfl d_M_minute_139 ?_
          refine lv_lload_n hx hb d_M_minute_140 rfl (lv_at hl 0 rfl) ?_
          refine lv_ladd hx hb d_M_minute_141 ?_
          obtain ⟨x_31, ex_31⟩ : ∃ z9, z9 = xO' x_29 0 2 ((xO x_29 0 2) + v_28) := ⟨_, rfl⟩
          refine wr_last (E' := mE g ad L x_31) hx hb hK hP hJ hS (11) 0 (by omega) rfl rfl 2 (by decide) (by omega) (by omega) (by rw [ex_31]; exact mU_GO g ad L x_29 2 ((xO x_29 0 2) + v_28)) d_M_minute_142 (fun H locs hP hS => ?_)
          refine lv_iinc (v := nI (i + 1)) (lv' := [(1, .int (nI (i + 1))), (2, .long v_28), (0, .ref (ad 0))]) hx hb d_M_minute_143 hl (k := 1) rfl (nI_1 i) (by decide) rfl (fun ls hl => ?_)
          refine lv_goto (tgt := 30) hx hb d_M_minute_146 (by decide) ?_
          subst ex_7
          subst ex_21
          subst ex_22
          subst ev_28
          subst ex_29
          subst ex_31
          exact ih_i _ _ _ ⟨i + 1, by omega, (by (try simp only [m_layersN, m_layer, m_down, m_over, if_neg c_9, if_neg c_23, if_pos c_30]); exact hP), hS, lv_sub hl [0, 2] (by (try simp only [m_layersN, m_layer, m_down, m_over, if_neg c_9, if_neg c_23, if_pos c_30]); rfl)⟩
        · skip
          have hi1 : i + 1 < L := by
            rcases Nat.lt_or_ge (i + 1) L with q | q
            · exact q
            · exact absurd (nI_le q (by omega)) c_30
          refine lv_aload_n hx hb d_M_minute_118 rfl (lv_at hl 2 rfl) ?_
          refine wr_get hx hb hts in_M hown hK hP (0) (by omega) rfl rfl 2 (by decide) (hts _ tw_343) rfl d_M_minute_119 ?_
          refine lv_iload_n hx hb d_M_minute_122 rfl (lv_at hl 1 rfl) ?_
          refine lv_iconst (v := 1) hx hb d_M_minute_123 (by decide) ?_
          refine lv_iadd hx hb d_M_minute_124 ?_
          rw [nI_1]
          refine lv_dup2_11 hx hb d_M_minute_125 rfl rfl ?_
          refine wr_laldv (v := xT x_29 (i + 1) 3) hx hb hK hP (2) 0 (by omega) rfl rfl (i + 1) rfl (by omega) (by omega) rfl d_M_minute_126 ?_
          refine lv_lload_n hx hb d_M_minute_127 rfl (lv_at hl 0 rfl) ?_
          refine lv_ladd hx hb d_M_minute_128 ?_
          obtain ⟨x_32, ex_32⟩ : ∃ z9, z9 = xT' x_29 (i + 1) 3 ((xT x_29 (i + 1) 3) + v_28) := ⟨_, rfl⟩
          refine wr_last (E' := mE g ad L x_32) hx hb hK hP hJ hS (2) 0 (by omega) rfl rfl (i + 1) rfl (by omega) (by omega) (by rw [ex_32]; exact mU_WA g ad L x_29 (i + 1) ((xT x_29 (i + 1) 3) + v_28)) d_M_minute_129 (fun H locs hP hS => ?_)
          refine lv_goto (tgt := 143) hx hb d_M_minute_130 (by decide) ?_
          refine lv_iinc (v := nI (i + 1)) (lv' := [(1, .int (nI (i + 1))), (2, .long v_28), (0, .ref (ad 0))]) hx hb d_M_minute_143 hl (k := 1) rfl (nI_1 i) (by decide) rfl (fun ls hl => ?_)
          refine lv_goto (tgt := 30) hx hb d_M_minute_146 (by decide) ?_
          subst ex_7
          subst ex_21
          subst ex_22
          subst ev_28
          subst ex_29
          subst ex_32
          exact ih_i _ _ _ ⟨i + 1, by omega, (by (try simp only [m_layersN, m_layer, m_down, m_over, if_neg c_9, if_neg c_23, if_neg c_30]); exact hP), hS, lv_sub hl [0, 2] (by (try simp only [m_layersN, m_layer, m_down, m_over, if_neg c_9, if_neg c_23, if_neg c_30]); rfl)⟩
