set_option maxHeartbeats 4000000 in
set_option maxRecDepth 100000 in
theorem c_Y_mass (l : Launch) (g : wG) (ad : Nat → Nat) {L : Nat} (hL : 1 ≤ L ∧ L ≤ 6) (x : xS) {i : Nat} (hi : i < L) : CtL l y_Y_mass ws_Y_mass ({ frames := 0, cells := 0, slots := 0, locals := 0 }) g (16 + 2 * L) ad (xE g ad L x) (xE g ad L x) [.ref (ad (7 + 2 * i))] (x_mass x i) := by
  intro sz
  refine Met.ofW (cc := b_Y_mass) (maxL := 4) (ret := (some .long)) (by decide +kernel) rfl ?_
  intro p e s m args below meth c s₁ B hml hv
  obtain ⟨rfl, hsz, hP, hK, hN, hJ⟩ := hv
  have hx := B.exec
  have hb := B.bytes
  have hr := B.returns
  have hts0 := atoms_spec (ws := ws_Y_mass) B.pre
  have hts : ∀ w ∈ tb, w.before _ s = true := fun w h => hts0 w (List.mem_cons_of_mem _ h)
  have hown : s.vm.findClass "HeapSteps$Layer" = some m.cls := findClass_of_methodNamed B.named
  have hlocks := B.notSynchronized
  subst hsz
  have hS : va_S (wA (16 + 2 * L) ad s.heap.size) s.heap s.heap [] := va_S.rf
  have hl := lv_entry ([.ref (ad (7 + 2 * i))]) (n := 4) (Nat.le_of_ble_eq_true rfl)
  rw [lg_entry_eq]
  generalize (lg_sl ([.ref (ad (7 + 2 * i))]) ++ List.replicate (4 - (lg_sl ([.ref (ad (7 + 2 * i))])).length) Slot.unset).toArray = ls at hl ⊢
  have hl : lv_has ls 4 [(0, .ref (ad (7 + 2 * i)))] := hl
  refine lv_aload_n hx hb d_Y_mass_0 rfl (lv_at hl 0 rfl) ?_
  refine wr_get hx hb hts in_Y hown hK hP (7 + 2 * i) (by omega) (xE_lay g ad L x hi) rfl 0 (by decide) (hts _ tw_78) rfl d_Y_mass_1 ?_
  refine lv_iconst (v := 3) hx hb d_Y_mass_4 (by decide) ?_
  refine wr_lald hx hb hK hP (8 + 2 * i) 0 (by omega) (xE_stk g ad L x hi) rfl 3 (by decide) (by omega) (by omega) d_Y_mass_5 ?_
  refine lv_topl (fun v_1 ev_1 => ?_)
  refine lv_lstore_n (lv' := [(1, .long v_1), (0, .ref (ad (7 + 2 * i)))]) hx hb d_Y_mass_6 rfl hl (by decide) rfl (fun ls hl => ?_)
  refine lv_iconst (v := 0) hx hb d_Y_mass_7 (by decide) ?_
  refine lv_istore_n (lv' := [(3, .int 0), (1, .long v_1), (0, .ref (ad (7 + 2 * i)))]) hx hb d_Y_mass_8 rfl hl (by decide) rfl (fun ls hl => ?_)
  refine lv_iload_n hx hb d_Y_mass_9 rfl (lv_at hl 0 rfl) ?_
  refine lv_iconst (v := 3) hx hb d_Y_mass_10 (by decide) ?_
  refine lv_icmp_ge (tgt := 29) hx hb d_Y_mass_11 (by decide) (fun c_2 => absurd c_2 (by decide)) (fun c_2 => ?_)
  refine lv_lload_n hx hb d_Y_mass_14 rfl (lv_at hl 1 rfl) ?_
  refine lv_aload_n hx hb d_Y_mass_15 rfl (lv_at hl 2 rfl) ?_
  refine wr_get hx hb hts in_Y hown hK hP (7 + 2 * i) (by omega) (xE_lay g ad L x hi) rfl 0 (by decide) (hts _ tw_78) rfl d_Y_mass_16 ?_
  refine lv_iload_n hx hb d_Y_mass_19 rfl (lv_at hl 0 rfl) ?_
  refine wr_lald hx hb hK hP (8 + 2 * i) 0 (by omega) (xE_stk g ad L x hi) rfl 0 (by decide) (by omega) (by omega) d_Y_mass_20 ?_
  refine lv_ladd hx hb d_Y_mass_21 ?_
  refine lv_topl (fun v_3 ev_3 => ?_)
  refine lv_lstore_n (lv' := [(1, .long v_3), (3, .int 0), (0, .ref (ad (7 + 2 * i)))]) hx hb d_Y_mass_22 rfl hl (by decide) rfl (fun ls hl => ?_)
  refine lv_iinc (v := 1) (lv' := [(3, .int 1), (1, .long v_3), (0, .ref (ad (7 + 2 * i)))]) hx hb d_Y_mass_23 hl (k := 1) rfl (by decide) (by decide) rfl (fun ls hl => ?_)
  refine lv_goto (tgt := 9) hx hb d_Y_mass_26 (by decide) ?_
  refine lv_iload_n hx hb d_Y_mass_9 rfl (lv_at hl 0 rfl) ?_
  refine lv_iconst (v := 3) hx hb d_Y_mass_10 (by decide) ?_
  refine lv_icmp_ge (tgt := 29) hx hb d_Y_mass_11 (by decide) (fun c_4 => absurd c_4 (by decide)) (fun c_4 => ?_)
  refine lv_lload_n hx hb d_Y_mass_14 rfl (lv_at hl 1 rfl) ?_
  refine lv_aload_n hx hb d_Y_mass_15 rfl (lv_at hl 2 rfl) ?_
  refine wr_get hx hb hts in_Y hown hK hP (7 + 2 * i) (by omega) (xE_lay g ad L x hi) rfl 0 (by decide) (hts _ tw_78) rfl d_Y_mass_16 ?_
  refine lv_iload_n hx hb d_Y_mass_19 rfl (lv_at hl 0 rfl) ?_
  refine wr_lald hx hb hK hP (8 + 2 * i) 0 (by omega) (xE_stk g ad L x hi) rfl 1 (by decide) (by omega) (by omega) d_Y_mass_20 ?_
  refine lv_ladd hx hb d_Y_mass_21 ?_
  refine lv_topl (fun v_5 ev_5 => ?_)
  refine lv_lstore_n (lv' := [(1, .long v_5), (3, .int 1), (0, .ref (ad (7 + 2 * i)))]) hx hb d_Y_mass_22 rfl hl (by decide) rfl (fun ls hl => ?_)
  refine lv_iinc (v := 2) (lv' := [(3, .int 2), (1, .long v_5), (0, .ref (ad (7 + 2 * i)))]) hx hb d_Y_mass_23 hl (k := 1) rfl (by decide) (by decide) rfl (fun ls hl => ?_)
  refine lv_goto (tgt := 9) hx hb d_Y_mass_26 (by decide) ?_
  refine lv_iload_n hx hb d_Y_mass_9 rfl (lv_at hl 0 rfl) ?_
  refine lv_iconst (v := 3) hx hb d_Y_mass_10 (by decide) ?_
  refine lv_icmp_ge (tgt := 29) hx hb d_Y_mass_11 (by decide) (fun c_6 => absurd c_6 (by decide)) (fun c_6 => ?_)
  refine lv_lload_n hx hb d_Y_mass_14 rfl (lv_at hl 1 rfl) ?_
  refine lv_aload_n hx hb d_Y_mass_15 rfl (lv_at hl 2 rfl) ?_
  refine wr_get hx hb hts in_Y hown hK hP (7 + 2 * i) (by omega) (xE_lay g ad L x hi) rfl 0 (by decide) (hts _ tw_78) rfl d_Y_mass_16 ?_
  refine lv_iload_n hx hb d_Y_mass_19 rfl (lv_at hl 0 rfl) ?_
  refine wr_lald hx hb hK hP (8 + 2 * i) 0 (by omega) (xE_stk g ad L x hi) rfl 2 (by decide) (by omega) (by omega) d_Y_mass_20 ?_
  refine lv_ladd hx hb d_Y_mass_21 ?_
  refine lv_topl (fun v_7 ev_7 => ?_)
  refine lv_lstore_n (lv' := [(1, .long v_7), (3, .int 2), (0, .ref (ad (7 + 2 * i)))]) hx hb d_Y_mass_22 rfl hl (by decide) rfl (fun ls hl => ?_)
  refine lv_iinc (v := 3) (lv' := [(3, .int 3), (1, .long v_7), (0, .ref (ad (7 + 2 * i)))]) hx hb d_Y_mass_23 hl (k := 1) rfl (by decide) (by decide) rfl (fun ls hl => ?_)
  refine lv_goto (tgt := 9) hx hb d_Y_mass_26 (by decide) ?_
  refine lv_iload_n hx hb d_Y_mass_9 rfl (lv_at hl 0 rfl) ?_
  refine lv_iconst (v := 3) hx hb d_Y_mass_10 (by decide) ?_
  refine lv_icmp_ge (tgt := 29) hx hb d_Y_mass_11 (by decide) (fun c_8 => ?_) (fun c_8 => absurd (by decide) c_8)
  refine lv_lload_n hx hb d_Y_mass_29 rfl (lv_at hl 1 rfl) ?_
  subst ev_1
  subst ev_3
  subst ev_5
  subst ev_7
  exact W.lret hx hb hr (fun t ht hW => ⟨⟨_, (), rfl, by (try simp only [x_mass]); first | done | rfl, by dsimp only; rw [ht]; (try simp only [x_mass]); exact hP⟩, hS.F ht⟩) hS.2.2 d_Y_mass_30
set_option maxHeartbeats 4000000 in
set_option maxRecDepth 100000 in
theorem c_Y_warmthNow (l : Launch) (g : wG) (ad : Nat → Nat) {L : Nat} (hL : 1 ≤ L ∧ L ≤ 6) (x : xS) {i : Nat} (hi : i < L) : CtL l y_Y_warmthNow ws_Y_warmthNow ({ frames := 1, cells := 0, slots := 0, locals := 23 }) g (16 + 2 * L) ad (xE g ad L x) (xE g ad L x) [.ref (ad (7 + 2 * i))] (x_warm x i) := by
  intro sz
  refine Met.ofW (cc := b_Y_warmthNow) (maxL := 3) (ret := (some .long)) (by decide +kernel) rfl ?_
  intro p e s m args below meth c s₁ B hml hv
  obtain ⟨rfl, hsz, hP, hK, hN, hJ⟩ := hv
  have hx := B.exec
  have hb := B.bytes
  have hr := B.returns
  have hts0 := atoms_spec (ws := ws_Y_warmthNow) B.pre
  have hts : ∀ w ∈ tb, w.before _ s = true := fun w h => hts0 w (List.mem_cons_of_mem _ h)
  have hown : s.vm.findClass "HeapSteps$Layer" = some m.cls := findClass_of_methodNamed B.named
  have hlocks := B.notSynchronized
  subst hsz
  have hS : va_S (wA (16 + 2 * L) ad s.heap.size) s.heap s.heap [] := va_S.rf
  have hl := lv_entry ([.ref (ad (7 + 2 * i))]) (n := 3) (Nat.le_of_ble_eq_true rfl)
  rw [lg_entry_eq]
  generalize (lg_sl ([.ref (ad (7 + 2 * i))]) ++ List.replicate (3 - (lg_sl ([.ref (ad (7 + 2 * i))])).length) Slot.unset).toArray = ls at hl ⊢
  have hl : lv_has ls 3 [(0, .ref (ad (7 + 2 * i)))] := hl
  refine lv_aload_n hx hb d_Y_warmthNow_0 rfl (lv_at hl 0 rfl) ?_
  refine wc_l (va_runV (As := []) (rest := []) ⟨hx, hb, hml, hown, hts⟩ (c_Y_mass l g ad hL x hi _) (cwV 0 hts (gd_V tw_223 tw_224 tw_225 tw_26 tw_226) rfl rfl rfl (by decide +kernel) ⟨Nat.le_of_ble_eq_true rfl, Nat.le_of_ble_eq_true rfl⟩) (wp_V hK hN hP hJ (7 + 2 * i) (by omega) (xE_lay g ad L x hi) rfl) rfl rfl hl.1 rfl (lv_room (Nat.le_of_ble_eq_true rfl)) d_Y_warmthNow_1 ⟨Nat.zero_le _, Nat.zero_le _⟩) hS (fun H locs hP hS => ?_)
  refine lv_topl (fun v_1 ev_1 => ?_)
  refine lv_lstore_n (lv' := [(1, .long v_1), (0, .ref (ad (7 + 2 * i)))]) hx hb d_Y_warmthNow_4 rfl hl (by decide) rfl (fun ls hl => ?_)
  refine lv_lload_n hx hb d_Y_warmthNow_5 rfl (lv_at hl 0 rfl) ?_
  refine lv_lconst (v := 0) hx hb d_Y_warmthNow_6 (by decide) ?_
  refine W.lcmp hx hb d_Y_warmthNow_7 ?_
  refine lv_if_le (tgt := 22) hx hb d_Y_warmthNow_8 (by decide) (fun c_2 => ?_) (fun c_2 => ?_)
  · skip
    refine lv_lconst (v := 0) hx hb d_Y_warmthNow_22 (by decide) ?_
    subst ev_1
    exact W.lret hx hb hr (fun t ht hW => ⟨⟨_, (), rfl, by (try simp only [x_warm, if_pos c_2]); first | done | rfl, by dsimp only; rw [ht]; (try simp only [x_warm, if_pos c_2]); exact hP⟩, hS.F ht⟩) hS.2.2 d_Y_warmthNow_23
  · skip
    refine lv_aload_n hx hb d_Y_warmthNow_11 rfl (lv_at hl 1 rfl) ?_
    refine wr_get hx hb hts in_Y hown hK hP (7 + 2 * i) (by omega) (xE_lay g ad L x hi) rfl 0 (by decide) (hts _ tw_78) rfl d_Y_warmthNow_12 ?_
    refine lv_iconst (v := 4) hx hb d_Y_warmthNow_15 (by decide) ?_
    refine wr_lald hx hb hK hP (8 + 2 * i) 0 (by omega) (xE_stk g ad L x hi) rfl 4 (by decide) (by omega) (by omega) d_Y_warmthNow_16 ?_
    refine lv_lload_n hx hb d_Y_warmthNow_17 rfl (lv_at hl 0 rfl) ?_
    refine lv_ldiv hx hb d_Y_warmthNow_18 (fun q => c_2 (by rw [q]; decide)) ?_
    refine lv_goto (tgt := 23) hx hb d_Y_warmthNow_19 (by decide) ?_
    subst ev_1
    exact W.lret hx hb hr (fun t ht hW => ⟨⟨_, (), rfl, by (try simp only [x_warm, if_neg c_2]); first | done | rfl, by dsimp only; rw [ht]; (try simp only [x_warm, if_neg c_2]); exact hP⟩, hS.F ht⟩) hS.2.2 d_Y_warmthNow_23
set_option maxHeartbeats 4000000 in
set_option maxRecDepth 100000 in
theorem c_Y_takeSurplus (l : Launch) (g : wG) (ad : Nat → Nat) {L : Nat} (hL : 1 ≤ L ∧ L ≤ 6) (x : xS) {i : Nat} (hi : i < L) : CtL l y_Y_takeSurplus ws_Y_takeSurplus ({ frames := 1, cells := 0, slots := 0, locals := 23 }) g (16 + 2 * L) ad (xE g ad L x) (xE g ad L (x_takeSurplus x i)) [.ref (ad (7 + 2 * i))] (x_surplus x i) := by
  intro sz
  refine Met.ofW (cc := b_Y_takeSurplus) (maxL := 3) (ret := (some .long)) (by decide +kernel) rfl ?_
  intro p e s m args below meth c s₁ B hml hv
  obtain ⟨rfl, hsz, hP, hK, hN, hJ⟩ := hv
  have hx := B.exec
  have hb := B.bytes
  have hr := B.returns
  have hts0 := atoms_spec (ws := ws_Y_takeSurplus) B.pre
  have hts : ∀ w ∈ tb, w.before _ s = true := fun w h => hts0 w (List.mem_cons_of_mem _ h)
  have hown : s.vm.findClass "HeapSteps$Layer" = some m.cls := findClass_of_methodNamed B.named
  have hlocks := B.notSynchronized
  subst hsz
  have hS : va_S (wA (16 + 2 * L) ad s.heap.size) s.heap s.heap [] := va_S.rf
  have hl := lv_entry ([.ref (ad (7 + 2 * i))]) (n := 3) (Nat.le_of_ble_eq_true rfl)
  rw [lg_entry_eq]
  generalize (lg_sl ([.ref (ad (7 + 2 * i))]) ++ List.replicate (3 - (lg_sl ([.ref (ad (7 + 2 * i))])).length) Slot.unset).toArray = ls at hl ⊢
  have hl : lv_has ls 3 [(0, .ref (ad (7 + 2 * i)))] := hl
  refine lv_lconst (v := 0) hx hb d_Y_takeSurplus_0 (by decide) ?_
  refine lv_aload_n hx hb d_Y_takeSurplus_1 rfl (lv_at hl 0 rfl) ?_
  refine wr_get hx hb hts in_Y hown hK hP (7 + 2 * i) (by omega) (xE_lay g ad L x hi) rfl 0 (by decide) (hts _ tw_78) rfl d_Y_takeSurplus_2 ?_
  refine lv_iconst (v := 3) hx hb d_Y_takeSurplus_5 (by decide) ?_
  refine wr_lald hx hb hK hP (8 + 2 * i) 0 (by omega) (xE_stk g ad L x hi) rfl 3 (by decide) (by omega) (by omega) d_Y_takeSurplus_6 ?_
  refine lv_aload_n hx hb d_Y_takeSurplus_7 rfl (lv_at hl 0 rfl) ?_
  refine wr_get hx hb hts in_Y hown hK hP (7 + 2 * i) (by omega) (xE_lay g ad L x hi) rfl 2 (by decide) (hts _ tw_82) rfl d_Y_takeSurplus_8 ?_
  refine lv_i2l hx hb d_Y_takeSurplus_11 rfl ?_
  refine lv_lsub hx hb d_Y_takeSurplus_12 ?_
  refine va_mmax_long hx hb (hml.trans hl.1.symm) hown (hts _ tw_271) (hts _ tw_228) (hts _ tw_29) (hts _ tw_229) (Nat.le_of_ble_eq_true rfl) (Nat.le_of_ble_eq_true rfl) (Nat.zero_le _) (Nat.zero_le _) d_Y_takeSurplus_13 ?_
  refine W.eq (g2 := F0 m 16 ls [.long (x_max 0 ((xT x i 3) - (Int32.toInt64 (xB x i 1))))]) rfl ?_
  refine lv_topl (fun v_1 ev_1 => ?_)
  refine lv_lstore_n (lv' := [(1, .long v_1), (0, .ref (ad (7 + 2 * i)))]) hx hb d_Y_takeSurplus_16 rfl hl (by decide) rfl (fun ls hl => ?_)
  refine lv_aload_n hx hb d_Y_takeSurplus_17 rfl (lv_at hl 1 rfl) ?_
  refine wr_get hx hb hts in_Y hown hK hP (7 + 2 * i) (by omega) (xE_lay g ad L x hi) rfl 0 (by decide) (hts _ tw_78) rfl d_Y_takeSurplus_18 ?_
  refine lv_iconst (v := 3) hx hb d_Y_takeSurplus_21 (by decide) ?_
  refine lv_dup2_11 hx hb d_Y_takeSurplus_22 rfl rfl ?_
  refine wr_lald hx hb hK hP (8 + 2 * i) 0 (by omega) (xE_stk g ad L x hi) rfl 3 (by decide) (by omega) (by omega) d_Y_takeSurplus_23 ?_
  refine lv_lload_n hx hb d_Y_takeSurplus_24 rfl (lv_at hl 0 rfl) ?_
  refine lv_lsub hx hb d_Y_takeSurplus_25 ?_
  obtain ⟨x_2, ex_2⟩ : ∃ z9, z9 = xT' x i 3 ((xT x i 3) - v_1) := ⟨_, rfl⟩
  refine wr_last (E' := xE g ad L x_2) hx hb hK hP hJ hS (8 + 2 * i) 0 (by omega) (xE_stk g ad L x hi) rfl 3 (by decide) (by omega) (by omega) (by rw [ex_2]; exact xU_T g ad L x hi 3 ((xT x i 3) - v_1)) d_Y_takeSurplus_26 (fun H locs hP hS => ?_)
  refine lv_lload_n hx hb d_Y_takeSurplus_27 rfl (lv_at hl 0 rfl) ?_
  subst ev_1
  subst ex_2
  exact W.lret hx hb hr (fun t ht hW => ⟨⟨_, (), rfl, by (try simp only [x_takeSurplus, x_surplus]); first | done | rfl, by dsimp only; rw [ht]; (try simp only [x_takeSurplus, x_surplus]); exact hP⟩, hS.F ht⟩) hS.2.2 d_Y_takeSurplus_28
