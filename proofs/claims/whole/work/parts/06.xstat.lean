set_option maxHeartbeats 4000000 in
set_option maxRecDepth 100000 in
theorem c_X_within (l : Launch) (g : wG) (n : Nat) (ad : Nat → Nat) (E : Nat → va_E) (a1 a2 a3 : Int32) : CtI l y_X_within ws_X_within ({ frames := 0, cells := 0, slots := 0, locals := 0 }) g n ad E E [.int a1, .int a2, .int a3] (x_within a1 a2 a3) := by
  intro sz
  refine Met.ofW (cc := b_X_within) (maxL := 3) (ret := (some .boolean)) (by decide +kernel) rfl ?_
  intro p e s m args below meth c s₁ B hml hv
  obtain ⟨rfl, hsz, hP, hK, hN, hJ⟩ := hv
  have hx := B.exec
  have hb := B.bytes
  have hr := B.returns
  have hts0 := atoms_spec (ws := ws_X_within) B.pre
  have hts : ∀ w ∈ tb, w.before _ s = true := fun w h => hts0 w (List.mem_cons_of_mem _ h)
  have hown : s.vm.findClass "HeapSteps" = some m.cls := findClass_of_methodNamed B.named
  have hlocks := B.notSynchronized
  subst hsz
  have hS : va_S (wA n ad s.heap.size) s.heap s.heap [] := va_S.rf
  have hl := lv_entry ([.int a1, .int a2, .int a3]) (n := 3) (Nat.le_of_ble_eq_true rfl)
  rw [lg_entry_eq]
  generalize (lg_sl ([.int a1, .int a2, .int a3]) ++ List.replicate (3 - (lg_sl ([.int a1, .int a2, .int a3])).length) Slot.unset).toArray = ls at hl ⊢
  have hl : lv_has ls 3 [(0, .int a1), (1, .int a2), (2, .int a3)] := hl
  refine lv_iload_n hx hb d_X_within_0 rfl (lv_at hl 0 rfl) ?_
  refine lv_iload_n hx hb d_X_within_1 rfl (lv_at hl 1 rfl) ?_
  refine lv_icmp_lt (tgt := 14) hx hb d_X_within_2 (by decide) (fun c_1 => ?_) (fun c_1 => ?_)
  · skip
    refine lv_iconst (v := 0) hx hb d_X_within_14 (by decide) ?_
    exact W.zret hx hb hr rfl (fun t ht hW => ⟨⟨_, (), rfl, by (try simp only [x_within, if_pos c_1]); first | done | rfl, by dsimp only; rw [ht]; (try simp only [x_within, if_pos c_1]); exact hP⟩, hS.F ht⟩) hS.2.2 d_X_within_15
  · skip
    refine lv_iload_n hx hb d_X_within_5 rfl (lv_at hl 0 rfl) ?_
    refine lv_iload_n hx hb d_X_within_6 rfl (lv_at hl 2 rfl) ?_
    refine lv_icmp_gt (tgt := 14) hx hb d_X_within_7 (by decide) (fun c_2 => ?_) (fun c_2 => ?_)
    · skip
      refine lv_iconst (v := 0) hx hb d_X_within_14 (by decide) ?_
      exact W.zret hx hb hr rfl (fun t ht hW => ⟨⟨_, (), rfl, by (try simp only [x_within, if_neg c_1, if_pos c_2]); first | done | rfl, by dsimp only; rw [ht]; (try simp only [x_within, if_neg c_1, if_pos c_2]); exact hP⟩, hS.F ht⟩) hS.2.2 d_X_within_15
    · skip
      refine lv_iconst (v := 1) hx hb d_X_within_10 (by decide) ?_
      refine lv_goto (tgt := 15) hx hb d_X_within_11 (by decide) ?_
      exact W.zret hx hb hr rfl (fun t ht hW => ⟨⟨_, (), rfl, by (try simp only [x_within, if_neg c_1, if_neg c_2]); first | done | rfl, by dsimp only; rw [ht]; (try simp only [x_within, if_neg c_1, if_neg c_2]); exact hP⟩, hS.F ht⟩) hS.2.2 d_X_within_15
set_option maxHeartbeats 4000000 in
set_option maxRecDepth 100000 in
theorem c_X_isPart (l : Launch) (g : wG) (n : Nat) (ad : Nat → Nat) (E : Nat → va_E) (a1 : Int32) : CtI l y_X_isPart ws_X_isPart ({ frames := 1, cells := 0, slots := 0, locals := 22 }) g n ad E E [.int a1] (x_within a1 0 2) := by
  intro sz
  refine Met.ofW (cc := b_X_isPart) (maxL := 1) (ret := (some .boolean)) (by decide +kernel) rfl ?_
  intro p e s m args below meth c s₁ B hml hv
  obtain ⟨rfl, hsz, hP, hK, hN, hJ⟩ := hv
  have hx := B.exec
  have hb := B.bytes
  have hr := B.returns
  have hts0 := atoms_spec (ws := ws_X_isPart) B.pre
  have hts : ∀ w ∈ tb, w.before _ s = true := fun w h => hts0 w (List.mem_cons_of_mem _ h)
  have hown : s.vm.findClass "HeapSteps" = some m.cls := findClass_of_methodNamed B.named
  have hlocks := B.notSynchronized
  subst hsz
  have hS : va_S (wA n ad s.heap.size) s.heap s.heap [] := va_S.rf
  have hl := lv_entry ([.int a1]) (n := 1) (Nat.le_of_ble_eq_true rfl)
  rw [lg_entry_eq]
  generalize (lg_sl ([.int a1]) ++ List.replicate (1 - (lg_sl ([.int a1])).length) Slot.unset).toArray = ls at hl ⊢
  have hl : lv_has ls 1 [(0, .int a1)] := hl
  refine lv_iload_n hx hb d_X_isPart_0 rfl (lv_at hl 0 rfl) ?_
  refine lv_iconst (v := 0) hx hb d_X_isPart_1 (by decide) ?_
  refine lv_iconst (v := 2) hx hb d_X_isPart_2 (by decide) ?_
  refine wc_i (va_runS (As := [.int a1, .int 0, .int 2]) (rest := []) ⟨hx, hb, hml, hown, hts⟩ (c_X_within l g _ ad _ a1 0 2 _) (cwS 3 hts (gd_S tw_67 tw_68 tw_24 tw_69) rfl rfl rfl (by decide +kernel) ⟨Nat.le_of_ble_eq_true rfl, Nat.le_of_ble_eq_true rfl⟩) (wp_S hK hN hP hJ) rfl rfl hl.1 rfl (lv_room (Nat.le_of_ble_eq_true rfl)) d_X_isPart_3 ⟨Nat.zero_le _, Nat.zero_le _⟩) hS (fun H locs hP hS => ?_)
  exact W.zret hx hb hr (nb_within _ _ _) (fun t ht hW => ⟨⟨_, (), rfl, by skip; first | done | rfl, by dsimp only; rw [ht]; skip; exact hP⟩, hS.F ht⟩) hS.2.2 d_X_isPart_6
set_option maxHeartbeats 4000000 in
set_option maxRecDepth 100000 in
theorem c_X_millionthsOf (l : Launch) (g : wG) (n : Nat) (ad : Nat → Nat) (E : Nat → va_E) (u v : Int64) : CtL l y_X_millionthsOf ws_X_millionthsOf ({ frames := 0, cells := 0, slots := 0, locals := 0 }) g n ad E E [.long u, .long v] (x_mo u v) := by
  intro sz
  refine Met.ofW (cc := b_X_millionthsOf) (maxL := 4) (ret := (some .long)) (by decide +kernel) rfl ?_
  intro p e s m args below meth c s₁ B hml hv
  obtain ⟨rfl, hsz, hP, hK, hN, hJ⟩ := hv
  have hx := B.exec
  have hb := B.bytes
  have hr := B.returns
  have hts0 := atoms_spec (ws := ws_X_millionthsOf) B.pre
  have hts : ∀ w ∈ tb, w.before _ s = true := fun w h => hts0 w (List.mem_cons_of_mem _ h)
  have hown : s.vm.findClass "HeapSteps" = some m.cls := findClass_of_methodNamed B.named
  have hlocks := B.notSynchronized
  subst hsz
  have hS : va_S (wA n ad s.heap.size) s.heap s.heap [] := va_S.rf
  have hl := lv_entry ([.long u, .long v]) (n := 4) (Nat.le_of_ble_eq_true rfl)
  rw [lg_entry_eq]
  generalize (lg_sl ([.long u, .long v]) ++ List.replicate (4 - (lg_sl ([.long u, .long v])).length) Slot.unset).toArray = ls at hl ⊢
  have hl : lv_has ls 4 [(0, .long u), (2, .long v)] := hl
  refine lv_lload_n hx hb d_X_millionthsOf_0 rfl (lv_at hl 0 rfl) ?_
  refine lv_ldc2 (v := 1000000) hx hb hown (hts _ tw_253) d_X_millionthsOf_1 ?_
  refine lv_ldiv hx hb d_X_millionthsOf_4 (by decide) ?_
  refine lv_lload_n hx hb d_X_millionthsOf_5 rfl (lv_at hl 1 rfl) ?_
  refine lv_lmul hx hb d_X_millionthsOf_6 ?_
  refine lv_lload_n hx hb d_X_millionthsOf_7 rfl (lv_at hl 0 rfl) ?_
  refine lv_ldc2 (v := 1000000) hx hb hown (hts _ tw_253) d_X_millionthsOf_8 ?_
  refine lv_lrem hx hb d_X_millionthsOf_11 (by decide) ?_
  refine lv_lload_n hx hb d_X_millionthsOf_12 rfl (lv_at hl 1 rfl) ?_
  refine lv_lmul hx hb d_X_millionthsOf_13 ?_
  refine lv_ldc2 (v := 1000000) hx hb hown (hts _ tw_253) d_X_millionthsOf_14 ?_
  refine lv_ldiv hx hb d_X_millionthsOf_17 (by decide) ?_
  refine lv_ladd hx hb d_X_millionthsOf_18 ?_
  exact W.lret hx hb hr (fun t ht hW => ⟨⟨_, (), rfl, by (try simp only [x_mo]); first | done | rfl, by dsimp only; rw [ht]; (try simp only [x_mo]); exact hP⟩, hS.F ht⟩) hS.2.2 d_X_millionthsOf_19
set_option maxHeartbeats 4000000 in
set_option maxRecDepth 100000 in
theorem c_X_cut (l : Launch) (g : wG) (n : Nat) (ad : Nat → Nat) (E : Nat → va_E) (u v w : Int64) : CtL l y_X_cut ws_X_cut ({ frames := 1, cells := 0, slots := 0, locals := 23 }) g n ad E E [.long u, .long v, .long w] (x_cut u v w) := by
  intro sz
  refine Met.ofW (cc := b_X_cut) (maxL := 6) (ret := (some .long)) (by decide +kernel) rfl ?_
  intro p e s m args below meth c s₁ B hml hv
  obtain ⟨rfl, hsz, hP, hK, hN, hJ⟩ := hv
  have hx := B.exec
  have hb := B.bytes
  have hr := B.returns
  have hts0 := atoms_spec (ws := ws_X_cut) B.pre
  have hts : ∀ w ∈ tb, w.before _ s = true := fun w h => hts0 w (List.mem_cons_of_mem _ h)
  have hown : s.vm.findClass "HeapSteps" = some m.cls := findClass_of_methodNamed B.named
  have hlocks := B.notSynchronized
  subst hsz
  have hS : va_S (wA n ad s.heap.size) s.heap s.heap [] := va_S.rf
  have hl := lv_entry ([.long u, .long v, .long w]) (n := 6) (Nat.le_of_ble_eq_true rfl)
  rw [lg_entry_eq]
  generalize (lg_sl ([.long u, .long v, .long w]) ++ List.replicate (6 - (lg_sl ([.long u, .long v, .long w])).length) Slot.unset).toArray = ls at hl ⊢
  have hl : lv_has ls 6 [(0, .long u), (2, .long v), (4, .long w)] := hl
  refine lv_lload_n hx hb d_X_cut_0 rfl (lv_at hl 1 rfl) ?_
  refine lv_lload hx hb d_X_cut_1 (lv_at hl 2 rfl) ?_
  refine lv_lload_n hx hb d_X_cut_3 rfl (lv_at hl 0 rfl) ?_
  refine va_mmin_long hx hb (hml.trans hl.1.symm) hown (hts _ tw_264) (hts _ tw_265) (hts _ tw_29) (hts _ tw_266) (Nat.le_of_ble_eq_true rfl) (Nat.le_of_ble_eq_true rfl) (Nat.zero_le _) (Nat.zero_le _) d_X_cut_4 ?_
  refine W.eq (g2 := F0 m 7 ls [.long (x_min w u), .long v]) rfl ?_
  refine va_mmax_long hx hb (hml.trans hl.1.symm) hown (hts _ tw_227) (hts _ tw_228) (hts _ tw_29) (hts _ tw_229) (Nat.le_of_ble_eq_true rfl) (Nat.le_of_ble_eq_true rfl) (Nat.zero_le _) (Nat.zero_le _) d_X_cut_7 ?_
  refine W.eq (g2 := F0 m 10 ls [.long (x_max v (x_min w u))]) rfl ?_
  exact W.lret hx hb hr (fun t ht hW => ⟨⟨_, (), rfl, by (try simp only [x_cut]); first | done | rfl, by dsimp only; rw [ht]; (try simp only [x_cut]); exact hP⟩, hS.F ht⟩) hS.2.2 d_X_cut_10
set_option maxHeartbeats 4000000 in
set_option maxRecDepth 100000 in
theorem c_J_floorDiv (l : Launch) (g : wG) (n : Nat) (ad : Nat → Nat) (E : Nat → va_E) (u v : Int64) (hv : ¬ v = 0) : CtL l y_J_floorDiv ws_J_floorDiv ({ frames := 0, cells := 0, slots := 0, locals := 0 }) g n ad E E [.long u, .long v] (x_floorDiv u v) := by
  intro sz
  refine va_MetF (cc := b_J_floorDiv) (maxL := 6) (ret := (some .long)) (by decide +kernel) rfl ?_
  intro p e s m args below meth c s₁ B hml hv
  obtain ⟨rfl, hsz, hP, hK, hN, hJ⟩ := hv
  have hx := B.exec
  have hb := B.bytes
  have hr := B.returns
  have hts0 := atoms_spec (ws := ws_J_floorDiv) B.pre
  have hts : ∀ w ∈ tb, w.before _ s = true := fun w h => hts0 w (List.mem_cons_of_mem _ h)
  have hown : s.vm.findClass "java/lang/Math" = some m.cls := findClass_of_methodNamed B.named
  have hlocks := B.notSynchronized
  subst hsz
  have hS : va_S (wA n ad s.heap.size) s.heap s.heap [] := va_S.rf
  have hl := lv_entry ([.long u, .long v]) (n := 6) (Nat.le_of_ble_eq_true rfl)
  rw [lg_entry_eq]
  generalize (lg_sl ([.long u, .long v]) ++ List.replicate (6 - (lg_sl ([.long u, .long v])).length) Slot.unset).toArray = ls at hl ⊢
  have hl : lv_has ls 6 [(0, .long u), (2, .long v)] := hl
  refine lv_lload_n hx hb d_J_floorDiv_0 rfl (lv_at hl 0 rfl) ?_
  refine lv_lload_n hx hb d_J_floorDiv_1 rfl (lv_at hl 1 rfl) ?_
  refine lv_ldiv hx hb d_J_floorDiv_2 (by assumption) ?_
  refine lv_topl (fun v_1 ev_1 => ?_)
  refine lv_lstore (lv' := [(4, .long v_1), (0, .long u), (2, .long v)]) hx hb d_J_floorDiv_3 hl (by decide) rfl (fun ls hl => ?_)
  refine lv_lload_n hx hb d_J_floorDiv_5 rfl (lv_at hl 1 rfl) ?_
  refine lv_lload_n hx hb d_J_floorDiv_6 rfl (lv_at hl 2 rfl) ?_
  refine lv_lxor hx hb d_J_floorDiv_7 ?_
  refine lv_lconst (v := 0) hx hb d_J_floorDiv_8 (by decide) ?_
  refine W.lcmp hx hb d_J_floorDiv_9 ?_
  refine lv_if_ge (tgt := 27) hx hb d_J_floorDiv_10 (by decide) (fun c_2 => ?_) (fun c_2 => ?_)
  · skip
    refine lv_lload hx hb d_J_floorDiv_27 (lv_at hl 0 rfl) ?_
    subst ev_1
    exact W.lret hx hb hr (fun t ht hW => ⟨⟨_, (), rfl, by (try simp only [x_floorDiv, if_pos c_2]); first | done | rfl, by dsimp only; rw [ht]; (try simp only [x_floorDiv, if_pos c_2]); exact hP⟩, hS.F ht⟩) hS.2.2 d_J_floorDiv_29
  · skip
    refine lv_lload hx hb d_J_floorDiv_13 (lv_at hl 0 rfl) ?_
    refine lv_lload_n hx hb d_J_floorDiv_15 rfl (lv_at hl 2 rfl) ?_
    refine lv_lmul hx hb d_J_floorDiv_16 ?_
    refine lv_lload_n hx hb d_J_floorDiv_17 rfl (lv_at hl 1 rfl) ?_
    refine W.lcmp hx hb d_J_floorDiv_18 ?_
    refine lv_if_eq (tgt := 27) hx hb d_J_floorDiv_19 (by decide) (fun c_3 => ?_) (fun c_3 => ?_)
    · skip
      refine lv_lload hx hb d_J_floorDiv_27 (lv_at hl 0 rfl) ?_
      subst ev_1
      exact W.lret hx hb hr (fun t ht hW => ⟨⟨_, (), rfl, by (try simp only [x_floorDiv, if_neg c_2, if_pos c_3]); first | done | rfl, by dsimp only; rw [ht]; (try simp only [x_floorDiv, if_neg c_2, if_pos c_3]); exact hP⟩, hS.F ht⟩) hS.2.2 d_J_floorDiv_29
    · skip
      refine lv_lload hx hb d_J_floorDiv_22 (lv_at hl 0 rfl) ?_
      refine lv_lconst (v := 1) hx hb d_J_floorDiv_24 (by decide) ?_
      refine lv_lsub hx hb d_J_floorDiv_25 ?_
      subst ev_1
      exact W.lret hx hb hr (fun t ht hW => ⟨⟨_, (), rfl, by (try simp only [x_floorDiv, if_neg c_2, if_neg c_3]); first | done | rfl, by dsimp only; rw [ht]; (try simp only [x_floorDiv, if_neg c_2, if_neg c_3]); exact hP⟩, hS.F ht⟩) hS.2.2 d_J_floorDiv_26
