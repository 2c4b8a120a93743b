set_option maxHeartbeats 4000000 in
set_option maxRecDepth 100000 in
theorem c_M_isIn (l : Launch) (g : wG) (n : Nat) (ad : Nat → Nat) (E : Nat → va_E) (u v w : Int64) : CtI l y_M_isIn ws_M_isIn ({ frames := 0, cells := 0, slots := 0, locals := 0 }) g n ad E E [.long u, .long v, .long w] (m_isIn u v w) := by
  intro sz
  refine Met.ofW (cc := b_M_isIn) (maxL := 6) (ret := (some .boolean)) (by decide +kernel) rfl ?_
  intro p e s m args below meth c s₁ B hml hv
  obtain ⟨rfl, hsz, hP, hK, hN, hJ⟩ := hv
  have hx := B.exec
  have hb := B.bytes
  have hr := B.returns
  have hts0 := atoms_spec (ws := ws_M_isIn) B.pre
  have hts : ∀ w ∈ tb, w.before _ s = true := fun w h => hts0 w (List.mem_cons_of_mem _ h)
  have hown : s.vm.findClass "HeapStepsModel" = some m.cls := findClass_of_methodNamed B.named
  have hlocks := B.notSynchronized
  subst hsz
  have hS : va_S (wA n ad s.heap.size) s.heap s.heap [] := va_S.rf
  have hl := lv_entry ([.long u, .long v, .long w]) (n := 6) (Nat.le_of_ble_eq_true rfl)
  rw [lg_entry_eq]
  generalize (lg_sl ([.long u, .long v, .long w]) ++ List.replicate (6 - (lg_sl ([.long u, .long v, .long w])).length) Slot.unset).toArray = ls at hl ⊢
  have hl : lv_has ls 6 [(0, .long u), (2, .long v), (4, .long w)] := hl
  refine lv_lload_n hx hb d_M_isIn_0 rfl (lv_at hl 0 rfl) ?_
  refine lv_lload_n hx hb d_M_isIn_1 rfl (lv_at hl 1 rfl) ?_
  refine W.lcmp hx hb d_M_isIn_2 ?_
  refine lv_if_lt (tgt := 17) hx hb d_M_isIn_3 (by decide) (fun c_1 => ?_) (fun c_1 => ?_)
  · skip
    refine lv_iconst (v := 0) hx hb d_M_isIn_17 (by decide) ?_
    exact W.zret hx hb hr rfl (fun t ht hW => ⟨⟨_, (), rfl, by (try simp only [m_isIn, if_pos c_1, ite_self]); first | done | rfl | assumption | exact x_within_1 (by assumption), by dsimp only; rw [ht]; (try simp only [m_isIn, if_pos c_1, ite_self]); exact hP⟩, hS.F ht⟩) hS.2.2 d_M_isIn_18
  · skip
    refine lv_lload_n hx hb d_M_isIn_6 rfl (lv_at hl 0 rfl) ?_
    refine lv_lload hx hb d_M_isIn_7 (lv_at hl 2 rfl) ?_
    refine W.lcmp hx hb d_M_isIn_9 ?_
    refine lv_if_gt (tgt := 17) hx hb d_M_isIn_10 (by decide) (fun c_2 => ?_) (fun c_2 => ?_)
    · skip
      refine lv_iconst (v := 0) hx hb d_M_isIn_17 (by decide) ?_
      exact W.zret hx hb hr rfl (fun t ht hW => ⟨⟨_, (), rfl, by (try simp only [m_isIn, if_neg c_1, if_pos c_2, ite_self]); first | done | rfl | assumption | exact x_within_1 (by assumption), by dsimp only; rw [ht]; (try simp only [m_isIn, if_neg c_1, if_pos c_2, ite_self]); exact hP⟩, hS.F ht⟩) hS.2.2 d_M_isIn_18
    · skip
      refine lv_iconst (v := 1) hx hb d_M_isIn_13 (by decide) ?_
      refine lv_goto (tgt := 18) hx hb d_M_isIn_14 (by decide) ?_
      exact W.zret hx hb hr rfl (fun t ht hW => ⟨⟨_, (), rfl, by (try simp only [m_isIn, if_neg c_1, if_neg c_2, ite_self]); first | done | rfl | assumption | exact x_within_1 (by assumption), by dsimp only; rw [ht]; (try simp only [m_isIn, if_neg c_1, if_neg c_2, ite_self]); exact hP⟩, hS.F ht⟩) hS.2.2 d_M_isIn_18
set_option maxHeartbeats 4000000 in
set_option maxRecDepth 100000 in
theorem c_M_isPart (l : Launch) (g : wG) (n : Nat) (ad : Nat → Nat) (E : Nat → va_E) (a1 : Int32) : CtI l y_M_isPart ws_M_isPart ({ frames := 0, cells := 0, slots := 0, locals := 0 }) g n ad E E [.int a1] (m_isPart a1) := by
  intro sz
  refine Met.ofW (cc := b_M_isPart) (maxL := 1) (ret := (some .boolean)) (by decide +kernel) rfl ?_
  intro p e s m args below meth c s₁ B hml hv
  obtain ⟨rfl, hsz, hP, hK, hN, hJ⟩ := hv
  have hx := B.exec
  have hb := B.bytes
  have hr := B.returns
  have hts0 := atoms_spec (ws := ws_M_isPart) B.pre
  have hts : ∀ w ∈ tb, w.before _ s = true := fun w h => hts0 w (List.mem_cons_of_mem _ h)
  have hown : s.vm.findClass "HeapStepsModel" = some m.cls := findClass_of_methodNamed B.named
  have hlocks := B.notSynchronized
  subst hsz
  have hS : va_S (wA n ad s.heap.size) s.heap s.heap [] := va_S.rf
  have hl := lv_entry ([.int a1]) (n := 1) (Nat.le_of_ble_eq_true rfl)
  rw [lg_entry_eq]
  generalize (lg_sl ([.int a1]) ++ List.replicate (1 - (lg_sl ([.int a1])).length) Slot.unset).toArray = ls at hl ⊢
  have hl : lv_has ls 1 [(0, .int a1)] := hl
  refine lv_iload_n hx hb d_M_isPart_0 rfl (lv_at hl 0 rfl) ?_
  refine lv_if_lt (tgt := 13) hx hb d_M_isPart_1 (by decide) (fun c_1 => ?_) (fun c_1 => ?_)
  · skip
    refine lv_iconst (v := 0) hx hb d_M_isPart_13 (by decide) ?_
    exact W.zret hx hb hr rfl (fun t ht hW => ⟨⟨_, (), rfl, by (try simp only [m_isPart, if_pos c_1, ite_self]); first | done | rfl | assumption | exact x_within_1 (by assumption), by dsimp only; rw [ht]; (try simp only [m_isPart, if_pos c_1, ite_self]); exact hP⟩, hS.F ht⟩) hS.2.2 d_M_isPart_14
  · skip
    refine lv_iload_n hx hb d_M_isPart_4 rfl (lv_at hl 0 rfl) ?_
    refine lv_iconst (v := 3) hx hb d_M_isPart_5 (by decide) ?_
    refine lv_icmp_ge (tgt := 13) hx hb d_M_isPart_6 (by decide) (fun c_2 => ?_) (fun c_2 => ?_)
    · skip
      refine lv_iconst (v := 0) hx hb d_M_isPart_13 (by decide) ?_
      exact W.zret hx hb hr rfl (fun t ht hW => ⟨⟨_, (), rfl, by (try simp only [m_isPart, if_neg c_1, if_pos c_2, ite_self]); first | done | rfl | assumption | exact x_within_1 (by assumption), by dsimp only; rw [ht]; (try simp only [m_isPart, if_neg c_1, if_pos c_2, ite_self]); exact hP⟩, hS.F ht⟩) hS.2.2 d_M_isPart_14
    · skip
      refine lv_iconst (v := 1) hx hb d_M_isPart_9 (by decide) ?_
      refine lv_goto (tgt := 14) hx hb d_M_isPart_10 (by decide) ?_
      exact W.zret hx hb hr rfl (fun t ht hW => ⟨⟨_, (), rfl, by (try simp only [m_isPart, if_neg c_1, if_neg c_2, ite_self]); first | done | rfl | assumption | exact x_within_1 (by assumption), by dsimp only; rw [ht]; (try simp only [m_isPart, if_neg c_1, if_neg c_2, ite_self]); exact hP⟩, hS.F ht⟩) hS.2.2 d_M_isPart_14
set_option maxHeartbeats 4000000 in
set_option maxRecDepth 100000 in
theorem c_M_partOf (l : Launch) (g : wG) (n : Nat) (ad : Nat → Nat) (E : Nat → va_E) (u v : Int64) : CtL l y_M_partOf ws_M_partOf ({ frames := 0, cells := 0, slots := 0, locals := 0 }) g n ad E E [.long u, .long v] (x_mo u v) := by
  intro sz
  refine Met.ofW (cc := b_M_partOf) (maxL := 4) (ret := (some .long)) (by decide +kernel) rfl ?_
  intro p e s m args below meth c s₁ B hml hv
  obtain ⟨rfl, hsz, hP, hK, hN, hJ⟩ := hv
  have hx := B.exec
  have hb := B.bytes
  have hr := B.returns
  have hts0 := atoms_spec (ws := ws_M_partOf) B.pre
  have hts : ∀ w ∈ tb, w.before _ s = true := fun w h => hts0 w (List.mem_cons_of_mem _ h)
  have hown : s.vm.findClass "HeapStepsModel" = some m.cls := findClass_of_methodNamed B.named
  have hlocks := B.notSynchronized
  subst hsz
  have hS : va_S (wA n ad s.heap.size) s.heap s.heap [] := va_S.rf
  have hl := lv_entry ([.long u, .long v]) (n := 4) (Nat.le_of_ble_eq_true rfl)
  rw [lg_entry_eq]
  generalize (lg_sl ([.long u, .long v]) ++ List.replicate (4 - (lg_sl ([.long u, .long v])).length) Slot.unset).toArray = ls at hl ⊢
  have hl : lv_has ls 4 [(0, .long u), (2, .long v)] := hl
  refine lv_lload_n hx hb d_M_partOf_0 rfl (lv_at hl 0 rfl) ?_
  refine lv_ldc2 (v := 1000000) hx hb hown (hts _ tw_425) d_M_partOf_1 ?_
  refine lv_ldiv hx hb d_M_partOf_4 (by decide) ?_
  refine lv_lload_n hx hb d_M_partOf_5 rfl (lv_at hl 1 rfl) ?_
  refine lv_lmul hx hb d_M_partOf_6 ?_
  refine lv_lload_n hx hb d_M_partOf_7 rfl (lv_at hl 0 rfl) ?_
  refine lv_ldc2 (v := 1000000) hx hb hown (hts _ tw_425) d_M_partOf_8 ?_
  refine lv_lrem hx hb d_M_partOf_11 (by decide) ?_
  refine lv_lload_n hx hb d_M_partOf_12 rfl (lv_at hl 1 rfl) ?_
  refine lv_lmul hx hb d_M_partOf_13 ?_
  refine lv_ldc2 (v := 1000000) hx hb hown (hts _ tw_425) d_M_partOf_14 ?_
  refine lv_ldiv hx hb d_M_partOf_17 (by decide) ?_
  refine lv_ladd hx hb d_M_partOf_18 ?_
  exact W.lret hx hb hr (fun t ht hW => ⟨⟨_, (), rfl, by (try simp only [x_mo, ite_self]); first | done | rfl | assumption | exact x_within_1 (by assumption), by dsimp only; rw [ht]; (try simp only [x_mo, ite_self]); exact hP⟩, hS.F ht⟩) hS.2.2 d_M_partOf_19
set_option maxHeartbeats 4000000 in
set_option maxRecDepth 100000 in
theorem c_M_cut (l : Launch) (g : wG) (n : Nat) (ad : Nat → Nat) (E : Nat → va_E) (u v w : Int64) : CtL l y_M_cut ws_M_cut ({ frames := 0, cells := 0, slots := 0, locals := 0 }) g n ad E E [.long u, .long v, .long w] (m_cut u v w) := by
  intro sz
  refine Met.ofW (cc := b_M_cut) (maxL := 6) (ret := (some .long)) (by decide +kernel) rfl ?_
  intro p e s m args below meth c s₁ B hml hv
  obtain ⟨rfl, hsz, hP, hK, hN, hJ⟩ := hv
  have hx := B.exec
  have hb := B.bytes
  have hr := B.returns
  have hts0 := atoms_spec (ws := ws_M_cut) B.pre
  have hts : ∀ w ∈ tb, w.before _ s = true := fun w h => hts0 w (List.mem_cons_of_mem _ h)
  have hown : s.vm.findClass "HeapStepsModel" = some m.cls := findClass_of_methodNamed B.named
  have hlocks := B.notSynchronized
  subst hsz
  have hS : va_S (wA n ad s.heap.size) s.heap s.heap [] := va_S.rf
  have hl := lv_entry ([.long u, .long v, .long w]) (n := 6) (Nat.le_of_ble_eq_true rfl)
  rw [lg_entry_eq]
  generalize (lg_sl ([.long u, .long v, .long w]) ++ List.replicate (6 - (lg_sl ([.long u, .long v, .long w])).length) Slot.unset).toArray = ls at hl ⊢
  have hl : lv_has ls 6 [(0, .long u), (2, .long v), (4, .long w)] := hl
  refine lv_lload_n hx hb d_M_cut_0 rfl (lv_at hl 0 rfl) ?_
  refine lv_lload_n hx hb d_M_cut_1 rfl (lv_at hl 1 rfl) ?_
  refine W.lcmp hx hb d_M_cut_2 ?_
  refine lv_if_ge (tgt := 10) hx hb d_M_cut_3 (by decide) (fun c_1 => ?_) (fun c_1 => ?_)
  · skip
    refine lv_lload_n hx hb d_M_cut_10 rfl (lv_at hl 0 rfl) ?_
    refine lv_lload hx hb d_M_cut_11 (lv_at hl 2 rfl) ?_
    refine W.lcmp hx hb d_M_cut_13 ?_
    refine lv_if_le (tgt := 22) hx hb d_M_cut_14 (by decide) (fun c_2 => ?_) (fun c_2 => ?_)
    · skip
      refine lv_lload_n hx hb d_M_cut_22 rfl (lv_at hl 0 rfl) ?_
      exact W.lret hx hb hr (fun t ht hW => ⟨⟨_, (), rfl, by (try simp only [m_cut, if_pos c_1, if_pos c_2, ite_self]); first | done | rfl | assumption | exact x_within_1 (by assumption), by dsimp only; rw [ht]; (try simp only [m_cut, if_pos c_1, if_pos c_2, ite_self]); exact hP⟩, hS.F ht⟩) hS.2.2 d_M_cut_23
    · skip
      refine lv_lload hx hb d_M_cut_17 (lv_at hl 2 rfl) ?_
      refine lv_goto (tgt := 23) hx hb d_M_cut_19 (by decide) ?_
      exact W.lret hx hb hr (fun t ht hW => ⟨⟨_, (), rfl, by (try simp only [m_cut, if_pos c_1, if_neg c_2, ite_self]); first | done | rfl | assumption | exact x_within_1 (by assumption), by dsimp only; rw [ht]; (try simp only [m_cut, if_pos c_1, if_neg c_2, ite_self]); exact hP⟩, hS.F ht⟩) hS.2.2 d_M_cut_23
  · skip
    refine lv_lload_n hx hb d_M_cut_6 rfl (lv_at hl 1 rfl) ?_
    refine lv_goto (tgt := 23) hx hb d_M_cut_7 (by decide) ?_
    exact W.lret hx hb hr (fun t ht hW => ⟨⟨_, (), rfl, by (try simp only [m_cut, if_neg c_1, ite_self]); first | done | rfl | assumption | exact x_within_1 (by assumption), by dsimp only; rw [ht]; (try simp only [m_cut, if_neg c_1, ite_self]); exact hP⟩, hS.F ht⟩) hS.2.2 d_M_cut_23
set_option maxHeartbeats 4000000 in
set_option maxRecDepth 100000 in
theorem c_M_isLayer (l : Launch) (g : wG) (ad : Nat → Nat) {L : Nat} (hL : 1 ≤ L ∧ L ≤ 6) (x : xS) (a1 : Int32) : CtI l y_M_isLayer ws_M_isLayer ({ frames := 0, cells := 0, slots := 0, locals := 0 }) g 14 ad (mE g ad L x) (mE g ad L x) [.ref (ad 0), .int a1] (m_isLayer L a1) := by
  intro sz
  refine Met.ofW (cc := b_M_isLayer) (maxL := 2) (ret := (some .boolean)) (by decide +kernel) rfl ?_
  intro p e s m args below meth c s₁ B hml hv
  obtain ⟨rfl, hsz, hP, hK, hN, hJ⟩ := hv
  have hx := B.exec
  have hb := B.bytes
  have hr := B.returns
  have hts0 := atoms_spec (ws := ws_M_isLayer) B.pre
  have hts : ∀ w ∈ tb, w.before _ s = true := fun w h => hts0 w (List.mem_cons_of_mem _ h)
  have hown : s.vm.findClass "HeapStepsModel" = some m.cls := findClass_of_methodNamed B.named
  have hlocks := B.notSynchronized
  subst hsz
  have hS : va_S (wA 14 ad s.heap.size) s.heap s.heap [] := va_S.rf
  have hl := lv_entry ([.ref (ad 0), .int a1]) (n := 2) (Nat.le_of_ble_eq_true rfl)
  rw [lg_entry_eq]
  generalize (lg_sl ([.ref (ad 0), .int a1]) ++ List.replicate (2 - (lg_sl ([.ref (ad 0), .int a1])).length) Slot.unset).toArray = ls at hl ⊢
  have hl : lv_has ls 2 [(0, .ref (ad 0)), (1, .int a1)] := hl
  refine lv_iload_n hx hb d_M_isLayer_0 rfl (lv_at hl 1 rfl) ?_
  refine lv_if_lt (tgt := 16) hx hb d_M_isLayer_1 (by decide) (fun c_1 => ?_) (fun c_1 => ?_)
  · skip
    refine lv_iconst (v := 0) hx hb d_M_isLayer_16 (by decide) ?_
    exact W.zret hx hb hr rfl (fun t ht hW => ⟨⟨_, (), rfl, by (try simp only [m_isLayer, if_pos c_1, ite_self]); first | done | rfl | assumption | exact x_within_1 (by assumption), by dsimp only; rw [ht]; (try simp only [m_isLayer, if_pos c_1, ite_self]); exact hP⟩, hS.F ht⟩) hS.2.2 d_M_isLayer_17
  · skip
    refine lv_iload_n hx hb d_M_isLayer_4 rfl (lv_at hl 1 rfl) ?_
    refine lv_aload_n hx hb d_M_isLayer_5 rfl (lv_at hl 0 rfl) ?_
    refine wr_get hx hb hts in_M hown hK hP (0) (by omega) rfl rfl 0 (by decide) (hts _ tw_341) rfl d_M_isLayer_6 ?_
    refine lv_icmp_ge (tgt := 16) hx hb d_M_isLayer_9 (by decide) (fun c_2 => ?_) (fun c_2 => ?_)
    · skip
      refine lv_iconst (v := 0) hx hb d_M_isLayer_16 (by decide) ?_
      exact W.zret hx hb hr rfl (fun t ht hW => ⟨⟨_, (), rfl, by (try simp only [m_isLayer, if_neg c_1, if_pos c_2, ite_self]); first | done | rfl | assumption | exact x_within_1 (by assumption), by dsimp only; rw [ht]; (try simp only [m_isLayer, if_neg c_1, if_pos c_2, ite_self]); exact hP⟩, hS.F ht⟩) hS.2.2 d_M_isLayer_17
    · skip
      refine lv_iconst (v := 1) hx hb d_M_isLayer_12 (by decide) ?_
      refine lv_goto (tgt := 17) hx hb d_M_isLayer_13 (by decide) ?_
      exact W.zret hx hb hr rfl (fun t ht hW => ⟨⟨_, (), rfl, by (try simp only [m_isLayer, if_neg c_1, if_neg c_2, ite_self]); first | done | rfl | assumption | exact x_within_1 (by assumption), by dsimp only; rw [ht]; (try simp only [m_isLayer, if_neg c_1, if_neg c_2, ite_self]); exact hP⟩, hS.F ht⟩) hS.2.2 d_M_isLayer_17
