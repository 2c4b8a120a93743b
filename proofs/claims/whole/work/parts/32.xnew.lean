set_option maxHeartbeats 4000000 in
set_option maxRecDepth 100000 in
theorem c_X_withinZ (l : Launch) (a1 a2 a3 : Int32) : CtZ l y_X_within ws_X_within ({ frames := 0, cells := 0, slots := 0, locals := 0 }) [.int a1, .int a2, .int a3] (x_within a1 a2 a3) := by
  unfold CtZ
  refine Met.ofW (cc := b_X_within) (maxL := 3) (ret := (some .boolean)) (by decide +kernel) rfl ?_
  intro p e s m args below meth c s₁ B hml hv
  obtain ⟨rfl, -⟩ := hv
  have hx := B.exec
  have hb := B.bytes
  have hr := B.returns
  have hts0 := atoms_spec (ws := ws_X_within) B.pre
  have hts : ∀ w ∈ tb, w.before _ s = true := fun w h => hts0 w (List.mem_cons_of_mem _ h)
  have hown : s.vm.findClass "HeapSteps" = some m.cls := findClass_of_methodNamed B.named
  have hlocks := B.notSynchronized
  have hl := lv_entry ([.int a1, .int a2, .int a3]) (n := 3) (Nat.le_of_ble_eq_true rfl)
  rw [lg_entry_eq]
  generalize (lg_sl ([.int a1, .int a2, .int a3]) ++ List.replicate (3 - (lg_sl ([.int a1, .int a2, .int a3])).length) Slot.unset).toArray = ls at hl ⊢
  have hl : lv_has ls 3 [(0, .int a1), (1, .int a2), (2, .int a3)] := hl
  refine lv_iload_n hx hb d_X_within_0 rfl (lv_at hl 0 rfl) ?_
  refine lv_iload_n hx hb d_X_within_1 rfl (lv_at hl 1 rfl) ?_
  refine lv_icmp_lt (tgt := 14) hx hb d_X_within_2 (by decide) (fun c_1 => ?_) (fun c_1 => ?_)
  · skip
    refine lv_iconst (v := 0) hx hb d_X_within_14 (by decide) ?_
    exact W.zret hx hb hr rfl (fun t ht hW => ⟨_, rfl, by (try simp only [x_within, if_pos c_1]); first | done | rfl, ht⟩) (fun q h => by cases h) d_X_within_15
  · skip
    refine lv_iload_n hx hb d_X_within_5 rfl (lv_at hl 0 rfl) ?_
    refine lv_iload_n hx hb d_X_within_6 rfl (lv_at hl 2 rfl) ?_
    refine lv_icmp_gt (tgt := 14) hx hb d_X_within_7 (by decide) (fun c_2 => ?_) (fun c_2 => ?_)
    · skip
      refine lv_iconst (v := 0) hx hb d_X_within_14 (by decide) ?_
      exact W.zret hx hb hr rfl (fun t ht hW => ⟨_, rfl, by (try simp only [x_within, if_neg c_1, if_pos c_2]); first | done | rfl, ht⟩) (fun q h => by cases h) d_X_within_15
    · skip
      refine lv_iconst (v := 1) hx hb d_X_within_10 (by decide) ?_
      refine lv_goto (tgt := 15) hx hb d_X_within_11 (by decide) ?_
      exact W.zret hx hb hr rfl (fun t ht hW => ⟨_, rfl, by (try simp only [x_within, if_neg c_1, if_neg c_2]); first | done | rfl, ht⟩) (fun q h => by cases h) d_X_within_15
set_option maxHeartbeats 4000000 in
set_option maxRecDepth 100000 in
theorem c_F_init (l : Launch) (g : wG) (b n : Nat) (E : Nat → va_E) {q : Nat} (hqn : q < n) (hq : E q = .inr (ciFan, [.int 0, .int 0, .int 0, .int 0, .long 0, .int 0])) : CtC l y_F_init ws_F_init ({ frames := 1, cells := 0, slots := 0, locals := 20 }) g b n (E) n (E) [.ref (adl b q)] 0 0 := by
  unfold CtC
  refine Met.ofW (cc := b_F_init) (maxL := 1) (ret := none) (by decide) rfl ?_
  intro p e s m args below meth c s₁ B hml hv
  obtain ⟨rfl, hz, hP, hK, hN, hJ⟩ := hv
  have hx := B.exec
  have hb := B.bytes
  have hr := B.returns
  have hts0 := atoms_spec (ws := ws_F_init) B.pre
  have hts : ∀ w ∈ tb, w.before _ s = true := fun w h => hts0 w (List.mem_cons_of_mem _ h)
  have hown : s.vm.findClass "HeapSteps$Fan" = some m.cls := findClass_of_methodNamed B.named
  have hlocks := B.notSynchronized
  have hin : meth.name = "<init>" := (name_of_methodNamed B.named B.method).1
  have hS : va_S (fun q => b ≤ q) s.heap s.heap [] := va_S.rf
  have hl := lv_entry ([.ref (adl b q)]) (n := 1) (Nat.le_of_ble_eq_true rfl)
  rw [lg_entry_eq]
  generalize (lg_sl ([.ref (adl b q)]) ++ List.replicate (1 - (lg_sl ([.ref (adl b q)])).length) Slot.unset).toArray = ls at hl ⊢
  have hl : lv_has ls 1 [(0, .ref (adl b q))] := hl
  refine lv_aload_n hx hb d_F_init_0 rfl (lv_at hl 0 rfl) ?_
  refine W.objInit hx hb hown (hts _ tw_45) (hts _ tw_36) (hts _ tw_37) rfl (by rw [hml]; exact hl.1) rfl d_F_init_1 (Nat.le_of_ble_eq_true rfl) (Nat.le_of_ble_eq_true rfl) ?_
  refine W.eq (g2 := F0 m 4 ls []) rfl ?_
  refine lv_aload_n hx hb d_F_init_4 rfl (lv_at hl 0 rfl) ?_
  refine lv_iconst (v := 0) hx hb d_F_init_5 (by decide) ?_
  refine wr_putZ (E' := E) hx hb hts in_F ty_F ty_F_ok n_F hown hK hP hS hz (q) (by omega) hq rfl 0 (by decide) (hts _ tw_46) rfl rfl rfl (Nat.le_of_ble_eq_true rfl) ⟨hq, fun _ _ => rfl⟩ d_F_init_6 (fun H locs hP hz hS => ?_)
  refine lv_aload_n hx hb d_F_init_9 rfl (lv_at hl 0 rfl) ?_
  refine lv_iconst (v := 0) hx hb d_F_init_10 (by decide) ?_
  refine wr_putZ (E' := E) hx hb hts in_F ty_F ty_F_ok n_F hown hK hP hS hz (q) (by omega) hq rfl 1 (by decide) (hts _ tw_47) rfl rfl rfl (Nat.le_of_ble_eq_true rfl) ⟨hq, fun _ _ => rfl⟩ d_F_init_11 (fun H locs hP hz hS => ?_)
  refine lv_aload_n hx hb d_F_init_14 rfl (lv_at hl 0 rfl) ?_
  refine lv_iconst (v := 0) hx hb d_F_init_15 (by decide) ?_
  refine wr_putZ (E' := E) hx hb hts in_F ty_F ty_F_ok n_F hown hK hP hS hz (q) (by omega) hq rfl 2 (by decide) (hts _ tw_48) rfl rfl rfl (Nat.le_of_ble_eq_true rfl) ⟨hq, fun _ _ => rfl⟩ d_F_init_16 (fun H locs hP hz hS => ?_)
  refine lv_aload_n hx hb d_F_init_19 rfl (lv_at hl 0 rfl) ?_
  refine lv_iconst (v := 0) hx hb d_F_init_20 (by decide) ?_
  refine wr_putZ (E' := E) hx hb hts in_F ty_F ty_F_ok n_F hown hK hP hS hz (q) (by omega) hq rfl 3 (by decide) (hts _ tw_49) rfl rfl rfl (Nat.le_of_ble_eq_true rfl) ⟨hq, fun _ _ => rfl⟩ d_F_init_21 (fun H locs hP hz hS => ?_)
  refine lv_aload_n hx hb d_F_init_24 rfl (lv_at hl 0 rfl) ?_
  refine lv_lconst (v := 0) hx hb d_F_init_25 (by decide) ?_
  refine wr_putZ (E' := E) hx hb hts in_F ty_F ty_F_ok n_F hown hK hP hS hz (q) (by omega) hq rfl 4 (by decide) (hts _ tw_50) rfl rfl rfl (Nat.le_of_ble_eq_true rfl) ⟨hq, fun _ _ => rfl⟩ d_F_init_26 (fun H locs hP hz hS => ?_)
  refine lv_aload_n hx hb d_F_init_29 rfl (lv_at hl 0 rfl) ?_
  refine lv_iconst (v := 0) hx hb d_F_init_30 (by decide) ?_
  refine wr_putZ (E' := E) hx hb hts in_F ty_F ty_F_ok n_F hown hK hP hS hz (q) (by omega) hq rfl 5 (by decide) (hts _ tw_51) rfl rfl rfl (Nat.le_of_ble_eq_true rfl) ⟨hq, fun _ _ => rfl⟩ d_F_init_31 (fun H locs hP hz hS => ?_)
  refine W.widen (k := 0) (n := 0) (by omega) (by omega) ?_
  exact W.vret hx hb hr (fun t ht hW => ⟨⟨(), rfl, trivial, by dsimp only; rw [ht]; exact ⟨hP, hz⟩⟩, hS.F ht⟩) hS.2.2 d_F_init_34
set_option maxHeartbeats 4000000 in
set_option maxRecDepth 100000 in
theorem c_Y_init (l : Launch) (g : wG) (b n : Nat) (E0 : Nat → va_E) : CtC l y_Y_init ws_Y_init ({ frames := 1, cells := 1, slots := 5, locals := 20 }) g b (n + 1) (yE g E0 n [.null, .int 0, .int 0]) (n + 2) (yE g E0 n [.ref (adl b (n + 1)), .int 0, .int 1000000000]) [.ref (adl b n)] 1 5 := by
  unfold CtC
  refine Met.ofW (cc := b_Y_init) (maxL := 1) (ret := none) (by decide) rfl ?_
  intro p e s m args below meth c s₁ B hml hv
  obtain ⟨rfl, hz, hP, hK, hN, hJ⟩ := hv
  have hx := B.exec
  have hb := B.bytes
  have hr := B.returns
  have hts0 := atoms_spec (ws := ws_Y_init) B.pre
  have hts : ∀ w ∈ tb, w.before _ s = true := fun w h => hts0 w (List.mem_cons_of_mem _ h)
  have hown : s.vm.findClass "HeapSteps$Layer" = some m.cls := findClass_of_methodNamed B.named
  have hlocks := B.notSynchronized
  have hin : meth.name = "<init>" := (name_of_methodNamed B.named B.method).1
  have hS : va_S (fun q => b ≤ q) s.heap s.heap [] := va_S.rf
  have hl := lv_entry ([.ref (adl b n)]) (n := 1) (Nat.le_of_ble_eq_true rfl)
  rw [lg_entry_eq]
  generalize (lg_sl ([.ref (adl b n)]) ++ List.replicate (1 - (lg_sl ([.ref (adl b n)])).length) Slot.unset).toArray = ls at hl ⊢
  have hl : lv_has ls 1 [(0, .ref (adl b n))] := hl
  refine lv_aload_n hx hb d_Y_init_0 rfl (lv_at hl 0 rfl) ?_
  refine W.objInit hx hb hown (hts _ tw_76) (hts _ tw_36) (hts _ tw_37) rfl (by rw [hml]; exact hl.1) rfl d_Y_init_1 (Nat.le_of_ble_eq_true rfl) (Nat.le_of_ble_eq_true rfl) ?_
  refine W.eq (g2 := F0 m 4 ls []) rfl ?_
  refine lv_aload_n hx hb d_Y_init_4 rfl (lv_at hl 0 rfl) ?_
  refine lv_iconst (v := 5) hx hb d_Y_init_5 (by decide) ?_
  refine wr_newl (E' := yE g E0 n [.null, .int 0, .int 0]) hx hb (hts _ tw_91) hK hP hS hz (fun _ _ => rfl) 5 (yE_gt _ _ _ _ (by omega)) (by decide) (by omega) (Nat.le_of_ble_eq_true rfl) (Nat.le_of_ble_eq_true rfl) d_Y_init_6 (fun H hP hz hS => ?_)
  refine wr_putF (E' := yE g E0 n [.ref (adl b (n + 1)), .int 0, .int 0]) hx hb hts in_Y ty_Y ty_Y_ok n_Y hown hK hP hS hz (n) (by omega) (yE_at _ _ _ _) rfl 0 (by decide) (hts _ tw_78) rfl hin rfl rfl rfl (Nat.le_of_ble_eq_true rfl) (yU _ _ _ _ _) d_Y_init_8 (fun H locs hP hz hS => ?_)
  refine lv_aload_n hx hb d_Y_init_11 rfl (lv_at hl 0 rfl) ?_
  refine lv_iconst (v := 0) hx hb d_Y_init_12 (by decide) ?_
  refine wr_putZ (E' := yE g E0 n [.ref (adl b (n + 1)), .int 0, .int 0]) hx hb hts in_Y ty_Y ty_Y_ok n_Y hown hK hP hS hz (n) (by omega) (yE_at _ _ _ _) rfl 1 (by decide) (hts _ tw_80) rfl rfl rfl (Nat.le_of_ble_eq_true rfl) (yU _ _ _ _ _) d_Y_init_13 (fun H locs hP hz hS => ?_)
  refine lv_aload_n hx hb d_Y_init_16 rfl (lv_at hl 0 rfl) ?_
  refine lv_ldc (v := 1000000000) hx hb hown (hts _ tw_77) d_Y_init_17 ?_
  refine wr_putZ (E' := yE g E0 n [.ref (adl b (n + 1)), .int 0, .int 1000000000]) hx hb hts in_Y ty_Y ty_Y_ok n_Y hown hK hP hS hz (n) (by omega) (yE_at _ _ _ _) rfl 2 (by decide) (hts _ tw_82) rfl rfl rfl (Nat.le_of_ble_eq_true rfl) (yU _ _ _ _ _) d_Y_init_19 (fun H locs hP hz hS => ?_)
  refine W.widen (k := 1) (n := 5) (by omega) (by omega) ?_
  exact W.vret hx hb hr (fun t ht hW => ⟨⟨(), rfl, trivial, by dsimp only; rw [ht]; exact ⟨hP, hz⟩⟩, hS.F ht⟩) hS.2.2 d_Y_init_22
set_option maxHeartbeats 4000000 in
set_option maxRecDepth 100000 in
theorem c_K_init (l : Launch) (g : wG) (b n : Nat) (E0 : Nat → va_E) : CtC l y_K_init ws_K_init ({ frames := 1, cells := 2, slots := 8, locals := 20 }) g b (n + 1) (kE g E0 n [.null, .null, .int 0, .int 0, .int 0]) (n + 3) (kE g E0 n [.ref (adl b (n + 1)), .ref (adl b (n + 2)), .int 0, .int 0, .int 0]) [.ref (adl b n)] 2 8 := by
  unfold CtC
  refine Met.ofW (cc := b_K_init) (maxL := 1) (ret := none) (by decide) rfl ?_
  intro p e s m args below meth c s₁ B hml hv
  obtain ⟨rfl, hz, hP, hK, hN, hJ⟩ := hv
  have hx := B.exec
  have hb := B.bytes
  have hr := B.returns
  have hts0 := atoms_spec (ws := ws_K_init) B.pre
  have hts : ∀ w ∈ tb, w.before _ s = true := fun w h => hts0 w (List.mem_cons_of_mem _ h)
  have hown : s.vm.findClass "HeapSteps$Kind" = some m.cls := findClass_of_methodNamed B.named
  have hlocks := B.notSynchronized
  have hin : meth.name = "<init>" := (name_of_methodNamed B.named B.method).1
  have hS : va_S (fun q => b ≤ q) s.heap s.heap [] := va_S.rf
  have hl := lv_entry ([.ref (adl b n)]) (n := 1) (Nat.le_of_ble_eq_true rfl)
  rw [lg_entry_eq]
  generalize (lg_sl ([.ref (adl b n)]) ++ List.replicate (1 - (lg_sl ([.ref (adl b n)])).length) Slot.unset).toArray = ls at hl ⊢
  have hl : lv_has ls 1 [(0, .ref (adl b n))] := hl
  refine lv_aload_n hx hb d_K_init_0 rfl (lv_at hl 0 rfl) ?_
  refine W.objInit hx hb hown (hts _ tw_96) (hts _ tw_36) (hts _ tw_37) rfl (by rw [hml]; exact hl.1) rfl d_K_init_1 (Nat.le_of_ble_eq_true rfl) (Nat.le_of_ble_eq_true rfl) ?_
  refine W.eq (g2 := F0 m 4 ls []) rfl ?_
  refine lv_aload_n hx hb d_K_init_4 rfl (lv_at hl 0 rfl) ?_
  refine lv_iconst (v := 4) hx hb d_K_init_5 (by decide) ?_
  refine wr_newi (E' := kE g E0 n [.null, .null, .int 0, .int 0, .int 0]) hx hb (hts _ tw_115) hK hP hS hz (fun _ _ => rfl) 4 (kE_gt _ _ _ _ (by omega)) (by decide) (by omega) (Nat.le_of_ble_eq_true rfl) (Nat.le_of_ble_eq_true rfl) d_K_init_6 (fun H hP hz hS => ?_)
  refine wr_putF (E' := kE g E0 n [.ref (adl b (n + 1)), .null, .int 0, .int 0, .int 0]) hx hb hts in_K ty_K ty_K_ok n_K hown hK hP hS hz (n) (by omega) (kE_at _ _ _ _) rfl 0 (by decide) (hts _ tw_97) rfl hin rfl rfl rfl (Nat.le_of_ble_eq_true rfl) (kU _ _ _ _ _) d_K_init_8 (fun H locs hP hz hS => ?_)
  refine lv_aload_n hx hb d_K_init_11 rfl (lv_at hl 0 rfl) ?_
  refine lv_iconst (v := 4) hx hb d_K_init_12 (by decide) ?_
  refine wr_newi (E' := kE g E0 n [.ref (adl b (n + 1)), .null, .int 0, .int 0, .int 0]) hx hb (hts _ tw_115) hK hP hS hz (fun _ _ => rfl) 4 (kE_gt _ _ _ _ (by omega)) (by decide) (by omega) (Nat.le_of_ble_eq_true rfl) (Nat.le_of_ble_eq_true rfl) d_K_init_13 (fun H hP hz hS => ?_)
  refine wr_putF (E' := kE g E0 n [.ref (adl b (n + 1)), .ref (adl b (n + 2)), .int 0, .int 0, .int 0]) hx hb hts in_K ty_K ty_K_ok n_K hown hK hP hS hz (n) (by omega) (kE_at _ _ _ _) rfl 1 (by decide) (hts _ tw_98) rfl hin rfl rfl rfl (Nat.le_of_ble_eq_true rfl) (kU _ _ _ _ _) d_K_init_15 (fun H locs hP hz hS => ?_)
  refine lv_aload_n hx hb d_K_init_18 rfl (lv_at hl 0 rfl) ?_
  refine lv_iconst (v := 0) hx hb d_K_init_19 (by decide) ?_
  refine wr_putZ (E' := kE g E0 n [.ref (adl b (n + 1)), .ref (adl b (n + 2)), .int 0, .int 0, .int 0]) hx hb hts in_K ty_K ty_K_ok n_K hown hK hP hS hz (n) (by omega) (kE_at _ _ _ _) rfl 2 (by decide) (hts _ tw_99) rfl rfl rfl (Nat.le_of_ble_eq_true rfl) (kU _ _ _ _ _) d_K_init_20 (fun H locs hP hz hS => ?_)
  refine lv_aload_n hx hb d_K_init_23 rfl (lv_at hl 0 rfl) ?_
  refine lv_iconst (v := 0) hx hb d_K_init_24 (by decide) ?_
  refine wr_putZ (E' := kE g E0 n [.ref (adl b (n + 1)), .ref (adl b (n + 2)), .int 0, .int 0, .int 0]) hx hb hts in_K ty_K ty_K_ok n_K hown hK hP hS hz (n) (by omega) (kE_at _ _ _ _) rfl 3 (by decide) (hts _ tw_100) rfl rfl rfl (Nat.le_of_ble_eq_true rfl) (kU _ _ _ _ _) d_K_init_25 (fun H locs hP hz hS => ?_)
  refine lv_aload_n hx hb d_K_init_28 rfl (lv_at hl 0 rfl) ?_
  refine lv_iconst (v := 0) hx hb d_K_init_29 (by decide) ?_
  refine wr_putZ (E' := kE g E0 n [.ref (adl b (n + 1)), .ref (adl b (n + 2)), .int 0, .int 0, .int 0]) hx hb hts in_K ty_K ty_K_ok n_K hown hK hP hS hz (n) (by omega) (kE_at _ _ _ _) rfl 4 (by decide) (hts _ tw_102) rfl rfl rfl (Nat.le_of_ble_eq_true rfl) (kU _ _ _ _ _) d_K_init_30 (fun H locs hP hz hS => ?_)
  refine W.widen (k := 2) (n := 8) (by omega) (by omega) ?_
  exact W.vret hx hb hr (fun t ht hW => ⟨⟨(), rfl, trivial, by dsimp only; rw [ht]; exact ⟨hP, hz⟩⟩, hS.F ht⟩) hS.2.2 d_K_init_33
