set_option maxHeartbeats 4000000 in
set_option maxRecDepth 100000 in
theorem c_X_run (l : Launch) (g : wG) (ad : Nat → Nat) {L : Nat} (hL : 1 ≤ L ∧ L ≤ 6) (x : xS) (hrow : x_rows x) (a1 : Int32) : CtI l y_X_run ws_X_run ({ frames := 4, cells := 0, slots := 0, locals := 101 }) g (16 + 2 * L) ad (xE g ad L x) (xE g ad L (x_run L x a1).2) [.ref (ad 0), .int a1] (x_run L x a1).1 := by
  intro sz
  refine Met.ofW (cc := b_X_run) (maxL := 3) (ret := (some .int)) (by decide +kernel) rfl ?_
  intro p e s m args below meth c s₁ B hml hv
  obtain ⟨rfl, hsz, hP, hK, hN, hJ⟩ := hv
  have hx := B.exec
  have hb := B.bytes
  have hr := B.returns
  have hts0 := atoms_spec (ws := ws_X_run) B.pre
  have hts : ∀ w ∈ tb, w.before _ s = true := fun w h => hts0 w (List.mem_cons_of_mem _ h)
  have hown : s.vm.findClass "HeapSteps" = some m.cls := findClass_of_methodNamed B.named
  have hlocks := B.notSynchronized
  subst hsz
  have hS : va_S (wA (16 + 2 * L) ad s.heap.size) s.heap s.heap [] := va_S.rf
  have hl := lv_entry ([.ref (ad 0), .int a1]) (n := 3) (Nat.le_of_ble_eq_true rfl)
  rw [lg_entry_eq]
  generalize (lg_sl ([.ref (ad 0), .int a1]) ++ List.replicate (3 - (lg_sl ([.ref (ad 0), .int a1])).length) Slot.unset).toArray = ls at hl ⊢
  have hl : lv_has ls 3 [(0, .ref (ad 0)), (1, .int a1)] := hl
  refine lv_iload_n hx hb d_X_run_0 rfl (lv_at hl 1 rfl) ?_
  refine lv_iconst (v := 1) hx hb d_X_run_1 (by decide) ?_
  refine lv_sipush (v := 1000) hx hb d_X_run_2 (by decide) ?_
  refine wc_i (va_runS (As := [.int a1, .int 1, .int 1000]) (rest := []) ⟨hx, hb, hml, hown, hts⟩ (c_X_within l g _ ad _ a1 1 1000 _) (cwS 3 hts (gd_S tw_67 tw_68 tw_24 tw_69) rfl rfl rfl (by decide +kernel) ⟨Nat.le_of_ble_eq_true rfl, Nat.le_of_ble_eq_true rfl⟩) (wp_S hK hN hP hJ) rfl rfl hl.1 rfl (lv_room (Nat.le_of_ble_eq_true rfl)) d_X_run_5 ⟨Nat.zero_le _, Nat.zero_le _⟩) hS (fun H locs hP hS => ?_)
  refine lv_if_eq (tgt := 28) hx hb d_X_run_8 (by decide) (fun c_1 => ?_) (fun c_1 => ?_)
  · skip
    refine lv_iconst (v := -1) hx hb d_X_run_28 (by decide) ?_
    exact W.iret hx hb hr (fun t ht hW => ⟨⟨_, (), rfl, by (try simp only [x_run, if_pos c_1]); first | done | rfl, by dsimp only; rw [ht]; (try simp only [x_run, if_pos c_1]); exact hP⟩, hS.F ht⟩) hS.2.2 d_X_run_29
  · skip
    obtain ⟨kn, hkn, hk1, rfl⟩ := x_within_run c_1
    refine lv_aload_n hx hb d_X_run_11 rfl (lv_at hl 0 rfl) ?_
    refine wr_get hx hb hts in_X hown hK hP (0) (by omega) rfl rfl 3 (by decide) (hts _ tw_119) rfl d_X_run_12 ?_
    refine lv_bipush (v := 8) hx hb d_X_run_15 (by decide) ?_
    refine wr_lald hx hb hK hP (3) 0 (by omega) rfl rfl 8 (by decide) (by omega) (by omega) d_X_run_17 ?_
    refine lv_iload_n hx hb d_X_run_18 rfl (lv_at hl 1 rfl) ?_
    refine lv_i2l hx hb d_X_run_19 rfl ?_
    refine lv_ladd hx hb d_X_run_20 ?_
    refine lv_ldc2 (v := 20000) hx hb hown (hts _ tw_214) d_X_run_21 ?_
    refine W.lcmp hx hb d_X_run_24 ?_
    refine lv_if_le (tgt := 30) hx hb d_X_run_25 (by decide) (fun c_2 => ?_) (fun c_2 => ?_)
    · skip
      refine lv_iconst (v := 0) hx hb d_X_run_30 (by decide) ?_
      refine lv_istore_n (lv' := [(2, .int 0), (0, .ref (ad 0)), (1, .int (nI kn))]) hx hb d_X_run_31 rfl hl (by decide) rfl (fun ls hl => ?_)
      refine wl_loop (pc := 32) (fun fu H locs ls => ∃ (r : Nat) (z : xS), r + fu = kn ∧ x_rows z ∧ x_goN L kn x = ((x_goN L fu z).1 + r, (x_goN L fu z).2) ∧ va_P g.1 vwCl (wo (16 + 2 * L) ad (xE g ad L z)) H ∧ va_S (wA (16 + 2 * L) ad s.heap.size) s.heap H locs ∧ lv_has ls 3 [(2, .int (nI r)), (1, .int (nI kn)), (0, .ref (ad 0))]) ?_ ?_ kn _ _ _ ⟨0, x, by omega, hrow, rfl, hP, hS, lv_sub hl [0, 2, 1] rfl⟩
      · intro H locs ls hI
        obtain ⟨r, z, hr1, hrow, hgo, hP, hS, hl⟩ := hI
        refine lv_iload_n hx hb d_X_run_32 rfl (lv_at hl 0 rfl) ?_
        refine lv_iload_n hx hb d_X_run_33 rfl (lv_at hl 1 rfl) ?_
        refine lv_icmp_ge (tgt := 60) hx hb d_X_run_34 (by decide) (fun c_3 => ?_) (fun c_3 => absurd (nI_le (by omega) (by omega)) c_3)
        refine lv_iload_n hx hb d_X_run_60 rfl (lv_at hl 0 rfl) ?_
        exact W.iret hx hb hr (fun t ht hW => ⟨⟨_, (), rfl, by (simp only [x_run, if_neg c_1, if_pos c_2, hgo, x_goN, nI_clamp (show kn < 2 ^ 31 by omega), Nat.zero_add]); first | done | rfl, by dsimp only; rw [ht]; (simp only [x_run, if_neg c_1, if_pos c_2, hgo, x_goN, nI_clamp (show kn < 2 ^ 31 by omega), Nat.zero_add]); exact hP⟩, hS.F ht⟩) hS.2.2 d_X_run_61
      · intro fu ih H locs ls hI
        obtain ⟨r, z, hr1, hrow, hgo, hP, hS, hl⟩ := hI
        have hi_r : r < kn := by omega
        refine lv_iload_n hx hb d_X_run_32 rfl (lv_at hl 0 rfl) ?_
        refine lv_iload_n hx hb d_X_run_33 rfl (lv_at hl 1 rfl) ?_
        refine lv_icmp_ge (tgt := 60) hx hb d_X_run_34 (by decide) (fun c_4 => absurd c_4 (nI_ge hi_r (by omega))) (fun c_4 => ?_)
        refine lv_aload_n hx hb d_X_run_37 rfl (lv_at hl 2 rfl) ?_
        refine wc_l (va_runV (As := []) (rest := []) ⟨hx, hb, hml, hown, hts⟩ (c_X_greatestWarmth l g ad hL z _) (cwV 0 hts (gd_V tw_215 tw_217 tw_2 tw_24 tw_218) rfl rfl rfl (by decide +kernel) ⟨Nat.le_of_ble_eq_true rfl, Nat.le_of_ble_eq_true rfl⟩) (wp_V hK hN hP hJ (0) (by omega) rfl rfl) rfl rfl hl.1 rfl (lv_room (Nat.le_of_ble_eq_true rfl)) d_X_run_38 ⟨Nat.zero_le _, Nat.zero_le _⟩) hS (fun H locs hP hS => ?_)
        refine lv_aload_n hx hb d_X_run_41 rfl (lv_at hl 2 rfl) ?_
        refine wr_get hx hb hts in_X hown hK hP (0) (by omega) rfl rfl 8 (by decide) (hts _ tw_124) rfl d_X_run_42 ?_
        refine lv_i2l hx hb d_X_run_45 rfl ?_
        refine W.lcmp hx hb d_X_run_46 ?_
        refine lv_if_gt (tgt := 60) hx hb d_X_run_47 (by decide) (fun c_5 => ?_) (fun c_5 => ?_)
        · skip
          refine lv_iload_n hx hb d_X_run_60 rfl (lv_at hl 0 rfl) ?_
          exact W.iret hx hb hr (fun t ht hW => ⟨⟨_, (), rfl, by (simp only [x_run, if_neg c_1, if_pos c_2, if_pos c_5, hgo, x_goN, nI_clamp (show kn < 2 ^ 31 by omega), Nat.zero_add]); first | done | rfl, by dsimp only; rw [ht]; (simp only [x_run, if_neg c_1, if_pos c_2, if_pos c_5, hgo, x_goN, nI_clamp (show kn < 2 ^ 31 by omega), Nat.zero_add]); exact hP⟩, hS.F ht⟩) hS.2.2 d_X_run_61
        · skip
          refine lv_aload_n hx hb d_X_run_50 rfl (lv_at hl 2 rfl) ?_
          refine wc_v (va_runV (As := []) (rest := []) ⟨hx, hb, hml, hown, hts⟩ (c_X_passMinute l g ad hL z hrow _) (cwV 0 hts (gd_V tw_230 tw_232 tw_3 tw_24 tw_233) rfl rfl rfl (by decide +kernel) ⟨Nat.le_of_ble_eq_true rfl, Nat.le_of_ble_eq_true rfl⟩) (wp_V hK hN hP hJ (0) (by omega) rfl rfl) rfl rfl hl.1 rfl (lv_room (Nat.le_of_ble_eq_true rfl)) d_X_run_51 ⟨Nat.zero_le _, Nat.zero_le _⟩) hS (fun H locs hP hS => ?_)
          obtain ⟨x_6, ex_6⟩ : ∃ z9, z9 = x_minute L z := ⟨_, rfl⟩
          rw [← ex_6] at hP
          refine lv_iinc (v := nI (r + 1)) (lv' := [(2, .int (nI (r + 1))), (1, .int (nI kn)), (0, .ref (ad 0))]) hx hb d_X_run_54 hl (k := 0) rfl (nI_1 r) (by decide) rfl (fun ls hl => ?_)
          refine lv_goto (tgt := 32) hx hb d_X_run_57 (by decide) ?_
          subst ex_6
          exact ih _ _ _ ⟨r + 1, x_minute L z, by omega, x_rows_minute hrow L, by rw [hgo]; exact x_goN_step c_5, hP, hS, lv_sub hl [0, 1, 2] rfl⟩
    · skip
      refine lv_iconst (v := -1) hx hb d_X_run_28 (by decide) ?_
      exact W.iret hx hb hr (fun t ht hW => ⟨⟨_, (), rfl, by (try simp only [x_run, if_neg c_1, if_neg c_2, nI_clamp (show kn < 2 ^ 31 by omega)]); first | done | rfl, by dsimp only; rw [ht]; (try simp only [x_run, if_neg c_1, if_neg c_2, nI_clamp (show kn < 2 ^ 31 by omega)]); exact hP⟩, hS.F ht⟩) hS.2.2 d_X_run_29
