set_option maxHeartbeats 4000000 in
set_option maxRecDepth 100000 in
theorem c_X_init (l : Launch) (g : wG) (b : Nat) {L : Nat} (hL : 1 ≤ L ∧ L ≤ 6) (a1 : Int32) (hc : x_cnt a1 = nI L) : CtC l y_X_init ws_X_init ({ frames := 2, cells := 27, slots := 121, locals := 40 }) g b 1 (cE g b L [.null, .null, .null, .null, .null, .null, .int 0, .int 0, .int 0, .int 0] 0 0) (16 + 2 * L) (xE g (adl b) L x0) [.ref (adl b 0), .int a1] 27 121 := by
  unfold CtC
  refine Met.ofW (cc := b_X_init) (maxL := 4) (ret := none) (by decide) rfl ?_
  intro p e s m args below meth c s₁ B hml hv
  obtain ⟨rfl, hz, hP, hK, hN, hJ⟩ := hv
  have hx := B.exec
  have hb := B.bytes
  have hr := B.returns
  have hts0 := atoms_spec (ws := ws_X_init) B.pre
  have hts : ∀ w ∈ tb, w.before _ s = true := fun w h => hts0 w (List.mem_cons_of_mem _ h)
  have hown : s.vm.findClass "HeapSteps" = some m.cls := findClass_of_methodNamed B.named
  have hlocks := B.notSynchronized
  have hin : meth.name = "<init>" := (name_of_methodNamed B.named B.method).1
  have hS : va_S (fun q => b ≤ q) s.heap s.heap [] := va_S.rf
  have hl := lv_entry ([.ref (adl b 0), .int a1]) (n := 4) (Nat.le_of_ble_eq_true rfl)
  rw [lg_entry_eq]
  generalize (lg_sl ([.ref (adl b 0), .int a1]) ++ List.replicate (4 - (lg_sl ([.ref (adl b 0), .int a1])).length) Slot.unset).toArray = ls at hl ⊢
  have hl : lv_has ls 4 [(0, .ref (adl b 0)), (1, .int a1)] := hl
  refine lv_aload_n hx hb d_X_init_0 rfl (lv_at hl 0 rfl) ?_
  refine W.objInit hx hb hown (hts _ tw_35) (hts _ tw_36) (hts _ tw_37) rfl (by rw [hml]; exact hl.1) rfl d_X_init_1 (Nat.le_of_ble_eq_true rfl) (Nat.le_of_ble_eq_true rfl) ?_
  refine W.eq (g2 := F0 m 4 ls []) rfl ?_
  refine lv_aload_n hx hb d_X_init_4 rfl (lv_at hl 0 rfl) ?_
  refine lv_iconst (v := 3) hx hb d_X_init_5 (by decide) ?_
  refine wr_newq (E' := cE g b L [.null, .null, .null, .null, .null, .null, .int 0, .int 0, .int 0, .int 0] 0 0) hx hb hown (hts _ tw_38) (wN_39 hN) hK hP hS hz (fun _ _ => rfl) 3 rfl 3 (cE_1 _ _ _ _ _) (by decide) (by omega) (by show _ ≤ 27; omega) (by show _ ≤ 121; omega) d_X_init_6 (fun H hP hz hS => ?_)
  refine wr_putF (E' := cE g b L [.null, .ref (adl b 1), .null, .null, .null, .null, .int 0, .int 0, .int 0, .int 0] 0 0) hx hb hts in_X ty_X ty_X_ok n_X hown hK hP hS hz (0) (by omega) rfl rfl 1 (by decide) (hts _ tw_117) rfl hin rfl rfl rfl (Nat.le_of_ble_eq_true rfl) (cU_f _ _ _ _ _ _ _) d_X_init_9 (fun H locs hP hz hS => ?_)
  refine lv_aload_n hx hb d_X_init_12 rfl (lv_at hl 0 rfl) ?_
  refine wr_new (E' := cE g b L [.null, .ref (adl b 1), .null, .null, .null, .null, .int 0, .int 0, .int 0, .int 0] 0 0) (fs := [.int 0, .int 0, .int 0, .int 0, .long 0, .int 0]) hx hb hts in_F ty_F ty_F_ok hown (hts _ tw_40) (hts _ tw_41) (hts _ tw_25) hK hP hS hz (fun _ _ => rfl) rfl rfl (fun j hj => by rcases (show j = 0 ∨ j = 1 ∨ j = 2 ∨ j = 3 ∨ j = 4 ∨ j = 5 by omega) with rfl | rfl | rfl | rfl | rfl | rfl <;> rfl) (by show _ ≤ 27; omega) (by show _ ≤ 121; omega) d_X_init_13 (fun H hP hz hS => ?_)
  refine lv_dup hx hb d_X_init_16 rfl ?_
  refine wc_n (va_runIN (As := []) (rest := [.ref (adl b 2), .ref (adl b 0)]) ⟨hx, hb, hml, hown, hts⟩ (c_F_init l g b 3 (cE g b L [.null, .ref (adl b 1), .null, .null, .null, .null, .int 0, .int 0, .int 0, .int 0] 0 0) (q := 2) (by omega) rfl) ⟨va_cnB 0 hts (gd_C tw_44) rfl rfl rfl (wN_42 hN) (hts _ tw_25) (by decide +kernel) ⟨Nat.le_of_ble_eq_true rfl, Nat.le_of_ble_eq_true rfl⟩, rfl, hts _ tw_43⟩ (wp_C hK hN hP hz) rfl rfl hl.1 rfl (lv_room (Nat.le_of_ble_eq_true rfl)) d_X_init_17 ⟨(by show _ ≤ 27; omega), (by show _ ≤ 121; omega)⟩) hS (fun H locs hP hz hS => ?_)
  refine wr_putF (E' := cE g b L [.null, .ref (adl b 1), .ref (adl b 2), .null, .null, .null, .int 0, .int 0, .int 0, .int 0] 0 0) hx hb hts in_X ty_X ty_X_ok n_X hown hK hP hS hz (0) (by omega) rfl rfl 2 (by decide) (hts _ tw_118) rfl hin rfl rfl rfl (Nat.le_of_ble_eq_true rfl) (cU_f _ _ _ _ _ _ _) d_X_init_20 (fun H locs hP hz hS => ?_)
  refine lv_aload_n hx hb d_X_init_23 rfl (lv_at hl 0 rfl) ?_
  refine lv_bipush (v := 9) hx hb d_X_init_24 (by decide) ?_
  refine wr_newl (E' := cE g b L [.null, .ref (adl b 1), .ref (adl b 2), .null, .null, .null, .int 0, .int 0, .int 0, .int 0] 0 0) hx hb (hts _ tw_91) hK hP hS hz (fun _ _ => rfl) 9 rfl (by decide) (by omega) (by show _ ≤ 27; omega) (by show _ ≤ 121; omega) d_X_init_26 (fun H hP hz hS => ?_)
  refine wr_putF (E' := cE g b L [.null, .ref (adl b 1), .ref (adl b 2), .ref (adl b 3), .null, .null, .int 0, .int 0, .int 0, .int 0] 0 0) hx hb hts in_X ty_X ty_X_ok n_X hown hK hP hS hz (0) (by omega) rfl rfl 3 (by decide) (hts _ tw_119) rfl hin rfl rfl rfl (Nat.le_of_ble_eq_true rfl) (cU_f _ _ _ _ _ _ _) d_X_init_28 (fun H locs hP hz hS => ?_)
  refine lv_aload_n hx hb d_X_init_31 rfl (lv_at hl 0 rfl) ?_
  refine lv_iconst (v := 5) hx hb d_X_init_32 (by decide) ?_
  refine wr_newl (E' := cE g b L [.null, .ref (adl b 1), .ref (adl b 2), .ref (adl b 3), .null, .null, .int 0, .int 0, .int 0, .int 0] 0 0) hx hb (hts _ tw_91) hK hP hS hz (fun _ _ => rfl) 5 rfl (by decide) (by omega) (by show _ ≤ 27; omega) (by show _ ≤ 121; omega) d_X_init_33 (fun H hP hz hS => ?_)
  refine wr_putF (E' := cE g b L [.null, .ref (adl b 1), .ref (adl b 2), .ref (adl b 3), .ref (adl b 4), .null, .int 0, .int 0, .int 0, .int 0] 0 0) hx hb hts in_X ty_X ty_X_ok n_X hown hK hP hS hz (0) (by omega) rfl rfl 4 (by decide) (hts _ tw_120) rfl hin rfl rfl rfl (Nat.le_of_ble_eq_true rfl) (cU_f _ _ _ _ _ _ _) d_X_init_35 (fun H locs hP hz hS => ?_)
  refine lv_aload_n hx hb d_X_init_38 rfl (lv_at hl 0 rfl) ?_
  refine lv_iconst (v := 5) hx hb d_X_init_39 (by decide) ?_
  refine wr_newl (E' := cE g b L [.null, .ref (adl b 1), .ref (adl b 2), .ref (adl b 3), .ref (adl b 4), .null, .int 0, .int 0, .int 0, .int 0] 0 0) hx hb (hts _ tw_91) hK hP hS hz (fun _ _ => rfl) 5 rfl (by decide) (by omega) (by show _ ≤ 27; omega) (by show _ ≤ 121; omega) d_X_init_40 (fun H hP hz hS => ?_)
  refine wr_putF (E' := cE g b L [.null, .ref (adl b 1), .ref (adl b 2), .ref (adl b 3), .ref (adl b 4), .ref (adl b 5), .int 0, .int 0, .int 0, .int 0] 0 0) hx hb hts in_X ty_X ty_X_ok n_X hown hK hP hS hz (0) (by omega) rfl rfl 5 (by decide) (hts _ tw_121) rfl hin rfl rfl rfl (Nat.le_of_ble_eq_true rfl) (cU_f _ _ _ _ _ _ _) d_X_init_42 (fun H locs hP hz hS => ?_)
  refine lv_aload_n hx hb d_X_init_45 rfl (lv_at hl 0 rfl) ?_
  refine lv_iconst (v := 0) hx hb d_X_init_46 (by decide) ?_
  refine wr_putZ (E' := cE g b L [.null, .ref (adl b 1), .ref (adl b 2), .ref (adl b 3), .ref (adl b 4), .ref (adl b 5), .int 0, .int 0, .int 0, .int 0] 0 0) hx hb hts in_X ty_X ty_X_ok n_X hown hK hP hS hz (0) (by omega) rfl rfl 6 (by decide) (hts _ tw_122) rfl rfl rfl (Nat.le_of_ble_eq_true rfl) (cU_f _ _ _ _ _ _ _) d_X_init_47 (fun H locs hP hz hS => ?_)
  refine lv_aload_n hx hb d_X_init_50 rfl (lv_at hl 0 rfl) ?_
  refine lv_iconst (v := 0) hx hb d_X_init_51 (by decide) ?_
  refine wr_putZ (E' := cE g b L [.null, .ref (adl b 1), .ref (adl b 2), .ref (adl b 3), .ref (adl b 4), .ref (adl b 5), .int 0, .int 0, .int 0, .int 0] 0 0) hx hb hts in_X ty_X ty_X_ok n_X hown hK hP hS hz (0) (by omega) rfl rfl 7 (by decide) (hts _ tw_123) rfl rfl rfl (Nat.le_of_ble_eq_true rfl) (cU_f _ _ _ _ _ _ _) d_X_init_52 (fun H locs hP hz hS => ?_)
  refine lv_aload_n hx hb d_X_init_55 rfl (lv_at hl 0 rfl) ?_
  refine lv_ldc (v := 1000000000) hx hb hown (hts _ tw_66) d_X_init_56 ?_
  refine wr_putZ (E' := cE g b L [.null, .ref (adl b 1), .ref (adl b 2), .ref (adl b 3), .ref (adl b 4), .ref (adl b 5), .int 0, .int 0, .int 1000000000, .int 0] 0 0) hx hb hts in_X ty_X ty_X_ok n_X hown hK hP hS hz (0) (by omega) rfl rfl 8 (by decide) (hts _ tw_124) rfl rfl rfl (Nat.le_of_ble_eq_true rfl) (cU_f _ _ _ _ _ _ _) d_X_init_58 (fun H locs hP hz hS => ?_)
  refine lv_aload_n hx hb d_X_init_61 rfl (lv_at hl 0 rfl) ?_
  refine lv_iconst (v := 0) hx hb d_X_init_62 (by decide) ?_
  refine wr_putZ (E' := cE g b L [.null, .ref (adl b 1), .ref (adl b 2), .ref (adl b 3), .ref (adl b 4), .ref (adl b 5), .int 0, .int 0, .int 1000000000, .int 0] 0 0) hx hb hts in_X ty_X ty_X_ok n_X hown hK hP hS hz (0) (by omega) rfl rfl 9 (by decide) (hts _ tw_125) rfl rfl rfl (Nat.le_of_ble_eq_true rfl) (cU_f _ _ _ _ _ _ _) d_X_init_63 (fun H locs hP hz hS => ?_)
  refine lv_iload_n hx hb d_X_init_66 rfl (lv_at hl 1 rfl) ?_
  refine lv_iconst (v := 1) hx hb d_X_init_67 (by decide) ?_
  refine lv_bipush (v := 6) hx hb d_X_init_68 (by decide) ?_
  refine wc_iZ (W.runS (As := [.int a1, .int 1, .int 6]) (rest := []) ⟨hx, hb, hml, hown, hts⟩ (c_X_withinZ l a1 1 6) (cwS 3 hts (gd_S tw_67 tw_68 tw_24 tw_69) rfl rfl rfl (by decide +kernel) ⟨Nat.le_of_ble_eq_true rfl, Nat.le_of_ble_eq_true rfl⟩) wp_Z rfl rfl hl.1 rfl (lv_room (Nat.le_of_ble_eq_true rfl)) d_X_init_70 ⟨Nat.le_of_ble_eq_true rfl, Nat.le_of_ble_eq_true rfl⟩) ?_
  refine lv_if_eq (tgt := 80) hx hb d_X_init_73 (by decide) (fun c_1 => ?_) (fun c_1 => ?_)
  · skip
    refine lv_iconst (v := 1) hx hb d_X_init_80 (by decide) ?_
    refine W.eq (g2 := F0 m 81 ls [.int (nI L)]) (by rw [← cnt_0 c_1 hc]) ?_
    refine lv_istore_n (lv' := [(2, .int (nI L)), (0, .ref (adl b 0)), (1, .int a1)]) hx hb d_X_init_81 rfl hl (by decide) rfl (fun ls hl => ?_)
    refine lv_aload_n hx hb d_X_init_82 rfl (lv_at hl 1 rfl) ?_
    refine lv_iload_n hx hb d_X_init_83 rfl (lv_at hl 0 rfl) ?_
    refine wr_newq (E' := cE g b L [.null, .ref (adl b 1), .ref (adl b 2), .ref (adl b 3), .ref (adl b 4), .ref (adl b 5), .int 0, .int 0, .int 1000000000, .int 0] 0 0) hx hb hown (hts _ tw_70) (wN_71 hN) hK hP hS hz (fun _ _ => rfl) 2 rfl L (cE_6 _ _ _ _ _) rfl (by omega) (by show _ ≤ 27; omega) (by show _ ≤ 121; omega) d_X_init_84 (fun H hP hz hS => ?_)
    refine wr_putF (E' := cE g b L [.ref (adl b 6), .ref (adl b 1), .ref (adl b 2), .ref (adl b 3), .ref (adl b 4), .ref (adl b 5), .int 0, .int 0, .int 1000000000, .int 0] 0 0) hx hb hts in_X ty_X ty_X_ok n_X hown hK hP hS hz (0) (by omega) rfl rfl 0 (by decide) (hts _ tw_116) rfl hin rfl rfl rfl (Nat.le_of_ble_eq_true rfl) (cU_f _ _ _ _ _ _ _) d_X_init_87 (fun H locs hP hz hS => ?_)
    refine lv_iconst (v := 0) hx hb d_X_init_90 (by decide) ?_
    refine lv_istore_n (lv' := [(3, .int 0), (2, .int (nI L)), (0, .ref (adl b 0)), (1, .int a1)]) hx hb d_X_init_91 rfl hl (by decide) rfl (fun ls hl => ?_)
    refine W.widen (k := 6 + 2 * (L - L)) (n := 28 + L + 8 * (L - L)) (by omega) (by omega) ?_
    refine wl_loopC (pc := 92) (fun fu => 6 + 2 * (L - fu)) (fun fu => 28 + L + 8 * (L - fu)) (fun fu H locs ls => ∃ i : Nat, i + fu = L ∧ va_P g.1 vwCl (wo (7 + 2 * i) (adl b) (cE g b L [.ref (adl b 6), .ref (adl b 1), .ref (adl b 2), .ref (adl b 3), .ref (adl b 4), .ref (adl b 5), .int 0, .int 0, .int 1000000000, .int 0] 0 i)) H ∧ H.size = b + (7 + 2 * i) ∧ va_S (fun q => b ≤ q) s.heap H locs ∧ lv_has ls 4 [(3, .int (nI i)), (2, .int (nI L)), (0, .ref (adl b 0))]) ?_ ?_ L _ _ _ ⟨0, by omega, hP, hz, hS, lv_sub hl [0, 1, 2] rfl⟩
    · intro H locs ls hI
      obtain ⟨i, hi, hP, hz, hS, hl⟩ := hI
      refine W.widen (k := 6 + 2 * L) (n := 28 + 9 * L) (by (try dsimp only); omega) (by (try dsimp only); omega) ?_
      have hT : i = L := by omega
      rw [hT] at hP hz hl
      have hP : va_P g.1 vwCl (wo (7 + 2 * L + 3 * 0) (adl b) (cE g b L [.ref (adl b 6), .ref (adl b 1), .ref (adl b 2), .ref (adl b 3), .ref (adl b 4), .ref (adl b 5), .int 0, .int 0, .int 1000000000, .int 0] 0 L)) H := hP
      have hz : H.size = b + (7 + 2 * L + 3 * 0) := hz
      refine lv_iload_n hx hb d_X_init_92 rfl (lv_at hl 0 rfl) ?_
      refine lv_iload_n hx hb d_X_init_93 rfl (lv_at hl 1 rfl) ?_
      refine lv_icmp_ge (tgt := 116) hx hb d_X_init_94 (by decide) (fun c_2 => ?_) (fun c_2 => absurd (nI_le (by omega) (by omega)) c_2)
      refine lv_iconst (v := 0) hx hb d_X_init_116 (by decide) ?_
      refine lv_istore_n (lv' := [(3, .int 0), (2, .int (nI L)), (0, .ref (adl b 0))]) hx hb d_X_init_117 rfl hl (by decide) rfl (fun ls hl => ?_)
      refine lv_iload_n hx hb d_X_init_118 rfl (lv_at hl 0 rfl) ?_
      refine lv_iconst (v := 3) hx hb d_X_init_119 (by decide) ?_
      refine lv_icmp_ge (tgt := 142) hx hb d_X_init_120 (by decide) (fun c_3 => absurd c_3 (by decide)) (fun c_3 => ?_)
      refine lv_aload_n hx hb d_X_init_123 rfl (lv_at hl 2 rfl) ?_
      refine wr_get hx hb hts in_X hown hK hP (0) (by omega) rfl rfl 1 (by decide) (hts _ tw_117) rfl d_X_init_124 ?_
      refine lv_iload_n hx hb d_X_init_127 rfl (lv_at hl 0 rfl) ?_
      refine wr_new (E' := kE g (cE g b L [.ref (adl b 6), .ref (adl b 1), .ref (adl b 2), .ref (adl b 3), .ref (adl b 4), .ref (adl b 5), .int 0, .int 0, .int 1000000000, .int 0] 0 L) (7 + 2 * L + 3 * 0) [.null, .null, .int 0, .int 0, .int 0]) (fs := [.null, .null, .int 0, .int 0, .int 0]) hx hb hts in_K ty_K ty_K_ok hown (hts _ tw_38) (hts _ tw_92) (hts _ tw_27) hK hP hS hz (kE_lt _ _ _ _) (kE_at _ _ _ _) rfl (fun j hj => by rcases (show j = 0 ∨ j = 1 ∨ j = 2 ∨ j = 3 ∨ j = 4 by omega) with rfl | rfl | rfl | rfl | rfl <;> rfl) (by show _ ≤ 27; omega) (by show _ ≤ 121; omega) d_X_init_128 (fun H hP hz hS => ?_)
      refine lv_dup hx hb d_X_init_131 rfl ?_
      refine wc_n (va_runIN (As := []) (rest := [.ref (adl b (7 + 2 * L + 3 * 0)), .int 0, .ref (adl b 1)]) ⟨hx, hb, hml, hown, hts⟩ (c_K_init l g b (7 + 2 * L + 3 * 0) (cE g b L [.ref (adl b 6), .ref (adl b 1), .ref (adl b 2), .ref (adl b 3), .ref (adl b 4), .ref (adl b 5), .int 0, .int 0, .int 1000000000, .int 0] 0 L)) ⟨va_cnB 0 hts (gd_C tw_95) rfl rfl rfl (wN_93 hN) (hts _ tw_27) (by decide +kernel) ⟨Nat.le_of_ble_eq_true rfl, Nat.le_of_ble_eq_true rfl⟩, rfl, hts _ tw_94⟩ (wp_C hK hN hP hz) rfl rfl hl.1 rfl (lv_room (Nat.le_of_ble_eq_true rfl)) d_X_init_132 ⟨(by show _ ≤ 27; omega), (by show _ ≤ 121; omega)⟩) hS (fun H locs hP hz hS => ?_)
      rw [wo_eqE (cE_kind g b L [.ref (adl b 6), .ref (adl b 1), .ref (adl b 2), .ref (adl b 3), .ref (adl b 4), .ref (adl b 5), .int 0, .int 0, .int 1000000000, .int 0] 0 L 0)] at hP
      refine wr_astq (E' := cE g b L [.ref (adl b 6), .ref (adl b 1), .ref (adl b 2), .ref (adl b 3), .ref (adl b 4), .ref (adl b 5), .int 0, .int 0, .int 1000000000, .int 0] 1 L) hx hb hK hP hS hz 1 3 (7 + 2 * L + 3 * 0) (by omega) (by omega) rfl rfl ((cE_x _ _ _ _ _ _ (by omega)).trans (xE_kind g _ L x0 0)) rfl 0 (by decide) (by omega) (by omega) (cU_K g b L [.ref (adl b 6), .ref (adl b 1), .ref (adl b 2), .ref (adl b 3), .ref (adl b 4), .ref (adl b 5), .int 0, .int 0, .int 1000000000, .int 0] 0 L) d_X_init_135 (fun H locs hP hz hS => ?_)
      have hP : va_P g.1 vwCl (wo (7 + 2 * L + 3 * 1) (adl b) (cE g b L [.ref (adl b 6), .ref (adl b 1), .ref (adl b 2), .ref (adl b 3), .ref (adl b 4), .ref (adl b 5), .int 0, .int 0, .int 1000000000, .int 0] 1 L)) H := by rw [show 7 + 2 * L + 3 * 1 = 7 + 2 * L + 3 * 0 + 3 by omega]; exact hP
      have hz : H.size = b + (7 + 2 * L + 3 * 1) := by omega
      refine lv_iinc (v := 1) (lv' := [(3, .int 1), (2, .int (nI L)), (0, .ref (adl b 0))]) hx hb d_X_init_136 hl (k := 0) rfl (by decide) (by decide) rfl (fun ls hl => ?_)
      refine lv_goto (tgt := 118) hx hb d_X_init_139 (by decide) ?_
      refine lv_iload_n hx hb d_X_init_118 rfl (lv_at hl 0 rfl) ?_
      refine lv_iconst (v := 3) hx hb d_X_init_119 (by decide) ?_
      refine lv_icmp_ge (tgt := 142) hx hb d_X_init_120 (by decide) (fun c_4 => absurd c_4 (by decide)) (fun c_4 => ?_)
      refine lv_aload_n hx hb d_X_init_123 rfl (lv_at hl 2 rfl) ?_
      refine wr_get hx hb hts in_X hown hK hP (0) (by omega) rfl rfl 1 (by decide) (hts _ tw_117) rfl d_X_init_124 ?_
      refine lv_iload_n hx hb d_X_init_127 rfl (lv_at hl 0 rfl) ?_
      refine wr_new (E' := kE g (cE g b L [.ref (adl b 6), .ref (adl b 1), .ref (adl b 2), .ref (adl b 3), .ref (adl b 4), .ref (adl b 5), .int 0, .int 0, .int 1000000000, .int 0] 1 L) (7 + 2 * L + 3 * 1) [.null, .null, .int 0, .int 0, .int 0]) (fs := [.null, .null, .int 0, .int 0, .int 0]) hx hb hts in_K ty_K ty_K_ok hown (hts _ tw_38) (hts _ tw_92) (hts _ tw_27) hK hP hS hz (kE_lt _ _ _ _) (kE_at _ _ _ _) rfl (fun j hj => by rcases (show j = 0 ∨ j = 1 ∨ j = 2 ∨ j = 3 ∨ j = 4 by omega) with rfl | rfl | rfl | rfl | rfl <;> rfl) (by show _ ≤ 27; omega) (by show _ ≤ 121; omega) d_X_init_128 (fun H hP hz hS => ?_)
      refine lv_dup hx hb d_X_init_131 rfl ?_
      refine wc_n (va_runIN (As := []) (rest := [.ref (adl b (7 + 2 * L + 3 * 1)), .int 1, .ref (adl b 1)]) ⟨hx, hb, hml, hown, hts⟩ (c_K_init l g b (7 + 2 * L + 3 * 1) (cE g b L [.ref (adl b 6), .ref (adl b 1), .ref (adl b 2), .ref (adl b 3), .ref (adl b 4), .ref (adl b 5), .int 0, .int 0, .int 1000000000, .int 0] 1 L)) ⟨va_cnB 0 hts (gd_C tw_95) rfl rfl rfl (wN_93 hN) (hts _ tw_27) (by decide +kernel) ⟨Nat.le_of_ble_eq_true rfl, Nat.le_of_ble_eq_true rfl⟩, rfl, hts _ tw_94⟩ (wp_C hK hN hP hz) rfl rfl hl.1 rfl (lv_room (Nat.le_of_ble_eq_true rfl)) d_X_init_132 ⟨(by show _ ≤ 27; omega), (by show _ ≤ 121; omega)⟩) hS (fun H locs hP hz hS => ?_)
      rw [wo_eqE (cE_kind g b L [.ref (adl b 6), .ref (adl b 1), .ref (adl b 2), .ref (adl b 3), .ref (adl b 4), .ref (adl b 5), .int 0, .int 0, .int 1000000000, .int 0] 1 L 1)] at hP
      refine wr_astq (E' := cE g b L [.ref (adl b 6), .ref (adl b 1), .ref (adl b 2), .ref (adl b 3), .ref (adl b 4), .ref (adl b 5), .int 0, .int 0, .int 1000000000, .int 0] 2 L) hx hb hK hP hS hz 1 3 (7 + 2 * L + 3 * 1) (by omega) (by omega) rfl rfl ((cE_x _ _ _ _ _ _ (by omega)).trans (xE_kind g _ L x0 1)) rfl 1 (by decide) (by omega) (by omega) (cU_K g b L [.ref (adl b 6), .ref (adl b 1), .ref (adl b 2), .ref (adl b 3), .ref (adl b 4), .ref (adl b 5), .int 0, .int 0, .int 1000000000, .int 0] 1 L) d_X_init_135 (fun H locs hP hz hS => ?_)
      have hP : va_P g.1 vwCl (wo (7 + 2 * L + 3 * 2) (adl b) (cE g b L [.ref (adl b 6), .ref (adl b 1), .ref (adl b 2), .ref (adl b 3), .ref (adl b 4), .ref (adl b 5), .int 0, .int 0, .int 1000000000, .int 0] 2 L)) H := by rw [show 7 + 2 * L + 3 * 2 = 7 + 2 * L + 3 * 1 + 3 by omega]; exact hP
      have hz : H.size = b + (7 + 2 * L + 3 * 2) := by omega
      refine lv_iinc (v := 2) (lv' := [(3, .int 2), (2, .int (nI L)), (0, .ref (adl b 0))]) hx hb d_X_init_136 hl (k := 0) rfl (by decide) (by decide) rfl (fun ls hl => ?_)
      refine lv_goto (tgt := 118) hx hb d_X_init_139 (by decide) ?_
      refine lv_iload_n hx hb d_X_init_118 rfl (lv_at hl 0 rfl) ?_
      refine lv_iconst (v := 3) hx hb d_X_init_119 (by decide) ?_
      refine lv_icmp_ge (tgt := 142) hx hb d_X_init_120 (by decide) (fun c_5 => absurd c_5 (by decide)) (fun c_5 => ?_)
      refine lv_aload_n hx hb d_X_init_123 rfl (lv_at hl 2 rfl) ?_
      refine wr_get hx hb hts in_X hown hK hP (0) (by omega) rfl rfl 1 (by decide) (hts _ tw_117) rfl d_X_init_124 ?_
      refine lv_iload_n hx hb d_X_init_127 rfl (lv_at hl 0 rfl) ?_
      refine wr_new (E' := kE g (cE g b L [.ref (adl b 6), .ref (adl b 1), .ref (adl b 2), .ref (adl b 3), .ref (adl b 4), .ref (adl b 5), .int 0, .int 0, .int 1000000000, .int 0] 2 L) (7 + 2 * L + 3 * 2) [.null, .null, .int 0, .int 0, .int 0]) (fs := [.null, .null, .int 0, .int 0, .int 0]) hx hb hts in_K ty_K ty_K_ok hown (hts _ tw_38) (hts _ tw_92) (hts _ tw_27) hK hP hS hz (kE_lt _ _ _ _) (kE_at _ _ _ _) rfl (fun j hj => by rcases (show j = 0 ∨ j = 1 ∨ j = 2 ∨ j = 3 ∨ j = 4 by omega) with rfl | rfl | rfl | rfl | rfl <;> rfl) (by show _ ≤ 27; omega) (by show _ ≤ 121; omega) d_X_init_128 (fun H hP hz hS => ?_)
      refine lv_dup hx hb d_X_init_131 rfl ?_
      refine wc_n (va_runIN (As := []) (rest := [.ref (adl b (7 + 2 * L + 3 * 2)), .int 2, .ref (adl b 1)]) ⟨hx, hb, hml, hown, hts⟩ (c_K_init l g b (7 + 2 * L + 3 * 2) (cE g b L [.ref (adl b 6), .ref (adl b 1), .ref (adl b 2), .ref (adl b 3), .ref (adl b 4), .ref (adl b 5), .int 0, .int 0, .int 1000000000, .int 0] 2 L)) ⟨va_cnB 0 hts (gd_C tw_95) rfl rfl rfl (wN_93 hN) (hts _ tw_27) (by decide +kernel) ⟨Nat.le_of_ble_eq_true rfl, Nat.le_of_ble_eq_true rfl⟩, rfl, hts _ tw_94⟩ (wp_C hK hN hP hz) rfl rfl hl.1 rfl (lv_room (Nat.le_of_ble_eq_true rfl)) d_X_init_132 ⟨(by show _ ≤ 27; omega), (by show _ ≤ 121; omega)⟩) hS (fun H locs hP hz hS => ?_)
      rw [wo_eqE (cE_kind g b L [.ref (adl b 6), .ref (adl b 1), .ref (adl b 2), .ref (adl b 3), .ref (adl b 4), .ref (adl b 5), .int 0, .int 0, .int 1000000000, .int 0] 2 L 2)] at hP
      refine wr_astq (E' := cE g b L [.ref (adl b 6), .ref (adl b 1), .ref (adl b 2), .ref (adl b 3), .ref (adl b 4), .ref (adl b 5), .int 0, .int 0, .int 1000000000, .int 0] 3 L) hx hb hK hP hS hz 1 3 (7 + 2 * L + 3 * 2) (by omega) (by omega) rfl rfl ((cE_x _ _ _ _ _ _ (by omega)).trans (xE_kind g _ L x0 2)) rfl 2 (by decide) (by omega) (by omega) (cU_K g b L [.ref (adl b 6), .ref (adl b 1), .ref (adl b 2), .ref (adl b 3), .ref (adl b 4), .ref (adl b 5), .int 0, .int 0, .int 1000000000, .int 0] 2 L) d_X_init_135 (fun H locs hP hz hS => ?_)
      have hP : va_P g.1 vwCl (wo (7 + 2 * L + 3 * 3) (adl b) (cE g b L [.ref (adl b 6), .ref (adl b 1), .ref (adl b 2), .ref (adl b 3), .ref (adl b 4), .ref (adl b 5), .int 0, .int 0, .int 1000000000, .int 0] 3 L)) H := by rw [show 7 + 2 * L + 3 * 3 = 7 + 2 * L + 3 * 2 + 3 by omega]; exact hP
      have hz : H.size = b + (7 + 2 * L + 3 * 3) := by omega
      refine lv_iinc (v := 3) (lv' := [(3, .int 3), (2, .int (nI L)), (0, .ref (adl b 0))]) hx hb d_X_init_136 hl (k := 0) rfl (by decide) (by decide) rfl (fun ls hl => ?_)
      refine lv_goto (tgt := 118) hx hb d_X_init_139 (by decide) ?_
      refine lv_iload_n hx hb d_X_init_118 rfl (lv_at hl 0 rfl) ?_
      refine lv_iconst (v := 3) hx hb d_X_init_119 (by decide) ?_
      refine lv_icmp_ge (tgt := 142) hx hb d_X_init_120 (by decide) (fun c_6 => ?_) (fun c_6 => absurd (by decide) c_6)
      have hz : H.size = b + (16 + 2 * L) := by rw [ar16]; exact hz
      have hPe := wo_eqE (n := 7 + 2 * L + 3 * 3) (ad := adl b) (E := cE g b L [.ref (adl b 6), .ref (adl b 1), .ref (adl b 2), .ref (adl b 3), .ref (adl b 4), .ref (adl b 5), .int 0, .int 0, .int 1000000000, .int 0] 3 L) (E' := xE g (adl b) L x0) (fun k _ => cE_end g b L k)
      have hP : va_P g.1 vwCl (wo (16 + 2 * L) (adl b) (xE g (adl b) L x0)) H := by rw [ar16, ← hPe]; exact hP
      refine W.widen (k := 27) (n := 121) (ar27 hL) (ar121 hL) ?_
      exact W.vret hx hb hr (fun t ht hW => ⟨⟨(), rfl, trivial, by dsimp only; rw [ht]; exact ⟨hP, hz⟩⟩, hS.F ht⟩) hS.2.2 d_X_init_142
    · intro fu ih H locs ls hI
      obtain ⟨i, hi, hP, hz, hS, hl⟩ := hI
      have hi_i : i < L := by omega
      refine W.widen (k := 6 + 2 * i) (n := 28 + L + 8 * i) (by (try dsimp only); omega) (by (try dsimp only); omega) ?_
      refine lv_iload_n hx hb d_X_init_92 rfl (lv_at hl 0 rfl) ?_
      refine lv_iload_n hx hb d_X_init_93 rfl (lv_at hl 1 rfl) ?_
      refine lv_icmp_ge (tgt := 116) hx hb d_X_init_94 (by decide) (fun c_7 => absurd c_7 (nI_ge hi_i (by omega))) (fun c_7 => ?_)
      refine lv_aload_n hx hb d_X_init_97 rfl (lv_at hl 2 rfl) ?_
      refine wr_get hx hb hts in_X hown hK hP (0) (by omega) rfl rfl 0 (by decide) (hts _ tw_116) rfl d_X_init_98 ?_
      refine lv_iload_n hx hb d_X_init_101 rfl (lv_at hl 0 rfl) ?_
      refine wr_new (E' := yE g (cE g b L [.ref (adl b 6), .ref (adl b 1), .ref (adl b 2), .ref (adl b 3), .ref (adl b 4), .ref (adl b 5), .int 0, .int 0, .int 1000000000, .int 0] 0 i) (7 + 2 * i) [.null, .int 0, .int 0]) (fs := [.null, .int 0, .int 0]) hx hb hts in_Y ty_Y ty_Y_ok hown (hts _ tw_70) (hts _ tw_72) (hts _ tw_26) hK hP hS hz (yE_lt _ _ _ _) (yE_at _ _ _ _) rfl (fun j hj => by rcases (show j = 0 ∨ j = 1 ∨ j = 2 by omega) with rfl | rfl | rfl <;> rfl) (by show _ ≤ 27; omega) (by show _ ≤ 121; omega) d_X_init_102 (fun H hP hz hS => ?_)
      refine lv_dup hx hb d_X_init_105 rfl ?_
      refine wc_n (va_runIN (As := []) (rest := [.ref (adl b (7 + 2 * i)), .int (nI i), .ref (adl b 6)]) ⟨hx, hb, hml, hown, hts⟩ (c_Y_init l g b (7 + 2 * i) (cE g b L [.ref (adl b 6), .ref (adl b 1), .ref (adl b 2), .ref (adl b 3), .ref (adl b 4), .ref (adl b 5), .int 0, .int 0, .int 1000000000, .int 0] 0 i)) ⟨va_cnB 0 hts (gd_C tw_75) rfl rfl rfl (wN_73 hN) (hts _ tw_26) (by decide +kernel) ⟨Nat.le_of_ble_eq_true rfl, Nat.le_of_ble_eq_true rfl⟩, rfl, hts _ tw_74⟩ (wp_C hK hN hP hz) rfl rfl hl.1 rfl (lv_room (Nat.le_of_ble_eq_true rfl)) d_X_init_106 ⟨(by show _ ≤ 27; omega), (by show _ ≤ 121; omega)⟩) hS (fun H locs hP hz hS => ?_)
      rw [wo_eqE (cE_lay g b L [.ref (adl b 6), .ref (adl b 1), .ref (adl b 2), .ref (adl b 3), .ref (adl b 4), .ref (adl b 5), .int 0, .int 0, .int 1000000000, .int 0] 0 i hi_i hL.2)] at hP
      refine wr_astq (E' := cE g b L [.ref (adl b 6), .ref (adl b 1), .ref (adl b 2), .ref (adl b 3), .ref (adl b 4), .ref (adl b 5), .int 0, .int 0, .int 1000000000, .int 0] 0 (i + 1)) hx hb hK hP hS hz 6 2 (7 + 2 * i) (by omega) (by omega) rfl rfl ((cE_x _ _ _ _ _ _ (by omega)).trans (xE_lay g _ L x0 hi_i)) rfl i rfl (by omega) (by omega) (cU_L g b L [.ref (adl b 6), .ref (adl b 1), .ref (adl b 2), .ref (adl b 3), .ref (adl b 4), .ref (adl b 5), .int 0, .int 0, .int 1000000000, .int 0] 0 i) d_X_init_109 (fun H locs hP hz hS => ?_)
      refine lv_iinc (v := nI (i + 1)) (lv' := [(3, .int (nI (i + 1))), (2, .int (nI L)), (0, .ref (adl b 0))]) hx hb d_X_init_110 hl (k := 0) rfl (nI_1 i) (by decide) rfl (fun ls hl => ?_)
      refine lv_goto (tgt := 92) hx hb d_X_init_113 (by decide) ?_
      refine W.widen (k := 6 + 2 * (L - fu)) (n := 28 + L + 8 * (L - fu)) (by omega) (by omega) ?_
      exact ih _ _ _ ⟨i + 1, by omega, by rw [show 7 + 2 * (i + 1) = 7 + 2 * i + 2 by omega]; exact hP, by omega, hS, lv_sub hl [0, 1, 2] rfl⟩
  · skip
    refine lv_iload_n hx hb d_X_init_76 rfl (lv_at hl 1 rfl) ?_
    refine lv_goto (tgt := 81) hx hb d_X_init_77 (by decide) ?_
    refine W.eq (g2 := F0 m 81 ls [.int (nI L)]) (by rw [← cnt_n c_1 hc]) ?_
    refine lv_istore_n (lv' := [(2, .int (nI L)), (0, .ref (adl b 0)), (1, .int a1)]) hx hb d_X_init_81 rfl hl (by decide) rfl (fun ls hl => ?_)
    refine lv_aload_n hx hb d_X_init_82 rfl (lv_at hl 1 rfl) ?_
    refine lv_iload_n hx hb d_X_init_83 rfl (lv_at hl 0 rfl) ?_
    refine wr_newq (E' := cE g b L [.null, .ref (adl b 1), .ref (adl b 2), .ref (adl b 3), .ref (adl b 4), .ref (adl b 5), .int 0, .int 0, .int 1000000000, .int 0] 0 0) hx hb hown (hts _ tw_70) (wN_71 hN) hK hP hS hz (fun _ _ => rfl) 2 rfl L (cE_6 _ _ _ _ _) rfl (by omega) (by show _ ≤ 27; omega) (by show _ ≤ 121; omega) d_X_init_84 (fun H hP hz hS => ?_)
    refine wr_putF (E' := cE g b L [.ref (adl b 6), .ref (adl b 1), .ref (adl b 2), .ref (adl b 3), .ref (adl b 4), .ref (adl b 5), .int 0, .int 0, .int 1000000000, .int 0] 0 0) hx hb hts in_X ty_X ty_X_ok n_X hown hK hP hS hz (0) (by omega) rfl rfl 0 (by decide) (hts _ tw_116) rfl hin rfl rfl rfl (Nat.le_of_ble_eq_true rfl) (cU_f _ _ _ _ _ _ _) d_X_init_87 (fun H locs hP hz hS => ?_)
    refine lv_iconst (v := 0) hx hb d_X_init_90 (by decide) ?_
    refine lv_istore_n (lv' := [(3, .int 0), (2, .int (nI L)), (0, .ref (adl b 0)), (1, .int a1)]) hx hb d_X_init_91 rfl hl (by decide) rfl (fun ls hl => ?_)
    refine W.widen (k := 6 + 2 * (L - L)) (n := 28 + L + 8 * (L - L)) (by omega) (by omega) ?_
    refine wl_loopC (pc := 92) (fun fu => 6 + 2 * (L - fu)) (fun fu => 28 + L + 8 * (L - fu)) (fun fu H locs ls => ∃ i : Nat, i + fu = L ∧ va_P g.1 vwCl (wo (7 + 2 * i) (adl b) (cE g b L [.ref (adl b 6), .ref (adl b 1), .ref (adl b 2), .ref (adl b 3), .ref (adl b 4), .ref (adl b 5), .int 0, .int 0, .int 1000000000, .int 0] 0 i)) H ∧ H.size = b + (7 + 2 * i) ∧ va_S (fun q => b ≤ q) s.heap H locs ∧ lv_has ls 4 [(3, .int (nI i)), (2, .int (nI L)), (0, .ref (adl b 0))]) ?_ ?_ L _ _ _ ⟨0, by omega, hP, hz, hS, lv_sub hl [0, 1, 2] rfl⟩
    · intro H locs ls hI
      obtain ⟨i, hi, hP, hz, hS, hl⟩ := hI
      refine W.widen (k := 6 + 2 * L) (n := 28 + 9 * L) (by (try dsimp only); omega) (by (try dsimp only); omega) ?_
      have hT : i = L := by omega
      rw [hT] at hP hz hl
      have hP : va_P g.1 vwCl (wo (7 + 2 * L + 3 * 0) (adl b) (cE g b L [.ref (adl b 6), .ref (adl b 1), .ref (adl b 2), .ref (adl b 3), .ref (adl b 4), .ref (adl b 5), .int 0, .int 0, .int 1000000000, .int 0] 0 L)) H := hP
      have hz : H.size = b + (7 + 2 * L + 3 * 0) := hz
      refine lv_iload_n hx hb d_X_init_92 rfl (lv_at hl 0 rfl) ?_
      refine lv_iload_n hx hb d_X_init_93 rfl (lv_at hl 1 rfl) ?_
      refine lv_icmp_ge (tgt := 116) hx hb d_X_init_94 (by decide) (fun c_8 => ?_) (fun c_8 => absurd (nI_le (by omega) (by omega)) c_8)
      refine lv_iconst (v := 0) hx hb d_X_init_116 (by decide) ?_
      refine lv_istore_n (lv' := [(3, .int 0), (2, .int (nI L)), (0, .ref (adl b 0))]) hx hb d_X_init_117 rfl hl (by decide) rfl (fun ls hl => ?_)
      refine lv_iload_n hx hb d_X_init_118 rfl (lv_at hl 0 rfl) ?_
      refine lv_iconst (v := 3) hx hb d_X_init_119 (by decide) ?_
      refine lv_icmp_ge (tgt := 142) hx hb d_X_init_120 (by decide) (fun c_9 => absurd c_9 (by decide)) (fun c_9 => ?_)
      refine lv_aload_n hx hb d_X_init_123 rfl (lv_at hl 2 rfl) ?_
      refine wr_get hx hb hts in_X hown hK hP (0) (by omega) rfl rfl 1 (by decide) (hts _ tw_117) rfl d_X_init_124 ?_
      refine lv_iload_n hx hb d_X_init_127 rfl (lv_at hl 0 rfl) ?_
      refine wr_new (E' := kE g (cE g b L [.ref (adl b 6), .ref (adl b 1), .ref (adl b 2), .ref (adl b 3), .ref (adl b 4), .ref (adl b 5), .int 0, .int 0, .int 1000000000, .int 0] 0 L) (7 + 2 * L + 3 * 0) [.null, .null, .int 0, .int 0, .int 0]) (fs := [.null, .null, .int 0, .int 0, .int 0]) hx hb hts in_K ty_K ty_K_ok hown (hts _ tw_38) (hts _ tw_92) (hts _ tw_27) hK hP hS hz (kE_lt _ _ _ _) (kE_at _ _ _ _) rfl (fun j hj => by rcases (show j = 0 ∨ j = 1 ∨ j = 2 ∨ j = 3 ∨ j = 4 by omega) with rfl | rfl | rfl | rfl | rfl <;> rfl) (by show _ ≤ 27; omega) (by show _ ≤ 121; omega) d_X_init_128 (fun H hP hz hS => ?_)
      refine lv_dup hx hb d_X_init_131 rfl ?_
      refine wc_n (va_runIN (As := []) (rest := [.ref (adl b (7 + 2 * L + 3 * 0)), .int 0, .ref (adl b 1)]) ⟨hx, hb, hml, hown, hts⟩ (c_K_init l g b (7 + 2 * L + 3 * 0) (cE g b L [.ref (adl b 6), .ref (adl b 1), .ref (adl b 2), .ref (adl b 3), .ref (adl b 4), .ref (adl b 5), .int 0, .int 0, .int 1000000000, .int 0] 0 L)) ⟨va_cnB 0 hts (gd_C tw_95) rfl rfl rfl (wN_93 hN) (hts _ tw_27) (by decide +kernel) ⟨Nat.le_of_ble_eq_true rfl, Nat.le_of_ble_eq_true rfl⟩, rfl, hts _ tw_94⟩ (wp_C hK hN hP hz) rfl rfl hl.1 rfl (lv_room (Nat.le_of_ble_eq_true rfl)) d_X_init_132 ⟨(by show _ ≤ 27; omega), (by show _ ≤ 121; omega)⟩) hS (fun H locs hP hz hS => ?_)
      rw [wo_eqE (cE_kind g b L [.ref (adl b 6), .ref (adl b 1), .ref (adl b 2), .ref (adl b 3), .ref (adl b 4), .ref (adl b 5), .int 0, .int 0, .int 1000000000, .int 0] 0 L 0)] at hP
      refine wr_astq (E' := cE g b L [.ref (adl b 6), .ref (adl b 1), .ref (adl b 2), .ref (adl b 3), .ref (adl b 4), .ref (adl b 5), .int 0, .int 0, .int 1000000000, .int 0] 1 L) hx hb hK hP hS hz 1 3 (7 + 2 * L + 3 * 0) (by omega) (by omega) rfl rfl ((cE_x _ _ _ _ _ _ (by omega)).trans (xE_kind g _ L x0 0)) rfl 0 (by decide) (by omega) (by omega) (cU_K g b L [.ref (adl b 6), .ref (adl b 1), .ref (adl b 2), .ref (adl b 3), .ref (adl b 4), .ref (adl b 5), .int 0, .int 0, .int 1000000000, .int 0] 0 L) d_X_init_135 (fun H locs hP hz hS => ?_)
      have hP : va_P g.1 vwCl (wo (7 + 2 * L + 3 * 1) (adl b) (cE g b L [.ref (adl b 6), .ref (adl b 1), .ref (adl b 2), .ref (adl b 3), .ref (adl b 4), .ref (adl b 5), .int 0, .int 0, .int 1000000000, .int 0] 1 L)) H := by rw [show 7 + 2 * L + 3 * 1 = 7 + 2 * L + 3 * 0 + 3 by omega]; exact hP
      have hz : H.size = b + (7 + 2 * L + 3 * 1) := by omega
      refine lv_iinc (v := 1) (lv' := [(3, .int 1), (2, .int (nI L)), (0, .ref (adl b 0))]) hx hb d_X_init_136 hl (k := 0) rfl (by decide) (by decide) rfl (fun ls hl => ?_)
      refine lv_goto (tgt := 118) hx hb d_X_init_139 (by decide) ?_
      refine lv_iload_n hx hb d_X_init_118 rfl (lv_at hl 0 rfl) ?_
      refine lv_iconst (v := 3) hx hb d_X_init_119 (by decide) ?_
      refine lv_icmp_ge (tgt := 142) hx hb d_X_init_120 (by decide) (fun c_10 => absurd c_10 (by decide)) (fun c_10 => ?_)
      refine lv_aload_n hx hb d_X_init_123 rfl (lv_at hl 2 rfl) ?_
      refine wr_get hx hb hts in_X hown hK hP (0) (by omega) rfl rfl 1 (by decide) (hts _ tw_117) rfl d_X_init_124 ?_
      refine lv_iload_n hx hb d_X_init_127 rfl (lv_at hl 0 rfl) ?_
      refine wr_new (E' := kE g (cE g b L [.ref (adl b 6), .ref (adl b 1), .ref (adl b 2), .ref (adl b 3), .ref (adl b 4), .ref (adl b 5), .int 0, .int 0, .int 1000000000, .int 0] 1 L) (7 + 2 * L + 3 * 1) [.null, .null, .int 0, .int 0, .int 0]) (fs := [.null, .null, .int 0, .int 0, .int 0]) hx hb hts in_K ty_K ty_K_ok hown (hts _ tw_38) (hts _ tw_92) (hts _ tw_27) hK hP hS hz (kE_lt _ _ _ _) (kE_at _ _ _ _) rfl (fun j hj => by rcases (show j = 0 ∨ j = 1 ∨ j = 2 ∨ j = 3 ∨ j = 4 by omega) with rfl | rfl | rfl | rfl | rfl <;> rfl) (by show _ ≤ 27; omega) (by show _ ≤ 121; omega) d_X_init_128 (fun H hP hz hS => ?_)
      refine lv_dup hx hb d_X_init_131 rfl ?_
      refine wc_n (va_runIN (As := []) (rest := [.ref (adl b (7 + 2 * L + 3 * 1)), .int 1, .ref (adl b 1)]) ⟨hx, hb, hml, hown, hts⟩ (c_K_init l g b (7 + 2 * L + 3 * 1) (cE g b L [.ref (adl b 6), .ref (adl b 1), .ref (adl b 2), .ref (adl b 3), .ref (adl b 4), .ref (adl b 5), .int 0, .int 0, .int 1000000000, .int 0] 1 L)) ⟨va_cnB 0 hts (gd_C tw_95) rfl rfl rfl (wN_93 hN) (hts _ tw_27) (by decide +kernel) ⟨Nat.le_of_ble_eq_true rfl, Nat.le_of_ble_eq_true rfl⟩, rfl, hts _ tw_94⟩ (wp_C hK hN hP hz) rfl rfl hl.1 rfl (lv_room (Nat.le_of_ble_eq_true rfl)) d_X_init_132 ⟨(by show _ ≤ 27; omega), (by show _ ≤ 121; omega)⟩) hS (fun H locs hP hz hS => ?_)
      rw [wo_eqE (cE_kind g b L [.ref (adl b 6), .ref (adl b 1), .ref (adl b 2), .ref (adl b 3), .ref (adl b 4), .ref (adl b 5), .int 0, .int 0, .int 1000000000, .int 0] 1 L 1)] at hP
      refine wr_astq (E' := cE g b L [.ref (adl b 6), .ref (adl b 1), .ref (adl b 2), .ref (adl b 3), .ref (adl b 4), .ref (adl b 5), .int 0, .int 0, .int 1000000000, .int 0] 2 L) hx hb hK hP hS hz 1 3 (7 + 2 * L + 3 * 1) (by omega) (by omega) rfl rfl ((cE_x _ _ _ _ _ _ (by omega)).trans (xE_kind g _ L x0 1)) rfl 1 (by decide) (by omega) (by omega) (cU_K g b L [.ref (adl b 6), .ref (adl b 1), .ref (adl b 2), .ref (adl b 3), .ref (adl b 4), .ref (adl b 5), .int 0, .int 0, .int 1000000000, .int 0] 1 L) d_X_init_135 (fun H locs hP hz hS => ?_)
      have hP : va_P g.1 vwCl (wo (7 + 2 * L + 3 * 2) (adl b) (cE g b L [.ref (adl b 6), .ref (adl b 1), .ref (adl b 2), .ref (adl b 3), .ref (adl b 4), .ref (adl b 5), .int 0, .int 0, .int 1000000000, .int 0] 2 L)) H := by rw [show 7 + 2 * L + 3 * 2 = 7 + 2 * L + 3 * 1 + 3 by omega]; exact hP
      have hz : H.size = b + (7 + 2 * L + 3 * 2) := by omega
      refine lv_iinc (v := 2) (lv' := [(3, .int 2), (2, .int (nI L)), (0, .ref (adl b 0))]) hx hb d_X_init_136 hl (k := 0) rfl (by decide) (by decide) rfl (fun ls hl => ?_)
      refine lv_goto (tgt := 118) hx hb d_X_init_139 (by decide) ?_
      refine lv_iload_n hx hb d_X_init_118 rfl (lv_at hl 0 rfl) ?_
      refine lv_iconst (v := 3) hx hb d_X_init_119 (by decide) ?_
      refine lv_icmp_ge (tgt := 142) hx hb d_X_init_120 (by decide) (fun c_11 => absurd c_11 (by decide)) (fun c_11 => ?_)
      refine lv_aload_n hx hb d_X_init_123 rfl (lv_at hl 2 rfl) ?_
      refine wr_get hx hb hts in_X hown hK hP (0) (by omega) rfl rfl 1 (by decide) (hts _ tw_117) rfl d_X_init_124 ?_
      refine lv_iload_n hx hb d_X_init_127 rfl (lv_at hl 0 rfl) ?_
      refine wr_new (E' := kE g (cE g b L [.ref (adl b 6), .ref (adl b 1), .ref (adl b 2), .ref (adl b 3), .ref (adl b 4), .ref (adl b 5), .int 0, .int 0, .int 1000000000, .int 0] 2 L) (7 + 2 * L + 3 * 2) [.null, .null, .int 0, .int 0, .int 0]) (fs := [.null, .null, .int 0, .int 0, .int 0]) hx hb hts in_K ty_K ty_K_ok hown (hts _ tw_38) (hts _ tw_92) (hts _ tw_27) hK hP hS hz (kE_lt _ _ _ _) (kE_at _ _ _ _) rfl (fun j hj => by rcases (show j = 0 ∨ j = 1 ∨ j = 2 ∨ j = 3 ∨ j = 4 by omega) with rfl | rfl | rfl | rfl | rfl <;> rfl) (by show _ ≤ 27; omega) (by show _ ≤ 121; omega) d_X_init_128 (fun H hP hz hS => ?_)
      refine lv_dup hx hb d_X_init_131 rfl ?_
      refine wc_n (va_runIN (As := []) (rest := [.ref (adl b (7 + 2 * L + 3 * 2)), .int 2, .ref (adl b 1)]) ⟨hx, hb, hml, hown, hts⟩ (c_K_init l g b (7 + 2 * L + 3 * 2) (cE g b L [.ref (adl b 6), .ref (adl b 1), .ref (adl b 2), .ref (adl b 3), .ref (adl b 4), .ref (adl b 5), .int 0, .int 0, .int 1000000000, .int 0] 2 L)) ⟨va_cnB 0 hts (gd_C tw_95) rfl rfl rfl (wN_93 hN) (hts _ tw_27) (by decide +kernel) ⟨Nat.le_of_ble_eq_true rfl, Nat.le_of_ble_eq_true rfl⟩, rfl, hts _ tw_94⟩ (wp_C hK hN hP hz) rfl rfl hl.1 rfl (lv_room (Nat.le_of_ble_eq_true rfl)) d_X_init_132 ⟨(by show _ ≤ 27; omega), (by show _ ≤ 121; omega)⟩) hS (fun H locs hP hz hS => ?_)
      rw [wo_eqE (cE_kind g b L [.ref (adl b 6), .ref (adl b 1), .ref (adl b 2), .ref (adl b 3), .ref (adl b 4), .ref (adl b 5), .int 0, .int 0, .int 1000000000, .int 0] 2 L 2)] at hP
      refine wr_astq (E' := cE g b L [.ref (adl b 6), .ref (adl b 1), .ref (adl b 2), .ref (adl b 3), .ref (adl b 4), .ref (adl b 5), .int 0, .int 0, .int 1000000000, .int 0] 3 L) hx hb hK hP hS hz 1 3 (7 + 2 * L + 3 * 2) (by omega) (by omega) rfl rfl ((cE_x _ _ _ _ _ _ (by omega)).trans (xE_kind g _ L x0 2)) rfl 2 (by decide) (by omega) (by omega) (cU_K g b L [.ref (adl b 6), .ref (adl b 1), .ref (adl b 2), .ref (adl b 3), .ref (adl b 4), .ref (adl b 5), .int 0, .int 0, .int 1000000000, .int 0] 2 L) d_X_init_135 (fun H locs hP hz hS => ?_)
      have hP : va_P g.1 vwCl (wo (7 + 2 * L + 3 * 3) (adl b) (cE g b L [.ref (adl b 6), .ref (adl b 1), .ref (adl b 2), .ref (adl b 3), .ref (adl b 4), .ref (adl b 5), .int 0, .int 0, .int 1000000000, .int 0] 3 L)) H := by rw [show 7 + 2 * L + 3 * 3 = 7 + 2 * L + 3 * 2 + 3 by omega]; exact hP
      have hz : H.size = b + (7 + 2 * L + 3 * 3) := by omega
      refine lv_iinc (v := 3) (lv' := [(3, .int 3), (2, .int (nI L)), (0, .ref (adl b 0))]) hx hb d_X_init_136 hl (k := 0) rfl (by decide) (by decide) rfl (fun ls hl => ?_)
      refine lv_goto (tgt := 118) hx hb d_X_init_139 (by decide) ?_
      refine lv_iload_n hx hb d_X_init_118 rfl (lv_at hl 0 rfl) ?_
      refine lv_iconst (v := 3) hx hb d_X_init_119 (by decide) ?_
      refine lv_icmp_ge (tgt := 142) hx hb d_X_init_120 (by decide) (fun c_12 => ?_) (fun c_12 => absurd (by decide) c_12)
      have hz : H.size = b + (16 + 2 * L) := by rw [ar16]; exact hz
      have hPe := wo_eqE (n := 7 + 2 * L + 3 * 3) (ad := adl b) (E := cE g b L [.ref (adl b 6), .ref (adl b 1), .ref (adl b 2), .ref (adl b 3), .ref (adl b 4), .ref (adl b 5), .int 0, .int 0, .int 1000000000, .int 0] 3 L) (E' := xE g (adl b) L x0) (fun k _ => cE_end g b L k)
      have hP : va_P g.1 vwCl (wo (16 + 2 * L) (adl b) (xE g (adl b) L x0)) H := by rw [ar16, ← hPe]; exact hP
      refine W.widen (k := 27) (n := 121) (ar27 hL) (ar121 hL) ?_
      exact W.vret hx hb hr (fun t ht hW => ⟨⟨(), rfl, trivial, by dsimp only; rw [ht]; exact ⟨hP, hz⟩⟩, hS.F ht⟩) hS.2.2 d_X_init_142
    · intro fu ih H locs ls hI
      obtain ⟨i, hi, hP, hz, hS, hl⟩ := hI
      have hi_i : i < L := by omega
      refine W.widen (k := 6 + 2 * i) (n := 28 + L + 8 * i) (by (try dsimp only); omega) (by (try dsimp only); omega) ?_
      refine lv_iload_n hx hb d_X_init_92 rfl (lv_at hl 0 rfl) ?_
      refine lv_iload_n hx hb d_X_init_93 rfl (lv_at hl 1 rfl) ?_
      refine lv_icmp_ge (tgt := 116) hx hb d_X_init_94 (by decide) (fun c_13 => absurd c_13 (nI_ge hi_i (by omega))) (fun c_13 => ?_)
      refine lv_aload_n hx hb d_X_init_97 rfl (lv_at hl 2 rfl) ?_
      refine wr_get hx hb hts in_X hown hK hP (0) (by omega) rfl rfl 0 (by decide) (hts _ tw_116) rfl d_X_init_98 ?_
      refine lv_iload_n hx hb d_X_init_101 rfl (lv_at hl 0 rfl) ?_
      refine wr_new (E' := yE g (cE g b L [.ref (adl b 6), .ref (adl b 1), .ref (adl b 2), .ref (adl b 3), .ref (adl b 4), .ref (adl b 5), .int 0, .int 0, .int 1000000000, .int 0] 0 i) (7 + 2 * i) [.null, .int 0, .int 0]) (fs := [.null, .int 0, .int 0]) hx hb hts in_Y ty_Y ty_Y_ok hown (hts _ tw_70) (hts _ tw_72) (hts _ tw_26) hK hP hS hz (yE_lt _ _ _ _) (yE_at _ _ _ _) rfl (fun j hj => by rcases (show j = 0 ∨ j = 1 ∨ j = 2 by omega) with rfl | rfl | rfl <;> rfl) (by show _ ≤ 27; omega) (by show _ ≤ 121; omega) d_X_init_102 (fun H hP hz hS => ?_)
      refine lv_dup hx hb d_X_init_105 rfl ?_
      refine wc_n (va_runIN (As := []) (rest := [.ref (adl b (7 + 2 * i)), .int (nI i), .ref (adl b 6)]) ⟨hx, hb, hml, hown, hts⟩ (c_Y_init l g b (7 + 2 * i) (cE g b L [.ref (adl b 6), .ref (adl b 1), .ref (adl b 2), .ref (adl b 3), .ref (adl b 4), .ref (adl b 5), .int 0, .int 0, .int 1000000000, .int 0] 0 i)) ⟨va_cnB 0 hts (gd_C tw_75) rfl rfl rfl (wN_73 hN) (hts _ tw_26) (by decide +kernel) ⟨Nat.le_of_ble_eq_true rfl, Nat.le_of_ble_eq_true rfl⟩, rfl, hts _ tw_74⟩ (wp_C hK hN hP hz) rfl rfl hl.1 rfl (lv_room (Nat.le_of_ble_eq_true rfl)) d_X_init_106 ⟨(by show _ ≤ 27; omega), (by show _ ≤ 121; omega)⟩) hS (fun H locs hP hz hS => ?_)
      rw [wo_eqE (cE_lay g b L [.ref (adl b 6), .ref (adl b 1), .ref (adl b 2), .ref (adl b 3), .ref (adl b 4), .ref (adl b 5), .int 0, .int 0, .int 1000000000, .int 0] 0 i hi_i hL.2)] at hP
      refine wr_astq (E' := cE g b L [.ref (adl b 6), .ref (adl b 1), .ref (adl b 2), .ref (adl b 3), .ref (adl b 4), .ref (adl b 5), .int 0, .int 0, .int 1000000000, .int 0] 0 (i + 1)) hx hb hK hP hS hz 6 2 (7 + 2 * i) (by omega) (by omega) rfl rfl ((cE_x _ _ _ _ _ _ (by omega)).trans (xE_lay g _ L x0 hi_i)) rfl i rfl (by omega) (by omega) (cU_L g b L [.ref (adl b 6), .ref (adl b 1), .ref (adl b 2), .ref (adl b 3), .ref (adl b 4), .ref (adl b 5), .int 0, .int 0, .int 1000000000, .int 0] 0 i) d_X_init_109 (fun H locs hP hz hS => ?_)
      refine lv_iinc (v := nI (i + 1)) (lv' := [(3, .int (nI (i + 1))), (2, .int (nI L)), (0, .ref (adl b 0))]) hx hb d_X_init_110 hl (k := 0) rfl (nI_1 i) (by decide) rfl (fun ls hl => ?_)
      refine lv_goto (tgt := 92) hx hb d_X_init_113 (by decide) ?_
      refine W.widen (k := 6 + 2 * (L - fu)) (n := 28 + L + 8 * (L - fu)) (by omega) (by omega) ?_
      exact ih _ _ _ ⟨i + 1, by omega, by rw [show 7 + 2 * (i + 1) = 7 + 2 * i + 2 by omega]; exact hP, by omega, hS, lv_sub hl [0, 1, 2] rfl⟩
