set_option maxHeartbeats 4000000 in
set_option maxRecDepth 100000 in
theorem c_M_rate (l : Launch) (g : wG) (ad : Nat → Nat) {L : Nat} (hL : 1 ≤ L ∧ L ≤ 6) (x : xS) (hrow : x_rows x) (a1 a2 a3 : Int32) : CtI l y_M_rate ws_M_rate ({ frames := 1, cells := 0, slots := 0, locals := 25 }) g 14 ad (mE g ad L x) (mE g ad L (x_rate x a1 a2 a3).2) [.ref (ad 0), .int a1, .int a2, .int a3] (x_rate x a1 a2 a3).1 := by
  intro sz
  refine Met.ofW (cc := b_M_rate) (maxL := 5) (ret := (some .boolean)) (by decide +kernel) rfl ?_
  intro p e s m args below meth c s₁ B hml hv
  obtain ⟨rfl, hsz, hP, hK, hN, hJ⟩ := hv
  have hx := B.exec
  have hb := B.bytes
  have hr := B.returns
  have hts0 := atoms_spec (ws := ws_M_rate) B.pre
  have hts : ∀ w ∈ tb, w.before _ s = true := fun w h => hts0 w (List.mem_cons_of_mem _ h)
  have hown : s.vm.findClass "HeapStepsModel" = some m.cls := findClass_of_methodNamed B.named
  have hlocks := B.notSynchronized
  subst hsz
  have hS : va_S (wA 14 ad s.heap.size) s.heap s.heap [] := va_S.rf
  have hl := lv_entry ([.ref (ad 0), .int a1, .int a2, .int a3]) (n := 5) (Nat.le_of_ble_eq_true rfl)
  rw [lg_entry_eq]
  generalize (lg_sl ([.ref (ad 0), .int a1, .int a2, .int a3]) ++ List.replicate (5 - (lg_sl ([.ref (ad 0), .int a1, .int a2, .int a3])).length) Slot.unset).toArray = ls at hl ⊢
  have hl : lv_has ls 5 [(0, .ref (ad 0)), (1, .int a1), (2, .int a2), (3, .int a3)] := hl
  refine lv_iload_n hx hb d_M_rate_0 rfl (lv_at hl 1 rfl) ?_
  refine wc_i (va_runS (As := [.int a1]) (rest := []) ⟨hx, hb, hml, hown, hts⟩ (c_M_isPart l g _ ad _ a1 _) (cwS 1 hts (gd_S tw_422 tw_423 tw_28 tw_424) rfl rfl rfl (by decide +kernel) ⟨Nat.le_of_ble_eq_true rfl, Nat.le_of_ble_eq_true rfl⟩) (wp_S hK hN hP hJ) rfl rfl hl.1 rfl (lv_room (Nat.le_of_ble_eq_true rfl)) d_M_rate_1 ⟨Nat.zero_le _, Nat.zero_le _⟩) hS (fun H locs hP hS => ?_)
  rw [isPart_x a1]
  refine lv_if_eq (tgt := 41) hx hb d_M_rate_4 (by decide) (fun c_1 => ?_) (fun c_1 => ?_)
  · skip
    refine lv_iconst (v := 0) hx hb d_M_rate_41 (by decide) ?_
    exact W.zret hx hb hr rfl (fun t ht hW => ⟨⟨_, (), rfl, by (try simp only [x_rate, x_addRow, if_pos c_1, ite_self]); first | done | rfl | assumption | exact x_within_1 (by assumption), by dsimp only; rw [ht]; (try simp only [x_rate, x_addRow, if_pos c_1, ite_self]); exact hP⟩, hS.F ht⟩) hS.2.2 d_M_rate_42
  · skip
    obtain ⟨k, hk, rfl⟩ := x_within_nat (n := 2) (by decide) c_1
    obtain ⟨r, hr4, hre⟩ := hrow k (by omega)
    have hrc : (xY x k 0).toNatClampNeg = r := by rw [hre]; exact nI_clamp (by omega)
    refine lv_aload_n hx hb d_M_rate_7 rfl (lv_at hl 0 rfl) ?_
    refine wr_get hx hb hts in_M hown hK hP (0) (by omega) rfl rfl 6 (by decide) (hts _ tw_347) rfl d_M_rate_8 ?_
    refine lv_iload_n hx hb d_M_rate_11 rfl (lv_at hl 1 rfl) ?_
    refine wr_ialdv (v := xY x k 0) hx hb hK hP (6) 1 (by omega) rfl rfl k rfl (by omega) (by omega) rfl d_M_rate_12 ?_
    refine lv_iconst (v := 4) hx hb d_M_rate_13 (by decide) ?_
    refine lv_icmp_eq (tgt := 41) hx hb d_M_rate_14 (by decide) (fun c_2 => ?_) (fun c_2 => ?_)
    · skip
      refine lv_iconst (v := 0) hx hb d_M_rate_41 (by decide) ?_
      exact W.zret hx hb hr rfl (fun t ht hW => ⟨⟨_, (), rfl, by (try simp only [x_rate, x_addRow, if_neg c_1, if_pos c_2, if_pos (show (4 : Int32) ≤ xY x k 0 by rw [c_2]; decide), hrc, nI_clamp (show k < 2 ^ 31 by omega), ite_self]); first | done | rfl | assumption | exact x_within_1 (by assumption), by dsimp only; rw [ht]; (try simp only [x_rate, x_addRow, if_neg c_1, if_pos c_2, if_pos (show (4 : Int32) ≤ xY x k 0 by rw [c_2]; decide), hrc, nI_clamp (show k < 2 ^ 31 by omega), ite_self]); exact hP⟩, hS.F ht⟩) hS.2.2 d_M_rate_42
    · skip
      refine lv_iload_n hx hb d_M_rate_17 rfl (lv_at hl 2 rfl) ?_
      refine lv_i2l hx hb d_M_rate_18 rfl ?_
      refine lv_lconst (v := 0) hx hb d_M_rate_19 (by decide) ?_
      refine lv_ldc2 (v := 1000000) hx hb hown (hts _ tw_425) d_M_rate_20 ?_
      refine wc_i (va_runS (As := [.long (Int32.toInt64 a2), .long 0, .long 1000000]) (rest := []) ⟨hx, hb, hml, hown, hts⟩ (c_M_isIn l g _ ad _ (Int32.toInt64 a2) 0 1000000 _) (cwS 3 hts (gd_S tw_426 tw_427 tw_28 tw_428) rfl rfl rfl (by decide +kernel) ⟨Nat.le_of_ble_eq_true rfl, Nat.le_of_ble_eq_true rfl⟩) (wp_S hK hN hP hJ) rfl rfl hl.1 rfl (lv_room (Nat.le_of_ble_eq_true rfl)) d_M_rate_23 ⟨Nat.zero_le _, Nat.zero_le _⟩) hS (fun H locs hP hS => ?_)
      rw [isIn_x (a := a2) (b := 0) (c := 1000000) (by decide) (by decide)]
      refine lv_if_eq (tgt := 41) hx hb d_M_rate_26 (by decide) (fun c_3 => ?_) (fun c_3 => ?_)
      · skip
        refine lv_iconst (v := 0) hx hb d_M_rate_41 (by decide) ?_
        exact W.zret hx hb hr rfl (fun t ht hW => ⟨⟨_, (), rfl, by (try simp only [x_rate, x_addRow, if_neg c_1, if_neg c_2, if_pos c_3, if_neg (rate_n4 hr4 hre c_2), hrc, nI_clamp (show k < 2 ^ 31 by omega), ite_self]); first | done | rfl | assumption | exact x_within_1 (by assumption), by dsimp only; rw [ht]; (try simp only [x_rate, x_addRow, if_neg c_1, if_neg c_2, if_pos c_3, if_neg (rate_n4 hr4 hre c_2), hrc, nI_clamp (show k < 2 ^ 31 by omega), ite_self]); exact hP⟩, hS.F ht⟩) hS.2.2 d_M_rate_42
      · skip
        refine lv_iload_n hx hb d_M_rate_29 rfl (lv_at hl 3 rfl) ?_
        refine lv_i2l hx hb d_M_rate_30 rfl ?_
        refine lv_lconst (v := 0) hx hb d_M_rate_31 (by decide) ?_
        refine lv_ldc2 (v := 100000) hx hb hown (hts _ tw_442) d_M_rate_32 ?_
        refine wc_i (va_runS (As := [.long (Int32.toInt64 a3), .long 0, .long 100000]) (rest := []) ⟨hx, hb, hml, hown, hts⟩ (c_M_isIn l g _ ad _ (Int32.toInt64 a3) 0 100000 _) (cwS 3 hts (gd_S tw_426 tw_427 tw_28 tw_428) rfl rfl rfl (by decide +kernel) ⟨Nat.le_of_ble_eq_true rfl, Nat.le_of_ble_eq_true rfl⟩) (wp_S hK hN hP hJ) rfl rfl hl.1 rfl (lv_room (Nat.le_of_ble_eq_true rfl)) d_M_rate_35 ⟨Nat.zero_le _, Nat.zero_le _⟩) hS (fun H locs hP hS => ?_)
        rw [isIn_x (a := a3) (b := 0) (c := 100000) (by decide) (by decide)]
        refine lv_if_ne (tgt := 43) hx hb d_M_rate_38 (by decide) (fun c_4 => ?_) (fun c_4 => ?_)
        · skip
          refine lv_iconst (v := 4) hx hb d_M_rate_43 (by decide) ?_
          refine lv_iload_n hx hb d_M_rate_44 rfl (lv_at hl 1 rfl) ?_
          refine lv_imul hx hb d_M_rate_45 ?_
          refine lv_aload_n hx hb d_M_rate_46 rfl (lv_at hl 0 rfl) ?_
          refine wr_get hx hb hts in_M hown hK hP (0) (by omega) rfl rfl 6 (by decide) (hts _ tw_347) rfl d_M_rate_47 ?_
          refine lv_iload_n hx hb d_M_rate_50 rfl (lv_at hl 1 rfl) ?_
          refine wr_ialdv (v := xY x k 0) hx hb hK hP (6) 1 (by omega) rfl rfl k rfl (by omega) (by omega) rfl d_M_rate_51 ?_
          rw [hre]
          refine lv_iadd hx hb d_M_rate_52 ?_
          rw [mI4]
          refine lv_istore (lv' := [(4, .int (nI (4 * k + r))), (0, .ref (ad 0)), (1, .int (nI k)), (2, .int a2), (3, .int a3)]) hx hb d_M_rate_53 hl (by decide) rfl (fun ls hl => ?_)
          refine lv_aload_n hx hb d_M_rate_55 rfl (lv_at hl 1 rfl) ?_
          refine wr_get hx hb hts in_M hown hK hP (0) (by omega) rfl rfl 6 (by decide) (hts _ tw_347) rfl d_M_rate_56 ?_
          refine lv_iload_n hx hb d_M_rate_59 rfl (lv_at hl 2 rfl) ?_
          refine wr_ialdv (v := xY x k 0) hx hb hK hP (6) 1 (by omega) rfl rfl k rfl (by omega) (by omega) rfl d_M_rate_60 ?_
          refine lv_if_le (tgt := 79) hx hb d_M_rate_61 (by decide) (fun c_5 => ?_) (fun c_5 => ?_)
          · skip
            have hr5 : r < 4 := by
              rcases Nat.lt_or_ge r 4 with q | q
              · exact q
              · exact absurd (by rw [hre, show r = 4 by omega]; rfl) c_2
            refine lv_aload_n hx hb d_M_rate_79 rfl (lv_at hl 1 rfl) ?_
            refine wr_get hx hb hts in_M hown hK hP (0) (by omega) rfl rfl 7 (by decide) (hts _ tw_348) rfl d_M_rate_80 ?_
            refine lv_iload hx hb d_M_rate_83 (lv_at hl 0 rfl) ?_
            refine lv_iload_n hx hb d_M_rate_85 rfl (lv_at hl 3 rfl) ?_
            obtain ⟨x_6, ex_6⟩ : ∃ z9, z9 = xR' x k 0 r a2 := ⟨_, rfl⟩
            refine wr_iast (E' := mE g ad L x_6) hx hb hK hP hJ hS (7) 1 (by omega) rfl rfl (4 * k + r) rfl (by omega) (by omega) (by rw [ex_6]; exact mU_RW g ad L x (p := k) (r := r) (by omega) a2) d_M_rate_86 (fun H locs hP hS => ?_)
            refine lv_aload_n hx hb d_M_rate_87 rfl (lv_at hl 1 rfl) ?_
            refine wr_get hx hb hts in_M hown hK hP (0) (by omega) rfl rfl 8 (by decide) (hts _ tw_349) rfl d_M_rate_88 ?_
            refine lv_iload hx hb d_M_rate_91 (lv_at hl 0 rfl) ?_
            refine lv_iload_n hx hb d_M_rate_93 rfl (lv_at hl 4 rfl) ?_
            obtain ⟨x_7, ex_7⟩ : ∃ z9, z9 = xR' x_6 k 1 r a3 := ⟨_, rfl⟩
            refine wr_iast (E' := mE g ad L x_7) hx hb hK hP hJ hS (8) 1 (by omega) rfl rfl (4 * k + r) rfl (by omega) (by omega) (by rw [ex_7]; exact mU_RR g ad L x_6 (p := k) (r := r) (by omega) a3) d_M_rate_94 (fun H locs hP hS => ?_)
            refine lv_aload_n hx hb d_M_rate_95 rfl (lv_at hl 1 rfl) ?_
            refine wr_get hx hb hts in_M hown hK hP (0) (by omega) rfl rfl 6 (by decide) (hts _ tw_347) rfl d_M_rate_96 ?_
            refine lv_iload_n hx hb d_M_rate_99 rfl (lv_at hl 2 rfl) ?_
            refine lv_dup2_11 hx hb d_M_rate_100 rfl rfl ?_
            refine wr_ialdv (v := xY x_7 k 0) hx hb hK hP (6) 1 (by omega) rfl rfl k rfl (by omega) (by omega) rfl d_M_rate_101 ?_
            refine lv_iconst (v := 1) hx hb d_M_rate_102 (by decide) ?_
            refine lv_iadd hx hb d_M_rate_103 ?_
            obtain ⟨x_8, ex_8⟩ : ∃ z9, z9 = xY' x_7 k 0 ((xY x_7 k 0) + 1) := ⟨_, rfl⟩
            refine wr_iast (E' := mE g ad L x_8) hx hb hK hP hJ hS (6) 1 (by omega) rfl rfl k rfl (by omega) (by omega) (by rw [ex_8]; exact mU_RC g ad L x_7 k ((xY x_7 k 0) + 1)) d_M_rate_104 (fun H locs hP hS => ?_)
            refine lv_iconst (v := 1) hx hb d_M_rate_105 (by decide) ?_
            subst ex_6
            subst ex_7
            subst ex_8
            exact W.zret hx hb hr rfl (fun t ht hW => ⟨⟨_, (), rfl, by (try simp only [x_rate, x_addRow, if_neg c_1, if_neg c_2, if_neg c_3, if_neg c_4, if_pos c_5, if_neg (rate_n4 hr4 hre c_2), hrc, nI_clamp (show k < 2 ^ 31 by omega), ite_self]); first | done | rfl | assumption | exact x_within_1 (by assumption), by dsimp only; rw [ht]; (try simp only [x_rate, x_addRow, if_neg c_1, if_neg c_2, if_neg c_3, if_neg c_4, if_pos c_5, if_neg (rate_n4 hr4 hre c_2), hrc, nI_clamp (show k < 2 ^ 31 by omega), ite_self]); exact hP⟩, hS.F ht⟩) hS.2.2 d_M_rate_106
          · skip
            refine lv_iload_n hx hb d_M_rate_64 rfl (lv_at hl 3 rfl) ?_
            refine lv_aload_n hx hb d_M_rate_65 rfl (lv_at hl 1 rfl) ?_
            refine wr_get hx hb hts in_M hown hK hP (0) (by omega) rfl rfl 7 (by decide) (hts _ tw_348) rfl d_M_rate_66 ?_
            refine lv_iload hx hb d_M_rate_69 (lv_at hl 0 rfl) ?_
            refine lv_iconst (v := 1) hx hb d_M_rate_71 (by decide) ?_
            refine lv_isub hx hb d_M_rate_72 ?_
            have hd1 := (nI_dec hr4 (by rw [← hre]; exact c_5)).2
            rw [m4dec hd1]
            refine wr_ialdv (v := xR x k 0 (r - 1)) hx hb hK hP (7) 1 (by omega) rfl rfl (4 * k + (r - 1)) rfl (by omega) (by omega) (mRW x k (r - 1) 0 (by omega)) d_M_rate_73 ?_
            refine lv_icmp_gt (tgt := 79) hx hb d_M_rate_74 (by decide) (fun c_9 => ?_) (fun c_9 => ?_)
            · skip
              have hr5 : r < 4 := by
                rcases Nat.lt_or_ge r 4 with q | q
                · exact q
                · exact absurd (by rw [hre, show r = 4 by omega]; rfl) c_2
              refine lv_aload_n hx hb d_M_rate_79 rfl (lv_at hl 1 rfl) ?_
              refine wr_get hx hb hts in_M hown hK hP (0) (by omega) rfl rfl 7 (by decide) (hts _ tw_348) rfl d_M_rate_80 ?_
              refine lv_iload hx hb d_M_rate_83 (lv_at hl 0 rfl) ?_
              refine lv_iload_n hx hb d_M_rate_85 rfl (lv_at hl 3 rfl) ?_
              obtain ⟨x_10, ex_10⟩ : ∃ z9, z9 = xR' x k 0 r a2 := ⟨_, rfl⟩
              refine wr_iast (E' := mE g ad L x_10) hx hb hK hP hJ hS (7) 1 (by omega) rfl rfl (4 * k + r) rfl (by omega) (by omega) (by rw [ex_10]; exact mU_RW g ad L x (p := k) (r := r) (by omega) a2) d_M_rate_86 (fun H locs hP hS => ?_)
              refine lv_aload_n hx hb d_M_rate_87 rfl (lv_at hl 1 rfl) ?_
              refine wr_get hx hb hts in_M hown hK hP (0) (by omega) rfl rfl 8 (by decide) (hts _ tw_349) rfl d_M_rate_88 ?_
              refine lv_iload hx hb d_M_rate_91 (lv_at hl 0 rfl) ?_
              refine lv_iload_n hx hb d_M_rate_93 rfl (lv_at hl 4 rfl) ?_
              obtain ⟨x_11, ex_11⟩ : ∃ z9, z9 = xR' x_10 k 1 r a3 := ⟨_, rfl⟩
              refine wr_iast (E' := mE g ad L x_11) hx hb hK hP hJ hS (8) 1 (by omega) rfl rfl (4 * k + r) rfl (by omega) (by omega) (by rw [ex_11]; exact mU_RR g ad L x_10 (p := k) (r := r) (by omega) a3) d_M_rate_94 (fun H locs hP hS => ?_)
              refine lv_aload_n hx hb d_M_rate_95 rfl (lv_at hl 1 rfl) ?_
              refine wr_get hx hb hts in_M hown hK hP (0) (by omega) rfl rfl 6 (by decide) (hts _ tw_347) rfl d_M_rate_96 ?_
              refine lv_iload_n hx hb d_M_rate_99 rfl (lv_at hl 2 rfl) ?_
              refine lv_dup2_11 hx hb d_M_rate_100 rfl rfl ?_
              refine wr_ialdv (v := xY x_11 k 0) hx hb hK hP (6) 1 (by omega) rfl rfl k rfl (by omega) (by omega) rfl d_M_rate_101 ?_
              refine lv_iconst (v := 1) hx hb d_M_rate_102 (by decide) ?_
              refine lv_iadd hx hb d_M_rate_103 ?_
              obtain ⟨x_12, ex_12⟩ : ∃ z9, z9 = xY' x_11 k 0 ((xY x_11 k 0) + 1) := ⟨_, rfl⟩
              refine wr_iast (E' := mE g ad L x_12) hx hb hK hP hJ hS (6) 1 (by omega) rfl rfl k rfl (by omega) (by omega) (by rw [ex_12]; exact mU_RC g ad L x_11 k ((xY x_11 k 0) + 1)) d_M_rate_104 (fun H locs hP hS => ?_)
              refine lv_iconst (v := 1) hx hb d_M_rate_105 (by decide) ?_
              subst ex_10
              subst ex_11
              subst ex_12
              exact W.zret hx hb hr rfl (fun t ht hW => ⟨⟨_, (), rfl, by (try simp only [x_rate, x_addRow, if_neg c_1, if_neg c_2, if_neg c_3, if_neg c_4, if_neg c_5, if_pos c_9, if_neg (rate_n4 hr4 hre c_2), hrc, nI_clamp (show k < 2 ^ 31 by omega), ite_self]); first | done | rfl | assumption | exact x_within_1 (by assumption), by dsimp only; rw [ht]; (try simp only [x_rate, x_addRow, if_neg c_1, if_neg c_2, if_neg c_3, if_neg c_4, if_neg c_5, if_pos c_9, if_neg (rate_n4 hr4 hre c_2), hrc, nI_clamp (show k < 2 ^ 31 by omega), ite_self]); exact hP⟩, hS.F ht⟩) hS.2.2 d_M_rate_106
            · skip
              refine lv_iconst (v := 0) hx hb d_M_rate_77 (by decide) ?_
              exact W.zret hx hb hr rfl (fun t ht hW => ⟨⟨_, (), rfl, by (try simp only [x_rate, x_addRow, if_neg c_1, if_neg c_2, if_neg c_3, if_neg c_4, if_neg c_5, if_neg c_9, if_neg (rate_n4 hr4 hre c_2), hrc, nI_clamp (show k < 2 ^ 31 by omega), ite_self]); first | done | rfl | assumption | exact x_within_1 (by assumption), by dsimp only; rw [ht]; (try simp only [x_rate, x_addRow, if_neg c_1, if_neg c_2, if_neg c_3, if_neg c_4, if_neg c_5, if_neg c_9, if_neg (rate_n4 hr4 hre c_2), hrc, nI_clamp (show k < 2 ^ 31 by omega), ite_self]); exact hP⟩, hS.F ht⟩) hS.2.2 d_M_rate_78
        · skip
          refine lv_iconst (v := 0) hx hb d_M_rate_41 (by decide) ?_
          exact W.zret hx hb hr rfl (fun t ht hW => ⟨⟨_, (), rfl, by (try simp only [x_rate, x_addRow, if_neg c_1, if_neg c_2, if_neg c_3, if_pos c_4, if_neg (rate_n4 hr4 hre c_2), hrc, nI_clamp (show k < 2 ^ 31 by omega), ite_self]); first | done | rfl | assumption | exact x_within_1 (by assumption), by dsimp only; rw [ht]; (try simp only [x_rate, x_addRow, if_neg c_1, if_neg c_2, if_neg c_3, if_pos c_4, if_neg (rate_n4 hr4 hre c_2), hrc, nI_clamp (show k < 2 ^ 31 by omega), ite_self]); exact hP⟩, hS.F ht⟩) hS.2.2 d_M_rate_42
set_option maxHeartbeats 4000000 in
set_option maxRecDepth 100000 in
theorem c_M_rateOf (l : Launch) (g : wG) (ad : Nat → Nat) {L : Nat} (hL : 1 ≤ L ∧ L ≤ 6) (x : xS) (pk : Nat) (hp : pk < 3) (hro : ∃ r, r ≤ 4 ∧ xY x pk 0 = nI r) (a2 : Int64) : CtL l y_M_rateOf ws_M_rateOf ({ frames := 0, cells := 0, slots := 0, locals := 0 }) g 14 ad (mE g ad L x) (mE g ad L x) [.ref (ad 0), .int (nI pk), .long a2] (m_rate x pk a2) := by
  intro sz
  refine Met.ofW (cc := b_M_rateOf) (maxL := 7) (ret := (some .long)) (by decide +kernel) rfl ?_
  intro p e s m args below meth c s₁ B hml hv
  obtain ⟨rfl, hsz, hP, hK, hN, hJ⟩ := hv
  have hx := B.exec
  have hb := B.bytes
  have hr := B.returns
  have hts0 := atoms_spec (ws := ws_M_rateOf) B.pre
  have hts : ∀ w ∈ tb, w.before _ s = true := fun w h => hts0 w (List.mem_cons_of_mem _ h)
  have hown : s.vm.findClass "HeapStepsModel" = some m.cls := findClass_of_methodNamed B.named
  have hlocks := B.notSynchronized
  subst hsz
  have hS : va_S (wA 14 ad s.heap.size) s.heap s.heap [] := va_S.rf
  have hl := lv_entry ([.ref (ad 0), .int (nI pk), .long a2]) (n := 7) (Nat.le_of_ble_eq_true rfl)
  rw [lg_entry_eq]
  generalize (lg_sl ([.ref (ad 0), .int (nI pk), .long a2]) ++ List.replicate (7 - (lg_sl ([.ref (ad 0), .int (nI pk), .long a2])).length) Slot.unset).toArray = ls at hl ⊢
  have hl : lv_has ls 7 [(0, .ref (ad 0)), (1, .int (nI pk)), (2, .long a2)] := hl
  obtain ⟨r, hr4, hre⟩ := hro
  have hrc : (xY x pk 0).toNatClampNeg = r := by rw [hre]; exact nI_clamp (by omega)
  refine lv_lconst (v := 0) hx hb d_M_rateOf_0 (by decide) ?_
  refine lv_lstore (lv' := [(4, .long 0), (0, .ref (ad 0)), (1, .int (nI pk)), (2, .long a2)]) hx hb d_M_rateOf_1 hl (by decide) rfl (fun ls hl => ?_)
  refine lv_iconst (v := 4) hx hb d_M_rateOf_3 (by decide) ?_
  refine lv_iload_n hx hb d_M_rateOf_4 rfl (lv_at hl 2 rfl) ?_
  refine lv_imul hx hb d_M_rateOf_5 ?_
  rw [mI4']
  refine lv_istore (lv' := [(6, .int (nI (4 * pk))), (4, .long 0), (0, .ref (ad 0)), (1, .int (nI pk)), (2, .long a2)]) hx hb d_M_rateOf_6 hl (by decide) rfl (fun ls hl => ?_)
  refine wl_loop (pc := 8) (fun fu H locs ls => ∃ i : Nat, i + fu = r ∧ va_P g.1 vwCl (wo 14 ad (mE g ad L x)) H ∧ va_S (wA 14 ad s.heap.size) s.heap H locs ∧ lv_has ls 7 [(6, .int (nI (4 * pk + i))), (4, .long (m_rateN x pk a2 i)), (2, .long a2), (1, .int (nI pk)), (0, .ref (ad 0))]) ?_ ?_ r _ _ _ ⟨0, by omega, hP, hS, lv_sub hl [0, 1, 4, 3, 2] rfl⟩
  · intro H locs ls hI
    obtain ⟨i, hi, hP, hS, hl⟩ := hI
    have hT_i : i = r := by omega
    try rw [hT_i] at hP
    try rw [hT_i] at hl
    refine lv_iload hx hb d_M_rateOf_8 (lv_at hl 0 rfl) ?_
    refine lv_iconst (v := 4) hx hb d_M_rateOf_10 (by decide) ?_
    refine lv_iload_n hx hb d_M_rateOf_11 rfl (lv_at hl 3 rfl) ?_
    refine lv_imul hx hb d_M_rateOf_12 ?_
    refine lv_aload_n hx hb d_M_rateOf_13 rfl (lv_at hl 4 rfl) ?_
    refine wr_get hx hb hts in_M hown hK hP (0) (by omega) rfl rfl 6 (by decide) (hts _ tw_347) rfl d_M_rateOf_14 ?_
    refine lv_iload_n hx hb d_M_rateOf_17 rfl (lv_at hl 3 rfl) ?_
    refine wr_ialdv (v := xY x pk 0) hx hb hK hP (6) 1 (by omega) rfl rfl pk rfl (by omega) (by omega) rfl d_M_rateOf_18 ?_
    rw [hre]
    refine lv_iadd hx hb d_M_rateOf_19 ?_
    rw [mI4]
    refine lv_icmp_ge (tgt := 57) hx hb d_M_rateOf_20 (by decide) (fun c_1 => ?_) (fun c_1 => absurd (nI_le (by omega) (by omega)) c_1)
    refine lv_lload hx hb d_M_rateOf_57 (lv_at hl 1 rfl) ?_
    exact W.lret hx hb hr (fun t ht hW => ⟨⟨_, (), rfl, by (try simp only [m_rate, hrc, ite_self]); first | done | rfl | assumption | exact x_within_1 (by assumption), by dsimp only; rw [ht]; (try simp only [m_rate, hrc, ite_self]); exact hP⟩, hS.F ht⟩) hS.2.2 d_M_rateOf_59
  · intro fu ih_i H locs ls hI
    obtain ⟨i, hi, hP, hS, hl⟩ := hI
    have hi_i : i < r := by omega
    refine lv_iload hx hb d_M_rateOf_8 (lv_at hl 0 rfl) ?_
    refine lv_iconst (v := 4) hx hb d_M_rateOf_10 (by decide) ?_
    refine lv_iload_n hx hb d_M_rateOf_11 rfl (lv_at hl 3 rfl) ?_
    refine lv_imul hx hb d_M_rateOf_12 ?_
    refine lv_aload_n hx hb d_M_rateOf_13 rfl (lv_at hl 4 rfl) ?_
    refine wr_get hx hb hts in_M hown hK hP (0) (by omega) rfl rfl 6 (by decide) (hts _ tw_347) rfl d_M_rateOf_14 ?_
    refine lv_iload_n hx hb d_M_rateOf_17 rfl (lv_at hl 3 rfl) ?_
    refine wr_ialdv (v := xY x pk 0) hx hb hK hP (6) 1 (by omega) rfl rfl pk rfl (by omega) (by omega) rfl d_M_rateOf_18 ?_
    rw [hre]
    refine lv_iadd hx hb d_M_rateOf_19 ?_
    rw [mI4]
    refine lv_icmp_ge (tgt := 57) hx hb d_M_rateOf_20 (by decide) (fun c_2 => absurd c_2 (nI_ge (by omega) (by omega))) (fun c_2 => ?_)
    refine lv_aload_n hx hb d_M_rateOf_23 rfl (lv_at hl 4 rfl) ?_
    refine wr_get hx hb hts in_M hown hK hP (0) (by omega) rfl rfl 7 (by decide) (hts _ tw_348) rfl d_M_rateOf_24 ?_
    refine lv_iload hx hb d_M_rateOf_27 (lv_at hl 0 rfl) ?_
    refine wr_ialdv (v := xR x pk 0 i) hx hb hK hP (7) 1 (by omega) rfl rfl (4 * pk + i) rfl (by omega) (by omega) (mRW x pk i 0 (by omega)) d_M_rateOf_29 ?_
    refine lv_i2l hx hb d_M_rateOf_30 rfl ?_
    refine lv_lload_n hx hb d_M_rateOf_31 rfl (lv_at hl 2 rfl) ?_
    refine W.lcmp hx hb d_M_rateOf_32 ?_
    refine lv_if_gt (tgt := 47) hx hb d_M_rateOf_33 (by decide) (fun c_3 => ?_) (fun c_3 => ?_)
    · skip
      refine lv_lload hx hb d_M_rateOf_47 (lv_at hl 1 rfl) ?_
      refine lv_topl (fun v_4 ev_4 => ?_)
      refine lv_lstore (lv' := [(4, .long v_4), (6, .int (nI (4 * pk + i))), (2, .long a2), (1, .int (nI pk)), (0, .ref (ad 0))]) hx hb d_M_rateOf_49 hl (by decide) rfl (fun ls hl => ?_)
      refine lv_iinc (v := nI (4 * pk + i + 1)) (lv' := [(6, .int (nI (4 * pk + i + 1))), (4, .long v_4), (2, .long a2), (1, .int (nI pk)), (0, .ref (ad 0))]) hx hb d_M_rateOf_51 hl (k := 1) rfl (nI_1 (4 * pk + i)) (by decide) rfl (fun ls hl => ?_)
      refine lv_goto (tgt := 8) hx hb d_M_rateOf_54 (by decide) ?_
      subst ev_4
      exact ih_i _ _ _ ⟨i + 1, by omega, (by (try simp only [m_rateN, if_pos c_3]); exact hP), hS, lv_sub hl [0, 1, 2, 3, 4] (by (try simp only [m_rateN, if_pos c_3]); rfl)⟩
    · skip
      refine lv_aload_n hx hb d_M_rateOf_36 rfl (lv_at hl 4 rfl) ?_
      refine wr_get hx hb hts in_M hown hK hP (0) (by omega) rfl rfl 8 (by decide) (hts _ tw_349) rfl d_M_rateOf_37 ?_
      refine lv_iload hx hb d_M_rateOf_40 (lv_at hl 0 rfl) ?_
      refine wr_ialdv (v := xR x pk 1 i) hx hb hK hP (8) 1 (by omega) rfl rfl (4 * pk + i) rfl (by omega) (by omega) (mRW x pk i 1 (by omega)) d_M_rateOf_42 ?_
      refine lv_i2l hx hb d_M_rateOf_43 rfl ?_
      refine lv_goto (tgt := 49) hx hb d_M_rateOf_44 (by decide) ?_
      refine lv_topl (fun v_5 ev_5 => ?_)
      refine lv_lstore (lv' := [(4, .long v_5), (6, .int (nI (4 * pk + i))), (2, .long a2), (1, .int (nI pk)), (0, .ref (ad 0))]) hx hb d_M_rateOf_49 hl (by decide) rfl (fun ls hl => ?_)
      refine lv_iinc (v := nI (4 * pk + i + 1)) (lv' := [(6, .int (nI (4 * pk + i + 1))), (4, .long v_5), (2, .long a2), (1, .int (nI pk)), (0, .ref (ad 0))]) hx hb d_M_rateOf_51 hl (k := 1) rfl (nI_1 (4 * pk + i)) (by decide) rfl (fun ls hl => ?_)
      refine lv_goto (tgt := 8) hx hb d_M_rateOf_54 (by decide) ?_
      subst ev_5
      exact ih_i _ _ _ ⟨i + 1, by omega, (by (try simp only [m_rateN, if_neg c_3]); exact hP), hS, lv_sub hl [0, 1, 2, 3, 4] (by (try simp only [m_rateN, if_neg c_3]); rfl)⟩
