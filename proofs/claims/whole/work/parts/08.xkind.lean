set_option maxHeartbeats 4000000 in
set_option maxRecDepth 100000 in
theorem c_K_addRow (l : Launch) (g : wG) (ad : Nat → Nat) {L : Nat} (hL : 1 ≤ L ∧ L ≤ 6) (x : xS) (pk : Nat) (hp : pk < 3) (hro : ∃ r, r ≤ 4 ∧ xY x pk 0 = nI r) (a1 a2 : Int32) : CtI l y_K_addRow ws_K_addRow ({ frames := 0, cells := 0, slots := 0, locals := 0 }) g (16 + 2 * L) ad (xE g ad L x) (xE g ad L (x_addRow x pk a1 a2).2) [.ref (ad (7 + 2 * L + 3 * pk)), .int a1, .int a2] (x_addRow x pk a1 a2).1 := by
  intro sz
  refine Met.ofW (cc := b_K_addRow) (maxL := 3) (ret := (some .boolean)) (by decide +kernel) rfl ?_
  intro p e s m args below meth c s₁ B hml hv
  obtain ⟨rfl, hsz, hP, hK, hN, hJ⟩ := hv
  have hx := B.exec
  have hb := B.bytes
  have hr := B.returns
  have hts0 := atoms_spec (ws := ws_K_addRow) B.pre
  have hts : ∀ w ∈ tb, w.before _ s = true := fun w h => hts0 w (List.mem_cons_of_mem _ h)
  have hown : s.vm.findClass "HeapSteps$Kind" = some m.cls := findClass_of_methodNamed B.named
  have hlocks := B.notSynchronized
  subst hsz
  have hS : va_S (wA (16 + 2 * L) ad s.heap.size) s.heap s.heap [] := va_S.rf
  have hl := lv_entry ([.ref (ad (7 + 2 * L + 3 * pk)), .int a1, .int a2]) (n := 3) (Nat.le_of_ble_eq_true rfl)
  rw [lg_entry_eq]
  generalize (lg_sl ([.ref (ad (7 + 2 * L + 3 * pk)), .int a1, .int a2]) ++ List.replicate (3 - (lg_sl ([.ref (ad (7 + 2 * L + 3 * pk)), .int a1, .int a2])).length) Slot.unset).toArray = ls at hl ⊢
  have hl : lv_has ls 3 [(0, .ref (ad (7 + 2 * L + 3 * pk))), (1, .int a1), (2, .int a2)] := hl
  obtain ⟨r, hr4, hre⟩ := hro
  have hrc : (xY x pk 0).toNatClampNeg = r := by rw [hre]; exact nI_clamp (by omega)
  refine lv_aload_n hx hb d_K_addRow_0 rfl (lv_at hl 0 rfl) ?_
  refine wr_get hx hb hts in_K hown hK hP (7 + 2 * L + 3 * pk) (by omega) (xE_kind g ad L x pk) rfl 2 (by decide) (hts _ tw_99) rfl d_K_addRow_1 ?_
  refine lv_iconst (v := 4) hx hb d_K_addRow_4 (by decide) ?_
  refine lv_icmp_ge (tgt := 30) hx hb d_K_addRow_5 (by decide) (fun c_1 => ?_) (fun c_1 => ?_)
  · skip
    refine lv_iconst (v := 0) hx hb d_K_addRow_30 (by decide) ?_
    exact W.zret hx hb hr rfl (fun t ht hW => ⟨⟨_, (), rfl, by (try simp only [x_addRow, if_pos c_1, hrc]); first | done | rfl, by dsimp only; rw [ht]; (try simp only [x_addRow, if_pos c_1, hrc]); exact hP⟩, hS.F ht⟩) hS.2.2 d_K_addRow_31
  · skip
    refine lv_aload_n hx hb d_K_addRow_8 rfl (lv_at hl 0 rfl) ?_
    refine wr_get hx hb hts in_K hown hK hP (7 + 2 * L + 3 * pk) (by omega) (xE_kind g ad L x pk) rfl 2 (by decide) (hts _ tw_99) rfl d_K_addRow_9 ?_
    refine lv_if_le (tgt := 32) hx hb d_K_addRow_12 (by decide) (fun c_2 => ?_) (fun c_2 => ?_)
    · skip
      have hr5 : r < 4 := by
        rcases Nat.lt_or_ge r 4 with q | q
        · exact q
        · exact absurd (by rw [hre]; exact nI_le q (by omega)) c_1
      refine lv_aload_n hx hb d_K_addRow_32 rfl (lv_at hl 0 rfl) ?_
      refine wr_get hx hb hts in_K hown hK hP (7 + 2 * L + 3 * pk) (by omega) (xE_kind g ad L x pk) rfl 0 (by decide) (hts _ tw_97) rfl d_K_addRow_33 ?_
      refine lv_aload_n hx hb d_K_addRow_36 rfl (lv_at hl 0 rfl) ?_
      refine wr_get hx hb hts in_K hown hK hP (7 + 2 * L + 3 * pk) (by omega) (xE_kind g ad L x pk) rfl 2 (by decide) (hts _ tw_99) rfl d_K_addRow_37 ?_
      rw [hre]
      refine lv_iload_n hx hb d_K_addRow_40 rfl (lv_at hl 1 rfl) ?_
      obtain ⟨x_3, ex_3⟩ : ∃ z9, z9 = xR' x pk 0 r a1 := ⟨_, rfl⟩
      have hre : xY x_3 pk 0 = nI r := by rw [ex_3]; exact hre
      refine wr_iast (E' := xE g ad L x_3) hx hb hK hP hJ hS (8 + 2 * L + 3 * pk) 1 (by omega) (xE_from g ad L x pk) rfl r rfl (by omega) (by omega) (by rw [ex_3]; exact xU_R g ad L x pk 0 r (by decide) a1) d_K_addRow_41 (fun H locs hP hS => ?_)
      refine lv_aload_n hx hb d_K_addRow_42 rfl (lv_at hl 0 rfl) ?_
      refine wr_get hx hb hts in_K hown hK hP (7 + 2 * L + 3 * pk) (by omega) (xE_kind g ad L x_3 pk) rfl 1 (by decide) (hts _ tw_98) rfl d_K_addRow_43 ?_
      refine lv_aload_n hx hb d_K_addRow_46 rfl (lv_at hl 0 rfl) ?_
      refine wr_get hx hb hts in_K hown hK hP (7 + 2 * L + 3 * pk) (by omega) (xE_kind g ad L x_3 pk) rfl 2 (by decide) (hts _ tw_99) rfl d_K_addRow_47 ?_
      rw [hre]
      refine lv_iload_n hx hb d_K_addRow_50 rfl (lv_at hl 2 rfl) ?_
      obtain ⟨x_4, ex_4⟩ : ∃ z9, z9 = xR' x_3 pk 1 r a2 := ⟨_, rfl⟩
      have hre : xY x_4 pk 0 = nI r := by rw [ex_4]; exact hre
      refine wr_iast (E' := xE g ad L x_4) hx hb hK hP hJ hS (9 + 2 * L + 3 * pk) 1 (by omega) (xE_mill g ad L x_3 pk) rfl r rfl (by omega) (by omega) (by rw [ex_4]; exact xU_R g ad L x_3 pk 1 r (by decide) a2) d_K_addRow_51 (fun H locs hP hS => ?_)
      refine lv_aload_n hx hb d_K_addRow_52 rfl (lv_at hl 0 rfl) ?_
      refine lv_dup hx hb d_K_addRow_53 rfl ?_
      refine wr_get hx hb hts in_K hown hK hP (7 + 2 * L + 3 * pk) (by omega) (xE_kind g ad L x_4 pk) rfl 2 (by decide) (hts _ tw_99) rfl d_K_addRow_54 ?_
      refine lv_iconst (v := 1) hx hb d_K_addRow_57 (by decide) ?_
      refine lv_iadd hx hb d_K_addRow_58 ?_
      obtain ⟨x_5, ex_5⟩ : ∃ z9, z9 = xY' x_4 pk 0 ((xY x_4 pk 0) + 1) := ⟨_, rfl⟩
      refine wr_put (E' := xE g ad L x_5) hx hb hts in_K ty_K ty_K_ok n_K hown hK hP hJ hS (7 + 2 * L + 3 * pk) (by omega) (xE_kind g ad L x_4 pk) rfl 2 (by decide) (hts _ tw_99) rfl rfl rfl (Nat.le_of_ble_eq_true rfl) (by rw [ex_5]; exact xU_Y g ad L x_4 pk 0 (by decide) ((xY x_4 pk 0) + 1)) d_K_addRow_59 (fun H locs hP hS => ?_)
      refine lv_iconst (v := 1) hx hb d_K_addRow_62 (by decide) ?_
      subst ex_3
      subst ex_4
      subst ex_5
      exact W.zret hx hb hr rfl (fun t ht hW => ⟨⟨_, (), rfl, by (try simp only [x_addRow, if_neg c_1, if_pos c_2, hrc]); first | done | rfl, by dsimp only; rw [ht]; (try simp only [x_addRow, if_neg c_1, if_pos c_2, hrc]); exact hP⟩, hS.F ht⟩) hS.2.2 d_K_addRow_63
    · skip
      refine lv_iload_n hx hb d_K_addRow_15 rfl (lv_at hl 1 rfl) ?_
      refine lv_aload_n hx hb d_K_addRow_16 rfl (lv_at hl 0 rfl) ?_
      refine wr_get hx hb hts in_K hown hK hP (7 + 2 * L + 3 * pk) (by omega) (xE_kind g ad L x pk) rfl 0 (by decide) (hts _ tw_97) rfl d_K_addRow_17 ?_
      refine lv_aload_n hx hb d_K_addRow_20 rfl (lv_at hl 0 rfl) ?_
      refine wr_get hx hb hts in_K hown hK hP (7 + 2 * L + 3 * pk) (by omega) (xE_kind g ad L x pk) rfl 2 (by decide) (hts _ tw_99) rfl d_K_addRow_21 ?_
      rw [hre]
      refine lv_iconst (v := 1) hx hb d_K_addRow_24 (by decide) ?_
      refine lv_isub hx hb d_K_addRow_25 ?_
      have hdec := nI_dec hr4 (by rw [← hre]; exact c_2)
      rw [hdec.1]
      have hd1 := hdec.2
      refine wr_iald hx hb hK hP (8 + 2 * L + 3 * pk) 1 (by omega) (xE_from g ad L x pk) rfl (r - 1) rfl (by omega) (by omega) d_K_addRow_26 ?_
      refine lv_icmp_gt (tgt := 32) hx hb d_K_addRow_27 (by decide) (fun c_6 => ?_) (fun c_6 => ?_)
      · skip
        have hr5 : r < 4 := by
          rcases Nat.lt_or_ge r 4 with q | q
          · exact q
          · exact absurd (by rw [hre]; exact nI_le q (by omega)) c_1
        refine lv_aload_n hx hb d_K_addRow_32 rfl (lv_at hl 0 rfl) ?_
        refine wr_get hx hb hts in_K hown hK hP (7 + 2 * L + 3 * pk) (by omega) (xE_kind g ad L x pk) rfl 0 (by decide) (hts _ tw_97) rfl d_K_addRow_33 ?_
        refine lv_aload_n hx hb d_K_addRow_36 rfl (lv_at hl 0 rfl) ?_
        refine wr_get hx hb hts in_K hown hK hP (7 + 2 * L + 3 * pk) (by omega) (xE_kind g ad L x pk) rfl 2 (by decide) (hts _ tw_99) rfl d_K_addRow_37 ?_
        rw [hre]
        refine lv_iload_n hx hb d_K_addRow_40 rfl (lv_at hl 1 rfl) ?_
        obtain ⟨x_7, ex_7⟩ : ∃ z9, z9 = xR' x pk 0 r a1 := ⟨_, rfl⟩
        have hre : xY x_7 pk 0 = nI r := by rw [ex_7]; exact hre
        refine wr_iast (E' := xE g ad L x_7) hx hb hK hP hJ hS (8 + 2 * L + 3 * pk) 1 (by omega) (xE_from g ad L x pk) rfl r rfl (by omega) (by omega) (by rw [ex_7]; exact xU_R g ad L x pk 0 r (by decide) a1) d_K_addRow_41 (fun H locs hP hS => ?_)
        refine lv_aload_n hx hb d_K_addRow_42 rfl (lv_at hl 0 rfl) ?_
        refine wr_get hx hb hts in_K hown hK hP (7 + 2 * L + 3 * pk) (by omega) (xE_kind g ad L x_7 pk) rfl 1 (by decide) (hts _ tw_98) rfl d_K_addRow_43 ?_
        refine lv_aload_n hx hb d_K_addRow_46 rfl (lv_at hl 0 rfl) ?_
        refine wr_get hx hb hts in_K hown hK hP (7 + 2 * L + 3 * pk) (by omega) (xE_kind g ad L x_7 pk) rfl 2 (by decide) (hts _ tw_99) rfl d_K_addRow_47 ?_
        rw [hre]
        refine lv_iload_n hx hb d_K_addRow_50 rfl (lv_at hl 2 rfl) ?_
        obtain ⟨x_8, ex_8⟩ : ∃ z9, z9 = xR' x_7 pk 1 r a2 := ⟨_, rfl⟩
        have hre : xY x_8 pk 0 = nI r := by rw [ex_8]; exact hre
        refine wr_iast (E' := xE g ad L x_8) hx hb hK hP hJ hS (9 + 2 * L + 3 * pk) 1 (by omega) (xE_mill g ad L x_7 pk) rfl r rfl (by omega) (by omega) (by rw [ex_8]; exact xU_R g ad L x_7 pk 1 r (by decide) a2) d_K_addRow_51 (fun H locs hP hS => ?_)
        refine lv_aload_n hx hb d_K_addRow_52 rfl (lv_at hl 0 rfl) ?_
        refine lv_dup hx hb d_K_addRow_53 rfl ?_
        refine wr_get hx hb hts in_K hown hK hP (7 + 2 * L + 3 * pk) (by omega) (xE_kind g ad L x_8 pk) rfl 2 (by decide) (hts _ tw_99) rfl d_K_addRow_54 ?_
        refine lv_iconst (v := 1) hx hb d_K_addRow_57 (by decide) ?_
        refine lv_iadd hx hb d_K_addRow_58 ?_
        obtain ⟨x_9, ex_9⟩ : ∃ z9, z9 = xY' x_8 pk 0 ((xY x_8 pk 0) + 1) := ⟨_, rfl⟩
        refine wr_put (E' := xE g ad L x_9) hx hb hts in_K ty_K ty_K_ok n_K hown hK hP hJ hS (7 + 2 * L + 3 * pk) (by omega) (xE_kind g ad L x_8 pk) rfl 2 (by decide) (hts _ tw_99) rfl rfl rfl (Nat.le_of_ble_eq_true rfl) (by rw [ex_9]; exact xU_Y g ad L x_8 pk 0 (by decide) ((xY x_8 pk 0) + 1)) d_K_addRow_59 (fun H locs hP hS => ?_)
        refine lv_iconst (v := 1) hx hb d_K_addRow_62 (by decide) ?_
        subst ex_7
        subst ex_8
        subst ex_9
        exact W.zret hx hb hr rfl (fun t ht hW => ⟨⟨_, (), rfl, by (try simp only [x_addRow, if_neg c_1, if_neg c_2, if_pos c_6, hrc]); first | done | rfl, by dsimp only; rw [ht]; (try simp only [x_addRow, if_neg c_1, if_neg c_2, if_pos c_6, hrc]); exact hP⟩, hS.F ht⟩) hS.2.2 d_K_addRow_63
      · skip
        refine lv_iconst (v := 0) hx hb d_K_addRow_30 (by decide) ?_
        exact W.zret hx hb hr rfl (fun t ht hW => ⟨⟨_, (), rfl, by (try simp only [x_addRow, if_neg c_1, if_neg c_2, if_neg c_6, hrc]); first | done | rfl, by dsimp only; rw [ht]; (try simp only [x_addRow, if_neg c_1, if_neg c_2, if_neg c_6, hrc]); exact hP⟩, hS.F ht⟩) hS.2.2 d_K_addRow_31
set_option maxHeartbeats 4000000 in
set_option maxRecDepth 100000 in
theorem c_K_millionthsAt (l : Launch) (g : wG) (ad : Nat → Nat) {L : Nat} (hL : 1 ≤ L ∧ L ≤ 6) (x : xS) (pk : Nat) (hp : pk < 3) (hro : ∃ r, r ≤ 4 ∧ xY x pk 0 = nI r) (a1 : Int64) : CtI l y_K_millionthsAt ws_K_millionthsAt ({ frames := 0, cells := 0, slots := 0, locals := 0 }) g (16 + 2 * L) ad (xE g ad L x) (xE g ad L x) [.ref (ad (7 + 2 * L + 3 * pk)), .long a1] (x_mAt x pk a1) := by
  intro sz
  refine Met.ofW (cc := b_K_millionthsAt) (maxL := 5) (ret := (some .int)) (by decide +kernel) rfl ?_
  intro p e s m args below meth c s₁ B hml hv
  obtain ⟨rfl, hsz, hP, hK, hN, hJ⟩ := hv
  have hx := B.exec
  have hb := B.bytes
  have hr := B.returns
  have hts0 := atoms_spec (ws := ws_K_millionthsAt) B.pre
  have hts : ∀ w ∈ tb, w.before _ s = true := fun w h => hts0 w (List.mem_cons_of_mem _ h)
  have hown : s.vm.findClass "HeapSteps$Kind" = some m.cls := findClass_of_methodNamed B.named
  have hlocks := B.notSynchronized
  subst hsz
  have hS : va_S (wA (16 + 2 * L) ad s.heap.size) s.heap s.heap [] := va_S.rf
  have hl := lv_entry ([.ref (ad (7 + 2 * L + 3 * pk)), .long a1]) (n := 5) (Nat.le_of_ble_eq_true rfl)
  rw [lg_entry_eq]
  generalize (lg_sl ([.ref (ad (7 + 2 * L + 3 * pk)), .long a1]) ++ List.replicate (5 - (lg_sl ([.ref (ad (7 + 2 * L + 3 * pk)), .long a1])).length) Slot.unset).toArray = ls at hl ⊢
  have hl : lv_has ls 5 [(0, .ref (ad (7 + 2 * L + 3 * pk))), (1, .long a1)] := hl
  obtain ⟨r, hr4, hre⟩ := hro
  have hrc : (xY x pk 0).toNatClampNeg = r := by rw [hre]; exact nI_clamp (by omega)
  refine lv_iconst (v := 0) hx hb d_K_millionthsAt_0 (by decide) ?_
  refine lv_istore_n (lv' := [(3, .int 0), (0, .ref (ad (7 + 2 * L + 3 * pk))), (1, .long a1)]) hx hb d_K_millionthsAt_1 rfl hl (by decide) rfl (fun ls hl => ?_)
  refine lv_iconst (v := 0) hx hb d_K_millionthsAt_2 (by decide) ?_
  refine lv_istore (lv' := [(4, .int 0), (3, .int 0), (0, .ref (ad (7 + 2 * L + 3 * pk))), (1, .long a1)]) hx hb d_K_millionthsAt_3 hl (by decide) rfl (fun ls hl => ?_)
  refine wl_loop (pc := 5) (fun fu H locs ls => ∃ i : Nat, i + fu = r ∧ va_P g.1 vwCl (wo (16 + 2 * L) ad (xE g ad L x)) H ∧ va_S (wA (16 + 2 * L) ad s.heap.size) s.heap H locs ∧ lv_has ls 5 [(4, .int (nI i)), (3, .int (x_mAtN x pk a1 i)), (1, .long a1), (0, .ref (ad (7 + 2 * L + 3 * pk)))]) ?_ ?_ r _ _ _ ⟨0, by omega, hP, hS, lv_sub hl [0, 1, 3, 2] rfl⟩
  · intro H locs ls hI
    obtain ⟨i, hi, hP, hS, hl⟩ := hI
    have hT_i : i = r := by omega
    try rw [hT_i] at hP
    try rw [hT_i] at hl
    refine lv_iload hx hb d_K_millionthsAt_5 (lv_at hl 0 rfl) ?_
    refine lv_aload_n hx hb d_K_millionthsAt_7 rfl (lv_at hl 3 rfl) ?_
    refine wr_get hx hb hts in_K hown hK hP (7 + 2 * L + 3 * pk) (by omega) (xE_kind g ad L x pk) rfl 2 (by decide) (hts _ tw_99) rfl d_K_millionthsAt_8 ?_
    rw [hre]
    refine lv_icmp_ge (tgt := 47) hx hb d_K_millionthsAt_11 (by decide) (fun c_1 => ?_) (fun c_1 => absurd (nI_le (by omega) (by omega)) c_1)
    refine lv_iload_n hx hb d_K_millionthsAt_47 rfl (lv_at hl 1 rfl) ?_
    exact W.iret hx hb hr (fun t ht hW => ⟨⟨_, (), rfl, by (try simp only [x_mAt, hrc]); first | done | rfl, by dsimp only; rw [ht]; (try simp only [x_mAt, hrc]); exact hP⟩, hS.F ht⟩) hS.2.2 d_K_millionthsAt_48
  · intro fu ih_i H locs ls hI
    obtain ⟨i, hi, hP, hS, hl⟩ := hI
    have hi_i : i < r := by omega
    refine lv_iload hx hb d_K_millionthsAt_5 (lv_at hl 0 rfl) ?_
    refine lv_aload_n hx hb d_K_millionthsAt_7 rfl (lv_at hl 3 rfl) ?_
    refine wr_get hx hb hts in_K hown hK hP (7 + 2 * L + 3 * pk) (by omega) (xE_kind g ad L x pk) rfl 2 (by decide) (hts _ tw_99) rfl d_K_millionthsAt_8 ?_
    rw [hre]
    refine lv_icmp_ge (tgt := 47) hx hb d_K_millionthsAt_11 (by decide) (fun c_2 => absurd c_2 (nI_ge hi_i (by omega))) (fun c_2 => ?_)
    refine lv_iload hx hb d_K_millionthsAt_14 (lv_at hl 0 rfl) ?_
    refine lv_iconst (v := 4) hx hb d_K_millionthsAt_16 (by decide) ?_
    refine lv_icmp_ge (tgt := 47) hx hb d_K_millionthsAt_17 (by decide) (fun c_3 => absurd c_3 (show ¬ nI 4 ≤ nI i from nI_ge (by omega) (by omega))) (fun c_3 => ?_)
    refine lv_lload_n hx hb d_K_millionthsAt_20 rfl (lv_at hl 2 rfl) ?_
    refine lv_aload_n hx hb d_K_millionthsAt_21 rfl (lv_at hl 3 rfl) ?_
    refine wr_get hx hb hts in_K hown hK hP (7 + 2 * L + 3 * pk) (by omega) (xE_kind g ad L x pk) rfl 0 (by decide) (hts _ tw_97) rfl d_K_millionthsAt_22 ?_
    refine lv_iload hx hb d_K_millionthsAt_25 (lv_at hl 0 rfl) ?_
    refine wr_iald hx hb hK hP (8 + 2 * L + 3 * pk) 1 (by omega) (xE_from g ad L x pk) rfl i rfl (by omega) (by omega) d_K_millionthsAt_27 ?_
    refine lv_i2l hx hb d_K_millionthsAt_28 rfl ?_
    refine W.lcmp hx hb d_K_millionthsAt_29 ?_
    refine lv_if_lt (tgt := 41) hx hb d_K_millionthsAt_30 (by decide) (fun c_4 => ?_) (fun c_4 => ?_)
    · skip
      refine lv_iinc (v := nI (i + 1)) (lv' := [(4, .int (nI (i + 1))), (3, .int (x_mAtN x pk a1 i)), (1, .long a1), (0, .ref (ad (7 + 2 * L + 3 * pk)))]) hx hb d_K_millionthsAt_41 hl (k := 0) rfl (nI_1 i) (by decide) rfl (fun ls hl => ?_)
      refine lv_goto (tgt := 5) hx hb d_K_millionthsAt_44 (by decide) ?_
      exact ih_i _ _ _ ⟨i + 1, by omega, (by (try simp only [x_mAtN, if_pos c_4]); exact hP), hS, lv_sub hl [0, 1, 2, 3] (by (try simp only [x_mAtN, if_pos c_4]); rfl)⟩
    · skip
      refine lv_aload_n hx hb d_K_millionthsAt_33 rfl (lv_at hl 3 rfl) ?_
      refine wr_get hx hb hts in_K hown hK hP (7 + 2 * L + 3 * pk) (by omega) (xE_kind g ad L x pk) rfl 1 (by decide) (hts _ tw_98) rfl d_K_millionthsAt_34 ?_
      refine lv_iload hx hb d_K_millionthsAt_37 (lv_at hl 0 rfl) ?_
      refine wr_iald hx hb hK hP (9 + 2 * L + 3 * pk) 1 (by omega) (xE_mill g ad L x pk) rfl i rfl (by omega) (by omega) d_K_millionthsAt_39 ?_
      refine lv_topi (fun v_5 ev_5 => ?_)
      refine lv_istore_n (lv' := [(3, .int v_5), (4, .int (nI i)), (1, .long a1), (0, .ref (ad (7 + 2 * L + 3 * pk)))]) hx hb d_K_millionthsAt_40 rfl hl (by decide) rfl (fun ls hl => ?_)
      refine lv_iinc (v := nI (i + 1)) (lv' := [(4, .int (nI (i + 1))), (3, .int v_5), (1, .long a1), (0, .ref (ad (7 + 2 * L + 3 * pk)))]) hx hb d_K_millionthsAt_41 hl (k := 1) rfl (nI_1 i) (by decide) rfl (fun ls hl => ?_)
      refine lv_goto (tgt := 5) hx hb d_K_millionthsAt_44 (by decide) ?_
      subst ev_5
      exact ih_i _ _ _ ⟨i + 1, by omega, (by (try simp only [x_mAtN, if_neg c_4]); exact hP), hS, lv_sub hl [0, 1, 2, 3] (by (try simp only [x_mAtN, if_neg c_4]); rfl)⟩
