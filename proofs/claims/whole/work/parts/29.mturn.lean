set_option maxHeartbeats 4000000 in
set_option maxRecDepth 100000 in
theorem c_M_shareOf (l : Launch) (g : wG) (ad : Nat → Nat) {L : Nat} (hL : 1 ≤ L ∧ L ≤ 6) (x : xS) (a1 : Int64) (i : Nat) : CtL l y_M_shareOf ws_M_shareOf ({ frames := 0, cells := 0, slots := 0, locals := 0 }) g 14 ad (mE g ad L x) (mE g ad L x) [.ref (ad 0), .long a1, .int (nI i)] (m_share L a1 i) := by
  intro sz
  refine Met.ofW (cc := b_M_shareOf) (maxL := 4) (ret := (some .long)) (by decide +kernel) rfl ?_
  intro p e s m args below meth c s₁ B hml hv
  obtain ⟨rfl, hsz, hP, hK, hN, hJ⟩ := hv
  have hx := B.exec
  have hb := B.bytes
  have hr := B.returns
  have hts0 := atoms_spec (ws := ws_M_shareOf) B.pre
  have hts : ∀ w ∈ tb, w.before _ s = true := fun w h => hts0 w (List.mem_cons_of_mem _ h)
  have hown : s.vm.findClass "HeapStepsModel" = some m.cls := findClass_of_methodNamed B.named
  have hlocks := B.notSynchronized
  subst hsz
  have hS : va_S (wA 14 ad s.heap.size) s.heap s.heap [] := va_S.rf
  have hl := lv_entry ([.ref (ad 0), .long a1, .int (nI i)]) (n := 4) (Nat.le_of_ble_eq_true rfl)
  rw [lg_entry_eq]
  generalize (lg_sl ([.ref (ad 0), .long a1, .int (nI i)]) ++ List.replicate (4 - (lg_sl ([.ref (ad 0), .long a1, .int (nI i)])).length) Slot.unset).toArray = ls at hl ⊢
  have hl : lv_has ls 4 [(0, .ref (ad 0)), (1, .long a1), (3, .int (nI i))] := hl
  have hne := nIL_ne0 hL
  refine lv_lload_n hx hb d_M_shareOf_0 rfl (lv_at hl 1 rfl) ?_
  refine lv_aload_n hx hb d_M_shareOf_1 rfl (lv_at hl 0 rfl) ?_
  refine wr_get hx hb hts in_M hown hK hP (0) (by omega) rfl rfl 0 (by decide) (hts _ tw_341) rfl d_M_shareOf_2 ?_
  refine lv_i2l hx hb d_M_shareOf_5 rfl ?_
  refine lv_ldiv hx hb d_M_shareOf_6 (by assumption) ?_
  refine lv_iload_n hx hb d_M_shareOf_7 rfl (lv_at hl 2 rfl) ?_
  refine lv_i2l hx hb d_M_shareOf_8 rfl ?_
  refine lv_lload_n hx hb d_M_shareOf_9 rfl (lv_at hl 1 rfl) ?_
  refine lv_aload_n hx hb d_M_shareOf_10 rfl (lv_at hl 0 rfl) ?_
  refine wr_get hx hb hts in_M hown hK hP (0) (by omega) rfl rfl 0 (by decide) (hts _ tw_341) rfl d_M_shareOf_11 ?_
  refine lv_i2l hx hb d_M_shareOf_14 rfl ?_
  refine lv_lrem hx hb d_M_shareOf_15 (by assumption) ?_
  refine W.lcmp hx hb d_M_shareOf_16 ?_
  refine lv_if_ge (tgt := 24) hx hb d_M_shareOf_17 (by decide) (fun c_1 => ?_) (fun c_1 => ?_)
  · skip
    refine lv_lconst (v := 0) hx hb d_M_shareOf_24 (by decide) ?_
    refine lv_ladd hx hb d_M_shareOf_25 ?_
    exact W.lret hx hb hr (fun t ht hW => ⟨⟨_, (), rfl, by (try simp only [m_share, if_pos c_1, ite_self]); first | done | rfl | assumption | exact x_within_1 (by assumption), by dsimp only; rw [ht]; (try simp only [m_share, if_pos c_1, ite_self]); exact hP⟩, hS.F ht⟩) hS.2.2 d_M_shareOf_26
  · skip
    refine lv_lconst (v := 1) hx hb d_M_shareOf_20 (by decide) ?_
    refine lv_goto (tgt := 25) hx hb d_M_shareOf_21 (by decide) ?_
    refine lv_ladd hx hb d_M_shareOf_25 ?_
    exact W.lret hx hb hr (fun t ht hW => ⟨⟨_, (), rfl, by (try simp only [m_share, if_neg c_1, ite_self]); first | done | rfl | assumption | exact x_within_1 (by assumption), by dsimp only; rw [ht]; (try simp only [m_share, if_neg c_1, ite_self]); exact hP⟩, hS.F ht⟩) hS.2.2 d_M_shareOf_26
set_option maxHeartbeats 4000000 in
set_option maxRecDepth 100000 in
theorem c_M_turn (l : Launch) (g : wG) (ad : Nat → Nat) {L : Nat} (hL : 1 ≤ L ∧ L ≤ 6) (x : xS) : CtI l y_M_turn ws_M_turn ({ frames := 1, cells := 0, slots := 0, locals := 23 }) g 14 ad (mE g ad L x) (mE g ad L (m_turn L x).2) [.ref (ad 0)] (m_turn L x).1 := by
  intro sz
  refine Met.ofW (cc := b_M_turn) (maxL := 6) (ret := (some .int)) (by decide +kernel) rfl ?_
  intro p e s m args below meth c s₁ B hml hv
  obtain ⟨rfl, hsz, hP, hK, hN, hJ⟩ := hv
  have hx := B.exec
  have hb := B.bytes
  have hr := B.returns
  have hts0 := atoms_spec (ws := ws_M_turn) B.pre
  have hts : ∀ w ∈ tb, w.before _ s = true := fun w h => hts0 w (List.mem_cons_of_mem _ h)
  have hown : s.vm.findClass "HeapStepsModel" = some m.cls := findClass_of_methodNamed B.named
  have hlocks := B.notSynchronized
  subst hsz
  have hS : va_S (wA 14 ad s.heap.size) s.heap s.heap [] := va_S.rf
  have hl := lv_entry ([.ref (ad 0)]) (n := 6) (Nat.le_of_ble_eq_true rfl)
  rw [lg_entry_eq]
  generalize (lg_sl ([.ref (ad 0)]) ++ List.replicate (6 - (lg_sl ([.ref (ad 0)])).length) Slot.unset).toArray = ls at hl ⊢
  have hl : lv_has ls 6 [(0, .ref (ad 0))] := hl
  refine lv_iconst (v := 0) hx hb d_M_turn_0 (by decide) ?_
  refine lv_istore_n (lv' := [(1, .int 0), (0, .ref (ad 0))]) hx hb d_M_turn_1 rfl hl (by decide) rfl (fun ls hl => ?_)
  refine lv_iload_n hx hb d_M_turn_2 rfl (lv_at hl 0 rfl) ?_
  refine lv_iconst (v := 3) hx hb d_M_turn_3 (by decide) ?_
  refine lv_icmp_ge (tgt := 83) hx hb d_M_turn_4 (by decide) (fun c_1 => absurd c_1 (by decide)) (fun c_1 => ?_)
  refine lv_lconst (v := 0) hx hb d_M_turn_7 (by decide) ?_
  refine lv_lstore_n (lv' := [(2, .long 0), (1, .int 0), (0, .ref (ad 0))]) hx hb d_M_turn_8 rfl hl (by decide) rfl (fun ls hl => ?_)
  refine lv_iconst (v := 0) hx hb d_M_turn_9 (by decide) ?_
  refine lv_istore (lv' := [(4, .int 0), (2, .long 0), (1, .int 0), (0, .ref (ad 0))]) hx hb d_M_turn_10 hl (by decide) rfl (fun ls hl => ?_)
  refine wl_loop (pc := 12) (fun fu H locs ls => ∃ i : Nat, i + fu = L ∧ va_P g.1 vwCl (wo 14 ad (mE g ad L x)) H ∧ va_S (wA 14 ad s.heap.size) s.heap H locs ∧ lv_has ls 6 [(4, .int (nI i)), (2, .long (x_inAllN x 0 i)), (1, .int 0), (0, .ref (ad 0))]) ?_ ?_ L _ _ _ ⟨0, by omega, hP, hS, lv_sub hl [0, 1, 2, 3] rfl⟩
  · intro H locs ls hI
    obtain ⟨i, hi, hP, hS, hl⟩ := hI
    have hT_i : i = L := by omega
    try rw [hT_i] at hP
    try rw [hT_i] at hl
    refine lv_iload hx hb d_M_turn_12 (lv_at hl 0 rfl) ?_
    refine lv_aload_n hx hb d_M_turn_14 rfl (lv_at hl 3 rfl) ?_
    refine wr_get hx hb hts in_M hown hK hP (0) (by omega) rfl rfl 0 (by decide) (hts _ tw_341) rfl d_M_turn_15 ?_
    refine lv_icmp_ge (tgt := 41) hx hb d_M_turn_18 (by decide) (fun c_2 => ?_) (fun c_2 => absurd (nI_le (by omega) (by omega)) c_2)
    refine lv_iconst (v := 0) hx hb d_M_turn_41 (by decide) ?_
    refine lv_istore (lv' := [(4, .int 0), (2, .long (x_inAllN x 0 L)), (1, .int 0), (0, .ref (ad 0))]) hx hb d_M_turn_42 hl (by decide) rfl (fun ls hl => ?_)
    refine wl_loop (pc := 44) (fun fu H locs ls => ∃ i : Nat, i + fu = L ∧ va_P g.1 vwCl (wo 14 ad (mE g ad L (m_shareN L x 0 (x_inAllN x 0 L) i))) H ∧ va_S (wA 14 ad s.heap.size) s.heap H locs ∧ lv_has ls 6 [(4, .int (nI i)), (2, .long (x_inAllN x 0 L)), (1, .int 0), (0, .ref (ad 0))]) ?_ ?_ L _ _ _ ⟨0, by omega, hP, hS, lv_sub hl [0, 1, 2, 3] rfl⟩
    · intro H locs ls hI
      obtain ⟨i, hi, hP, hS, hl⟩ := hI
      have hT_i : i = L := by omega
      try rw [hT_i] at hP
      try rw [hT_i] at hl
      obtain ⟨x_3, ex_3⟩ : ∃ z9, z9 = m_shareN L x 0 (x_inAllN x 0 L) L := ⟨_, rfl⟩
      rw [← ex_3] at hP
      refine lv_iload hx hb d_M_turn_44 (lv_at hl 0 rfl) ?_
      refine lv_aload_n hx hb d_M_turn_46 rfl (lv_at hl 3 rfl) ?_
      refine wr_get hx hb hts in_M hown hK hP (0) (by omega) rfl rfl 0 (by decide) (hts _ tw_341) rfl d_M_turn_47 ?_
      refine lv_icmp_ge (tgt := 77) hx hb d_M_turn_50 (by decide) (fun c_4 => ?_) (fun c_4 => absurd (nI_le (by omega) (by omega)) c_4)
      refine lv_iinc (v := 1) (lv' := [(1, .int 1), (4, .int (nI L)), (2, .long (x_inAllN x 0 L)), (0, .ref (ad 0))]) hx hb d_M_turn_77 hl (k := 2) rfl (by decide) (by decide) rfl (fun ls hl => ?_)
      refine lv_goto (tgt := 2) hx hb d_M_turn_80 (by decide) ?_
      refine lv_iload_n hx hb d_M_turn_2 rfl (lv_at hl 0 rfl) ?_
      refine lv_iconst (v := 3) hx hb d_M_turn_3 (by decide) ?_
      refine lv_icmp_ge (tgt := 83) hx hb d_M_turn_4 (by decide) (fun c_5 => absurd c_5 (by decide)) (fun c_5 => ?_)
      refine lv_lconst (v := 0) hx hb d_M_turn_7 (by decide) ?_
      refine lv_lstore_n (lv' := [(2, .long 0), (1, .int 1), (4, .int (nI L)), (0, .ref (ad 0))]) hx hb d_M_turn_8 rfl hl (by decide) rfl (fun ls hl => ?_)
      refine lv_iconst (v := 0) hx hb d_M_turn_9 (by decide) ?_
      refine lv_istore (lv' := [(4, .int 0), (2, .long 0), (1, .int 1), (0, .ref (ad 0))]) hx hb d_M_turn_10 hl (by decide) rfl (fun ls hl => ?_)
      refine wl_loop (pc := 12) (fun fu H locs ls => ∃ i : Nat, i + fu = L ∧ va_P g.1 vwCl (wo 14 ad (mE g ad L x_3)) H ∧ va_S (wA 14 ad s.heap.size) s.heap H locs ∧ lv_has ls 6 [(4, .int (nI i)), (2, .long (x_inAllN x_3 1 i)), (1, .int 1), (0, .ref (ad 0))]) ?_ ?_ L _ _ _ ⟨0, by omega, hP, hS, lv_sub hl [0, 1, 2, 3] rfl⟩
      · intro H locs ls hI
        obtain ⟨i, hi, hP, hS, hl⟩ := hI
        have hT_i : i = L := by omega
        try rw [hT_i] at hP
        try rw [hT_i] at hl
        refine lv_iload hx hb d_M_turn_12 (lv_at hl 0 rfl) ?_
        refine lv_aload_n hx hb d_M_turn_14 rfl (lv_at hl 3 rfl) ?_
        refine wr_get hx hb hts in_M hown hK hP (0) (by omega) rfl rfl 0 (by decide) (hts _ tw_341) rfl d_M_turn_15 ?_
        refine lv_icmp_ge (tgt := 41) hx hb d_M_turn_18 (by decide) (fun c_6 => ?_) (fun c_6 => absurd (nI_le (by omega) (by omega)) c_6)
        refine lv_iconst (v := 0) hx hb d_M_turn_41 (by decide) ?_
        refine lv_istore (lv' := [(4, .int 0), (2, .long (x_inAllN x_3 1 L)), (1, .int 1), (0, .ref (ad 0))]) hx hb d_M_turn_42 hl (by decide) rfl (fun ls hl => ?_)
        refine wl_loop (pc := 44) (fun fu H locs ls => ∃ i : Nat, i + fu = L ∧ va_P g.1 vwCl (wo 14 ad (mE g ad L (m_shareN L x_3 1 (x_inAllN x_3 1 L) i))) H ∧ va_S (wA 14 ad s.heap.size) s.heap H locs ∧ lv_has ls 6 [(4, .int (nI i)), (2, .long (x_inAllN x_3 1 L)), (1, .int 1), (0, .ref (ad 0))]) ?_ ?_ L _ _ _ ⟨0, by omega, hP, hS, lv_sub hl [0, 1, 2, 3] rfl⟩
        · intro H locs ls hI
          obtain ⟨i, hi, hP, hS, hl⟩ := hI
          have hT_i : i = L := by omega
          try rw [hT_i] at hP
          try rw [hT_i] at hl
          obtain ⟨x_7, ex_7⟩ : ∃ z9, z9 = m_shareN L x_3 1 (x_inAllN x_3 1 L) L := ⟨_, rfl⟩
          rw [← ex_7] at hP
          refine lv_iload hx hb d_M_turn_44 (lv_at hl 0 rfl) ?_
          refine lv_aload_n hx hb d_M_turn_46 rfl (lv_at hl 3 rfl) ?_
          refine wr_get hx hb hts in_M hown hK hP (0) (by omega) rfl rfl 0 (by decide) (hts _ tw_341) rfl d_M_turn_47 ?_
          refine lv_icmp_ge (tgt := 77) hx hb d_M_turn_50 (by decide) (fun c_8 => ?_) (fun c_8 => absurd (nI_le (by omega) (by omega)) c_8)
          refine lv_iinc (v := 2) (lv' := [(1, .int 2), (4, .int (nI L)), (2, .long (x_inAllN x_3 1 L)), (0, .ref (ad 0))]) hx hb d_M_turn_77 hl (k := 2) rfl (by decide) (by decide) rfl (fun ls hl => ?_)
          refine lv_goto (tgt := 2) hx hb d_M_turn_80 (by decide) ?_
          refine lv_iload_n hx hb d_M_turn_2 rfl (lv_at hl 0 rfl) ?_
          refine lv_iconst (v := 3) hx hb d_M_turn_3 (by decide) ?_
          refine lv_icmp_ge (tgt := 83) hx hb d_M_turn_4 (by decide) (fun c_9 => absurd c_9 (by decide)) (fun c_9 => ?_)
          refine lv_lconst (v := 0) hx hb d_M_turn_7 (by decide) ?_
          refine lv_lstore_n (lv' := [(2, .long 0), (1, .int 2), (4, .int (nI L)), (0, .ref (ad 0))]) hx hb d_M_turn_8 rfl hl (by decide) rfl (fun ls hl => ?_)
          refine lv_iconst (v := 0) hx hb d_M_turn_9 (by decide) ?_
          refine lv_istore (lv' := [(4, .int 0), (2, .long 0), (1, .int 2), (0, .ref (ad 0))]) hx hb d_M_turn_10 hl (by decide) rfl (fun ls hl => ?_)
          refine wl_loop (pc := 12) (fun fu H locs ls => ∃ i : Nat, i + fu = L ∧ va_P g.1 vwCl (wo 14 ad (mE g ad L x_7)) H ∧ va_S (wA 14 ad s.heap.size) s.heap H locs ∧ lv_has ls 6 [(4, .int (nI i)), (2, .long (x_inAllN x_7 2 i)), (1, .int 2), (0, .ref (ad 0))]) ?_ ?_ L _ _ _ ⟨0, by omega, hP, hS, lv_sub hl [0, 1, 2, 3] rfl⟩
          · intro H locs ls hI
            obtain ⟨i, hi, hP, hS, hl⟩ := hI
            have hT_i : i = L := by omega
            try rw [hT_i] at hP
            try rw [hT_i] at hl
            refine lv_iload hx hb d_M_turn_12 (lv_at hl 0 rfl) ?_
            refine lv_aload_n hx hb d_M_turn_14 rfl (lv_at hl 3 rfl) ?_
            refine wr_get hx hb hts in_M hown hK hP (0) (by omega) rfl rfl 0 (by decide) (hts _ tw_341) rfl d_M_turn_15 ?_
            refine lv_icmp_ge (tgt := 41) hx hb d_M_turn_18 (by decide) (fun c_10 => ?_) (fun c_10 => absurd (nI_le (by omega) (by omega)) c_10)
            refine lv_iconst (v := 0) hx hb d_M_turn_41 (by decide) ?_
            refine lv_istore (lv' := [(4, .int 0), (2, .long (x_inAllN x_7 2 L)), (1, .int 2), (0, .ref (ad 0))]) hx hb d_M_turn_42 hl (by decide) rfl (fun ls hl => ?_)
            refine wl_loop (pc := 44) (fun fu H locs ls => ∃ i : Nat, i + fu = L ∧ va_P g.1 vwCl (wo 14 ad (mE g ad L (m_shareN L x_7 2 (x_inAllN x_7 2 L) i))) H ∧ va_S (wA 14 ad s.heap.size) s.heap H locs ∧ lv_has ls 6 [(4, .int (nI i)), (2, .long (x_inAllN x_7 2 L)), (1, .int 2), (0, .ref (ad 0))]) ?_ ?_ L _ _ _ ⟨0, by omega, hP, hS, lv_sub hl [0, 1, 2, 3] rfl⟩
            · intro H locs ls hI
              obtain ⟨i, hi, hP, hS, hl⟩ := hI
              have hT_i : i = L := by omega
              try rw [hT_i] at hP
              try rw [hT_i] at hl
              obtain ⟨x_11, ex_11⟩ : ∃ z9, z9 = m_shareN L x_7 2 (x_inAllN x_7 2 L) L := ⟨_, rfl⟩
              rw [← ex_11] at hP
              refine lv_iload hx hb d_M_turn_44 (lv_at hl 0 rfl) ?_
              refine lv_aload_n hx hb d_M_turn_46 rfl (lv_at hl 3 rfl) ?_
              refine wr_get hx hb hts in_M hown hK hP (0) (by omega) rfl rfl 0 (by decide) (hts _ tw_341) rfl d_M_turn_47 ?_
              refine lv_icmp_ge (tgt := 77) hx hb d_M_turn_50 (by decide) (fun c_12 => ?_) (fun c_12 => absurd (nI_le (by omega) (by omega)) c_12)
              refine lv_iinc (v := 3) (lv' := [(1, .int 3), (4, .int (nI L)), (2, .long (x_inAllN x_7 2 L)), (0, .ref (ad 0))]) hx hb d_M_turn_77 hl (k := 2) rfl (by decide) (by decide) rfl (fun ls hl => ?_)
              refine lv_goto (tgt := 2) hx hb d_M_turn_80 (by decide) ?_
              refine lv_iload_n hx hb d_M_turn_2 rfl (lv_at hl 0 rfl) ?_
              refine lv_iconst (v := 3) hx hb d_M_turn_3 (by decide) ?_
              refine lv_icmp_ge (tgt := 83) hx hb d_M_turn_4 (by decide) (fun c_13 => ?_) (fun c_13 => absurd (by decide) c_13)
              refine lv_lconst (v := 0) hx hb d_M_turn_83 (by decide) ?_
              refine lv_lstore_n (lv' := [(1, .long 0), (4, .int (nI L)), (0, .ref (ad 0))]) hx hb d_M_turn_84 rfl hl (by decide) rfl (fun ls hl => ?_)
              refine lv_lconst (v := 0) hx hb d_M_turn_85 (by decide) ?_
              refine lv_lstore_n (lv' := [(3, .long 0), (1, .long 0), (0, .ref (ad 0))]) hx hb d_M_turn_86 rfl hl (by decide) rfl (fun ls hl => ?_)
              refine lv_iconst (v := 0) hx hb d_M_turn_87 (by decide) ?_
              refine lv_istore (lv' := [(5, .int 0), (3, .long 0), (1, .long 0), (0, .ref (ad 0))]) hx hb d_M_turn_88 hl (by decide) rfl (fun ls hl => ?_)
              refine wl_loop (pc := 90) (fun fu H locs ls => ∃ i : Nat, i + fu = L ∧ va_P g.1 vwCl (wo 14 ad (mE g ad L x_11)) H ∧ va_S (wA 14 ad s.heap.size) s.heap H locs ∧ lv_has ls 6 [(5, .int (nI i)), (3, .long (x_inAllN x_11 4 i)), (1, .long (x_inAllN x_11 3 i)), (0, .ref (ad 0))]) ?_ ?_ L _ _ _ ⟨0, by omega, hP, hS, lv_sub hl [0, 1, 2, 3] rfl⟩
              · intro H locs ls hI
                obtain ⟨i, hi, hP, hS, hl⟩ := hI
                have hT_i : i = L := by omega
                try rw [hT_i] at hP
                try rw [hT_i] at hl
                refine lv_iload hx hb d_M_turn_90 (lv_at hl 0 rfl) ?_
                refine lv_aload_n hx hb d_M_turn_92 rfl (lv_at hl 3 rfl) ?_
                refine wr_get hx hb hts in_M hown hK hP (0) (by omega) rfl rfl 0 (by decide) (hts _ tw_341) rfl d_M_turn_93 ?_
                refine lv_icmp_ge (tgt := 125) hx hb d_M_turn_96 (by decide) (fun c_14 => ?_) (fun c_14 => absurd (nI_le (by omega) (by omega)) c_14)
                refine lv_iconst (v := 0) hx hb d_M_turn_125 (by decide) ?_
                refine lv_istore (lv' := [(5, .int 0), (3, .long (x_inAllN x_11 4 L)), (1, .long (x_inAllN x_11 3 L)), (0, .ref (ad 0))]) hx hb d_M_turn_126 hl (by decide) rfl (fun ls hl => ?_)
                refine wl_loop (pc := 128) (fun fu H locs ls => ∃ i : Nat, i + fu = L ∧ va_P g.1 vwCl (wo 14 ad (mE g ad L (m_share2N L x_11 (x_inAllN x_11 3 L) (x_inAllN x_11 4 L) i))) H ∧ va_S (wA 14 ad s.heap.size) s.heap H locs ∧ lv_has ls 6 [(5, .int (nI i)), (3, .long (x_inAllN x_11 4 L)), (1, .long (x_inAllN x_11 3 L)), (0, .ref (ad 0))]) ?_ ?_ L _ _ _ ⟨0, by omega, hP, hS, lv_sub hl [0, 1, 2, 3] rfl⟩
                · intro H locs ls hI
                  obtain ⟨i, hi, hP, hS, hl⟩ := hI
                  have hT_i : i = L := by omega
                  try rw [hT_i] at hP
                  try rw [hT_i] at hl
                  obtain ⟨x_15, ex_15⟩ : ∃ z9, z9 = m_share2N L x_11 (x_inAllN x_11 3 L) (x_inAllN x_11 4 L) L := ⟨_, rfl⟩
                  rw [← ex_15] at hP
                  refine lv_iload hx hb d_M_turn_128 (lv_at hl 0 rfl) ?_
                  refine lv_aload_n hx hb d_M_turn_130 rfl (lv_at hl 3 rfl) ?_
                  refine wr_get hx hb hts in_M hown hK hP (0) (by omega) rfl rfl 0 (by decide) (hts _ tw_341) rfl d_M_turn_131 ?_
                  refine lv_icmp_ge (tgt := 171) hx hb d_M_turn_134 (by decide) (fun c_16 => ?_) (fun c_16 => absurd (nI_le (by omega) (by omega)) c_16)
                  refine lv_aload_n hx hb d_M_turn_171 rfl (lv_at hl 3 rfl) ?_
                  refine lv_dup hx hb d_M_turn_172 rfl ?_
                  refine wr_get hx hb hts in_M hown hK hP (0) (by omega) rfl rfl 20 (by decide) (hts _ tw_361) rfl d_M_turn_173 ?_
                  refine lv_iconst (v := 1) hx hb d_M_turn_176 (by decide) ?_
                  refine lv_iadd hx hb d_M_turn_177 ?_
                  obtain ⟨x_17, ex_17⟩ : ∃ z9, z9 = xI' x_15 3 ((xI x_15 3) + 1) := ⟨_, rfl⟩
                  refine wr_put (E' := mE g ad L x_17) hx hb hts in_M ty_M ty_M_ok n_M hown hK hP hJ hS (0) (by omega) rfl rfl 20 (by decide) (hts _ tw_361) rfl rfl rfl (Nat.le_of_ble_eq_true rfl) (by rw [ex_17]; exact mU_turns g ad L x_15 ((xI x_15 3) + 1)) d_M_turn_178 (fun H locs hP hS => ?_)
                  refine lv_aload_n hx hb d_M_turn_181 rfl (lv_at hl 3 rfl) ?_
                  refine wr_get hx hb hts in_M hown hK hP (0) (by omega) rfl rfl 20 (by decide) (hts _ tw_361) rfl d_M_turn_182 ?_
                  subst ex_3
                  subst ex_7
                  subst ex_11
                  subst ex_15
                  subst ex_17
                  exact W.iret hx hb hr (fun t ht hW => ⟨⟨_, (), rfl, by (try simp only [m_turn, ite_self]); first | done | rfl | assumption | exact x_within_1 (by assumption), by dsimp only; rw [ht]; (try simp only [m_turn, ite_self]); exact hP⟩, hS.F ht⟩) hS.2.2 d_M_turn_185
                · intro fu ih_i H locs ls hI
                  obtain ⟨i, hi, hP, hS, hl⟩ := hI
                  have hi_i : i < L := by omega
                  obtain ⟨x_18, ex_18⟩ : ∃ z9, z9 = m_share2N L x_11 (x_inAllN x_11 3 L) (x_inAllN x_11 4 L) i := ⟨_, rfl⟩
                  rw [← ex_18] at hP
                  refine lv_iload hx hb d_M_turn_128 (lv_at hl 0 rfl) ?_
                  refine lv_aload_n hx hb d_M_turn_130 rfl (lv_at hl 3 rfl) ?_
                  refine wr_get hx hb hts in_M hown hK hP (0) (by omega) rfl rfl 0 (by decide) (hts _ tw_341) rfl d_M_turn_131 ?_
                  refine lv_icmp_ge (tgt := 171) hx hb d_M_turn_134 (by decide) (fun c_19 => absurd c_19 (nI_ge hi_i (by omega))) (fun c_19 => ?_)
                  refine lv_aload_n hx hb d_M_turn_137 rfl (lv_at hl 3 rfl) ?_
                  refine wr_get hx hb hts in_M hown hK hP (0) (by omega) rfl rfl 2 (by decide) (hts _ tw_343) rfl d_M_turn_138 ?_
                  refine lv_iload hx hb d_M_turn_141 (lv_at hl 0 rfl) ?_
                  refine lv_aload_n hx hb d_M_turn_143 rfl (lv_at hl 3 rfl) ?_
                  refine lv_lload_n hx hb d_M_turn_144 rfl (lv_at hl 2 rfl) ?_
                  refine lv_iload hx hb d_M_turn_145 (lv_at hl 0 rfl) ?_
                  refine wc_l (va_runV (As := [.long (x_inAllN x_11 3 L), .int (nI i)]) (rest := [.int (nI i), .ref (ad 2)]) ⟨hx, hb, hml, hown, hts⟩ (c_M_shareOf l g ad hL x_18 (x_inAllN x_11 3 L) i _) (cwV 2 hts (gd_V tw_535 tw_537 tw_21 tw_28 tw_538) rfl rfl rfl (by decide +kernel) ⟨Nat.le_of_ble_eq_true rfl, Nat.le_of_ble_eq_true rfl⟩) (wp_V hK hN hP hJ (0) (by omega) rfl rfl) rfl rfl hl.1 rfl (lv_room (Nat.le_of_ble_eq_true rfl)) d_M_turn_147 ⟨Nat.zero_le _, Nat.zero_le _⟩) hS (fun H locs hP hS => ?_)
                  obtain ⟨x_20, ex_20⟩ : ∃ z9, z9 = xT' x_18 i 3 (m_share L (x_inAllN x_11 3 L) i) := ⟨_, rfl⟩
                  refine wr_last (E' := mE g ad L x_20) hx hb hK hP hJ hS (2) 0 (by omega) rfl rfl i rfl (by omega) (by omega) (by rw [ex_20]; exact mU_WA g ad L x_18 i (m_share L (x_inAllN x_11 3 L) i)) d_M_turn_150 (fun H locs hP hS => ?_)
                  refine lv_aload_n hx hb d_M_turn_151 rfl (lv_at hl 3 rfl) ?_
                  refine wr_get hx hb hts in_M hown hK hP (0) (by omega) rfl rfl 3 (by decide) (hts _ tw_344) rfl d_M_turn_152 ?_
                  refine lv_iload hx hb d_M_turn_155 (lv_at hl 0 rfl) ?_
                  refine lv_aload_n hx hb d_M_turn_157 rfl (lv_at hl 3 rfl) ?_
                  refine lv_lload_n hx hb d_M_turn_158 rfl (lv_at hl 1 rfl) ?_
                  refine lv_iload hx hb d_M_turn_159 (lv_at hl 0 rfl) ?_
                  refine wc_l (va_runV (As := [.long (x_inAllN x_11 4 L), .int (nI i)]) (rest := [.int (nI i), .ref (ad 3)]) ⟨hx, hb, hml, hown, hts⟩ (c_M_shareOf l g ad hL x_20 (x_inAllN x_11 4 L) i _) (cwV 2 hts (gd_V tw_535 tw_537 tw_21 tw_28 tw_538) rfl rfl rfl (by decide +kernel) ⟨Nat.le_of_ble_eq_true rfl, Nat.le_of_ble_eq_true rfl⟩) (wp_V hK hN hP hJ (0) (by omega) rfl rfl) rfl rfl hl.1 rfl (lv_room (Nat.le_of_ble_eq_true rfl)) d_M_turn_161 ⟨Nat.zero_le _, Nat.zero_le _⟩) hS (fun H locs hP hS => ?_)
                  obtain ⟨x_21, ex_21⟩ : ∃ z9, z9 = xT' x_20 i 4 (m_share L (x_inAllN x_11 4 L) i) := ⟨_, rfl⟩
                  refine wr_last (E' := mE g ad L x_21) hx hb hK hP hJ hS (3) 0 (by omega) rfl rfl i rfl (by omega) (by omega) (by rw [ex_21]; exact mU_HE g ad L x_20 i (m_share L (x_inAllN x_11 4 L) i)) d_M_turn_164 (fun H locs hP hS => ?_)
                  refine lv_iinc (v := nI (i + 1)) (lv' := [(5, .int (nI (i + 1))), (3, .long (x_inAllN x_11 4 L)), (1, .long (x_inAllN x_11 3 L)), (0, .ref (ad 0))]) hx hb d_M_turn_165 hl (k := 0) rfl (nI_1 i) (by decide) rfl (fun ls hl => ?_)
                  refine lv_goto (tgt := 128) hx hb d_M_turn_168 (by decide) ?_
                  subst ex_18
                  subst ex_20
                  subst ex_21
                  exact ih_i _ _ _ ⟨i + 1, by omega, (by skip; exact hP), hS, lv_sub hl [0, 1, 2, 3] (by skip; rfl)⟩
              · intro fu ih_i H locs ls hI
                obtain ⟨i, hi, hP, hS, hl⟩ := hI
                have hi_i : i < L := by omega
                refine lv_iload hx hb d_M_turn_90 (lv_at hl 0 rfl) ?_
                refine lv_aload_n hx hb d_M_turn_92 rfl (lv_at hl 3 rfl) ?_
                refine wr_get hx hb hts in_M hown hK hP (0) (by omega) rfl rfl 0 (by decide) (hts _ tw_341) rfl d_M_turn_93 ?_
                refine lv_icmp_ge (tgt := 125) hx hb d_M_turn_96 (by decide) (fun c_22 => absurd c_22 (nI_ge hi_i (by omega))) (fun c_22 => ?_)
                refine lv_lload_n hx hb d_M_turn_99 rfl (lv_at hl 2 rfl) ?_
                refine lv_aload_n hx hb d_M_turn_100 rfl (lv_at hl 3 rfl) ?_
                refine wr_get hx hb hts in_M hown hK hP (0) (by omega) rfl rfl 2 (by decide) (hts _ tw_343) rfl d_M_turn_101 ?_
                refine lv_iload hx hb d_M_turn_104 (lv_at hl 0 rfl) ?_
                refine wr_laldv (v := xT x_11 i 3) hx hb hK hP (2) 0 (by omega) rfl rfl i rfl (by omega) (by omega) rfl d_M_turn_106 ?_
                refine lv_ladd hx hb d_M_turn_107 ?_
                refine lv_topl (fun v_23 ev_23 => ?_)
                refine lv_lstore_n (lv' := [(1, .long v_23), (5, .int (nI i)), (3, .long (x_inAllN x_11 4 i)), (0, .ref (ad 0))]) hx hb d_M_turn_108 rfl hl (by decide) rfl (fun ls hl => ?_)
                refine lv_lload_n hx hb d_M_turn_109 rfl (lv_at hl 2 rfl) ?_
                refine lv_aload_n hx hb d_M_turn_110 rfl (lv_at hl 3 rfl) ?_
                refine wr_get hx hb hts in_M hown hK hP (0) (by omega) rfl rfl 3 (by decide) (hts _ tw_344) rfl d_M_turn_111 ?_
                refine lv_iload hx hb d_M_turn_114 (lv_at hl 1 rfl) ?_
                refine wr_laldv (v := xT x_11 i 4) hx hb hK hP (3) 0 (by omega) rfl rfl i rfl (by omega) (by omega) rfl d_M_turn_116 ?_
                refine lv_ladd hx hb d_M_turn_117 ?_
                refine lv_topl (fun v_24 ev_24 => ?_)
                refine lv_lstore_n (lv' := [(3, .long v_24), (1, .long v_23), (5, .int (nI i)), (0, .ref (ad 0))]) hx hb d_M_turn_118 rfl hl (by decide) rfl (fun ls hl => ?_)
                refine lv_iinc (v := nI (i + 1)) (lv' := [(5, .int (nI (i + 1))), (3, .long v_24), (1, .long v_23), (0, .ref (ad 0))]) hx hb d_M_turn_119 hl (k := 2) rfl (nI_1 i) (by decide) rfl (fun ls hl => ?_)
                refine lv_goto (tgt := 90) hx hb d_M_turn_122 (by decide) ?_
                subst ev_23
                subst ev_24
                exact ih_i _ _ _ ⟨i + 1, by omega, (by skip; exact hP), hS, lv_sub hl [0, 1, 2, 3] (by skip; rfl)⟩
            · intro fu ih_i H locs ls hI
              obtain ⟨i, hi, hP, hS, hl⟩ := hI
              have hi_i : i < L := by omega
              obtain ⟨x_25, ex_25⟩ : ∃ z9, z9 = m_shareN L x_7 2 (x_inAllN x_7 2 L) i := ⟨_, rfl⟩
              rw [← ex_25] at hP
              refine lv_iload hx hb d_M_turn_44 (lv_at hl 0 rfl) ?_
              refine lv_aload_n hx hb d_M_turn_46 rfl (lv_at hl 3 rfl) ?_
              refine wr_get hx hb hts in_M hown hK hP (0) (by omega) rfl rfl 0 (by decide) (hts _ tw_341) rfl d_M_turn_47 ?_
              refine lv_icmp_ge (tgt := 77) hx hb d_M_turn_50 (by decide) (fun c_26 => absurd c_26 (nI_ge hi_i (by omega))) (fun c_26 => ?_)
              refine lv_aload_n hx hb d_M_turn_53 rfl (lv_at hl 3 rfl) ?_
              refine wr_get hx hb hts in_M hown hK hP (0) (by omega) rfl rfl 1 (by decide) (hts _ tw_342) rfl d_M_turn_54 ?_
              refine lv_iconst (v := 3) hx hb d_M_turn_57 (by decide) ?_
              refine lv_iload hx hb d_M_turn_58 (lv_at hl 0 rfl) ?_
              refine lv_imul hx hb d_M_turn_60 ?_
              refine lv_iload_n hx hb d_M_turn_61 rfl (lv_at hl 2 rfl) ?_
              refine lv_iadd hx hb d_M_turn_62 ?_
              refine lv_aload_n hx hb d_M_turn_63 rfl (lv_at hl 3 rfl) ?_
              refine lv_lload_n hx hb d_M_turn_64 rfl (lv_at hl 1 rfl) ?_
              refine lv_iload hx hb d_M_turn_65 (lv_at hl 0 rfl) ?_
              refine wc_l (va_runV (As := [.long (x_inAllN x_7 2 L), .int (nI i)]) (rest := [.int ((3 * (nI i)) + 2), .ref (ad 1)]) ⟨hx, hb, hml, hown, hts⟩ (c_M_shareOf l g ad hL x_25 (x_inAllN x_7 2 L) i _) (cwV 2 hts (gd_V tw_535 tw_537 tw_21 tw_28 tw_538) rfl rfl rfl (by decide +kernel) ⟨Nat.le_of_ble_eq_true rfl, Nat.le_of_ble_eq_true rfl⟩) (wp_V hK hN hP hJ (0) (by omega) rfl rfl) rfl rfl hl.1 rfl (lv_room (Nat.le_of_ble_eq_true rfl)) d_M_turn_67 ⟨Nat.zero_le _, Nat.zero_le _⟩) hS (fun H locs hP hS => ?_)
              obtain ⟨x_27, ex_27⟩ : ∃ z9, z9 = xT' x_25 i 2 (m_share L (x_inAllN x_7 2 L) i) := ⟨_, rfl⟩
              refine wr_last (E' := mE g ad L x_27) hx hb hK hP hJ hS (1) 0 (by omega) rfl rfl (3 * i + 2) (mI3 i 2) (by omega) (by omega) (by rw [ex_27]; exact mU_PA g ad L x_25 (i := i) (p := 2) (by omega) (m_share L (x_inAllN x_7 2 L) i)) d_M_turn_70 (fun H locs hP hS => ?_)
              refine lv_iinc (v := nI (i + 1)) (lv' := [(4, .int (nI (i + 1))), (2, .long (x_inAllN x_7 2 L)), (1, .int 2), (0, .ref (ad 0))]) hx hb d_M_turn_71 hl (k := 0) rfl (nI_1 i) (by decide) rfl (fun ls hl => ?_)
              refine lv_goto (tgt := 44) hx hb d_M_turn_74 (by decide) ?_
              subst ex_25
              subst ex_27
              exact ih_i _ _ _ ⟨i + 1, by omega, (by skip; exact hP), hS, lv_sub hl [0, 1, 2, 3] (by skip; rfl)⟩
          · intro fu ih_i H locs ls hI
            obtain ⟨i, hi, hP, hS, hl⟩ := hI
            have hi_i : i < L := by omega
            refine lv_iload hx hb d_M_turn_12 (lv_at hl 0 rfl) ?_
            refine lv_aload_n hx hb d_M_turn_14 rfl (lv_at hl 3 rfl) ?_
            refine wr_get hx hb hts in_M hown hK hP (0) (by omega) rfl rfl 0 (by decide) (hts _ tw_341) rfl d_M_turn_15 ?_
            refine lv_icmp_ge (tgt := 41) hx hb d_M_turn_18 (by decide) (fun c_28 => absurd c_28 (nI_ge hi_i (by omega))) (fun c_28 => ?_)
            refine lv_lload_n hx hb d_M_turn_21 rfl (lv_at hl 1 rfl) ?_
            refine lv_aload_n hx hb d_M_turn_22 rfl (lv_at hl 3 rfl) ?_
            refine wr_get hx hb hts in_M hown hK hP (0) (by omega) rfl rfl 1 (by decide) (hts _ tw_342) rfl d_M_turn_23 ?_
            refine lv_iconst (v := 3) hx hb d_M_turn_26 (by decide) ?_
            refine lv_iload hx hb d_M_turn_27 (lv_at hl 0 rfl) ?_
            refine lv_imul hx hb d_M_turn_29 ?_
            refine lv_iload_n hx hb d_M_turn_30 rfl (lv_at hl 2 rfl) ?_
            refine lv_iadd hx hb d_M_turn_31 ?_
            refine wr_laldv (v := xT x_7 i 2) hx hb hK hP (1) 0 (by omega) rfl rfl (3 * i + 2) (mI3 i 2) (by omega) (by omega) (mPA x_7 i 2 (by omega)) d_M_turn_32 ?_
            refine lv_ladd hx hb d_M_turn_33 ?_
            refine lv_topl (fun v_29 ev_29 => ?_)
            refine lv_lstore_n (lv' := [(2, .long v_29), (4, .int (nI i)), (1, .int 2), (0, .ref (ad 0))]) hx hb d_M_turn_34 rfl hl (by decide) rfl (fun ls hl => ?_)
            refine lv_iinc (v := nI (i + 1)) (lv' := [(4, .int (nI (i + 1))), (2, .long v_29), (1, .int 2), (0, .ref (ad 0))]) hx hb d_M_turn_35 hl (k := 1) rfl (nI_1 i) (by decide) rfl (fun ls hl => ?_)
            refine lv_goto (tgt := 12) hx hb d_M_turn_38 (by decide) ?_
            subst ev_29
            exact ih_i _ _ _ ⟨i + 1, by omega, (by skip; exact hP), hS, lv_sub hl [0, 1, 2, 3] (by skip; rfl)⟩
        · intro fu ih_i H locs ls hI
          obtain ⟨i, hi, hP, hS, hl⟩ := hI
          have hi_i : i < L := by omega
          obtain ⟨x_30, ex_30⟩ : ∃ z9, z9 = m_shareN L x_3 1 (x_inAllN x_3 1 L) i := ⟨_, rfl⟩
          rw [← ex_30] at hP
          refine lv_iload hx hb d_M_turn_44 (lv_at hl 0 rfl) ?_
          refine lv_aload_n hx hb d_M_turn_46 rfl (lv_at hl 3 rfl) ?_
          refine wr_get hx hb hts in_M hown hK hP (0) (by omega) rfl rfl 0 (by decide) (hts _ tw_341) rfl d_M_turn_47 ?_
          refine lv_icmp_ge (tgt := 77) hx hb d_M_turn_50 (by decide) (fun c_31 => absurd c_31 (nI_ge hi_i (by omega))) (fun c_31 => ?_)
          refine lv_aload_n hx hb d_M_turn_53 rfl (lv_at hl 3 rfl) ?_
          refine wr_get hx hb hts in_M hown hK hP (0) (by omega) rfl rfl 1 (by decide) (hts _ tw_342) rfl d_M_turn_54 ?_
          refine lv_iconst (v := 3) hx hb d_M_turn_57 (by decide) ?_
          refine lv_iload hx hb d_M_turn_58 (lv_at hl 0 rfl) ?_
          refine lv_imul hx hb d_M_turn_60 ?_
          refine lv_iload_n hx hb d_M_turn_61 rfl (lv_at hl 2 rfl) ?_
          refine lv_iadd hx hb d_M_turn_62 ?_
          refine lv_aload_n hx hb d_M_turn_63 rfl (lv_at hl 3 rfl) ?_
          refine lv_lload_n hx hb d_M_turn_64 rfl (lv_at hl 1 rfl) ?_
          refine lv_iload hx hb d_M_turn_65 (lv_at hl 0 rfl) ?_
          refine wc_l (va_runV (As := [.long (x_inAllN x_3 1 L), .int (nI i)]) (rest := [.int ((3 * (nI i)) + 1), .ref (ad 1)]) ⟨hx, hb, hml, hown, hts⟩ (c_M_shareOf l g ad hL x_30 (x_inAllN x_3 1 L) i _) (cwV 2 hts (gd_V tw_535 tw_537 tw_21 tw_28 tw_538) rfl rfl rfl (by decide +kernel) ⟨Nat.le_of_ble_eq_true rfl, Nat.le_of_ble_eq_true rfl⟩) (wp_V hK hN hP hJ (0) (by omega) rfl rfl) rfl rfl hl.1 rfl (lv_room (Nat.le_of_ble_eq_true rfl)) d_M_turn_67 ⟨Nat.zero_le _, Nat.zero_le _⟩) hS (fun H locs hP hS => ?_)
          obtain ⟨x_32, ex_32⟩ : ∃ z9, z9 = xT' x_30 i 1 (m_share L (x_inAllN x_3 1 L) i) := ⟨_, rfl⟩
          refine wr_last (E' := mE g ad L x_32) hx hb hK hP hJ hS (1) 0 (by omega) rfl rfl (3 * i + 1) (mI3 i 1) (by omega) (by omega) (by rw [ex_32]; exact mU_PA g ad L x_30 (i := i) (p := 1) (by omega) (m_share L (x_inAllN x_3 1 L) i)) d_M_turn_70 (fun H locs hP hS => ?_)
          refine lv_iinc (v := nI (i + 1)) (lv' := [(4, .int (nI (i + 1))), (2, .long (x_inAllN x_3 1 L)), (1, .int 1), (0, .ref (ad 0))]) hx hb d_M_turn_71 hl (k := 0) rfl (nI_1 i) (by decide) rfl (fun ls hl => ?_)
          refine lv_goto (tgt := 44) hx hb d_M_turn_74 (by decide) ?_
          subst ex_30
          subst ex_32
          exact ih_i _ _ _ ⟨i + 1, by omega, (by skip; exact hP), hS, lv_sub hl [0, 1, 2, 3] (by skip; rfl)⟩
      · intro fu ih_i H locs ls hI
        obtain ⟨i, hi, hP, hS, hl⟩ := hI
        have hi_i : i < L := by omega
        refine lv_iload hx hb d_M_turn_12 (lv_at hl 0 rfl) ?_
        refine lv_aload_n hx hb d_M_turn_14 rfl (lv_at hl 3 rfl) ?_
        refine wr_get hx hb hts in_M hown hK hP (0) (by omega) rfl rfl 0 (by decide) (hts _ tw_341) rfl d_M_turn_15 ?_
        refine lv_icmp_ge (tgt := 41) hx hb d_M_turn_18 (by decide) (fun c_33 => absurd c_33 (nI_ge hi_i (by omega))) (fun c_33 => ?_)
        refine lv_lload_n hx hb d_M_turn_21 rfl (lv_at hl 1 rfl) ?_
        refine lv_aload_n hx hb d_M_turn_22 rfl (lv_at hl 3 rfl) ?_
        refine wr_get hx hb hts in_M hown hK hP (0) (by omega) rfl rfl 1 (by decide) (hts _ tw_342) rfl d_M_turn_23 ?_
        refine lv_iconst (v := 3) hx hb d_M_turn_26 (by decide) ?_
        refine lv_iload hx hb d_M_turn_27 (lv_at hl 0 rfl) ?_
        refine lv_imul hx hb d_M_turn_29 ?_
        refine lv_iload_n hx hb d_M_turn_30 rfl (lv_at hl 2 rfl) ?_
        refine lv_iadd hx hb d_M_turn_31 ?_
        refine wr_laldv (v := xT x_3 i 1) hx hb hK hP (1) 0 (by omega) rfl rfl (3 * i + 1) (mI3 i 1) (by omega) (by omega) (mPA x_3 i 1 (by omega)) d_M_turn_32 ?_
        refine lv_ladd hx hb d_M_turn_33 ?_
        refine lv_topl (fun v_34 ev_34 => ?_)
        refine lv_lstore_n (lv' := [(2, .long v_34), (4, .int (nI i)), (1, .int 1), (0, .ref (ad 0))]) hx hb d_M_turn_34 rfl hl (by decide) rfl (fun ls hl => ?_)
        refine lv_iinc (v := nI (i + 1)) (lv' := [(4, .int (nI (i + 1))), (2, .long v_34), (1, .int 1), (0, .ref (ad 0))]) hx hb d_M_turn_35 hl (k := 1) rfl (nI_1 i) (by decide) rfl (fun ls hl => ?_)
        refine lv_goto (tgt := 12) hx hb d_M_turn_38 (by decide) ?_
        subst ev_34
        exact ih_i _ _ _ ⟨i + 1, by omega, (by skip; exact hP), hS, lv_sub hl [0, 1, 2, 3] (by skip; rfl)⟩
    · intro fu ih_i H locs ls hI
      obtain ⟨i, hi, hP, hS, hl⟩ := hI
      have hi_i : i < L := by omega
      obtain ⟨x_35, ex_35⟩ : ∃ z9, z9 = m_shareN L x 0 (x_inAllN x 0 L) i := ⟨_, rfl⟩
      rw [← ex_35] at hP
      refine lv_iload hx hb d_M_turn_44 (lv_at hl 0 rfl) ?_
      refine lv_aload_n hx hb d_M_turn_46 rfl (lv_at hl 3 rfl) ?_
      refine wr_get hx hb hts in_M hown hK hP (0) (by omega) rfl rfl 0 (by decide) (hts _ tw_341) rfl d_M_turn_47 ?_
      refine lv_icmp_ge (tgt := 77) hx hb d_M_turn_50 (by decide) (fun c_36 => absurd c_36 (nI_ge hi_i (by omega))) (fun c_36 => ?_)
      refine lv_aload_n hx hb d_M_turn_53 rfl (lv_at hl 3 rfl) ?_
      refine wr_get hx hb hts in_M hown hK hP (0) (by omega) rfl rfl 1 (by decide) (hts _ tw_342) rfl d_M_turn_54 ?_
      refine lv_iconst (v := 3) hx hb d_M_turn_57 (by decide) ?_
      refine lv_iload hx hb d_M_turn_58 (lv_at hl 0 rfl) ?_
      refine lv_imul hx hb d_M_turn_60 ?_
      refine lv_iload_n hx hb d_M_turn_61 rfl (lv_at hl 2 rfl) ?_
      refine lv_iadd hx hb d_M_turn_62 ?_
      refine lv_aload_n hx hb d_M_turn_63 rfl (lv_at hl 3 rfl) ?_
      refine lv_lload_n hx hb d_M_turn_64 rfl (lv_at hl 1 rfl) ?_
      refine lv_iload hx hb d_M_turn_65 (lv_at hl 0 rfl) ?_
      refine wc_l (va_runV (As := [.long (x_inAllN x 0 L), .int (nI i)]) (rest := [.int ((3 * (nI i)) + 0), .ref (ad 1)]) ⟨hx, hb, hml, hown, hts⟩ (c_M_shareOf l g ad hL x_35 (x_inAllN x 0 L) i _) (cwV 2 hts (gd_V tw_535 tw_537 tw_21 tw_28 tw_538) rfl rfl rfl (by decide +kernel) ⟨Nat.le_of_ble_eq_true rfl, Nat.le_of_ble_eq_true rfl⟩) (wp_V hK hN hP hJ (0) (by omega) rfl rfl) rfl rfl hl.1 rfl (lv_room (Nat.le_of_ble_eq_true rfl)) d_M_turn_67 ⟨Nat.zero_le _, Nat.zero_le _⟩) hS (fun H locs hP hS => ?_)
      obtain ⟨x_37, ex_37⟩ : ∃ z9, z9 = xT' x_35 i 0 (m_share L (x_inAllN x 0 L) i) := ⟨_, rfl⟩
      refine wr_last (E' := mE g ad L x_37) hx hb hK hP hJ hS (1) 0 (by omega) rfl rfl (3 * i + 0) (mI3 i 0) (by omega) (by omega) (by rw [ex_37]; exact mU_PA g ad L x_35 (i := i) (p := 0) (by omega) (m_share L (x_inAllN x 0 L) i)) d_M_turn_70 (fun H locs hP hS => ?_)
      refine lv_iinc (v := nI (i + 1)) (lv' := [(4, .int (nI (i + 1))), (2, .long (x_inAllN x 0 L)), (1, .int 0), (0, .ref (ad 0))]) hx hb d_M_turn_71 hl (k := 0) rfl (nI_1 i) (by decide) rfl (fun ls hl => ?_)
      refine lv_goto (tgt := 44) hx hb d_M_turn_74 (by decide) ?_
      subst ex_35
      subst ex_37
      exact ih_i _ _ _ ⟨i + 1, by omega, (by skip; exact hP), hS, lv_sub hl [0, 1, 2, 3] (by skip; rfl)⟩
  · intro fu ih_i H locs ls hI
    obtain ⟨i, hi, hP, hS, hl⟩ := hI
    have hi_i : i < L := by omega
    refine lv_iload hx hb d_M_turn_12 (lv_at hl 0 rfl) ?_
    refine lv_aload_n hx hb d_M_turn_14 rfl (lv_at hl 3 rfl) ?_
    refine wr_get hx hb hts in_M hown hK hP (0) (by omega) rfl rfl 0 (by decide) (hts _ tw_341) rfl d_M_turn_15 ?_
    refine lv_icmp_ge (tgt := 41) hx hb d_M_turn_18 (by decide) (fun c_38 => absurd c_38 (nI_ge hi_i (by omega))) (fun c_38 => ?_)
    refine lv_lload_n hx hb d_M_turn_21 rfl (lv_at hl 1 rfl) ?_
    refine lv_aload_n hx hb d_M_turn_22 rfl (lv_at hl 3 rfl) ?_
    refine wr_get hx hb hts in_M hown hK hP (0) (by omega) rfl rfl 1 (by decide) (hts _ tw_342) rfl d_M_turn_23 ?_
    refine lv_iconst (v := 3) hx hb d_M_turn_26 (by decide) ?_
    refine lv_iload hx hb d_M_turn_27 (lv_at hl 0 rfl) ?_
    refine lv_imul hx hb d_M_turn_29 ?_
    refine lv_iload_n hx hb d_M_turn_30 rfl (lv_at hl 2 rfl) ?_
    refine lv_iadd hx hb d_M_turn_31 ?_
    refine wr_laldv (v := xT x i 0) hx hb hK hP (1) 0 (by omega) rfl rfl (3 * i + 0) (mI3 i 0) (by omega) (by omega) (mPA x i 0 (by omega)) d_M_turn_32 ?_
    refine lv_ladd hx hb d_M_turn_33 ?_
    refine lv_topl (fun v_39 ev_39 => ?_)
    refine lv_lstore_n (lv' := [(2, .long v_39), (4, .int (nI i)), (1, .int 0), (0, .ref (ad 0))]) hx hb d_M_turn_34 rfl hl (by decide) rfl (fun ls hl => ?_)
    refine lv_iinc (v := nI (i + 1)) (lv' := [(4, .int (nI (i + 1))), (2, .long v_39), (1, .int 0), (0, .ref (ad 0))]) hx hb d_M_turn_35 hl (k := 1) rfl (nI_1 i) (by decide) rfl (fun ls hl => ?_)
    refine lv_goto (tgt := 12) hx hb d_M_turn_38 (by decide) ?_
    subst ev_39
    exact ih_i _ _ _ ⟨i + 1, by omega, (by skip; exact hP), hS, lv_sub hl [0, 1, 2, 3] (by skip; rfl)⟩
set_option maxHeartbeats 4000000 in
set_option maxRecDepth 100000 in
theorem c_M_batch (l : Launch) (g : wG) (ad : Nat → Nat) {L : Nat} (hL : 1 ≤ L ∧ L ≤ 6) (x : xS) : CtL l y_M_batch ws_M_batch ({ frames := 2, cells := 0, slots := 0, locals := 48 }) g 14 ad (mE g ad L x) (mE g ad L (m_batch L x).2) [.ref (ad 0)] (m_batch L x).1 := by
  intro sz
  refine Met.ofW (cc := b_M_batch) (maxL := 5) (ret := (some .long)) (by decide +kernel) rfl ?_
  intro p e s m args below meth c s₁ B hml hv
  obtain ⟨rfl, hsz, hP, hK, hN, hJ⟩ := hv
  have hx := B.exec
  have hb := B.bytes
  have hr := B.returns
  have hts0 := atoms_spec (ws := ws_M_batch) B.pre
  have hts : ∀ w ∈ tb, w.before _ s = true := fun w h => hts0 w (List.mem_cons_of_mem _ h)
  have hown : s.vm.findClass "HeapStepsModel" = some m.cls := findClass_of_methodNamed B.named
  have hlocks := B.notSynchronized
  subst hsz
  have hS : va_S (wA 14 ad s.heap.size) s.heap s.heap [] := va_S.rf
  have hl := lv_entry ([.ref (ad 0)]) (n := 5) (Nat.le_of_ble_eq_true rfl)
  rw [lg_entry_eq]
  generalize (lg_sl ([.ref (ad 0)]) ++ List.replicate (5 - (lg_sl ([.ref (ad 0)])).length) Slot.unset).toArray = ls at hl ⊢
  have hl : lv_has ls 5 [(0, .ref (ad 0))] := hl
  refine lv_aload_n hx hb d_M_batch_0 rfl (lv_at hl 0 rfl) ?_
  refine lv_iconst (v := 0) hx hb d_M_batch_1 (by decide) ?_
  refine wc_l (va_runV (As := [.int 0]) (rest := []) ⟨hx, hb, hml, hown, hts⟩ (c_M_there0 l g ad hL x _) (cwV 1 hts (gd_V tw_549 tw_551 tw_22 tw_28 tw_552) rfl rfl rfl (by decide +kernel) ⟨Nat.le_of_ble_eq_true rfl, Nat.le_of_ble_eq_true rfl⟩) (wp_V hK hN hP hJ (0) (by omega) rfl rfl) rfl rfl hl.1 rfl (lv_room (Nat.le_of_ble_eq_true rfl)) d_M_batch_2 ⟨Nat.zero_le _, Nat.zero_le _⟩) hS (fun H locs hP hS => ?_)
  refine lv_aload_n hx hb d_M_batch_5 rfl (lv_at hl 0 rfl) ?_
  refine lv_iconst (v := 1) hx hb d_M_batch_6 (by decide) ?_
  refine wc_l (va_runV (As := [.int 1]) (rest := [.long (m_thereN x L)]) ⟨hx, hb, hml, hown, hts⟩ (c_M_there1 l g ad hL x _) (cwV 1 hts (gd_V tw_549 tw_551 tw_22 tw_28 tw_552) rfl rfl rfl (by decide +kernel) ⟨Nat.le_of_ble_eq_true rfl, Nat.le_of_ble_eq_true rfl⟩) (wp_V hK hN hP hJ (0) (by omega) rfl rfl) rfl rfl hl.1 rfl (lv_room (Nat.le_of_ble_eq_true rfl)) d_M_batch_7 ⟨Nat.zero_le _, Nat.zero_le _⟩) hS (fun H locs hP hS => ?_)
  refine lv_ladd hx hb d_M_batch_10 ?_
  refine lv_topl (fun v_1 ev_1 => ?_)
  refine lv_lstore_n (lv' := [(1, .long v_1), (0, .ref (ad 0))]) hx hb d_M_batch_11 rfl hl (by decide) rfl (fun ls hl => ?_)
  refine lv_iconst (v := 0) hx hb d_M_batch_12 (by decide) ?_
  refine lv_istore_n (lv' := [(3, .int 0), (1, .long v_1), (0, .ref (ad 0))]) hx hb d_M_batch_13 rfl hl (by decide) rfl (fun ls hl => ?_)
  refine lv_iload_n hx hb d_M_batch_14 rfl (lv_at hl 0 rfl) ?_
  refine lv_iconst (v := 3) hx hb d_M_batch_15 (by decide) ?_
  refine lv_icmp_ge (tgt := 39) hx hb d_M_batch_16 (by decide) (fun c_2 => absurd c_2 (by decide)) (fun c_2 => ?_)
  refine lv_aload_n hx hb d_M_batch_19 rfl (lv_at hl 2 rfl) ?_
  refine wr_get hx hb hts in_M hown hK hP (0) (by omega) rfl rfl 23 (by decide) (hts _ tw_364) rfl d_M_batch_20 ?_
  refine lv_iload_n hx hb d_M_batch_23 rfl (lv_at hl 0 rfl) ?_
  refine lv_dup2_11 hx hb d_M_batch_24 rfl rfl ?_
  refine wr_laldv (v := mTak x 0) hx hb hK hP (13) 0 (by omega) rfl rfl 0 (by decide) (by omega) (by omega) rfl d_M_batch_25 ?_
  refine lv_aload_n hx hb d_M_batch_26 rfl (lv_at hl 2 rfl) ?_
  refine lv_iload_n hx hb d_M_batch_27 rfl (lv_at hl 0 rfl) ?_
  refine wc_l (va_runV (As := [.int 0]) (rest := [.long (mTak x 0), .int 0, .ref (ad 13)]) ⟨hx, hb, hml, hown, hts⟩ (c_M_there0 l g ad hL x _) (cwV 1 hts (gd_V tw_549 tw_551 tw_22 tw_28 tw_552) rfl rfl rfl (by decide +kernel) ⟨Nat.le_of_ble_eq_true rfl, Nat.le_of_ble_eq_true rfl⟩) (wp_V hK hN hP hJ (0) (by omega) rfl rfl) rfl rfl hl.1 rfl (lv_room (Nat.le_of_ble_eq_true rfl)) d_M_batch_28 ⟨Nat.zero_le _, Nat.zero_le _⟩) hS (fun H locs hP hS => ?_)
  refine lv_ladd hx hb d_M_batch_31 ?_
  obtain ⟨x_3, ex_3⟩ : ∃ z9, z9 = xO' x 2 0 ((xO x 2 0) + (m_thereN x L)) := ⟨_, rfl⟩
  refine wr_last (E' := mE g ad L x_3) hx hb hK hP hJ hS (13) 0 (by omega) rfl rfl 0 (by decide) (by omega) (by omega) (by rw [ex_3]; exact mU_TK0 g ad L x (p := 0) (by omega) (m_thereN x L)) d_M_batch_32 (fun H locs hP hS => ?_)
  refine lv_iinc (v := 1) (lv' := [(3, .int 1), (1, .long v_1), (0, .ref (ad 0))]) hx hb d_M_batch_33 hl (k := 0) rfl (by decide) (by decide) rfl (fun ls hl => ?_)
  refine lv_goto (tgt := 14) hx hb d_M_batch_36 (by decide) ?_
  refine lv_iload_n hx hb d_M_batch_14 rfl (lv_at hl 0 rfl) ?_
  refine lv_iconst (v := 3) hx hb d_M_batch_15 (by decide) ?_
  refine lv_icmp_ge (tgt := 39) hx hb d_M_batch_16 (by decide) (fun c_4 => absurd c_4 (by decide)) (fun c_4 => ?_)
  refine lv_aload_n hx hb d_M_batch_19 rfl (lv_at hl 2 rfl) ?_
  refine wr_get hx hb hts in_M hown hK hP (0) (by omega) rfl rfl 23 (by decide) (hts _ tw_364) rfl d_M_batch_20 ?_
  refine lv_iload_n hx hb d_M_batch_23 rfl (lv_at hl 0 rfl) ?_
  refine lv_dup2_11 hx hb d_M_batch_24 rfl rfl ?_
  refine wr_laldv (v := mTak x_3 1) hx hb hK hP (13) 0 (by omega) rfl rfl 1 (by decide) (by omega) (by omega) rfl d_M_batch_25 ?_
  refine lv_aload_n hx hb d_M_batch_26 rfl (lv_at hl 2 rfl) ?_
  refine lv_iload_n hx hb d_M_batch_27 rfl (lv_at hl 0 rfl) ?_
  refine wc_l (va_runV (As := [.int 1]) (rest := [.long (mTak x_3 1), .int 1, .ref (ad 13)]) ⟨hx, hb, hml, hown, hts⟩ (c_M_there1 l g ad hL x_3 _) (cwV 1 hts (gd_V tw_549 tw_551 tw_22 tw_28 tw_552) rfl rfl rfl (by decide +kernel) ⟨Nat.le_of_ble_eq_true rfl, Nat.le_of_ble_eq_true rfl⟩) (wp_V hK hN hP hJ (0) (by omega) rfl rfl) rfl rfl hl.1 rfl (lv_room (Nat.le_of_ble_eq_true rfl)) d_M_batch_28 ⟨Nat.zero_le _, Nat.zero_le _⟩) hS (fun H locs hP hS => ?_)
  refine lv_ladd hx hb d_M_batch_31 ?_
  obtain ⟨x_5, ex_5⟩ : ∃ z9, z9 = xO' x_3 2 3 ((mTak x_3 1) + (x_inAllN x_3 3 L)) := ⟨_, rfl⟩
  refine wr_last (E' := mE g ad L x_5) hx hb hK hP hJ hS (13) 0 (by omega) rfl rfl 1 (by decide) (by omega) (by omega) (by rw [ex_5]; exact mU_TK1 g ad L x_3 ((mTak x_3 1) + (x_inAllN x_3 3 L))) d_M_batch_32 (fun H locs hP hS => ?_)
  refine lv_iinc (v := 2) (lv' := [(3, .int 2), (1, .long v_1), (0, .ref (ad 0))]) hx hb d_M_batch_33 hl (k := 0) rfl (by decide) (by decide) rfl (fun ls hl => ?_)
  refine lv_goto (tgt := 14) hx hb d_M_batch_36 (by decide) ?_
  refine lv_iload_n hx hb d_M_batch_14 rfl (lv_at hl 0 rfl) ?_
  refine lv_iconst (v := 3) hx hb d_M_batch_15 (by decide) ?_
  refine lv_icmp_ge (tgt := 39) hx hb d_M_batch_16 (by decide) (fun c_6 => absurd c_6 (by decide)) (fun c_6 => ?_)
  refine lv_aload_n hx hb d_M_batch_19 rfl (lv_at hl 2 rfl) ?_
  refine wr_get hx hb hts in_M hown hK hP (0) (by omega) rfl rfl 23 (by decide) (hts _ tw_364) rfl d_M_batch_20 ?_
  refine lv_iload_n hx hb d_M_batch_23 rfl (lv_at hl 0 rfl) ?_
  refine lv_dup2_11 hx hb d_M_batch_24 rfl rfl ?_
  refine wr_laldv (v := mTak x_5 2) hx hb hK hP (13) 0 (by omega) rfl rfl 2 (by decide) (by omega) (by omega) rfl d_M_batch_25 ?_
  refine lv_aload_n hx hb d_M_batch_26 rfl (lv_at hl 2 rfl) ?_
  refine lv_iload_n hx hb d_M_batch_27 rfl (lv_at hl 0 rfl) ?_
  refine wc_l (va_runV (As := [.int 2]) (rest := [.long (mTak x_5 2), .int 2, .ref (ad 13)]) ⟨hx, hb, hml, hown, hts⟩ (c_M_there2 l g ad hL x_5 _) (cwV 1 hts (gd_V tw_549 tw_551 tw_22 tw_28 tw_552) rfl rfl rfl (by decide +kernel) ⟨Nat.le_of_ble_eq_true rfl, Nat.le_of_ble_eq_true rfl⟩) (wp_V hK hN hP hJ (0) (by omega) rfl rfl) rfl rfl hl.1 rfl (lv_room (Nat.le_of_ble_eq_true rfl)) d_M_batch_28 ⟨Nat.zero_le _, Nat.zero_le _⟩) hS (fun H locs hP hS => ?_)
  refine lv_ladd hx hb d_M_batch_31 ?_
  obtain ⟨x_7, ex_7⟩ : ∃ z9, z9 = xO' x_5 2 4 ((mTak x_5 2) + (x_inAllN x_5 4 L)) := ⟨_, rfl⟩
  refine wr_last (E' := mE g ad L x_7) hx hb hK hP hJ hS (13) 0 (by omega) rfl rfl 2 (by decide) (by omega) (by omega) (by rw [ex_7]; exact mU_TK2 g ad L x_5 ((mTak x_5 2) + (x_inAllN x_5 4 L))) d_M_batch_32 (fun H locs hP hS => ?_)
  refine lv_iinc (v := 3) (lv' := [(3, .int 3), (1, .long v_1), (0, .ref (ad 0))]) hx hb d_M_batch_33 hl (k := 0) rfl (by decide) (by decide) rfl (fun ls hl => ?_)
  refine lv_goto (tgt := 14) hx hb d_M_batch_36 (by decide) ?_
  refine lv_iload_n hx hb d_M_batch_14 rfl (lv_at hl 0 rfl) ?_
  refine lv_iconst (v := 3) hx hb d_M_batch_15 (by decide) ?_
  refine lv_icmp_ge (tgt := 39) hx hb d_M_batch_16 (by decide) (fun c_8 => ?_) (fun c_8 => absurd (by decide) c_8)
  refine lv_iconst (v := 0) hx hb d_M_batch_39 (by decide) ?_
  refine lv_istore_n (lv' := [(3, .int 0), (1, .long v_1), (0, .ref (ad 0))]) hx hb d_M_batch_40 rfl hl (by decide) rfl (fun ls hl => ?_)
  refine wl_loop (pc := 41) (fun fu H locs ls => ∃ i : Nat, i + fu = L ∧ va_P g.1 vwCl (wo 14 ad (mE g ad L (m_zeroN x_7 i))) H ∧ va_S (wA 14 ad s.heap.size) s.heap H locs ∧ lv_has ls 5 [(3, .int (nI i)), (1, .long v_1), (0, .ref (ad 0))]) ?_ ?_ L _ _ _ ⟨0, by omega, hP, hS, lv_sub hl [0, 1, 2] rfl⟩
  · intro H locs ls hI
    obtain ⟨i, hi, hP, hS, hl⟩ := hI
    have hT_i : i = L := by omega
    try rw [hT_i] at hP
    try rw [hT_i] at hl
    obtain ⟨x_9, ex_9⟩ : ∃ z9, z9 = m_zeroN x_7 L := ⟨_, rfl⟩
    rw [← ex_9] at hP
    refine lv_iload_n hx hb d_M_batch_41 rfl (lv_at hl 0 rfl) ?_
    refine lv_aload_n hx hb d_M_batch_42 rfl (lv_at hl 2 rfl) ?_
    refine wr_get hx hb hts in_M hown hK hP (0) (by omega) rfl rfl 0 (by decide) (hts _ tw_341) rfl d_M_batch_43 ?_
    refine lv_icmp_ge (tgt := 96) hx hb d_M_batch_46 (by decide) (fun c_10 => ?_) (fun c_10 => absurd (nI_le (by omega) (by omega)) c_10)
    refine lv_lload_n hx hb d_M_batch_96 rfl (lv_at hl 1 rfl) ?_
    subst ev_1
    subst ex_3
    subst ex_5
    subst ex_7
    subst ex_9
    exact W.lret hx hb hr (fun t ht hW => ⟨⟨_, (), rfl, by (try simp only [m_batch, ite_self]); first | done | rfl | assumption | exact x_within_1 (by assumption), by dsimp only; rw [ht]; (try simp only [m_batch, ite_self]); exact hP⟩, hS.F ht⟩) hS.2.2 d_M_batch_97
  · intro fu ih_i H locs ls hI
    obtain ⟨i, hi, hP, hS, hl⟩ := hI
    have hi_i : i < L := by omega
    obtain ⟨x_11, ex_11⟩ : ∃ z9, z9 = m_zeroN x_7 i := ⟨_, rfl⟩
    rw [← ex_11] at hP
    refine lv_iload_n hx hb d_M_batch_41 rfl (lv_at hl 0 rfl) ?_
    refine lv_aload_n hx hb d_M_batch_42 rfl (lv_at hl 2 rfl) ?_
    refine wr_get hx hb hts in_M hown hK hP (0) (by omega) rfl rfl 0 (by decide) (hts _ tw_341) rfl d_M_batch_43 ?_
    refine lv_icmp_ge (tgt := 96) hx hb d_M_batch_46 (by decide) (fun c_12 => absurd c_12 (nI_ge hi_i (by omega))) (fun c_12 => ?_)
    refine lv_iconst (v := 0) hx hb d_M_batch_49 (by decide) ?_
    refine lv_istore (lv' := [(4, .int 0), (3, .int (nI i)), (1, .long v_1), (0, .ref (ad 0))]) hx hb d_M_batch_50 hl (by decide) rfl (fun ls hl => ?_)
    refine lv_iload hx hb d_M_batch_52 (lv_at hl 0 rfl) ?_
    refine lv_iconst (v := 3) hx hb d_M_batch_54 (by decide) ?_
    refine lv_icmp_ge (tgt := 76) hx hb d_M_batch_55 (by decide) (fun c_13 => absurd c_13 (by decide)) (fun c_13 => ?_)
    refine lv_aload_n hx hb d_M_batch_58 rfl (lv_at hl 3 rfl) ?_
    refine wr_get hx hb hts in_M hown hK hP (0) (by omega) rfl rfl 1 (by decide) (hts _ tw_342) rfl d_M_batch_59 ?_
    refine lv_iconst (v := 3) hx hb d_M_batch_62 (by decide) ?_
    refine lv_iload_n hx hb d_M_batch_63 rfl (lv_at hl 1 rfl) ?_
    refine lv_imul hx hb d_M_batch_64 ?_
    refine lv_iload hx hb d_M_batch_65 (lv_at hl 0 rfl) ?_
    refine lv_iadd hx hb d_M_batch_67 ?_
    refine lv_lconst (v := 0) hx hb d_M_batch_68 (by decide) ?_
    obtain ⟨x_14, ex_14⟩ : ∃ z9, z9 = xT' x_11 i 0 0 := ⟨_, rfl⟩
    refine wr_last (E' := mE g ad L x_14) hx hb hK hP hJ hS (1) 0 (by omega) rfl rfl (3 * i + 0) (mI3 i 0) (by omega) (by omega) (by rw [ex_14]; exact mU_PA g ad L x_11 (i := i) (p := 0) (by omega) 0) d_M_batch_69 (fun H locs hP hS => ?_)
    refine lv_iinc (v := 1) (lv' := [(4, .int 1), (3, .int (nI i)), (1, .long v_1), (0, .ref (ad 0))]) hx hb d_M_batch_70 hl (k := 0) rfl (by decide) (by decide) rfl (fun ls hl => ?_)
    refine lv_goto (tgt := 52) hx hb d_M_batch_73 (by decide) ?_
    refine lv_iload hx hb d_M_batch_52 (lv_at hl 0 rfl) ?_
    refine lv_iconst (v := 3) hx hb d_M_batch_54 (by decide) ?_
    refine lv_icmp_ge (tgt := 76) hx hb d_M_batch_55 (by decide) (fun c_15 => absurd c_15 (by decide)) (fun c_15 => ?_)
    refine lv_aload_n hx hb d_M_batch_58 rfl (lv_at hl 3 rfl) ?_
    refine wr_get hx hb hts in_M hown hK hP (0) (by omega) rfl rfl 1 (by decide) (hts _ tw_342) rfl d_M_batch_59 ?_
    refine lv_iconst (v := 3) hx hb d_M_batch_62 (by decide) ?_
    refine lv_iload_n hx hb d_M_batch_63 rfl (lv_at hl 1 rfl) ?_
    refine lv_imul hx hb d_M_batch_64 ?_
    refine lv_iload hx hb d_M_batch_65 (lv_at hl 0 rfl) ?_
    refine lv_iadd hx hb d_M_batch_67 ?_
    refine lv_lconst (v := 0) hx hb d_M_batch_68 (by decide) ?_
    obtain ⟨x_16, ex_16⟩ : ∃ z9, z9 = xT' x_14 i 1 0 := ⟨_, rfl⟩
    refine wr_last (E' := mE g ad L x_16) hx hb hK hP hJ hS (1) 0 (by omega) rfl rfl (3 * i + 1) (mI3 i 1) (by omega) (by omega) (by rw [ex_16]; exact mU_PA g ad L x_14 (i := i) (p := 1) (by omega) 0) d_M_batch_69 (fun H locs hP hS => ?_)
    refine lv_iinc (v := 2) (lv' := [(4, .int 2), (3, .int (nI i)), (1, .long v_1), (0, .ref (ad 0))]) hx hb d_M_batch_70 hl (k := 0) rfl (by decide) (by decide) rfl (fun ls hl => ?_)
    refine lv_goto (tgt := 52) hx hb d_M_batch_73 (by decide) ?_
    refine lv_iload hx hb d_M_batch_52 (lv_at hl 0 rfl) ?_
    refine lv_iconst (v := 3) hx hb d_M_batch_54 (by decide) ?_
    refine lv_icmp_ge (tgt := 76) hx hb d_M_batch_55 (by decide) (fun c_17 => absurd c_17 (by decide)) (fun c_17 => ?_)
    refine lv_aload_n hx hb d_M_batch_58 rfl (lv_at hl 3 rfl) ?_
    refine wr_get hx hb hts in_M hown hK hP (0) (by omega) rfl rfl 1 (by decide) (hts _ tw_342) rfl d_M_batch_59 ?_
    refine lv_iconst (v := 3) hx hb d_M_batch_62 (by decide) ?_
    refine lv_iload_n hx hb d_M_batch_63 rfl (lv_at hl 1 rfl) ?_
    refine lv_imul hx hb d_M_batch_64 ?_
    refine lv_iload hx hb d_M_batch_65 (lv_at hl 0 rfl) ?_
    refine lv_iadd hx hb d_M_batch_67 ?_
    refine lv_lconst (v := 0) hx hb d_M_batch_68 (by decide) ?_
    obtain ⟨x_18, ex_18⟩ : ∃ z9, z9 = xT' x_16 i 2 0 := ⟨_, rfl⟩
    refine wr_last (E' := mE g ad L x_18) hx hb hK hP hJ hS (1) 0 (by omega) rfl rfl (3 * i + 2) (mI3 i 2) (by omega) (by omega) (by rw [ex_18]; exact mU_PA g ad L x_16 (i := i) (p := 2) (by omega) 0) d_M_batch_69 (fun H locs hP hS => ?_)
    refine lv_iinc (v := 3) (lv' := [(4, .int 3), (3, .int (nI i)), (1, .long v_1), (0, .ref (ad 0))]) hx hb d_M_batch_70 hl (k := 0) rfl (by decide) (by decide) rfl (fun ls hl => ?_)
    refine lv_goto (tgt := 52) hx hb d_M_batch_73 (by decide) ?_
    refine lv_iload hx hb d_M_batch_52 (lv_at hl 0 rfl) ?_
    refine lv_iconst (v := 3) hx hb d_M_batch_54 (by decide) ?_
    refine lv_icmp_ge (tgt := 76) hx hb d_M_batch_55 (by decide) (fun c_19 => ?_) (fun c_19 => absurd (by decide) c_19)
    refine lv_aload_n hx hb d_M_batch_76 rfl (lv_at hl 3 rfl) ?_
    refine wr_get hx hb hts in_M hown hK hP (0) (by omega) rfl rfl 2 (by decide) (hts _ tw_343) rfl d_M_batch_77 ?_
    refine lv_iload_n hx hb d_M_batch_80 rfl (lv_at hl 1 rfl) ?_
    refine lv_lconst (v := 0) hx hb d_M_batch_81 (by decide) ?_
    obtain ⟨x_20, ex_20⟩ : ∃ z9, z9 = xT' x_18 i 3 0 := ⟨_, rfl⟩
    refine wr_last (E' := mE g ad L x_20) hx hb hK hP hJ hS (2) 0 (by omega) rfl rfl i rfl (by omega) (by omega) (by rw [ex_20]; exact mU_WA g ad L x_18 i 0) d_M_batch_82 (fun H locs hP hS => ?_)
    refine lv_aload_n hx hb d_M_batch_83 rfl (lv_at hl 3 rfl) ?_
    refine wr_get hx hb hts in_M hown hK hP (0) (by omega) rfl rfl 3 (by decide) (hts _ tw_344) rfl d_M_batch_84 ?_
    refine lv_iload_n hx hb d_M_batch_87 rfl (lv_at hl 1 rfl) ?_
    refine lv_lconst (v := 0) hx hb d_M_batch_88 (by decide) ?_
    obtain ⟨x_21, ex_21⟩ : ∃ z9, z9 = xT' x_20 i 4 0 := ⟨_, rfl⟩
    refine wr_last (E' := mE g ad L x_21) hx hb hK hP hJ hS (3) 0 (by omega) rfl rfl i rfl (by omega) (by omega) (by rw [ex_21]; exact mU_HE g ad L x_20 i 0) d_M_batch_89 (fun H locs hP hS => ?_)
    refine lv_iinc (v := nI (i + 1)) (lv' := [(3, .int (nI (i + 1))), (4, .int 3), (1, .long v_1), (0, .ref (ad 0))]) hx hb d_M_batch_90 hl (k := 1) rfl (nI_1 i) (by decide) rfl (fun ls hl => ?_)
    refine lv_goto (tgt := 41) hx hb d_M_batch_93 (by decide) ?_
    subst ex_11
    subst ex_14
    subst ex_16
    subst ex_18
    subst ex_20
    subst ex_21
    exact ih_i _ _ _ ⟨i + 1, by omega, (by skip; exact hP), hS, lv_sub hl [0, 2, 3] (by skip; rfl)⟩
