set_option maxHeartbeats 4000000 in
set_option maxRecDepth 100000 in
theorem c_M_init (l : Launch) (g : wG) (b : Nat) {L : Nat} (hL : 1 ≤ L ∧ L ≤ 6) (a1 : Int32) (hc : x_cnt a1 = nI L) : CtC l y_M_init ws_M_init ({ frames := 1, cells := 13, slots := 90, locals := 20 }) g b 1 (mcE g b L [.int 0, .null, .null, .null, .null, .null, .null, .null, .null, .null, .null, .int 0, .int 0, .int 0, .int 0, .int 0, .int 0, .long 0, .int 0, .long 0, .int 0, .null, .null, .null] (fun _ => 0)) 14 (mE g (adl b) L x0) [.ref (adl b 0), .int a1] 13 90 := by
  unfold CtC
  refine Met.ofW (cc := b_M_init) (maxL := 3) (ret := none) (by decide) rfl ?_
  intro p e s m args below meth c s₁ B hml hv
  obtain ⟨rfl, hz, hP, hK, hN, hJ⟩ := hv
  have hx := B.exec
  have hb := B.bytes
  have hr := B.returns
  have hts0 := atoms_spec (ws := ws_M_init) B.pre
  have hts : ∀ w ∈ tb, w.before _ s = true := fun w h => hts0 w (List.mem_cons_of_mem _ h)
  have hown : s.vm.findClass "HeapStepsModel" = some m.cls := findClass_of_methodNamed B.named
  have hlocks := B.notSynchronized
  have hin : meth.name = "<init>" := (name_of_methodNamed B.named B.method).1
  have hS : va_S (fun q => b ≤ q) s.heap s.heap [] := va_S.rf
  have hl := lv_entry ([.ref (adl b 0), .int a1]) (n := 3) (Nat.le_of_ble_eq_true rfl)
  rw [lg_entry_eq]
  generalize (lg_sl ([.ref (adl b 0), .int a1]) ++ List.replicate (3 - (lg_sl ([.ref (adl b 0), .int a1])).length) Slot.unset).toArray = ls at hl ⊢
  have hl : lv_has ls 3 [(0, .ref (adl b 0)), (1, .int a1)] := hl
  refine lv_aload_n hx hb d_M_init_0 rfl (lv_at hl 0 rfl) ?_
  refine W.objInit hx hb hown (hts _ tw_339) (hts _ tw_36) (hts _ tw_37) rfl (by rw [hml]; exact hl.1) rfl d_M_init_1 (Nat.le_of_ble_eq_true rfl) (Nat.le_of_ble_eq_true rfl) ?_
  refine W.eq (g2 := F0 m 4 ls []) rfl ?_
  refine lv_aload_n hx hb d_M_init_4 rfl (lv_at hl 0 rfl) ?_
  refine lv_bipush (v := 18) hx hb d_M_init_5 (by decide) ?_
  refine wr_newl (E' := mcE g b L [.int 0, .null, .null, .null, .null, .null, .null, .null, .null, .null, .null, .int 0, .int 0, .int 0, .int 0, .int 0, .int 0, .long 0, .int 0, .long 0, .int 0, .null, .null, .null] (fun _ => 0)) hx hb (hts _ tw_91) hK hP hS hz (fun _ _ => rfl) 18 rfl (by decide) (by omega) (Nat.le_of_ble_eq_true rfl) (Nat.le_of_ble_eq_true rfl) d_M_init_7 (fun H hP hz hS => ?_)
  refine wr_putF (E' := mcE g b L [.int 0, .ref (adl b 1), .null, .null, .null, .null, .null, .null, .null, .null, .null, .int 0, .int 0, .int 0, .int 0, .int 0, .int 0, .long 0, .int 0, .long 0, .int 0, .null, .null, .null] (fun _ => 0)) hx hb hts in_M ty_M ty_M_ok n_M hown hK hP hS hz (0) (by omega) rfl rfl 1 (by decide) (hts _ tw_342) rfl hin rfl rfl rfl (Nat.le_of_ble_eq_true rfl) (mcU_f _ _ _ _ _ _) d_M_init_9 (fun H locs hP hz hS => ?_)
  refine lv_aload_n hx hb d_M_init_12 rfl (lv_at hl 0 rfl) ?_
  refine lv_bipush (v := 6) hx hb d_M_init_13 (by decide) ?_
  refine wr_newl (E' := mcE g b L [.int 0, .ref (adl b 1), .null, .null, .null, .null, .null, .null, .null, .null, .null, .int 0, .int 0, .int 0, .int 0, .int 0, .int 0, .long 0, .int 0, .long 0, .int 0, .null, .null, .null] (fun _ => 0)) hx hb (hts _ tw_91) hK hP hS hz (fun _ _ => rfl) 6 rfl (by decide) (by omega) (Nat.le_of_ble_eq_true rfl) (Nat.le_of_ble_eq_true rfl) d_M_init_15 (fun H hP hz hS => ?_)
  refine wr_putF (E' := mcE g b L [.int 0, .ref (adl b 1), .ref (adl b 2), .null, .null, .null, .null, .null, .null, .null, .null, .int 0, .int 0, .int 0, .int 0, .int 0, .int 0, .long 0, .int 0, .long 0, .int 0, .null, .null, .null] (fun _ => 0)) hx hb hts in_M ty_M ty_M_ok n_M hown hK hP hS hz (0) (by omega) rfl rfl 2 (by decide) (hts _ tw_343) rfl hin rfl rfl rfl (Nat.le_of_ble_eq_true rfl) (mcU_f _ _ _ _ _ _) d_M_init_17 (fun H locs hP hz hS => ?_)
  refine lv_aload_n hx hb d_M_init_20 rfl (lv_at hl 0 rfl) ?_
  refine lv_bipush (v := 6) hx hb d_M_init_21 (by decide) ?_
  refine wr_newl (E' := mcE g b L [.int 0, .ref (adl b 1), .ref (adl b 2), .null, .null, .null, .null, .null, .null, .null, .null, .int 0, .int 0, .int 0, .int 0, .int 0, .int 0, .long 0, .int 0, .long 0, .int 0, .null, .null, .null] (fun _ => 0)) hx hb (hts _ tw_91) hK hP hS hz (fun _ _ => rfl) 6 rfl (by decide) (by omega) (Nat.le_of_ble_eq_true rfl) (Nat.le_of_ble_eq_true rfl) d_M_init_23 (fun H hP hz hS => ?_)
  refine wr_putF (E' := mcE g b L [.int 0, .ref (adl b 1), .ref (adl b 2), .ref (adl b 3), .null, .null, .null, .null, .null, .null, .null, .int 0, .int 0, .int 0, .int 0, .int 0, .int 0, .long 0, .int 0, .long 0, .int 0, .null, .null, .null] (fun _ => 0)) hx hb hts in_M ty_M ty_M_ok n_M hown hK hP hS hz (0) (by omega) rfl rfl 3 (by decide) (hts _ tw_344) rfl hin rfl rfl rfl (Nat.le_of_ble_eq_true rfl) (mcU_f _ _ _ _ _ _) d_M_init_25 (fun H locs hP hz hS => ?_)
  refine lv_aload_n hx hb d_M_init_28 rfl (lv_at hl 0 rfl) ?_
  refine lv_bipush (v := 6) hx hb d_M_init_29 (by decide) ?_
  refine wr_newl (E' := mcE g b L [.int 0, .ref (adl b 1), .ref (adl b 2), .ref (adl b 3), .null, .null, .null, .null, .null, .null, .null, .int 0, .int 0, .int 0, .int 0, .int 0, .int 0, .long 0, .int 0, .long 0, .int 0, .null, .null, .null] (fun _ => 0)) hx hb (hts _ tw_91) hK hP hS hz (fun _ _ => rfl) 6 rfl (by decide) (by omega) (Nat.le_of_ble_eq_true rfl) (Nat.le_of_ble_eq_true rfl) d_M_init_31 (fun H hP hz hS => ?_)
  refine wr_putF (E' := mcE g b L [.int 0, .ref (adl b 1), .ref (adl b 2), .ref (adl b 3), .ref (adl b 4), .null, .null, .null, .null, .null, .null, .int 0, .int 0, .int 0, .int 0, .int 0, .int 0, .long 0, .int 0, .long 0, .int 0, .null, .null, .null] (fun _ => 0)) hx hb hts in_M ty_M ty_M_ok n_M hown hK hP hS hz (0) (by omega) rfl rfl 4 (by decide) (hts _ tw_345) rfl hin rfl rfl rfl (Nat.le_of_ble_eq_true rfl) (mcU_f _ _ _ _ _ _) d_M_init_33 (fun H locs hP hz hS => ?_)
  refine lv_aload_n hx hb d_M_init_36 rfl (lv_at hl 0 rfl) ?_
  refine lv_bipush (v := 6) hx hb d_M_init_37 (by decide) ?_
  refine wr_newl (E' := mcE g b L [.int 0, .ref (adl b 1), .ref (adl b 2), .ref (adl b 3), .ref (adl b 4), .null, .null, .null, .null, .null, .null, .int 0, .int 0, .int 0, .int 0, .int 0, .int 0, .long 0, .int 0, .long 0, .int 0, .null, .null, .null] (fun _ => 0)) hx hb (hts _ tw_91) hK hP hS hz (fun _ _ => rfl) 6 rfl (by decide) (by omega) (Nat.le_of_ble_eq_true rfl) (Nat.le_of_ble_eq_true rfl) d_M_init_39 (fun H hP hz hS => ?_)
  refine wr_putF (E' := mcE g b L [.int 0, .ref (adl b 1), .ref (adl b 2), .ref (adl b 3), .ref (adl b 4), .ref (adl b 5), .null, .null, .null, .null, .null, .int 0, .int 0, .int 0, .int 0, .int 0, .int 0, .long 0, .int 0, .long 0, .int 0, .null, .null, .null] (fun _ => 0)) hx hb hts in_M ty_M ty_M_ok n_M hown hK hP hS hz (0) (by omega) rfl rfl 5 (by decide) (hts _ tw_346) rfl hin rfl rfl rfl (Nat.le_of_ble_eq_true rfl) (mcU_f _ _ _ _ _ _) d_M_init_41 (fun H locs hP hz hS => ?_)
  refine lv_aload_n hx hb d_M_init_44 rfl (lv_at hl 0 rfl) ?_
  refine lv_iconst (v := 3) hx hb d_M_init_45 (by decide) ?_
  refine wr_newi (E' := mcE g b L [.int 0, .ref (adl b 1), .ref (adl b 2), .ref (adl b 3), .ref (adl b 4), .ref (adl b 5), .null, .null, .null, .null, .null, .int 0, .int 0, .int 0, .int 0, .int 0, .int 0, .long 0, .int 0, .long 0, .int 0, .null, .null, .null] (fun _ => 0)) hx hb (hts _ tw_115) hK hP hS hz (fun _ _ => rfl) 3 rfl (by decide) (by omega) (Nat.le_of_ble_eq_true rfl) (Nat.le_of_ble_eq_true rfl) d_M_init_46 (fun H hP hz hS => ?_)
  refine wr_putF (E' := mcE g b L [.int 0, .ref (adl b 1), .ref (adl b 2), .ref (adl b 3), .ref (adl b 4), .ref (adl b 5), .ref (adl b 6), .null, .null, .null, .null, .int 0, .int 0, .int 0, .int 0, .int 0, .int 0, .long 0, .int 0, .long 0, .int 0, .null, .null, .null] (fun _ => 0)) hx hb hts in_M ty_M ty_M_ok n_M hown hK hP hS hz (0) (by omega) rfl rfl 6 (by decide) (hts _ tw_347) rfl hin rfl rfl rfl (Nat.le_of_ble_eq_true rfl) (mcU_f _ _ _ _ _ _) d_M_init_48 (fun H locs hP hz hS => ?_)
  refine lv_aload_n hx hb d_M_init_51 rfl (lv_at hl 0 rfl) ?_
  refine lv_bipush (v := 12) hx hb d_M_init_52 (by decide) ?_
  refine wr_newi (E' := mcE g b L [.int 0, .ref (adl b 1), .ref (adl b 2), .ref (adl b 3), .ref (adl b 4), .ref (adl b 5), .ref (adl b 6), .null, .null, .null, .null, .int 0, .int 0, .int 0, .int 0, .int 0, .int 0, .long 0, .int 0, .long 0, .int 0, .null, .null, .null] (fun _ => 0)) hx hb (hts _ tw_115) hK hP hS hz (fun _ _ => rfl) 12 rfl (by decide) (by omega) (Nat.le_of_ble_eq_true rfl) (Nat.le_of_ble_eq_true rfl) d_M_init_54 (fun H hP hz hS => ?_)
  refine wr_putF (E' := mcE g b L [.int 0, .ref (adl b 1), .ref (adl b 2), .ref (adl b 3), .ref (adl b 4), .ref (adl b 5), .ref (adl b 6), .ref (adl b 7), .null, .null, .null, .int 0, .int 0, .int 0, .int 0, .int 0, .int 0, .long 0, .int 0, .long 0, .int 0, .null, .null, .null] (fun _ => 0)) hx hb hts in_M ty_M ty_M_ok n_M hown hK hP hS hz (0) (by omega) rfl rfl 7 (by decide) (hts _ tw_348) rfl hin rfl rfl rfl (Nat.le_of_ble_eq_true rfl) (mcU_f _ _ _ _ _ _) d_M_init_56 (fun H locs hP hz hS => ?_)
  refine lv_aload_n hx hb d_M_init_59 rfl (lv_at hl 0 rfl) ?_
  refine lv_bipush (v := 12) hx hb d_M_init_60 (by decide) ?_
  refine wr_newi (E' := mcE g b L [.int 0, .ref (adl b 1), .ref (adl b 2), .ref (adl b 3), .ref (adl b 4), .ref (adl b 5), .ref (adl b 6), .ref (adl b 7), .null, .null, .null, .int 0, .int 0, .int 0, .int 0, .int 0, .int 0, .long 0, .int 0, .long 0, .int 0, .null, .null, .null] (fun _ => 0)) hx hb (hts _ tw_115) hK hP hS hz (fun _ _ => rfl) 12 rfl (by decide) (by omega) (Nat.le_of_ble_eq_true rfl) (Nat.le_of_ble_eq_true rfl) d_M_init_62 (fun H hP hz hS => ?_)
  refine wr_putF (E' := mcE g b L [.int 0, .ref (adl b 1), .ref (adl b 2), .ref (adl b 3), .ref (adl b 4), .ref (adl b 5), .ref (adl b 6), .ref (adl b 7), .ref (adl b 8), .null, .null, .int 0, .int 0, .int 0, .int 0, .int 0, .int 0, .long 0, .int 0, .long 0, .int 0, .null, .null, .null] (fun _ => 0)) hx hb hts in_M ty_M ty_M_ok n_M hown hK hP hS hz (0) (by omega) rfl rfl 8 (by decide) (hts _ tw_349) rfl hin rfl rfl rfl (Nat.le_of_ble_eq_true rfl) (mcU_f _ _ _ _ _ _) d_M_init_64 (fun H locs hP hz hS => ?_)
  refine lv_aload_n hx hb d_M_init_67 rfl (lv_at hl 0 rfl) ?_
  refine lv_iconst (v := 3) hx hb d_M_init_68 (by decide) ?_
  refine wr_newi (E' := mcE g b L [.int 0, .ref (adl b 1), .ref (adl b 2), .ref (adl b 3), .ref (adl b 4), .ref (adl b 5), .ref (adl b 6), .ref (adl b 7), .ref (adl b 8), .null, .null, .int 0, .int 0, .int 0, .int 0, .int 0, .int 0, .long 0, .int 0, .long 0, .int 0, .null, .null, .null] (fun _ => 0)) hx hb (hts _ tw_115) hK hP hS hz (fun _ _ => rfl) 3 rfl (by decide) (by omega) (Nat.le_of_ble_eq_true rfl) (Nat.le_of_ble_eq_true rfl) d_M_init_69 (fun H hP hz hS => ?_)
  refine wr_putF (E' := mcE g b L [.int 0, .ref (adl b 1), .ref (adl b 2), .ref (adl b 3), .ref (adl b 4), .ref (adl b 5), .ref (adl b 6), .ref (adl b 7), .ref (adl b 8), .ref (adl b 9), .null, .int 0, .int 0, .int 0, .int 0, .int 0, .int 0, .long 0, .int 0, .long 0, .int 0, .null, .null, .null] (fun _ => 0)) hx hb hts in_M ty_M ty_M_ok n_M hown hK hP hS hz (0) (by omega) rfl rfl 9 (by decide) (hts _ tw_350) rfl hin rfl rfl rfl (Nat.le_of_ble_eq_true rfl) (mcU_f _ _ _ _ _ _) d_M_init_71 (fun H locs hP hz hS => ?_)
  refine lv_aload_n hx hb d_M_init_74 rfl (lv_at hl 0 rfl) ?_
  refine lv_iconst (v := 3) hx hb d_M_init_75 (by decide) ?_
  refine wr_newi (E' := mcE g b L [.int 0, .ref (adl b 1), .ref (adl b 2), .ref (adl b 3), .ref (adl b 4), .ref (adl b 5), .ref (adl b 6), .ref (adl b 7), .ref (adl b 8), .ref (adl b 9), .null, .int 0, .int 0, .int 0, .int 0, .int 0, .int 0, .long 0, .int 0, .long 0, .int 0, .null, .null, .null] (fun _ => 0)) hx hb (hts _ tw_115) hK hP hS hz (fun _ _ => rfl) 3 rfl (by decide) (by omega) (Nat.le_of_ble_eq_true rfl) (Nat.le_of_ble_eq_true rfl) d_M_init_76 (fun H hP hz hS => ?_)
  refine wr_putF (E' := mcE g b L [.int 0, .ref (adl b 1), .ref (adl b 2), .ref (adl b 3), .ref (adl b 4), .ref (adl b 5), .ref (adl b 6), .ref (adl b 7), .ref (adl b 8), .ref (adl b 9), .ref (adl b 10), .int 0, .int 0, .int 0, .int 0, .int 0, .int 0, .long 0, .int 0, .long 0, .int 0, .null, .null, .null] (fun _ => 0)) hx hb hts in_M ty_M ty_M_ok n_M hown hK hP hS hz (0) (by omega) rfl rfl 10 (by decide) (hts _ tw_351) rfl hin rfl rfl rfl (Nat.le_of_ble_eq_true rfl) (mcU_f _ _ _ _ _ _) d_M_init_78 (fun H locs hP hz hS => ?_)
  refine lv_aload_n hx hb d_M_init_81 rfl (lv_at hl 0 rfl) ?_
  refine lv_ldc2 (v := 1000000000) hx hb hown (hts _ tw_340) d_M_init_82 ?_
  refine wr_putZ (E' := mcE g b L [.int 0, .ref (adl b 1), .ref (adl b 2), .ref (adl b 3), .ref (adl b 4), .ref (adl b 5), .ref (adl b 6), .ref (adl b 7), .ref (adl b 8), .ref (adl b 9), .ref (adl b 10), .int 0, .int 0, .int 0, .int 0, .int 0, .int 0, .long 0, .int 0, .long 1000000000, .int 0, .null, .null, .null] (fun _ => 0)) hx hb hts in_M ty_M ty_M_ok n_M hown hK hP hS hz (0) (by omega) rfl rfl 19 (by decide) (hts _ tw_360) rfl rfl rfl (Nat.le_of_ble_eq_true rfl) (mcU_f _ _ _ _ _ _) d_M_init_85 (fun H locs hP hz hS => ?_)
  refine lv_aload_n hx hb d_M_init_88 rfl (lv_at hl 0 rfl) ?_
  refine lv_bipush (v := 9) hx hb d_M_init_89 (by decide) ?_
  refine wr_newl (E' := mcE g b L [.int 0, .ref (adl b 1), .ref (adl b 2), .ref (adl b 3), .ref (adl b 4), .ref (adl b 5), .ref (adl b 6), .ref (adl b 7), .ref (adl b 8), .ref (adl b 9), .ref (adl b 10), .int 0, .int 0, .int 0, .int 0, .int 0, .int 0, .long 0, .int 0, .long 1000000000, .int 0, .null, .null, .null] (fun _ => 0)) hx hb (hts _ tw_91) hK hP hS hz (fun _ _ => rfl) 9 rfl (by decide) (by omega) (Nat.le_of_ble_eq_true rfl) (Nat.le_of_ble_eq_true rfl) d_M_init_91 (fun H hP hz hS => ?_)
  refine wr_putF (E' := mcE g b L [.int 0, .ref (adl b 1), .ref (adl b 2), .ref (adl b 3), .ref (adl b 4), .ref (adl b 5), .ref (adl b 6), .ref (adl b 7), .ref (adl b 8), .ref (adl b 9), .ref (adl b 10), .int 0, .int 0, .int 0, .int 0, .int 0, .int 0, .long 0, .int 0, .long 1000000000, .int 0, .ref (adl b 11), .null, .null] (fun _ => 0)) hx hb hts in_M ty_M ty_M_ok n_M hown hK hP hS hz (0) (by omega) rfl rfl 21 (by decide) (hts _ tw_362) rfl hin rfl rfl rfl (Nat.le_of_ble_eq_true rfl) (mcU_f _ _ _ _ _ _) d_M_init_93 (fun H locs hP hz hS => ?_)
  refine lv_aload_n hx hb d_M_init_96 rfl (lv_at hl 0 rfl) ?_
  refine lv_iconst (v := 3) hx hb d_M_init_97 (by decide) ?_
  refine wr_newl (E' := mcE g b L [.int 0, .ref (adl b 1), .ref (adl b 2), .ref (adl b 3), .ref (adl b 4), .ref (adl b 5), .ref (adl b 6), .ref (adl b 7), .ref (adl b 8), .ref (adl b 9), .ref (adl b 10), .int 0, .int 0, .int 0, .int 0, .int 0, .int 0, .long 0, .int 0, .long 1000000000, .int 0, .ref (adl b 11), .null, .null] (fun _ => 0)) hx hb (hts _ tw_91) hK hP hS hz (fun _ _ => rfl) 3 (mcE_12 _ _ _ _ _) (by decide) (by omega) (Nat.le_of_ble_eq_true rfl) (Nat.le_of_ble_eq_true rfl) d_M_init_98 (fun H hP hz hS => ?_)
  refine wr_putF (E' := mcE g b L [.int 0, .ref (adl b 1), .ref (adl b 2), .ref (adl b 3), .ref (adl b 4), .ref (adl b 5), .ref (adl b 6), .ref (adl b 7), .ref (adl b 8), .ref (adl b 9), .ref (adl b 10), .int 0, .int 0, .int 0, .int 0, .int 0, .int 0, .long 0, .int 0, .long 1000000000, .int 0, .ref (adl b 11), .ref (adl b 12), .null] (fun _ => 0)) hx hb hts in_M ty_M ty_M_ok n_M hown hK hP hS hz (0) (by omega) rfl rfl 22 (by decide) (hts _ tw_363) rfl hin rfl rfl rfl (Nat.le_of_ble_eq_true rfl) (mcU_f _ _ _ _ _ _) d_M_init_100 (fun H locs hP hz hS => ?_)
  refine lv_aload_n hx hb d_M_init_103 rfl (lv_at hl 0 rfl) ?_
  refine lv_iconst (v := 3) hx hb d_M_init_104 (by decide) ?_
  refine wr_newl (E' := mcE g b L [.int 0, .ref (adl b 1), .ref (adl b 2), .ref (adl b 3), .ref (adl b 4), .ref (adl b 5), .ref (adl b 6), .ref (adl b 7), .ref (adl b 8), .ref (adl b 9), .ref (adl b 10), .int 0, .int 0, .int 0, .int 0, .int 0, .int 0, .long 0, .int 0, .long 1000000000, .int 0, .ref (adl b 11), .ref (adl b 12), .null] (fun _ => 0)) hx hb (hts _ tw_91) hK hP hS hz (fun _ _ => rfl) 3 (mcE_13 _ _ _ _ _) (by decide) (by omega) (Nat.le_of_ble_eq_true rfl) (Nat.le_of_ble_eq_true rfl) d_M_init_105 (fun H hP hz hS => ?_)
  refine wr_putF (E' := mcE g b L [.int 0, .ref (adl b 1), .ref (adl b 2), .ref (adl b 3), .ref (adl b 4), .ref (adl b 5), .ref (adl b 6), .ref (adl b 7), .ref (adl b 8), .ref (adl b 9), .ref (adl b 10), .int 0, .int 0, .int 0, .int 0, .int 0, .int 0, .long 0, .int 0, .long 1000000000, .int 0, .ref (adl b 11), .ref (adl b 12), .ref (adl b 13)] (fun _ => 0)) hx hb hts in_M ty_M ty_M_ok n_M hown hK hP hS hz (0) (by omega) rfl rfl 23 (by decide) (hts _ tw_364) rfl hin rfl rfl rfl (Nat.le_of_ble_eq_true rfl) (mcU_f _ _ _ _ _ _) d_M_init_107 (fun H locs hP hz hS => ?_)
  refine lv_aload_n hx hb d_M_init_110 rfl (lv_at hl 0 rfl) ?_
  refine lv_iload_n hx hb d_M_init_111 rfl (lv_at hl 1 rfl) ?_
  refine lv_iconst (v := 1) hx hb d_M_init_112 (by decide) ?_
  refine lv_icmp_lt (tgt := 126) hx hb d_M_init_113 (by decide) (fun c_1 => ?_) (fun c_1 => ?_)
  · skip
    refine lv_iconst (v := 1) hx hb d_M_init_126 (by decide) ?_
    refine W.eq (g2 := F0 m 127 ls [.int (nI L), .ref (adl b 0)]) (by rw [← cnt_lt c_1 hc]) ?_
    refine wr_putF (E' := mcE g b L [.int (nI L), .ref (adl b 1), .ref (adl b 2), .ref (adl b 3), .ref (adl b 4), .ref (adl b 5), .ref (adl b 6), .ref (adl b 7), .ref (adl b 8), .ref (adl b 9), .ref (adl b 10), .int 0, .int 0, .int 0, .int 0, .int 0, .int 0, .long 0, .int 0, .long 1000000000, .int 0, .ref (adl b 11), .ref (adl b 12), .ref (adl b 13)] (fun _ => 0)) hx hb hts in_M ty_M ty_M_ok n_M hown hK hP hS hz (0) (by omega) rfl rfl 0 (by decide) (hts _ tw_341) rfl hin rfl rfl rfl (Nat.le_of_ble_eq_true rfl) (mcU_f _ _ _ _ _ _) d_M_init_127 (fun H locs hP hz hS => ?_)
    refine lv_iconst (v := 0) hx hb d_M_init_130 (by decide) ?_
    refine lv_istore_n (lv' := [(2, .int 0), (0, .ref (adl b 0)), (1, .int a1)]) hx hb d_M_init_131 rfl hl (by decide) rfl (fun ls hl => ?_)
    refine lv_iload_n hx hb d_M_init_132 rfl (lv_at hl 0 rfl) ?_
    refine lv_bipush (v := 6) hx hb d_M_init_133 (by decide) ?_
    refine lv_icmp_ge (tgt := 153) hx hb d_M_init_135 (by decide) (fun c_2 => absurd c_2 (by decide)) (fun c_2 => ?_)
    refine lv_aload_n hx hb d_M_init_138 rfl (lv_at hl 1 rfl) ?_
    refine wr_get hx hb hts in_M hown hK hP (0) (by omega) rfl rfl 5 (by decide) (hts _ tw_346) rfl d_M_init_139 ?_
    refine lv_iload_n hx hb d_M_init_142 rfl (lv_at hl 0 rfl) ?_
    refine lv_ldc2 (v := 1000000000) hx hb hown (hts _ tw_340) d_M_init_143 ?_
    refine wr_lastZ (E' := mcE g b L [.int (nI L), .ref (adl b 1), .ref (adl b 2), .ref (adl b 3), .ref (adl b 4), .ref (adl b 5), .ref (adl b 6), .ref (adl b 7), .ref (adl b 8), .ref (adl b 9), .ref (adl b 10), .int 0, .int 0, .int 0, .int 0, .int 0, .int 0, .long 0, .int 0, .long 1000000000, .int 0, .ref (adl b 11), .ref (adl b 12), .ref (adl b 13)] (vp_updL (fun _ => 0) 0 1000000000)) hx hb hK hP hS hz 5 0 (by omega) rfl rfl 0 (by decide) (by omega) (by omega) (mcU_h _ _ _ _ _ _) d_M_init_146 (fun H locs hP hz hS => ?_)
    refine lv_iinc (v := 1) (lv' := [(2, .int 1), (0, .ref (adl b 0)), (1, .int a1)]) hx hb d_M_init_147 hl (k := 0) rfl (by decide) (by decide) rfl (fun ls hl => ?_)
    refine lv_goto (tgt := 132) hx hb d_M_init_150 (by decide) ?_
    refine lv_iload_n hx hb d_M_init_132 rfl (lv_at hl 0 rfl) ?_
    refine lv_bipush (v := 6) hx hb d_M_init_133 (by decide) ?_
    refine lv_icmp_ge (tgt := 153) hx hb d_M_init_135 (by decide) (fun c_3 => absurd c_3 (by decide)) (fun c_3 => ?_)
    refine lv_aload_n hx hb d_M_init_138 rfl (lv_at hl 1 rfl) ?_
    refine wr_get hx hb hts in_M hown hK hP (0) (by omega) rfl rfl 5 (by decide) (hts _ tw_346) rfl d_M_init_139 ?_
    refine lv_iload_n hx hb d_M_init_142 rfl (lv_at hl 0 rfl) ?_
    refine lv_ldc2 (v := 1000000000) hx hb hown (hts _ tw_340) d_M_init_143 ?_
    refine wr_lastZ (E' := mcE g b L [.int (nI L), .ref (adl b 1), .ref (adl b 2), .ref (adl b 3), .ref (adl b 4), .ref (adl b 5), .ref (adl b 6), .ref (adl b 7), .ref (adl b 8), .ref (adl b 9), .ref (adl b 10), .int 0, .int 0, .int 0, .int 0, .int 0, .int 0, .long 0, .int 0, .long 1000000000, .int 0, .ref (adl b 11), .ref (adl b 12), .ref (adl b 13)] (vp_updL (vp_updL (fun _ => 0) 0 1000000000) 1 1000000000)) hx hb hK hP hS hz 5 0 (by omega) rfl rfl 1 (by decide) (by omega) (by omega) (mcU_h _ _ _ _ _ _) d_M_init_146 (fun H locs hP hz hS => ?_)
    refine lv_iinc (v := 2) (lv' := [(2, .int 2), (0, .ref (adl b 0)), (1, .int a1)]) hx hb d_M_init_147 hl (k := 0) rfl (by decide) (by decide) rfl (fun ls hl => ?_)
    refine lv_goto (tgt := 132) hx hb d_M_init_150 (by decide) ?_
    refine lv_iload_n hx hb d_M_init_132 rfl (lv_at hl 0 rfl) ?_
    refine lv_bipush (v := 6) hx hb d_M_init_133 (by decide) ?_
    refine lv_icmp_ge (tgt := 153) hx hb d_M_init_135 (by decide) (fun c_4 => absurd c_4 (by decide)) (fun c_4 => ?_)
    refine lv_aload_n hx hb d_M_init_138 rfl (lv_at hl 1 rfl) ?_
    refine wr_get hx hb hts in_M hown hK hP (0) (by omega) rfl rfl 5 (by decide) (hts _ tw_346) rfl d_M_init_139 ?_
    refine lv_iload_n hx hb d_M_init_142 rfl (lv_at hl 0 rfl) ?_
    refine lv_ldc2 (v := 1000000000) hx hb hown (hts _ tw_340) d_M_init_143 ?_
    refine wr_lastZ (E' := mcE g b L [.int (nI L), .ref (adl b 1), .ref (adl b 2), .ref (adl b 3), .ref (adl b 4), .ref (adl b 5), .ref (adl b 6), .ref (adl b 7), .ref (adl b 8), .ref (adl b 9), .ref (adl b 10), .int 0, .int 0, .int 0, .int 0, .int 0, .int 0, .long 0, .int 0, .long 1000000000, .int 0, .ref (adl b 11), .ref (adl b 12), .ref (adl b 13)] (vp_updL (vp_updL (vp_updL (fun _ => 0) 0 1000000000) 1 1000000000) 2 1000000000)) hx hb hK hP hS hz 5 0 (by omega) rfl rfl 2 (by decide) (by omega) (by omega) (mcU_h _ _ _ _ _ _) d_M_init_146 (fun H locs hP hz hS => ?_)
    refine lv_iinc (v := 3) (lv' := [(2, .int 3), (0, .ref (adl b 0)), (1, .int a1)]) hx hb d_M_init_147 hl (k := 0) rfl (by decide) (by decide) rfl (fun ls hl => ?_)
    refine lv_goto (tgt := 132) hx hb d_M_init_150 (by decide) ?_
    refine lv_iload_n hx hb d_M_init_132 rfl (lv_at hl 0 rfl) ?_
    refine lv_bipush (v := 6) hx hb d_M_init_133 (by decide) ?_
    refine lv_icmp_ge (tgt := 153) hx hb d_M_init_135 (by decide) (fun c_5 => absurd c_5 (by decide)) (fun c_5 => ?_)
    refine lv_aload_n hx hb d_M_init_138 rfl (lv_at hl 1 rfl) ?_
    refine wr_get hx hb hts in_M hown hK hP (0) (by omega) rfl rfl 5 (by decide) (hts _ tw_346) rfl d_M_init_139 ?_
    refine lv_iload_n hx hb d_M_init_142 rfl (lv_at hl 0 rfl) ?_
    refine lv_ldc2 (v := 1000000000) hx hb hown (hts _ tw_340) d_M_init_143 ?_
    refine wr_lastZ (E' := mcE g b L [.int (nI L), .ref (adl b 1), .ref (adl b 2), .ref (adl b 3), .ref (adl b 4), .ref (adl b 5), .ref (adl b 6), .ref (adl b 7), .ref (adl b 8), .ref (adl b 9), .ref (adl b 10), .int 0, .int 0, .int 0, .int 0, .int 0, .int 0, .long 0, .int 0, .long 1000000000, .int 0, .ref (adl b 11), .ref (adl b 12), .ref (adl b 13)] (vp_updL (vp_updL (vp_updL (vp_updL (fun _ => 0) 0 1000000000) 1 1000000000) 2 1000000000) 3 1000000000)) hx hb hK hP hS hz 5 0 (by omega) rfl rfl 3 (by decide) (by omega) (by omega) (mcU_h _ _ _ _ _ _) d_M_init_146 (fun H locs hP hz hS => ?_)
    refine lv_iinc (v := 4) (lv' := [(2, .int 4), (0, .ref (adl b 0)), (1, .int a1)]) hx hb d_M_init_147 hl (k := 0) rfl (by decide) (by decide) rfl (fun ls hl => ?_)
    refine lv_goto (tgt := 132) hx hb d_M_init_150 (by decide) ?_
    refine lv_iload_n hx hb d_M_init_132 rfl (lv_at hl 0 rfl) ?_
    refine lv_bipush (v := 6) hx hb d_M_init_133 (by decide) ?_
    refine lv_icmp_ge (tgt := 153) hx hb d_M_init_135 (by decide) (fun c_6 => absurd c_6 (by decide)) (fun c_6 => ?_)
    refine lv_aload_n hx hb d_M_init_138 rfl (lv_at hl 1 rfl) ?_
    refine wr_get hx hb hts in_M hown hK hP (0) (by omega) rfl rfl 5 (by decide) (hts _ tw_346) rfl d_M_init_139 ?_
    refine lv_iload_n hx hb d_M_init_142 rfl (lv_at hl 0 rfl) ?_
    refine lv_ldc2 (v := 1000000000) hx hb hown (hts _ tw_340) d_M_init_143 ?_
    refine wr_lastZ (E' := mcE g b L [.int (nI L), .ref (adl b 1), .ref (adl b 2), .ref (adl b 3), .ref (adl b 4), .ref (adl b 5), .ref (adl b 6), .ref (adl b 7), .ref (adl b 8), .ref (adl b 9), .ref (adl b 10), .int 0, .int 0, .int 0, .int 0, .int 0, .int 0, .long 0, .int 0, .long 1000000000, .int 0, .ref (adl b 11), .ref (adl b 12), .ref (adl b 13)] (vp_updL (vp_updL (vp_updL (vp_updL (vp_updL (fun _ => 0) 0 1000000000) 1 1000000000) 2 1000000000) 3 1000000000) 4 1000000000)) hx hb hK hP hS hz 5 0 (by omega) rfl rfl 4 (by decide) (by omega) (by omega) (mcU_h _ _ _ _ _ _) d_M_init_146 (fun H locs hP hz hS => ?_)
    refine lv_iinc (v := 5) (lv' := [(2, .int 5), (0, .ref (adl b 0)), (1, .int a1)]) hx hb d_M_init_147 hl (k := 0) rfl (by decide) (by decide) rfl (fun ls hl => ?_)
    refine lv_goto (tgt := 132) hx hb d_M_init_150 (by decide) ?_
    refine lv_iload_n hx hb d_M_init_132 rfl (lv_at hl 0 rfl) ?_
    refine lv_bipush (v := 6) hx hb d_M_init_133 (by decide) ?_
    refine lv_icmp_ge (tgt := 153) hx hb d_M_init_135 (by decide) (fun c_7 => absurd c_7 (by decide)) (fun c_7 => ?_)
    refine lv_aload_n hx hb d_M_init_138 rfl (lv_at hl 1 rfl) ?_
    refine wr_get hx hb hts in_M hown hK hP (0) (by omega) rfl rfl 5 (by decide) (hts _ tw_346) rfl d_M_init_139 ?_
    refine lv_iload_n hx hb d_M_init_142 rfl (lv_at hl 0 rfl) ?_
    refine lv_ldc2 (v := 1000000000) hx hb hown (hts _ tw_340) d_M_init_143 ?_
    refine wr_lastZ (E' := mcE g b L [.int (nI L), .ref (adl b 1), .ref (adl b 2), .ref (adl b 3), .ref (adl b 4), .ref (adl b 5), .ref (adl b 6), .ref (adl b 7), .ref (adl b 8), .ref (adl b 9), .ref (adl b 10), .int 0, .int 0, .int 0, .int 0, .int 0, .int 0, .long 0, .int 0, .long 1000000000, .int 0, .ref (adl b 11), .ref (adl b 12), .ref (adl b 13)] (vp_updL (vp_updL (vp_updL (vp_updL (vp_updL (vp_updL (fun _ => 0) 0 1000000000) 1 1000000000) 2 1000000000) 3 1000000000) 4 1000000000) 5 1000000000)) hx hb hK hP hS hz 5 0 (by omega) rfl rfl 5 (by decide) (by omega) (by omega) (mcU_h _ _ _ _ _ _) d_M_init_146 (fun H locs hP hz hS => ?_)
    refine lv_iinc (v := 6) (lv' := [(2, .int 6), (0, .ref (adl b 0)), (1, .int a1)]) hx hb d_M_init_147 hl (k := 0) rfl (by decide) (by decide) rfl (fun ls hl => ?_)
    refine lv_goto (tgt := 132) hx hb d_M_init_150 (by decide) ?_
    refine lv_iload_n hx hb d_M_init_132 rfl (lv_at hl 0 rfl) ?_
    refine lv_bipush (v := 6) hx hb d_M_init_133 (by decide) ?_
    refine lv_icmp_ge (tgt := 153) hx hb d_M_init_135 (by decide) (fun c_8 => ?_) (fun c_8 => absurd (by decide) c_8)
    refine W.widen (k := 13) (n := 90) (by omega) (by omega) ?_
    exact W.vret hx hb hr (fun t ht hW => ⟨⟨(), rfl, trivial, by dsimp only; rw [ht]; exact ⟨(by rw [← wo_eqE (fun k _ => mcE_end g b L k)]; exact hP), hz⟩⟩, hS.F ht⟩) hS.2.2 d_M_init_153
  · skip
    refine lv_iload_n hx hb d_M_init_116 rfl (lv_at hl 1 rfl) ?_
    refine lv_bipush (v := 6) hx hb d_M_init_117 (by decide) ?_
    refine lv_icmp_gt (tgt := 126) hx hb d_M_init_119 (by decide) (fun c_9 => ?_) (fun c_9 => ?_)
    · skip
      refine lv_iconst (v := 1) hx hb d_M_init_126 (by decide) ?_
      refine W.eq (g2 := F0 m 127 ls [.int (nI L), .ref (adl b 0)]) (by rw [← cnt_gt c_1 c_9 hc]) ?_
      refine wr_putF (E' := mcE g b L [.int (nI L), .ref (adl b 1), .ref (adl b 2), .ref (adl b 3), .ref (adl b 4), .ref (adl b 5), .ref (adl b 6), .ref (adl b 7), .ref (adl b 8), .ref (adl b 9), .ref (adl b 10), .int 0, .int 0, .int 0, .int 0, .int 0, .int 0, .long 0, .int 0, .long 1000000000, .int 0, .ref (adl b 11), .ref (adl b 12), .ref (adl b 13)] (fun _ => 0)) hx hb hts in_M ty_M ty_M_ok n_M hown hK hP hS hz (0) (by omega) rfl rfl 0 (by decide) (hts _ tw_341) rfl hin rfl rfl rfl (Nat.le_of_ble_eq_true rfl) (mcU_f _ _ _ _ _ _) d_M_init_127 (fun H locs hP hz hS => ?_)
      refine lv_iconst (v := 0) hx hb d_M_init_130 (by decide) ?_
      refine lv_istore_n (lv' := [(2, .int 0), (0, .ref (adl b 0)), (1, .int a1)]) hx hb d_M_init_131 rfl hl (by decide) rfl (fun ls hl => ?_)
      refine lv_iload_n hx hb d_M_init_132 rfl (lv_at hl 0 rfl) ?_
      refine lv_bipush (v := 6) hx hb d_M_init_133 (by decide) ?_
      refine lv_icmp_ge (tgt := 153) hx hb d_M_init_135 (by decide) (fun c_10 => absurd c_10 (by decide)) (fun c_10 => ?_)
      refine lv_aload_n hx hb d_M_init_138 rfl (lv_at hl 1 rfl) ?_
      refine wr_get hx hb hts in_M hown hK hP (0) (by omega) rfl rfl 5 (by decide) (hts _ tw_346) rfl d_M_init_139 ?_
      refine lv_iload_n hx hb d_M_init_142 rfl (lv_at hl 0 rfl) ?_
      refine lv_ldc2 (v := 1000000000) hx hb hown (hts _ tw_340) d_M_init_143 ?_
      refine wr_lastZ (E' := mcE g b L [.int (nI L), .ref (adl b 1), .ref (adl b 2), .ref (adl b 3), .ref (adl b 4), .ref (adl b 5), .ref (adl b 6), .ref (adl b 7), .ref (adl b 8), .ref (adl b 9), .ref (adl b 10), .int 0, .int 0, .int 0, .int 0, .int 0, .int 0, .long 0, .int 0, .long 1000000000, .int 0, .ref (adl b 11), .ref (adl b 12), .ref (adl b 13)] (vp_updL (fun _ => 0) 0 1000000000)) hx hb hK hP hS hz 5 0 (by omega) rfl rfl 0 (by decide) (by omega) (by omega) (mcU_h _ _ _ _ _ _) d_M_init_146 (fun H locs hP hz hS => ?_)
      refine lv_iinc (v := 1) (lv' := [(2, .int 1), (0, .ref (adl b 0)), (1, .int a1)]) hx hb d_M_init_147 hl (k := 0) rfl (by decide) (by decide) rfl (fun ls hl => ?_)
      refine lv_goto (tgt := 132) hx hb d_M_init_150 (by decide) ?_
      refine lv_iload_n hx hb d_M_init_132 rfl (lv_at hl 0 rfl) ?_
      refine lv_bipush (v := 6) hx hb d_M_init_133 (by decide) ?_
      refine lv_icmp_ge (tgt := 153) hx hb d_M_init_135 (by decide) (fun c_11 => absurd c_11 (by decide)) (fun c_11 => ?_)
      refine lv_aload_n hx hb d_M_init_138 rfl (lv_at hl 1 rfl) ?_
      refine wr_get hx hb hts in_M hown hK hP (0) (by omega) rfl rfl 5 (by decide) (hts _ tw_346) rfl d_M_init_139 ?_
      refine lv_iload_n hx hb d_M_init_142 rfl (lv_at hl 0 rfl) ?_
      refine lv_ldc2 (v := 1000000000) hx hb hown (hts _ tw_340) d_M_init_143 ?_
      refine wr_lastZ (E' := mcE g b L [.int (nI L), .ref (adl b 1), .ref (adl b 2), .ref (adl b 3), .ref (adl b 4), .ref (adl b 5), .ref (adl b 6), .ref (adl b 7), .ref (adl b 8), .ref (adl b 9), .ref (adl b 10), .int 0, .int 0, .int 0, .int 0, .int 0, .int 0, .long 0, .int 0, .long 1000000000, .int 0, .ref (adl b 11), .ref (adl b 12), .ref (adl b 13)] (vp_updL (vp_updL (fun _ => 0) 0 1000000000) 1 1000000000)) hx hb hK hP hS hz 5 0 (by omega) rfl rfl 1 (by decide) (by omega) (by omega) (mcU_h _ _ _ _ _ _) d_M_init_146 (fun H locs hP hz hS => ?_)
      refine lv_iinc (v := 2) (lv' := [(2, .int 2), (0, .ref (adl b 0)), (1, .int a1)]) hx hb d_M_init_147 hl (k := 0) rfl (by decide) (by decide) rfl (fun ls hl => ?_)
      refine lv_goto (tgt := 132) hx hb d_M_init_150 (by decide) ?_
      refine lv_iload_n hx hb d_M_init_132 rfl (lv_at hl 0 rfl) ?_
      refine lv_bipush (v := 6) hx hb d_M_init_133 (by decide) ?_
      refine lv_icmp_ge (tgt := 153) hx hb d_M_init_135 (by decide) (fun c_12 => absurd c_12 (by decide)) (fun c_12 => ?_)
      refine lv_aload_n hx hb d_M_init_138 rfl (lv_at hl 1 rfl) ?_
      refine wr_get hx hb hts in_M hown hK hP (0) (by omega) rfl rfl 5 (by decide) (hts _ tw_346) rfl d_M_init_139 ?_
      refine lv_iload_n hx hb d_M_init_142 rfl (lv_at hl 0 rfl) ?_
      refine lv_ldc2 (v := 1000000000) hx hb hown (hts _ tw_340) d_M_init_143 ?_
      refine wr_lastZ (E' := mcE g b L [.int (nI L), .ref (adl b 1), .ref (adl b 2), .ref (adl b 3), .ref (adl b 4), .ref (adl b 5), .ref (adl b 6), .ref (adl b 7), .ref (adl b 8), .ref (adl b 9), .ref (adl b 10), .int 0, .int 0, .int 0, .int 0, .int 0, .int 0, .long 0, .int 0, .long 1000000000, .int 0, .ref (adl b 11), .ref (adl b 12), .ref (adl b 13)] (vp_updL (vp_updL (vp_updL (fun _ => 0) 0 1000000000) 1 1000000000) 2 1000000000)) hx hb hK hP hS hz 5 0 (by omega) rfl rfl 2 (by decide) (by omega) (by omega) (mcU_h _ _ _ _ _ _) d_M_init_146 (fun H locs hP hz hS => ?_)
      refine lv_iinc (v := 3) (lv' := [(2, .int 3), (0, .ref (adl b 0)), (1, .int a1)]) hx hb d_M_init_147 hl (k := 0) rfl (by decide) (by decide) rfl (fun ls hl => ?_)
      refine lv_goto (tgt := 132) hx hb d_M_init_150 (by decide) ?_
      refine lv_iload_n hx hb d_M_init_132 rfl (lv_at hl 0 rfl) ?_
      refine lv_bipush (v := 6) hx hb d_M_init_133 (by decide) ?_
      refine lv_icmp_ge (tgt := 153) hx hb d_M_init_135 (by decide) (fun c_13 => absurd c_13 (by decide)) (fun c_13 => ?_)
      refine lv_aload_n hx hb d_M_init_138 rfl (lv_at hl 1 rfl) ?_
      refine wr_get hx hb hts in_M hown hK hP (0) (by omega) rfl rfl 5 (by decide) (hts _ tw_346) rfl d_M_init_139 ?_
      refine lv_iload_n hx hb d_M_init_142 rfl (lv_at hl 0 rfl) ?_
      refine lv_ldc2 (v := 1000000000) hx hb hown (hts _ tw_340) d_M_init_143 ?_
      refine wr_lastZ (E' := mcE g b L [.int (nI L), .ref (adl b 1), .ref (adl b 2), .ref (adl b 3), .ref (adl b 4), .ref (adl b 5), .ref (adl b 6), .ref (adl b 7), .ref (adl b 8), .ref (adl b 9), .ref (adl b 10), .int 0, .int 0, .int 0, .int 0, .int 0, .int 0, .long 0, .int 0, .long 1000000000, .int 0, .ref (adl b 11), .ref (adl b 12), .ref (adl b 13)] (vp_updL (vp_updL (vp_updL (vp_updL (fun _ => 0) 0 1000000000) 1 1000000000) 2 1000000000) 3 1000000000)) hx hb hK hP hS hz 5 0 (by omega) rfl rfl 3 (by decide) (by omega) (by omega) (mcU_h _ _ _ _ _ _) d_M_init_146 (fun H locs hP hz hS => ?_)
      refine lv_iinc (v := 4) (lv' := [(2, .int 4), (0, .ref (adl b 0)), (1, .int a1)]) hx hb d_M_init_147 hl (k := 0) rfl (by decide) (by decide) rfl (fun ls hl => ?_)
      refine lv_goto (tgt := 132) hx hb d_M_init_150 (by decide) ?_
      refine lv_iload_n hx hb d_M_init_132 rfl (lv_at hl 0 rfl) ?_
      refine lv_bipush (v := 6) hx hb d_M_init_133 (by decide) ?_
      refine lv_icmp_ge (tgt := 153) hx hb d_M_init_135 (by decide) (fun c_14 => absurd c_14 (by decide)) (fun c_14 => ?_)
      refine lv_aload_n hx hb d_M_init_138 rfl (lv_at hl 1 rfl) ?_
      refine wr_get hx hb hts in_M hown hK hP (0) (by omega) rfl rfl 5 (by decide) (hts _ tw_346) rfl d_M_init_139 ?_
      refine lv_iload_n hx hb d_M_init_142 rfl (lv_at hl 0 rfl) ?_
      refine lv_ldc2 (v := 1000000000) hx hb hown (hts _ tw_340) d_M_init_143 ?_
      refine wr_lastZ (E' := mcE g b L [.int (nI L), .ref (adl b 1), .ref (adl b 2), .ref (adl b 3), .ref (adl b 4), .ref (adl b 5), .ref (adl b 6), .ref (adl b 7), .ref (adl b 8), .ref (adl b 9), .ref (adl b 10), .int 0, .int 0, .int 0, .int 0, .int 0, .int 0, .long 0, .int 0, .long 1000000000, .int 0, .ref (adl b 11), .ref (adl b 12), .ref (adl b 13)] (vp_updL (vp_updL (vp_updL (vp_updL (vp_updL (fun _ => 0) 0 1000000000) 1 1000000000) 2 1000000000) 3 1000000000) 4 1000000000)) hx hb hK hP hS hz 5 0 (by omega) rfl rfl 4 (by decide) (by omega) (by omega) (mcU_h _ _ _ _ _ _) d_M_init_146 (fun H locs hP hz hS => ?_)
      refine lv_iinc (v := 5) (lv' := [(2, .int 5), (0, .ref (adl b 0)), (1, .int a1)]) hx hb d_M_init_147 hl (k := 0) rfl (by decide) (by decide) rfl (fun ls hl => ?_)
      refine lv_goto (tgt := 132) hx hb d_M_init_150 (by decide) ?_
      refine lv_iload_n hx hb d_M_init_132 rfl (lv_at hl 0 rfl) ?_
      refine lv_bipush (v := 6) hx hb d_M_init_133 (by decide) ?_
      refine lv_icmp_ge (tgt := 153) hx hb d_M_init_135 (by decide) (fun c_15 => absurd c_15 (by decide)) (fun c_15 => ?_)
      refine lv_aload_n hx hb d_M_init_138 rfl (lv_at hl 1 rfl) ?_
      refine wr_get hx hb hts in_M hown hK hP (0) (by omega) rfl rfl 5 (by decide) (hts _ tw_346) rfl d_M_init_139 ?_
      refine lv_iload_n hx hb d_M_init_142 rfl (lv_at hl 0 rfl) ?_
      refine lv_ldc2 (v := 1000000000) hx hb hown (hts _ tw_340) d_M_init_143 ?_
      refine wr_lastZ (E' := mcE g b L [.int (nI L), .ref (adl b 1), .ref (adl b 2), .ref (adl b 3), .ref (adl b 4), .ref (adl b 5), .ref (adl b 6), .ref (adl b 7), .ref (adl b 8), .ref (adl b 9), .ref (adl b 10), .int 0, .int 0, .int 0, .int 0, .int 0, .int 0, .long 0, .int 0, .long 1000000000, .int 0, .ref (adl b 11), .ref (adl b 12), .ref (adl b 13)] (vp_updL (vp_updL (vp_updL (vp_updL (vp_updL (vp_updL (fun _ => 0) 0 1000000000) 1 1000000000) 2 1000000000) 3 1000000000) 4 1000000000) 5 1000000000)) hx hb hK hP hS hz 5 0 (by omega) rfl rfl 5 (by decide) (by omega) (by omega) (mcU_h _ _ _ _ _ _) d_M_init_146 (fun H locs hP hz hS => ?_)
      refine lv_iinc (v := 6) (lv' := [(2, .int 6), (0, .ref (adl b 0)), (1, .int a1)]) hx hb d_M_init_147 hl (k := 0) rfl (by decide) (by decide) rfl (fun ls hl => ?_)
      refine lv_goto (tgt := 132) hx hb d_M_init_150 (by decide) ?_
      refine lv_iload_n hx hb d_M_init_132 rfl (lv_at hl 0 rfl) ?_
      refine lv_bipush (v := 6) hx hb d_M_init_133 (by decide) ?_
      refine lv_icmp_ge (tgt := 153) hx hb d_M_init_135 (by decide) (fun c_16 => ?_) (fun c_16 => absurd (by decide) c_16)
      refine W.widen (k := 13) (n := 90) (by omega) (by omega) ?_
      exact W.vret hx hb hr (fun t ht hW => ⟨⟨(), rfl, trivial, by dsimp only; rw [ht]; exact ⟨(by rw [← wo_eqE (fun k _ => mcE_end g b L k)]; exact hP), hz⟩⟩, hS.F ht⟩) hS.2.2 d_M_init_153
    · skip
      refine lv_iload_n hx hb d_M_init_122 rfl (lv_at hl 1 rfl) ?_
      refine lv_goto (tgt := 127) hx hb d_M_init_123 (by decide) ?_
      refine W.eq (g2 := F0 m 127 ls [.int (nI L), .ref (adl b 0)]) (by rw [← cnt_in c_1 c_9 hc]) ?_
      refine wr_putF (E' := mcE g b L [.int (nI L), .ref (adl b 1), .ref (adl b 2), .ref (adl b 3), .ref (adl b 4), .ref (adl b 5), .ref (adl b 6), .ref (adl b 7), .ref (adl b 8), .ref (adl b 9), .ref (adl b 10), .int 0, .int 0, .int 0, .int 0, .int 0, .int 0, .long 0, .int 0, .long 1000000000, .int 0, .ref (adl b 11), .ref (adl b 12), .ref (adl b 13)] (fun _ => 0)) hx hb hts in_M ty_M ty_M_ok n_M hown hK hP hS hz (0) (by omega) rfl rfl 0 (by decide) (hts _ tw_341) rfl hin rfl rfl rfl (Nat.le_of_ble_eq_true rfl) (mcU_f _ _ _ _ _ _) d_M_init_127 (fun H locs hP hz hS => ?_)
      refine lv_iconst (v := 0) hx hb d_M_init_130 (by decide) ?_
      refine lv_istore_n (lv' := [(2, .int 0), (0, .ref (adl b 0)), (1, .int a1)]) hx hb d_M_init_131 rfl hl (by decide) rfl (fun ls hl => ?_)
      refine lv_iload_n hx hb d_M_init_132 rfl (lv_at hl 0 rfl) ?_
      refine lv_bipush (v := 6) hx hb d_M_init_133 (by decide) ?_
      refine lv_icmp_ge (tgt := 153) hx hb d_M_init_135 (by decide) (fun c_17 => absurd c_17 (by decide)) (fun c_17 => ?_)
      refine lv_aload_n hx hb d_M_init_138 rfl (lv_at hl 1 rfl) ?_
      refine wr_get hx hb hts in_M hown hK hP (0) (by omega) rfl rfl 5 (by decide) (hts _ tw_346) rfl d_M_init_139 ?_
      refine lv_iload_n hx hb d_M_init_142 rfl (lv_at hl 0 rfl) ?_
      refine lv_ldc2 (v := 1000000000) hx hb hown (hts _ tw_340) d_M_init_143 ?_
      refine wr_lastZ (E' := mcE g b L [.int (nI L), .ref (adl b 1), .ref (adl b 2), .ref (adl b 3), .ref (adl b 4), .ref (adl b 5), .ref (adl b 6), .ref (adl b 7), .ref (adl b 8), .ref (adl b 9), .ref (adl b 10), .int 0, .int 0, .int 0, .int 0, .int 0, .int 0, .long 0, .int 0, .long 1000000000, .int 0, .ref (adl b 11), .ref (adl b 12), .ref (adl b 13)] (vp_updL (fun _ => 0) 0 1000000000)) hx hb hK hP hS hz 5 0 (by omega) rfl rfl 0 (by decide) (by omega) (by omega) (mcU_h _ _ _ _ _ _) d_M_init_146 (fun H locs hP hz hS => ?_)
      refine lv_iinc (v := 1) (lv' := [(2, .int 1), (0, .ref (adl b 0)), (1, .int a1)]) hx hb d_M_init_147 hl (k := 0) rfl (by decide) (by decide) rfl (fun ls hl => ?_)
      refine lv_goto (tgt := 132) hx hb d_M_init_150 (by decide) ?_
      refine lv_iload_n hx hb d_M_init_132 rfl (lv_at hl 0 rfl) ?_
      refine lv_bipush (v := 6) hx hb d_M_init_133 (by decide) ?_
      refine lv_icmp_ge (tgt := 153) hx hb d_M_init_135 (by decide) (fun c_18 => absurd c_18 (by decide)) (fun c_18 => ?_)
      refine lv_aload_n hx hb d_M_init_138 rfl (lv_at hl 1 rfl) ?_
      refine wr_get hx hb hts in_M hown hK hP (0) (by omega) rfl rfl 5 (by decide) (hts _ tw_346) rfl d_M_init_139 ?_
      refine lv_iload_n hx hb d_M_init_142 rfl (lv_at hl 0 rfl) ?_
      refine lv_ldc2 (v := 1000000000) hx hb hown (hts _ tw_340) d_M_init_143 ?_
      refine wr_lastZ (E' := mcE g b L [.int (nI L), .ref (adl b 1), .ref (adl b 2), .ref (adl b 3), .ref (adl b 4), .ref (adl b 5), .ref (adl b 6), .ref (adl b 7), .ref (adl b 8), .ref (adl b 9), .ref (adl b 10), .int 0, .int 0, .int 0, .int 0, .int 0, .int 0, .long 0, .int 0, .long 1000000000, .int 0, .ref (adl b 11), .ref (adl b 12), .ref (adl b 13)] (vp_updL (vp_updL (fun _ => 0) 0 1000000000) 1 1000000000)) hx hb hK hP hS hz 5 0 (by omega) rfl rfl 1 (by decide) (by omega) (by omega) (mcU_h _ _ _ _ _ _) d_M_init_146 (fun H locs hP hz hS => ?_)
      refine lv_iinc (v := 2) (lv' := [(2, .int 2), (0, .ref (adl b 0)), (1, .int a1)]) hx hb d_M_init_147 hl (k := 0) rfl (by decide) (by decide) rfl (fun ls hl => ?_)
      refine lv_goto (tgt := 132) hx hb d_M_init_150 (by decide) ?_
      refine lv_iload_n hx hb d_M_init_132 rfl (lv_at hl 0 rfl) ?_
      refine lv_bipush (v := 6) hx hb d_M_init_133 (by decide) ?_
      refine lv_icmp_ge (tgt := 153) hx hb d_M_init_135 (by decide) (fun c_19 => absurd c_19 (by decide)) (fun c_19 => ?_)
      refine lv_aload_n hx hb d_M_init_138 rfl (lv_at hl 1 rfl) ?_
      refine wr_get hx hb hts in_M hown hK hP (0) (by omega) rfl rfl 5 (by decide) (hts _ tw_346) rfl d_M_init_139 ?_
      refine lv_iload_n hx hb d_M_init_142 rfl (lv_at hl 0 rfl) ?_
      refine lv_ldc2 (v := 1000000000) hx hb hown (hts _ tw_340) d_M_init_143 ?_
      refine wr_lastZ (E' := mcE g b L [.int (nI L), .ref (adl b 1), .ref (adl b 2), .ref (adl b 3), .ref (adl b 4), .ref (adl b 5), .ref (adl b 6), .ref (adl b 7), .ref (adl b 8), .ref (adl b 9), .ref (adl b 10), .int 0, .int 0, .int 0, .int 0, .int 0, .int 0, .long 0, .int 0, .long 1000000000, .int 0, .ref (adl b 11), .ref (adl b 12), .ref (adl b 13)] (vp_updL (vp_updL (vp_updL (fun _ => 0) 0 1000000000) 1 1000000000) 2 1000000000)) hx hb hK hP hS hz 5 0 (by omega) rfl rfl 2 (by decide) (by omega) (by omega) (mcU_h _ _ _ _ _ _) d_M_init_146 (fun H locs hP hz hS => ?_)
      refine lv_iinc (v := 3) (lv' := [(2, .int 3), (0, .ref (adl b 0)), (1, .int a1)]) hx hb d_M_init_147 hl (k := 0) rfl (by decide) (by decide) rfl (fun ls hl => ?_)
      refine lv_goto (tgt := 132) hx hb d_M_init_150 (by decide) ?_
      refine lv_iload_n hx hb d_M_init_132 rfl (lv_at hl 0 rfl) ?_
      refine lv_bipush (v := 6) hx hb d_M_init_133 (by decide) ?_
      refine lv_icmp_ge (tgt := 153) hx hb d_M_init_135 (by decide) (fun c_20 => absurd c_20 (by decide)) (fun c_20 => ?_)
      refine lv_aload_n hx hb d_M_init_138 rfl (lv_at hl 1 rfl) ?_
      refine wr_get hx hb hts in_M hown hK hP (0) (by omega) rfl rfl 5 (by decide) (hts _ tw_346) rfl d_M_init_139 ?_
      refine lv_iload_n hx hb d_M_init_142 rfl (lv_at hl 0 rfl) ?_
      refine lv_ldc2 (v := 1000000000) hx hb hown (hts _ tw_340) d_M_init_143 ?_
      refine wr_lastZ (E' := mcE g b L [.int (nI L), .ref (adl b 1), .ref (adl b 2), .ref (adl b 3), .ref (adl b 4), .ref (adl b 5), .ref (adl b 6), .ref (adl b 7), .ref (adl b 8), .ref (adl b 9), .ref (adl b 10), .int 0, .int 0, .int 0, .int 0, .int 0, .int 0, .long 0, .int 0, .long 1000000000, .int 0, .ref (adl b 11), .ref (adl b 12), .ref (adl b 13)] (vp_updL (vp_updL (vp_updL (vp_updL (fun _ => 0) 0 1000000000) 1 1000000000) 2 1000000000) 3 1000000000)) hx hb hK hP hS hz 5 0 (by omega) rfl rfl 3 (by decide) (by omega) (by omega) (mcU_h _ _ _ _ _ _) d_M_init_146 (fun H locs hP hz hS => ?_)
      refine lv_iinc (v := 4) (lv' := [(2, .int 4), (0, .ref (adl b 0)), (1, .int a1)]) hx hb d_M_init_147 hl (k := 0) rfl (by decide) (by decide) rfl (fun ls hl => ?_)
      refine lv_goto (tgt := 132) hx hb d_M_init_150 (by decide) ?_
      refine lv_iload_n hx hb d_M_init_132 rfl (lv_at hl 0 rfl) ?_
      refine lv_bipush (v := 6) hx hb d_M_init_133 (by decide) ?_
      refine lv_icmp_ge (tgt := 153) hx hb d_M_init_135 (by decide) (fun c_21 => absurd c_21 (by decide)) (fun c_21 => ?_)
      refine lv_aload_n hx hb d_M_init_138 rfl (lv_at hl 1 rfl) ?_
      refine wr_get hx hb hts in_M hown hK hP (0) (by omega) rfl rfl 5 (by decide) (hts _ tw_346) rfl d_M_init_139 ?_
      refine lv_iload_n hx hb d_M_init_142 rfl (lv_at hl 0 rfl) ?_
      refine lv_ldc2 (v := 1000000000) hx hb hown (hts _ tw_340) d_M_init_143 ?_
      refine wr_lastZ (E' := mcE g b L [.int (nI L), .ref (adl b 1), .ref (adl b 2), .ref (adl b 3), .ref (adl b 4), .ref (adl b 5), .ref (adl b 6), .ref (adl b 7), .ref (adl b 8), .ref (adl b 9), .ref (adl b 10), .int 0, .int 0, .int 0, .int 0, .int 0, .int 0, .long 0, .int 0, .long 1000000000, .int 0, .ref (adl b 11), .ref (adl b 12), .ref (adl b 13)] (vp_updL (vp_updL (vp_updL (vp_updL (vp_updL (fun _ => 0) 0 1000000000) 1 1000000000) 2 1000000000) 3 1000000000) 4 1000000000)) hx hb hK hP hS hz 5 0 (by omega) rfl rfl 4 (by decide) (by omega) (by omega) (mcU_h _ _ _ _ _ _) d_M_init_146 (fun H locs hP hz hS => ?_)
      refine lv_iinc (v := 5) (lv' := [(2, .int 5), (0, .ref (adl b 0)), (1, .int a1)]) hx hb d_M_init_147 hl (k := 0) rfl (by decide) (by decide) rfl (fun ls hl => ?_)
      refine lv_goto (tgt := 132) hx hb d_M_init_150 (by decide) ?_
      refine lv_iload_n hx hb d_M_init_132 rfl (lv_at hl 0 rfl) ?_
      refine lv_bipush (v := 6) hx hb d_M_init_133 (by decide) ?_
      refine lv_icmp_ge (tgt := 153) hx hb d_M_init_135 (by decide) (fun c_22 => absurd c_22 (by decide)) (fun c_22 => ?_)
      refine lv_aload_n hx hb d_M_init_138 rfl (lv_at hl 1 rfl) ?_
      refine wr_get hx hb hts in_M hown hK hP (0) (by omega) rfl rfl 5 (by decide) (hts _ tw_346) rfl d_M_init_139 ?_
      refine lv_iload_n hx hb d_M_init_142 rfl (lv_at hl 0 rfl) ?_
      refine lv_ldc2 (v := 1000000000) hx hb hown (hts _ tw_340) d_M_init_143 ?_
      refine wr_lastZ (E' := mcE g b L [.int (nI L), .ref (adl b 1), .ref (adl b 2), .ref (adl b 3), .ref (adl b 4), .ref (adl b 5), .ref (adl b 6), .ref (adl b 7), .ref (adl b 8), .ref (adl b 9), .ref (adl b 10), .int 0, .int 0, .int 0, .int 0, .int 0, .int 0, .long 0, .int 0, .long 1000000000, .int 0, .ref (adl b 11), .ref (adl b 12), .ref (adl b 13)] (vp_updL (vp_updL (vp_updL (vp_updL (vp_updL (vp_updL (fun _ => 0) 0 1000000000) 1 1000000000) 2 1000000000) 3 1000000000) 4 1000000000) 5 1000000000)) hx hb hK hP hS hz 5 0 (by omega) rfl rfl 5 (by decide) (by omega) (by omega) (mcU_h _ _ _ _ _ _) d_M_init_146 (fun H locs hP hz hS => ?_)
      refine lv_iinc (v := 6) (lv' := [(2, .int 6), (0, .ref (adl b 0)), (1, .int a1)]) hx hb d_M_init_147 hl (k := 0) rfl (by decide) (by decide) rfl (fun ls hl => ?_)
      refine lv_goto (tgt := 132) hx hb d_M_init_150 (by decide) ?_
      refine lv_iload_n hx hb d_M_init_132 rfl (lv_at hl 0 rfl) ?_
      refine lv_bipush (v := 6) hx hb d_M_init_133 (by decide) ?_
      refine lv_icmp_ge (tgt := 153) hx hb d_M_init_135 (by decide) (fun c_23 => ?_) (fun c_23 => absurd (by decide) c_23)
      refine W.widen (k := 13) (n := 90) (by omega) (by omega) ?_
      exact W.vret hx hb hr (fun t ht hW => ⟨⟨(), rfl, trivial, by dsimp only; rw [ht]; exact ⟨(by rw [← wo_eqE (fun k _ => mcE_end g b L k)]; exact hP), hz⟩⟩, hS.F ht⟩) hS.2.2 d_M_init_153
