theorem d_X_init_0 : decode b_X_init 0 = .ok (.aload_n 0, 1) := by decide +kernel
theorem d_X_init_1 : decode b_X_init 1 = .ok (.invokespecial 1, 3) := by decide +kernel
theorem d_X_init_4 : decode b_X_init 4 = .ok (.aload_n 0, 1) := by decide +kernel
theorem d_X_init_5 : decode b_X_init 5 = .ok (.iconst 3, 1) := by decide +kernel
theorem d_X_init_6 : decode b_X_init 6 = .ok (.anewarray 9, 3) := by decide +kernel
theorem d_X_init_9 : decode b_X_init 9 = .ok (.putfield 11, 3) := by decide +kernel
theorem d_X_init_12 : decode b_X_init 12 = .ok (.aload_n 0, 1) := by decide +kernel
theorem d_X_init_13 : decode b_X_init 13 = .ok (.new 15, 3) := by decide +kernel
theorem d_X_init_16 : decode b_X_init 16 = .ok (.dup, 1) := by decide +kernel
theorem d_X_init_17 : decode b_X_init 17 = .ok (.invokespecial 17, 3) := by decide +kernel
theorem d_X_init_20 : decode b_X_init 20 = .ok (.putfield 18, 3) := by decide +kernel
theorem d_X_init_23 : decode b_X_init 23 = .ok (.aload_n 0, 1) := by decide +kernel
theorem d_X_init_24 : decode b_X_init 24 = .ok (.bipush 9, 2) := by decide +kernel
theorem d_X_init_26 : decode b_X_init 26 = .ok (.newarray .long, 2) := by decide +kernel
theorem d_X_init_28 : decode b_X_init 28 = .ok (.putfield 22, 3) := by decide +kernel
theorem d_X_init_31 : decode b_X_init 31 = .ok (.aload_n 0, 1) := by decide +kernel
theorem d_X_init_32 : decode b_X_init 32 = .ok (.iconst 5, 1) := by decide +kernel
theorem d_X_init_33 : decode b_X_init 33 = .ok (.newarray .long, 2) := by decide +kernel
theorem d_X_init_35 : decode b_X_init 35 = .ok (.putfield 26, 3) := by decide +kernel
theorem d_X_init_38 : decode b_X_init 38 = .ok (.aload_n 0, 1) := by decide +kernel
theorem d_X_init_39 : decode b_X_init 39 = .ok (.iconst 5, 1) := by decide +kernel
theorem d_X_init_40 : decode b_X_init 40 = .ok (.newarray .long, 2) := by decide +kernel
theorem d_X_init_42 : decode b_X_init 42 = .ok (.putfield 29, 3) := by decide +kernel
theorem d_X_init_45 : decode b_X_init 45 = .ok (.aload_n 0, 1) := by decide +kernel
theorem d_X_init_46 : decode b_X_init 46 = .ok (.iconst 0, 1) := by decide +kernel
theorem d_X_init_47 : decode b_X_init 47 = .ok (.putfield 32, 3) := by decide +kernel
theorem d_X_init_50 : decode b_X_init 50 = .ok (.aload_n 0, 1) := by decide +kernel
theorem d_X_init_51 : decode b_X_init 51 = .ok (.iconst 0, 1) := by decide +kernel
theorem d_X_init_52 : decode b_X_init 52 = .ok (.putfield 36, 3) := by decide +kernel
theorem d_X_init_55 : decode b_X_init 55 = .ok (.aload_n 0, 1) := by decide +kernel
theorem d_X_init_56 : decode b_X_init 56 = .ok (.ldc 39, 2) := by decide +kernel
theorem d_X_init_58 : decode b_X_init 58 = .ok (.putfield 40, 3) := by decide +kernel
theorem d_X_init_61 : decode b_X_init 61 = .ok (.aload_n 0, 1) := by decide +kernel
theorem d_X_init_62 : decode b_X_init 62 = .ok (.iconst 0, 1) := by decide +kernel
theorem d_X_init_63 : decode b_X_init 63 = .ok (.putfield 43, 3) := by decide +kernel
theorem d_X_init_66 : decode b_X_init 66 = .ok (.iload_n 1, 1) := by decide +kernel
theorem d_X_init_67 : decode b_X_init 67 = .ok (.iconst 1, 1) := by decide +kernel
theorem d_X_init_68 : decode b_X_init 68 = .ok (.bipush 6, 2) := by decide +kernel
theorem d_X_init_70 : decode b_X_init 70 = .ok (.invokestatic 46, 3) := by decide +kernel
theorem d_X_init_73 : decode b_X_init 73 = .ok (.ifCond .eq 7, 3) := by decide +kernel
theorem d_X_init_76 : decode b_X_init 76 = .ok (.iload_n 1, 1) := by decide +kernel
theorem d_X_init_77 : decode b_X_init 77 = .ok (.goto 4, 3) := by decide +kernel
theorem d_X_init_80 : decode b_X_init 80 = .ok (.iconst 1, 1) := by decide +kernel
theorem d_X_init_81 : decode b_X_init 81 = .ok (.istore_n 2, 1) := by decide +kernel
theorem d_X_init_82 : decode b_X_init 82 = .ok (.aload_n 0, 1) := by decide +kernel
theorem d_X_init_83 : decode b_X_init 83 = .ok (.iload_n 2, 1) := by decide +kernel
theorem d_X_init_84 : decode b_X_init 84 = .ok (.anewarray 50, 3) := by decide +kernel
theorem d_X_init_87 : decode b_X_init 87 = .ok (.putfield 52, 3) := by decide +kernel
theorem d_X_init_90 : decode b_X_init 90 = .ok (.iconst 0, 1) := by decide +kernel
theorem d_X_init_91 : decode b_X_init 91 = .ok (.istore_n 3, 1) := by decide +kernel
theorem d_X_init_92 : decode b_X_init 92 = .ok (.iload_n 3, 1) := by decide +kernel
theorem d_X_init_93 : decode b_X_init 93 = .ok (.iload_n 2, 1) := by decide +kernel
theorem d_X_init_94 : decode b_X_init 94 = .ok (.if_icmp .ge 22, 3) := by decide +kernel
theorem d_X_init_97 : decode b_X_init 97 = .ok (.aload_n 0, 1) := by decide +kernel
theorem d_X_init_98 : decode b_X_init 98 = .ok (.getfield 52, 3) := by decide +kernel
theorem d_X_init_101 : decode b_X_init 101 = .ok (.iload_n 3, 1) := by decide +kernel
theorem d_X_init_102 : decode b_X_init 102 = .ok (.new 50, 3) := by decide +kernel
theorem d_X_init_105 : decode b_X_init 105 = .ok (.dup, 1) := by decide +kernel
theorem d_X_init_106 : decode b_X_init 106 = .ok (.invokespecial 56, 3) := by decide +kernel
theorem d_X_init_109 : decode b_X_init 109 = .ok (.aastore, 1) := by decide +kernel
theorem d_X_init_110 : decode b_X_init 110 = .ok (.iinc 3 1, 3) := by decide +kernel
theorem d_X_init_113 : decode b_X_init 113 = .ok (.goto (-21), 3) := by decide +kernel
theorem d_X_init_116 : decode b_X_init 116 = .ok (.iconst 0, 1) := by decide +kernel
theorem d_X_init_117 : decode b_X_init 117 = .ok (.istore_n 3, 1) := by decide +kernel
theorem d_X_init_118 : decode b_X_init 118 = .ok (.iload_n 3, 1) := by decide +kernel
theorem d_X_init_119 : decode b_X_init 119 = .ok (.iconst 3, 1) := by decide +kernel
theorem d_X_init_120 : decode b_X_init 120 = .ok (.if_icmp .ge 22, 3) := by decide +kernel
theorem d_X_init_123 : decode b_X_init 123 = .ok (.aload_n 0, 1) := by decide +kernel
theorem d_X_init_124 : decode b_X_init 124 = .ok (.getfield 11, 3) := by decide +kernel
theorem d_X_init_127 : decode b_X_init 127 = .ok (.iload_n 3, 1) := by decide +kernel
theorem d_X_init_128 : decode b_X_init 128 = .ok (.new 9, 3) := by decide +kernel
theorem d_X_init_131 : decode b_X_init 131 = .ok (.dup, 1) := by decide +kernel
theorem d_X_init_132 : decode b_X_init 132 = .ok (.invokespecial 57, 3) := by decide +kernel
theorem d_X_init_135 : decode b_X_init 135 = .ok (.aastore, 1) := by decide +kernel
theorem d_X_init_136 : decode b_X_init 136 = .ok (.iinc 3 1, 3) := by decide +kernel
theorem d_X_init_139 : decode b_X_init 139 = .ok (.goto (-21), 3) := by decide +kernel
theorem d_X_init_142 : decode b_X_init 142 = .ok (.return_, 1) := by decide +kernel
theorem d_F_init_0 : decode b_F_init 0 = .ok (.aload_n 0, 1) := by decide +kernel
theorem d_F_init_1 : decode b_F_init 1 = .ok (.invokespecial 3, 3) := by decide +kernel
theorem d_F_init_4 : decode b_F_init 4 = .ok (.aload_n 0, 1) := by decide +kernel
theorem d_F_init_5 : decode b_F_init 5 = .ok (.iconst 0, 1) := by decide +kernel
theorem d_F_init_6 : decode b_F_init 6 = .ok (.putfield 9, 3) := by decide +kernel
theorem d_F_init_9 : decode b_F_init 9 = .ok (.aload_n 0, 1) := by decide +kernel
theorem d_F_init_10 : decode b_F_init 10 = .ok (.iconst 0, 1) := by decide +kernel
theorem d_F_init_11 : decode b_F_init 11 = .ok (.putfield 15, 3) := by decide +kernel
theorem d_F_init_14 : decode b_F_init 14 = .ok (.aload_n 0, 1) := by decide +kernel
theorem d_F_init_15 : decode b_F_init 15 = .ok (.iconst 0, 1) := by decide +kernel
theorem d_F_init_16 : decode b_F_init 16 = .ok (.putfield 19, 3) := by decide +kernel
theorem d_F_init_19 : decode b_F_init 19 = .ok (.aload_n 0, 1) := by decide +kernel
theorem d_F_init_20 : decode b_F_init 20 = .ok (.iconst 0, 1) := by decide +kernel
theorem d_F_init_21 : decode b_F_init 21 = .ok (.putfield 22, 3) := by decide +kernel
theorem d_F_init_24 : decode b_F_init 24 = .ok (.aload_n 0, 1) := by decide +kernel
theorem d_F_init_25 : decode b_F_init 25 = .ok (.lconst 0, 1) := by decide +kernel
theorem d_F_init_26 : decode b_F_init 26 = .ok (.putfield 25, 3) := by decide +kernel
theorem d_F_init_29 : decode b_F_init 29 = .ok (.aload_n 0, 1) := by decide +kernel
theorem d_F_init_30 : decode b_F_init 30 = .ok (.iconst 0, 1) := by decide +kernel
theorem d_F_init_31 : decode b_F_init 31 = .ok (.putfield 29, 3) := by decide +kernel
theorem d_F_init_34 : decode b_F_init 34 = .ok (.return_, 1) := by decide +kernel
theorem d_X_within_0 : decode b_X_within 0 = .ok (.iload_n 0, 1) := by decide +kernel
theorem d_X_within_1 : decode b_X_within 1 = .ok (.iload_n 1, 1) := by decide +kernel
theorem d_X_within_2 : decode b_X_within 2 = .ok (.if_icmp .lt 12, 3) := by decide +kernel
theorem d_X_within_5 : decode b_X_within 5 = .ok (.iload_n 0, 1) := by decide +kernel
theorem d_X_within_6 : decode b_X_within 6 = .ok (.iload_n 2, 1) := by decide +kernel
theorem d_X_within_7 : decode b_X_within 7 = .ok (.if_icmp .gt 7, 3) := by decide +kernel
theorem d_X_within_10 : decode b_X_within 10 = .ok (.iconst 1, 1) := by decide +kernel
theorem d_X_within_11 : decode b_X_within 11 = .ok (.goto 4, 3) := by decide +kernel
theorem d_X_within_14 : decode b_X_within 14 = .ok (.iconst 0, 1) := by decide +kernel
theorem d_X_within_15 : decode b_X_within 15 = .ok (.ireturn, 1) := by decide +kernel
theorem d_Y_init_0 : decode b_Y_init 0 = .ok (.aload_n 0, 1) := by decide +kernel
theorem d_Y_init_1 : decode b_Y_init 1 = .ok (.invokespecial 3, 3) := by decide +kernel
theorem d_Y_init_4 : decode b_Y_init 4 = .ok (.aload_n 0, 1) := by decide +kernel
theorem d_Y_init_5 : decode b_Y_init 5 = .ok (.iconst 5, 1) := by decide +kernel
theorem d_Y_init_6 : decode b_Y_init 6 = .ok (.newarray .long, 2) := by decide +kernel
theorem d_Y_init_8 : decode b_Y_init 8 = .ok (.putfield 9, 3) := by decide +kernel
theorem d_Y_init_11 : decode b_Y_init 11 = .ok (.aload_n 0, 1) := by decide +kernel
theorem d_Y_init_12 : decode b_Y_init 12 = .ok (.iconst 0, 1) := by decide +kernel
theorem d_Y_init_13 : decode b_Y_init 13 = .ok (.putfield 15, 3) := by decide +kernel
theorem d_Y_init_16 : decode b_Y_init 16 = .ok (.aload_n 0, 1) := by decide +kernel
theorem d_Y_init_17 : decode b_Y_init 17 = .ok (.ldc 19, 2) := by decide +kernel
theorem d_Y_init_19 : decode b_Y_init 19 = .ok (.putfield 20, 3) := by decide +kernel
theorem d_Y_init_22 : decode b_Y_init 22 = .ok (.return_, 1) := by decide +kernel
theorem d_K_init_0 : decode b_K_init 0 = .ok (.aload_n 0, 1) := by decide +kernel
theorem d_K_init_1 : decode b_K_init 1 = .ok (.invokespecial 3, 3) := by decide +kernel
theorem d_K_init_4 : decode b_K_init 4 = .ok (.aload_n 0, 1) := by decide +kernel
theorem d_K_init_5 : decode b_K_init 5 = .ok (.iconst 4, 1) := by decide +kernel
theorem d_K_init_6 : decode b_K_init 6 = .ok (.newarray .int, 2) := by decide +kernel
theorem d_K_init_8 : decode b_K_init 8 = .ok (.putfield 9, 3) := by decide +kernel
theorem d_K_init_11 : decode b_K_init 11 = .ok (.aload_n 0, 1) := by decide +kernel
theorem d_K_init_12 : decode b_K_init 12 = .ok (.iconst 4, 1) := by decide +kernel
theorem d_K_init_13 : decode b_K_init 13 = .ok (.newarray .int, 2) := by decide +kernel
theorem d_K_init_15 : decode b_K_init 15 = .ok (.putfield 15, 3) := by decide +kernel
theorem d_K_init_18 : decode b_K_init 18 = .ok (.aload_n 0, 1) := by decide +kernel
theorem d_K_init_19 : decode b_K_init 19 = .ok (.iconst 0, 1) := by decide +kernel
theorem d_K_init_20 : decode b_K_init 20 = .ok (.putfield 18, 3) := by decide +kernel
theorem d_K_init_23 : decode b_K_init 23 = .ok (.aload_n 0, 1) := by decide +kernel
theorem d_K_init_24 : decode b_K_init 24 = .ok (.iconst 0, 1) := by decide +kernel
theorem d_K_init_25 : decode b_K_init 25 = .ok (.putfield 22, 3) := by decide +kernel
theorem d_K_init_28 : decode b_K_init 28 = .ok (.aload_n 0, 1) := by decide +kernel
theorem d_K_init_29 : decode b_K_init 29 = .ok (.iconst 0, 1) := by decide +kernel
theorem d_K_init_30 : decode b_K_init 30 = .ok (.putfield 25, 3) := by decide +kernel
theorem d_K_init_33 : decode b_K_init 33 = .ok (.return_, 1) := by decide +kernel
theorem d_X_part_0 : decode b_X_part 0 = .ok (.iload_n 2, 1) := by decide +kernel
theorem d_X_part_1 : decode b_X_part 1 = .ok (.invokestatic 58, 3) := by decide +kernel
theorem d_X_part_4 : decode b_X_part 4 = .ok (.ifCond .eq 13, 3) := by decide +kernel
theorem d_X_part_7 : decode b_X_part 7 = .ok (.iload_n 3, 1) := by decide +kernel
theorem d_X_part_8 : decode b_X_part 8 = .ok (.iconst 0, 1) := by decide +kernel
theorem d_X_part_9 : decode b_X_part 9 = .ok (.ldc 62, 2) := by decide +kernel
theorem d_X_part_11 : decode b_X_part 11 = .ok (.invokestatic 46, 3) := by decide +kernel
theorem d_X_part_14 : decode b_X_part 14 = .ok (.ifCond .ne 5, 3) := by decide +kernel
theorem d_X_part_17 : decode b_X_part 17 = .ok (.iconst 0, 1) := by decide +kernel
theorem d_X_part_18 : decode b_X_part 18 = .ok (.ireturn, 1) := by decide +kernel
theorem d_X_part_19 : decode b_X_part 19 = .ok (.aload_n 0, 1) := by decide +kernel
theorem d_X_part_20 : decode b_X_part 20 = .ok (.aload_n 0, 1) := by decide +kernel
theorem d_X_part_21 : decode b_X_part 21 = .ok (.iload_n 1, 1) := by decide +kernel
theorem d_X_part_22 : decode b_X_part 22 = .ok (.invokevirtual 63, 3) := by decide +kernel
theorem d_X_part_25 : decode b_X_part 25 = .ok (.iload_n 2, 1) := by decide +kernel
theorem d_X_part_26 : decode b_X_part 26 = .ok (.iload_n 3, 1) := by decide +kernel
theorem d_X_part_27 : decode b_X_part 27 = .ok (.ldc2_w 67, 3) := by decide +kernel
theorem d_X_part_30 : decode b_X_part 30 = .ok (.invokevirtual 69, 3) := by decide +kernel
theorem d_X_part_33 : decode b_X_part 33 = .ok (.ireturn, 1) := by decide +kernel
theorem d_X_isPart_0 : decode b_X_isPart 0 = .ok (.iload_n 0, 1) := by decide +kernel
theorem d_X_isPart_1 : decode b_X_isPart 1 = .ok (.iconst 0, 1) := by decide +kernel
theorem d_X_isPart_2 : decode b_X_isPart 2 = .ok (.iconst 2, 1) := by decide +kernel
theorem d_X_isPart_3 : decode b_X_isPart 3 = .ok (.invokestatic 46, 3) := by decide +kernel
theorem d_X_isPart_6 : decode b_X_isPart 6 = .ok (.ireturn, 1) := by decide +kernel
theorem d_X_layerAt_0 : decode b_X_layerAt 0 = .ok (.iload_n 1, 1) := by decide +kernel
theorem d_X_layerAt_1 : decode b_X_layerAt 1 = .ok (.iconst 0, 1) := by decide +kernel
theorem d_X_layerAt_2 : decode b_X_layerAt 2 = .ok (.aload_n 0, 1) := by decide +kernel
theorem d_X_layerAt_3 : decode b_X_layerAt 3 = .ok (.getfield 52, 3) := by decide +kernel
theorem d_X_layerAt_6 : decode b_X_layerAt 6 = .ok (.arraylength, 1) := by decide +kernel
theorem d_X_layerAt_7 : decode b_X_layerAt 7 = .ok (.iconst 1, 1) := by decide +kernel
theorem d_X_layerAt_8 : decode b_X_layerAt 8 = .ok (.isub, 1) := by decide +kernel
theorem d_X_layerAt_9 : decode b_X_layerAt 9 = .ok (.invokestatic 46, 3) := by decide +kernel
theorem d_X_layerAt_12 : decode b_X_layerAt 12 = .ok (.ifCond .eq 12, 3) := by decide +kernel
theorem d_X_layerAt_15 : decode b_X_layerAt 15 = .ok (.aload_n 0, 1) := by decide +kernel
theorem d_X_layerAt_16 : decode b_X_layerAt 16 = .ok (.getfield 52, 3) := by decide +kernel
theorem d_X_layerAt_19 : decode b_X_layerAt 19 = .ok (.iload_n 1, 1) := by decide +kernel
theorem d_X_layerAt_20 : decode b_X_layerAt 20 = .ok (.aaload, 1) := by decide +kernel
theorem d_X_layerAt_21 : decode b_X_layerAt 21 = .ok (.goto 4, 3) := by decide +kernel
theorem d_X_layerAt_24 : decode b_X_layerAt 24 = .ok (.aconst_null, 1) := by decide +kernel
theorem d_X_layerAt_25 : decode b_X_layerAt 25 = .ok (.areturn, 1) := by decide +kernel
theorem d_X_bring_0 : decode b_X_bring 0 = .ok (.aload_n 1, 1) := by decide +kernel
theorem d_X_bring_1 : decode b_X_bring 1 = .ok (.ifnull 18, 3) := by decide +kernel
theorem d_X_bring_4 : decode b_X_bring 4 = .ok (.aload_n 1, 1) := by decide +kernel
theorem d_X_bring_5 : decode b_X_bring 5 = .ok (.getfield 107, 3) := by decide +kernel
theorem d_X_bring_8 : decode b_X_bring 8 = .ok (.iload_n 2, 1) := by decide +kernel
theorem d_X_bring_9 : decode b_X_bring 9 = .ok (.laload, 1) := by decide +kernel
theorem d_X_bring_10 : decode b_X_bring 10 = .ok (.iload_n 3, 1) := by decide +kernel
theorem d_X_bring_11 : decode b_X_bring 11 = .ok (.i2l, 1) := by decide +kernel
theorem d_X_bring_12 : decode b_X_bring 12 = .ok (.ladd, 1) := by decide +kernel
theorem d_X_bring_13 : decode b_X_bring 13 = .ok (.lload 4, 2) := by decide +kernel
theorem d_X_bring_15 : decode b_X_bring 15 = .ok (.lcmp, 1) := by decide +kernel
theorem d_X_bring_16 : decode b_X_bring 16 = .ok (.ifCond .le 5, 3) := by decide +kernel
theorem d_X_bring_19 : decode b_X_bring 19 = .ok (.iconst 0, 1) := by decide +kernel
theorem d_X_bring_20 : decode b_X_bring 20 = .ok (.ireturn, 1) := by decide +kernel
theorem d_X_bring_21 : decode b_X_bring 21 = .ok (.aload_n 1, 1) := by decide +kernel
theorem d_X_bring_22 : decode b_X_bring 22 = .ok (.getfield 107, 3) := by decide +kernel
theorem d_X_bring_25 : decode b_X_bring 25 = .ok (.iload_n 2, 1) := by decide +kernel
theorem d_X_bring_26 : decode b_X_bring 26 = .ok (.dup2, 1) := by decide +kernel
theorem d_X_bring_27 : decode b_X_bring 27 = .ok (.laload, 1) := by decide +kernel
theorem d_X_bring_28 : decode b_X_bring 28 = .ok (.iload_n 3, 1) := by decide +kernel
theorem d_X_bring_29 : decode b_X_bring 29 = .ok (.i2l, 1) := by decide +kernel
theorem d_X_bring_30 : decode b_X_bring 30 = .ok (.ladd, 1) := by decide +kernel
theorem d_X_bring_31 : decode b_X_bring 31 = .ok (.lastore, 1) := by decide +kernel
theorem d_X_bring_32 : decode b_X_bring 32 = .ok (.aload_n 0, 1) := by decide +kernel
theorem d_X_bring_33 : decode b_X_bring 33 = .ok (.getfield 26, 3) := by decide +kernel
theorem d_X_bring_36 : decode b_X_bring 36 = .ok (.iload_n 2, 1) := by decide +kernel
theorem d_X_bring_37 : decode b_X_bring 37 = .ok (.dup2, 1) := by decide +kernel
theorem d_X_bring_38 : decode b_X_bring 38 = .ok (.laload, 1) := by decide +kernel
theorem d_X_bring_39 : decode b_X_bring 39 = .ok (.iload_n 3, 1) := by decide +kernel
theorem d_X_bring_40 : decode b_X_bring 40 = .ok (.i2l, 1) := by decide +kernel
theorem d_X_bring_41 : decode b_X_bring 41 = .ok (.ladd, 1) := by decide +kernel
theorem d_X_bring_42 : decode b_X_bring 42 = .ok (.lastore, 1) := by decide +kernel
theorem d_X_bring_43 : decode b_X_bring 43 = .ok (.iconst 1, 1) := by decide +kernel
theorem d_X_bring_44 : decode b_X_bring 44 = .ok (.ireturn, 1) := by decide +kernel
theorem d_X_water_0 : decode b_X_water 0 = .ok (.iload_n 2, 1) := by decide +kernel
theorem d_X_water_1 : decode b_X_water 1 = .ok (.iconst 0, 1) := by decide +kernel
theorem d_X_water_2 : decode b_X_water 2 = .ok (.ldc 62, 2) := by decide +kernel
theorem d_X_water_4 : decode b_X_water 4 = .ok (.invokestatic 46, 3) := by decide +kernel
theorem d_X_water_7 : decode b_X_water 7 = .ok (.ifCond .ne 5, 3) := by decide +kernel
theorem d_X_water_10 : decode b_X_water 10 = .ok (.iconst 0, 1) := by decide +kernel
theorem d_X_water_11 : decode b_X_water 11 = .ok (.ireturn, 1) := by decide +kernel
theorem d_X_water_12 : decode b_X_water 12 = .ok (.aload_n 0, 1) := by decide +kernel
theorem d_X_water_13 : decode b_X_water 13 = .ok (.aload_n 0, 1) := by decide +kernel
theorem d_X_water_14 : decode b_X_water 14 = .ok (.iload_n 1, 1) := by decide +kernel
theorem d_X_water_15 : decode b_X_water 15 = .ok (.invokevirtual 63, 3) := by decide +kernel
theorem d_X_water_18 : decode b_X_water 18 = .ok (.iconst 3, 1) := by decide +kernel
theorem d_X_water_19 : decode b_X_water 19 = .ok (.iload_n 2, 1) := by decide +kernel
theorem d_X_water_20 : decode b_X_water 20 = .ok (.ldc2_w 67, 3) := by decide +kernel
theorem d_X_water_23 : decode b_X_water 23 = .ok (.invokevirtual 69, 3) := by decide +kernel
theorem d_X_water_26 : decode b_X_water 26 = .ok (.ireturn, 1) := by decide +kernel
theorem d_X_heat_0 : decode b_X_heat 0 = .ok (.iload_n 2, 1) := by decide +kernel
theorem d_X_heat_1 : decode b_X_heat 1 = .ok (.iconst 0, 1) := by decide +kernel
theorem d_X_heat_2 : decode b_X_heat 2 = .ok (.ldc 39, 2) := by decide +kernel
theorem d_X_heat_4 : decode b_X_heat 4 = .ok (.invokestatic 46, 3) := by decide +kernel
theorem d_X_heat_7 : decode b_X_heat 7 = .ok (.ifCond .ne 5, 3) := by decide +kernel
theorem d_X_heat_10 : decode b_X_heat 10 = .ok (.iconst 0, 1) := by decide +kernel
theorem d_X_heat_11 : decode b_X_heat 11 = .ok (.ireturn, 1) := by decide +kernel
theorem d_X_heat_12 : decode b_X_heat 12 = .ok (.aload_n 0, 1) := by decide +kernel
theorem d_X_heat_13 : decode b_X_heat 13 = .ok (.aload_n 0, 1) := by decide +kernel
theorem d_X_heat_14 : decode b_X_heat 14 = .ok (.iload_n 1, 1) := by decide +kernel
theorem d_X_heat_15 : decode b_X_heat 15 = .ok (.invokevirtual 63, 3) := by decide +kernel
theorem d_X_heat_18 : decode b_X_heat 18 = .ok (.iconst 4, 1) := by decide +kernel
theorem d_X_heat_19 : decode b_X_heat 19 = .ok (.iload_n 2, 1) := by decide +kernel
theorem d_X_heat_20 : decode b_X_heat 20 = .ok (.ldc2_w 73, 3) := by decide +kernel
theorem d_X_heat_23 : decode b_X_heat 23 = .ok (.invokevirtual 69, 3) := by decide +kernel
theorem d_X_heat_26 : decode b_X_heat 26 = .ok (.ireturn, 1) := by decide +kernel
theorem d_X_rate_0 : decode b_X_rate 0 = .ok (.iload_n 1, 1) := by decide +kernel
theorem d_X_rate_1 : decode b_X_rate 1 = .ok (.invokestatic 58, 3) := by decide +kernel
theorem d_X_rate_4 : decode b_X_rate 4 = .ok (.ifCond .eq 23, 3) := by decide +kernel
theorem d_X_rate_7 : decode b_X_rate 7 = .ok (.iload_n 2, 1) := by decide +kernel
theorem d_X_rate_8 : decode b_X_rate 8 = .ok (.iconst 0, 1) := by decide +kernel
theorem d_X_rate_9 : decode b_X_rate 9 = .ok (.ldc 62, 2) := by decide +kernel
theorem d_X_rate_11 : decode b_X_rate 11 = .ok (.invokestatic 46, 3) := by decide +kernel
theorem d_X_rate_14 : decode b_X_rate 14 = .ok (.ifCond .eq 13, 3) := by decide +kernel
theorem d_X_rate_17 : decode b_X_rate 17 = .ok (.iload_n 3, 1) := by decide +kernel
theorem d_X_rate_18 : decode b_X_rate 18 = .ok (.iconst 0, 1) := by decide +kernel
theorem d_X_rate_19 : decode b_X_rate 19 = .ok (.ldc 75, 2) := by decide +kernel
theorem d_X_rate_21 : decode b_X_rate 21 = .ok (.invokestatic 46, 3) := by decide +kernel
theorem d_X_rate_24 : decode b_X_rate 24 = .ok (.ifCond .ne 5, 3) := by decide +kernel
theorem d_X_rate_27 : decode b_X_rate 27 = .ok (.iconst 0, 1) := by decide +kernel
theorem d_X_rate_28 : decode b_X_rate 28 = .ok (.ireturn, 1) := by decide +kernel
theorem d_X_rate_29 : decode b_X_rate 29 = .ok (.aload_n 0, 1) := by decide +kernel
theorem d_X_rate_30 : decode b_X_rate 30 = .ok (.getfield 11, 3) := by decide +kernel
theorem d_X_rate_33 : decode b_X_rate 33 = .ok (.iload_n 1, 1) := by decide +kernel
theorem d_X_rate_34 : decode b_X_rate 34 = .ok (.aaload, 1) := by decide +kernel
theorem d_X_rate_35 : decode b_X_rate 35 = .ok (.iload_n 2, 1) := by decide +kernel
theorem d_X_rate_36 : decode b_X_rate 36 = .ok (.iload_n 3, 1) := by decide +kernel
theorem d_X_rate_37 : decode b_X_rate 37 = .ok (.invokevirtual 76, 3) := by decide +kernel
theorem d_X_rate_40 : decode b_X_rate 40 = .ok (.ireturn, 1) := by decide +kernel
theorem d_K_addRow_0 : decode b_K_addRow 0 = .ok (.aload_n 0, 1) := by decide +kernel
theorem d_K_addRow_1 : decode b_K_addRow 1 = .ok (.getfield 18, 3) := by decide +kernel
theorem d_K_addRow_4 : decode b_K_addRow 4 = .ok (.iconst 4, 1) := by decide +kernel
theorem d_K_addRow_5 : decode b_K_addRow 5 = .ok (.if_icmp .ge 25, 3) := by decide +kernel
theorem d_K_addRow_8 : decode b_K_addRow 8 = .ok (.aload_n 0, 1) := by decide +kernel
theorem d_K_addRow_9 : decode b_K_addRow 9 = .ok (.getfield 18, 3) := by decide +kernel
theorem d_K_addRow_12 : decode b_K_addRow 12 = .ok (.ifCond .le 20, 3) := by decide +kernel
theorem d_K_addRow_15 : decode b_K_addRow 15 = .ok (.iload_n 1, 1) := by decide +kernel
theorem d_K_addRow_16 : decode b_K_addRow 16 = .ok (.aload_n 0, 1) := by decide +kernel
theorem d_K_addRow_17 : decode b_K_addRow 17 = .ok (.getfield 9, 3) := by decide +kernel
theorem d_K_addRow_20 : decode b_K_addRow 20 = .ok (.aload_n 0, 1) := by decide +kernel
theorem d_K_addRow_21 : decode b_K_addRow 21 = .ok (.getfield 18, 3) := by decide +kernel
theorem d_K_addRow_24 : decode b_K_addRow 24 = .ok (.iconst 1, 1) := by decide +kernel
theorem d_K_addRow_25 : decode b_K_addRow 25 = .ok (.isub, 1) := by decide +kernel
theorem d_K_addRow_26 : decode b_K_addRow 26 = .ok (.iaload, 1) := by decide +kernel
theorem d_K_addRow_27 : decode b_K_addRow 27 = .ok (.if_icmp .gt 5, 3) := by decide +kernel
theorem d_K_addRow_30 : decode b_K_addRow 30 = .ok (.iconst 0, 1) := by decide +kernel
theorem d_K_addRow_31 : decode b_K_addRow 31 = .ok (.ireturn, 1) := by decide +kernel
theorem d_K_addRow_32 : decode b_K_addRow 32 = .ok (.aload_n 0, 1) := by decide +kernel
theorem d_K_addRow_33 : decode b_K_addRow 33 = .ok (.getfield 9, 3) := by decide +kernel
theorem d_K_addRow_36 : decode b_K_addRow 36 = .ok (.aload_n 0, 1) := by decide +kernel
theorem d_K_addRow_37 : decode b_K_addRow 37 = .ok (.getfield 18, 3) := by decide +kernel
theorem d_K_addRow_40 : decode b_K_addRow 40 = .ok (.iload_n 1, 1) := by decide +kernel
theorem d_K_addRow_41 : decode b_K_addRow 41 = .ok (.iastore, 1) := by decide +kernel
theorem d_K_addRow_42 : decode b_K_addRow 42 = .ok (.aload_n 0, 1) := by decide +kernel
theorem d_K_addRow_43 : decode b_K_addRow 43 = .ok (.getfield 15, 3) := by decide +kernel
theorem d_K_addRow_46 : decode b_K_addRow 46 = .ok (.aload_n 0, 1) := by decide +kernel
theorem d_K_addRow_47 : decode b_K_addRow 47 = .ok (.getfield 18, 3) := by decide +kernel
theorem d_K_addRow_50 : decode b_K_addRow 50 = .ok (.iload_n 2, 1) := by decide +kernel
theorem d_K_addRow_51 : decode b_K_addRow 51 = .ok (.iastore, 1) := by decide +kernel
theorem d_K_addRow_52 : decode b_K_addRow 52 = .ok (.aload_n 0, 1) := by decide +kernel
theorem d_K_addRow_53 : decode b_K_addRow 53 = .ok (.dup, 1) := by decide +kernel
theorem d_K_addRow_54 : decode b_K_addRow 54 = .ok (.getfield 18, 3) := by decide +kernel
theorem d_K_addRow_57 : decode b_K_addRow 57 = .ok (.iconst 1, 1) := by decide +kernel
theorem d_K_addRow_58 : decode b_K_addRow 58 = .ok (.iadd, 1) := by decide +kernel
theorem d_K_addRow_59 : decode b_K_addRow 59 = .ok (.putfield 18, 3) := by decide +kernel
theorem d_K_addRow_62 : decode b_K_addRow 62 = .ok (.iconst 1, 1) := by decide +kernel
theorem d_K_addRow_63 : decode b_K_addRow 63 = .ok (.ireturn, 1) := by decide +kernel
theorem d_X_yields_0 : decode b_X_yields 0 = .ok (.iload_n 1, 1) := by decide +kernel
theorem d_X_yields_1 : decode b_X_yields 1 = .ok (.invokestatic 58, 3) := by decide +kernel
theorem d_X_yields_4 : decode b_X_yields 4 = .ok (.ifCond .eq 24, 3) := by decide +kernel
theorem d_X_yields_7 : decode b_X_yields 7 = .ok (.iload_n 2, 1) := by decide +kernel
theorem d_X_yields_8 : decode b_X_yields 8 = .ok (.iconst 0, 1) := by decide +kernel
theorem d_X_yields_9 : decode b_X_yields 9 = .ok (.ldc 75, 2) := by decide +kernel
theorem d_X_yields_11 : decode b_X_yields 11 = .ok (.invokestatic 46, 3) := by decide +kernel
theorem d_X_yields_14 : decode b_X_yields 14 = .ok (.ifCond .eq 14, 3) := by decide +kernel
theorem d_X_yields_17 : decode b_X_yields 17 = .ok (.iload_n 3, 1) := by decide +kernel
theorem d_X_yields_18 : decode b_X_yields 18 = .ok (.iconst 0, 1) := by decide +kernel
theorem d_X_yields_19 : decode b_X_yields 19 = .ok (.sipush 1000, 3) := by decide +kernel
theorem d_X_yields_22 : decode b_X_yields 22 = .ok (.invokestatic 46, 3) := by decide +kernel
theorem d_X_yields_25 : decode b_X_yields 25 = .ok (.ifCond .ne 5, 3) := by decide +kernel
theorem d_X_yields_28 : decode b_X_yields 28 = .ok (.iconst 0, 1) := by decide +kernel
theorem d_X_yields_29 : decode b_X_yields 29 = .ok (.ireturn, 1) := by decide +kernel
theorem d_X_yields_30 : decode b_X_yields 30 = .ok (.aload_n 0, 1) := by decide +kernel
theorem d_X_yields_31 : decode b_X_yields 31 = .ok (.getfield 11, 3) := by decide +kernel
theorem d_X_yields_34 : decode b_X_yields 34 = .ok (.iload_n 1, 1) := by decide +kernel
theorem d_X_yields_35 : decode b_X_yields 35 = .ok (.aaload, 1) := by decide +kernel
theorem d_X_yields_36 : decode b_X_yields 36 = .ok (.iload_n 2, 1) := by decide +kernel
theorem d_X_yields_37 : decode b_X_yields 37 = .ok (.putfield 80, 3) := by decide +kernel
theorem d_X_yields_40 : decode b_X_yields 40 = .ok (.aload_n 0, 1) := by decide +kernel
theorem d_X_yields_41 : decode b_X_yields 41 = .ok (.getfield 11, 3) := by decide +kernel
theorem d_X_yields_44 : decode b_X_yields 44 = .ok (.iload_n 1, 1) := by decide +kernel
theorem d_X_yields_45 : decode b_X_yields 45 = .ok (.aaload, 1) := by decide +kernel
theorem d_X_yields_46 : decode b_X_yields 46 = .ok (.iload_n 3, 1) := by decide +kernel
theorem d_X_yields_47 : decode b_X_yields 47 = .ok (.putfield 83, 3) := by decide +kernel
theorem d_X_yields_50 : decode b_X_yields 50 = .ok (.iconst 1, 1) := by decide +kernel
theorem d_X_yields_51 : decode b_X_yields 51 = .ok (.ireturn, 1) := by decide +kernel
theorem d_X_bounds_0 : decode b_X_bounds 0 = .ok (.aload_n 0, 1) := by decide +kernel
theorem d_X_bounds_1 : decode b_X_bounds 1 = .ok (.iload_n 1, 1) := by decide +kernel
theorem d_X_bounds_2 : decode b_X_bounds 2 = .ok (.invokevirtual 63, 3) := by decide +kernel
theorem d_X_bounds_5 : decode b_X_bounds 5 = .ok (.astore 4, 2) := by decide +kernel
theorem d_X_bounds_7 : decode b_X_bounds 7 = .ok (.aload 4, 2) := by decide +kernel
theorem d_X_bounds_9 : decode b_X_bounds 9 = .ok (.ifnull 23, 3) := by decide +kernel
theorem d_X_bounds_12 : decode b_X_bounds 12 = .ok (.iload_n 2, 1) := by decide +kernel
theorem d_X_bounds_13 : decode b_X_bounds 13 = .ok (.iconst 0, 1) := by decide +kernel
theorem d_X_bounds_14 : decode b_X_bounds 14 = .ok (.ldc 39, 2) := by decide +kernel
theorem d_X_bounds_16 : decode b_X_bounds 16 = .ok (.invokestatic 46, 3) := by decide +kernel
theorem d_X_bounds_19 : decode b_X_bounds 19 = .ok (.ifCond .eq 13, 3) := by decide +kernel
theorem d_X_bounds_22 : decode b_X_bounds 22 = .ok (.iload_n 3, 1) := by decide +kernel
theorem d_X_bounds_23 : decode b_X_bounds 23 = .ok (.iconst 0, 1) := by decide +kernel
theorem d_X_bounds_24 : decode b_X_bounds 24 = .ok (.ldc 39, 2) := by decide +kernel
theorem d_X_bounds_26 : decode b_X_bounds 26 = .ok (.invokestatic 46, 3) := by decide +kernel
theorem d_X_bounds_29 : decode b_X_bounds 29 = .ok (.ifCond .ne 5, 3) := by decide +kernel
theorem d_X_bounds_32 : decode b_X_bounds 32 = .ok (.iconst 0, 1) := by decide +kernel
theorem d_X_bounds_33 : decode b_X_bounds 33 = .ok (.ireturn, 1) := by decide +kernel
theorem d_X_bounds_34 : decode b_X_bounds 34 = .ok (.aload 4, 2) := by decide +kernel
theorem d_X_bounds_36 : decode b_X_bounds 36 = .ok (.iload_n 2, 1) := by decide +kernel
theorem d_X_bounds_37 : decode b_X_bounds 37 = .ok (.putfield 86, 3) := by decide +kernel
theorem d_X_bounds_40 : decode b_X_bounds 40 = .ok (.aload 4, 2) := by decide +kernel
theorem d_X_bounds_42 : decode b_X_bounds 42 = .ok (.iload_n 3, 1) := by decide +kernel
theorem d_X_bounds_43 : decode b_X_bounds 43 = .ok (.putfield 89, 3) := by decide +kernel
theorem d_X_bounds_46 : decode b_X_bounds 46 = .ok (.iconst 1, 1) := by decide +kernel
theorem d_X_bounds_47 : decode b_X_bounds 47 = .ok (.ireturn, 1) := by decide +kernel
theorem d_X_rain_0 : decode b_X_rain 0 = .ok (.iload_n 1, 1) := by decide +kernel
theorem d_X_rain_1 : decode b_X_rain 1 = .ok (.iconst 0, 1) := by decide +kernel
theorem d_X_rain_2 : decode b_X_rain 2 = .ok (.ldc 75, 2) := by decide +kernel
theorem d_X_rain_4 : decode b_X_rain 4 = .ok (.invokestatic 46, 3) := by decide +kernel
theorem d_X_rain_7 : decode b_X_rain 7 = .ok (.ifCond .ne 5, 3) := by decide +kernel
theorem d_X_rain_10 : decode b_X_rain 10 = .ok (.iconst 0, 1) := by decide +kernel
theorem d_X_rain_11 : decode b_X_rain 11 = .ok (.ireturn, 1) := by decide +kernel
theorem d_X_rain_12 : decode b_X_rain 12 = .ok (.aload_n 0, 1) := by decide +kernel
theorem d_X_rain_13 : decode b_X_rain 13 = .ok (.iload_n 1, 1) := by decide +kernel
theorem d_X_rain_14 : decode b_X_rain 14 = .ok (.putfield 32, 3) := by decide +kernel
theorem d_X_rain_17 : decode b_X_rain 17 = .ok (.iconst 1, 1) := by decide +kernel
theorem d_X_rain_18 : decode b_X_rain 18 = .ok (.ireturn, 1) := by decide +kernel
theorem d_X_loss_0 : decode b_X_loss 0 = .ok (.iload_n 1, 1) := by decide +kernel
theorem d_X_loss_1 : decode b_X_loss 1 = .ok (.iconst 0, 1) := by decide +kernel
theorem d_X_loss_2 : decode b_X_loss 2 = .ok (.ldc 62, 2) := by decide +kernel
theorem d_X_loss_4 : decode b_X_loss 4 = .ok (.invokestatic 46, 3) := by decide +kernel
theorem d_X_loss_7 : decode b_X_loss 7 = .ok (.ifCond .ne 5, 3) := by decide +kernel
theorem d_X_loss_10 : decode b_X_loss 10 = .ok (.iconst 0, 1) := by decide +kernel
theorem d_X_loss_11 : decode b_X_loss 11 = .ok (.ireturn, 1) := by decide +kernel
theorem d_X_loss_12 : decode b_X_loss 12 = .ok (.aload_n 0, 1) := by decide +kernel
theorem d_X_loss_13 : decode b_X_loss 13 = .ok (.iload_n 1, 1) := by decide +kernel
theorem d_X_loss_14 : decode b_X_loss 14 = .ok (.putfield 36, 3) := by decide +kernel
theorem d_X_loss_17 : decode b_X_loss 17 = .ok (.iconst 1, 1) := by decide +kernel
theorem d_X_loss_18 : decode b_X_loss 18 = .ok (.ireturn, 1) := by decide +kernel
theorem d_X_fan_0 : decode b_X_fan 0 = .ok (.iload_n 1, 1) := by decide +kernel
theorem d_X_fan_1 : decode b_X_fan 1 = .ok (.iconst 0, 1) := by decide +kernel
theorem d_X_fan_2 : decode b_X_fan 2 = .ok (.ldc 62, 2) := by decide +kernel
theorem d_X_fan_4 : decode b_X_fan 4 = .ok (.invokestatic 46, 3) := by decide +kernel
theorem d_X_fan_7 : decode b_X_fan 7 = .ok (.ifCond .eq 29, 3) := by decide +kernel
theorem d_X_fan_10 : decode b_X_fan 10 = .ok (.iload_n 2, 1) := by decide +kernel
theorem d_X_fan_11 : decode b_X_fan 11 = .ok (.sipush (-1000), 3) := by decide +kernel
theorem d_X_fan_14 : decode b_X_fan 14 = .ok (.sipush 1000, 3) := by decide +kernel
theorem d_X_fan_17 : decode b_X_fan 17 = .ok (.invokestatic 46, 3) := by decide +kernel
theorem d_X_fan_20 : decode b_X_fan 20 = .ok (.ifCond .eq 16, 3) := by decide +kernel
theorem d_X_fan_23 : decode b_X_fan 23 = .ok (.iload_n 3, 1) := by decide +kernel
theorem d_X_fan_24 : decode b_X_fan 24 = .ok (.sipush (-1000), 3) := by decide +kernel
theorem d_X_fan_27 : decode b_X_fan 27 = .ok (.sipush 1000, 3) := by decide +kernel
theorem d_X_fan_30 : decode b_X_fan 30 = .ok (.invokestatic 46, 3) := by decide +kernel
theorem d_X_fan_33 : decode b_X_fan 33 = .ok (.ifCond .ne 5, 3) := by decide +kernel
theorem d_X_fan_36 : decode b_X_fan 36 = .ok (.iconst 0, 1) := by decide +kernel
theorem d_X_fan_37 : decode b_X_fan 37 = .ok (.ireturn, 1) := by decide +kernel
theorem d_X_fan_38 : decode b_X_fan 38 = .ok (.aload_n 0, 1) := by decide +kernel
theorem d_X_fan_39 : decode b_X_fan 39 = .ok (.getfield 18, 3) := by decide +kernel
theorem d_X_fan_42 : decode b_X_fan 42 = .ok (.iload_n 1, 1) := by decide +kernel
theorem d_X_fan_43 : decode b_X_fan 43 = .ok (.iload_n 2, 1) := by decide +kernel
theorem d_X_fan_44 : decode b_X_fan 44 = .ok (.iload_n 3, 1) := by decide +kernel
theorem d_X_fan_45 : decode b_X_fan 45 = .ok (.invokevirtual 92, 3) := by decide +kernel
theorem d_X_fan_48 : decode b_X_fan 48 = .ok (.iconst 1, 1) := by decide +kernel
theorem d_X_fan_49 : decode b_X_fan 49 = .ok (.ireturn, 1) := by decide +kernel
theorem d_F_tell_0 : decode b_F_tell 0 = .ok (.aload_n 0, 1) := by decide +kernel
theorem d_F_tell_1 : decode b_F_tell 1 = .ok (.iconst 1, 1) := by decide +kernel
theorem d_F_tell_2 : decode b_F_tell 2 = .ok (.putfield 9, 3) := by decide +kernel
theorem d_F_tell_5 : decode b_F_tell 5 = .ok (.aload_n 0, 1) := by decide +kernel
theorem d_F_tell_6 : decode b_F_tell 6 = .ok (.iload_n 1, 1) := by decide +kernel
theorem d_F_tell_7 : decode b_F_tell 7 = .ok (.putfield 15, 3) := by decide +kernel
theorem d_F_tell_10 : decode b_F_tell 10 = .ok (.aload_n 0, 1) := by decide +kernel
theorem d_F_tell_11 : decode b_F_tell 11 = .ok (.iload_n 2, 1) := by decide +kernel
theorem d_F_tell_12 : decode b_F_tell 12 = .ok (.putfield 19, 3) := by decide +kernel
theorem d_F_tell_15 : decode b_F_tell 15 = .ok (.aload_n 0, 1) := by decide +kernel
theorem d_F_tell_16 : decode b_F_tell 16 = .ok (.iload_n 3, 1) := by decide +kernel
theorem d_F_tell_17 : decode b_F_tell 17 = .ok (.putfield 22, 3) := by decide +kernel
theorem d_F_tell_20 : decode b_F_tell 20 = .ok (.aload_n 0, 1) := by decide +kernel
theorem d_F_tell_21 : decode b_F_tell 21 = .ok (.lconst 0, 1) := by decide +kernel
theorem d_F_tell_22 : decode b_F_tell 22 = .ok (.putfield 25, 3) := by decide +kernel
theorem d_F_tell_25 : decode b_F_tell 25 = .ok (.return_, 1) := by decide +kernel
theorem d_X_limit_0 : decode b_X_limit 0 = .ok (.iload_n 1, 1) := by decide +kernel
theorem d_X_limit_1 : decode b_X_limit 1 = .ok (.iconst 0, 1) := by decide +kernel
theorem d_X_limit_2 : decode b_X_limit 2 = .ok (.ldc 39, 2) := by decide +kernel
theorem d_X_limit_4 : decode b_X_limit 4 = .ok (.invokestatic 46, 3) := by decide +kernel
theorem d_X_limit_7 : decode b_X_limit 7 = .ok (.ifCond .ne 5, 3) := by decide +kernel
theorem d_X_limit_10 : decode b_X_limit 10 = .ok (.iconst 0, 1) := by decide +kernel
theorem d_X_limit_11 : decode b_X_limit 11 = .ok (.ireturn, 1) := by decide +kernel
theorem d_X_limit_12 : decode b_X_limit 12 = .ok (.aload_n 0, 1) := by decide +kernel
theorem d_X_limit_13 : decode b_X_limit 13 = .ok (.iload_n 1, 1) := by decide +kernel
theorem d_X_limit_14 : decode b_X_limit 14 = .ok (.putfield 40, 3) := by decide +kernel
theorem d_X_limit_17 : decode b_X_limit 17 = .ok (.iconst 1, 1) := by decide +kernel
theorem d_X_limit_18 : decode b_X_limit 18 = .ok (.ireturn, 1) := by decide +kernel
theorem d_X_run_0 : decode b_X_run 0 = .ok (.iload_n 1, 1) := by decide +kernel
theorem d_X_run_1 : decode b_X_run 1 = .ok (.iconst 1, 1) := by decide +kernel
theorem d_X_run_2 : decode b_X_run 2 = .ok (.sipush 1000, 3) := by decide +kernel
theorem d_X_run_5 : decode b_X_run 5 = .ok (.invokestatic 46, 3) := by decide +kernel
theorem d_X_run_8 : decode b_X_run 8 = .ok (.ifCond .eq 20, 3) := by decide +kernel
theorem d_X_run_11 : decode b_X_run 11 = .ok (.aload_n 0, 1) := by decide +kernel
theorem d_X_run_12 : decode b_X_run 12 = .ok (.getfield 22, 3) := by decide +kernel
theorem d_X_run_15 : decode b_X_run 15 = .ok (.bipush 8, 2) := by decide +kernel
theorem d_X_run_17 : decode b_X_run 17 = .ok (.laload, 1) := by decide +kernel
theorem d_X_run_18 : decode b_X_run 18 = .ok (.iload_n 1, 1) := by decide +kernel
theorem d_X_run_19 : decode b_X_run 19 = .ok (.i2l, 1) := by decide +kernel
theorem d_X_run_20 : decode b_X_run 20 = .ok (.ladd, 1) := by decide +kernel
theorem d_X_run_21 : decode b_X_run 21 = .ok (.ldc2_w 96, 3) := by decide +kernel
theorem d_X_run_24 : decode b_X_run 24 = .ok (.lcmp, 1) := by decide +kernel
theorem d_X_run_25 : decode b_X_run 25 = .ok (.ifCond .le 5, 3) := by decide +kernel
theorem d_X_run_28 : decode b_X_run 28 = .ok (.iconst (-1), 1) := by decide +kernel
theorem d_X_run_29 : decode b_X_run 29 = .ok (.ireturn, 1) := by decide +kernel
theorem d_X_run_30 : decode b_X_run 30 = .ok (.iconst 0, 1) := by decide +kernel
theorem d_X_run_31 : decode b_X_run 31 = .ok (.istore_n 2, 1) := by decide +kernel
theorem d_X_run_32 : decode b_X_run 32 = .ok (.iload_n 2, 1) := by decide +kernel
theorem d_X_run_33 : decode b_X_run 33 = .ok (.iload_n 1, 1) := by decide +kernel
theorem d_X_run_34 : decode b_X_run 34 = .ok (.if_icmp .ge 26, 3) := by decide +kernel
theorem d_X_run_37 : decode b_X_run 37 = .ok (.aload_n 0, 1) := by decide +kernel
theorem d_X_run_38 : decode b_X_run 38 = .ok (.invokevirtual 98, 3) := by decide +kernel
theorem d_X_run_41 : decode b_X_run 41 = .ok (.aload_n 0, 1) := by decide +kernel
theorem d_X_run_42 : decode b_X_run 42 = .ok (.getfield 40, 3) := by decide +kernel
theorem d_X_run_45 : decode b_X_run 45 = .ok (.i2l, 1) := by decide +kernel
theorem d_X_run_46 : decode b_X_run 46 = .ok (.lcmp, 1) := by decide +kernel
theorem d_X_run_47 : decode b_X_run 47 = .ok (.ifCond .gt 13, 3) := by decide +kernel
theorem d_X_run_50 : decode b_X_run 50 = .ok (.aload_n 0, 1) := by decide +kernel
theorem d_X_run_51 : decode b_X_run 51 = .ok (.invokevirtual 102, 3) := by decide +kernel
theorem d_X_run_54 : decode b_X_run 54 = .ok (.iinc 2 1, 3) := by decide +kernel
theorem d_X_run_57 : decode b_X_run 57 = .ok (.goto (-25), 3) := by decide +kernel
theorem d_X_run_60 : decode b_X_run 60 = .ok (.iload_n 2, 1) := by decide +kernel
theorem d_X_run_61 : decode b_X_run 61 = .ok (.ireturn, 1) := by decide +kernel
theorem d_X_greatestWarmth_0 : decode b_X_greatestWarmth 0 = .ok (.lconst 0, 1) := by decide +kernel
theorem d_X_greatestWarmth_1 : decode b_X_greatestWarmth 1 = .ok (.lstore_n 1, 1) := by decide +kernel
theorem d_X_greatestWarmth_2 : decode b_X_greatestWarmth 2 = .ok (.aload_n 0, 1) := by decide +kernel
theorem d_X_greatestWarmth_3 : decode b_X_greatestWarmth 3 = .ok (.getfield 52, 3) := by decide +kernel
theorem d_X_greatestWarmth_6 : decode b_X_greatestWarmth 6 = .ok (.astore_n 3, 1) := by decide +kernel
theorem d_X_greatestWarmth_7 : decode b_X_greatestWarmth 7 = .ok (.aload_n 3, 1) := by decide +kernel
theorem d_X_greatestWarmth_8 : decode b_X_greatestWarmth 8 = .ok (.arraylength, 1) := by decide +kernel
theorem d_X_greatestWarmth_9 : decode b_X_greatestWarmth 9 = .ok (.istore 4, 2) := by decide +kernel
theorem d_X_greatestWarmth_11 : decode b_X_greatestWarmth 11 = .ok (.iconst 0, 1) := by decide +kernel
theorem d_X_greatestWarmth_12 : decode b_X_greatestWarmth 12 = .ok (.istore 5, 2) := by decide +kernel
theorem d_X_greatestWarmth_14 : decode b_X_greatestWarmth 14 = .ok (.iload 5, 2) := by decide +kernel
theorem d_X_greatestWarmth_16 : decode b_X_greatestWarmth 16 = .ok (.iload 4, 2) := by decide +kernel
theorem d_X_greatestWarmth_18 : decode b_X_greatestWarmth 18 = .ok (.if_icmp .ge 25, 3) := by decide +kernel
theorem d_X_greatestWarmth_21 : decode b_X_greatestWarmth 21 = .ok (.aload_n 3, 1) := by decide +kernel
theorem d_X_greatestWarmth_22 : decode b_X_greatestWarmth 22 = .ok (.iload 5, 2) := by decide +kernel
theorem d_X_greatestWarmth_24 : decode b_X_greatestWarmth 24 = .ok (.aaload, 1) := by decide +kernel
theorem d_X_greatestWarmth_25 : decode b_X_greatestWarmth 25 = .ok (.astore 6, 2) := by decide +kernel
theorem d_X_greatestWarmth_27 : decode b_X_greatestWarmth 27 = .ok (.lload_n 1, 1) := by decide +kernel
theorem d_X_greatestWarmth_28 : decode b_X_greatestWarmth 28 = .ok (.aload 6, 2) := by decide +kernel
theorem d_X_greatestWarmth_30 : decode b_X_greatestWarmth 30 = .ok (.invokevirtual 110, 3) := by decide +kernel
theorem d_X_greatestWarmth_33 : decode b_X_greatestWarmth 33 = .ok (.invokestatic 135, 3) := by decide +kernel
theorem d_X_greatestWarmth_36 : decode b_X_greatestWarmth 36 = .ok (.lstore_n 1, 1) := by decide +kernel
theorem d_X_greatestWarmth_37 : decode b_X_greatestWarmth 37 = .ok (.iinc 5 1, 3) := by decide +kernel
theorem d_X_greatestWarmth_40 : decode b_X_greatestWarmth 40 = .ok (.goto (-26), 3) := by decide +kernel
theorem d_X_greatestWarmth_43 : decode b_X_greatestWarmth 43 = .ok (.lload_n 1, 1) := by decide +kernel
theorem d_X_greatestWarmth_44 : decode b_X_greatestWarmth 44 = .ok (.lreturn, 1) := by decide +kernel
theorem d_Y_warmthNow_0 : decode b_Y_warmthNow 0 = .ok (.aload_n 0, 1) := by decide +kernel
theorem d_Y_warmthNow_1 : decode b_Y_warmthNow 1 = .ok (.invokevirtual 23, 3) := by decide +kernel
theorem d_Y_warmthNow_4 : decode b_Y_warmthNow 4 = .ok (.lstore_n 1, 1) := by decide +kernel
theorem d_Y_warmthNow_5 : decode b_Y_warmthNow 5 = .ok (.lload_n 1, 1) := by decide +kernel
theorem d_Y_warmthNow_6 : decode b_Y_warmthNow 6 = .ok (.lconst 0, 1) := by decide +kernel
theorem d_Y_warmthNow_7 : decode b_Y_warmthNow 7 = .ok (.lcmp, 1) := by decide +kernel
theorem d_Y_warmthNow_8 : decode b_Y_warmthNow 8 = .ok (.ifCond .le 14, 3) := by decide +kernel
theorem d_Y_warmthNow_11 : decode b_Y_warmthNow 11 = .ok (.aload_n 0, 1) := by decide +kernel
theorem d_Y_warmthNow_12 : decode b_Y_warmthNow 12 = .ok (.getfield 9, 3) := by decide +kernel
theorem d_Y_warmthNow_15 : decode b_Y_warmthNow 15 = .ok (.iconst 4, 1) := by decide +kernel
theorem d_Y_warmthNow_16 : decode b_Y_warmthNow 16 = .ok (.laload, 1) := by decide +kernel
theorem d_Y_warmthNow_17 : decode b_Y_warmthNow 17 = .ok (.lload_n 1, 1) := by decide +kernel
theorem d_Y_warmthNow_18 : decode b_Y_warmthNow 18 = .ok (.ldiv, 1) := by decide +kernel
theorem d_Y_warmthNow_19 : decode b_Y_warmthNow 19 = .ok (.goto 4, 3) := by decide +kernel
theorem d_Y_warmthNow_22 : decode b_Y_warmthNow 22 = .ok (.lconst 0, 1) := by decide +kernel
theorem d_Y_warmthNow_23 : decode b_Y_warmthNow 23 = .ok (.lreturn, 1) := by decide +kernel
theorem d_Y_mass_0 : decode b_Y_mass 0 = .ok (.aload_n 0, 1) := by decide +kernel
theorem d_Y_mass_1 : decode b_Y_mass 1 = .ok (.getfield 9, 3) := by decide +kernel
theorem d_Y_mass_4 : decode b_Y_mass 4 = .ok (.iconst 3, 1) := by decide +kernel
theorem d_Y_mass_5 : decode b_Y_mass 5 = .ok (.laload, 1) := by decide +kernel
theorem d_Y_mass_6 : decode b_Y_mass 6 = .ok (.lstore_n 1, 1) := by decide +kernel
theorem d_Y_mass_7 : decode b_Y_mass 7 = .ok (.iconst 0, 1) := by decide +kernel
theorem d_Y_mass_8 : decode b_Y_mass 8 = .ok (.istore_n 3, 1) := by decide +kernel
theorem d_Y_mass_9 : decode b_Y_mass 9 = .ok (.iload_n 3, 1) := by decide +kernel
theorem d_Y_mass_10 : decode b_Y_mass 10 = .ok (.iconst 3, 1) := by decide +kernel
theorem d_Y_mass_11 : decode b_Y_mass 11 = .ok (.if_icmp .ge 18, 3) := by decide +kernel
theorem d_Y_mass_14 : decode b_Y_mass 14 = .ok (.lload_n 1, 1) := by decide +kernel
theorem d_Y_mass_15 : decode b_Y_mass 15 = .ok (.aload_n 0, 1) := by decide +kernel
theorem d_Y_mass_16 : decode b_Y_mass 16 = .ok (.getfield 9, 3) := by decide +kernel
theorem d_Y_mass_19 : decode b_Y_mass 19 = .ok (.iload_n 3, 1) := by decide +kernel
theorem d_Y_mass_20 : decode b_Y_mass 20 = .ok (.laload, 1) := by decide +kernel
theorem d_Y_mass_21 : decode b_Y_mass 21 = .ok (.ladd, 1) := by decide +kernel
theorem d_Y_mass_22 : decode b_Y_mass 22 = .ok (.lstore_n 1, 1) := by decide +kernel
theorem d_Y_mass_23 : decode b_Y_mass 23 = .ok (.iinc 3 1, 3) := by decide +kernel
theorem d_Y_mass_26 : decode b_Y_mass 26 = .ok (.goto (-17), 3) := by decide +kernel
theorem d_Y_mass_29 : decode b_Y_mass 29 = .ok (.lload_n 1, 1) := by decide +kernel
theorem d_Y_mass_30 : decode b_Y_mass 30 = .ok (.lreturn, 1) := by decide +kernel
theorem d_X_passMinute_0 : decode b_X_passMinute 0 = .ok (.aload_n 0, 1) := by decide +kernel
theorem d_X_passMinute_1 : decode b_X_passMinute 1 = .ok (.aload_n 0, 1) := by decide +kernel
theorem d_X_passMinute_2 : decode b_X_passMinute 2 = .ok (.getfield 32, 3) := by decide +kernel
theorem d_X_passMinute_5 : decode b_X_passMinute 5 = .ok (.i2l, 1) := by decide +kernel
theorem d_X_passMinute_6 : decode b_X_passMinute 6 = .ok (.iconst 0, 1) := by decide +kernel
theorem d_X_passMinute_7 : decode b_X_passMinute 7 = .ok (.invokevirtual 138, 3) := by decide +kernel
theorem d_X_passMinute_10 : decode b_X_passMinute 10 = .ok (.aload_n 0, 1) := by decide +kernel
theorem d_X_passMinute_11 : decode b_X_passMinute 11 = .ok (.getfield 22, 3) := by decide +kernel
theorem d_X_passMinute_14 : decode b_X_passMinute 14 = .ok (.iconst 3, 1) := by decide +kernel
theorem d_X_passMinute_15 : decode b_X_passMinute 15 = .ok (.dup2, 1) := by decide +kernel
theorem d_X_passMinute_16 : decode b_X_passMinute 16 = .ok (.laload, 1) := by decide +kernel
theorem d_X_passMinute_17 : decode b_X_passMinute 17 = .ok (.aload_n 0, 1) := by decide +kernel
theorem d_X_passMinute_18 : decode b_X_passMinute 18 = .ok (.getfield 32, 3) := by decide +kernel
theorem d_X_passMinute_21 : decode b_X_passMinute 21 = .ok (.i2l, 1) := by decide +kernel
theorem d_X_passMinute_22 : decode b_X_passMinute 22 = .ok (.ladd, 1) := by decide +kernel
theorem d_X_passMinute_23 : decode b_X_passMinute 23 = .ok (.lastore, 1) := by decide +kernel
theorem d_X_passMinute_24 : decode b_X_passMinute 24 = .ok (.iconst 0, 1) := by decide +kernel
theorem d_X_passMinute_25 : decode b_X_passMinute 25 = .ok (.istore_n 1, 1) := by decide +kernel
theorem d_X_passMinute_26 : decode b_X_passMinute 26 = .ok (.iload_n 1, 1) := by decide +kernel
theorem d_X_passMinute_27 : decode b_X_passMinute 27 = .ok (.aload_n 0, 1) := by decide +kernel
theorem d_X_passMinute_28 : decode b_X_passMinute 28 = .ok (.getfield 52, 3) := by decide +kernel
theorem d_X_passMinute_31 : decode b_X_passMinute 31 = .ok (.arraylength, 1) := by decide +kernel
theorem d_X_passMinute_32 : decode b_X_passMinute 32 = .ok (.if_icmp .ge 42, 3) := by decide +kernel
theorem d_X_passMinute_35 : decode b_X_passMinute 35 = .ok (.aload_n 0, 1) := by decide +kernel
theorem d_X_passMinute_36 : decode b_X_passMinute 36 = .ok (.getfield 52, 3) := by decide +kernel
theorem d_X_passMinute_39 : decode b_X_passMinute 39 = .ok (.iload_n 1, 1) := by decide +kernel
theorem d_X_passMinute_40 : decode b_X_passMinute 40 = .ok (.aaload, 1) := by decide +kernel
theorem d_X_passMinute_41 : decode b_X_passMinute 41 = .ok (.astore_n 2, 1) := by decide +kernel
theorem d_X_passMinute_42 : decode b_X_passMinute 42 = .ok (.aload_n 0, 1) := by decide +kernel
theorem d_X_passMinute_43 : decode b_X_passMinute 43 = .ok (.aload_n 2, 1) := by decide +kernel
theorem d_X_passMinute_44 : decode b_X_passMinute 44 = .ok (.invokevirtual 142, 3) := by decide +kernel
theorem d_X_passMinute_47 : decode b_X_passMinute 47 = .ok (.aload_n 0, 1) := by decide +kernel
theorem d_X_passMinute_48 : decode b_X_passMinute 48 = .ok (.aload_n 2, 1) := by decide +kernel
theorem d_X_passMinute_49 : decode b_X_passMinute 49 = .ok (.invokevirtual 146, 3) := by decide +kernel
theorem d_X_passMinute_52 : decode b_X_passMinute 52 = .ok (.aload_n 0, 1) := by decide +kernel
theorem d_X_passMinute_53 : decode b_X_passMinute 53 = .ok (.aload_n 2, 1) := by decide +kernel
theorem d_X_passMinute_54 : decode b_X_passMinute 54 = .ok (.invokevirtual 149, 3) := by decide +kernel
theorem d_X_passMinute_57 : decode b_X_passMinute 57 = .ok (.aload_n 0, 1) := by decide +kernel
theorem d_X_passMinute_58 : decode b_X_passMinute 58 = .ok (.aload_n 2, 1) := by decide +kernel
theorem d_X_passMinute_59 : decode b_X_passMinute 59 = .ok (.invokevirtual 152, 3) := by decide +kernel
theorem d_X_passMinute_62 : decode b_X_passMinute 62 = .ok (.iload_n 1, 1) := by decide +kernel
theorem d_X_passMinute_63 : decode b_X_passMinute 63 = .ok (.iconst 1, 1) := by decide +kernel
theorem d_X_passMinute_64 : decode b_X_passMinute 64 = .ok (.iadd, 1) := by decide +kernel
theorem d_X_passMinute_65 : decode b_X_passMinute 65 = .ok (.invokevirtual 138, 3) := by decide +kernel
theorem d_X_passMinute_68 : decode b_X_passMinute 68 = .ok (.iinc 1 1, 3) := by decide +kernel
theorem d_X_passMinute_71 : decode b_X_passMinute 71 = .ok (.goto (-45), 3) := by decide +kernel
theorem d_X_passMinute_74 : decode b_X_passMinute 74 = .ok (.aload_n 0, 1) := by decide +kernel
theorem d_X_passMinute_75 : decode b_X_passMinute 75 = .ok (.getfield 18, 3) := by decide +kernel
theorem d_X_passMinute_78 : decode b_X_passMinute 78 = .ok (.aload_n 0, 1) := by decide +kernel
theorem d_X_passMinute_79 : decode b_X_passMinute 79 = .ok (.invokevirtual 98, 3) := by decide +kernel
theorem d_X_passMinute_82 : decode b_X_passMinute 82 = .ok (.invokevirtual 155, 3) := by decide +kernel
theorem d_X_passMinute_85 : decode b_X_passMinute 85 = .ok (.aload_n 0, 1) := by decide +kernel
theorem d_X_passMinute_86 : decode b_X_passMinute 86 = .ok (.getfield 22, 3) := by decide +kernel
theorem d_X_passMinute_89 : decode b_X_passMinute 89 = .ok (.bipush 8, 2) := by decide +kernel
theorem d_X_passMinute_91 : decode b_X_passMinute 91 = .ok (.dup2, 1) := by decide +kernel
theorem d_X_passMinute_92 : decode b_X_passMinute 92 = .ok (.laload, 1) := by decide +kernel
theorem d_X_passMinute_93 : decode b_X_passMinute 93 = .ok (.lconst 1, 1) := by decide +kernel
theorem d_X_passMinute_94 : decode b_X_passMinute 94 = .ok (.ladd, 1) := by decide +kernel
theorem d_X_passMinute_95 : decode b_X_passMinute 95 = .ok (.lastore, 1) := by decide +kernel
theorem d_X_passMinute_96 : decode b_X_passMinute 96 = .ok (.return_, 1) := by decide +kernel
theorem d_X_pour_0 : decode b_X_pour 0 = .ok (.aload_n 0, 1) := by decide +kernel
theorem d_X_pour_1 : decode b_X_pour 1 = .ok (.iload_n 3, 1) := by decide +kernel
theorem d_X_pour_2 : decode b_X_pour 2 = .ok (.invokevirtual 63, 3) := by decide +kernel
theorem d_X_pour_5 : decode b_X_pour 5 = .ok (.astore 4, 2) := by decide +kernel
theorem d_X_pour_7 : decode b_X_pour 7 = .ok (.aload 4, 2) := by decide +kernel
theorem d_X_pour_9 : decode b_X_pour 9 = .ok (.ifnonnull 16, 3) := by decide +kernel
theorem d_X_pour_12 : decode b_X_pour 12 = .ok (.aload_n 0, 1) := by decide +kernel
theorem d_X_pour_13 : decode b_X_pour 13 = .ok (.getfield 22, 3) := by decide +kernel
theorem d_X_pour_16 : decode b_X_pour 16 = .ok (.iconst 2, 1) := by decide +kernel
theorem d_X_pour_17 : decode b_X_pour 17 = .ok (.dup2, 1) := by decide +kernel
theorem d_X_pour_18 : decode b_X_pour 18 = .ok (.laload, 1) := by decide +kernel
theorem d_X_pour_19 : decode b_X_pour 19 = .ok (.lload_n 1, 1) := by decide +kernel
theorem d_X_pour_20 : decode b_X_pour 20 = .ok (.ladd, 1) := by decide +kernel
theorem d_X_pour_21 : decode b_X_pour 21 = .ok (.lastore, 1) := by decide +kernel
theorem d_X_pour_22 : decode b_X_pour 22 = .ok (.goto 14, 3) := by decide +kernel
theorem d_X_pour_25 : decode b_X_pour 25 = .ok (.aload 4, 2) := by decide +kernel
theorem d_X_pour_27 : decode b_X_pour 27 = .ok (.getfield 107, 3) := by decide +kernel
theorem d_X_pour_30 : decode b_X_pour 30 = .ok (.iconst 3, 1) := by decide +kernel
theorem d_X_pour_31 : decode b_X_pour 31 = .ok (.dup2, 1) := by decide +kernel
theorem d_X_pour_32 : decode b_X_pour 32 = .ok (.laload, 1) := by decide +kernel
theorem d_X_pour_33 : decode b_X_pour 33 = .ok (.lload_n 1, 1) := by decide +kernel
theorem d_X_pour_34 : decode b_X_pour 34 = .ok (.ladd, 1) := by decide +kernel
theorem d_X_pour_35 : decode b_X_pour 35 = .ok (.lastore, 1) := by decide +kernel
theorem d_X_pour_36 : decode b_X_pour 36 = .ok (.return_, 1) := by decide +kernel
theorem d_X_breakParts_0 : decode b_X_breakParts 0 = .ok (.aload_n 1, 1) := by decide +kernel
theorem d_X_breakParts_1 : decode b_X_breakParts 1 = .ok (.getfield 107, 3) := by decide +kernel
theorem d_X_breakParts_4 : decode b_X_breakParts 4 = .ok (.iconst 3, 1) := by decide +kernel
theorem d_X_breakParts_5 : decode b_X_breakParts 5 = .ok (.laload, 1) := by decide +kernel
theorem d_X_breakParts_6 : decode b_X_breakParts 6 = .ok (.aload_n 1, 1) := by decide +kernel
theorem d_X_breakParts_7 : decode b_X_breakParts 7 = .ok (.getfield 86, 3) := by decide +kernel
theorem d_X_breakParts_10 : decode b_X_breakParts 10 = .ok (.i2l, 1) := by decide +kernel
theorem d_X_breakParts_11 : decode b_X_breakParts 11 = .ok (.lcmp, 1) := by decide +kernel
theorem d_X_breakParts_12 : decode b_X_breakParts 12 = .ok (.ifCond .ge 4, 3) := by decide +kernel
theorem d_X_breakParts_15 : decode b_X_breakParts 15 = .ok (.return_, 1) := by decide +kernel
theorem d_X_breakParts_16 : decode b_X_breakParts 16 = .ok (.aload_n 1, 1) := by decide +kernel
theorem d_X_breakParts_17 : decode b_X_breakParts 17 = .ok (.invokevirtual 110, 3) := by decide +kernel
theorem d_X_breakParts_20 : decode b_X_breakParts 20 = .ok (.lstore_n 2, 1) := by decide +kernel
theorem d_X_breakParts_21 : decode b_X_breakParts 21 = .ok (.iconst 0, 1) := by decide +kernel
theorem d_X_breakParts_22 : decode b_X_breakParts 22 = .ok (.istore 4, 2) := by decide +kernel
theorem d_X_breakParts_24 : decode b_X_breakParts 24 = .ok (.iload 4, 2) := by decide +kernel
theorem d_X_breakParts_26 : decode b_X_breakParts 26 = .ok (.iconst 3, 1) := by decide +kernel
theorem d_X_breakParts_27 : decode b_X_breakParts 27 = .ok (.if_icmp .ge 17, 3) := by decide +kernel
theorem d_X_breakParts_30 : decode b_X_breakParts 30 = .ok (.aload_n 0, 1) := by decide +kernel
theorem d_X_breakParts_31 : decode b_X_breakParts 31 = .ok (.aload_n 1, 1) := by decide +kernel
theorem d_X_breakParts_32 : decode b_X_breakParts 32 = .ok (.iload 4, 2) := by decide +kernel
theorem d_X_breakParts_34 : decode b_X_breakParts 34 = .ok (.lload_n 2, 1) := by decide +kernel
theorem d_X_breakParts_35 : decode b_X_breakParts 35 = .ok (.invokevirtual 159, 3) := by decide +kernel
theorem d_X_breakParts_38 : decode b_X_breakParts 38 = .ok (.iinc 4 1, 3) := by decide +kernel
theorem d_X_breakParts_41 : decode b_X_breakParts 41 = .ok (.goto (-17), 3) := by decide +kernel
theorem d_X_breakParts_44 : decode b_X_breakParts 44 = .ok (.return_, 1) := by decide +kernel
theorem d_X_breakPart_0 : decode b_X_breakPart 0 = .ok (.aload_n 0, 1) := by decide +kernel
theorem d_X_breakPart_1 : decode b_X_breakPart 1 = .ok (.getfield 11, 3) := by decide +kernel
theorem d_X_breakPart_4 : decode b_X_breakPart 4 = .ok (.iload_n 2, 1) := by decide +kernel
theorem d_X_breakPart_5 : decode b_X_breakPart 5 = .ok (.aaload, 1) := by decide +kernel
theorem d_X_breakPart_6 : decode b_X_breakPart 6 = .ok (.astore 5, 2) := by decide +kernel
theorem d_X_breakPart_8 : decode b_X_breakPart 8 = .ok (.aload_n 1, 1) := by decide +kernel
theorem d_X_breakPart_9 : decode b_X_breakPart 9 = .ok (.getfield 107, 3) := by decide +kernel
theorem d_X_breakPart_12 : decode b_X_breakPart 12 = .ok (.iload_n 2, 1) := by decide +kernel
theorem d_X_breakPart_13 : decode b_X_breakPart 13 = .ok (.laload, 1) := by decide +kernel
theorem d_X_breakPart_14 : decode b_X_breakPart 14 = .ok (.aload 5, 2) := by decide +kernel
theorem d_X_breakPart_16 : decode b_X_breakPart 16 = .ok (.lload_n 3, 1) := by decide +kernel
theorem d_X_breakPart_17 : decode b_X_breakPart 17 = .ok (.invokevirtual 163, 3) := by decide +kernel
theorem d_X_breakPart_20 : decode b_X_breakPart 20 = .ok (.i2l, 1) := by decide +kernel
theorem d_X_breakPart_21 : decode b_X_breakPart 21 = .ok (.invokestatic 167, 3) := by decide +kernel
theorem d_X_breakPart_24 : decode b_X_breakPart 24 = .ok (.lstore 6, 2) := by decide +kernel
theorem d_X_breakPart_26 : decode b_X_breakPart 26 = .ok (.lload 6, 2) := by decide +kernel
theorem d_X_breakPart_28 : decode b_X_breakPart 28 = .ok (.aload 5, 2) := by decide +kernel
theorem d_X_breakPart_30 : decode b_X_breakPart 30 = .ok (.getfield 80, 3) := by decide +kernel
theorem d_X_breakPart_33 : decode b_X_breakPart 33 = .ok (.i2l, 1) := by decide +kernel
theorem d_X_breakPart_34 : decode b_X_breakPart 34 = .ok (.lmul, 1) := by decide +kernel
theorem d_X_breakPart_35 : decode b_X_breakPart 35 = .ok (.lstore 8, 2) := by decide +kernel
theorem d_X_breakPart_37 : decode b_X_breakPart 37 = .ok (.lload 6, 2) := by decide +kernel
theorem d_X_breakPart_39 : decode b_X_breakPart 39 = .ok (.aload 5, 2) := by decide +kernel
theorem d_X_breakPart_41 : decode b_X_breakPart 41 = .ok (.getfield 83, 3) := by decide +kernel
theorem d_X_breakPart_44 : decode b_X_breakPart 44 = .ok (.i2l, 1) := by decide +kernel
theorem d_X_breakPart_45 : decode b_X_breakPart 45 = .ok (.lmul, 1) := by decide +kernel
theorem d_X_breakPart_46 : decode b_X_breakPart 46 = .ok (.ldc2_w 170, 3) := by decide +kernel
theorem d_X_breakPart_49 : decode b_X_breakPart 49 = .ok (.ldiv, 1) := by decide +kernel
theorem d_X_breakPart_50 : decode b_X_breakPart 50 = .ok (.lstore 10, 2) := by decide +kernel
theorem d_X_breakPart_52 : decode b_X_breakPart 52 = .ok (.aload_n 1, 1) := by decide +kernel
theorem d_X_breakPart_53 : decode b_X_breakPart 53 = .ok (.getfield 107, 3) := by decide +kernel
theorem d_X_breakPart_56 : decode b_X_breakPart 56 = .ok (.iload_n 2, 1) := by decide +kernel
theorem d_X_breakPart_57 : decode b_X_breakPart 57 = .ok (.dup2, 1) := by decide +kernel
theorem d_X_breakPart_58 : decode b_X_breakPart 58 = .ok (.laload, 1) := by decide +kernel
theorem d_X_breakPart_59 : decode b_X_breakPart 59 = .ok (.lload 6, 2) := by decide +kernel
theorem d_X_breakPart_61 : decode b_X_breakPart 61 = .ok (.lsub, 1) := by decide +kernel
theorem d_X_breakPart_62 : decode b_X_breakPart 62 = .ok (.lastore, 1) := by decide +kernel
theorem d_X_breakPart_63 : decode b_X_breakPart 63 = .ok (.aload_n 1, 1) := by decide +kernel
theorem d_X_breakPart_64 : decode b_X_breakPart 64 = .ok (.getfield 107, 3) := by decide +kernel
theorem d_X_breakPart_67 : decode b_X_breakPart 67 = .ok (.iconst 4, 1) := by decide +kernel
theorem d_X_breakPart_68 : decode b_X_breakPart 68 = .ok (.dup2, 1) := by decide +kernel
theorem d_X_breakPart_69 : decode b_X_breakPart 69 = .ok (.laload, 1) := by decide +kernel
theorem d_X_breakPart_70 : decode b_X_breakPart 70 = .ok (.lload 8, 2) := by decide +kernel
theorem d_X_breakPart_72 : decode b_X_breakPart 72 = .ok (.ladd, 1) := by decide +kernel
theorem d_X_breakPart_73 : decode b_X_breakPart 73 = .ok (.lastore, 1) := by decide +kernel
theorem d_X_breakPart_74 : decode b_X_breakPart 74 = .ok (.aload_n 1, 1) := by decide +kernel
theorem d_X_breakPart_75 : decode b_X_breakPart 75 = .ok (.getfield 107, 3) := by decide +kernel
theorem d_X_breakPart_78 : decode b_X_breakPart 78 = .ok (.iconst 3, 1) := by decide +kernel
theorem d_X_breakPart_79 : decode b_X_breakPart 79 = .ok (.dup2, 1) := by decide +kernel
theorem d_X_breakPart_80 : decode b_X_breakPart 80 = .ok (.laload, 1) := by decide +kernel
theorem d_X_breakPart_81 : decode b_X_breakPart 81 = .ok (.lload 10, 2) := by decide +kernel
theorem d_X_breakPart_83 : decode b_X_breakPart 83 = .ok (.ladd, 1) := by decide +kernel
theorem d_X_breakPart_84 : decode b_X_breakPart 84 = .ok (.lastore, 1) := by decide +kernel
theorem d_X_breakPart_85 : decode b_X_breakPart 85 = .ok (.aload_n 0, 1) := by decide +kernel
theorem d_X_breakPart_86 : decode b_X_breakPart 86 = .ok (.getfield 22, 3) := by decide +kernel
theorem d_X_breakPart_89 : decode b_X_breakPart 89 = .ok (.iconst 0, 1) := by decide +kernel
theorem d_X_breakPart_90 : decode b_X_breakPart 90 = .ok (.dup2, 1) := by decide +kernel
theorem d_X_breakPart_91 : decode b_X_breakPart 91 = .ok (.laload, 1) := by decide +kernel
theorem d_X_breakPart_92 : decode b_X_breakPart 92 = .ok (.lload 6, 2) := by decide +kernel
theorem d_X_breakPart_94 : decode b_X_breakPart 94 = .ok (.ladd, 1) := by decide +kernel
theorem d_X_breakPart_95 : decode b_X_breakPart 95 = .ok (.lastore, 1) := by decide +kernel
theorem d_X_breakPart_96 : decode b_X_breakPart 96 = .ok (.aload_n 0, 1) := by decide +kernel
theorem d_X_breakPart_97 : decode b_X_breakPart 97 = .ok (.getfield 22, 3) := by decide +kernel
theorem d_X_breakPart_100 : decode b_X_breakPart 100 = .ok (.iconst 4, 1) := by decide +kernel
theorem d_X_breakPart_101 : decode b_X_breakPart 101 = .ok (.dup2, 1) := by decide +kernel
theorem d_X_breakPart_102 : decode b_X_breakPart 102 = .ok (.laload, 1) := by decide +kernel
theorem d_X_breakPart_103 : decode b_X_breakPart 103 = .ok (.lload 8, 2) := by decide +kernel
theorem d_X_breakPart_105 : decode b_X_breakPart 105 = .ok (.ladd, 1) := by decide +kernel
theorem d_X_breakPart_106 : decode b_X_breakPart 106 = .ok (.lastore, 1) := by decide +kernel
theorem d_X_breakPart_107 : decode b_X_breakPart 107 = .ok (.aload_n 0, 1) := by decide +kernel
theorem d_X_breakPart_108 : decode b_X_breakPart 108 = .ok (.getfield 22, 3) := by decide +kernel
theorem d_X_breakPart_111 : decode b_X_breakPart 111 = .ok (.bipush 7, 2) := by decide +kernel
theorem d_X_breakPart_113 : decode b_X_breakPart 113 = .ok (.dup2, 1) := by decide +kernel
theorem d_X_breakPart_114 : decode b_X_breakPart 114 = .ok (.laload, 1) := by decide +kernel
theorem d_X_breakPart_115 : decode b_X_breakPart 115 = .ok (.lload 10, 2) := by decide +kernel
theorem d_X_breakPart_117 : decode b_X_breakPart 117 = .ok (.ladd, 1) := by decide +kernel
theorem d_X_breakPart_118 : decode b_X_breakPart 118 = .ok (.lastore, 1) := by decide +kernel
theorem d_X_breakPart_119 : decode b_X_breakPart 119 = .ok (.return_, 1) := by decide +kernel
theorem d_K_millionthsAt_0 : decode b_K_millionthsAt 0 = .ok (.iconst 0, 1) := by decide +kernel
theorem d_K_millionthsAt_1 : decode b_K_millionthsAt 1 = .ok (.istore_n 3, 1) := by decide +kernel
theorem d_K_millionthsAt_2 : decode b_K_millionthsAt 2 = .ok (.iconst 0, 1) := by decide +kernel
theorem d_K_millionthsAt_3 : decode b_K_millionthsAt 3 = .ok (.istore 4, 2) := by decide +kernel
theorem d_K_millionthsAt_5 : decode b_K_millionthsAt 5 = .ok (.iload 4, 2) := by decide +kernel
theorem d_K_millionthsAt_7 : decode b_K_millionthsAt 7 = .ok (.aload_n 0, 1) := by decide +kernel
theorem d_K_millionthsAt_8 : decode b_K_millionthsAt 8 = .ok (.getfield 18, 3) := by decide +kernel
theorem d_K_millionthsAt_11 : decode b_K_millionthsAt 11 = .ok (.if_icmp .ge 36, 3) := by decide +kernel
theorem d_K_millionthsAt_14 : decode b_K_millionthsAt 14 = .ok (.iload 4, 2) := by decide +kernel
theorem d_K_millionthsAt_16 : decode b_K_millionthsAt 16 = .ok (.iconst 4, 1) := by decide +kernel
theorem d_K_millionthsAt_17 : decode b_K_millionthsAt 17 = .ok (.if_icmp .ge 30, 3) := by decide +kernel
theorem d_K_millionthsAt_20 : decode b_K_millionthsAt 20 = .ok (.lload_n 1, 1) := by decide +kernel
theorem d_K_millionthsAt_21 : decode b_K_millionthsAt 21 = .ok (.aload_n 0, 1) := by decide +kernel
theorem d_K_millionthsAt_22 : decode b_K_millionthsAt 22 = .ok (.getfield 9, 3) := by decide +kernel
theorem d_K_millionthsAt_25 : decode b_K_millionthsAt 25 = .ok (.iload 4, 2) := by decide +kernel
theorem d_K_millionthsAt_27 : decode b_K_millionthsAt 27 = .ok (.iaload, 1) := by decide +kernel
theorem d_K_millionthsAt_28 : decode b_K_millionthsAt 28 = .ok (.i2l, 1) := by decide +kernel
theorem d_K_millionthsAt_29 : decode b_K_millionthsAt 29 = .ok (.lcmp, 1) := by decide +kernel
theorem d_K_millionthsAt_30 : decode b_K_millionthsAt 30 = .ok (.ifCond .lt 11, 3) := by decide +kernel
theorem d_K_millionthsAt_33 : decode b_K_millionthsAt 33 = .ok (.aload_n 0, 1) := by decide +kernel
theorem d_K_millionthsAt_34 : decode b_K_millionthsAt 34 = .ok (.getfield 15, 3) := by decide +kernel
theorem d_K_millionthsAt_37 : decode b_K_millionthsAt 37 = .ok (.iload 4, 2) := by decide +kernel
theorem d_K_millionthsAt_39 : decode b_K_millionthsAt 39 = .ok (.iaload, 1) := by decide +kernel
theorem d_K_millionthsAt_40 : decode b_K_millionthsAt 40 = .ok (.istore_n 3, 1) := by decide +kernel
theorem d_K_millionthsAt_41 : decode b_K_millionthsAt 41 = .ok (.iinc 4 1, 3) := by decide +kernel
theorem d_K_millionthsAt_44 : decode b_K_millionthsAt 44 = .ok (.goto (-39), 3) := by decide +kernel
theorem d_K_millionthsAt_47 : decode b_K_millionthsAt 47 = .ok (.iload_n 3, 1) := by decide +kernel
theorem d_K_millionthsAt_48 : decode b_K_millionthsAt 48 = .ok (.ireturn, 1) := by decide +kernel
theorem d_X_millionthsOf_0 : decode b_X_millionthsOf 0 = .ok (.lload_n 0, 1) := by decide +kernel
theorem d_X_millionthsOf_1 : decode b_X_millionthsOf 1 = .ok (.ldc2_w 127, 3) := by decide +kernel
theorem d_X_millionthsOf_4 : decode b_X_millionthsOf 4 = .ok (.ldiv, 1) := by decide +kernel
theorem d_X_millionthsOf_5 : decode b_X_millionthsOf 5 = .ok (.lload_n 2, 1) := by decide +kernel
theorem d_X_millionthsOf_6 : decode b_X_millionthsOf 6 = .ok (.lmul, 1) := by decide +kernel
theorem d_X_millionthsOf_7 : decode b_X_millionthsOf 7 = .ok (.lload_n 0, 1) := by decide +kernel
theorem d_X_millionthsOf_8 : decode b_X_millionthsOf 8 = .ok (.ldc2_w 127, 3) := by decide +kernel
theorem d_X_millionthsOf_11 : decode b_X_millionthsOf 11 = .ok (.lrem, 1) := by decide +kernel
theorem d_X_millionthsOf_12 : decode b_X_millionthsOf 12 = .ok (.lload_n 2, 1) := by decide +kernel
theorem d_X_millionthsOf_13 : decode b_X_millionthsOf 13 = .ok (.lmul, 1) := by decide +kernel
theorem d_X_millionthsOf_14 : decode b_X_millionthsOf 14 = .ok (.ldc2_w 127, 3) := by decide +kernel
theorem d_X_millionthsOf_17 : decode b_X_millionthsOf 17 = .ok (.ldiv, 1) := by decide +kernel
theorem d_X_millionthsOf_18 : decode b_X_millionthsOf 18 = .ok (.ladd, 1) := by decide +kernel
theorem d_X_millionthsOf_19 : decode b_X_millionthsOf 19 = .ok (.lreturn, 1) := by decide +kernel
theorem d_X_loseHeat_0 : decode b_X_loseHeat 0 = .ok (.aload_n 1, 1) := by decide +kernel
theorem d_X_loseHeat_1 : decode b_X_loseHeat 1 = .ok (.getfield 107, 3) := by decide +kernel
theorem d_X_loseHeat_4 : decode b_X_loseHeat 4 = .ok (.iconst 4, 1) := by decide +kernel
theorem d_X_loseHeat_5 : decode b_X_loseHeat 5 = .ok (.laload, 1) := by decide +kernel
theorem d_X_loseHeat_6 : decode b_X_loseHeat 6 = .ok (.aload_n 0, 1) := by decide +kernel
theorem d_X_loseHeat_7 : decode b_X_loseHeat 7 = .ok (.getfield 36, 3) := by decide +kernel
theorem d_X_loseHeat_10 : decode b_X_loseHeat 10 = .ok (.i2l, 1) := by decide +kernel
theorem d_X_loseHeat_11 : decode b_X_loseHeat 11 = .ok (.invokestatic 167, 3) := by decide +kernel
theorem d_X_loseHeat_14 : decode b_X_loseHeat 14 = .ok (.lstore_n 2, 1) := by decide +kernel
theorem d_X_loseHeat_15 : decode b_X_loseHeat 15 = .ok (.aload_n 1, 1) := by decide +kernel
theorem d_X_loseHeat_16 : decode b_X_loseHeat 16 = .ok (.getfield 107, 3) := by decide +kernel
theorem d_X_loseHeat_19 : decode b_X_loseHeat 19 = .ok (.iconst 4, 1) := by decide +kernel
theorem d_X_loseHeat_20 : decode b_X_loseHeat 20 = .ok (.dup2, 1) := by decide +kernel
theorem d_X_loseHeat_21 : decode b_X_loseHeat 21 = .ok (.laload, 1) := by decide +kernel
theorem d_X_loseHeat_22 : decode b_X_loseHeat 22 = .ok (.lload_n 2, 1) := by decide +kernel
theorem d_X_loseHeat_23 : decode b_X_loseHeat 23 = .ok (.lsub, 1) := by decide +kernel
theorem d_X_loseHeat_24 : decode b_X_loseHeat 24 = .ok (.lastore, 1) := by decide +kernel
theorem d_X_loseHeat_25 : decode b_X_loseHeat 25 = .ok (.aload_n 0, 1) := by decide +kernel
theorem d_X_loseHeat_26 : decode b_X_loseHeat 26 = .ok (.getfield 22, 3) := by decide +kernel
theorem d_X_loseHeat_29 : decode b_X_loseHeat 29 = .ok (.iconst 5, 1) := by decide +kernel
theorem d_X_loseHeat_30 : decode b_X_loseHeat 30 = .ok (.dup2, 1) := by decide +kernel
theorem d_X_loseHeat_31 : decode b_X_loseHeat 31 = .ok (.laload, 1) := by decide +kernel
theorem d_X_loseHeat_32 : decode b_X_loseHeat 32 = .ok (.lload_n 2, 1) := by decide +kernel
theorem d_X_loseHeat_33 : decode b_X_loseHeat 33 = .ok (.ladd, 1) := by decide +kernel
theorem d_X_loseHeat_34 : decode b_X_loseHeat 34 = .ok (.lastore, 1) := by decide +kernel
theorem d_X_loseHeat_35 : decode b_X_loseHeat 35 = .ok (.return_, 1) := by decide +kernel
theorem d_X_driveOff_0 : decode b_X_driveOff 0 = .ok (.aload_n 1, 1) := by decide +kernel
theorem d_X_driveOff_1 : decode b_X_driveOff 1 = .ok (.getfield 107, 3) := by decide +kernel
theorem d_X_driveOff_4 : decode b_X_driveOff 4 = .ok (.iconst 3, 1) := by decide +kernel
theorem d_X_driveOff_5 : decode b_X_driveOff 5 = .ok (.laload, 1) := by decide +kernel
theorem d_X_driveOff_6 : decode b_X_driveOff 6 = .ok (.aload_n 0, 1) := by decide +kernel
theorem d_X_driveOff_7 : decode b_X_driveOff 7 = .ok (.getfield 18, 3) := by decide +kernel
theorem d_X_driveOff_10 : decode b_X_driveOff 10 = .ok (.getfield 113, 3) := by decide +kernel
theorem d_X_driveOff_13 : decode b_X_driveOff 13 = .ok (.i2l, 1) := by decide +kernel
theorem d_X_driveOff_14 : decode b_X_driveOff 14 = .ok (.invokestatic 167, 3) := by decide +kernel
theorem d_X_driveOff_17 : decode b_X_driveOff 17 = .ok (.lstore_n 2, 1) := by decide +kernel
theorem d_X_driveOff_18 : decode b_X_driveOff 18 = .ok (.lload_n 2, 1) := by decide +kernel
theorem d_X_driveOff_19 : decode b_X_driveOff 19 = .ok (.ldc2_w 172, 3) := by decide +kernel
theorem d_X_driveOff_22 : decode b_X_driveOff 22 = .ok (.lmul, 1) := by decide +kernel
theorem d_X_driveOff_23 : decode b_X_driveOff 23 = .ok (.aload_n 1, 1) := by decide +kernel
theorem d_X_driveOff_24 : decode b_X_driveOff 24 = .ok (.getfield 107, 3) := by decide +kernel
theorem d_X_driveOff_27 : decode b_X_driveOff 27 = .ok (.iconst 4, 1) := by decide +kernel
theorem d_X_driveOff_28 : decode b_X_driveOff 28 = .ok (.laload, 1) := by decide +kernel
theorem d_X_driveOff_29 : decode b_X_driveOff 29 = .ok (.invokestatic 129, 3) := by decide +kernel
theorem d_X_driveOff_32 : decode b_X_driveOff 32 = .ok (.lstore 4, 2) := by decide +kernel
theorem d_X_driveOff_34 : decode b_X_driveOff 34 = .ok (.aload_n 1, 1) := by decide +kernel
theorem d_X_driveOff_35 : decode b_X_driveOff 35 = .ok (.getfield 107, 3) := by decide +kernel
theorem d_X_driveOff_38 : decode b_X_driveOff 38 = .ok (.iconst 3, 1) := by decide +kernel
theorem d_X_driveOff_39 : decode b_X_driveOff 39 = .ok (.dup2, 1) := by decide +kernel
theorem d_X_driveOff_40 : decode b_X_driveOff 40 = .ok (.laload, 1) := by decide +kernel
theorem d_X_driveOff_41 : decode b_X_driveOff 41 = .ok (.lload_n 2, 1) := by decide +kernel
theorem d_X_driveOff_42 : decode b_X_driveOff 42 = .ok (.lsub, 1) := by decide +kernel
theorem d_X_driveOff_43 : decode b_X_driveOff 43 = .ok (.lastore, 1) := by decide +kernel
theorem d_X_driveOff_44 : decode b_X_driveOff 44 = .ok (.aload_n 1, 1) := by decide +kernel
theorem d_X_driveOff_45 : decode b_X_driveOff 45 = .ok (.getfield 107, 3) := by decide +kernel
theorem d_X_driveOff_48 : decode b_X_driveOff 48 = .ok (.iconst 4, 1) := by decide +kernel
theorem d_X_driveOff_49 : decode b_X_driveOff 49 = .ok (.dup2, 1) := by decide +kernel
theorem d_X_driveOff_50 : decode b_X_driveOff 50 = .ok (.laload, 1) := by decide +kernel
theorem d_X_driveOff_51 : decode b_X_driveOff 51 = .ok (.lload 4, 2) := by decide +kernel
theorem d_X_driveOff_53 : decode b_X_driveOff 53 = .ok (.lsub, 1) := by decide +kernel
theorem d_X_driveOff_54 : decode b_X_driveOff 54 = .ok (.lastore, 1) := by decide +kernel
theorem d_X_driveOff_55 : decode b_X_driveOff 55 = .ok (.aload_n 0, 1) := by decide +kernel
theorem d_X_driveOff_56 : decode b_X_driveOff 56 = .ok (.getfield 22, 3) := by decide +kernel
theorem d_X_driveOff_59 : decode b_X_driveOff 59 = .ok (.iconst 1, 1) := by decide +kernel
theorem d_X_driveOff_60 : decode b_X_driveOff 60 = .ok (.dup2, 1) := by decide +kernel
theorem d_X_driveOff_61 : decode b_X_driveOff 61 = .ok (.laload, 1) := by decide +kernel
theorem d_X_driveOff_62 : decode b_X_driveOff 62 = .ok (.lload_n 2, 1) := by decide +kernel
theorem d_X_driveOff_63 : decode b_X_driveOff 63 = .ok (.ladd, 1) := by decide +kernel
theorem d_X_driveOff_64 : decode b_X_driveOff 64 = .ok (.lastore, 1) := by decide +kernel
theorem d_X_driveOff_65 : decode b_X_driveOff 65 = .ok (.aload_n 0, 1) := by decide +kernel
theorem d_X_driveOff_66 : decode b_X_driveOff 66 = .ok (.getfield 22, 3) := by decide +kernel
theorem d_X_driveOff_69 : decode b_X_driveOff 69 = .ok (.bipush 6, 2) := by decide +kernel
theorem d_X_driveOff_71 : decode b_X_driveOff 71 = .ok (.dup2, 1) := by decide +kernel
theorem d_X_driveOff_72 : decode b_X_driveOff 72 = .ok (.laload, 1) := by decide +kernel
theorem d_X_driveOff_73 : decode b_X_driveOff 73 = .ok (.lload 4, 2) := by decide +kernel
theorem d_X_driveOff_75 : decode b_X_driveOff 75 = .ok (.ladd, 1) := by decide +kernel
theorem d_X_driveOff_76 : decode b_X_driveOff 76 = .ok (.lastore, 1) := by decide +kernel
theorem d_X_driveOff_77 : decode b_X_driveOff 77 = .ok (.return_, 1) := by decide +kernel
theorem d_Y_takeSurplus_0 : decode b_Y_takeSurplus 0 = .ok (.lconst 0, 1) := by decide +kernel
theorem d_Y_takeSurplus_1 : decode b_Y_takeSurplus 1 = .ok (.aload_n 0, 1) := by decide +kernel
theorem d_Y_takeSurplus_2 : decode b_Y_takeSurplus 2 = .ok (.getfield 9, 3) := by decide +kernel
theorem d_Y_takeSurplus_5 : decode b_Y_takeSurplus 5 = .ok (.iconst 3, 1) := by decide +kernel
theorem d_Y_takeSurplus_6 : decode b_Y_takeSurplus 6 = .ok (.laload, 1) := by decide +kernel
theorem d_Y_takeSurplus_7 : decode b_Y_takeSurplus 7 = .ok (.aload_n 0, 1) := by decide +kernel
theorem d_Y_takeSurplus_8 : decode b_Y_takeSurplus 8 = .ok (.getfield 20, 3) := by decide +kernel
theorem d_Y_takeSurplus_11 : decode b_Y_takeSurplus 11 = .ok (.i2l, 1) := by decide +kernel
theorem d_Y_takeSurplus_12 : decode b_Y_takeSurplus 12 = .ok (.lsub, 1) := by decide +kernel
theorem d_Y_takeSurplus_13 : decode b_Y_takeSurplus 13 = .ok (.invokestatic 27, 3) := by decide +kernel
theorem d_Y_takeSurplus_16 : decode b_Y_takeSurplus 16 = .ok (.lstore_n 1, 1) := by decide +kernel
theorem d_Y_takeSurplus_17 : decode b_Y_takeSurplus 17 = .ok (.aload_n 0, 1) := by decide +kernel
theorem d_Y_takeSurplus_18 : decode b_Y_takeSurplus 18 = .ok (.getfield 9, 3) := by decide +kernel
theorem d_Y_takeSurplus_21 : decode b_Y_takeSurplus 21 = .ok (.iconst 3, 1) := by decide +kernel
theorem d_Y_takeSurplus_22 : decode b_Y_takeSurplus 22 = .ok (.dup2, 1) := by decide +kernel
theorem d_Y_takeSurplus_23 : decode b_Y_takeSurplus 23 = .ok (.laload, 1) := by decide +kernel
theorem d_Y_takeSurplus_24 : decode b_Y_takeSurplus 24 = .ok (.lload_n 1, 1) := by decide +kernel
theorem d_Y_takeSurplus_25 : decode b_Y_takeSurplus 25 = .ok (.lsub, 1) := by decide +kernel
theorem d_Y_takeSurplus_26 : decode b_Y_takeSurplus 26 = .ok (.lastore, 1) := by decide +kernel
theorem d_Y_takeSurplus_27 : decode b_Y_takeSurplus 27 = .ok (.lload_n 1, 1) := by decide +kernel
theorem d_Y_takeSurplus_28 : decode b_Y_takeSurplus 28 = .ok (.lreturn, 1) := by decide +kernel
theorem d_F_adjust_0 : decode b_F_adjust 0 = .ok (.aload_n 0, 1) := by decide +kernel
theorem d_F_adjust_1 : decode b_F_adjust 1 = .ok (.getfield 9, 3) := by decide +kernel
theorem d_F_adjust_4 : decode b_F_adjust 4 = .ok (.ifCond .ne 4, 3) := by decide +kernel
theorem d_F_adjust_7 : decode b_F_adjust 7 = .ok (.return_, 1) := by decide +kernel
theorem d_F_adjust_8 : decode b_F_adjust 8 = .ok (.lload_n 1, 1) := by decide +kernel
theorem d_F_adjust_9 : decode b_F_adjust 9 = .ok (.aload_n 0, 1) := by decide +kernel
theorem d_F_adjust_10 : decode b_F_adjust 10 = .ok (.getfield 15, 3) := by decide +kernel
theorem d_F_adjust_13 : decode b_F_adjust 13 = .ok (.i2l, 1) := by decide +kernel
theorem d_F_adjust_14 : decode b_F_adjust 14 = .ok (.lsub, 1) := by decide +kernel
theorem d_F_adjust_15 : decode b_F_adjust 15 = .ok (.lstore_n 3, 1) := by decide +kernel
theorem d_F_adjust_16 : decode b_F_adjust 16 = .ok (.aload_n 0, 1) := by decide +kernel
theorem d_F_adjust_17 : decode b_F_adjust 17 = .ok (.aload_n 0, 1) := by decide +kernel
theorem d_F_adjust_18 : decode b_F_adjust 18 = .ok (.getfield 25, 3) := by decide +kernel
theorem d_F_adjust_21 : decode b_F_adjust 21 = .ok (.lload_n 3, 1) := by decide +kernel
theorem d_F_adjust_22 : decode b_F_adjust 22 = .ok (.ladd, 1) := by decide +kernel
theorem d_F_adjust_23 : decode b_F_adjust 23 = .ok (.ldc2_w 32, 3) := by decide +kernel
theorem d_F_adjust_26 : decode b_F_adjust 26 = .ok (.ldc2_w 34, 3) := by decide +kernel
theorem d_F_adjust_29 : decode b_F_adjust 29 = .ok (.invokestatic 36, 3) := by decide +kernel
theorem d_F_adjust_32 : decode b_F_adjust 32 = .ok (.putfield 25, 3) := by decide +kernel
theorem d_F_adjust_35 : decode b_F_adjust 35 = .ok (.aload_n 0, 1) := by decide +kernel
theorem d_F_adjust_36 : decode b_F_adjust 36 = .ok (.aload_n 0, 1) := by decide +kernel
theorem d_F_adjust_37 : decode b_F_adjust 37 = .ok (.getfield 19, 3) := by decide +kernel
theorem d_F_adjust_40 : decode b_F_adjust 40 = .ok (.i2l, 1) := by decide +kernel
theorem d_F_adjust_41 : decode b_F_adjust 41 = .ok (.lload_n 3, 1) := by decide +kernel
theorem d_F_adjust_42 : decode b_F_adjust 42 = .ok (.lmul, 1) := by decide +kernel
theorem d_F_adjust_43 : decode b_F_adjust 43 = .ok (.aload_n 0, 1) := by decide +kernel
theorem d_F_adjust_44 : decode b_F_adjust 44 = .ok (.getfield 22, 3) := by decide +kernel
theorem d_F_adjust_47 : decode b_F_adjust 47 = .ok (.i2l, 1) := by decide +kernel
theorem d_F_adjust_48 : decode b_F_adjust 48 = .ok (.aload_n 0, 1) := by decide +kernel
theorem d_F_adjust_49 : decode b_F_adjust 49 = .ok (.getfield 25, 3) := by decide +kernel
theorem d_F_adjust_52 : decode b_F_adjust 52 = .ok (.lmul, 1) := by decide +kernel
theorem d_F_adjust_53 : decode b_F_adjust 53 = .ok (.ladd, 1) := by decide +kernel
theorem d_F_adjust_54 : decode b_F_adjust 54 = .ok (.ldc2_w 40, 3) := by decide +kernel
theorem d_F_adjust_57 : decode b_F_adjust 57 = .ok (.invokestatic 42, 3) := by decide +kernel
theorem d_F_adjust_60 : decode b_F_adjust 60 = .ok (.lconst 0, 1) := by decide +kernel
theorem d_F_adjust_61 : decode b_F_adjust 61 = .ok (.ldc2_w 40, 3) := by decide +kernel
theorem d_F_adjust_64 : decode b_F_adjust 64 = .ok (.invokestatic 36, 3) := by decide +kernel
theorem d_F_adjust_67 : decode b_F_adjust 67 = .ok (.l2i, 1) := by decide +kernel
theorem d_F_adjust_68 : decode b_F_adjust 68 = .ok (.putfield 29, 3) := by decide +kernel
theorem d_F_adjust_71 : decode b_F_adjust 71 = .ok (.return_, 1) := by decide +kernel
theorem d_X_cut_0 : decode b_X_cut 0 = .ok (.lload_n 2, 1) := by decide +kernel
theorem d_X_cut_1 : decode b_X_cut 1 = .ok (.lload 4, 2) := by decide +kernel
theorem d_X_cut_3 : decode b_X_cut 3 = .ok (.lload_n 0, 1) := by decide +kernel
theorem d_X_cut_4 : decode b_X_cut 4 = .ok (.invokestatic 129, 3) := by decide +kernel
theorem d_X_cut_7 : decode b_X_cut 7 = .ok (.invokestatic 135, 3) := by decide +kernel
theorem d_X_cut_10 : decode b_X_cut 10 = .ok (.lreturn, 1) := by decide +kernel
theorem d_J_floorDiv_0 : decode b_J_floorDiv 0 = .ok (.lload_n 0, 1) := by decide +kernel
theorem d_J_floorDiv_1 : decode b_J_floorDiv 1 = .ok (.lload_n 2, 1) := by decide +kernel
theorem d_J_floorDiv_2 : decode b_J_floorDiv 2 = .ok (.ldiv, 1) := by decide +kernel
theorem d_J_floorDiv_3 : decode b_J_floorDiv 3 = .ok (.lstore 4, 2) := by decide +kernel
theorem d_J_floorDiv_5 : decode b_J_floorDiv 5 = .ok (.lload_n 0, 1) := by decide +kernel
theorem d_J_floorDiv_6 : decode b_J_floorDiv 6 = .ok (.lload_n 2, 1) := by decide +kernel
theorem d_J_floorDiv_7 : decode b_J_floorDiv 7 = .ok (.lxor, 1) := by decide +kernel
theorem d_J_floorDiv_8 : decode b_J_floorDiv 8 = .ok (.lconst 0, 1) := by decide +kernel
theorem d_J_floorDiv_9 : decode b_J_floorDiv 9 = .ok (.lcmp, 1) := by decide +kernel
theorem d_J_floorDiv_10 : decode b_J_floorDiv 10 = .ok (.ifCond .ge 17, 3) := by decide +kernel
theorem d_J_floorDiv_13 : decode b_J_floorDiv 13 = .ok (.lload 4, 2) := by decide +kernel
theorem d_J_floorDiv_15 : decode b_J_floorDiv 15 = .ok (.lload_n 2, 1) := by decide +kernel
theorem d_J_floorDiv_16 : decode b_J_floorDiv 16 = .ok (.lmul, 1) := by decide +kernel
theorem d_J_floorDiv_17 : decode b_J_floorDiv 17 = .ok (.lload_n 0, 1) := by decide +kernel
theorem d_J_floorDiv_18 : decode b_J_floorDiv 18 = .ok (.lcmp, 1) := by decide +kernel
theorem d_J_floorDiv_19 : decode b_J_floorDiv 19 = .ok (.ifCond .eq 8, 3) := by decide +kernel
theorem d_J_floorDiv_22 : decode b_J_floorDiv 22 = .ok (.lload 4, 2) := by decide +kernel
theorem d_J_floorDiv_24 : decode b_J_floorDiv 24 = .ok (.lconst 1, 1) := by decide +kernel
theorem d_J_floorDiv_25 : decode b_J_floorDiv 25 = .ok (.lsub, 1) := by decide +kernel
theorem d_J_floorDiv_26 : decode b_J_floorDiv 26 = .ok (.lreturn, 1) := by decide +kernel
theorem d_J_floorDiv_27 : decode b_J_floorDiv 27 = .ok (.lload 4, 2) := by decide +kernel
theorem d_J_floorDiv_29 : decode b_J_floorDiv 29 = .ok (.lreturn, 1) := by decide +kernel
theorem d_X_left_0 : decode b_X_left 0 = .ok (.aload_n 0, 1) := by decide +kernel
theorem d_X_left_1 : decode b_X_left 1 = .ok (.iload_n 1, 1) := by decide +kernel
theorem d_X_left_2 : decode b_X_left 2 = .ok (.invokevirtual 63, 3) := by decide +kernel
theorem d_X_left_5 : decode b_X_left 5 = .ok (.astore_n 3, 1) := by decide +kernel
theorem d_X_left_6 : decode b_X_left 6 = .ok (.aload_n 3, 1) := by decide +kernel
theorem d_X_left_7 : decode b_X_left 7 = .ok (.ifnull 10, 3) := by decide +kernel
theorem d_X_left_10 : decode b_X_left 10 = .ok (.iload_n 2, 1) := by decide +kernel
theorem d_X_left_11 : decode b_X_left 11 = .ok (.invokestatic 58, 3) := by decide +kernel
theorem d_X_left_14 : decode b_X_left 14 = .ok (.ifCond .ne 9, 3) := by decide +kernel
theorem d_X_left_17 : decode b_X_left 17 = .ok (.ldc2_w 105, 3) := by decide +kernel
theorem d_X_left_20 : decode b_X_left 20 = .ok (.goto 9, 3) := by decide +kernel
theorem d_X_left_23 : decode b_X_left 23 = .ok (.aload_n 3, 1) := by decide +kernel
theorem d_X_left_24 : decode b_X_left 24 = .ok (.getfield 107, 3) := by decide +kernel
theorem d_X_left_27 : decode b_X_left 27 = .ok (.iload_n 2, 1) := by decide +kernel
theorem d_X_left_28 : decode b_X_left 28 = .ok (.laload, 1) := by decide +kernel
theorem d_X_left_29 : decode b_X_left 29 = .ok (.lreturn, 1) := by decide +kernel
theorem d_X_wet_0 : decode b_X_wet 0 = .ok (.aload_n 0, 1) := by decide +kernel
theorem d_X_wet_1 : decode b_X_wet 1 = .ok (.iload_n 1, 1) := by decide +kernel
theorem d_X_wet_2 : decode b_X_wet 2 = .ok (.invokevirtual 63, 3) := by decide +kernel
theorem d_X_wet_5 : decode b_X_wet 5 = .ok (.astore_n 2, 1) := by decide +kernel
theorem d_X_wet_6 : decode b_X_wet 6 = .ok (.aload_n 2, 1) := by decide +kernel
theorem d_X_wet_7 : decode b_X_wet 7 = .ok (.ifnonnull 9, 3) := by decide +kernel
theorem d_X_wet_10 : decode b_X_wet 10 = .ok (.ldc2_w 105, 3) := by decide +kernel
theorem d_X_wet_13 : decode b_X_wet 13 = .ok (.goto 9, 3) := by decide +kernel
theorem d_X_wet_16 : decode b_X_wet 16 = .ok (.aload_n 2, 1) := by decide +kernel
theorem d_X_wet_17 : decode b_X_wet 17 = .ok (.getfield 107, 3) := by decide +kernel
theorem d_X_wet_20 : decode b_X_wet 20 = .ok (.iconst 3, 1) := by decide +kernel
theorem d_X_wet_21 : decode b_X_wet 21 = .ok (.laload, 1) := by decide +kernel
theorem d_X_wet_22 : decode b_X_wet 22 = .ok (.lreturn, 1) := by decide +kernel
theorem d_X_warmth_0 : decode b_X_warmth 0 = .ok (.aload_n 0, 1) := by decide +kernel
theorem d_X_warmth_1 : decode b_X_warmth 1 = .ok (.iload_n 1, 1) := by decide +kernel
theorem d_X_warmth_2 : decode b_X_warmth 2 = .ok (.invokevirtual 63, 3) := by decide +kernel
theorem d_X_warmth_5 : decode b_X_warmth 5 = .ok (.astore_n 2, 1) := by decide +kernel
theorem d_X_warmth_6 : decode b_X_warmth 6 = .ok (.aload_n 2, 1) := by decide +kernel
theorem d_X_warmth_7 : decode b_X_warmth 7 = .ok (.ifnonnull 9, 3) := by decide +kernel
theorem d_X_warmth_10 : decode b_X_warmth 10 = .ok (.ldc2_w 105, 3) := by decide +kernel
theorem d_X_warmth_13 : decode b_X_warmth 13 = .ok (.goto 7, 3) := by decide +kernel
theorem d_X_warmth_16 : decode b_X_warmth 16 = .ok (.aload_n 2, 1) := by decide +kernel
theorem d_X_warmth_17 : decode b_X_warmth 17 = .ok (.invokevirtual 110, 3) := by decide +kernel
theorem d_X_warmth_20 : decode b_X_warmth 20 = .ok (.lreturn, 1) := by decide +kernel
theorem d_X_air_0 : decode b_X_air 0 = .ok (.aload_n 0, 1) := by decide +kernel
theorem d_X_air_1 : decode b_X_air 1 = .ok (.getfield 18, 3) := by decide +kernel
theorem d_X_air_4 : decode b_X_air 4 = .ok (.getfield 113, 3) := by decide +kernel
theorem d_X_air_7 : decode b_X_air 7 = .ok (.ireturn, 1) := by decide +kernel
theorem d_X_turn_0 : decode b_X_turn 0 = .ok (.iconst 0, 1) := by decide +kernel
theorem d_X_turn_1 : decode b_X_turn 1 = .ok (.istore_n 1, 1) := by decide +kernel
theorem d_X_turn_2 : decode b_X_turn 2 = .ok (.iload_n 1, 1) := by decide +kernel
theorem d_X_turn_3 : decode b_X_turn 3 = .ok (.iconst 5, 1) := by decide +kernel
theorem d_X_turn_4 : decode b_X_turn 4 = .ok (.if_icmp .ge 14, 3) := by decide +kernel
theorem d_X_turn_7 : decode b_X_turn 7 = .ok (.aload_n 0, 1) := by decide +kernel
theorem d_X_turn_8 : decode b_X_turn 8 = .ok (.iload_n 1, 1) := by decide +kernel
theorem d_X_turn_9 : decode b_X_turn 9 = .ok (.invokevirtual 116, 3) := by decide +kernel
theorem d_X_turn_12 : decode b_X_turn 12 = .ok (.iinc 1 1, 3) := by decide +kernel
theorem d_X_turn_15 : decode b_X_turn 15 = .ok (.goto (-13), 3) := by decide +kernel
theorem d_X_turn_18 : decode b_X_turn 18 = .ok (.aload_n 0, 1) := by decide +kernel
theorem d_X_turn_19 : decode b_X_turn 19 = .ok (.dup, 1) := by decide +kernel
theorem d_X_turn_20 : decode b_X_turn 20 = .ok (.getfield 43, 3) := by decide +kernel
theorem d_X_turn_23 : decode b_X_turn 23 = .ok (.iconst 1, 1) := by decide +kernel
theorem d_X_turn_24 : decode b_X_turn 24 = .ok (.iadd, 1) := by decide +kernel
theorem d_X_turn_25 : decode b_X_turn 25 = .ok (.putfield 43, 3) := by decide +kernel
theorem d_X_turn_28 : decode b_X_turn 28 = .ok (.aload_n 0, 1) := by decide +kernel
theorem d_X_turn_29 : decode b_X_turn 29 = .ok (.getfield 43, 3) := by decide +kernel
theorem d_X_turn_32 : decode b_X_turn 32 = .ok (.ireturn, 1) := by decide +kernel
theorem d_X_shareOut_0 : decode b_X_shareOut 0 = .ok (.aload_n 0, 1) := by decide +kernel
theorem d_X_shareOut_1 : decode b_X_shareOut 1 = .ok (.getfield 52, 3) := by decide +kernel
theorem d_X_shareOut_4 : decode b_X_shareOut 4 = .ok (.arraylength, 1) := by decide +kernel
theorem d_X_shareOut_5 : decode b_X_shareOut 5 = .ok (.istore_n 2, 1) := by decide +kernel
theorem d_X_shareOut_6 : decode b_X_shareOut 6 = .ok (.iload_n 2, 1) := by decide +kernel
theorem d_X_shareOut_7 : decode b_X_shareOut 7 = .ok (.ifCond .ne 4, 3) := by decide +kernel
theorem d_X_shareOut_10 : decode b_X_shareOut 10 = .ok (.return_, 1) := by decide +kernel
theorem d_X_shareOut_11 : decode b_X_shareOut 11 = .ok (.aload_n 0, 1) := by decide +kernel
theorem d_X_shareOut_12 : decode b_X_shareOut 12 = .ok (.iload_n 1, 1) := by decide +kernel
theorem d_X_shareOut_13 : decode b_X_shareOut 13 = .ok (.invokevirtual 174, 3) := by decide +kernel
theorem d_X_shareOut_16 : decode b_X_shareOut 16 = .ok (.lstore_n 3, 1) := by decide +kernel
theorem d_X_shareOut_17 : decode b_X_shareOut 17 = .ok (.lload_n 3, 1) := by decide +kernel
theorem d_X_shareOut_18 : decode b_X_shareOut 18 = .ok (.iload_n 2, 1) := by decide +kernel
theorem d_X_shareOut_19 : decode b_X_shareOut 19 = .ok (.i2l, 1) := by decide +kernel
theorem d_X_shareOut_20 : decode b_X_shareOut 20 = .ok (.ldiv, 1) := by decide +kernel
theorem d_X_shareOut_21 : decode b_X_shareOut 21 = .ok (.lstore 5, 2) := by decide +kernel
theorem d_X_shareOut_23 : decode b_X_shareOut 23 = .ok (.lload_n 3, 1) := by decide +kernel
theorem d_X_shareOut_24 : decode b_X_shareOut 24 = .ok (.iload_n 2, 1) := by decide +kernel
theorem d_X_shareOut_25 : decode b_X_shareOut 25 = .ok (.i2l, 1) := by decide +kernel
theorem d_X_shareOut_26 : decode b_X_shareOut 26 = .ok (.lrem, 1) := by decide +kernel
theorem d_X_shareOut_27 : decode b_X_shareOut 27 = .ok (.lstore 7, 2) := by decide +kernel
theorem d_X_shareOut_29 : decode b_X_shareOut 29 = .ok (.iconst 0, 1) := by decide +kernel
theorem d_X_shareOut_30 : decode b_X_shareOut 30 = .ok (.istore 9, 2) := by decide +kernel
theorem d_X_shareOut_32 : decode b_X_shareOut 32 = .ok (.iload 9, 2) := by decide +kernel
theorem d_X_shareOut_34 : decode b_X_shareOut 34 = .ok (.iload_n 2, 1) := by decide +kernel
theorem d_X_shareOut_35 : decode b_X_shareOut 35 = .ok (.if_icmp .ge 39, 3) := by decide +kernel
theorem d_X_shareOut_38 : decode b_X_shareOut 38 = .ok (.aload_n 0, 1) := by decide +kernel
theorem d_X_shareOut_39 : decode b_X_shareOut 39 = .ok (.getfield 52, 3) := by decide +kernel
theorem d_X_shareOut_42 : decode b_X_shareOut 42 = .ok (.iload 9, 2) := by decide +kernel
theorem d_X_shareOut_44 : decode b_X_shareOut 44 = .ok (.aaload, 1) := by decide +kernel
theorem d_X_shareOut_45 : decode b_X_shareOut 45 = .ok (.getfield 107, 3) := by decide +kernel
theorem d_X_shareOut_48 : decode b_X_shareOut 48 = .ok (.iload_n 1, 1) := by decide +kernel
theorem d_X_shareOut_49 : decode b_X_shareOut 49 = .ok (.iload 9, 2) := by decide +kernel
theorem d_X_shareOut_51 : decode b_X_shareOut 51 = .ok (.i2l, 1) := by decide +kernel
theorem d_X_shareOut_52 : decode b_X_shareOut 52 = .ok (.lload 7, 2) := by decide +kernel
theorem d_X_shareOut_54 : decode b_X_shareOut 54 = .ok (.lcmp, 1) := by decide +kernel
theorem d_X_shareOut_55 : decode b_X_shareOut 55 = .ok (.ifCond .ge 10, 3) := by decide +kernel
theorem d_X_shareOut_58 : decode b_X_shareOut 58 = .ok (.lload 5, 2) := by decide +kernel
theorem d_X_shareOut_60 : decode b_X_shareOut 60 = .ok (.lconst 1, 1) := by decide +kernel
theorem d_X_shareOut_61 : decode b_X_shareOut 61 = .ok (.ladd, 1) := by decide +kernel
theorem d_X_shareOut_62 : decode b_X_shareOut 62 = .ok (.goto 5, 3) := by decide +kernel
theorem d_X_shareOut_65 : decode b_X_shareOut 65 = .ok (.lload 5, 2) := by decide +kernel
theorem d_X_shareOut_67 : decode b_X_shareOut 67 = .ok (.lastore, 1) := by decide +kernel
theorem d_X_shareOut_68 : decode b_X_shareOut 68 = .ok (.iinc 9 1, 3) := by decide +kernel
theorem d_X_shareOut_71 : decode b_X_shareOut 71 = .ok (.goto (-39), 3) := by decide +kernel
theorem d_X_shareOut_74 : decode b_X_shareOut 74 = .ok (.return_, 1) := by decide +kernel
theorem d_X_inAllLayers_0 : decode b_X_inAllLayers 0 = .ok (.lconst 0, 1) := by decide +kernel
theorem d_X_inAllLayers_1 : decode b_X_inAllLayers 1 = .ok (.lstore_n 2, 1) := by decide +kernel
theorem d_X_inAllLayers_2 : decode b_X_inAllLayers 2 = .ok (.aload_n 0, 1) := by decide +kernel
theorem d_X_inAllLayers_3 : decode b_X_inAllLayers 3 = .ok (.getfield 52, 3) := by decide +kernel
theorem d_X_inAllLayers_6 : decode b_X_inAllLayers 6 = .ok (.astore 4, 2) := by decide +kernel
theorem d_X_inAllLayers_8 : decode b_X_inAllLayers 8 = .ok (.aload 4, 2) := by decide +kernel
theorem d_X_inAllLayers_10 : decode b_X_inAllLayers 10 = .ok (.arraylength, 1) := by decide +kernel
theorem d_X_inAllLayers_11 : decode b_X_inAllLayers 11 = .ok (.istore 5, 2) := by decide +kernel
theorem d_X_inAllLayers_13 : decode b_X_inAllLayers 13 = .ok (.iconst 0, 1) := by decide +kernel
theorem d_X_inAllLayers_14 : decode b_X_inAllLayers 14 = .ok (.istore 6, 2) := by decide +kernel
theorem d_X_inAllLayers_16 : decode b_X_inAllLayers 16 = .ok (.iload 6, 2) := by decide +kernel
theorem d_X_inAllLayers_18 : decode b_X_inAllLayers 18 = .ok (.iload 5, 2) := by decide +kernel
theorem d_X_inAllLayers_20 : decode b_X_inAllLayers 20 = .ok (.if_icmp .ge 26, 3) := by decide +kernel
theorem d_X_inAllLayers_23 : decode b_X_inAllLayers 23 = .ok (.aload 4, 2) := by decide +kernel
theorem d_X_inAllLayers_25 : decode b_X_inAllLayers 25 = .ok (.iload 6, 2) := by decide +kernel
theorem d_X_inAllLayers_27 : decode b_X_inAllLayers 27 = .ok (.aaload, 1) := by decide +kernel
theorem d_X_inAllLayers_28 : decode b_X_inAllLayers 28 = .ok (.astore 7, 2) := by decide +kernel
theorem d_X_inAllLayers_30 : decode b_X_inAllLayers 30 = .ok (.lload_n 2, 1) := by decide +kernel
theorem d_X_inAllLayers_31 : decode b_X_inAllLayers 31 = .ok (.aload 7, 2) := by decide +kernel
theorem d_X_inAllLayers_33 : decode b_X_inAllLayers 33 = .ok (.getfield 107, 3) := by decide +kernel
theorem d_X_inAllLayers_36 : decode b_X_inAllLayers 36 = .ok (.iload_n 1, 1) := by decide +kernel
theorem d_X_inAllLayers_37 : decode b_X_inAllLayers 37 = .ok (.laload, 1) := by decide +kernel
theorem d_X_inAllLayers_38 : decode b_X_inAllLayers 38 = .ok (.ladd, 1) := by decide +kernel
theorem d_X_inAllLayers_39 : decode b_X_inAllLayers 39 = .ok (.lstore_n 2, 1) := by decide +kernel
theorem d_X_inAllLayers_40 : decode b_X_inAllLayers 40 = .ok (.iinc 6 1, 3) := by decide +kernel
theorem d_X_inAllLayers_43 : decode b_X_inAllLayers 43 = .ok (.goto (-27), 3) := by decide +kernel
theorem d_X_inAllLayers_46 : decode b_X_inAllLayers 46 = .ok (.lload_n 2, 1) := by decide +kernel
theorem d_X_inAllLayers_47 : decode b_X_inAllLayers 47 = .ok (.lreturn, 1) := by decide +kernel
theorem d_X_gone_0 : decode b_X_gone 0 = .ok (.iload_n 1, 1) := by decide +kernel
theorem d_X_gone_1 : decode b_X_gone 1 = .ok (.iconst 0, 1) := by decide +kernel
theorem d_X_gone_2 : decode b_X_gone 2 = .ok (.bipush 8, 2) := by decide +kernel
theorem d_X_gone_4 : decode b_X_gone 4 = .ok (.invokestatic 46, 3) := by decide +kernel
theorem d_X_gone_7 : decode b_X_gone 7 = .ok (.ifCond .eq 12, 3) := by decide +kernel
theorem d_X_gone_10 : decode b_X_gone 10 = .ok (.aload_n 0, 1) := by decide +kernel
theorem d_X_gone_11 : decode b_X_gone 11 = .ok (.getfield 22, 3) := by decide +kernel
theorem d_X_gone_14 : decode b_X_gone 14 = .ok (.iload_n 1, 1) := by decide +kernel
theorem d_X_gone_15 : decode b_X_gone 15 = .ok (.laload, 1) := by decide +kernel
theorem d_X_gone_16 : decode b_X_gone 16 = .ok (.goto 6, 3) := by decide +kernel
theorem d_X_gone_19 : decode b_X_gone 19 = .ok (.ldc2_w 105, 3) := by decide +kernel
theorem d_X_gone_22 : decode b_X_gone 22 = .ok (.lreturn, 1) := by decide +kernel
theorem d_X_balance_0 : decode b_X_balance 0 = .ok (.iload_n 1, 1) := by decide +kernel
theorem d_X_balance_1 : decode b_X_balance 1 = .ok (.tableswitch 115 0 2 #[27, 52, 87], 27) := by decide +kernel
theorem d_X_balance_28 : decode b_X_balance 28 = .ok (.aload_n 0, 1) := by decide +kernel
theorem d_X_balance_29 : decode b_X_balance 29 = .ok (.iconst 0, 1) := by decide +kernel
theorem d_X_balance_30 : decode b_X_balance 30 = .ok (.invokevirtual 120, 3) := by decide +kernel
theorem d_X_balance_33 : decode b_X_balance 33 = .ok (.aload_n 0, 1) := by decide +kernel
theorem d_X_balance_34 : decode b_X_balance 34 = .ok (.iconst 1, 1) := by decide +kernel
theorem d_X_balance_35 : decode b_X_balance 35 = .ok (.invokevirtual 120, 3) := by decide +kernel
theorem d_X_balance_38 : decode b_X_balance 38 = .ok (.ladd, 1) := by decide +kernel
theorem d_X_balance_39 : decode b_X_balance 39 = .ok (.aload_n 0, 1) := by decide +kernel
theorem d_X_balance_40 : decode b_X_balance 40 = .ok (.iconst 2, 1) := by decide +kernel
theorem d_X_balance_41 : decode b_X_balance 41 = .ok (.invokevirtual 120, 3) := by decide +kernel
theorem d_X_balance_44 : decode b_X_balance 44 = .ok (.ladd, 1) := by decide +kernel
theorem d_X_balance_45 : decode b_X_balance 45 = .ok (.aload_n 0, 1) := by decide +kernel
theorem d_X_balance_46 : decode b_X_balance 46 = .ok (.getfield 22, 3) := by decide +kernel
theorem d_X_balance_49 : decode b_X_balance 49 = .ok (.iconst 0, 1) := by decide +kernel
theorem d_X_balance_50 : decode b_X_balance 50 = .ok (.laload, 1) := by decide +kernel
theorem d_X_balance_51 : decode b_X_balance 51 = .ok (.lsub, 1) := by decide +kernel
theorem d_X_balance_52 : decode b_X_balance 52 = .ok (.lreturn, 1) := by decide +kernel
theorem d_X_balance_53 : decode b_X_balance 53 = .ok (.aload_n 0, 1) := by decide +kernel
theorem d_X_balance_54 : decode b_X_balance 54 = .ok (.iconst 3, 1) := by decide +kernel
theorem d_X_balance_55 : decode b_X_balance 55 = .ok (.invokevirtual 120, 3) := by decide +kernel
theorem d_X_balance_58 : decode b_X_balance 58 = .ok (.aload_n 0, 1) := by decide +kernel
theorem d_X_balance_59 : decode b_X_balance 59 = .ok (.getfield 22, 3) := by decide +kernel
theorem d_X_balance_62 : decode b_X_balance 62 = .ok (.iconst 3, 1) := by decide +kernel
theorem d_X_balance_63 : decode b_X_balance 63 = .ok (.laload, 1) := by decide +kernel
theorem d_X_balance_64 : decode b_X_balance 64 = .ok (.ladd, 1) := by decide +kernel
theorem d_X_balance_65 : decode b_X_balance 65 = .ok (.aload_n 0, 1) := by decide +kernel
theorem d_X_balance_66 : decode b_X_balance 66 = .ok (.getfield 22, 3) := by decide +kernel
theorem d_X_balance_69 : decode b_X_balance 69 = .ok (.bipush 7, 2) := by decide +kernel
theorem d_X_balance_71 : decode b_X_balance 71 = .ok (.laload, 1) := by decide +kernel
theorem d_X_balance_72 : decode b_X_balance 72 = .ok (.ladd, 1) := by decide +kernel
theorem d_X_balance_73 : decode b_X_balance 73 = .ok (.aload_n 0, 1) := by decide +kernel
theorem d_X_balance_74 : decode b_X_balance 74 = .ok (.getfield 22, 3) := by decide +kernel
theorem d_X_balance_77 : decode b_X_balance 77 = .ok (.iconst 1, 1) := by decide +kernel
theorem d_X_balance_78 : decode b_X_balance 78 = .ok (.laload, 1) := by decide +kernel
theorem d_X_balance_79 : decode b_X_balance 79 = .ok (.lsub, 1) := by decide +kernel
theorem d_X_balance_80 : decode b_X_balance 80 = .ok (.aload_n 0, 1) := by decide +kernel
theorem d_X_balance_81 : decode b_X_balance 81 = .ok (.getfield 22, 3) := by decide +kernel
theorem d_X_balance_84 : decode b_X_balance 84 = .ok (.iconst 2, 1) := by decide +kernel
theorem d_X_balance_85 : decode b_X_balance 85 = .ok (.laload, 1) := by decide +kernel
theorem d_X_balance_86 : decode b_X_balance 86 = .ok (.lsub, 1) := by decide +kernel
theorem d_X_balance_87 : decode b_X_balance 87 = .ok (.lreturn, 1) := by decide +kernel
theorem d_X_balance_88 : decode b_X_balance 88 = .ok (.aload_n 0, 1) := by decide +kernel
theorem d_X_balance_89 : decode b_X_balance 89 = .ok (.iconst 4, 1) := by decide +kernel
theorem d_X_balance_90 : decode b_X_balance 90 = .ok (.invokevirtual 120, 3) := by decide +kernel
theorem d_X_balance_93 : decode b_X_balance 93 = .ok (.aload_n 0, 1) := by decide +kernel
theorem d_X_balance_94 : decode b_X_balance 94 = .ok (.getfield 22, 3) := by decide +kernel
theorem d_X_balance_97 : decode b_X_balance 97 = .ok (.iconst 4, 1) := by decide +kernel
theorem d_X_balance_98 : decode b_X_balance 98 = .ok (.laload, 1) := by decide +kernel
theorem d_X_balance_99 : decode b_X_balance 99 = .ok (.ladd, 1) := by decide +kernel
theorem d_X_balance_100 : decode b_X_balance 100 = .ok (.aload_n 0, 1) := by decide +kernel
theorem d_X_balance_101 : decode b_X_balance 101 = .ok (.getfield 22, 3) := by decide +kernel
theorem d_X_balance_104 : decode b_X_balance 104 = .ok (.iconst 5, 1) := by decide +kernel
theorem d_X_balance_105 : decode b_X_balance 105 = .ok (.laload, 1) := by decide +kernel
theorem d_X_balance_106 : decode b_X_balance 106 = .ok (.lsub, 1) := by decide +kernel
theorem d_X_balance_107 : decode b_X_balance 107 = .ok (.aload_n 0, 1) := by decide +kernel
theorem d_X_balance_108 : decode b_X_balance 108 = .ok (.getfield 22, 3) := by decide +kernel
theorem d_X_balance_111 : decode b_X_balance 111 = .ok (.bipush 6, 2) := by decide +kernel
theorem d_X_balance_113 : decode b_X_balance 113 = .ok (.laload, 1) := by decide +kernel
theorem d_X_balance_114 : decode b_X_balance 114 = .ok (.lsub, 1) := by decide +kernel
theorem d_X_balance_115 : decode b_X_balance 115 = .ok (.lreturn, 1) := by decide +kernel
theorem d_X_balance_116 : decode b_X_balance 116 = .ok (.ldc2_w 105, 3) := by decide +kernel
theorem d_X_balance_119 : decode b_X_balance 119 = .ok (.lreturn, 1) := by decide +kernel
theorem d_X_putInLessThere_0 : decode b_X_putInLessThere 0 = .ok (.aload_n 0, 1) := by decide +kernel
theorem d_X_putInLessThere_1 : decode b_X_putInLessThere 1 = .ok (.getfield 26, 3) := by decide +kernel
theorem d_X_putInLessThere_4 : decode b_X_putInLessThere 4 = .ok (.iload_n 1, 1) := by decide +kernel
theorem d_X_putInLessThere_5 : decode b_X_putInLessThere 5 = .ok (.laload, 1) := by decide +kernel
theorem d_X_putInLessThere_6 : decode b_X_putInLessThere 6 = .ok (.aload_n 0, 1) := by decide +kernel
theorem d_X_putInLessThere_7 : decode b_X_putInLessThere 7 = .ok (.getfield 29, 3) := by decide +kernel
theorem d_X_putInLessThere_10 : decode b_X_putInLessThere 10 = .ok (.iload_n 1, 1) := by decide +kernel
theorem d_X_putInLessThere_11 : decode b_X_putInLessThere 11 = .ok (.laload, 1) := by decide +kernel
theorem d_X_putInLessThere_12 : decode b_X_putInLessThere 12 = .ok (.lsub, 1) := by decide +kernel
theorem d_X_putInLessThere_13 : decode b_X_putInLessThere 13 = .ok (.aload_n 0, 1) := by decide +kernel
theorem d_X_putInLessThere_14 : decode b_X_putInLessThere 14 = .ok (.iload_n 1, 1) := by decide +kernel
theorem d_X_putInLessThere_15 : decode b_X_putInLessThere 15 = .ok (.invokevirtual 174, 3) := by decide +kernel
theorem d_X_putInLessThere_18 : decode b_X_putInLessThere 18 = .ok (.lsub, 1) := by decide +kernel
theorem d_X_putInLessThere_19 : decode b_X_putInLessThere 19 = .ok (.lreturn, 1) := by decide +kernel
theorem d_X_batch_0 : decode b_X_batch 0 = .ok (.lconst 0, 1) := by decide +kernel
theorem d_X_batch_1 : decode b_X_batch 1 = .ok (.lstore_n 1, 1) := by decide +kernel
theorem d_X_batch_2 : decode b_X_batch 2 = .ok (.aload_n 0, 1) := by decide +kernel
theorem d_X_batch_3 : decode b_X_batch 3 = .ok (.getfield 52, 3) := by decide +kernel
theorem d_X_batch_6 : decode b_X_batch 6 = .ok (.astore_n 3, 1) := by decide +kernel
theorem d_X_batch_7 : decode b_X_batch 7 = .ok (.aload_n 3, 1) := by decide +kernel
theorem d_X_batch_8 : decode b_X_batch 8 = .ok (.arraylength, 1) := by decide +kernel
theorem d_X_batch_9 : decode b_X_batch 9 = .ok (.istore 4, 2) := by decide +kernel
theorem d_X_batch_11 : decode b_X_batch 11 = .ok (.iconst 0, 1) := by decide +kernel
theorem d_X_batch_12 : decode b_X_batch 12 = .ok (.istore 5, 2) := by decide +kernel
theorem d_X_batch_14 : decode b_X_batch 14 = .ok (.iload 5, 2) := by decide +kernel
theorem d_X_batch_16 : decode b_X_batch 16 = .ok (.iload 4, 2) := by decide +kernel
theorem d_X_batch_18 : decode b_X_batch 18 = .ok (.if_icmp .ge 65, 3) := by decide +kernel
theorem d_X_batch_21 : decode b_X_batch 21 = .ok (.aload_n 3, 1) := by decide +kernel
theorem d_X_batch_22 : decode b_X_batch 22 = .ok (.iload 5, 2) := by decide +kernel
theorem d_X_batch_24 : decode b_X_batch 24 = .ok (.aaload, 1) := by decide +kernel
theorem d_X_batch_25 : decode b_X_batch 25 = .ok (.astore 6, 2) := by decide +kernel
theorem d_X_batch_27 : decode b_X_batch 27 = .ok (.lload_n 1, 1) := by decide +kernel
theorem d_X_batch_28 : decode b_X_batch 28 = .ok (.aload 6, 2) := by decide +kernel
theorem d_X_batch_30 : decode b_X_batch 30 = .ok (.invokevirtual 124, 3) := by decide +kernel
theorem d_X_batch_33 : decode b_X_batch 33 = .ok (.ladd, 1) := by decide +kernel
theorem d_X_batch_34 : decode b_X_batch 34 = .ok (.lstore_n 1, 1) := by decide +kernel
theorem d_X_batch_35 : decode b_X_batch 35 = .ok (.iconst 0, 1) := by decide +kernel
theorem d_X_batch_36 : decode b_X_batch 36 = .ok (.istore 7, 2) := by decide +kernel
theorem d_X_batch_38 : decode b_X_batch 38 = .ok (.iload 7, 2) := by decide +kernel
theorem d_X_batch_40 : decode b_X_batch 40 = .ok (.iconst 5, 1) := by decide +kernel
theorem d_X_batch_41 : decode b_X_batch 41 = .ok (.if_icmp .ge 36, 3) := by decide +kernel
theorem d_X_batch_44 : decode b_X_batch 44 = .ok (.aload_n 0, 1) := by decide +kernel
theorem d_X_batch_45 : decode b_X_batch 45 = .ok (.getfield 29, 3) := by decide +kernel
theorem d_X_batch_48 : decode b_X_batch 48 = .ok (.iload 7, 2) := by decide +kernel
theorem d_X_batch_50 : decode b_X_batch 50 = .ok (.dup2, 1) := by decide +kernel
theorem d_X_batch_51 : decode b_X_batch 51 = .ok (.laload, 1) := by decide +kernel
theorem d_X_batch_52 : decode b_X_batch 52 = .ok (.aload 6, 2) := by decide +kernel
theorem d_X_batch_54 : decode b_X_batch 54 = .ok (.getfield 107, 3) := by decide +kernel
theorem d_X_batch_57 : decode b_X_batch 57 = .ok (.iload 7, 2) := by decide +kernel
theorem d_X_batch_59 : decode b_X_batch 59 = .ok (.laload, 1) := by decide +kernel
theorem d_X_batch_60 : decode b_X_batch 60 = .ok (.ladd, 1) := by decide +kernel
theorem d_X_batch_61 : decode b_X_batch 61 = .ok (.lastore, 1) := by decide +kernel
theorem d_X_batch_62 : decode b_X_batch 62 = .ok (.aload 6, 2) := by decide +kernel
theorem d_X_batch_64 : decode b_X_batch 64 = .ok (.getfield 107, 3) := by decide +kernel
theorem d_X_batch_67 : decode b_X_batch 67 = .ok (.iload 7, 2) := by decide +kernel
theorem d_X_batch_69 : decode b_X_batch 69 = .ok (.lconst 0, 1) := by decide +kernel
theorem d_X_batch_70 : decode b_X_batch 70 = .ok (.lastore, 1) := by decide +kernel
theorem d_X_batch_71 : decode b_X_batch 71 = .ok (.iinc 7 1, 3) := by decide +kernel
theorem d_X_batch_74 : decode b_X_batch 74 = .ok (.goto (-36), 3) := by decide +kernel
theorem d_X_batch_77 : decode b_X_batch 77 = .ok (.iinc 5 1, 3) := by decide +kernel
theorem d_X_batch_80 : decode b_X_batch 80 = .ok (.goto (-66), 3) := by decide +kernel
theorem d_X_batch_83 : decode b_X_batch 83 = .ok (.lload_n 1, 1) := by decide +kernel
theorem d_X_batch_84 : decode b_X_batch 84 = .ok (.lreturn, 1) := by decide +kernel
