theorem d_M_init_0 : decode b_M_init 0 = .ok (.aload_n 0, 1) := by decide +kernel
theorem d_M_init_1 : decode b_M_init 1 = .ok (.invokespecial 1, 3) := by decide +kernel
theorem d_M_init_4 : decode b_M_init 4 = .ok (.aload_n 0, 1) := by decide +kernel
theorem d_M_init_5 : decode b_M_init 5 = .ok (.bipush 18, 2) := by decide +kernel
theorem d_M_init_7 : decode b_M_init 7 = .ok (.newarray .long, 2) := by decide +kernel
theorem d_M_init_9 : decode b_M_init 9 = .ok (.putfield 7, 3) := by decide +kernel
theorem d_M_init_12 : decode b_M_init 12 = .ok (.aload_n 0, 1) := by decide +kernel
theorem d_M_init_13 : decode b_M_init 13 = .ok (.bipush 6, 2) := by decide +kernel
theorem d_M_init_15 : decode b_M_init 15 = .ok (.newarray .long, 2) := by decide +kernel
theorem d_M_init_17 : decode b_M_init 17 = .ok (.putfield 13, 3) := by decide +kernel
theorem d_M_init_20 : decode b_M_init 20 = .ok (.aload_n 0, 1) := by decide +kernel
theorem d_M_init_21 : decode b_M_init 21 = .ok (.bipush 6, 2) := by decide +kernel
theorem d_M_init_23 : decode b_M_init 23 = .ok (.newarray .long, 2) := by decide +kernel
theorem d_M_init_25 : decode b_M_init 25 = .ok (.putfield 16, 3) := by decide +kernel
theorem d_M_init_28 : decode b_M_init 28 = .ok (.aload_n 0, 1) := by decide +kernel
theorem d_M_init_29 : decode b_M_init 29 = .ok (.bipush 6, 2) := by decide +kernel
theorem d_M_init_31 : decode b_M_init 31 = .ok (.newarray .long, 2) := by decide +kernel
theorem d_M_init_33 : decode b_M_init 33 = .ok (.putfield 19, 3) := by decide +kernel
theorem d_M_init_36 : decode b_M_init 36 = .ok (.aload_n 0, 1) := by decide +kernel
theorem d_M_init_37 : decode b_M_init 37 = .ok (.bipush 6, 2) := by decide +kernel
theorem d_M_init_39 : decode b_M_init 39 = .ok (.newarray .long, 2) := by decide +kernel
theorem d_M_init_41 : decode b_M_init 41 = .ok (.putfield 22, 3) := by decide +kernel
theorem d_M_init_44 : decode b_M_init 44 = .ok (.aload_n 0, 1) := by decide +kernel
theorem d_M_init_45 : decode b_M_init 45 = .ok (.iconst 3, 1) := by decide +kernel
theorem d_M_init_46 : decode b_M_init 46 = .ok (.newarray .int, 2) := by decide +kernel
theorem d_M_init_48 : decode b_M_init 48 = .ok (.putfield 25, 3) := by decide +kernel
theorem d_M_init_51 : decode b_M_init 51 = .ok (.aload_n 0, 1) := by decide +kernel
theorem d_M_init_52 : decode b_M_init 52 = .ok (.bipush 12, 2) := by decide +kernel
theorem d_M_init_54 : decode b_M_init 54 = .ok (.newarray .int, 2) := by decide +kernel
theorem d_M_init_56 : decode b_M_init 56 = .ok (.putfield 29, 3) := by decide +kernel
theorem d_M_init_59 : decode b_M_init 59 = .ok (.aload_n 0, 1) := by decide +kernel
theorem d_M_init_60 : decode b_M_init 60 = .ok (.bipush 12, 2) := by decide +kernel
theorem d_M_init_62 : decode b_M_init 62 = .ok (.newarray .int, 2) := by decide +kernel
theorem d_M_init_64 : decode b_M_init 64 = .ok (.putfield 32, 3) := by decide +kernel
theorem d_M_init_67 : decode b_M_init 67 = .ok (.aload_n 0, 1) := by decide +kernel
theorem d_M_init_68 : decode b_M_init 68 = .ok (.iconst 3, 1) := by decide +kernel
theorem d_M_init_69 : decode b_M_init 69 = .ok (.newarray .int, 2) := by decide +kernel
theorem d_M_init_71 : decode b_M_init 71 = .ok (.putfield 35, 3) := by decide +kernel
theorem d_M_init_74 : decode b_M_init 74 = .ok (.aload_n 0, 1) := by decide +kernel
theorem d_M_init_75 : decode b_M_init 75 = .ok (.iconst 3, 1) := by decide +kernel
theorem d_M_init_76 : decode b_M_init 76 = .ok (.newarray .int, 2) := by decide +kernel
theorem d_M_init_78 : decode b_M_init 78 = .ok (.putfield 38, 3) := by decide +kernel
theorem d_M_init_81 : decode b_M_init 81 = .ok (.aload_n 0, 1) := by decide +kernel
theorem d_M_init_82 : decode b_M_init 82 = .ok (.ldc2_w 41, 3) := by decide +kernel
theorem d_M_init_85 : decode b_M_init 85 = .ok (.putfield 43, 3) := by decide +kernel
theorem d_M_init_88 : decode b_M_init 88 = .ok (.aload_n 0, 1) := by decide +kernel
theorem d_M_init_89 : decode b_M_init 89 = .ok (.bipush 9, 2) := by decide +kernel
theorem d_M_init_91 : decode b_M_init 91 = .ok (.newarray .long, 2) := by decide +kernel
theorem d_M_init_93 : decode b_M_init 93 = .ok (.putfield 47, 3) := by decide +kernel
theorem d_M_init_96 : decode b_M_init 96 = .ok (.aload_n 0, 1) := by decide +kernel
theorem d_M_init_97 : decode b_M_init 97 = .ok (.iconst 3, 1) := by decide +kernel
theorem d_M_init_98 : decode b_M_init 98 = .ok (.newarray .long, 2) := by decide +kernel
theorem d_M_init_100 : decode b_M_init 100 = .ok (.putfield 50, 3) := by decide +kernel
theorem d_M_init_103 : decode b_M_init 103 = .ok (.aload_n 0, 1) := by decide +kernel
theorem d_M_init_104 : decode b_M_init 104 = .ok (.iconst 3, 1) := by decide +kernel
theorem d_M_init_105 : decode b_M_init 105 = .ok (.newarray .long, 2) := by decide +kernel
theorem d_M_init_107 : decode b_M_init 107 = .ok (.putfield 53, 3) := by decide +kernel
theorem d_M_init_110 : decode b_M_init 110 = .ok (.aload_n 0, 1) := by decide +kernel
theorem d_M_init_111 : decode b_M_init 111 = .ok (.iload_n 1, 1) := by decide +kernel
theorem d_M_init_112 : decode b_M_init 112 = .ok (.iconst 1, 1) := by decide +kernel
theorem d_M_init_113 : decode b_M_init 113 = .ok (.if_icmp .lt 13, 3) := by decide +kernel
theorem d_M_init_116 : decode b_M_init 116 = .ok (.iload_n 1, 1) := by decide +kernel
theorem d_M_init_117 : decode b_M_init 117 = .ok (.bipush 6, 2) := by decide +kernel
theorem d_M_init_119 : decode b_M_init 119 = .ok (.if_icmp .gt 7, 3) := by decide +kernel
theorem d_M_init_122 : decode b_M_init 122 = .ok (.iload_n 1, 1) := by decide +kernel
theorem d_M_init_123 : decode b_M_init 123 = .ok (.goto 4, 3) := by decide +kernel
theorem d_M_init_126 : decode b_M_init 126 = .ok (.iconst 1, 1) := by decide +kernel
theorem d_M_init_127 : decode b_M_init 127 = .ok (.putfield 56, 3) := by decide +kernel
theorem d_M_init_130 : decode b_M_init 130 = .ok (.iconst 0, 1) := by decide +kernel
theorem d_M_init_131 : decode b_M_init 131 = .ok (.istore_n 2, 1) := by decide +kernel
theorem d_M_init_132 : decode b_M_init 132 = .ok (.iload_n 2, 1) := by decide +kernel
theorem d_M_init_133 : decode b_M_init 133 = .ok (.bipush 6, 2) := by decide +kernel
theorem d_M_init_135 : decode b_M_init 135 = .ok (.if_icmp .ge 18, 3) := by decide +kernel
theorem d_M_init_138 : decode b_M_init 138 = .ok (.aload_n 0, 1) := by decide +kernel
theorem d_M_init_139 : decode b_M_init 139 = .ok (.getfield 22, 3) := by decide +kernel
theorem d_M_init_142 : decode b_M_init 142 = .ok (.iload_n 2, 1) := by decide +kernel
theorem d_M_init_143 : decode b_M_init 143 = .ok (.ldc2_w 41, 3) := by decide +kernel
theorem d_M_init_146 : decode b_M_init 146 = .ok (.lastore, 1) := by decide +kernel
theorem d_M_init_147 : decode b_M_init 147 = .ok (.iinc 2 1, 3) := by decide +kernel
theorem d_M_init_150 : decode b_M_init 150 = .ok (.goto (-18), 3) := by decide +kernel
theorem d_M_init_153 : decode b_M_init 153 = .ok (.return_, 1) := by decide +kernel
theorem d_M_part_0 : decode b_M_part 0 = .ok (.aload_n 0, 1) := by decide +kernel
theorem d_M_part_1 : decode b_M_part 1 = .ok (.iload_n 1, 1) := by decide +kernel
theorem d_M_part_2 : decode b_M_part 2 = .ok (.invokevirtual 60, 3) := by decide +kernel
theorem d_M_part_5 : decode b_M_part 5 = .ok (.ifCond .eq 42, 3) := by decide +kernel
theorem d_M_part_8 : decode b_M_part 8 = .ok (.iload_n 2, 1) := by decide +kernel
theorem d_M_part_9 : decode b_M_part 9 = .ok (.invokestatic 64, 3) := by decide +kernel
theorem d_M_part_12 : decode b_M_part 12 = .ok (.ifCond .eq 35, 3) := by decide +kernel
theorem d_M_part_15 : decode b_M_part 15 = .ok (.iload_n 3, 1) := by decide +kernel
theorem d_M_part_16 : decode b_M_part 16 = .ok (.i2l, 1) := by decide +kernel
theorem d_M_part_17 : decode b_M_part 17 = .ok (.lconst 0, 1) := by decide +kernel
theorem d_M_part_18 : decode b_M_part 18 = .ok (.ldc2_w 67, 3) := by decide +kernel
theorem d_M_part_21 : decode b_M_part 21 = .ok (.invokestatic 69, 3) := by decide +kernel
theorem d_M_part_24 : decode b_M_part 24 = .ok (.ifCond .eq 23, 3) := by decide +kernel
theorem d_M_part_27 : decode b_M_part 27 = .ok (.aload_n 0, 1) := by decide +kernel
theorem d_M_part_28 : decode b_M_part 28 = .ok (.getfield 7, 3) := by decide +kernel
theorem d_M_part_31 : decode b_M_part 31 = .ok (.iconst 3, 1) := by decide +kernel
theorem d_M_part_32 : decode b_M_part 32 = .ok (.iload_n 1, 1) := by decide +kernel
theorem d_M_part_33 : decode b_M_part 33 = .ok (.imul, 1) := by decide +kernel
theorem d_M_part_34 : decode b_M_part 34 = .ok (.iload_n 2, 1) := by decide +kernel
theorem d_M_part_35 : decode b_M_part 35 = .ok (.iadd, 1) := by decide +kernel
theorem d_M_part_36 : decode b_M_part 36 = .ok (.laload, 1) := by decide +kernel
theorem d_M_part_37 : decode b_M_part 37 = .ok (.iload_n 3, 1) := by decide +kernel
theorem d_M_part_38 : decode b_M_part 38 = .ok (.i2l, 1) := by decide +kernel
theorem d_M_part_39 : decode b_M_part 39 = .ok (.ladd, 1) := by decide +kernel
theorem d_M_part_40 : decode b_M_part 40 = .ok (.ldc2_w 41, 3) := by decide +kernel
theorem d_M_part_43 : decode b_M_part 43 = .ok (.lcmp, 1) := by decide +kernel
theorem d_M_part_44 : decode b_M_part 44 = .ok (.ifCond .le 5, 3) := by decide +kernel
theorem d_M_part_47 : decode b_M_part 47 = .ok (.iconst 0, 1) := by decide +kernel
theorem d_M_part_48 : decode b_M_part 48 = .ok (.ireturn, 1) := by decide +kernel
theorem d_M_part_49 : decode b_M_part 49 = .ok (.aload_n 0, 1) := by decide +kernel
theorem d_M_part_50 : decode b_M_part 50 = .ok (.getfield 7, 3) := by decide +kernel
theorem d_M_part_53 : decode b_M_part 53 = .ok (.iconst 3, 1) := by decide +kernel
theorem d_M_part_54 : decode b_M_part 54 = .ok (.iload_n 1, 1) := by decide +kernel
theorem d_M_part_55 : decode b_M_part 55 = .ok (.imul, 1) := by decide +kernel
theorem d_M_part_56 : decode b_M_part 56 = .ok (.iload_n 2, 1) := by decide +kernel
theorem d_M_part_57 : decode b_M_part 57 = .ok (.iadd, 1) := by decide +kernel
theorem d_M_part_58 : decode b_M_part 58 = .ok (.dup2, 1) := by decide +kernel
theorem d_M_part_59 : decode b_M_part 59 = .ok (.laload, 1) := by decide +kernel
theorem d_M_part_60 : decode b_M_part 60 = .ok (.iload_n 3, 1) := by decide +kernel
theorem d_M_part_61 : decode b_M_part 61 = .ok (.i2l, 1) := by decide +kernel
theorem d_M_part_62 : decode b_M_part 62 = .ok (.ladd, 1) := by decide +kernel
theorem d_M_part_63 : decode b_M_part 63 = .ok (.lastore, 1) := by decide +kernel
theorem d_M_part_64 : decode b_M_part 64 = .ok (.aload_n 0, 1) := by decide +kernel
theorem d_M_part_65 : decode b_M_part 65 = .ok (.getfield 50, 3) := by decide +kernel
theorem d_M_part_68 : decode b_M_part 68 = .ok (.iconst 0, 1) := by decide +kernel
theorem d_M_part_69 : decode b_M_part 69 = .ok (.dup2, 1) := by decide +kernel
theorem d_M_part_70 : decode b_M_part 70 = .ok (.laload, 1) := by decide +kernel
theorem d_M_part_71 : decode b_M_part 71 = .ok (.iload_n 3, 1) := by decide +kernel
theorem d_M_part_72 : decode b_M_part 72 = .ok (.i2l, 1) := by decide +kernel
theorem d_M_part_73 : decode b_M_part 73 = .ok (.ladd, 1) := by decide +kernel
theorem d_M_part_74 : decode b_M_part 74 = .ok (.lastore, 1) := by decide +kernel
theorem d_M_part_75 : decode b_M_part 75 = .ok (.iconst 1, 1) := by decide +kernel
theorem d_M_part_76 : decode b_M_part 76 = .ok (.ireturn, 1) := by decide +kernel
theorem d_M_isLayer_0 : decode b_M_isLayer 0 = .ok (.iload_n 1, 1) := by decide +kernel
theorem d_M_isLayer_1 : decode b_M_isLayer 1 = .ok (.ifCond .lt 15, 3) := by decide +kernel
theorem d_M_isLayer_4 : decode b_M_isLayer 4 = .ok (.iload_n 1, 1) := by decide +kernel
theorem d_M_isLayer_5 : decode b_M_isLayer 5 = .ok (.aload_n 0, 1) := by decide +kernel
theorem d_M_isLayer_6 : decode b_M_isLayer 6 = .ok (.getfield 56, 3) := by decide +kernel
theorem d_M_isLayer_9 : decode b_M_isLayer 9 = .ok (.if_icmp .ge 7, 3) := by decide +kernel
theorem d_M_isLayer_12 : decode b_M_isLayer 12 = .ok (.iconst 1, 1) := by decide +kernel
theorem d_M_isLayer_13 : decode b_M_isLayer 13 = .ok (.goto 4, 3) := by decide +kernel
theorem d_M_isLayer_16 : decode b_M_isLayer 16 = .ok (.iconst 0, 1) := by decide +kernel
theorem d_M_isLayer_17 : decode b_M_isLayer 17 = .ok (.ireturn, 1) := by decide +kernel
theorem d_M_isPart_0 : decode b_M_isPart 0 = .ok (.iload_n 0, 1) := by decide +kernel
theorem d_M_isPart_1 : decode b_M_isPart 1 = .ok (.ifCond .lt 12, 3) := by decide +kernel
theorem d_M_isPart_4 : decode b_M_isPart 4 = .ok (.iload_n 0, 1) := by decide +kernel
theorem d_M_isPart_5 : decode b_M_isPart 5 = .ok (.iconst 3, 1) := by decide +kernel
theorem d_M_isPart_6 : decode b_M_isPart 6 = .ok (.if_icmp .ge 7, 3) := by decide +kernel
theorem d_M_isPart_9 : decode b_M_isPart 9 = .ok (.iconst 1, 1) := by decide +kernel
theorem d_M_isPart_10 : decode b_M_isPart 10 = .ok (.goto 4, 3) := by decide +kernel
theorem d_M_isPart_13 : decode b_M_isPart 13 = .ok (.iconst 0, 1) := by decide +kernel
theorem d_M_isPart_14 : decode b_M_isPart 14 = .ok (.ireturn, 1) := by decide +kernel
theorem d_M_isIn_0 : decode b_M_isIn 0 = .ok (.lload_n 0, 1) := by decide +kernel
theorem d_M_isIn_1 : decode b_M_isIn 1 = .ok (.lload_n 2, 1) := by decide +kernel
theorem d_M_isIn_2 : decode b_M_isIn 2 = .ok (.lcmp, 1) := by decide +kernel
theorem d_M_isIn_3 : decode b_M_isIn 3 = .ok (.ifCond .lt 14, 3) := by decide +kernel
theorem d_M_isIn_6 : decode b_M_isIn 6 = .ok (.lload_n 0, 1) := by decide +kernel
theorem d_M_isIn_7 : decode b_M_isIn 7 = .ok (.lload 4, 2) := by decide +kernel
theorem d_M_isIn_9 : decode b_M_isIn 9 = .ok (.lcmp, 1) := by decide +kernel
theorem d_M_isIn_10 : decode b_M_isIn 10 = .ok (.ifCond .gt 7, 3) := by decide +kernel
theorem d_M_isIn_13 : decode b_M_isIn 13 = .ok (.iconst 1, 1) := by decide +kernel
theorem d_M_isIn_14 : decode b_M_isIn 14 = .ok (.goto 4, 3) := by decide +kernel
theorem d_M_isIn_17 : decode b_M_isIn 17 = .ok (.iconst 0, 1) := by decide +kernel
theorem d_M_isIn_18 : decode b_M_isIn 18 = .ok (.ireturn, 1) := by decide +kernel
theorem d_M_water_0 : decode b_M_water 0 = .ok (.aload_n 0, 1) := by decide +kernel
theorem d_M_water_1 : decode b_M_water 1 = .ok (.iload_n 1, 1) := by decide +kernel
theorem d_M_water_2 : decode b_M_water 2 = .ok (.invokevirtual 60, 3) := by decide +kernel
theorem d_M_water_5 : decode b_M_water 5 = .ok (.ifCond .eq 31, 3) := by decide +kernel
theorem d_M_water_8 : decode b_M_water 8 = .ok (.iload_n 2, 1) := by decide +kernel
theorem d_M_water_9 : decode b_M_water 9 = .ok (.i2l, 1) := by decide +kernel
theorem d_M_water_10 : decode b_M_water 10 = .ok (.lconst 0, 1) := by decide +kernel
theorem d_M_water_11 : decode b_M_water 11 = .ok (.ldc2_w 67, 3) := by decide +kernel
theorem d_M_water_14 : decode b_M_water 14 = .ok (.invokestatic 69, 3) := by decide +kernel
theorem d_M_water_17 : decode b_M_water 17 = .ok (.ifCond .eq 19, 3) := by decide +kernel
theorem d_M_water_20 : decode b_M_water 20 = .ok (.aload_n 0, 1) := by decide +kernel
theorem d_M_water_21 : decode b_M_water 21 = .ok (.getfield 13, 3) := by decide +kernel
theorem d_M_water_24 : decode b_M_water 24 = .ok (.iload_n 1, 1) := by decide +kernel
theorem d_M_water_25 : decode b_M_water 25 = .ok (.laload, 1) := by decide +kernel
theorem d_M_water_26 : decode b_M_water 26 = .ok (.iload_n 2, 1) := by decide +kernel
theorem d_M_water_27 : decode b_M_water 27 = .ok (.i2l, 1) := by decide +kernel
theorem d_M_water_28 : decode b_M_water 28 = .ok (.ladd, 1) := by decide +kernel
theorem d_M_water_29 : decode b_M_water 29 = .ok (.ldc2_w 41, 3) := by decide +kernel
theorem d_M_water_32 : decode b_M_water 32 = .ok (.lcmp, 1) := by decide +kernel
theorem d_M_water_33 : decode b_M_water 33 = .ok (.ifCond .le 5, 3) := by decide +kernel
theorem d_M_water_36 : decode b_M_water 36 = .ok (.iconst 0, 1) := by decide +kernel
theorem d_M_water_37 : decode b_M_water 37 = .ok (.ireturn, 1) := by decide +kernel
theorem d_M_water_38 : decode b_M_water 38 = .ok (.aload_n 0, 1) := by decide +kernel
theorem d_M_water_39 : decode b_M_water 39 = .ok (.getfield 13, 3) := by decide +kernel
theorem d_M_water_42 : decode b_M_water 42 = .ok (.iload_n 1, 1) := by decide +kernel
theorem d_M_water_43 : decode b_M_water 43 = .ok (.dup2, 1) := by decide +kernel
theorem d_M_water_44 : decode b_M_water 44 = .ok (.laload, 1) := by decide +kernel
theorem d_M_water_45 : decode b_M_water 45 = .ok (.iload_n 2, 1) := by decide +kernel
theorem d_M_water_46 : decode b_M_water 46 = .ok (.i2l, 1) := by decide +kernel
theorem d_M_water_47 : decode b_M_water 47 = .ok (.ladd, 1) := by decide +kernel
theorem d_M_water_48 : decode b_M_water 48 = .ok (.lastore, 1) := by decide +kernel
theorem d_M_water_49 : decode b_M_water 49 = .ok (.aload_n 0, 1) := by decide +kernel
theorem d_M_water_50 : decode b_M_water 50 = .ok (.getfield 50, 3) := by decide +kernel
theorem d_M_water_53 : decode b_M_water 53 = .ok (.iconst 1, 1) := by decide +kernel
theorem d_M_water_54 : decode b_M_water 54 = .ok (.dup2, 1) := by decide +kernel
theorem d_M_water_55 : decode b_M_water 55 = .ok (.laload, 1) := by decide +kernel
theorem d_M_water_56 : decode b_M_water 56 = .ok (.iload_n 2, 1) := by decide +kernel
theorem d_M_water_57 : decode b_M_water 57 = .ok (.i2l, 1) := by decide +kernel
theorem d_M_water_58 : decode b_M_water 58 = .ok (.ladd, 1) := by decide +kernel
theorem d_M_water_59 : decode b_M_water 59 = .ok (.lastore, 1) := by decide +kernel
theorem d_M_water_60 : decode b_M_water 60 = .ok (.iconst 1, 1) := by decide +kernel
theorem d_M_water_61 : decode b_M_water 61 = .ok (.ireturn, 1) := by decide +kernel
theorem d_M_heat_0 : decode b_M_heat 0 = .ok (.aload_n 0, 1) := by decide +kernel
theorem d_M_heat_1 : decode b_M_heat 1 = .ok (.iload_n 1, 1) := by decide +kernel
theorem d_M_heat_2 : decode b_M_heat 2 = .ok (.invokevirtual 60, 3) := by decide +kernel
theorem d_M_heat_5 : decode b_M_heat 5 = .ok (.ifCond .eq 31, 3) := by decide +kernel
theorem d_M_heat_8 : decode b_M_heat 8 = .ok (.iload_n 2, 1) := by decide +kernel
theorem d_M_heat_9 : decode b_M_heat 9 = .ok (.i2l, 1) := by decide +kernel
theorem d_M_heat_10 : decode b_M_heat 10 = .ok (.lconst 0, 1) := by decide +kernel
theorem d_M_heat_11 : decode b_M_heat 11 = .ok (.ldc2_w 41, 3) := by decide +kernel
theorem d_M_heat_14 : decode b_M_heat 14 = .ok (.invokestatic 69, 3) := by decide +kernel
theorem d_M_heat_17 : decode b_M_heat 17 = .ok (.ifCond .eq 19, 3) := by decide +kernel
theorem d_M_heat_20 : decode b_M_heat 20 = .ok (.aload_n 0, 1) := by decide +kernel
theorem d_M_heat_21 : decode b_M_heat 21 = .ok (.getfield 16, 3) := by decide +kernel
theorem d_M_heat_24 : decode b_M_heat 24 = .ok (.iload_n 1, 1) := by decide +kernel
theorem d_M_heat_25 : decode b_M_heat 25 = .ok (.laload, 1) := by decide +kernel
theorem d_M_heat_26 : decode b_M_heat 26 = .ok (.iload_n 2, 1) := by decide +kernel
theorem d_M_heat_27 : decode b_M_heat 27 = .ok (.i2l, 1) := by decide +kernel
theorem d_M_heat_28 : decode b_M_heat 28 = .ok (.ladd, 1) := by decide +kernel
theorem d_M_heat_29 : decode b_M_heat 29 = .ok (.ldc2_w 73, 3) := by decide +kernel
theorem d_M_heat_32 : decode b_M_heat 32 = .ok (.lcmp, 1) := by decide +kernel
theorem d_M_heat_33 : decode b_M_heat 33 = .ok (.ifCond .le 5, 3) := by decide +kernel
theorem d_M_heat_36 : decode b_M_heat 36 = .ok (.iconst 0, 1) := by decide +kernel
theorem d_M_heat_37 : decode b_M_heat 37 = .ok (.ireturn, 1) := by decide +kernel
theorem d_M_heat_38 : decode b_M_heat 38 = .ok (.aload_n 0, 1) := by decide +kernel
theorem d_M_heat_39 : decode b_M_heat 39 = .ok (.getfield 16, 3) := by decide +kernel
theorem d_M_heat_42 : decode b_M_heat 42 = .ok (.iload_n 1, 1) := by decide +kernel
theorem d_M_heat_43 : decode b_M_heat 43 = .ok (.dup2, 1) := by decide +kernel
theorem d_M_heat_44 : decode b_M_heat 44 = .ok (.laload, 1) := by decide +kernel
theorem d_M_heat_45 : decode b_M_heat 45 = .ok (.iload_n 2, 1) := by decide +kernel
theorem d_M_heat_46 : decode b_M_heat 46 = .ok (.i2l, 1) := by decide +kernel
theorem d_M_heat_47 : decode b_M_heat 47 = .ok (.ladd, 1) := by decide +kernel
theorem d_M_heat_48 : decode b_M_heat 48 = .ok (.lastore, 1) := by decide +kernel
theorem d_M_heat_49 : decode b_M_heat 49 = .ok (.aload_n 0, 1) := by decide +kernel
theorem d_M_heat_50 : decode b_M_heat 50 = .ok (.getfield 50, 3) := by decide +kernel
theorem d_M_heat_53 : decode b_M_heat 53 = .ok (.iconst 2, 1) := by decide +kernel
theorem d_M_heat_54 : decode b_M_heat 54 = .ok (.dup2, 1) := by decide +kernel
theorem d_M_heat_55 : decode b_M_heat 55 = .ok (.laload, 1) := by decide +kernel
theorem d_M_heat_56 : decode b_M_heat 56 = .ok (.iload_n 2, 1) := by decide +kernel
theorem d_M_heat_57 : decode b_M_heat 57 = .ok (.i2l, 1) := by decide +kernel
theorem d_M_heat_58 : decode b_M_heat 58 = .ok (.ladd, 1) := by decide +kernel
theorem d_M_heat_59 : decode b_M_heat 59 = .ok (.lastore, 1) := by decide +kernel
theorem d_M_heat_60 : decode b_M_heat 60 = .ok (.iconst 1, 1) := by decide +kernel
theorem d_M_heat_61 : decode b_M_heat 61 = .ok (.ireturn, 1) := by decide +kernel
theorem d_M_rate_0 : decode b_M_rate 0 = .ok (.iload_n 1, 1) := by decide +kernel
theorem d_M_rate_1 : decode b_M_rate 1 = .ok (.invokestatic 64, 3) := by decide +kernel
theorem d_M_rate_4 : decode b_M_rate 4 = .ok (.ifCond .eq 37, 3) := by decide +kernel
theorem d_M_rate_7 : decode b_M_rate 7 = .ok (.aload_n 0, 1) := by decide +kernel
theorem d_M_rate_8 : decode b_M_rate 8 = .ok (.getfield 25, 3) := by decide +kernel
theorem d_M_rate_11 : decode b_M_rate 11 = .ok (.iload_n 1, 1) := by decide +kernel
theorem d_M_rate_12 : decode b_M_rate 12 = .ok (.iaload, 1) := by decide +kernel
theorem d_M_rate_13 : decode b_M_rate 13 = .ok (.iconst 4, 1) := by decide +kernel
theorem d_M_rate_14 : decode b_M_rate 14 = .ok (.if_icmp .eq 27, 3) := by decide +kernel
theorem d_M_rate_17 : decode b_M_rate 17 = .ok (.iload_n 2, 1) := by decide +kernel
theorem d_M_rate_18 : decode b_M_rate 18 = .ok (.i2l, 1) := by decide +kernel
theorem d_M_rate_19 : decode b_M_rate 19 = .ok (.lconst 0, 1) := by decide +kernel
theorem d_M_rate_20 : decode b_M_rate 20 = .ok (.ldc2_w 67, 3) := by decide +kernel
theorem d_M_rate_23 : decode b_M_rate 23 = .ok (.invokestatic 69, 3) := by decide +kernel
theorem d_M_rate_26 : decode b_M_rate 26 = .ok (.ifCond .eq 15, 3) := by decide +kernel
theorem d_M_rate_29 : decode b_M_rate 29 = .ok (.iload_n 3, 1) := by decide +kernel
theorem d_M_rate_30 : decode b_M_rate 30 = .ok (.i2l, 1) := by decide +kernel
theorem d_M_rate_31 : decode b_M_rate 31 = .ok (.lconst 0, 1) := by decide +kernel
theorem d_M_rate_32 : decode b_M_rate 32 = .ok (.ldc2_w 75, 3) := by decide +kernel
theorem d_M_rate_35 : decode b_M_rate 35 = .ok (.invokestatic 69, 3) := by decide +kernel
theorem d_M_rate_38 : decode b_M_rate 38 = .ok (.ifCond .ne 5, 3) := by decide +kernel
theorem d_M_rate_41 : decode b_M_rate 41 = .ok (.iconst 0, 1) := by decide +kernel
theorem d_M_rate_42 : decode b_M_rate 42 = .ok (.ireturn, 1) := by decide +kernel
theorem d_M_rate_43 : decode b_M_rate 43 = .ok (.iconst 4, 1) := by decide +kernel
theorem d_M_rate_44 : decode b_M_rate 44 = .ok (.iload_n 1, 1) := by decide +kernel
theorem d_M_rate_45 : decode b_M_rate 45 = .ok (.imul, 1) := by decide +kernel
theorem d_M_rate_46 : decode b_M_rate 46 = .ok (.aload_n 0, 1) := by decide +kernel
theorem d_M_rate_47 : decode b_M_rate 47 = .ok (.getfield 25, 3) := by decide +kernel
theorem d_M_rate_50 : decode b_M_rate 50 = .ok (.iload_n 1, 1) := by decide +kernel
theorem d_M_rate_51 : decode b_M_rate 51 = .ok (.iaload, 1) := by decide +kernel
theorem d_M_rate_52 : decode b_M_rate 52 = .ok (.iadd, 1) := by decide +kernel
theorem d_M_rate_53 : decode b_M_rate 53 = .ok (.istore 4, 2) := by decide +kernel
theorem d_M_rate_55 : decode b_M_rate 55 = .ok (.aload_n 0, 1) := by decide +kernel
theorem d_M_rate_56 : decode b_M_rate 56 = .ok (.getfield 25, 3) := by decide +kernel
theorem d_M_rate_59 : decode b_M_rate 59 = .ok (.iload_n 1, 1) := by decide +kernel
theorem d_M_rate_60 : decode b_M_rate 60 = .ok (.iaload, 1) := by decide +kernel
theorem d_M_rate_61 : decode b_M_rate 61 = .ok (.ifCond .le 18, 3) := by decide +kernel
theorem d_M_rate_64 : decode b_M_rate 64 = .ok (.iload_n 2, 1) := by decide +kernel
theorem d_M_rate_65 : decode b_M_rate 65 = .ok (.aload_n 0, 1) := by decide +kernel
theorem d_M_rate_66 : decode b_M_rate 66 = .ok (.getfield 29, 3) := by decide +kernel
theorem d_M_rate_69 : decode b_M_rate 69 = .ok (.iload 4, 2) := by decide +kernel
theorem d_M_rate_71 : decode b_M_rate 71 = .ok (.iconst 1, 1) := by decide +kernel
theorem d_M_rate_72 : decode b_M_rate 72 = .ok (.isub, 1) := by decide +kernel
theorem d_M_rate_73 : decode b_M_rate 73 = .ok (.iaload, 1) := by decide +kernel
theorem d_M_rate_74 : decode b_M_rate 74 = .ok (.if_icmp .gt 5, 3) := by decide +kernel
theorem d_M_rate_77 : decode b_M_rate 77 = .ok (.iconst 0, 1) := by decide +kernel
theorem d_M_rate_78 : decode b_M_rate 78 = .ok (.ireturn, 1) := by decide +kernel
theorem d_M_rate_79 : decode b_M_rate 79 = .ok (.aload_n 0, 1) := by decide +kernel
theorem d_M_rate_80 : decode b_M_rate 80 = .ok (.getfield 29, 3) := by decide +kernel
theorem d_M_rate_83 : decode b_M_rate 83 = .ok (.iload 4, 2) := by decide +kernel
theorem d_M_rate_85 : decode b_M_rate 85 = .ok (.iload_n 2, 1) := by decide +kernel
theorem d_M_rate_86 : decode b_M_rate 86 = .ok (.iastore, 1) := by decide +kernel
theorem d_M_rate_87 : decode b_M_rate 87 = .ok (.aload_n 0, 1) := by decide +kernel
theorem d_M_rate_88 : decode b_M_rate 88 = .ok (.getfield 32, 3) := by decide +kernel
theorem d_M_rate_91 : decode b_M_rate 91 = .ok (.iload 4, 2) := by decide +kernel
theorem d_M_rate_93 : decode b_M_rate 93 = .ok (.iload_n 3, 1) := by decide +kernel
theorem d_M_rate_94 : decode b_M_rate 94 = .ok (.iastore, 1) := by decide +kernel
theorem d_M_rate_95 : decode b_M_rate 95 = .ok (.aload_n 0, 1) := by decide +kernel
theorem d_M_rate_96 : decode b_M_rate 96 = .ok (.getfield 25, 3) := by decide +kernel
theorem d_M_rate_99 : decode b_M_rate 99 = .ok (.iload_n 1, 1) := by decide +kernel
theorem d_M_rate_100 : decode b_M_rate 100 = .ok (.dup2, 1) := by decide +kernel
theorem d_M_rate_101 : decode b_M_rate 101 = .ok (.iaload, 1) := by decide +kernel
theorem d_M_rate_102 : decode b_M_rate 102 = .ok (.iconst 1, 1) := by decide +kernel
theorem d_M_rate_103 : decode b_M_rate 103 = .ok (.iadd, 1) := by decide +kernel
theorem d_M_rate_104 : decode b_M_rate 104 = .ok (.iastore, 1) := by decide +kernel
theorem d_M_rate_105 : decode b_M_rate 105 = .ok (.iconst 1, 1) := by decide +kernel
theorem d_M_rate_106 : decode b_M_rate 106 = .ok (.ireturn, 1) := by decide +kernel
theorem d_M_yields_0 : decode b_M_yields 0 = .ok (.iload_n 1, 1) := by decide +kernel
theorem d_M_yields_1 : decode b_M_yields 1 = .ok (.invokestatic 64, 3) := by decide +kernel
theorem d_M_yields_4 : decode b_M_yields 4 = .ok (.ifCond .eq 27, 3) := by decide +kernel
theorem d_M_yields_7 : decode b_M_yields 7 = .ok (.iload_n 2, 1) := by decide +kernel
theorem d_M_yields_8 : decode b_M_yields 8 = .ok (.i2l, 1) := by decide +kernel
theorem d_M_yields_9 : decode b_M_yields 9 = .ok (.lconst 0, 1) := by decide +kernel
theorem d_M_yields_10 : decode b_M_yields 10 = .ok (.ldc2_w 75, 3) := by decide +kernel
theorem d_M_yields_13 : decode b_M_yields 13 = .ok (.invokestatic 69, 3) := by decide +kernel
theorem d_M_yields_16 : decode b_M_yields 16 = .ok (.ifCond .eq 15, 3) := by decide +kernel
theorem d_M_yields_19 : decode b_M_yields 19 = .ok (.iload_n 3, 1) := by decide +kernel
theorem d_M_yields_20 : decode b_M_yields 20 = .ok (.i2l, 1) := by decide +kernel
theorem d_M_yields_21 : decode b_M_yields 21 = .ok (.lconst 0, 1) := by decide +kernel
theorem d_M_yields_22 : decode b_M_yields 22 = .ok (.ldc2_w 77, 3) := by decide +kernel
theorem d_M_yields_25 : decode b_M_yields 25 = .ok (.invokestatic 69, 3) := by decide +kernel
theorem d_M_yields_28 : decode b_M_yields 28 = .ok (.ifCond .ne 5, 3) := by decide +kernel
theorem d_M_yields_31 : decode b_M_yields 31 = .ok (.iconst 0, 1) := by decide +kernel
theorem d_M_yields_32 : decode b_M_yields 32 = .ok (.ireturn, 1) := by decide +kernel
theorem d_M_yields_33 : decode b_M_yields 33 = .ok (.aload_n 0, 1) := by decide +kernel
theorem d_M_yields_34 : decode b_M_yields 34 = .ok (.getfield 35, 3) := by decide +kernel
theorem d_M_yields_37 : decode b_M_yields 37 = .ok (.iload_n 1, 1) := by decide +kernel
theorem d_M_yields_38 : decode b_M_yields 38 = .ok (.iload_n 2, 1) := by decide +kernel
theorem d_M_yields_39 : decode b_M_yields 39 = .ok (.iastore, 1) := by decide +kernel
theorem d_M_yields_40 : decode b_M_yields 40 = .ok (.aload_n 0, 1) := by decide +kernel
theorem d_M_yields_41 : decode b_M_yields 41 = .ok (.getfield 38, 3) := by decide +kernel
theorem d_M_yields_44 : decode b_M_yields 44 = .ok (.iload_n 1, 1) := by decide +kernel
theorem d_M_yields_45 : decode b_M_yields 45 = .ok (.iload_n 3, 1) := by decide +kernel
theorem d_M_yields_46 : decode b_M_yields 46 = .ok (.iastore, 1) := by decide +kernel
theorem d_M_yields_47 : decode b_M_yields 47 = .ok (.iconst 1, 1) := by decide +kernel
theorem d_M_yields_48 : decode b_M_yields 48 = .ok (.ireturn, 1) := by decide +kernel
theorem d_M_bounds_0 : decode b_M_bounds 0 = .ok (.aload_n 0, 1) := by decide +kernel
theorem d_M_bounds_1 : decode b_M_bounds 1 = .ok (.iload_n 1, 1) := by decide +kernel
theorem d_M_bounds_2 : decode b_M_bounds 2 = .ok (.invokevirtual 60, 3) := by decide +kernel
theorem d_M_bounds_5 : decode b_M_bounds 5 = .ok (.ifCond .eq 27, 3) := by decide +kernel
theorem d_M_bounds_8 : decode b_M_bounds 8 = .ok (.iload_n 2, 1) := by decide +kernel
theorem d_M_bounds_9 : decode b_M_bounds 9 = .ok (.i2l, 1) := by decide +kernel
theorem d_M_bounds_10 : decode b_M_bounds 10 = .ok (.lconst 0, 1) := by decide +kernel
theorem d_M_bounds_11 : decode b_M_bounds 11 = .ok (.ldc2_w 41, 3) := by decide +kernel
theorem d_M_bounds_14 : decode b_M_bounds 14 = .ok (.invokestatic 69, 3) := by decide +kernel
theorem d_M_bounds_17 : decode b_M_bounds 17 = .ok (.ifCond .eq 15, 3) := by decide +kernel
theorem d_M_bounds_20 : decode b_M_bounds 20 = .ok (.iload_n 3, 1) := by decide +kernel
theorem d_M_bounds_21 : decode b_M_bounds 21 = .ok (.i2l, 1) := by decide +kernel
theorem d_M_bounds_22 : decode b_M_bounds 22 = .ok (.lconst 0, 1) := by decide +kernel
theorem d_M_bounds_23 : decode b_M_bounds 23 = .ok (.ldc2_w 41, 3) := by decide +kernel
theorem d_M_bounds_26 : decode b_M_bounds 26 = .ok (.invokestatic 69, 3) := by decide +kernel
theorem d_M_bounds_29 : decode b_M_bounds 29 = .ok (.ifCond .ne 5, 3) := by decide +kernel
theorem d_M_bounds_32 : decode b_M_bounds 32 = .ok (.iconst 0, 1) := by decide +kernel
theorem d_M_bounds_33 : decode b_M_bounds 33 = .ok (.ireturn, 1) := by decide +kernel
theorem d_M_bounds_34 : decode b_M_bounds 34 = .ok (.aload_n 0, 1) := by decide +kernel
theorem d_M_bounds_35 : decode b_M_bounds 35 = .ok (.getfield 19, 3) := by decide +kernel
theorem d_M_bounds_38 : decode b_M_bounds 38 = .ok (.iload_n 1, 1) := by decide +kernel
theorem d_M_bounds_39 : decode b_M_bounds 39 = .ok (.iload_n 2, 1) := by decide +kernel
theorem d_M_bounds_40 : decode b_M_bounds 40 = .ok (.i2l, 1) := by decide +kernel
theorem d_M_bounds_41 : decode b_M_bounds 41 = .ok (.lastore, 1) := by decide +kernel
theorem d_M_bounds_42 : decode b_M_bounds 42 = .ok (.aload_n 0, 1) := by decide +kernel
theorem d_M_bounds_43 : decode b_M_bounds 43 = .ok (.getfield 22, 3) := by decide +kernel
theorem d_M_bounds_46 : decode b_M_bounds 46 = .ok (.iload_n 1, 1) := by decide +kernel
theorem d_M_bounds_47 : decode b_M_bounds 47 = .ok (.iload_n 3, 1) := by decide +kernel
theorem d_M_bounds_48 : decode b_M_bounds 48 = .ok (.i2l, 1) := by decide +kernel
theorem d_M_bounds_49 : decode b_M_bounds 49 = .ok (.lastore, 1) := by decide +kernel
theorem d_M_bounds_50 : decode b_M_bounds 50 = .ok (.iconst 1, 1) := by decide +kernel
theorem d_M_bounds_51 : decode b_M_bounds 51 = .ok (.ireturn, 1) := by decide +kernel
theorem d_M_rain_0 : decode b_M_rain 0 = .ok (.aload_n 0, 1) := by decide +kernel
theorem d_M_rain_1 : decode b_M_rain 1 = .ok (.iload_n 1, 1) := by decide +kernel
theorem d_M_rain_2 : decode b_M_rain 2 = .ok (.i2l, 1) := by decide +kernel
theorem d_M_rain_3 : decode b_M_rain 3 = .ok (.lconst 0, 1) := by decide +kernel
theorem d_M_rain_4 : decode b_M_rain 4 = .ok (.ldc2_w 75, 3) := by decide +kernel
theorem d_M_rain_7 : decode b_M_rain 7 = .ok (.invokestatic 69, 3) := by decide +kernel
theorem d_M_rain_10 : decode b_M_rain 10 = .ok (.ifCond .eq 7, 3) := by decide +kernel
theorem d_M_rain_13 : decode b_M_rain 13 = .ok (.iload_n 1, 1) := by decide +kernel
theorem d_M_rain_14 : decode b_M_rain 14 = .ok (.goto 7, 3) := by decide +kernel
theorem d_M_rain_17 : decode b_M_rain 17 = .ok (.aload_n 0, 1) := by decide +kernel
theorem d_M_rain_18 : decode b_M_rain 18 = .ok (.getfield 79, 3) := by decide +kernel
theorem d_M_rain_21 : decode b_M_rain 21 = .ok (.putfield 79, 3) := by decide +kernel
theorem d_M_rain_24 : decode b_M_rain 24 = .ok (.iload_n 1, 1) := by decide +kernel
theorem d_M_rain_25 : decode b_M_rain 25 = .ok (.i2l, 1) := by decide +kernel
theorem d_M_rain_26 : decode b_M_rain 26 = .ok (.lconst 0, 1) := by decide +kernel
theorem d_M_rain_27 : decode b_M_rain 27 = .ok (.ldc2_w 75, 3) := by decide +kernel
theorem d_M_rain_30 : decode b_M_rain 30 = .ok (.invokestatic 69, 3) := by decide +kernel
theorem d_M_rain_33 : decode b_M_rain 33 = .ok (.ireturn, 1) := by decide +kernel
theorem d_M_loss_0 : decode b_M_loss 0 = .ok (.aload_n 0, 1) := by decide +kernel
theorem d_M_loss_1 : decode b_M_loss 1 = .ok (.iload_n 1, 1) := by decide +kernel
theorem d_M_loss_2 : decode b_M_loss 2 = .ok (.i2l, 1) := by decide +kernel
theorem d_M_loss_3 : decode b_M_loss 3 = .ok (.lconst 0, 1) := by decide +kernel
theorem d_M_loss_4 : decode b_M_loss 4 = .ok (.ldc2_w 67, 3) := by decide +kernel
theorem d_M_loss_7 : decode b_M_loss 7 = .ok (.invokestatic 69, 3) := by decide +kernel
theorem d_M_loss_10 : decode b_M_loss 10 = .ok (.ifCond .eq 7, 3) := by decide +kernel
theorem d_M_loss_13 : decode b_M_loss 13 = .ok (.iload_n 1, 1) := by decide +kernel
theorem d_M_loss_14 : decode b_M_loss 14 = .ok (.goto 7, 3) := by decide +kernel
theorem d_M_loss_17 : decode b_M_loss 17 = .ok (.aload_n 0, 1) := by decide +kernel
theorem d_M_loss_18 : decode b_M_loss 18 = .ok (.getfield 82, 3) := by decide +kernel
theorem d_M_loss_21 : decode b_M_loss 21 = .ok (.putfield 82, 3) := by decide +kernel
theorem d_M_loss_24 : decode b_M_loss 24 = .ok (.iload_n 1, 1) := by decide +kernel
theorem d_M_loss_25 : decode b_M_loss 25 = .ok (.i2l, 1) := by decide +kernel
theorem d_M_loss_26 : decode b_M_loss 26 = .ok (.lconst 0, 1) := by decide +kernel
theorem d_M_loss_27 : decode b_M_loss 27 = .ok (.ldc2_w 67, 3) := by decide +kernel
theorem d_M_loss_30 : decode b_M_loss 30 = .ok (.invokestatic 69, 3) := by decide +kernel
theorem d_M_loss_33 : decode b_M_loss 33 = .ok (.ireturn, 1) := by decide +kernel
theorem d_M_fan_0 : decode b_M_fan 0 = .ok (.iload_n 1, 1) := by decide +kernel
theorem d_M_fan_1 : decode b_M_fan 1 = .ok (.i2l, 1) := by decide +kernel
theorem d_M_fan_2 : decode b_M_fan 2 = .ok (.lconst 0, 1) := by decide +kernel
theorem d_M_fan_3 : decode b_M_fan 3 = .ok (.ldc2_w 67, 3) := by decide +kernel
theorem d_M_fan_6 : decode b_M_fan 6 = .ok (.invokestatic 69, 3) := by decide +kernel
theorem d_M_fan_9 : decode b_M_fan 9 = .ok (.ifCond .eq 31, 3) := by decide +kernel
theorem d_M_fan_12 : decode b_M_fan 12 = .ok (.iload_n 2, 1) := by decide +kernel
theorem d_M_fan_13 : decode b_M_fan 13 = .ok (.i2l, 1) := by decide +kernel
theorem d_M_fan_14 : decode b_M_fan 14 = .ok (.ldc2_w 85, 3) := by decide +kernel
theorem d_M_fan_17 : decode b_M_fan 17 = .ok (.ldc2_w 77, 3) := by decide +kernel
theorem d_M_fan_20 : decode b_M_fan 20 = .ok (.invokestatic 69, 3) := by decide +kernel
theorem d_M_fan_23 : decode b_M_fan 23 = .ok (.ifCond .eq 17, 3) := by decide +kernel
theorem d_M_fan_26 : decode b_M_fan 26 = .ok (.iload_n 3, 1) := by decide +kernel
theorem d_M_fan_27 : decode b_M_fan 27 = .ok (.i2l, 1) := by decide +kernel
theorem d_M_fan_28 : decode b_M_fan 28 = .ok (.ldc2_w 85, 3) := by decide +kernel
theorem d_M_fan_31 : decode b_M_fan 31 = .ok (.ldc2_w 77, 3) := by decide +kernel
theorem d_M_fan_34 : decode b_M_fan 34 = .ok (.invokestatic 69, 3) := by decide +kernel
theorem d_M_fan_37 : decode b_M_fan 37 = .ok (.ifCond .ne 5, 3) := by decide +kernel
theorem d_M_fan_40 : decode b_M_fan 40 = .ok (.iconst 0, 1) := by decide +kernel
theorem d_M_fan_41 : decode b_M_fan 41 = .ok (.ireturn, 1) := by decide +kernel
theorem d_M_fan_42 : decode b_M_fan 42 = .ok (.aload_n 0, 1) := by decide +kernel
theorem d_M_fan_43 : decode b_M_fan 43 = .ok (.iconst 1, 1) := by decide +kernel
theorem d_M_fan_44 : decode b_M_fan 44 = .ok (.putfield 87, 3) := by decide +kernel
theorem d_M_fan_47 : decode b_M_fan 47 = .ok (.aload_n 0, 1) := by decide +kernel
theorem d_M_fan_48 : decode b_M_fan 48 = .ok (.iload_n 1, 1) := by decide +kernel
theorem d_M_fan_49 : decode b_M_fan 49 = .ok (.putfield 91, 3) := by decide +kernel
theorem d_M_fan_52 : decode b_M_fan 52 = .ok (.aload_n 0, 1) := by decide +kernel
theorem d_M_fan_53 : decode b_M_fan 53 = .ok (.iload_n 2, 1) := by decide +kernel
theorem d_M_fan_54 : decode b_M_fan 54 = .ok (.putfield 94, 3) := by decide +kernel
theorem d_M_fan_57 : decode b_M_fan 57 = .ok (.aload_n 0, 1) := by decide +kernel
theorem d_M_fan_58 : decode b_M_fan 58 = .ok (.iload_n 3, 1) := by decide +kernel
theorem d_M_fan_59 : decode b_M_fan 59 = .ok (.putfield 97, 3) := by decide +kernel
theorem d_M_fan_62 : decode b_M_fan 62 = .ok (.aload_n 0, 1) := by decide +kernel
theorem d_M_fan_63 : decode b_M_fan 63 = .ok (.lconst 0, 1) := by decide +kernel
theorem d_M_fan_64 : decode b_M_fan 64 = .ok (.putfield 100, 3) := by decide +kernel
theorem d_M_fan_67 : decode b_M_fan 67 = .ok (.iconst 1, 1) := by decide +kernel
theorem d_M_fan_68 : decode b_M_fan 68 = .ok (.ireturn, 1) := by decide +kernel
theorem d_M_limit_0 : decode b_M_limit 0 = .ok (.aload_n 0, 1) := by decide +kernel
theorem d_M_limit_1 : decode b_M_limit 1 = .ok (.iload_n 1, 1) := by decide +kernel
theorem d_M_limit_2 : decode b_M_limit 2 = .ok (.i2l, 1) := by decide +kernel
theorem d_M_limit_3 : decode b_M_limit 3 = .ok (.lconst 0, 1) := by decide +kernel
theorem d_M_limit_4 : decode b_M_limit 4 = .ok (.ldc2_w 41, 3) := by decide +kernel
theorem d_M_limit_7 : decode b_M_limit 7 = .ok (.invokestatic 69, 3) := by decide +kernel
theorem d_M_limit_10 : decode b_M_limit 10 = .ok (.ifCond .eq 8, 3) := by decide +kernel
theorem d_M_limit_13 : decode b_M_limit 13 = .ok (.iload_n 1, 1) := by decide +kernel
theorem d_M_limit_14 : decode b_M_limit 14 = .ok (.i2l, 1) := by decide +kernel
theorem d_M_limit_15 : decode b_M_limit 15 = .ok (.goto 7, 3) := by decide +kernel
theorem d_M_limit_18 : decode b_M_limit 18 = .ok (.aload_n 0, 1) := by decide +kernel
theorem d_M_limit_19 : decode b_M_limit 19 = .ok (.getfield 43, 3) := by decide +kernel
theorem d_M_limit_22 : decode b_M_limit 22 = .ok (.putfield 43, 3) := by decide +kernel
theorem d_M_limit_25 : decode b_M_limit 25 = .ok (.iload_n 1, 1) := by decide +kernel
theorem d_M_limit_26 : decode b_M_limit 26 = .ok (.i2l, 1) := by decide +kernel
theorem d_M_limit_27 : decode b_M_limit 27 = .ok (.lconst 0, 1) := by decide +kernel
theorem d_M_limit_28 : decode b_M_limit 28 = .ok (.ldc2_w 41, 3) := by decide +kernel
theorem d_M_limit_31 : decode b_M_limit 31 = .ok (.invokestatic 69, 3) := by decide +kernel
theorem d_M_limit_34 : decode b_M_limit 34 = .ok (.ireturn, 1) := by decide +kernel
theorem d_M_run_0 : decode b_M_run 0 = .ok (.iload_n 1, 1) := by decide +kernel
theorem d_M_run_1 : decode b_M_run 1 = .ok (.i2l, 1) := by decide +kernel
theorem d_M_run_2 : decode b_M_run 2 = .ok (.lconst 1, 1) := by decide +kernel
theorem d_M_run_3 : decode b_M_run 3 = .ok (.ldc2_w 77, 3) := by decide +kernel
theorem d_M_run_6 : decode b_M_run 6 = .ok (.invokestatic 69, 3) := by decide +kernel
theorem d_M_run_9 : decode b_M_run 9 = .ok (.ifCond .eq 20, 3) := by decide +kernel
theorem d_M_run_12 : decode b_M_run 12 = .ok (.aload_n 0, 1) := by decide +kernel
theorem d_M_run_13 : decode b_M_run 13 = .ok (.getfield 47, 3) := by decide +kernel
theorem d_M_run_16 : decode b_M_run 16 = .ok (.bipush 8, 2) := by decide +kernel
theorem d_M_run_18 : decode b_M_run 18 = .ok (.laload, 1) := by decide +kernel
theorem d_M_run_19 : decode b_M_run 19 = .ok (.iload_n 1, 1) := by decide +kernel
theorem d_M_run_20 : decode b_M_run 20 = .ok (.i2l, 1) := by decide +kernel
theorem d_M_run_21 : decode b_M_run 21 = .ok (.ladd, 1) := by decide +kernel
theorem d_M_run_22 : decode b_M_run 22 = .ok (.ldc2_w 143, 3) := by decide +kernel
theorem d_M_run_25 : decode b_M_run 25 = .ok (.lcmp, 1) := by decide +kernel
theorem d_M_run_26 : decode b_M_run 26 = .ok (.ifCond .le 5, 3) := by decide +kernel
theorem d_M_run_29 : decode b_M_run 29 = .ok (.iconst (-1), 1) := by decide +kernel
theorem d_M_run_30 : decode b_M_run 30 = .ok (.ireturn, 1) := by decide +kernel
theorem d_M_run_31 : decode b_M_run 31 = .ok (.iconst 0, 1) := by decide +kernel
theorem d_M_run_32 : decode b_M_run 32 = .ok (.istore_n 2, 1) := by decide +kernel
theorem d_M_run_33 : decode b_M_run 33 = .ok (.iload_n 2, 1) := by decide +kernel
theorem d_M_run_34 : decode b_M_run 34 = .ok (.iload_n 1, 1) := by decide +kernel
theorem d_M_run_35 : decode b_M_run 35 = .ok (.if_icmp .ge 25, 3) := by decide +kernel
theorem d_M_run_38 : decode b_M_run 38 = .ok (.aload_n 0, 1) := by decide +kernel
theorem d_M_run_39 : decode b_M_run 39 = .ok (.invokevirtual 123, 3) := by decide +kernel
theorem d_M_run_42 : decode b_M_run 42 = .ok (.aload_n 0, 1) := by decide +kernel
theorem d_M_run_43 : decode b_M_run 43 = .ok (.getfield 43, 3) := by decide +kernel
theorem d_M_run_46 : decode b_M_run 46 = .ok (.lcmp, 1) := by decide +kernel
theorem d_M_run_47 : decode b_M_run 47 = .ok (.ifCond .gt 13, 3) := by decide +kernel
theorem d_M_run_50 : decode b_M_run 50 = .ok (.aload_n 0, 1) := by decide +kernel
theorem d_M_run_51 : decode b_M_run 51 = .ok (.invokevirtual 145, 3) := by decide +kernel
theorem d_M_run_54 : decode b_M_run 54 = .ok (.iinc 2 1, 3) := by decide +kernel
theorem d_M_run_57 : decode b_M_run 57 = .ok (.goto (-24), 3) := by decide +kernel
theorem d_M_run_60 : decode b_M_run 60 = .ok (.iload_n 2, 1) := by decide +kernel
theorem d_M_run_61 : decode b_M_run 61 = .ok (.ireturn, 1) := by decide +kernel
theorem d_M_warmest_0 : decode b_M_warmest 0 = .ok (.aload_n 0, 1) := by decide +kernel
theorem d_M_warmest_1 : decode b_M_warmest 1 = .ok (.iconst 0, 1) := by decide +kernel
theorem d_M_warmest_2 : decode b_M_warmest 2 = .ok (.invokevirtual 107, 3) := by decide +kernel
theorem d_M_warmest_5 : decode b_M_warmest 5 = .ok (.lstore_n 1, 1) := by decide +kernel
theorem d_M_warmest_6 : decode b_M_warmest 6 = .ok (.iconst 1, 1) := by decide +kernel
theorem d_M_warmest_7 : decode b_M_warmest 7 = .ok (.istore_n 3, 1) := by decide +kernel
theorem d_M_warmest_8 : decode b_M_warmest 8 = .ok (.iload_n 3, 1) := by decide +kernel
theorem d_M_warmest_9 : decode b_M_warmest 9 = .ok (.aload_n 0, 1) := by decide +kernel
theorem d_M_warmest_10 : decode b_M_warmest 10 = .ok (.getfield 56, 3) := by decide +kernel
theorem d_M_warmest_13 : decode b_M_warmest 13 = .ok (.if_icmp .ge 29, 3) := by decide +kernel
theorem d_M_warmest_16 : decode b_M_warmest 16 = .ok (.aload_n 0, 1) := by decide +kernel
theorem d_M_warmest_17 : decode b_M_warmest 17 = .ok (.iload_n 3, 1) := by decide +kernel
theorem d_M_warmest_18 : decode b_M_warmest 18 = .ok (.invokevirtual 107, 3) := by decide +kernel
theorem d_M_warmest_21 : decode b_M_warmest 21 = .ok (.lload_n 1, 1) := by decide +kernel
theorem d_M_warmest_22 : decode b_M_warmest 22 = .ok (.lcmp, 1) := by decide +kernel
theorem d_M_warmest_23 : decode b_M_warmest 23 = .ok (.ifCond .le 11, 3) := by decide +kernel
theorem d_M_warmest_26 : decode b_M_warmest 26 = .ok (.aload_n 0, 1) := by decide +kernel
theorem d_M_warmest_27 : decode b_M_warmest 27 = .ok (.iload_n 3, 1) := by decide +kernel
theorem d_M_warmest_28 : decode b_M_warmest 28 = .ok (.invokevirtual 107, 3) := by decide +kernel
theorem d_M_warmest_31 : decode b_M_warmest 31 = .ok (.goto 4, 3) := by decide +kernel
theorem d_M_warmest_34 : decode b_M_warmest 34 = .ok (.lload_n 1, 1) := by decide +kernel
theorem d_M_warmest_35 : decode b_M_warmest 35 = .ok (.lstore_n 1, 1) := by decide +kernel
theorem d_M_warmest_36 : decode b_M_warmest 36 = .ok (.iinc 3 1, 3) := by decide +kernel
theorem d_M_warmest_39 : decode b_M_warmest 39 = .ok (.goto (-31), 3) := by decide +kernel
theorem d_M_warmest_42 : decode b_M_warmest 42 = .ok (.lload_n 1, 1) := by decide +kernel
theorem d_M_warmest_43 : decode b_M_warmest 43 = .ok (.lreturn, 1) := by decide +kernel
theorem d_M_warmthOf_0 : decode b_M_warmthOf 0 = .ok (.aload_n 0, 1) := by decide +kernel
theorem d_M_warmthOf_1 : decode b_M_warmthOf 1 = .ok (.iload_n 1, 1) := by decide +kernel
theorem d_M_warmthOf_2 : decode b_M_warmthOf 2 = .ok (.invokevirtual 103, 3) := by decide +kernel
theorem d_M_warmthOf_5 : decode b_M_warmthOf 5 = .ok (.lconst 0, 1) := by decide +kernel
theorem d_M_warmthOf_6 : decode b_M_warmthOf 6 = .ok (.lcmp, 1) := by decide +kernel
theorem d_M_warmthOf_7 : decode b_M_warmthOf 7 = .ok (.ifCond .ne 7, 3) := by decide +kernel
theorem d_M_warmthOf_10 : decode b_M_warmthOf 10 = .ok (.lconst 0, 1) := by decide +kernel
theorem d_M_warmthOf_11 : decode b_M_warmthOf 11 = .ok (.goto 15, 3) := by decide +kernel
theorem d_M_warmthOf_14 : decode b_M_warmthOf 14 = .ok (.aload_n 0, 1) := by decide +kernel
theorem d_M_warmthOf_15 : decode b_M_warmthOf 15 = .ok (.getfield 16, 3) := by decide +kernel
theorem d_M_warmthOf_18 : decode b_M_warmthOf 18 = .ok (.iload_n 1, 1) := by decide +kernel
theorem d_M_warmthOf_19 : decode b_M_warmthOf 19 = .ok (.laload, 1) := by decide +kernel
theorem d_M_warmthOf_20 : decode b_M_warmthOf 20 = .ok (.aload_n 0, 1) := by decide +kernel
theorem d_M_warmthOf_21 : decode b_M_warmthOf 21 = .ok (.iload_n 1, 1) := by decide +kernel
theorem d_M_warmthOf_22 : decode b_M_warmthOf 22 = .ok (.invokevirtual 103, 3) := by decide +kernel
theorem d_M_warmthOf_25 : decode b_M_warmthOf 25 = .ok (.ldiv, 1) := by decide +kernel
theorem d_M_warmthOf_26 : decode b_M_warmthOf 26 = .ok (.lreturn, 1) := by decide +kernel
theorem d_M_massOf_0 : decode b_M_massOf 0 = .ok (.aload_n 0, 1) := by decide +kernel
theorem d_M_massOf_1 : decode b_M_massOf 1 = .ok (.getfield 13, 3) := by decide +kernel
theorem d_M_massOf_4 : decode b_M_massOf 4 = .ok (.iload_n 1, 1) := by decide +kernel
theorem d_M_massOf_5 : decode b_M_massOf 5 = .ok (.laload, 1) := by decide +kernel
theorem d_M_massOf_6 : decode b_M_massOf 6 = .ok (.lstore_n 2, 1) := by decide +kernel
theorem d_M_massOf_7 : decode b_M_massOf 7 = .ok (.iconst 0, 1) := by decide +kernel
theorem d_M_massOf_8 : decode b_M_massOf 8 = .ok (.istore 4, 2) := by decide +kernel
theorem d_M_massOf_10 : decode b_M_massOf 10 = .ok (.iload 4, 2) := by decide +kernel
theorem d_M_massOf_12 : decode b_M_massOf 12 = .ok (.iconst 3, 1) := by decide +kernel
theorem d_M_massOf_13 : decode b_M_massOf 13 = .ok (.if_icmp .ge 23, 3) := by decide +kernel
theorem d_M_massOf_16 : decode b_M_massOf 16 = .ok (.lload_n 2, 1) := by decide +kernel
theorem d_M_massOf_17 : decode b_M_massOf 17 = .ok (.aload_n 0, 1) := by decide +kernel
theorem d_M_massOf_18 : decode b_M_massOf 18 = .ok (.getfield 7, 3) := by decide +kernel
theorem d_M_massOf_21 : decode b_M_massOf 21 = .ok (.iconst 3, 1) := by decide +kernel
theorem d_M_massOf_22 : decode b_M_massOf 22 = .ok (.iload_n 1, 1) := by decide +kernel
theorem d_M_massOf_23 : decode b_M_massOf 23 = .ok (.imul, 1) := by decide +kernel
theorem d_M_massOf_24 : decode b_M_massOf 24 = .ok (.iload 4, 2) := by decide +kernel
theorem d_M_massOf_26 : decode b_M_massOf 26 = .ok (.iadd, 1) := by decide +kernel
theorem d_M_massOf_27 : decode b_M_massOf 27 = .ok (.laload, 1) := by decide +kernel
theorem d_M_massOf_28 : decode b_M_massOf 28 = .ok (.ladd, 1) := by decide +kernel
theorem d_M_massOf_29 : decode b_M_massOf 29 = .ok (.lstore_n 2, 1) := by decide +kernel
theorem d_M_massOf_30 : decode b_M_massOf 30 = .ok (.iinc 4 1, 3) := by decide +kernel
theorem d_M_massOf_33 : decode b_M_massOf 33 = .ok (.goto (-23), 3) := by decide +kernel
theorem d_M_massOf_36 : decode b_M_massOf 36 = .ok (.lload_n 2, 1) := by decide +kernel
theorem d_M_massOf_37 : decode b_M_massOf 37 = .ok (.lreturn, 1) := by decide +kernel
theorem d_M_minute_0 : decode b_M_minute 0 = .ok (.aload_n 0, 1) := by decide +kernel
theorem d_M_minute_1 : decode b_M_minute 1 = .ok (.getfield 13, 3) := by decide +kernel
theorem d_M_minute_4 : decode b_M_minute 4 = .ok (.iconst 0, 1) := by decide +kernel
theorem d_M_minute_5 : decode b_M_minute 5 = .ok (.dup2, 1) := by decide +kernel
theorem d_M_minute_6 : decode b_M_minute 6 = .ok (.laload, 1) := by decide +kernel
theorem d_M_minute_7 : decode b_M_minute 7 = .ok (.aload_n 0, 1) := by decide +kernel
theorem d_M_minute_8 : decode b_M_minute 8 = .ok (.getfield 79, 3) := by decide +kernel
theorem d_M_minute_11 : decode b_M_minute 11 = .ok (.i2l, 1) := by decide +kernel
theorem d_M_minute_12 : decode b_M_minute 12 = .ok (.ladd, 1) := by decide +kernel
theorem d_M_minute_13 : decode b_M_minute 13 = .ok (.lastore, 1) := by decide +kernel
theorem d_M_minute_14 : decode b_M_minute 14 = .ok (.aload_n 0, 1) := by decide +kernel
theorem d_M_minute_15 : decode b_M_minute 15 = .ok (.getfield 47, 3) := by decide +kernel
theorem d_M_minute_18 : decode b_M_minute 18 = .ok (.iconst 3, 1) := by decide +kernel
theorem d_M_minute_19 : decode b_M_minute 19 = .ok (.dup2, 1) := by decide +kernel
theorem d_M_minute_20 : decode b_M_minute 20 = .ok (.laload, 1) := by decide +kernel
theorem d_M_minute_21 : decode b_M_minute 21 = .ok (.aload_n 0, 1) := by decide +kernel
theorem d_M_minute_22 : decode b_M_minute 22 = .ok (.getfield 79, 3) := by decide +kernel
theorem d_M_minute_25 : decode b_M_minute 25 = .ok (.i2l, 1) := by decide +kernel
theorem d_M_minute_26 : decode b_M_minute 26 = .ok (.ladd, 1) := by decide +kernel
theorem d_M_minute_27 : decode b_M_minute 27 = .ok (.lastore, 1) := by decide +kernel
theorem d_M_minute_28 : decode b_M_minute 28 = .ok (.iconst 0, 1) := by decide +kernel
theorem d_M_minute_29 : decode b_M_minute 29 = .ok (.istore_n 1, 1) := by decide +kernel
theorem d_M_minute_30 : decode b_M_minute 30 = .ok (.iload_n 1, 1) := by decide +kernel
theorem d_M_minute_31 : decode b_M_minute 31 = .ok (.aload_n 0, 1) := by decide +kernel
theorem d_M_minute_32 : decode b_M_minute 32 = .ok (.getfield 56, 3) := by decide +kernel
theorem d_M_minute_35 : decode b_M_minute 35 = .ok (.if_icmp .ge 114, 3) := by decide +kernel
theorem d_M_minute_38 : decode b_M_minute 38 = .ok (.aload_n 0, 1) := by decide +kernel
theorem d_M_minute_39 : decode b_M_minute 39 = .ok (.getfield 13, 3) := by decide +kernel
theorem d_M_minute_42 : decode b_M_minute 42 = .ok (.iload_n 1, 1) := by decide +kernel
theorem d_M_minute_43 : decode b_M_minute 43 = .ok (.laload, 1) := by decide +kernel
theorem d_M_minute_44 : decode b_M_minute 44 = .ok (.aload_n 0, 1) := by decide +kernel
theorem d_M_minute_45 : decode b_M_minute 45 = .ok (.getfield 19, 3) := by decide +kernel
theorem d_M_minute_48 : decode b_M_minute 48 = .ok (.iload_n 1, 1) := by decide +kernel
theorem d_M_minute_49 : decode b_M_minute 49 = .ok (.laload, 1) := by decide +kernel
theorem d_M_minute_50 : decode b_M_minute 50 = .ok (.lcmp, 1) := by decide +kernel
theorem d_M_minute_51 : decode b_M_minute 51 = .ok (.ifCond .lt 8, 3) := by decide +kernel
theorem d_M_minute_54 : decode b_M_minute 54 = .ok (.aload_n 0, 1) := by decide +kernel
theorem d_M_minute_55 : decode b_M_minute 55 = .ok (.iload_n 1, 1) := by decide +kernel
theorem d_M_minute_56 : decode b_M_minute 56 = .ok (.invokevirtual 133, 3) := by decide +kernel
theorem d_M_minute_59 : decode b_M_minute 59 = .ok (.aload_n 0, 1) := by decide +kernel
theorem d_M_minute_60 : decode b_M_minute 60 = .ok (.iload_n 1, 1) := by decide +kernel
theorem d_M_minute_61 : decode b_M_minute 61 = .ok (.invokevirtual 137, 3) := by decide +kernel
theorem d_M_minute_64 : decode b_M_minute 64 = .ok (.aload_n 0, 1) := by decide +kernel
theorem d_M_minute_65 : decode b_M_minute 65 = .ok (.getfield 13, 3) := by decide +kernel
theorem d_M_minute_68 : decode b_M_minute 68 = .ok (.iload_n 1, 1) := by decide +kernel
theorem d_M_minute_69 : decode b_M_minute 69 = .ok (.laload, 1) := by decide +kernel
theorem d_M_minute_70 : decode b_M_minute 70 = .ok (.aload_n 0, 1) := by decide +kernel
theorem d_M_minute_71 : decode b_M_minute 71 = .ok (.getfield 22, 3) := by decide +kernel
theorem d_M_minute_74 : decode b_M_minute 74 = .ok (.iload_n 1, 1) := by decide +kernel
theorem d_M_minute_75 : decode b_M_minute 75 = .ok (.laload, 1) := by decide +kernel
theorem d_M_minute_76 : decode b_M_minute 76 = .ok (.lcmp, 1) := by decide +kernel
theorem d_M_minute_77 : decode b_M_minute 77 = .ok (.ifCond .le 19, 3) := by decide +kernel
theorem d_M_minute_80 : decode b_M_minute 80 = .ok (.aload_n 0, 1) := by decide +kernel
theorem d_M_minute_81 : decode b_M_minute 81 = .ok (.getfield 13, 3) := by decide +kernel
theorem d_M_minute_84 : decode b_M_minute 84 = .ok (.iload_n 1, 1) := by decide +kernel
theorem d_M_minute_85 : decode b_M_minute 85 = .ok (.laload, 1) := by decide +kernel
theorem d_M_minute_86 : decode b_M_minute 86 = .ok (.aload_n 0, 1) := by decide +kernel
theorem d_M_minute_87 : decode b_M_minute 87 = .ok (.getfield 22, 3) := by decide +kernel
theorem d_M_minute_90 : decode b_M_minute 90 = .ok (.iload_n 1, 1) := by decide +kernel
theorem d_M_minute_91 : decode b_M_minute 91 = .ok (.laload, 1) := by decide +kernel
theorem d_M_minute_92 : decode b_M_minute 92 = .ok (.lsub, 1) := by decide +kernel
theorem d_M_minute_93 : decode b_M_minute 93 = .ok (.goto 4, 3) := by decide +kernel
theorem d_M_minute_96 : decode b_M_minute 96 = .ok (.lconst 0, 1) := by decide +kernel
theorem d_M_minute_97 : decode b_M_minute 97 = .ok (.lstore_n 2, 1) := by decide +kernel
theorem d_M_minute_98 : decode b_M_minute 98 = .ok (.aload_n 0, 1) := by decide +kernel
theorem d_M_minute_99 : decode b_M_minute 99 = .ok (.getfield 13, 3) := by decide +kernel
theorem d_M_minute_102 : decode b_M_minute 102 = .ok (.iload_n 1, 1) := by decide +kernel
theorem d_M_minute_103 : decode b_M_minute 103 = .ok (.dup2, 1) := by decide +kernel
theorem d_M_minute_104 : decode b_M_minute 104 = .ok (.laload, 1) := by decide +kernel
theorem d_M_minute_105 : decode b_M_minute 105 = .ok (.lload_n 2, 1) := by decide +kernel
theorem d_M_minute_106 : decode b_M_minute 106 = .ok (.lsub, 1) := by decide +kernel
theorem d_M_minute_107 : decode b_M_minute 107 = .ok (.lastore, 1) := by decide +kernel
theorem d_M_minute_108 : decode b_M_minute 108 = .ok (.iload_n 1, 1) := by decide +kernel
theorem d_M_minute_109 : decode b_M_minute 109 = .ok (.iconst 1, 1) := by decide +kernel
theorem d_M_minute_110 : decode b_M_minute 110 = .ok (.iadd, 1) := by decide +kernel
theorem d_M_minute_111 : decode b_M_minute 111 = .ok (.aload_n 0, 1) := by decide +kernel
theorem d_M_minute_112 : decode b_M_minute 112 = .ok (.getfield 56, 3) := by decide +kernel
theorem d_M_minute_115 : decode b_M_minute 115 = .ok (.if_icmp .ge 18, 3) := by decide +kernel
theorem d_M_minute_118 : decode b_M_minute 118 = .ok (.aload_n 0, 1) := by decide +kernel
theorem d_M_minute_119 : decode b_M_minute 119 = .ok (.getfield 13, 3) := by decide +kernel
theorem d_M_minute_122 : decode b_M_minute 122 = .ok (.iload_n 1, 1) := by decide +kernel
theorem d_M_minute_123 : decode b_M_minute 123 = .ok (.iconst 1, 1) := by decide +kernel
theorem d_M_minute_124 : decode b_M_minute 124 = .ok (.iadd, 1) := by decide +kernel
theorem d_M_minute_125 : decode b_M_minute 125 = .ok (.dup2, 1) := by decide +kernel
theorem d_M_minute_126 : decode b_M_minute 126 = .ok (.laload, 1) := by decide +kernel
theorem d_M_minute_127 : decode b_M_minute 127 = .ok (.lload_n 2, 1) := by decide +kernel
theorem d_M_minute_128 : decode b_M_minute 128 = .ok (.ladd, 1) := by decide +kernel
theorem d_M_minute_129 : decode b_M_minute 129 = .ok (.lastore, 1) := by decide +kernel
theorem d_M_minute_130 : decode b_M_minute 130 = .ok (.goto 13, 3) := by decide +kernel
theorem d_M_minute_133 : decode b_M_minute 133 = .ok (.aload_n 0, 1) := by decide +kernel
theorem d_M_minute_134 : decode b_M_minute 134 = .ok (.getfield 47, 3) := by decide +kernel
theorem d_M_minute_137 : decode b_M_minute 137 = .ok (.iconst 2, 1) := by decide +kernel
theorem d_M_minute_138 : decode b_M_minute 138 = .ok (.dup2, 1) := by decide +kernel
theorem d_M_minute_139 : decode b_M_minute 139 = .ok (.laload, 1) := by decide +kernel
theorem d_M_minute_140 : decode b_M_minute 140 = .ok (.lload_n 2, 1) := by decide +kernel
theorem d_M_minute_141 : decode b_M_minute 141 = .ok (.ladd, 1) := by decide +kernel
theorem d_M_minute_142 : decode b_M_minute 142 = .ok (.lastore, 1) := by decide +kernel
theorem d_M_minute_143 : decode b_M_minute 143 = .ok (.iinc 1 1, 3) := by decide +kernel
theorem d_M_minute_146 : decode b_M_minute 146 = .ok (.goto (-116), 3) := by decide +kernel
theorem d_M_minute_149 : decode b_M_minute 149 = .ok (.aload_n 0, 1) := by decide +kernel
theorem d_M_minute_150 : decode b_M_minute 150 = .ok (.invokevirtual 140, 3) := by decide +kernel
theorem d_M_minute_153 : decode b_M_minute 153 = .ok (.aload_n 0, 1) := by decide +kernel
theorem d_M_minute_154 : decode b_M_minute 154 = .ok (.getfield 47, 3) := by decide +kernel
theorem d_M_minute_157 : decode b_M_minute 157 = .ok (.bipush 8, 2) := by decide +kernel
theorem d_M_minute_159 : decode b_M_minute 159 = .ok (.dup2, 1) := by decide +kernel
theorem d_M_minute_160 : decode b_M_minute 160 = .ok (.laload, 1) := by decide +kernel
theorem d_M_minute_161 : decode b_M_minute 161 = .ok (.lconst 1, 1) := by decide +kernel
theorem d_M_minute_162 : decode b_M_minute 162 = .ok (.ladd, 1) := by decide +kernel
theorem d_M_minute_163 : decode b_M_minute 163 = .ok (.lastore, 1) := by decide +kernel
theorem d_M_minute_164 : decode b_M_minute 164 = .ok (.return_, 1) := by decide +kernel
theorem d_M_breaks_0 : decode b_M_breaks 0 = .ok (.aload_n 0, 1) := by decide +kernel
theorem d_M_breaks_1 : decode b_M_breaks 1 = .ok (.iload_n 1, 1) := by decide +kernel
theorem d_M_breaks_2 : decode b_M_breaks 2 = .ok (.invokevirtual 107, 3) := by decide +kernel
theorem d_M_breaks_5 : decode b_M_breaks 5 = .ok (.lstore_n 2, 1) := by decide +kernel
theorem d_M_breaks_6 : decode b_M_breaks 6 = .ok (.iconst 0, 1) := by decide +kernel
theorem d_M_breaks_7 : decode b_M_breaks 7 = .ok (.istore 4, 2) := by decide +kernel
theorem d_M_breaks_9 : decode b_M_breaks 9 = .ok (.iload 4, 2) := by decide +kernel
theorem d_M_breaks_11 : decode b_M_breaks 11 = .ok (.iconst 3, 1) := by decide +kernel
theorem d_M_breaks_12 : decode b_M_breaks 12 = .ok (.if_icmp .ge 134, 3) := by decide +kernel
theorem d_M_breaks_15 : decode b_M_breaks 15 = .ok (.aload_n 0, 1) := by decide +kernel
theorem d_M_breaks_16 : decode b_M_breaks 16 = .ok (.getfield 7, 3) := by decide +kernel
theorem d_M_breaks_19 : decode b_M_breaks 19 = .ok (.iconst 3, 1) := by decide +kernel
theorem d_M_breaks_20 : decode b_M_breaks 20 = .ok (.iload_n 1, 1) := by decide +kernel
theorem d_M_breaks_21 : decode b_M_breaks 21 = .ok (.imul, 1) := by decide +kernel
theorem d_M_breaks_22 : decode b_M_breaks 22 = .ok (.iload 4, 2) := by decide +kernel
theorem d_M_breaks_24 : decode b_M_breaks 24 = .ok (.iadd, 1) := by decide +kernel
theorem d_M_breaks_25 : decode b_M_breaks 25 = .ok (.laload, 1) := by decide +kernel
theorem d_M_breaks_26 : decode b_M_breaks 26 = .ok (.aload_n 0, 1) := by decide +kernel
theorem d_M_breaks_27 : decode b_M_breaks 27 = .ok (.iload 4, 2) := by decide +kernel
theorem d_M_breaks_29 : decode b_M_breaks 29 = .ok (.lload_n 2, 1) := by decide +kernel
theorem d_M_breaks_30 : decode b_M_breaks 30 = .ok (.invokevirtual 110, 3) := by decide +kernel
theorem d_M_breaks_33 : decode b_M_breaks 33 = .ok (.invokestatic 114, 3) := by decide +kernel
theorem d_M_breaks_36 : decode b_M_breaks 36 = .ok (.lstore 5, 2) := by decide +kernel
theorem d_M_breaks_38 : decode b_M_breaks 38 = .ok (.aload_n 0, 1) := by decide +kernel
theorem d_M_breaks_39 : decode b_M_breaks 39 = .ok (.getfield 7, 3) := by decide +kernel
theorem d_M_breaks_42 : decode b_M_breaks 42 = .ok (.iconst 3, 1) := by decide +kernel
theorem d_M_breaks_43 : decode b_M_breaks 43 = .ok (.iload_n 1, 1) := by decide +kernel
theorem d_M_breaks_44 : decode b_M_breaks 44 = .ok (.imul, 1) := by decide +kernel
theorem d_M_breaks_45 : decode b_M_breaks 45 = .ok (.iload 4, 2) := by decide +kernel
theorem d_M_breaks_47 : decode b_M_breaks 47 = .ok (.iadd, 1) := by decide +kernel
theorem d_M_breaks_48 : decode b_M_breaks 48 = .ok (.dup2, 1) := by decide +kernel
theorem d_M_breaks_49 : decode b_M_breaks 49 = .ok (.laload, 1) := by decide +kernel
theorem d_M_breaks_50 : decode b_M_breaks 50 = .ok (.lload 5, 2) := by decide +kernel
theorem d_M_breaks_52 : decode b_M_breaks 52 = .ok (.lsub, 1) := by decide +kernel
theorem d_M_breaks_53 : decode b_M_breaks 53 = .ok (.lastore, 1) := by decide +kernel
theorem d_M_breaks_54 : decode b_M_breaks 54 = .ok (.aload_n 0, 1) := by decide +kernel
theorem d_M_breaks_55 : decode b_M_breaks 55 = .ok (.getfield 47, 3) := by decide +kernel
theorem d_M_breaks_58 : decode b_M_breaks 58 = .ok (.iconst 0, 1) := by decide +kernel
theorem d_M_breaks_59 : decode b_M_breaks 59 = .ok (.dup2, 1) := by decide +kernel
theorem d_M_breaks_60 : decode b_M_breaks 60 = .ok (.laload, 1) := by decide +kernel
theorem d_M_breaks_61 : decode b_M_breaks 61 = .ok (.lload 5, 2) := by decide +kernel
theorem d_M_breaks_63 : decode b_M_breaks 63 = .ok (.ladd, 1) := by decide +kernel
theorem d_M_breaks_64 : decode b_M_breaks 64 = .ok (.lastore, 1) := by decide +kernel
theorem d_M_breaks_65 : decode b_M_breaks 65 = .ok (.lload 5, 2) := by decide +kernel
theorem d_M_breaks_67 : decode b_M_breaks 67 = .ok (.aload_n 0, 1) := by decide +kernel
theorem d_M_breaks_68 : decode b_M_breaks 68 = .ok (.getfield 35, 3) := by decide +kernel
theorem d_M_breaks_71 : decode b_M_breaks 71 = .ok (.iload 4, 2) := by decide +kernel
theorem d_M_breaks_73 : decode b_M_breaks 73 = .ok (.iaload, 1) := by decide +kernel
theorem d_M_breaks_74 : decode b_M_breaks 74 = .ok (.i2l, 1) := by decide +kernel
theorem d_M_breaks_75 : decode b_M_breaks 75 = .ok (.lmul, 1) := by decide +kernel
theorem d_M_breaks_76 : decode b_M_breaks 76 = .ok (.lstore 7, 2) := by decide +kernel
theorem d_M_breaks_78 : decode b_M_breaks 78 = .ok (.aload_n 0, 1) := by decide +kernel
theorem d_M_breaks_79 : decode b_M_breaks 79 = .ok (.getfield 16, 3) := by decide +kernel
theorem d_M_breaks_82 : decode b_M_breaks 82 = .ok (.iload_n 1, 1) := by decide +kernel
theorem d_M_breaks_83 : decode b_M_breaks 83 = .ok (.dup2, 1) := by decide +kernel
theorem d_M_breaks_84 : decode b_M_breaks 84 = .ok (.laload, 1) := by decide +kernel
theorem d_M_breaks_85 : decode b_M_breaks 85 = .ok (.lload 7, 2) := by decide +kernel
theorem d_M_breaks_87 : decode b_M_breaks 87 = .ok (.ladd, 1) := by decide +kernel
theorem d_M_breaks_88 : decode b_M_breaks 88 = .ok (.lastore, 1) := by decide +kernel
theorem d_M_breaks_89 : decode b_M_breaks 89 = .ok (.aload_n 0, 1) := by decide +kernel
theorem d_M_breaks_90 : decode b_M_breaks 90 = .ok (.getfield 47, 3) := by decide +kernel
theorem d_M_breaks_93 : decode b_M_breaks 93 = .ok (.iconst 4, 1) := by decide +kernel
theorem d_M_breaks_94 : decode b_M_breaks 94 = .ok (.dup2, 1) := by decide +kernel
theorem d_M_breaks_95 : decode b_M_breaks 95 = .ok (.laload, 1) := by decide +kernel
theorem d_M_breaks_96 : decode b_M_breaks 96 = .ok (.lload 7, 2) := by decide +kernel
theorem d_M_breaks_98 : decode b_M_breaks 98 = .ok (.ladd, 1) := by decide +kernel
theorem d_M_breaks_99 : decode b_M_breaks 99 = .ok (.lastore, 1) := by decide +kernel
theorem d_M_breaks_100 : decode b_M_breaks 100 = .ok (.lload 5, 2) := by decide +kernel
theorem d_M_breaks_102 : decode b_M_breaks 102 = .ok (.aload_n 0, 1) := by decide +kernel
theorem d_M_breaks_103 : decode b_M_breaks 103 = .ok (.getfield 38, 3) := by decide +kernel
theorem d_M_breaks_106 : decode b_M_breaks 106 = .ok (.iload 4, 2) := by decide +kernel
theorem d_M_breaks_108 : decode b_M_breaks 108 = .ok (.iaload, 1) := by decide +kernel
theorem d_M_breaks_109 : decode b_M_breaks 109 = .ok (.i2l, 1) := by decide +kernel
theorem d_M_breaks_110 : decode b_M_breaks 110 = .ok (.lmul, 1) := by decide +kernel
theorem d_M_breaks_111 : decode b_M_breaks 111 = .ok (.ldc2_w 77, 3) := by decide +kernel
theorem d_M_breaks_114 : decode b_M_breaks 114 = .ok (.ldiv, 1) := by decide +kernel
theorem d_M_breaks_115 : decode b_M_breaks 115 = .ok (.lstore 9, 2) := by decide +kernel
theorem d_M_breaks_117 : decode b_M_breaks 117 = .ok (.aload_n 0, 1) := by decide +kernel
theorem d_M_breaks_118 : decode b_M_breaks 118 = .ok (.getfield 13, 3) := by decide +kernel
theorem d_M_breaks_121 : decode b_M_breaks 121 = .ok (.iload_n 1, 1) := by decide +kernel
theorem d_M_breaks_122 : decode b_M_breaks 122 = .ok (.dup2, 1) := by decide +kernel
theorem d_M_breaks_123 : decode b_M_breaks 123 = .ok (.laload, 1) := by decide +kernel
theorem d_M_breaks_124 : decode b_M_breaks 124 = .ok (.lload 9, 2) := by decide +kernel
theorem d_M_breaks_126 : decode b_M_breaks 126 = .ok (.ladd, 1) := by decide +kernel
theorem d_M_breaks_127 : decode b_M_breaks 127 = .ok (.lastore, 1) := by decide +kernel
theorem d_M_breaks_128 : decode b_M_breaks 128 = .ok (.aload_n 0, 1) := by decide +kernel
theorem d_M_breaks_129 : decode b_M_breaks 129 = .ok (.getfield 47, 3) := by decide +kernel
theorem d_M_breaks_132 : decode b_M_breaks 132 = .ok (.bipush 7, 2) := by decide +kernel
theorem d_M_breaks_134 : decode b_M_breaks 134 = .ok (.dup2, 1) := by decide +kernel
theorem d_M_breaks_135 : decode b_M_breaks 135 = .ok (.laload, 1) := by decide +kernel
theorem d_M_breaks_136 : decode b_M_breaks 136 = .ok (.lload 9, 2) := by decide +kernel
theorem d_M_breaks_138 : decode b_M_breaks 138 = .ok (.ladd, 1) := by decide +kernel
theorem d_M_breaks_139 : decode b_M_breaks 139 = .ok (.lastore, 1) := by decide +kernel
theorem d_M_breaks_140 : decode b_M_breaks 140 = .ok (.iinc 4 1, 3) := by decide +kernel
theorem d_M_breaks_143 : decode b_M_breaks 143 = .ok (.goto (-134), 3) := by decide +kernel
theorem d_M_breaks_146 : decode b_M_breaks 146 = .ok (.return_, 1) := by decide +kernel
theorem d_M_rateOf_0 : decode b_M_rateOf 0 = .ok (.lconst 0, 1) := by decide +kernel
theorem d_M_rateOf_1 : decode b_M_rateOf 1 = .ok (.lstore 4, 2) := by decide +kernel
theorem d_M_rateOf_3 : decode b_M_rateOf 3 = .ok (.iconst 4, 1) := by decide +kernel
theorem d_M_rateOf_4 : decode b_M_rateOf 4 = .ok (.iload_n 1, 1) := by decide +kernel
theorem d_M_rateOf_5 : decode b_M_rateOf 5 = .ok (.imul, 1) := by decide +kernel
theorem d_M_rateOf_6 : decode b_M_rateOf 6 = .ok (.istore 6, 2) := by decide +kernel
theorem d_M_rateOf_8 : decode b_M_rateOf 8 = .ok (.iload 6, 2) := by decide +kernel
theorem d_M_rateOf_10 : decode b_M_rateOf 10 = .ok (.iconst 4, 1) := by decide +kernel
theorem d_M_rateOf_11 : decode b_M_rateOf 11 = .ok (.iload_n 1, 1) := by decide +kernel
theorem d_M_rateOf_12 : decode b_M_rateOf 12 = .ok (.imul, 1) := by decide +kernel
theorem d_M_rateOf_13 : decode b_M_rateOf 13 = .ok (.aload_n 0, 1) := by decide +kernel
theorem d_M_rateOf_14 : decode b_M_rateOf 14 = .ok (.getfield 25, 3) := by decide +kernel
theorem d_M_rateOf_17 : decode b_M_rateOf 17 = .ok (.iload_n 1, 1) := by decide +kernel
theorem d_M_rateOf_18 : decode b_M_rateOf 18 = .ok (.iaload, 1) := by decide +kernel
theorem d_M_rateOf_19 : decode b_M_rateOf 19 = .ok (.iadd, 1) := by decide +kernel
theorem d_M_rateOf_20 : decode b_M_rateOf 20 = .ok (.if_icmp .ge 37, 3) := by decide +kernel
theorem d_M_rateOf_23 : decode b_M_rateOf 23 = .ok (.aload_n 0, 1) := by decide +kernel
theorem d_M_rateOf_24 : decode b_M_rateOf 24 = .ok (.getfield 29, 3) := by decide +kernel
theorem d_M_rateOf_27 : decode b_M_rateOf 27 = .ok (.iload 6, 2) := by decide +kernel
theorem d_M_rateOf_29 : decode b_M_rateOf 29 = .ok (.iaload, 1) := by decide +kernel
theorem d_M_rateOf_30 : decode b_M_rateOf 30 = .ok (.i2l, 1) := by decide +kernel
theorem d_M_rateOf_31 : decode b_M_rateOf 31 = .ok (.lload_n 2, 1) := by decide +kernel
theorem d_M_rateOf_32 : decode b_M_rateOf 32 = .ok (.lcmp, 1) := by decide +kernel
theorem d_M_rateOf_33 : decode b_M_rateOf 33 = .ok (.ifCond .gt 14, 3) := by decide +kernel
theorem d_M_rateOf_36 : decode b_M_rateOf 36 = .ok (.aload_n 0, 1) := by decide +kernel
theorem d_M_rateOf_37 : decode b_M_rateOf 37 = .ok (.getfield 32, 3) := by decide +kernel
theorem d_M_rateOf_40 : decode b_M_rateOf 40 = .ok (.iload 6, 2) := by decide +kernel
theorem d_M_rateOf_42 : decode b_M_rateOf 42 = .ok (.iaload, 1) := by decide +kernel
theorem d_M_rateOf_43 : decode b_M_rateOf 43 = .ok (.i2l, 1) := by decide +kernel
theorem d_M_rateOf_44 : decode b_M_rateOf 44 = .ok (.goto 5, 3) := by decide +kernel
theorem d_M_rateOf_47 : decode b_M_rateOf 47 = .ok (.lload 4, 2) := by decide +kernel
theorem d_M_rateOf_49 : decode b_M_rateOf 49 = .ok (.lstore 4, 2) := by decide +kernel
theorem d_M_rateOf_51 : decode b_M_rateOf 51 = .ok (.iinc 6 1, 3) := by decide +kernel
theorem d_M_rateOf_54 : decode b_M_rateOf 54 = .ok (.goto (-46), 3) := by decide +kernel
theorem d_M_rateOf_57 : decode b_M_rateOf 57 = .ok (.lload 4, 2) := by decide +kernel
theorem d_M_rateOf_59 : decode b_M_rateOf 59 = .ok (.lreturn, 1) := by decide +kernel
theorem d_M_partOf_0 : decode b_M_partOf 0 = .ok (.lload_n 0, 1) := by decide +kernel
theorem d_M_partOf_1 : decode b_M_partOf 1 = .ok (.ldc2_w 67, 3) := by decide +kernel
theorem d_M_partOf_4 : decode b_M_partOf 4 = .ok (.ldiv, 1) := by decide +kernel
theorem d_M_partOf_5 : decode b_M_partOf 5 = .ok (.lload_n 2, 1) := by decide +kernel
theorem d_M_partOf_6 : decode b_M_partOf 6 = .ok (.lmul, 1) := by decide +kernel
theorem d_M_partOf_7 : decode b_M_partOf 7 = .ok (.lload_n 0, 1) := by decide +kernel
theorem d_M_partOf_8 : decode b_M_partOf 8 = .ok (.ldc2_w 67, 3) := by decide +kernel
theorem d_M_partOf_11 : decode b_M_partOf 11 = .ok (.lrem, 1) := by decide +kernel
theorem d_M_partOf_12 : decode b_M_partOf 12 = .ok (.lload_n 2, 1) := by decide +kernel
theorem d_M_partOf_13 : decode b_M_partOf 13 = .ok (.lmul, 1) := by decide +kernel
theorem d_M_partOf_14 : decode b_M_partOf 14 = .ok (.ldc2_w 67, 3) := by decide +kernel
theorem d_M_partOf_17 : decode b_M_partOf 17 = .ok (.ldiv, 1) := by decide +kernel
theorem d_M_partOf_18 : decode b_M_partOf 18 = .ok (.ladd, 1) := by decide +kernel
theorem d_M_partOf_19 : decode b_M_partOf 19 = .ok (.lreturn, 1) := by decide +kernel
theorem d_M_loses_0 : decode b_M_loses 0 = .ok (.aload_n 0, 1) := by decide +kernel
theorem d_M_loses_1 : decode b_M_loses 1 = .ok (.getfield 16, 3) := by decide +kernel
theorem d_M_loses_4 : decode b_M_loses 4 = .ok (.iload_n 1, 1) := by decide +kernel
theorem d_M_loses_5 : decode b_M_loses 5 = .ok (.laload, 1) := by decide +kernel
theorem d_M_loses_6 : decode b_M_loses 6 = .ok (.aload_n 0, 1) := by decide +kernel
theorem d_M_loses_7 : decode b_M_loses 7 = .ok (.getfield 82, 3) := by decide +kernel
theorem d_M_loses_10 : decode b_M_loses 10 = .ok (.i2l, 1) := by decide +kernel
theorem d_M_loses_11 : decode b_M_loses 11 = .ok (.invokestatic 114, 3) := by decide +kernel
theorem d_M_loses_14 : decode b_M_loses 14 = .ok (.lstore_n 2, 1) := by decide +kernel
theorem d_M_loses_15 : decode b_M_loses 15 = .ok (.aload_n 0, 1) := by decide +kernel
theorem d_M_loses_16 : decode b_M_loses 16 = .ok (.getfield 16, 3) := by decide +kernel
theorem d_M_loses_19 : decode b_M_loses 19 = .ok (.iload_n 1, 1) := by decide +kernel
theorem d_M_loses_20 : decode b_M_loses 20 = .ok (.dup2, 1) := by decide +kernel
theorem d_M_loses_21 : decode b_M_loses 21 = .ok (.laload, 1) := by decide +kernel
theorem d_M_loses_22 : decode b_M_loses 22 = .ok (.lload_n 2, 1) := by decide +kernel
theorem d_M_loses_23 : decode b_M_loses 23 = .ok (.lsub, 1) := by decide +kernel
theorem d_M_loses_24 : decode b_M_loses 24 = .ok (.lastore, 1) := by decide +kernel
theorem d_M_loses_25 : decode b_M_loses 25 = .ok (.aload_n 0, 1) := by decide +kernel
theorem d_M_loses_26 : decode b_M_loses 26 = .ok (.getfield 47, 3) := by decide +kernel
theorem d_M_loses_29 : decode b_M_loses 29 = .ok (.iconst 5, 1) := by decide +kernel
theorem d_M_loses_30 : decode b_M_loses 30 = .ok (.dup2, 1) := by decide +kernel
theorem d_M_loses_31 : decode b_M_loses 31 = .ok (.laload, 1) := by decide +kernel
theorem d_M_loses_32 : decode b_M_loses 32 = .ok (.lload_n 2, 1) := by decide +kernel
theorem d_M_loses_33 : decode b_M_loses 33 = .ok (.ladd, 1) := by decide +kernel
theorem d_M_loses_34 : decode b_M_loses 34 = .ok (.lastore, 1) := by decide +kernel
theorem d_M_loses_35 : decode b_M_loses 35 = .ok (.aload_n 0, 1) := by decide +kernel
theorem d_M_loses_36 : decode b_M_loses 36 = .ok (.getfield 13, 3) := by decide +kernel
theorem d_M_loses_39 : decode b_M_loses 39 = .ok (.iload_n 1, 1) := by decide +kernel
theorem d_M_loses_40 : decode b_M_loses 40 = .ok (.laload, 1) := by decide +kernel
theorem d_M_loses_41 : decode b_M_loses 41 = .ok (.aload_n 0, 1) := by decide +kernel
theorem d_M_loses_42 : decode b_M_loses 42 = .ok (.getfield 118, 3) := by decide +kernel
theorem d_M_loses_45 : decode b_M_loses 45 = .ok (.i2l, 1) := by decide +kernel
theorem d_M_loses_46 : decode b_M_loses 46 = .ok (.invokestatic 114, 3) := by decide +kernel
theorem d_M_loses_49 : decode b_M_loses 49 = .ok (.lstore 4, 2) := by decide +kernel
theorem d_M_loses_51 : decode b_M_loses 51 = .ok (.aload_n 0, 1) := by decide +kernel
theorem d_M_loses_52 : decode b_M_loses 52 = .ok (.getfield 13, 3) := by decide +kernel
theorem d_M_loses_55 : decode b_M_loses 55 = .ok (.iload_n 1, 1) := by decide +kernel
theorem d_M_loses_56 : decode b_M_loses 56 = .ok (.dup2, 1) := by decide +kernel
theorem d_M_loses_57 : decode b_M_loses 57 = .ok (.laload, 1) := by decide +kernel
theorem d_M_loses_58 : decode b_M_loses 58 = .ok (.lload 4, 2) := by decide +kernel
theorem d_M_loses_60 : decode b_M_loses 60 = .ok (.lsub, 1) := by decide +kernel
theorem d_M_loses_61 : decode b_M_loses 61 = .ok (.lastore, 1) := by decide +kernel
theorem d_M_loses_62 : decode b_M_loses 62 = .ok (.aload_n 0, 1) := by decide +kernel
theorem d_M_loses_63 : decode b_M_loses 63 = .ok (.getfield 47, 3) := by decide +kernel
theorem d_M_loses_66 : decode b_M_loses 66 = .ok (.iconst 1, 1) := by decide +kernel
theorem d_M_loses_67 : decode b_M_loses 67 = .ok (.dup2, 1) := by decide +kernel
theorem d_M_loses_68 : decode b_M_loses 68 = .ok (.laload, 1) := by decide +kernel
theorem d_M_loses_69 : decode b_M_loses 69 = .ok (.lload 4, 2) := by decide +kernel
theorem d_M_loses_71 : decode b_M_loses 71 = .ok (.ladd, 1) := by decide +kernel
theorem d_M_loses_72 : decode b_M_loses 72 = .ok (.lastore, 1) := by decide +kernel
theorem d_M_loses_73 : decode b_M_loses 73 = .ok (.ldc2_w 121, 3) := by decide +kernel
theorem d_M_loses_76 : decode b_M_loses 76 = .ok (.lload 4, 2) := by decide +kernel
theorem d_M_loses_78 : decode b_M_loses 78 = .ok (.lmul, 1) := by decide +kernel
theorem d_M_loses_79 : decode b_M_loses 79 = .ok (.aload_n 0, 1) := by decide +kernel
theorem d_M_loses_80 : decode b_M_loses 80 = .ok (.getfield 16, 3) := by decide +kernel
theorem d_M_loses_83 : decode b_M_loses 83 = .ok (.iload_n 1, 1) := by decide +kernel
theorem d_M_loses_84 : decode b_M_loses 84 = .ok (.laload, 1) := by decide +kernel
theorem d_M_loses_85 : decode b_M_loses 85 = .ok (.lcmp, 1) := by decide +kernel
theorem d_M_loses_86 : decode b_M_loses 86 = .ok (.ifCond .ge 12, 3) := by decide +kernel
theorem d_M_loses_89 : decode b_M_loses 89 = .ok (.ldc2_w 121, 3) := by decide +kernel
theorem d_M_loses_92 : decode b_M_loses 92 = .ok (.lload 4, 2) := by decide +kernel
theorem d_M_loses_94 : decode b_M_loses 94 = .ok (.lmul, 1) := by decide +kernel
theorem d_M_loses_95 : decode b_M_loses 95 = .ok (.goto 9, 3) := by decide +kernel
theorem d_M_loses_98 : decode b_M_loses 98 = .ok (.aload_n 0, 1) := by decide +kernel
theorem d_M_loses_99 : decode b_M_loses 99 = .ok (.getfield 16, 3) := by decide +kernel
theorem d_M_loses_102 : decode b_M_loses 102 = .ok (.iload_n 1, 1) := by decide +kernel
theorem d_M_loses_103 : decode b_M_loses 103 = .ok (.laload, 1) := by decide +kernel
theorem d_M_loses_104 : decode b_M_loses 104 = .ok (.lstore 6, 2) := by decide +kernel
theorem d_M_loses_106 : decode b_M_loses 106 = .ok (.aload_n 0, 1) := by decide +kernel
theorem d_M_loses_107 : decode b_M_loses 107 = .ok (.getfield 16, 3) := by decide +kernel
theorem d_M_loses_110 : decode b_M_loses 110 = .ok (.iload_n 1, 1) := by decide +kernel
theorem d_M_loses_111 : decode b_M_loses 111 = .ok (.dup2, 1) := by decide +kernel
theorem d_M_loses_112 : decode b_M_loses 112 = .ok (.laload, 1) := by decide +kernel
theorem d_M_loses_113 : decode b_M_loses 113 = .ok (.lload 6, 2) := by decide +kernel
theorem d_M_loses_115 : decode b_M_loses 115 = .ok (.lsub, 1) := by decide +kernel
theorem d_M_loses_116 : decode b_M_loses 116 = .ok (.lastore, 1) := by decide +kernel
theorem d_M_loses_117 : decode b_M_loses 117 = .ok (.aload_n 0, 1) := by decide +kernel
theorem d_M_loses_118 : decode b_M_loses 118 = .ok (.getfield 47, 3) := by decide +kernel
theorem d_M_loses_121 : decode b_M_loses 121 = .ok (.bipush 6, 2) := by decide +kernel
theorem d_M_loses_123 : decode b_M_loses 123 = .ok (.dup2, 1) := by decide +kernel
theorem d_M_loses_124 : decode b_M_loses 124 = .ok (.laload, 1) := by decide +kernel
theorem d_M_loses_125 : decode b_M_loses 125 = .ok (.lload 6, 2) := by decide +kernel
theorem d_M_loses_127 : decode b_M_loses 127 = .ok (.ladd, 1) := by decide +kernel
theorem d_M_loses_128 : decode b_M_loses 128 = .ok (.lastore, 1) := by decide +kernel
theorem d_M_loses_129 : decode b_M_loses 129 = .ok (.return_, 1) := by decide +kernel
theorem d_M_setFan_0 : decode b_M_setFan 0 = .ok (.aload_n 0, 1) := by decide +kernel
theorem d_M_setFan_1 : decode b_M_setFan 1 = .ok (.getfield 87, 3) := by decide +kernel
theorem d_M_setFan_4 : decode b_M_setFan 4 = .ok (.ifCond .ne 4, 3) := by decide +kernel
theorem d_M_setFan_7 : decode b_M_setFan 7 = .ok (.return_, 1) := by decide +kernel
theorem d_M_setFan_8 : decode b_M_setFan 8 = .ok (.aload_n 0, 1) := by decide +kernel
theorem d_M_setFan_9 : decode b_M_setFan 9 = .ok (.invokevirtual 123, 3) := by decide +kernel
theorem d_M_setFan_12 : decode b_M_setFan 12 = .ok (.aload_n 0, 1) := by decide +kernel
theorem d_M_setFan_13 : decode b_M_setFan 13 = .ok (.getfield 91, 3) := by decide +kernel
theorem d_M_setFan_16 : decode b_M_setFan 16 = .ok (.i2l, 1) := by decide +kernel
theorem d_M_setFan_17 : decode b_M_setFan 17 = .ok (.lsub, 1) := by decide +kernel
theorem d_M_setFan_18 : decode b_M_setFan 18 = .ok (.lstore_n 1, 1) := by decide +kernel
theorem d_M_setFan_19 : decode b_M_setFan 19 = .ok (.aload_n 0, 1) := by decide +kernel
theorem d_M_setFan_20 : decode b_M_setFan 20 = .ok (.aload_n 0, 1) := by decide +kernel
theorem d_M_setFan_21 : decode b_M_setFan 21 = .ok (.getfield 100, 3) := by decide +kernel
theorem d_M_setFan_24 : decode b_M_setFan 24 = .ok (.lload_n 1, 1) := by decide +kernel
theorem d_M_setFan_25 : decode b_M_setFan 25 = .ok (.ladd, 1) := by decide +kernel
theorem d_M_setFan_26 : decode b_M_setFan 26 = .ok (.ldc2_w 127, 3) := by decide +kernel
theorem d_M_setFan_29 : decode b_M_setFan 29 = .ok (.ldc2_w 41, 3) := by decide +kernel
theorem d_M_setFan_32 : decode b_M_setFan 32 = .ok (.invokestatic 129, 3) := by decide +kernel
theorem d_M_setFan_35 : decode b_M_setFan 35 = .ok (.putfield 100, 3) := by decide +kernel
theorem d_M_setFan_38 : decode b_M_setFan 38 = .ok (.aload_n 0, 1) := by decide +kernel
theorem d_M_setFan_39 : decode b_M_setFan 39 = .ok (.getfield 94, 3) := by decide +kernel
theorem d_M_setFan_42 : decode b_M_setFan 42 = .ok (.i2l, 1) := by decide +kernel
theorem d_M_setFan_43 : decode b_M_setFan 43 = .ok (.lload_n 1, 1) := by decide +kernel
theorem d_M_setFan_44 : decode b_M_setFan 44 = .ok (.lmul, 1) := by decide +kernel
theorem d_M_setFan_45 : decode b_M_setFan 45 = .ok (.aload_n 0, 1) := by decide +kernel
theorem d_M_setFan_46 : decode b_M_setFan 46 = .ok (.getfield 97, 3) := by decide +kernel
theorem d_M_setFan_49 : decode b_M_setFan 49 = .ok (.i2l, 1) := by decide +kernel
theorem d_M_setFan_50 : decode b_M_setFan 50 = .ok (.aload_n 0, 1) := by decide +kernel
theorem d_M_setFan_51 : decode b_M_setFan 51 = .ok (.getfield 100, 3) := by decide +kernel
theorem d_M_setFan_54 : decode b_M_setFan 54 = .ok (.lmul, 1) := by decide +kernel
theorem d_M_setFan_55 : decode b_M_setFan 55 = .ok (.ladd, 1) := by decide +kernel
theorem d_M_setFan_56 : decode b_M_setFan 56 = .ok (.lstore_n 3, 1) := by decide +kernel
theorem d_M_setFan_57 : decode b_M_setFan 57 = .ok (.lload_n 3, 1) := by decide +kernel
theorem d_M_setFan_58 : decode b_M_setFan 58 = .ok (.ldc2_w 77, 3) := by decide +kernel
theorem d_M_setFan_61 : decode b_M_setFan 61 = .ok (.ldiv, 1) := by decide +kernel
theorem d_M_setFan_62 : decode b_M_setFan 62 = .ok (.lload_n 3, 1) := by decide +kernel
theorem d_M_setFan_63 : decode b_M_setFan 63 = .ok (.ldc2_w 77, 3) := by decide +kernel
theorem d_M_setFan_66 : decode b_M_setFan 66 = .ok (.lrem, 1) := by decide +kernel
theorem d_M_setFan_67 : decode b_M_setFan 67 = .ok (.lconst 0, 1) := by decide +kernel
theorem d_M_setFan_68 : decode b_M_setFan 68 = .ok (.lcmp, 1) := by decide +kernel
theorem d_M_setFan_69 : decode b_M_setFan 69 = .ok (.ifCond .ge 7, 3) := by decide +kernel
theorem d_M_setFan_72 : decode b_M_setFan 72 = .ok (.lconst 1, 1) := by decide +kernel
theorem d_M_setFan_73 : decode b_M_setFan 73 = .ok (.goto 4, 3) := by decide +kernel
theorem d_M_setFan_76 : decode b_M_setFan 76 = .ok (.lconst 0, 1) := by decide +kernel
theorem d_M_setFan_77 : decode b_M_setFan 77 = .ok (.lsub, 1) := by decide +kernel
theorem d_M_setFan_78 : decode b_M_setFan 78 = .ok (.lstore 5, 2) := by decide +kernel
theorem d_M_setFan_80 : decode b_M_setFan 80 = .ok (.aload_n 0, 1) := by decide +kernel
theorem d_M_setFan_81 : decode b_M_setFan 81 = .ok (.lload 5, 2) := by decide +kernel
theorem d_M_setFan_83 : decode b_M_setFan 83 = .ok (.lconst 0, 1) := by decide +kernel
theorem d_M_setFan_84 : decode b_M_setFan 84 = .ok (.ldc2_w 77, 3) := by decide +kernel
theorem d_M_setFan_87 : decode b_M_setFan 87 = .ok (.invokestatic 129, 3) := by decide +kernel
theorem d_M_setFan_90 : decode b_M_setFan 90 = .ok (.l2i, 1) := by decide +kernel
theorem d_M_setFan_91 : decode b_M_setFan 91 = .ok (.putfield 118, 3) := by decide +kernel
theorem d_M_setFan_94 : decode b_M_setFan 94 = .ok (.return_, 1) := by decide +kernel
theorem d_M_cut_0 : decode b_M_cut 0 = .ok (.lload_n 0, 1) := by decide +kernel
theorem d_M_cut_1 : decode b_M_cut 1 = .ok (.lload_n 2, 1) := by decide +kernel
theorem d_M_cut_2 : decode b_M_cut 2 = .ok (.lcmp, 1) := by decide +kernel
theorem d_M_cut_3 : decode b_M_cut 3 = .ok (.ifCond .ge 7, 3) := by decide +kernel
theorem d_M_cut_6 : decode b_M_cut 6 = .ok (.lload_n 2, 1) := by decide +kernel
theorem d_M_cut_7 : decode b_M_cut 7 = .ok (.goto 16, 3) := by decide +kernel
theorem d_M_cut_10 : decode b_M_cut 10 = .ok (.lload_n 0, 1) := by decide +kernel
theorem d_M_cut_11 : decode b_M_cut 11 = .ok (.lload 4, 2) := by decide +kernel
theorem d_M_cut_13 : decode b_M_cut 13 = .ok (.lcmp, 1) := by decide +kernel
theorem d_M_cut_14 : decode b_M_cut 14 = .ok (.ifCond .le 8, 3) := by decide +kernel
theorem d_M_cut_17 : decode b_M_cut 17 = .ok (.lload 4, 2) := by decide +kernel
theorem d_M_cut_19 : decode b_M_cut 19 = .ok (.goto 4, 3) := by decide +kernel
theorem d_M_cut_22 : decode b_M_cut 22 = .ok (.lload_n 0, 1) := by decide +kernel
theorem d_M_cut_23 : decode b_M_cut 23 = .ok (.lreturn, 1) := by decide +kernel
theorem d_M_left_0 : decode b_M_left 0 = .ok (.aload_n 0, 1) := by decide +kernel
theorem d_M_left_1 : decode b_M_left 1 = .ok (.iload_n 1, 1) := by decide +kernel
theorem d_M_left_2 : decode b_M_left 2 = .ok (.invokevirtual 60, 3) := by decide +kernel
theorem d_M_left_5 : decode b_M_left 5 = .ok (.ifCond .eq 23, 3) := by decide +kernel
theorem d_M_left_8 : decode b_M_left 8 = .ok (.iload_n 2, 1) := by decide +kernel
theorem d_M_left_9 : decode b_M_left 9 = .ok (.invokestatic 64, 3) := by decide +kernel
theorem d_M_left_12 : decode b_M_left 12 = .ok (.ifCond .eq 16, 3) := by decide +kernel
theorem d_M_left_15 : decode b_M_left 15 = .ok (.aload_n 0, 1) := by decide +kernel
theorem d_M_left_16 : decode b_M_left 16 = .ok (.getfield 7, 3) := by decide +kernel
theorem d_M_left_19 : decode b_M_left 19 = .ok (.iconst 3, 1) := by decide +kernel
theorem d_M_left_20 : decode b_M_left 20 = .ok (.iload_n 1, 1) := by decide +kernel
theorem d_M_left_21 : decode b_M_left 21 = .ok (.imul, 1) := by decide +kernel
theorem d_M_left_22 : decode b_M_left 22 = .ok (.iload_n 2, 1) := by decide +kernel
theorem d_M_left_23 : decode b_M_left 23 = .ok (.iadd, 1) := by decide +kernel
theorem d_M_left_24 : decode b_M_left 24 = .ok (.laload, 1) := by decide +kernel
theorem d_M_left_25 : decode b_M_left 25 = .ok (.goto 6, 3) := by decide +kernel
theorem d_M_left_28 : decode b_M_left 28 = .ok (.ldc2_w 148, 3) := by decide +kernel
theorem d_M_left_31 : decode b_M_left 31 = .ok (.lreturn, 1) := by decide +kernel
theorem d_M_wet_0 : decode b_M_wet 0 = .ok (.aload_n 0, 1) := by decide +kernel
theorem d_M_wet_1 : decode b_M_wet 1 = .ok (.iload_n 1, 1) := by decide +kernel
theorem d_M_wet_2 : decode b_M_wet 2 = .ok (.invokevirtual 60, 3) := by decide +kernel
theorem d_M_wet_5 : decode b_M_wet 5 = .ok (.ifCond .eq 12, 3) := by decide +kernel
theorem d_M_wet_8 : decode b_M_wet 8 = .ok (.aload_n 0, 1) := by decide +kernel
theorem d_M_wet_9 : decode b_M_wet 9 = .ok (.getfield 13, 3) := by decide +kernel
theorem d_M_wet_12 : decode b_M_wet 12 = .ok (.iload_n 1, 1) := by decide +kernel
theorem d_M_wet_13 : decode b_M_wet 13 = .ok (.laload, 1) := by decide +kernel
theorem d_M_wet_14 : decode b_M_wet 14 = .ok (.goto 6, 3) := by decide +kernel
theorem d_M_wet_17 : decode b_M_wet 17 = .ok (.ldc2_w 148, 3) := by decide +kernel
theorem d_M_wet_20 : decode b_M_wet 20 = .ok (.lreturn, 1) := by decide +kernel
theorem d_M_warmth_0 : decode b_M_warmth 0 = .ok (.aload_n 0, 1) := by decide +kernel
theorem d_M_warmth_1 : decode b_M_warmth 1 = .ok (.iload_n 1, 1) := by decide +kernel
theorem d_M_warmth_2 : decode b_M_warmth 2 = .ok (.invokevirtual 60, 3) := by decide +kernel
theorem d_M_warmth_5 : decode b_M_warmth 5 = .ok (.ifCond .eq 11, 3) := by decide +kernel
theorem d_M_warmth_8 : decode b_M_warmth 8 = .ok (.aload_n 0, 1) := by decide +kernel
theorem d_M_warmth_9 : decode b_M_warmth 9 = .ok (.iload_n 1, 1) := by decide +kernel
theorem d_M_warmth_10 : decode b_M_warmth 10 = .ok (.invokevirtual 107, 3) := by decide +kernel
theorem d_M_warmth_13 : decode b_M_warmth 13 = .ok (.goto 6, 3) := by decide +kernel
theorem d_M_warmth_16 : decode b_M_warmth 16 = .ok (.ldc2_w 148, 3) := by decide +kernel
theorem d_M_warmth_19 : decode b_M_warmth 19 = .ok (.lreturn, 1) := by decide +kernel
theorem d_M_air_0 : decode b_M_air 0 = .ok (.aload_n 0, 1) := by decide +kernel
theorem d_M_air_1 : decode b_M_air 1 = .ok (.getfield 118, 3) := by decide +kernel
theorem d_M_air_4 : decode b_M_air 4 = .ok (.ireturn, 1) := by decide +kernel
theorem d_M_turn_0 : decode b_M_turn 0 = .ok (.iconst 0, 1) := by decide +kernel
theorem d_M_turn_1 : decode b_M_turn 1 = .ok (.istore_n 1, 1) := by decide +kernel
theorem d_M_turn_2 : decode b_M_turn 2 = .ok (.iload_n 1, 1) := by decide +kernel
theorem d_M_turn_3 : decode b_M_turn 3 = .ok (.iconst 3, 1) := by decide +kernel
theorem d_M_turn_4 : decode b_M_turn 4 = .ok (.if_icmp .ge 79, 3) := by decide +kernel
theorem d_M_turn_7 : decode b_M_turn 7 = .ok (.lconst 0, 1) := by decide +kernel
theorem d_M_turn_8 : decode b_M_turn 8 = .ok (.lstore_n 2, 1) := by decide +kernel
theorem d_M_turn_9 : decode b_M_turn 9 = .ok (.iconst 0, 1) := by decide +kernel
theorem d_M_turn_10 : decode b_M_turn 10 = .ok (.istore 4, 2) := by decide +kernel
theorem d_M_turn_12 : decode b_M_turn 12 = .ok (.iload 4, 2) := by decide +kernel
theorem d_M_turn_14 : decode b_M_turn 14 = .ok (.aload_n 0, 1) := by decide +kernel
theorem d_M_turn_15 : decode b_M_turn 15 = .ok (.getfield 56, 3) := by decide +kernel
theorem d_M_turn_18 : decode b_M_turn 18 = .ok (.if_icmp .ge 23, 3) := by decide +kernel
theorem d_M_turn_21 : decode b_M_turn 21 = .ok (.lload_n 2, 1) := by decide +kernel
theorem d_M_turn_22 : decode b_M_turn 22 = .ok (.aload_n 0, 1) := by decide +kernel
theorem d_M_turn_23 : decode b_M_turn 23 = .ok (.getfield 7, 3) := by decide +kernel
theorem d_M_turn_26 : decode b_M_turn 26 = .ok (.iconst 3, 1) := by decide +kernel
theorem d_M_turn_27 : decode b_M_turn 27 = .ok (.iload 4, 2) := by decide +kernel
theorem d_M_turn_29 : decode b_M_turn 29 = .ok (.imul, 1) := by decide +kernel
theorem d_M_turn_30 : decode b_M_turn 30 = .ok (.iload_n 1, 1) := by decide +kernel
theorem d_M_turn_31 : decode b_M_turn 31 = .ok (.iadd, 1) := by decide +kernel
theorem d_M_turn_32 : decode b_M_turn 32 = .ok (.laload, 1) := by decide +kernel
theorem d_M_turn_33 : decode b_M_turn 33 = .ok (.ladd, 1) := by decide +kernel
theorem d_M_turn_34 : decode b_M_turn 34 = .ok (.lstore_n 2, 1) := by decide +kernel
theorem d_M_turn_35 : decode b_M_turn 35 = .ok (.iinc 4 1, 3) := by decide +kernel
theorem d_M_turn_38 : decode b_M_turn 38 = .ok (.goto (-26), 3) := by decide +kernel
theorem d_M_turn_41 : decode b_M_turn 41 = .ok (.iconst 0, 1) := by decide +kernel
theorem d_M_turn_42 : decode b_M_turn 42 = .ok (.istore 4, 2) := by decide +kernel
theorem d_M_turn_44 : decode b_M_turn 44 = .ok (.iload 4, 2) := by decide +kernel
theorem d_M_turn_46 : decode b_M_turn 46 = .ok (.aload_n 0, 1) := by decide +kernel
theorem d_M_turn_47 : decode b_M_turn 47 = .ok (.getfield 56, 3) := by decide +kernel
theorem d_M_turn_50 : decode b_M_turn 50 = .ok (.if_icmp .ge 27, 3) := by decide +kernel
theorem d_M_turn_53 : decode b_M_turn 53 = .ok (.aload_n 0, 1) := by decide +kernel
theorem d_M_turn_54 : decode b_M_turn 54 = .ok (.getfield 7, 3) := by decide +kernel
theorem d_M_turn_57 : decode b_M_turn 57 = .ok (.iconst 3, 1) := by decide +kernel
theorem d_M_turn_58 : decode b_M_turn 58 = .ok (.iload 4, 2) := by decide +kernel
theorem d_M_turn_60 : decode b_M_turn 60 = .ok (.imul, 1) := by decide +kernel
theorem d_M_turn_61 : decode b_M_turn 61 = .ok (.iload_n 1, 1) := by decide +kernel
theorem d_M_turn_62 : decode b_M_turn 62 = .ok (.iadd, 1) := by decide +kernel
theorem d_M_turn_63 : decode b_M_turn 63 = .ok (.aload_n 0, 1) := by decide +kernel
theorem d_M_turn_64 : decode b_M_turn 64 = .ok (.lload_n 2, 1) := by decide +kernel
theorem d_M_turn_65 : decode b_M_turn 65 = .ok (.iload 4, 2) := by decide +kernel
theorem d_M_turn_67 : decode b_M_turn 67 = .ok (.invokevirtual 150, 3) := by decide +kernel
theorem d_M_turn_70 : decode b_M_turn 70 = .ok (.lastore, 1) := by decide +kernel
theorem d_M_turn_71 : decode b_M_turn 71 = .ok (.iinc 4 1, 3) := by decide +kernel
theorem d_M_turn_74 : decode b_M_turn 74 = .ok (.goto (-30), 3) := by decide +kernel
theorem d_M_turn_77 : decode b_M_turn 77 = .ok (.iinc 1 1, 3) := by decide +kernel
theorem d_M_turn_80 : decode b_M_turn 80 = .ok (.goto (-78), 3) := by decide +kernel
theorem d_M_turn_83 : decode b_M_turn 83 = .ok (.lconst 0, 1) := by decide +kernel
theorem d_M_turn_84 : decode b_M_turn 84 = .ok (.lstore_n 1, 1) := by decide +kernel
theorem d_M_turn_85 : decode b_M_turn 85 = .ok (.lconst 0, 1) := by decide +kernel
theorem d_M_turn_86 : decode b_M_turn 86 = .ok (.lstore_n 3, 1) := by decide +kernel
theorem d_M_turn_87 : decode b_M_turn 87 = .ok (.iconst 0, 1) := by decide +kernel
theorem d_M_turn_88 : decode b_M_turn 88 = .ok (.istore 5, 2) := by decide +kernel
theorem d_M_turn_90 : decode b_M_turn 90 = .ok (.iload 5, 2) := by decide +kernel
theorem d_M_turn_92 : decode b_M_turn 92 = .ok (.aload_n 0, 1) := by decide +kernel
theorem d_M_turn_93 : decode b_M_turn 93 = .ok (.getfield 56, 3) := by decide +kernel
theorem d_M_turn_96 : decode b_M_turn 96 = .ok (.if_icmp .ge 29, 3) := by decide +kernel
theorem d_M_turn_99 : decode b_M_turn 99 = .ok (.lload_n 1, 1) := by decide +kernel
theorem d_M_turn_100 : decode b_M_turn 100 = .ok (.aload_n 0, 1) := by decide +kernel
theorem d_M_turn_101 : decode b_M_turn 101 = .ok (.getfield 13, 3) := by decide +kernel
theorem d_M_turn_104 : decode b_M_turn 104 = .ok (.iload 5, 2) := by decide +kernel
theorem d_M_turn_106 : decode b_M_turn 106 = .ok (.laload, 1) := by decide +kernel
theorem d_M_turn_107 : decode b_M_turn 107 = .ok (.ladd, 1) := by decide +kernel
theorem d_M_turn_108 : decode b_M_turn 108 = .ok (.lstore_n 1, 1) := by decide +kernel
theorem d_M_turn_109 : decode b_M_turn 109 = .ok (.lload_n 3, 1) := by decide +kernel
theorem d_M_turn_110 : decode b_M_turn 110 = .ok (.aload_n 0, 1) := by decide +kernel
theorem d_M_turn_111 : decode b_M_turn 111 = .ok (.getfield 16, 3) := by decide +kernel
theorem d_M_turn_114 : decode b_M_turn 114 = .ok (.iload 5, 2) := by decide +kernel
theorem d_M_turn_116 : decode b_M_turn 116 = .ok (.laload, 1) := by decide +kernel
theorem d_M_turn_117 : decode b_M_turn 117 = .ok (.ladd, 1) := by decide +kernel
theorem d_M_turn_118 : decode b_M_turn 118 = .ok (.lstore_n 3, 1) := by decide +kernel
theorem d_M_turn_119 : decode b_M_turn 119 = .ok (.iinc 5 1, 3) := by decide +kernel
theorem d_M_turn_122 : decode b_M_turn 122 = .ok (.goto (-32), 3) := by decide +kernel
theorem d_M_turn_125 : decode b_M_turn 125 = .ok (.iconst 0, 1) := by decide +kernel
theorem d_M_turn_126 : decode b_M_turn 126 = .ok (.istore 5, 2) := by decide +kernel
theorem d_M_turn_128 : decode b_M_turn 128 = .ok (.iload 5, 2) := by decide +kernel
theorem d_M_turn_130 : decode b_M_turn 130 = .ok (.aload_n 0, 1) := by decide +kernel
theorem d_M_turn_131 : decode b_M_turn 131 = .ok (.getfield 56, 3) := by decide +kernel
theorem d_M_turn_134 : decode b_M_turn 134 = .ok (.if_icmp .ge 37, 3) := by decide +kernel
theorem d_M_turn_137 : decode b_M_turn 137 = .ok (.aload_n 0, 1) := by decide +kernel
theorem d_M_turn_138 : decode b_M_turn 138 = .ok (.getfield 13, 3) := by decide +kernel
theorem d_M_turn_141 : decode b_M_turn 141 = .ok (.iload 5, 2) := by decide +kernel
theorem d_M_turn_143 : decode b_M_turn 143 = .ok (.aload_n 0, 1) := by decide +kernel
theorem d_M_turn_144 : decode b_M_turn 144 = .ok (.lload_n 1, 1) := by decide +kernel
theorem d_M_turn_145 : decode b_M_turn 145 = .ok (.iload 5, 2) := by decide +kernel
theorem d_M_turn_147 : decode b_M_turn 147 = .ok (.invokevirtual 150, 3) := by decide +kernel
theorem d_M_turn_150 : decode b_M_turn 150 = .ok (.lastore, 1) := by decide +kernel
theorem d_M_turn_151 : decode b_M_turn 151 = .ok (.aload_n 0, 1) := by decide +kernel
theorem d_M_turn_152 : decode b_M_turn 152 = .ok (.getfield 16, 3) := by decide +kernel
theorem d_M_turn_155 : decode b_M_turn 155 = .ok (.iload 5, 2) := by decide +kernel
theorem d_M_turn_157 : decode b_M_turn 157 = .ok (.aload_n 0, 1) := by decide +kernel
theorem d_M_turn_158 : decode b_M_turn 158 = .ok (.lload_n 3, 1) := by decide +kernel
theorem d_M_turn_159 : decode b_M_turn 159 = .ok (.iload 5, 2) := by decide +kernel
theorem d_M_turn_161 : decode b_M_turn 161 = .ok (.invokevirtual 150, 3) := by decide +kernel
theorem d_M_turn_164 : decode b_M_turn 164 = .ok (.lastore, 1) := by decide +kernel
theorem d_M_turn_165 : decode b_M_turn 165 = .ok (.iinc 5 1, 3) := by decide +kernel
theorem d_M_turn_168 : decode b_M_turn 168 = .ok (.goto (-40), 3) := by decide +kernel
theorem d_M_turn_171 : decode b_M_turn 171 = .ok (.aload_n 0, 1) := by decide +kernel
theorem d_M_turn_172 : decode b_M_turn 172 = .ok (.dup, 1) := by decide +kernel
theorem d_M_turn_173 : decode b_M_turn 173 = .ok (.getfield 154, 3) := by decide +kernel
theorem d_M_turn_176 : decode b_M_turn 176 = .ok (.iconst 1, 1) := by decide +kernel
theorem d_M_turn_177 : decode b_M_turn 177 = .ok (.iadd, 1) := by decide +kernel
theorem d_M_turn_178 : decode b_M_turn 178 = .ok (.putfield 154, 3) := by decide +kernel
theorem d_M_turn_181 : decode b_M_turn 181 = .ok (.aload_n 0, 1) := by decide +kernel
theorem d_M_turn_182 : decode b_M_turn 182 = .ok (.getfield 154, 3) := by decide +kernel
theorem d_M_turn_185 : decode b_M_turn 185 = .ok (.ireturn, 1) := by decide +kernel
theorem d_M_shareOf_0 : decode b_M_shareOf 0 = .ok (.lload_n 1, 1) := by decide +kernel
theorem d_M_shareOf_1 : decode b_M_shareOf 1 = .ok (.aload_n 0, 1) := by decide +kernel
theorem d_M_shareOf_2 : decode b_M_shareOf 2 = .ok (.getfield 56, 3) := by decide +kernel
theorem d_M_shareOf_5 : decode b_M_shareOf 5 = .ok (.i2l, 1) := by decide +kernel
theorem d_M_shareOf_6 : decode b_M_shareOf 6 = .ok (.ldiv, 1) := by decide +kernel
theorem d_M_shareOf_7 : decode b_M_shareOf 7 = .ok (.iload_n 3, 1) := by decide +kernel
theorem d_M_shareOf_8 : decode b_M_shareOf 8 = .ok (.i2l, 1) := by decide +kernel
theorem d_M_shareOf_9 : decode b_M_shareOf 9 = .ok (.lload_n 1, 1) := by decide +kernel
theorem d_M_shareOf_10 : decode b_M_shareOf 10 = .ok (.aload_n 0, 1) := by decide +kernel
theorem d_M_shareOf_11 : decode b_M_shareOf 11 = .ok (.getfield 56, 3) := by decide +kernel
theorem d_M_shareOf_14 : decode b_M_shareOf 14 = .ok (.i2l, 1) := by decide +kernel
theorem d_M_shareOf_15 : decode b_M_shareOf 15 = .ok (.lrem, 1) := by decide +kernel
theorem d_M_shareOf_16 : decode b_M_shareOf 16 = .ok (.lcmp, 1) := by decide +kernel
theorem d_M_shareOf_17 : decode b_M_shareOf 17 = .ok (.ifCond .ge 7, 3) := by decide +kernel
theorem d_M_shareOf_20 : decode b_M_shareOf 20 = .ok (.lconst 1, 1) := by decide +kernel
theorem d_M_shareOf_21 : decode b_M_shareOf 21 = .ok (.goto 4, 3) := by decide +kernel
theorem d_M_shareOf_24 : decode b_M_shareOf 24 = .ok (.lconst 0, 1) := by decide +kernel
theorem d_M_shareOf_25 : decode b_M_shareOf 25 = .ok (.ladd, 1) := by decide +kernel
theorem d_M_shareOf_26 : decode b_M_shareOf 26 = .ok (.lreturn, 1) := by decide +kernel
theorem d_M_gone_0 : decode b_M_gone 0 = .ok (.iload_n 1, 1) := by decide +kernel
theorem d_M_gone_1 : decode b_M_gone 1 = .ok (.i2l, 1) := by decide +kernel
theorem d_M_gone_2 : decode b_M_gone 2 = .ok (.lconst 0, 1) := by decide +kernel
theorem d_M_gone_3 : decode b_M_gone 3 = .ok (.ldc2_w 157, 3) := by decide +kernel
theorem d_M_gone_6 : decode b_M_gone 6 = .ok (.invokestatic 69, 3) := by decide +kernel
theorem d_M_gone_9 : decode b_M_gone 9 = .ok (.ifCond .eq 12, 3) := by decide +kernel
theorem d_M_gone_12 : decode b_M_gone 12 = .ok (.aload_n 0, 1) := by decide +kernel
theorem d_M_gone_13 : decode b_M_gone 13 = .ok (.getfield 47, 3) := by decide +kernel
theorem d_M_gone_16 : decode b_M_gone 16 = .ok (.iload_n 1, 1) := by decide +kernel
theorem d_M_gone_17 : decode b_M_gone 17 = .ok (.laload, 1) := by decide +kernel
theorem d_M_gone_18 : decode b_M_gone 18 = .ok (.goto 6, 3) := by decide +kernel
theorem d_M_gone_21 : decode b_M_gone 21 = .ok (.ldc2_w 148, 3) := by decide +kernel
theorem d_M_gone_24 : decode b_M_gone 24 = .ok (.lreturn, 1) := by decide +kernel
theorem d_M_balance_0 : decode b_M_balance 0 = .ok (.iload_n 1, 1) := by decide +kernel
theorem d_M_balance_1 : decode b_M_balance 1 = .ok (.i2l, 1) := by decide +kernel
theorem d_M_balance_2 : decode b_M_balance 2 = .ok (.lconst 0, 1) := by decide +kernel
theorem d_M_balance_3 : decode b_M_balance 3 = .ok (.ldc2_w 159, 3) := by decide +kernel
theorem d_M_balance_6 : decode b_M_balance 6 = .ok (.invokestatic 69, 3) := by decide +kernel
theorem d_M_balance_9 : decode b_M_balance 9 = .ok (.ifCond .ne 7, 3) := by decide +kernel
theorem d_M_balance_12 : decode b_M_balance 12 = .ok (.ldc2_w 148, 3) := by decide +kernel
theorem d_M_balance_15 : decode b_M_balance 15 = .ok (.lreturn, 1) := by decide +kernel
theorem d_M_balance_16 : decode b_M_balance 16 = .ok (.aload_n 0, 1) := by decide +kernel
theorem d_M_balance_17 : decode b_M_balance 17 = .ok (.getfield 50, 3) := by decide +kernel
theorem d_M_balance_20 : decode b_M_balance 20 = .ok (.iload_n 1, 1) := by decide +kernel
theorem d_M_balance_21 : decode b_M_balance 21 = .ok (.laload, 1) := by decide +kernel
theorem d_M_balance_22 : decode b_M_balance 22 = .ok (.aload_n 0, 1) := by decide +kernel
theorem d_M_balance_23 : decode b_M_balance 23 = .ok (.getfield 53, 3) := by decide +kernel
theorem d_M_balance_26 : decode b_M_balance 26 = .ok (.iload_n 1, 1) := by decide +kernel
theorem d_M_balance_27 : decode b_M_balance 27 = .ok (.laload, 1) := by decide +kernel
theorem d_M_balance_28 : decode b_M_balance 28 = .ok (.lsub, 1) := by decide +kernel
theorem d_M_balance_29 : decode b_M_balance 29 = .ok (.aload_n 0, 1) := by decide +kernel
theorem d_M_balance_30 : decode b_M_balance 30 = .ok (.iload_n 1, 1) := by decide +kernel
theorem d_M_balance_31 : decode b_M_balance 31 = .ok (.invokevirtual 161, 3) := by decide +kernel
theorem d_M_balance_34 : decode b_M_balance 34 = .ok (.lsub, 1) := by decide +kernel
theorem d_M_balance_35 : decode b_M_balance 35 = .ok (.lstore_n 2, 1) := by decide +kernel
theorem d_M_balance_36 : decode b_M_balance 36 = .ok (.iload_n 1, 1) := by decide +kernel
theorem d_M_balance_37 : decode b_M_balance 37 = .ok (.ifCond .ne 12, 3) := by decide +kernel
theorem d_M_balance_40 : decode b_M_balance 40 = .ok (.lload_n 2, 1) := by decide +kernel
theorem d_M_balance_41 : decode b_M_balance 41 = .ok (.aload_n 0, 1) := by decide +kernel
theorem d_M_balance_42 : decode b_M_balance 42 = .ok (.getfield 47, 3) := by decide +kernel
theorem d_M_balance_45 : decode b_M_balance 45 = .ok (.iconst 0, 1) := by decide +kernel
theorem d_M_balance_46 : decode b_M_balance 46 = .ok (.laload, 1) := by decide +kernel
theorem d_M_balance_47 : decode b_M_balance 47 = .ok (.lsub, 1) := by decide +kernel
theorem d_M_balance_48 : decode b_M_balance 48 = .ok (.lreturn, 1) := by decide +kernel
theorem d_M_balance_49 : decode b_M_balance 49 = .ok (.iload_n 1, 1) := by decide +kernel
theorem d_M_balance_50 : decode b_M_balance 50 = .ok (.iconst 1, 1) := by decide +kernel
theorem d_M_balance_51 : decode b_M_balance 51 = .ok (.if_icmp .ne 36, 3) := by decide +kernel
theorem d_M_balance_54 : decode b_M_balance 54 = .ok (.lload_n 2, 1) := by decide +kernel
theorem d_M_balance_55 : decode b_M_balance 55 = .ok (.aload_n 0, 1) := by decide +kernel
theorem d_M_balance_56 : decode b_M_balance 56 = .ok (.getfield 47, 3) := by decide +kernel
theorem d_M_balance_59 : decode b_M_balance 59 = .ok (.iconst 3, 1) := by decide +kernel
theorem d_M_balance_60 : decode b_M_balance 60 = .ok (.laload, 1) := by decide +kernel
theorem d_M_balance_61 : decode b_M_balance 61 = .ok (.ladd, 1) := by decide +kernel
theorem d_M_balance_62 : decode b_M_balance 62 = .ok (.aload_n 0, 1) := by decide +kernel
theorem d_M_balance_63 : decode b_M_balance 63 = .ok (.getfield 47, 3) := by decide +kernel
theorem d_M_balance_66 : decode b_M_balance 66 = .ok (.bipush 7, 2) := by decide +kernel
theorem d_M_balance_68 : decode b_M_balance 68 = .ok (.laload, 1) := by decide +kernel
theorem d_M_balance_69 : decode b_M_balance 69 = .ok (.ladd, 1) := by decide +kernel
theorem d_M_balance_70 : decode b_M_balance 70 = .ok (.aload_n 0, 1) := by decide +kernel
theorem d_M_balance_71 : decode b_M_balance 71 = .ok (.getfield 47, 3) := by decide +kernel
theorem d_M_balance_74 : decode b_M_balance 74 = .ok (.iconst 1, 1) := by decide +kernel
theorem d_M_balance_75 : decode b_M_balance 75 = .ok (.laload, 1) := by decide +kernel
theorem d_M_balance_76 : decode b_M_balance 76 = .ok (.lsub, 1) := by decide +kernel
theorem d_M_balance_77 : decode b_M_balance 77 = .ok (.aload_n 0, 1) := by decide +kernel
theorem d_M_balance_78 : decode b_M_balance 78 = .ok (.getfield 47, 3) := by decide +kernel
theorem d_M_balance_81 : decode b_M_balance 81 = .ok (.iconst 2, 1) := by decide +kernel
theorem d_M_balance_82 : decode b_M_balance 82 = .ok (.laload, 1) := by decide +kernel
theorem d_M_balance_83 : decode b_M_balance 83 = .ok (.lsub, 1) := by decide +kernel
theorem d_M_balance_84 : decode b_M_balance 84 = .ok (.goto 26, 3) := by decide +kernel
theorem d_M_balance_87 : decode b_M_balance 87 = .ok (.lload_n 2, 1) := by decide +kernel
theorem d_M_balance_88 : decode b_M_balance 88 = .ok (.aload_n 0, 1) := by decide +kernel
theorem d_M_balance_89 : decode b_M_balance 89 = .ok (.getfield 47, 3) := by decide +kernel
theorem d_M_balance_92 : decode b_M_balance 92 = .ok (.iconst 4, 1) := by decide +kernel
theorem d_M_balance_93 : decode b_M_balance 93 = .ok (.laload, 1) := by decide +kernel
theorem d_M_balance_94 : decode b_M_balance 94 = .ok (.ladd, 1) := by decide +kernel
theorem d_M_balance_95 : decode b_M_balance 95 = .ok (.aload_n 0, 1) := by decide +kernel
theorem d_M_balance_96 : decode b_M_balance 96 = .ok (.getfield 47, 3) := by decide +kernel
theorem d_M_balance_99 : decode b_M_balance 99 = .ok (.iconst 5, 1) := by decide +kernel
theorem d_M_balance_100 : decode b_M_balance 100 = .ok (.laload, 1) := by decide +kernel
theorem d_M_balance_101 : decode b_M_balance 101 = .ok (.lsub, 1) := by decide +kernel
theorem d_M_balance_102 : decode b_M_balance 102 = .ok (.aload_n 0, 1) := by decide +kernel
theorem d_M_balance_103 : decode b_M_balance 103 = .ok (.getfield 47, 3) := by decide +kernel
theorem d_M_balance_106 : decode b_M_balance 106 = .ok (.bipush 6, 2) := by decide +kernel
theorem d_M_balance_108 : decode b_M_balance 108 = .ok (.laload, 1) := by decide +kernel
theorem d_M_balance_109 : decode b_M_balance 109 = .ok (.lsub, 1) := by decide +kernel
theorem d_M_balance_110 : decode b_M_balance 110 = .ok (.lreturn, 1) := by decide +kernel
theorem d_M_there_0 : decode b_M_there 0 = .ok (.lconst 0, 1) := by decide +kernel
theorem d_M_there_1 : decode b_M_there 1 = .ok (.lstore_n 2, 1) := by decide +kernel
theorem d_M_there_2 : decode b_M_there 2 = .ok (.iconst 0, 1) := by decide +kernel
theorem d_M_there_3 : decode b_M_there 3 = .ok (.istore 4, 2) := by decide +kernel
theorem d_M_there_5 : decode b_M_there 5 = .ok (.iload 4, 2) := by decide +kernel
theorem d_M_there_7 : decode b_M_there 7 = .ok (.aload_n 0, 1) := by decide +kernel
theorem d_M_there_8 : decode b_M_there 8 = .ok (.getfield 56, 3) := by decide +kernel
theorem d_M_there_11 : decode b_M_there 11 = .ok (.if_icmp .ge 55, 3) := by decide +kernel
theorem d_M_there_14 : decode b_M_there 14 = .ok (.lload_n 2, 1) := by decide +kernel
theorem d_M_there_15 : decode b_M_there 15 = .ok (.iload_n 1, 1) := by decide +kernel
theorem d_M_there_16 : decode b_M_there 16 = .ok (.ifCond .ne 20, 3) := by decide +kernel
theorem d_M_there_19 : decode b_M_there 19 = .ok (.aload_n 0, 1) := by decide +kernel
theorem d_M_there_20 : decode b_M_there 20 = .ok (.iload 4, 2) := by decide +kernel
theorem d_M_there_22 : decode b_M_there 22 = .ok (.invokevirtual 103, 3) := by decide +kernel
theorem d_M_there_25 : decode b_M_there 25 = .ok (.aload_n 0, 1) := by decide +kernel
theorem d_M_there_26 : decode b_M_there 26 = .ok (.getfield 13, 3) := by decide +kernel
theorem d_M_there_29 : decode b_M_there 29 = .ok (.iload 4, 2) := by decide +kernel
theorem d_M_there_31 : decode b_M_there 31 = .ok (.laload, 1) := by decide +kernel
theorem d_M_there_32 : decode b_M_there 32 = .ok (.lsub, 1) := by decide +kernel
theorem d_M_there_33 : decode b_M_there 33 = .ok (.goto 25, 3) := by decide +kernel
theorem d_M_there_36 : decode b_M_there 36 = .ok (.iload_n 1, 1) := by decide +kernel
theorem d_M_there_37 : decode b_M_there 37 = .ok (.iconst 1, 1) := by decide +kernel
theorem d_M_there_38 : decode b_M_there 38 = .ok (.if_icmp .ne 13, 3) := by decide +kernel
theorem d_M_there_41 : decode b_M_there 41 = .ok (.aload_n 0, 1) := by decide +kernel
theorem d_M_there_42 : decode b_M_there 42 = .ok (.getfield 13, 3) := by decide +kernel
theorem d_M_there_45 : decode b_M_there 45 = .ok (.iload 4, 2) := by decide +kernel
theorem d_M_there_47 : decode b_M_there 47 = .ok (.laload, 1) := by decide +kernel
theorem d_M_there_48 : decode b_M_there 48 = .ok (.goto 10, 3) := by decide +kernel
theorem d_M_there_51 : decode b_M_there 51 = .ok (.aload_n 0, 1) := by decide +kernel
theorem d_M_there_52 : decode b_M_there 52 = .ok (.getfield 16, 3) := by decide +kernel
theorem d_M_there_55 : decode b_M_there 55 = .ok (.iload 4, 2) := by decide +kernel
theorem d_M_there_57 : decode b_M_there 57 = .ok (.laload, 1) := by decide +kernel
theorem d_M_there_58 : decode b_M_there 58 = .ok (.ladd, 1) := by decide +kernel
theorem d_M_there_59 : decode b_M_there 59 = .ok (.lstore_n 2, 1) := by decide +kernel
theorem d_M_there_60 : decode b_M_there 60 = .ok (.iinc 4 1, 3) := by decide +kernel
theorem d_M_there_63 : decode b_M_there 63 = .ok (.goto (-58), 3) := by decide +kernel
theorem d_M_there_66 : decode b_M_there 66 = .ok (.lload_n 2, 1) := by decide +kernel
theorem d_M_there_67 : decode b_M_there 67 = .ok (.lreturn, 1) := by decide +kernel
theorem d_M_batch_0 : decode b_M_batch 0 = .ok (.aload_n 0, 1) := by decide +kernel
theorem d_M_batch_1 : decode b_M_batch 1 = .ok (.iconst 0, 1) := by decide +kernel
theorem d_M_batch_2 : decode b_M_batch 2 = .ok (.invokevirtual 161, 3) := by decide +kernel
theorem d_M_batch_5 : decode b_M_batch 5 = .ok (.aload_n 0, 1) := by decide +kernel
theorem d_M_batch_6 : decode b_M_batch 6 = .ok (.iconst 1, 1) := by decide +kernel
theorem d_M_batch_7 : decode b_M_batch 7 = .ok (.invokevirtual 161, 3) := by decide +kernel
theorem d_M_batch_10 : decode b_M_batch 10 = .ok (.ladd, 1) := by decide +kernel
theorem d_M_batch_11 : decode b_M_batch 11 = .ok (.lstore_n 1, 1) := by decide +kernel
theorem d_M_batch_12 : decode b_M_batch 12 = .ok (.iconst 0, 1) := by decide +kernel
theorem d_M_batch_13 : decode b_M_batch 13 = .ok (.istore_n 3, 1) := by decide +kernel
theorem d_M_batch_14 : decode b_M_batch 14 = .ok (.iload_n 3, 1) := by decide +kernel
theorem d_M_batch_15 : decode b_M_batch 15 = .ok (.iconst 3, 1) := by decide +kernel
theorem d_M_batch_16 : decode b_M_batch 16 = .ok (.if_icmp .ge 23, 3) := by decide +kernel
theorem d_M_batch_19 : decode b_M_batch 19 = .ok (.aload_n 0, 1) := by decide +kernel
theorem d_M_batch_20 : decode b_M_batch 20 = .ok (.getfield 53, 3) := by decide +kernel
theorem d_M_batch_23 : decode b_M_batch 23 = .ok (.iload_n 3, 1) := by decide +kernel
theorem d_M_batch_24 : decode b_M_batch 24 = .ok (.dup2, 1) := by decide +kernel
theorem d_M_batch_25 : decode b_M_batch 25 = .ok (.laload, 1) := by decide +kernel
theorem d_M_batch_26 : decode b_M_batch 26 = .ok (.aload_n 0, 1) := by decide +kernel
theorem d_M_batch_27 : decode b_M_batch 27 = .ok (.iload_n 3, 1) := by decide +kernel
theorem d_M_batch_28 : decode b_M_batch 28 = .ok (.invokevirtual 161, 3) := by decide +kernel
theorem d_M_batch_31 : decode b_M_batch 31 = .ok (.ladd, 1) := by decide +kernel
theorem d_M_batch_32 : decode b_M_batch 32 = .ok (.lastore, 1) := by decide +kernel
theorem d_M_batch_33 : decode b_M_batch 33 = .ok (.iinc 3 1, 3) := by decide +kernel
theorem d_M_batch_36 : decode b_M_batch 36 = .ok (.goto (-22), 3) := by decide +kernel
theorem d_M_batch_39 : decode b_M_batch 39 = .ok (.iconst 0, 1) := by decide +kernel
theorem d_M_batch_40 : decode b_M_batch 40 = .ok (.istore_n 3, 1) := by decide +kernel
theorem d_M_batch_41 : decode b_M_batch 41 = .ok (.iload_n 3, 1) := by decide +kernel
theorem d_M_batch_42 : decode b_M_batch 42 = .ok (.aload_n 0, 1) := by decide +kernel
theorem d_M_batch_43 : decode b_M_batch 43 = .ok (.getfield 56, 3) := by decide +kernel
theorem d_M_batch_46 : decode b_M_batch 46 = .ok (.if_icmp .ge 50, 3) := by decide +kernel
theorem d_M_batch_49 : decode b_M_batch 49 = .ok (.iconst 0, 1) := by decide +kernel
theorem d_M_batch_50 : decode b_M_batch 50 = .ok (.istore 4, 2) := by decide +kernel
theorem d_M_batch_52 : decode b_M_batch 52 = .ok (.iload 4, 2) := by decide +kernel
theorem d_M_batch_54 : decode b_M_batch 54 = .ok (.iconst 3, 1) := by decide +kernel
theorem d_M_batch_55 : decode b_M_batch 55 = .ok (.if_icmp .ge 21, 3) := by decide +kernel
theorem d_M_batch_58 : decode b_M_batch 58 = .ok (.aload_n 0, 1) := by decide +kernel
theorem d_M_batch_59 : decode b_M_batch 59 = .ok (.getfield 7, 3) := by decide +kernel
theorem d_M_batch_62 : decode b_M_batch 62 = .ok (.iconst 3, 1) := by decide +kernel
theorem d_M_batch_63 : decode b_M_batch 63 = .ok (.iload_n 3, 1) := by decide +kernel
theorem d_M_batch_64 : decode b_M_batch 64 = .ok (.imul, 1) := by decide +kernel
theorem d_M_batch_65 : decode b_M_batch 65 = .ok (.iload 4, 2) := by decide +kernel
theorem d_M_batch_67 : decode b_M_batch 67 = .ok (.iadd, 1) := by decide +kernel
theorem d_M_batch_68 : decode b_M_batch 68 = .ok (.lconst 0, 1) := by decide +kernel
theorem d_M_batch_69 : decode b_M_batch 69 = .ok (.lastore, 1) := by decide +kernel
theorem d_M_batch_70 : decode b_M_batch 70 = .ok (.iinc 4 1, 3) := by decide +kernel
theorem d_M_batch_73 : decode b_M_batch 73 = .ok (.goto (-21), 3) := by decide +kernel
theorem d_M_batch_76 : decode b_M_batch 76 = .ok (.aload_n 0, 1) := by decide +kernel
theorem d_M_batch_77 : decode b_M_batch 77 = .ok (.getfield 13, 3) := by decide +kernel
theorem d_M_batch_80 : decode b_M_batch 80 = .ok (.iload_n 3, 1) := by decide +kernel
theorem d_M_batch_81 : decode b_M_batch 81 = .ok (.lconst 0, 1) := by decide +kernel
theorem d_M_batch_82 : decode b_M_batch 82 = .ok (.lastore, 1) := by decide +kernel
theorem d_M_batch_83 : decode b_M_batch 83 = .ok (.aload_n 0, 1) := by decide +kernel
theorem d_M_batch_84 : decode b_M_batch 84 = .ok (.getfield 16, 3) := by decide +kernel
theorem d_M_batch_87 : decode b_M_batch 87 = .ok (.iload_n 3, 1) := by decide +kernel
theorem d_M_batch_88 : decode b_M_batch 88 = .ok (.lconst 0, 1) := by decide +kernel
theorem d_M_batch_89 : decode b_M_batch 89 = .ok (.lastore, 1) := by decide +kernel
theorem d_M_batch_90 : decode b_M_batch 90 = .ok (.iinc 3 1, 3) := by decide +kernel
theorem d_M_batch_93 : decode b_M_batch 93 = .ok (.goto (-52), 3) := by decide +kernel
theorem d_M_batch_96 : decode b_M_batch 96 = .ok (.lload_n 1, 1) := by decide +kernel
theorem d_M_batch_97 : decode b_M_batch 97 = .ok (.lreturn, 1) := by decide +kernel
