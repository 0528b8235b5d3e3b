theorem dX2_init_0 : decode cX2_init 0 = .ok (.aload_n 0, 1) := by decide +kernel
theorem dX2_init_1 : decode cX2_init 1 = .ok (.invokespecial 1, 3) := by decide +kernel
theorem dX2_init_4 : decode cX2_init 4 = .ok (.aload_n 0, 1) := by decide +kernel
theorem dX2_init_5 : decode cX2_init 5 = .ok (.bipush 6, 2) := by decide +kernel
theorem dX2_init_7 : decode cX2_init 7 = .ok (.newarray .long, 2) := by decide +kernel
theorem dX2_init_9 : decode cX2_init 9 = .ok (.putfield 7, 3) := by decide +kernel
theorem dX2_init_12 : decode cX2_init 12 = .ok (.aload_n 0, 1) := by decide +kernel
theorem dX2_init_13 : decode cX2_init 13 = .ok (.bipush 6, 2) := by decide +kernel
theorem dX2_init_15 : decode cX2_init 15 = .ok (.newarray .int, 2) := by decide +kernel
theorem dX2_init_17 : decode cX2_init 17 = .ok (.putfield 13, 3) := by decide +kernel
theorem dX2_init_20 : decode cX2_init 20 = .ok (.aload_n 0, 1) := by decide +kernel
theorem dX2_init_21 : decode cX2_init 21 = .ok (.bipush 6, 2) := by decide +kernel
theorem dX2_init_23 : decode cX2_init 23 = .ok (.newarray .int, 2) := by decide +kernel
theorem dX2_init_25 : decode cX2_init 25 = .ok (.putfield 17, 3) := by decide +kernel
theorem dX2_init_28 : decode cX2_init 28 = .ok (.aload_n 0, 1) := by decide +kernel
theorem dX2_init_29 : decode cX2_init 29 = .ok (.iconst 4, 1) := by decide +kernel
theorem dX2_init_30 : decode cX2_init 30 = .ok (.newarray .int, 2) := by decide +kernel
theorem dX2_init_32 : decode cX2_init 32 = .ok (.putfield 20, 3) := by decide +kernel
theorem dX2_init_35 : decode cX2_init 35 = .ok (.aload_n 0, 1) := by decide +kernel
theorem dX2_init_36 : decode cX2_init 36 = .ok (.iconst 4, 1) := by decide +kernel
theorem dX2_init_37 : decode cX2_init 37 = .ok (.newarray .int, 2) := by decide +kernel
theorem dX2_init_39 : decode cX2_init 39 = .ok (.putfield 23, 3) := by decide +kernel
theorem dX2_init_42 : decode cX2_init 42 = .ok (.aload_n 0, 1) := by decide +kernel
theorem dX2_init_43 : decode cX2_init 43 = .ok (.sipush 400, 3) := by decide +kernel
theorem dX2_init_46 : decode cX2_init 46 = .ok (.newarray .int, 2) := by decide +kernel
theorem dX2_init_48 : decode cX2_init 48 = .ok (.putfield 26, 3) := by decide +kernel
theorem dX2_init_51 : decode cX2_init 51 = .ok (.aload_n 0, 1) := by decide +kernel
theorem dX2_init_52 : decode cX2_init 52 = .ok (.bipush 9, 2) := by decide +kernel
theorem dX2_init_54 : decode cX2_init 54 = .ok (.newarray .long, 2) := by decide +kernel
theorem dX2_init_56 : decode cX2_init 56 = .ok (.putfield 29, 3) := by decide +kernel
theorem dX2_init_59 : decode cX2_init 59 = .ok (.aload_n 0, 1) := by decide +kernel
theorem dX2_init_60 : decode cX2_init 60 = .ok (.sipush 400, 3) := by decide +kernel
theorem dX2_init_63 : decode cX2_init 63 = .ok (.newarray .long, 2) := by decide +kernel
theorem dX2_init_65 : decode cX2_init 65 = .ok (.putfield 32, 3) := by decide +kernel
theorem dX2_init_68 : decode cX2_init 68 = .ok (.aload_n 0, 1) := by decide +kernel
theorem dX2_init_69 : decode cX2_init 69 = .ok (.ldc2_w 35, 3) := by decide +kernel
theorem dX2_init_72 : decode cX2_init 72 = .ok (.putfield 37, 3) := by decide +kernel
theorem dX2_init_75 : decode cX2_init 75 = .ok (.aload_n 0, 1) := by decide +kernel
theorem dX2_init_76 : decode cX2_init 76 = .ok (.ldc2_w 35, 3) := by decide +kernel
theorem dX2_init_79 : decode cX2_init 79 = .ok (.putfield 41, 3) := by decide +kernel
theorem dX2_init_82 : decode cX2_init 82 = .ok (.aload_n 0, 1) := by decide +kernel
theorem dX2_init_83 : decode cX2_init 83 = .ok (.iconst 4, 1) := by decide +kernel
theorem dX2_init_84 : decode cX2_init 84 = .ok (.newarray .int, 2) := by decide +kernel
theorem dX2_init_86 : decode cX2_init 86 = .ok (.putfield 44, 3) := by decide +kernel
theorem dX2_init_89 : decode cX2_init 89 = .ok (.aload_n 0, 1) := by decide +kernel
theorem dX2_init_90 : decode cX2_init 90 = .ok (.bipush 32, 2) := by decide +kernel
theorem dX2_init_92 : decode cX2_init 92 = .ok (.newarray .int, 2) := by decide +kernel
theorem dX2_init_94 : decode cX2_init 94 = .ok (.putfield 47, 3) := by decide +kernel
theorem dX2_init_97 : decode cX2_init 97 = .ok (.aload_n 0, 1) := by decide +kernel
theorem dX2_init_98 : decode cX2_init 98 = .ok (.bipush 32, 2) := by decide +kernel
theorem dX2_init_100 : decode cX2_init 100 = .ok (.newarray .int, 2) := by decide +kernel
theorem dX2_init_102 : decode cX2_init 102 = .ok (.putfield 50, 3) := by decide +kernel
theorem dX2_init_105 : decode cX2_init 105 = .ok (.aload_n 0, 1) := by decide +kernel
theorem dX2_init_106 : decode cX2_init 106 = .ok (.bipush 30, 2) := by decide +kernel
theorem dX2_init_108 : decode cX2_init 108 = .ok (.newarray .long, 2) := by decide +kernel
theorem dX2_init_110 : decode cX2_init 110 = .ok (.putfield 53, 3) := by decide +kernel
theorem dX2_init_113 : decode cX2_init 113 = .ok (.aload_n 0, 1) := by decide +kernel
theorem dX2_init_114 : decode cX2_init 114 = .ok (.bipush 30, 2) := by decide +kernel
theorem dX2_init_116 : decode cX2_init 116 = .ok (.newarray .long, 2) := by decide +kernel
theorem dX2_init_118 : decode cX2_init 118 = .ok (.putfield 56, 3) := by decide +kernel
theorem dX2_init_121 : decode cX2_init 121 = .ok (.aload_n 0, 1) := by decide +kernel
theorem dX2_init_122 : decode cX2_init 122 = .ok (.iload_n 1, 1) := by decide +kernel
theorem dX2_init_123 : decode cX2_init 123 = .ok (.iconst 1, 1) := by decide +kernel
theorem dX2_init_124 : decode cX2_init 124 = .ok (.if_icmp .lt 13, 3) := by decide +kernel
theorem dX2_init_127 : decode cX2_init 127 = .ok (.iload_n 1, 1) := by decide +kernel
theorem dX2_init_128 : decode cX2_init 128 = .ok (.bipush 6, 2) := by decide +kernel
theorem dX2_init_130 : decode cX2_init 130 = .ok (.if_icmp .gt 7, 3) := by decide +kernel
theorem dX2_init_133 : decode cX2_init 133 = .ok (.iload_n 1, 1) := by decide +kernel
theorem dX2_init_134 : decode cX2_init 134 = .ok (.goto 4, 3) := by decide +kernel
theorem dX2_init_137 : decode cX2_init 137 = .ok (.iconst 1, 1) := by decide +kernel
theorem dX2_init_138 : decode cX2_init 138 = .ok (.putfield 59, 3) := by decide +kernel
theorem dX2_init_141 : decode cX2_init 141 = .ok (.iconst 0, 1) := by decide +kernel
theorem dX2_init_142 : decode cX2_init 142 = .ok (.istore_n 2, 1) := by decide +kernel
theorem dX2_init_143 : decode cX2_init 143 = .ok (.iload_n 2, 1) := by decide +kernel
theorem dX2_init_144 : decode cX2_init 144 = .ok (.bipush 6, 2) := by decide +kernel
theorem dX2_init_146 : decode cX2_init 146 = .ok (.if_icmp .ge 18, 3) := by decide +kernel
theorem dX2_init_149 : decode cX2_init 149 = .ok (.aload_n 0, 1) := by decide +kernel
theorem dX2_init_150 : decode cX2_init 150 = .ok (.getfield 17, 3) := by decide +kernel
theorem dX2_init_153 : decode cX2_init 153 = .ok (.iload_n 2, 1) := by decide +kernel
theorem dX2_init_154 : decode cX2_init 154 = .ok (.sipush 1000, 3) := by decide +kernel
theorem dX2_init_157 : decode cX2_init 157 = .ok (.iastore, 1) := by decide +kernel
theorem dX2_init_158 : decode cX2_init 158 = .ok (.iinc 2 1, 3) := by decide +kernel
theorem dX2_init_161 : decode cX2_init 161 = .ok (.goto (-18), 3) := by decide +kernel
theorem dX2_init_164 : decode cX2_init 164 = .ok (.return_, 1) := by decide +kernel
theorem dX2_layer_0 : decode cX2_layer 0 = .ok (.iload_n 1, 1) := by decide +kernel
theorem dX2_layer_1 : decode cX2_layer 1 = .ok (.i2l, 1) := by decide +kernel
theorem dX2_layer_2 : decode cX2_layer 2 = .ok (.lconst 0, 1) := by decide +kernel
theorem dX2_layer_3 : decode cX2_layer 3 = .ok (.aload_n 0, 1) := by decide +kernel
theorem dX2_layer_4 : decode cX2_layer 4 = .ok (.getfield 59, 3) := by decide +kernel
theorem dX2_layer_7 : decode cX2_layer 7 = .ok (.iconst 1, 1) := by decide +kernel
theorem dX2_layer_8 : decode cX2_layer 8 = .ok (.isub, 1) := by decide +kernel
theorem dX2_layer_9 : decode cX2_layer 9 = .ok (.i2l, 1) := by decide +kernel
theorem dX2_layer_10 : decode cX2_layer 10 = .ok (.invokestatic 63, 3) := by decide +kernel
theorem dX2_layer_13 : decode cX2_layer 13 = .ok (.ifCond .eq 22, 3) := by decide +kernel
theorem dX2_layer_16 : decode cX2_layer 16 = .ok (.iload_n 2, 1) := by decide +kernel
theorem dX2_layer_17 : decode cX2_layer 17 = .ok (.i2l, 1) := by decide +kernel
theorem dX2_layer_18 : decode cX2_layer 18 = .ok (.lconst 0, 1) := by decide +kernel
theorem dX2_layer_19 : decode cX2_layer 19 = .ok (.ldc2_w 67, 3) := by decide +kernel
theorem dX2_layer_22 : decode cX2_layer 22 = .ok (.invokestatic 63, 3) := by decide +kernel
theorem dX2_layer_25 : decode cX2_layer 25 = .ok (.ifCond .eq 10, 3) := by decide +kernel
theorem dX2_layer_28 : decode cX2_layer 28 = .ok (.iload_n 3, 1) := by decide +kernel
theorem dX2_layer_29 : decode cX2_layer 29 = .ok (.invokestatic 69, 3) := by decide +kernel
theorem dX2_layer_32 : decode cX2_layer 32 = .ok (.ifCond .ne 5, 3) := by decide +kernel
theorem dX2_layer_35 : decode cX2_layer 35 = .ok (.iconst 0, 1) := by decide +kernel
theorem dX2_layer_36 : decode cX2_layer 36 = .ok (.ireturn, 1) := by decide +kernel
theorem dX2_layer_37 : decode cX2_layer 37 = .ok (.aload_n 0, 1) := by decide +kernel
theorem dX2_layer_38 : decode cX2_layer 38 = .ok (.getfield 13, 3) := by decide +kernel
theorem dX2_layer_41 : decode cX2_layer 41 = .ok (.iload_n 1, 1) := by decide +kernel
theorem dX2_layer_42 : decode cX2_layer 42 = .ok (.iload_n 2, 1) := by decide +kernel
theorem dX2_layer_43 : decode cX2_layer 43 = .ok (.iastore, 1) := by decide +kernel
theorem dX2_layer_44 : decode cX2_layer 44 = .ok (.aload_n 0, 1) := by decide +kernel
theorem dX2_layer_45 : decode cX2_layer 45 = .ok (.getfield 17, 3) := by decide +kernel
theorem dX2_layer_48 : decode cX2_layer 48 = .ok (.iload_n 1, 1) := by decide +kernel
theorem dX2_layer_49 : decode cX2_layer 49 = .ok (.iload_n 3, 1) := by decide +kernel
theorem dX2_layer_50 : decode cX2_layer 50 = .ok (.iastore, 1) := by decide +kernel
theorem dX2_layer_51 : decode cX2_layer 51 = .ok (.iconst 1, 1) := by decide +kernel
theorem dX2_layer_52 : decode cX2_layer 52 = .ok (.ireturn, 1) := by decide +kernel
theorem dX2_isIn_0 : decode cX2_isIn 0 = .ok (.lload_n 0, 1) := by decide +kernel
theorem dX2_isIn_1 : decode cX2_isIn 1 = .ok (.lload_n 2, 1) := by decide +kernel
theorem dX2_isIn_2 : decode cX2_isIn 2 = .ok (.lcmp, 1) := by decide +kernel
theorem dX2_isIn_3 : decode cX2_isIn 3 = .ok (.ifCond .lt 14, 3) := by decide +kernel
theorem dX2_isIn_6 : decode cX2_isIn 6 = .ok (.lload_n 0, 1) := by decide +kernel
theorem dX2_isIn_7 : decode cX2_isIn 7 = .ok (.lload 4, 2) := by decide +kernel
theorem dX2_isIn_9 : decode cX2_isIn 9 = .ok (.lcmp, 1) := by decide +kernel
theorem dX2_isIn_10 : decode cX2_isIn 10 = .ok (.ifCond .gt 7, 3) := by decide +kernel
theorem dX2_isIn_13 : decode cX2_isIn 13 = .ok (.iconst 1, 1) := by decide +kernel
theorem dX2_isIn_14 : decode cX2_isIn 14 = .ok (.goto 4, 3) := by decide +kernel
theorem dX2_isIn_17 : decode cX2_isIn 17 = .ok (.iconst 0, 1) := by decide +kernel
theorem dX2_isIn_18 : decode cX2_isIn 18 = .ok (.ireturn, 1) := by decide +kernel
theorem dX2_isParts_0 : decode cX2_isParts 0 = .ok (.iload_n 0, 1) := by decide +kernel
theorem dX2_isParts_1 : decode cX2_isParts 1 = .ok (.ifCond .lt 14, 3) := by decide +kernel
theorem dX2_isParts_4 : decode cX2_isParts 4 = .ok (.iload_n 0, 1) := by decide +kernel
theorem dX2_isParts_5 : decode cX2_isParts 5 = .ok (.sipush 1000, 3) := by decide +kernel
theorem dX2_isParts_8 : decode cX2_isParts 8 = .ok (.if_icmp .gt 7, 3) := by decide +kernel
theorem dX2_isParts_11 : decode cX2_isParts 11 = .ok (.iconst 1, 1) := by decide +kernel
theorem dX2_isParts_12 : decode cX2_isParts 12 = .ok (.goto 4, 3) := by decide +kernel
theorem dX2_isParts_15 : decode cX2_isParts 15 = .ok (.iconst 0, 1) := by decide +kernel
theorem dX2_isParts_16 : decode cX2_isParts 16 = .ok (.ireturn, 1) := by decide +kernel
theorem dX2_cover_0 : decode cX2_cover 0 = .ok (.aload_n 0, 1) := by decide +kernel
theorem dX2_cover_1 : decode cX2_cover 1 = .ok (.iload_n 1, 1) := by decide +kernel
theorem dX2_cover_2 : decode cX2_cover 2 = .ok (.invokestatic 69, 3) := by decide +kernel
theorem dX2_cover_5 : decode cX2_cover 5 = .ok (.ifCond .eq 7, 3) := by decide +kernel
theorem dX2_cover_8 : decode cX2_cover 8 = .ok (.iload_n 1, 1) := by decide +kernel
theorem dX2_cover_9 : decode cX2_cover 9 = .ok (.goto 7, 3) := by decide +kernel
theorem dX2_cover_12 : decode cX2_cover 12 = .ok (.aload_n 0, 1) := by decide +kernel
theorem dX2_cover_13 : decode cX2_cover 13 = .ok (.getfield 73, 3) := by decide +kernel
theorem dX2_cover_16 : decode cX2_cover 16 = .ok (.putfield 73, 3) := by decide +kernel
theorem dX2_cover_19 : decode cX2_cover 19 = .ok (.iload_n 1, 1) := by decide +kernel
theorem dX2_cover_20 : decode cX2_cover 20 = .ok (.invokestatic 69, 3) := by decide +kernel
theorem dX2_cover_23 : decode cX2_cover 23 = .ok (.ireturn, 1) := by decide +kernel
theorem dX2_drain_0 : decode cX2_drain 0 = .ok (.aload_n 0, 1) := by decide +kernel
theorem dX2_drain_1 : decode cX2_drain 1 = .ok (.iload_n 1, 1) := by decide +kernel
theorem dX2_drain_2 : decode cX2_drain 2 = .ok (.invokestatic 69, 3) := by decide +kernel
theorem dX2_drain_5 : decode cX2_drain 5 = .ok (.ifCond .eq 7, 3) := by decide +kernel
theorem dX2_drain_8 : decode cX2_drain 8 = .ok (.iload_n 1, 1) := by decide +kernel
theorem dX2_drain_9 : decode cX2_drain 9 = .ok (.goto 7, 3) := by decide +kernel
theorem dX2_drain_12 : decode cX2_drain 12 = .ok (.aload_n 0, 1) := by decide +kernel
theorem dX2_drain_13 : decode cX2_drain 13 = .ok (.getfield 76, 3) := by decide +kernel
theorem dX2_drain_16 : decode cX2_drain 16 = .ok (.putfield 76, 3) := by decide +kernel
theorem dX2_drain_19 : decode cX2_drain 19 = .ok (.iload_n 1, 1) := by decide +kernel
theorem dX2_drain_20 : decode cX2_drain 20 = .ok (.invokestatic 69, 3) := by decide +kernel
theorem dX2_drain_23 : decode cX2_drain 23 = .ok (.ireturn, 1) := by decide +kernel
theorem dX2_back_0 : decode cX2_back 0 = .ok (.aload_n 0, 1) := by decide +kernel
theorem dX2_back_1 : decode cX2_back 1 = .ok (.iload_n 1, 1) := by decide +kernel
theorem dX2_back_2 : decode cX2_back 2 = .ok (.invokestatic 69, 3) := by decide +kernel
theorem dX2_back_5 : decode cX2_back 5 = .ok (.ifCond .eq 7, 3) := by decide +kernel
theorem dX2_back_8 : decode cX2_back 8 = .ok (.iload_n 1, 1) := by decide +kernel
theorem dX2_back_9 : decode cX2_back 9 = .ok (.goto 7, 3) := by decide +kernel
theorem dX2_back_12 : decode cX2_back 12 = .ok (.aload_n 0, 1) := by decide +kernel
theorem dX2_back_13 : decode cX2_back 13 = .ok (.getfield 79, 3) := by decide +kernel
theorem dX2_back_16 : decode cX2_back 16 = .ok (.putfield 79, 3) := by decide +kernel
theorem dX2_back_19 : decode cX2_back 19 = .ok (.iload_n 1, 1) := by decide +kernel
theorem dX2_back_20 : decode cX2_back 20 = .ok (.invokestatic 69, 3) := by decide +kernel
theorem dX2_back_23 : decode cX2_back 23 = .ok (.ireturn, 1) := by decide +kernel
theorem dX2_tank_0 : decode cX2_tank 0 = .ok (.aload_n 0, 1) := by decide +kernel
theorem dX2_tank_1 : decode cX2_tank 1 = .ok (.lload_n 1, 1) := by decide +kernel
theorem dX2_tank_2 : decode cX2_tank 2 = .ok (.lconst 0, 1) := by decide +kernel
theorem dX2_tank_3 : decode cX2_tank 3 = .ok (.ldc2_w 82, 3) := by decide +kernel
theorem dX2_tank_6 : decode cX2_tank 6 = .ok (.invokestatic 63, 3) := by decide +kernel
theorem dX2_tank_9 : decode cX2_tank 9 = .ok (.ifCond .eq 7, 3) := by decide +kernel
theorem dX2_tank_12 : decode cX2_tank 12 = .ok (.lload_n 1, 1) := by decide +kernel
theorem dX2_tank_13 : decode cX2_tank 13 = .ok (.goto 7, 3) := by decide +kernel
theorem dX2_tank_16 : decode cX2_tank 16 = .ok (.aload_n 0, 1) := by decide +kernel
theorem dX2_tank_17 : decode cX2_tank 17 = .ok (.getfield 84, 3) := by decide +kernel
theorem dX2_tank_20 : decode cX2_tank 20 = .ok (.putfield 84, 3) := by decide +kernel
theorem dX2_tank_23 : decode cX2_tank 23 = .ok (.lload_n 1, 1) := by decide +kernel
theorem dX2_tank_24 : decode cX2_tank 24 = .ok (.lconst 0, 1) := by decide +kernel
theorem dX2_tank_25 : decode cX2_tank 25 = .ok (.ldc2_w 82, 3) := by decide +kernel
theorem dX2_tank_28 : decode cX2_tank 28 = .ok (.invokestatic 63, 3) := by decide +kernel
theorem dX2_tank_31 : decode cX2_tank 31 = .ok (.ireturn, 1) := by decide +kernel
theorem dX2_stage_0 : decode cX2_stage 0 = .ok (.aload_n 0, 1) := by decide +kernel
theorem dX2_stage_1 : decode cX2_stage 1 = .ok (.getfield 87, 3) := by decide +kernel
theorem dX2_stage_4 : decode cX2_stage 4 = .ok (.iconst 4, 1) := by decide +kernel
theorem dX2_stage_5 : decode cX2_stage 5 = .ok (.if_icmp .eq 22, 3) := by decide +kernel
theorem dX2_stage_8 : decode cX2_stage 8 = .ok (.iload_n 1, 1) := by decide +kernel
theorem dX2_stage_9 : decode cX2_stage 9 = .ok (.i2l, 1) := by decide +kernel
theorem dX2_stage_10 : decode cX2_stage 10 = .ok (.lconst 0, 1) := by decide +kernel
theorem dX2_stage_11 : decode cX2_stage 11 = .ok (.ldc2_w 67, 3) := by decide +kernel
theorem dX2_stage_14 : decode cX2_stage 14 = .ok (.invokestatic 63, 3) := by decide +kernel
theorem dX2_stage_17 : decode cX2_stage 17 = .ok (.ifCond .eq 10, 3) := by decide +kernel
theorem dX2_stage_20 : decode cX2_stage 20 = .ok (.iload_n 2, 1) := by decide +kernel
theorem dX2_stage_21 : decode cX2_stage 21 = .ok (.invokestatic 69, 3) := by decide +kernel
theorem dX2_stage_24 : decode cX2_stage 24 = .ok (.ifCond .ne 5, 3) := by decide +kernel
theorem dX2_stage_27 : decode cX2_stage 27 = .ok (.iconst (-1), 1) := by decide +kernel
theorem dX2_stage_28 : decode cX2_stage 28 = .ok (.ireturn, 1) := by decide +kernel
theorem dX2_stage_29 : decode cX2_stage 29 = .ok (.aload_n 0, 1) := by decide +kernel
theorem dX2_stage_30 : decode cX2_stage 30 = .ok (.getfield 20, 3) := by decide +kernel
theorem dX2_stage_33 : decode cX2_stage 33 = .ok (.aload_n 0, 1) := by decide +kernel
theorem dX2_stage_34 : decode cX2_stage 34 = .ok (.getfield 87, 3) := by decide +kernel
theorem dX2_stage_37 : decode cX2_stage 37 = .ok (.iload_n 1, 1) := by decide +kernel
theorem dX2_stage_38 : decode cX2_stage 38 = .ok (.iastore, 1) := by decide +kernel
theorem dX2_stage_39 : decode cX2_stage 39 = .ok (.aload_n 0, 1) := by decide +kernel
theorem dX2_stage_40 : decode cX2_stage 40 = .ok (.getfield 23, 3) := by decide +kernel
theorem dX2_stage_43 : decode cX2_stage 43 = .ok (.aload_n 0, 1) := by decide +kernel
theorem dX2_stage_44 : decode cX2_stage 44 = .ok (.getfield 87, 3) := by decide +kernel
theorem dX2_stage_47 : decode cX2_stage 47 = .ok (.iload_n 2, 1) := by decide +kernel
theorem dX2_stage_48 : decode cX2_stage 48 = .ok (.iastore, 1) := by decide +kernel
theorem dX2_stage_49 : decode cX2_stage 49 = .ok (.aload_n 0, 1) := by decide +kernel
theorem dX2_stage_50 : decode cX2_stage 50 = .ok (.dup, 1) := by decide +kernel
theorem dX2_stage_51 : decode cX2_stage 51 = .ok (.getfield 87, 3) := by decide +kernel
theorem dX2_stage_54 : decode cX2_stage 54 = .ok (.iconst 1, 1) := by decide +kernel
theorem dX2_stage_55 : decode cX2_stage 55 = .ok (.iadd, 1) := by decide +kernel
theorem dX2_stage_56 : decode cX2_stage 56 = .ok (.putfield 87, 3) := by decide +kernel
theorem dX2_stage_59 : decode cX2_stage 59 = .ok (.aload_n 0, 1) := by decide +kernel
theorem dX2_stage_60 : decode cX2_stage 60 = .ok (.getfield 87, 3) := by decide +kernel
theorem dX2_stage_63 : decode cX2_stage 63 = .ok (.iconst 1, 1) := by decide +kernel
theorem dX2_stage_64 : decode cX2_stage 64 = .ok (.isub, 1) := by decide +kernel
theorem dX2_stage_65 : decode cX2_stage 65 = .ok (.ireturn, 1) := by decide +kernel
theorem dX2_rain_0 : decode cX2_rain 0 = .ok (.iload_n 1, 1) := by decide +kernel
theorem dX2_rain_1 : decode cX2_rain 1 = .ok (.i2l, 1) := by decide +kernel
theorem dX2_rain_2 : decode cX2_rain 2 = .ok (.aload_n 0, 1) := by decide +kernel
theorem dX2_rain_3 : decode cX2_rain 3 = .ok (.getfield 90, 3) := by decide +kernel
theorem dX2_rain_6 : decode cX2_rain 6 = .ok (.i2l, 1) := by decide +kernel
theorem dX2_rain_7 : decode cX2_rain 7 = .ok (.ldc2_w 93, 3) := by decide +kernel
theorem dX2_rain_10 : decode cX2_rain 10 = .ok (.invokestatic 63, 3) := by decide +kernel
theorem dX2_rain_13 : decode cX2_rain 13 = .ok (.ifCond .eq 15, 3) := by decide +kernel
theorem dX2_rain_16 : decode cX2_rain 16 = .ok (.iload_n 2, 1) := by decide +kernel
theorem dX2_rain_17 : decode cX2_rain 17 = .ok (.i2l, 1) := by decide +kernel
theorem dX2_rain_18 : decode cX2_rain 18 = .ok (.lconst 0, 1) := by decide +kernel
theorem dX2_rain_19 : decode cX2_rain 19 = .ok (.ldc2_w 67, 3) := by decide +kernel
theorem dX2_rain_22 : decode cX2_rain 22 = .ok (.invokestatic 63, 3) := by decide +kernel
theorem dX2_rain_25 : decode cX2_rain 25 = .ok (.ifCond .ne 5, 3) := by decide +kernel
theorem dX2_rain_28 : decode cX2_rain 28 = .ok (.iconst 0, 1) := by decide +kernel
theorem dX2_rain_29 : decode cX2_rain 29 = .ok (.ireturn, 1) := by decide +kernel
theorem dX2_rain_30 : decode cX2_rain 30 = .ok (.aload_n 0, 1) := by decide +kernel
theorem dX2_rain_31 : decode cX2_rain 31 = .ok (.getfield 26, 3) := by decide +kernel
theorem dX2_rain_34 : decode cX2_rain 34 = .ok (.iload_n 1, 1) := by decide +kernel
theorem dX2_rain_35 : decode cX2_rain 35 = .ok (.iload_n 2, 1) := by decide +kernel
theorem dX2_rain_36 : decode cX2_rain 36 = .ok (.iastore, 1) := by decide +kernel
theorem dX2_rain_37 : decode cX2_rain 37 = .ok (.iconst 1, 1) := by decide +kernel
theorem dX2_rain_38 : decode cX2_rain 38 = .ok (.ireturn, 1) := by decide +kernel
theorem dX2_storm_0 : decode cX2_storm 0 = .ok (.iload_n 3, 1) := by decide +kernel
theorem dX2_storm_1 : decode cX2_storm 1 = .ok (.i2l, 1) := by decide +kernel
theorem dX2_storm_2 : decode cX2_storm 2 = .ok (.lconst 1, 1) := by decide +kernel
theorem dX2_storm_3 : decode cX2_storm 3 = .ok (.ldc2_w 95, 3) := by decide +kernel
theorem dX2_storm_6 : decode cX2_storm 6 = .ok (.invokestatic 63, 3) := by decide +kernel
theorem dX2_storm_9 : decode cX2_storm 9 = .ok (.ifCond .eq 15, 3) := by decide +kernel
theorem dX2_storm_12 : decode cX2_storm 12 = .ok (.aload_n 0, 1) := by decide +kernel
theorem dX2_storm_13 : decode cX2_storm 13 = .ok (.getfield 90, 3) := by decide +kernel
theorem dX2_storm_16 : decode cX2_storm 16 = .ok (.iload_n 3, 1) := by decide +kernel
theorem dX2_storm_17 : decode cX2_storm 17 = .ok (.iadd, 1) := by decide +kernel
theorem dX2_storm_18 : decode cX2_storm 18 = .ok (.sipush 400, 3) := by decide +kernel
theorem dX2_storm_21 : decode cX2_storm 21 = .ok (.if_icmp .le 5, 3) := by decide +kernel
theorem dX2_storm_24 : decode cX2_storm 24 = .ok (.iconst 0, 1) := by decide +kernel
theorem dX2_storm_25 : decode cX2_storm 25 = .ok (.ireturn, 1) := by decide +kernel
theorem dX2_storm_26 : decode cX2_storm 26 = .ok (.lload_n 1, 1) := by decide +kernel
theorem dX2_storm_27 : decode cX2_storm 27 = .ok (.lstore 4, 2) := by decide +kernel
theorem dX2_storm_29 : decode cX2_storm 29 = .ok (.aload_n 0, 1) := by decide +kernel
theorem dX2_storm_30 : decode cX2_storm 30 = .ok (.getfield 90, 3) := by decide +kernel
theorem dX2_storm_33 : decode cX2_storm 33 = .ok (.istore 6, 2) := by decide +kernel
theorem dX2_storm_35 : decode cX2_storm 35 = .ok (.iload 6, 2) := by decide +kernel
theorem dX2_storm_37 : decode cX2_storm 37 = .ok (.aload_n 0, 1) := by decide +kernel
theorem dX2_storm_38 : decode cX2_storm 38 = .ok (.getfield 90, 3) := by decide +kernel
theorem dX2_storm_41 : decode cX2_storm 41 = .ok (.iload_n 3, 1) := by decide +kernel
theorem dX2_storm_42 : decode cX2_storm 42 = .ok (.iadd, 1) := by decide +kernel
theorem dX2_storm_43 : decode cX2_storm 43 = .ok (.if_icmp .ge 34, 3) := by decide +kernel
theorem dX2_storm_46 : decode cX2_storm 46 = .ok (.lload 4, 2) := by decide +kernel
theorem dX2_storm_48 : decode cX2_storm 48 = .ok (.ldc2_w 97, 3) := by decide +kernel
theorem dX2_storm_51 : decode cX2_storm 51 = .ok (.lmul, 1) := by decide +kernel
theorem dX2_storm_52 : decode cX2_storm 52 = .ok (.ldc2_w 99, 3) := by decide +kernel
theorem dX2_storm_55 : decode cX2_storm 55 = .ok (.ladd, 1) := by decide +kernel
theorem dX2_storm_56 : decode cX2_storm 56 = .ok (.lstore 4, 2) := by decide +kernel
theorem dX2_storm_58 : decode cX2_storm 58 = .ok (.aload_n 0, 1) := by decide +kernel
theorem dX2_storm_59 : decode cX2_storm 59 = .ok (.getfield 26, 3) := by decide +kernel
theorem dX2_storm_62 : decode cX2_storm 62 = .ok (.iload 6, 2) := by decide +kernel
theorem dX2_storm_64 : decode cX2_storm 64 = .ok (.lload 4, 2) := by decide +kernel
theorem dX2_storm_66 : decode cX2_storm 66 = .ok (.bipush 54, 2) := by decide +kernel
theorem dX2_storm_68 : decode cX2_storm 68 = .ok (.lushr, 1) := by decide +kernel
theorem dX2_storm_69 : decode cX2_storm 69 = .ok (.l2i, 1) := by decide +kernel
theorem dX2_storm_70 : decode cX2_storm 70 = .ok (.iastore, 1) := by decide +kernel
theorem dX2_storm_71 : decode cX2_storm 71 = .ok (.iinc 6 1, 3) := by decide +kernel
theorem dX2_storm_74 : decode cX2_storm 74 = .ok (.goto (-39), 3) := by decide +kernel
theorem dX2_storm_77 : decode cX2_storm 77 = .ok (.iconst 1, 1) := by decide +kernel
theorem dX2_storm_78 : decode cX2_storm 78 = .ok (.ireturn, 1) := by decide +kernel
theorem dX2_run_0 : decode cX2_run 0 = .ok (.iload_n 1, 1) := by decide +kernel
theorem dX2_run_1 : decode cX2_run 1 = .ok (.i2l, 1) := by decide +kernel
theorem dX2_run_2 : decode cX2_run 2 = .ok (.lconst 1, 1) := by decide +kernel
theorem dX2_run_3 : decode cX2_run 3 = .ok (.ldc2_w 95, 3) := by decide +kernel
theorem dX2_run_6 : decode cX2_run 6 = .ok (.invokestatic 63, 3) := by decide +kernel
theorem dX2_run_9 : decode cX2_run 9 = .ok (.ifCond .eq 15, 3) := by decide +kernel
theorem dX2_run_12 : decode cX2_run 12 = .ok (.aload_n 0, 1) := by decide +kernel
theorem dX2_run_13 : decode cX2_run 13 = .ok (.getfield 90, 3) := by decide +kernel
theorem dX2_run_16 : decode cX2_run 16 = .ok (.iload_n 1, 1) := by decide +kernel
theorem dX2_run_17 : decode cX2_run 17 = .ok (.iadd, 1) := by decide +kernel
theorem dX2_run_18 : decode cX2_run 18 = .ok (.sipush 400, 3) := by decide +kernel
theorem dX2_run_21 : decode cX2_run 21 = .ok (.if_icmp .le 5, 3) := by decide +kernel
theorem dX2_run_24 : decode cX2_run 24 = .ok (.iconst (-1), 1) := by decide +kernel
theorem dX2_run_25 : decode cX2_run 25 = .ok (.ireturn, 1) := by decide +kernel
theorem dX2_run_26 : decode cX2_run 26 = .ok (.iconst 0, 1) := by decide +kernel
theorem dX2_run_27 : decode cX2_run 27 = .ok (.istore_n 2, 1) := by decide +kernel
theorem dX2_run_28 : decode cX2_run 28 = .ok (.iload_n 2, 1) := by decide +kernel
theorem dX2_run_29 : decode cX2_run 29 = .ok (.iload_n 1, 1) := by decide +kernel
theorem dX2_run_30 : decode cX2_run 30 = .ok (.if_icmp .ge 13, 3) := by decide +kernel
theorem dX2_run_33 : decode cX2_run 33 = .ok (.aload_n 0, 1) := by decide +kernel
theorem dX2_run_34 : decode cX2_run 34 = .ok (.invokevirtual 110, 3) := by decide +kernel
theorem dX2_run_37 : decode cX2_run 37 = .ok (.iinc 2 1, 3) := by decide +kernel
theorem dX2_run_40 : decode cX2_run 40 = .ok (.goto (-12), 3) := by decide +kernel
theorem dX2_run_43 : decode cX2_run 43 = .ok (.aload_n 0, 1) := by decide +kernel
theorem dX2_run_44 : decode cX2_run 44 = .ok (.getfield 90, 3) := by decide +kernel
theorem dX2_run_47 : decode cX2_run 47 = .ok (.ireturn, 1) := by decide +kernel
theorem dX2_dayRuns_0 : decode cX2_dayRuns 0 = .ok (.aload_n 0, 1) := by decide +kernel
theorem dX2_dayRuns_1 : decode cX2_dayRuns 1 = .ok (.getfield 26, 3) := by decide +kernel
theorem dX2_dayRuns_4 : decode cX2_dayRuns 4 = .ok (.aload_n 0, 1) := by decide +kernel
theorem dX2_dayRuns_5 : decode cX2_dayRuns 5 = .ok (.getfield 90, 3) := by decide +kernel
theorem dX2_dayRuns_8 : decode cX2_dayRuns 8 = .ok (.iaload, 1) := by decide +kernel
theorem dX2_dayRuns_9 : decode cX2_dayRuns 9 = .ok (.i2l, 1) := by decide +kernel
theorem dX2_dayRuns_10 : decode cX2_dayRuns 10 = .ok (.lstore_n 1, 1) := by decide +kernel
theorem dX2_dayRuns_11 : decode cX2_dayRuns 11 = .ok (.lload_n 1, 1) := by decide +kernel
theorem dX2_dayRuns_12 : decode cX2_dayRuns 12 = .ok (.aload_n 0, 1) := by decide +kernel
theorem dX2_dayRuns_13 : decode cX2_dayRuns 13 = .ok (.getfield 73, 3) := by decide +kernel
theorem dX2_dayRuns_16 : decode cX2_dayRuns 16 = .ok (.invokestatic 103, 3) := by decide +kernel
theorem dX2_dayRuns_19 : decode cX2_dayRuns 19 = .ok (.lstore_n 3, 1) := by decide +kernel
theorem dX2_dayRuns_20 : decode cX2_dayRuns 20 = .ok (.aload_n 0, 1) := by decide +kernel
theorem dX2_dayRuns_21 : decode cX2_dayRuns 21 = .ok (.getfield 29, 3) := by decide +kernel
theorem dX2_dayRuns_24 : decode cX2_dayRuns 24 = .ok (.iconst 0, 1) := by decide +kernel
theorem dX2_dayRuns_25 : decode cX2_dayRuns 25 = .ok (.dup2, 1) := by decide +kernel
theorem dX2_dayRuns_26 : decode cX2_dayRuns 26 = .ok (.laload, 1) := by decide +kernel
theorem dX2_dayRuns_27 : decode cX2_dayRuns 27 = .ok (.lload_n 1, 1) := by decide +kernel
theorem dX2_dayRuns_28 : decode cX2_dayRuns 28 = .ok (.ladd, 1) := by decide +kernel
theorem dX2_dayRuns_29 : decode cX2_dayRuns 29 = .ok (.lastore, 1) := by decide +kernel
theorem dX2_dayRuns_30 : decode cX2_dayRuns 30 = .ok (.aload_n 0, 1) := by decide +kernel
theorem dX2_dayRuns_31 : decode cX2_dayRuns 31 = .ok (.getfield 29, 3) := by decide +kernel
theorem dX2_dayRuns_34 : decode cX2_dayRuns 34 = .ok (.iconst 1, 1) := by decide +kernel
theorem dX2_dayRuns_35 : decode cX2_dayRuns 35 = .ok (.dup2, 1) := by decide +kernel
theorem dX2_dayRuns_36 : decode cX2_dayRuns 36 = .ok (.laload, 1) := by decide +kernel
theorem dX2_dayRuns_37 : decode cX2_dayRuns 37 = .ok (.lload_n 3, 1) := by decide +kernel
theorem dX2_dayRuns_38 : decode cX2_dayRuns 38 = .ok (.ladd, 1) := by decide +kernel
theorem dX2_dayRuns_39 : decode cX2_dayRuns 39 = .ok (.lastore, 1) := by decide +kernel
theorem dX2_dayRuns_40 : decode cX2_dayRuns 40 = .ok (.aload_n 0, 1) := by decide +kernel
theorem dX2_dayRuns_41 : decode cX2_dayRuns 41 = .ok (.getfield 7, 3) := by decide +kernel
theorem dX2_dayRuns_44 : decode cX2_dayRuns 44 = .ok (.iconst 0, 1) := by decide +kernel
theorem dX2_dayRuns_45 : decode cX2_dayRuns 45 = .ok (.dup2, 1) := by decide +kernel
theorem dX2_dayRuns_46 : decode cX2_dayRuns 46 = .ok (.laload, 1) := by decide +kernel
theorem dX2_dayRuns_47 : decode cX2_dayRuns 47 = .ok (.lload_n 1, 1) := by decide +kernel
theorem dX2_dayRuns_48 : decode cX2_dayRuns 48 = .ok (.lload_n 3, 1) := by decide +kernel
theorem dX2_dayRuns_49 : decode cX2_dayRuns 49 = .ok (.lsub, 1) := by decide +kernel
theorem dX2_dayRuns_50 : decode cX2_dayRuns 50 = .ok (.aload_n 0, 1) := by decide +kernel
theorem dX2_dayRuns_51 : decode cX2_dayRuns 51 = .ok (.getfield 29, 3) := by decide +kernel
theorem dX2_dayRuns_54 : decode cX2_dayRuns 54 = .ok (.bipush 8, 2) := by decide +kernel
theorem dX2_dayRuns_56 : decode cX2_dayRuns 56 = .ok (.laload, 1) := by decide +kernel
theorem dX2_dayRuns_57 : decode cX2_dayRuns 57 = .ok (.ladd, 1) := by decide +kernel
theorem dX2_dayRuns_58 : decode cX2_dayRuns 58 = .ok (.ladd, 1) := by decide +kernel
theorem dX2_dayRuns_59 : decode cX2_dayRuns 59 = .ok (.lastore, 1) := by decide +kernel
theorem dX2_dayRuns_60 : decode cX2_dayRuns 60 = .ok (.aload_n 0, 1) := by decide +kernel
theorem dX2_dayRuns_61 : decode cX2_dayRuns 61 = .ok (.getfield 29, 3) := by decide +kernel
theorem dX2_dayRuns_64 : decode cX2_dayRuns 64 = .ok (.bipush 8, 2) := by decide +kernel
theorem dX2_dayRuns_66 : decode cX2_dayRuns 66 = .ok (.lconst 0, 1) := by decide +kernel
theorem dX2_dayRuns_67 : decode cX2_dayRuns 67 = .ok (.lastore, 1) := by decide +kernel
theorem dX2_dayRuns_68 : decode cX2_dayRuns 68 = .ok (.lconst 0, 1) := by decide +kernel
theorem dX2_dayRuns_69 : decode cX2_dayRuns 69 = .ok (.lstore 5, 2) := by decide +kernel
theorem dX2_dayRuns_71 : decode cX2_dayRuns 71 = .ok (.iconst 0, 1) := by decide +kernel
theorem dX2_dayRuns_72 : decode cX2_dayRuns 72 = .ok (.istore 7, 2) := by decide +kernel
theorem dX2_dayRuns_74 : decode cX2_dayRuns 74 = .ok (.iload 7, 2) := by decide +kernel
theorem dX2_dayRuns_76 : decode cX2_dayRuns 76 = .ok (.aload_n 0, 1) := by decide +kernel
theorem dX2_dayRuns_77 : decode cX2_dayRuns 77 = .ok (.getfield 59, 3) := by decide +kernel
theorem dX2_dayRuns_80 : decode cX2_dayRuns 80 = .ok (.if_icmp .ge 76, 3) := by decide +kernel
theorem dX2_dayRuns_83 : decode cX2_dayRuns 83 = .ok (.aload_n 0, 1) := by decide +kernel
theorem dX2_dayRuns_84 : decode cX2_dayRuns 84 = .ok (.getfield 7, 3) := by decide +kernel
theorem dX2_dayRuns_87 : decode cX2_dayRuns 87 = .ok (.iload 7, 2) := by decide +kernel
theorem dX2_dayRuns_89 : decode cX2_dayRuns 89 = .ok (.dup2, 1) := by decide +kernel
theorem dX2_dayRuns_90 : decode cX2_dayRuns 90 = .ok (.laload, 1) := by decide +kernel
theorem dX2_dayRuns_91 : decode cX2_dayRuns 91 = .ok (.lload 5, 2) := by decide +kernel
theorem dX2_dayRuns_93 : decode cX2_dayRuns 93 = .ok (.ladd, 1) := by decide +kernel
theorem dX2_dayRuns_94 : decode cX2_dayRuns 94 = .ok (.lastore, 1) := by decide +kernel
theorem dX2_dayRuns_95 : decode cX2_dayRuns 95 = .ok (.aload_n 0, 1) := by decide +kernel
theorem dX2_dayRuns_96 : decode cX2_dayRuns 96 = .ok (.getfield 7, 3) := by decide +kernel
theorem dX2_dayRuns_99 : decode cX2_dayRuns 99 = .ok (.iload 7, 2) := by decide +kernel
theorem dX2_dayRuns_101 : decode cX2_dayRuns 101 = .ok (.laload, 1) := by decide +kernel
theorem dX2_dayRuns_102 : decode cX2_dayRuns 102 = .ok (.aload_n 0, 1) := by decide +kernel
theorem dX2_dayRuns_103 : decode cX2_dayRuns 103 = .ok (.getfield 13, 3) := by decide +kernel
theorem dX2_dayRuns_106 : decode cX2_dayRuns 106 = .ok (.iload 7, 2) := by decide +kernel
theorem dX2_dayRuns_108 : decode cX2_dayRuns 108 = .ok (.iaload, 1) := by decide +kernel
theorem dX2_dayRuns_109 : decode cX2_dayRuns 109 = .ok (.i2l, 1) := by decide +kernel
theorem dX2_dayRuns_110 : decode cX2_dayRuns 110 = .ok (.lsub, 1) := by decide +kernel
theorem dX2_dayRuns_111 : decode cX2_dayRuns 111 = .ok (.lstore 8, 2) := by decide +kernel
theorem dX2_dayRuns_113 : decode cX2_dayRuns 113 = .ok (.lload 8, 2) := by decide +kernel
theorem dX2_dayRuns_115 : decode cX2_dayRuns 115 = .ok (.lconst 0, 1) := by decide +kernel
theorem dX2_dayRuns_116 : decode cX2_dayRuns 116 = .ok (.lcmp, 1) := by decide +kernel
theorem dX2_dayRuns_117 : decode cX2_dayRuns 117 = .ok (.ifCond .le 18, 3) := by decide +kernel
theorem dX2_dayRuns_120 : decode cX2_dayRuns 120 = .ok (.lload 8, 2) := by decide +kernel
theorem dX2_dayRuns_122 : decode cX2_dayRuns 122 = .ok (.aload_n 0, 1) := by decide +kernel
theorem dX2_dayRuns_123 : decode cX2_dayRuns 123 = .ok (.getfield 17, 3) := by decide +kernel
theorem dX2_dayRuns_126 : decode cX2_dayRuns 126 = .ok (.iload 7, 2) := by decide +kernel
theorem dX2_dayRuns_128 : decode cX2_dayRuns 128 = .ok (.iaload, 1) := by decide +kernel
theorem dX2_dayRuns_129 : decode cX2_dayRuns 129 = .ok (.invokestatic 103, 3) := by decide +kernel
theorem dX2_dayRuns_132 : decode cX2_dayRuns 132 = .ok (.goto 4, 3) := by decide +kernel
theorem dX2_dayRuns_135 : decode cX2_dayRuns 135 = .ok (.lconst 0, 1) := by decide +kernel
theorem dX2_dayRuns_136 : decode cX2_dayRuns 136 = .ok (.lstore 5, 2) := by decide +kernel
theorem dX2_dayRuns_138 : decode cX2_dayRuns 138 = .ok (.aload_n 0, 1) := by decide +kernel
theorem dX2_dayRuns_139 : decode cX2_dayRuns 139 = .ok (.getfield 7, 3) := by decide +kernel
theorem dX2_dayRuns_142 : decode cX2_dayRuns 142 = .ok (.iload 7, 2) := by decide +kernel
theorem dX2_dayRuns_144 : decode cX2_dayRuns 144 = .ok (.dup2, 1) := by decide +kernel
theorem dX2_dayRuns_145 : decode cX2_dayRuns 145 = .ok (.laload, 1) := by decide +kernel
theorem dX2_dayRuns_146 : decode cX2_dayRuns 146 = .ok (.lload 5, 2) := by decide +kernel
theorem dX2_dayRuns_148 : decode cX2_dayRuns 148 = .ok (.lsub, 1) := by decide +kernel
theorem dX2_dayRuns_149 : decode cX2_dayRuns 149 = .ok (.lastore, 1) := by decide +kernel
theorem dX2_dayRuns_150 : decode cX2_dayRuns 150 = .ok (.iinc 7 1, 3) := by decide +kernel
theorem dX2_dayRuns_153 : decode cX2_dayRuns 153 = .ok (.goto (-79), 3) := by decide +kernel
theorem dX2_dayRuns_156 : decode cX2_dayRuns 156 = .ok (.aload_n 0, 1) := by decide +kernel
theorem dX2_dayRuns_157 : decode cX2_dayRuns 157 = .ok (.getfield 29, 3) := by decide +kernel
theorem dX2_dayRuns_160 : decode cX2_dayRuns 160 = .ok (.iconst 2, 1) := by decide +kernel
theorem dX2_dayRuns_161 : decode cX2_dayRuns 161 = .ok (.dup2, 1) := by decide +kernel
theorem dX2_dayRuns_162 : decode cX2_dayRuns 162 = .ok (.laload, 1) := by decide +kernel
theorem dX2_dayRuns_163 : decode cX2_dayRuns 163 = .ok (.lload 5, 2) := by decide +kernel
theorem dX2_dayRuns_165 : decode cX2_dayRuns 165 = .ok (.ladd, 1) := by decide +kernel
theorem dX2_dayRuns_166 : decode cX2_dayRuns 166 = .ok (.lastore, 1) := by decide +kernel
theorem dX2_dayRuns_167 : decode cX2_dayRuns 167 = .ok (.lload 5, 2) := by decide +kernel
theorem dX2_dayRuns_169 : decode cX2_dayRuns 169 = .ok (.aload_n 0, 1) := by decide +kernel
theorem dX2_dayRuns_170 : decode cX2_dayRuns 170 = .ok (.getfield 76, 3) := by decide +kernel
theorem dX2_dayRuns_173 : decode cX2_dayRuns 173 = .ok (.invokestatic 103, 3) := by decide +kernel
theorem dX2_dayRuns_176 : decode cX2_dayRuns 176 = .ok (.lstore 7, 2) := by decide +kernel
theorem dX2_dayRuns_178 : decode cX2_dayRuns 178 = .ok (.aload_n 0, 1) := by decide +kernel
theorem dX2_dayRuns_179 : decode cX2_dayRuns 179 = .ok (.getfield 29, 3) := by decide +kernel
theorem dX2_dayRuns_182 : decode cX2_dayRuns 182 = .ok (.iconst 3, 1) := by decide +kernel
theorem dX2_dayRuns_183 : decode cX2_dayRuns 183 = .ok (.dup2, 1) := by decide +kernel
theorem dX2_dayRuns_184 : decode cX2_dayRuns 184 = .ok (.laload, 1) := by decide +kernel
theorem dX2_dayRuns_185 : decode cX2_dayRuns 185 = .ok (.lload 5, 2) := by decide +kernel
theorem dX2_dayRuns_187 : decode cX2_dayRuns 187 = .ok (.lload 7, 2) := by decide +kernel
theorem dX2_dayRuns_189 : decode cX2_dayRuns 189 = .ok (.lsub, 1) := by decide +kernel
theorem dX2_dayRuns_190 : decode cX2_dayRuns 190 = .ok (.ladd, 1) := by decide +kernel
theorem dX2_dayRuns_191 : decode cX2_dayRuns 191 = .ok (.lastore, 1) := by decide +kernel
theorem dX2_dayRuns_192 : decode cX2_dayRuns 192 = .ok (.aload_n 0, 1) := by decide +kernel
theorem dX2_dayRuns_193 : decode cX2_dayRuns 193 = .ok (.getfield 29, 3) := by decide +kernel
theorem dX2_dayRuns_196 : decode cX2_dayRuns 196 = .ok (.bipush 7, 2) := by decide +kernel
theorem dX2_dayRuns_198 : decode cX2_dayRuns 198 = .ok (.dup2, 1) := by decide +kernel
theorem dX2_dayRuns_199 : decode cX2_dayRuns 199 = .ok (.laload, 1) := by decide +kernel
theorem dX2_dayRuns_200 : decode cX2_dayRuns 200 = .ok (.lload 7, 2) := by decide +kernel
theorem dX2_dayRuns_202 : decode cX2_dayRuns 202 = .ok (.ladd, 1) := by decide +kernel
theorem dX2_dayRuns_203 : decode cX2_dayRuns 203 = .ok (.lastore, 1) := by decide +kernel
theorem dX2_dayRuns_204 : decode cX2_dayRuns 204 = .ok (.aload_n 0, 1) := by decide +kernel
theorem dX2_dayRuns_205 : decode cX2_dayRuns 205 = .ok (.getfield 29, 3) := by decide +kernel
theorem dX2_dayRuns_208 : decode cX2_dayRuns 208 = .ok (.bipush 7, 2) := by decide +kernel
theorem dX2_dayRuns_210 : decode cX2_dayRuns 210 = .ok (.laload, 1) := by decide +kernel
theorem dX2_dayRuns_211 : decode cX2_dayRuns 211 = .ok (.aload_n 0, 1) := by decide +kernel
theorem dX2_dayRuns_212 : decode cX2_dayRuns 212 = .ok (.getfield 84, 3) := by decide +kernel
theorem dX2_dayRuns_215 : decode cX2_dayRuns 215 = .ok (.lcmp, 1) := by decide +kernel
theorem dX2_dayRuns_216 : decode cX2_dayRuns 216 = .ok (.ifCond .le 18, 3) := by decide +kernel
theorem dX2_dayRuns_219 : decode cX2_dayRuns 219 = .ok (.aload_n 0, 1) := by decide +kernel
theorem dX2_dayRuns_220 : decode cX2_dayRuns 220 = .ok (.getfield 29, 3) := by decide +kernel
theorem dX2_dayRuns_223 : decode cX2_dayRuns 223 = .ok (.bipush 7, 2) := by decide +kernel
theorem dX2_dayRuns_225 : decode cX2_dayRuns 225 = .ok (.laload, 1) := by decide +kernel
theorem dX2_dayRuns_226 : decode cX2_dayRuns 226 = .ok (.aload_n 0, 1) := by decide +kernel
theorem dX2_dayRuns_227 : decode cX2_dayRuns 227 = .ok (.getfield 84, 3) := by decide +kernel
theorem dX2_dayRuns_230 : decode cX2_dayRuns 230 = .ok (.lsub, 1) := by decide +kernel
theorem dX2_dayRuns_231 : decode cX2_dayRuns 231 = .ok (.goto 4, 3) := by decide +kernel
theorem dX2_dayRuns_234 : decode cX2_dayRuns 234 = .ok (.lconst 0, 1) := by decide +kernel
theorem dX2_dayRuns_235 : decode cX2_dayRuns 235 = .ok (.lstore 9, 2) := by decide +kernel
theorem dX2_dayRuns_237 : decode cX2_dayRuns 237 = .ok (.aload_n 0, 1) := by decide +kernel
theorem dX2_dayRuns_238 : decode cX2_dayRuns 238 = .ok (.getfield 29, 3) := by decide +kernel
theorem dX2_dayRuns_241 : decode cX2_dayRuns 241 = .ok (.iconst 4, 1) := by decide +kernel
theorem dX2_dayRuns_242 : decode cX2_dayRuns 242 = .ok (.dup2, 1) := by decide +kernel
theorem dX2_dayRuns_243 : decode cX2_dayRuns 243 = .ok (.laload, 1) := by decide +kernel
theorem dX2_dayRuns_244 : decode cX2_dayRuns 244 = .ok (.lload 9, 2) := by decide +kernel
theorem dX2_dayRuns_246 : decode cX2_dayRuns 246 = .ok (.ladd, 1) := by decide +kernel
theorem dX2_dayRuns_247 : decode cX2_dayRuns 247 = .ok (.lastore, 1) := by decide +kernel
theorem dX2_dayRuns_248 : decode cX2_dayRuns 248 = .ok (.aload_n 0, 1) := by decide +kernel
theorem dX2_dayRuns_249 : decode cX2_dayRuns 249 = .ok (.getfield 29, 3) := by decide +kernel
theorem dX2_dayRuns_252 : decode cX2_dayRuns 252 = .ok (.bipush 7, 2) := by decide +kernel
theorem dX2_dayRuns_254 : decode cX2_dayRuns 254 = .ok (.dup2, 1) := by decide +kernel
theorem dX2_dayRuns_255 : decode cX2_dayRuns 255 = .ok (.laload, 1) := by decide +kernel
theorem dX2_dayRuns_256 : decode cX2_dayRuns 256 = .ok (.lload 9, 2) := by decide +kernel
theorem dX2_dayRuns_258 : decode cX2_dayRuns 258 = .ok (.lsub, 1) := by decide +kernel
theorem dX2_dayRuns_259 : decode cX2_dayRuns 259 = .ok (.lastore, 1) := by decide +kernel
theorem dX2_dayRuns_260 : decode cX2_dayRuns 260 = .ok (.aload_n 0, 1) := by decide +kernel
theorem dX2_dayRuns_261 : decode cX2_dayRuns 261 = .ok (.getfield 32, 3) := by decide +kernel
theorem dX2_dayRuns_264 : decode cX2_dayRuns 264 = .ok (.aload_n 0, 1) := by decide +kernel
theorem dX2_dayRuns_265 : decode cX2_dayRuns 265 = .ok (.getfield 90, 3) := by decide +kernel
theorem dX2_dayRuns_268 : decode cX2_dayRuns 268 = .ok (.lconst 0, 1) := by decide +kernel
theorem dX2_dayRuns_269 : decode cX2_dayRuns 269 = .ok (.lastore, 1) := by decide +kernel
theorem dX2_dayRuns_270 : decode cX2_dayRuns 270 = .ok (.aload_n 0, 1) := by decide +kernel
theorem dX2_dayRuns_271 : decode cX2_dayRuns 271 = .ok (.invokevirtual 107, 3) := by decide +kernel
theorem dX2_dayRuns_274 : decode cX2_dayRuns 274 = .ok (.aload_n 0, 1) := by decide +kernel
theorem dX2_dayRuns_275 : decode cX2_dayRuns 275 = .ok (.dup, 1) := by decide +kernel
theorem dX2_dayRuns_276 : decode cX2_dayRuns 276 = .ok (.getfield 90, 3) := by decide +kernel
theorem dX2_dayRuns_279 : decode cX2_dayRuns 279 = .ok (.iconst 1, 1) := by decide +kernel
theorem dX2_dayRuns_280 : decode cX2_dayRuns 280 = .ok (.iadd, 1) := by decide +kernel
theorem dX2_dayRuns_281 : decode cX2_dayRuns 281 = .ok (.putfield 90, 3) := by decide +kernel
theorem dX2_dayRuns_284 : decode cX2_dayRuns 284 = .ok (.return_, 1) := by decide +kernel
theorem dX2_partsOf_0 : decode cX2_partsOf 0 = .ok (.lload_n 0, 1) := by decide +kernel
theorem dX2_partsOf_1 : decode cX2_partsOf 1 = .ok (.iload_n 2, 1) := by decide +kernel
theorem dX2_partsOf_2 : decode cX2_partsOf 2 = .ok (.i2l, 1) := by decide +kernel
theorem dX2_partsOf_3 : decode cX2_partsOf 3 = .ok (.lmul, 1) := by decide +kernel
theorem dX2_partsOf_4 : decode cX2_partsOf 4 = .ok (.ldc2_w 101, 3) := by decide +kernel
theorem dX2_partsOf_7 : decode cX2_partsOf 7 = .ok (.ldiv, 1) := by decide +kernel
theorem dX2_partsOf_8 : decode cX2_partsOf 8 = .ok (.lreturn, 1) := by decide +kernel
theorem dX2_stagesRun_0 : decode cX2_stagesRun 0 = .ok (.aload_n 0, 1) := by decide +kernel
theorem dX2_stagesRun_1 : decode cX2_stagesRun 1 = .ok (.getfield 87, 3) := by decide +kernel
theorem dX2_stagesRun_4 : decode cX2_stagesRun 4 = .ok (.ifCond .ne 4, 3) := by decide +kernel
theorem dX2_stagesRun_7 : decode cX2_stagesRun 7 = .ok (.return_, 1) := by decide +kernel
theorem dX2_stagesRun_8 : decode cX2_stagesRun 8 = .ok (.aload_n 0, 1) := by decide +kernel
theorem dX2_stagesRun_9 : decode cX2_stagesRun 9 = .ok (.getfield 29, 3) := by decide +kernel
theorem dX2_stagesRun_12 : decode cX2_stagesRun 12 = .ok (.bipush 7, 2) := by decide +kernel
theorem dX2_stagesRun_14 : decode cX2_stagesRun 14 = .ok (.laload, 1) := by decide +kernel
theorem dX2_stagesRun_15 : decode cX2_stagesRun 15 = .ok (.lstore_n 1, 1) := by decide +kernel
theorem dX2_stagesRun_16 : decode cX2_stagesRun 16 = .ok (.lconst 0, 1) := by decide +kernel
theorem dX2_stagesRun_17 : decode cX2_stagesRun 17 = .ok (.lstore_n 3, 1) := by decide +kernel
theorem dX2_stagesRun_18 : decode cX2_stagesRun 18 = .ok (.iconst 0, 1) := by decide +kernel
theorem dX2_stagesRun_19 : decode cX2_stagesRun 19 = .ok (.istore 5, 2) := by decide +kernel
theorem dX2_stagesRun_21 : decode cX2_stagesRun 21 = .ok (.iload 5, 2) := by decide +kernel
theorem dX2_stagesRun_23 : decode cX2_stagesRun 23 = .ok (.aload_n 0, 1) := by decide +kernel
theorem dX2_stagesRun_24 : decode cX2_stagesRun 24 = .ok (.getfield 87, 3) := by decide +kernel
theorem dX2_stagesRun_27 : decode cX2_stagesRun 27 = .ok (.if_icmp .ge 74, 3) := by decide +kernel
theorem dX2_stagesRun_30 : decode cX2_stagesRun 30 = .ok (.lload_n 1, 1) := by decide +kernel
theorem dX2_stagesRun_31 : decode cX2_stagesRun 31 = .ok (.aload_n 0, 1) := by decide +kernel
theorem dX2_stagesRun_32 : decode cX2_stagesRun 32 = .ok (.getfield 20, 3) := by decide +kernel
theorem dX2_stagesRun_35 : decode cX2_stagesRun 35 = .ok (.iload 5, 2) := by decide +kernel
theorem dX2_stagesRun_37 : decode cX2_stagesRun 37 = .ok (.iaload, 1) := by decide +kernel
theorem dX2_stagesRun_38 : decode cX2_stagesRun 38 = .ok (.i2l, 1) := by decide +kernel
theorem dX2_stagesRun_39 : decode cX2_stagesRun 39 = .ok (.lcmp, 1) := by decide +kernel
theorem dX2_stagesRun_40 : decode cX2_stagesRun 40 = .ok (.ifCond .ge 7, 3) := by decide +kernel
theorem dX2_stagesRun_43 : decode cX2_stagesRun 43 = .ok (.lload_n 1, 1) := by decide +kernel
theorem dX2_stagesRun_44 : decode cX2_stagesRun 44 = .ok (.goto 11, 3) := by decide +kernel
theorem dX2_stagesRun_47 : decode cX2_stagesRun 47 = .ok (.aload_n 0, 1) := by decide +kernel
theorem dX2_stagesRun_48 : decode cX2_stagesRun 48 = .ok (.getfield 20, 3) := by decide +kernel
theorem dX2_stagesRun_51 : decode cX2_stagesRun 51 = .ok (.iload 5, 2) := by decide +kernel
theorem dX2_stagesRun_53 : decode cX2_stagesRun 53 = .ok (.iaload, 1) := by decide +kernel
theorem dX2_stagesRun_54 : decode cX2_stagesRun 54 = .ok (.i2l, 1) := by decide +kernel
theorem dX2_stagesRun_55 : decode cX2_stagesRun 55 = .ok (.lstore 6, 2) := by decide +kernel
theorem dX2_stagesRun_57 : decode cX2_stagesRun 57 = .ok (.lload_n 3, 1) := by decide +kernel
theorem dX2_stagesRun_58 : decode cX2_stagesRun 58 = .ok (.lload_n 1, 1) := by decide +kernel
theorem dX2_stagesRun_59 : decode cX2_stagesRun 59 = .ok (.lload 6, 2) := by decide +kernel
theorem dX2_stagesRun_61 : decode cX2_stagesRun 61 = .ok (.lsub, 1) := by decide +kernel
theorem dX2_stagesRun_62 : decode cX2_stagesRun 62 = .ok (.ladd, 1) := by decide +kernel
theorem dX2_stagesRun_63 : decode cX2_stagesRun 63 = .ok (.lstore_n 3, 1) := by decide +kernel
theorem dX2_stagesRun_64 : decode cX2_stagesRun 64 = .ok (.lload 6, 2) := by decide +kernel
theorem dX2_stagesRun_66 : decode cX2_stagesRun 66 = .ok (.aload_n 0, 1) := by decide +kernel
theorem dX2_stagesRun_67 : decode cX2_stagesRun 67 = .ok (.getfield 23, 3) := by decide +kernel
theorem dX2_stagesRun_70 : decode cX2_stagesRun 70 = .ok (.iload 5, 2) := by decide +kernel
theorem dX2_stagesRun_72 : decode cX2_stagesRun 72 = .ok (.iaload, 1) := by decide +kernel
theorem dX2_stagesRun_73 : decode cX2_stagesRun 73 = .ok (.invokestatic 103, 3) := by decide +kernel
theorem dX2_stagesRun_76 : decode cX2_stagesRun 76 = .ok (.lstore 8, 2) := by decide +kernel
theorem dX2_stagesRun_78 : decode cX2_stagesRun 78 = .ok (.aload_n 0, 1) := by decide +kernel
theorem dX2_stagesRun_79 : decode cX2_stagesRun 79 = .ok (.getfield 29, 3) := by decide +kernel
theorem dX2_stagesRun_82 : decode cX2_stagesRun 82 = .ok (.iconst 5, 1) := by decide +kernel
theorem dX2_stagesRun_83 : decode cX2_stagesRun 83 = .ok (.dup2, 1) := by decide +kernel
theorem dX2_stagesRun_84 : decode cX2_stagesRun 84 = .ok (.laload, 1) := by decide +kernel
theorem dX2_stagesRun_85 : decode cX2_stagesRun 85 = .ok (.lload 8, 2) := by decide +kernel
theorem dX2_stagesRun_87 : decode cX2_stagesRun 87 = .ok (.ladd, 1) := by decide +kernel
theorem dX2_stagesRun_88 : decode cX2_stagesRun 88 = .ok (.lastore, 1) := by decide +kernel
theorem dX2_stagesRun_89 : decode cX2_stagesRun 89 = .ok (.lload 6, 2) := by decide +kernel
theorem dX2_stagesRun_91 : decode cX2_stagesRun 91 = .ok (.lload 8, 2) := by decide +kernel
theorem dX2_stagesRun_93 : decode cX2_stagesRun 93 = .ok (.lsub, 1) := by decide +kernel
theorem dX2_stagesRun_94 : decode cX2_stagesRun 94 = .ok (.lstore_n 1, 1) := by decide +kernel
theorem dX2_stagesRun_95 : decode cX2_stagesRun 95 = .ok (.iinc 5 1, 3) := by decide +kernel
theorem dX2_stagesRun_98 : decode cX2_stagesRun 98 = .ok (.goto (-77), 3) := by decide +kernel
theorem dX2_stagesRun_101 : decode cX2_stagesRun 101 = .ok (.aload_n 0, 1) := by decide +kernel
theorem dX2_stagesRun_102 : decode cX2_stagesRun 102 = .ok (.getfield 29, 3) := by decide +kernel
theorem dX2_stagesRun_105 : decode cX2_stagesRun 105 = .ok (.bipush 7, 2) := by decide +kernel
theorem dX2_stagesRun_107 : decode cX2_stagesRun 107 = .ok (.lload_n 3, 1) := by decide +kernel
theorem dX2_stagesRun_108 : decode cX2_stagesRun 108 = .ok (.lastore, 1) := by decide +kernel
theorem dX2_stagesRun_109 : decode cX2_stagesRun 109 = .ok (.aload_n 0, 1) := by decide +kernel
theorem dX2_stagesRun_110 : decode cX2_stagesRun 110 = .ok (.getfield 29, 3) := by decide +kernel
theorem dX2_stagesRun_113 : decode cX2_stagesRun 113 = .ok (.bipush 8, 2) := by decide +kernel
theorem dX2_stagesRun_115 : decode cX2_stagesRun 115 = .ok (.lload_n 1, 1) := by decide +kernel
theorem dX2_stagesRun_116 : decode cX2_stagesRun 116 = .ok (.aload_n 0, 1) := by decide +kernel
theorem dX2_stagesRun_117 : decode cX2_stagesRun 117 = .ok (.getfield 79, 3) := by decide +kernel
theorem dX2_stagesRun_120 : decode cX2_stagesRun 120 = .ok (.invokestatic 103, 3) := by decide +kernel
theorem dX2_stagesRun_123 : decode cX2_stagesRun 123 = .ok (.lastore, 1) := by decide +kernel
theorem dX2_stagesRun_124 : decode cX2_stagesRun 124 = .ok (.aload_n 0, 1) := by decide +kernel
theorem dX2_stagesRun_125 : decode cX2_stagesRun 125 = .ok (.getfield 32, 3) := by decide +kernel
theorem dX2_stagesRun_128 : decode cX2_stagesRun 128 = .ok (.aload_n 0, 1) := by decide +kernel
theorem dX2_stagesRun_129 : decode cX2_stagesRun 129 = .ok (.getfield 90, 3) := by decide +kernel
theorem dX2_stagesRun_132 : decode cX2_stagesRun 132 = .ok (.lload_n 1, 1) := by decide +kernel
theorem dX2_stagesRun_133 : decode cX2_stagesRun 133 = .ok (.aload_n 0, 1) := by decide +kernel
theorem dX2_stagesRun_134 : decode cX2_stagesRun 134 = .ok (.getfield 29, 3) := by decide +kernel
theorem dX2_stagesRun_137 : decode cX2_stagesRun 137 = .ok (.bipush 8, 2) := by decide +kernel
theorem dX2_stagesRun_139 : decode cX2_stagesRun 139 = .ok (.laload, 1) := by decide +kernel
theorem dX2_stagesRun_140 : decode cX2_stagesRun 140 = .ok (.lsub, 1) := by decide +kernel
theorem dX2_stagesRun_141 : decode cX2_stagesRun 141 = .ok (.lastore, 1) := by decide +kernel
theorem dX2_stagesRun_142 : decode cX2_stagesRun 142 = .ok (.aload_n 0, 1) := by decide +kernel
theorem dX2_stagesRun_143 : decode cX2_stagesRun 143 = .ok (.getfield 29, 3) := by decide +kernel
theorem dX2_stagesRun_146 : decode cX2_stagesRun 146 = .ok (.bipush 6, 2) := by decide +kernel
theorem dX2_stagesRun_148 : decode cX2_stagesRun 148 = .ok (.dup2, 1) := by decide +kernel
theorem dX2_stagesRun_149 : decode cX2_stagesRun 149 = .ok (.laload, 1) := by decide +kernel
theorem dX2_stagesRun_150 : decode cX2_stagesRun 150 = .ok (.aload_n 0, 1) := by decide +kernel
theorem dX2_stagesRun_151 : decode cX2_stagesRun 151 = .ok (.getfield 32, 3) := by decide +kernel
theorem dX2_stagesRun_154 : decode cX2_stagesRun 154 = .ok (.aload_n 0, 1) := by decide +kernel
theorem dX2_stagesRun_155 : decode cX2_stagesRun 155 = .ok (.getfield 90, 3) := by decide +kernel
theorem dX2_stagesRun_158 : decode cX2_stagesRun 158 = .ok (.laload, 1) := by decide +kernel
theorem dX2_stagesRun_159 : decode cX2_stagesRun 159 = .ok (.ladd, 1) := by decide +kernel
theorem dX2_stagesRun_160 : decode cX2_stagesRun 160 = .ok (.lastore, 1) := by decide +kernel
theorem dX2_stagesRun_161 : decode cX2_stagesRun 161 = .ok (.return_, 1) := by decide +kernel
theorem dX2_held_0 : decode cX2_held 0 = .ok (.iload_n 1, 1) := by decide +kernel
theorem dX2_held_1 : decode cX2_held 1 = .ok (.i2l, 1) := by decide +kernel
theorem dX2_held_2 : decode cX2_held 2 = .ok (.lconst 0, 1) := by decide +kernel
theorem dX2_held_3 : decode cX2_held 3 = .ok (.aload_n 0, 1) := by decide +kernel
theorem dX2_held_4 : decode cX2_held 4 = .ok (.getfield 59, 3) := by decide +kernel
theorem dX2_held_7 : decode cX2_held 7 = .ok (.iconst 1, 1) := by decide +kernel
theorem dX2_held_8 : decode cX2_held 8 = .ok (.isub, 1) := by decide +kernel
theorem dX2_held_9 : decode cX2_held 9 = .ok (.i2l, 1) := by decide +kernel
theorem dX2_held_10 : decode cX2_held 10 = .ok (.invokestatic 63, 3) := by decide +kernel
theorem dX2_held_13 : decode cX2_held 13 = .ok (.ifCond .eq 12, 3) := by decide +kernel
theorem dX2_held_16 : decode cX2_held 16 = .ok (.aload_n 0, 1) := by decide +kernel
theorem dX2_held_17 : decode cX2_held 17 = .ok (.getfield 7, 3) := by decide +kernel
theorem dX2_held_20 : decode cX2_held 20 = .ok (.iload_n 1, 1) := by decide +kernel
theorem dX2_held_21 : decode cX2_held 21 = .ok (.laload, 1) := by decide +kernel
theorem dX2_held_22 : decode cX2_held 22 = .ok (.goto 6, 3) := by decide +kernel
theorem dX2_held_25 : decode cX2_held 25 = .ok (.ldc2_w 35, 3) := by decide +kernel
theorem dX2_held_28 : decode cX2_held 28 = .ok (.lreturn, 1) := by decide +kernel
theorem dX2_out_0 : decode cX2_out 0 = .ok (.iload_n 1, 1) := by decide +kernel
theorem dX2_out_1 : decode cX2_out 1 = .ok (.i2l, 1) := by decide +kernel
theorem dX2_out_2 : decode cX2_out 2 = .ok (.lconst 0, 1) := by decide +kernel
theorem dX2_out_3 : decode cX2_out 3 = .ok (.ldc2_w 113, 3) := by decide +kernel
theorem dX2_out_6 : decode cX2_out 6 = .ok (.invokestatic 63, 3) := by decide +kernel
theorem dX2_out_9 : decode cX2_out 9 = .ok (.ifCond .eq 12, 3) := by decide +kernel
theorem dX2_out_12 : decode cX2_out 12 = .ok (.aload_n 0, 1) := by decide +kernel
theorem dX2_out_13 : decode cX2_out 13 = .ok (.getfield 29, 3) := by decide +kernel
theorem dX2_out_16 : decode cX2_out 16 = .ok (.iload_n 1, 1) := by decide +kernel
theorem dX2_out_17 : decode cX2_out 17 = .ok (.laload, 1) := by decide +kernel
theorem dX2_out_18 : decode cX2_out 18 = .ok (.goto 6, 3) := by decide +kernel
theorem dX2_out_21 : decode cX2_out 21 = .ok (.ldc2_w 35, 3) := by decide +kernel
theorem dX2_out_24 : decode cX2_out 24 = .ok (.lreturn, 1) := by decide +kernel
theorem dX2_balance_0 : decode cX2_balance 0 = .ok (.aload_n 0, 1) := by decide +kernel
theorem dX2_balance_1 : decode cX2_balance 1 = .ok (.getfield 29, 3) := by decide +kernel
theorem dX2_balance_4 : decode cX2_balance 4 = .ok (.iconst 0, 1) := by decide +kernel
theorem dX2_balance_5 : decode cX2_balance 5 = .ok (.laload, 1) := by decide +kernel
theorem dX2_balance_6 : decode cX2_balance 6 = .ok (.aload_n 0, 1) := by decide +kernel
theorem dX2_balance_7 : decode cX2_balance 7 = .ok (.getfield 29, 3) := by decide +kernel
theorem dX2_balance_10 : decode cX2_balance 10 = .ok (.iconst 1, 1) := by decide +kernel
theorem dX2_balance_11 : decode cX2_balance 11 = .ok (.laload, 1) := by decide +kernel
theorem dX2_balance_12 : decode cX2_balance 12 = .ok (.lsub, 1) := by decide +kernel
theorem dX2_balance_13 : decode cX2_balance 13 = .ok (.aload_n 0, 1) := by decide +kernel
theorem dX2_balance_14 : decode cX2_balance 14 = .ok (.getfield 29, 3) := by decide +kernel
theorem dX2_balance_17 : decode cX2_balance 17 = .ok (.iconst 3, 1) := by decide +kernel
theorem dX2_balance_18 : decode cX2_balance 18 = .ok (.laload, 1) := by decide +kernel
theorem dX2_balance_19 : decode cX2_balance 19 = .ok (.lsub, 1) := by decide +kernel
theorem dX2_balance_20 : decode cX2_balance 20 = .ok (.aload_n 0, 1) := by decide +kernel
theorem dX2_balance_21 : decode cX2_balance 21 = .ok (.getfield 29, 3) := by decide +kernel
theorem dX2_balance_24 : decode cX2_balance 24 = .ok (.iconst 4, 1) := by decide +kernel
theorem dX2_balance_25 : decode cX2_balance 25 = .ok (.laload, 1) := by decide +kernel
theorem dX2_balance_26 : decode cX2_balance 26 = .ok (.lsub, 1) := by decide +kernel
theorem dX2_balance_27 : decode cX2_balance 27 = .ok (.aload_n 0, 1) := by decide +kernel
theorem dX2_balance_28 : decode cX2_balance 28 = .ok (.getfield 29, 3) := by decide +kernel
theorem dX2_balance_31 : decode cX2_balance 31 = .ok (.iconst 5, 1) := by decide +kernel
theorem dX2_balance_32 : decode cX2_balance 32 = .ok (.laload, 1) := by decide +kernel
theorem dX2_balance_33 : decode cX2_balance 33 = .ok (.lsub, 1) := by decide +kernel
theorem dX2_balance_34 : decode cX2_balance 34 = .ok (.aload_n 0, 1) := by decide +kernel
theorem dX2_balance_35 : decode cX2_balance 35 = .ok (.getfield 29, 3) := by decide +kernel
theorem dX2_balance_38 : decode cX2_balance 38 = .ok (.bipush 6, 2) := by decide +kernel
theorem dX2_balance_40 : decode cX2_balance 40 = .ok (.laload, 1) := by decide +kernel
theorem dX2_balance_41 : decode cX2_balance 41 = .ok (.lsub, 1) := by decide +kernel
theorem dX2_balance_42 : decode cX2_balance 42 = .ok (.aload_n 0, 1) := by decide +kernel
theorem dX2_balance_43 : decode cX2_balance 43 = .ok (.getfield 29, 3) := by decide +kernel
theorem dX2_balance_46 : decode cX2_balance 46 = .ok (.bipush 7, 2) := by decide +kernel
theorem dX2_balance_48 : decode cX2_balance 48 = .ok (.laload, 1) := by decide +kernel
theorem dX2_balance_49 : decode cX2_balance 49 = .ok (.lsub, 1) := by decide +kernel
theorem dX2_balance_50 : decode cX2_balance 50 = .ok (.aload_n 0, 1) := by decide +kernel
theorem dX2_balance_51 : decode cX2_balance 51 = .ok (.getfield 29, 3) := by decide +kernel
theorem dX2_balance_54 : decode cX2_balance 54 = .ok (.bipush 8, 2) := by decide +kernel
theorem dX2_balance_56 : decode cX2_balance 56 = .ok (.laload, 1) := by decide +kernel
theorem dX2_balance_57 : decode cX2_balance 57 = .ok (.lsub, 1) := by decide +kernel
theorem dX2_balance_58 : decode cX2_balance 58 = .ok (.lstore_n 1, 1) := by decide +kernel
theorem dX2_balance_59 : decode cX2_balance 59 = .ok (.iconst 0, 1) := by decide +kernel
theorem dX2_balance_60 : decode cX2_balance 60 = .ok (.istore_n 3, 1) := by decide +kernel
theorem dX2_balance_61 : decode cX2_balance 61 = .ok (.iload_n 3, 1) := by decide +kernel
theorem dX2_balance_62 : decode cX2_balance 62 = .ok (.aload_n 0, 1) := by decide +kernel
theorem dX2_balance_63 : decode cX2_balance 63 = .ok (.getfield 59, 3) := by decide +kernel
theorem dX2_balance_66 : decode cX2_balance 66 = .ok (.if_icmp .ge 18, 3) := by decide +kernel
theorem dX2_balance_69 : decode cX2_balance 69 = .ok (.lload_n 1, 1) := by decide +kernel
theorem dX2_balance_70 : decode cX2_balance 70 = .ok (.aload_n 0, 1) := by decide +kernel
theorem dX2_balance_71 : decode cX2_balance 71 = .ok (.getfield 7, 3) := by decide +kernel
theorem dX2_balance_74 : decode cX2_balance 74 = .ok (.iload_n 3, 1) := by decide +kernel
theorem dX2_balance_75 : decode cX2_balance 75 = .ok (.laload, 1) := by decide +kernel
theorem dX2_balance_76 : decode cX2_balance 76 = .ok (.lsub, 1) := by decide +kernel
theorem dX2_balance_77 : decode cX2_balance 77 = .ok (.lstore_n 1, 1) := by decide +kernel
theorem dX2_balance_78 : decode cX2_balance 78 = .ok (.iinc 3 1, 3) := by decide +kernel
theorem dX2_balance_81 : decode cX2_balance 81 = .ok (.goto (-20), 3) := by decide +kernel
theorem dX2_balance_84 : decode cX2_balance 84 = .ok (.lload_n 1, 1) := by decide +kernel
theorem dX2_balance_85 : decode cX2_balance 85 = .ok (.lreturn, 1) := by decide +kernel
theorem dX2_limit_0 : decode cX2_limit 0 = .ok (.lload_n 1, 1) := by decide +kernel
theorem dX2_limit_1 : decode cX2_limit 1 = .ok (.ldc2_w 35, 3) := by decide +kernel
theorem dX2_limit_4 : decode cX2_limit 4 = .ok (.ldc2_w 82, 3) := by decide +kernel
theorem dX2_limit_7 : decode cX2_limit 7 = .ok (.invokestatic 63, 3) := by decide +kernel
theorem dX2_limit_10 : decode cX2_limit 10 = .ok (.ifCond .eq 16, 3) := by decide +kernel
theorem dX2_limit_13 : decode cX2_limit 13 = .ok (.lload_n 3, 1) := by decide +kernel
theorem dX2_limit_14 : decode cX2_limit 14 = .ok (.ldc2_w 35, 3) := by decide +kernel
theorem dX2_limit_17 : decode cX2_limit 17 = .ok (.ldc2_w 82, 3) := by decide +kernel
theorem dX2_limit_20 : decode cX2_limit 20 = .ok (.invokestatic 63, 3) := by decide +kernel
theorem dX2_limit_23 : decode cX2_limit 23 = .ok (.ifCond .ne 5, 3) := by decide +kernel
theorem dX2_limit_26 : decode cX2_limit 26 = .ok (.iconst 0, 1) := by decide +kernel
theorem dX2_limit_27 : decode cX2_limit 27 = .ok (.ireturn, 1) := by decide +kernel
theorem dX2_limit_28 : decode cX2_limit 28 = .ok (.aload_n 0, 1) := by decide +kernel
theorem dX2_limit_29 : decode cX2_limit 29 = .ok (.lload_n 1, 1) := by decide +kernel
theorem dX2_limit_30 : decode cX2_limit 30 = .ok (.putfield 37, 3) := by decide +kernel
theorem dX2_limit_33 : decode cX2_limit 33 = .ok (.aload_n 0, 1) := by decide +kernel
theorem dX2_limit_34 : decode cX2_limit 34 = .ok (.lload_n 3, 1) := by decide +kernel
theorem dX2_limit_35 : decode cX2_limit 35 = .ok (.putfield 41, 3) := by decide +kernel
theorem dX2_limit_38 : decode cX2_limit 38 = .ok (.iconst 1, 1) := by decide +kernel
theorem dX2_limit_39 : decode cX2_limit 39 = .ok (.ireturn, 1) := by decide +kernel
theorem dX2_passed_0 : decode cX2_passed 0 = .ok (.iload_n 1, 1) := by decide +kernel
theorem dX2_passed_1 : decode cX2_passed 1 = .ok (.i2l, 1) := by decide +kernel
theorem dX2_passed_2 : decode cX2_passed 2 = .ok (.lconst 0, 1) := by decide +kernel
theorem dX2_passed_3 : decode cX2_passed 3 = .ok (.lconst 1, 1) := by decide +kernel
theorem dX2_passed_4 : decode cX2_passed 4 = .ok (.invokestatic 63, 3) := by decide +kernel
theorem dX2_passed_7 : decode cX2_passed 7 = .ok (.ifCond .ne 5, 3) := by decide +kernel
theorem dX2_passed_10 : decode cX2_passed 10 = .ok (.iconst (-1), 1) := by decide +kernel
theorem dX2_passed_11 : decode cX2_passed 11 = .ok (.ireturn, 1) := by decide +kernel
theorem dX2_passed_12 : decode cX2_passed 12 = .ok (.iload_n 1, 1) := by decide +kernel
theorem dX2_passed_13 : decode cX2_passed 13 = .ok (.ifCond .ne 10, 3) := by decide +kernel
theorem dX2_passed_16 : decode cX2_passed 16 = .ok (.aload_n 0, 1) := by decide +kernel
theorem dX2_passed_17 : decode cX2_passed 17 = .ok (.getfield 37, 3) := by decide +kernel
theorem dX2_passed_20 : decode cX2_passed 20 = .ok (.goto 7, 3) := by decide +kernel
theorem dX2_passed_23 : decode cX2_passed 23 = .ok (.aload_n 0, 1) := by decide +kernel
theorem dX2_passed_24 : decode cX2_passed 24 = .ok (.getfield 41, 3) := by decide +kernel
theorem dX2_passed_27 : decode cX2_passed 27 = .ok (.lstore_n 3, 1) := by decide +kernel
theorem dX2_passed_28 : decode cX2_passed 28 = .ok (.lconst 0, 1) := by decide +kernel
theorem dX2_passed_29 : decode cX2_passed 29 = .ok (.lstore 5, 2) := by decide +kernel
theorem dX2_passed_31 : decode cX2_passed 31 = .ok (.iconst 0, 1) := by decide +kernel
theorem dX2_passed_32 : decode cX2_passed 32 = .ok (.istore 7, 2) := by decide +kernel
theorem dX2_passed_34 : decode cX2_passed 34 = .ok (.iconst 0, 1) := by decide +kernel
theorem dX2_passed_35 : decode cX2_passed 35 = .ok (.istore 8, 2) := by decide +kernel
theorem dX2_passed_37 : decode cX2_passed 37 = .ok (.iload 8, 2) := by decide +kernel
theorem dX2_passed_39 : decode cX2_passed 39 = .ok (.aload_n 0, 1) := by decide +kernel
theorem dX2_passed_40 : decode cX2_passed 40 = .ok (.getfield 90, 3) := by decide +kernel
theorem dX2_passed_43 : decode cX2_passed 43 = .ok (.if_icmp .ge 100, 3) := by decide +kernel
theorem dX2_passed_46 : decode cX2_passed 46 = .ok (.lload_n 3, 1) := by decide +kernel
theorem dX2_passed_47 : decode cX2_passed 47 = .ok (.lconst 0, 1) := by decide +kernel
theorem dX2_passed_48 : decode cX2_passed 48 = .ok (.lcmp, 1) := by decide +kernel
theorem dX2_passed_49 : decode cX2_passed 49 = .ok (.ifCond .lt 94, 3) := by decide +kernel
theorem dX2_passed_52 : decode cX2_passed 52 = .ok (.lload 5, 2) := by decide +kernel
theorem dX2_passed_54 : decode cX2_passed 54 = .ok (.aload_n 0, 1) := by decide +kernel
theorem dX2_passed_55 : decode cX2_passed 55 = .ok (.getfield 32, 3) := by decide +kernel
theorem dX2_passed_58 : decode cX2_passed 58 = .ok (.iload 8, 2) := by decide +kernel
theorem dX2_passed_60 : decode cX2_passed 60 = .ok (.laload, 1) := by decide +kernel
theorem dX2_passed_61 : decode cX2_passed 61 = .ok (.ladd, 1) := by decide +kernel
theorem dX2_passed_62 : decode cX2_passed 62 = .ok (.lstore 5, 2) := by decide +kernel
theorem dX2_passed_64 : decode cX2_passed 64 = .ok (.iload_n 1, 1) := by decide +kernel
theorem dX2_passed_65 : decode cX2_passed 65 = .ok (.ifCond .ne 23, 3) := by decide +kernel
theorem dX2_passed_68 : decode cX2_passed 68 = .ok (.aload_n 0, 1) := by decide +kernel
theorem dX2_passed_69 : decode cX2_passed 69 = .ok (.getfield 32, 3) := by decide +kernel
theorem dX2_passed_72 : decode cX2_passed 72 = .ok (.iload 8, 2) := by decide +kernel
theorem dX2_passed_74 : decode cX2_passed 74 = .ok (.laload, 1) := by decide +kernel
theorem dX2_passed_75 : decode cX2_passed 75 = .ok (.lload_n 3, 1) := by decide +kernel
theorem dX2_passed_76 : decode cX2_passed 76 = .ok (.lcmp, 1) := by decide +kernel
theorem dX2_passed_77 : decode cX2_passed 77 = .ok (.ifCond .le 7, 3) := by decide +kernel
theorem dX2_passed_80 : decode cX2_passed 80 = .ok (.iconst 1, 1) := by decide +kernel
theorem dX2_passed_81 : decode cX2_passed 81 = .ok (.goto 25, 3) := by decide +kernel
theorem dX2_passed_84 : decode cX2_passed 84 = .ok (.iconst 0, 1) := by decide +kernel
theorem dX2_passed_85 : decode cX2_passed 85 = .ok (.goto 21, 3) := by decide +kernel
theorem dX2_passed_88 : decode cX2_passed 88 = .ok (.lload 5, 2) := by decide +kernel
theorem dX2_passed_90 : decode cX2_passed 90 = .ok (.lload_n 3, 1) := by decide +kernel
theorem dX2_passed_91 : decode cX2_passed 91 = .ok (.iload 8, 2) := by decide +kernel
theorem dX2_passed_93 : decode cX2_passed 93 = .ok (.iconst 1, 1) := by decide +kernel
theorem dX2_passed_94 : decode cX2_passed 94 = .ok (.iadd, 1) := by decide +kernel
theorem dX2_passed_95 : decode cX2_passed 95 = .ok (.i2l, 1) := by decide +kernel
theorem dX2_passed_96 : decode cX2_passed 96 = .ok (.lmul, 1) := by decide +kernel
theorem dX2_passed_97 : decode cX2_passed 97 = .ok (.lcmp, 1) := by decide +kernel
theorem dX2_passed_98 : decode cX2_passed 98 = .ok (.ifCond .le 7, 3) := by decide +kernel
theorem dX2_passed_101 : decode cX2_passed 101 = .ok (.iconst 1, 1) := by decide +kernel
theorem dX2_passed_102 : decode cX2_passed 102 = .ok (.goto 4, 3) := by decide +kernel
theorem dX2_passed_105 : decode cX2_passed 105 = .ok (.iconst 0, 1) := by decide +kernel
theorem dX2_passed_106 : decode cX2_passed 106 = .ok (.istore 9, 2) := by decide +kernel
theorem dX2_passed_108 : decode cX2_passed 108 = .ok (.iload 9, 2) := by decide +kernel
theorem dX2_passed_110 : decode cX2_passed 110 = .ok (.ifCond .eq 12, 3) := by decide +kernel
theorem dX2_passed_113 : decode cX2_passed 113 = .ok (.iload 7, 2) := by decide +kernel
theorem dX2_passed_115 : decode cX2_passed 115 = .ok (.iload_n 2, 1) := by decide +kernel
theorem dX2_passed_116 : decode cX2_passed 116 = .ok (.if_icmp .ne 6, 3) := by decide +kernel
theorem dX2_passed_119 : decode cX2_passed 119 = .ok (.iload 8, 2) := by decide +kernel
theorem dX2_passed_121 : decode cX2_passed 121 = .ok (.ireturn, 1) := by decide +kernel
theorem dX2_passed_122 : decode cX2_passed 122 = .ok (.iload 7, 2) := by decide +kernel
theorem dX2_passed_124 : decode cX2_passed 124 = .ok (.iload 9, 2) := by decide +kernel
theorem dX2_passed_126 : decode cX2_passed 126 = .ok (.ifCond .eq 7, 3) := by decide +kernel
theorem dX2_passed_129 : decode cX2_passed 129 = .ok (.iconst 1, 1) := by decide +kernel
theorem dX2_passed_130 : decode cX2_passed 130 = .ok (.goto 4, 3) := by decide +kernel
theorem dX2_passed_133 : decode cX2_passed 133 = .ok (.iconst 0, 1) := by decide +kernel
theorem dX2_passed_134 : decode cX2_passed 134 = .ok (.iadd, 1) := by decide +kernel
theorem dX2_passed_135 : decode cX2_passed 135 = .ok (.istore 7, 2) := by decide +kernel
theorem dX2_passed_137 : decode cX2_passed 137 = .ok (.iinc 8 1, 3) := by decide +kernel
theorem dX2_passed_140 : decode cX2_passed 140 = .ok (.goto (-103), 3) := by decide +kernel
theorem dX2_passed_143 : decode cX2_passed 143 = .ok (.iconst (-1), 1) := by decide +kernel
theorem dX2_passed_144 : decode cX2_passed 144 = .ok (.ireturn, 1) := by decide +kernel
theorem dX2_sample_0 : decode cX2_sample 0 = .ok (.iload_n 1, 1) := by decide +kernel
theorem dX2_sample_1 : decode cX2_sample 1 = .ok (.invokestatic 115, 3) := by decide +kernel
theorem dX2_sample_4 : decode cX2_sample 4 = .ok (.ifCond .eq 40, 3) := by decide +kernel
theorem dX2_sample_7 : decode cX2_sample 7 = .ok (.aload_n 0, 1) := by decide +kernel
theorem dX2_sample_8 : decode cX2_sample 8 = .ok (.getfield 44, 3) := by decide +kernel
theorem dX2_sample_11 : decode cX2_sample 11 = .ok (.iload_n 1, 1) := by decide +kernel
theorem dX2_sample_12 : decode cX2_sample 12 = .ok (.iaload, 1) := by decide +kernel
theorem dX2_sample_13 : decode cX2_sample 13 = .ok (.bipush 8, 2) := by decide +kernel
theorem dX2_sample_15 : decode cX2_sample 15 = .ok (.if_icmp .eq 29, 3) := by decide +kernel
theorem dX2_sample_18 : decode cX2_sample 18 = .ok (.iload_n 2, 1) := by decide +kernel
theorem dX2_sample_19 : decode cX2_sample 19 = .ok (.i2l, 1) := by decide +kernel
theorem dX2_sample_20 : decode cX2_sample 20 = .ok (.lconst 0, 1) := by decide +kernel
theorem dX2_sample_21 : decode cX2_sample 21 = .ok (.ldc2_w 118, 3) := by decide +kernel
theorem dX2_sample_24 : decode cX2_sample 24 = .ok (.invokestatic 63, 3) := by decide +kernel
theorem dX2_sample_27 : decode cX2_sample 27 = .ok (.ifCond .eq 17, 3) := by decide +kernel
theorem dX2_sample_30 : decode cX2_sample 30 = .ok (.iload_n 3, 1) := by decide +kernel
theorem dX2_sample_31 : decode cX2_sample 31 = .ok (.i2l, 1) := by decide +kernel
theorem dX2_sample_32 : decode cX2_sample 32 = .ok (.ldc2_w 120, 3) := by decide +kernel
theorem dX2_sample_35 : decode cX2_sample 35 = .ok (.ldc2_w 67, 3) := by decide +kernel
theorem dX2_sample_38 : decode cX2_sample 38 = .ok (.invokestatic 63, 3) := by decide +kernel
theorem dX2_sample_41 : decode cX2_sample 41 = .ok (.ifCond .ne 5, 3) := by decide +kernel
theorem dX2_sample_44 : decode cX2_sample 44 = .ok (.iconst (-1), 1) := by decide +kernel
theorem dX2_sample_45 : decode cX2_sample 45 = .ok (.ireturn, 1) := by decide +kernel
theorem dX2_sample_46 : decode cX2_sample 46 = .ok (.bipush 8, 2) := by decide +kernel
theorem dX2_sample_48 : decode cX2_sample 48 = .ok (.iload_n 1, 1) := by decide +kernel
theorem dX2_sample_49 : decode cX2_sample 49 = .ok (.imul, 1) := by decide +kernel
theorem dX2_sample_50 : decode cX2_sample 50 = .ok (.aload_n 0, 1) := by decide +kernel
theorem dX2_sample_51 : decode cX2_sample 51 = .ok (.getfield 44, 3) := by decide +kernel
theorem dX2_sample_54 : decode cX2_sample 54 = .ok (.iload_n 1, 1) := by decide +kernel
theorem dX2_sample_55 : decode cX2_sample 55 = .ok (.iaload, 1) := by decide +kernel
theorem dX2_sample_56 : decode cX2_sample 56 = .ok (.iadd, 1) := by decide +kernel
theorem dX2_sample_57 : decode cX2_sample 57 = .ok (.istore 4, 2) := by decide +kernel
theorem dX2_sample_59 : decode cX2_sample 59 = .ok (.aload_n 0, 1) := by decide +kernel
theorem dX2_sample_60 : decode cX2_sample 60 = .ok (.getfield 44, 3) := by decide +kernel
theorem dX2_sample_63 : decode cX2_sample 63 = .ok (.iload_n 1, 1) := by decide +kernel
theorem dX2_sample_64 : decode cX2_sample 64 = .ok (.iaload, 1) := by decide +kernel
theorem dX2_sample_65 : decode cX2_sample 65 = .ok (.ifCond .le 18, 3) := by decide +kernel
theorem dX2_sample_68 : decode cX2_sample 68 = .ok (.iload_n 2, 1) := by decide +kernel
theorem dX2_sample_69 : decode cX2_sample 69 = .ok (.aload_n 0, 1) := by decide +kernel
theorem dX2_sample_70 : decode cX2_sample 70 = .ok (.getfield 47, 3) := by decide +kernel
theorem dX2_sample_73 : decode cX2_sample 73 = .ok (.iload 4, 2) := by decide +kernel
theorem dX2_sample_75 : decode cX2_sample 75 = .ok (.iconst 1, 1) := by decide +kernel
theorem dX2_sample_76 : decode cX2_sample 76 = .ok (.isub, 1) := by decide +kernel
theorem dX2_sample_77 : decode cX2_sample 77 = .ok (.iaload, 1) := by decide +kernel
theorem dX2_sample_78 : decode cX2_sample 78 = .ok (.if_icmp .gt 5, 3) := by decide +kernel
theorem dX2_sample_81 : decode cX2_sample 81 = .ok (.iconst (-1), 1) := by decide +kernel
theorem dX2_sample_82 : decode cX2_sample 82 = .ok (.ireturn, 1) := by decide +kernel
theorem dX2_sample_83 : decode cX2_sample 83 = .ok (.bipush 8, 2) := by decide +kernel
theorem dX2_sample_85 : decode cX2_sample 85 = .ok (.iload_n 1, 1) := by decide +kernel
theorem dX2_sample_86 : decode cX2_sample 86 = .ok (.imul, 1) := by decide +kernel
theorem dX2_sample_87 : decode cX2_sample 87 = .ok (.istore 5, 2) := by decide +kernel
theorem dX2_sample_89 : decode cX2_sample 89 = .ok (.iload 5, 2) := by decide +kernel
theorem dX2_sample_91 : decode cX2_sample 91 = .ok (.iload 4, 2) := by decide +kernel
theorem dX2_sample_93 : decode cX2_sample 93 = .ok (.if_icmp .ge 22, 3) := by decide +kernel
theorem dX2_sample_96 : decode cX2_sample 96 = .ok (.aload_n 0, 1) := by decide +kernel
theorem dX2_sample_97 : decode cX2_sample 97 = .ok (.getfield 50, 3) := by decide +kernel
theorem dX2_sample_100 : decode cX2_sample 100 = .ok (.iload 5, 2) := by decide +kernel
theorem dX2_sample_102 : decode cX2_sample 102 = .ok (.iaload, 1) := by decide +kernel
theorem dX2_sample_103 : decode cX2_sample 103 = .ok (.iload_n 3, 1) := by decide +kernel
theorem dX2_sample_104 : decode cX2_sample 104 = .ok (.if_icmp .ne 5, 3) := by decide +kernel
theorem dX2_sample_107 : decode cX2_sample 107 = .ok (.iconst (-1), 1) := by decide +kernel
theorem dX2_sample_108 : decode cX2_sample 108 = .ok (.ireturn, 1) := by decide +kernel
theorem dX2_sample_109 : decode cX2_sample 109 = .ok (.iinc 5 1, 3) := by decide +kernel
theorem dX2_sample_112 : decode cX2_sample 112 = .ok (.goto (-23), 3) := by decide +kernel
theorem dX2_sample_115 : decode cX2_sample 115 = .ok (.aload_n 0, 1) := by decide +kernel
theorem dX2_sample_116 : decode cX2_sample 116 = .ok (.getfield 47, 3) := by decide +kernel
theorem dX2_sample_119 : decode cX2_sample 119 = .ok (.iload 4, 2) := by decide +kernel
theorem dX2_sample_121 : decode cX2_sample 121 = .ok (.iload_n 2, 1) := by decide +kernel
theorem dX2_sample_122 : decode cX2_sample 122 = .ok (.iastore, 1) := by decide +kernel
theorem dX2_sample_123 : decode cX2_sample 123 = .ok (.aload_n 0, 1) := by decide +kernel
theorem dX2_sample_124 : decode cX2_sample 124 = .ok (.getfield 50, 3) := by decide +kernel
theorem dX2_sample_127 : decode cX2_sample 127 = .ok (.iload 4, 2) := by decide +kernel
theorem dX2_sample_129 : decode cX2_sample 129 = .ok (.iload_n 3, 1) := by decide +kernel
theorem dX2_sample_130 : decode cX2_sample 130 = .ok (.iastore, 1) := by decide +kernel
theorem dX2_sample_131 : decode cX2_sample 131 = .ok (.aload_n 0, 1) := by decide +kernel
theorem dX2_sample_132 : decode cX2_sample 132 = .ok (.getfield 44, 3) := by decide +kernel
theorem dX2_sample_135 : decode cX2_sample 135 = .ok (.iload_n 1, 1) := by decide +kernel
theorem dX2_sample_136 : decode cX2_sample 136 = .ok (.dup2, 1) := by decide +kernel
theorem dX2_sample_137 : decode cX2_sample 137 = .ok (.iaload, 1) := by decide +kernel
theorem dX2_sample_138 : decode cX2_sample 138 = .ok (.iconst 1, 1) := by decide +kernel
theorem dX2_sample_139 : decode cX2_sample 139 = .ok (.iadd, 1) := by decide +kernel
theorem dX2_sample_140 : decode cX2_sample 140 = .ok (.iastore, 1) := by decide +kernel
theorem dX2_sample_141 : decode cX2_sample 141 = .ok (.aload_n 0, 1) := by decide +kernel
theorem dX2_sample_142 : decode cX2_sample 142 = .ok (.getfield 44, 3) := by decide +kernel
theorem dX2_sample_145 : decode cX2_sample 145 = .ok (.iload_n 1, 1) := by decide +kernel
theorem dX2_sample_146 : decode cX2_sample 146 = .ok (.iaload, 1) := by decide +kernel
theorem dX2_sample_147 : decode cX2_sample 147 = .ok (.ireturn, 1) := by decide +kernel
theorem dX2_isWell_0 : decode cX2_isWell 0 = .ok (.iload_n 0, 1) := by decide +kernel
theorem dX2_isWell_1 : decode cX2_isWell 1 = .ok (.ifCond .lt 12, 3) := by decide +kernel
theorem dX2_isWell_4 : decode cX2_isWell 4 = .ok (.iload_n 0, 1) := by decide +kernel
theorem dX2_isWell_5 : decode cX2_isWell 5 = .ok (.iconst 4, 1) := by decide +kernel
theorem dX2_isWell_6 : decode cX2_isWell 6 = .ok (.if_icmp .ge 7, 3) := by decide +kernel
theorem dX2_isWell_9 : decode cX2_isWell 9 = .ok (.iconst 1, 1) := by decide +kernel
theorem dX2_isWell_10 : decode cX2_isWell 10 = .ok (.goto 4, 3) := by decide +kernel
theorem dX2_isWell_13 : decode cX2_isWell 13 = .ok (.iconst 0, 1) := by decide +kernel
theorem dX2_isWell_14 : decode cX2_isWell 14 = .ok (.ireturn, 1) := by decide +kernel
theorem dX2_trend_0 : decode cX2_trend 0 = .ok (.iconst 0, 1) := by decide +kernel
theorem dX2_trend_1 : decode cX2_trend 1 = .ok (.istore_n 2, 1) := by decide +kernel
theorem dX2_trend_2 : decode cX2_trend 2 = .ok (.iconst 0, 1) := by decide +kernel
theorem dX2_trend_3 : decode cX2_trend 3 = .ok (.istore_n 3, 1) := by decide +kernel
theorem dX2_trend_4 : decode cX2_trend 4 = .ok (.iload_n 1, 1) := by decide +kernel
theorem dX2_trend_5 : decode cX2_trend 5 = .ok (.invokestatic 115, 3) := by decide +kernel
theorem dX2_trend_8 : decode cX2_trend 8 = .ok (.ifCond .eq 75, 3) := by decide +kernel
theorem dX2_trend_11 : decode cX2_trend 11 = .ok (.iload_n 3, 1) := by decide +kernel
theorem dX2_trend_12 : decode cX2_trend 12 = .ok (.aload_n 0, 1) := by decide +kernel
theorem dX2_trend_13 : decode cX2_trend 13 = .ok (.getfield 44, 3) := by decide +kernel
theorem dX2_trend_16 : decode cX2_trend 16 = .ok (.iload_n 1, 1) := by decide +kernel
theorem dX2_trend_17 : decode cX2_trend 17 = .ok (.iaload, 1) := by decide +kernel
theorem dX2_trend_18 : decode cX2_trend 18 = .ok (.if_icmp .ge 65, 3) := by decide +kernel
theorem dX2_trend_21 : decode cX2_trend 21 = .ok (.iload_n 3, 1) := by decide +kernel
theorem dX2_trend_22 : decode cX2_trend 22 = .ok (.iconst 1, 1) := by decide +kernel
theorem dX2_trend_23 : decode cX2_trend 23 = .ok (.iadd, 1) := by decide +kernel
theorem dX2_trend_24 : decode cX2_trend 24 = .ok (.istore 4, 2) := by decide +kernel
theorem dX2_trend_26 : decode cX2_trend 26 = .ok (.iload 4, 2) := by decide +kernel
theorem dX2_trend_28 : decode cX2_trend 28 = .ok (.aload_n 0, 1) := by decide +kernel
theorem dX2_trend_29 : decode cX2_trend 29 = .ok (.getfield 44, 3) := by decide +kernel
theorem dX2_trend_32 : decode cX2_trend 32 = .ok (.iload_n 1, 1) := by decide +kernel
theorem dX2_trend_33 : decode cX2_trend 33 = .ok (.iaload, 1) := by decide +kernel
theorem dX2_trend_34 : decode cX2_trend 34 = .ok (.if_icmp .ge 43, 3) := by decide +kernel
theorem dX2_trend_37 : decode cX2_trend 37 = .ok (.iload_n 2, 1) := by decide +kernel
theorem dX2_trend_38 : decode cX2_trend 38 = .ok (.aload_n 0, 1) := by decide +kernel
theorem dX2_trend_39 : decode cX2_trend 39 = .ok (.getfield 50, 3) := by decide +kernel
theorem dX2_trend_42 : decode cX2_trend 42 = .ok (.bipush 8, 2) := by decide +kernel
theorem dX2_trend_44 : decode cX2_trend 44 = .ok (.iload_n 1, 1) := by decide +kernel
theorem dX2_trend_45 : decode cX2_trend 45 = .ok (.imul, 1) := by decide +kernel
theorem dX2_trend_46 : decode cX2_trend 46 = .ok (.iload 4, 2) := by decide +kernel
theorem dX2_trend_48 : decode cX2_trend 48 = .ok (.iadd, 1) := by decide +kernel
theorem dX2_trend_49 : decode cX2_trend 49 = .ok (.iaload, 1) := by decide +kernel
theorem dX2_trend_50 : decode cX2_trend 50 = .ok (.aload_n 0, 1) := by decide +kernel
theorem dX2_trend_51 : decode cX2_trend 51 = .ok (.getfield 50, 3) := by decide +kernel
theorem dX2_trend_54 : decode cX2_trend 54 = .ok (.bipush 8, 2) := by decide +kernel
theorem dX2_trend_56 : decode cX2_trend 56 = .ok (.iload_n 1, 1) := by decide +kernel
theorem dX2_trend_57 : decode cX2_trend 57 = .ok (.imul, 1) := by decide +kernel
theorem dX2_trend_58 : decode cX2_trend 58 = .ok (.iload_n 3, 1) := by decide +kernel
theorem dX2_trend_59 : decode cX2_trend 59 = .ok (.iadd, 1) := by decide +kernel
theorem dX2_trend_60 : decode cX2_trend 60 = .ok (.iaload, 1) := by decide +kernel
theorem dX2_trend_61 : decode cX2_trend 61 = .ok (.if_icmp .le 7, 3) := by decide +kernel
theorem dX2_trend_64 : decode cX2_trend 64 = .ok (.iconst 1, 1) := by decide +kernel
theorem dX2_trend_65 : decode cX2_trend 65 = .ok (.goto 4, 3) := by decide +kernel
theorem dX2_trend_68 : decode cX2_trend 68 = .ok (.iconst (-1), 1) := by decide +kernel
theorem dX2_trend_69 : decode cX2_trend 69 = .ok (.iadd, 1) := by decide +kernel
theorem dX2_trend_70 : decode cX2_trend 70 = .ok (.istore_n 2, 1) := by decide +kernel
theorem dX2_trend_71 : decode cX2_trend 71 = .ok (.iinc 4 1, 3) := by decide +kernel
theorem dX2_trend_74 : decode cX2_trend 74 = .ok (.goto (-48), 3) := by decide +kernel
theorem dX2_trend_77 : decode cX2_trend 77 = .ok (.iinc 3 1, 3) := by decide +kernel
theorem dX2_trend_80 : decode cX2_trend 80 = .ok (.goto (-76), 3) := by decide +kernel
theorem dX2_trend_83 : decode cX2_trend 83 = .ok (.iload_n 2, 1) := by decide +kernel
theorem dX2_trend_84 : decode cX2_trend 84 = .ok (.ireturn, 1) := by decide +kernel
theorem dX2_odds_0 : decode cX2_odds 0 = .ok (.iload_n 1, 1) := by decide +kernel
theorem dX2_odds_1 : decode cX2_odds 1 = .ok (.invokestatic 115, 3) := by decide +kernel
theorem dX2_odds_4 : decode cX2_odds 4 = .ok (.ifCond .eq 13, 3) := by decide +kernel
theorem dX2_odds_7 : decode cX2_odds 7 = .ok (.iload_n 2, 1) := by decide +kernel
theorem dX2_odds_8 : decode cX2_odds 8 = .ok (.i2l, 1) := by decide +kernel
theorem dX2_odds_9 : decode cX2_odds 9 = .ok (.lconst 0, 1) := by decide +kernel
theorem dX2_odds_10 : decode cX2_odds 10 = .ok (.lconst 1, 1) := by decide +kernel
theorem dX2_odds_11 : decode cX2_odds 11 = .ok (.invokestatic 63, 3) := by decide +kernel
theorem dX2_odds_14 : decode cX2_odds 14 = .ok (.ifCond .ne 5, 3) := by decide +kernel
theorem dX2_odds_17 : decode cX2_odds 17 = .ok (.iconst (-1), 1) := by decide +kernel
theorem dX2_odds_18 : decode cX2_odds 18 = .ok (.ireturn, 1) := by decide +kernel
theorem dX2_odds_19 : decode cX2_odds 19 = .ok (.aload_n 0, 1) := by decide +kernel
theorem dX2_odds_20 : decode cX2_odds 20 = .ok (.getfield 44, 3) := by decide +kernel
theorem dX2_odds_23 : decode cX2_odds 23 = .ok (.iload_n 1, 1) := by decide +kernel
theorem dX2_odds_24 : decode cX2_odds 24 = .ok (.iaload, 1) := by decide +kernel
theorem dX2_odds_25 : decode cX2_odds 25 = .ok (.istore_n 3, 1) := by decide +kernel
theorem dX2_odds_26 : decode cX2_odds 26 = .ok (.iload_n 3, 1) := by decide +kernel
theorem dX2_odds_27 : decode cX2_odds 27 = .ok (.iload_n 3, 1) := by decide +kernel
theorem dX2_odds_28 : decode cX2_odds 28 = .ok (.iconst 1, 1) := by decide +kernel
theorem dX2_odds_29 : decode cX2_odds 29 = .ok (.isub, 1) := by decide +kernel
theorem dX2_odds_30 : decode cX2_odds 30 = .ok (.imul, 1) := by decide +kernel
theorem dX2_odds_31 : decode cX2_odds 31 = .ok (.iconst 2, 1) := by decide +kernel
theorem dX2_odds_32 : decode cX2_odds 32 = .ok (.idiv, 1) := by decide +kernel
theorem dX2_odds_33 : decode cX2_odds 33 = .ok (.istore 4, 2) := by decide +kernel
theorem dX2_odds_35 : decode cX2_odds 35 = .ok (.aload_n 0, 1) := by decide +kernel
theorem dX2_odds_36 : decode cX2_odds 36 = .ok (.iload_n 1, 1) := by decide +kernel
theorem dX2_odds_37 : decode cX2_odds 37 = .ok (.invokevirtual 122, 3) := by decide +kernel
theorem dX2_odds_40 : decode cX2_odds 40 = .ok (.istore 5, 2) := by decide +kernel
theorem dX2_odds_42 : decode cX2_odds 42 = .ok (.iload 5, 2) := by decide +kernel
theorem dX2_odds_44 : decode cX2_odds 44 = .ok (.ifCond .ge 9, 3) := by decide +kernel
theorem dX2_odds_47 : decode cX2_odds 47 = .ok (.iload 5, 2) := by decide +kernel
theorem dX2_odds_49 : decode cX2_odds 49 = .ok (.ineg, 1) := by decide +kernel
theorem dX2_odds_50 : decode cX2_odds 50 = .ok (.goto 5, 3) := by decide +kernel
theorem dX2_odds_53 : decode cX2_odds 53 = .ok (.iload 5, 2) := by decide +kernel
theorem dX2_odds_55 : decode cX2_odds 55 = .ok (.istore 6, 2) := by decide +kernel
theorem dX2_odds_57 : decode cX2_odds 57 = .ok (.aload_n 0, 1) := by decide +kernel
theorem dX2_odds_58 : decode cX2_odds 58 = .ok (.iload_n 3, 1) := by decide +kernel
theorem dX2_odds_59 : decode cX2_odds 59 = .ok (.invokevirtual 126, 3) := by decide +kernel
theorem dX2_odds_62 : decode cX2_odds 62 = .ok (.lconst 0, 1) := by decide +kernel
theorem dX2_odds_63 : decode cX2_odds 63 = .ok (.lstore 7, 2) := by decide +kernel
theorem dX2_odds_65 : decode cX2_odds 65 = .ok (.lconst 0, 1) := by decide +kernel
theorem dX2_odds_66 : decode cX2_odds 66 = .ok (.lstore 9, 2) := by decide +kernel
theorem dX2_odds_68 : decode cX2_odds 68 = .ok (.iconst 0, 1) := by decide +kernel
theorem dX2_odds_69 : decode cX2_odds 69 = .ok (.istore 11, 2) := by decide +kernel
theorem dX2_odds_71 : decode cX2_odds 71 = .ok (.iload 11, 2) := by decide +kernel
theorem dX2_odds_73 : decode cX2_odds 73 = .ok (.iload 4, 2) := by decide +kernel
theorem dX2_odds_75 : decode cX2_odds 75 = .ok (.if_icmp .gt 61, 3) := by decide +kernel
theorem dX2_odds_78 : decode cX2_odds 78 = .ok (.iload 4, 2) := by decide +kernel
theorem dX2_odds_80 : decode cX2_odds 80 = .ok (.iconst 2, 1) := by decide +kernel
theorem dX2_odds_81 : decode cX2_odds 81 = .ok (.iload 11, 2) := by decide +kernel
theorem dX2_odds_83 : decode cX2_odds 83 = .ok (.imul, 1) := by decide +kernel
theorem dX2_odds_84 : decode cX2_odds 84 = .ok (.isub, 1) := by decide +kernel
theorem dX2_odds_85 : decode cX2_odds 85 = .ok (.istore 12, 2) := by decide +kernel
theorem dX2_odds_87 : decode cX2_odds 87 = .ok (.lload 9, 2) := by decide +kernel
theorem dX2_odds_89 : decode cX2_odds 89 = .ok (.aload_n 0, 1) := by decide +kernel
theorem dX2_odds_90 : decode cX2_odds 90 = .ok (.getfield 53, 3) := by decide +kernel
theorem dX2_odds_93 : decode cX2_odds 93 = .ok (.iload 11, 2) := by decide +kernel
theorem dX2_odds_95 : decode cX2_odds 95 = .ok (.laload, 1) := by decide +kernel
theorem dX2_odds_96 : decode cX2_odds 96 = .ok (.ladd, 1) := by decide +kernel
theorem dX2_odds_97 : decode cX2_odds 97 = .ok (.lstore 9, 2) := by decide +kernel
theorem dX2_odds_99 : decode cX2_odds 99 = .ok (.lload 7, 2) := by decide +kernel
theorem dX2_odds_101 : decode cX2_odds 101 = .ok (.iload 12, 2) := by decide +kernel
theorem dX2_odds_103 : decode cX2_odds 103 = .ok (.iload 6, 2) := by decide +kernel
theorem dX2_odds_105 : decode cX2_odds 105 = .ok (.if_icmp .ge 11, 3) := by decide +kernel
theorem dX2_odds_108 : decode cX2_odds 108 = .ok (.iload 12, 2) := by decide +kernel
theorem dX2_odds_110 : decode cX2_odds 110 = .ok (.ineg, 1) := by decide +kernel
theorem dX2_odds_111 : decode cX2_odds 111 = .ok (.iload 6, 2) := by decide +kernel
theorem dX2_odds_113 : decode cX2_odds 113 = .ok (.if_icmp .lt 13, 3) := by decide +kernel
theorem dX2_odds_116 : decode cX2_odds 116 = .ok (.aload_n 0, 1) := by decide +kernel
theorem dX2_odds_117 : decode cX2_odds 117 = .ok (.getfield 53, 3) := by decide +kernel
theorem dX2_odds_120 : decode cX2_odds 120 = .ok (.iload 11, 2) := by decide +kernel
theorem dX2_odds_122 : decode cX2_odds 122 = .ok (.laload, 1) := by decide +kernel
theorem dX2_odds_123 : decode cX2_odds 123 = .ok (.goto 4, 3) := by decide +kernel
theorem dX2_odds_126 : decode cX2_odds 126 = .ok (.lconst 0, 1) := by decide +kernel
theorem dX2_odds_127 : decode cX2_odds 127 = .ok (.ladd, 1) := by decide +kernel
theorem dX2_odds_128 : decode cX2_odds 128 = .ok (.lstore 7, 2) := by decide +kernel
theorem dX2_odds_130 : decode cX2_odds 130 = .ok (.iinc 11 1, 3) := by decide +kernel
theorem dX2_odds_133 : decode cX2_odds 133 = .ok (.goto (-62), 3) := by decide +kernel
theorem dX2_odds_136 : decode cX2_odds 136 = .ok (.lload 7, 2) := by decide +kernel
theorem dX2_odds_138 : decode cX2_odds 138 = .ok (.lstore 11, 2) := by decide +kernel
theorem dX2_odds_140 : decode cX2_odds 140 = .ok (.lload 9, 2) := by decide +kernel
theorem dX2_odds_142 : decode cX2_odds 142 = .ok (.lstore 13, 2) := by decide +kernel
theorem dX2_odds_144 : decode cX2_odds 144 = .ok (.lload 13, 2) := by decide +kernel
theorem dX2_odds_146 : decode cX2_odds 146 = .ok (.lconst 0, 1) := by decide +kernel
theorem dX2_odds_147 : decode cX2_odds 147 = .ok (.lcmp, 1) := by decide +kernel
theorem dX2_odds_148 : decode cX2_odds 148 = .ok (.ifCond .eq 21, 3) := by decide +kernel
theorem dX2_odds_151 : decode cX2_odds 151 = .ok (.lload 11, 2) := by decide +kernel
theorem dX2_odds_153 : decode cX2_odds 153 = .ok (.lload 13, 2) := by decide +kernel
theorem dX2_odds_155 : decode cX2_odds 155 = .ok (.lrem, 1) := by decide +kernel
theorem dX2_odds_156 : decode cX2_odds 156 = .ok (.lstore 15, 2) := by decide +kernel
theorem dX2_odds_158 : decode cX2_odds 158 = .ok (.lload 13, 2) := by decide +kernel
theorem dX2_odds_160 : decode cX2_odds 160 = .ok (.lstore 11, 2) := by decide +kernel
theorem dX2_odds_162 : decode cX2_odds 162 = .ok (.lload 15, 2) := by decide +kernel
theorem dX2_odds_164 : decode cX2_odds 164 = .ok (.lstore 13, 2) := by decide +kernel
theorem dX2_odds_166 : decode cX2_odds 166 = .ok (.goto (-22), 3) := by decide +kernel
theorem dX2_odds_169 : decode cX2_odds 169 = .ok (.iload_n 2, 1) := by decide +kernel
theorem dX2_odds_170 : decode cX2_odds 170 = .ok (.ifCond .ne 11, 3) := by decide +kernel
theorem dX2_odds_173 : decode cX2_odds 173 = .ok (.lload 7, 2) := by decide +kernel
theorem dX2_odds_175 : decode cX2_odds 175 = .ok (.lload 11, 2) := by decide +kernel
theorem dX2_odds_177 : decode cX2_odds 177 = .ok (.ldiv, 1) := by decide +kernel
theorem dX2_odds_178 : decode cX2_odds 178 = .ok (.goto 8, 3) := by decide +kernel
theorem dX2_odds_181 : decode cX2_odds 181 = .ok (.lload 9, 2) := by decide +kernel
theorem dX2_odds_183 : decode cX2_odds 183 = .ok (.lload 11, 2) := by decide +kernel
theorem dX2_odds_185 : decode cX2_odds 185 = .ok (.ldiv, 1) := by decide +kernel
theorem dX2_odds_186 : decode cX2_odds 186 = .ok (.l2i, 1) := by decide +kernel
theorem dX2_odds_187 : decode cX2_odds 187 = .ok (.ireturn, 1) := by decide +kernel
theorem dX2_countOrders_0 : decode cX2_countOrders 0 = .ok (.iconst 0, 1) := by decide +kernel
theorem dX2_countOrders_1 : decode cX2_countOrders 1 = .ok (.istore_n 2, 1) := by decide +kernel
theorem dX2_countOrders_2 : decode cX2_countOrders 2 = .ok (.iload_n 2, 1) := by decide +kernel
theorem dX2_countOrders_3 : decode cX2_countOrders 3 = .ok (.bipush 30, 2) := by decide +kernel
theorem dX2_countOrders_5 : decode cX2_countOrders 5 = .ok (.if_icmp .ge 24, 3) := by decide +kernel
theorem dX2_countOrders_8 : decode cX2_countOrders 8 = .ok (.aload_n 0, 1) := by decide +kernel
theorem dX2_countOrders_9 : decode cX2_countOrders 9 = .ok (.getfield 53, 3) := by decide +kernel
theorem dX2_countOrders_12 : decode cX2_countOrders 12 = .ok (.iload_n 2, 1) := by decide +kernel
theorem dX2_countOrders_13 : decode cX2_countOrders 13 = .ok (.iload_n 2, 1) := by decide +kernel
theorem dX2_countOrders_14 : decode cX2_countOrders 14 = .ok (.ifCond .ne 7, 3) := by decide +kernel
theorem dX2_countOrders_17 : decode cX2_countOrders 17 = .ok (.lconst 1, 1) := by decide +kernel
theorem dX2_countOrders_18 : decode cX2_countOrders 18 = .ok (.goto 4, 3) := by decide +kernel
theorem dX2_countOrders_21 : decode cX2_countOrders 21 = .ok (.lconst 0, 1) := by decide +kernel
theorem dX2_countOrders_22 : decode cX2_countOrders 22 = .ok (.lastore, 1) := by decide +kernel
theorem dX2_countOrders_23 : decode cX2_countOrders 23 = .ok (.iinc 2 1, 3) := by decide +kernel
theorem dX2_countOrders_26 : decode cX2_countOrders 26 = .ok (.goto (-24), 3) := by decide +kernel
theorem dX2_countOrders_29 : decode cX2_countOrders 29 = .ok (.iconst 2, 1) := by decide +kernel
theorem dX2_countOrders_30 : decode cX2_countOrders 30 = .ok (.istore_n 2, 1) := by decide +kernel
theorem dX2_countOrders_31 : decode cX2_countOrders 31 = .ok (.iload_n 2, 1) := by decide +kernel
theorem dX2_countOrders_32 : decode cX2_countOrders 32 = .ok (.iload_n 1, 1) := by decide +kernel
theorem dX2_countOrders_33 : decode cX2_countOrders 33 = .ok (.if_icmp .gt 95, 3) := by decide +kernel
theorem dX2_countOrders_36 : decode cX2_countOrders 36 = .ok (.iconst 0, 1) := by decide +kernel
theorem dX2_countOrders_37 : decode cX2_countOrders 37 = .ok (.istore_n 3, 1) := by decide +kernel
theorem dX2_countOrders_38 : decode cX2_countOrders 38 = .ok (.iload_n 3, 1) := by decide +kernel
theorem dX2_countOrders_39 : decode cX2_countOrders 39 = .ok (.bipush 30, 2) := by decide +kernel
theorem dX2_countOrders_41 : decode cX2_countOrders 41 = .ok (.if_icmp .ge 55, 3) := by decide +kernel
theorem dX2_countOrders_44 : decode cX2_countOrders 44 = .ok (.aload_n 0, 1) := by decide +kernel
theorem dX2_countOrders_45 : decode cX2_countOrders 45 = .ok (.getfield 56, 3) := by decide +kernel
theorem dX2_countOrders_48 : decode cX2_countOrders 48 = .ok (.iload_n 3, 1) := by decide +kernel
theorem dX2_countOrders_49 : decode cX2_countOrders 49 = .ok (.lconst 0, 1) := by decide +kernel
theorem dX2_countOrders_50 : decode cX2_countOrders 50 = .ok (.lastore, 1) := by decide +kernel
theorem dX2_countOrders_51 : decode cX2_countOrders 51 = .ok (.iconst 0, 1) := by decide +kernel
theorem dX2_countOrders_52 : decode cX2_countOrders 52 = .ok (.istore 4, 2) := by decide +kernel
theorem dX2_countOrders_54 : decode cX2_countOrders 54 = .ok (.iload 4, 2) := by decide +kernel
theorem dX2_countOrders_56 : decode cX2_countOrders 56 = .ok (.iload_n 2, 1) := by decide +kernel
theorem dX2_countOrders_57 : decode cX2_countOrders 57 = .ok (.if_icmp .ge 33, 3) := by decide +kernel
theorem dX2_countOrders_60 : decode cX2_countOrders 60 = .ok (.iload 4, 2) := by decide +kernel
theorem dX2_countOrders_62 : decode cX2_countOrders 62 = .ok (.iload_n 3, 1) := by decide +kernel
theorem dX2_countOrders_63 : decode cX2_countOrders 63 = .ok (.if_icmp .gt 27, 3) := by decide +kernel
theorem dX2_countOrders_66 : decode cX2_countOrders 66 = .ok (.aload_n 0, 1) := by decide +kernel
theorem dX2_countOrders_67 : decode cX2_countOrders 67 = .ok (.getfield 56, 3) := by decide +kernel
theorem dX2_countOrders_70 : decode cX2_countOrders 70 = .ok (.iload_n 3, 1) := by decide +kernel
theorem dX2_countOrders_71 : decode cX2_countOrders 71 = .ok (.dup2, 1) := by decide +kernel
theorem dX2_countOrders_72 : decode cX2_countOrders 72 = .ok (.laload, 1) := by decide +kernel
theorem dX2_countOrders_73 : decode cX2_countOrders 73 = .ok (.aload_n 0, 1) := by decide +kernel
theorem dX2_countOrders_74 : decode cX2_countOrders 74 = .ok (.getfield 53, 3) := by decide +kernel
theorem dX2_countOrders_77 : decode cX2_countOrders 77 = .ok (.iload_n 3, 1) := by decide +kernel
theorem dX2_countOrders_78 : decode cX2_countOrders 78 = .ok (.iload 4, 2) := by decide +kernel
theorem dX2_countOrders_80 : decode cX2_countOrders 80 = .ok (.isub, 1) := by decide +kernel
theorem dX2_countOrders_81 : decode cX2_countOrders 81 = .ok (.laload, 1) := by decide +kernel
theorem dX2_countOrders_82 : decode cX2_countOrders 82 = .ok (.ladd, 1) := by decide +kernel
theorem dX2_countOrders_83 : decode cX2_countOrders 83 = .ok (.lastore, 1) := by decide +kernel
theorem dX2_countOrders_84 : decode cX2_countOrders 84 = .ok (.iinc 4 1, 3) := by decide +kernel
theorem dX2_countOrders_87 : decode cX2_countOrders 87 = .ok (.goto (-33), 3) := by decide +kernel
theorem dX2_countOrders_90 : decode cX2_countOrders 90 = .ok (.iinc 3 1, 3) := by decide +kernel
theorem dX2_countOrders_93 : decode cX2_countOrders 93 = .ok (.goto (-55), 3) := by decide +kernel
theorem dX2_countOrders_96 : decode cX2_countOrders 96 = .ok (.iconst 0, 1) := by decide +kernel
theorem dX2_countOrders_97 : decode cX2_countOrders 97 = .ok (.istore_n 3, 1) := by decide +kernel
theorem dX2_countOrders_98 : decode cX2_countOrders 98 = .ok (.iload_n 3, 1) := by decide +kernel
theorem dX2_countOrders_99 : decode cX2_countOrders 99 = .ok (.bipush 30, 2) := by decide +kernel
theorem dX2_countOrders_101 : decode cX2_countOrders 101 = .ok (.if_icmp .ge 21, 3) := by decide +kernel
theorem dX2_countOrders_104 : decode cX2_countOrders 104 = .ok (.aload_n 0, 1) := by decide +kernel
theorem dX2_countOrders_105 : decode cX2_countOrders 105 = .ok (.getfield 53, 3) := by decide +kernel
theorem dX2_countOrders_108 : decode cX2_countOrders 108 = .ok (.iload_n 3, 1) := by decide +kernel
theorem dX2_countOrders_109 : decode cX2_countOrders 109 = .ok (.aload_n 0, 1) := by decide +kernel
theorem dX2_countOrders_110 : decode cX2_countOrders 110 = .ok (.getfield 56, 3) := by decide +kernel
theorem dX2_countOrders_113 : decode cX2_countOrders 113 = .ok (.iload_n 3, 1) := by decide +kernel
theorem dX2_countOrders_114 : decode cX2_countOrders 114 = .ok (.laload, 1) := by decide +kernel
theorem dX2_countOrders_115 : decode cX2_countOrders 115 = .ok (.lastore, 1) := by decide +kernel
theorem dX2_countOrders_116 : decode cX2_countOrders 116 = .ok (.iinc 3 1, 3) := by decide +kernel
theorem dX2_countOrders_119 : decode cX2_countOrders 119 = .ok (.goto (-21), 3) := by decide +kernel
theorem dX2_countOrders_122 : decode cX2_countOrders 122 = .ok (.iinc 2 1, 3) := by decide +kernel
theorem dX2_countOrders_125 : decode cX2_countOrders 125 = .ok (.goto (-94), 3) := by decide +kernel
theorem dX2_countOrders_128 : decode cX2_countOrders 128 = .ok (.return_, 1) := by decide +kernel
