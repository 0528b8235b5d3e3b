theorem dX0_init_0 : decode cX0_init 0 = .ok (.aload_n 0, 1) := by decide +kernel
theorem dX0_init_1 : decode cX0_init 1 = .ok (.invokespecial 3, 3) := by decide +kernel
theorem dX0_init_4 : decode cX0_init 4 = .ok (.aload_n 0, 1) := by decide +kernel
theorem dX0_init_5 : decode cX0_init 5 = .ok (.iconst 4, 1) := by decide +kernel
theorem dX0_init_6 : decode cX0_init 6 = .ok (.newarray .int, 2) := by decide +kernel
theorem dX0_init_8 : decode cX0_init 8 = .ok (.putfield 9, 3) := by decide +kernel
theorem dX0_init_11 : decode cX0_init 11 = .ok (.aload_n 0, 1) := by decide +kernel
theorem dX0_init_12 : decode cX0_init 12 = .ok (.iconst 4, 1) := by decide +kernel
theorem dX0_init_13 : decode cX0_init 13 = .ok (.newarray .int, 2) := by decide +kernel
theorem dX0_init_15 : decode cX0_init 15 = .ok (.putfield 13, 3) := by decide +kernel
theorem dX0_init_18 : decode cX0_init 18 = .ok (.aload_n 0, 1) := by decide +kernel
theorem dX0_init_19 : decode cX0_init 19 = .ok (.sipush 400, 3) := by decide +kernel
theorem dX0_init_22 : decode cX0_init 22 = .ok (.newarray .int, 2) := by decide +kernel
theorem dX0_init_24 : decode cX0_init 24 = .ok (.putfield 16, 3) := by decide +kernel
theorem dX0_init_27 : decode cX0_init 27 = .ok (.aload_n 0, 1) := by decide +kernel
theorem dX0_init_28 : decode cX0_init 28 = .ok (.sipush 400, 3) := by decide +kernel
theorem dX0_init_31 : decode cX0_init 31 = .ok (.newarray .long, 2) := by decide +kernel
theorem dX0_init_33 : decode cX0_init 33 = .ok (.putfield 19, 3) := by decide +kernel
theorem dX0_init_36 : decode cX0_init 36 = .ok (.aload_n 0, 1) := by decide +kernel
theorem dX0_init_37 : decode cX0_init 37 = .ok (.bipush 9, 2) := by decide +kernel
theorem dX0_init_39 : decode cX0_init 39 = .ok (.newarray .long, 2) := by decide +kernel
theorem dX0_init_41 : decode cX0_init 41 = .ok (.putfield 23, 3) := by decide +kernel
theorem dX0_init_44 : decode cX0_init 44 = .ok (.aload_n 0, 1) := by decide +kernel
theorem dX0_init_45 : decode cX0_init 45 = .ok (.iconst 4, 1) := by decide +kernel
theorem dX0_init_46 : decode cX0_init 46 = .ok (.anewarray 26, 3) := by decide +kernel
theorem dX0_init_49 : decode cX0_init 49 = .ok (.putfield 28, 3) := by decide +kernel
theorem dX0_init_52 : decode cX0_init 52 = .ok (.aload_n 0, 1) := by decide +kernel
theorem dX0_init_53 : decode cX0_init 53 = .ok (.bipush 29, 2) := by decide +kernel
theorem dX0_init_55 : decode cX0_init 55 = .ok (.newarray .int, 2) := by decide +kernel
theorem dX0_init_57 : decode cX0_init 57 = .ok (.putfield 32, 3) := by decide +kernel
theorem dX0_init_60 : decode cX0_init 60 = .ok (.aload_n 0, 1) := by decide +kernel
theorem dX0_init_61 : decode cX0_init 61 = .ok (.ldc2_w 35, 3) := by decide +kernel
theorem dX0_init_64 : decode cX0_init 64 = .ok (.putfield 37, 3) := by decide +kernel
theorem dX0_init_67 : decode cX0_init 67 = .ok (.aload_n 0, 1) := by decide +kernel
theorem dX0_init_68 : decode cX0_init 68 = .ok (.ldc2_w 35, 3) := by decide +kernel
theorem dX0_init_71 : decode cX0_init 71 = .ok (.putfield 41, 3) := by decide +kernel
theorem dX0_init_74 : decode cX0_init 74 = .ok (.iload_n 1, 1) := by decide +kernel
theorem dX0_init_75 : decode cX0_init 75 = .ok (.i2l, 1) := by decide +kernel
theorem dX0_init_76 : decode cX0_init 76 = .ok (.lconst 1, 1) := by decide +kernel
theorem dX0_init_77 : decode cX0_init 77 = .ok (.ldc2_w 44, 3) := by decide +kernel
theorem dX0_init_80 : decode cX0_init 80 = .ok (.invokestatic 46, 3) := by decide +kernel
theorem dX0_init_83 : decode cX0_init 83 = .ok (.ifCond .eq 7, 3) := by decide +kernel
theorem dX0_init_86 : decode cX0_init 86 = .ok (.iload_n 1, 1) := by decide +kernel
theorem dX0_init_87 : decode cX0_init 87 = .ok (.goto 4, 3) := by decide +kernel
theorem dX0_init_90 : decode cX0_init 90 = .ok (.iconst 1, 1) := by decide +kernel
theorem dX0_init_91 : decode cX0_init 91 = .ok (.istore_n 2, 1) := by decide +kernel
theorem dX0_init_92 : decode cX0_init 92 = .ok (.aload_n 0, 1) := by decide +kernel
theorem dX0_init_93 : decode cX0_init 93 = .ok (.iload_n 2, 1) := by decide +kernel
theorem dX0_init_94 : decode cX0_init 94 = .ok (.newarray .long, 2) := by decide +kernel
theorem dX0_init_96 : decode cX0_init 96 = .ok (.putfield 50, 3) := by decide +kernel
theorem dX0_init_99 : decode cX0_init 99 = .ok (.aload_n 0, 1) := by decide +kernel
theorem dX0_init_100 : decode cX0_init 100 = .ok (.iload_n 2, 1) := by decide +kernel
theorem dX0_init_101 : decode cX0_init 101 = .ok (.newarray .int, 2) := by decide +kernel
theorem dX0_init_103 : decode cX0_init 103 = .ok (.putfield 53, 3) := by decide +kernel
theorem dX0_init_106 : decode cX0_init 106 = .ok (.aload_n 0, 1) := by decide +kernel
theorem dX0_init_107 : decode cX0_init 107 = .ok (.iload_n 2, 1) := by decide +kernel
theorem dX0_init_108 : decode cX0_init 108 = .ok (.newarray .int, 2) := by decide +kernel
theorem dX0_init_110 : decode cX0_init 110 = .ok (.putfield 56, 3) := by decide +kernel
theorem dX0_init_113 : decode cX0_init 113 = .ok (.aload_n 0, 1) := by decide +kernel
theorem dX0_init_114 : decode cX0_init 114 = .ok (.getfield 56, 3) := by decide +kernel
theorem dX0_init_117 : decode cX0_init 117 = .ok (.sipush 1000, 3) := by decide +kernel
theorem dX0_init_120 : decode cX0_init 120 = .ok (.invokestatic 59, 3) := by decide +kernel
theorem dX0_init_123 : decode cX0_init 123 = .ok (.iconst 0, 1) := by decide +kernel
theorem dX0_init_124 : decode cX0_init 124 = .ok (.istore_n 3, 1) := by decide +kernel
theorem dX0_init_125 : decode cX0_init 125 = .ok (.iload_n 3, 1) := by decide +kernel
theorem dX0_init_126 : decode cX0_init 126 = .ok (.iconst 4, 1) := by decide +kernel
theorem dX0_init_127 : decode cX0_init 127 = .ok (.if_icmp .ge 22, 3) := by decide +kernel
theorem dX0_init_130 : decode cX0_init 130 = .ok (.aload_n 0, 1) := by decide +kernel
theorem dX0_init_131 : decode cX0_init 131 = .ok (.getfield 28, 3) := by decide +kernel
theorem dX0_init_134 : decode cX0_init 134 = .ok (.iload_n 3, 1) := by decide +kernel
theorem dX0_init_135 : decode cX0_init 135 = .ok (.new 26, 3) := by decide +kernel
theorem dX0_init_138 : decode cX0_init 138 = .ok (.dup, 1) := by decide +kernel
theorem dX0_init_139 : decode cX0_init 139 = .ok (.invokespecial 65, 3) := by decide +kernel
theorem dX0_init_142 : decode cX0_init 142 = .ok (.aastore, 1) := by decide +kernel
theorem dX0_init_143 : decode cX0_init 143 = .ok (.iinc 3 1, 3) := by decide +kernel
theorem dX0_init_146 : decode cX0_init 146 = .ok (.goto (-21), 3) := by decide +kernel
theorem dX0_init_149 : decode cX0_init 149 = .ok (.return_, 1) := by decide +kernel
theorem dX0_within_0 : decode cX0_within 0 = .ok (.lload_n 0, 1) := by decide +kernel
theorem dX0_within_1 : decode cX0_within 1 = .ok (.lload_n 2, 1) := by decide +kernel
theorem dX0_within_2 : decode cX0_within 2 = .ok (.lcmp, 1) := by decide +kernel
theorem dX0_within_3 : decode cX0_within 3 = .ok (.ifCond .lt 14, 3) := by decide +kernel
theorem dX0_within_6 : decode cX0_within 6 = .ok (.lload_n 0, 1) := by decide +kernel
theorem dX0_within_7 : decode cX0_within 7 = .ok (.lload 4, 2) := by decide +kernel
theorem dX0_within_9 : decode cX0_within 9 = .ok (.lcmp, 1) := by decide +kernel
theorem dX0_within_10 : decode cX0_within 10 = .ok (.ifCond .gt 7, 3) := by decide +kernel
theorem dX0_within_13 : decode cX0_within 13 = .ok (.iconst 1, 1) := by decide +kernel
theorem dX0_within_14 : decode cX0_within 14 = .ok (.goto 4, 3) := by decide +kernel
theorem dX0_within_17 : decode cX0_within 17 = .ok (.iconst 0, 1) := by decide +kernel
theorem dX0_within_18 : decode cX0_within 18 = .ok (.ireturn, 1) := by decide +kernel
theorem dX0_layer_0 : decode cX0_layer 0 = .ok (.aload_n 0, 1) := by decide +kernel
theorem dX0_layer_1 : decode cX0_layer 1 = .ok (.iload_n 1, 1) := by decide +kernel
theorem dX0_layer_2 : decode cX0_layer 2 = .ok (.invokevirtual 66, 3) := by decide +kernel
theorem dX0_layer_5 : decode cX0_layer 5 = .ok (.ifCond .eq 22, 3) := by decide +kernel
theorem dX0_layer_8 : decode cX0_layer 8 = .ok (.iload_n 2, 1) := by decide +kernel
theorem dX0_layer_9 : decode cX0_layer 9 = .ok (.i2l, 1) := by decide +kernel
theorem dX0_layer_10 : decode cX0_layer 10 = .ok (.lconst 0, 1) := by decide +kernel
theorem dX0_layer_11 : decode cX0_layer 11 = .ok (.ldc2_w 70, 3) := by decide +kernel
theorem dX0_layer_14 : decode cX0_layer 14 = .ok (.invokestatic 46, 3) := by decide +kernel
theorem dX0_layer_17 : decode cX0_layer 17 = .ok (.ifCond .eq 10, 3) := by decide +kernel
theorem dX0_layer_20 : decode cX0_layer 20 = .ok (.iload_n 3, 1) := by decide +kernel
theorem dX0_layer_21 : decode cX0_layer 21 = .ok (.invokestatic 72, 3) := by decide +kernel
theorem dX0_layer_24 : decode cX0_layer 24 = .ok (.ifCond .ne 5, 3) := by decide +kernel
theorem dX0_layer_27 : decode cX0_layer 27 = .ok (.iconst 0, 1) := by decide +kernel
theorem dX0_layer_28 : decode cX0_layer 28 = .ok (.ireturn, 1) := by decide +kernel
theorem dX0_layer_29 : decode cX0_layer 29 = .ok (.aload_n 0, 1) := by decide +kernel
theorem dX0_layer_30 : decode cX0_layer 30 = .ok (.getfield 53, 3) := by decide +kernel
theorem dX0_layer_33 : decode cX0_layer 33 = .ok (.iload_n 1, 1) := by decide +kernel
theorem dX0_layer_34 : decode cX0_layer 34 = .ok (.iload_n 2, 1) := by decide +kernel
theorem dX0_layer_35 : decode cX0_layer 35 = .ok (.iastore, 1) := by decide +kernel
theorem dX0_layer_36 : decode cX0_layer 36 = .ok (.aload_n 0, 1) := by decide +kernel
theorem dX0_layer_37 : decode cX0_layer 37 = .ok (.getfield 56, 3) := by decide +kernel
theorem dX0_layer_40 : decode cX0_layer 40 = .ok (.iload_n 1, 1) := by decide +kernel
theorem dX0_layer_41 : decode cX0_layer 41 = .ok (.iload_n 3, 1) := by decide +kernel
theorem dX0_layer_42 : decode cX0_layer 42 = .ok (.iastore, 1) := by decide +kernel
theorem dX0_layer_43 : decode cX0_layer 43 = .ok (.iconst 1, 1) := by decide +kernel
theorem dX0_layer_44 : decode cX0_layer 44 = .ok (.ireturn, 1) := by decide +kernel
theorem dX0_isLayer_0 : decode cX0_isLayer 0 = .ok (.iload_n 1, 1) := by decide +kernel
theorem dX0_isLayer_1 : decode cX0_isLayer 1 = .ok (.i2l, 1) := by decide +kernel
theorem dX0_isLayer_2 : decode cX0_isLayer 2 = .ok (.lconst 0, 1) := by decide +kernel
theorem dX0_isLayer_3 : decode cX0_isLayer 3 = .ok (.aload_n 0, 1) := by decide +kernel
theorem dX0_isLayer_4 : decode cX0_isLayer 4 = .ok (.getfield 50, 3) := by decide +kernel
theorem dX0_isLayer_7 : decode cX0_isLayer 7 = .ok (.arraylength, 1) := by decide +kernel
theorem dX0_isLayer_8 : decode cX0_isLayer 8 = .ok (.iconst 1, 1) := by decide +kernel
theorem dX0_isLayer_9 : decode cX0_isLayer 9 = .ok (.isub, 1) := by decide +kernel
theorem dX0_isLayer_10 : decode cX0_isLayer 10 = .ok (.i2l, 1) := by decide +kernel
theorem dX0_isLayer_11 : decode cX0_isLayer 11 = .ok (.invokestatic 46, 3) := by decide +kernel
theorem dX0_isLayer_14 : decode cX0_isLayer 14 = .ok (.ireturn, 1) := by decide +kernel
theorem dX0_isParts_0 : decode cX0_isParts 0 = .ok (.iload_n 0, 1) := by decide +kernel
theorem dX0_isParts_1 : decode cX0_isParts 1 = .ok (.i2l, 1) := by decide +kernel
theorem dX0_isParts_2 : decode cX0_isParts 2 = .ok (.lconst 0, 1) := by decide +kernel
theorem dX0_isParts_3 : decode cX0_isParts 3 = .ok (.ldc2_w 145, 3) := by decide +kernel
theorem dX0_isParts_6 : decode cX0_isParts 6 = .ok (.invokestatic 46, 3) := by decide +kernel
theorem dX0_isParts_9 : decode cX0_isParts 9 = .ok (.ireturn, 1) := by decide +kernel
theorem dX0_cover_0 : decode cX0_cover 0 = .ok (.iload_n 1, 1) := by decide +kernel
theorem dX0_cover_1 : decode cX0_cover 1 = .ok (.invokestatic 72, 3) := by decide +kernel
theorem dX0_cover_4 : decode cX0_cover 4 = .ok (.ifCond .ne 5, 3) := by decide +kernel
theorem dX0_cover_7 : decode cX0_cover 7 = .ok (.iconst 0, 1) := by decide +kernel
theorem dX0_cover_8 : decode cX0_cover 8 = .ok (.ireturn, 1) := by decide +kernel
theorem dX0_cover_9 : decode cX0_cover 9 = .ok (.aload_n 0, 1) := by decide +kernel
theorem dX0_cover_10 : decode cX0_cover 10 = .ok (.iload_n 1, 1) := by decide +kernel
theorem dX0_cover_11 : decode cX0_cover 11 = .ok (.putfield 75, 3) := by decide +kernel
theorem dX0_cover_14 : decode cX0_cover 14 = .ok (.iconst 1, 1) := by decide +kernel
theorem dX0_cover_15 : decode cX0_cover 15 = .ok (.ireturn, 1) := by decide +kernel
theorem dX0_drain_0 : decode cX0_drain 0 = .ok (.iload_n 1, 1) := by decide +kernel
theorem dX0_drain_1 : decode cX0_drain 1 = .ok (.invokestatic 72, 3) := by decide +kernel
theorem dX0_drain_4 : decode cX0_drain 4 = .ok (.ifCond .ne 5, 3) := by decide +kernel
theorem dX0_drain_7 : decode cX0_drain 7 = .ok (.iconst 0, 1) := by decide +kernel
theorem dX0_drain_8 : decode cX0_drain 8 = .ok (.ireturn, 1) := by decide +kernel
theorem dX0_drain_9 : decode cX0_drain 9 = .ok (.aload_n 0, 1) := by decide +kernel
theorem dX0_drain_10 : decode cX0_drain 10 = .ok (.iload_n 1, 1) := by decide +kernel
theorem dX0_drain_11 : decode cX0_drain 11 = .ok (.putfield 79, 3) := by decide +kernel
theorem dX0_drain_14 : decode cX0_drain 14 = .ok (.iconst 1, 1) := by decide +kernel
theorem dX0_drain_15 : decode cX0_drain 15 = .ok (.ireturn, 1) := by decide +kernel
theorem dX0_back_0 : decode cX0_back 0 = .ok (.iload_n 1, 1) := by decide +kernel
theorem dX0_back_1 : decode cX0_back 1 = .ok (.invokestatic 72, 3) := by decide +kernel
theorem dX0_back_4 : decode cX0_back 4 = .ok (.ifCond .ne 5, 3) := by decide +kernel
theorem dX0_back_7 : decode cX0_back 7 = .ok (.iconst 0, 1) := by decide +kernel
theorem dX0_back_8 : decode cX0_back 8 = .ok (.ireturn, 1) := by decide +kernel
theorem dX0_back_9 : decode cX0_back 9 = .ok (.aload_n 0, 1) := by decide +kernel
theorem dX0_back_10 : decode cX0_back 10 = .ok (.iload_n 1, 1) := by decide +kernel
theorem dX0_back_11 : decode cX0_back 11 = .ok (.putfield 82, 3) := by decide +kernel
theorem dX0_back_14 : decode cX0_back 14 = .ok (.iconst 1, 1) := by decide +kernel
theorem dX0_back_15 : decode cX0_back 15 = .ok (.ireturn, 1) := by decide +kernel
theorem dX0_tank_0 : decode cX0_tank 0 = .ok (.lload_n 1, 1) := by decide +kernel
theorem dX0_tank_1 : decode cX0_tank 1 = .ok (.lconst 0, 1) := by decide +kernel
theorem dX0_tank_2 : decode cX0_tank 2 = .ok (.ldc2_w 85, 3) := by decide +kernel
theorem dX0_tank_5 : decode cX0_tank 5 = .ok (.invokestatic 46, 3) := by decide +kernel
theorem dX0_tank_8 : decode cX0_tank 8 = .ok (.ifCond .ne 5, 3) := by decide +kernel
theorem dX0_tank_11 : decode cX0_tank 11 = .ok (.iconst 0, 1) := by decide +kernel
theorem dX0_tank_12 : decode cX0_tank 12 = .ok (.ireturn, 1) := by decide +kernel
theorem dX0_tank_13 : decode cX0_tank 13 = .ok (.aload_n 0, 1) := by decide +kernel
theorem dX0_tank_14 : decode cX0_tank 14 = .ok (.lload_n 1, 1) := by decide +kernel
theorem dX0_tank_15 : decode cX0_tank 15 = .ok (.putfield 87, 3) := by decide +kernel
theorem dX0_tank_18 : decode cX0_tank 18 = .ok (.iconst 1, 1) := by decide +kernel
theorem dX0_tank_19 : decode cX0_tank 19 = .ok (.ireturn, 1) := by decide +kernel
theorem dX0_stage_0 : decode cX0_stage 0 = .ok (.aload_n 0, 1) := by decide +kernel
theorem dX0_stage_1 : decode cX0_stage 1 = .ok (.getfield 90, 3) := by decide +kernel
theorem dX0_stage_4 : decode cX0_stage 4 = .ok (.iconst 4, 1) := by decide +kernel
theorem dX0_stage_5 : decode cX0_stage 5 = .ok (.if_icmp .ge 22, 3) := by decide +kernel
theorem dX0_stage_8 : decode cX0_stage 8 = .ok (.iload_n 1, 1) := by decide +kernel
theorem dX0_stage_9 : decode cX0_stage 9 = .ok (.i2l, 1) := by decide +kernel
theorem dX0_stage_10 : decode cX0_stage 10 = .ok (.lconst 0, 1) := by decide +kernel
theorem dX0_stage_11 : decode cX0_stage 11 = .ok (.ldc2_w 70, 3) := by decide +kernel
theorem dX0_stage_14 : decode cX0_stage 14 = .ok (.invokestatic 46, 3) := by decide +kernel
theorem dX0_stage_17 : decode cX0_stage 17 = .ok (.ifCond .eq 10, 3) := by decide +kernel
theorem dX0_stage_20 : decode cX0_stage 20 = .ok (.iload_n 2, 1) := by decide +kernel
theorem dX0_stage_21 : decode cX0_stage 21 = .ok (.invokestatic 72, 3) := by decide +kernel
theorem dX0_stage_24 : decode cX0_stage 24 = .ok (.ifCond .ne 5, 3) := by decide +kernel
theorem dX0_stage_27 : decode cX0_stage 27 = .ok (.iconst (-1), 1) := by decide +kernel
theorem dX0_stage_28 : decode cX0_stage 28 = .ok (.ireturn, 1) := by decide +kernel
theorem dX0_stage_29 : decode cX0_stage 29 = .ok (.aload_n 0, 1) := by decide +kernel
theorem dX0_stage_30 : decode cX0_stage 30 = .ok (.getfield 9, 3) := by decide +kernel
theorem dX0_stage_33 : decode cX0_stage 33 = .ok (.aload_n 0, 1) := by decide +kernel
theorem dX0_stage_34 : decode cX0_stage 34 = .ok (.getfield 90, 3) := by decide +kernel
theorem dX0_stage_37 : decode cX0_stage 37 = .ok (.iload_n 1, 1) := by decide +kernel
theorem dX0_stage_38 : decode cX0_stage 38 = .ok (.iastore, 1) := by decide +kernel
theorem dX0_stage_39 : decode cX0_stage 39 = .ok (.aload_n 0, 1) := by decide +kernel
theorem dX0_stage_40 : decode cX0_stage 40 = .ok (.getfield 13, 3) := by decide +kernel
theorem dX0_stage_43 : decode cX0_stage 43 = .ok (.aload_n 0, 1) := by decide +kernel
theorem dX0_stage_44 : decode cX0_stage 44 = .ok (.getfield 90, 3) := by decide +kernel
theorem dX0_stage_47 : decode cX0_stage 47 = .ok (.iload_n 2, 1) := by decide +kernel
theorem dX0_stage_48 : decode cX0_stage 48 = .ok (.iastore, 1) := by decide +kernel
theorem dX0_stage_49 : decode cX0_stage 49 = .ok (.aload_n 0, 1) := by decide +kernel
theorem dX0_stage_50 : decode cX0_stage 50 = .ok (.dup, 1) := by decide +kernel
theorem dX0_stage_51 : decode cX0_stage 51 = .ok (.getfield 90, 3) := by decide +kernel
theorem dX0_stage_54 : decode cX0_stage 54 = .ok (.iconst 1, 1) := by decide +kernel
theorem dX0_stage_55 : decode cX0_stage 55 = .ok (.iadd, 1) := by decide +kernel
theorem dX0_stage_56 : decode cX0_stage 56 = .ok (.putfield 90, 3) := by decide +kernel
theorem dX0_stage_59 : decode cX0_stage 59 = .ok (.aload_n 0, 1) := by decide +kernel
theorem dX0_stage_60 : decode cX0_stage 60 = .ok (.getfield 90, 3) := by decide +kernel
theorem dX0_stage_63 : decode cX0_stage 63 = .ok (.iconst 1, 1) := by decide +kernel
theorem dX0_stage_64 : decode cX0_stage 64 = .ok (.isub, 1) := by decide +kernel
theorem dX0_stage_65 : decode cX0_stage 65 = .ok (.ireturn, 1) := by decide +kernel
theorem dX0_rain_0 : decode cX0_rain 0 = .ok (.iload_n 1, 1) := by decide +kernel
theorem dX0_rain_1 : decode cX0_rain 1 = .ok (.i2l, 1) := by decide +kernel
theorem dX0_rain_2 : decode cX0_rain 2 = .ok (.aload_n 0, 1) := by decide +kernel
theorem dX0_rain_3 : decode cX0_rain 3 = .ok (.getfield 93, 3) := by decide +kernel
theorem dX0_rain_6 : decode cX0_rain 6 = .ok (.i2l, 1) := by decide +kernel
theorem dX0_rain_7 : decode cX0_rain 7 = .ok (.ldc2_w 96, 3) := by decide +kernel
theorem dX0_rain_10 : decode cX0_rain 10 = .ok (.invokestatic 46, 3) := by decide +kernel
theorem dX0_rain_13 : decode cX0_rain 13 = .ok (.ifCond .eq 15, 3) := by decide +kernel
theorem dX0_rain_16 : decode cX0_rain 16 = .ok (.iload_n 2, 1) := by decide +kernel
theorem dX0_rain_17 : decode cX0_rain 17 = .ok (.i2l, 1) := by decide +kernel
theorem dX0_rain_18 : decode cX0_rain 18 = .ok (.lconst 0, 1) := by decide +kernel
theorem dX0_rain_19 : decode cX0_rain 19 = .ok (.ldc2_w 70, 3) := by decide +kernel
theorem dX0_rain_22 : decode cX0_rain 22 = .ok (.invokestatic 46, 3) := by decide +kernel
theorem dX0_rain_25 : decode cX0_rain 25 = .ok (.ifCond .ne 5, 3) := by decide +kernel
theorem dX0_rain_28 : decode cX0_rain 28 = .ok (.iconst 0, 1) := by decide +kernel
theorem dX0_rain_29 : decode cX0_rain 29 = .ok (.ireturn, 1) := by decide +kernel
theorem dX0_rain_30 : decode cX0_rain 30 = .ok (.aload_n 0, 1) := by decide +kernel
theorem dX0_rain_31 : decode cX0_rain 31 = .ok (.getfield 16, 3) := by decide +kernel
theorem dX0_rain_34 : decode cX0_rain 34 = .ok (.iload_n 1, 1) := by decide +kernel
theorem dX0_rain_35 : decode cX0_rain 35 = .ok (.iload_n 2, 1) := by decide +kernel
theorem dX0_rain_36 : decode cX0_rain 36 = .ok (.iastore, 1) := by decide +kernel
theorem dX0_rain_37 : decode cX0_rain 37 = .ok (.iconst 1, 1) := by decide +kernel
theorem dX0_rain_38 : decode cX0_rain 38 = .ok (.ireturn, 1) := by decide +kernel
theorem dX0_storm_0 : decode cX0_storm 0 = .ok (.aload_n 0, 1) := by decide +kernel
theorem dX0_storm_1 : decode cX0_storm 1 = .ok (.iload_n 3, 1) := by decide +kernel
theorem dX0_storm_2 : decode cX0_storm 2 = .ok (.invokevirtual 98, 3) := by decide +kernel
theorem dX0_storm_5 : decode cX0_storm 5 = .ok (.ifCond .ne 5, 3) := by decide +kernel
theorem dX0_storm_8 : decode cX0_storm 8 = .ok (.iconst 0, 1) := by decide +kernel
theorem dX0_storm_9 : decode cX0_storm 9 = .ok (.ireturn, 1) := by decide +kernel
theorem dX0_storm_10 : decode cX0_storm 10 = .ok (.lload_n 1, 1) := by decide +kernel
theorem dX0_storm_11 : decode cX0_storm 11 = .ok (.lstore 4, 2) := by decide +kernel
theorem dX0_storm_13 : decode cX0_storm 13 = .ok (.iconst 0, 1) := by decide +kernel
theorem dX0_storm_14 : decode cX0_storm 14 = .ok (.istore 6, 2) := by decide +kernel
theorem dX0_storm_16 : decode cX0_storm 16 = .ok (.iload 6, 2) := by decide +kernel
theorem dX0_storm_18 : decode cX0_storm 18 = .ok (.iload_n 3, 1) := by decide +kernel
theorem dX0_storm_19 : decode cX0_storm 19 = .ok (.if_icmp .ge 39, 3) := by decide +kernel
theorem dX0_storm_22 : decode cX0_storm 22 = .ok (.lload 4, 2) := by decide +kernel
theorem dX0_storm_24 : decode cX0_storm 24 = .ok (.ldc2_w 101, 3) := by decide +kernel
theorem dX0_storm_27 : decode cX0_storm 27 = .ok (.lmul, 1) := by decide +kernel
theorem dX0_storm_28 : decode cX0_storm 28 = .ok (.ldc2_w 103, 3) := by decide +kernel
theorem dX0_storm_31 : decode cX0_storm 31 = .ok (.ladd, 1) := by decide +kernel
theorem dX0_storm_32 : decode cX0_storm 32 = .ok (.lstore 4, 2) := by decide +kernel
theorem dX0_storm_34 : decode cX0_storm 34 = .ok (.aload_n 0, 1) := by decide +kernel
theorem dX0_storm_35 : decode cX0_storm 35 = .ok (.getfield 16, 3) := by decide +kernel
theorem dX0_storm_38 : decode cX0_storm 38 = .ok (.aload_n 0, 1) := by decide +kernel
theorem dX0_storm_39 : decode cX0_storm 39 = .ok (.getfield 93, 3) := by decide +kernel
theorem dX0_storm_42 : decode cX0_storm 42 = .ok (.iload 6, 2) := by decide +kernel
theorem dX0_storm_44 : decode cX0_storm 44 = .ok (.iadd, 1) := by decide +kernel
theorem dX0_storm_45 : decode cX0_storm 45 = .ok (.lload 4, 2) := by decide +kernel
theorem dX0_storm_47 : decode cX0_storm 47 = .ok (.bipush 54, 2) := by decide +kernel
theorem dX0_storm_49 : decode cX0_storm 49 = .ok (.lushr, 1) := by decide +kernel
theorem dX0_storm_50 : decode cX0_storm 50 = .ok (.l2i, 1) := by decide +kernel
theorem dX0_storm_51 : decode cX0_storm 51 = .ok (.iastore, 1) := by decide +kernel
theorem dX0_storm_52 : decode cX0_storm 52 = .ok (.iinc 6 1, 3) := by decide +kernel
theorem dX0_storm_55 : decode cX0_storm 55 = .ok (.goto (-39), 3) := by decide +kernel
theorem dX0_storm_58 : decode cX0_storm 58 = .ok (.iconst 1, 1) := by decide +kernel
theorem dX0_storm_59 : decode cX0_storm 59 = .ok (.ireturn, 1) := by decide +kernel
theorem dX0_areDaysToRun_0 : decode cX0_areDaysToRun 0 = .ok (.iload_n 1, 1) := by decide +kernel
theorem dX0_areDaysToRun_1 : decode cX0_areDaysToRun 1 = .ok (.i2l, 1) := by decide +kernel
theorem dX0_areDaysToRun_2 : decode cX0_areDaysToRun 2 = .ok (.lconst 1, 1) := by decide +kernel
theorem dX0_areDaysToRun_3 : decode cX0_areDaysToRun 3 = .ok (.ldc2_w 149, 3) := by decide +kernel
theorem dX0_areDaysToRun_6 : decode cX0_areDaysToRun 6 = .ok (.invokestatic 46, 3) := by decide +kernel
theorem dX0_areDaysToRun_9 : decode cX0_areDaysToRun 9 = .ok (.ifCond .eq 19, 3) := by decide +kernel
theorem dX0_areDaysToRun_12 : decode cX0_areDaysToRun 12 = .ok (.aload_n 0, 1) := by decide +kernel
theorem dX0_areDaysToRun_13 : decode cX0_areDaysToRun 13 = .ok (.getfield 93, 3) := by decide +kernel
theorem dX0_areDaysToRun_16 : decode cX0_areDaysToRun 16 = .ok (.iload_n 1, 1) := by decide +kernel
theorem dX0_areDaysToRun_17 : decode cX0_areDaysToRun 17 = .ok (.iadd, 1) := by decide +kernel
theorem dX0_areDaysToRun_18 : decode cX0_areDaysToRun 18 = .ok (.sipush 400, 3) := by decide +kernel
theorem dX0_areDaysToRun_21 : decode cX0_areDaysToRun 21 = .ok (.if_icmp .gt 7, 3) := by decide +kernel
theorem dX0_areDaysToRun_24 : decode cX0_areDaysToRun 24 = .ok (.iconst 1, 1) := by decide +kernel
theorem dX0_areDaysToRun_25 : decode cX0_areDaysToRun 25 = .ok (.goto 4, 3) := by decide +kernel
theorem dX0_areDaysToRun_28 : decode cX0_areDaysToRun 28 = .ok (.iconst 0, 1) := by decide +kernel
theorem dX0_areDaysToRun_29 : decode cX0_areDaysToRun 29 = .ok (.ireturn, 1) := by decide +kernel
theorem dX0_run_0 : decode cX0_run 0 = .ok (.aload_n 0, 1) := by decide +kernel
theorem dX0_run_1 : decode cX0_run 1 = .ok (.iload_n 1, 1) := by decide +kernel
theorem dX0_run_2 : decode cX0_run 2 = .ok (.invokevirtual 98, 3) := by decide +kernel
theorem dX0_run_5 : decode cX0_run 5 = .ok (.ifCond .ne 5, 3) := by decide +kernel
theorem dX0_run_8 : decode cX0_run 8 = .ok (.iconst (-1), 1) := by decide +kernel
theorem dX0_run_9 : decode cX0_run 9 = .ok (.ireturn, 1) := by decide +kernel
theorem dX0_run_10 : decode cX0_run 10 = .ok (.iconst 0, 1) := by decide +kernel
theorem dX0_run_11 : decode cX0_run 11 = .ok (.istore_n 2, 1) := by decide +kernel
theorem dX0_run_12 : decode cX0_run 12 = .ok (.iload_n 2, 1) := by decide +kernel
theorem dX0_run_13 : decode cX0_run 13 = .ok (.iload_n 1, 1) := by decide +kernel
theorem dX0_run_14 : decode cX0_run 14 = .ok (.if_icmp .ge 13, 3) := by decide +kernel
theorem dX0_run_17 : decode cX0_run 17 = .ok (.aload_n 0, 1) := by decide +kernel
theorem dX0_run_18 : decode cX0_run 18 = .ok (.invokevirtual 105, 3) := by decide +kernel
theorem dX0_run_21 : decode cX0_run 21 = .ok (.iinc 2 1, 3) := by decide +kernel
theorem dX0_run_24 : decode cX0_run 24 = .ok (.goto (-12), 3) := by decide +kernel
theorem dX0_run_27 : decode cX0_run 27 = .ok (.aload_n 0, 1) := by decide +kernel
theorem dX0_run_28 : decode cX0_run 28 = .ok (.getfield 93, 3) := by decide +kernel
theorem dX0_run_31 : decode cX0_run 31 = .ok (.ireturn, 1) := by decide +kernel
theorem dX0_runNextDay_0 : decode cX0_runNextDay 0 = .ok (.aload_n 0, 1) := by decide +kernel
theorem dX0_runNextDay_1 : decode cX0_runNextDay 1 = .ok (.aload_n 0, 1) := by decide +kernel
theorem dX0_runNextDay_2 : decode cX0_runNextDay 2 = .ok (.getfield 16, 3) := by decide +kernel
theorem dX0_runNextDay_5 : decode cX0_runNextDay 5 = .ok (.aload_n 0, 1) := by decide +kernel
theorem dX0_runNextDay_6 : decode cX0_runNextDay 6 = .ok (.getfield 93, 3) := by decide +kernel
theorem dX0_runNextDay_9 : decode cX0_runNextDay 9 = .ok (.iaload, 1) := by decide +kernel
theorem dX0_runNextDay_10 : decode cX0_runNextDay 10 = .ok (.i2l, 1) := by decide +kernel
theorem dX0_runNextDay_11 : decode cX0_runNextDay 11 = .ok (.invokevirtual 151, 3) := by decide +kernel
theorem dX0_runNextDay_14 : decode cX0_runNextDay 14 = .ok (.aload_n 0, 1) := by decide +kernel
theorem dX0_runNextDay_15 : decode cX0_runNextDay 15 = .ok (.invokevirtual 155, 3) := by decide +kernel
theorem dX0_runNextDay_18 : decode cX0_runNextDay 18 = .ok (.lstore_n 1, 1) := by decide +kernel
theorem dX0_runNextDay_19 : decode cX0_runNextDay 19 = .ok (.aload_n 0, 1) := by decide +kernel
theorem dX0_runNextDay_20 : decode cX0_runNextDay 20 = .ok (.lload_n 1, 1) := by decide +kernel
theorem dX0_runNextDay_21 : decode cX0_runNextDay 21 = .ok (.invokevirtual 159, 3) := by decide +kernel
theorem dX0_runNextDay_24 : decode cX0_runNextDay 24 = .ok (.aload_n 0, 1) := by decide +kernel
theorem dX0_runNextDay_25 : decode cX0_runNextDay 25 = .ok (.invokevirtual 162, 3) := by decide +kernel
theorem dX0_runNextDay_28 : decode cX0_runNextDay 28 = .ok (.lstore_n 3, 1) := by decide +kernel
theorem dX0_runNextDay_29 : decode cX0_runNextDay 29 = .ok (.aload_n 0, 1) := by decide +kernel
theorem dX0_runNextDay_30 : decode cX0_runNextDay 30 = .ok (.getfield 19, 3) := by decide +kernel
theorem dX0_runNextDay_33 : decode cX0_runNextDay 33 = .ok (.aload_n 0, 1) := by decide +kernel
theorem dX0_runNextDay_34 : decode cX0_runNextDay 34 = .ok (.getfield 93, 3) := by decide +kernel
theorem dX0_runNextDay_37 : decode cX0_runNextDay 37 = .ok (.aload_n 0, 1) := by decide +kernel
theorem dX0_runNextDay_38 : decode cX0_runNextDay 38 = .ok (.lload_n 3, 1) := by decide +kernel
theorem dX0_runNextDay_39 : decode cX0_runNextDay 39 = .ok (.invokevirtual 165, 3) := by decide +kernel
theorem dX0_runNextDay_42 : decode cX0_runNextDay 42 = .ok (.lastore, 1) := by decide +kernel
theorem dX0_runNextDay_43 : decode cX0_runNextDay 43 = .ok (.aload_n 0, 1) := by decide +kernel
theorem dX0_runNextDay_44 : decode cX0_runNextDay 44 = .ok (.dup, 1) := by decide +kernel
theorem dX0_runNextDay_45 : decode cX0_runNextDay 45 = .ok (.getfield 93, 3) := by decide +kernel
theorem dX0_runNextDay_48 : decode cX0_runNextDay 48 = .ok (.iconst 1, 1) := by decide +kernel
theorem dX0_runNextDay_49 : decode cX0_runNextDay 49 = .ok (.iadd, 1) := by decide +kernel
theorem dX0_runNextDay_50 : decode cX0_runNextDay 50 = .ok (.putfield 93, 3) := by decide +kernel
theorem dX0_runNextDay_53 : decode cX0_runNextDay 53 = .ok (.return_, 1) := by decide +kernel
theorem dX0_comeIn_0 : decode cX0_comeIn 0 = .ok (.aload_n 0, 1) := by decide +kernel
theorem dX0_comeIn_1 : decode cX0_comeIn 1 = .ok (.getfield 75, 3) := by decide +kernel
theorem dX0_comeIn_4 : decode cX0_comeIn 4 = .ok (.lload_n 1, 1) := by decide +kernel
theorem dX0_comeIn_5 : decode cX0_comeIn 5 = .ok (.invokestatic 169, 3) := by decide +kernel
theorem dX0_comeIn_8 : decode cX0_comeIn 8 = .ok (.lstore_n 3, 1) := by decide +kernel
theorem dX0_comeIn_9 : decode cX0_comeIn 9 = .ok (.aload_n 0, 1) := by decide +kernel
theorem dX0_comeIn_10 : decode cX0_comeIn 10 = .ok (.getfield 23, 3) := by decide +kernel
theorem dX0_comeIn_13 : decode cX0_comeIn 13 = .ok (.iconst 0, 1) := by decide +kernel
theorem dX0_comeIn_14 : decode cX0_comeIn 14 = .ok (.dup2, 1) := by decide +kernel
theorem dX0_comeIn_15 : decode cX0_comeIn 15 = .ok (.laload, 1) := by decide +kernel
theorem dX0_comeIn_16 : decode cX0_comeIn 16 = .ok (.lload_n 1, 1) := by decide +kernel
theorem dX0_comeIn_17 : decode cX0_comeIn 17 = .ok (.ladd, 1) := by decide +kernel
theorem dX0_comeIn_18 : decode cX0_comeIn 18 = .ok (.lastore, 1) := by decide +kernel
theorem dX0_comeIn_19 : decode cX0_comeIn 19 = .ok (.aload_n 0, 1) := by decide +kernel
theorem dX0_comeIn_20 : decode cX0_comeIn 20 = .ok (.getfield 23, 3) := by decide +kernel
theorem dX0_comeIn_23 : decode cX0_comeIn 23 = .ok (.iconst 1, 1) := by decide +kernel
theorem dX0_comeIn_24 : decode cX0_comeIn 24 = .ok (.dup2, 1) := by decide +kernel
theorem dX0_comeIn_25 : decode cX0_comeIn 25 = .ok (.laload, 1) := by decide +kernel
theorem dX0_comeIn_26 : decode cX0_comeIn 26 = .ok (.lload_n 3, 1) := by decide +kernel
theorem dX0_comeIn_27 : decode cX0_comeIn 27 = .ok (.ladd, 1) := by decide +kernel
theorem dX0_comeIn_28 : decode cX0_comeIn 28 = .ok (.lastore, 1) := by decide +kernel
theorem dX0_comeIn_29 : decode cX0_comeIn 29 = .ok (.aload_n 0, 1) := by decide +kernel
theorem dX0_comeIn_30 : decode cX0_comeIn 30 = .ok (.getfield 50, 3) := by decide +kernel
theorem dX0_comeIn_33 : decode cX0_comeIn 33 = .ok (.iconst 0, 1) := by decide +kernel
theorem dX0_comeIn_34 : decode cX0_comeIn 34 = .ok (.dup2, 1) := by decide +kernel
theorem dX0_comeIn_35 : decode cX0_comeIn 35 = .ok (.laload, 1) := by decide +kernel
theorem dX0_comeIn_36 : decode cX0_comeIn 36 = .ok (.lload_n 1, 1) := by decide +kernel
theorem dX0_comeIn_37 : decode cX0_comeIn 37 = .ok (.lload_n 3, 1) := by decide +kernel
theorem dX0_comeIn_38 : decode cX0_comeIn 38 = .ok (.lsub, 1) := by decide +kernel
theorem dX0_comeIn_39 : decode cX0_comeIn 39 = .ok (.aload_n 0, 1) := by decide +kernel
theorem dX0_comeIn_40 : decode cX0_comeIn 40 = .ok (.getfield 23, 3) := by decide +kernel
theorem dX0_comeIn_43 : decode cX0_comeIn 43 = .ok (.bipush 8, 2) := by decide +kernel
theorem dX0_comeIn_45 : decode cX0_comeIn 45 = .ok (.laload, 1) := by decide +kernel
theorem dX0_comeIn_46 : decode cX0_comeIn 46 = .ok (.ladd, 1) := by decide +kernel
theorem dX0_comeIn_47 : decode cX0_comeIn 47 = .ok (.ladd, 1) := by decide +kernel
theorem dX0_comeIn_48 : decode cX0_comeIn 48 = .ok (.lastore, 1) := by decide +kernel
theorem dX0_comeIn_49 : decode cX0_comeIn 49 = .ok (.return_, 1) := by decide +kernel
theorem dX0_partsOf_0 : decode cX0_partsOf 0 = .ok (.lload_n 1, 1) := by decide +kernel
theorem dX0_partsOf_1 : decode cX0_partsOf 1 = .ok (.iload_n 0, 1) := by decide +kernel
theorem dX0_partsOf_2 : decode cX0_partsOf 2 = .ok (.i2l, 1) := by decide +kernel
theorem dX0_partsOf_3 : decode cX0_partsOf 3 = .ok (.lmul, 1) := by decide +kernel
theorem dX0_partsOf_4 : decode cX0_partsOf 4 = .ok (.ldc2_w 145, 3) := by decide +kernel
theorem dX0_partsOf_7 : decode cX0_partsOf 7 = .ok (.ldiv, 1) := by decide +kernel
theorem dX0_partsOf_8 : decode cX0_partsOf 8 = .ok (.lreturn, 1) := by decide +kernel
theorem dX0_passDown_0 : decode cX0_passDown 0 = .ok (.lconst 0, 1) := by decide +kernel
theorem dX0_passDown_1 : decode cX0_passDown 1 = .ok (.lstore_n 1, 1) := by decide +kernel
theorem dX0_passDown_2 : decode cX0_passDown 2 = .ok (.iconst 0, 1) := by decide +kernel
theorem dX0_passDown_3 : decode cX0_passDown 3 = .ok (.istore_n 3, 1) := by decide +kernel
theorem dX0_passDown_4 : decode cX0_passDown 4 = .ok (.iload_n 3, 1) := by decide +kernel
theorem dX0_passDown_5 : decode cX0_passDown 5 = .ok (.aload_n 0, 1) := by decide +kernel
theorem dX0_passDown_6 : decode cX0_passDown 6 = .ok (.getfield 50, 3) := by decide +kernel
theorem dX0_passDown_9 : decode cX0_passDown 9 = .ok (.arraylength, 1) := by decide +kernel
theorem dX0_passDown_10 : decode cX0_passDown 10 = .ok (.if_icmp .ge 61, 3) := by decide +kernel
theorem dX0_passDown_13 : decode cX0_passDown 13 = .ok (.aload_n 0, 1) := by decide +kernel
theorem dX0_passDown_14 : decode cX0_passDown 14 = .ok (.getfield 50, 3) := by decide +kernel
theorem dX0_passDown_17 : decode cX0_passDown 17 = .ok (.iload_n 3, 1) := by decide +kernel
theorem dX0_passDown_18 : decode cX0_passDown 18 = .ok (.dup2, 1) := by decide +kernel
theorem dX0_passDown_19 : decode cX0_passDown 19 = .ok (.laload, 1) := by decide +kernel
theorem dX0_passDown_20 : decode cX0_passDown 20 = .ok (.lload_n 1, 1) := by decide +kernel
theorem dX0_passDown_21 : decode cX0_passDown 21 = .ok (.ladd, 1) := by decide +kernel
theorem dX0_passDown_22 : decode cX0_passDown 22 = .ok (.lastore, 1) := by decide +kernel
theorem dX0_passDown_23 : decode cX0_passDown 23 = .ok (.lconst 0, 1) := by decide +kernel
theorem dX0_passDown_24 : decode cX0_passDown 24 = .ok (.aload_n 0, 1) := by decide +kernel
theorem dX0_passDown_25 : decode cX0_passDown 25 = .ok (.getfield 50, 3) := by decide +kernel
theorem dX0_passDown_28 : decode cX0_passDown 28 = .ok (.iload_n 3, 1) := by decide +kernel
theorem dX0_passDown_29 : decode cX0_passDown 29 = .ok (.laload, 1) := by decide +kernel
theorem dX0_passDown_30 : decode cX0_passDown 30 = .ok (.aload_n 0, 1) := by decide +kernel
theorem dX0_passDown_31 : decode cX0_passDown 31 = .ok (.getfield 53, 3) := by decide +kernel
theorem dX0_passDown_34 : decode cX0_passDown 34 = .ok (.iload_n 3, 1) := by decide +kernel
theorem dX0_passDown_35 : decode cX0_passDown 35 = .ok (.iaload, 1) := by decide +kernel
theorem dX0_passDown_36 : decode cX0_passDown 36 = .ok (.i2l, 1) := by decide +kernel
theorem dX0_passDown_37 : decode cX0_passDown 37 = .ok (.lsub, 1) := by decide +kernel
theorem dX0_passDown_38 : decode cX0_passDown 38 = .ok (.invokestatic 173, 3) := by decide +kernel
theorem dX0_passDown_41 : decode cX0_passDown 41 = .ok (.lstore 4, 2) := by decide +kernel
theorem dX0_passDown_43 : decode cX0_passDown 43 = .ok (.aload_n 0, 1) := by decide +kernel
theorem dX0_passDown_44 : decode cX0_passDown 44 = .ok (.getfield 56, 3) := by decide +kernel
theorem dX0_passDown_47 : decode cX0_passDown 47 = .ok (.iload_n 3, 1) := by decide +kernel
theorem dX0_passDown_48 : decode cX0_passDown 48 = .ok (.iaload, 1) := by decide +kernel
theorem dX0_passDown_49 : decode cX0_passDown 49 = .ok (.lload 4, 2) := by decide +kernel
theorem dX0_passDown_51 : decode cX0_passDown 51 = .ok (.invokestatic 169, 3) := by decide +kernel
theorem dX0_passDown_54 : decode cX0_passDown 54 = .ok (.lstore_n 1, 1) := by decide +kernel
theorem dX0_passDown_55 : decode cX0_passDown 55 = .ok (.aload_n 0, 1) := by decide +kernel
theorem dX0_passDown_56 : decode cX0_passDown 56 = .ok (.getfield 50, 3) := by decide +kernel
theorem dX0_passDown_59 : decode cX0_passDown 59 = .ok (.iload_n 3, 1) := by decide +kernel
theorem dX0_passDown_60 : decode cX0_passDown 60 = .ok (.dup2, 1) := by decide +kernel
theorem dX0_passDown_61 : decode cX0_passDown 61 = .ok (.laload, 1) := by decide +kernel
theorem dX0_passDown_62 : decode cX0_passDown 62 = .ok (.lload_n 1, 1) := by decide +kernel
theorem dX0_passDown_63 : decode cX0_passDown 63 = .ok (.lsub, 1) := by decide +kernel
theorem dX0_passDown_64 : decode cX0_passDown 64 = .ok (.lastore, 1) := by decide +kernel
theorem dX0_passDown_65 : decode cX0_passDown 65 = .ok (.iinc 3 1, 3) := by decide +kernel
theorem dX0_passDown_68 : decode cX0_passDown 68 = .ok (.goto (-64), 3) := by decide +kernel
theorem dX0_passDown_71 : decode cX0_passDown 71 = .ok (.lload_n 1, 1) := by decide +kernel
theorem dX0_passDown_72 : decode cX0_passDown 72 = .ok (.lreturn, 1) := by decide +kernel
theorem dX0_fillTank_0 : decode cX0_fillTank 0 = .ok (.aload_n 0, 1) := by decide +kernel
theorem dX0_fillTank_1 : decode cX0_fillTank 1 = .ok (.getfield 79, 3) := by decide +kernel
theorem dX0_fillTank_4 : decode cX0_fillTank 4 = .ok (.lload_n 1, 1) := by decide +kernel
theorem dX0_fillTank_5 : decode cX0_fillTank 5 = .ok (.invokestatic 169, 3) := by decide +kernel
theorem dX0_fillTank_8 : decode cX0_fillTank 8 = .ok (.lstore_n 3, 1) := by decide +kernel
theorem dX0_fillTank_9 : decode cX0_fillTank 9 = .ok (.aload_n 0, 1) := by decide +kernel
theorem dX0_fillTank_10 : decode cX0_fillTank 10 = .ok (.getfield 23, 3) := by decide +kernel
theorem dX0_fillTank_13 : decode cX0_fillTank 13 = .ok (.iconst 2, 1) := by decide +kernel
theorem dX0_fillTank_14 : decode cX0_fillTank 14 = .ok (.dup2, 1) := by decide +kernel
theorem dX0_fillTank_15 : decode cX0_fillTank 15 = .ok (.laload, 1) := by decide +kernel
theorem dX0_fillTank_16 : decode cX0_fillTank 16 = .ok (.lload_n 1, 1) := by decide +kernel
theorem dX0_fillTank_17 : decode cX0_fillTank 17 = .ok (.ladd, 1) := by decide +kernel
theorem dX0_fillTank_18 : decode cX0_fillTank 18 = .ok (.lastore, 1) := by decide +kernel
theorem dX0_fillTank_19 : decode cX0_fillTank 19 = .ok (.aload_n 0, 1) := by decide +kernel
theorem dX0_fillTank_20 : decode cX0_fillTank 20 = .ok (.getfield 23, 3) := by decide +kernel
theorem dX0_fillTank_23 : decode cX0_fillTank 23 = .ok (.iconst 3, 1) := by decide +kernel
theorem dX0_fillTank_24 : decode cX0_fillTank 24 = .ok (.dup2, 1) := by decide +kernel
theorem dX0_fillTank_25 : decode cX0_fillTank 25 = .ok (.laload, 1) := by decide +kernel
theorem dX0_fillTank_26 : decode cX0_fillTank 26 = .ok (.lload_n 1, 1) := by decide +kernel
theorem dX0_fillTank_27 : decode cX0_fillTank 27 = .ok (.lload_n 3, 1) := by decide +kernel
theorem dX0_fillTank_28 : decode cX0_fillTank 28 = .ok (.lsub, 1) := by decide +kernel
theorem dX0_fillTank_29 : decode cX0_fillTank 29 = .ok (.ladd, 1) := by decide +kernel
theorem dX0_fillTank_30 : decode cX0_fillTank 30 = .ok (.lastore, 1) := by decide +kernel
theorem dX0_fillTank_31 : decode cX0_fillTank 31 = .ok (.aload_n 0, 1) := by decide +kernel
theorem dX0_fillTank_32 : decode cX0_fillTank 32 = .ok (.getfield 23, 3) := by decide +kernel
theorem dX0_fillTank_35 : decode cX0_fillTank 35 = .ok (.bipush 7, 2) := by decide +kernel
theorem dX0_fillTank_37 : decode cX0_fillTank 37 = .ok (.laload, 1) := by decide +kernel
theorem dX0_fillTank_38 : decode cX0_fillTank 38 = .ok (.lload_n 3, 1) := by decide +kernel
theorem dX0_fillTank_39 : decode cX0_fillTank 39 = .ok (.ladd, 1) := by decide +kernel
theorem dX0_fillTank_40 : decode cX0_fillTank 40 = .ok (.lstore 5, 2) := by decide +kernel
theorem dX0_fillTank_42 : decode cX0_fillTank 42 = .ok (.lconst 0, 1) := by decide +kernel
theorem dX0_fillTank_43 : decode cX0_fillTank 43 = .ok (.lload 5, 2) := by decide +kernel
theorem dX0_fillTank_45 : decode cX0_fillTank 45 = .ok (.aload_n 0, 1) := by decide +kernel
theorem dX0_fillTank_46 : decode cX0_fillTank 46 = .ok (.getfield 87, 3) := by decide +kernel
theorem dX0_fillTank_49 : decode cX0_fillTank 49 = .ok (.lsub, 1) := by decide +kernel
theorem dX0_fillTank_50 : decode cX0_fillTank 50 = .ok (.invokestatic 173, 3) := by decide +kernel
theorem dX0_fillTank_53 : decode cX0_fillTank 53 = .ok (.lstore 7, 2) := by decide +kernel
theorem dX0_fillTank_55 : decode cX0_fillTank 55 = .ok (.aload_n 0, 1) := by decide +kernel
theorem dX0_fillTank_56 : decode cX0_fillTank 56 = .ok (.getfield 23, 3) := by decide +kernel
theorem dX0_fillTank_59 : decode cX0_fillTank 59 = .ok (.iconst 4, 1) := by decide +kernel
theorem dX0_fillTank_60 : decode cX0_fillTank 60 = .ok (.dup2, 1) := by decide +kernel
theorem dX0_fillTank_61 : decode cX0_fillTank 61 = .ok (.laload, 1) := by decide +kernel
theorem dX0_fillTank_62 : decode cX0_fillTank 62 = .ok (.lload 7, 2) := by decide +kernel
theorem dX0_fillTank_64 : decode cX0_fillTank 64 = .ok (.ladd, 1) := by decide +kernel
theorem dX0_fillTank_65 : decode cX0_fillTank 65 = .ok (.lastore, 1) := by decide +kernel
theorem dX0_fillTank_66 : decode cX0_fillTank 66 = .ok (.aload_n 0, 1) := by decide +kernel
theorem dX0_fillTank_67 : decode cX0_fillTank 67 = .ok (.getfield 23, 3) := by decide +kernel
theorem dX0_fillTank_70 : decode cX0_fillTank 70 = .ok (.bipush 7, 2) := by decide +kernel
theorem dX0_fillTank_72 : decode cX0_fillTank 72 = .ok (.lload 5, 2) := by decide +kernel
theorem dX0_fillTank_74 : decode cX0_fillTank 74 = .ok (.lload 7, 2) := by decide +kernel
theorem dX0_fillTank_76 : decode cX0_fillTank 76 = .ok (.lsub, 1) := by decide +kernel
theorem dX0_fillTank_77 : decode cX0_fillTank 77 = .ok (.lastore, 1) := by decide +kernel
theorem dX0_fillTank_78 : decode cX0_fillTank 78 = .ok (.return_, 1) := by decide +kernel
theorem dX0_clean_0 : decode cX0_clean 0 = .ok (.aload_n 0, 1) := by decide +kernel
theorem dX0_clean_1 : decode cX0_clean 1 = .ok (.getfield 90, 3) := by decide +kernel
theorem dX0_clean_4 : decode cX0_clean 4 = .ok (.ifCond .ne 5, 3) := by decide +kernel
theorem dX0_clean_7 : decode cX0_clean 7 = .ok (.lconst 0, 1) := by decide +kernel
theorem dX0_clean_8 : decode cX0_clean 8 = .ok (.lreturn, 1) := by decide +kernel
theorem dX0_clean_9 : decode cX0_clean 9 = .ok (.aload_n 0, 1) := by decide +kernel
theorem dX0_clean_10 : decode cX0_clean 10 = .ok (.getfield 23, 3) := by decide +kernel
theorem dX0_clean_13 : decode cX0_clean 13 = .ok (.bipush 7, 2) := by decide +kernel
theorem dX0_clean_15 : decode cX0_clean 15 = .ok (.laload, 1) := by decide +kernel
theorem dX0_clean_16 : decode cX0_clean 16 = .ok (.lstore_n 1, 1) := by decide +kernel
theorem dX0_clean_17 : decode cX0_clean 17 = .ok (.aload_n 0, 1) := by decide +kernel
theorem dX0_clean_18 : decode cX0_clean 18 = .ok (.getfield 23, 3) := by decide +kernel
theorem dX0_clean_21 : decode cX0_clean 21 = .ok (.bipush 7, 2) := by decide +kernel
theorem dX0_clean_23 : decode cX0_clean 23 = .ok (.lconst 0, 1) := by decide +kernel
theorem dX0_clean_24 : decode cX0_clean 24 = .ok (.lastore, 1) := by decide +kernel
theorem dX0_clean_25 : decode cX0_clean 25 = .ok (.iconst 0, 1) := by decide +kernel
theorem dX0_clean_26 : decode cX0_clean 26 = .ok (.istore_n 3, 1) := by decide +kernel
theorem dX0_clean_27 : decode cX0_clean 27 = .ok (.iload_n 3, 1) := by decide +kernel
theorem dX0_clean_28 : decode cX0_clean 28 = .ok (.aload_n 0, 1) := by decide +kernel
theorem dX0_clean_29 : decode cX0_clean 29 = .ok (.getfield 90, 3) := by decide +kernel
theorem dX0_clean_32 : decode cX0_clean 32 = .ok (.if_icmp .ge 66, 3) := by decide +kernel
theorem dX0_clean_35 : decode cX0_clean 35 = .ok (.aload_n 0, 1) := by decide +kernel
theorem dX0_clean_36 : decode cX0_clean 36 = .ok (.getfield 9, 3) := by decide +kernel
theorem dX0_clean_39 : decode cX0_clean 39 = .ok (.iload_n 3, 1) := by decide +kernel
theorem dX0_clean_40 : decode cX0_clean 40 = .ok (.iaload, 1) := by decide +kernel
theorem dX0_clean_41 : decode cX0_clean 41 = .ok (.i2l, 1) := by decide +kernel
theorem dX0_clean_42 : decode cX0_clean 42 = .ok (.lload_n 1, 1) := by decide +kernel
theorem dX0_clean_43 : decode cX0_clean 43 = .ok (.invokestatic 179, 3) := by decide +kernel
theorem dX0_clean_46 : decode cX0_clean 46 = .ok (.lstore 4, 2) := by decide +kernel
theorem dX0_clean_48 : decode cX0_clean 48 = .ok (.aload_n 0, 1) := by decide +kernel
theorem dX0_clean_49 : decode cX0_clean 49 = .ok (.getfield 13, 3) := by decide +kernel
theorem dX0_clean_52 : decode cX0_clean 52 = .ok (.iload_n 3, 1) := by decide +kernel
theorem dX0_clean_53 : decode cX0_clean 53 = .ok (.iaload, 1) := by decide +kernel
theorem dX0_clean_54 : decode cX0_clean 54 = .ok (.lload 4, 2) := by decide +kernel
theorem dX0_clean_56 : decode cX0_clean 56 = .ok (.invokestatic 169, 3) := by decide +kernel
theorem dX0_clean_59 : decode cX0_clean 59 = .ok (.lstore 6, 2) := by decide +kernel
theorem dX0_clean_61 : decode cX0_clean 61 = .ok (.aload_n 0, 1) := by decide +kernel
theorem dX0_clean_62 : decode cX0_clean 62 = .ok (.getfield 23, 3) := by decide +kernel
theorem dX0_clean_65 : decode cX0_clean 65 = .ok (.bipush 7, 2) := by decide +kernel
theorem dX0_clean_67 : decode cX0_clean 67 = .ok (.dup2, 1) := by decide +kernel
theorem dX0_clean_68 : decode cX0_clean 68 = .ok (.laload, 1) := by decide +kernel
theorem dX0_clean_69 : decode cX0_clean 69 = .ok (.lload_n 1, 1) := by decide +kernel
theorem dX0_clean_70 : decode cX0_clean 70 = .ok (.lload 4, 2) := by decide +kernel
theorem dX0_clean_72 : decode cX0_clean 72 = .ok (.lsub, 1) := by decide +kernel
theorem dX0_clean_73 : decode cX0_clean 73 = .ok (.ladd, 1) := by decide +kernel
theorem dX0_clean_74 : decode cX0_clean 74 = .ok (.lastore, 1) := by decide +kernel
theorem dX0_clean_75 : decode cX0_clean 75 = .ok (.aload_n 0, 1) := by decide +kernel
theorem dX0_clean_76 : decode cX0_clean 76 = .ok (.getfield 23, 3) := by decide +kernel
theorem dX0_clean_79 : decode cX0_clean 79 = .ok (.iconst 5, 1) := by decide +kernel
theorem dX0_clean_80 : decode cX0_clean 80 = .ok (.dup2, 1) := by decide +kernel
theorem dX0_clean_81 : decode cX0_clean 81 = .ok (.laload, 1) := by decide +kernel
theorem dX0_clean_82 : decode cX0_clean 82 = .ok (.lload 6, 2) := by decide +kernel
theorem dX0_clean_84 : decode cX0_clean 84 = .ok (.ladd, 1) := by decide +kernel
theorem dX0_clean_85 : decode cX0_clean 85 = .ok (.lastore, 1) := by decide +kernel
theorem dX0_clean_86 : decode cX0_clean 86 = .ok (.lload 4, 2) := by decide +kernel
theorem dX0_clean_88 : decode cX0_clean 88 = .ok (.lload 6, 2) := by decide +kernel
theorem dX0_clean_90 : decode cX0_clean 90 = .ok (.lsub, 1) := by decide +kernel
theorem dX0_clean_91 : decode cX0_clean 91 = .ok (.lstore_n 1, 1) := by decide +kernel
theorem dX0_clean_92 : decode cX0_clean 92 = .ok (.iinc 3 1, 3) := by decide +kernel
theorem dX0_clean_95 : decode cX0_clean 95 = .ok (.goto (-68), 3) := by decide +kernel
theorem dX0_clean_98 : decode cX0_clean 98 = .ok (.lload_n 1, 1) := by decide +kernel
theorem dX0_clean_99 : decode cX0_clean 99 = .ok (.lreturn, 1) := by decide +kernel
theorem dX0_partAtTheEnd_0 : decode cX0_partAtTheEnd 0 = .ok (.aload_n 0, 1) := by decide +kernel
theorem dX0_partAtTheEnd_1 : decode cX0_partAtTheEnd 1 = .ok (.getfield 82, 3) := by decide +kernel
theorem dX0_partAtTheEnd_4 : decode cX0_partAtTheEnd 4 = .ok (.lload_n 1, 1) := by decide +kernel
theorem dX0_partAtTheEnd_5 : decode cX0_partAtTheEnd 5 = .ok (.invokestatic 169, 3) := by decide +kernel
theorem dX0_partAtTheEnd_8 : decode cX0_partAtTheEnd 8 = .ok (.lstore_n 3, 1) := by decide +kernel
theorem dX0_partAtTheEnd_9 : decode cX0_partAtTheEnd 9 = .ok (.lload_n 1, 1) := by decide +kernel
theorem dX0_partAtTheEnd_10 : decode cX0_partAtTheEnd 10 = .ok (.lload_n 3, 1) := by decide +kernel
theorem dX0_partAtTheEnd_11 : decode cX0_partAtTheEnd 11 = .ok (.lsub, 1) := by decide +kernel
theorem dX0_partAtTheEnd_12 : decode cX0_partAtTheEnd 12 = .ok (.lstore 5, 2) := by decide +kernel
theorem dX0_partAtTheEnd_14 : decode cX0_partAtTheEnd 14 = .ok (.aload_n 0, 1) := by decide +kernel
theorem dX0_partAtTheEnd_15 : decode cX0_partAtTheEnd 15 = .ok (.getfield 23, 3) := by decide +kernel
theorem dX0_partAtTheEnd_18 : decode cX0_partAtTheEnd 18 = .ok (.bipush 8, 2) := by decide +kernel
theorem dX0_partAtTheEnd_20 : decode cX0_partAtTheEnd 20 = .ok (.lload_n 3, 1) := by decide +kernel
theorem dX0_partAtTheEnd_21 : decode cX0_partAtTheEnd 21 = .ok (.lastore, 1) := by decide +kernel
theorem dX0_partAtTheEnd_22 : decode cX0_partAtTheEnd 22 = .ok (.aload_n 0, 1) := by decide +kernel
theorem dX0_partAtTheEnd_23 : decode cX0_partAtTheEnd 23 = .ok (.getfield 23, 3) := by decide +kernel
theorem dX0_partAtTheEnd_26 : decode cX0_partAtTheEnd 26 = .ok (.bipush 6, 2) := by decide +kernel
theorem dX0_partAtTheEnd_28 : decode cX0_partAtTheEnd 28 = .ok (.dup2, 1) := by decide +kernel
theorem dX0_partAtTheEnd_29 : decode cX0_partAtTheEnd 29 = .ok (.laload, 1) := by decide +kernel
theorem dX0_partAtTheEnd_30 : decode cX0_partAtTheEnd 30 = .ok (.lload 5, 2) := by decide +kernel
theorem dX0_partAtTheEnd_32 : decode cX0_partAtTheEnd 32 = .ok (.ladd, 1) := by decide +kernel
theorem dX0_partAtTheEnd_33 : decode cX0_partAtTheEnd 33 = .ok (.lastore, 1) := by decide +kernel
theorem dX0_partAtTheEnd_34 : decode cX0_partAtTheEnd 34 = .ok (.lload 5, 2) := by decide +kernel
theorem dX0_partAtTheEnd_36 : decode cX0_partAtTheEnd 36 = .ok (.lreturn, 1) := by decide +kernel
theorem dX0_held_0 : decode cX0_held 0 = .ok (.aload_n 0, 1) := by decide +kernel
theorem dX0_held_1 : decode cX0_held 1 = .ok (.iload_n 1, 1) := by decide +kernel
theorem dX0_held_2 : decode cX0_held 2 = .ok (.invokevirtual 66, 3) := by decide +kernel
theorem dX0_held_5 : decode cX0_held 5 = .ok (.ifCond .eq 12, 3) := by decide +kernel
theorem dX0_held_8 : decode cX0_held 8 = .ok (.aload_n 0, 1) := by decide +kernel
theorem dX0_held_9 : decode cX0_held 9 = .ok (.getfield 50, 3) := by decide +kernel
theorem dX0_held_12 : decode cX0_held 12 = .ok (.iload_n 1, 1) := by decide +kernel
theorem dX0_held_13 : decode cX0_held 13 = .ok (.laload, 1) := by decide +kernel
theorem dX0_held_14 : decode cX0_held 14 = .ok (.goto 6, 3) := by decide +kernel
theorem dX0_held_17 : decode cX0_held 17 = .ok (.ldc2_w 35, 3) := by decide +kernel
theorem dX0_held_20 : decode cX0_held 20 = .ok (.lreturn, 1) := by decide +kernel
theorem dX0_out_0 : decode cX0_out 0 = .ok (.iload_n 1, 1) := by decide +kernel
theorem dX0_out_1 : decode cX0_out 1 = .ok (.i2l, 1) := by decide +kernel
theorem dX0_out_2 : decode cX0_out 2 = .ok (.lconst 0, 1) := by decide +kernel
theorem dX0_out_3 : decode cX0_out 3 = .ok (.ldc2_w 108, 3) := by decide +kernel
theorem dX0_out_6 : decode cX0_out 6 = .ok (.invokestatic 46, 3) := by decide +kernel
theorem dX0_out_9 : decode cX0_out 9 = .ok (.ifCond .eq 12, 3) := by decide +kernel
theorem dX0_out_12 : decode cX0_out 12 = .ok (.aload_n 0, 1) := by decide +kernel
theorem dX0_out_13 : decode cX0_out 13 = .ok (.getfield 23, 3) := by decide +kernel
theorem dX0_out_16 : decode cX0_out 16 = .ok (.iload_n 1, 1) := by decide +kernel
theorem dX0_out_17 : decode cX0_out 17 = .ok (.laload, 1) := by decide +kernel
theorem dX0_out_18 : decode cX0_out 18 = .ok (.goto 6, 3) := by decide +kernel
theorem dX0_out_21 : decode cX0_out 21 = .ok (.ldc2_w 35, 3) := by decide +kernel
theorem dX0_out_24 : decode cX0_out 24 = .ok (.lreturn, 1) := by decide +kernel
theorem dX0_balance_0 : decode cX0_balance 0 = .ok (.aload_n 0, 1) := by decide +kernel
theorem dX0_balance_1 : decode cX0_balance 1 = .ok (.getfield 23, 3) := by decide +kernel
theorem dX0_balance_4 : decode cX0_balance 4 = .ok (.iconst 0, 1) := by decide +kernel
theorem dX0_balance_5 : decode cX0_balance 5 = .ok (.laload, 1) := by decide +kernel
theorem dX0_balance_6 : decode cX0_balance 6 = .ok (.aload_n 0, 1) := by decide +kernel
theorem dX0_balance_7 : decode cX0_balance 7 = .ok (.getfield 23, 3) := by decide +kernel
theorem dX0_balance_10 : decode cX0_balance 10 = .ok (.iconst 1, 1) := by decide +kernel
theorem dX0_balance_11 : decode cX0_balance 11 = .ok (.laload, 1) := by decide +kernel
theorem dX0_balance_12 : decode cX0_balance 12 = .ok (.lsub, 1) := by decide +kernel
theorem dX0_balance_13 : decode cX0_balance 13 = .ok (.aload_n 0, 1) := by decide +kernel
theorem dX0_balance_14 : decode cX0_balance 14 = .ok (.getfield 23, 3) := by decide +kernel
theorem dX0_balance_17 : decode cX0_balance 17 = .ok (.iconst 3, 1) := by decide +kernel
theorem dX0_balance_18 : decode cX0_balance 18 = .ok (.laload, 1) := by decide +kernel
theorem dX0_balance_19 : decode cX0_balance 19 = .ok (.lsub, 1) := by decide +kernel
theorem dX0_balance_20 : decode cX0_balance 20 = .ok (.aload_n 0, 1) := by decide +kernel
theorem dX0_balance_21 : decode cX0_balance 21 = .ok (.getfield 23, 3) := by decide +kernel
theorem dX0_balance_24 : decode cX0_balance 24 = .ok (.iconst 4, 1) := by decide +kernel
theorem dX0_balance_25 : decode cX0_balance 25 = .ok (.laload, 1) := by decide +kernel
theorem dX0_balance_26 : decode cX0_balance 26 = .ok (.lsub, 1) := by decide +kernel
theorem dX0_balance_27 : decode cX0_balance 27 = .ok (.aload_n 0, 1) := by decide +kernel
theorem dX0_balance_28 : decode cX0_balance 28 = .ok (.getfield 23, 3) := by decide +kernel
theorem dX0_balance_31 : decode cX0_balance 31 = .ok (.iconst 5, 1) := by decide +kernel
theorem dX0_balance_32 : decode cX0_balance 32 = .ok (.laload, 1) := by decide +kernel
theorem dX0_balance_33 : decode cX0_balance 33 = .ok (.lsub, 1) := by decide +kernel
theorem dX0_balance_34 : decode cX0_balance 34 = .ok (.aload_n 0, 1) := by decide +kernel
theorem dX0_balance_35 : decode cX0_balance 35 = .ok (.getfield 23, 3) := by decide +kernel
theorem dX0_balance_38 : decode cX0_balance 38 = .ok (.bipush 6, 2) := by decide +kernel
theorem dX0_balance_40 : decode cX0_balance 40 = .ok (.laload, 1) := by decide +kernel
theorem dX0_balance_41 : decode cX0_balance 41 = .ok (.lsub, 1) := by decide +kernel
theorem dX0_balance_42 : decode cX0_balance 42 = .ok (.aload_n 0, 1) := by decide +kernel
theorem dX0_balance_43 : decode cX0_balance 43 = .ok (.getfield 23, 3) := by decide +kernel
theorem dX0_balance_46 : decode cX0_balance 46 = .ok (.bipush 7, 2) := by decide +kernel
theorem dX0_balance_48 : decode cX0_balance 48 = .ok (.laload, 1) := by decide +kernel
theorem dX0_balance_49 : decode cX0_balance 49 = .ok (.lsub, 1) := by decide +kernel
theorem dX0_balance_50 : decode cX0_balance 50 = .ok (.aload_n 0, 1) := by decide +kernel
theorem dX0_balance_51 : decode cX0_balance 51 = .ok (.getfield 23, 3) := by decide +kernel
theorem dX0_balance_54 : decode cX0_balance 54 = .ok (.bipush 8, 2) := by decide +kernel
theorem dX0_balance_56 : decode cX0_balance 56 = .ok (.laload, 1) := by decide +kernel
theorem dX0_balance_57 : decode cX0_balance 57 = .ok (.lsub, 1) := by decide +kernel
theorem dX0_balance_58 : decode cX0_balance 58 = .ok (.lstore_n 1, 1) := by decide +kernel
theorem dX0_balance_59 : decode cX0_balance 59 = .ok (.iconst 0, 1) := by decide +kernel
theorem dX0_balance_60 : decode cX0_balance 60 = .ok (.istore_n 3, 1) := by decide +kernel
theorem dX0_balance_61 : decode cX0_balance 61 = .ok (.iload_n 3, 1) := by decide +kernel
theorem dX0_balance_62 : decode cX0_balance 62 = .ok (.aload_n 0, 1) := by decide +kernel
theorem dX0_balance_63 : decode cX0_balance 63 = .ok (.getfield 50, 3) := by decide +kernel
theorem dX0_balance_66 : decode cX0_balance 66 = .ok (.arraylength, 1) := by decide +kernel
theorem dX0_balance_67 : decode cX0_balance 67 = .ok (.if_icmp .ge 18, 3) := by decide +kernel
theorem dX0_balance_70 : decode cX0_balance 70 = .ok (.lload_n 1, 1) := by decide +kernel
theorem dX0_balance_71 : decode cX0_balance 71 = .ok (.aload_n 0, 1) := by decide +kernel
theorem dX0_balance_72 : decode cX0_balance 72 = .ok (.getfield 50, 3) := by decide +kernel
theorem dX0_balance_75 : decode cX0_balance 75 = .ok (.iload_n 3, 1) := by decide +kernel
theorem dX0_balance_76 : decode cX0_balance 76 = .ok (.laload, 1) := by decide +kernel
theorem dX0_balance_77 : decode cX0_balance 77 = .ok (.lsub, 1) := by decide +kernel
theorem dX0_balance_78 : decode cX0_balance 78 = .ok (.lstore_n 1, 1) := by decide +kernel
theorem dX0_balance_79 : decode cX0_balance 79 = .ok (.iinc 3 1, 3) := by decide +kernel
theorem dX0_balance_82 : decode cX0_balance 82 = .ok (.goto (-21), 3) := by decide +kernel
theorem dX0_balance_85 : decode cX0_balance 85 = .ok (.lload_n 1, 1) := by decide +kernel
theorem dX0_balance_86 : decode cX0_balance 86 = .ok (.lreturn, 1) := by decide +kernel
theorem dX0_limit_0 : decode cX0_limit 0 = .ok (.lload_n 1, 1) := by decide +kernel
theorem dX0_limit_1 : decode cX0_limit 1 = .ok (.ldc2_w 35, 3) := by decide +kernel
theorem dX0_limit_4 : decode cX0_limit 4 = .ok (.ldc2_w 85, 3) := by decide +kernel
theorem dX0_limit_7 : decode cX0_limit 7 = .ok (.invokestatic 46, 3) := by decide +kernel
theorem dX0_limit_10 : decode cX0_limit 10 = .ok (.ifCond .eq 16, 3) := by decide +kernel
theorem dX0_limit_13 : decode cX0_limit 13 = .ok (.lload_n 3, 1) := by decide +kernel
theorem dX0_limit_14 : decode cX0_limit 14 = .ok (.ldc2_w 35, 3) := by decide +kernel
theorem dX0_limit_17 : decode cX0_limit 17 = .ok (.ldc2_w 85, 3) := by decide +kernel
theorem dX0_limit_20 : decode cX0_limit 20 = .ok (.invokestatic 46, 3) := by decide +kernel
theorem dX0_limit_23 : decode cX0_limit 23 = .ok (.ifCond .ne 5, 3) := by decide +kernel
theorem dX0_limit_26 : decode cX0_limit 26 = .ok (.iconst 0, 1) := by decide +kernel
theorem dX0_limit_27 : decode cX0_limit 27 = .ok (.ireturn, 1) := by decide +kernel
theorem dX0_limit_28 : decode cX0_limit 28 = .ok (.aload_n 0, 1) := by decide +kernel
theorem dX0_limit_29 : decode cX0_limit 29 = .ok (.lload_n 1, 1) := by decide +kernel
theorem dX0_limit_30 : decode cX0_limit 30 = .ok (.putfield 37, 3) := by decide +kernel
theorem dX0_limit_33 : decode cX0_limit 33 = .ok (.aload_n 0, 1) := by decide +kernel
theorem dX0_limit_34 : decode cX0_limit 34 = .ok (.lload_n 3, 1) := by decide +kernel
theorem dX0_limit_35 : decode cX0_limit 35 = .ok (.putfield 41, 3) := by decide +kernel
theorem dX0_limit_38 : decode cX0_limit 38 = .ok (.iconst 1, 1) := by decide +kernel
theorem dX0_limit_39 : decode cX0_limit 39 = .ok (.ireturn, 1) := by decide +kernel
theorem dX0_passed_0 : decode cX0_passed 0 = .ok (.iload_n 1, 1) := by decide +kernel
theorem dX0_passed_1 : decode cX0_passed 1 = .ok (.ifCond .ne 9, 3) := by decide +kernel
theorem dX0_passed_4 : decode cX0_passed 4 = .ok (.aload_n 0, 1) := by decide +kernel
theorem dX0_passed_5 : decode cX0_passed 5 = .ok (.iload_n 2, 1) := by decide +kernel
theorem dX0_passed_6 : decode cX0_passed 6 = .ok (.invokevirtual 110, 3) := by decide +kernel
theorem dX0_passed_9 : decode cX0_passed 9 = .ok (.ireturn, 1) := by decide +kernel
theorem dX0_passed_10 : decode cX0_passed 10 = .ok (.iload_n 1, 1) := by decide +kernel
theorem dX0_passed_11 : decode cX0_passed 11 = .ok (.iconst 1, 1) := by decide +kernel
theorem dX0_passed_12 : decode cX0_passed 12 = .ok (.if_icmp .ne 11, 3) := by decide +kernel
theorem dX0_passed_15 : decode cX0_passed 15 = .ok (.aload_n 0, 1) := by decide +kernel
theorem dX0_passed_16 : decode cX0_passed 16 = .ok (.iload_n 2, 1) := by decide +kernel
theorem dX0_passed_17 : decode cX0_passed 17 = .ok (.invokevirtual 114, 3) := by decide +kernel
theorem dX0_passed_20 : decode cX0_passed 20 = .ok (.goto 4, 3) := by decide +kernel
theorem dX0_passed_23 : decode cX0_passed 23 = .ok (.iconst (-1), 1) := by decide +kernel
theorem dX0_passed_24 : decode cX0_passed 24 = .ok (.ireturn, 1) := by decide +kernel
theorem dX0_dayThatPasses_0 : decode cX0_dayThatPasses 0 = .ok (.aload_n 0, 1) := by decide +kernel
theorem dX0_dayThatPasses_1 : decode cX0_dayThatPasses 1 = .ok (.getfield 37, 3) := by decide +kernel
theorem dX0_dayThatPasses_4 : decode cX0_dayThatPasses 4 = .ok (.ldc2_w 35, 3) := by decide +kernel
theorem dX0_dayThatPasses_7 : decode cX0_dayThatPasses 7 = .ok (.lcmp, 1) := by decide +kernel
theorem dX0_dayThatPasses_8 : decode cX0_dayThatPasses 8 = .ok (.ifCond .ne 5, 3) := by decide +kernel
theorem dX0_dayThatPasses_11 : decode cX0_dayThatPasses 11 = .ok (.iconst (-1), 1) := by decide +kernel
theorem dX0_dayThatPasses_12 : decode cX0_dayThatPasses 12 = .ok (.ireturn, 1) := by decide +kernel
theorem dX0_dayThatPasses_13 : decode cX0_dayThatPasses 13 = .ok (.iconst 0, 1) := by decide +kernel
theorem dX0_dayThatPasses_14 : decode cX0_dayThatPasses 14 = .ok (.istore_n 2, 1) := by decide +kernel
theorem dX0_dayThatPasses_15 : decode cX0_dayThatPasses 15 = .ok (.iconst 0, 1) := by decide +kernel
theorem dX0_dayThatPasses_16 : decode cX0_dayThatPasses 16 = .ok (.istore_n 3, 1) := by decide +kernel
theorem dX0_dayThatPasses_17 : decode cX0_dayThatPasses 17 = .ok (.iload_n 3, 1) := by decide +kernel
theorem dX0_dayThatPasses_18 : decode cX0_dayThatPasses 18 = .ok (.aload_n 0, 1) := by decide +kernel
theorem dX0_dayThatPasses_19 : decode cX0_dayThatPasses 19 = .ok (.getfield 93, 3) := by decide +kernel
theorem dX0_dayThatPasses_22 : decode cX0_dayThatPasses 22 = .ok (.if_icmp .ge 33, 3) := by decide +kernel
theorem dX0_dayThatPasses_25 : decode cX0_dayThatPasses 25 = .ok (.aload_n 0, 1) := by decide +kernel
theorem dX0_dayThatPasses_26 : decode cX0_dayThatPasses 26 = .ok (.getfield 19, 3) := by decide +kernel
theorem dX0_dayThatPasses_29 : decode cX0_dayThatPasses 29 = .ok (.iload_n 3, 1) := by decide +kernel
theorem dX0_dayThatPasses_30 : decode cX0_dayThatPasses 30 = .ok (.laload, 1) := by decide +kernel
theorem dX0_dayThatPasses_31 : decode cX0_dayThatPasses 31 = .ok (.aload_n 0, 1) := by decide +kernel
theorem dX0_dayThatPasses_32 : decode cX0_dayThatPasses 32 = .ok (.getfield 37, 3) := by decide +kernel
theorem dX0_dayThatPasses_35 : decode cX0_dayThatPasses 35 = .ok (.lcmp, 1) := by decide +kernel
theorem dX0_dayThatPasses_36 : decode cX0_dayThatPasses 36 = .ok (.ifCond .le 13, 3) := by decide +kernel
theorem dX0_dayThatPasses_39 : decode cX0_dayThatPasses 39 = .ok (.iload_n 2, 1) := by decide +kernel
theorem dX0_dayThatPasses_40 : decode cX0_dayThatPasses 40 = .ok (.iload_n 1, 1) := by decide +kernel
theorem dX0_dayThatPasses_41 : decode cX0_dayThatPasses 41 = .ok (.if_icmp .ne 5, 3) := by decide +kernel
theorem dX0_dayThatPasses_44 : decode cX0_dayThatPasses 44 = .ok (.iload_n 3, 1) := by decide +kernel
theorem dX0_dayThatPasses_45 : decode cX0_dayThatPasses 45 = .ok (.ireturn, 1) := by decide +kernel
theorem dX0_dayThatPasses_46 : decode cX0_dayThatPasses 46 = .ok (.iinc 2 1, 3) := by decide +kernel
theorem dX0_dayThatPasses_49 : decode cX0_dayThatPasses 49 = .ok (.iinc 3 1, 3) := by decide +kernel
theorem dX0_dayThatPasses_52 : decode cX0_dayThatPasses 52 = .ok (.goto (-35), 3) := by decide +kernel
theorem dX0_dayThatPasses_55 : decode cX0_dayThatPasses 55 = .ok (.iconst (-1), 1) := by decide +kernel
theorem dX0_dayThatPasses_56 : decode cX0_dayThatPasses 56 = .ok (.ireturn, 1) := by decide +kernel
theorem dX0_dayUpToWhichMeanPasses_0 : decode cX0_dayUpToWhichMeanPasses 0 = .ok (.aload_n 0, 1) := by decide +kernel
theorem dX0_dayUpToWhichMeanPasses_1 : decode cX0_dayUpToWhichMeanPasses 1 = .ok (.getfield 41, 3) := by decide +kernel
theorem dX0_dayUpToWhichMeanPasses_4 : decode cX0_dayUpToWhichMeanPasses 4 = .ok (.ldc2_w 35, 3) := by decide +kernel
theorem dX0_dayUpToWhichMeanPasses_7 : decode cX0_dayUpToWhichMeanPasses 7 = .ok (.lcmp, 1) := by decide +kernel
theorem dX0_dayUpToWhichMeanPasses_8 : decode cX0_dayUpToWhichMeanPasses 8 = .ok (.ifCond .ne 5, 3) := by decide +kernel
theorem dX0_dayUpToWhichMeanPasses_11 : decode cX0_dayUpToWhichMeanPasses 11 = .ok (.iconst (-1), 1) := by decide +kernel
theorem dX0_dayUpToWhichMeanPasses_12 : decode cX0_dayUpToWhichMeanPasses 12 = .ok (.ireturn, 1) := by decide +kernel
theorem dX0_dayUpToWhichMeanPasses_13 : decode cX0_dayUpToWhichMeanPasses 13 = .ok (.iconst 0, 1) := by decide +kernel
theorem dX0_dayUpToWhichMeanPasses_14 : decode cX0_dayUpToWhichMeanPasses 14 = .ok (.istore_n 2, 1) := by decide +kernel
theorem dX0_dayUpToWhichMeanPasses_15 : decode cX0_dayUpToWhichMeanPasses 15 = .ok (.lconst 0, 1) := by decide +kernel
theorem dX0_dayUpToWhichMeanPasses_16 : decode cX0_dayUpToWhichMeanPasses 16 = .ok (.lstore_n 3, 1) := by decide +kernel
theorem dX0_dayUpToWhichMeanPasses_17 : decode cX0_dayUpToWhichMeanPasses 17 = .ok (.iconst 0, 1) := by decide +kernel
theorem dX0_dayUpToWhichMeanPasses_18 : decode cX0_dayUpToWhichMeanPasses 18 = .ok (.istore 5, 2) := by decide +kernel
theorem dX0_dayUpToWhichMeanPasses_20 : decode cX0_dayUpToWhichMeanPasses 20 = .ok (.iload 5, 2) := by decide +kernel
theorem dX0_dayUpToWhichMeanPasses_22 : decode cX0_dayUpToWhichMeanPasses 22 = .ok (.aload_n 0, 1) := by decide +kernel
theorem dX0_dayUpToWhichMeanPasses_23 : decode cX0_dayUpToWhichMeanPasses 23 = .ok (.getfield 93, 3) := by decide +kernel
theorem dX0_dayUpToWhichMeanPasses_26 : decode cX0_dayUpToWhichMeanPasses 26 = .ok (.if_icmp .ge 45, 3) := by decide +kernel
theorem dX0_dayUpToWhichMeanPasses_29 : decode cX0_dayUpToWhichMeanPasses 29 = .ok (.lload_n 3, 1) := by decide +kernel
theorem dX0_dayUpToWhichMeanPasses_30 : decode cX0_dayUpToWhichMeanPasses 30 = .ok (.aload_n 0, 1) := by decide +kernel
theorem dX0_dayUpToWhichMeanPasses_31 : decode cX0_dayUpToWhichMeanPasses 31 = .ok (.getfield 19, 3) := by decide +kernel
theorem dX0_dayUpToWhichMeanPasses_34 : decode cX0_dayUpToWhichMeanPasses 34 = .ok (.iload 5, 2) := by decide +kernel
theorem dX0_dayUpToWhichMeanPasses_36 : decode cX0_dayUpToWhichMeanPasses 36 = .ok (.laload, 1) := by decide +kernel
theorem dX0_dayUpToWhichMeanPasses_37 : decode cX0_dayUpToWhichMeanPasses 37 = .ok (.ladd, 1) := by decide +kernel
theorem dX0_dayUpToWhichMeanPasses_38 : decode cX0_dayUpToWhichMeanPasses 38 = .ok (.lstore_n 3, 1) := by decide +kernel
theorem dX0_dayUpToWhichMeanPasses_39 : decode cX0_dayUpToWhichMeanPasses 39 = .ok (.lload_n 3, 1) := by decide +kernel
theorem dX0_dayUpToWhichMeanPasses_40 : decode cX0_dayUpToWhichMeanPasses 40 = .ok (.aload_n 0, 1) := by decide +kernel
theorem dX0_dayUpToWhichMeanPasses_41 : decode cX0_dayUpToWhichMeanPasses 41 = .ok (.getfield 41, 3) := by decide +kernel
theorem dX0_dayUpToWhichMeanPasses_44 : decode cX0_dayUpToWhichMeanPasses 44 = .ok (.iload 5, 2) := by decide +kernel
theorem dX0_dayUpToWhichMeanPasses_46 : decode cX0_dayUpToWhichMeanPasses 46 = .ok (.iconst 1, 1) := by decide +kernel
theorem dX0_dayUpToWhichMeanPasses_47 : decode cX0_dayUpToWhichMeanPasses 47 = .ok (.iadd, 1) := by decide +kernel
theorem dX0_dayUpToWhichMeanPasses_48 : decode cX0_dayUpToWhichMeanPasses 48 = .ok (.i2l, 1) := by decide +kernel
theorem dX0_dayUpToWhichMeanPasses_49 : decode cX0_dayUpToWhichMeanPasses 49 = .ok (.lmul, 1) := by decide +kernel
theorem dX0_dayUpToWhichMeanPasses_50 : decode cX0_dayUpToWhichMeanPasses 50 = .ok (.lcmp, 1) := by decide +kernel
theorem dX0_dayUpToWhichMeanPasses_51 : decode cX0_dayUpToWhichMeanPasses 51 = .ok (.ifCond .le 14, 3) := by decide +kernel
theorem dX0_dayUpToWhichMeanPasses_54 : decode cX0_dayUpToWhichMeanPasses 54 = .ok (.iload_n 2, 1) := by decide +kernel
theorem dX0_dayUpToWhichMeanPasses_55 : decode cX0_dayUpToWhichMeanPasses 55 = .ok (.iload_n 1, 1) := by decide +kernel
theorem dX0_dayUpToWhichMeanPasses_56 : decode cX0_dayUpToWhichMeanPasses 56 = .ok (.if_icmp .ne 6, 3) := by decide +kernel
theorem dX0_dayUpToWhichMeanPasses_59 : decode cX0_dayUpToWhichMeanPasses 59 = .ok (.iload 5, 2) := by decide +kernel
theorem dX0_dayUpToWhichMeanPasses_61 : decode cX0_dayUpToWhichMeanPasses 61 = .ok (.ireturn, 1) := by decide +kernel
theorem dX0_dayUpToWhichMeanPasses_62 : decode cX0_dayUpToWhichMeanPasses 62 = .ok (.iinc 2 1, 3) := by decide +kernel
theorem dX0_dayUpToWhichMeanPasses_65 : decode cX0_dayUpToWhichMeanPasses 65 = .ok (.iinc 5 1, 3) := by decide +kernel
theorem dX0_dayUpToWhichMeanPasses_68 : decode cX0_dayUpToWhichMeanPasses 68 = .ok (.goto (-48), 3) := by decide +kernel
theorem dX0_dayUpToWhichMeanPasses_71 : decode cX0_dayUpToWhichMeanPasses 71 = .ok (.iconst (-1), 1) := by decide +kernel
theorem dX0_dayUpToWhichMeanPasses_72 : decode cX0_dayUpToWhichMeanPasses 72 = .ok (.ireturn, 1) := by decide +kernel
theorem dX0_sample_0 : decode cX0_sample 0 = .ok (.iload_n 1, 1) := by decide +kernel
theorem dX0_sample_1 : decode cX0_sample 1 = .ok (.invokestatic 117, 3) := by decide +kernel
theorem dX0_sample_4 : decode cX0_sample 4 = .ok (.ifCond .eq 29, 3) := by decide +kernel
theorem dX0_sample_7 : decode cX0_sample 7 = .ok (.iload_n 2, 1) := by decide +kernel
theorem dX0_sample_8 : decode cX0_sample 8 = .ok (.i2l, 1) := by decide +kernel
theorem dX0_sample_9 : decode cX0_sample 9 = .ok (.lconst 0, 1) := by decide +kernel
theorem dX0_sample_10 : decode cX0_sample 10 = .ok (.ldc2_w 120, 3) := by decide +kernel
theorem dX0_sample_13 : decode cX0_sample 13 = .ok (.invokestatic 46, 3) := by decide +kernel
theorem dX0_sample_16 : decode cX0_sample 16 = .ok (.ifCond .eq 17, 3) := by decide +kernel
theorem dX0_sample_19 : decode cX0_sample 19 = .ok (.iload_n 3, 1) := by decide +kernel
theorem dX0_sample_20 : decode cX0_sample 20 = .ok (.i2l, 1) := by decide +kernel
theorem dX0_sample_21 : decode cX0_sample 21 = .ok (.ldc2_w 122, 3) := by decide +kernel
theorem dX0_sample_24 : decode cX0_sample 24 = .ok (.ldc2_w 70, 3) := by decide +kernel
theorem dX0_sample_27 : decode cX0_sample 27 = .ok (.invokestatic 46, 3) := by decide +kernel
theorem dX0_sample_30 : decode cX0_sample 30 = .ok (.ifCond .ne 5, 3) := by decide +kernel
theorem dX0_sample_33 : decode cX0_sample 33 = .ok (.iconst (-1), 1) := by decide +kernel
theorem dX0_sample_34 : decode cX0_sample 34 = .ok (.ireturn, 1) := by decide +kernel
theorem dX0_sample_35 : decode cX0_sample 35 = .ok (.aload_n 0, 1) := by decide +kernel
theorem dX0_sample_36 : decode cX0_sample 36 = .ok (.getfield 28, 3) := by decide +kernel
theorem dX0_sample_39 : decode cX0_sample 39 = .ok (.iload_n 1, 1) := by decide +kernel
theorem dX0_sample_40 : decode cX0_sample 40 = .ok (.aaload, 1) := by decide +kernel
theorem dX0_sample_41 : decode cX0_sample 41 = .ok (.iload_n 2, 1) := by decide +kernel
theorem dX0_sample_42 : decode cX0_sample 42 = .ok (.iload_n 3, 1) := by decide +kernel
theorem dX0_sample_43 : decode cX0_sample 43 = .ok (.invokevirtual 124, 3) := by decide +kernel
theorem dX0_sample_46 : decode cX0_sample 46 = .ok (.ifCond .eq 15, 3) := by decide +kernel
theorem dX0_sample_49 : decode cX0_sample 49 = .ok (.aload_n 0, 1) := by decide +kernel
theorem dX0_sample_50 : decode cX0_sample 50 = .ok (.getfield 28, 3) := by decide +kernel
theorem dX0_sample_53 : decode cX0_sample 53 = .ok (.iload_n 1, 1) := by decide +kernel
theorem dX0_sample_54 : decode cX0_sample 54 = .ok (.aaload, 1) := by decide +kernel
theorem dX0_sample_55 : decode cX0_sample 55 = .ok (.getfield 128, 3) := by decide +kernel
theorem dX0_sample_58 : decode cX0_sample 58 = .ok (.goto 4, 3) := by decide +kernel
theorem dX0_sample_61 : decode cX0_sample 61 = .ok (.iconst (-1), 1) := by decide +kernel
theorem dX0_sample_62 : decode cX0_sample 62 = .ok (.ireturn, 1) := by decide +kernel
theorem dX0_isWell_0 : decode cX0_isWell 0 = .ok (.iload_n 0, 1) := by decide +kernel
theorem dX0_isWell_1 : decode cX0_isWell 1 = .ok (.i2l, 1) := by decide +kernel
theorem dX0_isWell_2 : decode cX0_isWell 2 = .ok (.lconst 0, 1) := by decide +kernel
theorem dX0_isWell_3 : decode cX0_isWell 3 = .ok (.ldc2_w 147, 3) := by decide +kernel
theorem dX0_isWell_6 : decode cX0_isWell 6 = .ok (.invokestatic 46, 3) := by decide +kernel
theorem dX0_isWell_9 : decode cX0_isWell 9 = .ok (.ireturn, 1) := by decide +kernel
theorem dX0_trend_0 : decode cX0_trend 0 = .ok (.iload_n 1, 1) := by decide +kernel
theorem dX0_trend_1 : decode cX0_trend 1 = .ok (.invokestatic 117, 3) := by decide +kernel
theorem dX0_trend_4 : decode cX0_trend 4 = .ok (.ifCond .eq 15, 3) := by decide +kernel
theorem dX0_trend_7 : decode cX0_trend 7 = .ok (.aload_n 0, 1) := by decide +kernel
theorem dX0_trend_8 : decode cX0_trend 8 = .ok (.getfield 28, 3) := by decide +kernel
theorem dX0_trend_11 : decode cX0_trend 11 = .ok (.iload_n 1, 1) := by decide +kernel
theorem dX0_trend_12 : decode cX0_trend 12 = .ok (.aaload, 1) := by decide +kernel
theorem dX0_trend_13 : decode cX0_trend 13 = .ok (.invokevirtual 131, 3) := by decide +kernel
theorem dX0_trend_16 : decode cX0_trend 16 = .ok (.goto 4, 3) := by decide +kernel
theorem dX0_trend_19 : decode cX0_trend 19 = .ok (.iconst 0, 1) := by decide +kernel
theorem dX0_trend_20 : decode cX0_trend 20 = .ok (.ireturn, 1) := by decide +kernel
theorem dX0_odds_0 : decode cX0_odds 0 = .ok (.iload_n 1, 1) := by decide +kernel
theorem dX0_odds_1 : decode cX0_odds 1 = .ok (.invokestatic 117, 3) := by decide +kernel
theorem dX0_odds_4 : decode cX0_odds 4 = .ok (.ifCond .eq 13, 3) := by decide +kernel
theorem dX0_odds_7 : decode cX0_odds 7 = .ok (.iload_n 2, 1) := by decide +kernel
theorem dX0_odds_8 : decode cX0_odds 8 = .ok (.i2l, 1) := by decide +kernel
theorem dX0_odds_9 : decode cX0_odds 9 = .ok (.lconst 0, 1) := by decide +kernel
theorem dX0_odds_10 : decode cX0_odds 10 = .ok (.lconst 1, 1) := by decide +kernel
theorem dX0_odds_11 : decode cX0_odds 11 = .ok (.invokestatic 46, 3) := by decide +kernel
theorem dX0_odds_14 : decode cX0_odds 14 = .ok (.ifCond .ne 5, 3) := by decide +kernel
theorem dX0_odds_17 : decode cX0_odds 17 = .ok (.iconst (-1), 1) := by decide +kernel
theorem dX0_odds_18 : decode cX0_odds 18 = .ok (.ireturn, 1) := by decide +kernel
theorem dX0_odds_19 : decode cX0_odds 19 = .ok (.aload_n 0, 1) := by decide +kernel
theorem dX0_odds_20 : decode cX0_odds 20 = .ok (.getfield 28, 3) := by decide +kernel
theorem dX0_odds_23 : decode cX0_odds 23 = .ok (.iload_n 1, 1) := by decide +kernel
theorem dX0_odds_24 : decode cX0_odds 24 = .ok (.aaload, 1) := by decide +kernel
theorem dX0_odds_25 : decode cX0_odds 25 = .ok (.getfield 128, 3) := by decide +kernel
theorem dX0_odds_28 : decode cX0_odds 28 = .ok (.istore_n 3, 1) := by decide +kernel
theorem dX0_odds_29 : decode cX0_odds 29 = .ok (.aload_n 0, 1) := by decide +kernel
theorem dX0_odds_30 : decode cX0_odds 30 = .ok (.iload_n 3, 1) := by decide +kernel
theorem dX0_odds_31 : decode cX0_odds 31 = .ok (.aload_n 0, 1) := by decide +kernel
theorem dX0_odds_32 : decode cX0_odds 32 = .ok (.getfield 28, 3) := by decide +kernel
theorem dX0_odds_35 : decode cX0_odds 35 = .ok (.iload_n 1, 1) := by decide +kernel
theorem dX0_odds_36 : decode cX0_odds 36 = .ok (.aaload, 1) := by decide +kernel
theorem dX0_odds_37 : decode cX0_odds 37 = .ok (.invokevirtual 131, 3) := by decide +kernel
theorem dX0_odds_40 : decode cX0_odds 40 = .ok (.invokevirtual 135, 3) := by decide +kernel
theorem dX0_odds_43 : decode cX0_odds 43 = .ok (.istore 4, 2) := by decide +kernel
theorem dX0_odds_45 : decode cX0_odds 45 = .ok (.iload_n 3, 1) := by decide +kernel
theorem dX0_odds_46 : decode cX0_odds 46 = .ok (.invokestatic 139, 3) := by decide +kernel
theorem dX0_odds_49 : decode cX0_odds 49 = .ok (.istore 5, 2) := by decide +kernel
theorem dX0_odds_51 : decode cX0_odds 51 = .ok (.iload 5, 2) := by decide +kernel
theorem dX0_odds_53 : decode cX0_odds 53 = .ok (.iload 4, 2) := by decide +kernel
theorem dX0_odds_55 : decode cX0_odds 55 = .ok (.invokestatic 142, 3) := by decide +kernel
theorem dX0_odds_58 : decode cX0_odds 58 = .ok (.istore 6, 2) := by decide +kernel
theorem dX0_odds_60 : decode cX0_odds 60 = .ok (.iload_n 2, 1) := by decide +kernel
theorem dX0_odds_61 : decode cX0_odds 61 = .ok (.ifCond .ne 8, 3) := by decide +kernel
theorem dX0_odds_64 : decode cX0_odds 64 = .ok (.iload 4, 2) := by decide +kernel
theorem dX0_odds_66 : decode cX0_odds 66 = .ok (.goto 5, 3) := by decide +kernel
theorem dX0_odds_69 : decode cX0_odds 69 = .ok (.iload 5, 2) := by decide +kernel
theorem dX0_odds_71 : decode cX0_odds 71 = .ok (.iload 6, 2) := by decide +kernel
theorem dX0_odds_73 : decode cX0_odds 73 = .ok (.idiv, 1) := by decide +kernel
theorem dX0_odds_74 : decode cX0_odds 74 = .ok (.ireturn, 1) := by decide +kernel
theorem dX0_ordersAsFar_0 : decode cX0_ordersAsFar 0 = .ok (.aload_n 0, 1) := by decide +kernel
theorem dX0_ordersAsFar_1 : decode cX0_ordersAsFar 1 = .ok (.iload_n 1, 1) := by decide +kernel
theorem dX0_ordersAsFar_2 : decode cX0_ordersAsFar 2 = .ok (.invokevirtual 182, 3) := by decide +kernel
theorem dX0_ordersAsFar_5 : decode cX0_ordersAsFar 5 = .ok (.iload_n 1, 1) := by decide +kernel
theorem dX0_ordersAsFar_6 : decode cX0_ordersAsFar 6 = .ok (.iload_n 1, 1) := by decide +kernel
theorem dX0_ordersAsFar_7 : decode cX0_ordersAsFar 7 = .ok (.iconst 1, 1) := by decide +kernel
theorem dX0_ordersAsFar_8 : decode cX0_ordersAsFar 8 = .ok (.isub, 1) := by decide +kernel
theorem dX0_ordersAsFar_9 : decode cX0_ordersAsFar 9 = .ok (.imul, 1) := by decide +kernel
theorem dX0_ordersAsFar_10 : decode cX0_ordersAsFar 10 = .ok (.iconst 2, 1) := by decide +kernel
theorem dX0_ordersAsFar_11 : decode cX0_ordersAsFar 11 = .ok (.idiv, 1) := by decide +kernel
theorem dX0_ordersAsFar_12 : decode cX0_ordersAsFar 12 = .ok (.istore_n 3, 1) := by decide +kernel
theorem dX0_ordersAsFar_13 : decode cX0_ordersAsFar 13 = .ok (.iconst 0, 1) := by decide +kernel
theorem dX0_ordersAsFar_14 : decode cX0_ordersAsFar 14 = .ok (.istore 4, 2) := by decide +kernel
theorem dX0_ordersAsFar_16 : decode cX0_ordersAsFar 16 = .ok (.iconst 0, 1) := by decide +kernel
theorem dX0_ordersAsFar_17 : decode cX0_ordersAsFar 17 = .ok (.istore 5, 2) := by decide +kernel
theorem dX0_ordersAsFar_19 : decode cX0_ordersAsFar 19 = .ok (.iload 5, 2) := by decide +kernel
theorem dX0_ordersAsFar_21 : decode cX0_ordersAsFar 21 = .ok (.aload_n 0, 1) := by decide +kernel
theorem dX0_ordersAsFar_22 : decode cX0_ordersAsFar 22 = .ok (.getfield 32, 3) := by decide +kernel
theorem dX0_ordersAsFar_25 : decode cX0_ordersAsFar 25 = .ok (.arraylength, 1) := by decide +kernel
theorem dX0_ordersAsFar_26 : decode cX0_ordersAsFar 26 = .ok (.if_icmp .ge 43, 3) := by decide +kernel
theorem dX0_ordersAsFar_29 : decode cX0_ordersAsFar 29 = .ok (.iload 5, 2) := by decide +kernel
theorem dX0_ordersAsFar_31 : decode cX0_ordersAsFar 31 = .ok (.iload_n 3, 1) := by decide +kernel
theorem dX0_ordersAsFar_32 : decode cX0_ordersAsFar 32 = .ok (.if_icmp .gt 37, 3) := by decide +kernel
theorem dX0_ordersAsFar_35 : decode cX0_ordersAsFar 35 = .ok (.iload_n 3, 1) := by decide +kernel
theorem dX0_ordersAsFar_36 : decode cX0_ordersAsFar 36 = .ok (.iconst 2, 1) := by decide +kernel
theorem dX0_ordersAsFar_37 : decode cX0_ordersAsFar 37 = .ok (.iload 5, 2) := by decide +kernel
theorem dX0_ordersAsFar_39 : decode cX0_ordersAsFar 39 = .ok (.imul, 1) := by decide +kernel
theorem dX0_ordersAsFar_40 : decode cX0_ordersAsFar 40 = .ok (.isub, 1) := by decide +kernel
theorem dX0_ordersAsFar_41 : decode cX0_ordersAsFar 41 = .ok (.invokestatic 186, 3) := by decide +kernel
theorem dX0_ordersAsFar_44 : decode cX0_ordersAsFar 44 = .ok (.iload_n 2, 1) := by decide +kernel
theorem dX0_ordersAsFar_45 : decode cX0_ordersAsFar 45 = .ok (.invokestatic 186, 3) := by decide +kernel
theorem dX0_ordersAsFar_48 : decode cX0_ordersAsFar 48 = .ok (.if_icmp .lt 15, 3) := by decide +kernel
theorem dX0_ordersAsFar_51 : decode cX0_ordersAsFar 51 = .ok (.iload 4, 2) := by decide +kernel
theorem dX0_ordersAsFar_53 : decode cX0_ordersAsFar 53 = .ok (.aload_n 0, 1) := by decide +kernel
theorem dX0_ordersAsFar_54 : decode cX0_ordersAsFar 54 = .ok (.getfield 32, 3) := by decide +kernel
theorem dX0_ordersAsFar_57 : decode cX0_ordersAsFar 57 = .ok (.iload 5, 2) := by decide +kernel
theorem dX0_ordersAsFar_59 : decode cX0_ordersAsFar 59 = .ok (.iaload, 1) := by decide +kernel
theorem dX0_ordersAsFar_60 : decode cX0_ordersAsFar 60 = .ok (.iadd, 1) := by decide +kernel
theorem dX0_ordersAsFar_61 : decode cX0_ordersAsFar 61 = .ok (.istore 4, 2) := by decide +kernel
theorem dX0_ordersAsFar_63 : decode cX0_ordersAsFar 63 = .ok (.iinc 5 1, 3) := by decide +kernel
theorem dX0_ordersAsFar_66 : decode cX0_ordersAsFar 66 = .ok (.goto (-47), 3) := by decide +kernel
theorem dX0_ordersAsFar_69 : decode cX0_ordersAsFar 69 = .ok (.iload 4, 2) := by decide +kernel
theorem dX0_ordersAsFar_71 : decode cX0_ordersAsFar 71 = .ok (.ireturn, 1) := by decide +kernel
theorem dX0_countOrdersByFalls_0 : decode cX0_countOrdersByFalls 0 = .ok (.aload_n 0, 1) := by decide +kernel
theorem dX0_countOrdersByFalls_1 : decode cX0_countOrdersByFalls 1 = .ok (.getfield 32, 3) := by decide +kernel
theorem dX0_countOrdersByFalls_4 : decode cX0_countOrdersByFalls 4 = .ok (.iconst 0, 1) := by decide +kernel
theorem dX0_countOrdersByFalls_5 : decode cX0_countOrdersByFalls 5 = .ok (.invokestatic 59, 3) := by decide +kernel
theorem dX0_countOrdersByFalls_8 : decode cX0_countOrdersByFalls 8 = .ok (.aload_n 0, 1) := by decide +kernel
theorem dX0_countOrdersByFalls_9 : decode cX0_countOrdersByFalls 9 = .ok (.getfield 32, 3) := by decide +kernel
theorem dX0_countOrdersByFalls_12 : decode cX0_countOrdersByFalls 12 = .ok (.iconst 0, 1) := by decide +kernel
theorem dX0_countOrdersByFalls_13 : decode cX0_countOrdersByFalls 13 = .ok (.iconst 1, 1) := by decide +kernel
theorem dX0_countOrdersByFalls_14 : decode cX0_countOrdersByFalls 14 = .ok (.iastore, 1) := by decide +kernel
theorem dX0_countOrdersByFalls_15 : decode cX0_countOrdersByFalls 15 = .ok (.iconst 2, 1) := by decide +kernel
theorem dX0_countOrdersByFalls_16 : decode cX0_countOrdersByFalls 16 = .ok (.istore_n 2, 1) := by decide +kernel
theorem dX0_countOrdersByFalls_17 : decode cX0_countOrdersByFalls 17 = .ok (.iload_n 2, 1) := by decide +kernel
theorem dX0_countOrdersByFalls_18 : decode cX0_countOrdersByFalls 18 = .ok (.iload_n 1, 1) := by decide +kernel
theorem dX0_countOrdersByFalls_19 : decode cX0_countOrdersByFalls 19 = .ok (.if_icmp .gt 14, 3) := by decide +kernel
theorem dX0_countOrdersByFalls_22 : decode cX0_countOrdersByFalls 22 = .ok (.aload_n 0, 1) := by decide +kernel
theorem dX0_countOrdersByFalls_23 : decode cX0_countOrdersByFalls 23 = .ok (.iload_n 2, 1) := by decide +kernel
theorem dX0_countOrdersByFalls_24 : decode cX0_countOrdersByFalls 24 = .ok (.invokevirtual 189, 3) := by decide +kernel
theorem dX0_countOrdersByFalls_27 : decode cX0_countOrdersByFalls 27 = .ok (.iinc 2 1, 3) := by decide +kernel
theorem dX0_countOrdersByFalls_30 : decode cX0_countOrdersByFalls 30 = .ok (.goto (-13), 3) := by decide +kernel
theorem dX0_countOrdersByFalls_33 : decode cX0_countOrdersByFalls 33 = .ok (.return_, 1) := by decide +kernel
theorem dX0_addValueToOrders_0 : decode cX0_addValueToOrders 0 = .ok (.iconst 1, 1) := by decide +kernel
theorem dX0_addValueToOrders_1 : decode cX0_addValueToOrders 1 = .ok (.istore_n 2, 1) := by decide +kernel
theorem dX0_addValueToOrders_2 : decode cX0_addValueToOrders 2 = .ok (.iload_n 2, 1) := by decide +kernel
theorem dX0_addValueToOrders_3 : decode cX0_addValueToOrders 3 = .ok (.aload_n 0, 1) := by decide +kernel
theorem dX0_addValueToOrders_4 : decode cX0_addValueToOrders 4 = .ok (.getfield 32, 3) := by decide +kernel
theorem dX0_addValueToOrders_7 : decode cX0_addValueToOrders 7 = .ok (.arraylength, 1) := by decide +kernel
theorem dX0_addValueToOrders_8 : decode cX0_addValueToOrders 8 = .ok (.if_icmp .ge 26, 3) := by decide +kernel
theorem dX0_addValueToOrders_11 : decode cX0_addValueToOrders 11 = .ok (.aload_n 0, 1) := by decide +kernel
theorem dX0_addValueToOrders_12 : decode cX0_addValueToOrders 12 = .ok (.getfield 32, 3) := by decide +kernel
theorem dX0_addValueToOrders_15 : decode cX0_addValueToOrders 15 = .ok (.iload_n 2, 1) := by decide +kernel
theorem dX0_addValueToOrders_16 : decode cX0_addValueToOrders 16 = .ok (.dup2, 1) := by decide +kernel
theorem dX0_addValueToOrders_17 : decode cX0_addValueToOrders 17 = .ok (.iaload, 1) := by decide +kernel
theorem dX0_addValueToOrders_18 : decode cX0_addValueToOrders 18 = .ok (.aload_n 0, 1) := by decide +kernel
theorem dX0_addValueToOrders_19 : decode cX0_addValueToOrders 19 = .ok (.getfield 32, 3) := by decide +kernel
theorem dX0_addValueToOrders_22 : decode cX0_addValueToOrders 22 = .ok (.iload_n 2, 1) := by decide +kernel
theorem dX0_addValueToOrders_23 : decode cX0_addValueToOrders 23 = .ok (.iconst 1, 1) := by decide +kernel
theorem dX0_addValueToOrders_24 : decode cX0_addValueToOrders 24 = .ok (.isub, 1) := by decide +kernel
theorem dX0_addValueToOrders_25 : decode cX0_addValueToOrders 25 = .ok (.iaload, 1) := by decide +kernel
theorem dX0_addValueToOrders_26 : decode cX0_addValueToOrders 26 = .ok (.iadd, 1) := by decide +kernel
theorem dX0_addValueToOrders_27 : decode cX0_addValueToOrders 27 = .ok (.iastore, 1) := by decide +kernel
theorem dX0_addValueToOrders_28 : decode cX0_addValueToOrders 28 = .ok (.iinc 2 1, 3) := by decide +kernel
theorem dX0_addValueToOrders_31 : decode cX0_addValueToOrders 31 = .ok (.goto (-29), 3) := by decide +kernel
theorem dX0_addValueToOrders_34 : decode cX0_addValueToOrders 34 = .ok (.aload_n 0, 1) := by decide +kernel
theorem dX0_addValueToOrders_35 : decode cX0_addValueToOrders 35 = .ok (.getfield 32, 3) := by decide +kernel
theorem dX0_addValueToOrders_38 : decode cX0_addValueToOrders 38 = .ok (.arraylength, 1) := by decide +kernel
theorem dX0_addValueToOrders_39 : decode cX0_addValueToOrders 39 = .ok (.iconst 1, 1) := by decide +kernel
theorem dX0_addValueToOrders_40 : decode cX0_addValueToOrders 40 = .ok (.isub, 1) := by decide +kernel
theorem dX0_addValueToOrders_41 : decode cX0_addValueToOrders 41 = .ok (.istore_n 2, 1) := by decide +kernel
theorem dX0_addValueToOrders_42 : decode cX0_addValueToOrders 42 = .ok (.iload_n 2, 1) := by decide +kernel
theorem dX0_addValueToOrders_43 : decode cX0_addValueToOrders 43 = .ok (.iload_n 1, 1) := by decide +kernel
theorem dX0_addValueToOrders_44 : decode cX0_addValueToOrders 44 = .ok (.if_icmp .lt 26, 3) := by decide +kernel
theorem dX0_addValueToOrders_47 : decode cX0_addValueToOrders 47 = .ok (.aload_n 0, 1) := by decide +kernel
theorem dX0_addValueToOrders_48 : decode cX0_addValueToOrders 48 = .ok (.getfield 32, 3) := by decide +kernel
theorem dX0_addValueToOrders_51 : decode cX0_addValueToOrders 51 = .ok (.iload_n 2, 1) := by decide +kernel
theorem dX0_addValueToOrders_52 : decode cX0_addValueToOrders 52 = .ok (.dup2, 1) := by decide +kernel
theorem dX0_addValueToOrders_53 : decode cX0_addValueToOrders 53 = .ok (.iaload, 1) := by decide +kernel
theorem dX0_addValueToOrders_54 : decode cX0_addValueToOrders 54 = .ok (.aload_n 0, 1) := by decide +kernel
theorem dX0_addValueToOrders_55 : decode cX0_addValueToOrders 55 = .ok (.getfield 32, 3) := by decide +kernel
theorem dX0_addValueToOrders_58 : decode cX0_addValueToOrders 58 = .ok (.iload_n 2, 1) := by decide +kernel
theorem dX0_addValueToOrders_59 : decode cX0_addValueToOrders 59 = .ok (.iload_n 1, 1) := by decide +kernel
theorem dX0_addValueToOrders_60 : decode cX0_addValueToOrders 60 = .ok (.isub, 1) := by decide +kernel
theorem dX0_addValueToOrders_61 : decode cX0_addValueToOrders 61 = .ok (.iaload, 1) := by decide +kernel
theorem dX0_addValueToOrders_62 : decode cX0_addValueToOrders 62 = .ok (.isub, 1) := by decide +kernel
theorem dX0_addValueToOrders_63 : decode cX0_addValueToOrders 63 = .ok (.iastore, 1) := by decide +kernel
theorem dX0_addValueToOrders_64 : decode cX0_addValueToOrders 64 = .ok (.iinc 2 (-1), 3) := by decide +kernel
theorem dX0_addValueToOrders_67 : decode cX0_addValueToOrders 67 = .ok (.goto (-25), 3) := by decide +kernel
theorem dX0_addValueToOrders_70 : decode cX0_addValueToOrders 70 = .ok (.return_, 1) := by decide +kernel
theorem dX0_ordersOf_0 : decode cX0_ordersOf 0 = .ok (.iconst 1, 1) := by decide +kernel
theorem dX0_ordersOf_1 : decode cX0_ordersOf 1 = .ok (.istore_n 1, 1) := by decide +kernel
theorem dX0_ordersOf_2 : decode cX0_ordersOf 2 = .ok (.iconst 2, 1) := by decide +kernel
theorem dX0_ordersOf_3 : decode cX0_ordersOf 3 = .ok (.istore_n 2, 1) := by decide +kernel
theorem dX0_ordersOf_4 : decode cX0_ordersOf 4 = .ok (.iload_n 2, 1) := by decide +kernel
theorem dX0_ordersOf_5 : decode cX0_ordersOf 5 = .ok (.iload_n 0, 1) := by decide +kernel
theorem dX0_ordersOf_6 : decode cX0_ordersOf 6 = .ok (.if_icmp .gt 13, 3) := by decide +kernel
theorem dX0_ordersOf_9 : decode cX0_ordersOf 9 = .ok (.iload_n 1, 1) := by decide +kernel
theorem dX0_ordersOf_10 : decode cX0_ordersOf 10 = .ok (.iload_n 2, 1) := by decide +kernel
theorem dX0_ordersOf_11 : decode cX0_ordersOf 11 = .ok (.imul, 1) := by decide +kernel
theorem dX0_ordersOf_12 : decode cX0_ordersOf 12 = .ok (.istore_n 1, 1) := by decide +kernel
theorem dX0_ordersOf_13 : decode cX0_ordersOf 13 = .ok (.iinc 2 1, 3) := by decide +kernel
theorem dX0_ordersOf_16 : decode cX0_ordersOf 16 = .ok (.goto (-12), 3) := by decide +kernel
theorem dX0_ordersOf_19 : decode cX0_ordersOf 19 = .ok (.iload_n 1, 1) := by decide +kernel
theorem dX0_ordersOf_20 : decode cX0_ordersOf 20 = .ok (.ireturn, 1) := by decide +kernel
theorem dX0_commonDivisor_0 : decode cX0_commonDivisor 0 = .ok (.iload_n 0, 1) := by decide +kernel
theorem dX0_commonDivisor_1 : decode cX0_commonDivisor 1 = .ok (.istore_n 2, 1) := by decide +kernel
theorem dX0_commonDivisor_2 : decode cX0_commonDivisor 2 = .ok (.iload_n 1, 1) := by decide +kernel
theorem dX0_commonDivisor_3 : decode cX0_commonDivisor 3 = .ok (.istore_n 3, 1) := by decide +kernel
theorem dX0_commonDivisor_4 : decode cX0_commonDivisor 4 = .ok (.iconst 0, 1) := by decide +kernel
theorem dX0_commonDivisor_5 : decode cX0_commonDivisor 5 = .ok (.istore 4, 2) := by decide +kernel
theorem dX0_commonDivisor_7 : decode cX0_commonDivisor 7 = .ok (.iload 4, 2) := by decide +kernel
theorem dX0_commonDivisor_9 : decode cX0_commonDivisor 9 = .ok (.bipush 64, 2) := by decide +kernel
theorem dX0_commonDivisor_11 : decode cX0_commonDivisor 11 = .ok (.if_icmp .ge 23, 3) := by decide +kernel
theorem dX0_commonDivisor_14 : decode cX0_commonDivisor 14 = .ok (.iload_n 3, 1) := by decide +kernel
theorem dX0_commonDivisor_15 : decode cX0_commonDivisor 15 = .ok (.ifCond .eq 19, 3) := by decide +kernel
theorem dX0_commonDivisor_18 : decode cX0_commonDivisor 18 = .ok (.iload_n 2, 1) := by decide +kernel
theorem dX0_commonDivisor_19 : decode cX0_commonDivisor 19 = .ok (.iload_n 3, 1) := by decide +kernel
theorem dX0_commonDivisor_20 : decode cX0_commonDivisor 20 = .ok (.irem, 1) := by decide +kernel
theorem dX0_commonDivisor_21 : decode cX0_commonDivisor 21 = .ok (.istore 5, 2) := by decide +kernel
theorem dX0_commonDivisor_23 : decode cX0_commonDivisor 23 = .ok (.iload_n 3, 1) := by decide +kernel
theorem dX0_commonDivisor_24 : decode cX0_commonDivisor 24 = .ok (.istore_n 2, 1) := by decide +kernel
theorem dX0_commonDivisor_25 : decode cX0_commonDivisor 25 = .ok (.iload 5, 2) := by decide +kernel
theorem dX0_commonDivisor_27 : decode cX0_commonDivisor 27 = .ok (.istore_n 3, 1) := by decide +kernel
theorem dX0_commonDivisor_28 : decode cX0_commonDivisor 28 = .ok (.iinc 4 1, 3) := by decide +kernel
theorem dX0_commonDivisor_31 : decode cX0_commonDivisor 31 = .ok (.goto (-24), 3) := by decide +kernel
theorem dX0_commonDivisor_34 : decode cX0_commonDivisor 34 = .ok (.iconst 1, 1) := by decide +kernel
theorem dX0_commonDivisor_35 : decode cX0_commonDivisor 35 = .ok (.iload_n 2, 1) := by decide +kernel
theorem dX0_commonDivisor_36 : decode cX0_commonDivisor 36 = .ok (.invokestatic 192, 3) := by decide +kernel
theorem dX0_commonDivisor_39 : decode cX0_commonDivisor 39 = .ok (.ireturn, 1) := by decide +kernel
theorem dJ_fill_0 : decode cJ_fill 0 = .ok (.iconst 0, 1) := by decide +kernel
theorem dJ_fill_1 : decode cJ_fill 1 = .ok (.istore_n 2, 1) := by decide +kernel
theorem dJ_fill_2 : decode cJ_fill 2 = .ok (.aload_n 0, 1) := by decide +kernel
theorem dJ_fill_3 : decode cJ_fill 3 = .ok (.arraylength, 1) := by decide +kernel
theorem dJ_fill_4 : decode cJ_fill 4 = .ok (.istore_n 3, 1) := by decide +kernel
theorem dJ_fill_5 : decode cJ_fill 5 = .ok (.iload_n 2, 1) := by decide +kernel
theorem dJ_fill_6 : decode cJ_fill 6 = .ok (.iload_n 3, 1) := by decide +kernel
theorem dJ_fill_7 : decode cJ_fill 7 = .ok (.if_icmp .ge 13, 3) := by decide +kernel
theorem dJ_fill_10 : decode cJ_fill 10 = .ok (.aload_n 0, 1) := by decide +kernel
theorem dJ_fill_11 : decode cJ_fill 11 = .ok (.iload_n 2, 1) := by decide +kernel
theorem dJ_fill_12 : decode cJ_fill 12 = .ok (.iload_n 1, 1) := by decide +kernel
theorem dJ_fill_13 : decode cJ_fill 13 = .ok (.iastore, 1) := by decide +kernel
theorem dJ_fill_14 : decode cJ_fill 14 = .ok (.iinc 2 1, 3) := by decide +kernel
theorem dJ_fill_17 : decode cJ_fill 17 = .ok (.goto (-12), 3) := by decide +kernel
theorem dJ_fill_20 : decode cJ_fill 20 = .ok (.return_, 1) := by decide +kernel
theorem dX1_init_0 : decode cX1_init 0 = .ok (.aload_n 0, 1) := by decide +kernel
theorem dX1_init_1 : decode cX1_init 1 = .ok (.invokespecial 3, 3) := by decide +kernel
theorem dX1_init_4 : decode cX1_init 4 = .ok (.aload_n 0, 1) := by decide +kernel
theorem dX1_init_5 : decode cX1_init 5 = .ok (.bipush 8, 2) := by decide +kernel
theorem dX1_init_7 : decode cX1_init 7 = .ok (.newarray .int, 2) := by decide +kernel
theorem dX1_init_9 : decode cX1_init 9 = .ok (.putfield 9, 3) := by decide +kernel
theorem dX1_init_12 : decode cX1_init 12 = .ok (.aload_n 0, 1) := by decide +kernel
theorem dX1_init_13 : decode cX1_init 13 = .ok (.iconst (-1), 1) := by decide +kernel
theorem dX1_init_14 : decode cX1_init 14 = .ok (.putfield 15, 3) := by decide +kernel
theorem dX1_init_17 : decode cX1_init 17 = .ok (.return_, 1) := by decide +kernel
theorem dX1_take_0 : decode cX1_take 0 = .ok (.aload_n 0, 1) := by decide +kernel
theorem dX1_take_1 : decode cX1_take 1 = .ok (.getfield 19, 3) := by decide +kernel
theorem dX1_take_4 : decode cX1_take 4 = .ok (.bipush 8, 2) := by decide +kernel
theorem dX1_take_6 : decode cX1_take 6 = .ok (.if_icmp .ge 19, 3) := by decide +kernel
theorem dX1_take_9 : decode cX1_take 9 = .ok (.iload_n 1, 1) := by decide +kernel
theorem dX1_take_10 : decode cX1_take 10 = .ok (.aload_n 0, 1) := by decide +kernel
theorem dX1_take_11 : decode cX1_take 11 = .ok (.getfield 15, 3) := by decide +kernel
theorem dX1_take_14 : decode cX1_take 14 = .ok (.if_icmp .le 11, 3) := by decide +kernel
theorem dX1_take_17 : decode cX1_take 17 = .ok (.aload_n 0, 1) := by decide +kernel
theorem dX1_take_18 : decode cX1_take 18 = .ok (.iload_n 2, 1) := by decide +kernel
theorem dX1_take_19 : decode cX1_take 19 = .ok (.invokevirtual 22, 3) := by decide +kernel
theorem dX1_take_22 : decode cX1_take 22 = .ok (.ifCond .eq 5, 3) := by decide +kernel
theorem dX1_take_25 : decode cX1_take 25 = .ok (.iconst 0, 1) := by decide +kernel
theorem dX1_take_26 : decode cX1_take 26 = .ok (.ireturn, 1) := by decide +kernel
theorem dX1_take_27 : decode cX1_take 27 = .ok (.aload_n 0, 1) := by decide +kernel
theorem dX1_take_28 : decode cX1_take 28 = .ok (.getfield 9, 3) := by decide +kernel
theorem dX1_take_31 : decode cX1_take 31 = .ok (.aload_n 0, 1) := by decide +kernel
theorem dX1_take_32 : decode cX1_take 32 = .ok (.getfield 19, 3) := by decide +kernel
theorem dX1_take_35 : decode cX1_take 35 = .ok (.iload_n 2, 1) := by decide +kernel
theorem dX1_take_36 : decode cX1_take 36 = .ok (.iastore, 1) := by decide +kernel
theorem dX1_take_37 : decode cX1_take 37 = .ok (.aload_n 0, 1) := by decide +kernel
theorem dX1_take_38 : decode cX1_take 38 = .ok (.dup, 1) := by decide +kernel
theorem dX1_take_39 : decode cX1_take 39 = .ok (.getfield 19, 3) := by decide +kernel
theorem dX1_take_42 : decode cX1_take 42 = .ok (.iconst 1, 1) := by decide +kernel
theorem dX1_take_43 : decode cX1_take 43 = .ok (.iadd, 1) := by decide +kernel
theorem dX1_take_44 : decode cX1_take 44 = .ok (.putfield 19, 3) := by decide +kernel
theorem dX1_take_47 : decode cX1_take 47 = .ok (.aload_n 0, 1) := by decide +kernel
theorem dX1_take_48 : decode cX1_take 48 = .ok (.iload_n 1, 1) := by decide +kernel
theorem dX1_take_49 : decode cX1_take 49 = .ok (.putfield 15, 3) := by decide +kernel
theorem dX1_take_52 : decode cX1_take 52 = .ok (.iconst 1, 1) := by decide +kernel
theorem dX1_take_53 : decode cX1_take 53 = .ok (.ireturn, 1) := by decide +kernel
theorem dX1_has_0 : decode cX1_has 0 = .ok (.iconst 0, 1) := by decide +kernel
theorem dX1_has_1 : decode cX1_has 1 = .ok (.istore_n 2, 1) := by decide +kernel
theorem dX1_has_2 : decode cX1_has 2 = .ok (.iload_n 2, 1) := by decide +kernel
theorem dX1_has_3 : decode cX1_has 3 = .ok (.aload_n 0, 1) := by decide +kernel
theorem dX1_has_4 : decode cX1_has 4 = .ok (.getfield 19, 3) := by decide +kernel
theorem dX1_has_7 : decode cX1_has 7 = .ok (.if_icmp .ge 21, 3) := by decide +kernel
theorem dX1_has_10 : decode cX1_has 10 = .ok (.aload_n 0, 1) := by decide +kernel
theorem dX1_has_11 : decode cX1_has 11 = .ok (.getfield 9, 3) := by decide +kernel
theorem dX1_has_14 : decode cX1_has 14 = .ok (.iload_n 2, 1) := by decide +kernel
theorem dX1_has_15 : decode cX1_has 15 = .ok (.iaload, 1) := by decide +kernel
theorem dX1_has_16 : decode cX1_has 16 = .ok (.iload_n 1, 1) := by decide +kernel
theorem dX1_has_17 : decode cX1_has 17 = .ok (.if_icmp .ne 5, 3) := by decide +kernel
theorem dX1_has_20 : decode cX1_has 20 = .ok (.iconst 1, 1) := by decide +kernel
theorem dX1_has_21 : decode cX1_has 21 = .ok (.ireturn, 1) := by decide +kernel
theorem dX1_has_22 : decode cX1_has 22 = .ok (.iinc 2 1, 3) := by decide +kernel
theorem dX1_has_25 : decode cX1_has 25 = .ok (.goto (-23), 3) := by decide +kernel
theorem dX1_has_28 : decode cX1_has 28 = .ok (.iconst 0, 1) := by decide +kernel
theorem dX1_has_29 : decode cX1_has 29 = .ok (.ireturn, 1) := by decide +kernel
theorem dX1_risesLessFalls_0 : decode cX1_risesLessFalls 0 = .ok (.iconst 0, 1) := by decide +kernel
theorem dX1_risesLessFalls_1 : decode cX1_risesLessFalls 1 = .ok (.istore_n 1, 1) := by decide +kernel
theorem dX1_risesLessFalls_2 : decode cX1_risesLessFalls 2 = .ok (.iconst 1, 1) := by decide +kernel
theorem dX1_risesLessFalls_3 : decode cX1_risesLessFalls 3 = .ok (.istore_n 2, 1) := by decide +kernel
theorem dX1_risesLessFalls_4 : decode cX1_risesLessFalls 4 = .ok (.iload_n 2, 1) := by decide +kernel
theorem dX1_risesLessFalls_5 : decode cX1_risesLessFalls 5 = .ok (.aload_n 0, 1) := by decide +kernel
theorem dX1_risesLessFalls_6 : decode cX1_risesLessFalls 6 = .ok (.getfield 19, 3) := by decide +kernel
theorem dX1_risesLessFalls_9 : decode cX1_risesLessFalls 9 = .ok (.if_icmp .ge 40, 3) := by decide +kernel
theorem dX1_risesLessFalls_12 : decode cX1_risesLessFalls 12 = .ok (.iconst 0, 1) := by decide +kernel
theorem dX1_risesLessFalls_13 : decode cX1_risesLessFalls 13 = .ok (.istore_n 3, 1) := by decide +kernel
theorem dX1_risesLessFalls_14 : decode cX1_risesLessFalls 14 = .ok (.iload_n 3, 1) := by decide +kernel
theorem dX1_risesLessFalls_15 : decode cX1_risesLessFalls 15 = .ok (.iload_n 2, 1) := by decide +kernel
theorem dX1_risesLessFalls_16 : decode cX1_risesLessFalls 16 = .ok (.if_icmp .ge 27, 3) := by decide +kernel
theorem dX1_risesLessFalls_19 : decode cX1_risesLessFalls 19 = .ok (.iload_n 1, 1) := by decide +kernel
theorem dX1_risesLessFalls_20 : decode cX1_risesLessFalls 20 = .ok (.aload_n 0, 1) := by decide +kernel
theorem dX1_risesLessFalls_21 : decode cX1_risesLessFalls 21 = .ok (.getfield 9, 3) := by decide +kernel
theorem dX1_risesLessFalls_24 : decode cX1_risesLessFalls 24 = .ok (.iload_n 2, 1) := by decide +kernel
theorem dX1_risesLessFalls_25 : decode cX1_risesLessFalls 25 = .ok (.iaload, 1) := by decide +kernel
theorem dX1_risesLessFalls_26 : decode cX1_risesLessFalls 26 = .ok (.aload_n 0, 1) := by decide +kernel
theorem dX1_risesLessFalls_27 : decode cX1_risesLessFalls 27 = .ok (.getfield 9, 3) := by decide +kernel
theorem dX1_risesLessFalls_30 : decode cX1_risesLessFalls 30 = .ok (.iload_n 3, 1) := by decide +kernel
theorem dX1_risesLessFalls_31 : decode cX1_risesLessFalls 31 = .ok (.iaload, 1) := by decide +kernel
theorem dX1_risesLessFalls_32 : decode cX1_risesLessFalls 32 = .ok (.invokestatic 26, 3) := by decide +kernel
theorem dX1_risesLessFalls_35 : decode cX1_risesLessFalls 35 = .ok (.iadd, 1) := by decide +kernel
theorem dX1_risesLessFalls_36 : decode cX1_risesLessFalls 36 = .ok (.istore_n 1, 1) := by decide +kernel
theorem dX1_risesLessFalls_37 : decode cX1_risesLessFalls 37 = .ok (.iinc 3 1, 3) := by decide +kernel
theorem dX1_risesLessFalls_40 : decode cX1_risesLessFalls 40 = .ok (.goto (-26), 3) := by decide +kernel
theorem dX1_risesLessFalls_43 : decode cX1_risesLessFalls 43 = .ok (.iinc 2 1, 3) := by decide +kernel
theorem dX1_risesLessFalls_46 : decode cX1_risesLessFalls 46 = .ok (.goto (-42), 3) := by decide +kernel
theorem dX1_risesLessFalls_49 : decode cX1_risesLessFalls 49 = .ok (.iload_n 1, 1) := by decide +kernel
theorem dX1_risesLessFalls_50 : decode cX1_risesLessFalls 50 = .ok (.ireturn, 1) := by decide +kernel
theorem dJ_compare_0 : decode cJ_compare 0 = .ok (.iload_n 0, 1) := by decide +kernel
theorem dJ_compare_1 : decode cJ_compare 1 = .ok (.iload_n 1, 1) := by decide +kernel
theorem dJ_compare_2 : decode cJ_compare 2 = .ok (.if_icmp .ge 7, 3) := by decide +kernel
theorem dJ_compare_5 : decode cJ_compare 5 = .ok (.iconst (-1), 1) := by decide +kernel
theorem dJ_compare_6 : decode cJ_compare 6 = .ok (.goto 13, 3) := by decide +kernel
theorem dJ_compare_9 : decode cJ_compare 9 = .ok (.iload_n 0, 1) := by decide +kernel
theorem dJ_compare_10 : decode cJ_compare 10 = .ok (.iload_n 1, 1) := by decide +kernel
theorem dJ_compare_11 : decode cJ_compare 11 = .ok (.if_icmp .ne 7, 3) := by decide +kernel
theorem dJ_compare_14 : decode cJ_compare 14 = .ok (.iconst 0, 1) := by decide +kernel
theorem dJ_compare_15 : decode cJ_compare 15 = .ok (.goto 4, 3) := by decide +kernel
theorem dJ_compare_18 : decode cJ_compare 18 = .ok (.iconst 1, 1) := by decide +kernel
theorem dJ_compare_19 : decode cJ_compare 19 = .ok (.ireturn, 1) := by decide +kernel
theorem dL_cell_0 : decode cL_cell 0 = .ok (.iload_n 1, 1) := by decide +kernel
theorem dL_cell_1 : decode cL_cell 1 = .ok (.aload_n 0, 1) := by decide +kernel
theorem dL_cell_2 : decode cL_cell 2 = .ok (.arraylength, 1) := by decide +kernel
theorem dL_cell_3 : decode cL_cell 3 = .ok (.if_icmp .ge 9, 3) := by decide +kernel
theorem dL_cell_6 : decode cL_cell 6 = .ok (.aload_n 0, 1) := by decide +kernel
theorem dL_cell_7 : decode cL_cell 7 = .ok (.iload_n 1, 1) := by decide +kernel
theorem dL_cell_8 : decode cL_cell 8 = .ok (.iaload, 1) := by decide +kernel
theorem dL_cell_9 : decode cL_cell 9 = .ok (.goto 4, 3) := by decide +kernel
theorem dL_cell_12 : decode cL_cell 12 = .ok (.iconst 0, 1) := by decide +kernel
theorem dL_cell_13 : decode cL_cell 13 = .ok (.ireturn, 1) := by decide +kernel
