theorem d_Display_readColourCount_20 : decode b_Display_readColourCount 20 = .ok (.iconst 0, 1) := by decide +kernel
theorem d_Display_readColourCount_21 : decode b_Display_readColourCount 21 = .ok (.ireturn, 1) := by decide +kernel
theorem d_Display_readColourCount_22 : decode b_Display_readColourCount 22 = .ok (.iload_n 1, 1) := by decide +kernel
theorem d_Display_readColourCount_23 : decode b_Display_readColourCount 23 = .ok (.ireturn, 1) := by decide +kernel
theorem d_Display_readPixels_0 : decode b_Display_readPixels 0 = .ok (.iconst 0, 1) := by decide +kernel
theorem d_Display_readPixels_1 : decode b_Display_readPixels 1 = .ok (.istore 4, 2) := by decide +kernel
theorem d_Display_readPixels_3 : decode b_Display_readPixels 3 = .ok (.iload 4, 2) := by decide +kernel
theorem d_Display_readPixels_5 : decode b_Display_readPixels 5 = .ok (.iload_n 2, 1) := by decide +kernel
theorem d_Display_readPixels_6 : decode b_Display_readPixels 6 = .ok (.if_icmp .ge 20, 3) := by decide +kernel
theorem d_Display_readPixels_9 : decode b_Display_readPixels 9 = .ok (.aload_n 0, 1) := by decide +kernel
theorem d_Display_readPixels_10 : decode b_Display_readPixels 10 = .ok (.getfield 34, 3) := by decide +kernel
theorem d_Display_readPixels_13 : decode b_Display_readPixels 13 = .ok (.iload 4, 2) := by decide +kernel
theorem d_Display_readPixels_15 : decode b_Display_readPixels 15 = .ok (.aload_n 0, 1) := by decide +kernel
theorem d_Display_readPixels_16 : decode b_Display_readPixels 16 = .ok (.invokevirtual 87, 3) := by decide +kernel
theorem d_Display_readPixels_19 : decode b_Display_readPixels 19 = .ok (.iastore, 1) := by decide +kernel
theorem d_Display_readPixels_20 : decode b_Display_readPixels 20 = .ok (.iinc 4 1, 3) := by decide +kernel
theorem d_Display_readPixels_23 : decode b_Display_readPixels 23 = .ok (.goto (-20), 3) := by decide +kernel
theorem d_Display_readPixels_26 : decode b_Display_readPixels 26 = .ok (.iconst 0, 1) := by decide +kernel
theorem d_Display_readPixels_27 : decode b_Display_readPixels 27 = .ok (.istore 4, 2) := by decide +kernel
theorem d_Display_readPixels_29 : decode b_Display_readPixels 29 = .ok (.iconst 0, 1) := by decide +kernel
theorem d_Display_readPixels_30 : decode b_Display_readPixels 30 = .ok (.istore 5, 2) := by decide +kernel
theorem d_Display_readPixels_32 : decode b_Display_readPixels 32 = .ok (.iconst 0, 1) := by decide +kernel
theorem d_Display_readPixels_33 : decode b_Display_readPixels 33 = .ok (.istore 6, 2) := by decide +kernel
theorem d_Display_readPixels_35 : decode b_Display_readPixels 35 = .ok (.iload 6, 2) := by decide +kernel
theorem d_Display_readPixels_37 : decode b_Display_readPixels 37 = .ok (.bipush 64, 2) := by decide +kernel
theorem d_Display_readPixels_39 : decode b_Display_readPixels 39 = .ok (.if_icmp .ge 74, 3) := by decide +kernel
theorem d_Display_readPixels_42 : decode b_Display_readPixels 42 = .ok (.iload 5, 2) := by decide +kernel
theorem d_Display_readPixels_44 : decode b_Display_readPixels 44 = .ok (.ifCond .ne 13, 3) := by decide +kernel
theorem d_Display_readPixels_47 : decode b_Display_readPixels 47 = .ok (.aload_n 0, 1) := by decide +kernel
theorem d_Display_readPixels_48 : decode b_Display_readPixels 48 = .ok (.invokevirtual 83, 3) := by decide +kernel
theorem d_Display_readPixels_51 : decode b_Display_readPixels 51 = .ok (.istore 4, 2) := by decide +kernel
theorem d_Display_readPixels_53 : decode b_Display_readPixels 53 = .ok (.bipush 8, 2) := by decide +kernel
theorem d_Display_readPixels_55 : decode b_Display_readPixels 55 = .ok (.istore 5, 2) := by decide +kernel
theorem d_Display_readPixels_57 : decode b_Display_readPixels 57 = .ok (.iload 5, 2) := by decide +kernel
theorem d_Display_readPixels_59 : decode b_Display_readPixels 59 = .ok (.iload_n 3, 1) := by decide +kernel
theorem d_Display_readPixels_60 : decode b_Display_readPixels 60 = .ok (.isub, 1) := by decide +kernel
theorem d_Display_readPixels_61 : decode b_Display_readPixels 61 = .ok (.istore 5, 2) := by decide +kernel
theorem d_Display_readPixels_63 : decode b_Display_readPixels 63 = .ok (.iload 4, 2) := by decide +kernel
theorem d_Display_readPixels_65 : decode b_Display_readPixels 65 = .ok (.iload 5, 2) := by decide +kernel
theorem d_Display_readPixels_67 : decode b_Display_readPixels 67 = .ok (.ishr, 1) := by decide +kernel
theorem d_Display_readPixels_68 : decode b_Display_readPixels 68 = .ok (.iconst 1, 1) := by decide +kernel
theorem d_Display_readPixels_69 : decode b_Display_readPixels 69 = .ok (.iload_n 3, 1) := by decide +kernel
theorem d_Display_readPixels_70 : decode b_Display_readPixels 70 = .ok (.ishl, 1) := by decide +kernel
theorem d_Display_readPixels_71 : decode b_Display_readPixels 71 = .ok (.iconst 1, 1) := by decide +kernel
theorem d_Display_readPixels_72 : decode b_Display_readPixels 72 = .ok (.isub, 1) := by decide +kernel
theorem d_Display_readPixels_73 : decode b_Display_readPixels 73 = .ok (.iand, 1) := by decide +kernel
theorem d_Display_readPixels_74 : decode b_Display_readPixels 74 = .ok (.istore 7, 2) := by decide +kernel
theorem d_Display_readPixels_76 : decode b_Display_readPixels 76 = .ok (.iload 7, 2) := by decide +kernel
theorem d_Display_readPixels_78 : decode b_Display_readPixels 78 = .ok (.iload_n 2, 1) := by decide +kernel
theorem d_Display_readPixels_79 : decode b_Display_readPixels 79 = .ok (.if_icmp .ge 23, 3) := by decide +kernel
theorem d_Display_readPixels_82 : decode b_Display_readPixels 82 = .ok (.aload_n 0, 1) := by decide +kernel
theorem d_Display_readPixels_83 : decode b_Display_readPixels 83 = .ok (.getfield 20, 3) := by decide +kernel
theorem d_Display_readPixels_86 : decode b_Display_readPixels 86 = .ok (.iload_n 1, 1) := by decide +kernel
theorem d_Display_readPixels_87 : decode b_Display_readPixels 87 = .ok (.iload 6, 2) := by decide +kernel
theorem d_Display_readPixels_89 : decode b_Display_readPixels 89 = .ok (.aload_n 0, 1) := by decide +kernel
theorem d_Display_readPixels_90 : decode b_Display_readPixels 90 = .ok (.getfield 34, 3) := by decide +kernel
theorem d_Display_readPixels_93 : decode b_Display_readPixels 93 = .ok (.iload 7, 2) := by decide +kernel
theorem d_Display_readPixels_95 : decode b_Display_readPixels 95 = .ok (.iaload, 1) := by decide +kernel
theorem d_Display_readPixels_96 : decode b_Display_readPixels 96 = .ok (.invokevirtual 124, 3) := by decide +kernel
theorem d_Display_readPixels_99 : decode b_Display_readPixels 99 = .ok (.goto 8, 3) := by decide +kernel
theorem d_Display_readPixels_102 : decode b_Display_readPixels 102 = .ok (.aload_n 0, 1) := by decide +kernel
theorem d_Display_readPixels_103 : decode b_Display_readPixels 103 = .ok (.iconst 1, 1) := by decide +kernel
theorem d_Display_readPixels_104 : decode b_Display_readPixels 104 = .ok (.putfield 62, 3) := by decide +kernel
theorem d_Display_readPixels_107 : decode b_Display_readPixels 107 = .ok (.iinc 6 1, 3) := by decide +kernel
theorem d_Display_readPixels_110 : decode b_Display_readPixels 110 = .ok (.goto (-75), 3) := by decide +kernel
theorem d_Display_readPixels_113 : decode b_Display_readPixels 113 = .ok (.return_, 1) := by decide +kernel
theorem d_Display_readRuns_0 : decode b_Display_readRuns 0 = .ok (.aload_n 0, 1) := by decide +kernel
theorem d_Display_readRuns_1 : decode b_Display_readRuns 1 = .ok (.invokevirtual 83, 3) := by decide +kernel
theorem d_Display_readRuns_4 : decode b_Display_readRuns 4 = .ok (.istore_n 2, 1) := by decide +kernel
theorem d_Display_readRuns_5 : decode b_Display_readRuns 5 = .ok (.iconst 0, 1) := by decide +kernel
theorem d_Display_readRuns_6 : decode b_Display_readRuns 6 = .ok (.istore_n 3, 1) := by decide +kernel
theorem d_Display_readRuns_7 : decode b_Display_readRuns 7 = .ok (.iconst 0, 1) := by decide +kernel
theorem d_Display_readRuns_8 : decode b_Display_readRuns 8 = .ok (.istore 4, 2) := by decide +kernel
theorem d_Display_readRuns_10 : decode b_Display_readRuns 10 = .ok (.iload 4, 2) := by decide +kernel
theorem d_Display_readRuns_12 : decode b_Display_readRuns 12 = .ok (.iload_n 2, 1) := by decide +kernel
theorem d_Display_readRuns_13 : decode b_Display_readRuns 13 = .ok (.if_icmp .ge 56, 3) := by decide +kernel
theorem d_Display_readRuns_16 : decode b_Display_readRuns 16 = .ok (.aload_n 0, 1) := by decide +kernel
theorem d_Display_readRuns_17 : decode b_Display_readRuns 17 = .ok (.invokevirtual 83, 3) := by decide +kernel
theorem d_Display_readRuns_20 : decode b_Display_readRuns 20 = .ok (.istore 5, 2) := by decide +kernel
theorem d_Display_readRuns_22 : decode b_Display_readRuns 22 = .ok (.aload_n 0, 1) := by decide +kernel
theorem d_Display_readRuns_23 : decode b_Display_readRuns 23 = .ok (.invokevirtual 87, 3) := by decide +kernel
theorem d_Display_readRuns_26 : decode b_Display_readRuns 26 = .ok (.istore 6, 2) := by decide +kernel
theorem d_Display_readRuns_28 : decode b_Display_readRuns 28 = .ok (.iload 5, 2) := by decide +kernel
theorem d_Display_readRuns_30 : decode b_Display_readRuns 30 = .ok (.ifCond .eq 12, 3) := by decide +kernel
theorem d_Display_readRuns_33 : decode b_Display_readRuns 33 = .ok (.iload 5, 2) := by decide +kernel
theorem d_Display_readRuns_35 : decode b_Display_readRuns 35 = .ok (.bipush 64, 2) := by decide +kernel
theorem d_Display_readRuns_37 : decode b_Display_readRuns 37 = .ok (.iload_n 3, 1) := by decide +kernel
theorem d_Display_readRuns_38 : decode b_Display_readRuns 38 = .ok (.isub, 1) := by decide +kernel
theorem d_Display_readRuns_39 : decode b_Display_readRuns 39 = .ok (.if_icmp .le 9, 3) := by decide +kernel
theorem d_Display_readRuns_42 : decode b_Display_readRuns 42 = .ok (.aload_n 0, 1) := by decide +kernel
theorem d_Display_readRuns_43 : decode b_Display_readRuns 43 = .ok (.iconst 1, 1) := by decide +kernel
theorem d_Display_readRuns_44 : decode b_Display_readRuns 44 = .ok (.putfield 62, 3) := by decide +kernel
theorem d_Display_readRuns_47 : decode b_Display_readRuns 47 = .ok (.return_, 1) := by decide +kernel
theorem d_Display_readRuns_48 : decode b_Display_readRuns 48 = .ok (.aload_n 0, 1) := by decide +kernel
theorem d_Display_readRuns_49 : decode b_Display_readRuns 49 = .ok (.iload_n 1, 1) := by decide +kernel
theorem d_Display_readRuns_50 : decode b_Display_readRuns 50 = .ok (.iload_n 3, 1) := by decide +kernel
theorem d_Display_readRuns_51 : decode b_Display_readRuns 51 = .ok (.iload 5, 2) := by decide +kernel
theorem d_Display_readRuns_53 : decode b_Display_readRuns 53 = .ok (.iload 6, 2) := by decide +kernel
theorem d_Display_readRuns_55 : decode b_Display_readRuns 55 = .ok (.invokevirtual 90, 3) := by decide +kernel
theorem d_Display_readRuns_58 : decode b_Display_readRuns 58 = .ok (.iload_n 3, 1) := by decide +kernel
theorem d_Display_readRuns_59 : decode b_Display_readRuns 59 = .ok (.iload 5, 2) := by decide +kernel
theorem d_Display_readRuns_61 : decode b_Display_readRuns 61 = .ok (.iadd, 1) := by decide +kernel
theorem d_Display_readRuns_62 : decode b_Display_readRuns 62 = .ok (.istore_n 3, 1) := by decide +kernel
theorem d_Display_readRuns_63 : decode b_Display_readRuns 63 = .ok (.iinc 4 1, 3) := by decide +kernel
theorem d_Display_readRuns_66 : decode b_Display_readRuns 66 = .ok (.goto (-56), 3) := by decide +kernel
theorem d_Display_readRuns_69 : decode b_Display_readRuns 69 = .ok (.iload_n 3, 1) := by decide +kernel
theorem d_Display_readRuns_70 : decode b_Display_readRuns 70 = .ok (.bipush 64, 2) := by decide +kernel
theorem d_Display_readRuns_72 : decode b_Display_readRuns 72 = .ok (.if_icmp .eq 8, 3) := by decide +kernel
theorem d_Display_readRuns_75 : decode b_Display_readRuns 75 = .ok (.aload_n 0, 1) := by decide +kernel
theorem d_Display_readRuns_76 : decode b_Display_readRuns 76 = .ok (.iconst 1, 1) := by decide +kernel
theorem d_Display_readRuns_77 : decode b_Display_readRuns 77 = .ok (.putfield 62, 3) := by decide +kernel
theorem d_Display_readRuns_80 : decode b_Display_readRuns 80 = .ok (.return_, 1) := by decide +kernel
theorem d_Display_readRaw_0 : decode b_Display_readRaw 0 = .ok (.iconst 0, 1) := by decide +kernel
theorem d_Display_readRaw_1 : decode b_Display_readRaw 1 = .ok (.istore_n 2, 1) := by decide +kernel
theorem d_Display_readRaw_2 : decode b_Display_readRaw 2 = .ok (.iload_n 2, 1) := by decide +kernel
theorem d_Display_readRaw_3 : decode b_Display_readRaw 3 = .ok (.bipush 64, 2) := by decide +kernel
theorem d_Display_readRaw_5 : decode b_Display_readRaw 5 = .ok (.if_icmp .ge 22, 3) := by decide +kernel
theorem d_Display_readRaw_8 : decode b_Display_readRaw 8 = .ok (.aload_n 0, 1) := by decide +kernel
theorem d_Display_readRaw_9 : decode b_Display_readRaw 9 = .ok (.getfield 20, 3) := by decide +kernel
theorem d_Display_readRaw_12 : decode b_Display_readRaw 12 = .ok (.iload_n 1, 1) := by decide +kernel
theorem d_Display_readRaw_13 : decode b_Display_readRaw 13 = .ok (.iload_n 2, 1) := by decide +kernel
theorem d_Display_readRaw_14 : decode b_Display_readRaw 14 = .ok (.aload_n 0, 1) := by decide +kernel
theorem d_Display_readRaw_15 : decode b_Display_readRaw 15 = .ok (.invokevirtual 87, 3) := by decide +kernel
theorem d_Display_readRaw_18 : decode b_Display_readRaw 18 = .ok (.invokevirtual 124, 3) := by decide +kernel
theorem d_Display_readRaw_21 : decode b_Display_readRaw 21 = .ok (.iinc 2 1, 3) := by decide +kernel
theorem d_Display_readRaw_24 : decode b_Display_readRaw 24 = .ok (.goto (-22), 3) := by decide +kernel
theorem d_Display_readRaw_27 : decode b_Display_readRaw 27 = .ok (.return_, 1) := by decide +kernel
theorem d_Display_paint_0 : decode b_Display_paint 0 = .ok (.iload_n 2, 1) := by decide +kernel
theorem d_Display_paint_1 : decode b_Display_paint 1 = .ok (.istore 5, 2) := by decide +kernel
theorem d_Display_paint_3 : decode b_Display_paint 3 = .ok (.iload 5, 2) := by decide +kernel
theorem d_Display_paint_5 : decode b_Display_paint 5 = .ok (.iload_n 2, 1) := by decide +kernel
theorem d_Display_paint_6 : decode b_Display_paint 6 = .ok (.iload_n 3, 1) := by decide +kernel
theorem d_Display_paint_7 : decode b_Display_paint 7 = .ok (.iadd, 1) := by decide +kernel
theorem d_Display_paint_8 : decode b_Display_paint 8 = .ok (.if_icmp .ge 21, 3) := by decide +kernel
theorem d_Display_paint_11 : decode b_Display_paint 11 = .ok (.aload_n 0, 1) := by decide +kernel
theorem d_Display_paint_12 : decode b_Display_paint 12 = .ok (.getfield 20, 3) := by decide +kernel
theorem d_Display_paint_15 : decode b_Display_paint 15 = .ok (.iload_n 1, 1) := by decide +kernel
theorem d_Display_paint_16 : decode b_Display_paint 16 = .ok (.iload 5, 2) := by decide +kernel
theorem d_Display_paint_18 : decode b_Display_paint 18 = .ok (.iload 4, 2) := by decide +kernel
theorem d_Display_paint_20 : decode b_Display_paint 20 = .ok (.invokevirtual 124, 3) := by decide +kernel
theorem d_Display_paint_23 : decode b_Display_paint 23 = .ok (.iinc 5 1, 3) := by decide +kernel
theorem d_Display_paint_26 : decode b_Display_paint 26 = .ok (.goto (-23), 3) := by decide +kernel
theorem d_Display_paint_29 : decode b_Display_paint 29 = .ok (.return_, 1) := by decide +kernel
theorem d_Display_readColour_0 : decode b_Display_readColour 0 = .ok (.aload_n 0, 1) := by decide +kernel
theorem d_Display_readColour_1 : decode b_Display_readColour 1 = .ok (.invokevirtual 83, 3) := by decide +kernel
theorem d_Display_readColour_4 : decode b_Display_readColour 4 = .ok (.istore_n 1, 1) := by decide +kernel
theorem d_Display_readColour_5 : decode b_Display_readColour 5 = .ok (.iload_n 1, 1) := by decide +kernel
theorem d_Display_readColour_6 : decode b_Display_readColour 6 = .ok (.bipush 8, 2) := by decide +kernel
theorem d_Display_readColour_8 : decode b_Display_readColour 8 = .ok (.ishl, 1) := by decide +kernel
theorem d_Display_readColour_9 : decode b_Display_readColour 9 = .ok (.aload_n 0, 1) := by decide +kernel
theorem d_Display_readColour_10 : decode b_Display_readColour 10 = .ok (.invokevirtual 83, 3) := by decide +kernel
theorem d_Display_readColour_13 : decode b_Display_readColour 13 = .ok (.ior, 1) := by decide +kernel
theorem d_Display_readColour_14 : decode b_Display_readColour 14 = .ok (.ireturn, 1) := by decide +kernel
theorem d_Display_readByte_0 : decode b_Display_readByte 0 = .ok (.aload_n 0, 1) := by decide +kernel
theorem d_Display_readByte_1 : decode b_Display_readByte 1 = .ok (.getfield 48, 3) := by decide +kernel
theorem d_Display_readByte_4 : decode b_Display_readByte 4 = .ok (.aload_n 0, 1) := by decide +kernel
theorem d_Display_readByte_5 : decode b_Display_readByte 5 = .ok (.getfield 51, 3) := by decide +kernel
theorem d_Display_readByte_8 : decode b_Display_readByte 8 = .ok (.if_icmp .lt 10, 3) := by decide +kernel
theorem d_Display_readByte_11 : decode b_Display_readByte 11 = .ok (.aload_n 0, 1) := by decide +kernel
theorem d_Display_readByte_12 : decode b_Display_readByte 12 = .ok (.iconst 1, 1) := by decide +kernel
theorem d_Display_readByte_13 : decode b_Display_readByte 13 = .ok (.putfield 62, 3) := by decide +kernel
theorem d_Display_readByte_16 : decode b_Display_readByte 16 = .ok (.iconst 0, 1) := by decide +kernel
theorem d_Display_readByte_17 : decode b_Display_readByte 17 = .ok (.ireturn, 1) := by decide +kernel
theorem d_Display_readByte_18 : decode b_Display_readByte 18 = .ok (.aload_n 0, 1) := by decide +kernel
theorem d_Display_readByte_19 : decode b_Display_readByte 19 = .ok (.getfield 30, 3) := by decide +kernel
theorem d_Display_readByte_22 : decode b_Display_readByte 22 = .ok (.aload_n 0, 1) := by decide +kernel
theorem d_Display_readByte_23 : decode b_Display_readByte 23 = .ok (.getfield 48, 3) := by decide +kernel
theorem d_Display_readByte_26 : decode b_Display_readByte 26 = .ok (.iaload, 1) := by decide +kernel
theorem d_Display_readByte_27 : decode b_Display_readByte 27 = .ok (.istore_n 1, 1) := by decide +kernel
theorem d_Display_readByte_28 : decode b_Display_readByte 28 = .ok (.aload_n 0, 1) := by decide +kernel
theorem d_Display_readByte_29 : decode b_Display_readByte 29 = .ok (.dup, 1) := by decide +kernel
theorem d_Display_readByte_30 : decode b_Display_readByte 30 = .ok (.getfield 48, 3) := by decide +kernel
theorem d_Display_readByte_33 : decode b_Display_readByte 33 = .ok (.iconst 1, 1) := by decide +kernel
theorem d_Display_readByte_34 : decode b_Display_readByte 34 = .ok (.iadd, 1) := by decide +kernel
theorem d_Display_readByte_35 : decode b_Display_readByte 35 = .ok (.putfield 48, 3) := by decide +kernel
theorem d_Display_readByte_38 : decode b_Display_readByte 38 = .ok (.iload_n 1, 1) := by decide +kernel
theorem d_Display_readByte_39 : decode b_Display_readByte 39 = .ok (.ireturn, 1) := by decide +kernel
theorem d_Viewer_init_0 : decode b_Viewer_init 0 = .ok (.aload_n 0, 1) := by decide +kernel
theorem d_Viewer_init_1 : decode b_Viewer_init 1 = .ok (.invokespecial 1, 3) := by decide +kernel
theorem d_Viewer_init_4 : decode b_Viewer_init 4 = .ok (.aload_n 0, 1) := by decide +kernel
theorem d_Viewer_init_5 : decode b_Viewer_init 5 = .ok (.new 7, 3) := by decide +kernel
theorem d_Viewer_init_8 : decode b_Viewer_init 8 = .ok (.dup, 1) := by decide +kernel
theorem d_Viewer_init_9 : decode b_Viewer_init 9 = .ok (.invokespecial 9, 3) := by decide +kernel
theorem d_Viewer_init_12 : decode b_Viewer_init 12 = .ok (.putfield 10, 3) := by decide +kernel
theorem d_Viewer_init_15 : decode b_Viewer_init 15 = .ok (.aload_n 0, 1) := by decide +kernel
theorem d_Viewer_init_16 : decode b_Viewer_init 16 = .ok (.new 16, 3) := by decide +kernel
theorem d_Viewer_init_19 : decode b_Viewer_init 19 = .ok (.dup, 1) := by decide +kernel
theorem d_Viewer_init_20 : decode b_Viewer_init 20 = .ok (.invokespecial 18, 3) := by decide +kernel
theorem d_Viewer_init_23 : decode b_Viewer_init 23 = .ok (.putfield 19, 3) := by decide +kernel
theorem d_Viewer_init_26 : decode b_Viewer_init 26 = .ok (.aload_n 0, 1) := by decide +kernel
theorem d_Viewer_init_27 : decode b_Viewer_init 27 = .ok (.new 23, 3) := by decide +kernel
theorem d_Viewer_init_30 : decode b_Viewer_init 30 = .ok (.dup, 1) := by decide +kernel
theorem d_Viewer_init_31 : decode b_Viewer_init 31 = .ok (.invokespecial 25, 3) := by decide +kernel
theorem d_Viewer_init_34 : decode b_Viewer_init 34 = .ok (.putfield 26, 3) := by decide +kernel
theorem d_Viewer_init_37 : decode b_Viewer_init 37 = .ok (.return_, 1) := by decide +kernel
theorem d_Viewer_connect_0 : decode b_Viewer_connect 0 = .ok (.aload_n 0, 1) := by decide +kernel
theorem d_Viewer_connect_1 : decode b_Viewer_connect 1 = .ok (.iconst 1, 1) := by decide +kernel
theorem d_Viewer_connect_2 : decode b_Viewer_connect 2 = .ok (.putfield 30, 3) := by decide +kernel
theorem d_Viewer_connect_5 : decode b_Viewer_connect 5 = .ok (.aload_n 0, 1) := by decide +kernel
theorem d_Viewer_connect_6 : decode b_Viewer_connect 6 = .ok (.dup, 1) := by decide +kernel
theorem d_Viewer_connect_7 : decode b_Viewer_connect 7 = .ok (.getfield 34, 3) := by decide +kernel
theorem d_Viewer_connect_10 : decode b_Viewer_connect 10 = .ok (.iconst 1, 1) := by decide +kernel
theorem d_Viewer_connect_11 : decode b_Viewer_connect 11 = .ok (.iadd, 1) := by decide +kernel
theorem d_Viewer_connect_12 : decode b_Viewer_connect 12 = .ok (.putfield 34, 3) := by decide +kernel
theorem d_Viewer_connect_15 : decode b_Viewer_connect 15 = .ok (.aload_n 0, 1) := by decide +kernel
theorem d_Viewer_connect_16 : decode b_Viewer_connect 16 = .ok (.getfield 10, 3) := by decide +kernel
theorem d_Viewer_connect_19 : decode b_Viewer_connect 19 = .ok (.getfield 38, 3) := by decide +kernel
theorem d_Viewer_connect_22 : decode b_Viewer_connect 22 = .ok (.aload_n 0, 1) := by decide +kernel
theorem d_Viewer_connect_23 : decode b_Viewer_connect 23 = .ok (.getfield 19, 3) := by decide +kernel
theorem d_Viewer_connect_26 : decode b_Viewer_connect 26 = .ok (.getfield 42, 3) := by decide +kernel
theorem d_Viewer_connect_29 : decode b_Viewer_connect 29 = .ok (.invokevirtual 45, 3) := by decide +kernel
theorem d_Viewer_connect_32 : decode b_Viewer_connect 32 = .ok (.aload_n 0, 1) := by decide +kernel
theorem d_Viewer_connect_33 : decode b_Viewer_connect 33 = .ok (.getfield 10, 3) := by decide +kernel
theorem d_Viewer_connect_36 : decode b_Viewer_connect 36 = .ok (.aload_n 0, 1) := by decide +kernel
theorem d_Viewer_connect_37 : decode b_Viewer_connect 37 = .ok (.getfield 19, 3) := by decide +kernel
theorem d_Viewer_connect_40 : decode b_Viewer_connect 40 = .ok (.getfield 51, 3) := by decide +kernel
theorem d_Viewer_connect_43 : decode b_Viewer_connect 43 = .ok (.putfield 55, 3) := by decide +kernel
theorem d_Viewer_connect_46 : decode b_Viewer_connect 46 = .ok (.aload_n 0, 1) := by decide +kernel
theorem d_Viewer_connect_47 : decode b_Viewer_connect 47 = .ok (.getfield 10, 3) := by decide +kernel
theorem d_Viewer_connect_50 : decode b_Viewer_connect 50 = .ok (.getfield 58, 3) := by decide +kernel
theorem d_Viewer_connect_53 : decode b_Viewer_connect 53 = .ok (.invokevirtual 62, 3) := by decide +kernel
theorem d_Viewer_connect_56 : decode b_Viewer_connect 56 = .ok (.aload_n 0, 1) := by decide +kernel
theorem d_Viewer_connect_57 : decode b_Viewer_connect 57 = .ok (.getfield 19, 3) := by decide +kernel
theorem d_Viewer_connect_60 : decode b_Viewer_connect 60 = .ok (.getfield 67, 3) := by decide +kernel
theorem d_Viewer_connect_63 : decode b_Viewer_connect 63 = .ok (.invokevirtual 62, 3) := by decide +kernel
theorem d_Viewer_connect_66 : decode b_Viewer_connect 66 = .ok (.return_, 1) := by decide +kernel
theorem d_Viewer_disconnect_0 : decode b_Viewer_disconnect 0 = .ok (.aload_n 0, 1) := by decide +kernel
theorem d_Viewer_disconnect_1 : decode b_Viewer_disconnect 1 = .ok (.iconst 0, 1) := by decide +kernel
theorem d_Viewer_disconnect_2 : decode b_Viewer_disconnect 2 = .ok (.putfield 30, 3) := by decide +kernel
theorem d_Viewer_disconnect_5 : decode b_Viewer_disconnect 5 = .ok (.aload_n 0, 1) := by decide +kernel
theorem d_Viewer_disconnect_6 : decode b_Viewer_disconnect 6 = .ok (.iconst 0, 1) := by decide +kernel
theorem d_Viewer_disconnect_7 : decode b_Viewer_disconnect 7 = .ok (.putfield 68, 3) := by decide +kernel
theorem d_Viewer_disconnect_10 : decode b_Viewer_disconnect 10 = .ok (.aload_n 0, 1) := by decide +kernel
theorem d_Viewer_disconnect_11 : decode b_Viewer_disconnect 11 = .ok (.getfield 10, 3) := by decide +kernel
theorem d_Viewer_disconnect_14 : decode b_Viewer_disconnect 14 = .ok (.getfield 71, 3) := by decide +kernel
theorem d_Viewer_disconnect_17 : decode b_Viewer_disconnect 17 = .ok (.invokevirtual 75, 3) := by decide +kernel
theorem d_Viewer_disconnect_20 : decode b_Viewer_disconnect 20 = .ok (.aload_n 0, 1) := by decide +kernel
theorem d_Viewer_disconnect_21 : decode b_Viewer_disconnect 21 = .ok (.getfield 19, 3) := by decide +kernel
theorem d_Viewer_disconnect_24 : decode b_Viewer_disconnect 24 = .ok (.invokevirtual 78, 3) := by decide +kernel
theorem d_Viewer_disconnect_27 : decode b_Viewer_disconnect 27 = .ok (.return_, 1) := by decide +kernel
theorem d_Scr_init_0 : decode b_Scr_init 0 = .ok (.aload_n 0, 1) := by decide +kernel
theorem d_Scr_init_1 : decode b_Scr_init 1 = .ok (.invokespecial 3, 3) := by decide +kernel
theorem d_Scr_init_4 : decode b_Scr_init 4 = .ok (.aload_n 0, 1) := by decide +kernel
theorem d_Scr_init_5 : decode b_Scr_init 5 = .ok (.new 9, 3) := by decide +kernel
theorem d_Scr_init_8 : decode b_Scr_init 8 = .ok (.dup, 1) := by decide +kernel
theorem d_Scr_init_9 : decode b_Scr_init 9 = .ok (.bipush 48, 2) := by decide +kernel
theorem d_Scr_init_11 : decode b_Scr_init 11 = .ok (.invokespecial 11, 3) := by decide +kernel
theorem d_Scr_init_14 : decode b_Scr_init 14 = .ok (.putfield 14, 3) := by decide +kernel
theorem d_Scr_init_17 : decode b_Scr_init 17 = .ok (.aload_n 0, 1) := by decide +kernel
theorem d_Scr_init_18 : decode b_Scr_init 18 = .ok (.new 9, 3) := by decide +kernel
theorem d_Scr_init_21 : decode b_Scr_init 21 = .ok (.dup, 1) := by decide +kernel
theorem d_Scr_init_22 : decode b_Scr_init 22 = .ok (.bipush 48, 2) := by decide +kernel
theorem d_Scr_init_24 : decode b_Scr_init 24 = .ok (.invokespecial 11, 3) := by decide +kernel
theorem d_Scr_init_27 : decode b_Scr_init 27 = .ok (.putfield 18, 3) := by decide +kernel
theorem d_Scr_init_30 : decode b_Scr_init 30 = .ok (.aload_n 0, 1) := by decide +kernel
theorem d_Scr_init_31 : decode b_Scr_init 31 = .ok (.new 9, 3) := by decide +kernel
theorem d_Scr_init_34 : decode b_Scr_init 34 = .ok (.dup, 1) := by decide +kernel
theorem d_Scr_init_35 : decode b_Scr_init 35 = .ok (.bipush 48, 2) := by decide +kernel
theorem d_Scr_init_37 : decode b_Scr_init 37 = .ok (.invokespecial 11, 3) := by decide +kernel
theorem d_Scr_init_40 : decode b_Scr_init 40 = .ok (.putfield 21, 3) := by decide +kernel
theorem d_Scr_init_43 : decode b_Scr_init 43 = .ok (.aload_n 0, 1) := by decide +kernel
theorem d_Scr_init_44 : decode b_Scr_init 44 = .ok (.iconst 3, 1) := by decide +kernel
theorem d_Scr_init_45 : decode b_Scr_init 45 = .ok (.anewarray 24, 3) := by decide +kernel
theorem d_Scr_init_48 : decode b_Scr_init 48 = .ok (.putfield 26, 3) := by decide +kernel
theorem d_Scr_init_51 : decode b_Scr_init 51 = .ok (.iconst 0, 1) := by decide +kernel
theorem d_Scr_init_52 : decode b_Scr_init 52 = .ok (.istore_n 1, 1) := by decide +kernel
theorem d_Scr_init_53 : decode b_Scr_init 53 = .ok (.iload_n 1, 1) := by decide +kernel
theorem d_Scr_init_54 : decode b_Scr_init 54 = .ok (.iconst 3, 1) := by decide +kernel
theorem d_Scr_init_55 : decode b_Scr_init 55 = .ok (.if_icmp .ge 22, 3) := by decide +kernel
theorem d_Scr_init_58 : decode b_Scr_init 58 = .ok (.aload_n 0, 1) := by decide +kernel
theorem d_Scr_init_59 : decode b_Scr_init 59 = .ok (.getfield 26, 3) := by decide +kernel
theorem d_Scr_init_62 : decode b_Scr_init 62 = .ok (.iload_n 1, 1) := by decide +kernel
theorem d_Scr_init_63 : decode b_Scr_init 63 = .ok (.new 24, 3) := by decide +kernel
theorem d_Scr_init_66 : decode b_Scr_init 66 = .ok (.dup, 1) := by decide +kernel
theorem d_Scr_init_67 : decode b_Scr_init 67 = .ok (.invokespecial 30, 3) := by decide +kernel
theorem d_Scr_init_70 : decode b_Scr_init 70 = .ok (.aastore, 1) := by decide +kernel
theorem d_Scr_init_71 : decode b_Scr_init 71 = .ok (.iinc 1 1, 3) := by decide +kernel
theorem d_Scr_init_74 : decode b_Scr_init 74 = .ok (.goto (-21), 3) := by decide +kernel
theorem d_Scr_init_77 : decode b_Scr_init 77 = .ok (.aload_n 0, 1) := by decide +kernel
theorem d_Scr_init_78 : decode b_Scr_init 78 = .ok (.iconst 0, 1) := by decide +kernel
theorem d_Scr_init_79 : decode b_Scr_init 79 = .ok (.putfield 31, 3) := by decide +kernel
theorem d_Scr_init_82 : decode b_Scr_init 82 = .ok (.return_, 1) := by decide +kernel
theorem d_Scr_fill_0 : decode b_Scr_fill 0 = .ok (.iload_n 1, 1) := by decide +kernel
theorem d_Scr_fill_1 : decode b_Scr_fill 1 = .ok (.iload_n 2, 1) := by decide +kernel
theorem d_Scr_fill_2 : decode b_Scr_fill 2 = .ok (.iload_n 3, 1) := by decide +kernel
theorem d_Scr_fill_3 : decode b_Scr_fill 3 = .ok (.iload 4, 2) := by decide +kernel
theorem d_Scr_fill_5 : decode b_Scr_fill 5 = .ok (.invokestatic 35, 3) := by decide +kernel
theorem d_Scr_fill_8 : decode b_Scr_fill 8 = .ok (.ifCond .eq 11, 3) := by decide +kernel
theorem d_Scr_fill_11 : decode b_Scr_fill 11 = .ok (.iload 5, 2) := by decide +kernel
theorem d_Scr_fill_13 : decode b_Scr_fill 13 = .ok (.invokestatic 39, 3) := by decide +kernel
theorem d_Scr_fill_16 : decode b_Scr_fill 16 = .ok (.ifCond .ne 5, 3) := by decide +kernel
theorem d_Scr_fill_19 : decode b_Scr_fill 19 = .ok (.iconst 0, 1) := by decide +kernel
theorem d_Scr_fill_20 : decode b_Scr_fill 20 = .ok (.ireturn, 1) := by decide +kernel
theorem d_Scr_fill_21 : decode b_Scr_fill 21 = .ok (.iload_n 2, 1) := by decide +kernel
theorem d_Scr_fill_22 : decode b_Scr_fill 22 = .ok (.istore 6, 2) := by decide +kernel
theorem d_Scr_fill_24 : decode b_Scr_fill 24 = .ok (.iload 6, 2) := by decide +kernel
theorem d_Scr_fill_26 : decode b_Scr_fill 26 = .ok (.iload_n 2, 1) := by decide +kernel
theorem d_Scr_fill_27 : decode b_Scr_fill 27 = .ok (.iload 4, 2) := by decide +kernel
theorem d_Scr_fill_29 : decode b_Scr_fill 29 = .ok (.iadd, 1) := by decide +kernel
theorem d_Scr_fill_30 : decode b_Scr_fill 30 = .ok (.if_icmp .ge 49, 3) := by decide +kernel
theorem d_Scr_fill_33 : decode b_Scr_fill 33 = .ok (.iload_n 1, 1) := by decide +kernel
theorem d_Scr_fill_34 : decode b_Scr_fill 34 = .ok (.istore 7, 2) := by decide +kernel
theorem d_Scr_fill_36 : decode b_Scr_fill 36 = .ok (.iload 7, 2) := by decide +kernel
theorem d_Scr_fill_38 : decode b_Scr_fill 38 = .ok (.iload_n 1, 1) := by decide +kernel
theorem d_Scr_fill_39 : decode b_Scr_fill 39 = .ok (.iload_n 3, 1) := by decide +kernel
theorem d_Scr_fill_40 : decode b_Scr_fill 40 = .ok (.iadd, 1) := by decide +kernel
theorem d_Scr_fill_41 : decode b_Scr_fill 41 = .ok (.if_icmp .ge 32, 3) := by decide +kernel
theorem d_Scr_fill_44 : decode b_Scr_fill 44 = .ok (.aload_n 0, 1) := by decide +kernel
theorem d_Scr_fill_45 : decode b_Scr_fill 45 = .ok (.getfield 14, 3) := by decide +kernel
theorem d_Scr_fill_48 : decode b_Scr_fill 48 = .ok (.iload 7, 2) := by decide +kernel
theorem d_Scr_fill_50 : decode b_Scr_fill 50 = .ok (.iload 6, 2) := by decide +kernel
theorem d_Scr_fill_52 : decode b_Scr_fill 52 = .ok (.invokestatic 43, 3) := by decide +kernel
theorem d_Scr_fill_55 : decode b_Scr_fill 55 = .ok (.iload 7, 2) := by decide +kernel
theorem d_Scr_fill_57 : decode b_Scr_fill 57 = .ok (.iload 6, 2) := by decide +kernel
theorem d_Scr_fill_59 : decode b_Scr_fill 59 = .ok (.invokestatic 47, 3) := by decide +kernel
theorem d_Scr_fill_62 : decode b_Scr_fill 62 = .ok (.iload 5, 2) := by decide +kernel
theorem d_Scr_fill_64 : decode b_Scr_fill 64 = .ok (.invokevirtual 50, 3) := by decide +kernel
theorem d_Scr_fill_67 : decode b_Scr_fill 67 = .ok (.iinc 7 1, 3) := by decide +kernel
theorem d_Scr_fill_70 : decode b_Scr_fill 70 = .ok (.goto (-34), 3) := by decide +kernel
theorem d_Scr_fill_73 : decode b_Scr_fill 73 = .ok (.iinc 6 1, 3) := by decide +kernel
theorem d_Scr_fill_76 : decode b_Scr_fill 76 = .ok (.goto (-52), 3) := by decide +kernel
theorem d_Scr_fill_79 : decode b_Scr_fill 79 = .ok (.iconst 1, 1) := by decide +kernel
theorem d_Scr_fill_80 : decode b_Scr_fill 80 = .ok (.ireturn, 1) := by decide +kernel
theorem d_Scr_blit_0 : decode b_Scr_blit 0 = .ok (.iload_n 1, 1) := by decide +kernel
theorem d_Scr_blit_1 : decode b_Scr_blit 1 = .ok (.ifCond .lt 8, 3) := by decide +kernel
theorem d_Scr_blit_4 : decode b_Scr_blit 4 = .ok (.iload_n 2, 1) := by decide +kernel
theorem d_Scr_blit_5 : decode b_Scr_blit 5 = .ok (.iconst 1, 1) := by decide +kernel
theorem d_Scr_blit_6 : decode b_Scr_blit 6 = .ok (.if_icmp .ge 5, 3) := by decide +kernel
theorem d_Scr_blit_9 : decode b_Scr_blit 9 = .ok (.iconst 0, 1) := by decide +kernel
theorem d_Scr_blit_10 : decode b_Scr_blit 10 = .ok (.ireturn, 1) := by decide +kernel
theorem d_Scr_blit_11 : decode b_Scr_blit 11 = .ok (.iload_n 1, 1) := by decide +kernel
theorem d_Scr_blit_12 : decode b_Scr_blit 12 = .ok (.bipush 64, 2) := by decide +kernel
theorem d_Scr_blit_14 : decode b_Scr_blit 14 = .ok (.irem, 1) := by decide +kernel
theorem d_Scr_blit_15 : decode b_Scr_blit 15 = .ok (.istore 5, 2) := by decide +kernel
theorem d_Scr_blit_17 : decode b_Scr_blit 17 = .ok (.iload_n 1, 1) := by decide +kernel
theorem d_Scr_blit_18 : decode b_Scr_blit 18 = .ok (.bipush 64, 2) := by decide +kernel
theorem d_Scr_blit_20 : decode b_Scr_blit 20 = .ok (.idiv, 1) := by decide +kernel
theorem d_Scr_blit_21 : decode b_Scr_blit 21 = .ok (.istore 6, 2) := by decide +kernel
theorem d_Scr_blit_23 : decode b_Scr_blit 23 = .ok (.iload_n 2, 1) := by decide +kernel
theorem d_Scr_blit_24 : decode b_Scr_blit 24 = .ok (.iconst 1, 1) := by decide +kernel
theorem d_Scr_blit_25 : decode b_Scr_blit 25 = .ok (.isub, 1) := by decide +kernel
theorem d_Scr_blit_26 : decode b_Scr_blit 26 = .ok (.bipush 64, 2) := by decide +kernel
theorem d_Scr_blit_28 : decode b_Scr_blit 28 = .ok (.irem, 1) := by decide +kernel
theorem d_Scr_blit_29 : decode b_Scr_blit 29 = .ok (.iconst 1, 1) := by decide +kernel
theorem d_Scr_blit_30 : decode b_Scr_blit 30 = .ok (.iadd, 1) := by decide +kernel
theorem d_Scr_blit_31 : decode b_Scr_blit 31 = .ok (.istore 7, 2) := by decide +kernel
theorem d_Scr_blit_33 : decode b_Scr_blit 33 = .ok (.iload_n 2, 1) := by decide +kernel
theorem d_Scr_blit_34 : decode b_Scr_blit 34 = .ok (.iconst 1, 1) := by decide +kernel
theorem d_Scr_blit_35 : decode b_Scr_blit 35 = .ok (.isub, 1) := by decide +kernel
theorem d_Scr_blit_36 : decode b_Scr_blit 36 = .ok (.bipush 64, 2) := by decide +kernel
theorem d_Scr_blit_38 : decode b_Scr_blit 38 = .ok (.idiv, 1) := by decide +kernel
theorem d_Scr_blit_39 : decode b_Scr_blit 39 = .ok (.istore 8, 2) := by decide +kernel
theorem d_Scr_blit_41 : decode b_Scr_blit 41 = .ok (.iload 5, 2) := by decide +kernel
theorem d_Scr_blit_43 : decode b_Scr_blit 43 = .ok (.iload 6, 2) := by decide +kernel
theorem d_Scr_blit_45 : decode b_Scr_blit 45 = .ok (.iload 7, 2) := by decide +kernel
theorem d_Scr_blit_47 : decode b_Scr_blit 47 = .ok (.iload 8, 2) := by decide +kernel
theorem d_Scr_blit_49 : decode b_Scr_blit 49 = .ok (.invokestatic 35, 3) := by decide +kernel
theorem d_Scr_blit_52 : decode b_Scr_blit 52 = .ok (.ifCond .eq 16, 3) := by decide +kernel
theorem d_Scr_blit_55 : decode b_Scr_blit 55 = .ok (.iload_n 3, 1) := by decide +kernel
theorem d_Scr_blit_56 : decode b_Scr_blit 56 = .ok (.iload 4, 2) := by decide +kernel
theorem d_Scr_blit_58 : decode b_Scr_blit 58 = .ok (.iload 7, 2) := by decide +kernel
theorem d_Scr_blit_60 : decode b_Scr_blit 60 = .ok (.iload 8, 2) := by decide +kernel
theorem d_Scr_blit_62 : decode b_Scr_blit 62 = .ok (.invokestatic 35, 3) := by decide +kernel
theorem d_Scr_blit_65 : decode b_Scr_blit 65 = .ok (.ifCond .ne 5, 3) := by decide +kernel
theorem d_Scr_blit_68 : decode b_Scr_blit 68 = .ok (.iconst 0, 1) := by decide +kernel
theorem d_Scr_blit_69 : decode b_Scr_blit 69 = .ok (.ireturn, 1) := by decide +kernel
theorem d_Scr_blit_70 : decode b_Scr_blit 70 = .ok (.aload_n 0, 1) := by decide +kernel
theorem d_Scr_blit_71 : decode b_Scr_blit 71 = .ok (.getfield 21, 3) := by decide +kernel
theorem d_Scr_blit_74 : decode b_Scr_blit 74 = .ok (.aload_n 0, 1) := by decide +kernel
theorem d_Scr_blit_75 : decode b_Scr_blit 75 = .ok (.getfield 14, 3) := by decide +kernel
theorem d_Scr_blit_78 : decode b_Scr_blit 78 = .ok (.invokevirtual 54, 3) := by decide +kernel
theorem d_Scr_blit_81 : decode b_Scr_blit 81 = .ok (.iconst 0, 1) := by decide +kernel
theorem d_Scr_blit_82 : decode b_Scr_blit 82 = .ok (.istore 9, 2) := by decide +kernel
theorem d_Scr_blit_84 : decode b_Scr_blit 84 = .ok (.iload 9, 2) := by decide +kernel
theorem d_Scr_blit_86 : decode b_Scr_blit 86 = .ok (.iload 8, 2) := by decide +kernel
theorem d_Scr_blit_88 : decode b_Scr_blit 88 = .ok (.if_icmp .ge 77, 3) := by decide +kernel
theorem d_Scr_blit_91 : decode b_Scr_blit 91 = .ok (.iconst 0, 1) := by decide +kernel
theorem d_Scr_blit_92 : decode b_Scr_blit 92 = .ok (.istore 10, 2) := by decide +kernel
theorem d_Scr_blit_94 : decode b_Scr_blit 94 = .ok (.iload 10, 2) := by decide +kernel
theorem d_Scr_blit_96 : decode b_Scr_blit 96 = .ok (.iload 7, 2) := by decide +kernel
theorem d_Scr_blit_98 : decode b_Scr_blit 98 = .ok (.if_icmp .ge 61, 3) := by decide +kernel
theorem d_Scr_blit_101 : decode b_Scr_blit 101 = .ok (.aload_n 0, 1) := by decide +kernel
theorem d_Scr_blit_102 : decode b_Scr_blit 102 = .ok (.getfield 21, 3) := by decide +kernel
theorem d_Scr_blit_105 : decode b_Scr_blit 105 = .ok (.iload 5, 2) := by decide +kernel
theorem d_Scr_blit_107 : decode b_Scr_blit 107 = .ok (.iload 10, 2) := by decide +kernel
theorem d_Scr_blit_109 : decode b_Scr_blit 109 = .ok (.iadd, 1) := by decide +kernel
theorem d_Scr_blit_110 : decode b_Scr_blit 110 = .ok (.iload 6, 2) := by decide +kernel
theorem d_Scr_blit_112 : decode b_Scr_blit 112 = .ok (.iload 9, 2) := by decide +kernel
theorem d_Scr_blit_114 : decode b_Scr_blit 114 = .ok (.iadd, 1) := by decide +kernel
theorem d_Scr_blit_115 : decode b_Scr_blit 115 = .ok (.invokestatic 58, 3) := by decide +kernel
theorem d_Scr_blit_118 : decode b_Scr_blit 118 = .ok (.istore 11, 2) := by decide +kernel
theorem d_Scr_blit_120 : decode b_Scr_blit 120 = .ok (.aload_n 0, 1) := by decide +kernel
theorem d_Scr_blit_121 : decode b_Scr_blit 121 = .ok (.getfield 14, 3) := by decide +kernel
theorem d_Scr_blit_124 : decode b_Scr_blit 124 = .ok (.iload_n 3, 1) := by decide +kernel
theorem d_Scr_blit_125 : decode b_Scr_blit 125 = .ok (.iload 10, 2) := by decide +kernel
theorem d_Scr_blit_127 : decode b_Scr_blit 127 = .ok (.iadd, 1) := by decide +kernel
theorem d_Scr_blit_128 : decode b_Scr_blit 128 = .ok (.iload 4, 2) := by decide +kernel
theorem d_Scr_blit_130 : decode b_Scr_blit 130 = .ok (.iload 9, 2) := by decide +kernel
theorem d_Scr_blit_132 : decode b_Scr_blit 132 = .ok (.iadd, 1) := by decide +kernel
theorem d_Scr_blit_133 : decode b_Scr_blit 133 = .ok (.invokestatic 43, 3) := by decide +kernel
theorem d_Scr_blit_136 : decode b_Scr_blit 136 = .ok (.iload_n 3, 1) := by decide +kernel
theorem d_Scr_blit_137 : decode b_Scr_blit 137 = .ok (.iload 10, 2) := by decide +kernel
theorem d_Scr_blit_139 : decode b_Scr_blit 139 = .ok (.iadd, 1) := by decide +kernel
theorem d_Scr_blit_140 : decode b_Scr_blit 140 = .ok (.iload 4, 2) := by decide +kernel
theorem d_Scr_blit_142 : decode b_Scr_blit 142 = .ok (.iload 9, 2) := by decide +kernel
theorem d_Scr_blit_144 : decode b_Scr_blit 144 = .ok (.iadd, 1) := by decide +kernel
theorem d_Scr_blit_145 : decode b_Scr_blit 145 = .ok (.invokestatic 47, 3) := by decide +kernel
theorem d_Scr_blit_148 : decode b_Scr_blit 148 = .ok (.iload 11, 2) := by decide +kernel
theorem d_Scr_blit_150 : decode b_Scr_blit 150 = .ok (.invokevirtual 50, 3) := by decide +kernel
theorem d_Scr_blit_153 : decode b_Scr_blit 153 = .ok (.iinc 10 1, 3) := by decide +kernel
theorem d_Scr_blit_156 : decode b_Scr_blit 156 = .ok (.goto (-62), 3) := by decide +kernel
theorem d_Scr_blit_159 : decode b_Scr_blit 159 = .ok (.iinc 9 1, 3) := by decide +kernel
theorem d_Scr_blit_162 : decode b_Scr_blit 162 = .ok (.goto (-78), 3) := by decide +kernel
theorem d_Scr_blit_165 : decode b_Scr_blit 165 = .ok (.iconst 1, 1) := by decide +kernel
theorem d_Scr_blit_166 : decode b_Scr_blit 166 = .ok (.ireturn, 1) := by decide +kernel
theorem d_Scr_shade_0 : decode b_Scr_shade 0 = .ok (.iload_n 1, 1) := by decide +kernel
theorem d_Scr_shade_1 : decode b_Scr_shade 1 = .ok (.ifCond .lt 26, 3) := by decide +kernel
theorem d_Scr_shade_4 : decode b_Scr_shade 4 = .ok (.iload_n 1, 1) := by decide +kernel
theorem d_Scr_shade_5 : decode b_Scr_shade 5 = .ok (.bipush 48, 2) := by decide +kernel
theorem d_Scr_shade_7 : decode b_Scr_shade 7 = .ok (.if_icmp .ge 20, 3) := by decide +kernel
theorem d_Scr_shade_10 : decode b_Scr_shade 10 = .ok (.iload_n 2, 1) := by decide +kernel
theorem d_Scr_shade_11 : decode b_Scr_shade 11 = .ok (.ifCond .lt 16, 3) := by decide +kernel
theorem d_Scr_shade_14 : decode b_Scr_shade 14 = .ok (.iload_n 2, 1) := by decide +kernel
theorem d_Scr_shade_15 : decode b_Scr_shade 15 = .ok (.bipush 8, 2) := by decide +kernel
theorem d_Scr_shade_17 : decode b_Scr_shade 17 = .ok (.if_icmp .ge 10, 3) := by decide +kernel
theorem d_Scr_shade_20 : decode b_Scr_shade 20 = .ok (.iload_n 3, 1) := by decide +kernel
theorem d_Scr_shade_21 : decode b_Scr_shade 21 = .ok (.invokestatic 39, 3) := by decide +kernel
theorem d_Scr_shade_24 : decode b_Scr_shade 24 = .ok (.ifCond .ne 5, 3) := by decide +kernel
theorem d_Scr_shade_27 : decode b_Scr_shade 27 = .ok (.iconst 0, 1) := by decide +kernel
theorem d_Scr_shade_28 : decode b_Scr_shade 28 = .ok (.ireturn, 1) := by decide +kernel
theorem d_Scr_shade_29 : decode b_Scr_shade 29 = .ok (.iconst 0, 1) := by decide +kernel
theorem d_Scr_shade_30 : decode b_Scr_shade 30 = .ok (.istore 5, 2) := by decide +kernel
theorem d_Scr_shade_32 : decode b_Scr_shade 32 = .ok (.iload 5, 2) := by decide +kernel
theorem d_Scr_shade_34 : decode b_Scr_shade 34 = .ok (.bipush 8, 2) := by decide +kernel
theorem d_Scr_shade_36 : decode b_Scr_shade 36 = .ok (.if_icmp .ge 34, 3) := by decide +kernel
theorem d_Scr_shade_39 : decode b_Scr_shade 39 = .ok (.aload_n 0, 1) := by decide +kernel
theorem d_Scr_shade_40 : decode b_Scr_shade 40 = .ok (.getfield 14, 3) := by decide +kernel
theorem d_Scr_shade_43 : decode b_Scr_shade 43 = .ok (.iload_n 1, 1) := by decide +kernel
theorem d_Scr_shade_44 : decode b_Scr_shade 44 = .ok (.iload_n 2, 1) := by decide +kernel
theorem d_Scr_shade_45 : decode b_Scr_shade 45 = .ok (.bipush 8, 2) := by decide +kernel
theorem d_Scr_shade_47 : decode b_Scr_shade 47 = .ok (.imul, 1) := by decide +kernel
theorem d_Scr_shade_48 : decode b_Scr_shade 48 = .ok (.iload 5, 2) := by decide +kernel
theorem d_Scr_shade_50 : decode b_Scr_shade 50 = .ok (.iadd, 1) := by decide +kernel
theorem d_Scr_shade_51 : decode b_Scr_shade 51 = .ok (.iload_n 3, 1) := by decide +kernel
theorem d_Scr_shade_52 : decode b_Scr_shade 52 = .ok (.iload 5, 2) := by decide +kernel
theorem d_Scr_shade_54 : decode b_Scr_shade 54 = .ok (.iload 4, 2) := by decide +kernel
theorem d_Scr_shade_56 : decode b_Scr_shade 56 = .ok (.imul, 1) := by decide +kernel
theorem d_Scr_shade_57 : decode b_Scr_shade 57 = .ok (.iadd, 1) := by decide +kernel
theorem d_Scr_shade_58 : decode b_Scr_shade 58 = .ok (.ldc 62, 2) := by decide +kernel
theorem d_Scr_shade_60 : decode b_Scr_shade 60 = .ok (.iand, 1) := by decide +kernel
theorem d_Scr_shade_61 : decode b_Scr_shade 61 = .ok (.invokevirtual 50, 3) := by decide +kernel
theorem d_Scr_shade_64 : decode b_Scr_shade 64 = .ok (.iinc 5 1, 3) := by decide +kernel
theorem d_Scr_shade_67 : decode b_Scr_shade 67 = .ok (.goto (-35), 3) := by decide +kernel
theorem d_Scr_shade_70 : decode b_Scr_shade 70 = .ok (.iconst 1, 1) := by decide +kernel
theorem d_Scr_shade_71 : decode b_Scr_shade 71 = .ok (.ireturn, 1) := by decide +kernel
theorem d_Scr_frame_0 : decode b_Scr_frame 0 = .ok (.aload_n 0, 1) := by decide +kernel
theorem d_Scr_frame_1 : decode b_Scr_frame 1 = .ok (.getfield 18, 3) := by decide +kernel
theorem d_Scr_frame_4 : decode b_Scr_frame 4 = .ok (.aload_n 0, 1) := by decide +kernel
theorem d_Scr_frame_5 : decode b_Scr_frame 5 = .ok (.getfield 14, 3) := by decide +kernel
theorem d_Scr_frame_8 : decode b_Scr_frame 8 = .ok (.invokevirtual 54, 3) := by decide +kernel
theorem d_Scr_frame_11 : decode b_Scr_frame 11 = .ok (.aload_n 0, 1) := by decide +kernel
theorem d_Scr_frame_12 : decode b_Scr_frame 12 = .ok (.dup, 1) := by decide +kernel
theorem d_Scr_frame_13 : decode b_Scr_frame 13 = .ok (.getfield 31, 3) := by decide +kernel
theorem d_Scr_frame_16 : decode b_Scr_frame 16 = .ok (.iconst 1, 1) := by decide +kernel
theorem d_Scr_frame_17 : decode b_Scr_frame 17 = .ok (.iadd, 1) := by decide +kernel
theorem d_Scr_frame_18 : decode b_Scr_frame 18 = .ok (.putfield 31, 3) := by decide +kernel
theorem d_Scr_frame_21 : decode b_Scr_frame 21 = .ok (.aload_n 0, 1) := by decide +kernel
theorem d_Scr_frame_22 : decode b_Scr_frame 22 = .ok (.getfield 31, 3) := by decide +kernel
theorem d_Scr_frame_25 : decode b_Scr_frame 25 = .ok (.ireturn, 1) := by decide +kernel
theorem d_Scr_join_0 : decode b_Scr_join 0 = .ok (.iload_n 1, 1) := by decide +kernel
theorem d_Scr_join_1 : decode b_Scr_join 1 = .ok (.invokestatic 63, 3) := by decide +kernel
theorem d_Scr_join_4 : decode b_Scr_join 4 = .ok (.ifCond .eq 15, 3) := by decide +kernel
theorem d_Scr_join_7 : decode b_Scr_join 7 = .ok (.aload_n 0, 1) := by decide +kernel
theorem d_Scr_join_8 : decode b_Scr_join 8 = .ok (.getfield 26, 3) := by decide +kernel
theorem d_Scr_join_11 : decode b_Scr_join 11 = .ok (.iload_n 1, 1) := by decide +kernel
theorem d_Scr_join_12 : decode b_Scr_join 12 = .ok (.aaload, 1) := by decide +kernel
theorem d_Scr_join_13 : decode b_Scr_join 13 = .ok (.getfield 66, 3) := by decide +kernel
theorem d_Scr_join_16 : decode b_Scr_join 16 = .ok (.ifCond .eq 5, 3) := by decide +kernel
theorem d_Scr_join_19 : decode b_Scr_join 19 = .ok (.iconst 0, 1) := by decide +kernel
theorem d_Scr_join_20 : decode b_Scr_join 20 = .ok (.ireturn, 1) := by decide +kernel
theorem d_Scr_join_21 : decode b_Scr_join 21 = .ok (.aload_n 0, 1) := by decide +kernel
theorem d_Scr_join_22 : decode b_Scr_join 22 = .ok (.getfield 26, 3) := by decide +kernel
theorem d_Scr_join_25 : decode b_Scr_join 25 = .ok (.iload_n 1, 1) := by decide +kernel
theorem d_Scr_join_26 : decode b_Scr_join 26 = .ok (.aaload, 1) := by decide +kernel
theorem d_Scr_join_27 : decode b_Scr_join 27 = .ok (.invokevirtual 70, 3) := by decide +kernel
theorem d_Scr_join_30 : decode b_Scr_join 30 = .ok (.iconst 1, 1) := by decide +kernel
theorem d_Scr_join_31 : decode b_Scr_join 31 = .ok (.ireturn, 1) := by decide +kernel
theorem d_Scr_cut_0 : decode b_Scr_cut 0 = .ok (.iload_n 1, 1) := by decide +kernel
theorem d_Scr_cut_1 : decode b_Scr_cut 1 = .ok (.invokestatic 63, 3) := by decide +kernel
theorem d_Scr_cut_4 : decode b_Scr_cut 4 = .ok (.ifCond .eq 15, 3) := by decide +kernel
theorem d_Scr_cut_7 : decode b_Scr_cut 7 = .ok (.aload_n 0, 1) := by decide +kernel
theorem d_Scr_cut_8 : decode b_Scr_cut 8 = .ok (.getfield 26, 3) := by decide +kernel
theorem d_Scr_cut_11 : decode b_Scr_cut 11 = .ok (.iload_n 1, 1) := by decide +kernel
theorem d_Scr_cut_12 : decode b_Scr_cut 12 = .ok (.aaload, 1) := by decide +kernel
theorem d_Scr_cut_13 : decode b_Scr_cut 13 = .ok (.getfield 66, 3) := by decide +kernel
theorem d_Scr_cut_16 : decode b_Scr_cut 16 = .ok (.ifCond .ne 5, 3) := by decide +kernel
theorem d_Scr_cut_19 : decode b_Scr_cut 19 = .ok (.iconst 0, 1) := by decide +kernel
theorem d_Scr_cut_20 : decode b_Scr_cut 20 = .ok (.ireturn, 1) := by decide +kernel
theorem d_Scr_cut_21 : decode b_Scr_cut 21 = .ok (.aload_n 0, 1) := by decide +kernel
theorem d_Scr_cut_22 : decode b_Scr_cut 22 = .ok (.getfield 26, 3) := by decide +kernel
theorem d_Scr_cut_25 : decode b_Scr_cut 25 = .ok (.iload_n 1, 1) := by decide +kernel
theorem d_Scr_cut_26 : decode b_Scr_cut 26 = .ok (.aaload, 1) := by decide +kernel
theorem d_Scr_cut_27 : decode b_Scr_cut 27 = .ok (.invokevirtual 73, 3) := by decide +kernel
theorem d_Scr_cut_30 : decode b_Scr_cut 30 = .ok (.iconst 1, 1) := by decide +kernel
theorem d_Scr_cut_31 : decode b_Scr_cut 31 = .ok (.ireturn, 1) := by decide +kernel
theorem d_Scr_credit_0 : decode b_Scr_credit 0 = .ok (.iload_n 1, 1) := by decide +kernel
theorem d_Scr_credit_1 : decode b_Scr_credit 1 = .ok (.invokestatic 63, 3) := by decide +kernel
theorem d_Scr_credit_4 : decode b_Scr_credit 4 = .ok (.ifCond .eq 14, 3) := by decide +kernel
theorem d_Scr_credit_7 : decode b_Scr_credit 7 = .ok (.iload_n 2, 1) := by decide +kernel
theorem d_Scr_credit_8 : decode b_Scr_credit 8 = .ok (.iconst 1, 1) := by decide +kernel
theorem d_Scr_credit_9 : decode b_Scr_credit 9 = .ok (.if_icmp .lt 9, 3) := by decide +kernel
theorem d_Scr_credit_12 : decode b_Scr_credit 12 = .ok (.iload_n 2, 1) := by decide +kernel
theorem d_Scr_credit_13 : decode b_Scr_credit 13 = .ok (.ldc 76, 2) := by decide +kernel
theorem d_Scr_credit_15 : decode b_Scr_credit 15 = .ok (.if_icmp .le 13, 3) := by decide +kernel
theorem d_Scr_credit_18 : decode b_Scr_credit 18 = .ok (.new 77, 3) := by decide +kernel
theorem d_Scr_credit_21 : decode b_Scr_credit 21 = .ok (.dup, 1) := by decide +kernel
theorem d_Scr_credit_22 : decode b_Scr_credit 22 = .ok (.ldc 79, 2) := by decide +kernel
theorem d_Scr_credit_24 : decode b_Scr_credit 24 = .ok (.invokespecial 81, 3) := by decide +kernel
theorem d_Scr_credit_27 : decode b_Scr_credit 27 = .ok (.athrow, 1) := by decide +kernel
theorem d_Scr_credit_28 : decode b_Scr_credit 28 = .ok (.aload_n 0, 1) := by decide +kernel
theorem d_Scr_credit_29 : decode b_Scr_credit 29 = .ok (.getfield 26, 3) := by decide +kernel
theorem d_Scr_credit_32 : decode b_Scr_credit 32 = .ok (.iload_n 1, 1) := by decide +kernel
theorem d_Scr_credit_33 : decode b_Scr_credit 33 = .ok (.aaload, 1) := by decide +kernel
theorem d_Scr_credit_34 : decode b_Scr_credit 34 = .ok (.astore_n 3, 1) := by decide +kernel
theorem d_Scr_credit_35 : decode b_Scr_credit 35 = .ok (.aload_n 3, 1) := by decide +kernel
theorem d_Scr_credit_36 : decode b_Scr_credit 36 = .ok (.getfield 66, 3) := by decide +kernel
theorem d_Scr_credit_39 : decode b_Scr_credit 39 = .ok (.ifCond .eq 14, 3) := by decide +kernel
theorem d_Scr_credit_42 : decode b_Scr_credit 42 = .ok (.aload_n 3, 1) := by decide +kernel
theorem d_Scr_credit_43 : decode b_Scr_credit 43 = .ok (.getfield 84, 3) := by decide +kernel
theorem d_Scr_credit_46 : decode b_Scr_credit 46 = .ok (.iload_n 2, 1) := by decide +kernel
theorem d_Scr_credit_47 : decode b_Scr_credit 47 = .ok (.iadd, 1) := by decide +kernel
theorem d_Scr_credit_48 : decode b_Scr_credit 48 = .ok (.ldc 76, 2) := by decide +kernel
theorem d_Scr_credit_50 : decode b_Scr_credit 50 = .ok (.if_icmp .le 13, 3) := by decide +kernel
theorem d_Scr_credit_53 : decode b_Scr_credit 53 = .ok (.new 87, 3) := by decide +kernel
theorem d_Scr_credit_56 : decode b_Scr_credit 56 = .ok (.dup, 1) := by decide +kernel
theorem d_Scr_credit_57 : decode b_Scr_credit 57 = .ok (.ldc 89, 2) := by decide +kernel
theorem d_Scr_credit_59 : decode b_Scr_credit 59 = .ok (.invokespecial 91, 3) := by decide +kernel
theorem d_Scr_credit_62 : decode b_Scr_credit 62 = .ok (.athrow, 1) := by decide +kernel
theorem d_Scr_credit_63 : decode b_Scr_credit 63 = .ok (.aload_n 3, 1) := by decide +kernel
theorem d_Scr_credit_64 : decode b_Scr_credit 64 = .ok (.dup, 1) := by decide +kernel
theorem d_Scr_credit_65 : decode b_Scr_credit 65 = .ok (.getfield 84, 3) := by decide +kernel
theorem d_Scr_credit_68 : decode b_Scr_credit 68 = .ok (.iload_n 2, 1) := by decide +kernel
theorem d_Scr_credit_69 : decode b_Scr_credit 69 = .ok (.iadd, 1) := by decide +kernel
theorem d_Scr_credit_70 : decode b_Scr_credit 70 = .ok (.putfield 84, 3) := by decide +kernel
theorem d_Scr_credit_73 : decode b_Scr_credit 73 = .ok (.aload_n 3, 1) := by decide +kernel
theorem d_Scr_credit_74 : decode b_Scr_credit 74 = .ok (.getfield 84, 3) := by decide +kernel
theorem d_Scr_credit_77 : decode b_Scr_credit 77 = .ok (.ireturn, 1) := by decide +kernel
theorem d_Scr_pump_0 : decode b_Scr_pump 0 = .ok (.iload_n 1, 1) := by decide +kernel
theorem d_Scr_pump_1 : decode b_Scr_pump 1 = .ok (.invokestatic 63, 3) := by decide +kernel
theorem d_Scr_pump_4 : decode b_Scr_pump 4 = .ok (.ifCond .ne 5, 3) := by decide +kernel
theorem d_Scr_pump_7 : decode b_Scr_pump 7 = .ok (.iconst (-1), 1) := by decide +kernel
theorem d_Scr_pump_8 : decode b_Scr_pump 8 = .ok (.ireturn, 1) := by decide +kernel
theorem d_Scr_pump_9 : decode b_Scr_pump 9 = .ok (.aload_n 0, 1) := by decide +kernel
theorem d_Scr_pump_10 : decode b_Scr_pump 10 = .ok (.getfield 26, 3) := by decide +kernel
theorem d_Scr_pump_13 : decode b_Scr_pump 13 = .ok (.iload_n 1, 1) := by decide +kernel
theorem d_Scr_pump_14 : decode b_Scr_pump 14 = .ok (.aaload, 1) := by decide +kernel
theorem d_Scr_pump_15 : decode b_Scr_pump 15 = .ok (.astore_n 2, 1) := by decide +kernel
theorem d_Scr_pump_16 : decode b_Scr_pump 16 = .ok (.aload_n 2, 1) := by decide +kernel
theorem d_Scr_pump_17 : decode b_Scr_pump 17 = .ok (.getfield 92, 3) := by decide +kernel
theorem d_Scr_pump_20 : decode b_Scr_pump 20 = .ok (.astore_n 3, 1) := by decide +kernel
theorem d_Scr_pump_21 : decode b_Scr_pump 21 = .ok (.aload_n 2, 1) := by decide +kernel
theorem d_Scr_pump_22 : decode b_Scr_pump 22 = .ok (.getfield 84, 3) := by decide +kernel
theorem d_Scr_pump_25 : decode b_Scr_pump 25 = .ok (.istore 4, 2) := by decide +kernel
theorem d_Scr_pump_27 : decode b_Scr_pump 27 = .ok (.iconst 0, 1) := by decide +kernel
theorem d_Scr_pump_28 : decode b_Scr_pump 28 = .ok (.istore 5, 2) := by decide +kernel
theorem d_Scr_pump_30 : decode b_Scr_pump 30 = .ok (.iload 5, 2) := by decide +kernel
theorem d_Scr_pump_32 : decode b_Scr_pump 32 = .ok (.iload 4, 2) := by decide +kernel
theorem d_Scr_pump_34 : decode b_Scr_pump 34 = .ok (.if_icmp .ge 102, 3) := by decide +kernel
theorem d_Scr_pump_37 : decode b_Scr_pump 37 = .ok (.aload_n 2, 1) := by decide +kernel
theorem d_Scr_pump_38 : decode b_Scr_pump 38 = .ok (.getfield 66, 3) := by decide +kernel
theorem d_Scr_pump_41 : decode b_Scr_pump 41 = .ok (.ifCond .eq 95, 3) := by decide +kernel
theorem d_Scr_pump_44 : decode b_Scr_pump 44 = .ok (.aload_n 3, 1) := by decide +kernel
theorem d_Scr_pump_45 : decode b_Scr_pump 45 = .ok (.getfield 96, 3) := by decide +kernel
theorem d_Scr_pump_48 : decode b_Scr_pump 48 = .ok (.getfield 102, 3) := by decide +kernel
theorem d_Scr_pump_51 : decode b_Scr_pump 51 = .ok (.ifCond .ne 28, 3) := by decide +kernel
theorem d_Scr_pump_54 : decode b_Scr_pump 54 = .ok (.aload_n 3, 1) := by decide +kernel
theorem d_Scr_pump_55 : decode b_Scr_pump 55 = .ok (.getfield 107, 3) := by decide +kernel
theorem d_Scr_pump_58 : decode b_Scr_pump 58 = .ok (.aload_n 0, 1) := by decide +kernel
theorem d_Scr_pump_59 : decode b_Scr_pump 59 = .ok (.getfield 31, 3) := by decide +kernel
theorem d_Scr_pump_62 : decode b_Scr_pump 62 = .ok (.i2l, 1) := by decide +kernel
theorem d_Scr_pump_63 : decode b_Scr_pump 63 = .ok (.lcmp, 1) := by decide +kernel
theorem d_Scr_pump_64 : decode b_Scr_pump 64 = .ok (.ifCond .eq 15, 3) := by decide +kernel
theorem d_Scr_pump_67 : decode b_Scr_pump 67 = .ok (.aload_n 3, 1) := by decide +kernel
theorem d_Scr_pump_68 : decode b_Scr_pump 68 = .ok (.aload_n 0, 1) := by decide +kernel
theorem d_Scr_pump_69 : decode b_Scr_pump 69 = .ok (.getfield 18, 3) := by decide +kernel
theorem d_Scr_pump_72 : decode b_Scr_pump 72 = .ok (.aload_n 0, 1) := by decide +kernel
theorem d_Scr_pump_73 : decode b_Scr_pump 73 = .ok (.getfield 31, 3) := by decide +kernel
theorem d_Scr_pump_76 : decode b_Scr_pump 76 = .ok (.invokevirtual 111, 3) := by decide +kernel
theorem d_Scr_pump_79 : decode b_Scr_pump 79 = .ok (.aload_n 3, 1) := by decide +kernel
theorem d_Scr_pump_80 : decode b_Scr_pump 80 = .ok (.getfield 96, 3) := by decide +kernel
theorem d_Scr_pump_83 : decode b_Scr_pump 83 = .ok (.getfield 102, 3) := by decide +kernel
theorem d_Scr_pump_86 : decode b_Scr_pump 86 = .ok (.ifCond .ne 6, 3) := by decide +kernel
theorem d_Scr_pump_89 : decode b_Scr_pump 89 = .ok (.goto 47, 3) := by decide +kernel
theorem d_Scr_pump_92 : decode b_Scr_pump 92 = .ok (.aload_n 2, 1) := by decide +kernel
theorem d_Scr_pump_93 : decode b_Scr_pump 93 = .ok (.dup, 1) := by decide +kernel
theorem d_Scr_pump_94 : decode b_Scr_pump 94 = .ok (.getfield 84, 3) := by decide +kernel
theorem d_Scr_pump_97 : decode b_Scr_pump 97 = .ok (.iconst 1, 1) := by decide +kernel
theorem d_Scr_pump_98 : decode b_Scr_pump 98 = .ok (.isub, 1) := by decide +kernel
theorem d_Scr_pump_99 : decode b_Scr_pump 99 = .ok (.putfield 84, 3) := by decide +kernel
theorem d_Scr_pump_102 : decode b_Scr_pump 102 = .ok (.iinc 5 1, 3) := by decide +kernel
theorem d_Scr_pump_105 : decode b_Scr_pump 105 = .ok (.aload_n 2, 1) := by decide +kernel
theorem d_Scr_pump_106 : decode b_Scr_pump 106 = .ok (.getfield 115, 3) := by decide +kernel
theorem d_Scr_pump_109 : decode b_Scr_pump 109 = .ok (.aload_n 2, 1) := by decide +kernel
theorem d_Scr_pump_110 : decode b_Scr_pump 110 = .ok (.getfield 119, 3) := by decide +kernel
theorem d_Scr_pump_113 : decode b_Scr_pump 113 = .ok (.aload_n 3, 1) := by decide +kernel
theorem d_Scr_pump_114 : decode b_Scr_pump 114 = .ok (.getfield 96, 3) := by decide +kernel
theorem d_Scr_pump_117 : decode b_Scr_pump 117 = .ok (.invokevirtual 123, 3) := by decide +kernel
theorem d_Scr_pump_120 : decode b_Scr_pump 120 = .ok (.invokevirtual 127, 3) := by decide +kernel
theorem d_Scr_pump_123 : decode b_Scr_pump 123 = .ok (.invokevirtual 133, 3) := by decide +kernel
theorem d_Scr_pump_126 : decode b_Scr_pump 126 = .ok (.ifCond .ne (-96), 3) := by decide +kernel
theorem d_Scr_pump_129 : decode b_Scr_pump 129 = .ok (.aload_n 2, 1) := by decide +kernel
theorem d_Scr_pump_130 : decode b_Scr_pump 130 = .ok (.invokevirtual 73, 3) := by decide +kernel
theorem d_Scr_pump_133 : decode b_Scr_pump 133 = .ok (.goto (-103), 3) := by decide +kernel
theorem d_Scr_pump_136 : decode b_Scr_pump 136 = .ok (.iload 5, 2) := by decide +kernel
theorem d_Scr_pump_138 : decode b_Scr_pump 138 = .ok (.ireturn, 1) := by decide +kernel
theorem d_Scr_poison_0 : decode b_Scr_poison 0 = .ok (.iload_n 1, 1) := by decide +kernel
theorem d_Scr_poison_1 : decode b_Scr_poison 1 = .ok (.invokestatic 63, 3) := by decide +kernel
theorem d_Scr_poison_4 : decode b_Scr_poison 4 = .ok (.ifCond .eq 15, 3) := by decide +kernel
theorem d_Scr_poison_7 : decode b_Scr_poison 7 = .ok (.iload_n 2, 1) := by decide +kernel
theorem d_Scr_poison_8 : decode b_Scr_poison 8 = .ok (.iconst 1, 1) := by decide +kernel
theorem d_Scr_poison_9 : decode b_Scr_poison 9 = .ok (.if_icmp .lt 10, 3) := by decide +kernel
theorem d_Scr_poison_12 : decode b_Scr_poison 12 = .ok (.iload_n 2, 1) := by decide +kernel
theorem d_Scr_poison_13 : decode b_Scr_poison 13 = .ok (.sipush 10000, 3) := by decide +kernel
theorem d_Scr_poison_16 : decode b_Scr_poison 16 = .ok (.if_icmp .le 5, 3) := by decide +kernel
theorem d_Scr_poison_19 : decode b_Scr_poison 19 = .ok (.iconst 0, 1) := by decide +kernel
theorem d_Scr_poison_20 : decode b_Scr_poison 20 = .ok (.ireturn, 1) := by decide +kernel
theorem d_Scr_poison_21 : decode b_Scr_poison 21 = .ok (.aload_n 0, 1) := by decide +kernel
theorem d_Scr_poison_22 : decode b_Scr_poison 22 = .ok (.getfield 26, 3) := by decide +kernel
theorem d_Scr_poison_25 : decode b_Scr_poison 25 = .ok (.iload_n 1, 1) := by decide +kernel
theorem d_Scr_poison_26 : decode b_Scr_poison 26 = .ok (.aaload, 1) := by decide +kernel
theorem d_Scr_poison_27 : decode b_Scr_poison 27 = .ok (.getfield 119, 3) := by decide +kernel
theorem d_Scr_poison_30 : decode b_Scr_poison 30 = .ok (.iload_n 2, 1) := by decide +kernel
theorem d_Scr_poison_31 : decode b_Scr_poison 31 = .ok (.iload_n 3, 1) := by decide +kernel
theorem d_Scr_poison_32 : decode b_Scr_poison 32 = .ok (.sipush 255, 3) := by decide +kernel
theorem d_Scr_poison_35 : decode b_Scr_poison 35 = .ok (.iand, 1) := by decide +kernel
theorem d_Scr_poison_36 : decode b_Scr_poison 36 = .ok (.invokevirtual 138, 3) := by decide +kernel
theorem d_Scr_poison_39 : decode b_Scr_poison 39 = .ok (.iconst 1, 1) := by decide +kernel
theorem d_Scr_poison_40 : decode b_Scr_poison 40 = .ok (.ireturn, 1) := by decide +kernel
theorem d_Scr_shown_0 : decode b_Scr_shown 0 = .ok (.iload_n 1, 1) := by decide +kernel
theorem d_Scr_shown_1 : decode b_Scr_shown 1 = .ok (.invokestatic 63, 3) := by decide +kernel
theorem d_Scr_shown_4 : decode b_Scr_shown 4 = .ok (.ifCond .eq 21, 3) := by decide +kernel
theorem d_Scr_shown_7 : decode b_Scr_shown 7 = .ok (.aload_n 0, 1) := by decide +kernel
theorem d_Scr_shown_8 : decode b_Scr_shown 8 = .ok (.getfield 26, 3) := by decide +kernel
theorem d_Scr_shown_11 : decode b_Scr_shown 11 = .ok (.iload_n 1, 1) := by decide +kernel
theorem d_Scr_shown_12 : decode b_Scr_shown 12 = .ok (.aaload, 1) := by decide +kernel
theorem d_Scr_shown_13 : decode b_Scr_shown 13 = .ok (.getfield 115, 3) := by decide +kernel
theorem d_Scr_shown_16 : decode b_Scr_shown 16 = .ok (.getfield 142, 3) := by decide +kernel
theorem d_Scr_shown_19 : decode b_Scr_shown 19 = .ok (.invokestatic 145, 3) := by decide +kernel
theorem d_Scr_shown_22 : decode b_Scr_shown 22 = .ok (.goto 4, 3) := by decide +kernel
theorem d_Scr_shown_25 : decode b_Scr_shown 25 = .ok (.iconst (-1), 1) := by decide +kernel
theorem d_Scr_shown_26 : decode b_Scr_shown 26 = .ok (.ireturn, 1) := by decide +kernel
theorem d_Scr_at_0 : decode b_Scr_at 0 = .ok (.iload_n 2, 1) := by decide +kernel
theorem d_Scr_at_1 : decode b_Scr_at 1 = .ok (.iload_n 3, 1) := by decide +kernel
theorem d_Scr_at_2 : decode b_Scr_at 2 = .ok (.iconst 1, 1) := by decide +kernel
theorem d_Scr_at_3 : decode b_Scr_at 3 = .ok (.iconst 1, 1) := by decide +kernel
theorem d_Scr_at_4 : decode b_Scr_at 4 = .ok (.invokestatic 35, 3) := by decide +kernel
theorem d_Scr_at_7 : decode b_Scr_at 7 = .ok (.ifCond .ne 5, 3) := by decide +kernel
theorem d_Scr_at_10 : decode b_Scr_at 10 = .ok (.iconst (-1), 1) := by decide +kernel
theorem d_Scr_at_11 : decode b_Scr_at 11 = .ok (.ireturn, 1) := by decide +kernel
theorem d_Scr_at_12 : decode b_Scr_at 12 = .ok (.iload_n 1, 1) := by decide +kernel
theorem d_Scr_at_13 : decode b_Scr_at 13 = .ok (.iconst (-1), 1) := by decide +kernel
theorem d_Scr_at_14 : decode b_Scr_at 14 = .ok (.if_icmp .ne 13, 3) := by decide +kernel
theorem d_Scr_at_17 : decode b_Scr_at 17 = .ok (.aload_n 0, 1) := by decide +kernel
theorem d_Scr_at_18 : decode b_Scr_at 18 = .ok (.getfield 14, 3) := by decide +kernel
theorem d_Scr_at_21 : decode b_Scr_at 21 = .ok (.iload_n 2, 1) := by decide +kernel
theorem d_Scr_at_22 : decode b_Scr_at 22 = .ok (.iload_n 3, 1) := by decide +kernel
theorem d_Scr_at_23 : decode b_Scr_at 23 = .ok (.invokestatic 58, 3) := by decide +kernel
theorem d_Scr_at_26 : decode b_Scr_at 26 = .ok (.ireturn, 1) := by decide +kernel
theorem d_Scr_at_27 : decode b_Scr_at 27 = .ok (.iload_n 1, 1) := by decide +kernel
theorem d_Scr_at_28 : decode b_Scr_at 28 = .ok (.invokestatic 63, 3) := by decide +kernel
theorem d_Scr_at_31 : decode b_Scr_at 31 = .ok (.ifCond .eq 23, 3) := by decide +kernel
theorem d_Scr_at_34 : decode b_Scr_at 34 = .ok (.aload_n 0, 1) := by decide +kernel
theorem d_Scr_at_35 : decode b_Scr_at 35 = .ok (.getfield 26, 3) := by decide +kernel
theorem d_Scr_at_38 : decode b_Scr_at 38 = .ok (.iload_n 1, 1) := by decide +kernel
theorem d_Scr_at_39 : decode b_Scr_at 39 = .ok (.aaload, 1) := by decide +kernel
theorem d_Scr_at_40 : decode b_Scr_at 40 = .ok (.getfield 115, 3) := by decide +kernel
theorem d_Scr_at_43 : decode b_Scr_at 43 = .ok (.getfield 149, 3) := by decide +kernel
theorem d_Scr_at_46 : decode b_Scr_at 46 = .ok (.iload_n 2, 1) := by decide +kernel
theorem d_Scr_at_47 : decode b_Scr_at 47 = .ok (.iload_n 3, 1) := by decide +kernel
theorem d_Scr_at_48 : decode b_Scr_at 48 = .ok (.invokestatic 58, 3) := by decide +kernel
theorem d_Scr_at_51 : decode b_Scr_at 51 = .ok (.goto 4, 3) := by decide +kernel
theorem d_Scr_at_54 : decode b_Scr_at 54 = .ok (.iconst (-1), 1) := by decide +kernel
theorem d_Scr_at_55 : decode b_Scr_at 55 = .ok (.ireturn, 1) := by decide +kernel
theorem d_Scr_about_0 : decode b_Scr_about 0 = .ok (.iload_n 1, 1) := by decide +kernel
theorem d_Scr_about_1 : decode b_Scr_about 1 = .ok (.invokestatic 63, 3) := by decide +kernel
theorem d_Scr_about_4 : decode b_Scr_about 4 = .ok (.ifCond .ne 5, 3) := by decide +kernel
theorem d_Scr_about_7 : decode b_Scr_about 7 = .ok (.iconst (-1), 1) := by decide +kernel
theorem d_Scr_about_8 : decode b_Scr_about 8 = .ok (.ireturn, 1) := by decide +kernel
theorem d_Scr_about_9 : decode b_Scr_about 9 = .ok (.aload_n 0, 1) := by decide +kernel
theorem d_Scr_about_10 : decode b_Scr_about 10 = .ok (.getfield 26, 3) := by decide +kernel
theorem d_Scr_about_13 : decode b_Scr_about 13 = .ok (.iload_n 1, 1) := by decide +kernel
theorem d_Scr_about_14 : decode b_Scr_about 14 = .ok (.aaload, 1) := by decide +kernel
theorem d_Scr_about_15 : decode b_Scr_about 15 = .ok (.astore_n 3, 1) := by decide +kernel
theorem d_Scr_about_16 : decode b_Scr_about 16 = .ok (.iload_n 2, 1) := by decide +kernel
theorem d_Scr_about_17 : decode b_Scr_about 17 = .ok (.tableswitch 126 0 7 #[47, 60, 65, 76, 84, 89, 104, 115], 47) := by decide +kernel
theorem d_Scr_about_64 : decode b_Scr_about 64 = .ok (.aload_n 3, 1) := by decide +kernel
theorem d_Scr_about_65 : decode b_Scr_about 65 = .ok (.getfield 66, 3) := by decide +kernel
theorem d_Scr_about_68 : decode b_Scr_about 68 = .ok (.ifCond .eq 7, 3) := by decide +kernel
theorem d_Scr_about_71 : decode b_Scr_about 71 = .ok (.iconst 1, 1) := by decide +kernel
theorem d_Scr_about_72 : decode b_Scr_about 72 = .ok (.goto 4, 3) := by decide +kernel
theorem d_Scr_about_75 : decode b_Scr_about 75 = .ok (.iconst 0, 1) := by decide +kernel
theorem d_Scr_about_76 : decode b_Scr_about 76 = .ok (.ireturn, 1) := by decide +kernel
theorem d_Scr_about_77 : decode b_Scr_about 77 = .ok (.aload_n 3, 1) := by decide +kernel
theorem d_Scr_about_78 : decode b_Scr_about 78 = .ok (.getfield 84, 3) := by decide +kernel
theorem d_Scr_about_81 : decode b_Scr_about 81 = .ok (.ireturn, 1) := by decide +kernel
theorem d_Scr_about_82 : decode b_Scr_about 82 = .ok (.aload_n 3, 1) := by decide +kernel
theorem d_Scr_about_83 : decode b_Scr_about 83 = .ok (.getfield 92, 3) := by decide +kernel
theorem d_Scr_about_86 : decode b_Scr_about 86 = .ok (.getfield 96, 3) := by decide +kernel
theorem d_Scr_about_89 : decode b_Scr_about 89 = .ok (.getfield 102, 3) := by decide +kernel
theorem d_Scr_about_92 : decode b_Scr_about 92 = .ok (.ireturn, 1) := by decide +kernel
theorem d_Scr_about_93 : decode b_Scr_about 93 = .ok (.aload_n 3, 1) := by decide +kernel
theorem d_Scr_about_94 : decode b_Scr_about 94 = .ok (.getfield 115, 3) := by decide +kernel
theorem d_Scr_about_97 : decode b_Scr_about 97 = .ok (.getfield 152, 3) := by decide +kernel
theorem d_Scr_about_100 : decode b_Scr_about 100 = .ok (.ireturn, 1) := by decide +kernel
theorem d_Scr_about_101 : decode b_Scr_about 101 = .ok (.aload_n 3, 1) := by decide +kernel
theorem d_Scr_about_102 : decode b_Scr_about 102 = .ok (.getfield 155, 3) := by decide +kernel
theorem d_Scr_about_105 : decode b_Scr_about 105 = .ok (.ireturn, 1) := by decide +kernel
theorem d_Scr_about_106 : decode b_Scr_about 106 = .ok (.aload_n 3, 1) := by decide +kernel
theorem d_Scr_about_107 : decode b_Scr_about 107 = .ok (.getfield 92, 3) := by decide +kernel
theorem d_Scr_about_110 : decode b_Scr_about 110 = .ok (.getfield 158, 3) := by decide +kernel
theorem d_Scr_about_113 : decode b_Scr_about 113 = .ok (.aload_n 0, 1) := by decide +kernel
theorem d_Scr_about_114 : decode b_Scr_about 114 = .ok (.getfield 18, 3) := by decide +kernel
theorem d_Scr_about_117 : decode b_Scr_about 117 = .ok (.invokevirtual 161, 3) := by decide +kernel
theorem d_Scr_about_120 : decode b_Scr_about 120 = .ok (.ireturn, 1) := by decide +kernel
theorem d_Scr_about_121 : decode b_Scr_about 121 = .ok (.aload_n 3, 1) := by decide +kernel
theorem d_Scr_about_122 : decode b_Scr_about 122 = .ok (.getfield 92, 3) := by decide +kernel
theorem d_Scr_about_125 : decode b_Scr_about 125 = .ok (.getfield 107, 3) := by decide +kernel
theorem d_Scr_about_128 : decode b_Scr_about 128 = .ok (.invokestatic 145, 3) := by decide +kernel
theorem d_Scr_about_131 : decode b_Scr_about 131 = .ok (.ireturn, 1) := by decide +kernel
theorem d_Scr_about_132 : decode b_Scr_about 132 = .ok (.aload_n 3, 1) := by decide +kernel
theorem d_Scr_about_133 : decode b_Scr_about 133 = .ok (.getfield 92, 3) := by decide +kernel
theorem d_Scr_about_136 : decode b_Scr_about 136 = .ok (.getfield 165, 3) := by decide +kernel
theorem d_Scr_about_139 : decode b_Scr_about 139 = .ok (.getfield 169, 3) := by decide +kernel
theorem d_Scr_about_142 : decode b_Scr_about 142 = .ok (.ireturn, 1) := by decide +kernel
theorem d_Scr_about_143 : decode b_Scr_about 143 = .ok (.iconst (-1), 1) := by decide +kernel
theorem d_Scr_about_144 : decode b_Scr_about 144 = .ok (.ireturn, 1) := by decide +kernel
theorem d_Scr_bytesBy_0 : decode b_Scr_bytesBy 0 = .ok (.iload_n 1, 1) := by decide +kernel
theorem d_Scr_bytesBy_1 : decode b_Scr_bytesBy 1 = .ok (.invokestatic 63, 3) := by decide +kernel
theorem d_Scr_bytesBy_4 : decode b_Scr_bytesBy 4 = .ok (.ifCond .eq 13, 3) := by decide +kernel
theorem d_Scr_bytesBy_7 : decode b_Scr_bytesBy 7 = .ok (.iload_n 2, 1) := by decide +kernel
theorem d_Scr_bytesBy_8 : decode b_Scr_bytesBy 8 = .ok (.ifCond .lt 9, 3) := by decide +kernel
theorem d_Scr_bytesBy_11 : decode b_Scr_bytesBy 11 = .ok (.iload_n 2, 1) := by decide +kernel
theorem d_Scr_bytesBy_12 : decode b_Scr_bytesBy 12 = .ok (.bipush 7, 2) := by decide +kernel
theorem d_Scr_bytesBy_14 : decode b_Scr_bytesBy 14 = .ok (.if_icmp .lt 5, 3) := by decide +kernel
theorem d_Scr_bytesBy_17 : decode b_Scr_bytesBy 17 = .ok (.iconst (-1), 1) := by decide +kernel
theorem d_Scr_bytesBy_18 : decode b_Scr_bytesBy 18 = .ok (.ireturn, 1) := by decide +kernel
theorem d_Scr_bytesBy_19 : decode b_Scr_bytesBy 19 = .ok (.aload_n 0, 1) := by decide +kernel
theorem d_Scr_bytesBy_20 : decode b_Scr_bytesBy 20 = .ok (.getfield 26, 3) := by decide +kernel
theorem d_Scr_bytesBy_23 : decode b_Scr_bytesBy 23 = .ok (.iload_n 1, 1) := by decide +kernel
theorem d_Scr_bytesBy_24 : decode b_Scr_bytesBy 24 = .ok (.aaload, 1) := by decide +kernel
theorem d_Scr_bytesBy_25 : decode b_Scr_bytesBy 25 = .ok (.getfield 92, 3) := by decide +kernel
theorem d_Scr_bytesBy_28 : decode b_Scr_bytesBy 28 = .ok (.getfield 174, 3) := by decide +kernel
theorem d_Scr_bytesBy_31 : decode b_Scr_bytesBy 31 = .ok (.iload_n 2, 1) := by decide +kernel
theorem d_Scr_bytesBy_32 : decode b_Scr_bytesBy 32 = .ok (.iaload, 1) := by decide +kernel
theorem d_Scr_bytesBy_33 : decode b_Scr_bytesBy 33 = .ok (.ireturn, 1) := by decide +kernel
theorem d_Scr_onLine_0 : decode b_Scr_onLine 0 = .ok (.iload_n 1, 1) := by decide +kernel
theorem d_Scr_onLine_1 : decode b_Scr_onLine 1 = .ok (.invokestatic 63, 3) := by decide +kernel
theorem d_Scr_onLine_4 : decode b_Scr_onLine 4 = .ok (.ifCond .eq 22, 3) := by decide +kernel
theorem d_Scr_onLine_7 : decode b_Scr_onLine 7 = .ok (.aload_n 0, 1) := by decide +kernel
theorem d_Scr_onLine_8 : decode b_Scr_onLine 8 = .ok (.getfield 26, 3) := by decide +kernel
theorem d_Scr_onLine_11 : decode b_Scr_onLine 11 = .ok (.iload_n 1, 1) := by decide +kernel
theorem d_Scr_onLine_12 : decode b_Scr_onLine 12 = .ok (.aaload, 1) := by decide +kernel
theorem d_Scr_onLine_13 : decode b_Scr_onLine 13 = .ok (.getfield 92, 3) := by decide +kernel
theorem d_Scr_onLine_16 : decode b_Scr_onLine 16 = .ok (.getfield 96, 3) := by decide +kernel
theorem d_Scr_onLine_19 : decode b_Scr_onLine 19 = .ok (.iload_n 2, 1) := by decide +kernel
theorem d_Scr_onLine_20 : decode b_Scr_onLine 20 = .ok (.invokevirtual 178, 3) := by decide +kernel
theorem d_Scr_onLine_23 : decode b_Scr_onLine 23 = .ok (.goto 4, 3) := by decide +kernel
theorem d_Scr_onLine_26 : decode b_Scr_onLine 26 = .ok (.iconst (-1), 1) := by decide +kernel
theorem d_Scr_onLine_27 : decode b_Scr_onLine 27 = .ok (.ireturn, 1) := by decide +kernel
theorem d_Scr_isViewer_0 : decode b_Scr_isViewer 0 = .ok (.iload_n 0, 1) := by decide +kernel
theorem d_Scr_isViewer_1 : decode b_Scr_isViewer 1 = .ok (.ifCond .lt 12, 3) := by decide +kernel
theorem d_Scr_isViewer_4 : decode b_Scr_isViewer 4 = .ok (.iload_n 0, 1) := by decide +kernel
theorem d_Scr_isViewer_5 : decode b_Scr_isViewer 5 = .ok (.iconst 3, 1) := by decide +kernel
theorem d_Scr_isViewer_6 : decode b_Scr_isViewer 6 = .ok (.if_icmp .ge 7, 3) := by decide +kernel
theorem d_Scr_isViewer_9 : decode b_Scr_isViewer 9 = .ok (.iconst 1, 1) := by decide +kernel
theorem d_Scr_isViewer_10 : decode b_Scr_isViewer 10 = .ok (.goto 4, 3) := by decide +kernel
theorem d_Scr_isViewer_13 : decode b_Scr_isViewer 13 = .ok (.iconst 0, 1) := by decide +kernel
theorem d_Scr_isViewer_14 : decode b_Scr_isViewer 14 = .ok (.ireturn, 1) := by decide +kernel
theorem d_Scr_answerOf_0 : decode b_Scr_answerOf 0 = .ok (.lload_n 0, 1) := by decide +kernel
theorem d_Scr_answerOf_1 : decode b_Scr_answerOf 1 = .ok (.l2i, 1) := by decide +kernel
theorem d_Scr_answerOf_2 : decode b_Scr_answerOf 2 = .ok (.ireturn, 1) := by decide +kernel
theorem d_Scr_isColour_0 : decode b_Scr_isColour 0 = .ok (.iload_n 0, 1) := by decide +kernel
theorem d_Scr_isColour_1 : decode b_Scr_isColour 1 = .ok (.ifCond .lt 13, 3) := by decide +kernel
theorem d_Scr_isColour_4 : decode b_Scr_isColour 4 = .ok (.iload_n 0, 1) := by decide +kernel
theorem d_Scr_isColour_5 : decode b_Scr_isColour 5 = .ok (.ldc 181, 2) := by decide +kernel
theorem d_Scr_isColour_7 : decode b_Scr_isColour 7 = .ok (.if_icmp .ge 7, 3) := by decide +kernel
theorem d_Scr_isColour_10 : decode b_Scr_isColour 10 = .ok (.iconst 1, 1) := by decide +kernel
theorem d_Scr_isColour_11 : decode b_Scr_isColour 11 = .ok (.goto 4, 3) := by decide +kernel
theorem d_Scr_isColour_14 : decode b_Scr_isColour 14 = .ok (.iconst 0, 1) := by decide +kernel
theorem d_Scr_isColour_15 : decode b_Scr_isColour 15 = .ok (.ireturn, 1) := by decide +kernel
theorem d_Scr_isInside_0 : decode b_Scr_isInside 0 = .ok (.iload_n 0, 1) := by decide +kernel
theorem d_Scr_isInside_1 : decode b_Scr_isInside 1 = .ok (.ifCond .lt 49, 3) := by decide +kernel
theorem d_Scr_isInside_4 : decode b_Scr_isInside 4 = .ok (.iload_n 0, 1) := by decide +kernel
theorem d_Scr_isInside_5 : decode b_Scr_isInside 5 = .ok (.bipush 64, 2) := by decide +kernel
theorem d_Scr_isInside_7 : decode b_Scr_isInside 7 = .ok (.if_icmp .ge 43, 3) := by decide +kernel
theorem d_Scr_isInside_10 : decode b_Scr_isInside 10 = .ok (.iload_n 2, 1) := by decide +kernel
theorem d_Scr_isInside_11 : decode b_Scr_isInside 11 = .ok (.iconst 1, 1) := by decide +kernel
theorem d_Scr_isInside_12 : decode b_Scr_isInside 12 = .ok (.if_icmp .lt 38, 3) := by decide +kernel
theorem d_Scr_isInside_15 : decode b_Scr_isInside 15 = .ok (.iload_n 2, 1) := by decide +kernel
theorem d_Scr_isInside_16 : decode b_Scr_isInside 16 = .ok (.bipush 64, 2) := by decide +kernel
theorem d_Scr_isInside_18 : decode b_Scr_isInside 18 = .ok (.iload_n 0, 1) := by decide +kernel
theorem d_Scr_isInside_19 : decode b_Scr_isInside 19 = .ok (.isub, 1) := by decide +kernel
theorem d_Scr_isInside_20 : decode b_Scr_isInside 20 = .ok (.if_icmp .gt 30, 3) := by decide +kernel
theorem d_Scr_isInside_23 : decode b_Scr_isInside 23 = .ok (.iload_n 1, 1) := by decide +kernel
theorem d_Scr_isInside_24 : decode b_Scr_isInside 24 = .ok (.ifCond .lt 26, 3) := by decide +kernel
theorem d_Scr_isInside_27 : decode b_Scr_isInside 27 = .ok (.iload_n 1, 1) := by decide +kernel
theorem d_Scr_isInside_28 : decode b_Scr_isInside 28 = .ok (.bipush 48, 2) := by decide +kernel
theorem d_Scr_isInside_30 : decode b_Scr_isInside 30 = .ok (.if_icmp .ge 20, 3) := by decide +kernel
theorem d_Scr_isInside_33 : decode b_Scr_isInside 33 = .ok (.iload_n 3, 1) := by decide +kernel
theorem d_Scr_isInside_34 : decode b_Scr_isInside 34 = .ok (.iconst 1, 1) := by decide +kernel
theorem d_Scr_isInside_35 : decode b_Scr_isInside 35 = .ok (.if_icmp .lt 15, 3) := by decide +kernel
theorem d_Scr_isInside_38 : decode b_Scr_isInside 38 = .ok (.iload_n 3, 1) := by decide +kernel
theorem d_Scr_isInside_39 : decode b_Scr_isInside 39 = .ok (.bipush 48, 2) := by decide +kernel
theorem d_Scr_isInside_41 : decode b_Scr_isInside 41 = .ok (.iload_n 1, 1) := by decide +kernel
theorem d_Scr_isInside_42 : decode b_Scr_isInside 42 = .ok (.isub, 1) := by decide +kernel
theorem d_Scr_isInside_43 : decode b_Scr_isInside 43 = .ok (.if_icmp .gt 7, 3) := by decide +kernel
theorem d_Scr_isInside_46 : decode b_Scr_isInside 46 = .ok (.iconst 1, 1) := by decide +kernel
theorem d_Scr_isInside_47 : decode b_Scr_isInside 47 = .ok (.goto 4, 3) := by decide +kernel
theorem d_Scr_isInside_50 : decode b_Scr_isInside 50 = .ok (.iconst 0, 1) := by decide +kernel
theorem d_Scr_isInside_51 : decode b_Scr_isInside 51 = .ok (.ireturn, 1) := by decide +kernel
theorem d_Scr_tileOf_0 : decode b_Scr_tileOf 0 = .ok (.iload_n 1, 1) := by decide +kernel
theorem d_Scr_tileOf_1 : decode b_Scr_tileOf 1 = .ok (.bipush 8, 2) := by decide +kernel
theorem d_Scr_tileOf_3 : decode b_Scr_tileOf 3 = .ok (.idiv, 1) := by decide +kernel
theorem d_Scr_tileOf_4 : decode b_Scr_tileOf 4 = .ok (.bipush 8, 2) := by decide +kernel
theorem d_Scr_tileOf_6 : decode b_Scr_tileOf 6 = .ok (.imul, 1) := by decide +kernel
theorem d_Scr_tileOf_7 : decode b_Scr_tileOf 7 = .ok (.iload_n 0, 1) := by decide +kernel
theorem d_Scr_tileOf_8 : decode b_Scr_tileOf 8 = .ok (.bipush 8, 2) := by decide +kernel
theorem d_Scr_tileOf_10 : decode b_Scr_tileOf 10 = .ok (.idiv, 1) := by decide +kernel
theorem d_Scr_tileOf_11 : decode b_Scr_tileOf 11 = .ok (.iadd, 1) := by decide +kernel
theorem d_Scr_tileOf_12 : decode b_Scr_tileOf 12 = .ok (.ireturn, 1) := by decide +kernel
theorem d_Scr_pixelOf_0 : decode b_Scr_pixelOf 0 = .ok (.iload_n 1, 1) := by decide +kernel
theorem d_Scr_pixelOf_1 : decode b_Scr_pixelOf 1 = .ok (.bipush 8, 2) := by decide +kernel
theorem d_Scr_pixelOf_3 : decode b_Scr_pixelOf 3 = .ok (.irem, 1) := by decide +kernel
theorem d_Scr_pixelOf_4 : decode b_Scr_pixelOf 4 = .ok (.bipush 8, 2) := by decide +kernel
theorem d_Scr_pixelOf_6 : decode b_Scr_pixelOf 6 = .ok (.imul, 1) := by decide +kernel
theorem d_Scr_pixelOf_7 : decode b_Scr_pixelOf 7 = .ok (.iload_n 0, 1) := by decide +kernel
theorem d_Scr_pixelOf_8 : decode b_Scr_pixelOf 8 = .ok (.bipush 8, 2) := by decide +kernel
theorem d_Scr_pixelOf_10 : decode b_Scr_pixelOf 10 = .ok (.irem, 1) := by decide +kernel
theorem d_Scr_pixelOf_11 : decode b_Scr_pixelOf 11 = .ok (.iadd, 1) := by decide +kernel
theorem d_Scr_pixelOf_12 : decode b_Scr_pixelOf 12 = .ok (.ireturn, 1) := by decide +kernel
theorem d_Scr_pixelAt_0 : decode b_Scr_pixelAt 0 = .ok (.aload_n 0, 1) := by decide +kernel
theorem d_Scr_pixelAt_1 : decode b_Scr_pixelAt 1 = .ok (.iload_n 1, 1) := by decide +kernel
theorem d_Scr_pixelAt_2 : decode b_Scr_pixelAt 2 = .ok (.iload_n 2, 1) := by decide +kernel
theorem d_Scr_pixelAt_3 : decode b_Scr_pixelAt 3 = .ok (.invokestatic 43, 3) := by decide +kernel
theorem d_Scr_pixelAt_6 : decode b_Scr_pixelAt 6 = .ok (.iload_n 1, 1) := by decide +kernel
theorem d_Scr_pixelAt_7 : decode b_Scr_pixelAt 7 = .ok (.iload_n 2, 1) := by decide +kernel
theorem d_Scr_pixelAt_8 : decode b_Scr_pixelAt 8 = .ok (.invokestatic 47, 3) := by decide +kernel
theorem d_Scr_pixelAt_11 : decode b_Scr_pixelAt 11 = .ok (.invokevirtual 182, 3) := by decide +kernel
theorem d_Scr_pixelAt_14 : decode b_Scr_pixelAt 14 = .ok (.ireturn, 1) := by decide +kernel
theorem d_Scr_sumOf_0 : decode b_Scr_sumOf 0 = .ok (.iconst 0, 1) := by decide +kernel
theorem d_Scr_sumOf_1 : decode b_Scr_sumOf 1 = .ok (.istore_n 3, 1) := by decide +kernel
theorem d_Scr_sumOf_2 : decode b_Scr_sumOf 2 = .ok (.iload_n 1, 1) := by decide +kernel
theorem d_Scr_sumOf_3 : decode b_Scr_sumOf 3 = .ok (.istore 4, 2) := by decide +kernel
theorem d_Scr_sumOf_5 : decode b_Scr_sumOf 5 = .ok (.iload 4, 2) := by decide +kernel
theorem d_Scr_sumOf_7 : decode b_Scr_sumOf 7 = .ok (.iload_n 2, 1) := by decide +kernel
theorem d_Scr_sumOf_8 : decode b_Scr_sumOf 8 = .ok (.if_icmp .ge 16, 3) := by decide +kernel
theorem d_Scr_sumOf_11 : decode b_Scr_sumOf 11 = .ok (.iload_n 3, 1) := by decide +kernel
theorem d_Scr_sumOf_12 : decode b_Scr_sumOf 12 = .ok (.aload_n 0, 1) := by decide +kernel
theorem d_Scr_sumOf_13 : decode b_Scr_sumOf 13 = .ok (.iload 4, 2) := by decide +kernel
theorem d_Scr_sumOf_15 : decode b_Scr_sumOf 15 = .ok (.iaload, 1) := by decide +kernel
theorem d_Scr_sumOf_16 : decode b_Scr_sumOf 16 = .ok (.iadd, 1) := by decide +kernel
theorem d_Scr_sumOf_17 : decode b_Scr_sumOf 17 = .ok (.istore_n 3, 1) := by decide +kernel
theorem d_Scr_sumOf_18 : decode b_Scr_sumOf 18 = .ok (.iinc 4 1, 3) := by decide +kernel
theorem d_Scr_sumOf_21 : decode b_Scr_sumOf 21 = .ok (.goto (-16), 3) := by decide +kernel
theorem d_Scr_sumOf_24 : decode b_Scr_sumOf 24 = .ok (.iload_n 3, 1) := by decide +kernel
theorem d_Scr_sumOf_25 : decode b_Scr_sumOf 25 = .ok (.ldc 181, 2) := by decide +kernel
theorem d_Scr_sumOf_27 : decode b_Scr_sumOf 27 = .ok (.irem, 1) := by decide +kernel
theorem d_Scr_sumOf_28 : decode b_Scr_sumOf 28 = .ok (.ireturn, 1) := by decide +kernel
theorem d_Mod_init_0 : decode b_Mod_init 0 = .ok (.aload_n 0, 1) := by decide +kernel
theorem d_Mod_init_1 : decode b_Mod_init 1 = .ok (.invokespecial 1, 3) := by decide +kernel
theorem d_Mod_init_4 : decode b_Mod_init 4 = .ok (.aload_n 0, 1) := by decide +kernel
theorem d_Mod_init_5 : decode b_Mod_init 5 = .ok (.sipush 30720, 3) := by decide +kernel
theorem d_Mod_init_8 : decode b_Mod_init 8 = .ok (.newarray .int, 2) := by decide +kernel
theorem d_Mod_init_10 : decode b_Mod_init 10 = .ok (.putfield 7, 3) := by decide +kernel
theorem d_Mod_init_13 : decode b_Mod_init 13 = .ok (.aload_n 0, 1) := by decide +kernel
theorem d_Mod_init_14 : decode b_Mod_init 14 = .ok (.sipush 6144, 3) := by decide +kernel
theorem d_Mod_init_17 : decode b_Mod_init 17 = .ok (.newarray .int, 2) := by decide +kernel
theorem d_Mod_init_19 : decode b_Mod_init 19 = .ok (.putfield 13, 3) := by decide +kernel
theorem d_Mod_init_22 : decode b_Mod_init 22 = .ok (.aload_n 0, 1) := by decide +kernel
theorem d_Mod_init_23 : decode b_Mod_init 23 = .ok (.bipush 6, 2) := by decide +kernel
theorem d_Mod_init_25 : decode b_Mod_init 25 = .ok (.newarray .int, 2) := by decide +kernel
theorem d_Mod_init_27 : decode b_Mod_init 27 = .ok (.putfield 16, 3) := by decide +kernel
theorem d_Mod_init_30 : decode b_Mod_init 30 = .ok (.aload_n 0, 1) := by decide +kernel
theorem d_Mod_init_31 : decode b_Mod_init 31 = .ok (.bipush 96, 2) := by decide +kernel
theorem d_Mod_init_33 : decode b_Mod_init 33 = .ok (.newarray .boolean, 2) := by decide +kernel
theorem d_Mod_init_35 : decode b_Mod_init 35 = .ok (.putfield 19, 3) := by decide +kernel
theorem d_Mod_init_38 : decode b_Mod_init 38 = .ok (.aload_n 0, 1) := by decide +kernel
theorem d_Mod_init_39 : decode b_Mod_init 39 = .ok (.iconst 3, 1) := by decide +kernel
theorem d_Mod_init_40 : decode b_Mod_init 40 = .ok (.newarray .boolean, 2) := by decide +kernel
theorem d_Mod_init_42 : decode b_Mod_init 42 = .ok (.putfield 23, 3) := by decide +kernel
theorem d_Mod_init_45 : decode b_Mod_init 45 = .ok (.aload_n 0, 1) := by decide +kernel
theorem d_Mod_init_46 : decode b_Mod_init 46 = .ok (.iconst 3, 1) := by decide +kernel
theorem d_Mod_init_47 : decode b_Mod_init 47 = .ok (.newarray .int, 2) := by decide +kernel
theorem d_Mod_init_49 : decode b_Mod_init 49 = .ok (.putfield 26, 3) := by decide +kernel
theorem d_Mod_init_52 : decode b_Mod_init 52 = .ok (.aload_n 0, 1) := by decide +kernel
theorem d_Mod_init_53 : decode b_Mod_init 53 = .ok (.iconst 3, 1) := by decide +kernel
theorem d_Mod_init_54 : decode b_Mod_init 54 = .ok (.newarray .int, 2) := by decide +kernel
theorem d_Mod_init_56 : decode b_Mod_init 56 = .ok (.putfield 29, 3) := by decide +kernel
theorem d_Mod_init_59 : decode b_Mod_init 59 = .ok (.aload_n 0, 1) := by decide +kernel
theorem d_Mod_init_60 : decode b_Mod_init 60 = .ok (.iconst 3, 1) := by decide +kernel
theorem d_Mod_init_61 : decode b_Mod_init 61 = .ok (.newarray .int, 2) := by decide +kernel
theorem d_Mod_init_63 : decode b_Mod_init 63 = .ok (.putfield 32, 3) := by decide +kernel
theorem d_Mod_init_66 : decode b_Mod_init 66 = .ok (.aload_n 0, 1) := by decide +kernel
theorem d_Mod_init_67 : decode b_Mod_init 67 = .ok (.iconst 3, 1) := by decide +kernel
theorem d_Mod_init_68 : decode b_Mod_init 68 = .ok (.newarray .int, 2) := by decide +kernel
theorem d_Mod_init_70 : decode b_Mod_init 70 = .ok (.putfield 35, 3) := by decide +kernel
theorem d_Mod_init_73 : decode b_Mod_init 73 = .ok (.aload_n 0, 1) := by decide +kernel
theorem d_Mod_init_74 : decode b_Mod_init 74 = .ok (.bipush 21, 2) := by decide +kernel
theorem d_Mod_init_76 : decode b_Mod_init 76 = .ok (.newarray .int, 2) := by decide +kernel
theorem d_Mod_init_78 : decode b_Mod_init 78 = .ok (.putfield 38, 3) := by decide +kernel
theorem d_Mod_init_81 : decode b_Mod_init 81 = .ok (.aload_n 0, 1) := by decide +kernel
theorem d_Mod_init_82 : decode b_Mod_init 82 = .ok (.sipush 18741, 3) := by decide +kernel
theorem d_Mod_init_85 : decode b_Mod_init 85 = .ok (.newarray .int, 2) := by decide +kernel
theorem d_Mod_init_87 : decode b_Mod_init 87 = .ok (.putfield 41, 3) := by decide +kernel
theorem d_Mod_init_90 : decode b_Mod_init 90 = .ok (.aload_n 0, 1) := by decide +kernel
theorem d_Mod_init_91 : decode b_Mod_init 91 = .ok (.iconst 3, 1) := by decide +kernel
theorem d_Mod_init_92 : decode b_Mod_init 92 = .ok (.newarray .int, 2) := by decide +kernel
theorem d_Mod_init_94 : decode b_Mod_init 94 = .ok (.putfield 44, 3) := by decide +kernel
theorem d_Mod_init_97 : decode b_Mod_init 97 = .ok (.aload_n 0, 1) := by decide +kernel
theorem d_Mod_init_98 : decode b_Mod_init 98 = .ok (.iconst 3, 1) := by decide +kernel
theorem d_Mod_init_99 : decode b_Mod_init 99 = .ok (.newarray .int, 2) := by decide +kernel
theorem d_Mod_init_101 : decode b_Mod_init 101 = .ok (.putfield 47, 3) := by decide +kernel
theorem d_Mod_init_104 : decode b_Mod_init 104 = .ok (.aload_n 0, 1) := by decide +kernel
theorem d_Mod_init_105 : decode b_Mod_init 105 = .ok (.sipush 18741, 3) := by decide +kernel
theorem d_Mod_init_108 : decode b_Mod_init 108 = .ok (.newarray .int, 2) := by decide +kernel
theorem d_Mod_init_110 : decode b_Mod_init 110 = .ok (.putfield 50, 3) := by decide +kernel
theorem d_Mod_init_113 : decode b_Mod_init 113 = .ok (.aload_n 0, 1) := by decide +kernel
theorem d_Mod_init_114 : decode b_Mod_init 114 = .ok (.iconst 3, 1) := by decide +kernel
theorem d_Mod_init_115 : decode b_Mod_init 115 = .ok (.newarray .int, 2) := by decide +kernel
theorem d_Mod_init_117 : decode b_Mod_init 117 = .ok (.putfield 53, 3) := by decide +kernel
theorem d_Mod_init_120 : decode b_Mod_init 120 = .ok (.aload_n 0, 1) := by decide +kernel
theorem d_Mod_init_121 : decode b_Mod_init 121 = .ok (.bipush 24, 2) := by decide +kernel
theorem d_Mod_init_123 : decode b_Mod_init 123 = .ok (.newarray .int, 2) := by decide +kernel
theorem d_Mod_init_125 : decode b_Mod_init 125 = .ok (.putfield 56, 3) := by decide +kernel
theorem d_Mod_init_128 : decode b_Mod_init 128 = .ok (.aload_n 0, 1) := by decide +kernel
theorem d_Mod_init_129 : decode b_Mod_init 129 = .ok (.bipush 24, 2) := by decide +kernel
theorem d_Mod_init_131 : decode b_Mod_init 131 = .ok (.newarray .int, 2) := by decide +kernel
theorem d_Mod_init_133 : decode b_Mod_init 133 = .ok (.putfield 59, 3) := by decide +kernel
theorem d_Mod_init_136 : decode b_Mod_init 136 = .ok (.aload_n 0, 1) := by decide +kernel
theorem d_Mod_init_137 : decode b_Mod_init 137 = .ok (.iconst 3, 1) := by decide +kernel
theorem d_Mod_init_138 : decode b_Mod_init 138 = .ok (.newarray .int, 2) := by decide +kernel
theorem d_Mod_init_140 : decode b_Mod_init 140 = .ok (.putfield 62, 3) := by decide +kernel
theorem d_Mod_init_143 : decode b_Mod_init 143 = .ok (.aload_n 0, 1) := by decide +kernel
theorem d_Mod_init_144 : decode b_Mod_init 144 = .ok (.bipush 64, 2) := by decide +kernel
theorem d_Mod_init_146 : decode b_Mod_init 146 = .ok (.newarray .int, 2) := by decide +kernel
theorem d_Mod_init_148 : decode b_Mod_init 148 = .ok (.putfield 65, 3) := by decide +kernel
theorem d_Mod_init_151 : decode b_Mod_init 151 = .ok (.aload_n 0, 1) := by decide +kernel
theorem d_Mod_init_152 : decode b_Mod_init 152 = .ok (.sipush 256, 3) := by decide +kernel
theorem d_Mod_init_155 : decode b_Mod_init 155 = .ok (.newarray .int, 2) := by decide +kernel
theorem d_Mod_init_157 : decode b_Mod_init 157 = .ok (.putfield 68, 3) := by decide +kernel
theorem d_Mod_init_160 : decode b_Mod_init 160 = .ok (.aload_n 0, 1) := by decide +kernel
theorem d_Mod_init_161 : decode b_Mod_init 161 = .ok (.bipush 64, 2) := by decide +kernel
theorem d_Mod_init_163 : decode b_Mod_init 163 = .ok (.newarray .int, 2) := by decide +kernel
theorem d_Mod_init_165 : decode b_Mod_init 165 = .ok (.putfield 71, 3) := by decide +kernel
theorem d_Mod_init_168 : decode b_Mod_init 168 = .ok (.return_, 1) := by decide +kernel
theorem d_Mod_spot_0 : decode b_Mod_spot 0 = .ok (.sipush 3072, 3) := by decide +kernel
theorem d_Mod_spot_3 : decode b_Mod_spot 3 = .ok (.iload_n 0, 1) := by decide +kernel
theorem d_Mod_spot_4 : decode b_Mod_spot 4 = .ok (.imul, 1) := by decide +kernel
theorem d_Mod_spot_5 : decode b_Mod_spot 5 = .ok (.bipush 64, 2) := by decide +kernel
theorem d_Mod_spot_7 : decode b_Mod_spot 7 = .ok (.iload_n 1, 1) := by decide +kernel
theorem d_Mod_spot_8 : decode b_Mod_spot 8 = .ok (.bipush 8, 2) := by decide +kernel
theorem d_Mod_spot_10 : decode b_Mod_spot 10 = .ok (.idiv, 1) := by decide +kernel
theorem d_Mod_spot_11 : decode b_Mod_spot 11 = .ok (.bipush 8, 2) := by decide +kernel
theorem d_Mod_spot_13 : decode b_Mod_spot 13 = .ok (.imul, 1) := by decide +kernel
theorem d_Mod_spot_14 : decode b_Mod_spot 14 = .ok (.iload_n 2, 1) := by decide +kernel
theorem d_Mod_spot_15 : decode b_Mod_spot 15 = .ok (.bipush 8, 2) := by decide +kernel
theorem d_Mod_spot_17 : decode b_Mod_spot 17 = .ok (.idiv, 1) := by decide +kernel
theorem d_Mod_spot_18 : decode b_Mod_spot 18 = .ok (.iadd, 1) := by decide +kernel
theorem d_Mod_spot_19 : decode b_Mod_spot 19 = .ok (.imul, 1) := by decide +kernel
theorem d_Mod_spot_20 : decode b_Mod_spot 20 = .ok (.iadd, 1) := by decide +kernel
theorem d_Mod_spot_21 : decode b_Mod_spot 21 = .ok (.iload_n 1, 1) := by decide +kernel
theorem d_Mod_spot_22 : decode b_Mod_spot 22 = .ok (.bipush 8, 2) := by decide +kernel
theorem d_Mod_spot_24 : decode b_Mod_spot 24 = .ok (.irem, 1) := by decide +kernel
theorem d_Mod_spot_25 : decode b_Mod_spot 25 = .ok (.bipush 8, 2) := by decide +kernel
theorem d_Mod_spot_27 : decode b_Mod_spot 27 = .ok (.imul, 1) := by decide +kernel
theorem d_Mod_spot_28 : decode b_Mod_spot 28 = .ok (.iadd, 1) := by decide +kernel
theorem d_Mod_spot_29 : decode b_Mod_spot 29 = .ok (.iload_n 2, 1) := by decide +kernel
theorem d_Mod_spot_30 : decode b_Mod_spot 30 = .ok (.bipush 8, 2) := by decide +kernel
theorem d_Mod_spot_32 : decode b_Mod_spot 32 = .ok (.irem, 1) := by decide +kernel
theorem d_Mod_spot_33 : decode b_Mod_spot 33 = .ok (.iadd, 1) := by decide +kernel
theorem d_Mod_spot_34 : decode b_Mod_spot 34 = .ok (.ireturn, 1) := by decide +kernel
theorem d_Mod_become_0 : decode b_Mod_become 0 = .ok (.iconst 0, 1) := by decide +kernel
theorem d_Mod_become_1 : decode b_Mod_become 1 = .ok (.istore_n 3, 1) := by decide +kernel
theorem d_Mod_become_2 : decode b_Mod_become 2 = .ok (.iload_n 3, 1) := by decide +kernel
theorem d_Mod_become_3 : decode b_Mod_become 3 = .ok (.sipush 3072, 3) := by decide +kernel
theorem d_Mod_become_6 : decode b_Mod_become 6 = .ok (.if_icmp .ge 33, 3) := by decide +kernel
theorem d_Mod_become_9 : decode b_Mod_become 9 = .ok (.aload_n 0, 1) := by decide +kernel
theorem d_Mod_become_10 : decode b_Mod_become 10 = .ok (.getfield 7, 3) := by decide +kernel
theorem d_Mod_become_13 : decode b_Mod_become 13 = .ok (.sipush 3072, 3) := by decide +kernel
theorem d_Mod_become_16 : decode b_Mod_become 16 = .ok (.iload_n 1, 1) := by decide +kernel
theorem d_Mod_become_17 : decode b_Mod_become 17 = .ok (.imul, 1) := by decide +kernel
theorem d_Mod_become_18 : decode b_Mod_become 18 = .ok (.iload_n 3, 1) := by decide +kernel
theorem d_Mod_become_19 : decode b_Mod_become 19 = .ok (.iadd, 1) := by decide +kernel
theorem d_Mod_become_20 : decode b_Mod_become 20 = .ok (.aload_n 0, 1) := by decide +kernel
theorem d_Mod_become_21 : decode b_Mod_become 21 = .ok (.getfield 7, 3) := by decide +kernel
theorem d_Mod_become_24 : decode b_Mod_become 24 = .ok (.sipush 3072, 3) := by decide +kernel
theorem d_Mod_become_27 : decode b_Mod_become 27 = .ok (.iload_n 2, 1) := by decide +kernel
theorem d_Mod_become_28 : decode b_Mod_become 28 = .ok (.imul, 1) := by decide +kernel
theorem d_Mod_become_29 : decode b_Mod_become 29 = .ok (.iload_n 3, 1) := by decide +kernel
theorem d_Mod_become_30 : decode b_Mod_become 30 = .ok (.iadd, 1) := by decide +kernel
theorem d_Mod_become_31 : decode b_Mod_become 31 = .ok (.iaload, 1) := by decide +kernel
theorem d_Mod_become_32 : decode b_Mod_become 32 = .ok (.iastore, 1) := by decide +kernel
theorem d_Mod_become_33 : decode b_Mod_become 33 = .ok (.iinc 3 1, 3) := by decide +kernel
theorem d_Mod_become_36 : decode b_Mod_become 36 = .ok (.goto (-34), 3) := by decide +kernel
theorem d_Mod_become_39 : decode b_Mod_become 39 = .ok (.return_, 1) := by decide +kernel
theorem d_Mod_sameTile_0 : decode b_Mod_sameTile 0 = .ok (.iconst 1, 1) := by decide +kernel
theorem d_Mod_sameTile_1 : decode b_Mod_sameTile 1 = .ok (.istore 5, 2) := by decide +kernel
theorem d_Mod_sameTile_3 : decode b_Mod_sameTile 3 = .ok (.iconst 0, 1) := by decide +kernel
theorem d_Mod_sameTile_4 : decode b_Mod_sameTile 4 = .ok (.istore 6, 2) := by decide +kernel
theorem d_Mod_sameTile_6 : decode b_Mod_sameTile 6 = .ok (.iload 6, 2) := by decide +kernel
theorem d_Mod_sameTile_8 : decode b_Mod_sameTile 8 = .ok (.bipush 64, 2) := by decide +kernel
theorem d_Mod_sameTile_10 : decode b_Mod_sameTile 10 = .ok (.if_icmp .ge 49, 3) := by decide +kernel
theorem d_Mod_sameTile_13 : decode b_Mod_sameTile 13 = .ok (.iload 5, 2) := by decide +kernel
theorem d_Mod_sameTile_15 : decode b_Mod_sameTile 15 = .ok (.ifCond .eq 44, 3) := by decide +kernel
theorem d_Mod_sameTile_18 : decode b_Mod_sameTile 18 = .ok (.aload_n 0, 1) := by decide +kernel
theorem d_Mod_sameTile_19 : decode b_Mod_sameTile 19 = .ok (.getfield 7, 3) := by decide +kernel
theorem d_Mod_sameTile_22 : decode b_Mod_sameTile 22 = .ok (.iload_n 1, 1) := by decide +kernel
theorem d_Mod_sameTile_23 : decode b_Mod_sameTile 23 = .ok (.iload_n 2, 1) := by decide +kernel
theorem d_Mod_sameTile_24 : decode b_Mod_sameTile 24 = .ok (.iload 6, 2) := by decide +kernel
theorem d_Mod_sameTile_26 : decode b_Mod_sameTile 26 = .ok (.invokestatic 78, 3) := by decide +kernel
theorem d_Mod_sameTile_29 : decode b_Mod_sameTile 29 = .ok (.iaload, 1) := by decide +kernel
theorem d_Mod_sameTile_30 : decode b_Mod_sameTile 30 = .ok (.aload_n 0, 1) := by decide +kernel
theorem d_Mod_sameTile_31 : decode b_Mod_sameTile 31 = .ok (.getfield 7, 3) := by decide +kernel
theorem d_Mod_sameTile_34 : decode b_Mod_sameTile 34 = .ok (.iload_n 3, 1) := by decide +kernel
theorem d_Mod_sameTile_35 : decode b_Mod_sameTile 35 = .ok (.iload 4, 2) := by decide +kernel
theorem d_Mod_sameTile_37 : decode b_Mod_sameTile 37 = .ok (.iload 6, 2) := by decide +kernel
theorem d_Mod_sameTile_39 : decode b_Mod_sameTile 39 = .ok (.invokestatic 78, 3) := by decide +kernel
theorem d_Mod_sameTile_42 : decode b_Mod_sameTile 42 = .ok (.iaload, 1) := by decide +kernel
theorem d_Mod_sameTile_43 : decode b_Mod_sameTile 43 = .ok (.if_icmp .ne 7, 3) := by decide +kernel
theorem d_Mod_sameTile_46 : decode b_Mod_sameTile 46 = .ok (.iconst 1, 1) := by decide +kernel
theorem d_Mod_sameTile_47 : decode b_Mod_sameTile 47 = .ok (.goto 4, 3) := by decide +kernel
theorem d_Mod_sameTile_50 : decode b_Mod_sameTile 50 = .ok (.iconst 0, 1) := by decide +kernel
theorem d_Mod_sameTile_51 : decode b_Mod_sameTile 51 = .ok (.istore 5, 2) := by decide +kernel
theorem d_Mod_sameTile_53 : decode b_Mod_sameTile 53 = .ok (.iinc 6 1, 3) := by decide +kernel
theorem d_Mod_sameTile_56 : decode b_Mod_sameTile 56 = .ok (.goto (-50), 3) := by decide +kernel
theorem d_Mod_sameTile_59 : decode b_Mod_sameTile 59 = .ok (.iload 5, 2) := by decide +kernel
theorem d_Mod_sameTile_61 : decode b_Mod_sameTile 61 = .ok (.ireturn, 1) := by decide +kernel
theorem d_Mod_isRect_0 : decode b_Mod_isRect 0 = .ok (.iload_n 0, 1) := by decide +kernel
theorem d_Mod_isRect_1 : decode b_Mod_isRect 1 = .ok (.ifCond .lt 49, 3) := by decide +kernel
theorem d_Mod_isRect_4 : decode b_Mod_isRect 4 = .ok (.iload_n 1, 1) := by decide +kernel
theorem d_Mod_isRect_5 : decode b_Mod_isRect 5 = .ok (.ifCond .lt 45, 3) := by decide +kernel
theorem d_Mod_isRect_8 : decode b_Mod_isRect 8 = .ok (.iload_n 2, 1) := by decide +kernel
theorem d_Mod_isRect_9 : decode b_Mod_isRect 9 = .ok (.iconst 1, 1) := by decide +kernel
theorem d_Mod_isRect_10 : decode b_Mod_isRect 10 = .ok (.if_icmp .lt 40, 3) := by decide +kernel
theorem d_Mod_isRect_13 : decode b_Mod_isRect 13 = .ok (.iload_n 3, 1) := by decide +kernel
theorem d_Mod_isRect_14 : decode b_Mod_isRect 14 = .ok (.iconst 1, 1) := by decide +kernel
theorem d_Mod_isRect_15 : decode b_Mod_isRect 15 = .ok (.if_icmp .lt 35, 3) := by decide +kernel
theorem d_Mod_isRect_18 : decode b_Mod_isRect 18 = .ok (.iload_n 2, 1) := by decide +kernel
theorem d_Mod_isRect_19 : decode b_Mod_isRect 19 = .ok (.bipush 64, 2) := by decide +kernel
theorem d_Mod_isRect_21 : decode b_Mod_isRect 21 = .ok (.if_icmp .gt 29, 3) := by decide +kernel
theorem d_Mod_isRect_24 : decode b_Mod_isRect 24 = .ok (.iload_n 3, 1) := by decide +kernel
theorem d_Mod_isRect_25 : decode b_Mod_isRect 25 = .ok (.bipush 48, 2) := by decide +kernel
theorem d_Mod_isRect_27 : decode b_Mod_isRect 27 = .ok (.if_icmp .gt 23, 3) := by decide +kernel
theorem d_Mod_isRect_30 : decode b_Mod_isRect 30 = .ok (.iload_n 0, 1) := by decide +kernel
theorem d_Mod_isRect_31 : decode b_Mod_isRect 31 = .ok (.bipush 64, 2) := by decide +kernel
theorem d_Mod_isRect_33 : decode b_Mod_isRect 33 = .ok (.iload_n 2, 1) := by decide +kernel
theorem d_Mod_isRect_34 : decode b_Mod_isRect 34 = .ok (.isub, 1) := by decide +kernel
theorem d_Mod_isRect_35 : decode b_Mod_isRect 35 = .ok (.if_icmp .gt 15, 3) := by decide +kernel
theorem d_Mod_isRect_38 : decode b_Mod_isRect 38 = .ok (.iload_n 1, 1) := by decide +kernel
theorem d_Mod_isRect_39 : decode b_Mod_isRect 39 = .ok (.bipush 48, 2) := by decide +kernel
theorem d_Mod_isRect_41 : decode b_Mod_isRect 41 = .ok (.iload_n 3, 1) := by decide +kernel
theorem d_Mod_isRect_42 : decode b_Mod_isRect 42 = .ok (.isub, 1) := by decide +kernel
theorem d_Mod_isRect_43 : decode b_Mod_isRect 43 = .ok (.if_icmp .gt 7, 3) := by decide +kernel
theorem d_Mod_isRect_46 : decode b_Mod_isRect 46 = .ok (.iconst 1, 1) := by decide +kernel
theorem d_Mod_isRect_47 : decode b_Mod_isRect 47 = .ok (.goto 4, 3) := by decide +kernel
theorem d_Mod_isRect_50 : decode b_Mod_isRect 50 = .ok (.iconst 0, 1) := by decide +kernel
theorem d_Mod_isRect_51 : decode b_Mod_isRect 51 = .ok (.ireturn, 1) := by decide +kernel
theorem d_Mod_isColour_0 : decode b_Mod_isColour 0 = .ok (.iload_n 0, 1) := by decide +kernel
theorem d_Mod_isColour_1 : decode b_Mod_isColour 1 = .ok (.ifCond .lt 13, 3) := by decide +kernel
theorem d_Mod_isColour_4 : decode b_Mod_isColour 4 = .ok (.iload_n 0, 1) := by decide +kernel
theorem d_Mod_isColour_5 : decode b_Mod_isColour 5 = .ok (.ldc 82, 2) := by decide +kernel
theorem d_Mod_isColour_7 : decode b_Mod_isColour 7 = .ok (.if_icmp .ge 7, 3) := by decide +kernel
theorem d_Mod_isColour_10 : decode b_Mod_isColour 10 = .ok (.iconst 1, 1) := by decide +kernel
theorem d_Mod_isColour_11 : decode b_Mod_isColour 11 = .ok (.goto 4, 3) := by decide +kernel
theorem d_Mod_isColour_14 : decode b_Mod_isColour 14 = .ok (.iconst 0, 1) := by decide +kernel
theorem d_Mod_isColour_15 : decode b_Mod_isColour 15 = .ok (.ireturn, 1) := by decide +kernel
theorem d_Mod_isViewer_0 : decode b_Mod_isViewer 0 = .ok (.iload_n 0, 1) := by decide +kernel
theorem d_Mod_isViewer_1 : decode b_Mod_isViewer 1 = .ok (.ifCond .lt 12, 3) := by decide +kernel
theorem d_Mod_isViewer_4 : decode b_Mod_isViewer 4 = .ok (.iload_n 0, 1) := by decide +kernel
theorem d_Mod_isViewer_5 : decode b_Mod_isViewer 5 = .ok (.iconst 3, 1) := by decide +kernel
theorem d_Mod_isViewer_6 : decode b_Mod_isViewer 6 = .ok (.if_icmp .ge 7, 3) := by decide +kernel
theorem d_Mod_isViewer_9 : decode b_Mod_isViewer 9 = .ok (.iconst 1, 1) := by decide +kernel
theorem d_Mod_isViewer_10 : decode b_Mod_isViewer 10 = .ok (.goto 4, 3) := by decide +kernel
theorem d_Mod_isViewer_13 : decode b_Mod_isViewer 13 = .ok (.iconst 0, 1) := by decide +kernel
theorem d_Mod_isViewer_14 : decode b_Mod_isViewer 14 = .ok (.ireturn, 1) := by decide +kernel
theorem d_Mod_fill_0 : decode b_Mod_fill 0 = .ok (.aload_n 0, 1) := by decide +kernel
theorem d_Mod_fill_1 : decode b_Mod_fill 1 = .ok (.iconst 0, 1) := by decide +kernel
theorem d_Mod_fill_2 : decode b_Mod_fill 2 = .ok (.putfield 74, 3) := by decide +kernel
theorem d_Mod_fill_5 : decode b_Mod_fill 5 = .ok (.iload_n 1, 1) := by decide +kernel
theorem d_Mod_fill_6 : decode b_Mod_fill 6 = .ok (.iload_n 2, 1) := by decide +kernel
theorem d_Mod_fill_7 : decode b_Mod_fill 7 = .ok (.iload_n 3, 1) := by decide +kernel
theorem d_Mod_fill_8 : decode b_Mod_fill 8 = .ok (.iload 4, 2) := by decide +kernel
theorem d_Mod_fill_10 : decode b_Mod_fill 10 = .ok (.invokestatic 83, 3) := by decide +kernel
theorem d_Mod_fill_13 : decode b_Mod_fill 13 = .ok (.ifCond .eq 11, 3) := by decide +kernel
theorem d_Mod_fill_16 : decode b_Mod_fill 16 = .ok (.iload 5, 2) := by decide +kernel
theorem d_Mod_fill_18 : decode b_Mod_fill 18 = .ok (.invokestatic 87, 3) := by decide +kernel
theorem d_Mod_fill_21 : decode b_Mod_fill 21 = .ok (.ifCond .ne 5, 3) := by decide +kernel
theorem d_Mod_fill_24 : decode b_Mod_fill 24 = .ok (.iconst 0, 1) := by decide +kernel
theorem d_Mod_fill_25 : decode b_Mod_fill 25 = .ok (.ireturn, 1) := by decide +kernel
theorem d_Mod_fill_26 : decode b_Mod_fill 26 = .ok (.iconst 0, 1) := by decide +kernel
theorem d_Mod_fill_27 : decode b_Mod_fill 27 = .ok (.istore 6, 2) := by decide +kernel
theorem d_Mod_fill_29 : decode b_Mod_fill 29 = .ok (.iload 6, 2) := by decide +kernel
theorem d_Mod_fill_31 : decode b_Mod_fill 31 = .ok (.iload_n 3, 1) := by decide +kernel
theorem d_Mod_fill_32 : decode b_Mod_fill 32 = .ok (.iload 4, 2) := by decide +kernel
theorem d_Mod_fill_34 : decode b_Mod_fill 34 = .ok (.imul, 1) := by decide +kernel
theorem d_Mod_fill_35 : decode b_Mod_fill 35 = .ok (.if_icmp .ge 32, 3) := by decide +kernel
theorem d_Mod_fill_38 : decode b_Mod_fill 38 = .ok (.aload_n 0, 1) := by decide +kernel
theorem d_Mod_fill_39 : decode b_Mod_fill 39 = .ok (.getfield 7, 3) := by decide +kernel
theorem d_Mod_fill_42 : decode b_Mod_fill 42 = .ok (.bipush 64, 2) := by decide +kernel
theorem d_Mod_fill_44 : decode b_Mod_fill 44 = .ok (.iload_n 2, 1) := by decide +kernel
theorem d_Mod_fill_45 : decode b_Mod_fill 45 = .ok (.iload 6, 2) := by decide +kernel
theorem d_Mod_fill_47 : decode b_Mod_fill 47 = .ok (.iload_n 3, 1) := by decide +kernel
theorem d_Mod_fill_48 : decode b_Mod_fill 48 = .ok (.idiv, 1) := by decide +kernel
theorem d_Mod_fill_49 : decode b_Mod_fill 49 = .ok (.iadd, 1) := by decide +kernel
theorem d_Mod_fill_50 : decode b_Mod_fill 50 = .ok (.imul, 1) := by decide +kernel
theorem d_Mod_fill_51 : decode b_Mod_fill 51 = .ok (.iload_n 1, 1) := by decide +kernel
theorem d_Mod_fill_52 : decode b_Mod_fill 52 = .ok (.iadd, 1) := by decide +kernel
theorem d_Mod_fill_53 : decode b_Mod_fill 53 = .ok (.iload 6, 2) := by decide +kernel
theorem d_Mod_fill_55 : decode b_Mod_fill 55 = .ok (.iload_n 3, 1) := by decide +kernel
theorem d_Mod_fill_56 : decode b_Mod_fill 56 = .ok (.irem, 1) := by decide +kernel
theorem d_Mod_fill_57 : decode b_Mod_fill 57 = .ok (.iadd, 1) := by decide +kernel
theorem d_Mod_fill_58 : decode b_Mod_fill 58 = .ok (.iload 5, 2) := by decide +kernel
theorem d_Mod_fill_60 : decode b_Mod_fill 60 = .ok (.iastore, 1) := by decide +kernel
theorem d_Mod_fill_61 : decode b_Mod_fill 61 = .ok (.iinc 6 1, 3) := by decide +kernel
theorem d_Mod_fill_64 : decode b_Mod_fill 64 = .ok (.goto (-35), 3) := by decide +kernel
theorem d_Mod_fill_67 : decode b_Mod_fill 67 = .ok (.iconst 1, 1) := by decide +kernel
theorem d_Mod_fill_68 : decode b_Mod_fill 68 = .ok (.ireturn, 1) := by decide +kernel
theorem d_Mod_blit_0 : decode b_Mod_blit 0 = .ok (.aload_n 0, 1) := by decide +kernel
theorem d_Mod_blit_1 : decode b_Mod_blit 1 = .ok (.iconst 0, 1) := by decide +kernel
theorem d_Mod_blit_2 : decode b_Mod_blit 2 = .ok (.putfield 74, 3) := by decide +kernel
theorem d_Mod_blit_5 : decode b_Mod_blit 5 = .ok (.iload_n 1, 1) := by decide +kernel
theorem d_Mod_blit_6 : decode b_Mod_blit 6 = .ok (.ifCond .lt 9, 3) := by decide +kernel
theorem d_Mod_blit_9 : decode b_Mod_blit 9 = .ok (.iload_n 2, 1) := by decide +kernel
theorem d_Mod_blit_10 : decode b_Mod_blit 10 = .ok (.bipush 65, 2) := by decide +kernel
theorem d_Mod_blit_12 : decode b_Mod_blit 12 = .ok (.if_icmp .ge 5, 3) := by decide +kernel
theorem d_Mod_blit_15 : decode b_Mod_blit 15 = .ok (.iconst 0, 1) := by decide +kernel
theorem d_Mod_blit_16 : decode b_Mod_blit 16 = .ok (.ireturn, 1) := by decide +kernel
theorem d_Mod_blit_17 : decode b_Mod_blit 17 = .ok (.iload_n 2, 1) := by decide +kernel
theorem d_Mod_blit_18 : decode b_Mod_blit 18 = .ok (.iconst 1, 1) := by decide +kernel
theorem d_Mod_blit_19 : decode b_Mod_blit 19 = .ok (.isub, 1) := by decide +kernel
theorem d_Mod_blit_20 : decode b_Mod_blit 20 = .ok (.bipush 64, 2) := by decide +kernel
theorem d_Mod_blit_22 : decode b_Mod_blit 22 = .ok (.irem, 1) := by decide +kernel
theorem d_Mod_blit_23 : decode b_Mod_blit 23 = .ok (.iconst 1, 1) := by decide +kernel
theorem d_Mod_blit_24 : decode b_Mod_blit 24 = .ok (.iadd, 1) := by decide +kernel
theorem d_Mod_blit_25 : decode b_Mod_blit 25 = .ok (.istore 5, 2) := by decide +kernel
theorem d_Mod_blit_27 : decode b_Mod_blit 27 = .ok (.iload_n 2, 1) := by decide +kernel
theorem d_Mod_blit_28 : decode b_Mod_blit 28 = .ok (.iload 5, 2) := by decide +kernel
theorem d_Mod_blit_30 : decode b_Mod_blit 30 = .ok (.isub, 1) := by decide +kernel
theorem d_Mod_blit_31 : decode b_Mod_blit 31 = .ok (.bipush 64, 2) := by decide +kernel
theorem d_Mod_blit_33 : decode b_Mod_blit 33 = .ok (.idiv, 1) := by decide +kernel
theorem d_Mod_blit_34 : decode b_Mod_blit 34 = .ok (.istore 6, 2) := by decide +kernel
theorem d_Mod_blit_36 : decode b_Mod_blit 36 = .ok (.iload_n 1, 1) := by decide +kernel
theorem d_Mod_blit_37 : decode b_Mod_blit 37 = .ok (.bipush 64, 2) := by decide +kernel
theorem d_Mod_blit_39 : decode b_Mod_blit 39 = .ok (.irem, 1) := by decide +kernel
theorem d_Mod_blit_40 : decode b_Mod_blit 40 = .ok (.iload_n 1, 1) := by decide +kernel
theorem d_Mod_blit_41 : decode b_Mod_blit 41 = .ok (.bipush 64, 2) := by decide +kernel
theorem d_Mod_blit_43 : decode b_Mod_blit 43 = .ok (.idiv, 1) := by decide +kernel
theorem d_Mod_blit_44 : decode b_Mod_blit 44 = .ok (.iload 5, 2) := by decide +kernel
theorem d_Mod_blit_46 : decode b_Mod_blit 46 = .ok (.iload 6, 2) := by decide +kernel
theorem d_Mod_blit_48 : decode b_Mod_blit 48 = .ok (.invokestatic 83, 3) := by decide +kernel
theorem d_Mod_blit_51 : decode b_Mod_blit 51 = .ok (.ifCond .eq 16, 3) := by decide +kernel
theorem d_Mod_blit_54 : decode b_Mod_blit 54 = .ok (.iload_n 3, 1) := by decide +kernel
theorem d_Mod_blit_55 : decode b_Mod_blit 55 = .ok (.iload 4, 2) := by decide +kernel
theorem d_Mod_blit_57 : decode b_Mod_blit 57 = .ok (.iload 5, 2) := by decide +kernel
theorem d_Mod_blit_59 : decode b_Mod_blit 59 = .ok (.iload 6, 2) := by decide +kernel
theorem d_Mod_blit_61 : decode b_Mod_blit 61 = .ok (.invokestatic 83, 3) := by decide +kernel
theorem d_Mod_blit_64 : decode b_Mod_blit 64 = .ok (.ifCond .ne 5, 3) := by decide +kernel
theorem d_Mod_blit_67 : decode b_Mod_blit 67 = .ok (.iconst 0, 1) := by decide +kernel
theorem d_Mod_blit_68 : decode b_Mod_blit 68 = .ok (.ireturn, 1) := by decide +kernel
theorem d_Mod_blit_69 : decode b_Mod_blit 69 = .ok (.aload_n 0, 1) := by decide +kernel
theorem d_Mod_blit_70 : decode b_Mod_blit 70 = .ok (.bipush 8, 2) := by decide +kernel
theorem d_Mod_blit_72 : decode b_Mod_blit 72 = .ok (.iconst 0, 1) := by decide +kernel
theorem d_Mod_blit_73 : decode b_Mod_blit 73 = .ok (.invokevirtual 91, 3) := by decide +kernel
theorem d_Mod_blit_76 : decode b_Mod_blit 76 = .ok (.iconst 0, 1) := by decide +kernel
theorem d_Mod_blit_77 : decode b_Mod_blit 77 = .ok (.istore 7, 2) := by decide +kernel
theorem d_Mod_blit_79 : decode b_Mod_blit 79 = .ok (.iload 7, 2) := by decide +kernel
theorem d_Mod_blit_81 : decode b_Mod_blit 81 = .ok (.iload 5, 2) := by decide +kernel
theorem d_Mod_blit_83 : decode b_Mod_blit 83 = .ok (.iload 6, 2) := by decide +kernel
theorem d_Mod_blit_85 : decode b_Mod_blit 85 = .ok (.imul, 1) := by decide +kernel
theorem d_Mod_blit_86 : decode b_Mod_blit 86 = .ok (.if_icmp .ge 58, 3) := by decide +kernel
theorem d_Mod_blit_89 : decode b_Mod_blit 89 = .ok (.aload_n 0, 1) := by decide +kernel
theorem d_Mod_blit_90 : decode b_Mod_blit 90 = .ok (.getfield 7, 3) := by decide +kernel
theorem d_Mod_blit_93 : decode b_Mod_blit 93 = .ok (.bipush 64, 2) := by decide +kernel
theorem d_Mod_blit_95 : decode b_Mod_blit 95 = .ok (.iload 4, 2) := by decide +kernel
theorem d_Mod_blit_97 : decode b_Mod_blit 97 = .ok (.iload 7, 2) := by decide +kernel
theorem d_Mod_blit_99 : decode b_Mod_blit 99 = .ok (.iload 5, 2) := by decide +kernel
theorem d_Mod_blit_101 : decode b_Mod_blit 101 = .ok (.idiv, 1) := by decide +kernel
theorem d_Mod_blit_102 : decode b_Mod_blit 102 = .ok (.iadd, 1) := by decide +kernel
theorem d_Mod_blit_103 : decode b_Mod_blit 103 = .ok (.imul, 1) := by decide +kernel
theorem d_Mod_blit_104 : decode b_Mod_blit 104 = .ok (.iload_n 3, 1) := by decide +kernel
theorem d_Mod_blit_105 : decode b_Mod_blit 105 = .ok (.iadd, 1) := by decide +kernel
theorem d_Mod_blit_106 : decode b_Mod_blit 106 = .ok (.iload 7, 2) := by decide +kernel
theorem d_Mod_blit_108 : decode b_Mod_blit 108 = .ok (.iload 5, 2) := by decide +kernel
theorem d_Mod_blit_110 : decode b_Mod_blit 110 = .ok (.irem, 1) := by decide +kernel
theorem d_Mod_blit_111 : decode b_Mod_blit 111 = .ok (.iadd, 1) := by decide +kernel
theorem d_Mod_blit_112 : decode b_Mod_blit 112 = .ok (.aload_n 0, 1) := by decide +kernel
theorem d_Mod_blit_113 : decode b_Mod_blit 113 = .ok (.getfield 7, 3) := by decide +kernel
theorem d_Mod_blit_116 : decode b_Mod_blit 116 = .ok (.sipush 24576, 3) := by decide +kernel
theorem d_Mod_blit_119 : decode b_Mod_blit 119 = .ok (.iload_n 1, 1) := by decide +kernel
theorem d_Mod_blit_120 : decode b_Mod_blit 120 = .ok (.iadd, 1) := by decide +kernel
