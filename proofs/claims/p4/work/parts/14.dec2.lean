theorem d_Mod_blit_121 : decode b_Mod_blit 121 = .ok (.bipush 64, 2) := by decide +kernel
theorem d_Mod_blit_123 : decode b_Mod_blit 123 = .ok (.iload 7, 2) := by decide +kernel
theorem d_Mod_blit_125 : decode b_Mod_blit 125 = .ok (.iload 5, 2) := by decide +kernel
theorem d_Mod_blit_127 : decode b_Mod_blit 127 = .ok (.idiv, 1) := by decide +kernel
theorem d_Mod_blit_128 : decode b_Mod_blit 128 = .ok (.imul, 1) := by decide +kernel
theorem d_Mod_blit_129 : decode b_Mod_blit 129 = .ok (.iadd, 1) := by decide +kernel
theorem d_Mod_blit_130 : decode b_Mod_blit 130 = .ok (.iload 7, 2) := by decide +kernel
theorem d_Mod_blit_132 : decode b_Mod_blit 132 = .ok (.iload 5, 2) := by decide +kernel
theorem d_Mod_blit_134 : decode b_Mod_blit 134 = .ok (.irem, 1) := by decide +kernel
theorem d_Mod_blit_135 : decode b_Mod_blit 135 = .ok (.iadd, 1) := by decide +kernel
theorem d_Mod_blit_136 : decode b_Mod_blit 136 = .ok (.iaload, 1) := by decide +kernel
theorem d_Mod_blit_137 : decode b_Mod_blit 137 = .ok (.iastore, 1) := by decide +kernel
theorem d_Mod_blit_138 : decode b_Mod_blit 138 = .ok (.iinc 7 1, 3) := by decide +kernel
theorem d_Mod_blit_141 : decode b_Mod_blit 141 = .ok (.goto (-62), 3) := by decide +kernel
theorem d_Mod_blit_144 : decode b_Mod_blit 144 = .ok (.iconst 1, 1) := by decide +kernel
theorem d_Mod_blit_145 : decode b_Mod_blit 145 = .ok (.ireturn, 1) := by decide +kernel
theorem d_Mod_shade_0 : decode b_Mod_shade 0 = .ok (.aload_n 0, 1) := by decide +kernel
theorem d_Mod_shade_1 : decode b_Mod_shade 1 = .ok (.iconst 0, 1) := by decide +kernel
theorem d_Mod_shade_2 : decode b_Mod_shade 2 = .ok (.putfield 74, 3) := by decide +kernel
theorem d_Mod_shade_5 : decode b_Mod_shade 5 = .ok (.iload_n 1, 1) := by decide +kernel
theorem d_Mod_shade_6 : decode b_Mod_shade 6 = .ok (.ifCond .lt 26, 3) := by decide +kernel
theorem d_Mod_shade_9 : decode b_Mod_shade 9 = .ok (.iload_n 1, 1) := by decide +kernel
theorem d_Mod_shade_10 : decode b_Mod_shade 10 = .ok (.bipush 48, 2) := by decide +kernel
theorem d_Mod_shade_12 : decode b_Mod_shade 12 = .ok (.if_icmp .ge 20, 3) := by decide +kernel
theorem d_Mod_shade_15 : decode b_Mod_shade 15 = .ok (.iload_n 2, 1) := by decide +kernel
theorem d_Mod_shade_16 : decode b_Mod_shade 16 = .ok (.ifCond .lt 16, 3) := by decide +kernel
theorem d_Mod_shade_19 : decode b_Mod_shade 19 = .ok (.iload_n 2, 1) := by decide +kernel
theorem d_Mod_shade_20 : decode b_Mod_shade 20 = .ok (.bipush 7, 2) := by decide +kernel
theorem d_Mod_shade_22 : decode b_Mod_shade 22 = .ok (.if_icmp .gt 10, 3) := by decide +kernel
theorem d_Mod_shade_25 : decode b_Mod_shade 25 = .ok (.iload_n 3, 1) := by decide +kernel
theorem d_Mod_shade_26 : decode b_Mod_shade 26 = .ok (.invokestatic 87, 3) := by decide +kernel
theorem d_Mod_shade_29 : decode b_Mod_shade 29 = .ok (.ifCond .ne 5, 3) := by decide +kernel
theorem d_Mod_shade_32 : decode b_Mod_shade 32 = .ok (.iconst 0, 1) := by decide +kernel
theorem d_Mod_shade_33 : decode b_Mod_shade 33 = .ok (.ireturn, 1) := by decide +kernel
theorem d_Mod_shade_34 : decode b_Mod_shade 34 = .ok (.iconst 0, 1) := by decide +kernel
theorem d_Mod_shade_35 : decode b_Mod_shade 35 = .ok (.istore 5, 2) := by decide +kernel
theorem d_Mod_shade_37 : decode b_Mod_shade 37 = .ok (.iload 5, 2) := by decide +kernel
theorem d_Mod_shade_39 : decode b_Mod_shade 39 = .ok (.bipush 8, 2) := by decide +kernel
theorem d_Mod_shade_41 : decode b_Mod_shade 41 = .ok (.if_icmp .ge 36, 3) := by decide +kernel
theorem d_Mod_shade_44 : decode b_Mod_shade 44 = .ok (.aload_n 0, 1) := by decide +kernel
theorem d_Mod_shade_45 : decode b_Mod_shade 45 = .ok (.getfield 7, 3) := by decide +kernel
theorem d_Mod_shade_48 : decode b_Mod_shade 48 = .ok (.iconst 0, 1) := by decide +kernel
theorem d_Mod_shade_49 : decode b_Mod_shade 49 = .ok (.iload_n 1, 1) := by decide +kernel
theorem d_Mod_shade_50 : decode b_Mod_shade 50 = .ok (.bipush 8, 2) := by decide +kernel
theorem d_Mod_shade_52 : decode b_Mod_shade 52 = .ok (.iload_n 2, 1) := by decide +kernel
theorem d_Mod_shade_53 : decode b_Mod_shade 53 = .ok (.imul, 1) := by decide +kernel
theorem d_Mod_shade_54 : decode b_Mod_shade 54 = .ok (.iload 5, 2) := by decide +kernel
theorem d_Mod_shade_56 : decode b_Mod_shade 56 = .ok (.iadd, 1) := by decide +kernel
theorem d_Mod_shade_57 : decode b_Mod_shade 57 = .ok (.invokestatic 78, 3) := by decide +kernel
theorem d_Mod_shade_60 : decode b_Mod_shade 60 = .ok (.iload_n 3, 1) := by decide +kernel
theorem d_Mod_shade_61 : decode b_Mod_shade 61 = .ok (.iload 5, 2) := by decide +kernel
theorem d_Mod_shade_63 : decode b_Mod_shade 63 = .ok (.iload 4, 2) := by decide +kernel
theorem d_Mod_shade_65 : decode b_Mod_shade 65 = .ok (.imul, 1) := by decide +kernel
theorem d_Mod_shade_66 : decode b_Mod_shade 66 = .ok (.iadd, 1) := by decide +kernel
theorem d_Mod_shade_67 : decode b_Mod_shade 67 = .ok (.ldc 95, 2) := by decide +kernel
theorem d_Mod_shade_69 : decode b_Mod_shade 69 = .ok (.iand, 1) := by decide +kernel
theorem d_Mod_shade_70 : decode b_Mod_shade 70 = .ok (.iastore, 1) := by decide +kernel
theorem d_Mod_shade_71 : decode b_Mod_shade 71 = .ok (.iinc 5 1, 3) := by decide +kernel
theorem d_Mod_shade_74 : decode b_Mod_shade 74 = .ok (.goto (-37), 3) := by decide +kernel
theorem d_Mod_shade_77 : decode b_Mod_shade 77 = .ok (.iconst 1, 1) := by decide +kernel
theorem d_Mod_shade_78 : decode b_Mod_shade 78 = .ok (.ireturn, 1) := by decide +kernel
theorem d_Mod_frame_0 : decode b_Mod_frame 0 = .ok (.aload_n 0, 1) := by decide +kernel
theorem d_Mod_frame_1 : decode b_Mod_frame 1 = .ok (.iconst 0, 1) := by decide +kernel
theorem d_Mod_frame_2 : decode b_Mod_frame 2 = .ok (.putfield 74, 3) := by decide +kernel
theorem d_Mod_frame_5 : decode b_Mod_frame 5 = .ok (.aload_n 0, 1) := by decide +kernel
theorem d_Mod_frame_6 : decode b_Mod_frame 6 = .ok (.iconst 1, 1) := by decide +kernel
theorem d_Mod_frame_7 : decode b_Mod_frame 7 = .ok (.iconst 0, 1) := by decide +kernel
theorem d_Mod_frame_8 : decode b_Mod_frame 8 = .ok (.invokevirtual 91, 3) := by decide +kernel
theorem d_Mod_frame_11 : decode b_Mod_frame 11 = .ok (.aload_n 0, 1) := by decide +kernel
theorem d_Mod_frame_12 : decode b_Mod_frame 12 = .ok (.dup, 1) := by decide +kernel
theorem d_Mod_frame_13 : decode b_Mod_frame 13 = .ok (.getfield 96, 3) := by decide +kernel
theorem d_Mod_frame_16 : decode b_Mod_frame 16 = .ok (.iconst 1, 1) := by decide +kernel
theorem d_Mod_frame_17 : decode b_Mod_frame 17 = .ok (.iadd, 1) := by decide +kernel
theorem d_Mod_frame_18 : decode b_Mod_frame 18 = .ok (.putfield 96, 3) := by decide +kernel
theorem d_Mod_frame_21 : decode b_Mod_frame 21 = .ok (.aload_n 0, 1) := by decide +kernel
theorem d_Mod_frame_22 : decode b_Mod_frame 22 = .ok (.getfield 96, 3) := by decide +kernel
theorem d_Mod_frame_25 : decode b_Mod_frame 25 = .ok (.ireturn, 1) := by decide +kernel
theorem d_Mod_join_0 : decode b_Mod_join 0 = .ok (.aload_n 0, 1) := by decide +kernel
theorem d_Mod_join_1 : decode b_Mod_join 1 = .ok (.iconst 0, 1) := by decide +kernel
theorem d_Mod_join_2 : decode b_Mod_join 2 = .ok (.putfield 74, 3) := by decide +kernel
theorem d_Mod_join_5 : decode b_Mod_join 5 = .ok (.iload_n 1, 1) := by decide +kernel
theorem d_Mod_join_6 : decode b_Mod_join 6 = .ok (.invokestatic 99, 3) := by decide +kernel
theorem d_Mod_join_9 : decode b_Mod_join 9 = .ok (.ifCond .eq 12, 3) := by decide +kernel
theorem d_Mod_join_12 : decode b_Mod_join 12 = .ok (.aload_n 0, 1) := by decide +kernel
theorem d_Mod_join_13 : decode b_Mod_join 13 = .ok (.getfield 23, 3) := by decide +kernel
theorem d_Mod_join_16 : decode b_Mod_join 16 = .ok (.iload_n 1, 1) := by decide +kernel
theorem d_Mod_join_17 : decode b_Mod_join 17 = .ok (.baload, 1) := by decide +kernel
theorem d_Mod_join_18 : decode b_Mod_join 18 = .ok (.ifCond .eq 5, 3) := by decide +kernel
theorem d_Mod_join_21 : decode b_Mod_join 21 = .ok (.iconst 0, 1) := by decide +kernel
theorem d_Mod_join_22 : decode b_Mod_join 22 = .ok (.ireturn, 1) := by decide +kernel
theorem d_Mod_join_23 : decode b_Mod_join 23 = .ok (.aload_n 0, 1) := by decide +kernel
theorem d_Mod_join_24 : decode b_Mod_join 24 = .ok (.getfield 23, 3) := by decide +kernel
theorem d_Mod_join_27 : decode b_Mod_join 27 = .ok (.iload_n 1, 1) := by decide +kernel
theorem d_Mod_join_28 : decode b_Mod_join 28 = .ok (.iconst 1, 1) := by decide +kernel
theorem d_Mod_join_29 : decode b_Mod_join 29 = .ok (.bastore, 1) := by decide +kernel
theorem d_Mod_join_30 : decode b_Mod_join 30 = .ok (.aload_n 0, 1) := by decide +kernel
theorem d_Mod_join_31 : decode b_Mod_join 31 = .ok (.getfield 35, 3) := by decide +kernel
theorem d_Mod_join_34 : decode b_Mod_join 34 = .ok (.iload_n 1, 1) := by decide +kernel
theorem d_Mod_join_35 : decode b_Mod_join 35 = .ok (.dup2, 1) := by decide +kernel
theorem d_Mod_join_36 : decode b_Mod_join 36 = .ok (.iaload, 1) := by decide +kernel
theorem d_Mod_join_37 : decode b_Mod_join 37 = .ok (.iconst 1, 1) := by decide +kernel
theorem d_Mod_join_38 : decode b_Mod_join 38 = .ok (.iadd, 1) := by decide +kernel
theorem d_Mod_join_39 : decode b_Mod_join 39 = .ok (.iastore, 1) := by decide +kernel
theorem d_Mod_join_40 : decode b_Mod_join 40 = .ok (.aload_n 0, 1) := by decide +kernel
theorem d_Mod_join_41 : decode b_Mod_join 41 = .ok (.getfield 16, 3) := by decide +kernel
theorem d_Mod_join_44 : decode b_Mod_join 44 = .ok (.iload_n 1, 1) := by decide +kernel
theorem d_Mod_join_45 : decode b_Mod_join 45 = .ok (.iconst 0, 1) := by decide +kernel
theorem d_Mod_join_46 : decode b_Mod_join 46 = .ok (.iastore, 1) := by decide +kernel
theorem d_Mod_join_47 : decode b_Mod_join 47 = .ok (.aload_n 0, 1) := by decide +kernel
theorem d_Mod_join_48 : decode b_Mod_join 48 = .ok (.getfield 16, 3) := by decide +kernel
theorem d_Mod_join_51 : decode b_Mod_join 51 = .ok (.iconst 3, 1) := by decide +kernel
theorem d_Mod_join_52 : decode b_Mod_join 52 = .ok (.iload_n 1, 1) := by decide +kernel
theorem d_Mod_join_53 : decode b_Mod_join 53 = .ok (.iadd, 1) := by decide +kernel
theorem d_Mod_join_54 : decode b_Mod_join 54 = .ok (.iconst 0, 1) := by decide +kernel
theorem d_Mod_join_55 : decode b_Mod_join 55 = .ok (.iastore, 1) := by decide +kernel
theorem d_Mod_join_56 : decode b_Mod_join 56 = .ok (.iconst 0, 1) := by decide +kernel
theorem d_Mod_join_57 : decode b_Mod_join 57 = .ok (.istore_n 2, 1) := by decide +kernel
theorem d_Mod_join_58 : decode b_Mod_join 58 = .ok (.iload_n 2, 1) := by decide +kernel
theorem d_Mod_join_59 : decode b_Mod_join 59 = .ok (.bipush 16, 2) := by decide +kernel
theorem d_Mod_join_61 : decode b_Mod_join 61 = .ok (.if_icmp .ge 36, 3) := by decide +kernel
theorem d_Mod_join_64 : decode b_Mod_join 64 = .ok (.aload_n 0, 1) := by decide +kernel
theorem d_Mod_join_65 : decode b_Mod_join 65 = .ok (.getfield 19, 3) := by decide +kernel
theorem d_Mod_join_68 : decode b_Mod_join 68 = .ok (.bipush 16, 2) := by decide +kernel
theorem d_Mod_join_70 : decode b_Mod_join 70 = .ok (.iload_n 1, 1) := by decide +kernel
theorem d_Mod_join_71 : decode b_Mod_join 71 = .ok (.imul, 1) := by decide +kernel
theorem d_Mod_join_72 : decode b_Mod_join 72 = .ok (.iload_n 2, 1) := by decide +kernel
theorem d_Mod_join_73 : decode b_Mod_join 73 = .ok (.iadd, 1) := by decide +kernel
theorem d_Mod_join_74 : decode b_Mod_join 74 = .ok (.iconst 0, 1) := by decide +kernel
theorem d_Mod_join_75 : decode b_Mod_join 75 = .ok (.bastore, 1) := by decide +kernel
theorem d_Mod_join_76 : decode b_Mod_join 76 = .ok (.aload_n 0, 1) := by decide +kernel
theorem d_Mod_join_77 : decode b_Mod_join 77 = .ok (.getfield 19, 3) := by decide +kernel
theorem d_Mod_join_80 : decode b_Mod_join 80 = .ok (.bipush 48, 2) := by decide +kernel
theorem d_Mod_join_82 : decode b_Mod_join 82 = .ok (.bipush 16, 2) := by decide +kernel
theorem d_Mod_join_84 : decode b_Mod_join 84 = .ok (.iload_n 1, 1) := by decide +kernel
theorem d_Mod_join_85 : decode b_Mod_join 85 = .ok (.imul, 1) := by decide +kernel
theorem d_Mod_join_86 : decode b_Mod_join 86 = .ok (.iadd, 1) := by decide +kernel
theorem d_Mod_join_87 : decode b_Mod_join 87 = .ok (.iload_n 2, 1) := by decide +kernel
theorem d_Mod_join_88 : decode b_Mod_join 88 = .ok (.iadd, 1) := by decide +kernel
theorem d_Mod_join_89 : decode b_Mod_join 89 = .ok (.iconst 0, 1) := by decide +kernel
theorem d_Mod_join_90 : decode b_Mod_join 90 = .ok (.bastore, 1) := by decide +kernel
theorem d_Mod_join_91 : decode b_Mod_join 91 = .ok (.iinc 2 1, 3) := by decide +kernel
theorem d_Mod_join_94 : decode b_Mod_join 94 = .ok (.goto (-36), 3) := by decide +kernel
theorem d_Mod_join_97 : decode b_Mod_join 97 = .ok (.aload_n 0, 1) := by decide +kernel
theorem d_Mod_join_98 : decode b_Mod_join 98 = .ok (.iconst 5, 1) := by decide +kernel
theorem d_Mod_join_99 : decode b_Mod_join 99 = .ok (.iload_n 1, 1) := by decide +kernel
theorem d_Mod_join_100 : decode b_Mod_join 100 = .ok (.iadd, 1) := by decide +kernel
theorem d_Mod_join_101 : decode b_Mod_join 101 = .ok (.iconst 2, 1) := by decide +kernel
theorem d_Mod_join_102 : decode b_Mod_join 102 = .ok (.iload_n 1, 1) := by decide +kernel
theorem d_Mod_join_103 : decode b_Mod_join 103 = .ok (.iadd, 1) := by decide +kernel
theorem d_Mod_join_104 : decode b_Mod_join 104 = .ok (.invokevirtual 91, 3) := by decide +kernel
theorem d_Mod_join_107 : decode b_Mod_join 107 = .ok (.aload_n 0, 1) := by decide +kernel
theorem d_Mod_join_108 : decode b_Mod_join 108 = .ok (.getfield 29, 3) := by decide +kernel
theorem d_Mod_join_111 : decode b_Mod_join 111 = .ok (.iload_n 1, 1) := by decide +kernel
theorem d_Mod_join_112 : decode b_Mod_join 112 = .ok (.aload_n 0, 1) := by decide +kernel
theorem d_Mod_join_113 : decode b_Mod_join 113 = .ok (.getfield 26, 3) := by decide +kernel
theorem d_Mod_join_116 : decode b_Mod_join 116 = .ok (.iload_n 1, 1) := by decide +kernel
theorem d_Mod_join_117 : decode b_Mod_join 117 = .ok (.iaload, 1) := by decide +kernel
theorem d_Mod_join_118 : decode b_Mod_join 118 = .ok (.iastore, 1) := by decide +kernel
theorem d_Mod_join_119 : decode b_Mod_join 119 = .ok (.aload_n 0, 1) := by decide +kernel
theorem d_Mod_join_120 : decode b_Mod_join 120 = .ok (.getfield 44, 3) := by decide +kernel
theorem d_Mod_join_123 : decode b_Mod_join 123 = .ok (.iload_n 1, 1) := by decide +kernel
theorem d_Mod_join_124 : decode b_Mod_join 124 = .ok (.iconst 0, 1) := by decide +kernel
theorem d_Mod_join_125 : decode b_Mod_join 125 = .ok (.iastore, 1) := by decide +kernel
theorem d_Mod_join_126 : decode b_Mod_join 126 = .ok (.aload_n 0, 1) := by decide +kernel
theorem d_Mod_join_127 : decode b_Mod_join 127 = .ok (.getfield 47, 3) := by decide +kernel
theorem d_Mod_join_130 : decode b_Mod_join 130 = .ok (.iload_n 1, 1) := by decide +kernel
theorem d_Mod_join_131 : decode b_Mod_join 131 = .ok (.iconst 0, 1) := by decide +kernel
theorem d_Mod_join_132 : decode b_Mod_join 132 = .ok (.iastore, 1) := by decide +kernel
theorem d_Mod_join_133 : decode b_Mod_join 133 = .ok (.iconst 1, 1) := by decide +kernel
theorem d_Mod_join_134 : decode b_Mod_join 134 = .ok (.ireturn, 1) := by decide +kernel
theorem d_Mod_leave_0 : decode b_Mod_leave 0 = .ok (.aload_n 0, 1) := by decide +kernel
theorem d_Mod_leave_1 : decode b_Mod_leave 1 = .ok (.getfield 23, 3) := by decide +kernel
theorem d_Mod_leave_4 : decode b_Mod_leave 4 = .ok (.iload_n 1, 1) := by decide +kernel
theorem d_Mod_leave_5 : decode b_Mod_leave 5 = .ok (.iconst 0, 1) := by decide +kernel
theorem d_Mod_leave_6 : decode b_Mod_leave 6 = .ok (.bastore, 1) := by decide +kernel
theorem d_Mod_leave_7 : decode b_Mod_leave 7 = .ok (.aload_n 0, 1) := by decide +kernel
theorem d_Mod_leave_8 : decode b_Mod_leave 8 = .ok (.getfield 44, 3) := by decide +kernel
theorem d_Mod_leave_11 : decode b_Mod_leave 11 = .ok (.iload_n 1, 1) := by decide +kernel
theorem d_Mod_leave_12 : decode b_Mod_leave 12 = .ok (.iconst 0, 1) := by decide +kernel
theorem d_Mod_leave_13 : decode b_Mod_leave 13 = .ok (.iastore, 1) := by decide +kernel
theorem d_Mod_leave_14 : decode b_Mod_leave 14 = .ok (.aload_n 0, 1) := by decide +kernel
theorem d_Mod_leave_15 : decode b_Mod_leave 15 = .ok (.getfield 47, 3) := by decide +kernel
theorem d_Mod_leave_18 : decode b_Mod_leave 18 = .ok (.iload_n 1, 1) := by decide +kernel
theorem d_Mod_leave_19 : decode b_Mod_leave 19 = .ok (.iconst 0, 1) := by decide +kernel
theorem d_Mod_leave_20 : decode b_Mod_leave 20 = .ok (.iastore, 1) := by decide +kernel
theorem d_Mod_leave_21 : decode b_Mod_leave 21 = .ok (.aload_n 0, 1) := by decide +kernel
theorem d_Mod_leave_22 : decode b_Mod_leave 22 = .ok (.getfield 53, 3) := by decide +kernel
theorem d_Mod_leave_25 : decode b_Mod_leave 25 = .ok (.iload_n 1, 1) := by decide +kernel
theorem d_Mod_leave_26 : decode b_Mod_leave 26 = .ok (.iconst 0, 1) := by decide +kernel
theorem d_Mod_leave_27 : decode b_Mod_leave 27 = .ok (.iastore, 1) := by decide +kernel
theorem d_Mod_leave_28 : decode b_Mod_leave 28 = .ok (.aload_n 0, 1) := by decide +kernel
theorem d_Mod_leave_29 : decode b_Mod_leave 29 = .ok (.getfield 32, 3) := by decide +kernel
theorem d_Mod_leave_32 : decode b_Mod_leave 32 = .ok (.iload_n 1, 1) := by decide +kernel
theorem d_Mod_leave_33 : decode b_Mod_leave 33 = .ok (.iconst 0, 1) := by decide +kernel
theorem d_Mod_leave_34 : decode b_Mod_leave 34 = .ok (.iastore, 1) := by decide +kernel
theorem d_Mod_leave_35 : decode b_Mod_leave 35 = .ok (.return_, 1) := by decide +kernel
theorem d_Mod_cut_0 : decode b_Mod_cut 0 = .ok (.aload_n 0, 1) := by decide +kernel
theorem d_Mod_cut_1 : decode b_Mod_cut 1 = .ok (.iconst 0, 1) := by decide +kernel
theorem d_Mod_cut_2 : decode b_Mod_cut 2 = .ok (.putfield 74, 3) := by decide +kernel
theorem d_Mod_cut_5 : decode b_Mod_cut 5 = .ok (.iload_n 1, 1) := by decide +kernel
theorem d_Mod_cut_6 : decode b_Mod_cut 6 = .ok (.invokestatic 99, 3) := by decide +kernel
theorem d_Mod_cut_9 : decode b_Mod_cut 9 = .ok (.ifCond .eq 16, 3) := by decide +kernel
theorem d_Mod_cut_12 : decode b_Mod_cut 12 = .ok (.aload_n 0, 1) := by decide +kernel
theorem d_Mod_cut_13 : decode b_Mod_cut 13 = .ok (.getfield 23, 3) := by decide +kernel
theorem d_Mod_cut_16 : decode b_Mod_cut 16 = .ok (.iload_n 1, 1) := by decide +kernel
theorem d_Mod_cut_17 : decode b_Mod_cut 17 = .ok (.baload, 1) := by decide +kernel
theorem d_Mod_cut_18 : decode b_Mod_cut 18 = .ok (.ifCond .eq 7, 3) := by decide +kernel
theorem d_Mod_cut_21 : decode b_Mod_cut 21 = .ok (.iconst 1, 1) := by decide +kernel
theorem d_Mod_cut_22 : decode b_Mod_cut 22 = .ok (.goto 4, 3) := by decide +kernel
theorem d_Mod_cut_25 : decode b_Mod_cut 25 = .ok (.iconst 0, 1) := by decide +kernel
theorem d_Mod_cut_26 : decode b_Mod_cut 26 = .ok (.istore_n 2, 1) := by decide +kernel
theorem d_Mod_cut_27 : decode b_Mod_cut 27 = .ok (.iload_n 2, 1) := by decide +kernel
theorem d_Mod_cut_28 : decode b_Mod_cut 28 = .ok (.ifCond .eq 8, 3) := by decide +kernel
theorem d_Mod_cut_31 : decode b_Mod_cut 31 = .ok (.aload_n 0, 1) := by decide +kernel
theorem d_Mod_cut_32 : decode b_Mod_cut 32 = .ok (.iload_n 1, 1) := by decide +kernel
theorem d_Mod_cut_33 : decode b_Mod_cut 33 = .ok (.invokevirtual 102, 3) := by decide +kernel
theorem d_Mod_cut_36 : decode b_Mod_cut 36 = .ok (.iload_n 2, 1) := by decide +kernel
theorem d_Mod_cut_37 : decode b_Mod_cut 37 = .ok (.ireturn, 1) := by decide +kernel
theorem d_Mod_credit_0 : decode b_Mod_credit 0 = .ok (.aload_n 0, 1) := by decide +kernel
theorem d_Mod_credit_1 : decode b_Mod_credit 1 = .ok (.iload_n 1, 1) := by decide +kernel
theorem d_Mod_credit_2 : decode b_Mod_credit 2 = .ok (.invokestatic 99, 3) := by decide +kernel
theorem d_Mod_credit_5 : decode b_Mod_credit 5 = .ok (.ifCond .eq 14, 3) := by decide +kernel
theorem d_Mod_credit_8 : decode b_Mod_credit 8 = .ok (.iload_n 2, 1) := by decide +kernel
theorem d_Mod_credit_9 : decode b_Mod_credit 9 = .ok (.iconst 1, 1) := by decide +kernel
theorem d_Mod_credit_10 : decode b_Mod_credit 10 = .ok (.if_icmp .lt 9, 3) := by decide +kernel
theorem d_Mod_credit_13 : decode b_Mod_credit 13 = .ok (.iload_n 2, 1) := by decide +kernel
theorem d_Mod_credit_14 : decode b_Mod_credit 14 = .ok (.ldc 106, 2) := by decide +kernel
theorem d_Mod_credit_16 : decode b_Mod_credit 16 = .ok (.if_icmp .le 7, 3) := by decide +kernel
theorem d_Mod_credit_19 : decode b_Mod_credit 19 = .ok (.iconst 1, 1) := by decide +kernel
theorem d_Mod_credit_20 : decode b_Mod_credit 20 = .ok (.goto 30, 3) := by decide +kernel
theorem d_Mod_credit_23 : decode b_Mod_credit 23 = .ok (.aload_n 0, 1) := by decide +kernel
theorem d_Mod_credit_24 : decode b_Mod_credit 24 = .ok (.getfield 23, 3) := by decide +kernel
theorem d_Mod_credit_27 : decode b_Mod_credit 27 = .ok (.iload_n 1, 1) := by decide +kernel
theorem d_Mod_credit_28 : decode b_Mod_credit 28 = .ok (.baload, 1) := by decide +kernel
theorem d_Mod_credit_29 : decode b_Mod_credit 29 = .ok (.ifCond .eq 16, 3) := by decide +kernel
theorem d_Mod_credit_32 : decode b_Mod_credit 32 = .ok (.aload_n 0, 1) := by decide +kernel
theorem d_Mod_credit_33 : decode b_Mod_credit 33 = .ok (.getfield 32, 3) := by decide +kernel
theorem d_Mod_credit_36 : decode b_Mod_credit 36 = .ok (.iload_n 1, 1) := by decide +kernel
theorem d_Mod_credit_37 : decode b_Mod_credit 37 = .ok (.iaload, 1) := by decide +kernel
theorem d_Mod_credit_38 : decode b_Mod_credit 38 = .ok (.iload_n 2, 1) := by decide +kernel
theorem d_Mod_credit_39 : decode b_Mod_credit 39 = .ok (.iadd, 1) := by decide +kernel
theorem d_Mod_credit_40 : decode b_Mod_credit 40 = .ok (.ldc 106, 2) := by decide +kernel
theorem d_Mod_credit_42 : decode b_Mod_credit 42 = .ok (.if_icmp .le 7, 3) := by decide +kernel
theorem d_Mod_credit_45 : decode b_Mod_credit 45 = .ok (.iconst 2, 1) := by decide +kernel
theorem d_Mod_credit_46 : decode b_Mod_credit 46 = .ok (.goto 4, 3) := by decide +kernel
theorem d_Mod_credit_49 : decode b_Mod_credit 49 = .ok (.iconst 0, 1) := by decide +kernel
theorem d_Mod_credit_50 : decode b_Mod_credit 50 = .ok (.putfield 74, 3) := by decide +kernel
theorem d_Mod_credit_53 : decode b_Mod_credit 53 = .ok (.aload_n 0, 1) := by decide +kernel
theorem d_Mod_credit_54 : decode b_Mod_credit 54 = .ok (.getfield 74, 3) := by decide +kernel
theorem d_Mod_credit_57 : decode b_Mod_credit 57 = .ok (.ifCond .le 5, 3) := by decide +kernel
theorem d_Mod_credit_60 : decode b_Mod_credit 60 = .ok (.iconst 0, 1) := by decide +kernel
theorem d_Mod_credit_61 : decode b_Mod_credit 61 = .ok (.ireturn, 1) := by decide +kernel
theorem d_Mod_credit_62 : decode b_Mod_credit 62 = .ok (.aload_n 0, 1) := by decide +kernel
theorem d_Mod_credit_63 : decode b_Mod_credit 63 = .ok (.getfield 32, 3) := by decide +kernel
theorem d_Mod_credit_66 : decode b_Mod_credit 66 = .ok (.iload_n 1, 1) := by decide +kernel
theorem d_Mod_credit_67 : decode b_Mod_credit 67 = .ok (.dup2, 1) := by decide +kernel
theorem d_Mod_credit_68 : decode b_Mod_credit 68 = .ok (.iaload, 1) := by decide +kernel
theorem d_Mod_credit_69 : decode b_Mod_credit 69 = .ok (.iload_n 2, 1) := by decide +kernel
theorem d_Mod_credit_70 : decode b_Mod_credit 70 = .ok (.iadd, 1) := by decide +kernel
theorem d_Mod_credit_71 : decode b_Mod_credit 71 = .ok (.iastore, 1) := by decide +kernel
theorem d_Mod_credit_72 : decode b_Mod_credit 72 = .ok (.aload_n 0, 1) := by decide +kernel
theorem d_Mod_credit_73 : decode b_Mod_credit 73 = .ok (.getfield 32, 3) := by decide +kernel
theorem d_Mod_credit_76 : decode b_Mod_credit 76 = .ok (.iload_n 1, 1) := by decide +kernel
theorem d_Mod_credit_77 : decode b_Mod_credit 77 = .ok (.iaload, 1) := by decide +kernel
theorem d_Mod_credit_78 : decode b_Mod_credit 78 = .ok (.ireturn, 1) := by decide +kernel
theorem d_Mod_put_0 : decode b_Mod_put 0 = .ok (.aload_n 0, 1) := by decide +kernel
theorem d_Mod_put_1 : decode b_Mod_put 1 = .ok (.getfield 68, 3) := by decide +kernel
theorem d_Mod_put_4 : decode b_Mod_put 4 = .ok (.aload_n 0, 1) := by decide +kernel
theorem d_Mod_put_5 : decode b_Mod_put 5 = .ok (.getfield 107, 3) := by decide +kernel
theorem d_Mod_put_8 : decode b_Mod_put 8 = .ok (.iload_n 1, 1) := by decide +kernel
theorem d_Mod_put_9 : decode b_Mod_put 9 = .ok (.sipush 255, 3) := by decide +kernel
theorem d_Mod_put_12 : decode b_Mod_put 12 = .ok (.iand, 1) := by decide +kernel
theorem d_Mod_put_13 : decode b_Mod_put 13 = .ok (.iastore, 1) := by decide +kernel
theorem d_Mod_put_14 : decode b_Mod_put 14 = .ok (.aload_n 0, 1) := by decide +kernel
theorem d_Mod_put_15 : decode b_Mod_put 15 = .ok (.dup, 1) := by decide +kernel
theorem d_Mod_put_16 : decode b_Mod_put 16 = .ok (.getfield 107, 3) := by decide +kernel
theorem d_Mod_put_19 : decode b_Mod_put 19 = .ok (.iconst 1, 1) := by decide +kernel
theorem d_Mod_put_20 : decode b_Mod_put 20 = .ok (.iadd, 1) := by decide +kernel
theorem d_Mod_put_21 : decode b_Mod_put 21 = .ok (.putfield 107, 3) := by decide +kernel
theorem d_Mod_put_24 : decode b_Mod_put 24 = .ok (.return_, 1) := by decide +kernel
theorem d_Mod_putTwo_0 : decode b_Mod_putTwo 0 = .ok (.aload_n 0, 1) := by decide +kernel
theorem d_Mod_putTwo_1 : decode b_Mod_putTwo 1 = .ok (.iload_n 1, 1) := by decide +kernel
theorem d_Mod_putTwo_2 : decode b_Mod_putTwo 2 = .ok (.bipush 8, 2) := by decide +kernel
theorem d_Mod_putTwo_4 : decode b_Mod_putTwo 4 = .ok (.ishr, 1) := by decide +kernel
theorem d_Mod_putTwo_5 : decode b_Mod_putTwo 5 = .ok (.invokevirtual 110, 3) := by decide +kernel
theorem d_Mod_putTwo_8 : decode b_Mod_putTwo 8 = .ok (.aload_n 0, 1) := by decide +kernel
theorem d_Mod_putTwo_9 : decode b_Mod_putTwo 9 = .ok (.iload_n 1, 1) := by decide +kernel
theorem d_Mod_putTwo_10 : decode b_Mod_putTwo 10 = .ok (.invokevirtual 110, 3) := by decide +kernel
theorem d_Mod_putTwo_13 : decode b_Mod_putTwo 13 = .ok (.return_, 1) := by decide +kernel
theorem d_Mod_findColours_0 : decode b_Mod_findColours 0 = .ok (.aload_n 0, 1) := by decide +kernel
theorem d_Mod_findColours_1 : decode b_Mod_findColours 1 = .ok (.iconst 0, 1) := by decide +kernel
theorem d_Mod_findColours_2 : decode b_Mod_findColours 2 = .ok (.putfield 113, 3) := by decide +kernel
theorem d_Mod_findColours_5 : decode b_Mod_findColours 5 = .ok (.iconst 0, 1) := by decide +kernel
theorem d_Mod_findColours_6 : decode b_Mod_findColours 6 = .ok (.istore_n 1, 1) := by decide +kernel
theorem d_Mod_findColours_7 : decode b_Mod_findColours 7 = .ok (.iload_n 1, 1) := by decide +kernel
theorem d_Mod_findColours_8 : decode b_Mod_findColours 8 = .ok (.bipush 64, 2) := by decide +kernel
theorem d_Mod_findColours_10 : decode b_Mod_findColours 10 = .ok (.if_icmp .ge 54, 3) := by decide +kernel
theorem d_Mod_findColours_13 : decode b_Mod_findColours 13 = .ok (.aload_n 0, 1) := by decide +kernel
theorem d_Mod_findColours_14 : decode b_Mod_findColours 14 = .ok (.aload_n 0, 1) := by decide +kernel
theorem d_Mod_findColours_15 : decode b_Mod_findColours 15 = .ok (.getfield 65, 3) := by decide +kernel
theorem d_Mod_findColours_18 : decode b_Mod_findColours 18 = .ok (.iload_n 1, 1) := by decide +kernel
theorem d_Mod_findColours_19 : decode b_Mod_findColours 19 = .ok (.iaload, 1) := by decide +kernel
theorem d_Mod_findColours_20 : decode b_Mod_findColours 20 = .ok (.invokevirtual 116, 3) := by decide +kernel
theorem d_Mod_findColours_23 : decode b_Mod_findColours 23 = .ok (.aload_n 0, 1) := by decide +kernel
theorem d_Mod_findColours_24 : decode b_Mod_findColours 24 = .ok (.getfield 113, 3) := by decide +kernel
theorem d_Mod_findColours_27 : decode b_Mod_findColours 27 = .ok (.if_icmp .ge 6, 3) := by decide +kernel
theorem d_Mod_findColours_30 : decode b_Mod_findColours 30 = .ok (.goto 28, 3) := by decide +kernel
theorem d_Mod_findColours_33 : decode b_Mod_findColours 33 = .ok (.aload_n 0, 1) := by decide +kernel
theorem d_Mod_findColours_34 : decode b_Mod_findColours 34 = .ok (.getfield 71, 3) := by decide +kernel
theorem d_Mod_findColours_37 : decode b_Mod_findColours 37 = .ok (.aload_n 0, 1) := by decide +kernel
theorem d_Mod_findColours_38 : decode b_Mod_findColours 38 = .ok (.getfield 113, 3) := by decide +kernel
theorem d_Mod_findColours_41 : decode b_Mod_findColours 41 = .ok (.aload_n 0, 1) := by decide +kernel
theorem d_Mod_findColours_42 : decode b_Mod_findColours 42 = .ok (.getfield 65, 3) := by decide +kernel
theorem d_Mod_findColours_45 : decode b_Mod_findColours 45 = .ok (.iload_n 1, 1) := by decide +kernel
theorem d_Mod_findColours_46 : decode b_Mod_findColours 46 = .ok (.iaload, 1) := by decide +kernel
theorem d_Mod_findColours_47 : decode b_Mod_findColours 47 = .ok (.iastore, 1) := by decide +kernel
theorem d_Mod_findColours_48 : decode b_Mod_findColours 48 = .ok (.aload_n 0, 1) := by decide +kernel
theorem d_Mod_findColours_49 : decode b_Mod_findColours 49 = .ok (.dup, 1) := by decide +kernel
theorem d_Mod_findColours_50 : decode b_Mod_findColours 50 = .ok (.getfield 113, 3) := by decide +kernel
theorem d_Mod_findColours_53 : decode b_Mod_findColours 53 = .ok (.iconst 1, 1) := by decide +kernel
theorem d_Mod_findColours_54 : decode b_Mod_findColours 54 = .ok (.iadd, 1) := by decide +kernel
theorem d_Mod_findColours_55 : decode b_Mod_findColours 55 = .ok (.putfield 113, 3) := by decide +kernel
theorem d_Mod_findColours_58 : decode b_Mod_findColours 58 = .ok (.iinc 1 1, 3) := by decide +kernel
theorem d_Mod_findColours_61 : decode b_Mod_findColours 61 = .ok (.goto (-54), 3) := by decide +kernel
theorem d_Mod_findColours_64 : decode b_Mod_findColours 64 = .ok (.return_, 1) := by decide +kernel
theorem d_Mod_numberOf_0 : decode b_Mod_numberOf 0 = .ok (.iconst 0, 1) := by decide +kernel
theorem d_Mod_numberOf_1 : decode b_Mod_numberOf 1 = .ok (.istore_n 2, 1) := by decide +kernel
theorem d_Mod_numberOf_2 : decode b_Mod_numberOf 2 = .ok (.iload_n 2, 1) := by decide +kernel
theorem d_Mod_numberOf_3 : decode b_Mod_numberOf 3 = .ok (.aload_n 0, 1) := by decide +kernel
theorem d_Mod_numberOf_4 : decode b_Mod_numberOf 4 = .ok (.getfield 113, 3) := by decide +kernel
theorem d_Mod_numberOf_7 : decode b_Mod_numberOf 7 = .ok (.if_icmp .ge 19, 3) := by decide +kernel
theorem d_Mod_numberOf_10 : decode b_Mod_numberOf 10 = .ok (.aload_n 0, 1) := by decide +kernel
theorem d_Mod_numberOf_11 : decode b_Mod_numberOf 11 = .ok (.getfield 71, 3) := by decide +kernel
theorem d_Mod_numberOf_14 : decode b_Mod_numberOf 14 = .ok (.iload_n 2, 1) := by decide +kernel
theorem d_Mod_numberOf_15 : decode b_Mod_numberOf 15 = .ok (.iaload, 1) := by decide +kernel
theorem d_Mod_numberOf_16 : decode b_Mod_numberOf 16 = .ok (.iload_n 1, 1) := by decide +kernel
theorem d_Mod_numberOf_17 : decode b_Mod_numberOf 17 = .ok (.if_icmp .eq 9, 3) := by decide +kernel
theorem d_Mod_numberOf_20 : decode b_Mod_numberOf 20 = .ok (.iinc 2 1, 3) := by decide +kernel
theorem d_Mod_numberOf_23 : decode b_Mod_numberOf 23 = .ok (.goto (-21), 3) := by decide +kernel
theorem d_Mod_numberOf_26 : decode b_Mod_numberOf 26 = .ok (.iload_n 2, 1) := by decide +kernel
theorem d_Mod_numberOf_27 : decode b_Mod_numberOf 27 = .ok (.ireturn, 1) := by decide +kernel
theorem d_Mod_likeTile_0 : decode b_Mod_likeTile 0 = .ok (.iconst 0, 1) := by decide +kernel
theorem d_Mod_likeTile_1 : decode b_Mod_likeTile 1 = .ok (.istore_n 2, 1) := by decide +kernel
theorem d_Mod_likeTile_2 : decode b_Mod_likeTile 2 = .ok (.iload_n 2, 1) := by decide +kernel
theorem d_Mod_likeTile_3 : decode b_Mod_likeTile 3 = .ok (.bipush 48, 2) := by decide +kernel
theorem d_Mod_likeTile_5 : decode b_Mod_likeTile 5 = .ok (.if_icmp .ge 21, 3) := by decide +kernel
theorem d_Mod_likeTile_8 : decode b_Mod_likeTile 8 = .ok (.aload_n 0, 1) := by decide +kernel
theorem d_Mod_likeTile_9 : decode b_Mod_likeTile 9 = .ok (.bipush 9, 2) := by decide +kernel
theorem d_Mod_likeTile_11 : decode b_Mod_likeTile 11 = .ok (.iload_n 2, 1) := by decide +kernel
theorem d_Mod_likeTile_12 : decode b_Mod_likeTile 12 = .ok (.iconst 1, 1) := by decide +kernel
theorem d_Mod_likeTile_13 : decode b_Mod_likeTile 13 = .ok (.iload_n 1, 1) := by decide +kernel
theorem d_Mod_likeTile_14 : decode b_Mod_likeTile 14 = .ok (.invokevirtual 120, 3) := by decide +kernel
theorem d_Mod_likeTile_17 : decode b_Mod_likeTile 17 = .ok (.ifCond .ne 9, 3) := by decide +kernel
theorem d_Mod_likeTile_20 : decode b_Mod_likeTile 20 = .ok (.iinc 2 1, 3) := by decide +kernel
theorem d_Mod_likeTile_23 : decode b_Mod_likeTile 23 = .ok (.goto (-21), 3) := by decide +kernel
theorem d_Mod_likeTile_26 : decode b_Mod_likeTile 26 = .ok (.iload_n 2, 1) := by decide +kernel
theorem d_Mod_likeTile_27 : decode b_Mod_likeTile 27 = .ok (.bipush 48, 2) := by decide +kernel
theorem d_Mod_likeTile_29 : decode b_Mod_likeTile 29 = .ok (.if_icmp .ge 7, 3) := by decide +kernel
theorem d_Mod_likeTile_32 : decode b_Mod_likeTile 32 = .ok (.iload_n 2, 1) := by decide +kernel
theorem d_Mod_likeTile_33 : decode b_Mod_likeTile 33 = .ok (.goto 4, 3) := by decide +kernel
theorem d_Mod_likeTile_36 : decode b_Mod_likeTile 36 = .ok (.iconst (-1), 1) := by decide +kernel
theorem d_Mod_likeTile_37 : decode b_Mod_likeTile 37 = .ok (.ireturn, 1) := by decide +kernel
theorem d_Mod_likeEntry_0 : decode b_Mod_likeEntry 0 = .ok (.iconst 0, 1) := by decide +kernel
theorem d_Mod_likeEntry_1 : decode b_Mod_likeEntry 1 = .ok (.istore_n 2, 1) := by decide +kernel
theorem d_Mod_likeEntry_2 : decode b_Mod_likeEntry 2 = .ok (.iload_n 2, 1) := by decide +kernel
theorem d_Mod_likeEntry_3 : decode b_Mod_likeEntry 3 = .ok (.bipush 16, 2) := by decide +kernel
theorem d_Mod_likeEntry_5 : decode b_Mod_likeEntry 5 = .ok (.if_icmp .ge 81, 3) := by decide +kernel
theorem d_Mod_likeEntry_8 : decode b_Mod_likeEntry 8 = .ok (.aload_n 0, 1) := by decide +kernel
theorem d_Mod_likeEntry_9 : decode b_Mod_likeEntry 9 = .ok (.getfield 19, 3) := by decide +kernel
theorem d_Mod_likeEntry_12 : decode b_Mod_likeEntry 12 = .ok (.bipush 16, 2) := by decide +kernel
theorem d_Mod_likeEntry_14 : decode b_Mod_likeEntry 14 = .ok (.iload_n 1, 1) := by decide +kernel
theorem d_Mod_likeEntry_15 : decode b_Mod_likeEntry 15 = .ok (.imul, 1) := by decide +kernel
theorem d_Mod_likeEntry_16 : decode b_Mod_likeEntry 16 = .ok (.iload_n 2, 1) := by decide +kernel
theorem d_Mod_likeEntry_17 : decode b_Mod_likeEntry 17 = .ok (.iadd, 1) := by decide +kernel
theorem d_Mod_likeEntry_18 : decode b_Mod_likeEntry 18 = .ok (.baload, 1) := by decide +kernel
theorem d_Mod_likeEntry_19 : decode b_Mod_likeEntry 19 = .ok (.istore_n 3, 1) := by decide +kernel
theorem d_Mod_likeEntry_20 : decode b_Mod_likeEntry 20 = .ok (.iconst 0, 1) := by decide +kernel
theorem d_Mod_likeEntry_21 : decode b_Mod_likeEntry 21 = .ok (.istore 4, 2) := by decide +kernel
theorem d_Mod_likeEntry_23 : decode b_Mod_likeEntry 23 = .ok (.iload 4, 2) := by decide +kernel
theorem d_Mod_likeEntry_25 : decode b_Mod_likeEntry 25 = .ok (.bipush 64, 2) := by decide +kernel
theorem d_Mod_likeEntry_27 : decode b_Mod_likeEntry 27 = .ok (.if_icmp .ge 47, 3) := by decide +kernel
theorem d_Mod_likeEntry_30 : decode b_Mod_likeEntry 30 = .ok (.iload_n 3, 1) := by decide +kernel
theorem d_Mod_likeEntry_31 : decode b_Mod_likeEntry 31 = .ok (.ifCond .eq 43, 3) := by decide +kernel
theorem d_Mod_likeEntry_34 : decode b_Mod_likeEntry 34 = .ok (.aload_n 0, 1) := by decide +kernel
theorem d_Mod_likeEntry_35 : decode b_Mod_likeEntry 35 = .ok (.getfield 13, 3) := by decide +kernel
theorem d_Mod_likeEntry_38 : decode b_Mod_likeEntry 38 = .ok (.sipush 1024, 3) := by decide +kernel
theorem d_Mod_likeEntry_41 : decode b_Mod_likeEntry 41 = .ok (.iload_n 1, 1) := by decide +kernel
theorem d_Mod_likeEntry_42 : decode b_Mod_likeEntry 42 = .ok (.imul, 1) := by decide +kernel
theorem d_Mod_likeEntry_43 : decode b_Mod_likeEntry 43 = .ok (.bipush 64, 2) := by decide +kernel
theorem d_Mod_likeEntry_45 : decode b_Mod_likeEntry 45 = .ok (.iload_n 2, 1) := by decide +kernel
theorem d_Mod_likeEntry_46 : decode b_Mod_likeEntry 46 = .ok (.imul, 1) := by decide +kernel
theorem d_Mod_likeEntry_47 : decode b_Mod_likeEntry 47 = .ok (.iadd, 1) := by decide +kernel
theorem d_Mod_likeEntry_48 : decode b_Mod_likeEntry 48 = .ok (.iload 4, 2) := by decide +kernel
theorem d_Mod_likeEntry_50 : decode b_Mod_likeEntry 50 = .ok (.iadd, 1) := by decide +kernel
theorem d_Mod_likeEntry_51 : decode b_Mod_likeEntry 51 = .ok (.iaload, 1) := by decide +kernel
theorem d_Mod_likeEntry_52 : decode b_Mod_likeEntry 52 = .ok (.aload_n 0, 1) := by decide +kernel
theorem d_Mod_likeEntry_53 : decode b_Mod_likeEntry 53 = .ok (.getfield 65, 3) := by decide +kernel
theorem d_Mod_likeEntry_56 : decode b_Mod_likeEntry 56 = .ok (.iload 4, 2) := by decide +kernel
theorem d_Mod_likeEntry_58 : decode b_Mod_likeEntry 58 = .ok (.iaload, 1) := by decide +kernel
theorem d_Mod_likeEntry_59 : decode b_Mod_likeEntry 59 = .ok (.if_icmp .ne 7, 3) := by decide +kernel
theorem d_Mod_likeEntry_62 : decode b_Mod_likeEntry 62 = .ok (.iconst 1, 1) := by decide +kernel
theorem d_Mod_likeEntry_63 : decode b_Mod_likeEntry 63 = .ok (.goto 4, 3) := by decide +kernel
theorem d_Mod_likeEntry_66 : decode b_Mod_likeEntry 66 = .ok (.iconst 0, 1) := by decide +kernel
theorem d_Mod_likeEntry_67 : decode b_Mod_likeEntry 67 = .ok (.istore_n 3, 1) := by decide +kernel
theorem d_Mod_likeEntry_68 : decode b_Mod_likeEntry 68 = .ok (.iinc 4 1, 3) := by decide +kernel
theorem d_Mod_likeEntry_71 : decode b_Mod_likeEntry 71 = .ok (.goto (-48), 3) := by decide +kernel
theorem d_Mod_likeEntry_74 : decode b_Mod_likeEntry 74 = .ok (.iload_n 3, 1) := by decide +kernel
theorem d_Mod_likeEntry_75 : decode b_Mod_likeEntry 75 = .ok (.ifCond .eq 5, 3) := by decide +kernel
theorem d_Mod_likeEntry_78 : decode b_Mod_likeEntry 78 = .ok (.iload_n 2, 1) := by decide +kernel
theorem d_Mod_likeEntry_79 : decode b_Mod_likeEntry 79 = .ok (.ireturn, 1) := by decide +kernel
theorem d_Mod_likeEntry_80 : decode b_Mod_likeEntry 80 = .ok (.iinc 2 1, 3) := by decide +kernel
theorem d_Mod_likeEntry_83 : decode b_Mod_likeEntry 83 = .ok (.goto (-81), 3) := by decide +kernel
theorem d_Mod_likeEntry_86 : decode b_Mod_likeEntry 86 = .ok (.iconst (-1), 1) := by decide +kernel
theorem d_Mod_likeEntry_87 : decode b_Mod_likeEntry 87 = .ok (.ireturn, 1) := by decide +kernel
theorem d_Mod_putBits_0 : decode b_Mod_putBits 0 = .ok (.iconst 0, 1) := by decide +kernel
theorem d_Mod_putBits_1 : decode b_Mod_putBits 1 = .ok (.istore_n 2, 1) := by decide +kernel
theorem d_Mod_putBits_2 : decode b_Mod_putBits 2 = .ok (.iconst 0, 1) := by decide +kernel
theorem d_Mod_putBits_3 : decode b_Mod_putBits 3 = .ok (.istore_n 3, 1) := by decide +kernel
theorem d_Mod_putBits_4 : decode b_Mod_putBits 4 = .ok (.iload_n 3, 1) := by decide +kernel
theorem d_Mod_putBits_5 : decode b_Mod_putBits 5 = .ok (.bipush 64, 2) := by decide +kernel
theorem d_Mod_putBits_7 : decode b_Mod_putBits 7 = .ok (.if_icmp .ge 45, 3) := by decide +kernel
theorem d_Mod_putBits_10 : decode b_Mod_putBits 10 = .ok (.iload_n 2, 1) := by decide +kernel
theorem d_Mod_putBits_11 : decode b_Mod_putBits 11 = .ok (.iload_n 1, 1) := by decide +kernel
theorem d_Mod_putBits_12 : decode b_Mod_putBits 12 = .ok (.ishl, 1) := by decide +kernel
theorem d_Mod_putBits_13 : decode b_Mod_putBits 13 = .ok (.aload_n 0, 1) := by decide +kernel
theorem d_Mod_putBits_14 : decode b_Mod_putBits 14 = .ok (.aload_n 0, 1) := by decide +kernel
theorem d_Mod_putBits_15 : decode b_Mod_putBits 15 = .ok (.getfield 65, 3) := by decide +kernel
theorem d_Mod_putBits_18 : decode b_Mod_putBits 18 = .ok (.iload_n 3, 1) := by decide +kernel
theorem d_Mod_putBits_19 : decode b_Mod_putBits 19 = .ok (.iaload, 1) := by decide +kernel
theorem d_Mod_putBits_20 : decode b_Mod_putBits 20 = .ok (.invokevirtual 116, 3) := by decide +kernel
theorem d_Mod_putBits_23 : decode b_Mod_putBits 23 = .ok (.iadd, 1) := by decide +kernel
theorem d_Mod_putBits_24 : decode b_Mod_putBits 24 = .ok (.istore_n 2, 1) := by decide +kernel
theorem d_Mod_putBits_25 : decode b_Mod_putBits 25 = .ok (.iload_n 3, 1) := by decide +kernel
theorem d_Mod_putBits_26 : decode b_Mod_putBits 26 = .ok (.iconst 1, 1) := by decide +kernel
theorem d_Mod_putBits_27 : decode b_Mod_putBits 27 = .ok (.iadd, 1) := by decide +kernel
theorem d_Mod_putBits_28 : decode b_Mod_putBits 28 = .ok (.iload_n 1, 1) := by decide +kernel
theorem d_Mod_putBits_29 : decode b_Mod_putBits 29 = .ok (.imul, 1) := by decide +kernel
theorem d_Mod_putBits_30 : decode b_Mod_putBits 30 = .ok (.bipush 8, 2) := by decide +kernel
theorem d_Mod_putBits_32 : decode b_Mod_putBits 32 = .ok (.irem, 1) := by decide +kernel
theorem d_Mod_putBits_33 : decode b_Mod_putBits 33 = .ok (.ifCond .le 6, 3) := by decide +kernel
theorem d_Mod_putBits_36 : decode b_Mod_putBits 36 = .ok (.goto 10, 3) := by decide +kernel
theorem d_Mod_putBits_39 : decode b_Mod_putBits 39 = .ok (.aload_n 0, 1) := by decide +kernel
theorem d_Mod_putBits_40 : decode b_Mod_putBits 40 = .ok (.iload_n 2, 1) := by decide +kernel
theorem d_Mod_putBits_41 : decode b_Mod_putBits 41 = .ok (.invokevirtual 110, 3) := by decide +kernel
theorem d_Mod_putBits_44 : decode b_Mod_putBits 44 = .ok (.iconst 0, 1) := by decide +kernel
theorem d_Mod_putBits_45 : decode b_Mod_putBits 45 = .ok (.istore_n 2, 1) := by decide +kernel
theorem d_Mod_putBits_46 : decode b_Mod_putBits 46 = .ok (.iinc 3 1, 3) := by decide +kernel
theorem d_Mod_putBits_49 : decode b_Mod_putBits 49 = .ok (.goto (-45), 3) := by decide +kernel
theorem d_Mod_putBits_52 : decode b_Mod_putBits 52 = .ok (.return_, 1) := by decide +kernel
theorem d_Mod_putRuns_0 : decode b_Mod_putRuns 0 = .ok (.aload_n 0, 1) := by decide +kernel
theorem d_Mod_putRuns_1 : decode b_Mod_putRuns 1 = .ok (.getfield 107, 3) := by decide +kernel
theorem d_Mod_putRuns_4 : decode b_Mod_putRuns 4 = .ok (.istore_n 1, 1) := by decide +kernel
theorem d_Mod_putRuns_5 : decode b_Mod_putRuns 5 = .ok (.iconst 0, 1) := by decide +kernel
theorem d_Mod_putRuns_6 : decode b_Mod_putRuns 6 = .ok (.istore_n 2, 1) := by decide +kernel
theorem d_Mod_putRuns_7 : decode b_Mod_putRuns 7 = .ok (.aload_n 0, 1) := by decide +kernel
theorem d_Mod_putRuns_8 : decode b_Mod_putRuns 8 = .ok (.iconst 0, 1) := by decide +kernel
theorem d_Mod_putRuns_9 : decode b_Mod_putRuns 9 = .ok (.invokevirtual 110, 3) := by decide +kernel
theorem d_Mod_putRuns_12 : decode b_Mod_putRuns 12 = .ok (.iconst 0, 1) := by decide +kernel
theorem d_Mod_putRuns_13 : decode b_Mod_putRuns 13 = .ok (.istore_n 3, 1) := by decide +kernel
theorem d_Mod_putRuns_14 : decode b_Mod_putRuns 14 = .ok (.iconst 1, 1) := by decide +kernel
theorem d_Mod_putRuns_15 : decode b_Mod_putRuns 15 = .ok (.istore 4, 2) := by decide +kernel
theorem d_Mod_putRuns_17 : decode b_Mod_putRuns 17 = .ok (.iload 4, 2) := by decide +kernel
theorem d_Mod_putRuns_19 : decode b_Mod_putRuns 19 = .ok (.bipush 64, 2) := by decide +kernel
theorem d_Mod_putRuns_21 : decode b_Mod_putRuns 21 = .ok (.if_icmp .gt 59, 3) := by decide +kernel
theorem d_Mod_putRuns_24 : decode b_Mod_putRuns 24 = .ok (.iload 4, 2) := by decide +kernel
theorem d_Mod_putRuns_26 : decode b_Mod_putRuns 26 = .ok (.bipush 64, 2) := by decide +kernel
theorem d_Mod_putRuns_28 : decode b_Mod_putRuns 28 = .ok (.if_icmp .ge 22, 3) := by decide +kernel
theorem d_Mod_putRuns_31 : decode b_Mod_putRuns 31 = .ok (.aload_n 0, 1) := by decide +kernel
theorem d_Mod_putRuns_32 : decode b_Mod_putRuns 32 = .ok (.getfield 65, 3) := by decide +kernel
theorem d_Mod_putRuns_35 : decode b_Mod_putRuns 35 = .ok (.iload 4, 2) := by decide +kernel
theorem d_Mod_putRuns_37 : decode b_Mod_putRuns 37 = .ok (.iaload, 1) := by decide +kernel
theorem d_Mod_putRuns_38 : decode b_Mod_putRuns 38 = .ok (.aload_n 0, 1) := by decide +kernel
theorem d_Mod_putRuns_39 : decode b_Mod_putRuns 39 = .ok (.getfield 65, 3) := by decide +kernel
theorem d_Mod_putRuns_42 : decode b_Mod_putRuns 42 = .ok (.iload_n 3, 1) := by decide +kernel
theorem d_Mod_putRuns_43 : decode b_Mod_putRuns 43 = .ok (.iaload, 1) := by decide +kernel
theorem d_Mod_putRuns_44 : decode b_Mod_putRuns 44 = .ok (.if_icmp .ne 6, 3) := by decide +kernel
theorem d_Mod_putRuns_47 : decode b_Mod_putRuns 47 = .ok (.goto 27, 3) := by decide +kernel
theorem d_Mod_putRuns_50 : decode b_Mod_putRuns 50 = .ok (.aload_n 0, 1) := by decide +kernel
theorem d_Mod_putRuns_51 : decode b_Mod_putRuns 51 = .ok (.iload 4, 2) := by decide +kernel
theorem d_Mod_putRuns_53 : decode b_Mod_putRuns 53 = .ok (.iload_n 3, 1) := by decide +kernel
theorem d_Mod_putRuns_54 : decode b_Mod_putRuns 54 = .ok (.isub, 1) := by decide +kernel
theorem d_Mod_putRuns_55 : decode b_Mod_putRuns 55 = .ok (.invokevirtual 110, 3) := by decide +kernel
theorem d_Mod_putRuns_58 : decode b_Mod_putRuns 58 = .ok (.aload_n 0, 1) := by decide +kernel
theorem d_Mod_putRuns_59 : decode b_Mod_putRuns 59 = .ok (.aload_n 0, 1) := by decide +kernel
theorem d_Mod_putRuns_60 : decode b_Mod_putRuns 60 = .ok (.getfield 65, 3) := by decide +kernel
theorem d_Mod_putRuns_63 : decode b_Mod_putRuns 63 = .ok (.iload_n 3, 1) := by decide +kernel
theorem d_Mod_putRuns_64 : decode b_Mod_putRuns 64 = .ok (.iaload, 1) := by decide +kernel
theorem d_Mod_putRuns_65 : decode b_Mod_putRuns 65 = .ok (.invokevirtual 123, 3) := by decide +kernel
theorem d_Mod_putRuns_68 : decode b_Mod_putRuns 68 = .ok (.iload 4, 2) := by decide +kernel
theorem d_Mod_putRuns_70 : decode b_Mod_putRuns 70 = .ok (.istore_n 3, 1) := by decide +kernel
theorem d_Mod_putRuns_71 : decode b_Mod_putRuns 71 = .ok (.iinc 2 1, 3) := by decide +kernel
theorem d_Mod_putRuns_74 : decode b_Mod_putRuns 74 = .ok (.iinc 4 1, 3) := by decide +kernel
theorem d_Mod_putRuns_77 : decode b_Mod_putRuns 77 = .ok (.goto (-60), 3) := by decide +kernel
theorem d_Mod_putRuns_80 : decode b_Mod_putRuns 80 = .ok (.aload_n 0, 1) := by decide +kernel
theorem d_Mod_putRuns_81 : decode b_Mod_putRuns 81 = .ok (.getfield 68, 3) := by decide +kernel
theorem d_Mod_putRuns_84 : decode b_Mod_putRuns 84 = .ok (.iload_n 1, 1) := by decide +kernel
theorem d_Mod_putRuns_85 : decode b_Mod_putRuns 85 = .ok (.iload_n 2, 1) := by decide +kernel
theorem d_Mod_putRuns_86 : decode b_Mod_putRuns 86 = .ok (.iastore, 1) := by decide +kernel
theorem d_Mod_putRuns_87 : decode b_Mod_putRuns 87 = .ok (.return_, 1) := by decide +kernel
theorem d_Mod_write_0 : decode b_Mod_write 0 = .ok (.aload_n 0, 1) := by decide +kernel
theorem d_Mod_write_1 : decode b_Mod_write 1 = .ok (.iconst 0, 1) := by decide +kernel
theorem d_Mod_write_2 : decode b_Mod_write 2 = .ok (.putfield 107, 3) := by decide +kernel
theorem d_Mod_write_5 : decode b_Mod_write 5 = .ok (.aload_n 0, 1) := by decide +kernel
theorem d_Mod_write_6 : decode b_Mod_write 6 = .ok (.iload_n 1, 1) := by decide +kernel
theorem d_Mod_write_7 : decode b_Mod_write 7 = .ok (.invokevirtual 110, 3) := by decide +kernel
theorem d_Mod_write_10 : decode b_Mod_write 10 = .ok (.aload_n 0, 1) := by decide +kernel
theorem d_Mod_write_11 : decode b_Mod_write 11 = .ok (.iload_n 3, 1) := by decide +kernel
theorem d_Mod_write_12 : decode b_Mod_write 12 = .ok (.invokevirtual 110, 3) := by decide +kernel
theorem d_Mod_write_15 : decode b_Mod_write 15 = .ok (.iload_n 1, 1) := by decide +kernel
theorem d_Mod_write_16 : decode b_Mod_write 16 = .ok (.iconst 1, 1) := by decide +kernel
theorem d_Mod_write_17 : decode b_Mod_write 17 = .ok (.if_icmp .ne 11, 3) := by decide +kernel
theorem d_Mod_write_20 : decode b_Mod_write 20 = .ok (.aload_n 0, 1) := by decide +kernel
theorem d_Mod_write_21 : decode b_Mod_write 21 = .ok (.iload_n 3, 1) := by decide +kernel
theorem d_Mod_write_22 : decode b_Mod_write 22 = .ok (.invokevirtual 126, 3) := by decide +kernel
theorem d_Mod_write_25 : decode b_Mod_write 25 = .ok (.goto 17, 3) := by decide +kernel
theorem d_Mod_write_28 : decode b_Mod_write 28 = .ok (.iload_n 1, 1) := by decide +kernel
theorem d_Mod_write_29 : decode b_Mod_write 29 = .ok (.iconst 2, 1) := by decide +kernel
theorem d_Mod_write_30 : decode b_Mod_write 30 = .ok (.if_icmp .ne 11, 3) := by decide +kernel
theorem d_Mod_write_33 : decode b_Mod_write 33 = .ok (.aload_n 0, 1) := by decide +kernel
theorem d_Mod_write_34 : decode b_Mod_write 34 = .ok (.iload_n 2, 1) := by decide +kernel
theorem d_Mod_write_35 : decode b_Mod_write 35 = .ok (.invokevirtual 129, 3) := by decide +kernel
theorem d_Mod_write_38 : decode b_Mod_write 38 = .ok (.goto 4, 3) := by decide +kernel
theorem d_Mod_write_41 : decode b_Mod_write 41 = .ok (.iconst 0, 1) := by decide +kernel
theorem d_Mod_write_42 : decode b_Mod_write 42 = .ok (.istore 4, 2) := by decide +kernel
theorem d_Mod_write_44 : decode b_Mod_write 44 = .ok (.iload_n 1, 1) := by decide +kernel
theorem d_Mod_write_45 : decode b_Mod_write 45 = .ok (.ifCond .ne 19, 3) := by decide +kernel
theorem d_Mod_write_48 : decode b_Mod_write 48 = .ok (.aload_n 0, 1) := by decide +kernel
theorem d_Mod_write_49 : decode b_Mod_write 49 = .ok (.getfield 113, 3) := by decide +kernel
theorem d_Mod_write_52 : decode b_Mod_write 52 = .ok (.iconst 1, 1) := by decide +kernel
theorem d_Mod_write_53 : decode b_Mod_write 53 = .ok (.if_icmp .ne 7, 3) := by decide +kernel
theorem d_Mod_write_56 : decode b_Mod_write 56 = .ok (.iconst 1, 1) := by decide +kernel
theorem d_Mod_write_57 : decode b_Mod_write 57 = .ok (.goto 73, 3) := by decide +kernel
theorem d_Mod_write_60 : decode b_Mod_write 60 = .ok (.iconst 0, 1) := by decide +kernel
theorem d_Mod_write_61 : decode b_Mod_write 61 = .ok (.goto 69, 3) := by decide +kernel
theorem d_Mod_write_64 : decode b_Mod_write 64 = .ok (.iload_n 1, 1) := by decide +kernel
theorem d_Mod_write_65 : decode b_Mod_write 65 = .ok (.iconst 3, 1) := by decide +kernel
theorem d_Mod_write_66 : decode b_Mod_write 66 = .ok (.if_icmp .ge 17, 3) := by decide +kernel
theorem d_Mod_write_69 : decode b_Mod_write 69 = .ok (.iload 4, 2) := by decide +kernel
theorem d_Mod_write_71 : decode b_Mod_write 71 = .ok (.iconst (-1), 1) := by decide +kernel
theorem d_Mod_write_72 : decode b_Mod_write 72 = .ok (.if_icmp .eq 7, 3) := by decide +kernel
theorem d_Mod_write_75 : decode b_Mod_write 75 = .ok (.iconst 1, 1) := by decide +kernel
theorem d_Mod_write_76 : decode b_Mod_write 76 = .ok (.goto 54, 3) := by decide +kernel
theorem d_Mod_write_79 : decode b_Mod_write 79 = .ok (.iconst 0, 1) := by decide +kernel
theorem d_Mod_write_80 : decode b_Mod_write 80 = .ok (.goto 50, 3) := by decide +kernel
theorem d_Mod_write_83 : decode b_Mod_write 83 = .ok (.iload_n 1, 1) := by decide +kernel
theorem d_Mod_write_84 : decode b_Mod_write 84 = .ok (.iconst 3, 1) := by decide +kernel
theorem d_Mod_write_85 : decode b_Mod_write 85 = .ok (.if_icmp .ne 19, 3) := by decide +kernel
theorem d_Mod_write_88 : decode b_Mod_write 88 = .ok (.aload_n 0, 1) := by decide +kernel
theorem d_Mod_write_89 : decode b_Mod_write 89 = .ok (.getfield 113, 3) := by decide +kernel
theorem d_Mod_write_92 : decode b_Mod_write 92 = .ok (.iconst 2, 1) := by decide +kernel
theorem d_Mod_write_93 : decode b_Mod_write 93 = .ok (.if_icmp .ne 7, 3) := by decide +kernel
theorem d_Mod_write_96 : decode b_Mod_write 96 = .ok (.iconst 1, 1) := by decide +kernel
theorem d_Mod_write_97 : decode b_Mod_write 97 = .ok (.goto 33, 3) := by decide +kernel
theorem d_Mod_write_100 : decode b_Mod_write 100 = .ok (.iconst 0, 1) := by decide +kernel
theorem d_Mod_write_101 : decode b_Mod_write 101 = .ok (.goto 29, 3) := by decide +kernel
theorem d_Mod_write_104 : decode b_Mod_write 104 = .ok (.iload_n 1, 1) := by decide +kernel
theorem d_Mod_write_105 : decode b_Mod_write 105 = .ok (.iconst 4, 1) := by decide +kernel
theorem d_Mod_write_106 : decode b_Mod_write 106 = .ok (.if_icmp .ne 19, 3) := by decide +kernel
theorem d_Mod_write_109 : decode b_Mod_write 109 = .ok (.aload_n 0, 1) := by decide +kernel
theorem d_Mod_write_110 : decode b_Mod_write 110 = .ok (.getfield 113, 3) := by decide +kernel
theorem d_Mod_write_113 : decode b_Mod_write 113 = .ok (.iconst 3, 1) := by decide +kernel
theorem d_Mod_write_114 : decode b_Mod_write 114 = .ok (.if_icmp .eq 11, 3) := by decide +kernel
theorem d_Mod_write_117 : decode b_Mod_write 117 = .ok (.aload_n 0, 1) := by decide +kernel
theorem d_Mod_write_118 : decode b_Mod_write 118 = .ok (.getfield 113, 3) := by decide +kernel
theorem d_Mod_write_121 : decode b_Mod_write 121 = .ok (.iconst 4, 1) := by decide +kernel
theorem d_Mod_write_122 : decode b_Mod_write 122 = .ok (.if_icmp .ne 7, 3) := by decide +kernel
theorem d_Mod_write_125 : decode b_Mod_write 125 = .ok (.iconst 1, 1) := by decide +kernel
theorem d_Mod_write_126 : decode b_Mod_write 126 = .ok (.goto 4, 3) := by decide +kernel
theorem d_Mod_write_129 : decode b_Mod_write 129 = .ok (.iconst 0, 1) := by decide +kernel
theorem d_Mod_write_130 : decode b_Mod_write 130 = .ok (.istore 5, 2) := by decide +kernel
theorem d_Mod_write_132 : decode b_Mod_write 132 = .ok (.iload 5, 2) := by decide +kernel
theorem d_Mod_write_134 : decode b_Mod_write 134 = .ok (.ifCond .ne 5, 3) := by decide +kernel
theorem d_Mod_write_137 : decode b_Mod_write 137 = .ok (.iconst 0, 1) := by decide +kernel
theorem d_Mod_write_138 : decode b_Mod_write 138 = .ok (.ireturn, 1) := by decide +kernel
theorem d_Mod_write_139 : decode b_Mod_write 139 = .ok (.iload_n 1, 1) := by decide +kernel
theorem d_Mod_write_140 : decode b_Mod_write 140 = .ok (.ifCond .ne 13, 3) := by decide +kernel
theorem d_Mod_write_143 : decode b_Mod_write 143 = .ok (.aload_n 0, 1) := by decide +kernel
theorem d_Mod_write_144 : decode b_Mod_write 144 = .ok (.aload_n 0, 1) := by decide +kernel
theorem d_Mod_write_145 : decode b_Mod_write 145 = .ok (.getfield 65, 3) := by decide +kernel
theorem d_Mod_write_148 : decode b_Mod_write 148 = .ok (.iconst 0, 1) := by decide +kernel
theorem d_Mod_write_149 : decode b_Mod_write 149 = .ok (.iaload, 1) := by decide +kernel
theorem d_Mod_write_150 : decode b_Mod_write 150 = .ok (.invokevirtual 123, 3) := by decide +kernel
theorem d_Mod_write_153 : decode b_Mod_write 153 = .ok (.iload_n 1, 1) := by decide +kernel
theorem d_Mod_write_154 : decode b_Mod_write 154 = .ok (.iconst 1, 1) := by decide +kernel
theorem d_Mod_write_155 : decode b_Mod_write 155 = .ok (.if_icmp .eq 8, 3) := by decide +kernel
theorem d_Mod_write_158 : decode b_Mod_write 158 = .ok (.iload_n 1, 1) := by decide +kernel
theorem d_Mod_write_159 : decode b_Mod_write 159 = .ok (.iconst 2, 1) := by decide +kernel
theorem d_Mod_write_160 : decode b_Mod_write 160 = .ok (.if_icmp .ne 9, 3) := by decide +kernel
theorem d_Mod_write_163 : decode b_Mod_write 163 = .ok (.aload_n 0, 1) := by decide +kernel
theorem d_Mod_write_164 : decode b_Mod_write 164 = .ok (.iload 4, 2) := by decide +kernel
theorem d_Mod_write_166 : decode b_Mod_write 166 = .ok (.invokevirtual 110, 3) := by decide +kernel
theorem d_Mod_write_169 : decode b_Mod_write 169 = .ok (.iload_n 1, 1) := by decide +kernel
theorem d_Mod_write_170 : decode b_Mod_write 170 = .ok (.iconst 4, 1) := by decide +kernel
theorem d_Mod_write_171 : decode b_Mod_write 171 = .ok (.if_icmp .ne 11, 3) := by decide +kernel
theorem d_Mod_write_174 : decode b_Mod_write 174 = .ok (.aload_n 0, 1) := by decide +kernel
theorem d_Mod_write_175 : decode b_Mod_write 175 = .ok (.aload_n 0, 1) := by decide +kernel
theorem d_Mod_write_176 : decode b_Mod_write 176 = .ok (.getfield 113, 3) := by decide +kernel
theorem d_Mod_write_179 : decode b_Mod_write 179 = .ok (.invokevirtual 110, 3) := by decide +kernel
theorem d_Mod_write_182 : decode b_Mod_write 182 = .ok (.iload_n 1, 1) := by decide +kernel
theorem d_Mod_write_183 : decode b_Mod_write 183 = .ok (.iconst 3, 1) := by decide +kernel
theorem d_Mod_write_184 : decode b_Mod_write 184 = .ok (.if_icmp .eq 8, 3) := by decide +kernel
theorem d_Mod_write_187 : decode b_Mod_write 187 = .ok (.iload_n 1, 1) := by decide +kernel
theorem d_Mod_write_188 : decode b_Mod_write 188 = .ok (.iconst 4, 1) := by decide +kernel
theorem d_Mod_write_189 : decode b_Mod_write 189 = .ok (.if_icmp .ne 46, 3) := by decide +kernel
theorem d_Mod_write_192 : decode b_Mod_write 192 = .ok (.iconst 0, 1) := by decide +kernel
theorem d_Mod_write_193 : decode b_Mod_write 193 = .ok (.istore 6, 2) := by decide +kernel
theorem d_Mod_write_195 : decode b_Mod_write 195 = .ok (.iload 6, 2) := by decide +kernel
theorem d_Mod_write_197 : decode b_Mod_write 197 = .ok (.aload_n 0, 1) := by decide +kernel
theorem d_Mod_write_198 : decode b_Mod_write 198 = .ok (.getfield 113, 3) := by decide +kernel
theorem d_Mod_write_201 : decode b_Mod_write 201 = .ok (.if_icmp .ge 20, 3) := by decide +kernel
theorem d_Mod_write_204 : decode b_Mod_write 204 = .ok (.aload_n 0, 1) := by decide +kernel
theorem d_Mod_write_205 : decode b_Mod_write 205 = .ok (.aload_n 0, 1) := by decide +kernel
theorem d_Mod_write_206 : decode b_Mod_write 206 = .ok (.getfield 71, 3) := by decide +kernel
theorem d_Mod_write_209 : decode b_Mod_write 209 = .ok (.iload 6, 2) := by decide +kernel
theorem d_Mod_write_211 : decode b_Mod_write 211 = .ok (.iaload, 1) := by decide +kernel
theorem d_Mod_write_212 : decode b_Mod_write 212 = .ok (.invokevirtual 123, 3) := by decide +kernel
theorem d_Mod_write_215 : decode b_Mod_write 215 = .ok (.iinc 6 1, 3) := by decide +kernel
theorem d_Mod_write_218 : decode b_Mod_write 218 = .ok (.goto (-23), 3) := by decide +kernel
theorem d_Mod_write_221 : decode b_Mod_write 221 = .ok (.aload_n 0, 1) := by decide +kernel
theorem d_Mod_write_222 : decode b_Mod_write 222 = .ok (.iload_n 1, 1) := by decide +kernel
theorem d_Mod_write_223 : decode b_Mod_write 223 = .ok (.iconst 3, 1) := by decide +kernel
theorem d_Mod_write_224 : decode b_Mod_write 224 = .ok (.if_icmp .ne 7, 3) := by decide +kernel
theorem d_Mod_write_227 : decode b_Mod_write 227 = .ok (.iconst 1, 1) := by decide +kernel
theorem d_Mod_write_228 : decode b_Mod_write 228 = .ok (.goto 4, 3) := by decide +kernel
theorem d_Mod_write_231 : decode b_Mod_write 231 = .ok (.iconst 2, 1) := by decide +kernel
theorem d_Mod_write_232 : decode b_Mod_write 232 = .ok (.invokevirtual 132, 3) := by decide +kernel
theorem d_Mod_write_235 : decode b_Mod_write 235 = .ok (.iload_n 1, 1) := by decide +kernel
theorem d_Mod_write_236 : decode b_Mod_write 236 = .ok (.iconst 5, 1) := by decide +kernel
theorem d_Mod_write_237 : decode b_Mod_write 237 = .ok (.if_icmp .ne 7, 3) := by decide +kernel
theorem d_Mod_write_240 : decode b_Mod_write 240 = .ok (.aload_n 0, 1) := by decide +kernel
theorem d_Mod_write_241 : decode b_Mod_write 241 = .ok (.invokevirtual 135, 3) := by decide +kernel
theorem d_Mod_write_244 : decode b_Mod_write 244 = .ok (.iload_n 1, 1) := by decide +kernel
theorem d_Mod_write_245 : decode b_Mod_write 245 = .ok (.bipush 6, 2) := by decide +kernel
theorem d_Mod_write_247 : decode b_Mod_write 247 = .ok (.if_icmp .ne 30, 3) := by decide +kernel
theorem d_Mod_write_250 : decode b_Mod_write 250 = .ok (.iconst 0, 1) := by decide +kernel
theorem d_Mod_write_251 : decode b_Mod_write 251 = .ok (.istore 6, 2) := by decide +kernel
theorem d_Mod_write_253 : decode b_Mod_write 253 = .ok (.iload 6, 2) := by decide +kernel
theorem d_Mod_write_255 : decode b_Mod_write 255 = .ok (.bipush 64, 2) := by decide +kernel
theorem d_Mod_write_257 : decode b_Mod_write 257 = .ok (.if_icmp .ge 20, 3) := by decide +kernel
theorem d_Mod_write_260 : decode b_Mod_write 260 = .ok (.aload_n 0, 1) := by decide +kernel
theorem d_Mod_write_261 : decode b_Mod_write 261 = .ok (.aload_n 0, 1) := by decide +kernel
theorem d_Mod_write_262 : decode b_Mod_write 262 = .ok (.getfield 65, 3) := by decide +kernel
theorem d_Mod_write_265 : decode b_Mod_write 265 = .ok (.iload 6, 2) := by decide +kernel
theorem d_Mod_write_267 : decode b_Mod_write 267 = .ok (.iaload, 1) := by decide +kernel
theorem d_Mod_write_268 : decode b_Mod_write 268 = .ok (.invokevirtual 123, 3) := by decide +kernel
theorem d_Mod_write_271 : decode b_Mod_write 271 = .ok (.iinc 6 1, 3) := by decide +kernel
theorem d_Mod_write_274 : decode b_Mod_write 274 = .ok (.goto (-21), 3) := by decide +kernel
theorem d_Mod_write_277 : decode b_Mod_write 277 = .ok (.iconst 1, 1) := by decide +kernel
theorem d_Mod_write_278 : decode b_Mod_write 278 = .ok (.ireturn, 1) := by decide +kernel
theorem d_Mod_keep_0 : decode b_Mod_keep 0 = .ok (.iconst 0, 1) := by decide +kernel
theorem d_Mod_keep_1 : decode b_Mod_keep 1 = .ok (.istore_n 2, 1) := by decide +kernel
theorem d_Mod_keep_2 : decode b_Mod_keep 2 = .ok (.iload_n 2, 1) := by decide +kernel
theorem d_Mod_keep_3 : decode b_Mod_keep 3 = .ok (.bipush 64, 2) := by decide +kernel
theorem d_Mod_keep_5 : decode b_Mod_keep 5 = .ok (.if_icmp .ge 37, 3) := by decide +kernel
theorem d_Mod_keep_8 : decode b_Mod_keep 8 = .ok (.aload_n 0, 1) := by decide +kernel
theorem d_Mod_keep_9 : decode b_Mod_keep 9 = .ok (.getfield 13, 3) := by decide +kernel
theorem d_Mod_keep_12 : decode b_Mod_keep 12 = .ok (.sipush 1024, 3) := by decide +kernel
theorem d_Mod_keep_15 : decode b_Mod_keep 15 = .ok (.iload_n 1, 1) := by decide +kernel
theorem d_Mod_keep_16 : decode b_Mod_keep 16 = .ok (.imul, 1) := by decide +kernel
theorem d_Mod_keep_17 : decode b_Mod_keep 17 = .ok (.bipush 64, 2) := by decide +kernel
theorem d_Mod_keep_19 : decode b_Mod_keep 19 = .ok (.aload_n 0, 1) := by decide +kernel
theorem d_Mod_keep_20 : decode b_Mod_keep 20 = .ok (.getfield 16, 3) := by decide +kernel
theorem d_Mod_keep_23 : decode b_Mod_keep 23 = .ok (.iload_n 1, 1) := by decide +kernel
theorem d_Mod_keep_24 : decode b_Mod_keep 24 = .ok (.iaload, 1) := by decide +kernel
theorem d_Mod_keep_25 : decode b_Mod_keep 25 = .ok (.imul, 1) := by decide +kernel
theorem d_Mod_keep_26 : decode b_Mod_keep 26 = .ok (.iadd, 1) := by decide +kernel
theorem d_Mod_keep_27 : decode b_Mod_keep 27 = .ok (.iload_n 2, 1) := by decide +kernel
theorem d_Mod_keep_28 : decode b_Mod_keep 28 = .ok (.iadd, 1) := by decide +kernel
theorem d_Mod_keep_29 : decode b_Mod_keep 29 = .ok (.aload_n 0, 1) := by decide +kernel
theorem d_Mod_keep_30 : decode b_Mod_keep 30 = .ok (.getfield 65, 3) := by decide +kernel
theorem d_Mod_keep_33 : decode b_Mod_keep 33 = .ok (.iload_n 2, 1) := by decide +kernel
theorem d_Mod_keep_34 : decode b_Mod_keep 34 = .ok (.iaload, 1) := by decide +kernel
theorem d_Mod_keep_35 : decode b_Mod_keep 35 = .ok (.iastore, 1) := by decide +kernel
theorem d_Mod_keep_36 : decode b_Mod_keep 36 = .ok (.iinc 2 1, 3) := by decide +kernel
theorem d_Mod_keep_39 : decode b_Mod_keep 39 = .ok (.goto (-37), 3) := by decide +kernel
theorem d_Mod_keep_42 : decode b_Mod_keep 42 = .ok (.aload_n 0, 1) := by decide +kernel
theorem d_Mod_keep_43 : decode b_Mod_keep 43 = .ok (.getfield 19, 3) := by decide +kernel
theorem d_Mod_keep_46 : decode b_Mod_keep 46 = .ok (.bipush 16, 2) := by decide +kernel
theorem d_Mod_keep_48 : decode b_Mod_keep 48 = .ok (.iload_n 1, 1) := by decide +kernel
theorem d_Mod_keep_49 : decode b_Mod_keep 49 = .ok (.imul, 1) := by decide +kernel
theorem d_Mod_keep_50 : decode b_Mod_keep 50 = .ok (.aload_n 0, 1) := by decide +kernel
theorem d_Mod_keep_51 : decode b_Mod_keep 51 = .ok (.getfield 16, 3) := by decide +kernel
theorem d_Mod_keep_54 : decode b_Mod_keep 54 = .ok (.iload_n 1, 1) := by decide +kernel
theorem d_Mod_keep_55 : decode b_Mod_keep 55 = .ok (.iaload, 1) := by decide +kernel
theorem d_Mod_keep_56 : decode b_Mod_keep 56 = .ok (.iadd, 1) := by decide +kernel
theorem d_Mod_keep_57 : decode b_Mod_keep 57 = .ok (.iconst 1, 1) := by decide +kernel
theorem d_Mod_keep_58 : decode b_Mod_keep 58 = .ok (.bastore, 1) := by decide +kernel
theorem d_Mod_keep_59 : decode b_Mod_keep 59 = .ok (.aload_n 0, 1) := by decide +kernel
theorem d_Mod_keep_60 : decode b_Mod_keep 60 = .ok (.getfield 16, 3) := by decide +kernel
theorem d_Mod_keep_63 : decode b_Mod_keep 63 = .ok (.iload_n 1, 1) := by decide +kernel
theorem d_Mod_keep_64 : decode b_Mod_keep 64 = .ok (.aload_n 0, 1) := by decide +kernel
theorem d_Mod_keep_65 : decode b_Mod_keep 65 = .ok (.getfield 16, 3) := by decide +kernel
theorem d_Mod_keep_68 : decode b_Mod_keep 68 = .ok (.iload_n 1, 1) := by decide +kernel
theorem d_Mod_keep_69 : decode b_Mod_keep 69 = .ok (.iaload, 1) := by decide +kernel
theorem d_Mod_keep_70 : decode b_Mod_keep 70 = .ok (.iconst 1, 1) := by decide +kernel
theorem d_Mod_keep_71 : decode b_Mod_keep 71 = .ok (.iadd, 1) := by decide +kernel
theorem d_Mod_keep_72 : decode b_Mod_keep 72 = .ok (.bipush 16, 2) := by decide +kernel
theorem d_Mod_keep_74 : decode b_Mod_keep 74 = .ok (.irem, 1) := by decide +kernel
theorem d_Mod_keep_75 : decode b_Mod_keep 75 = .ok (.iastore, 1) := by decide +kernel
theorem d_Mod_keep_76 : decode b_Mod_keep 76 = .ok (.return_, 1) := by decide +kernel
theorem d_Mod_send_0 : decode b_Mod_send 0 = .ok (.aload_n 0, 1) := by decide +kernel
theorem d_Mod_send_1 : decode b_Mod_send 1 = .ok (.getfield 41, 3) := by decide +kernel
theorem d_Mod_send_4 : decode b_Mod_send 4 = .ok (.sipush 6247, 3) := by decide +kernel
theorem d_Mod_send_7 : decode b_Mod_send 7 = .ok (.iload_n 1, 1) := by decide +kernel
theorem d_Mod_send_8 : decode b_Mod_send 8 = .ok (.imul, 1) := by decide +kernel
theorem d_Mod_send_9 : decode b_Mod_send 9 = .ok (.aload_n 0, 1) := by decide +kernel
theorem d_Mod_send_10 : decode b_Mod_send 10 = .ok (.getfield 44, 3) := by decide +kernel
theorem d_Mod_send_13 : decode b_Mod_send 13 = .ok (.iload_n 1, 1) := by decide +kernel
theorem d_Mod_send_14 : decode b_Mod_send 14 = .ok (.iaload, 1) := by decide +kernel
theorem d_Mod_send_15 : decode b_Mod_send 15 = .ok (.iadd, 1) := by decide +kernel
theorem d_Mod_send_16 : decode b_Mod_send 16 = .ok (.iload_n 2, 1) := by decide +kernel
theorem d_Mod_send_17 : decode b_Mod_send 17 = .ok (.sipush 255, 3) := by decide +kernel
theorem d_Mod_send_20 : decode b_Mod_send 20 = .ok (.iand, 1) := by decide +kernel
theorem d_Mod_send_21 : decode b_Mod_send 21 = .ok (.iastore, 1) := by decide +kernel
theorem d_Mod_send_22 : decode b_Mod_send 22 = .ok (.aload_n 0, 1) := by decide +kernel
theorem d_Mod_send_23 : decode b_Mod_send 23 = .ok (.getfield 44, 3) := by decide +kernel
theorem d_Mod_send_26 : decode b_Mod_send 26 = .ok (.iload_n 1, 1) := by decide +kernel
theorem d_Mod_send_27 : decode b_Mod_send 27 = .ok (.dup2, 1) := by decide +kernel
theorem d_Mod_send_28 : decode b_Mod_send 28 = .ok (.iaload, 1) := by decide +kernel
theorem d_Mod_send_29 : decode b_Mod_send 29 = .ok (.iconst 1, 1) := by decide +kernel
theorem d_Mod_send_30 : decode b_Mod_send 30 = .ok (.iadd, 1) := by decide +kernel
theorem d_Mod_send_31 : decode b_Mod_send 31 = .ok (.iastore, 1) := by decide +kernel
theorem d_Mod_send_32 : decode b_Mod_send 32 = .ok (.return_, 1) := by decide +kernel
theorem d_Mod_compose_0 : decode b_Mod_compose 0 = .ok (.aload_n 0, 1) := by decide +kernel
theorem d_Mod_compose_1 : decode b_Mod_compose 1 = .ok (.bipush 9, 2) := by decide +kernel
theorem d_Mod_compose_3 : decode b_Mod_compose 3 = .ok (.iconst 5, 1) := by decide +kernel
theorem d_Mod_compose_4 : decode b_Mod_compose 4 = .ok (.iload_n 1, 1) := by decide +kernel
theorem d_Mod_compose_5 : decode b_Mod_compose 5 = .ok (.iadd, 1) := by decide +kernel
theorem d_Mod_compose_6 : decode b_Mod_compose 6 = .ok (.invokevirtual 91, 3) := by decide +kernel
theorem d_Mod_compose_9 : decode b_Mod_compose 9 = .ok (.aload_n 0, 1) := by decide +kernel
theorem d_Mod_compose_10 : decode b_Mod_compose 10 = .ok (.getfield 47, 3) := by decide +kernel
theorem d_Mod_compose_13 : decode b_Mod_compose 13 = .ok (.iload_n 1, 1) := by decide +kernel
theorem d_Mod_compose_14 : decode b_Mod_compose 14 = .ok (.iconst 0, 1) := by decide +kernel
theorem d_Mod_compose_15 : decode b_Mod_compose 15 = .ok (.iastore, 1) := by decide +kernel
theorem d_Mod_compose_16 : decode b_Mod_compose 16 = .ok (.aload_n 0, 1) := by decide +kernel
theorem d_Mod_compose_17 : decode b_Mod_compose 17 = .ok (.getfield 44, 3) := by decide +kernel
theorem d_Mod_compose_20 : decode b_Mod_compose 20 = .ok (.iload_n 1, 1) := by decide +kernel
theorem d_Mod_compose_21 : decode b_Mod_compose 21 = .ok (.iconst 3, 1) := by decide +kernel
theorem d_Mod_compose_22 : decode b_Mod_compose 22 = .ok (.iastore, 1) := by decide +kernel
theorem d_Mod_compose_23 : decode b_Mod_compose 23 = .ok (.aload_n 0, 1) := by decide +kernel
theorem d_Mod_compose_24 : decode b_Mod_compose 24 = .ok (.iload_n 1, 1) := by decide +kernel
theorem d_Mod_compose_25 : decode b_Mod_compose 25 = .ok (.aload_n 0, 1) := by decide +kernel
theorem d_Mod_compose_26 : decode b_Mod_compose 26 = .ok (.getfield 96, 3) := by decide +kernel
theorem d_Mod_compose_29 : decode b_Mod_compose 29 = .ok (.bipush 8, 2) := by decide +kernel
theorem d_Mod_compose_31 : decode b_Mod_compose 31 = .ok (.ishr, 1) := by decide +kernel
theorem d_Mod_compose_32 : decode b_Mod_compose 32 = .ok (.invokevirtual 138, 3) := by decide +kernel
theorem d_Mod_compose_35 : decode b_Mod_compose 35 = .ok (.aload_n 0, 1) := by decide +kernel
theorem d_Mod_compose_36 : decode b_Mod_compose 36 = .ok (.iload_n 1, 1) := by decide +kernel
theorem d_Mod_compose_37 : decode b_Mod_compose 37 = .ok (.aload_n 0, 1) := by decide +kernel
theorem d_Mod_compose_38 : decode b_Mod_compose 38 = .ok (.getfield 96, 3) := by decide +kernel
theorem d_Mod_compose_41 : decode b_Mod_compose 41 = .ok (.invokevirtual 138, 3) := by decide +kernel
theorem d_Mod_compose_44 : decode b_Mod_compose 44 = .ok (.iconst 0, 1) := by decide +kernel
theorem d_Mod_compose_45 : decode b_Mod_compose 45 = .ok (.istore_n 2, 1) := by decide +kernel
theorem d_Mod_compose_46 : decode b_Mod_compose 46 = .ok (.iload_n 2, 1) := by decide +kernel
theorem d_Mod_compose_47 : decode b_Mod_compose 47 = .ok (.bipush 48, 2) := by decide +kernel
theorem d_Mod_compose_49 : decode b_Mod_compose 49 = .ok (.if_icmp .ge 182, 3) := by decide +kernel
theorem d_Mod_compose_52 : decode b_Mod_compose 52 = .ok (.aload_n 0, 1) := by decide +kernel
theorem d_Mod_compose_53 : decode b_Mod_compose 53 = .ok (.iconst 5, 1) := by decide +kernel
theorem d_Mod_compose_54 : decode b_Mod_compose 54 = .ok (.iload_n 1, 1) := by decide +kernel
theorem d_Mod_compose_55 : decode b_Mod_compose 55 = .ok (.iadd, 1) := by decide +kernel
theorem d_Mod_compose_56 : decode b_Mod_compose 56 = .ok (.iload_n 2, 1) := by decide +kernel
theorem d_Mod_compose_57 : decode b_Mod_compose 57 = .ok (.iconst 1, 1) := by decide +kernel
theorem d_Mod_compose_58 : decode b_Mod_compose 58 = .ok (.iload_n 2, 1) := by decide +kernel
theorem d_Mod_compose_59 : decode b_Mod_compose 59 = .ok (.invokevirtual 120, 3) := by decide +kernel
theorem d_Mod_compose_62 : decode b_Mod_compose 62 = .ok (.ifCond .eq 6, 3) := by decide +kernel
theorem d_Mod_compose_65 : decode b_Mod_compose 65 = .ok (.goto 160, 3) := by decide +kernel
theorem d_Mod_compose_68 : decode b_Mod_compose 68 = .ok (.iconst 0, 1) := by decide +kernel
theorem d_Mod_compose_69 : decode b_Mod_compose 69 = .ok (.istore_n 3, 1) := by decide +kernel
theorem d_Mod_compose_70 : decode b_Mod_compose 70 = .ok (.iload_n 3, 1) := by decide +kernel
theorem d_Mod_compose_71 : decode b_Mod_compose 71 = .ok (.bipush 64, 2) := by decide +kernel
theorem d_Mod_compose_73 : decode b_Mod_compose 73 = .ok (.if_icmp .ge 26, 3) := by decide +kernel
theorem d_Mod_compose_76 : decode b_Mod_compose 76 = .ok (.aload_n 0, 1) := by decide +kernel
theorem d_Mod_compose_77 : decode b_Mod_compose 77 = .ok (.getfield 65, 3) := by decide +kernel
theorem d_Mod_compose_80 : decode b_Mod_compose 80 = .ok (.iload_n 3, 1) := by decide +kernel
theorem d_Mod_compose_81 : decode b_Mod_compose 81 = .ok (.aload_n 0, 1) := by decide +kernel
theorem d_Mod_compose_82 : decode b_Mod_compose 82 = .ok (.getfield 7, 3) := by decide +kernel
theorem d_Mod_compose_85 : decode b_Mod_compose 85 = .ok (.iconst 1, 1) := by decide +kernel
theorem d_Mod_compose_86 : decode b_Mod_compose 86 = .ok (.iload_n 2, 1) := by decide +kernel
theorem d_Mod_compose_87 : decode b_Mod_compose 87 = .ok (.iload_n 3, 1) := by decide +kernel
theorem d_Mod_compose_88 : decode b_Mod_compose 88 = .ok (.invokestatic 78, 3) := by decide +kernel
theorem d_Mod_compose_91 : decode b_Mod_compose 91 = .ok (.iaload, 1) := by decide +kernel
theorem d_Mod_compose_92 : decode b_Mod_compose 92 = .ok (.iastore, 1) := by decide +kernel
theorem d_Mod_compose_93 : decode b_Mod_compose 93 = .ok (.iinc 3 1, 3) := by decide +kernel
theorem d_Mod_compose_96 : decode b_Mod_compose 96 = .ok (.goto (-26), 3) := by decide +kernel
theorem d_Mod_compose_99 : decode b_Mod_compose 99 = .ok (.aload_n 0, 1) := by decide +kernel
theorem d_Mod_compose_100 : decode b_Mod_compose 100 = .ok (.invokevirtual 141, 3) := by decide +kernel
theorem d_Mod_compose_103 : decode b_Mod_compose 103 = .ok (.bipush 6, 2) := by decide +kernel
theorem d_Mod_compose_105 : decode b_Mod_compose 105 = .ok (.istore_n 3, 1) := by decide +kernel
theorem d_Mod_compose_106 : decode b_Mod_compose 106 = .ok (.sipush 1000, 3) := by decide +kernel
theorem d_Mod_compose_109 : decode b_Mod_compose 109 = .ok (.istore 4, 2) := by decide +kernel
theorem d_Mod_compose_111 : decode b_Mod_compose 111 = .ok (.iconst 0, 1) := by decide +kernel
theorem d_Mod_compose_112 : decode b_Mod_compose 112 = .ok (.istore 5, 2) := by decide +kernel
theorem d_Mod_compose_114 : decode b_Mod_compose 114 = .ok (.iload 5, 2) := by decide +kernel
theorem d_Mod_compose_116 : decode b_Mod_compose 116 = .ok (.bipush 7, 2) := by decide +kernel
theorem d_Mod_compose_118 : decode b_Mod_compose 118 = .ok (.if_icmp .ge 41, 3) := by decide +kernel
theorem d_Mod_compose_121 : decode b_Mod_compose 121 = .ok (.aload_n 0, 1) := by decide +kernel
theorem d_Mod_compose_122 : decode b_Mod_compose 122 = .ok (.iload 5, 2) := by decide +kernel
theorem d_Mod_compose_124 : decode b_Mod_compose 124 = .ok (.iload_n 1, 1) := by decide +kernel
theorem d_Mod_compose_125 : decode b_Mod_compose 125 = .ok (.iload_n 2, 1) := by decide +kernel
theorem d_Mod_compose_126 : decode b_Mod_compose 126 = .ok (.invokevirtual 144, 3) := by decide +kernel
theorem d_Mod_compose_129 : decode b_Mod_compose 129 = .ok (.ifCond .eq 24, 3) := by decide +kernel
theorem d_Mod_compose_132 : decode b_Mod_compose 132 = .ok (.aload_n 0, 1) := by decide +kernel
theorem d_Mod_compose_133 : decode b_Mod_compose 133 = .ok (.getfield 107, 3) := by decide +kernel
theorem d_Mod_compose_136 : decode b_Mod_compose 136 = .ok (.iload 4, 2) := by decide +kernel
theorem d_Mod_compose_138 : decode b_Mod_compose 138 = .ok (.if_icmp .lt 6, 3) := by decide +kernel
theorem d_Mod_compose_141 : decode b_Mod_compose 141 = .ok (.goto 12, 3) := by decide +kernel
theorem d_Mod_compose_144 : decode b_Mod_compose 144 = .ok (.iload 5, 2) := by decide +kernel
theorem d_Mod_compose_146 : decode b_Mod_compose 146 = .ok (.istore_n 3, 1) := by decide +kernel
theorem d_Mod_compose_147 : decode b_Mod_compose 147 = .ok (.aload_n 0, 1) := by decide +kernel
theorem d_Mod_compose_148 : decode b_Mod_compose 148 = .ok (.getfield 107, 3) := by decide +kernel
theorem d_Mod_compose_151 : decode b_Mod_compose 151 = .ok (.istore 4, 2) := by decide +kernel
theorem d_Mod_compose_153 : decode b_Mod_compose 153 = .ok (.iinc 5 1, 3) := by decide +kernel
theorem d_Mod_compose_156 : decode b_Mod_compose 156 = .ok (.goto (-42), 3) := by decide +kernel
theorem d_Mod_compose_159 : decode b_Mod_compose 159 = .ok (.aload_n 0, 1) := by decide +kernel
theorem d_Mod_compose_160 : decode b_Mod_compose 160 = .ok (.iload_n 3, 1) := by decide +kernel
theorem d_Mod_compose_161 : decode b_Mod_compose 161 = .ok (.iload_n 1, 1) := by decide +kernel
theorem d_Mod_compose_162 : decode b_Mod_compose 162 = .ok (.iload_n 2, 1) := by decide +kernel
theorem d_Mod_compose_163 : decode b_Mod_compose 163 = .ok (.invokevirtual 144, 3) := by decide +kernel
theorem d_Mod_compose_166 : decode b_Mod_compose 166 = .ok (.pop, 1) := by decide +kernel
theorem d_Mod_compose_167 : decode b_Mod_compose 167 = .ok (.iconst 0, 1) := by decide +kernel
theorem d_Mod_compose_168 : decode b_Mod_compose 168 = .ok (.istore 5, 2) := by decide +kernel
theorem d_Mod_compose_170 : decode b_Mod_compose 170 = .ok (.iload 5, 2) := by decide +kernel
theorem d_Mod_compose_172 : decode b_Mod_compose 172 = .ok (.aload_n 0, 1) := by decide +kernel
theorem d_Mod_compose_173 : decode b_Mod_compose 173 = .ok (.getfield 107, 3) := by decide +kernel
theorem d_Mod_compose_176 : decode b_Mod_compose 176 = .ok (.if_icmp .ge 21, 3) := by decide +kernel
theorem d_Mod_compose_179 : decode b_Mod_compose 179 = .ok (.aload_n 0, 1) := by decide +kernel
theorem d_Mod_compose_180 : decode b_Mod_compose 180 = .ok (.iload_n 1, 1) := by decide +kernel
theorem d_Mod_compose_181 : decode b_Mod_compose 181 = .ok (.aload_n 0, 1) := by decide +kernel
theorem d_Mod_compose_182 : decode b_Mod_compose 182 = .ok (.getfield 68, 3) := by decide +kernel
theorem d_Mod_compose_185 : decode b_Mod_compose 185 = .ok (.iload 5, 2) := by decide +kernel
theorem d_Mod_compose_187 : decode b_Mod_compose 187 = .ok (.iaload, 1) := by decide +kernel
theorem d_Mod_compose_188 : decode b_Mod_compose 188 = .ok (.invokevirtual 138, 3) := by decide +kernel
theorem d_Mod_compose_191 : decode b_Mod_compose 191 = .ok (.iinc 5 1, 3) := by decide +kernel
theorem d_Mod_compose_194 : decode b_Mod_compose 194 = .ok (.goto (-24), 3) := by decide +kernel
theorem d_Mod_compose_197 : decode b_Mod_compose 197 = .ok (.aload_n 0, 1) := by decide +kernel
theorem d_Mod_compose_198 : decode b_Mod_compose 198 = .ok (.getfield 38, 3) := by decide +kernel
theorem d_Mod_compose_201 : decode b_Mod_compose 201 = .ok (.bipush 7, 2) := by decide +kernel
theorem d_Mod_compose_203 : decode b_Mod_compose 203 = .ok (.iload_n 1, 1) := by decide +kernel
theorem d_Mod_compose_204 : decode b_Mod_compose 204 = .ok (.imul, 1) := by decide +kernel
theorem d_Mod_compose_205 : decode b_Mod_compose 205 = .ok (.iload_n 3, 1) := by decide +kernel
theorem d_Mod_compose_206 : decode b_Mod_compose 206 = .ok (.iadd, 1) := by decide +kernel
theorem d_Mod_compose_207 : decode b_Mod_compose 207 = .ok (.dup2, 1) := by decide +kernel
theorem d_Mod_compose_208 : decode b_Mod_compose 208 = .ok (.iaload, 1) := by decide +kernel
theorem d_Mod_compose_209 : decode b_Mod_compose 209 = .ok (.aload_n 0, 1) := by decide +kernel
theorem d_Mod_compose_210 : decode b_Mod_compose 210 = .ok (.getfield 107, 3) := by decide +kernel
theorem d_Mod_compose_213 : decode b_Mod_compose 213 = .ok (.iadd, 1) := by decide +kernel
theorem d_Mod_compose_214 : decode b_Mod_compose 214 = .ok (.iastore, 1) := by decide +kernel
theorem d_Mod_compose_215 : decode b_Mod_compose 215 = .ok (.iload_n 3, 1) := by decide +kernel
theorem d_Mod_compose_216 : decode b_Mod_compose 216 = .ok (.iconst 2, 1) := by decide +kernel
theorem d_Mod_compose_217 : decode b_Mod_compose 217 = .ok (.if_icmp .le 8, 3) := by decide +kernel
theorem d_Mod_compose_220 : decode b_Mod_compose 220 = .ok (.aload_n 0, 1) := by decide +kernel
theorem d_Mod_compose_221 : decode b_Mod_compose 221 = .ok (.iload_n 1, 1) := by decide +kernel
theorem d_Mod_compose_222 : decode b_Mod_compose 222 = .ok (.invokevirtual 148, 3) := by decide +kernel
theorem d_Mod_compose_225 : decode b_Mod_compose 225 = .ok (.iinc 2 1, 3) := by decide +kernel
theorem d_Mod_compose_228 : decode b_Mod_compose 228 = .ok (.goto (-182), 3) := by decide +kernel
theorem d_Mod_compose_231 : decode b_Mod_compose 231 = .ok (.iconst 0, 1) := by decide +kernel
theorem d_Mod_compose_232 : decode b_Mod_compose 232 = .ok (.istore_n 2, 1) := by decide +kernel
theorem d_Mod_compose_233 : decode b_Mod_compose 233 = .ok (.iconst 3, 1) := by decide +kernel
theorem d_Mod_compose_234 : decode b_Mod_compose 234 = .ok (.istore_n 3, 1) := by decide +kernel
theorem d_Mod_compose_235 : decode b_Mod_compose 235 = .ok (.iload_n 3, 1) := by decide +kernel
theorem d_Mod_compose_236 : decode b_Mod_compose 236 = .ok (.aload_n 0, 1) := by decide +kernel
theorem d_Mod_compose_237 : decode b_Mod_compose 237 = .ok (.getfield 44, 3) := by decide +kernel
theorem d_Mod_compose_240 : decode b_Mod_compose 240 = .ok (.iload_n 1, 1) := by decide +kernel
theorem d_Mod_compose_241 : decode b_Mod_compose 241 = .ok (.iaload, 1) := by decide +kernel
theorem d_Mod_compose_242 : decode b_Mod_compose 242 = .ok (.if_icmp .ge 24, 3) := by decide +kernel
theorem d_Mod_compose_245 : decode b_Mod_compose 245 = .ok (.iload_n 2, 1) := by decide +kernel
theorem d_Mod_compose_246 : decode b_Mod_compose 246 = .ok (.aload_n 0, 1) := by decide +kernel
theorem d_Mod_compose_247 : decode b_Mod_compose 247 = .ok (.getfield 41, 3) := by decide +kernel
theorem d_Mod_compose_250 : decode b_Mod_compose 250 = .ok (.sipush 6247, 3) := by decide +kernel
theorem d_Mod_compose_253 : decode b_Mod_compose 253 = .ok (.iload_n 1, 1) := by decide +kernel
theorem d_Mod_compose_254 : decode b_Mod_compose 254 = .ok (.imul, 1) := by decide +kernel
theorem d_Mod_compose_255 : decode b_Mod_compose 255 = .ok (.iload_n 3, 1) := by decide +kernel
theorem d_Mod_compose_256 : decode b_Mod_compose 256 = .ok (.iadd, 1) := by decide +kernel
theorem d_Mod_compose_257 : decode b_Mod_compose 257 = .ok (.iaload, 1) := by decide +kernel
theorem d_Mod_compose_258 : decode b_Mod_compose 258 = .ok (.iadd, 1) := by decide +kernel
theorem d_Mod_compose_259 : decode b_Mod_compose 259 = .ok (.istore_n 2, 1) := by decide +kernel
theorem d_Mod_compose_260 : decode b_Mod_compose 260 = .ok (.iinc 3 1, 3) := by decide +kernel
theorem d_Mod_compose_263 : decode b_Mod_compose 263 = .ok (.goto (-28), 3) := by decide +kernel
theorem d_Mod_compose_266 : decode b_Mod_compose 266 = .ok (.aload_n 0, 1) := by decide +kernel
theorem d_Mod_compose_267 : decode b_Mod_compose 267 = .ok (.iload_n 1, 1) := by decide +kernel
theorem d_Mod_compose_268 : decode b_Mod_compose 268 = .ok (.iload_n 2, 1) := by decide +kernel
theorem d_Mod_compose_269 : decode b_Mod_compose 269 = .ok (.bipush 8, 2) := by decide +kernel
theorem d_Mod_compose_271 : decode b_Mod_compose 271 = .ok (.ishr, 1) := by decide +kernel
theorem d_Mod_compose_272 : decode b_Mod_compose 272 = .ok (.invokevirtual 138, 3) := by decide +kernel
theorem d_Mod_compose_275 : decode b_Mod_compose 275 = .ok (.aload_n 0, 1) := by decide +kernel
theorem d_Mod_compose_276 : decode b_Mod_compose 276 = .ok (.iload_n 1, 1) := by decide +kernel
theorem d_Mod_compose_277 : decode b_Mod_compose 277 = .ok (.iload_n 2, 1) := by decide +kernel
theorem d_Mod_compose_278 : decode b_Mod_compose 278 = .ok (.invokevirtual 138, 3) := by decide +kernel
theorem d_Mod_compose_281 : decode b_Mod_compose 281 = .ok (.aload_n 0, 1) := by decide +kernel
theorem d_Mod_compose_282 : decode b_Mod_compose 282 = .ok (.getfield 44, 3) := by decide +kernel
theorem d_Mod_compose_285 : decode b_Mod_compose 285 = .ok (.iload_n 1, 1) := by decide +kernel
theorem d_Mod_compose_286 : decode b_Mod_compose 286 = .ok (.iaload, 1) := by decide +kernel
theorem d_Mod_compose_287 : decode b_Mod_compose 287 = .ok (.iconst 3, 1) := by decide +kernel
theorem d_Mod_compose_288 : decode b_Mod_compose 288 = .ok (.isub, 1) := by decide +kernel
theorem d_Mod_compose_289 : decode b_Mod_compose 289 = .ok (.istore_n 3, 1) := by decide +kernel
theorem d_Mod_compose_290 : decode b_Mod_compose 290 = .ok (.aload_n 0, 1) := by decide +kernel
theorem d_Mod_compose_291 : decode b_Mod_compose 291 = .ok (.getfield 41, 3) := by decide +kernel
theorem d_Mod_compose_294 : decode b_Mod_compose 294 = .ok (.sipush 6247, 3) := by decide +kernel
theorem d_Mod_compose_297 : decode b_Mod_compose 297 = .ok (.iload_n 1, 1) := by decide +kernel
theorem d_Mod_compose_298 : decode b_Mod_compose 298 = .ok (.imul, 1) := by decide +kernel
theorem d_Mod_compose_299 : decode b_Mod_compose 299 = .ok (.iload_n 3, 1) := by decide +kernel
theorem d_Mod_compose_300 : decode b_Mod_compose 300 = .ok (.ldc 82, 2) := by decide +kernel
theorem d_Mod_compose_302 : decode b_Mod_compose 302 = .ok (.idiv, 1) := by decide +kernel
theorem d_Mod_compose_303 : decode b_Mod_compose 303 = .ok (.iastore, 1) := by decide +kernel
theorem d_Mod_compose_304 : decode b_Mod_compose 304 = .ok (.aload_n 0, 1) := by decide +kernel
theorem d_Mod_compose_305 : decode b_Mod_compose 305 = .ok (.getfield 41, 3) := by decide +kernel
theorem d_Mod_compose_308 : decode b_Mod_compose 308 = .ok (.sipush 6247, 3) := by decide +kernel
theorem d_Mod_compose_311 : decode b_Mod_compose 311 = .ok (.iload_n 1, 1) := by decide +kernel
theorem d_Mod_compose_312 : decode b_Mod_compose 312 = .ok (.imul, 1) := by decide +kernel
theorem d_Mod_compose_313 : decode b_Mod_compose 313 = .ok (.iconst 1, 1) := by decide +kernel
theorem d_Mod_compose_314 : decode b_Mod_compose 314 = .ok (.iadd, 1) := by decide +kernel
theorem d_Mod_compose_315 : decode b_Mod_compose 315 = .ok (.iload_n 3, 1) := by decide +kernel
theorem d_Mod_compose_316 : decode b_Mod_compose 316 = .ok (.sipush 256, 3) := by decide +kernel
theorem d_Mod_compose_319 : decode b_Mod_compose 319 = .ok (.idiv, 1) := by decide +kernel
theorem d_Mod_compose_320 : decode b_Mod_compose 320 = .ok (.sipush 256, 3) := by decide +kernel
theorem d_Mod_compose_323 : decode b_Mod_compose 323 = .ok (.irem, 1) := by decide +kernel
theorem d_Mod_compose_324 : decode b_Mod_compose 324 = .ok (.iastore, 1) := by decide +kernel
theorem d_Mod_compose_325 : decode b_Mod_compose 325 = .ok (.aload_n 0, 1) := by decide +kernel
theorem d_Mod_compose_326 : decode b_Mod_compose 326 = .ok (.getfield 41, 3) := by decide +kernel
theorem d_Mod_compose_329 : decode b_Mod_compose 329 = .ok (.sipush 6247, 3) := by decide +kernel
theorem d_Mod_compose_332 : decode b_Mod_compose 332 = .ok (.iload_n 1, 1) := by decide +kernel
theorem d_Mod_compose_333 : decode b_Mod_compose 333 = .ok (.imul, 1) := by decide +kernel
theorem d_Mod_compose_334 : decode b_Mod_compose 334 = .ok (.iconst 2, 1) := by decide +kernel
theorem d_Mod_compose_335 : decode b_Mod_compose 335 = .ok (.iadd, 1) := by decide +kernel
theorem d_Mod_compose_336 : decode b_Mod_compose 336 = .ok (.iload_n 3, 1) := by decide +kernel
theorem d_Mod_compose_337 : decode b_Mod_compose 337 = .ok (.sipush 256, 3) := by decide +kernel
theorem d_Mod_compose_340 : decode b_Mod_compose 340 = .ok (.irem, 1) := by decide +kernel
theorem d_Mod_compose_341 : decode b_Mod_compose 341 = .ok (.iastore, 1) := by decide +kernel
theorem d_Mod_compose_342 : decode b_Mod_compose 342 = .ok (.aload_n 0, 1) := by decide +kernel
theorem d_Mod_compose_343 : decode b_Mod_compose 343 = .ok (.iconst 5, 1) := by decide +kernel
theorem d_Mod_compose_344 : decode b_Mod_compose 344 = .ok (.iload_n 1, 1) := by decide +kernel
theorem d_Mod_compose_345 : decode b_Mod_compose 345 = .ok (.iadd, 1) := by decide +kernel
theorem d_Mod_compose_346 : decode b_Mod_compose 346 = .ok (.iconst 1, 1) := by decide +kernel
theorem d_Mod_compose_347 : decode b_Mod_compose 347 = .ok (.invokevirtual 91, 3) := by decide +kernel
theorem d_Mod_compose_350 : decode b_Mod_compose 350 = .ok (.aload_n 0, 1) := by decide +kernel
theorem d_Mod_compose_351 : decode b_Mod_compose 351 = .ok (.getfield 29, 3) := by decide +kernel
theorem d_Mod_compose_354 : decode b_Mod_compose 354 = .ok (.iload_n 1, 1) := by decide +kernel
theorem d_Mod_compose_355 : decode b_Mod_compose 355 = .ok (.aload_n 0, 1) := by decide +kernel
theorem d_Mod_compose_356 : decode b_Mod_compose 356 = .ok (.getfield 96, 3) := by decide +kernel
theorem d_Mod_compose_359 : decode b_Mod_compose 359 = .ok (.iastore, 1) := by decide +kernel
theorem d_Mod_compose_360 : decode b_Mod_compose 360 = .ok (.return_, 1) := by decide +kernel
theorem d_Mod_get_0 : decode b_Mod_get 0 = .ok (.aload_n 0, 1) := by decide +kernel
theorem d_Mod_get_1 : decode b_Mod_get 1 = .ok (.getfield 151, 3) := by decide +kernel
theorem d_Mod_get_4 : decode b_Mod_get 4 = .ok (.aload_n 0, 1) := by decide +kernel
theorem d_Mod_get_5 : decode b_Mod_get 5 = .ok (.getfield 154, 3) := by decide +kernel
theorem d_Mod_get_8 : decode b_Mod_get 8 = .ok (.if_icmp .ge 21, 3) := by decide +kernel
theorem d_Mod_get_11 : decode b_Mod_get 11 = .ok (.aload_n 0, 1) := by decide +kernel
theorem d_Mod_get_12 : decode b_Mod_get 12 = .ok (.getfield 50, 3) := by decide +kernel
theorem d_Mod_get_15 : decode b_Mod_get 15 = .ok (.sipush 6247, 3) := by decide +kernel
theorem d_Mod_get_18 : decode b_Mod_get 18 = .ok (.iload_n 1, 1) := by decide +kernel
theorem d_Mod_get_19 : decode b_Mod_get 19 = .ok (.imul, 1) := by decide +kernel
theorem d_Mod_get_20 : decode b_Mod_get 20 = .ok (.aload_n 0, 1) := by decide +kernel
theorem d_Mod_get_21 : decode b_Mod_get 21 = .ok (.getfield 151, 3) := by decide +kernel
theorem d_Mod_get_24 : decode b_Mod_get 24 = .ok (.iadd, 1) := by decide +kernel
theorem d_Mod_get_25 : decode b_Mod_get 25 = .ok (.iaload, 1) := by decide +kernel
theorem d_Mod_get_26 : decode b_Mod_get 26 = .ok (.goto 4, 3) := by decide +kernel
theorem d_Mod_get_29 : decode b_Mod_get 29 = .ok (.iconst 0, 1) := by decide +kernel
theorem d_Mod_get_30 : decode b_Mod_get 30 = .ok (.istore_n 2, 1) := by decide +kernel
theorem d_Mod_get_31 : decode b_Mod_get 31 = .ok (.aload_n 0, 1) := by decide +kernel
theorem d_Mod_get_32 : decode b_Mod_get 32 = .ok (.dup, 1) := by decide +kernel
theorem d_Mod_get_33 : decode b_Mod_get 33 = .ok (.getfield 151, 3) := by decide +kernel
theorem d_Mod_get_36 : decode b_Mod_get 36 = .ok (.iconst 1, 1) := by decide +kernel
theorem d_Mod_get_37 : decode b_Mod_get 37 = .ok (.iadd, 1) := by decide +kernel
theorem d_Mod_get_38 : decode b_Mod_get 38 = .ok (.putfield 151, 3) := by decide +kernel
theorem d_Mod_get_41 : decode b_Mod_get 41 = .ok (.iload_n 2, 1) := by decide +kernel
theorem d_Mod_get_42 : decode b_Mod_get 42 = .ok (.ireturn, 1) := by decide +kernel
theorem d_Mod_getTwo_0 : decode b_Mod_getTwo 0 = .ok (.aload_n 0, 1) := by decide +kernel
theorem d_Mod_getTwo_1 : decode b_Mod_getTwo 1 = .ok (.iload_n 1, 1) := by decide +kernel
theorem d_Mod_getTwo_2 : decode b_Mod_getTwo 2 = .ok (.invokevirtual 157, 3) := by decide +kernel
theorem d_Mod_getTwo_5 : decode b_Mod_getTwo 5 = .ok (.istore_n 2, 1) := by decide +kernel
theorem d_Mod_getTwo_6 : decode b_Mod_getTwo 6 = .ok (.sipush 256, 3) := by decide +kernel
theorem d_Mod_getTwo_9 : decode b_Mod_getTwo 9 = .ok (.iload_n 2, 1) := by decide +kernel
theorem d_Mod_getTwo_10 : decode b_Mod_getTwo 10 = .ok (.imul, 1) := by decide +kernel
theorem d_Mod_getTwo_11 : decode b_Mod_getTwo 11 = .ok (.aload_n 0, 1) := by decide +kernel
theorem d_Mod_getTwo_12 : decode b_Mod_getTwo 12 = .ok (.iload_n 1, 1) := by decide +kernel
theorem d_Mod_getTwo_13 : decode b_Mod_getTwo 13 = .ok (.invokevirtual 157, 3) := by decide +kernel
theorem d_Mod_getTwo_16 : decode b_Mod_getTwo 16 = .ok (.iadd, 1) := by decide +kernel
theorem d_Mod_getTwo_17 : decode b_Mod_getTwo 17 = .ok (.ireturn, 1) := by decide +kernel
theorem d_Mod_read_0 : decode b_Mod_read 0 = .ok (.iload_n 2, 1) := by decide +kernel
theorem d_Mod_read_1 : decode b_Mod_read 1 = .ok (.iconst 4, 1) := by decide +kernel
theorem d_Mod_read_2 : decode b_Mod_read 2 = .ok (.if_icmp .ne 11, 3) := by decide +kernel
theorem d_Mod_read_5 : decode b_Mod_read 5 = .ok (.aload_n 0, 1) := by decide +kernel
theorem d_Mod_read_6 : decode b_Mod_read 6 = .ok (.iload_n 1, 1) := by decide +kernel
theorem d_Mod_read_7 : decode b_Mod_read 7 = .ok (.invokevirtual 157, 3) := by decide +kernel
theorem d_Mod_read_10 : decode b_Mod_read 10 = .ok (.goto 13, 3) := by decide +kernel
theorem d_Mod_read_13 : decode b_Mod_read 13 = .ok (.iload_n 2, 1) := by decide +kernel
theorem d_Mod_read_14 : decode b_Mod_read 14 = .ok (.iconst 3, 1) := by decide +kernel
theorem d_Mod_read_15 : decode b_Mod_read 15 = .ok (.if_icmp .ne 7, 3) := by decide +kernel
theorem d_Mod_read_18 : decode b_Mod_read 18 = .ok (.iconst 2, 1) := by decide +kernel
theorem d_Mod_read_19 : decode b_Mod_read 19 = .ok (.goto 4, 3) := by decide +kernel
theorem d_Mod_read_22 : decode b_Mod_read 22 = .ok (.iconst 1, 1) := by decide +kernel
theorem d_Mod_read_23 : decode b_Mod_read 23 = .ok (.istore_n 3, 1) := by decide +kernel
theorem d_Mod_read_24 : decode b_Mod_read 24 = .ok (.iload_n 2, 1) := by decide +kernel
theorem d_Mod_read_25 : decode b_Mod_read 25 = .ok (.iconst 4, 1) := by decide +kernel
theorem d_Mod_read_26 : decode b_Mod_read 26 = .ok (.if_icmp .ne 15, 3) := by decide +kernel
theorem d_Mod_read_29 : decode b_Mod_read 29 = .ok (.iload_n 3, 1) := by decide +kernel
theorem d_Mod_read_30 : decode b_Mod_read 30 = .ok (.iconst 3, 1) := by decide +kernel
theorem d_Mod_read_31 : decode b_Mod_read 31 = .ok (.if_icmp .eq 10, 3) := by decide +kernel
theorem d_Mod_read_34 : decode b_Mod_read 34 = .ok (.iload_n 3, 1) := by decide +kernel
theorem d_Mod_read_35 : decode b_Mod_read 35 = .ok (.iconst 4, 1) := by decide +kernel
theorem d_Mod_read_36 : decode b_Mod_read 36 = .ok (.if_icmp .eq 5, 3) := by decide +kernel
theorem d_Mod_read_39 : decode b_Mod_read 39 = .ok (.iconst 0, 1) := by decide +kernel
theorem d_Mod_read_40 : decode b_Mod_read 40 = .ok (.ireturn, 1) := by decide +kernel
theorem d_Mod_read_41 : decode b_Mod_read 41 = .ok (.iload_n 2, 1) := by decide +kernel
theorem d_Mod_read_42 : decode b_Mod_read 42 = .ok (.ifCond .eq 13, 3) := by decide +kernel
theorem d_Mod_read_45 : decode b_Mod_read 45 = .ok (.iload_n 2, 1) := by decide +kernel
theorem d_Mod_read_46 : decode b_Mod_read 46 = .ok (.iconst 3, 1) := by decide +kernel
theorem d_Mod_read_47 : decode b_Mod_read 47 = .ok (.if_icmp .eq 8, 3) := by decide +kernel
theorem d_Mod_read_50 : decode b_Mod_read 50 = .ok (.iload_n 2, 1) := by decide +kernel
theorem d_Mod_read_51 : decode b_Mod_read 51 = .ok (.iconst 4, 1) := by decide +kernel
theorem d_Mod_read_52 : decode b_Mod_read 52 = .ok (.if_icmp .ne 30, 3) := by decide +kernel
theorem d_Mod_read_55 : decode b_Mod_read 55 = .ok (.iconst 0, 1) := by decide +kernel
theorem d_Mod_read_56 : decode b_Mod_read 56 = .ok (.istore 4, 2) := by decide +kernel
theorem d_Mod_read_58 : decode b_Mod_read 58 = .ok (.iload 4, 2) := by decide +kernel
theorem d_Mod_read_60 : decode b_Mod_read 60 = .ok (.iload_n 3, 1) := by decide +kernel
theorem d_Mod_read_61 : decode b_Mod_read 61 = .ok (.if_icmp .ge 21, 3) := by decide +kernel
theorem d_Mod_read_64 : decode b_Mod_read 64 = .ok (.aload_n 0, 1) := by decide +kernel
theorem d_Mod_read_65 : decode b_Mod_read 65 = .ok (.getfield 71, 3) := by decide +kernel
theorem d_Mod_read_68 : decode b_Mod_read 68 = .ok (.iload 4, 2) := by decide +kernel
theorem d_Mod_read_70 : decode b_Mod_read 70 = .ok (.aload_n 0, 1) := by decide +kernel
theorem d_Mod_read_71 : decode b_Mod_read 71 = .ok (.iload_n 1, 1) := by decide +kernel
theorem d_Mod_read_72 : decode b_Mod_read 72 = .ok (.invokevirtual 160, 3) := by decide +kernel
theorem d_Mod_read_75 : decode b_Mod_read 75 = .ok (.iastore, 1) := by decide +kernel
theorem d_Mod_read_76 : decode b_Mod_read 76 = .ok (.iinc 4 1, 3) := by decide +kernel
theorem d_Mod_read_79 : decode b_Mod_read 79 = .ok (.goto (-21), 3) := by decide +kernel
theorem d_Mod_read_82 : decode b_Mod_read 82 = .ok (.iload_n 2, 1) := by decide +kernel
theorem d_Mod_read_83 : decode b_Mod_read 83 = .ok (.iconst 1, 1) := by decide +kernel
theorem d_Mod_read_84 : decode b_Mod_read 84 = .ok (.if_icmp .eq 8, 3) := by decide +kernel
theorem d_Mod_read_87 : decode b_Mod_read 87 = .ok (.iload_n 2, 1) := by decide +kernel
theorem d_Mod_read_88 : decode b_Mod_read 88 = .ok (.iconst 2, 1) := by decide +kernel
theorem d_Mod_read_89 : decode b_Mod_read 89 = .ok (.if_icmp .ne 15, 3) := by decide +kernel
theorem d_Mod_read_92 : decode b_Mod_read 92 = .ok (.aload_n 0, 1) := by decide +kernel
theorem d_Mod_read_93 : decode b_Mod_read 93 = .ok (.iload_n 1, 1) := by decide +kernel
theorem d_Mod_read_94 : decode b_Mod_read 94 = .ok (.iload_n 2, 1) := by decide +kernel
theorem d_Mod_read_95 : decode b_Mod_read 95 = .ok (.aload_n 0, 1) := by decide +kernel
theorem d_Mod_read_96 : decode b_Mod_read 96 = .ok (.iload_n 1, 1) := by decide +kernel
theorem d_Mod_read_97 : decode b_Mod_read 97 = .ok (.invokevirtual 157, 3) := by decide +kernel
theorem d_Mod_read_100 : decode b_Mod_read 100 = .ok (.invokevirtual 163, 3) := by decide +kernel
theorem d_Mod_read_103 : decode b_Mod_read 103 = .ok (.ireturn, 1) := by decide +kernel
theorem d_Mod_read_104 : decode b_Mod_read 104 = .ok (.iload_n 2, 1) := by decide +kernel
theorem d_Mod_read_105 : decode b_Mod_read 105 = .ok (.iconst 5, 1) := by decide +kernel
theorem d_Mod_read_106 : decode b_Mod_read 106 = .ok (.if_icmp .ne 9, 3) := by decide +kernel
theorem d_Mod_read_109 : decode b_Mod_read 109 = .ok (.aload_n 0, 1) := by decide +kernel
theorem d_Mod_read_110 : decode b_Mod_read 110 = .ok (.iload_n 1, 1) := by decide +kernel
theorem d_Mod_read_111 : decode b_Mod_read 111 = .ok (.invokevirtual 166, 3) := by decide +kernel
theorem d_Mod_read_114 : decode b_Mod_read 114 = .ok (.ireturn, 1) := by decide +kernel
theorem d_Mod_read_115 : decode b_Mod_read 115 = .ok (.iconst 0, 1) := by decide +kernel
theorem d_Mod_read_116 : decode b_Mod_read 116 = .ok (.istore 4, 2) := by decide +kernel
theorem d_Mod_read_118 : decode b_Mod_read 118 = .ok (.iconst 1, 1) := by decide +kernel
theorem d_Mod_read_119 : decode b_Mod_read 119 = .ok (.istore 5, 2) := by decide +kernel
theorem d_Mod_read_121 : decode b_Mod_read 121 = .ok (.iconst 0, 1) := by decide +kernel
theorem d_Mod_read_122 : decode b_Mod_read 122 = .ok (.istore 6, 2) := by decide +kernel
theorem d_Mod_read_124 : decode b_Mod_read 124 = .ok (.iload 6, 2) := by decide +kernel
theorem d_Mod_read_126 : decode b_Mod_read 126 = .ok (.bipush 64, 2) := by decide +kernel
theorem d_Mod_read_128 : decode b_Mod_read 128 = .ok (.if_icmp .ge 133, 3) := by decide +kernel
theorem d_Mod_read_131 : decode b_Mod_read 131 = .ok (.iload_n 2, 1) := by decide +kernel
theorem d_Mod_read_132 : decode b_Mod_read 132 = .ok (.iconst 3, 1) := by decide +kernel
theorem d_Mod_read_133 : decode b_Mod_read 133 = .ok (.if_icmp .ne 11, 3) := by decide +kernel
theorem d_Mod_read_136 : decode b_Mod_read 136 = .ok (.iload 6, 2) := by decide +kernel
theorem d_Mod_read_138 : decode b_Mod_read 138 = .ok (.bipush 8, 2) := by decide +kernel
theorem d_Mod_read_140 : decode b_Mod_read 140 = .ok (.irem, 1) := by decide +kernel
theorem d_Mod_read_141 : decode b_Mod_read 141 = .ok (.ifCond .eq 15, 3) := by decide +kernel
theorem d_Mod_read_144 : decode b_Mod_read 144 = .ok (.iload_n 2, 1) := by decide +kernel
theorem d_Mod_read_145 : decode b_Mod_read 145 = .ok (.iconst 4, 1) := by decide +kernel
theorem d_Mod_read_146 : decode b_Mod_read 146 = .ok (.if_icmp .ne 17, 3) := by decide +kernel
theorem d_Mod_read_149 : decode b_Mod_read 149 = .ok (.iload 6, 2) := by decide +kernel
theorem d_Mod_read_151 : decode b_Mod_read 151 = .ok (.iconst 4, 1) := by decide +kernel
theorem d_Mod_read_152 : decode b_Mod_read 152 = .ok (.irem, 1) := by decide +kernel
theorem d_Mod_read_153 : decode b_Mod_read 153 = .ok (.ifCond .ne 10, 3) := by decide +kernel
theorem d_Mod_read_156 : decode b_Mod_read 156 = .ok (.aload_n 0, 1) := by decide +kernel
theorem d_Mod_read_157 : decode b_Mod_read 157 = .ok (.iload_n 1, 1) := by decide +kernel
theorem d_Mod_read_158 : decode b_Mod_read 158 = .ok (.invokevirtual 157, 3) := by decide +kernel
theorem d_Mod_read_161 : decode b_Mod_read 161 = .ok (.istore 4, 2) := by decide +kernel
theorem d_Mod_read_163 : decode b_Mod_read 163 = .ok (.iload_n 2, 1) := by decide +kernel
theorem d_Mod_read_164 : decode b_Mod_read 164 = .ok (.iconst 3, 1) := by decide +kernel
theorem d_Mod_read_165 : decode b_Mod_read 165 = .ok (.if_icmp .ne 19, 3) := by decide +kernel
theorem d_Mod_read_168 : decode b_Mod_read 168 = .ok (.iload 4, 2) := by decide +kernel
theorem d_Mod_read_170 : decode b_Mod_read 170 = .ok (.bipush 7, 2) := by decide +kernel
theorem d_Mod_read_172 : decode b_Mod_read 172 = .ok (.iload 6, 2) := by decide +kernel
theorem d_Mod_read_174 : decode b_Mod_read 174 = .ok (.bipush 8, 2) := by decide +kernel
theorem d_Mod_read_176 : decode b_Mod_read 176 = .ok (.irem, 1) := by decide +kernel
theorem d_Mod_read_177 : decode b_Mod_read 177 = .ok (.isub, 1) := by decide +kernel
theorem d_Mod_read_178 : decode b_Mod_read 178 = .ok (.ishr, 1) := by decide +kernel
theorem d_Mod_read_179 : decode b_Mod_read 179 = .ok (.iconst 1, 1) := by decide +kernel
theorem d_Mod_read_180 : decode b_Mod_read 180 = .ok (.iand, 1) := by decide +kernel
theorem d_Mod_read_181 : decode b_Mod_read 181 = .ok (.goto 26, 3) := by decide +kernel
theorem d_Mod_read_184 : decode b_Mod_read 184 = .ok (.iload_n 2, 1) := by decide +kernel
theorem d_Mod_read_185 : decode b_Mod_read 185 = .ok (.iconst 4, 1) := by decide +kernel
theorem d_Mod_read_186 : decode b_Mod_read 186 = .ok (.if_icmp .ne 20, 3) := by decide +kernel
theorem d_Mod_read_189 : decode b_Mod_read 189 = .ok (.iload 4, 2) := by decide +kernel
theorem d_Mod_read_191 : decode b_Mod_read 191 = .ok (.bipush 6, 2) := by decide +kernel
theorem d_Mod_read_193 : decode b_Mod_read 193 = .ok (.iconst 2, 1) := by decide +kernel
theorem d_Mod_read_194 : decode b_Mod_read 194 = .ok (.iload 6, 2) := by decide +kernel
theorem d_Mod_read_196 : decode b_Mod_read 196 = .ok (.iconst 4, 1) := by decide +kernel
theorem d_Mod_read_197 : decode b_Mod_read 197 = .ok (.irem, 1) := by decide +kernel
theorem d_Mod_read_198 : decode b_Mod_read 198 = .ok (.imul, 1) := by decide +kernel
theorem d_Mod_read_199 : decode b_Mod_read 199 = .ok (.isub, 1) := by decide +kernel
theorem d_Mod_read_200 : decode b_Mod_read 200 = .ok (.ishr, 1) := by decide +kernel
theorem d_Mod_read_201 : decode b_Mod_read 201 = .ok (.iconst 3, 1) := by decide +kernel
theorem d_Mod_read_202 : decode b_Mod_read 202 = .ok (.iand, 1) := by decide +kernel
theorem d_Mod_read_203 : decode b_Mod_read 203 = .ok (.goto 4, 3) := by decide +kernel
theorem d_Mod_read_206 : decode b_Mod_read 206 = .ok (.iconst 0, 1) := by decide +kernel
theorem d_Mod_read_207 : decode b_Mod_read 207 = .ok (.istore 7, 2) := by decide +kernel
theorem d_Mod_read_209 : decode b_Mod_read 209 = .ok (.iload 5, 2) := by decide +kernel
theorem d_Mod_read_211 : decode b_Mod_read 211 = .ok (.ifCond .eq 13, 3) := by decide +kernel
theorem d_Mod_read_214 : decode b_Mod_read 214 = .ok (.iload 7, 2) := by decide +kernel
theorem d_Mod_read_216 : decode b_Mod_read 216 = .ok (.iload_n 3, 1) := by decide +kernel
theorem d_Mod_read_217 : decode b_Mod_read 217 = .ok (.if_icmp .ge 7, 3) := by decide +kernel
theorem d_Mod_read_220 : decode b_Mod_read 220 = .ok (.iconst 1, 1) := by decide +kernel
theorem d_Mod_read_221 : decode b_Mod_read 221 = .ok (.goto 4, 3) := by decide +kernel
theorem d_Mod_read_224 : decode b_Mod_read 224 = .ok (.iconst 0, 1) := by decide +kernel
theorem d_Mod_read_225 : decode b_Mod_read 225 = .ok (.istore 5, 2) := by decide +kernel
theorem d_Mod_read_227 : decode b_Mod_read 227 = .ok (.aload_n 0, 1) := by decide +kernel
theorem d_Mod_read_228 : decode b_Mod_read 228 = .ok (.getfield 65, 3) := by decide +kernel
theorem d_Mod_read_231 : decode b_Mod_read 231 = .ok (.iload 6, 2) := by decide +kernel
theorem d_Mod_read_233 : decode b_Mod_read 233 = .ok (.iload_n 2, 1) := by decide +kernel
theorem d_Mod_read_234 : decode b_Mod_read 234 = .ok (.bipush 6, 2) := by decide +kernel
theorem d_Mod_read_236 : decode b_Mod_read 236 = .ok (.if_icmp .ne 11, 3) := by decide +kernel
theorem d_Mod_read_239 : decode b_Mod_read 239 = .ok (.aload_n 0, 1) := by decide +kernel
theorem d_Mod_read_240 : decode b_Mod_read 240 = .ok (.iload_n 1, 1) := by decide +kernel
theorem d_Mod_read_241 : decode b_Mod_read 241 = .ok (.invokevirtual 160, 3) := by decide +kernel
theorem d_Mod_read_244 : decode b_Mod_read 244 = .ok (.goto 10, 3) := by decide +kernel
theorem d_Mod_read_247 : decode b_Mod_read 247 = .ok (.aload_n 0, 1) := by decide +kernel
theorem d_Mod_read_248 : decode b_Mod_read 248 = .ok (.getfield 71, 3) := by decide +kernel
theorem d_Mod_read_251 : decode b_Mod_read 251 = .ok (.iload 7, 2) := by decide +kernel
theorem d_Mod_read_253 : decode b_Mod_read 253 = .ok (.iaload, 1) := by decide +kernel
theorem d_Mod_read_254 : decode b_Mod_read 254 = .ok (.iastore, 1) := by decide +kernel
theorem d_Mod_read_255 : decode b_Mod_read 255 = .ok (.iinc 6 1, 3) := by decide +kernel
theorem d_Mod_read_258 : decode b_Mod_read 258 = .ok (.goto (-134), 3) := by decide +kernel
theorem d_Mod_read_261 : decode b_Mod_read 261 = .ok (.iload 5, 2) := by decide +kernel
theorem d_Mod_read_263 : decode b_Mod_read 263 = .ok (.ifCond .eq 18, 3) := by decide +kernel
theorem d_Mod_read_266 : decode b_Mod_read 266 = .ok (.aload_n 0, 1) := by decide +kernel
theorem d_Mod_read_267 : decode b_Mod_read 267 = .ok (.getfield 151, 3) := by decide +kernel
theorem d_Mod_read_270 : decode b_Mod_read 270 = .ok (.aload_n 0, 1) := by decide +kernel
theorem d_Mod_read_271 : decode b_Mod_read 271 = .ok (.getfield 154, 3) := by decide +kernel
theorem d_Mod_read_274 : decode b_Mod_read 274 = .ok (.if_icmp .gt 7, 3) := by decide +kernel
theorem d_Mod_read_277 : decode b_Mod_read 277 = .ok (.iconst 1, 1) := by decide +kernel
theorem d_Mod_read_278 : decode b_Mod_read 278 = .ok (.goto 4, 3) := by decide +kernel
theorem d_Mod_read_281 : decode b_Mod_read 281 = .ok (.iconst 0, 1) := by decide +kernel
theorem d_Mod_read_282 : decode b_Mod_read 282 = .ok (.ireturn, 1) := by decide +kernel
theorem d_Mod_readLike_0 : decode b_Mod_readLike 0 = .ok (.aload_n 0, 1) := by decide +kernel
theorem d_Mod_readLike_1 : decode b_Mod_readLike 1 = .ok (.getfield 151, 3) := by decide +kernel
theorem d_Mod_readLike_4 : decode b_Mod_readLike 4 = .ok (.aload_n 0, 1) := by decide +kernel
theorem d_Mod_readLike_5 : decode b_Mod_readLike 5 = .ok (.getfield 154, 3) := by decide +kernel
theorem d_Mod_readLike_8 : decode b_Mod_readLike 8 = .ok (.if_icmp .gt 42, 3) := by decide +kernel
theorem d_Mod_readLike_11 : decode b_Mod_readLike 11 = .ok (.iload_n 2, 1) := by decide +kernel
theorem d_Mod_readLike_12 : decode b_Mod_readLike 12 = .ok (.iconst 1, 1) := by decide +kernel
theorem d_Mod_readLike_13 : decode b_Mod_readLike 13 = .ok (.if_icmp .ne 9, 3) := by decide +kernel
theorem d_Mod_readLike_16 : decode b_Mod_readLike 16 = .ok (.iload_n 3, 1) := by decide +kernel
theorem d_Mod_readLike_17 : decode b_Mod_readLike 17 = .ok (.bipush 48, 2) := by decide +kernel
theorem d_Mod_readLike_19 : decode b_Mod_readLike 19 = .ok (.if_icmp .ge 31, 3) := by decide +kernel
theorem d_Mod_readLike_22 : decode b_Mod_readLike 22 = .ok (.iload_n 2, 1) := by decide +kernel
theorem d_Mod_readLike_23 : decode b_Mod_readLike 23 = .ok (.iconst 2, 1) := by decide +kernel
theorem d_Mod_readLike_24 : decode b_Mod_readLike 24 = .ok (.if_icmp .ne 28, 3) := by decide +kernel
theorem d_Mod_readLike_27 : decode b_Mod_readLike 27 = .ok (.iload_n 3, 1) := by decide +kernel
theorem d_Mod_readLike_28 : decode b_Mod_readLike 28 = .ok (.bipush 15, 2) := by decide +kernel
theorem d_Mod_readLike_30 : decode b_Mod_readLike 30 = .ok (.if_icmp .gt 20, 3) := by decide +kernel
theorem d_Mod_readLike_33 : decode b_Mod_readLike 33 = .ok (.aload_n 0, 1) := by decide +kernel
theorem d_Mod_readLike_34 : decode b_Mod_readLike 34 = .ok (.getfield 19, 3) := by decide +kernel
theorem d_Mod_readLike_37 : decode b_Mod_readLike 37 = .ok (.bipush 48, 2) := by decide +kernel
theorem d_Mod_readLike_39 : decode b_Mod_readLike 39 = .ok (.bipush 16, 2) := by decide +kernel
theorem d_Mod_readLike_41 : decode b_Mod_readLike 41 = .ok (.iload_n 1, 1) := by decide +kernel
theorem d_Mod_readLike_42 : decode b_Mod_readLike 42 = .ok (.imul, 1) := by decide +kernel
theorem d_Mod_readLike_43 : decode b_Mod_readLike 43 = .ok (.iadd, 1) := by decide +kernel
theorem d_Mod_readLike_44 : decode b_Mod_readLike 44 = .ok (.iload_n 3, 1) := by decide +kernel
theorem d_Mod_readLike_45 : decode b_Mod_readLike 45 = .ok (.iadd, 1) := by decide +kernel
theorem d_Mod_readLike_46 : decode b_Mod_readLike 46 = .ok (.baload, 1) := by decide +kernel
theorem d_Mod_readLike_47 : decode b_Mod_readLike 47 = .ok (.ifCond .ne 5, 3) := by decide +kernel
theorem d_Mod_readLike_50 : decode b_Mod_readLike 50 = .ok (.iconst 0, 1) := by decide +kernel
theorem d_Mod_readLike_51 : decode b_Mod_readLike 51 = .ok (.ireturn, 1) := by decide +kernel
theorem d_Mod_readLike_52 : decode b_Mod_readLike 52 = .ok (.iconst 0, 1) := by decide +kernel
theorem d_Mod_readLike_53 : decode b_Mod_readLike 53 = .ok (.istore 4, 2) := by decide +kernel
theorem d_Mod_readLike_55 : decode b_Mod_readLike 55 = .ok (.iload 4, 2) := by decide +kernel
theorem d_Mod_readLike_57 : decode b_Mod_readLike 57 = .ok (.bipush 64, 2) := by decide +kernel
theorem d_Mod_readLike_59 : decode b_Mod_readLike 59 = .ok (.if_icmp .ge 58, 3) := by decide +kernel
theorem d_Mod_readLike_62 : decode b_Mod_readLike 62 = .ok (.aload_n 0, 1) := by decide +kernel
theorem d_Mod_readLike_63 : decode b_Mod_readLike 63 = .ok (.getfield 65, 3) := by decide +kernel
theorem d_Mod_readLike_66 : decode b_Mod_readLike 66 = .ok (.iload 4, 2) := by decide +kernel
theorem d_Mod_readLike_68 : decode b_Mod_readLike 68 = .ok (.iload_n 2, 1) := by decide +kernel
theorem d_Mod_readLike_69 : decode b_Mod_readLike 69 = .ok (.iconst 1, 1) := by decide +kernel
theorem d_Mod_readLike_70 : decode b_Mod_readLike 70 = .ok (.if_icmp .ne 20, 3) := by decide +kernel
theorem d_Mod_readLike_73 : decode b_Mod_readLike 73 = .ok (.aload_n 0, 1) := by decide +kernel
theorem d_Mod_readLike_74 : decode b_Mod_readLike 74 = .ok (.getfield 7, 3) := by decide +kernel
theorem d_Mod_readLike_77 : decode b_Mod_readLike 77 = .ok (.iconst 2, 1) := by decide +kernel
theorem d_Mod_readLike_78 : decode b_Mod_readLike 78 = .ok (.iload_n 1, 1) := by decide +kernel
theorem d_Mod_readLike_79 : decode b_Mod_readLike 79 = .ok (.iadd, 1) := by decide +kernel
theorem d_Mod_readLike_80 : decode b_Mod_readLike 80 = .ok (.iload_n 3, 1) := by decide +kernel
theorem d_Mod_readLike_81 : decode b_Mod_readLike 81 = .ok (.iload 4, 2) := by decide +kernel
theorem d_Mod_readLike_83 : decode b_Mod_readLike 83 = .ok (.invokestatic 78, 3) := by decide +kernel
theorem d_Mod_readLike_86 : decode b_Mod_readLike 86 = .ok (.iaload, 1) := by decide +kernel
theorem d_Mod_readLike_87 : decode b_Mod_readLike 87 = .ok (.goto 23, 3) := by decide +kernel
theorem d_Mod_readLike_90 : decode b_Mod_readLike 90 = .ok (.aload_n 0, 1) := by decide +kernel
theorem d_Mod_readLike_91 : decode b_Mod_readLike 91 = .ok (.getfield 13, 3) := by decide +kernel
theorem d_Mod_readLike_94 : decode b_Mod_readLike 94 = .ok (.sipush 1024, 3) := by decide +kernel
theorem d_Mod_readLike_97 : decode b_Mod_readLike 97 = .ok (.iconst 3, 1) := by decide +kernel
theorem d_Mod_readLike_98 : decode b_Mod_readLike 98 = .ok (.iload_n 1, 1) := by decide +kernel
theorem d_Mod_readLike_99 : decode b_Mod_readLike 99 = .ok (.iadd, 1) := by decide +kernel
theorem d_Mod_readLike_100 : decode b_Mod_readLike 100 = .ok (.imul, 1) := by decide +kernel
theorem d_Mod_readLike_101 : decode b_Mod_readLike 101 = .ok (.bipush 64, 2) := by decide +kernel
theorem d_Mod_readLike_103 : decode b_Mod_readLike 103 = .ok (.iload_n 3, 1) := by decide +kernel
