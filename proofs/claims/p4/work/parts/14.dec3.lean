theorem d_Mod_readLike_104 : decode b_Mod_readLike 104 = .ok (.imul, 1) := by decide +kernel
theorem d_Mod_readLike_105 : decode b_Mod_readLike 105 = .ok (.iadd, 1) := by decide +kernel
theorem d_Mod_readLike_106 : decode b_Mod_readLike 106 = .ok (.iload 4, 2) := by decide +kernel
theorem d_Mod_readLike_108 : decode b_Mod_readLike 108 = .ok (.iadd, 1) := by decide +kernel
theorem d_Mod_readLike_109 : decode b_Mod_readLike 109 = .ok (.iaload, 1) := by decide +kernel
theorem d_Mod_readLike_110 : decode b_Mod_readLike 110 = .ok (.iastore, 1) := by decide +kernel
theorem d_Mod_readLike_111 : decode b_Mod_readLike 111 = .ok (.iinc 4 1, 3) := by decide +kernel
theorem d_Mod_readLike_114 : decode b_Mod_readLike 114 = .ok (.goto (-59), 3) := by decide +kernel
theorem d_Mod_readLike_117 : decode b_Mod_readLike 117 = .ok (.iconst 1, 1) := by decide +kernel
theorem d_Mod_readLike_118 : decode b_Mod_readLike 118 = .ok (.ireturn, 1) := by decide +kernel
theorem d_Mod_readRuns_0 : decode b_Mod_readRuns 0 = .ok (.aload_n 0, 1) := by decide +kernel
theorem d_Mod_readRuns_1 : decode b_Mod_readRuns 1 = .ok (.iload_n 1, 1) := by decide +kernel
theorem d_Mod_readRuns_2 : decode b_Mod_readRuns 2 = .ok (.invokevirtual 157, 3) := by decide +kernel
theorem d_Mod_readRuns_5 : decode b_Mod_readRuns 5 = .ok (.istore_n 2, 1) := by decide +kernel
theorem d_Mod_readRuns_6 : decode b_Mod_readRuns 6 = .ok (.iconst 0, 1) := by decide +kernel
theorem d_Mod_readRuns_7 : decode b_Mod_readRuns 7 = .ok (.istore_n 3, 1) := by decide +kernel
theorem d_Mod_readRuns_8 : decode b_Mod_readRuns 8 = .ok (.iconst 0, 1) := by decide +kernel
theorem d_Mod_readRuns_9 : decode b_Mod_readRuns 9 = .ok (.istore 4, 2) := by decide +kernel
theorem d_Mod_readRuns_11 : decode b_Mod_readRuns 11 = .ok (.iload 4, 2) := by decide +kernel
theorem d_Mod_readRuns_13 : decode b_Mod_readRuns 13 = .ok (.iload_n 2, 1) := by decide +kernel
theorem d_Mod_readRuns_14 : decode b_Mod_readRuns 14 = .ok (.if_icmp .ge 82, 3) := by decide +kernel
theorem d_Mod_readRuns_17 : decode b_Mod_readRuns 17 = .ok (.aload_n 0, 1) := by decide +kernel
theorem d_Mod_readRuns_18 : decode b_Mod_readRuns 18 = .ok (.iload_n 1, 1) := by decide +kernel
theorem d_Mod_readRuns_19 : decode b_Mod_readRuns 19 = .ok (.invokevirtual 157, 3) := by decide +kernel
theorem d_Mod_readRuns_22 : decode b_Mod_readRuns 22 = .ok (.istore 5, 2) := by decide +kernel
theorem d_Mod_readRuns_24 : decode b_Mod_readRuns 24 = .ok (.aload_n 0, 1) := by decide +kernel
theorem d_Mod_readRuns_25 : decode b_Mod_readRuns 25 = .ok (.iload_n 1, 1) := by decide +kernel
theorem d_Mod_readRuns_26 : decode b_Mod_readRuns 26 = .ok (.invokevirtual 160, 3) := by decide +kernel
theorem d_Mod_readRuns_29 : decode b_Mod_readRuns 29 = .ok (.istore 6, 2) := by decide +kernel
theorem d_Mod_readRuns_31 : decode b_Mod_readRuns 31 = .ok (.iload 5, 2) := by decide +kernel
theorem d_Mod_readRuns_33 : decode b_Mod_readRuns 33 = .ok (.ifCond .eq 23, 3) := by decide +kernel
theorem d_Mod_readRuns_36 : decode b_Mod_readRuns 36 = .ok (.iload_n 3, 1) := by decide +kernel
theorem d_Mod_readRuns_37 : decode b_Mod_readRuns 37 = .ok (.iload 5, 2) := by decide +kernel
theorem d_Mod_readRuns_39 : decode b_Mod_readRuns 39 = .ok (.iadd, 1) := by decide +kernel
theorem d_Mod_readRuns_40 : decode b_Mod_readRuns 40 = .ok (.bipush 64, 2) := by decide +kernel
theorem d_Mod_readRuns_42 : decode b_Mod_readRuns 42 = .ok (.if_icmp .gt 14, 3) := by decide +kernel
theorem d_Mod_readRuns_45 : decode b_Mod_readRuns 45 = .ok (.aload_n 0, 1) := by decide +kernel
theorem d_Mod_readRuns_46 : decode b_Mod_readRuns 46 = .ok (.getfield 151, 3) := by decide +kernel
theorem d_Mod_readRuns_49 : decode b_Mod_readRuns 49 = .ok (.aload_n 0, 1) := by decide +kernel
theorem d_Mod_readRuns_50 : decode b_Mod_readRuns 50 = .ok (.getfield 154, 3) := by decide +kernel
theorem d_Mod_readRuns_53 : decode b_Mod_readRuns 53 = .ok (.if_icmp .le 5, 3) := by decide +kernel
theorem d_Mod_readRuns_56 : decode b_Mod_readRuns 56 = .ok (.iconst 0, 1) := by decide +kernel
theorem d_Mod_readRuns_57 : decode b_Mod_readRuns 57 = .ok (.ireturn, 1) := by decide +kernel
theorem d_Mod_readRuns_58 : decode b_Mod_readRuns 58 = .ok (.iconst 0, 1) := by decide +kernel
theorem d_Mod_readRuns_59 : decode b_Mod_readRuns 59 = .ok (.istore 7, 2) := by decide +kernel
theorem d_Mod_readRuns_61 : decode b_Mod_readRuns 61 = .ok (.iload 7, 2) := by decide +kernel
theorem d_Mod_readRuns_63 : decode b_Mod_readRuns 63 = .ok (.iload 5, 2) := by decide +kernel
theorem d_Mod_readRuns_65 : decode b_Mod_readRuns 65 = .ok (.if_icmp .ge 20, 3) := by decide +kernel
theorem d_Mod_readRuns_68 : decode b_Mod_readRuns 68 = .ok (.aload_n 0, 1) := by decide +kernel
theorem d_Mod_readRuns_69 : decode b_Mod_readRuns 69 = .ok (.getfield 65, 3) := by decide +kernel
theorem d_Mod_readRuns_72 : decode b_Mod_readRuns 72 = .ok (.iload_n 3, 1) := by decide +kernel
theorem d_Mod_readRuns_73 : decode b_Mod_readRuns 73 = .ok (.iload 7, 2) := by decide +kernel
theorem d_Mod_readRuns_75 : decode b_Mod_readRuns 75 = .ok (.iadd, 1) := by decide +kernel
theorem d_Mod_readRuns_76 : decode b_Mod_readRuns 76 = .ok (.iload 6, 2) := by decide +kernel
theorem d_Mod_readRuns_78 : decode b_Mod_readRuns 78 = .ok (.iastore, 1) := by decide +kernel
theorem d_Mod_readRuns_79 : decode b_Mod_readRuns 79 = .ok (.iinc 7 1, 3) := by decide +kernel
theorem d_Mod_readRuns_82 : decode b_Mod_readRuns 82 = .ok (.goto (-21), 3) := by decide +kernel
theorem d_Mod_readRuns_85 : decode b_Mod_readRuns 85 = .ok (.iload_n 3, 1) := by decide +kernel
theorem d_Mod_readRuns_86 : decode b_Mod_readRuns 86 = .ok (.iload 5, 2) := by decide +kernel
theorem d_Mod_readRuns_88 : decode b_Mod_readRuns 88 = .ok (.iadd, 1) := by decide +kernel
theorem d_Mod_readRuns_89 : decode b_Mod_readRuns 89 = .ok (.istore_n 3, 1) := by decide +kernel
theorem d_Mod_readRuns_90 : decode b_Mod_readRuns 90 = .ok (.iinc 4 1, 3) := by decide +kernel
theorem d_Mod_readRuns_93 : decode b_Mod_readRuns 93 = .ok (.goto (-82), 3) := by decide +kernel
theorem d_Mod_readRuns_96 : decode b_Mod_readRuns 96 = .ok (.iload_n 3, 1) := by decide +kernel
theorem d_Mod_readRuns_97 : decode b_Mod_readRuns 97 = .ok (.bipush 64, 2) := by decide +kernel
theorem d_Mod_readRuns_99 : decode b_Mod_readRuns 99 = .ok (.if_icmp .ne 18, 3) := by decide +kernel
theorem d_Mod_readRuns_102 : decode b_Mod_readRuns 102 = .ok (.aload_n 0, 1) := by decide +kernel
theorem d_Mod_readRuns_103 : decode b_Mod_readRuns 103 = .ok (.getfield 151, 3) := by decide +kernel
theorem d_Mod_readRuns_106 : decode b_Mod_readRuns 106 = .ok (.aload_n 0, 1) := by decide +kernel
theorem d_Mod_readRuns_107 : decode b_Mod_readRuns 107 = .ok (.getfield 154, 3) := by decide +kernel
theorem d_Mod_readRuns_110 : decode b_Mod_readRuns 110 = .ok (.if_icmp .gt 7, 3) := by decide +kernel
theorem d_Mod_readRuns_113 : decode b_Mod_readRuns 113 = .ok (.iconst 1, 1) := by decide +kernel
theorem d_Mod_readRuns_114 : decode b_Mod_readRuns 114 = .ok (.goto 4, 3) := by decide +kernel
theorem d_Mod_readRuns_117 : decode b_Mod_readRuns 117 = .ok (.iconst 0, 1) := by decide +kernel
theorem d_Mod_readRuns_118 : decode b_Mod_readRuns 118 = .ok (.ireturn, 1) := by decide +kernel
theorem d_Mod_whole_0 : decode b_Mod_whole 0 = .ok (.aload_n 0, 1) := by decide +kernel
theorem d_Mod_whole_1 : decode b_Mod_whole 1 = .ok (.aload_n 0, 1) := by decide +kernel
theorem d_Mod_whole_2 : decode b_Mod_whole 2 = .ok (.getfield 53, 3) := by decide +kernel
theorem d_Mod_whole_5 : decode b_Mod_whole 5 = .ok (.iload_n 1, 1) := by decide +kernel
theorem d_Mod_whole_6 : decode b_Mod_whole 6 = .ok (.iaload, 1) := by decide +kernel
theorem d_Mod_whole_7 : decode b_Mod_whole 7 = .ok (.iconst 2, 1) := by decide +kernel
theorem d_Mod_whole_8 : decode b_Mod_whole 8 = .ok (.isub, 1) := by decide +kernel
theorem d_Mod_whole_9 : decode b_Mod_whole 9 = .ok (.putfield 154, 3) := by decide +kernel
theorem d_Mod_whole_12 : decode b_Mod_whole 12 = .ok (.iconst 0, 1) := by decide +kernel
theorem d_Mod_whole_13 : decode b_Mod_whole 13 = .ok (.istore_n 2, 1) := by decide +kernel
theorem d_Mod_whole_14 : decode b_Mod_whole 14 = .ok (.iconst 3, 1) := by decide +kernel
theorem d_Mod_whole_15 : decode b_Mod_whole 15 = .ok (.istore_n 3, 1) := by decide +kernel
theorem d_Mod_whole_16 : decode b_Mod_whole 16 = .ok (.iload_n 3, 1) := by decide +kernel
theorem d_Mod_whole_17 : decode b_Mod_whole 17 = .ok (.aload_n 0, 1) := by decide +kernel
theorem d_Mod_whole_18 : decode b_Mod_whole 18 = .ok (.getfield 154, 3) := by decide +kernel
theorem d_Mod_whole_21 : decode b_Mod_whole 21 = .ok (.if_icmp .ge 24, 3) := by decide +kernel
theorem d_Mod_whole_24 : decode b_Mod_whole 24 = .ok (.iload_n 2, 1) := by decide +kernel
theorem d_Mod_whole_25 : decode b_Mod_whole 25 = .ok (.aload_n 0, 1) := by decide +kernel
theorem d_Mod_whole_26 : decode b_Mod_whole 26 = .ok (.getfield 50, 3) := by decide +kernel
theorem d_Mod_whole_29 : decode b_Mod_whole 29 = .ok (.sipush 6247, 3) := by decide +kernel
theorem d_Mod_whole_32 : decode b_Mod_whole 32 = .ok (.iload_n 1, 1) := by decide +kernel
theorem d_Mod_whole_33 : decode b_Mod_whole 33 = .ok (.imul, 1) := by decide +kernel
theorem d_Mod_whole_34 : decode b_Mod_whole 34 = .ok (.iload_n 3, 1) := by decide +kernel
theorem d_Mod_whole_35 : decode b_Mod_whole 35 = .ok (.iadd, 1) := by decide +kernel
theorem d_Mod_whole_36 : decode b_Mod_whole 36 = .ok (.iaload, 1) := by decide +kernel
theorem d_Mod_whole_37 : decode b_Mod_whole 37 = .ok (.iadd, 1) := by decide +kernel
theorem d_Mod_whole_38 : decode b_Mod_whole 38 = .ok (.istore_n 2, 1) := by decide +kernel
theorem d_Mod_whole_39 : decode b_Mod_whole 39 = .ok (.iinc 3 1, 3) := by decide +kernel
theorem d_Mod_whole_42 : decode b_Mod_whole 42 = .ok (.goto (-26), 3) := by decide +kernel
theorem d_Mod_whole_45 : decode b_Mod_whole 45 = .ok (.iload_n 2, 1) := by decide +kernel
theorem d_Mod_whole_46 : decode b_Mod_whole 46 = .ok (.ldc 82, 2) := by decide +kernel
theorem d_Mod_whole_48 : decode b_Mod_whole 48 = .ok (.irem, 1) := by decide +kernel
theorem d_Mod_whole_49 : decode b_Mod_whole 49 = .ok (.sipush 256, 3) := by decide +kernel
theorem d_Mod_whole_52 : decode b_Mod_whole 52 = .ok (.aload_n 0, 1) := by decide +kernel
theorem d_Mod_whole_53 : decode b_Mod_whole 53 = .ok (.getfield 50, 3) := by decide +kernel
theorem d_Mod_whole_56 : decode b_Mod_whole 56 = .ok (.sipush 6247, 3) := by decide +kernel
theorem d_Mod_whole_59 : decode b_Mod_whole 59 = .ok (.iload_n 1, 1) := by decide +kernel
theorem d_Mod_whole_60 : decode b_Mod_whole 60 = .ok (.imul, 1) := by decide +kernel
theorem d_Mod_whole_61 : decode b_Mod_whole 61 = .ok (.aload_n 0, 1) := by decide +kernel
theorem d_Mod_whole_62 : decode b_Mod_whole 62 = .ok (.getfield 154, 3) := by decide +kernel
theorem d_Mod_whole_65 : decode b_Mod_whole 65 = .ok (.iadd, 1) := by decide +kernel
theorem d_Mod_whole_66 : decode b_Mod_whole 66 = .ok (.iaload, 1) := by decide +kernel
theorem d_Mod_whole_67 : decode b_Mod_whole 67 = .ok (.imul, 1) := by decide +kernel
theorem d_Mod_whole_68 : decode b_Mod_whole 68 = .ok (.aload_n 0, 1) := by decide +kernel
theorem d_Mod_whole_69 : decode b_Mod_whole 69 = .ok (.getfield 50, 3) := by decide +kernel
theorem d_Mod_whole_72 : decode b_Mod_whole 72 = .ok (.sipush 6247, 3) := by decide +kernel
theorem d_Mod_whole_75 : decode b_Mod_whole 75 = .ok (.iload_n 1, 1) := by decide +kernel
theorem d_Mod_whole_76 : decode b_Mod_whole 76 = .ok (.imul, 1) := by decide +kernel
theorem d_Mod_whole_77 : decode b_Mod_whole 77 = .ok (.aload_n 0, 1) := by decide +kernel
theorem d_Mod_whole_78 : decode b_Mod_whole 78 = .ok (.getfield 154, 3) := by decide +kernel
theorem d_Mod_whole_81 : decode b_Mod_whole 81 = .ok (.iadd, 1) := by decide +kernel
theorem d_Mod_whole_82 : decode b_Mod_whole 82 = .ok (.iconst 1, 1) := by decide +kernel
theorem d_Mod_whole_83 : decode b_Mod_whole 83 = .ok (.iadd, 1) := by decide +kernel
theorem d_Mod_whole_84 : decode b_Mod_whole 84 = .ok (.iaload, 1) := by decide +kernel
theorem d_Mod_whole_85 : decode b_Mod_whole 85 = .ok (.iadd, 1) := by decide +kernel
theorem d_Mod_whole_86 : decode b_Mod_whole 86 = .ok (.if_icmp .eq 5, 3) := by decide +kernel
theorem d_Mod_whole_89 : decode b_Mod_whole 89 = .ok (.iconst 0, 1) := by decide +kernel
theorem d_Mod_whole_90 : decode b_Mod_whole 90 = .ok (.ireturn, 1) := by decide +kernel
theorem d_Mod_whole_91 : decode b_Mod_whole 91 = .ok (.aload_n 0, 1) := by decide +kernel
theorem d_Mod_whole_92 : decode b_Mod_whole 92 = .ok (.bipush 8, 2) := by decide +kernel
theorem d_Mod_whole_94 : decode b_Mod_whole 94 = .ok (.iconst 2, 1) := by decide +kernel
theorem d_Mod_whole_95 : decode b_Mod_whole 95 = .ok (.iload_n 1, 1) := by decide +kernel
theorem d_Mod_whole_96 : decode b_Mod_whole 96 = .ok (.iadd, 1) := by decide +kernel
theorem d_Mod_whole_97 : decode b_Mod_whole 97 = .ok (.invokevirtual 91, 3) := by decide +kernel
theorem d_Mod_whole_100 : decode b_Mod_whole 100 = .ok (.aload_n 0, 1) := by decide +kernel
theorem d_Mod_whole_101 : decode b_Mod_whole 101 = .ok (.iconst 3, 1) := by decide +kernel
theorem d_Mod_whole_102 : decode b_Mod_whole 102 = .ok (.putfield 151, 3) := by decide +kernel
theorem d_Mod_whole_105 : decode b_Mod_whole 105 = .ok (.aload_n 0, 1) := by decide +kernel
theorem d_Mod_whole_106 : decode b_Mod_whole 106 = .ok (.iload_n 1, 1) := by decide +kernel
theorem d_Mod_whole_107 : decode b_Mod_whole 107 = .ok (.invokevirtual 160, 3) := by decide +kernel
theorem d_Mod_whole_110 : decode b_Mod_whole 110 = .ok (.istore_n 3, 1) := by decide +kernel
theorem d_Mod_whole_111 : decode b_Mod_whole 111 = .ok (.aload_n 0, 1) := by decide +kernel
theorem d_Mod_whole_112 : decode b_Mod_whole 112 = .ok (.getfield 151, 3) := by decide +kernel
theorem d_Mod_whole_115 : decode b_Mod_whole 115 = .ok (.aload_n 0, 1) := by decide +kernel
theorem d_Mod_whole_116 : decode b_Mod_whole 116 = .ok (.getfield 154, 3) := by decide +kernel
theorem d_Mod_whole_119 : decode b_Mod_whole 119 = .ok (.if_icmp .ge 107, 3) := by decide +kernel
theorem d_Mod_whole_122 : decode b_Mod_whole 122 = .ok (.aload_n 0, 1) := by decide +kernel
theorem d_Mod_whole_123 : decode b_Mod_whole 123 = .ok (.iload_n 1, 1) := by decide +kernel
theorem d_Mod_whole_124 : decode b_Mod_whole 124 = .ok (.invokevirtual 157, 3) := by decide +kernel
theorem d_Mod_whole_127 : decode b_Mod_whole 127 = .ok (.istore 4, 2) := by decide +kernel
theorem d_Mod_whole_129 : decode b_Mod_whole 129 = .ok (.aload_n 0, 1) := by decide +kernel
theorem d_Mod_whole_130 : decode b_Mod_whole 130 = .ok (.iload_n 1, 1) := by decide +kernel
theorem d_Mod_whole_131 : decode b_Mod_whole 131 = .ok (.invokevirtual 157, 3) := by decide +kernel
theorem d_Mod_whole_134 : decode b_Mod_whole 134 = .ok (.istore 5, 2) := by decide +kernel
theorem d_Mod_whole_136 : decode b_Mod_whole 136 = .ok (.aload_n 0, 1) := by decide +kernel
theorem d_Mod_whole_137 : decode b_Mod_whole 137 = .ok (.getfield 151, 3) := by decide +kernel
theorem d_Mod_whole_140 : decode b_Mod_whole 140 = .ok (.aload_n 0, 1) := by decide +kernel
theorem d_Mod_whole_141 : decode b_Mod_whole 141 = .ok (.getfield 154, 3) := by decide +kernel
theorem d_Mod_whole_144 : decode b_Mod_whole 144 = .ok (.if_icmp .gt 27, 3) := by decide +kernel
theorem d_Mod_whole_147 : decode b_Mod_whole 147 = .ok (.iload 4, 2) := by decide +kernel
theorem d_Mod_whole_149 : decode b_Mod_whole 149 = .ok (.bipush 6, 2) := by decide +kernel
theorem d_Mod_whole_151 : decode b_Mod_whole 151 = .ok (.if_icmp .gt 20, 3) := by decide +kernel
theorem d_Mod_whole_154 : decode b_Mod_whole 154 = .ok (.iload 5, 2) := by decide +kernel
theorem d_Mod_whole_156 : decode b_Mod_whole 156 = .ok (.bipush 48, 2) := by decide +kernel
theorem d_Mod_whole_158 : decode b_Mod_whole 158 = .ok (.if_icmp .ge 13, 3) := by decide +kernel
theorem d_Mod_whole_161 : decode b_Mod_whole 161 = .ok (.aload_n 0, 1) := by decide +kernel
theorem d_Mod_whole_162 : decode b_Mod_whole 162 = .ok (.iload_n 1, 1) := by decide +kernel
theorem d_Mod_whole_163 : decode b_Mod_whole 163 = .ok (.iload 4, 2) := by decide +kernel
theorem d_Mod_whole_165 : decode b_Mod_whole 165 = .ok (.invokevirtual 169, 3) := by decide +kernel
theorem d_Mod_whole_168 : decode b_Mod_whole 168 = .ok (.ifCond .ne 5, 3) := by decide +kernel
theorem d_Mod_whole_171 : decode b_Mod_whole 171 = .ok (.iconst 0, 1) := by decide +kernel
theorem d_Mod_whole_172 : decode b_Mod_whole 172 = .ok (.ireturn, 1) := by decide +kernel
theorem d_Mod_whole_173 : decode b_Mod_whole 173 = .ok (.iconst 0, 1) := by decide +kernel
theorem d_Mod_whole_174 : decode b_Mod_whole 174 = .ok (.istore 6, 2) := by decide +kernel
theorem d_Mod_whole_176 : decode b_Mod_whole 176 = .ok (.iload 6, 2) := by decide +kernel
theorem d_Mod_whole_178 : decode b_Mod_whole 178 = .ok (.bipush 64, 2) := by decide +kernel
theorem d_Mod_whole_180 : decode b_Mod_whole 180 = .ok (.if_icmp .ge 30, 3) := by decide +kernel
theorem d_Mod_whole_183 : decode b_Mod_whole 183 = .ok (.aload_n 0, 1) := by decide +kernel
theorem d_Mod_whole_184 : decode b_Mod_whole 184 = .ok (.getfield 7, 3) := by decide +kernel
theorem d_Mod_whole_187 : decode b_Mod_whole 187 = .ok (.bipush 8, 2) := by decide +kernel
theorem d_Mod_whole_189 : decode b_Mod_whole 189 = .ok (.iload 5, 2) := by decide +kernel
theorem d_Mod_whole_191 : decode b_Mod_whole 191 = .ok (.iload 6, 2) := by decide +kernel
theorem d_Mod_whole_193 : decode b_Mod_whole 193 = .ok (.invokestatic 78, 3) := by decide +kernel
theorem d_Mod_whole_196 : decode b_Mod_whole 196 = .ok (.aload_n 0, 1) := by decide +kernel
theorem d_Mod_whole_197 : decode b_Mod_whole 197 = .ok (.getfield 65, 3) := by decide +kernel
theorem d_Mod_whole_200 : decode b_Mod_whole 200 = .ok (.iload 6, 2) := by decide +kernel
theorem d_Mod_whole_202 : decode b_Mod_whole 202 = .ok (.iaload, 1) := by decide +kernel
theorem d_Mod_whole_203 : decode b_Mod_whole 203 = .ok (.iastore, 1) := by decide +kernel
theorem d_Mod_whole_204 : decode b_Mod_whole 204 = .ok (.iinc 6 1, 3) := by decide +kernel
theorem d_Mod_whole_207 : decode b_Mod_whole 207 = .ok (.goto (-31), 3) := by decide +kernel
theorem d_Mod_whole_210 : decode b_Mod_whole 210 = .ok (.iload 4, 2) := by decide +kernel
theorem d_Mod_whole_212 : decode b_Mod_whole 212 = .ok (.iconst 2, 1) := by decide +kernel
theorem d_Mod_whole_213 : decode b_Mod_whole 213 = .ok (.if_icmp .le 10, 3) := by decide +kernel
theorem d_Mod_whole_216 : decode b_Mod_whole 216 = .ok (.aload_n 0, 1) := by decide +kernel
theorem d_Mod_whole_217 : decode b_Mod_whole 217 = .ok (.iconst 3, 1) := by decide +kernel
theorem d_Mod_whole_218 : decode b_Mod_whole 218 = .ok (.iload_n 1, 1) := by decide +kernel
theorem d_Mod_whole_219 : decode b_Mod_whole 219 = .ok (.iadd, 1) := by decide +kernel
theorem d_Mod_whole_220 : decode b_Mod_whole 220 = .ok (.invokevirtual 148, 3) := by decide +kernel
theorem d_Mod_whole_223 : decode b_Mod_whole 223 = .ok (.goto (-112), 3) := by decide +kernel
theorem d_Mod_whole_226 : decode b_Mod_whole 226 = .ok (.aload_n 0, 1) := by decide +kernel
theorem d_Mod_whole_227 : decode b_Mod_whole 227 = .ok (.iconst 2, 1) := by decide +kernel
theorem d_Mod_whole_228 : decode b_Mod_whole 228 = .ok (.iload_n 1, 1) := by decide +kernel
theorem d_Mod_whole_229 : decode b_Mod_whole 229 = .ok (.iadd, 1) := by decide +kernel
theorem d_Mod_whole_230 : decode b_Mod_whole 230 = .ok (.bipush 8, 2) := by decide +kernel
theorem d_Mod_whole_232 : decode b_Mod_whole 232 = .ok (.invokevirtual 91, 3) := by decide +kernel
theorem d_Mod_whole_235 : decode b_Mod_whole 235 = .ok (.aload_n 0, 1) := by decide +kernel
theorem d_Mod_whole_236 : decode b_Mod_whole 236 = .ok (.getfield 26, 3) := by decide +kernel
theorem d_Mod_whole_239 : decode b_Mod_whole 239 = .ok (.iload_n 1, 1) := by decide +kernel
theorem d_Mod_whole_240 : decode b_Mod_whole 240 = .ok (.dup2, 1) := by decide +kernel
theorem d_Mod_whole_241 : decode b_Mod_whole 241 = .ok (.iaload, 1) := by decide +kernel
theorem d_Mod_whole_242 : decode b_Mod_whole 242 = .ok (.iconst 1, 1) := by decide +kernel
theorem d_Mod_whole_243 : decode b_Mod_whole 243 = .ok (.iadd, 1) := by decide +kernel
theorem d_Mod_whole_244 : decode b_Mod_whole 244 = .ok (.iastore, 1) := by decide +kernel
theorem d_Mod_whole_245 : decode b_Mod_whole 245 = .ok (.aload_n 0, 1) := by decide +kernel
theorem d_Mod_whole_246 : decode b_Mod_whole 246 = .ok (.getfield 26, 3) := by decide +kernel
theorem d_Mod_whole_249 : decode b_Mod_whole 249 = .ok (.iload_n 1, 1) := by decide +kernel
theorem d_Mod_whole_250 : decode b_Mod_whole 250 = .ok (.iaload, 1) := by decide +kernel
theorem d_Mod_whole_251 : decode b_Mod_whole 251 = .ok (.ldc 82, 2) := by decide +kernel
theorem d_Mod_whole_253 : decode b_Mod_whole 253 = .ok (.irem, 1) := by decide +kernel
theorem d_Mod_whole_254 : decode b_Mod_whole 254 = .ok (.iload_n 3, 1) := by decide +kernel
theorem d_Mod_whole_255 : decode b_Mod_whole 255 = .ok (.if_icmp .eq 16, 3) := by decide +kernel
theorem d_Mod_whole_258 : decode b_Mod_whole 258 = .ok (.aload_n 0, 1) := by decide +kernel
theorem d_Mod_whole_259 : decode b_Mod_whole 259 = .ok (.getfield 26, 3) := by decide +kernel
theorem d_Mod_whole_262 : decode b_Mod_whole 262 = .ok (.iload_n 1, 1) := by decide +kernel
theorem d_Mod_whole_263 : decode b_Mod_whole 263 = .ok (.dup2, 1) := by decide +kernel
theorem d_Mod_whole_264 : decode b_Mod_whole 264 = .ok (.iaload, 1) := by decide +kernel
theorem d_Mod_whole_265 : decode b_Mod_whole 265 = .ok (.iconst 1, 1) := by decide +kernel
theorem d_Mod_whole_266 : decode b_Mod_whole 266 = .ok (.iadd, 1) := by decide +kernel
theorem d_Mod_whole_267 : decode b_Mod_whole 267 = .ok (.iastore, 1) := by decide +kernel
theorem d_Mod_whole_268 : decode b_Mod_whole 268 = .ok (.goto (-23), 3) := by decide +kernel
theorem d_Mod_whole_271 : decode b_Mod_whole 271 = .ok (.aload_n 0, 1) := by decide +kernel
theorem d_Mod_whole_272 : decode b_Mod_whole 272 = .ok (.getfield 53, 3) := by decide +kernel
theorem d_Mod_whole_275 : decode b_Mod_whole 275 = .ok (.iload_n 1, 1) := by decide +kernel
theorem d_Mod_whole_276 : decode b_Mod_whole 276 = .ok (.iconst 0, 1) := by decide +kernel
theorem d_Mod_whole_277 : decode b_Mod_whole 277 = .ok (.iastore, 1) := by decide +kernel
theorem d_Mod_whole_278 : decode b_Mod_whole 278 = .ok (.iconst 1, 1) := by decide +kernel
theorem d_Mod_whole_279 : decode b_Mod_whole 279 = .ok (.ireturn, 1) := by decide +kernel
theorem d_Mod_take_0 : decode b_Mod_take 0 = .ok (.iload_n 2, 1) := by decide +kernel
theorem d_Mod_take_1 : decode b_Mod_take 1 = .ok (.istore_n 3, 1) := by decide +kernel
theorem d_Mod_take_2 : decode b_Mod_take 2 = .ok (.iconst 0, 1) := by decide +kernel
theorem d_Mod_take_3 : decode b_Mod_take 3 = .ok (.istore 4, 2) := by decide +kernel
theorem d_Mod_take_5 : decode b_Mod_take 5 = .ok (.iconst 0, 1) := by decide +kernel
theorem d_Mod_take_6 : decode b_Mod_take 6 = .ok (.istore 5, 2) := by decide +kernel
theorem d_Mod_take_8 : decode b_Mod_take 8 = .ok (.iload 5, 2) := by decide +kernel
theorem d_Mod_take_10 : decode b_Mod_take 10 = .ok (.aload_n 0, 1) := by decide +kernel
theorem d_Mod_take_11 : decode b_Mod_take 11 = .ok (.getfield 62, 3) := by decide +kernel
theorem d_Mod_take_14 : decode b_Mod_take 14 = .ok (.iload_n 1, 1) := by decide +kernel
theorem d_Mod_take_15 : decode b_Mod_take 15 = .ok (.iaload, 1) := by decide +kernel
theorem d_Mod_take_16 : decode b_Mod_take 16 = .ok (.if_icmp .ge 89, 3) := by decide +kernel
theorem d_Mod_take_19 : decode b_Mod_take 19 = .ok (.aload_n 0, 1) := by decide +kernel
theorem d_Mod_take_20 : decode b_Mod_take 20 = .ok (.getfield 56, 3) := by decide +kernel
theorem d_Mod_take_23 : decode b_Mod_take 23 = .ok (.bipush 8, 2) := by decide +kernel
theorem d_Mod_take_25 : decode b_Mod_take 25 = .ok (.iload_n 1, 1) := by decide +kernel
theorem d_Mod_take_26 : decode b_Mod_take 26 = .ok (.imul, 1) := by decide +kernel
theorem d_Mod_take_27 : decode b_Mod_take 27 = .ok (.iload 5, 2) := by decide +kernel
theorem d_Mod_take_29 : decode b_Mod_take 29 = .ok (.iadd, 1) := by decide +kernel
theorem d_Mod_take_30 : decode b_Mod_take 30 = .ok (.iaload, 1) := by decide +kernel
theorem d_Mod_take_31 : decode b_Mod_take 31 = .ok (.iconst 1, 1) := by decide +kernel
theorem d_Mod_take_32 : decode b_Mod_take 32 = .ok (.isub, 1) := by decide +kernel
theorem d_Mod_take_33 : decode b_Mod_take 33 = .ok (.istore 6, 2) := by decide +kernel
theorem d_Mod_take_35 : decode b_Mod_take 35 = .ok (.iload 6, 2) := by decide +kernel
theorem d_Mod_take_37 : decode b_Mod_take 37 = .ok (.ifCond .ne 21, 3) := by decide +kernel
theorem d_Mod_take_40 : decode b_Mod_take 40 = .ok (.iload_n 3, 1) := by decide +kernel
theorem d_Mod_take_41 : decode b_Mod_take 41 = .ok (.aload_n 0, 1) := by decide +kernel
theorem d_Mod_take_42 : decode b_Mod_take 42 = .ok (.getfield 59, 3) := by decide +kernel
theorem d_Mod_take_45 : decode b_Mod_take 45 = .ok (.bipush 8, 2) := by decide +kernel
theorem d_Mod_take_47 : decode b_Mod_take 47 = .ok (.iload_n 1, 1) := by decide +kernel
theorem d_Mod_take_48 : decode b_Mod_take 48 = .ok (.imul, 1) := by decide +kernel
theorem d_Mod_take_49 : decode b_Mod_take 49 = .ok (.iload 5, 2) := by decide +kernel
theorem d_Mod_take_51 : decode b_Mod_take 51 = .ok (.iadd, 1) := by decide +kernel
theorem d_Mod_take_52 : decode b_Mod_take 52 = .ok (.iaload, 1) := by decide +kernel
theorem d_Mod_take_53 : decode b_Mod_take 53 = .ok (.ixor, 1) := by decide +kernel
theorem d_Mod_take_54 : decode b_Mod_take 54 = .ok (.istore_n 3, 1) := by decide +kernel
theorem d_Mod_take_55 : decode b_Mod_take 55 = .ok (.goto 44, 3) := by decide +kernel
theorem d_Mod_take_58 : decode b_Mod_take 58 = .ok (.aload_n 0, 1) := by decide +kernel
theorem d_Mod_take_59 : decode b_Mod_take 59 = .ok (.getfield 56, 3) := by decide +kernel
theorem d_Mod_take_62 : decode b_Mod_take 62 = .ok (.bipush 8, 2) := by decide +kernel
theorem d_Mod_take_64 : decode b_Mod_take 64 = .ok (.iload_n 1, 1) := by decide +kernel
theorem d_Mod_take_65 : decode b_Mod_take 65 = .ok (.imul, 1) := by decide +kernel
theorem d_Mod_take_66 : decode b_Mod_take 66 = .ok (.iload 4, 2) := by decide +kernel
theorem d_Mod_take_68 : decode b_Mod_take 68 = .ok (.iadd, 1) := by decide +kernel
theorem d_Mod_take_69 : decode b_Mod_take 69 = .ok (.iload 6, 2) := by decide +kernel
theorem d_Mod_take_71 : decode b_Mod_take 71 = .ok (.iastore, 1) := by decide +kernel
theorem d_Mod_take_72 : decode b_Mod_take 72 = .ok (.aload_n 0, 1) := by decide +kernel
theorem d_Mod_take_73 : decode b_Mod_take 73 = .ok (.getfield 59, 3) := by decide +kernel
theorem d_Mod_take_76 : decode b_Mod_take 76 = .ok (.bipush 8, 2) := by decide +kernel
theorem d_Mod_take_78 : decode b_Mod_take 78 = .ok (.iload_n 1, 1) := by decide +kernel
theorem d_Mod_take_79 : decode b_Mod_take 79 = .ok (.imul, 1) := by decide +kernel
theorem d_Mod_take_80 : decode b_Mod_take 80 = .ok (.iload 4, 2) := by decide +kernel
theorem d_Mod_take_82 : decode b_Mod_take 82 = .ok (.iadd, 1) := by decide +kernel
theorem d_Mod_take_83 : decode b_Mod_take 83 = .ok (.aload_n 0, 1) := by decide +kernel
theorem d_Mod_take_84 : decode b_Mod_take 84 = .ok (.getfield 59, 3) := by decide +kernel
theorem d_Mod_take_87 : decode b_Mod_take 87 = .ok (.bipush 8, 2) := by decide +kernel
theorem d_Mod_take_89 : decode b_Mod_take 89 = .ok (.iload_n 1, 1) := by decide +kernel
theorem d_Mod_take_90 : decode b_Mod_take 90 = .ok (.imul, 1) := by decide +kernel
theorem d_Mod_take_91 : decode b_Mod_take 91 = .ok (.iload 5, 2) := by decide +kernel
theorem d_Mod_take_93 : decode b_Mod_take 93 = .ok (.iadd, 1) := by decide +kernel
theorem d_Mod_take_94 : decode b_Mod_take 94 = .ok (.iaload, 1) := by decide +kernel
theorem d_Mod_take_95 : decode b_Mod_take 95 = .ok (.iastore, 1) := by decide +kernel
theorem d_Mod_take_96 : decode b_Mod_take 96 = .ok (.iinc 4 1, 3) := by decide +kernel
theorem d_Mod_take_99 : decode b_Mod_take 99 = .ok (.iinc 5 1, 3) := by decide +kernel
theorem d_Mod_take_102 : decode b_Mod_take 102 = .ok (.goto (-94), 3) := by decide +kernel
theorem d_Mod_take_105 : decode b_Mod_take 105 = .ok (.aload_n 0, 1) := by decide +kernel
theorem d_Mod_take_106 : decode b_Mod_take 106 = .ok (.getfield 62, 3) := by decide +kernel
theorem d_Mod_take_109 : decode b_Mod_take 109 = .ok (.iload_n 1, 1) := by decide +kernel
theorem d_Mod_take_110 : decode b_Mod_take 110 = .ok (.iload 4, 2) := by decide +kernel
theorem d_Mod_take_112 : decode b_Mod_take 112 = .ok (.iastore, 1) := by decide +kernel
theorem d_Mod_take_113 : decode b_Mod_take 113 = .ok (.aload_n 0, 1) := by decide +kernel
theorem d_Mod_take_114 : decode b_Mod_take 114 = .ok (.getfield 50, 3) := by decide +kernel
theorem d_Mod_take_117 : decode b_Mod_take 117 = .ok (.sipush 6247, 3) := by decide +kernel
theorem d_Mod_take_120 : decode b_Mod_take 120 = .ok (.iload_n 1, 1) := by decide +kernel
theorem d_Mod_take_121 : decode b_Mod_take 121 = .ok (.imul, 1) := by decide +kernel
theorem d_Mod_take_122 : decode b_Mod_take 122 = .ok (.aload_n 0, 1) := by decide +kernel
theorem d_Mod_take_123 : decode b_Mod_take 123 = .ok (.getfield 53, 3) := by decide +kernel
theorem d_Mod_take_126 : decode b_Mod_take 126 = .ok (.iload_n 1, 1) := by decide +kernel
theorem d_Mod_take_127 : decode b_Mod_take 127 = .ok (.iaload, 1) := by decide +kernel
theorem d_Mod_take_128 : decode b_Mod_take 128 = .ok (.iadd, 1) := by decide +kernel
theorem d_Mod_take_129 : decode b_Mod_take 129 = .ok (.iload_n 3, 1) := by decide +kernel
theorem d_Mod_take_130 : decode b_Mod_take 130 = .ok (.iastore, 1) := by decide +kernel
theorem d_Mod_take_131 : decode b_Mod_take 131 = .ok (.aload_n 0, 1) := by decide +kernel
theorem d_Mod_take_132 : decode b_Mod_take 132 = .ok (.getfield 53, 3) := by decide +kernel
theorem d_Mod_take_135 : decode b_Mod_take 135 = .ok (.iload_n 1, 1) := by decide +kernel
theorem d_Mod_take_136 : decode b_Mod_take 136 = .ok (.dup2, 1) := by decide +kernel
theorem d_Mod_take_137 : decode b_Mod_take 137 = .ok (.iaload, 1) := by decide +kernel
theorem d_Mod_take_138 : decode b_Mod_take 138 = .ok (.iconst 1, 1) := by decide +kernel
theorem d_Mod_take_139 : decode b_Mod_take 139 = .ok (.iadd, 1) := by decide +kernel
theorem d_Mod_take_140 : decode b_Mod_take 140 = .ok (.iastore, 1) := by decide +kernel
theorem d_Mod_take_141 : decode b_Mod_take 141 = .ok (.aload_n 0, 1) := by decide +kernel
theorem d_Mod_take_142 : decode b_Mod_take 142 = .ok (.getfield 53, 3) := by decide +kernel
theorem d_Mod_take_145 : decode b_Mod_take 145 = .ok (.iload_n 1, 1) := by decide +kernel
theorem d_Mod_take_146 : decode b_Mod_take 146 = .ok (.iaload, 1) := by decide +kernel
theorem d_Mod_take_147 : decode b_Mod_take 147 = .ok (.iconst 3, 1) := by decide +kernel
theorem d_Mod_take_148 : decode b_Mod_take 148 = .ok (.if_icmp .ge 5, 3) := by decide +kernel
theorem d_Mod_take_151 : decode b_Mod_take 151 = .ok (.iconst 1, 1) := by decide +kernel
theorem d_Mod_take_152 : decode b_Mod_take 152 = .ok (.ireturn, 1) := by decide +kernel
theorem d_Mod_take_153 : decode b_Mod_take 153 = .ok (.ldc 82, 2) := by decide +kernel
theorem d_Mod_take_155 : decode b_Mod_take 155 = .ok (.aload_n 0, 1) := by decide +kernel
theorem d_Mod_take_156 : decode b_Mod_take 156 = .ok (.getfield 50, 3) := by decide +kernel
theorem d_Mod_take_159 : decode b_Mod_take 159 = .ok (.sipush 6247, 3) := by decide +kernel
theorem d_Mod_take_162 : decode b_Mod_take 162 = .ok (.iload_n 1, 1) := by decide +kernel
theorem d_Mod_take_163 : decode b_Mod_take 163 = .ok (.imul, 1) := by decide +kernel
theorem d_Mod_take_164 : decode b_Mod_take 164 = .ok (.iaload, 1) := by decide +kernel
theorem d_Mod_take_165 : decode b_Mod_take 165 = .ok (.imul, 1) := by decide +kernel
theorem d_Mod_take_166 : decode b_Mod_take 166 = .ok (.sipush 256, 3) := by decide +kernel
theorem d_Mod_take_169 : decode b_Mod_take 169 = .ok (.aload_n 0, 1) := by decide +kernel
theorem d_Mod_take_170 : decode b_Mod_take 170 = .ok (.getfield 50, 3) := by decide +kernel
theorem d_Mod_take_173 : decode b_Mod_take 173 = .ok (.sipush 6247, 3) := by decide +kernel
theorem d_Mod_take_176 : decode b_Mod_take 176 = .ok (.iload_n 1, 1) := by decide +kernel
theorem d_Mod_take_177 : decode b_Mod_take 177 = .ok (.imul, 1) := by decide +kernel
theorem d_Mod_take_178 : decode b_Mod_take 178 = .ok (.iconst 1, 1) := by decide +kernel
theorem d_Mod_take_179 : decode b_Mod_take 179 = .ok (.iadd, 1) := by decide +kernel
theorem d_Mod_take_180 : decode b_Mod_take 180 = .ok (.iaload, 1) := by decide +kernel
theorem d_Mod_take_181 : decode b_Mod_take 181 = .ok (.imul, 1) := by decide +kernel
theorem d_Mod_take_182 : decode b_Mod_take 182 = .ok (.iadd, 1) := by decide +kernel
theorem d_Mod_take_183 : decode b_Mod_take 183 = .ok (.aload_n 0, 1) := by decide +kernel
theorem d_Mod_take_184 : decode b_Mod_take 184 = .ok (.getfield 50, 3) := by decide +kernel
theorem d_Mod_take_187 : decode b_Mod_take 187 = .ok (.sipush 6247, 3) := by decide +kernel
theorem d_Mod_take_190 : decode b_Mod_take 190 = .ok (.iload_n 1, 1) := by decide +kernel
theorem d_Mod_take_191 : decode b_Mod_take 191 = .ok (.imul, 1) := by decide +kernel
theorem d_Mod_take_192 : decode b_Mod_take 192 = .ok (.iconst 2, 1) := by decide +kernel
theorem d_Mod_take_193 : decode b_Mod_take 193 = .ok (.iadd, 1) := by decide +kernel
theorem d_Mod_take_194 : decode b_Mod_take 194 = .ok (.iaload, 1) := by decide +kernel
theorem d_Mod_take_195 : decode b_Mod_take 195 = .ok (.iadd, 1) := by decide +kernel
theorem d_Mod_take_196 : decode b_Mod_take 196 = .ok (.istore 5, 2) := by decide +kernel
theorem d_Mod_take_198 : decode b_Mod_take 198 = .ok (.iload 5, 2) := by decide +kernel
theorem d_Mod_take_200 : decode b_Mod_take 200 = .ok (.iconst 4, 1) := by decide +kernel
theorem d_Mod_take_201 : decode b_Mod_take 201 = .ok (.if_icmp .lt 11, 3) := by decide +kernel
theorem d_Mod_take_204 : decode b_Mod_take 204 = .ok (.iload 5, 2) := by decide +kernel
theorem d_Mod_take_206 : decode b_Mod_take 206 = .ok (.sipush 6244, 3) := by decide +kernel
theorem d_Mod_take_209 : decode b_Mod_take 209 = .ok (.if_icmp .le 5, 3) := by decide +kernel
theorem d_Mod_take_212 : decode b_Mod_take 212 = .ok (.iconst 0, 1) := by decide +kernel
theorem d_Mod_take_213 : decode b_Mod_take 213 = .ok (.ireturn, 1) := by decide +kernel
theorem d_Mod_take_214 : decode b_Mod_take 214 = .ok (.aload_n 0, 1) := by decide +kernel
theorem d_Mod_take_215 : decode b_Mod_take 215 = .ok (.getfield 53, 3) := by decide +kernel
theorem d_Mod_take_218 : decode b_Mod_take 218 = .ok (.iload_n 1, 1) := by decide +kernel
theorem d_Mod_take_219 : decode b_Mod_take 219 = .ok (.iaload, 1) := by decide +kernel
theorem d_Mod_take_220 : decode b_Mod_take 220 = .ok (.iload 5, 2) := by decide +kernel
theorem d_Mod_take_222 : decode b_Mod_take 222 = .ok (.iconst 3, 1) := by decide +kernel
theorem d_Mod_take_223 : decode b_Mod_take 223 = .ok (.iadd, 1) := by decide +kernel
theorem d_Mod_take_224 : decode b_Mod_take 224 = .ok (.if_icmp .lt 11, 3) := by decide +kernel
theorem d_Mod_take_227 : decode b_Mod_take 227 = .ok (.aload_n 0, 1) := by decide +kernel
theorem d_Mod_take_228 : decode b_Mod_take 228 = .ok (.iload_n 1, 1) := by decide +kernel
theorem d_Mod_take_229 : decode b_Mod_take 229 = .ok (.invokevirtual 173, 3) := by decide +kernel
theorem d_Mod_take_232 : decode b_Mod_take 232 = .ok (.ifCond .eq 7, 3) := by decide +kernel
theorem d_Mod_take_235 : decode b_Mod_take 235 = .ok (.iconst 1, 1) := by decide +kernel
theorem d_Mod_take_236 : decode b_Mod_take 236 = .ok (.goto 4, 3) := by decide +kernel
theorem d_Mod_take_239 : decode b_Mod_take 239 = .ok (.iconst 0, 1) := by decide +kernel
theorem d_Mod_take_240 : decode b_Mod_take 240 = .ok (.ireturn, 1) := by decide +kernel
theorem d_Mod_pump_0 : decode b_Mod_pump 0 = .ok (.aload_n 0, 1) := by decide +kernel
theorem d_Mod_pump_1 : decode b_Mod_pump 1 = .ok (.iconst 0, 1) := by decide +kernel
theorem d_Mod_pump_2 : decode b_Mod_pump 2 = .ok (.putfield 74, 3) := by decide +kernel
theorem d_Mod_pump_5 : decode b_Mod_pump 5 = .ok (.iload_n 1, 1) := by decide +kernel
theorem d_Mod_pump_6 : decode b_Mod_pump 6 = .ok (.invokestatic 99, 3) := by decide +kernel
theorem d_Mod_pump_9 : decode b_Mod_pump 9 = .ok (.ifCond .ne 5, 3) := by decide +kernel
theorem d_Mod_pump_12 : decode b_Mod_pump 12 = .ok (.iconst (-1), 1) := by decide +kernel
theorem d_Mod_pump_13 : decode b_Mod_pump 13 = .ok (.ireturn, 1) := by decide +kernel
theorem d_Mod_pump_14 : decode b_Mod_pump 14 = .ok (.iconst 0, 1) := by decide +kernel
theorem d_Mod_pump_15 : decode b_Mod_pump 15 = .ok (.istore_n 2, 1) := by decide +kernel
theorem d_Mod_pump_16 : decode b_Mod_pump 16 = .ok (.aload_n 0, 1) := by decide +kernel
theorem d_Mod_pump_17 : decode b_Mod_pump 17 = .ok (.getfield 23, 3) := by decide +kernel
theorem d_Mod_pump_20 : decode b_Mod_pump 20 = .ok (.iload_n 1, 1) := by decide +kernel
theorem d_Mod_pump_21 : decode b_Mod_pump 21 = .ok (.baload, 1) := by decide +kernel
theorem d_Mod_pump_22 : decode b_Mod_pump 22 = .ok (.ifCond .eq 120, 3) := by decide +kernel
theorem d_Mod_pump_25 : decode b_Mod_pump 25 = .ok (.aload_n 0, 1) := by decide +kernel
theorem d_Mod_pump_26 : decode b_Mod_pump 26 = .ok (.getfield 32, 3) := by decide +kernel
theorem d_Mod_pump_29 : decode b_Mod_pump 29 = .ok (.iload_n 1, 1) := by decide +kernel
theorem d_Mod_pump_30 : decode b_Mod_pump 30 = .ok (.iaload, 1) := by decide +kernel
theorem d_Mod_pump_31 : decode b_Mod_pump 31 = .ok (.ifCond .le 111, 3) := by decide +kernel
theorem d_Mod_pump_34 : decode b_Mod_pump 34 = .ok (.aload_n 0, 1) := by decide +kernel
theorem d_Mod_pump_35 : decode b_Mod_pump 35 = .ok (.getfield 47, 3) := by decide +kernel
theorem d_Mod_pump_38 : decode b_Mod_pump 38 = .ok (.iload_n 1, 1) := by decide +kernel
theorem d_Mod_pump_39 : decode b_Mod_pump 39 = .ok (.iaload, 1) := by decide +kernel
theorem d_Mod_pump_40 : decode b_Mod_pump 40 = .ok (.aload_n 0, 1) := by decide +kernel
theorem d_Mod_pump_41 : decode b_Mod_pump 41 = .ok (.getfield 44, 3) := by decide +kernel
theorem d_Mod_pump_44 : decode b_Mod_pump 44 = .ok (.iload_n 1, 1) := by decide +kernel
theorem d_Mod_pump_45 : decode b_Mod_pump 45 = .ok (.iaload, 1) := by decide +kernel
theorem d_Mod_pump_46 : decode b_Mod_pump 46 = .ok (.if_icmp .ne 18, 3) := by decide +kernel
theorem d_Mod_pump_49 : decode b_Mod_pump 49 = .ok (.aload_n 0, 1) := by decide +kernel
theorem d_Mod_pump_50 : decode b_Mod_pump 50 = .ok (.getfield 29, 3) := by decide +kernel
theorem d_Mod_pump_53 : decode b_Mod_pump 53 = .ok (.iload_n 1, 1) := by decide +kernel
theorem d_Mod_pump_54 : decode b_Mod_pump 54 = .ok (.iaload, 1) := by decide +kernel
theorem d_Mod_pump_55 : decode b_Mod_pump 55 = .ok (.aload_n 0, 1) := by decide +kernel
theorem d_Mod_pump_56 : decode b_Mod_pump 56 = .ok (.getfield 96, 3) := by decide +kernel
theorem d_Mod_pump_59 : decode b_Mod_pump 59 = .ok (.if_icmp .ne 5, 3) := by decide +kernel
theorem d_Mod_pump_62 : decode b_Mod_pump 62 = .ok (.iload_n 2, 1) := by decide +kernel
theorem d_Mod_pump_63 : decode b_Mod_pump 63 = .ok (.ireturn, 1) := by decide +kernel
theorem d_Mod_pump_64 : decode b_Mod_pump 64 = .ok (.aload_n 0, 1) := by decide +kernel
theorem d_Mod_pump_65 : decode b_Mod_pump 65 = .ok (.getfield 47, 3) := by decide +kernel
theorem d_Mod_pump_68 : decode b_Mod_pump 68 = .ok (.iload_n 1, 1) := by decide +kernel
theorem d_Mod_pump_69 : decode b_Mod_pump 69 = .ok (.iaload, 1) := by decide +kernel
theorem d_Mod_pump_70 : decode b_Mod_pump 70 = .ok (.aload_n 0, 1) := by decide +kernel
theorem d_Mod_pump_71 : decode b_Mod_pump 71 = .ok (.getfield 44, 3) := by decide +kernel
theorem d_Mod_pump_74 : decode b_Mod_pump 74 = .ok (.iload_n 1, 1) := by decide +kernel
theorem d_Mod_pump_75 : decode b_Mod_pump 75 = .ok (.iaload, 1) := by decide +kernel
theorem d_Mod_pump_76 : decode b_Mod_pump 76 = .ok (.if_icmp .ne 8, 3) := by decide +kernel
theorem d_Mod_pump_79 : decode b_Mod_pump 79 = .ok (.aload_n 0, 1) := by decide +kernel
theorem d_Mod_pump_80 : decode b_Mod_pump 80 = .ok (.iload_n 1, 1) := by decide +kernel
theorem d_Mod_pump_81 : decode b_Mod_pump 81 = .ok (.invokevirtual 176, 3) := by decide +kernel
theorem d_Mod_pump_84 : decode b_Mod_pump 84 = .ok (.aload_n 0, 1) := by decide +kernel
theorem d_Mod_pump_85 : decode b_Mod_pump 85 = .ok (.getfield 41, 3) := by decide +kernel
theorem d_Mod_pump_88 : decode b_Mod_pump 88 = .ok (.sipush 6247, 3) := by decide +kernel
theorem d_Mod_pump_91 : decode b_Mod_pump 91 = .ok (.iload_n 1, 1) := by decide +kernel
theorem d_Mod_pump_92 : decode b_Mod_pump 92 = .ok (.imul, 1) := by decide +kernel
theorem d_Mod_pump_93 : decode b_Mod_pump 93 = .ok (.aload_n 0, 1) := by decide +kernel
theorem d_Mod_pump_94 : decode b_Mod_pump 94 = .ok (.getfield 47, 3) := by decide +kernel
theorem d_Mod_pump_97 : decode b_Mod_pump 97 = .ok (.iload_n 1, 1) := by decide +kernel
theorem d_Mod_pump_98 : decode b_Mod_pump 98 = .ok (.iaload, 1) := by decide +kernel
theorem d_Mod_pump_99 : decode b_Mod_pump 99 = .ok (.iadd, 1) := by decide +kernel
theorem d_Mod_pump_100 : decode b_Mod_pump 100 = .ok (.iaload, 1) := by decide +kernel
theorem d_Mod_pump_101 : decode b_Mod_pump 101 = .ok (.istore_n 3, 1) := by decide +kernel
theorem d_Mod_pump_102 : decode b_Mod_pump 102 = .ok (.aload_n 0, 1) := by decide +kernel
theorem d_Mod_pump_103 : decode b_Mod_pump 103 = .ok (.getfield 47, 3) := by decide +kernel
theorem d_Mod_pump_106 : decode b_Mod_pump 106 = .ok (.iload_n 1, 1) := by decide +kernel
theorem d_Mod_pump_107 : decode b_Mod_pump 107 = .ok (.dup2, 1) := by decide +kernel
theorem d_Mod_pump_108 : decode b_Mod_pump 108 = .ok (.iaload, 1) := by decide +kernel
theorem d_Mod_pump_109 : decode b_Mod_pump 109 = .ok (.iconst 1, 1) := by decide +kernel
theorem d_Mod_pump_110 : decode b_Mod_pump 110 = .ok (.iadd, 1) := by decide +kernel
theorem d_Mod_pump_111 : decode b_Mod_pump 111 = .ok (.iastore, 1) := by decide +kernel
theorem d_Mod_pump_112 : decode b_Mod_pump 112 = .ok (.aload_n 0, 1) := by decide +kernel
theorem d_Mod_pump_113 : decode b_Mod_pump 113 = .ok (.getfield 32, 3) := by decide +kernel
theorem d_Mod_pump_116 : decode b_Mod_pump 116 = .ok (.iload_n 1, 1) := by decide +kernel
theorem d_Mod_pump_117 : decode b_Mod_pump 117 = .ok (.dup2, 1) := by decide +kernel
theorem d_Mod_pump_118 : decode b_Mod_pump 118 = .ok (.iaload, 1) := by decide +kernel
theorem d_Mod_pump_119 : decode b_Mod_pump 119 = .ok (.iconst 1, 1) := by decide +kernel
theorem d_Mod_pump_120 : decode b_Mod_pump 120 = .ok (.isub, 1) := by decide +kernel
theorem d_Mod_pump_121 : decode b_Mod_pump 121 = .ok (.iastore, 1) := by decide +kernel
theorem d_Mod_pump_122 : decode b_Mod_pump 122 = .ok (.iinc 2 1, 3) := by decide +kernel
theorem d_Mod_pump_125 : decode b_Mod_pump 125 = .ok (.aload_n 0, 1) := by decide +kernel
theorem d_Mod_pump_126 : decode b_Mod_pump 126 = .ok (.iload_n 1, 1) := by decide +kernel
theorem d_Mod_pump_127 : decode b_Mod_pump 127 = .ok (.iload_n 3, 1) := by decide +kernel
theorem d_Mod_pump_128 : decode b_Mod_pump 128 = .ok (.invokevirtual 179, 3) := by decide +kernel
theorem d_Mod_pump_131 : decode b_Mod_pump 131 = .ok (.ifCond .ne 8, 3) := by decide +kernel
theorem d_Mod_pump_134 : decode b_Mod_pump 134 = .ok (.aload_n 0, 1) := by decide +kernel
theorem d_Mod_pump_135 : decode b_Mod_pump 135 = .ok (.iload_n 1, 1) := by decide +kernel
theorem d_Mod_pump_136 : decode b_Mod_pump 136 = .ok (.invokevirtual 102, 3) := by decide +kernel
theorem d_Mod_pump_139 : decode b_Mod_pump 139 = .ok (.goto (-123), 3) := by decide +kernel
theorem d_Mod_pump_142 : decode b_Mod_pump 142 = .ok (.iload_n 2, 1) := by decide +kernel
theorem d_Mod_pump_143 : decode b_Mod_pump 143 = .ok (.ireturn, 1) := by decide +kernel
theorem d_Mod_poison_0 : decode b_Mod_poison 0 = .ok (.aload_n 0, 1) := by decide +kernel
theorem d_Mod_poison_1 : decode b_Mod_poison 1 = .ok (.iconst 0, 1) := by decide +kernel
theorem d_Mod_poison_2 : decode b_Mod_poison 2 = .ok (.putfield 74, 3) := by decide +kernel
theorem d_Mod_poison_5 : decode b_Mod_poison 5 = .ok (.iload_n 1, 1) := by decide +kernel
theorem d_Mod_poison_6 : decode b_Mod_poison 6 = .ok (.invokestatic 99, 3) := by decide +kernel
theorem d_Mod_poison_9 : decode b_Mod_poison 9 = .ok (.ifCond .eq 15, 3) := by decide +kernel
theorem d_Mod_poison_12 : decode b_Mod_poison 12 = .ok (.iload_n 2, 1) := by decide +kernel
theorem d_Mod_poison_13 : decode b_Mod_poison 13 = .ok (.iconst 1, 1) := by decide +kernel
theorem d_Mod_poison_14 : decode b_Mod_poison 14 = .ok (.if_icmp .lt 10, 3) := by decide +kernel
theorem d_Mod_poison_17 : decode b_Mod_poison 17 = .ok (.iload_n 2, 1) := by decide +kernel
theorem d_Mod_poison_18 : decode b_Mod_poison 18 = .ok (.sipush 10000, 3) := by decide +kernel
theorem d_Mod_poison_21 : decode b_Mod_poison 21 = .ok (.if_icmp .le 5, 3) := by decide +kernel
theorem d_Mod_poison_24 : decode b_Mod_poison 24 = .ok (.iconst 0, 1) := by decide +kernel
theorem d_Mod_poison_25 : decode b_Mod_poison 25 = .ok (.ireturn, 1) := by decide +kernel
theorem d_Mod_poison_26 : decode b_Mod_poison 26 = .ok (.aload_n 0, 1) := by decide +kernel
theorem d_Mod_poison_27 : decode b_Mod_poison 27 = .ok (.getfield 62, 3) := by decide +kernel
theorem d_Mod_poison_30 : decode b_Mod_poison 30 = .ok (.iload_n 1, 1) := by decide +kernel
theorem d_Mod_poison_31 : decode b_Mod_poison 31 = .ok (.iaload, 1) := by decide +kernel
theorem d_Mod_poison_32 : decode b_Mod_poison 32 = .ok (.bipush 8, 2) := by decide +kernel
theorem d_Mod_poison_34 : decode b_Mod_poison 34 = .ok (.if_icmp .ne 13, 3) := by decide +kernel
theorem d_Mod_poison_37 : decode b_Mod_poison 37 = .ok (.aload_n 0, 1) := by decide +kernel
theorem d_Mod_poison_38 : decode b_Mod_poison 38 = .ok (.getfield 62, 3) := by decide +kernel
theorem d_Mod_poison_41 : decode b_Mod_poison 41 = .ok (.iload_n 1, 1) := by decide +kernel
theorem d_Mod_poison_42 : decode b_Mod_poison 42 = .ok (.dup2, 1) := by decide +kernel
theorem d_Mod_poison_43 : decode b_Mod_poison 43 = .ok (.iaload, 1) := by decide +kernel
theorem d_Mod_poison_44 : decode b_Mod_poison 44 = .ok (.iconst 1, 1) := by decide +kernel
theorem d_Mod_poison_45 : decode b_Mod_poison 45 = .ok (.isub, 1) := by decide +kernel
theorem d_Mod_poison_46 : decode b_Mod_poison 46 = .ok (.iastore, 1) := by decide +kernel
theorem d_Mod_poison_47 : decode b_Mod_poison 47 = .ok (.aload_n 0, 1) := by decide +kernel
theorem d_Mod_poison_48 : decode b_Mod_poison 48 = .ok (.getfield 56, 3) := by decide +kernel
theorem d_Mod_poison_51 : decode b_Mod_poison 51 = .ok (.bipush 8, 2) := by decide +kernel
theorem d_Mod_poison_53 : decode b_Mod_poison 53 = .ok (.iload_n 1, 1) := by decide +kernel
theorem d_Mod_poison_54 : decode b_Mod_poison 54 = .ok (.imul, 1) := by decide +kernel
theorem d_Mod_poison_55 : decode b_Mod_poison 55 = .ok (.aload_n 0, 1) := by decide +kernel
theorem d_Mod_poison_56 : decode b_Mod_poison 56 = .ok (.getfield 62, 3) := by decide +kernel
theorem d_Mod_poison_59 : decode b_Mod_poison 59 = .ok (.iload_n 1, 1) := by decide +kernel
theorem d_Mod_poison_60 : decode b_Mod_poison 60 = .ok (.iaload, 1) := by decide +kernel
theorem d_Mod_poison_61 : decode b_Mod_poison 61 = .ok (.iadd, 1) := by decide +kernel
theorem d_Mod_poison_62 : decode b_Mod_poison 62 = .ok (.iload_n 2, 1) := by decide +kernel
theorem d_Mod_poison_63 : decode b_Mod_poison 63 = .ok (.iastore, 1) := by decide +kernel
theorem d_Mod_poison_64 : decode b_Mod_poison 64 = .ok (.aload_n 0, 1) := by decide +kernel
theorem d_Mod_poison_65 : decode b_Mod_poison 65 = .ok (.getfield 59, 3) := by decide +kernel
theorem d_Mod_poison_68 : decode b_Mod_poison 68 = .ok (.bipush 8, 2) := by decide +kernel
theorem d_Mod_poison_70 : decode b_Mod_poison 70 = .ok (.iload_n 1, 1) := by decide +kernel
theorem d_Mod_poison_71 : decode b_Mod_poison 71 = .ok (.imul, 1) := by decide +kernel
theorem d_Mod_poison_72 : decode b_Mod_poison 72 = .ok (.aload_n 0, 1) := by decide +kernel
theorem d_Mod_poison_73 : decode b_Mod_poison 73 = .ok (.getfield 62, 3) := by decide +kernel
theorem d_Mod_poison_76 : decode b_Mod_poison 76 = .ok (.iload_n 1, 1) := by decide +kernel
theorem d_Mod_poison_77 : decode b_Mod_poison 77 = .ok (.iaload, 1) := by decide +kernel
theorem d_Mod_poison_78 : decode b_Mod_poison 78 = .ok (.iadd, 1) := by decide +kernel
theorem d_Mod_poison_79 : decode b_Mod_poison 79 = .ok (.iload_n 3, 1) := by decide +kernel
theorem d_Mod_poison_80 : decode b_Mod_poison 80 = .ok (.sipush 255, 3) := by decide +kernel
theorem d_Mod_poison_83 : decode b_Mod_poison 83 = .ok (.iand, 1) := by decide +kernel
theorem d_Mod_poison_84 : decode b_Mod_poison 84 = .ok (.iastore, 1) := by decide +kernel
theorem d_Mod_poison_85 : decode b_Mod_poison 85 = .ok (.aload_n 0, 1) := by decide +kernel
theorem d_Mod_poison_86 : decode b_Mod_poison 86 = .ok (.getfield 62, 3) := by decide +kernel
theorem d_Mod_poison_89 : decode b_Mod_poison 89 = .ok (.iload_n 1, 1) := by decide +kernel
theorem d_Mod_poison_90 : decode b_Mod_poison 90 = .ok (.dup2, 1) := by decide +kernel
theorem d_Mod_poison_91 : decode b_Mod_poison 91 = .ok (.iaload, 1) := by decide +kernel
theorem d_Mod_poison_92 : decode b_Mod_poison 92 = .ok (.iconst 1, 1) := by decide +kernel
theorem d_Mod_poison_93 : decode b_Mod_poison 93 = .ok (.iadd, 1) := by decide +kernel
theorem d_Mod_poison_94 : decode b_Mod_poison 94 = .ok (.iastore, 1) := by decide +kernel
theorem d_Mod_poison_95 : decode b_Mod_poison 95 = .ok (.iconst 1, 1) := by decide +kernel
theorem d_Mod_poison_96 : decode b_Mod_poison 96 = .ok (.ireturn, 1) := by decide +kernel
theorem d_Mod_shown_0 : decode b_Mod_shown 0 = .ok (.aload_n 0, 1) := by decide +kernel
theorem d_Mod_shown_1 : decode b_Mod_shown 1 = .ok (.iconst 0, 1) := by decide +kernel
theorem d_Mod_shown_2 : decode b_Mod_shown 2 = .ok (.putfield 74, 3) := by decide +kernel
theorem d_Mod_shown_5 : decode b_Mod_shown 5 = .ok (.iload_n 1, 1) := by decide +kernel
theorem d_Mod_shown_6 : decode b_Mod_shown 6 = .ok (.invokestatic 99, 3) := by decide +kernel
theorem d_Mod_shown_9 : decode b_Mod_shown 9 = .ok (.ifCond .eq 12, 3) := by decide +kernel
theorem d_Mod_shown_12 : decode b_Mod_shown 12 = .ok (.aload_n 0, 1) := by decide +kernel
theorem d_Mod_shown_13 : decode b_Mod_shown 13 = .ok (.getfield 26, 3) := by decide +kernel
theorem d_Mod_shown_16 : decode b_Mod_shown 16 = .ok (.iload_n 1, 1) := by decide +kernel
theorem d_Mod_shown_17 : decode b_Mod_shown 17 = .ok (.iaload, 1) := by decide +kernel
theorem d_Mod_shown_18 : decode b_Mod_shown 18 = .ok (.goto 4, 3) := by decide +kernel
theorem d_Mod_shown_21 : decode b_Mod_shown 21 = .ok (.iconst (-1), 1) := by decide +kernel
theorem d_Mod_shown_22 : decode b_Mod_shown 22 = .ok (.ireturn, 1) := by decide +kernel
theorem d_Mod_at_0 : decode b_Mod_at 0 = .ok (.aload_n 0, 1) := by decide +kernel
theorem d_Mod_at_1 : decode b_Mod_at 1 = .ok (.iconst 0, 1) := by decide +kernel
theorem d_Mod_at_2 : decode b_Mod_at 2 = .ok (.putfield 74, 3) := by decide +kernel
theorem d_Mod_at_5 : decode b_Mod_at 5 = .ok (.iload_n 1, 1) := by decide +kernel
theorem d_Mod_at_6 : decode b_Mod_at 6 = .ok (.iconst (-1), 1) := by decide +kernel
theorem d_Mod_at_7 : decode b_Mod_at 7 = .ok (.if_icmp .lt 28, 3) := by decide +kernel
theorem d_Mod_at_10 : decode b_Mod_at 10 = .ok (.iload_n 1, 1) := by decide +kernel
theorem d_Mod_at_11 : decode b_Mod_at 11 = .ok (.iconst 2, 1) := by decide +kernel
theorem d_Mod_at_12 : decode b_Mod_at 12 = .ok (.if_icmp .gt 23, 3) := by decide +kernel
theorem d_Mod_at_15 : decode b_Mod_at 15 = .ok (.iload_n 2, 1) := by decide +kernel
theorem d_Mod_at_16 : decode b_Mod_at 16 = .ok (.ifCond .lt 19, 3) := by decide +kernel
theorem d_Mod_at_19 : decode b_Mod_at 19 = .ok (.iload_n 2, 1) := by decide +kernel
theorem d_Mod_at_20 : decode b_Mod_at 20 = .ok (.bipush 64, 2) := by decide +kernel
theorem d_Mod_at_22 : decode b_Mod_at 22 = .ok (.if_icmp .ge 13, 3) := by decide +kernel
theorem d_Mod_at_25 : decode b_Mod_at 25 = .ok (.iload_n 3, 1) := by decide +kernel
theorem d_Mod_at_26 : decode b_Mod_at 26 = .ok (.ifCond .lt 9, 3) := by decide +kernel
theorem d_Mod_at_29 : decode b_Mod_at 29 = .ok (.iload_n 3, 1) := by decide +kernel
theorem d_Mod_at_30 : decode b_Mod_at 30 = .ok (.bipush 48, 2) := by decide +kernel
theorem d_Mod_at_32 : decode b_Mod_at 32 = .ok (.if_icmp .lt 5, 3) := by decide +kernel
theorem d_Mod_at_35 : decode b_Mod_at 35 = .ok (.iconst (-1), 1) := by decide +kernel
theorem d_Mod_at_36 : decode b_Mod_at 36 = .ok (.ireturn, 1) := by decide +kernel
theorem d_Mod_at_37 : decode b_Mod_at 37 = .ok (.aload_n 0, 1) := by decide +kernel
theorem d_Mod_at_38 : decode b_Mod_at 38 = .ok (.getfield 7, 3) := by decide +kernel
theorem d_Mod_at_41 : decode b_Mod_at 41 = .ok (.sipush 3072, 3) := by decide +kernel
theorem d_Mod_at_44 : decode b_Mod_at 44 = .ok (.iload_n 1, 1) := by decide +kernel
theorem d_Mod_at_45 : decode b_Mod_at 45 = .ok (.iconst (-1), 1) := by decide +kernel
theorem d_Mod_at_46 : decode b_Mod_at 46 = .ok (.if_icmp .ne 7, 3) := by decide +kernel
theorem d_Mod_at_49 : decode b_Mod_at 49 = .ok (.iconst 0, 1) := by decide +kernel
theorem d_Mod_at_50 : decode b_Mod_at 50 = .ok (.goto 6, 3) := by decide +kernel
theorem d_Mod_at_53 : decode b_Mod_at 53 = .ok (.iconst 2, 1) := by decide +kernel
theorem d_Mod_at_54 : decode b_Mod_at 54 = .ok (.iload_n 1, 1) := by decide +kernel
theorem d_Mod_at_55 : decode b_Mod_at 55 = .ok (.iadd, 1) := by decide +kernel
theorem d_Mod_at_56 : decode b_Mod_at 56 = .ok (.imul, 1) := by decide +kernel
theorem d_Mod_at_57 : decode b_Mod_at 57 = .ok (.bipush 64, 2) := by decide +kernel
theorem d_Mod_at_59 : decode b_Mod_at 59 = .ok (.iload_n 3, 1) := by decide +kernel
theorem d_Mod_at_60 : decode b_Mod_at 60 = .ok (.imul, 1) := by decide +kernel
theorem d_Mod_at_61 : decode b_Mod_at 61 = .ok (.iadd, 1) := by decide +kernel
theorem d_Mod_at_62 : decode b_Mod_at 62 = .ok (.iload_n 2, 1) := by decide +kernel
theorem d_Mod_at_63 : decode b_Mod_at 63 = .ok (.iadd, 1) := by decide +kernel
theorem d_Mod_at_64 : decode b_Mod_at 64 = .ok (.iaload, 1) := by decide +kernel
theorem d_Mod_at_65 : decode b_Mod_at 65 = .ok (.ireturn, 1) := by decide +kernel
theorem d_Mod_about_0 : decode b_Mod_about 0 = .ok (.aload_n 0, 1) := by decide +kernel
theorem d_Mod_about_1 : decode b_Mod_about 1 = .ok (.iconst 0, 1) := by decide +kernel
theorem d_Mod_about_2 : decode b_Mod_about 2 = .ok (.putfield 74, 3) := by decide +kernel
theorem d_Mod_about_5 : decode b_Mod_about 5 = .ok (.iload_n 1, 1) := by decide +kernel
theorem d_Mod_about_6 : decode b_Mod_about 6 = .ok (.invokestatic 99, 3) := by decide +kernel
theorem d_Mod_about_9 : decode b_Mod_about 9 = .ok (.ifCond .ne 5, 3) := by decide +kernel
theorem d_Mod_about_12 : decode b_Mod_about 12 = .ok (.iconst (-1), 1) := by decide +kernel
theorem d_Mod_about_13 : decode b_Mod_about 13 = .ok (.ireturn, 1) := by decide +kernel
theorem d_Mod_about_14 : decode b_Mod_about 14 = .ok (.iconst 0, 1) := by decide +kernel
theorem d_Mod_about_15 : decode b_Mod_about 15 = .ok (.istore_n 3, 1) := by decide +kernel
theorem d_Mod_about_16 : decode b_Mod_about 16 = .ok (.iconst 0, 1) := by decide +kernel
theorem d_Mod_about_17 : decode b_Mod_about 17 = .ok (.istore 4, 2) := by decide +kernel
theorem d_Mod_about_19 : decode b_Mod_about 19 = .ok (.iload 4, 2) := by decide +kernel
theorem d_Mod_about_21 : decode b_Mod_about 21 = .ok (.bipush 48, 2) := by decide +kernel
theorem d_Mod_about_23 : decode b_Mod_about 23 = .ok (.if_icmp .ge 37, 3) := by decide +kernel
theorem d_Mod_about_26 : decode b_Mod_about 26 = .ok (.iload_n 2, 1) := by decide +kernel
theorem d_Mod_about_27 : decode b_Mod_about 27 = .ok (.iconst 5, 1) := by decide +kernel
theorem d_Mod_about_28 : decode b_Mod_about 28 = .ok (.if_icmp .ne 32, 3) := by decide +kernel
theorem d_Mod_about_31 : decode b_Mod_about 31 = .ok (.iload_n 3, 1) := by decide +kernel
theorem d_Mod_about_32 : decode b_Mod_about 32 = .ok (.aload_n 0, 1) := by decide +kernel
theorem d_Mod_about_33 : decode b_Mod_about 33 = .ok (.iconst 5, 1) := by decide +kernel
theorem d_Mod_about_34 : decode b_Mod_about 34 = .ok (.iload_n 1, 1) := by decide +kernel
theorem d_Mod_about_35 : decode b_Mod_about 35 = .ok (.iadd, 1) := by decide +kernel
theorem d_Mod_about_36 : decode b_Mod_about 36 = .ok (.iload 4, 2) := by decide +kernel
theorem d_Mod_about_38 : decode b_Mod_about 38 = .ok (.iconst 1, 1) := by decide +kernel
theorem d_Mod_about_39 : decode b_Mod_about 39 = .ok (.iload 4, 2) := by decide +kernel
theorem d_Mod_about_41 : decode b_Mod_about 41 = .ok (.invokevirtual 120, 3) := by decide +kernel
theorem d_Mod_about_44 : decode b_Mod_about 44 = .ok (.ifCond .eq 7, 3) := by decide +kernel
theorem d_Mod_about_47 : decode b_Mod_about 47 = .ok (.iconst 0, 1) := by decide +kernel
theorem d_Mod_about_48 : decode b_Mod_about 48 = .ok (.goto 4, 3) := by decide +kernel
theorem d_Mod_about_51 : decode b_Mod_about 51 = .ok (.iconst 1, 1) := by decide +kernel
theorem d_Mod_about_52 : decode b_Mod_about 52 = .ok (.iadd, 1) := by decide +kernel
theorem d_Mod_about_53 : decode b_Mod_about 53 = .ok (.istore_n 3, 1) := by decide +kernel
theorem d_Mod_about_54 : decode b_Mod_about 54 = .ok (.iinc 4 1, 3) := by decide +kernel
theorem d_Mod_about_57 : decode b_Mod_about 57 = .ok (.goto (-38), 3) := by decide +kernel
theorem d_Mod_about_60 : decode b_Mod_about 60 = .ok (.iload_n 2, 1) := by decide +kernel
theorem d_Mod_about_61 : decode b_Mod_about 61 = .ok (.tableswitch 113 0 7 #[47, 62, 69, 83, 90, 97, 99, 106], 47) := by decide +kernel
theorem d_Mod_about_108 : decode b_Mod_about 108 = .ok (.aload_n 0, 1) := by decide +kernel
theorem d_Mod_about_109 : decode b_Mod_about 109 = .ok (.getfield 23, 3) := by decide +kernel
theorem d_Mod_about_112 : decode b_Mod_about 112 = .ok (.iload_n 1, 1) := by decide +kernel
theorem d_Mod_about_113 : decode b_Mod_about 113 = .ok (.baload, 1) := by decide +kernel
theorem d_Mod_about_114 : decode b_Mod_about 114 = .ok (.ifCond .eq 7, 3) := by decide +kernel
theorem d_Mod_about_117 : decode b_Mod_about 117 = .ok (.iconst 1, 1) := by decide +kernel
theorem d_Mod_about_118 : decode b_Mod_about 118 = .ok (.goto 4, 3) := by decide +kernel
theorem d_Mod_about_121 : decode b_Mod_about 121 = .ok (.iconst 0, 1) := by decide +kernel
theorem d_Mod_about_122 : decode b_Mod_about 122 = .ok (.ireturn, 1) := by decide +kernel
theorem d_Mod_about_123 : decode b_Mod_about 123 = .ok (.aload_n 0, 1) := by decide +kernel
theorem d_Mod_about_124 : decode b_Mod_about 124 = .ok (.getfield 32, 3) := by decide +kernel
theorem d_Mod_about_127 : decode b_Mod_about 127 = .ok (.iload_n 1, 1) := by decide +kernel
theorem d_Mod_about_128 : decode b_Mod_about 128 = .ok (.iaload, 1) := by decide +kernel
theorem d_Mod_about_129 : decode b_Mod_about 129 = .ok (.ireturn, 1) := by decide +kernel
theorem d_Mod_about_130 : decode b_Mod_about 130 = .ok (.aload_n 0, 1) := by decide +kernel
theorem d_Mod_about_131 : decode b_Mod_about 131 = .ok (.getfield 44, 3) := by decide +kernel
theorem d_Mod_about_134 : decode b_Mod_about 134 = .ok (.iload_n 1, 1) := by decide +kernel
theorem d_Mod_about_135 : decode b_Mod_about 135 = .ok (.iaload, 1) := by decide +kernel
theorem d_Mod_about_136 : decode b_Mod_about 136 = .ok (.aload_n 0, 1) := by decide +kernel
theorem d_Mod_about_137 : decode b_Mod_about 137 = .ok (.getfield 47, 3) := by decide +kernel
theorem d_Mod_about_140 : decode b_Mod_about 140 = .ok (.iload_n 1, 1) := by decide +kernel
theorem d_Mod_about_141 : decode b_Mod_about 141 = .ok (.iaload, 1) := by decide +kernel
theorem d_Mod_about_142 : decode b_Mod_about 142 = .ok (.isub, 1) := by decide +kernel
theorem d_Mod_about_143 : decode b_Mod_about 143 = .ok (.ireturn, 1) := by decide +kernel
theorem d_Mod_about_144 : decode b_Mod_about 144 = .ok (.aload_n 0, 1) := by decide +kernel
theorem d_Mod_about_145 : decode b_Mod_about 145 = .ok (.getfield 53, 3) := by decide +kernel
theorem d_Mod_about_148 : decode b_Mod_about 148 = .ok (.iload_n 1, 1) := by decide +kernel
theorem d_Mod_about_149 : decode b_Mod_about 149 = .ok (.iaload, 1) := by decide +kernel
theorem d_Mod_about_150 : decode b_Mod_about 150 = .ok (.ireturn, 1) := by decide +kernel
theorem d_Mod_about_151 : decode b_Mod_about 151 = .ok (.aload_n 0, 1) := by decide +kernel
theorem d_Mod_about_152 : decode b_Mod_about 152 = .ok (.getfield 35, 3) := by decide +kernel
theorem d_Mod_about_155 : decode b_Mod_about 155 = .ok (.iload_n 1, 1) := by decide +kernel
theorem d_Mod_about_156 : decode b_Mod_about 156 = .ok (.iaload, 1) := by decide +kernel
theorem d_Mod_about_157 : decode b_Mod_about 157 = .ok (.ireturn, 1) := by decide +kernel
theorem d_Mod_about_158 : decode b_Mod_about 158 = .ok (.iload_n 3, 1) := by decide +kernel
theorem d_Mod_about_159 : decode b_Mod_about 159 = .ok (.ireturn, 1) := by decide +kernel
theorem d_Mod_about_160 : decode b_Mod_about 160 = .ok (.aload_n 0, 1) := by decide +kernel
theorem d_Mod_about_161 : decode b_Mod_about 161 = .ok (.getfield 29, 3) := by decide +kernel
theorem d_Mod_about_164 : decode b_Mod_about 164 = .ok (.iload_n 1, 1) := by decide +kernel
theorem d_Mod_about_165 : decode b_Mod_about 165 = .ok (.iaload, 1) := by decide +kernel
theorem d_Mod_about_166 : decode b_Mod_about 166 = .ok (.ireturn, 1) := by decide +kernel
theorem d_Mod_about_167 : decode b_Mod_about 167 = .ok (.aload_n 0, 1) := by decide +kernel
theorem d_Mod_about_168 : decode b_Mod_about 168 = .ok (.getfield 16, 3) := by decide +kernel
theorem d_Mod_about_171 : decode b_Mod_about 171 = .ok (.iload_n 1, 1) := by decide +kernel
theorem d_Mod_about_172 : decode b_Mod_about 172 = .ok (.iaload, 1) := by decide +kernel
theorem d_Mod_about_173 : decode b_Mod_about 173 = .ok (.ireturn, 1) := by decide +kernel
theorem d_Mod_about_174 : decode b_Mod_about 174 = .ok (.iconst (-1), 1) := by decide +kernel
theorem d_Mod_about_175 : decode b_Mod_about 175 = .ok (.ireturn, 1) := by decide +kernel
theorem d_Mod_bytesBy_0 : decode b_Mod_bytesBy 0 = .ok (.aload_n 0, 1) := by decide +kernel
theorem d_Mod_bytesBy_1 : decode b_Mod_bytesBy 1 = .ok (.iconst 0, 1) := by decide +kernel
theorem d_Mod_bytesBy_2 : decode b_Mod_bytesBy 2 = .ok (.putfield 74, 3) := by decide +kernel
theorem d_Mod_bytesBy_5 : decode b_Mod_bytesBy 5 = .ok (.iload_n 1, 1) := by decide +kernel
theorem d_Mod_bytesBy_6 : decode b_Mod_bytesBy 6 = .ok (.invokestatic 99, 3) := by decide +kernel
theorem d_Mod_bytesBy_9 : decode b_Mod_bytesBy 9 = .ok (.ifCond .eq 27, 3) := by decide +kernel
theorem d_Mod_bytesBy_12 : decode b_Mod_bytesBy 12 = .ok (.iload_n 2, 1) := by decide +kernel
theorem d_Mod_bytesBy_13 : decode b_Mod_bytesBy 13 = .ok (.ifCond .lt 23, 3) := by decide +kernel
theorem d_Mod_bytesBy_16 : decode b_Mod_bytesBy 16 = .ok (.iload_n 2, 1) := by decide +kernel
theorem d_Mod_bytesBy_17 : decode b_Mod_bytesBy 17 = .ok (.bipush 7, 2) := by decide +kernel
theorem d_Mod_bytesBy_19 : decode b_Mod_bytesBy 19 = .ok (.if_icmp .ge 17, 3) := by decide +kernel
theorem d_Mod_bytesBy_22 : decode b_Mod_bytesBy 22 = .ok (.aload_n 0, 1) := by decide +kernel
theorem d_Mod_bytesBy_23 : decode b_Mod_bytesBy 23 = .ok (.getfield 38, 3) := by decide +kernel
theorem d_Mod_bytesBy_26 : decode b_Mod_bytesBy 26 = .ok (.bipush 7, 2) := by decide +kernel
theorem d_Mod_bytesBy_28 : decode b_Mod_bytesBy 28 = .ok (.iload_n 1, 1) := by decide +kernel
theorem d_Mod_bytesBy_29 : decode b_Mod_bytesBy 29 = .ok (.imul, 1) := by decide +kernel
theorem d_Mod_bytesBy_30 : decode b_Mod_bytesBy 30 = .ok (.iload_n 2, 1) := by decide +kernel
theorem d_Mod_bytesBy_31 : decode b_Mod_bytesBy 31 = .ok (.iadd, 1) := by decide +kernel
theorem d_Mod_bytesBy_32 : decode b_Mod_bytesBy 32 = .ok (.iaload, 1) := by decide +kernel
theorem d_Mod_bytesBy_33 : decode b_Mod_bytesBy 33 = .ok (.goto 4, 3) := by decide +kernel
theorem d_Mod_bytesBy_36 : decode b_Mod_bytesBy 36 = .ok (.iconst (-1), 1) := by decide +kernel
theorem d_Mod_bytesBy_37 : decode b_Mod_bytesBy 37 = .ok (.ireturn, 1) := by decide +kernel
theorem d_Mod_onLine_0 : decode b_Mod_onLine 0 = .ok (.aload_n 0, 1) := by decide +kernel
theorem d_Mod_onLine_1 : decode b_Mod_onLine 1 = .ok (.iconst 0, 1) := by decide +kernel
theorem d_Mod_onLine_2 : decode b_Mod_onLine 2 = .ok (.putfield 74, 3) := by decide +kernel
theorem d_Mod_onLine_5 : decode b_Mod_onLine 5 = .ok (.iload_n 1, 1) := by decide +kernel
theorem d_Mod_onLine_6 : decode b_Mod_onLine 6 = .ok (.invokestatic 99, 3) := by decide +kernel
theorem d_Mod_onLine_9 : decode b_Mod_onLine 9 = .ok (.ifCond .eq 46, 3) := by decide +kernel
theorem d_Mod_onLine_12 : decode b_Mod_onLine 12 = .ok (.iload_n 2, 1) := by decide +kernel
theorem d_Mod_onLine_13 : decode b_Mod_onLine 13 = .ok (.ifCond .lt 42, 3) := by decide +kernel
theorem d_Mod_onLine_16 : decode b_Mod_onLine 16 = .ok (.iload_n 2, 1) := by decide +kernel
theorem d_Mod_onLine_17 : decode b_Mod_onLine 17 = .ok (.aload_n 0, 1) := by decide +kernel
theorem d_Mod_onLine_18 : decode b_Mod_onLine 18 = .ok (.getfield 44, 3) := by decide +kernel
theorem d_Mod_onLine_21 : decode b_Mod_onLine 21 = .ok (.iload_n 1, 1) := by decide +kernel
theorem d_Mod_onLine_22 : decode b_Mod_onLine 22 = .ok (.iaload, 1) := by decide +kernel
theorem d_Mod_onLine_23 : decode b_Mod_onLine 23 = .ok (.aload_n 0, 1) := by decide +kernel
theorem d_Mod_onLine_24 : decode b_Mod_onLine 24 = .ok (.getfield 47, 3) := by decide +kernel
theorem d_Mod_onLine_27 : decode b_Mod_onLine 27 = .ok (.iload_n 1, 1) := by decide +kernel
theorem d_Mod_onLine_28 : decode b_Mod_onLine 28 = .ok (.iaload, 1) := by decide +kernel
theorem d_Mod_onLine_29 : decode b_Mod_onLine 29 = .ok (.isub, 1) := by decide +kernel
theorem d_Mod_onLine_30 : decode b_Mod_onLine 30 = .ok (.if_icmp .ge 25, 3) := by decide +kernel
theorem d_Mod_onLine_33 : decode b_Mod_onLine 33 = .ok (.aload_n 0, 1) := by decide +kernel
theorem d_Mod_onLine_34 : decode b_Mod_onLine 34 = .ok (.getfield 41, 3) := by decide +kernel
theorem d_Mod_onLine_37 : decode b_Mod_onLine 37 = .ok (.sipush 6247, 3) := by decide +kernel
theorem d_Mod_onLine_40 : decode b_Mod_onLine 40 = .ok (.iload_n 1, 1) := by decide +kernel
theorem d_Mod_onLine_41 : decode b_Mod_onLine 41 = .ok (.imul, 1) := by decide +kernel
theorem d_Mod_onLine_42 : decode b_Mod_onLine 42 = .ok (.aload_n 0, 1) := by decide +kernel
theorem d_Mod_onLine_43 : decode b_Mod_onLine 43 = .ok (.getfield 47, 3) := by decide +kernel
theorem d_Mod_onLine_46 : decode b_Mod_onLine 46 = .ok (.iload_n 1, 1) := by decide +kernel
theorem d_Mod_onLine_47 : decode b_Mod_onLine 47 = .ok (.iaload, 1) := by decide +kernel
theorem d_Mod_onLine_48 : decode b_Mod_onLine 48 = .ok (.iadd, 1) := by decide +kernel
theorem d_Mod_onLine_49 : decode b_Mod_onLine 49 = .ok (.iload_n 2, 1) := by decide +kernel
theorem d_Mod_onLine_50 : decode b_Mod_onLine 50 = .ok (.iadd, 1) := by decide +kernel
theorem d_Mod_onLine_51 : decode b_Mod_onLine 51 = .ok (.iaload, 1) := by decide +kernel
theorem d_Mod_onLine_52 : decode b_Mod_onLine 52 = .ok (.goto 4, 3) := by decide +kernel
theorem d_Mod_onLine_55 : decode b_Mod_onLine 55 = .ok (.iconst (-1), 1) := by decide +kernel
theorem d_Mod_onLine_56 : decode b_Mod_onLine 56 = .ok (.ireturn, 1) := by decide +kernel
theorem d_Law_credit_0 : decode b_Law_credit 0 = .ok (.aload_n 3, 1) := by decide +kernel
theorem d_Law_credit_1 : decode b_Law_credit 1 = .ok (.iconst 0, 1) := by decide +kernel
theorem d_Law_credit_2 : decode b_Law_credit 2 = .ok (.aload_n 0, 1) := by decide +kernel
theorem d_Law_credit_3 : decode b_Law_credit 3 = .ok (.iload_n 1, 1) := by decide +kernel
theorem d_Law_credit_4 : decode b_Law_credit 4 = .ok (.iload_n 2, 1) := by decide +kernel
theorem d_Law_credit_5 : decode b_Law_credit 5 = .ok (.invokevirtual 7, 3) := by decide +kernel
theorem d_Law_credit_8 : decode b_Law_credit 8 = .ok (.i2l, 1) := by decide +kernel
theorem d_Law_credit_9 : decode b_Law_credit 9 = .ok (.lastore, 1) := by decide +kernel
theorem d_Law_credit_10 : decode b_Law_credit 10 = .ok (.goto 11, 3) := by decide +kernel
theorem d_Law_credit_13 : decode b_Law_credit 13 = .ok (.astore 4, 2) := by decide +kernel
theorem d_Law_credit_15 : decode b_Law_credit 15 = .ok (.iconst 1, 1) := by decide +kernel
theorem d_Law_credit_16 : decode b_Law_credit 16 = .ok (.ireturn, 1) := by decide +kernel
theorem d_Law_credit_17 : decode b_Law_credit 17 = .ok (.astore 4, 2) := by decide +kernel
theorem d_Law_credit_19 : decode b_Law_credit 19 = .ok (.iconst 2, 1) := by decide +kernel
theorem d_Law_credit_20 : decode b_Law_credit 20 = .ok (.ireturn, 1) := by decide +kernel
theorem d_Law_credit_21 : decode b_Law_credit 21 = .ok (.iconst 0, 1) := by decide +kernel
theorem d_Law_credit_22 : decode b_Law_credit 22 = .ok (.ireturn, 1) := by decide +kernel
theorem d_Law_law_0 : decode b_Law_law 0 = .ok (.new 8, 3) := by decide +kernel
theorem d_Law_law_3 : decode b_Law_law 3 = .ok (.dup, 1) := by decide +kernel
theorem d_Law_law_4 : decode b_Law_law 4 = .ok (.invokespecial 17, 3) := by decide +kernel
theorem d_Law_law_7 : decode b_Law_law 7 = .ok (.astore_n 1, 1) := by decide +kernel
theorem d_Law_law_8 : decode b_Law_law 8 = .ok (.new 18, 3) := by decide +kernel
theorem d_Law_law_11 : decode b_Law_law 11 = .ok (.dup, 1) := by decide +kernel
theorem d_Law_law_12 : decode b_Law_law 12 = .ok (.invokespecial 20, 3) := by decide +kernel
theorem d_Law_law_15 : decode b_Law_law 15 = .ok (.astore_n 2, 1) := by decide +kernel
theorem d_Law_law_16 : decode b_Law_law 16 = .ok (.iconst 1, 1) := by decide +kernel
theorem d_Law_law_17 : decode b_Law_law 17 = .ok (.newarray .long, 2) := by decide +kernel
theorem d_Law_law_19 : decode b_Law_law 19 = .ok (.astore_n 3, 1) := by decide +kernel
theorem d_Law_law_20 : decode b_Law_law 20 = .ok (.iconst 0, 1) := by decide +kernel
theorem d_Law_law_21 : decode b_Law_law 21 = .ok (.istore 4, 2) := by decide +kernel
theorem d_Law_law_23 : decode b_Law_law 23 = .ok (.iload 4, 2) := by decide +kernel
theorem d_Law_law_25 : decode b_Law_law 25 = .ok (.aload_n 0, 1) := by decide +kernel
theorem d_Law_law_26 : decode b_Law_law 26 = .ok (.arraylength, 1) := by decide +kernel
theorem d_Law_law_27 : decode b_Law_law 27 = .ok (.bipush 6, 2) := by decide +kernel
theorem d_Law_law_29 : decode b_Law_law 29 = .ok (.isub, 1) := by decide +kernel
theorem d_Law_law_30 : decode b_Law_law 30 = .ok (.if_icmp .gt 645, 3) := by decide +kernel
theorem d_Law_law_33 : decode b_Law_law 33 = .ok (.aload_n 0, 1) := by decide +kernel
theorem d_Law_law_34 : decode b_Law_law 34 = .ok (.iload 4, 2) := by decide +kernel
theorem d_Law_law_36 : decode b_Law_law 36 = .ok (.iaload, 1) := by decide +kernel
theorem d_Law_law_37 : decode b_Law_law 37 = .ok (.bipush 15, 2) := by decide +kernel
theorem d_Law_law_39 : decode b_Law_law 39 = .ok (.iand, 1) := by decide +kernel
theorem d_Law_law_40 : decode b_Law_law 40 = .ok (.tableswitch 629 0 13 #[72, 145, 206, 267, 280, 305, 330, 370, 395, 444, 469, 518, 555, 592], 72) := by decide +kernel
theorem d_Law_law_112 : decode b_Law_law 112 = .ok (.aload_n 1, 1) := by decide +kernel
theorem d_Law_law_113 : decode b_Law_law 113 = .ok (.aload_n 0, 1) := by decide +kernel
theorem d_Law_law_114 : decode b_Law_law 114 = .ok (.iload 4, 2) := by decide +kernel
theorem d_Law_law_116 : decode b_Law_law 116 = .ok (.iconst 1, 1) := by decide +kernel
theorem d_Law_law_117 : decode b_Law_law 117 = .ok (.iadd, 1) := by decide +kernel
theorem d_Law_law_118 : decode b_Law_law 118 = .ok (.iaload, 1) := by decide +kernel
theorem d_Law_law_119 : decode b_Law_law 119 = .ok (.aload_n 0, 1) := by decide +kernel
theorem d_Law_law_120 : decode b_Law_law 120 = .ok (.iload 4, 2) := by decide +kernel
theorem d_Law_law_122 : decode b_Law_law 122 = .ok (.iconst 2, 1) := by decide +kernel
theorem d_Law_law_123 : decode b_Law_law 123 = .ok (.iadd, 1) := by decide +kernel
theorem d_Law_law_124 : decode b_Law_law 124 = .ok (.iaload, 1) := by decide +kernel
theorem d_Law_law_125 : decode b_Law_law 125 = .ok (.aload_n 0, 1) := by decide +kernel
theorem d_Law_law_126 : decode b_Law_law 126 = .ok (.iload 4, 2) := by decide +kernel
theorem d_Law_law_128 : decode b_Law_law 128 = .ok (.iconst 3, 1) := by decide +kernel
theorem d_Law_law_129 : decode b_Law_law 129 = .ok (.iadd, 1) := by decide +kernel
theorem d_Law_law_130 : decode b_Law_law 130 = .ok (.iaload, 1) := by decide +kernel
theorem d_Law_law_131 : decode b_Law_law 131 = .ok (.aload_n 0, 1) := by decide +kernel
theorem d_Law_law_132 : decode b_Law_law 132 = .ok (.iload 4, 2) := by decide +kernel
theorem d_Law_law_134 : decode b_Law_law 134 = .ok (.iconst 4, 1) := by decide +kernel
theorem d_Law_law_135 : decode b_Law_law 135 = .ok (.iadd, 1) := by decide +kernel
theorem d_Law_law_136 : decode b_Law_law 136 = .ok (.iaload, 1) := by decide +kernel
theorem d_Law_law_137 : decode b_Law_law 137 = .ok (.aload_n 0, 1) := by decide +kernel
theorem d_Law_law_138 : decode b_Law_law 138 = .ok (.iload 4, 2) := by decide +kernel
theorem d_Law_law_140 : decode b_Law_law 140 = .ok (.iconst 5, 1) := by decide +kernel
theorem d_Law_law_141 : decode b_Law_law 141 = .ok (.iadd, 1) := by decide +kernel
theorem d_Law_law_142 : decode b_Law_law 142 = .ok (.iaload, 1) := by decide +kernel
theorem d_Law_law_143 : decode b_Law_law 143 = .ok (.invokevirtual 21, 3) := by decide +kernel
theorem d_Law_law_146 : decode b_Law_law 146 = .ok (.pop, 1) := by decide +kernel
theorem d_Law_law_147 : decode b_Law_law 147 = .ok (.aload_n 2, 1) := by decide +kernel
theorem d_Law_law_148 : decode b_Law_law 148 = .ok (.aload_n 0, 1) := by decide +kernel
theorem d_Law_law_149 : decode b_Law_law 149 = .ok (.iload 4, 2) := by decide +kernel
theorem d_Law_law_151 : decode b_Law_law 151 = .ok (.iconst 1, 1) := by decide +kernel
theorem d_Law_law_152 : decode b_Law_law 152 = .ok (.iadd, 1) := by decide +kernel
theorem d_Law_law_153 : decode b_Law_law 153 = .ok (.iaload, 1) := by decide +kernel
theorem d_Law_law_154 : decode b_Law_law 154 = .ok (.aload_n 0, 1) := by decide +kernel
theorem d_Law_law_155 : decode b_Law_law 155 = .ok (.iload 4, 2) := by decide +kernel
theorem d_Law_law_157 : decode b_Law_law 157 = .ok (.iconst 2, 1) := by decide +kernel
theorem d_Law_law_158 : decode b_Law_law 158 = .ok (.iadd, 1) := by decide +kernel
theorem d_Law_law_159 : decode b_Law_law 159 = .ok (.iaload, 1) := by decide +kernel
theorem d_Law_law_160 : decode b_Law_law 160 = .ok (.aload_n 0, 1) := by decide +kernel
theorem d_Law_law_161 : decode b_Law_law 161 = .ok (.iload 4, 2) := by decide +kernel
theorem d_Law_law_163 : decode b_Law_law 163 = .ok (.iconst 3, 1) := by decide +kernel
theorem d_Law_law_164 : decode b_Law_law 164 = .ok (.iadd, 1) := by decide +kernel
theorem d_Law_law_165 : decode b_Law_law 165 = .ok (.iaload, 1) := by decide +kernel
theorem d_Law_law_166 : decode b_Law_law 166 = .ok (.aload_n 0, 1) := by decide +kernel
theorem d_Law_law_167 : decode b_Law_law 167 = .ok (.iload 4, 2) := by decide +kernel
theorem d_Law_law_169 : decode b_Law_law 169 = .ok (.iconst 4, 1) := by decide +kernel
theorem d_Law_law_170 : decode b_Law_law 170 = .ok (.iadd, 1) := by decide +kernel
theorem d_Law_law_171 : decode b_Law_law 171 = .ok (.iaload, 1) := by decide +kernel
theorem d_Law_law_172 : decode b_Law_law 172 = .ok (.aload_n 0, 1) := by decide +kernel
theorem d_Law_law_173 : decode b_Law_law 173 = .ok (.iload 4, 2) := by decide +kernel
theorem d_Law_law_175 : decode b_Law_law 175 = .ok (.iconst 5, 1) := by decide +kernel
theorem d_Law_law_176 : decode b_Law_law 176 = .ok (.iadd, 1) := by decide +kernel
theorem d_Law_law_177 : decode b_Law_law 177 = .ok (.iaload, 1) := by decide +kernel
theorem d_Law_law_178 : decode b_Law_law 178 = .ok (.invokevirtual 25, 3) := by decide +kernel
theorem d_Law_law_181 : decode b_Law_law 181 = .ok (.pop, 1) := by decide +kernel
theorem d_Law_law_182 : decode b_Law_law 182 = .ok (.goto 487, 3) := by decide +kernel
theorem d_Law_law_185 : decode b_Law_law 185 = .ok (.aload_n 1, 1) := by decide +kernel
theorem d_Law_law_186 : decode b_Law_law 186 = .ok (.aload_n 0, 1) := by decide +kernel
theorem d_Law_law_187 : decode b_Law_law 187 = .ok (.iload 4, 2) := by decide +kernel
theorem d_Law_law_189 : decode b_Law_law 189 = .ok (.iconst 1, 1) := by decide +kernel
theorem d_Law_law_190 : decode b_Law_law 190 = .ok (.iadd, 1) := by decide +kernel
theorem d_Law_law_191 : decode b_Law_law 191 = .ok (.iaload, 1) := by decide +kernel
theorem d_Law_law_192 : decode b_Law_law 192 = .ok (.aload_n 0, 1) := by decide +kernel
theorem d_Law_law_193 : decode b_Law_law 193 = .ok (.iload 4, 2) := by decide +kernel
theorem d_Law_law_195 : decode b_Law_law 195 = .ok (.iconst 2, 1) := by decide +kernel
theorem d_Law_law_196 : decode b_Law_law 196 = .ok (.iadd, 1) := by decide +kernel
theorem d_Law_law_197 : decode b_Law_law 197 = .ok (.iaload, 1) := by decide +kernel
theorem d_Law_law_198 : decode b_Law_law 198 = .ok (.aload_n 0, 1) := by decide +kernel
theorem d_Law_law_199 : decode b_Law_law 199 = .ok (.iload 4, 2) := by decide +kernel
theorem d_Law_law_201 : decode b_Law_law 201 = .ok (.iconst 3, 1) := by decide +kernel
theorem d_Law_law_202 : decode b_Law_law 202 = .ok (.iadd, 1) := by decide +kernel
theorem d_Law_law_203 : decode b_Law_law 203 = .ok (.iaload, 1) := by decide +kernel
theorem d_Law_law_204 : decode b_Law_law 204 = .ok (.aload_n 0, 1) := by decide +kernel
theorem d_Law_law_205 : decode b_Law_law 205 = .ok (.iload 4, 2) := by decide +kernel
theorem d_Law_law_207 : decode b_Law_law 207 = .ok (.iconst 4, 1) := by decide +kernel
theorem d_Law_law_208 : decode b_Law_law 208 = .ok (.iadd, 1) := by decide +kernel
theorem d_Law_law_209 : decode b_Law_law 209 = .ok (.iaload, 1) := by decide +kernel
theorem d_Law_law_210 : decode b_Law_law 210 = .ok (.invokevirtual 26, 3) := by decide +kernel
theorem d_Law_law_213 : decode b_Law_law 213 = .ok (.pop, 1) := by decide +kernel
theorem d_Law_law_214 : decode b_Law_law 214 = .ok (.aload_n 2, 1) := by decide +kernel
theorem d_Law_law_215 : decode b_Law_law 215 = .ok (.aload_n 0, 1) := by decide +kernel
theorem d_Law_law_216 : decode b_Law_law 216 = .ok (.iload 4, 2) := by decide +kernel
theorem d_Law_law_218 : decode b_Law_law 218 = .ok (.iconst 1, 1) := by decide +kernel
theorem d_Law_law_219 : decode b_Law_law 219 = .ok (.iadd, 1) := by decide +kernel
theorem d_Law_law_220 : decode b_Law_law 220 = .ok (.iaload, 1) := by decide +kernel
theorem d_Law_law_221 : decode b_Law_law 221 = .ok (.aload_n 0, 1) := by decide +kernel
theorem d_Law_law_222 : decode b_Law_law 222 = .ok (.iload 4, 2) := by decide +kernel
theorem d_Law_law_224 : decode b_Law_law 224 = .ok (.iconst 2, 1) := by decide +kernel
theorem d_Law_law_225 : decode b_Law_law 225 = .ok (.iadd, 1) := by decide +kernel
theorem d_Law_law_226 : decode b_Law_law 226 = .ok (.iaload, 1) := by decide +kernel
theorem d_Law_law_227 : decode b_Law_law 227 = .ok (.aload_n 0, 1) := by decide +kernel
theorem d_Law_law_228 : decode b_Law_law 228 = .ok (.iload 4, 2) := by decide +kernel
theorem d_Law_law_230 : decode b_Law_law 230 = .ok (.iconst 3, 1) := by decide +kernel
theorem d_Law_law_231 : decode b_Law_law 231 = .ok (.iadd, 1) := by decide +kernel
theorem d_Law_law_232 : decode b_Law_law 232 = .ok (.iaload, 1) := by decide +kernel
theorem d_Law_law_233 : decode b_Law_law 233 = .ok (.aload_n 0, 1) := by decide +kernel
theorem d_Law_law_234 : decode b_Law_law 234 = .ok (.iload 4, 2) := by decide +kernel
theorem d_Law_law_236 : decode b_Law_law 236 = .ok (.iconst 4, 1) := by decide +kernel
theorem d_Law_law_237 : decode b_Law_law 237 = .ok (.iadd, 1) := by decide +kernel
theorem d_Law_law_238 : decode b_Law_law 238 = .ok (.iaload, 1) := by decide +kernel
theorem d_Law_law_239 : decode b_Law_law 239 = .ok (.invokevirtual 30, 3) := by decide +kernel
theorem d_Law_law_242 : decode b_Law_law 242 = .ok (.pop, 1) := by decide +kernel
theorem d_Law_law_243 : decode b_Law_law 243 = .ok (.goto 426, 3) := by decide +kernel
theorem d_Law_law_246 : decode b_Law_law 246 = .ok (.aload_n 1, 1) := by decide +kernel
theorem d_Law_law_247 : decode b_Law_law 247 = .ok (.aload_n 0, 1) := by decide +kernel
theorem d_Law_law_248 : decode b_Law_law 248 = .ok (.iload 4, 2) := by decide +kernel
theorem d_Law_law_250 : decode b_Law_law 250 = .ok (.iconst 1, 1) := by decide +kernel
theorem d_Law_law_251 : decode b_Law_law 251 = .ok (.iadd, 1) := by decide +kernel
theorem d_Law_law_252 : decode b_Law_law 252 = .ok (.iaload, 1) := by decide +kernel
theorem d_Law_law_253 : decode b_Law_law 253 = .ok (.aload_n 0, 1) := by decide +kernel
theorem d_Law_law_254 : decode b_Law_law 254 = .ok (.iload 4, 2) := by decide +kernel
theorem d_Law_law_256 : decode b_Law_law 256 = .ok (.iconst 2, 1) := by decide +kernel
theorem d_Law_law_257 : decode b_Law_law 257 = .ok (.iadd, 1) := by decide +kernel
theorem d_Law_law_258 : decode b_Law_law 258 = .ok (.iaload, 1) := by decide +kernel
theorem d_Law_law_259 : decode b_Law_law 259 = .ok (.aload_n 0, 1) := by decide +kernel
theorem d_Law_law_260 : decode b_Law_law 260 = .ok (.iload 4, 2) := by decide +kernel
theorem d_Law_law_262 : decode b_Law_law 262 = .ok (.iconst 3, 1) := by decide +kernel
theorem d_Law_law_263 : decode b_Law_law 263 = .ok (.iadd, 1) := by decide +kernel
theorem d_Law_law_264 : decode b_Law_law 264 = .ok (.iaload, 1) := by decide +kernel
theorem d_Law_law_265 : decode b_Law_law 265 = .ok (.aload_n 0, 1) := by decide +kernel
theorem d_Law_law_266 : decode b_Law_law 266 = .ok (.iload 4, 2) := by decide +kernel
theorem d_Law_law_268 : decode b_Law_law 268 = .ok (.iconst 4, 1) := by decide +kernel
theorem d_Law_law_269 : decode b_Law_law 269 = .ok (.iadd, 1) := by decide +kernel
theorem d_Law_law_270 : decode b_Law_law 270 = .ok (.iaload, 1) := by decide +kernel
theorem d_Law_law_271 : decode b_Law_law 271 = .ok (.invokevirtual 31, 3) := by decide +kernel
theorem d_Law_law_274 : decode b_Law_law 274 = .ok (.aload_n 2, 1) := by decide +kernel
theorem d_Law_law_275 : decode b_Law_law 275 = .ok (.aload_n 0, 1) := by decide +kernel
theorem d_Law_law_276 : decode b_Law_law 276 = .ok (.iload 4, 2) := by decide +kernel
theorem d_Law_law_278 : decode b_Law_law 278 = .ok (.iconst 1, 1) := by decide +kernel
theorem d_Law_law_279 : decode b_Law_law 279 = .ok (.iadd, 1) := by decide +kernel
theorem d_Law_law_280 : decode b_Law_law 280 = .ok (.iaload, 1) := by decide +kernel
theorem d_Law_law_281 : decode b_Law_law 281 = .ok (.aload_n 0, 1) := by decide +kernel
theorem d_Law_law_282 : decode b_Law_law 282 = .ok (.iload 4, 2) := by decide +kernel
theorem d_Law_law_284 : decode b_Law_law 284 = .ok (.iconst 2, 1) := by decide +kernel
theorem d_Law_law_285 : decode b_Law_law 285 = .ok (.iadd, 1) := by decide +kernel
theorem d_Law_law_286 : decode b_Law_law 286 = .ok (.iaload, 1) := by decide +kernel
theorem d_Law_law_287 : decode b_Law_law 287 = .ok (.aload_n 0, 1) := by decide +kernel
theorem d_Law_law_288 : decode b_Law_law 288 = .ok (.iload 4, 2) := by decide +kernel
theorem d_Law_law_290 : decode b_Law_law 290 = .ok (.iconst 3, 1) := by decide +kernel
theorem d_Law_law_291 : decode b_Law_law 291 = .ok (.iadd, 1) := by decide +kernel
theorem d_Law_law_292 : decode b_Law_law 292 = .ok (.iaload, 1) := by decide +kernel
theorem d_Law_law_293 : decode b_Law_law 293 = .ok (.aload_n 0, 1) := by decide +kernel
theorem d_Law_law_294 : decode b_Law_law 294 = .ok (.iload 4, 2) := by decide +kernel
theorem d_Law_law_296 : decode b_Law_law 296 = .ok (.iconst 4, 1) := by decide +kernel
theorem d_Law_law_297 : decode b_Law_law 297 = .ok (.iadd, 1) := by decide +kernel
theorem d_Law_law_298 : decode b_Law_law 298 = .ok (.iaload, 1) := by decide +kernel
theorem d_Law_law_299 : decode b_Law_law 299 = .ok (.invokevirtual 34, 3) := by decide +kernel
theorem d_Law_law_302 : decode b_Law_law 302 = .ok (.if_icmp .eq 367, 3) := by decide +kernel
theorem d_Law_law_307 : decode b_Law_law 307 = .ok (.aload_n 1, 1) := by decide +kernel
theorem d_Law_law_308 : decode b_Law_law 308 = .ok (.invokevirtual 35, 3) := by decide +kernel
theorem d_Law_law_311 : decode b_Law_law 311 = .ok (.pop, 1) := by decide +kernel
theorem d_Law_law_312 : decode b_Law_law 312 = .ok (.aload_n 2, 1) := by decide +kernel
theorem d_Law_law_313 : decode b_Law_law 313 = .ok (.invokevirtual 39, 3) := by decide +kernel
theorem d_Law_law_316 : decode b_Law_law 316 = .ok (.pop, 1) := by decide +kernel
theorem d_Law_law_317 : decode b_Law_law 317 = .ok (.goto 352, 3) := by decide +kernel
theorem d_Law_law_320 : decode b_Law_law 320 = .ok (.aload_n 1, 1) := by decide +kernel
theorem d_Law_law_321 : decode b_Law_law 321 = .ok (.aload_n 0, 1) := by decide +kernel
theorem d_Law_law_322 : decode b_Law_law 322 = .ok (.iload 4, 2) := by decide +kernel
theorem d_Law_law_324 : decode b_Law_law 324 = .ok (.iconst 1, 1) := by decide +kernel
theorem d_Law_law_325 : decode b_Law_law 325 = .ok (.iadd, 1) := by decide +kernel
theorem d_Law_law_326 : decode b_Law_law 326 = .ok (.iaload, 1) := by decide +kernel
theorem d_Law_law_327 : decode b_Law_law 327 = .ok (.invokevirtual 40, 3) := by decide +kernel
theorem d_Law_law_330 : decode b_Law_law 330 = .ok (.pop, 1) := by decide +kernel
theorem d_Law_law_331 : decode b_Law_law 331 = .ok (.aload_n 2, 1) := by decide +kernel
theorem d_Law_law_332 : decode b_Law_law 332 = .ok (.aload_n 0, 1) := by decide +kernel
theorem d_Law_law_333 : decode b_Law_law 333 = .ok (.iload 4, 2) := by decide +kernel
theorem d_Law_law_335 : decode b_Law_law 335 = .ok (.iconst 1, 1) := by decide +kernel
theorem d_Law_law_336 : decode b_Law_law 336 = .ok (.iadd, 1) := by decide +kernel
theorem d_Law_law_337 : decode b_Law_law 337 = .ok (.iaload, 1) := by decide +kernel
theorem d_Law_law_338 : decode b_Law_law 338 = .ok (.invokevirtual 44, 3) := by decide +kernel
theorem d_Law_law_341 : decode b_Law_law 341 = .ok (.pop, 1) := by decide +kernel
theorem d_Law_law_342 : decode b_Law_law 342 = .ok (.goto 327, 3) := by decide +kernel
theorem d_Law_law_345 : decode b_Law_law 345 = .ok (.aload_n 1, 1) := by decide +kernel
theorem d_Law_law_346 : decode b_Law_law 346 = .ok (.aload_n 0, 1) := by decide +kernel
theorem d_Law_law_347 : decode b_Law_law 347 = .ok (.iload 4, 2) := by decide +kernel
theorem d_Law_law_349 : decode b_Law_law 349 = .ok (.iconst 1, 1) := by decide +kernel
theorem d_Law_law_350 : decode b_Law_law 350 = .ok (.iadd, 1) := by decide +kernel
theorem d_Law_law_351 : decode b_Law_law 351 = .ok (.iaload, 1) := by decide +kernel
theorem d_Law_law_352 : decode b_Law_law 352 = .ok (.invokevirtual 45, 3) := by decide +kernel
theorem d_Law_law_355 : decode b_Law_law 355 = .ok (.pop, 1) := by decide +kernel
theorem d_Law_law_356 : decode b_Law_law 356 = .ok (.aload_n 2, 1) := by decide +kernel
theorem d_Law_law_357 : decode b_Law_law 357 = .ok (.aload_n 0, 1) := by decide +kernel
theorem d_Law_law_358 : decode b_Law_law 358 = .ok (.iload 4, 2) := by decide +kernel
theorem d_Law_law_360 : decode b_Law_law 360 = .ok (.iconst 1, 1) := by decide +kernel
theorem d_Law_law_361 : decode b_Law_law 361 = .ok (.iadd, 1) := by decide +kernel
theorem d_Law_law_362 : decode b_Law_law 362 = .ok (.iaload, 1) := by decide +kernel
theorem d_Law_law_363 : decode b_Law_law 363 = .ok (.invokevirtual 48, 3) := by decide +kernel
theorem d_Law_law_366 : decode b_Law_law 366 = .ok (.pop, 1) := by decide +kernel
theorem d_Law_law_367 : decode b_Law_law 367 = .ok (.goto 302, 3) := by decide +kernel
theorem d_Law_law_370 : decode b_Law_law 370 = .ok (.aload_n 1, 1) := by decide +kernel
theorem d_Law_law_371 : decode b_Law_law 371 = .ok (.aload_n 0, 1) := by decide +kernel
theorem d_Law_law_372 : decode b_Law_law 372 = .ok (.iload 4, 2) := by decide +kernel
theorem d_Law_law_374 : decode b_Law_law 374 = .ok (.iconst 1, 1) := by decide +kernel
theorem d_Law_law_375 : decode b_Law_law 375 = .ok (.iadd, 1) := by decide +kernel
theorem d_Law_law_376 : decode b_Law_law 376 = .ok (.iaload, 1) := by decide +kernel
theorem d_Law_law_377 : decode b_Law_law 377 = .ok (.aload_n 0, 1) := by decide +kernel
theorem d_Law_law_378 : decode b_Law_law 378 = .ok (.iload 4, 2) := by decide +kernel
theorem d_Law_law_380 : decode b_Law_law 380 = .ok (.iconst 2, 1) := by decide +kernel
theorem d_Law_law_381 : decode b_Law_law 381 = .ok (.iadd, 1) := by decide +kernel
theorem d_Law_law_382 : decode b_Law_law 382 = .ok (.iaload, 1) := by decide +kernel
theorem d_Law_law_383 : decode b_Law_law 383 = .ok (.aload_n 3, 1) := by decide +kernel
theorem d_Law_law_384 : decode b_Law_law 384 = .ok (.invokestatic 49, 3) := by decide +kernel
theorem d_Law_law_387 : decode b_Law_law 387 = .ok (.istore 5, 2) := by decide +kernel
theorem d_Law_law_389 : decode b_Law_law 389 = .ok (.aload_n 2, 1) := by decide +kernel
theorem d_Law_law_390 : decode b_Law_law 390 = .ok (.aload_n 0, 1) := by decide +kernel
theorem d_Law_law_391 : decode b_Law_law 391 = .ok (.iload 4, 2) := by decide +kernel
theorem d_Law_law_393 : decode b_Law_law 393 = .ok (.iconst 1, 1) := by decide +kernel
theorem d_Law_law_394 : decode b_Law_law 394 = .ok (.iadd, 1) := by decide +kernel
theorem d_Law_law_395 : decode b_Law_law 395 = .ok (.iaload, 1) := by decide +kernel
theorem d_Law_law_396 : decode b_Law_law 396 = .ok (.aload_n 0, 1) := by decide +kernel
theorem d_Law_law_397 : decode b_Law_law 397 = .ok (.iload 4, 2) := by decide +kernel
theorem d_Law_law_399 : decode b_Law_law 399 = .ok (.iconst 2, 1) := by decide +kernel
theorem d_Law_law_400 : decode b_Law_law 400 = .ok (.iadd, 1) := by decide +kernel
theorem d_Law_law_401 : decode b_Law_law 401 = .ok (.iaload, 1) := by decide +kernel
theorem d_Law_law_402 : decode b_Law_law 402 = .ok (.invokevirtual 54, 3) := by decide +kernel
theorem d_Law_law_405 : decode b_Law_law 405 = .ok (.istore 6, 2) := by decide +kernel
theorem d_Law_law_407 : decode b_Law_law 407 = .ok (.goto 262, 3) := by decide +kernel
theorem d_Law_law_410 : decode b_Law_law 410 = .ok (.aload_n 1, 1) := by decide +kernel
theorem d_Law_law_411 : decode b_Law_law 411 = .ok (.aload_n 0, 1) := by decide +kernel
theorem d_Law_law_412 : decode b_Law_law 412 = .ok (.iload 4, 2) := by decide +kernel
theorem d_Law_law_414 : decode b_Law_law 414 = .ok (.iconst 1, 1) := by decide +kernel
theorem d_Law_law_415 : decode b_Law_law 415 = .ok (.iadd, 1) := by decide +kernel
theorem d_Law_law_416 : decode b_Law_law 416 = .ok (.iaload, 1) := by decide +kernel
theorem d_Law_law_417 : decode b_Law_law 417 = .ok (.invokevirtual 55, 3) := by decide +kernel
theorem d_Law_law_420 : decode b_Law_law 420 = .ok (.pop, 1) := by decide +kernel
theorem d_Law_law_421 : decode b_Law_law 421 = .ok (.aload_n 2, 1) := by decide +kernel
theorem d_Law_law_422 : decode b_Law_law 422 = .ok (.aload_n 0, 1) := by decide +kernel
theorem d_Law_law_423 : decode b_Law_law 423 = .ok (.iload 4, 2) := by decide +kernel
theorem d_Law_law_425 : decode b_Law_law 425 = .ok (.iconst 1, 1) := by decide +kernel
theorem d_Law_law_426 : decode b_Law_law 426 = .ok (.iadd, 1) := by decide +kernel
theorem d_Law_law_427 : decode b_Law_law 427 = .ok (.iaload, 1) := by decide +kernel
theorem d_Law_law_428 : decode b_Law_law 428 = .ok (.invokevirtual 59, 3) := by decide +kernel
theorem d_Law_law_431 : decode b_Law_law 431 = .ok (.pop, 1) := by decide +kernel
theorem d_Law_law_432 : decode b_Law_law 432 = .ok (.goto 237, 3) := by decide +kernel
theorem d_Law_law_435 : decode b_Law_law 435 = .ok (.aload_n 1, 1) := by decide +kernel
theorem d_Law_law_436 : decode b_Law_law 436 = .ok (.aload_n 0, 1) := by decide +kernel
theorem d_Law_law_437 : decode b_Law_law 437 = .ok (.iload 4, 2) := by decide +kernel
theorem d_Law_law_439 : decode b_Law_law 439 = .ok (.iconst 1, 1) := by decide +kernel
theorem d_Law_law_440 : decode b_Law_law 440 = .ok (.iadd, 1) := by decide +kernel
theorem d_Law_law_441 : decode b_Law_law 441 = .ok (.iaload, 1) := by decide +kernel
theorem d_Law_law_442 : decode b_Law_law 442 = .ok (.aload_n 0, 1) := by decide +kernel
theorem d_Law_law_443 : decode b_Law_law 443 = .ok (.iload 4, 2) := by decide +kernel
theorem d_Law_law_445 : decode b_Law_law 445 = .ok (.iconst 2, 1) := by decide +kernel
theorem d_Law_law_446 : decode b_Law_law 446 = .ok (.iadd, 1) := by decide +kernel
theorem d_Law_law_447 : decode b_Law_law 447 = .ok (.iaload, 1) := by decide +kernel
theorem d_Law_law_448 : decode b_Law_law 448 = .ok (.aload_n 0, 1) := by decide +kernel
theorem d_Law_law_449 : decode b_Law_law 449 = .ok (.iload 4, 2) := by decide +kernel
theorem d_Law_law_451 : decode b_Law_law 451 = .ok (.iconst 3, 1) := by decide +kernel
theorem d_Law_law_452 : decode b_Law_law 452 = .ok (.iadd, 1) := by decide +kernel
theorem d_Law_law_453 : decode b_Law_law 453 = .ok (.iaload, 1) := by decide +kernel
theorem d_Law_law_454 : decode b_Law_law 454 = .ok (.invokevirtual 60, 3) := by decide +kernel
theorem d_Law_law_457 : decode b_Law_law 457 = .ok (.pop, 1) := by decide +kernel
theorem d_Law_law_458 : decode b_Law_law 458 = .ok (.aload_n 2, 1) := by decide +kernel
theorem d_Law_law_459 : decode b_Law_law 459 = .ok (.aload_n 0, 1) := by decide +kernel
theorem d_Law_law_460 : decode b_Law_law 460 = .ok (.iload 4, 2) := by decide +kernel
theorem d_Law_law_462 : decode b_Law_law 462 = .ok (.iconst 1, 1) := by decide +kernel
theorem d_Law_law_463 : decode b_Law_law 463 = .ok (.iadd, 1) := by decide +kernel
theorem d_Law_law_464 : decode b_Law_law 464 = .ok (.iaload, 1) := by decide +kernel
theorem d_Law_law_465 : decode b_Law_law 465 = .ok (.aload_n 0, 1) := by decide +kernel
theorem d_Law_law_466 : decode b_Law_law 466 = .ok (.iload 4, 2) := by decide +kernel
theorem d_Law_law_468 : decode b_Law_law 468 = .ok (.iconst 2, 1) := by decide +kernel
theorem d_Law_law_469 : decode b_Law_law 469 = .ok (.iadd, 1) := by decide +kernel
theorem d_Law_law_470 : decode b_Law_law 470 = .ok (.iaload, 1) := by decide +kernel
theorem d_Law_law_471 : decode b_Law_law 471 = .ok (.aload_n 0, 1) := by decide +kernel
theorem d_Law_law_472 : decode b_Law_law 472 = .ok (.iload 4, 2) := by decide +kernel
theorem d_Law_law_474 : decode b_Law_law 474 = .ok (.iconst 3, 1) := by decide +kernel
theorem d_Law_law_475 : decode b_Law_law 475 = .ok (.iadd, 1) := by decide +kernel
theorem d_Law_law_476 : decode b_Law_law 476 = .ok (.iaload, 1) := by decide +kernel
theorem d_Law_law_477 : decode b_Law_law 477 = .ok (.invokevirtual 64, 3) := by decide +kernel
theorem d_Law_law_480 : decode b_Law_law 480 = .ok (.pop, 1) := by decide +kernel
theorem d_Law_law_481 : decode b_Law_law 481 = .ok (.goto 188, 3) := by decide +kernel
theorem d_Law_law_484 : decode b_Law_law 484 = .ok (.aload_n 1, 1) := by decide +kernel
theorem d_Law_law_485 : decode b_Law_law 485 = .ok (.aload_n 0, 1) := by decide +kernel
theorem d_Law_law_486 : decode b_Law_law 486 = .ok (.iload 4, 2) := by decide +kernel
theorem d_Law_law_488 : decode b_Law_law 488 = .ok (.iconst 1, 1) := by decide +kernel
theorem d_Law_law_489 : decode b_Law_law 489 = .ok (.iadd, 1) := by decide +kernel
theorem d_Law_law_490 : decode b_Law_law 490 = .ok (.iaload, 1) := by decide +kernel
theorem d_Law_law_491 : decode b_Law_law 491 = .ok (.invokevirtual 65, 3) := by decide +kernel
theorem d_Law_law_494 : decode b_Law_law 494 = .ok (.pop, 1) := by decide +kernel
theorem d_Law_law_495 : decode b_Law_law 495 = .ok (.aload_n 2, 1) := by decide +kernel
theorem d_Law_law_496 : decode b_Law_law 496 = .ok (.aload_n 0, 1) := by decide +kernel
theorem d_Law_law_497 : decode b_Law_law 497 = .ok (.iload 4, 2) := by decide +kernel
theorem d_Law_law_499 : decode b_Law_law 499 = .ok (.iconst 1, 1) := by decide +kernel
theorem d_Law_law_500 : decode b_Law_law 500 = .ok (.iadd, 1) := by decide +kernel
theorem d_Law_law_501 : decode b_Law_law 501 = .ok (.iaload, 1) := by decide +kernel
theorem d_Law_law_502 : decode b_Law_law 502 = .ok (.invokevirtual 68, 3) := by decide +kernel
theorem d_Law_law_505 : decode b_Law_law 505 = .ok (.pop, 1) := by decide +kernel
theorem d_Law_law_506 : decode b_Law_law 506 = .ok (.goto 163, 3) := by decide +kernel
theorem d_Law_law_509 : decode b_Law_law 509 = .ok (.aload_n 1, 1) := by decide +kernel
theorem d_Law_law_510 : decode b_Law_law 510 = .ok (.aload_n 0, 1) := by decide +kernel
theorem d_Law_law_511 : decode b_Law_law 511 = .ok (.iload 4, 2) := by decide +kernel
theorem d_Law_law_513 : decode b_Law_law 513 = .ok (.iconst 1, 1) := by decide +kernel
theorem d_Law_law_514 : decode b_Law_law 514 = .ok (.iadd, 1) := by decide +kernel
theorem d_Law_law_515 : decode b_Law_law 515 = .ok (.iaload, 1) := by decide +kernel
theorem d_Law_law_516 : decode b_Law_law 516 = .ok (.aload_n 0, 1) := by decide +kernel
theorem d_Law_law_517 : decode b_Law_law 517 = .ok (.iload 4, 2) := by decide +kernel
theorem d_Law_law_519 : decode b_Law_law 519 = .ok (.iconst 2, 1) := by decide +kernel
theorem d_Law_law_520 : decode b_Law_law 520 = .ok (.iadd, 1) := by decide +kernel
theorem d_Law_law_521 : decode b_Law_law 521 = .ok (.iaload, 1) := by decide +kernel
theorem d_Law_law_522 : decode b_Law_law 522 = .ok (.aload_n 0, 1) := by decide +kernel
theorem d_Law_law_523 : decode b_Law_law 523 = .ok (.iload 4, 2) := by decide +kernel
theorem d_Law_law_525 : decode b_Law_law 525 = .ok (.iconst 3, 1) := by decide +kernel
theorem d_Law_law_526 : decode b_Law_law 526 = .ok (.iadd, 1) := by decide +kernel
theorem d_Law_law_527 : decode b_Law_law 527 = .ok (.iaload, 1) := by decide +kernel
theorem d_Law_law_528 : decode b_Law_law 528 = .ok (.invokevirtual 69, 3) := by decide +kernel
theorem d_Law_law_531 : decode b_Law_law 531 = .ok (.pop, 1) := by decide +kernel
theorem d_Law_law_532 : decode b_Law_law 532 = .ok (.aload_n 2, 1) := by decide +kernel
theorem d_Law_law_533 : decode b_Law_law 533 = .ok (.aload_n 0, 1) := by decide +kernel
theorem d_Law_law_534 : decode b_Law_law 534 = .ok (.iload 4, 2) := by decide +kernel
theorem d_Law_law_536 : decode b_Law_law 536 = .ok (.iconst 1, 1) := by decide +kernel
theorem d_Law_law_537 : decode b_Law_law 537 = .ok (.iadd, 1) := by decide +kernel
theorem d_Law_law_538 : decode b_Law_law 538 = .ok (.iaload, 1) := by decide +kernel
theorem d_Law_law_539 : decode b_Law_law 539 = .ok (.aload_n 0, 1) := by decide +kernel
theorem d_Law_law_540 : decode b_Law_law 540 = .ok (.iload 4, 2) := by decide +kernel
theorem d_Law_law_542 : decode b_Law_law 542 = .ok (.iconst 2, 1) := by decide +kernel
theorem d_Law_law_543 : decode b_Law_law 543 = .ok (.iadd, 1) := by decide +kernel
theorem d_Law_law_544 : decode b_Law_law 544 = .ok (.iaload, 1) := by decide +kernel
theorem d_Law_law_545 : decode b_Law_law 545 = .ok (.aload_n 0, 1) := by decide +kernel
theorem d_Law_law_546 : decode b_Law_law 546 = .ok (.iload 4, 2) := by decide +kernel
theorem d_Law_law_548 : decode b_Law_law 548 = .ok (.iconst 3, 1) := by decide +kernel
theorem d_Law_law_549 : decode b_Law_law 549 = .ok (.iadd, 1) := by decide +kernel
theorem d_Law_law_550 : decode b_Law_law 550 = .ok (.iaload, 1) := by decide +kernel
theorem d_Law_law_551 : decode b_Law_law 551 = .ok (.invokevirtual 73, 3) := by decide +kernel
theorem d_Law_law_554 : decode b_Law_law 554 = .ok (.pop, 1) := by decide +kernel
theorem d_Law_law_555 : decode b_Law_law 555 = .ok (.goto 114, 3) := by decide +kernel
theorem d_Law_law_558 : decode b_Law_law 558 = .ok (.aload_n 1, 1) := by decide +kernel
theorem d_Law_law_559 : decode b_Law_law 559 = .ok (.aload_n 0, 1) := by decide +kernel
theorem d_Law_law_560 : decode b_Law_law 560 = .ok (.iload 4, 2) := by decide +kernel
theorem d_Law_law_562 : decode b_Law_law 562 = .ok (.iconst 1, 1) := by decide +kernel
theorem d_Law_law_563 : decode b_Law_law 563 = .ok (.iadd, 1) := by decide +kernel
theorem d_Law_law_564 : decode b_Law_law 564 = .ok (.iaload, 1) := by decide +kernel
theorem d_Law_law_565 : decode b_Law_law 565 = .ok (.aload_n 0, 1) := by decide +kernel
theorem d_Law_law_566 : decode b_Law_law 566 = .ok (.iload 4, 2) := by decide +kernel
theorem d_Law_law_568 : decode b_Law_law 568 = .ok (.iconst 2, 1) := by decide +kernel
theorem d_Law_law_569 : decode b_Law_law 569 = .ok (.iadd, 1) := by decide +kernel
theorem d_Law_law_570 : decode b_Law_law 570 = .ok (.iaload, 1) := by decide +kernel
theorem d_Law_law_571 : decode b_Law_law 571 = .ok (.invokevirtual 74, 3) := by decide +kernel
theorem d_Law_law_574 : decode b_Law_law 574 = .ok (.pop, 1) := by decide +kernel
theorem d_Law_law_575 : decode b_Law_law 575 = .ok (.aload_n 2, 1) := by decide +kernel
theorem d_Law_law_576 : decode b_Law_law 576 = .ok (.aload_n 0, 1) := by decide +kernel
theorem d_Law_law_577 : decode b_Law_law 577 = .ok (.iload 4, 2) := by decide +kernel
theorem d_Law_law_579 : decode b_Law_law 579 = .ok (.iconst 1, 1) := by decide +kernel
theorem d_Law_law_580 : decode b_Law_law 580 = .ok (.iadd, 1) := by decide +kernel
theorem d_Law_law_581 : decode b_Law_law 581 = .ok (.iaload, 1) := by decide +kernel
theorem d_Law_law_582 : decode b_Law_law 582 = .ok (.aload_n 0, 1) := by decide +kernel
theorem d_Law_law_583 : decode b_Law_law 583 = .ok (.iload 4, 2) := by decide +kernel
theorem d_Law_law_585 : decode b_Law_law 585 = .ok (.iconst 2, 1) := by decide +kernel
theorem d_Law_law_586 : decode b_Law_law 586 = .ok (.iadd, 1) := by decide +kernel
theorem d_Law_law_587 : decode b_Law_law 587 = .ok (.iaload, 1) := by decide +kernel
theorem d_Law_law_588 : decode b_Law_law 588 = .ok (.invokevirtual 77, 3) := by decide +kernel
theorem d_Law_law_591 : decode b_Law_law 591 = .ok (.pop, 1) := by decide +kernel
theorem d_Law_law_592 : decode b_Law_law 592 = .ok (.goto 77, 3) := by decide +kernel
theorem d_Law_law_595 : decode b_Law_law 595 = .ok (.aload_n 1, 1) := by decide +kernel
theorem d_Law_law_596 : decode b_Law_law 596 = .ok (.aload_n 0, 1) := by decide +kernel
theorem d_Law_law_597 : decode b_Law_law 597 = .ok (.iload 4, 2) := by decide +kernel
theorem d_Law_law_599 : decode b_Law_law 599 = .ok (.iconst 1, 1) := by decide +kernel
theorem d_Law_law_600 : decode b_Law_law 600 = .ok (.iadd, 1) := by decide +kernel
theorem d_Law_law_601 : decode b_Law_law 601 = .ok (.iaload, 1) := by decide +kernel
theorem d_Law_law_602 : decode b_Law_law 602 = .ok (.aload_n 0, 1) := by decide +kernel
theorem d_Law_law_603 : decode b_Law_law 603 = .ok (.iload 4, 2) := by decide +kernel
theorem d_Law_law_605 : decode b_Law_law 605 = .ok (.iconst 2, 1) := by decide +kernel
theorem d_Law_law_606 : decode b_Law_law 606 = .ok (.iadd, 1) := by decide +kernel
theorem d_Law_law_607 : decode b_Law_law 607 = .ok (.iaload, 1) := by decide +kernel
theorem d_Law_law_608 : decode b_Law_law 608 = .ok (.invokevirtual 78, 3) := by decide +kernel
theorem d_Law_law_611 : decode b_Law_law 611 = .ok (.pop, 1) := by decide +kernel
theorem d_Law_law_612 : decode b_Law_law 612 = .ok (.aload_n 2, 1) := by decide +kernel
theorem d_Law_law_613 : decode b_Law_law 613 = .ok (.aload_n 0, 1) := by decide +kernel
theorem d_Law_law_614 : decode b_Law_law 614 = .ok (.iload 4, 2) := by decide +kernel
theorem d_Law_law_616 : decode b_Law_law 616 = .ok (.iconst 1, 1) := by decide +kernel
theorem d_Law_law_617 : decode b_Law_law 617 = .ok (.iadd, 1) := by decide +kernel
theorem d_Law_law_618 : decode b_Law_law 618 = .ok (.iaload, 1) := by decide +kernel
theorem d_Law_law_619 : decode b_Law_law 619 = .ok (.aload_n 0, 1) := by decide +kernel
theorem d_Law_law_620 : decode b_Law_law 620 = .ok (.iload 4, 2) := by decide +kernel
theorem d_Law_law_622 : decode b_Law_law 622 = .ok (.iconst 2, 1) := by decide +kernel
theorem d_Law_law_623 : decode b_Law_law 623 = .ok (.iadd, 1) := by decide +kernel
theorem d_Law_law_624 : decode b_Law_law 624 = .ok (.iaload, 1) := by decide +kernel
theorem d_Law_law_625 : decode b_Law_law 625 = .ok (.invokevirtual 81, 3) := by decide +kernel
theorem d_Law_law_628 : decode b_Law_law 628 = .ok (.pop, 1) := by decide +kernel
theorem d_Law_law_629 : decode b_Law_law 629 = .ok (.goto 40, 3) := by decide +kernel
theorem d_Law_law_632 : decode b_Law_law 632 = .ok (.aload_n 1, 1) := by decide +kernel
theorem d_Law_law_633 : decode b_Law_law 633 = .ok (.aload_n 0, 1) := by decide +kernel
theorem d_Law_law_634 : decode b_Law_law 634 = .ok (.iload 4, 2) := by decide +kernel
theorem d_Law_law_636 : decode b_Law_law 636 = .ok (.iconst 1, 1) := by decide +kernel
theorem d_Law_law_637 : decode b_Law_law 637 = .ok (.iadd, 1) := by decide +kernel
theorem d_Law_law_638 : decode b_Law_law 638 = .ok (.iaload, 1) := by decide +kernel
theorem d_Law_law_639 : decode b_Law_law 639 = .ok (.aload_n 0, 1) := by decide +kernel
theorem d_Law_law_640 : decode b_Law_law 640 = .ok (.iload 4, 2) := by decide +kernel
theorem d_Law_law_642 : decode b_Law_law 642 = .ok (.iconst 2, 1) := by decide +kernel
theorem d_Law_law_643 : decode b_Law_law 643 = .ok (.iadd, 1) := by decide +kernel
theorem d_Law_law_644 : decode b_Law_law 644 = .ok (.iaload, 1) := by decide +kernel
theorem d_Law_law_645 : decode b_Law_law 645 = .ok (.invokevirtual 82, 3) := by decide +kernel
theorem d_Law_law_648 : decode b_Law_law 648 = .ok (.pop, 1) := by decide +kernel
theorem d_Law_law_649 : decode b_Law_law 649 = .ok (.aload_n 2, 1) := by decide +kernel
theorem d_Law_law_650 : decode b_Law_law 650 = .ok (.aload_n 0, 1) := by decide +kernel
theorem d_Law_law_651 : decode b_Law_law 651 = .ok (.iload 4, 2) := by decide +kernel
theorem d_Law_law_653 : decode b_Law_law 653 = .ok (.iconst 1, 1) := by decide +kernel
theorem d_Law_law_654 : decode b_Law_law 654 = .ok (.iadd, 1) := by decide +kernel
theorem d_Law_law_655 : decode b_Law_law 655 = .ok (.iaload, 1) := by decide +kernel
theorem d_Law_law_656 : decode b_Law_law 656 = .ok (.aload_n 0, 1) := by decide +kernel
theorem d_Law_law_657 : decode b_Law_law 657 = .ok (.iload 4, 2) := by decide +kernel
theorem d_Law_law_659 : decode b_Law_law 659 = .ok (.iconst 2, 1) := by decide +kernel
theorem d_Law_law_660 : decode b_Law_law 660 = .ok (.iadd, 1) := by decide +kernel
theorem d_Law_law_661 : decode b_Law_law 661 = .ok (.iaload, 1) := by decide +kernel
theorem d_Law_law_662 : decode b_Law_law 662 = .ok (.invokevirtual 85, 3) := by decide +kernel
theorem d_Law_law_665 : decode b_Law_law 665 = .ok (.pop, 1) := by decide +kernel
theorem d_Law_law_666 : decode b_Law_law 666 = .ok (.goto 3, 3) := by decide +kernel
theorem d_Law_law_669 : decode b_Law_law 669 = .ok (.iinc 4 6, 3) := by decide +kernel
theorem d_Law_law_672 : decode b_Law_law 672 = .ok (.goto (-649), 3) := by decide +kernel
theorem d_Law_law_675 : decode b_Law_law 675 = .ok (.iconst 1, 1) := by decide +kernel
theorem d_Law_law_676 : decode b_Law_law 676 = .ok (.ireturn, 1) := by decide +kernel
