/-! The reference over any state: the row anew, a lift taken back -/
theorem dX6_anew_0 : decode cX6_anew 0 = .ok (.aload_n 0, 1) := by decide +kernel
theorem dX6_anew_1 : decode cX6_anew 1 = .ok (.getfield 7, 3) := by decide +kernel
theorem dX6_anew_4 : decode cX6_anew 4 = .ok (.iconst 3, 1) := by decide +kernel
theorem dX6_anew_5 : decode cX6_anew 5 = .ok (.lconst 0, 1) := by decide +kernel
theorem dX6_anew_6 : decode cX6_anew 6 = .ok (.lastore, 1) := by decide +kernel
theorem dX6_anew_7 : decode cX6_anew 7 = .ok (.aload_n 0, 1) := by decide +kernel
theorem dX6_anew_8 : decode cX6_anew 8 = .ok (.getfield 7, 3) := by decide +kernel
theorem dX6_anew_11 : decode cX6_anew 11 = .ok (.iconst 4, 1) := by decide +kernel
theorem dX6_anew_12 : decode cX6_anew 12 = .ok (.lconst 0, 1) := by decide +kernel
theorem dX6_anew_13 : decode cX6_anew 13 = .ok (.lastore, 1) := by decide +kernel
theorem dX6_anew_14 : decode cX6_anew 14 = .ok (.iconst 0, 1) := by decide +kernel
theorem dX6_anew_15 : decode cX6_anew 15 = .ok (.istore_n 1, 1) := by decide +kernel
theorem dX6_anew_16 : decode cX6_anew 16 = .ok (.iload_n 1, 1) := by decide +kernel
theorem dX6_anew_17 : decode cX6_anew 17 = .ok (.aload_n 0, 1) := by decide +kernel
theorem dX6_anew_18 : decode cX6_anew 18 = .ok (.getfield 185, 3) := by decide +kernel
theorem dX6_anew_21 : decode cX6_anew 21 = .ok (.if_icmp .ge 99, 3) := by decide +kernel
theorem dX6_anew_24 : decode cX6_anew 24 = .ok (.aload_n 0, 1) := by decide +kernel
theorem dX6_anew_25 : decode cX6_anew 25 = .ok (.getfield 7, 3) := by decide +kernel
theorem dX6_anew_28 : decode cX6_anew 28 = .ok (.iconst 5, 1) := by decide +kernel
theorem dX6_anew_29 : decode cX6_anew 29 = .ok (.iload_n 1, 1) := by decide +kernel
theorem dX6_anew_30 : decode cX6_anew 30 = .ok (.iadd, 1) := by decide +kernel
theorem dX6_anew_31 : decode cX6_anew 31 = .ok (.aload_n 0, 1) := by decide +kernel
theorem dX6_anew_32 : decode cX6_anew 32 = .ok (.getfield 27, 3) := by decide +kernel
theorem dX6_anew_35 : decode cX6_anew 35 = .ok (.iload_n 1, 1) := by decide +kernel
theorem dX6_anew_36 : decode cX6_anew 36 = .ok (.iaload, 1) := by decide +kernel
theorem dX6_anew_37 : decode cX6_anew 37 = .ok (.i2l, 1) := by decide +kernel
theorem dX6_anew_38 : decode cX6_anew 38 = .ok (.lastore, 1) := by decide +kernel
theorem dX6_anew_39 : decode cX6_anew 39 = .ok (.iload_n 1, 1) := by decide +kernel
theorem dX6_anew_40 : decode cX6_anew 40 = .ok (.ifCond .ne 12, 3) := by decide +kernel
theorem dX6_anew_43 : decode cX6_anew 43 = .ok (.aload_n 0, 1) := by decide +kernel
theorem dX6_anew_44 : decode cX6_anew 44 = .ok (.getfield 23, 3) := by decide +kernel
theorem dX6_anew_47 : decode cX6_anew 47 = .ok (.iconst 0, 1) := by decide +kernel
theorem dX6_anew_48 : decode cX6_anew 48 = .ok (.iaload, 1) := by decide +kernel
theorem dX6_anew_49 : decode cX6_anew 49 = .ok (.goto 11, 3) := by decide +kernel
theorem dX6_anew_52 : decode cX6_anew 52 = .ok (.aload_n 0, 1) := by decide +kernel
theorem dX6_anew_53 : decode cX6_anew 53 = .ok (.getfield 23, 3) := by decide +kernel
theorem dX6_anew_56 : decode cX6_anew 56 = .ok (.iload_n 1, 1) := by decide +kernel
theorem dX6_anew_57 : decode cX6_anew 57 = .ok (.iconst 1, 1) := by decide +kernel
theorem dX6_anew_58 : decode cX6_anew 58 = .ok (.isub, 1) := by decide +kernel
theorem dX6_anew_59 : decode cX6_anew 59 = .ok (.iaload, 1) := by decide +kernel
theorem dX6_anew_60 : decode cX6_anew 60 = .ok (.istore_n 2, 1) := by decide +kernel
theorem dX6_anew_61 : decode cX6_anew 61 = .ok (.iload_n 1, 1) := by decide +kernel
theorem dX6_anew_62 : decode cX6_anew 62 = .ok (.aload_n 0, 1) := by decide +kernel
theorem dX6_anew_63 : decode cX6_anew 63 = .ok (.getfield 185, 3) := by decide +kernel
theorem dX6_anew_66 : decode cX6_anew 66 = .ok (.iconst 1, 1) := by decide +kernel
theorem dX6_anew_67 : decode cX6_anew 67 = .ok (.isub, 1) := by decide +kernel
theorem dX6_anew_68 : decode cX6_anew 68 = .ok (.if_icmp .ne 12, 3) := by decide +kernel
theorem dX6_anew_71 : decode cX6_anew 71 = .ok (.aload_n 0, 1) := by decide +kernel
theorem dX6_anew_72 : decode cX6_anew 72 = .ok (.getfield 23, 3) := by decide +kernel
theorem dX6_anew_75 : decode cX6_anew 75 = .ok (.iload_n 1, 1) := by decide +kernel
theorem dX6_anew_76 : decode cX6_anew 76 = .ok (.iaload, 1) := by decide +kernel
theorem dX6_anew_77 : decode cX6_anew 77 = .ok (.goto 11, 3) := by decide +kernel
theorem dX6_anew_80 : decode cX6_anew 80 = .ok (.aload_n 0, 1) := by decide +kernel
theorem dX6_anew_81 : decode cX6_anew 81 = .ok (.getfield 23, 3) := by decide +kernel
theorem dX6_anew_84 : decode cX6_anew 84 = .ok (.iload_n 1, 1) := by decide +kernel
theorem dX6_anew_85 : decode cX6_anew 85 = .ok (.iconst 1, 1) := by decide +kernel
theorem dX6_anew_86 : decode cX6_anew 86 = .ok (.iadd, 1) := by decide +kernel
theorem dX6_anew_87 : decode cX6_anew 87 = .ok (.iaload, 1) := by decide +kernel
theorem dX6_anew_88 : decode cX6_anew 88 = .ok (.istore_n 3, 1) := by decide +kernel
theorem dX6_anew_89 : decode cX6_anew 89 = .ok (.aload_n 0, 1) := by decide +kernel
theorem dX6_anew_90 : decode cX6_anew 90 = .ok (.getfield 7, 3) := by decide +kernel
theorem dX6_anew_93 : decode cX6_anew 93 = .ok (.bipush 53, 2) := by decide +kernel
theorem dX6_anew_95 : decode cX6_anew 95 = .ok (.iload_n 1, 1) := by decide +kernel
theorem dX6_anew_96 : decode cX6_anew 96 = .ok (.iadd, 1) := by decide +kernel
theorem dX6_anew_97 : decode cX6_anew 97 = .ok (.iload_n 3, 1) := by decide +kernel
theorem dX6_anew_98 : decode cX6_anew 98 = .ok (.iload_n 2, 1) := by decide +kernel
theorem dX6_anew_99 : decode cX6_anew 99 = .ok (.isub, 1) := by decide +kernel
theorem dX6_anew_100 : decode cX6_anew 100 = .ok (.i2l, 1) := by decide +kernel
theorem dX6_anew_101 : decode cX6_anew 101 = .ok (.lastore, 1) := by decide +kernel
theorem dX6_anew_102 : decode cX6_anew 102 = .ok (.aload_n 0, 1) := by decide +kernel
theorem dX6_anew_103 : decode cX6_anew 103 = .ok (.getfield 7, 3) := by decide +kernel
theorem dX6_anew_106 : decode cX6_anew 106 = .ok (.bipush 101, 2) := by decide +kernel
theorem dX6_anew_108 : decode cX6_anew 108 = .ok (.iload_n 1, 1) := by decide +kernel
theorem dX6_anew_109 : decode cX6_anew 109 = .ok (.iadd, 1) := by decide +kernel
theorem dX6_anew_110 : decode cX6_anew 110 = .ok (.ldc2_w 197, 3) := by decide +kernel
theorem dX6_anew_113 : decode cX6_anew 113 = .ok (.lastore, 1) := by decide +kernel
theorem dX6_anew_114 : decode cX6_anew 114 = .ok (.iinc 1 1, 3) := by decide +kernel
theorem dX6_anew_117 : decode cX6_anew 117 = .ok (.goto (-101), 3) := by decide +kernel
theorem dX6_anew_120 : decode cX6_anew 120 = .ok (.return_, 1) := by decide +kernel
theorem dX6_inverts_0 : decode cX6_inverts 0 = .ok (.aload_n 0, 1) := by decide +kernel
theorem dX6_inverts_1 : decode cX6_inverts 1 = .ok (.invokevirtual 199, 3) := by decide +kernel
theorem dX6_inverts_4 : decode cX6_inverts 4 = .ok (.iconst 1, 1) := by decide +kernel
theorem dX6_inverts_5 : decode cX6_inverts 5 = .ok (.isub, 1) := by decide +kernel
theorem dX6_inverts_6 : decode cX6_inverts 6 = .ok (.istore_n 1, 1) := by decide +kernel
theorem dX6_inverts_7 : decode cX6_inverts 7 = .ok (.aload_n 0, 1) := by decide +kernel
theorem dX6_inverts_8 : decode cX6_inverts 8 = .ok (.iload_n 1, 1) := by decide +kernel
theorem dX6_inverts_9 : decode cX6_inverts 9 = .ok (.iconst 0, 1) := by decide +kernel
theorem dX6_inverts_10 : decode cX6_inverts 10 = .ok (.invokevirtual 208, 3) := by decide +kernel
theorem dX6_inverts_13 : decode cX6_inverts 13 = .ok (.l2i, 1) := by decide +kernel
theorem dX6_inverts_14 : decode cX6_inverts 14 = .ok (.istore_n 2, 1) := by decide +kernel
theorem dX6_inverts_15 : decode cX6_inverts 15 = .ok (.aload_n 0, 1) := by decide +kernel
theorem dX6_inverts_16 : decode cX6_inverts 16 = .ok (.iload_n 1, 1) := by decide +kernel
theorem dX6_inverts_17 : decode cX6_inverts 17 = .ok (.iconst 1, 1) := by decide +kernel
theorem dX6_inverts_18 : decode cX6_inverts 18 = .ok (.invokevirtual 208, 3) := by decide +kernel
theorem dX6_inverts_21 : decode cX6_inverts 21 = .ok (.l2i, 1) := by decide +kernel
theorem dX6_inverts_22 : decode cX6_inverts 22 = .ok (.istore_n 3, 1) := by decide +kernel
theorem dX6_inverts_23 : decode cX6_inverts 23 = .ok (.aload_n 0, 1) := by decide +kernel
theorem dX6_inverts_24 : decode cX6_inverts 24 = .ok (.iload_n 1, 1) := by decide +kernel
theorem dX6_inverts_25 : decode cX6_inverts 25 = .ok (.iconst 2, 1) := by decide +kernel
theorem dX6_inverts_26 : decode cX6_inverts 26 = .ok (.invokevirtual 208, 3) := by decide +kernel
theorem dX6_inverts_29 : decode cX6_inverts 29 = .ok (.l2i, 1) := by decide +kernel
theorem dX6_inverts_30 : decode cX6_inverts 30 = .ok (.istore 4, 2) := by decide +kernel
theorem dX6_inverts_32 : decode cX6_inverts 32 = .ok (.aload_n 0, 1) := by decide +kernel
theorem dX6_inverts_33 : decode cX6_inverts 33 = .ok (.iload_n 1, 1) := by decide +kernel
theorem dX6_inverts_34 : decode cX6_inverts 34 = .ok (.bipush 6, 2) := by decide +kernel
theorem dX6_inverts_36 : decode cX6_inverts 36 = .ok (.invokevirtual 208, 3) := by decide +kernel
theorem dX6_inverts_39 : decode cX6_inverts 39 = .ok (.aload_n 0, 1) := by decide +kernel
theorem dX6_inverts_40 : decode cX6_inverts 40 = .ok (.iload_n 1, 1) := by decide +kernel
theorem dX6_inverts_41 : decode cX6_inverts 41 = .ok (.iconst 5, 1) := by decide +kernel
theorem dX6_inverts_42 : decode cX6_inverts 42 = .ok (.invokevirtual 208, 3) := by decide +kernel
theorem dX6_inverts_45 : decode cX6_inverts 45 = .ok (.ladd, 1) := by decide +kernel
theorem dX6_inverts_46 : decode cX6_inverts 46 = .ok (.lstore 5, 2) := by decide +kernel
theorem dX6_inverts_48 : decode cX6_inverts 48 = .ok (.aload_n 0, 1) := by decide +kernel
theorem dX6_inverts_49 : decode cX6_inverts 49 = .ok (.iload_n 1, 1) := by decide +kernel
theorem dX6_inverts_50 : decode cX6_inverts 50 = .ok (.bipush 7, 2) := by decide +kernel
theorem dX6_inverts_52 : decode cX6_inverts 52 = .ok (.invokevirtual 208, 3) := by decide +kernel
theorem dX6_inverts_55 : decode cX6_inverts 55 = .ok (.aload_n 0, 1) := by decide +kernel
theorem dX6_inverts_56 : decode cX6_inverts 56 = .ok (.iload_n 1, 1) := by decide +kernel
theorem dX6_inverts_57 : decode cX6_inverts 57 = .ok (.iconst 4, 1) := by decide +kernel
theorem dX6_inverts_58 : decode cX6_inverts 58 = .ok (.invokevirtual 208, 3) := by decide +kernel
theorem dX6_inverts_61 : decode cX6_inverts 61 = .ok (.ladd, 1) := by decide +kernel
theorem dX6_inverts_62 : decode cX6_inverts 62 = .ok (.aload_n 0, 1) := by decide +kernel
theorem dX6_inverts_63 : decode cX6_inverts 63 = .ok (.iload_n 1, 1) := by decide +kernel
theorem dX6_inverts_64 : decode cX6_inverts 64 = .ok (.iconst 5, 1) := by decide +kernel
theorem dX6_inverts_65 : decode cX6_inverts 65 = .ok (.invokevirtual 208, 3) := by decide +kernel
theorem dX6_inverts_68 : decode cX6_inverts 68 = .ok (.lsub, 1) := by decide +kernel
theorem dX6_inverts_69 : decode cX6_inverts 69 = .ok (.lstore 7, 2) := by decide +kernel
theorem dX6_inverts_71 : decode cX6_inverts 71 = .ok (.lload 5, 2) := by decide +kernel
theorem dX6_inverts_73 : decode cX6_inverts 73 = .ok (.aload_n 0, 1) := by decide +kernel
theorem dX6_inverts_74 : decode cX6_inverts 74 = .ok (.getfield 7, 3) := by decide +kernel
theorem dX6_inverts_77 : decode cX6_inverts 77 = .ok (.iconst 5, 1) := by decide +kernel
theorem dX6_inverts_78 : decode cX6_inverts 78 = .ok (.iload_n 3, 1) := by decide +kernel
theorem dX6_inverts_79 : decode cX6_inverts 79 = .ok (.iadd, 1) := by decide +kernel
theorem dX6_inverts_80 : decode cX6_inverts 80 = .ok (.laload, 1) := by decide +kernel
theorem dX6_inverts_81 : decode cX6_inverts 81 = .ok (.lmul, 1) := by decide +kernel
theorem dX6_inverts_82 : decode cX6_inverts 82 = .ok (.lload 7, 2) := by decide +kernel
theorem dX6_inverts_84 : decode cX6_inverts 84 = .ok (.aload_n 0, 1) := by decide +kernel
theorem dX6_inverts_85 : decode cX6_inverts 85 = .ok (.getfield 7, 3) := by decide +kernel
theorem dX6_inverts_88 : decode cX6_inverts 88 = .ok (.iconst 5, 1) := by decide +kernel
theorem dX6_inverts_89 : decode cX6_inverts 89 = .ok (.iload 4, 2) := by decide +kernel
theorem dX6_inverts_91 : decode cX6_inverts 91 = .ok (.iadd, 1) := by decide +kernel
theorem dX6_inverts_92 : decode cX6_inverts 92 = .ok (.laload, 1) := by decide +kernel
theorem dX6_inverts_93 : decode cX6_inverts 93 = .ok (.lmul, 1) := by decide +kernel
theorem dX6_inverts_94 : decode cX6_inverts 94 = .ok (.ladd, 1) := by decide +kernel
theorem dX6_inverts_95 : decode cX6_inverts 95 = .ok (.lstore 9, 2) := by decide +kernel
theorem dX6_inverts_97 : decode cX6_inverts 97 = .ok (.aload_n 0, 1) := by decide +kernel
theorem dX6_inverts_98 : decode cX6_inverts 98 = .ok (.getfield 7, 3) := by decide +kernel
theorem dX6_inverts_101 : decode cX6_inverts 101 = .ok (.iconst 5, 1) := by decide +kernel
theorem dX6_inverts_102 : decode cX6_inverts 102 = .ok (.iload_n 3, 1) := by decide +kernel
theorem dX6_inverts_103 : decode cX6_inverts 103 = .ok (.iadd, 1) := by decide +kernel
theorem dX6_inverts_104 : decode cX6_inverts 104 = .ok (.dup2, 1) := by decide +kernel
theorem dX6_inverts_105 : decode cX6_inverts 105 = .ok (.laload, 1) := by decide +kernel
theorem dX6_inverts_106 : decode cX6_inverts 106 = .ok (.aload_n 0, 1) := by decide +kernel
theorem dX6_inverts_107 : decode cX6_inverts 107 = .ok (.iload_n 1, 1) := by decide +kernel
theorem dX6_inverts_108 : decode cX6_inverts 108 = .ok (.lload 5, 2) := by decide +kernel
theorem dX6_inverts_110 : decode cX6_inverts 110 = .ok (.lload 7, 2) := by decide +kernel
theorem dX6_inverts_112 : decode cX6_inverts 112 = .ok (.invokevirtual 273, 3) := by decide +kernel
theorem dX6_inverts_115 : decode cX6_inverts 115 = .ok (.lsub, 1) := by decide +kernel
theorem dX6_inverts_116 : decode cX6_inverts 116 = .ok (.lastore, 1) := by decide +kernel
theorem dX6_inverts_117 : decode cX6_inverts 117 = .ok (.aload_n 0, 1) := by decide +kernel
theorem dX6_inverts_118 : decode cX6_inverts 118 = .ok (.getfield 7, 3) := by decide +kernel
theorem dX6_inverts_121 : decode cX6_inverts 121 = .ok (.iconst 5, 1) := by decide +kernel
theorem dX6_inverts_122 : decode cX6_inverts 122 = .ok (.iload 4, 2) := by decide +kernel
theorem dX6_inverts_124 : decode cX6_inverts 124 = .ok (.iadd, 1) := by decide +kernel
theorem dX6_inverts_125 : decode cX6_inverts 125 = .ok (.dup2, 1) := by decide +kernel
theorem dX6_inverts_126 : decode cX6_inverts 126 = .ok (.laload, 1) := by decide +kernel
theorem dX6_inverts_127 : decode cX6_inverts 127 = .ok (.aload_n 0, 1) := by decide +kernel
theorem dX6_inverts_128 : decode cX6_inverts 128 = .ok (.iload_n 1, 1) := by decide +kernel
theorem dX6_inverts_129 : decode cX6_inverts 129 = .ok (.lload 7, 2) := by decide +kernel
theorem dX6_inverts_131 : decode cX6_inverts 131 = .ok (.lload 5, 2) := by decide +kernel
theorem dX6_inverts_133 : decode cX6_inverts 133 = .ok (.invokevirtual 273, 3) := by decide +kernel
theorem dX6_inverts_136 : decode cX6_inverts 136 = .ok (.lsub, 1) := by decide +kernel
theorem dX6_inverts_137 : decode cX6_inverts 137 = .ok (.lastore, 1) := by decide +kernel
theorem dX6_inverts_138 : decode cX6_inverts 138 = .ok (.aload_n 0, 1) := by decide +kernel
theorem dX6_inverts_139 : decode cX6_inverts 139 = .ok (.getfield 7, 3) := by decide +kernel
theorem dX6_inverts_142 : decode cX6_inverts 142 = .ok (.bipush 53, 2) := by decide +kernel
theorem dX6_inverts_144 : decode cX6_inverts 144 = .ok (.iload_n 3, 1) := by decide +kernel
theorem dX6_inverts_145 : decode cX6_inverts 145 = .ok (.iadd, 1) := by decide +kernel
theorem dX6_inverts_146 : decode cX6_inverts 146 = .ok (.aload_n 0, 1) := by decide +kernel
theorem dX6_inverts_147 : decode cX6_inverts 147 = .ok (.iload_n 1, 1) := by decide +kernel
theorem dX6_inverts_148 : decode cX6_inverts 148 = .ok (.bipush 6, 2) := by decide +kernel
theorem dX6_inverts_150 : decode cX6_inverts 150 = .ok (.invokevirtual 208, 3) := by decide +kernel
theorem dX6_inverts_153 : decode cX6_inverts 153 = .ok (.lastore, 1) := by decide +kernel
theorem dX6_inverts_154 : decode cX6_inverts 154 = .ok (.aload_n 0, 1) := by decide +kernel
theorem dX6_inverts_155 : decode cX6_inverts 155 = .ok (.getfield 7, 3) := by decide +kernel
theorem dX6_inverts_158 : decode cX6_inverts 158 = .ok (.bipush 53, 2) := by decide +kernel
theorem dX6_inverts_160 : decode cX6_inverts 160 = .ok (.iload 4, 2) := by decide +kernel
theorem dX6_inverts_162 : decode cX6_inverts 162 = .ok (.iadd, 1) := by decide +kernel
theorem dX6_inverts_163 : decode cX6_inverts 163 = .ok (.aload_n 0, 1) := by decide +kernel
theorem dX6_inverts_164 : decode cX6_inverts 164 = .ok (.iload_n 1, 1) := by decide +kernel
theorem dX6_inverts_165 : decode cX6_inverts 165 = .ok (.bipush 7, 2) := by decide +kernel
theorem dX6_inverts_167 : decode cX6_inverts 167 = .ok (.invokevirtual 208, 3) := by decide +kernel
theorem dX6_inverts_170 : decode cX6_inverts 170 = .ok (.lastore, 1) := by decide +kernel
theorem dX6_inverts_171 : decode cX6_inverts 171 = .ok (.aload_n 0, 1) := by decide +kernel
theorem dX6_inverts_172 : decode cX6_inverts 172 = .ok (.getfield 7, 3) := by decide +kernel
theorem dX6_inverts_175 : decode cX6_inverts 175 = .ok (.bipush 53, 2) := by decide +kernel
theorem dX6_inverts_177 : decode cX6_inverts 177 = .ok (.iload_n 2, 1) := by decide +kernel
theorem dX6_inverts_178 : decode cX6_inverts 178 = .ok (.iadd, 1) := by decide +kernel
theorem dX6_inverts_179 : decode cX6_inverts 179 = .ok (.aload_n 0, 1) := by decide +kernel
theorem dX6_inverts_180 : decode cX6_inverts 180 = .ok (.iload_n 1, 1) := by decide +kernel
theorem dX6_inverts_181 : decode cX6_inverts 181 = .ok (.iconst 4, 1) := by decide +kernel
theorem dX6_inverts_182 : decode cX6_inverts 182 = .ok (.invokevirtual 208, 3) := by decide +kernel
theorem dX6_inverts_185 : decode cX6_inverts 185 = .ok (.lastore, 1) := by decide +kernel
theorem dX6_inverts_186 : decode cX6_inverts 186 = .ok (.aload_n 0, 1) := by decide +kernel
theorem dX6_inverts_187 : decode cX6_inverts 187 = .ok (.getfield 7, 3) := by decide +kernel
theorem dX6_inverts_190 : decode cX6_inverts 190 = .ok (.iconst 5, 1) := by decide +kernel
theorem dX6_inverts_191 : decode cX6_inverts 191 = .ok (.iload_n 2, 1) := by decide +kernel
theorem dX6_inverts_192 : decode cX6_inverts 192 = .ok (.iadd, 1) := by decide +kernel
theorem dX6_inverts_193 : decode cX6_inverts 193 = .ok (.aload_n 0, 1) := by decide +kernel
theorem dX6_inverts_194 : decode cX6_inverts 194 = .ok (.iload_n 2, 1) := by decide +kernel
theorem dX6_inverts_195 : decode cX6_inverts 195 = .ok (.iload_n 3, 1) := by decide +kernel
theorem dX6_inverts_196 : decode cX6_inverts 196 = .ok (.iload 4, 2) := by decide +kernel
theorem dX6_inverts_198 : decode cX6_inverts 198 = .ok (.aload_n 0, 1) := by decide +kernel
theorem dX6_inverts_199 : decode cX6_inverts 199 = .ok (.iload_n 1, 1) := by decide +kernel
theorem dX6_inverts_200 : decode cX6_inverts 200 = .ok (.bipush 8, 2) := by decide +kernel
theorem dX6_inverts_202 : decode cX6_inverts 202 = .ok (.invokevirtual 208, 3) := by decide +kernel
theorem dX6_inverts_205 : decode cX6_inverts 205 = .ok (.l2i, 1) := by decide +kernel
theorem dX6_inverts_206 : decode cX6_inverts 206 = .ok (.invokevirtual 258, 3) := by decide +kernel
theorem dX6_inverts_209 : decode cX6_inverts 209 = .ok (.aload_n 0, 1) := by decide +kernel
theorem dX6_inverts_210 : decode cX6_inverts 210 = .ok (.iload_n 1, 1) := by decide +kernel
theorem dX6_inverts_211 : decode cX6_inverts 211 = .ok (.iconst 3, 1) := by decide +kernel
theorem dX6_inverts_212 : decode cX6_inverts 212 = .ok (.invokevirtual 208, 3) := by decide +kernel
theorem dX6_inverts_215 : decode cX6_inverts 215 = .ok (.ladd, 1) := by decide +kernel
theorem dX6_inverts_216 : decode cX6_inverts 216 = .ok (.lastore, 1) := by decide +kernel
theorem dX6_inverts_217 : decode cX6_inverts 217 = .ok (.aload_n 0, 1) := by decide +kernel
theorem dX6_inverts_218 : decode cX6_inverts 218 = .ok (.getfield 7, 3) := by decide +kernel
theorem dX6_inverts_221 : decode cX6_inverts 221 = .ok (.bipush 101, 2) := by decide +kernel
theorem dX6_inverts_223 : decode cX6_inverts 223 = .ok (.iload_n 2, 1) := by decide +kernel
theorem dX6_inverts_224 : decode cX6_inverts 224 = .ok (.iadd, 1) := by decide +kernel
theorem dX6_inverts_225 : decode cX6_inverts 225 = .ok (.ldc2_w 197, 3) := by decide +kernel
theorem dX6_inverts_228 : decode cX6_inverts 228 = .ok (.lastore, 1) := by decide +kernel
theorem dX6_inverts_229 : decode cX6_inverts 229 = .ok (.aload_n 0, 1) := by decide +kernel
theorem dX6_inverts_230 : decode cX6_inverts 230 = .ok (.getfield 7, 3) := by decide +kernel
theorem dX6_inverts_233 : decode cX6_inverts 233 = .ok (.iconst 4, 1) := by decide +kernel
theorem dX6_inverts_234 : decode cX6_inverts 234 = .ok (.dup2, 1) := by decide +kernel
theorem dX6_inverts_235 : decode cX6_inverts 235 = .ok (.laload, 1) := by decide +kernel
theorem dX6_inverts_236 : decode cX6_inverts 236 = .ok (.lconst 1, 1) := by decide +kernel
theorem dX6_inverts_237 : decode cX6_inverts 237 = .ok (.lsub, 1) := by decide +kernel
theorem dX6_inverts_238 : decode cX6_inverts 238 = .ok (.lastore, 1) := by decide +kernel
theorem dX6_inverts_239 : decode cX6_inverts 239 = .ok (.aload_n 0, 1) := by decide +kernel
theorem dX6_inverts_240 : decode cX6_inverts 240 = .ok (.getfield 7, 3) := by decide +kernel
theorem dX6_inverts_243 : decode cX6_inverts 243 = .ok (.iconst 3, 1) := by decide +kernel
theorem dX6_inverts_244 : decode cX6_inverts 244 = .ok (.dup2, 1) := by decide +kernel
theorem dX6_inverts_245 : decode cX6_inverts 245 = .ok (.laload, 1) := by decide +kernel
theorem dX6_inverts_246 : decode cX6_inverts 246 = .ok (.aload_n 0, 1) := by decide +kernel
theorem dX6_inverts_247 : decode cX6_inverts 247 = .ok (.getfield 7, 3) := by decide +kernel
theorem dX6_inverts_250 : decode cX6_inverts 250 = .ok (.bipush 53, 2) := by decide +kernel
theorem dX6_inverts_252 : decode cX6_inverts 252 = .ok (.iload_n 3, 1) := by decide +kernel
theorem dX6_inverts_253 : decode cX6_inverts 253 = .ok (.iadd, 1) := by decide +kernel
theorem dX6_inverts_254 : decode cX6_inverts 254 = .ok (.laload, 1) := by decide +kernel
theorem dX6_inverts_255 : decode cX6_inverts 255 = .ok (.aload_n 0, 1) := by decide +kernel
theorem dX6_inverts_256 : decode cX6_inverts 256 = .ok (.getfield 7, 3) := by decide +kernel
theorem dX6_inverts_259 : decode cX6_inverts 259 = .ok (.iconst 5, 1) := by decide +kernel
theorem dX6_inverts_260 : decode cX6_inverts 260 = .ok (.iload_n 3, 1) := by decide +kernel
theorem dX6_inverts_261 : decode cX6_inverts 261 = .ok (.iadd, 1) := by decide +kernel
theorem dX6_inverts_262 : decode cX6_inverts 262 = .ok (.laload, 1) := by decide +kernel
theorem dX6_inverts_263 : decode cX6_inverts 263 = .ok (.lmul, 1) := by decide +kernel
theorem dX6_inverts_264 : decode cX6_inverts 264 = .ok (.aload_n 0, 1) := by decide +kernel
theorem dX6_inverts_265 : decode cX6_inverts 265 = .ok (.getfield 7, 3) := by decide +kernel
theorem dX6_inverts_268 : decode cX6_inverts 268 = .ok (.bipush 53, 2) := by decide +kernel
theorem dX6_inverts_270 : decode cX6_inverts 270 = .ok (.iload 4, 2) := by decide +kernel
theorem dX6_inverts_272 : decode cX6_inverts 272 = .ok (.iadd, 1) := by decide +kernel
theorem dX6_inverts_273 : decode cX6_inverts 273 = .ok (.laload, 1) := by decide +kernel
theorem dX6_inverts_274 : decode cX6_inverts 274 = .ok (.aload_n 0, 1) := by decide +kernel
theorem dX6_inverts_275 : decode cX6_inverts 275 = .ok (.getfield 7, 3) := by decide +kernel
theorem dX6_inverts_278 : decode cX6_inverts 278 = .ok (.iconst 5, 1) := by decide +kernel
theorem dX6_inverts_279 : decode cX6_inverts 279 = .ok (.iload 4, 2) := by decide +kernel
theorem dX6_inverts_281 : decode cX6_inverts 281 = .ok (.iadd, 1) := by decide +kernel
theorem dX6_inverts_282 : decode cX6_inverts 282 = .ok (.laload, 1) := by decide +kernel
theorem dX6_inverts_283 : decode cX6_inverts 283 = .ok (.lmul, 1) := by decide +kernel
theorem dX6_inverts_284 : decode cX6_inverts 284 = .ok (.ladd, 1) := by decide +kernel
theorem dX6_inverts_285 : decode cX6_inverts 285 = .ok (.aload_n 0, 1) := by decide +kernel
theorem dX6_inverts_286 : decode cX6_inverts 286 = .ok (.getfield 7, 3) := by decide +kernel
theorem dX6_inverts_289 : decode cX6_inverts 289 = .ok (.bipush 53, 2) := by decide +kernel
theorem dX6_inverts_291 : decode cX6_inverts 291 = .ok (.iload_n 2, 1) := by decide +kernel
theorem dX6_inverts_292 : decode cX6_inverts 292 = .ok (.iadd, 1) := by decide +kernel
theorem dX6_inverts_293 : decode cX6_inverts 293 = .ok (.laload, 1) := by decide +kernel
theorem dX6_inverts_294 : decode cX6_inverts 294 = .ok (.aload_n 0, 1) := by decide +kernel
theorem dX6_inverts_295 : decode cX6_inverts 295 = .ok (.getfield 7, 3) := by decide +kernel
theorem dX6_inverts_298 : decode cX6_inverts 298 = .ok (.iconst 5, 1) := by decide +kernel
theorem dX6_inverts_299 : decode cX6_inverts 299 = .ok (.iload_n 2, 1) := by decide +kernel
theorem dX6_inverts_300 : decode cX6_inverts 300 = .ok (.iadd, 1) := by decide +kernel
theorem dX6_inverts_301 : decode cX6_inverts 301 = .ok (.laload, 1) := by decide +kernel
theorem dX6_inverts_302 : decode cX6_inverts 302 = .ok (.lmul, 1) := by decide +kernel
theorem dX6_inverts_303 : decode cX6_inverts 303 = .ok (.ladd, 1) := by decide +kernel
theorem dX6_inverts_304 : decode cX6_inverts 304 = .ok (.lload 9, 2) := by decide +kernel
theorem dX6_inverts_306 : decode cX6_inverts 306 = .ok (.lsub, 1) := by decide +kernel
theorem dX6_inverts_307 : decode cX6_inverts 307 = .ok (.lsub, 1) := by decide +kernel
theorem dX6_inverts_308 : decode cX6_inverts 308 = .ok (.lastore, 1) := by decide +kernel
theorem dX6_inverts_309 : decode cX6_inverts 309 = .ok (.return_, 1) := by decide +kernel
set_option maxHeartbeats 4000000 in
set_option maxRecDepth 100000 in
theorem X6_nearK (l : Launch) (κ : Kt) (σ0 : Gh) (this : Nat) (x : Int32) (y : Int32) (z : Int32) (t_this : zk σ0 this 20) (h0 : PL (rN σ0 this) (zI σ0 (kR κ this 5))) (h1 : 0 ≤ y.toInt) (h2 : y.toInt < x.toInt) (h3 : x.toInt < z.toInt) (h4 : z.toInt < (zI σ0 this 7).toInt) (h5 : (zI σ0 this 7).toInt ≤ 48) : TC l yX6_isLeftNearer cX6_isLeftNearer 4 (some .boolean) 0 0 [.ref this, .int x, .int y, .int z] κ σ0 (tqi κ fE σ0 (fun (r : Int32) (τ : Gh) => (isB r))) := by
  refine TC.of fE (by decide +kernel) (Nat.le_of_ble_eq_true rfl) ?_
  intro p e s m below meth c ls hcs hK hX hT hl
  obtain ⟨hx, hb, hr, hml, hown, hg, hlocks, hin⟩ := hcs
  have hown : s.vm.findClass RX6 = some m.cls := hown
  have hl : lv_has ls 4 [(0, .ref this), (1, .int x), (2, .int y), (3, .int z)] := hl
  have hT0 := hT
  have n0 : (0 : Int32).toInt = 0 := by decide
  have n1 : (1 : Int32).toInt = 1 := by decide
  have x_lo := Int32.le_toInt x
  have x_hi := Int32.toInt_lt x
  have y_lo := Int32.le_toInt y
  have y_hi := Int32.toInt_lt y
  have z_lo := Int32.le_toInt z
  have z_hi := Int32.toInt_lt z
  generalize hQ9 : tQ _ _ _ _ _ _ = Q9
  obtain ⟨rW, erW⟩ : ∃ z, kR κ this 1 = z := ⟨_, rfl⟩
  have trW : zk σ0 rW 21 := by rw [← erW]; exact hT0.ref t_this (by decide) (by decide) (by decide)
  obtain ⟨rP, erP⟩ : ∃ z, kR κ this 5 = z := ⟨_, rfl⟩
  have trP : zk σ0 rP 25 := by rw [← erP]; exact hT0.ref t_this (by decide) (by decide) (by decide)
  have hPL0 := h0
  have hP := h0
  rw [erP] at hP
  have hrN : (rN σ0 this : Int) = (zI σ0 this 7).toInt := by unfold rN; omega
  have g1 := hP.lt (i := ix y) (j := ix x) (by unfold ix; omega) (by unfold ix; omega)
  have g2 := hP.lt (i := ix x) (j := ix z) (by unfold ix; omega) (by unfold ix; omega)
  have g3 := (hP (ix y) (by unfold ix; omega)).1
  have g4 := (hP (ix z) (by unfold ix; omega)).1
  have hxx : ∀ k : Int32, 0 ≤ k.toInt → (ix k : Int) = k.toInt := fun k q => by unfold ix; omega
  refine lv_aload_n hx hb dX6_isLeftNearer_0 rfl (lv_at hl 0 rfl) ?_
  refine va_get (D := κ.1) (ci := 6) (v := .ref (kR κ this 5)) (C := RX6) (T := TX6) (N := 27) hx hb hg inX6 hown hK (hT.o20 (hT.k t_this (by decide))).one 0 rfl rfl 5 (by decide) (hg _ k1224) (fun _ h9 => h9) rfl dX6_isLeftNearer_1 ?_
  rw [erP]
  refine lv_iload_n hx hb dX6_isLeftNearer_4 rfl (lv_at hl 1 rfl) ?_
  refine va_iald hx hb hK (hT.o25 (hT.k trP (by decide))).one 0 0 rfl rfl (g_in (by omega) (by omega)) dX6_isLeftNearer_5 ?_
  refine lv_topi (fun t1 ht1 => ?_)
  have xt1 : (zI σ0 rP (ix x)).toInt = t1.toInt := by rw [ht1]; exact congrArg (fun q9 => (zI σ0 rP q9).toInt) (show ix x = ix x from rfl)
  refine lv_aload_n hx hb dX6_isLeftNearer_6 rfl (lv_at hl 0 rfl) ?_
  refine va_get (D := κ.1) (ci := 6) (v := .ref (kR κ this 5)) (C := RX6) (T := TX6) (N := 27) hx hb hg inX6 hown hK (hT.o20 (hT.k t_this (by decide))).one 0 rfl rfl 5 (by decide) (hg _ k1224) (fun _ h9 => h9) rfl dX6_isLeftNearer_7 ?_
  rw [erP]
  refine lv_iload_n hx hb dX6_isLeftNearer_10 rfl (lv_at hl 2 rfl) ?_
  refine va_iald hx hb hK (hT.o25 (hT.k trP (by decide))).one 0 0 rfl rfl (g_in (by omega) (by omega)) dX6_isLeftNearer_11 ?_
  refine lv_topi (fun t2 ht2 => ?_)
  have xt2 : (zI σ0 rP (ix y)).toInt = t2.toInt := by rw [ht2]; exact congrArg (fun q9 => (zI σ0 rP q9).toInt) (show ix y = ix y from rfl)
  refine lv_isub hx hb dX6_isLeftNearer_12 ?_
  first | refine g_sub (by omega) (by omega) (fun t3 ht3 => ?_) | refine lv_topi (fun t3 ht3 => ?_)
  refine lv_aload_n hx hb dX6_isLeftNearer_13 rfl (lv_at hl 0 rfl) ?_
  refine va_get (D := κ.1) (ci := 6) (v := .ref (kR κ this 5)) (C := RX6) (T := TX6) (N := 27) hx hb hg inX6 hown hK (hT.o20 (hT.k t_this (by decide))).one 0 rfl rfl 5 (by decide) (hg _ k1224) (fun _ h9 => h9) rfl dX6_isLeftNearer_14 ?_
  rw [erP]
  refine lv_iload_n hx hb dX6_isLeftNearer_17 rfl (lv_at hl 3 rfl) ?_
  refine va_iald hx hb hK (hT.o25 (hT.k trP (by decide))).one 0 0 rfl rfl (g_in (by omega) (by omega)) dX6_isLeftNearer_18 ?_
  refine lv_topi (fun t4 ht4 => ?_)
  have xt4 : (zI σ0 rP (ix z)).toInt = t4.toInt := by rw [ht4]; exact congrArg (fun q9 => (zI σ0 rP q9).toInt) (show ix z = ix z from rfl)
  refine lv_aload_n hx hb dX6_isLeftNearer_19 rfl (lv_at hl 0 rfl) ?_
  refine va_get (D := κ.1) (ci := 6) (v := .ref (kR κ this 5)) (C := RX6) (T := TX6) (N := 27) hx hb hg inX6 hown hK (hT.o20 (hT.k t_this (by decide))).one 0 rfl rfl 5 (by decide) (hg _ k1224) (fun _ h9 => h9) rfl dX6_isLeftNearer_20 ?_
  rw [erP]
  refine lv_iload_n hx hb dX6_isLeftNearer_23 rfl (lv_at hl 1 rfl) ?_
  refine va_iald hx hb hK (hT.o25 (hT.k trP (by decide))).one 0 0 rfl rfl (g_in (by omega) (by omega)) dX6_isLeftNearer_24 ?_
  refine lv_topi (fun t5 ht5 => ?_)
  have xt5 : (zI σ0 rP (ix x)).toInt = t5.toInt := by rw [ht5]; exact congrArg (fun q9 => (zI σ0 rP q9).toInt) (show ix x = ix x from rfl)
  refine lv_isub hx hb dX6_isLeftNearer_25 ?_
  first | refine g_sub (by omega) (by omega) (fun t6 ht6 => ?_) | refine lv_topi (fun t6 ht6 => ?_)
  refine lv_icmp_gt (tgt := 33) hx hb dX6_isLeftNearer_26 (by decide) (fun c9 => ?_) (fun c9 => ?_)
  · have c1 := gi_lt c9
    refine lv_iconst (v := 0) hx hb dX6_isLeftNearer_33 (by decide) ?_
    subst hQ9
    exact t_z hx hb hr isB0 hlocks hT isB0 dX6_isLeftNearer_34
  · have c2 := gi_nlt c9
    refine lv_iconst (v := 1) hx hb dX6_isLeftNearer_29 (by decide) ?_
    refine lv_goto (tgt := 34) hx hb dX6_isLeftNearer_30 (by decide) ?_
    subst hQ9
    exact t_z hx hb hr isB1 hlocks hT isB1 dX6_isLeftNearer_34
set_option maxHeartbeats 4000000 in
set_option maxRecDepth 100000 in
theorem X6_predictedK (l : Launch) (κ : Kt) (σ0 : Gh) (this : Nat) (x : Int32) (y : Int32) (z : Int32) (md : Int32) (t_this : zk σ0 this 20) (h0 : PL (rN σ0 this) (zI σ0 (kR κ this 5))) (h1 : 0 ≤ y.toInt) (h2 : y.toInt < x.toInt) (h3 : x.toInt < z.toInt) (h4 : z.toInt < (zI σ0 this 7).toInt) (h5 : (zI σ0 this 7).toInt ≤ 48) : TC l yX6_predicted cX6_predicted 5 (some .long) 1 25 [.ref this, .int x, .int y, .int z, .int md] κ σ0 (tql κ fE σ0 (fun (r : Int64) (τ : Gh) => True)) := by
  refine TC.of fE (by decide +kernel) (Nat.le_of_ble_eq_true rfl) ?_
  intro p e s m below meth c ls hcs hK hX hT hl
  obtain ⟨hx, hb, hr, hml, hown, hg, hlocks, hin⟩ := hcs
  have hown : s.vm.findClass RX6 = some m.cls := hown
  have hl : lv_has ls 5 [(0, .ref this), (1, .int x), (2, .int y), (3, .int z), (4, .int md)] := hl
  have hT0 := hT
  have n0 : (0 : Int32).toInt = 0 := by decide
  have n1 : (1 : Int32).toInt = 1 := by decide
  have n5 : (5 : Int32).toInt = 5 := by decide
  have x_lo := Int32.le_toInt x
  have x_hi := Int32.toInt_lt x
  have y_lo := Int32.le_toInt y
  have y_hi := Int32.toInt_lt y
  have z_lo := Int32.le_toInt z
  have z_hi := Int32.toInt_lt z
  have md_lo := Int32.le_toInt md
  have md_hi := Int32.toInt_lt md
  generalize hQ9 : tQ _ _ _ _ _ _ = Q9
  obtain ⟨rW, erW⟩ : ∃ z, kR κ this 1 = z := ⟨_, rfl⟩
  have trW : zk σ0 rW 21 := by rw [← erW]; exact hT0.ref t_this (by decide) (by decide) (by decide)
  obtain ⟨rP, erP⟩ : ∃ z, kR κ this 5 = z := ⟨_, rfl⟩
  have trP : zk σ0 rP 25 := by rw [← erP]; exact hT0.ref t_this (by decide) (by decide) (by decide)
  have hPL0 := h0
  have hP := h0
  rw [erP] at hP
  have hrN : (rN σ0 this : Int) = (zI σ0 this 7).toInt := by unfold rN; omega
  have g1 := hP.lt (i := ix y) (j := ix x) (by unfold ix; omega) (by unfold ix; omega)
  have g2 := hP.lt (i := ix x) (j := ix z) (by unfold ix; omega) (by unfold ix; omega)
  have g3 := (hP (ix y) (by unfold ix; omega)).1
  have g4 := (hP (ix z) (by unfold ix; omega)).1
  have hxx : ∀ k : Int32, 0 ≤ k.toInt → (ix k : Int) = k.toInt := fun k q => by unfold ix; omega
  refine lv_iload hx hb dX6_predicted_0 (lv_at hl 4 rfl) ?_
  refine lv_if_eq (tgt := 21) hx hb dX6_predicted_2 (by decide) (fun c9 => ?_) (fun c9 => ?_)
  · have c1 := gi_eq c9
    refine lv_aload_n hx hb dX6_predicted_21 rfl (lv_at hl 0 rfl) ?_
    refine va_get (D := κ.1) (ci := 6) (v := .ref (kR κ this 1)) (C := RX6) (T := TX6) (N := 27) hx hb hg inX6 hown hK (hT.o20 (hT.k t_this (by decide))).one 0 rfl rfl 1 (by decide) (hg _ k1220) (fun _ h9 => h9) rfl dX6_predicted_22 ?_
    rw [erW]
    refine lv_iconst (v := 5) hx hb dX6_predicted_25 (by decide) ?_
    refine lv_iload_n hx hb dX6_predicted_26 rfl (lv_at hl 2 rfl) ?_
    refine lv_iadd hx hb dX6_predicted_27 ?_
    first | refine g_add (by omega) (by omega) (fun t1 ht1 => ?_) | refine lv_topi (fun t1 ht1 => ?_)
    refine va_lald hx hb hK (hT.o21 (hT.k trW (by decide))).one 0 1 rfl rfl (g_in (by omega) (by omega)) dX6_predicted_28 ?_
    refine lv_topl (fun t2 ht2 => ?_)
    subst hQ9
    exact t_l hx hb hr hlocks hT trivial dX6_predicted_29
  · have c2 := gi_ne c9
    refine lv_iload hx hb dX6_predicted_5 (lv_at hl 4 rfl) ?_
    refine lv_iconst (v := 1) hx hb dX6_predicted_7 (by decide) ?_
    refine lv_icmp_ne (tgt := 30) hx hb dX6_predicted_8 (by decide) (fun c9 => ?_) (fun c9 => ?_)
    · have c3 := gi_ne c9
      refine lv_iload hx hb dX6_predicted_30 (lv_at hl 4 rfl) ?_
      refine lv_iconst (v := 1) hx hb dX6_predicted_32 (by decide) ?_
      refine lv_icmp_ne (tgt := 45) hx hb dX6_predicted_33 (by decide) (fun c9 => ?_) (fun c9 => ?_)
      · have c4 := gi_ne c9
        refine lv_aload_n hx hb dX6_predicted_45 rfl (lv_at hl 0 rfl) ?_
        refine va_get (D := κ.1) (ci := 6) (v := .ref (kR κ this 1)) (C := RX6) (T := TX6) (N := 27) hx hb hg inX6 hown hK (hT.o20 (hT.k t_this (by decide))).one 0 rfl rfl 1 (by decide) (hg _ k1220) (fun _ h9 => h9) rfl dX6_predicted_46 ?_
        rw [erW]
        refine lv_iconst (v := 5) hx hb dX6_predicted_49 (by decide) ?_
        refine lv_iload_n hx hb dX6_predicted_50 rfl (lv_at hl 2 rfl) ?_
        refine lv_iadd hx hb dX6_predicted_51 ?_
        first | refine g_add (by omega) (by omega) (fun t3 ht3 => ?_) | refine lv_topi (fun t3 ht3 => ?_)
        refine va_lald hx hb hK (hT.o21 (hT.k trW (by decide))).one 0 1 rfl rfl (g_in (by omega) (by omega)) dX6_predicted_52 ?_
        refine lv_topl (fun t4 ht4 => ?_)
        refine lv_aload_n hx hb dX6_predicted_53 rfl (lv_at hl 0 rfl) ?_
        refine va_get (D := κ.1) (ci := 6) (v := .ref (kR κ this 1)) (C := RX6) (T := TX6) (N := 27) hx hb hg inX6 hown hK (hT.o20 (hT.k t_this (by decide))).one 0 rfl rfl 1 (by decide) (hg _ k1220) (fun _ h9 => h9) rfl dX6_predicted_54 ?_
        rw [erW]
        refine lv_iconst (v := 5) hx hb dX6_predicted_57 (by decide) ?_
        refine lv_iload_n hx hb dX6_predicted_58 rfl (lv_at hl 3 rfl) ?_
        refine lv_iadd hx hb dX6_predicted_59 ?_
        first | refine g_add (by omega) (by omega) (fun t5 ht5 => ?_) | refine lv_topi (fun t5 ht5 => ?_)
        refine va_lald hx hb hK (hT.o21 (hT.k trW (by decide))).one 0 1 rfl rfl (g_in (by omega) (by omega)) dX6_predicted_60 ?_
        refine lv_topl (fun t6 ht6 => ?_)
        refine lv_aload_n hx hb dX6_predicted_61 rfl (lv_at hl 0 rfl) ?_
        refine va_get (D := κ.1) (ci := 6) (v := .ref (kR κ this 1)) (C := RX6) (T := TX6) (N := 27) hx hb hg inX6 hown hK (hT.o20 (hT.k t_this (by decide))).one 0 rfl rfl 1 (by decide) (hg _ k1220) (fun _ h9 => h9) rfl dX6_predicted_62 ?_
        rw [erW]
        refine lv_iconst (v := 5) hx hb dX6_predicted_65 (by decide) ?_
        refine lv_iload_n hx hb dX6_predicted_66 rfl (lv_at hl 2 rfl) ?_
        refine lv_iadd hx hb dX6_predicted_67 ?_
        first | refine g_add (by omega) (by omega) (fun t7 ht7 => ?_) | refine lv_topi (fun t7 ht7 => ?_)
        refine va_lald hx hb hK (hT.o21 (hT.k trW (by decide))).one 0 1 rfl rfl (g_in (by omega) (by omega)) dX6_predicted_68 ?_
        refine lv_topl (fun t8 ht8 => ?_)
        refine lv_lsub hx hb dX6_predicted_69 ?_
        refine lv_topl (fun t9 ht9 => ?_)
        refine lv_aload_n hx hb dX6_predicted_70 rfl (lv_at hl 0 rfl) ?_
        refine va_get (D := κ.1) (ci := 6) (v := .ref (kR κ this 5)) (C := RX6) (T := TX6) (N := 27) hx hb hg inX6 hown hK (hT.o20 (hT.k t_this (by decide))).one 0 rfl rfl 5 (by decide) (hg _ k1224) (fun _ h9 => h9) rfl dX6_predicted_71 ?_
        rw [erP]
        refine lv_iload_n hx hb dX6_predicted_74 rfl (lv_at hl 1 rfl) ?_
        refine va_iald hx hb hK (hT.o25 (hT.k trP (by decide))).one 0 0 rfl rfl (g_in (by omega) (by omega)) dX6_predicted_75 ?_
        refine lv_topi (fun t10 ht10 => ?_)
        have xt10 : (zI σ0 rP (ix x)).toInt = t10.toInt := by rw [ht10]; exact congrArg (fun q9 => (zI σ0 rP q9).toInt) (show ix x = ix x from rfl)
        refine lv_aload_n hx hb dX6_predicted_76 rfl (lv_at hl 0 rfl) ?_
        refine va_get (D := κ.1) (ci := 6) (v := .ref (kR κ this 5)) (C := RX6) (T := TX6) (N := 27) hx hb hg inX6 hown hK (hT.o20 (hT.k t_this (by decide))).one 0 rfl rfl 5 (by decide) (hg _ k1224) (fun _ h9 => h9) rfl dX6_predicted_77 ?_
        rw [erP]
        refine lv_iload_n hx hb dX6_predicted_80 rfl (lv_at hl 2 rfl) ?_
        refine va_iald hx hb hK (hT.o25 (hT.k trP (by decide))).one 0 0 rfl rfl (g_in (by omega) (by omega)) dX6_predicted_81 ?_
        refine lv_topi (fun t11 ht11 => ?_)
        have xt11 : (zI σ0 rP (ix y)).toInt = t11.toInt := by rw [ht11]; exact congrArg (fun q9 => (zI σ0 rP q9).toInt) (show ix y = ix y from rfl)
        refine lv_isub hx hb dX6_predicted_82 ?_
        first | refine g_sub (by omega) (by omega) (fun t12 ht12 => ?_) | refine lv_topi (fun t12 ht12 => ?_)
        refine lv_i2l hx hb dX6_predicted_83 rfl ?_
        refine g_i2l (fun t13 ht13 => ?_)
        refine lv_lmul hx hb dX6_predicted_84 ?_
        refine lv_topl (fun t14 ht14 => ?_)
        refine lv_aload_n hx hb dX6_predicted_85 rfl (lv_at hl 0 rfl) ?_
        refine va_get (D := κ.1) (ci := 6) (v := .ref (kR κ this 5)) (C := RX6) (T := TX6) (N := 27) hx hb hg inX6 hown hK (hT.o20 (hT.k t_this (by decide))).one 0 rfl rfl 5 (by decide) (hg _ k1224) (fun _ h9 => h9) rfl dX6_predicted_86 ?_
        rw [erP]
        refine lv_iload_n hx hb dX6_predicted_89 rfl (lv_at hl 3 rfl) ?_
        refine va_iald hx hb hK (hT.o25 (hT.k trP (by decide))).one 0 0 rfl rfl (g_in (by omega) (by omega)) dX6_predicted_90 ?_
        refine lv_topi (fun t15 ht15 => ?_)
        have xt15 : (zI σ0 rP (ix z)).toInt = t15.toInt := by rw [ht15]; exact congrArg (fun q9 => (zI σ0 rP q9).toInt) (show ix z = ix z from rfl)
        refine lv_aload_n hx hb dX6_predicted_91 rfl (lv_at hl 0 rfl) ?_
        refine va_get (D := κ.1) (ci := 6) (v := .ref (kR κ this 5)) (C := RX6) (T := TX6) (N := 27) hx hb hg inX6 hown hK (hT.o20 (hT.k t_this (by decide))).one 0 rfl rfl 5 (by decide) (hg _ k1224) (fun _ h9 => h9) rfl dX6_predicted_92 ?_
        rw [erP]
        refine lv_iload_n hx hb dX6_predicted_95 rfl (lv_at hl 2 rfl) ?_
        refine va_iald hx hb hK (hT.o25 (hT.k trP (by decide))).one 0 0 rfl rfl (g_in (by omega) (by omega)) dX6_predicted_96 ?_
        refine lv_topi (fun t16 ht16 => ?_)
        have xt16 : (zI σ0 rP (ix y)).toInt = t16.toInt := by rw [ht16]; exact congrArg (fun q9 => (zI σ0 rP q9).toInt) (show ix y = ix y from rfl)
        refine lv_isub hx hb dX6_predicted_97 ?_
        first | refine g_sub (by omega) (by omega) (fun t17 ht17 => ?_) | refine lv_topi (fun t17 ht17 => ?_)
        refine lv_i2l hx hb dX6_predicted_98 rfl ?_
        refine g_i2l (fun t18 ht18 => ?_)
        have hTo := hT
        refine tSl (n := 2) (As := [.long t14, .long t18]) (rest := [.long t4]) hx hb hml hown hg hT hK hX (X6_floor l κ σ0 t14 t18   (by omega)) (fun _ _ h => h) (mwS k1469 k1470 k92 k1471) ⟨rfl, by decide, by decide, by decide +kernel⟩ ⟨(Nat.le_of_ble_eq_true rfl), (Nat.le_of_ble_eq_true rfl)⟩ rfl hl.1 rfl (Nat.le_of_ble_eq_true rfl) dX6_predicted_99 zroom.rf (fun x19 s20 H locs hφ hEs20 hT => ?_)
        have f21 := hφ
        have K22 : zI s20 this 7 = zI σ0 this 7 := hT.eI t_this (by decide) rfl rfl
        have K22n : (zI s20 this 7).toInt = (zI σ0 this 7).toInt := by rw [K22]
        have J23 : zJ s20 rW = zJ σ0 rW := funext fun k => hT.eJ trW (by decide) rfl rfl
        have J23n : (zJ s20 (kR κ this 1) 4).toInt = (zJ σ0 rW 4).toInt := by rw [erW, J23]
        have P24 : zI s20 rP = zI σ0 rP := funext fun k => hT.eI trP (by decide) rfl rfl
        try simp only [erW, erP, ix_0, ix_1, ix_2, ix_3, ix_4, ix_5, ix_6, ix_7, ix_8, ix_9, K22, J23, P24] at f21
        refine lv_ladd hx hb dX6_predicted_102 ?_
        refine lv_topl (fun t25 ht25 => ?_)
        subst hQ9
        exact t_l hx hb hr hlocks hT trivial dX6_predicted_103
      · have c5 := gi_eq c9
        refine lv_aload_n hx hb dX6_predicted_36 rfl (lv_at hl 0 rfl) ?_
        refine va_get (D := κ.1) (ci := 6) (v := .ref (kR κ this 1)) (C := RX6) (T := TX6) (N := 27) hx hb hg inX6 hown hK (hT.o20 (hT.k t_this (by decide))).one 0 rfl rfl 1 (by decide) (hg _ k1220) (fun _ h9 => h9) rfl dX6_predicted_37 ?_
        rw [erW]
        refine lv_iconst (v := 5) hx hb dX6_predicted_40 (by decide) ?_
        refine lv_iload_n hx hb dX6_predicted_41 rfl (lv_at hl 3 rfl) ?_
        refine lv_iadd hx hb dX6_predicted_42 ?_
        first | refine g_add (by omega) (by omega) (fun t26 ht26 => ?_) | refine lv_topi (fun t26 ht26 => ?_)
        refine va_lald hx hb hK (hT.o21 (hT.k trW (by decide))).one 0 1 rfl rfl (g_in (by omega) (by omega)) dX6_predicted_43 ?_
        refine lv_topl (fun t27 ht27 => ?_)
        subst hQ9
        exact t_l hx hb hr hlocks hT trivial dX6_predicted_44
    · have c6 := gi_eq c9
      refine lv_aload_n hx hb dX6_predicted_11 rfl (lv_at hl 0 rfl) ?_
      refine lv_iload_n hx hb dX6_predicted_12 rfl (lv_at hl 1 rfl) ?_
      refine lv_iload_n hx hb dX6_predicted_13 rfl (lv_at hl 2 rfl) ?_
      refine lv_iload_n hx hb dX6_predicted_14 rfl (lv_at hl 3 rfl) ?_
      have hTo := hT
      refine tVi (n := 3) (As := [.int x, .int y, .int z]) (rest := []) hx hb hml hown hg hT hK hX (X6_nearK l κ σ0 this x y z  (hT.k t_this (by decide)) hPL0 (by omega) (by omega) (by omega) (by omega) (by omega)) (fun _ _ h => h) (mwV k1543 k1545 k68 k92 k1546) ⟨rfl, by decide, by decide, by decide +kernel⟩ ⟨(Nat.le_of_ble_eq_true rfl), (Nat.le_of_ble_eq_true rfl)⟩ (hT.o20 (hT.k t_this (by decide))) rfl rfl hl.1 rfl (Nat.le_of_ble_eq_true rfl) dX6_predicted_15 zroom.rf (fun x28 s29 H locs hφ hEs29 hT => ?_)
      have f30 := hφ
      have K31 : zI s29 this 7 = zI σ0 this 7 := hT.eI t_this (by decide) rfl rfl
      have K31n : (zI s29 this 7).toInt = (zI σ0 this 7).toInt := by rw [K31]
      have J32 : zJ s29 rW = zJ σ0 rW := funext fun k => hT.eJ trW (by decide) rfl rfl
      have J32n : (zJ s29 (kR κ this 1) 4).toInt = (zJ σ0 rW 4).toInt := by rw [erW, J32]
      have P33 : zI s29 rP = zI σ0 rP := funext fun k => hT.eI trP (by decide) rfl rfl
      refine lv_if_eq (tgt := 30) hx hb dX6_predicted_18 (by decide) (fun c9 => ?_) (fun c9 => ?_)
      · have c7 := gi_eq c9
        refine lv_iload hx hb dX6_predicted_30 (lv_at hl 4 rfl) ?_
        refine lv_iconst (v := 1) hx hb dX6_predicted_32 (by decide) ?_
        refine lv_icmp_ne (tgt := 45) hx hb dX6_predicted_33 (by decide) (fun c9 => ?_) (fun c9 => ?_)
        · have c8 := gi_ne c9
          refine lv_aload_n hx hb dX6_predicted_45 rfl (lv_at hl 0 rfl) ?_
          refine va_get (D := κ.1) (ci := 6) (v := .ref (kR κ this 1)) (C := RX6) (T := TX6) (N := 27) hx hb hg inX6 hown hK (hT.o20 (hT.k t_this (by decide))).one 0 rfl rfl 1 (by decide) (hg _ k1220) (fun _ h9 => h9) rfl dX6_predicted_46 ?_
          rw [erW]
          refine lv_iconst (v := 5) hx hb dX6_predicted_49 (by decide) ?_
          refine lv_iload_n hx hb dX6_predicted_50 rfl (lv_at hl 2 rfl) ?_
          refine lv_iadd hx hb dX6_predicted_51 ?_
          first | refine g_add (by omega) (by omega) (fun t34 ht34 => ?_) | refine lv_topi (fun t34 ht34 => ?_)
          refine va_lald hx hb hK (hT.o21 (hT.k trW (by decide))).one 0 1 rfl rfl (g_in (by omega) (by omega)) dX6_predicted_52 ?_
          refine lv_topl (fun t35 ht35 => ?_)
          refine lv_aload_n hx hb dX6_predicted_53 rfl (lv_at hl 0 rfl) ?_
          refine va_get (D := κ.1) (ci := 6) (v := .ref (kR κ this 1)) (C := RX6) (T := TX6) (N := 27) hx hb hg inX6 hown hK (hT.o20 (hT.k t_this (by decide))).one 0 rfl rfl 1 (by decide) (hg _ k1220) (fun _ h9 => h9) rfl dX6_predicted_54 ?_
          rw [erW]
          refine lv_iconst (v := 5) hx hb dX6_predicted_57 (by decide) ?_
          refine lv_iload_n hx hb dX6_predicted_58 rfl (lv_at hl 3 rfl) ?_
          refine lv_iadd hx hb dX6_predicted_59 ?_
          first | refine g_add (by omega) (by omega) (fun t36 ht36 => ?_) | refine lv_topi (fun t36 ht36 => ?_)
          refine va_lald hx hb hK (hT.o21 (hT.k trW (by decide))).one 0 1 rfl rfl (g_in (by omega) (by omega)) dX6_predicted_60 ?_
          refine lv_topl (fun t37 ht37 => ?_)
          refine lv_aload_n hx hb dX6_predicted_61 rfl (lv_at hl 0 rfl) ?_
          refine va_get (D := κ.1) (ci := 6) (v := .ref (kR κ this 1)) (C := RX6) (T := TX6) (N := 27) hx hb hg inX6 hown hK (hT.o20 (hT.k t_this (by decide))).one 0 rfl rfl 1 (by decide) (hg _ k1220) (fun _ h9 => h9) rfl dX6_predicted_62 ?_
          rw [erW]
          refine lv_iconst (v := 5) hx hb dX6_predicted_65 (by decide) ?_
          refine lv_iload_n hx hb dX6_predicted_66 rfl (lv_at hl 2 rfl) ?_
          refine lv_iadd hx hb dX6_predicted_67 ?_
          first | refine g_add (by omega) (by omega) (fun t38 ht38 => ?_) | refine lv_topi (fun t38 ht38 => ?_)
          refine va_lald hx hb hK (hT.o21 (hT.k trW (by decide))).one 0 1 rfl rfl (g_in (by omega) (by omega)) dX6_predicted_68 ?_
          refine lv_topl (fun t39 ht39 => ?_)
          refine lv_lsub hx hb dX6_predicted_69 ?_
          refine lv_topl (fun t40 ht40 => ?_)
          refine lv_aload_n hx hb dX6_predicted_70 rfl (lv_at hl 0 rfl) ?_
          refine va_get (D := κ.1) (ci := 6) (v := .ref (kR κ this 5)) (C := RX6) (T := TX6) (N := 27) hx hb hg inX6 hown hK (hT.o20 (hT.k t_this (by decide))).one 0 rfl rfl 5 (by decide) (hg _ k1224) (fun _ h9 => h9) rfl dX6_predicted_71 ?_
          rw [erP]
          refine lv_iload_n hx hb dX6_predicted_74 rfl (lv_at hl 1 rfl) ?_
          refine va_iald hx hb hK (hT.o25 (hT.k trP (by decide))).one 0 0 rfl rfl (g_in (by omega) (by omega)) dX6_predicted_75 ?_
          refine lv_topi (fun t41 ht41 => ?_)
          have xt41 : (zI s29 rP (ix x)).toInt = t41.toInt := by rw [ht41]; exact congrArg (fun q9 => (zI s29 rP q9).toInt) (show ix x = ix x from rfl)
          try simp only [K31, J32, P33] at xt41
          refine lv_aload_n hx hb dX6_predicted_76 rfl (lv_at hl 0 rfl) ?_
          refine va_get (D := κ.1) (ci := 6) (v := .ref (kR κ this 5)) (C := RX6) (T := TX6) (N := 27) hx hb hg inX6 hown hK (hT.o20 (hT.k t_this (by decide))).one 0 rfl rfl 5 (by decide) (hg _ k1224) (fun _ h9 => h9) rfl dX6_predicted_77 ?_
          rw [erP]
          refine lv_iload_n hx hb dX6_predicted_80 rfl (lv_at hl 2 rfl) ?_
          refine va_iald hx hb hK (hT.o25 (hT.k trP (by decide))).one 0 0 rfl rfl (g_in (by omega) (by omega)) dX6_predicted_81 ?_
          refine lv_topi (fun t42 ht42 => ?_)
          have xt42 : (zI s29 rP (ix y)).toInt = t42.toInt := by rw [ht42]; exact congrArg (fun q9 => (zI s29 rP q9).toInt) (show ix y = ix y from rfl)
          try simp only [K31, J32, P33] at xt42
          refine lv_isub hx hb dX6_predicted_82 ?_
          first | refine g_sub (by omega) (by omega) (fun t43 ht43 => ?_) | refine lv_topi (fun t43 ht43 => ?_)
          refine lv_i2l hx hb dX6_predicted_83 rfl ?_
          refine g_i2l (fun t44 ht44 => ?_)
          refine lv_lmul hx hb dX6_predicted_84 ?_
          refine lv_topl (fun t45 ht45 => ?_)
          refine lv_aload_n hx hb dX6_predicted_85 rfl (lv_at hl 0 rfl) ?_
          refine va_get (D := κ.1) (ci := 6) (v := .ref (kR κ this 5)) (C := RX6) (T := TX6) (N := 27) hx hb hg inX6 hown hK (hT.o20 (hT.k t_this (by decide))).one 0 rfl rfl 5 (by decide) (hg _ k1224) (fun _ h9 => h9) rfl dX6_predicted_86 ?_
          rw [erP]
          refine lv_iload_n hx hb dX6_predicted_89 rfl (lv_at hl 3 rfl) ?_
          refine va_iald hx hb hK (hT.o25 (hT.k trP (by decide))).one 0 0 rfl rfl (g_in (by omega) (by omega)) dX6_predicted_90 ?_
          refine lv_topi (fun t46 ht46 => ?_)
          have xt46 : (zI s29 rP (ix z)).toInt = t46.toInt := by rw [ht46]; exact congrArg (fun q9 => (zI s29 rP q9).toInt) (show ix z = ix z from rfl)
          try simp only [K31, J32, P33] at xt46
          refine lv_aload_n hx hb dX6_predicted_91 rfl (lv_at hl 0 rfl) ?_
          refine va_get (D := κ.1) (ci := 6) (v := .ref (kR κ this 5)) (C := RX6) (T := TX6) (N := 27) hx hb hg inX6 hown hK (hT.o20 (hT.k t_this (by decide))).one 0 rfl rfl 5 (by decide) (hg _ k1224) (fun _ h9 => h9) rfl dX6_predicted_92 ?_
          rw [erP]
          refine lv_iload_n hx hb dX6_predicted_95 rfl (lv_at hl 2 rfl) ?_
          refine va_iald hx hb hK (hT.o25 (hT.k trP (by decide))).one 0 0 rfl rfl (g_in (by omega) (by omega)) dX6_predicted_96 ?_
          refine lv_topi (fun t47 ht47 => ?_)
          have xt47 : (zI s29 rP (ix y)).toInt = t47.toInt := by rw [ht47]; exact congrArg (fun q9 => (zI s29 rP q9).toInt) (show ix y = ix y from rfl)
          try simp only [K31, J32, P33] at xt47
          refine lv_isub hx hb dX6_predicted_97 ?_
          first | refine g_sub (by omega) (by omega) (fun t48 ht48 => ?_) | refine lv_topi (fun t48 ht48 => ?_)
          refine lv_i2l hx hb dX6_predicted_98 rfl ?_
          refine g_i2l (fun t49 ht49 => ?_)
          have hTo := hT
          refine tSl (n := 2) (As := [.long t45, .long t49]) (rest := [.long t35]) hx hb hml hown hg hT hK hX (X6_floor l κ s29 t45 t49   (by omega)) (fun _ _ h => h) (mwS k1469 k1470 k92 k1471) ⟨rfl, by decide, by decide, by decide +kernel⟩ ⟨(Nat.le_of_ble_eq_true rfl), (Nat.le_of_ble_eq_true rfl)⟩ rfl hl.1 rfl (Nat.le_of_ble_eq_true rfl) dX6_predicted_99 zroom.rf (fun x50 s51 H locs hφ hEs51 hT => ?_)
          have f52 := hφ
          have K53 : zI s51 this 7 = zI σ0 this 7 := hT.eI t_this (by decide) rfl rfl
          have K53n : (zI s51 this 7).toInt = (zI σ0 this 7).toInt := by rw [K53]
          have J54 : zJ s51 rW = zJ σ0 rW := funext fun k => hT.eJ trW (by decide) rfl rfl
          have J54n : (zJ s51 (kR κ this 1) 4).toInt = (zJ σ0 rW 4).toInt := by rw [erW, J54]
          have P55 : zI s51 rP = zI σ0 rP := funext fun k => hT.eI trP (by decide) rfl rfl
          try simp only [erW, erP, ix_0, ix_1, ix_2, ix_3, ix_4, ix_5, ix_6, ix_7, ix_8, ix_9, K31, J32, P33, K53, J54, P55] at f52
          refine lv_ladd hx hb dX6_predicted_102 ?_
          refine lv_topl (fun t56 ht56 => ?_)
          subst hQ9
          exact t_l hx hb hr hlocks hT trivial dX6_predicted_103
        · have c9 := gi_eq c9
          refine lv_aload_n hx hb dX6_predicted_36 rfl (lv_at hl 0 rfl) ?_
          refine va_get (D := κ.1) (ci := 6) (v := .ref (kR κ this 1)) (C := RX6) (T := TX6) (N := 27) hx hb hg inX6 hown hK (hT.o20 (hT.k t_this (by decide))).one 0 rfl rfl 1 (by decide) (hg _ k1220) (fun _ h9 => h9) rfl dX6_predicted_37 ?_
          rw [erW]
          refine lv_iconst (v := 5) hx hb dX6_predicted_40 (by decide) ?_
          refine lv_iload_n hx hb dX6_predicted_41 rfl (lv_at hl 3 rfl) ?_
          refine lv_iadd hx hb dX6_predicted_42 ?_
          first | refine g_add (by omega) (by omega) (fun t57 ht57 => ?_) | refine lv_topi (fun t57 ht57 => ?_)
          refine va_lald hx hb hK (hT.o21 (hT.k trW (by decide))).one 0 1 rfl rfl (g_in (by omega) (by omega)) dX6_predicted_43 ?_
          refine lv_topl (fun t58 ht58 => ?_)
          subst hQ9
          exact t_l hx hb hr hlocks hT trivial dX6_predicted_44
      · have c10 := gi_ne c9
        refine lv_aload_n hx hb dX6_predicted_21 rfl (lv_at hl 0 rfl) ?_
        refine va_get (D := κ.1) (ci := 6) (v := .ref (kR κ this 1)) (C := RX6) (T := TX6) (N := 27) hx hb hg inX6 hown hK (hT.o20 (hT.k t_this (by decide))).one 0 rfl rfl 1 (by decide) (hg _ k1220) (fun _ h9 => h9) rfl dX6_predicted_22 ?_
        rw [erW]
        refine lv_iconst (v := 5) hx hb dX6_predicted_25 (by decide) ?_
        refine lv_iload_n hx hb dX6_predicted_26 rfl (lv_at hl 2 rfl) ?_
        refine lv_iadd hx hb dX6_predicted_27 ?_
        first | refine g_add (by omega) (by omega) (fun t59 ht59 => ?_) | refine lv_topi (fun t59 ht59 => ?_)
        refine va_lald hx hb hK (hT.o21 (hT.k trW (by decide))).one 0 1 rfl rfl (g_in (by omega) (by omega)) dX6_predicted_28 ?_
        refine lv_topl (fun t60 ht60 => ?_)
        subst hQ9
        exact t_l hx hb hr hlocks hT trivial dX6_predicted_29
set_option maxHeartbeats 4000000 in
set_option maxRecDepth 100000 in
theorem X6_anew (l : Launch) (κ : Kt) (σ0 : Gh) (this : Nat) (t_this : zk σ0 this 20) (h0 : PL (rN σ0 this) (zI σ0 (kR κ this 5))) (h1 : 2 ≤ (zI σ0 this 7).toInt) (h2 : (zI σ0 this 7).toInt ≤ 48) : TC l yX6_anew cX6_anew 4 none 0 0 [.ref this] κ σ0 (tqv κ gW σ0 (fun (τ : Gh) => (WI (rN σ0 this) (zJ τ (kR κ this 1))))) := by
  refine TC.of gW (by decide +kernel) (Nat.le_of_ble_eq_true rfl) ?_
  intro p e s m below meth c ls hcs hK hX hT hl
  obtain ⟨hx, hb, hr, hml, hown, hg, hlocks, hin⟩ := hcs
  have hown : s.vm.findClass RX6 = some m.cls := hown
  have hl : lv_has ls 4 [(0, .ref this)] := hl
  have hT0 := hT
  have n0 : (0 : Int32).toInt = 0 := by decide
  have n1 : (1 : Int32).toInt = 1 := by decide
  have n3 : (3 : Int32).toInt = 3 := by decide
  have n4 : (4 : Int32).toInt = 4 := by decide
  have n5 : (5 : Int32).toInt = 5 := by decide
  have n53 : (53 : Int32).toInt = 53 := by decide
  have n101 : (101 : Int32).toInt = 101 := by decide
  have jm1 : ((-1) : Int64).toInt = (-1) := by decide
  have j0 : (0 : Int64).toInt = 0 := by decide
  generalize hQ9 : tQ _ _ _ _ _ _ = Q9
  obtain ⟨rW, erW⟩ : ∃ z, kR κ this 1 = z := ⟨_, rfl⟩
  have trW : zk σ0 rW 21 := by rw [← erW]; exact hT0.ref t_this (by decide) (by decide) (by decide)
  obtain ⟨rP, erP⟩ : ∃ z, kR κ this 5 = z := ⟨_, rfl⟩
  have trP : zk σ0 rP 25 := by rw [← erP]; exact hT0.ref t_this (by decide) (by decide) (by decide)
  have hPL0 := h0
  have hP := h0
  rw [erP] at hP
  have hrN : (rN σ0 this : Int) = (zI σ0 this 7).toInt := by unfold rN; omega
  refine lv_aload_n hx hb dX6_anew_0 rfl (lv_at hl 0 rfl) ?_
  refine va_get (D := κ.1) (ci := 6) (v := .ref (kR κ this 1)) (C := RX6) (T := TX6) (N := 27) hx hb hg inX6 hown hK (hT.o20 (hT.k t_this (by decide))).one 0 rfl rfl 1 (by decide) (hg _ k1220) (fun _ h9 => h9) rfl dX6_anew_1 ?_
  rw [erW]
  refine lv_iconst (v := 3) hx hb dX6_anew_4 (by decide) ?_
  refine lv_lconst (v := 0) hx hb dX6_anew_5 (by decide) ?_
  have hTo := hT
  refine tastlx (n := 609) hx hb hK hT (hT.k trW (by decide)) ⟨by decide, by decide⟩ (fun _ _ _ => rfl) (fun _ _ => trivial) (by omega) (by omega) (ge3_gW _ (by unfold ix; omega)) dX6_anew_6 (fun H locs s1 hus1 hT => ?_)
  refine lv_aload_n hx hb dX6_anew_7 rfl (lv_at hl 0 rfl) ?_
  refine va_get (D := κ.1) (ci := 6) (v := .ref (kR κ this 1)) (C := RX6) (T := TX6) (N := 27) hx hb hg inX6 hown hK (hT.o20 (hT.k t_this (by decide))).one 0 rfl rfl 1 (by decide) (hg _ k1220) (fun _ h9 => h9) rfl dX6_anew_8 ?_
  rw [erW]
  refine lv_iconst (v := 4) hx hb dX6_anew_11 (by decide) ?_
  refine lv_lconst (v := 0) hx hb dX6_anew_12 (by decide) ?_
  have hTo := hT
  refine tastlx (n := 609) hx hb hK hT (hT.k trW (by decide)) ⟨by decide, by decide⟩ (fun _ _ _ => rfl) (fun _ _ => trivial) (by omega) (by omega) (ge3_gW _ (by unfold ix; omega)) dX6_anew_13 (fun H locs s2 hus2 hT => ?_)
  refine lv_iconst (v := 0) hx hb dX6_anew_14 (by decide) ?_
  refine lv_istore_n (lv' := [(1, .int 0), (0, .ref this)]) hx hb dX6_anew_15 rfl hl (by decide) rfl (fun ls hl => ?_)
  have loop16 : ∀ (n9 : Nat) (k : Int32) (H : Heap) (locs : List Loc) (sg : Gh) (ls : Array Slot), TS κ gW σ0 sg s H locs → (0 ≤ k.toInt) → (k.toInt ≤ (zI σ0 this 7).toInt) → (AN (rN σ0 this) (zI σ0 rP) (zJ sg rW) (ix k)) → lv_has ls 4 [(1, .int k), (0, .ref this)] → ((zI σ0 this 7).toInt - k.toInt) < n9 → tW p l e 0 0 κ s m #[.ref this] below meth c H locs Q9 (F0 m 16 ls []) := by
    intro n9
    induction n9 with
    | zero =>
      intro k H locs sg ls hT q1 q2 q3 hl hm9
      exfalso
      omega
    | succ n9 ih9 =>
      have ih16 := ih9
      clear ih9
      intro k H locs s3 ls hT q1 q2 q3 hl hm9
      have i_k : (ix k : Int) = k.toInt := by unfold ix; omega
      refine lv_iload_n hx hb dX6_anew_16 rfl (lv_at hl 0 rfl) ?_
      refine lv_aload_n hx hb dX6_anew_17 rfl (lv_at hl 1 rfl) ?_
      obtain ⟨v4, ev4⟩ : ∃ zz9 : Int32, zI σ0 this 7 = zz9 := ⟨_, rfl⟩
      have qv4 : v4.toInt = (zI σ0 this 7).toInt := by rw [ev4]
      refine va_get (D := κ.1) (ci := 6) (v := .int (zI s3 this 7)) (C := RX6) (T := TX6) (N := 27) hx hb hg inX6 hown hK (hT.o20 (hT.k t_this (by decide))).one 0 rfl rfl 7 (by decide) (hg _ k1226) (fun _ h9 => h9) rfl dX6_anew_18 ?_
      rw [(hT.eI t_this (by decide) rfl ev4)]
      refine lv_icmp_ge (tgt := 120) hx hb dX6_anew_21 (by decide) (fun c9 => ?_) (fun c9 => ?_)
      · have c1 := gi_le c9
        have b1 : ix k = rN σ0 this := by unfold ix; omega
        rw [b1] at q3
        subst hQ9
        exact t_v hx hb hr hlocks hT (by rw [erW]; exact q3.done ⟨by omega, by omega⟩ hP) dX6_anew_120
      · have c2 := gi_nle c9
        refine lv_aload_n hx hb dX6_anew_24 rfl (lv_at hl 1 rfl) ?_
        refine va_get (D := κ.1) (ci := 6) (v := .ref (kR κ this 1)) (C := RX6) (T := TX6) (N := 27) hx hb hg inX6 hown hK (hT.o20 (hT.k t_this (by decide))).one 0 rfl rfl 1 (by decide) (hg _ k1220) (fun _ h9 => h9) rfl dX6_anew_25 ?_
        rw [erW]
        have g1 := (hP 0 (by omega)).1
        have g2 := (hP (ix k) (by omega)).1
        have g4 := (hP (ix k - 1) (by omega)).1
        refine lv_iconst (v := 5) hx hb dX6_anew_28 (by decide) ?_
        refine lv_iload_n hx hb dX6_anew_29 rfl (lv_at hl 0 rfl) ?_
        refine lv_iadd hx hb dX6_anew_30 ?_
        first | refine g_add (by omega) (by omega) (fun t5 ht5 => ?_) | refine lv_topi (fun t5 ht5 => ?_)
        refine lv_aload_n hx hb dX6_anew_31 rfl (lv_at hl 1 rfl) ?_
        obtain ⟨r6, er6⟩ : ∃ z, kR κ this 6 = z := ⟨_, rfl⟩
        have tr6 : zk σ0 r6 26 := by rw [← er6]; exact hT0.ref t_this (by decide) (by decide) (by decide)
        refine va_get (D := κ.1) (ci := 6) (v := .ref (kR κ this 6)) (C := RX6) (T := TX6) (N := 27) hx hb hg inX6 hown hK (hT.o20 (hT.k t_this (by decide))).one 0 rfl rfl 6 (by decide) (hg _ k1225) (fun _ h9 => h9) rfl dX6_anew_32 ?_
        rw [er6]
        refine lv_iload_n hx hb dX6_anew_35 rfl (lv_at hl 0 rfl) ?_
        refine va_iald hx hb hK (hT.o26 (hT.k tr6 (by decide))).one 0 0 rfl rfl (g_in (by omega) (by omega)) dX6_anew_36 ?_
        refine lv_topi (fun t7 ht7 => ?_)
        refine lv_i2l hx hb dX6_anew_37 rfl ?_
        refine g_i2l (fun t8 ht8 => ?_)
        have hTo := hT
        refine tastlx (n := 609) hx hb hK hT (hT.k trW (by decide)) ⟨by decide, by decide⟩ (fun _ _ _ => rfl) (fun _ _ => trivial) (by omega) (by omega) (ge3_gW _ (by unfold ix; omega)) dX6_anew_38 (fun H locs s9 hus9 hT => ?_)
        refine lv_iload_n hx hb dX6_anew_39 rfl (lv_at hl 0 rfl) ?_
        refine lv_if_ne (tgt := 52) hx hb dX6_anew_40 (by decide) (fun c9 => ?_) (fun c9 => ?_)
        · have c3 := gi_ne c9
          refine lv_aload_n hx hb dX6_anew_52 rfl (lv_at hl 1 rfl) ?_
          refine va_get (D := κ.1) (ci := 6) (v := .ref (kR κ this 5)) (C := RX6) (T := TX6) (N := 27) hx hb hg inX6 hown hK (hT.o20 (hT.k t_this (by decide))).one 0 rfl rfl 5 (by decide) (hg _ k1224) (fun _ h9 => h9) rfl dX6_anew_53 ?_
          rw [erP]
          refine lv_iload_n hx hb dX6_anew_56 rfl (lv_at hl 0 rfl) ?_
          refine lv_iconst (v := 1) hx hb dX6_anew_57 (by decide) ?_
          refine lv_isub hx hb dX6_anew_58 ?_
          first | refine g_sub (by omega) (by omega) (fun t10 ht10 => ?_) | refine lv_topi (fun t10 ht10 => ?_)
          refine va_iald hx hb hK (hT.o25 (hT.k trP (by decide))).one 0 0 rfl rfl (g_in (by omega) (by omega)) dX6_anew_59 ?_
          refine lv_topi (fun t11 ht11 => ?_)
          have K12 : zI s9 this 7 = zI σ0 this 7 := hT.eI t_this (by decide) rfl rfl
          have K12n : (zI s9 this 7).toInt = (zI σ0 this 7).toInt := by rw [K12]
          have P13 : zI s9 rP = zI σ0 rP := funext fun k => hT.eI trP (by decide) rfl rfl
          have xt11 : ((zI s9 rP) (ix k - 1)).toInt = t11.toInt := by rw [ht11]; exact congrArg (fun q9 => (zI s9 rP q9).toInt) (show ix k - 1 = ix t10 from by unfold ix; omega)
          try simp only [K12, P13] at xt11
          refine lv_istore_n (lv' := [(2, .int t11), (1, .int k), (0, .ref this)]) hx hb dX6_anew_60 rfl hl (by decide) rfl (fun ls hl => ?_)
          refine lv_iload_n hx hb dX6_anew_61 rfl (lv_at hl 1 rfl) ?_
          refine lv_aload_n hx hb dX6_anew_62 rfl (lv_at hl 2 rfl) ?_
          refine va_get (D := κ.1) (ci := 6) (v := .int (zI s9 this 7)) (C := RX6) (T := TX6) (N := 27) hx hb hg inX6 hown hK (hT.o20 (hT.k t_this (by decide))).one 0 rfl rfl 7 (by decide) (hg _ k1226) (fun _ h9 => h9) rfl dX6_anew_63 ?_
          rw [(hT.eI t_this (by decide) rfl ev4)]
          refine lv_iconst (v := 1) hx hb dX6_anew_66 (by decide) ?_
          refine lv_isub hx hb dX6_anew_67 ?_
          first | refine g_sub (by omega) (by omega) (fun t14 ht14 => ?_) | refine lv_topi (fun t14 ht14 => ?_)
          refine lv_icmp_ne (tgt := 80) hx hb dX6_anew_68 (by decide) (fun c9 => ?_) (fun c9 => ?_)
          · have c4 := gi_ne c9
            have g3 := (hP (ix k + 1) (by omega)).1
            refine lv_aload_n hx hb dX6_anew_80 rfl (lv_at hl 2 rfl) ?_
            refine va_get (D := κ.1) (ci := 6) (v := .ref (kR κ this 5)) (C := RX6) (T := TX6) (N := 27) hx hb hg inX6 hown hK (hT.o20 (hT.k t_this (by decide))).one 0 rfl rfl 5 (by decide) (hg _ k1224) (fun _ h9 => h9) rfl dX6_anew_81 ?_
            rw [erP]
            refine lv_iload_n hx hb dX6_anew_84 rfl (lv_at hl 1 rfl) ?_
            refine lv_iconst (v := 1) hx hb dX6_anew_85 (by decide) ?_
            refine lv_iadd hx hb dX6_anew_86 ?_
            first | refine g_add (by omega) (by omega) (fun t15 ht15 => ?_) | refine lv_topi (fun t15 ht15 => ?_)
            refine va_iald hx hb hK (hT.o25 (hT.k trP (by decide))).one 0 0 rfl rfl (g_in (by omega) (by omega)) dX6_anew_87 ?_
            refine lv_topi (fun t16 ht16 => ?_)
            have xt16 : ((zI s9 rP) (ix k + 1)).toInt = t16.toInt := by rw [ht16]; exact congrArg (fun q9 => (zI s9 rP q9).toInt) (show ix k + 1 = ix t15 from by unfold ix; omega)
            try simp only [K12, P13] at xt16
            refine lv_istore_n (lv' := [(3, .int t16), (2, .int t11), (1, .int k), (0, .ref this)]) hx hb dX6_anew_88 rfl hl (by decide) rfl (fun ls hl => ?_)
            refine lv_aload_n hx hb dX6_anew_89 rfl (lv_at hl 3 rfl) ?_
            refine va_get (D := κ.1) (ci := 6) (v := .ref (kR κ this 1)) (C := RX6) (T := TX6) (N := 27) hx hb hg inX6 hown hK (hT.o20 (hT.k t_this (by decide))).one 0 rfl rfl 1 (by decide) (hg _ k1220) (fun _ h9 => h9) rfl dX6_anew_90 ?_
            rw [erW]
            refine lv_bipush (v := 53) hx hb dX6_anew_93 (by decide) ?_
            refine lv_iload_n hx hb dX6_anew_95 rfl (lv_at hl 2 rfl) ?_
            refine lv_iadd hx hb dX6_anew_96 ?_
            first | refine g_add (by omega) (by omega) (fun t17 ht17 => ?_) | refine lv_topi (fun t17 ht17 => ?_)
            refine lv_iload_n hx hb dX6_anew_97 rfl (lv_at hl 0 rfl) ?_
            refine lv_iload_n hx hb dX6_anew_98 rfl (lv_at hl 1 rfl) ?_
            refine lv_isub hx hb dX6_anew_99 ?_
            first | refine g_sub (by omega) (by omega) (fun t18 ht18 => ?_) | refine lv_topi (fun t18 ht18 => ?_)
            refine lv_i2l hx hb dX6_anew_100 rfl ?_
            refine g_i2l (fun t19 ht19 => ?_)
            have hTo := hT
            refine tastlx (n := 609) hx hb hK hT (hT.k trW (by decide)) ⟨by decide, by decide⟩ (fun _ _ _ => rfl) (fun _ _ => trivial) (by omega) (by omega) (ge3_gW _ (by unfold ix; omega)) dX6_anew_101 (fun H locs s20 hus20 hT => ?_)
            refine lv_aload_n hx hb dX6_anew_102 rfl (lv_at hl 3 rfl) ?_
            refine va_get (D := κ.1) (ci := 6) (v := .ref (kR κ this 1)) (C := RX6) (T := TX6) (N := 27) hx hb hg inX6 hown hK (hT.o20 (hT.k t_this (by decide))).one 0 rfl rfl 1 (by decide) (hg _ k1220) (fun _ h9 => h9) rfl dX6_anew_103 ?_
            rw [erW]
            refine lv_bipush (v := 101) hx hb dX6_anew_106 (by decide) ?_
            refine lv_iload_n hx hb dX6_anew_108 rfl (lv_at hl 2 rfl) ?_
            refine lv_iadd hx hb dX6_anew_109 ?_
            first | refine g_add (by omega) (by omega) (fun t21 ht21 => ?_) | refine lv_topi (fun t21 ht21 => ?_)
            refine lv_ldc2 hx hb hown (hg _ k1218) dX6_anew_110 ?_
            have hTo := hT
            refine tastlx (n := 609) hx hb hK hT (hT.k trW (by decide)) ⟨by decide, by decide⟩ (fun _ _ _ => rfl) (fun _ _ => trivial) (by omega) (by omega) (ge3_gW _ (by unfold ix; omega)) dX6_anew_113 (fun H locs s22 hus22 hT => ?_)
            obtain ⟨t23, qt23⟩ : ∃ zz9 : Int32, k + Int32.ofInt 1 = zz9 := ⟨_, rfl⟩
            refine lv_iinc (v := t23) (lv' := [(1, .int t23), (3, .int t16), (2, .int t11), (0, .ref this)]) hx hb dX6_anew_114 hl (k := 2) rfl qt23 (by decide) rfl (fun ls hl => ?_)
            have ht23 : t23.toInt = k.toInt + 1 := by rw [← qt23]; exact v_addi rfl (show (Int32.ofInt 1).toInt = 1 from by decide) (by omega) (by omega)
            refine lv_goto (tgt := 16) hx hb dX6_anew_117 (by decide) ?_
            have AQ := q3.step (w1 := zJ s9 rW) (v1 := t8) (w2 := zJ s20 rW) (v2 := t19) (w3 := zJ s22 rW) (v3 := (-1)) (by omega) (by rw [zpul_Ja hus9]; exact congrArg (fun q9 => vp_updL _ q9 t8) (show ix t5 = 5 + ix k from by unfold ix; omega)) (by rw [zpul_Ja hus20]; exact congrArg (fun q9 => vp_updL _ q9 t19) (show ix t17 = 53 + ix k from by unfold ix; omega)) (by rw [zpul_Ja hus22]; exact congrArg (fun q9 => vp_updL _ q9 (-1)) (show ix t21 = 101 + ix k from by unfold ix; omega)) (by unfold wexp; first | (rw [if_pos (show ix k = rN σ0 this - 1 from by omega), if_pos (show ix k = 0 from by omega)]; omega) | (rw [if_pos (show ix k = rN σ0 this - 1 from by omega), if_neg (show ¬ ix k = 0 from by omega)]; omega) | (rw [if_neg (show ¬ ix k = rN σ0 this - 1 from by omega), if_pos (show ix k = 0 from by omega)]; omega) | (rw [if_neg (show ¬ ix k = rN σ0 this - 1 from by omega), if_neg (show ¬ ix k = 0 from by omega)]; omega)) (by first | omega | decide)
            exact ih16 t23 _ _ _ _ hT  (by omega) (by omega) (by rw [show ix t23 = ix k + 1 from by unfold ix; omega]; exact AQ) (lv_sub hl [0, 3] rfl) (by omega)
          · have c5 := gi_eq c9
            refine lv_aload_n hx hb dX6_anew_71 rfl (lv_at hl 2 rfl) ?_
            refine va_get (D := κ.1) (ci := 6) (v := .ref (kR κ this 5)) (C := RX6) (T := TX6) (N := 27) hx hb hg inX6 hown hK (hT.o20 (hT.k t_this (by decide))).one 0 rfl rfl 5 (by decide) (hg _ k1224) (fun _ h9 => h9) rfl dX6_anew_72 ?_
            rw [erP]
            refine lv_iload_n hx hb dX6_anew_75 rfl (lv_at hl 1 rfl) ?_
            refine va_iald hx hb hK (hT.o25 (hT.k trP (by decide))).one 0 0 rfl rfl (g_in (by omega) (by omega)) dX6_anew_76 ?_
            refine lv_topi (fun t24 ht24 => ?_)
            have xt24 : (zI s9 rP (ix k)).toInt = t24.toInt := by rw [ht24]; exact congrArg (fun q9 => (zI s9 rP q9).toInt) (show ix k = ix k from rfl)
            try simp only [K12, P13] at xt24
            refine lv_goto (tgt := 88) hx hb dX6_anew_77 (by decide) ?_
            refine lv_istore_n (lv' := [(3, .int t24), (2, .int t11), (1, .int k), (0, .ref this)]) hx hb dX6_anew_88 rfl hl (by decide) rfl (fun ls hl => ?_)
            refine lv_aload_n hx hb dX6_anew_89 rfl (lv_at hl 3 rfl) ?_
            refine va_get (D := κ.1) (ci := 6) (v := .ref (kR κ this 1)) (C := RX6) (T := TX6) (N := 27) hx hb hg inX6 hown hK (hT.o20 (hT.k t_this (by decide))).one 0 rfl rfl 1 (by decide) (hg _ k1220) (fun _ h9 => h9) rfl dX6_anew_90 ?_
            rw [erW]
            refine lv_bipush (v := 53) hx hb dX6_anew_93 (by decide) ?_
            refine lv_iload_n hx hb dX6_anew_95 rfl (lv_at hl 2 rfl) ?_
            refine lv_iadd hx hb dX6_anew_96 ?_
            first | refine g_add (by omega) (by omega) (fun t25 ht25 => ?_) | refine lv_topi (fun t25 ht25 => ?_)
            refine lv_iload_n hx hb dX6_anew_97 rfl (lv_at hl 0 rfl) ?_
            refine lv_iload_n hx hb dX6_anew_98 rfl (lv_at hl 1 rfl) ?_
            refine lv_isub hx hb dX6_anew_99 ?_
            first | refine g_sub (by omega) (by omega) (fun t26 ht26 => ?_) | refine lv_topi (fun t26 ht26 => ?_)
            refine lv_i2l hx hb dX6_anew_100 rfl ?_
            refine g_i2l (fun t27 ht27 => ?_)
            have hTo := hT
            refine tastlx (n := 609) hx hb hK hT (hT.k trW (by decide)) ⟨by decide, by decide⟩ (fun _ _ _ => rfl) (fun _ _ => trivial) (by omega) (by omega) (ge3_gW _ (by unfold ix; omega)) dX6_anew_101 (fun H locs s28 hus28 hT => ?_)
            refine lv_aload_n hx hb dX6_anew_102 rfl (lv_at hl 3 rfl) ?_
            refine va_get (D := κ.1) (ci := 6) (v := .ref (kR κ this 1)) (C := RX6) (T := TX6) (N := 27) hx hb hg inX6 hown hK (hT.o20 (hT.k t_this (by decide))).one 0 rfl rfl 1 (by decide) (hg _ k1220) (fun _ h9 => h9) rfl dX6_anew_103 ?_
            rw [erW]
            refine lv_bipush (v := 101) hx hb dX6_anew_106 (by decide) ?_
            refine lv_iload_n hx hb dX6_anew_108 rfl (lv_at hl 2 rfl) ?_
            refine lv_iadd hx hb dX6_anew_109 ?_
            first | refine g_add (by omega) (by omega) (fun t29 ht29 => ?_) | refine lv_topi (fun t29 ht29 => ?_)
            refine lv_ldc2 hx hb hown (hg _ k1218) dX6_anew_110 ?_
            have hTo := hT
            refine tastlx (n := 609) hx hb hK hT (hT.k trW (by decide)) ⟨by decide, by decide⟩ (fun _ _ _ => rfl) (fun _ _ => trivial) (by omega) (by omega) (ge3_gW _ (by unfold ix; omega)) dX6_anew_113 (fun H locs s30 hus30 hT => ?_)
            obtain ⟨t31, qt31⟩ : ∃ zz9 : Int32, k + Int32.ofInt 1 = zz9 := ⟨_, rfl⟩
            refine lv_iinc (v := t31) (lv' := [(1, .int t31), (3, .int t24), (2, .int t11), (0, .ref this)]) hx hb dX6_anew_114 hl (k := 2) rfl qt31 (by decide) rfl (fun ls hl => ?_)
            have ht31 : t31.toInt = k.toInt + 1 := by rw [← qt31]; exact v_addi rfl (show (Int32.ofInt 1).toInt = 1 from by decide) (by omega) (by omega)
            refine lv_goto (tgt := 16) hx hb dX6_anew_117 (by decide) ?_
            have AQ := q3.step (w1 := zJ s9 rW) (v1 := t8) (w2 := zJ s28 rW) (v2 := t27) (w3 := zJ s30 rW) (v3 := (-1)) (by omega) (by rw [zpul_Ja hus9]; exact congrArg (fun q9 => vp_updL _ q9 t8) (show ix t5 = 5 + ix k from by unfold ix; omega)) (by rw [zpul_Ja hus28]; exact congrArg (fun q9 => vp_updL _ q9 t27) (show ix t25 = 53 + ix k from by unfold ix; omega)) (by rw [zpul_Ja hus30]; exact congrArg (fun q9 => vp_updL _ q9 (-1)) (show ix t29 = 101 + ix k from by unfold ix; omega)) (by unfold wexp; first | (rw [if_pos (show ix k = rN σ0 this - 1 from by omega), if_pos (show ix k = 0 from by omega)]; omega) | (rw [if_pos (show ix k = rN σ0 this - 1 from by omega), if_neg (show ¬ ix k = 0 from by omega)]; omega) | (rw [if_neg (show ¬ ix k = rN σ0 this - 1 from by omega), if_pos (show ix k = 0 from by omega)]; omega) | (rw [if_neg (show ¬ ix k = rN σ0 this - 1 from by omega), if_neg (show ¬ ix k = 0 from by omega)]; omega)) (by first | omega | decide)
            exact ih16 t31 _ _ _ _ hT  (by omega) (by omega) (by rw [show ix t31 = ix k + 1 from by unfold ix; omega]; exact AQ) (lv_sub hl [0, 3] rfl) (by omega)
        · have c6 := gi_eq c9
          refine lv_aload_n hx hb dX6_anew_43 rfl (lv_at hl 1 rfl) ?_
          refine va_get (D := κ.1) (ci := 6) (v := .ref (kR κ this 5)) (C := RX6) (T := TX6) (N := 27) hx hb hg inX6 hown hK (hT.o20 (hT.k t_this (by decide))).one 0 rfl rfl 5 (by decide) (hg _ k1224) (fun _ h9 => h9) rfl dX6_anew_44 ?_
          rw [erP]
          refine lv_iconst (v := 0) hx hb dX6_anew_47 (by decide) ?_
          refine va_iald hx hb hK (hT.o25 (hT.k trP (by decide))).one 0 0 rfl rfl (g_in (by omega) (by omega)) dX6_anew_48 ?_
          refine lv_topi (fun t32 ht32 => ?_)
          have K33 : zI s9 this 7 = zI σ0 this 7 := hT.eI t_this (by decide) rfl rfl
          have K33n : (zI s9 this 7).toInt = (zI σ0 this 7).toInt := by rw [K33]
          have P34 : zI s9 rP = zI σ0 rP := funext fun k => hT.eI trP (by decide) rfl rfl
          have xt32 : (zI s9 rP 0).toInt = t32.toInt := by rw [ht32]; exact congrArg (fun q9 => (zI s9 rP q9).toInt) (show 0 = ix 0 from by decide)
          try simp only [K33, P34] at xt32
          refine lv_goto (tgt := 60) hx hb dX6_anew_49 (by decide) ?_
          refine lv_istore_n (lv' := [(2, .int t32), (1, .int k), (0, .ref this)]) hx hb dX6_anew_60 rfl hl (by decide) rfl (fun ls hl => ?_)
          refine lv_iload_n hx hb dX6_anew_61 rfl (lv_at hl 1 rfl) ?_
          refine lv_aload_n hx hb dX6_anew_62 rfl (lv_at hl 2 rfl) ?_
          refine va_get (D := κ.1) (ci := 6) (v := .int (zI s9 this 7)) (C := RX6) (T := TX6) (N := 27) hx hb hg inX6 hown hK (hT.o20 (hT.k t_this (by decide))).one 0 rfl rfl 7 (by decide) (hg _ k1226) (fun _ h9 => h9) rfl dX6_anew_63 ?_
          rw [(hT.eI t_this (by decide) rfl ev4)]
          refine lv_iconst (v := 1) hx hb dX6_anew_66 (by decide) ?_
          refine lv_isub hx hb dX6_anew_67 ?_
          first | refine g_sub (by omega) (by omega) (fun t35 ht35 => ?_) | refine lv_topi (fun t35 ht35 => ?_)
          refine lv_icmp_ne (tgt := 80) hx hb dX6_anew_68 (by decide) (fun c9 => ?_) (fun c9 => ?_)
          · have c7 := gi_ne c9
            have g3 := (hP (ix k + 1) (by omega)).1
            refine lv_aload_n hx hb dX6_anew_80 rfl (lv_at hl 2 rfl) ?_
            refine va_get (D := κ.1) (ci := 6) (v := .ref (kR κ this 5)) (C := RX6) (T := TX6) (N := 27) hx hb hg inX6 hown hK (hT.o20 (hT.k t_this (by decide))).one 0 rfl rfl 5 (by decide) (hg _ k1224) (fun _ h9 => h9) rfl dX6_anew_81 ?_
            rw [erP]
            refine lv_iload_n hx hb dX6_anew_84 rfl (lv_at hl 1 rfl) ?_
            refine lv_iconst (v := 1) hx hb dX6_anew_85 (by decide) ?_
            refine lv_iadd hx hb dX6_anew_86 ?_
            first | refine g_add (by omega) (by omega) (fun t36 ht36 => ?_) | refine lv_topi (fun t36 ht36 => ?_)
            refine va_iald hx hb hK (hT.o25 (hT.k trP (by decide))).one 0 0 rfl rfl (g_in (by omega) (by omega)) dX6_anew_87 ?_
            refine lv_topi (fun t37 ht37 => ?_)
            have xt37 : ((zI s9 rP) (ix k + 1)).toInt = t37.toInt := by rw [ht37]; exact congrArg (fun q9 => (zI s9 rP q9).toInt) (show ix k + 1 = ix t36 from by unfold ix; omega)
            try simp only [K33, P34] at xt37
            refine lv_istore_n (lv' := [(3, .int t37), (2, .int t32), (1, .int k), (0, .ref this)]) hx hb dX6_anew_88 rfl hl (by decide) rfl (fun ls hl => ?_)
            refine lv_aload_n hx hb dX6_anew_89 rfl (lv_at hl 3 rfl) ?_
            refine va_get (D := κ.1) (ci := 6) (v := .ref (kR κ this 1)) (C := RX6) (T := TX6) (N := 27) hx hb hg inX6 hown hK (hT.o20 (hT.k t_this (by decide))).one 0 rfl rfl 1 (by decide) (hg _ k1220) (fun _ h9 => h9) rfl dX6_anew_90 ?_
            rw [erW]
            refine lv_bipush (v := 53) hx hb dX6_anew_93 (by decide) ?_
            refine lv_iload_n hx hb dX6_anew_95 rfl (lv_at hl 2 rfl) ?_
            refine lv_iadd hx hb dX6_anew_96 ?_
            first | refine g_add (by omega) (by omega) (fun t38 ht38 => ?_) | refine lv_topi (fun t38 ht38 => ?_)
            refine lv_iload_n hx hb dX6_anew_97 rfl (lv_at hl 0 rfl) ?_
            refine lv_iload_n hx hb dX6_anew_98 rfl (lv_at hl 1 rfl) ?_
            refine lv_isub hx hb dX6_anew_99 ?_
            first | refine g_sub (by omega) (by omega) (fun t39 ht39 => ?_) | refine lv_topi (fun t39 ht39 => ?_)
            refine lv_i2l hx hb dX6_anew_100 rfl ?_
            refine g_i2l (fun t40 ht40 => ?_)
            have hTo := hT
            refine tastlx (n := 609) hx hb hK hT (hT.k trW (by decide)) ⟨by decide, by decide⟩ (fun _ _ _ => rfl) (fun _ _ => trivial) (by omega) (by omega) (ge3_gW _ (by unfold ix; omega)) dX6_anew_101 (fun H locs s41 hus41 hT => ?_)
            refine lv_aload_n hx hb dX6_anew_102 rfl (lv_at hl 3 rfl) ?_
            refine va_get (D := κ.1) (ci := 6) (v := .ref (kR κ this 1)) (C := RX6) (T := TX6) (N := 27) hx hb hg inX6 hown hK (hT.o20 (hT.k t_this (by decide))).one 0 rfl rfl 1 (by decide) (hg _ k1220) (fun _ h9 => h9) rfl dX6_anew_103 ?_
            rw [erW]
            refine lv_bipush (v := 101) hx hb dX6_anew_106 (by decide) ?_
            refine lv_iload_n hx hb dX6_anew_108 rfl (lv_at hl 2 rfl) ?_
            refine lv_iadd hx hb dX6_anew_109 ?_
            first | refine g_add (by omega) (by omega) (fun t42 ht42 => ?_) | refine lv_topi (fun t42 ht42 => ?_)
            refine lv_ldc2 hx hb hown (hg _ k1218) dX6_anew_110 ?_
            have hTo := hT
            refine tastlx (n := 609) hx hb hK hT (hT.k trW (by decide)) ⟨by decide, by decide⟩ (fun _ _ _ => rfl) (fun _ _ => trivial) (by omega) (by omega) (ge3_gW _ (by unfold ix; omega)) dX6_anew_113 (fun H locs s43 hus43 hT => ?_)
            obtain ⟨t44, qt44⟩ : ∃ zz9 : Int32, k + Int32.ofInt 1 = zz9 := ⟨_, rfl⟩
            refine lv_iinc (v := t44) (lv' := [(1, .int t44), (3, .int t37), (2, .int t32), (0, .ref this)]) hx hb dX6_anew_114 hl (k := 2) rfl qt44 (by decide) rfl (fun ls hl => ?_)
            have ht44 : t44.toInt = k.toInt + 1 := by rw [← qt44]; exact v_addi rfl (show (Int32.ofInt 1).toInt = 1 from by decide) (by omega) (by omega)
            refine lv_goto (tgt := 16) hx hb dX6_anew_117 (by decide) ?_
            have AQ := q3.step (w1 := zJ s9 rW) (v1 := t8) (w2 := zJ s41 rW) (v2 := t40) (w3 := zJ s43 rW) (v3 := (-1)) (by omega) (by rw [zpul_Ja hus9]; exact congrArg (fun q9 => vp_updL _ q9 t8) (show ix t5 = 5 + ix k from by unfold ix; omega)) (by rw [zpul_Ja hus41]; exact congrArg (fun q9 => vp_updL _ q9 t40) (show ix t38 = 53 + ix k from by unfold ix; omega)) (by rw [zpul_Ja hus43]; exact congrArg (fun q9 => vp_updL _ q9 (-1)) (show ix t42 = 101 + ix k from by unfold ix; omega)) (by unfold wexp; first | (rw [if_pos (show ix k = rN σ0 this - 1 from by omega), if_pos (show ix k = 0 from by omega)]; omega) | (rw [if_pos (show ix k = rN σ0 this - 1 from by omega), if_neg (show ¬ ix k = 0 from by omega)]; omega) | (rw [if_neg (show ¬ ix k = rN σ0 this - 1 from by omega), if_pos (show ix k = 0 from by omega)]; omega) | (rw [if_neg (show ¬ ix k = rN σ0 this - 1 from by omega), if_neg (show ¬ ix k = 0 from by omega)]; omega)) (by first | omega | decide)
            exact ih16 t44 _ _ _ _ hT  (by omega) (by omega) (by rw [show ix t44 = ix k + 1 from by unfold ix; omega]; exact AQ) (lv_sub hl [0, 3] rfl) (by omega)
          · have c8 := gi_eq c9
            refine lv_aload_n hx hb dX6_anew_71 rfl (lv_at hl 2 rfl) ?_
            refine va_get (D := κ.1) (ci := 6) (v := .ref (kR κ this 5)) (C := RX6) (T := TX6) (N := 27) hx hb hg inX6 hown hK (hT.o20 (hT.k t_this (by decide))).one 0 rfl rfl 5 (by decide) (hg _ k1224) (fun _ h9 => h9) rfl dX6_anew_72 ?_
            rw [erP]
            refine lv_iload_n hx hb dX6_anew_75 rfl (lv_at hl 1 rfl) ?_
            refine va_iald hx hb hK (hT.o25 (hT.k trP (by decide))).one 0 0 rfl rfl (g_in (by omega) (by omega)) dX6_anew_76 ?_
            refine lv_topi (fun t45 ht45 => ?_)
            have xt45 : (zI s9 rP (ix k)).toInt = t45.toInt := by rw [ht45]; exact congrArg (fun q9 => (zI s9 rP q9).toInt) (show ix k = ix k from rfl)
            try simp only [K33, P34] at xt45
            refine lv_goto (tgt := 88) hx hb dX6_anew_77 (by decide) ?_
            refine lv_istore_n (lv' := [(3, .int t45), (2, .int t32), (1, .int k), (0, .ref this)]) hx hb dX6_anew_88 rfl hl (by decide) rfl (fun ls hl => ?_)
            refine lv_aload_n hx hb dX6_anew_89 rfl (lv_at hl 3 rfl) ?_
            refine va_get (D := κ.1) (ci := 6) (v := .ref (kR κ this 1)) (C := RX6) (T := TX6) (N := 27) hx hb hg inX6 hown hK (hT.o20 (hT.k t_this (by decide))).one 0 rfl rfl 1 (by decide) (hg _ k1220) (fun _ h9 => h9) rfl dX6_anew_90 ?_
            rw [erW]
            refine lv_bipush (v := 53) hx hb dX6_anew_93 (by decide) ?_
            refine lv_iload_n hx hb dX6_anew_95 rfl (lv_at hl 2 rfl) ?_
            refine lv_iadd hx hb dX6_anew_96 ?_
            first | refine g_add (by omega) (by omega) (fun t46 ht46 => ?_) | refine lv_topi (fun t46 ht46 => ?_)
            refine lv_iload_n hx hb dX6_anew_97 rfl (lv_at hl 0 rfl) ?_
            refine lv_iload_n hx hb dX6_anew_98 rfl (lv_at hl 1 rfl) ?_
            refine lv_isub hx hb dX6_anew_99 ?_
            first | refine g_sub (by omega) (by omega) (fun t47 ht47 => ?_) | refine lv_topi (fun t47 ht47 => ?_)
            refine lv_i2l hx hb dX6_anew_100 rfl ?_
            refine g_i2l (fun t48 ht48 => ?_)
            have hTo := hT
            refine tastlx (n := 609) hx hb hK hT (hT.k trW (by decide)) ⟨by decide, by decide⟩ (fun _ _ _ => rfl) (fun _ _ => trivial) (by omega) (by omega) (ge3_gW _ (by unfold ix; omega)) dX6_anew_101 (fun H locs s49 hus49 hT => ?_)
            refine lv_aload_n hx hb dX6_anew_102 rfl (lv_at hl 3 rfl) ?_
            refine va_get (D := κ.1) (ci := 6) (v := .ref (kR κ this 1)) (C := RX6) (T := TX6) (N := 27) hx hb hg inX6 hown hK (hT.o20 (hT.k t_this (by decide))).one 0 rfl rfl 1 (by decide) (hg _ k1220) (fun _ h9 => h9) rfl dX6_anew_103 ?_
            rw [erW]
            refine lv_bipush (v := 101) hx hb dX6_anew_106 (by decide) ?_
            refine lv_iload_n hx hb dX6_anew_108 rfl (lv_at hl 2 rfl) ?_
            refine lv_iadd hx hb dX6_anew_109 ?_
            first | refine g_add (by omega) (by omega) (fun t50 ht50 => ?_) | refine lv_topi (fun t50 ht50 => ?_)
            refine lv_ldc2 hx hb hown (hg _ k1218) dX6_anew_110 ?_
            have hTo := hT
            refine tastlx (n := 609) hx hb hK hT (hT.k trW (by decide)) ⟨by decide, by decide⟩ (fun _ _ _ => rfl) (fun _ _ => trivial) (by omega) (by omega) (ge3_gW _ (by unfold ix; omega)) dX6_anew_113 (fun H locs s51 hus51 hT => ?_)
            obtain ⟨t52, qt52⟩ : ∃ zz9 : Int32, k + Int32.ofInt 1 = zz9 := ⟨_, rfl⟩
            refine lv_iinc (v := t52) (lv' := [(1, .int t52), (3, .int t45), (2, .int t32), (0, .ref this)]) hx hb dX6_anew_114 hl (k := 2) rfl qt52 (by decide) rfl (fun ls hl => ?_)
            have ht52 : t52.toInt = k.toInt + 1 := by rw [← qt52]; exact v_addi rfl (show (Int32.ofInt 1).toInt = 1 from by decide) (by omega) (by omega)
            refine lv_goto (tgt := 16) hx hb dX6_anew_117 (by decide) ?_
            have AQ := q3.step (w1 := zJ s9 rW) (v1 := t8) (w2 := zJ s49 rW) (v2 := t48) (w3 := zJ s51 rW) (v3 := (-1)) (by omega) (by rw [zpul_Ja hus9]; exact congrArg (fun q9 => vp_updL _ q9 t8) (show ix t5 = 5 + ix k from by unfold ix; omega)) (by rw [zpul_Ja hus49]; exact congrArg (fun q9 => vp_updL _ q9 t48) (show ix t46 = 53 + ix k from by unfold ix; omega)) (by rw [zpul_Ja hus51]; exact congrArg (fun q9 => vp_updL _ q9 (-1)) (show ix t50 = 101 + ix k from by unfold ix; omega)) (by unfold wexp; first | (rw [if_pos (show ix k = rN σ0 this - 1 from by omega), if_pos (show ix k = 0 from by omega)]; omega) | (rw [if_pos (show ix k = rN σ0 this - 1 from by omega), if_neg (show ¬ ix k = 0 from by omega)]; omega) | (rw [if_neg (show ¬ ix k = rN σ0 this - 1 from by omega), if_pos (show ix k = 0 from by omega)]; omega) | (rw [if_neg (show ¬ ix k = rN σ0 this - 1 from by omega), if_neg (show ¬ ix k = 0 from by omega)]; omega)) (by first | omega | decide)
            exact ih16 t52 _ _ _ _ hT  (by omega) (by omega) (by rw [show ix t52 = ix k + 1 from by unfold ix; omega]; exact AQ) (lv_sub hl [0, 3] rfl) (by omega)
  exact loop16 (((zI σ0 this 7).toInt - (0 : Int32).toInt).toNat + 1) 0 _ _ _ _ hT  (by omega) (by omega) ⟨by rw [zpul_Ja hus2, ix_4, uh]; decide, fun j hj => by rw [ix_0] at hj; omega⟩ hl (by omega)
set_option maxHeartbeats 40000000 in
set_option maxRecDepth 100000 in
theorem X6_inverts (l : Launch) (κ : Kt) (σ0 : Gh) (this : Nat) (t_this : zk σ0 this 20) (h0 : RI κ σ0 this) (h1 : 1 ≤ ((zJ σ0 (kR κ this 1)) 4).toInt) : TC l yX6_inverts cX6_inverts 11 none 2 50 [.ref this] κ σ0 (tqv κ gW σ0 (fun (τ : Gh) => (RI κ τ this) ∧ ((zJ τ (kR κ this 1) 4).toInt = ((zJ σ0 (kR κ this 1)) 4).toInt - 1))) := by
  refine TC.of gW (by decide +kernel) (Nat.le_of_ble_eq_true rfl) ?_
  intro p e s m below meth c ls hcs hK hX hT hl
  obtain ⟨hx, hb, hr, hml, hown, hg, hlocks, hin⟩ := hcs
  have hown : s.vm.findClass RX6 = some m.cls := hown
  have hl : lv_has ls 11 [(0, .ref this)] := hl
  have hT0 := hT
  have n0 : (0 : Int32).toInt = 0 := by decide
  have n1 : (1 : Int32).toInt = 1 := by decide
  have n2 : (2 : Int32).toInt = 2 := by decide
  have n3 : (3 : Int32).toInt = 3 := by decide
  have n4 : (4 : Int32).toInt = 4 := by decide
  have n5 : (5 : Int32).toInt = 5 := by decide
  have n6 : (6 : Int32).toInt = 6 := by decide
  have n7 : (7 : Int32).toInt = 7 := by decide
  have n8 : (8 : Int32).toInt = 8 := by decide
  have n53 : (53 : Int32).toInt = 53 := by decide
  have n101 : (101 : Int32).toInt = 101 := by decide
  have jm1 : ((-1) : Int64).toInt = (-1) := by decide
  have j1 : (1 : Int64).toInt = 1 := by decide
  generalize hQ9 : tQ _ _ _ _ _ _ = Q9
  obtain ⟨rW, erW⟩ : ∃ z, kR κ this 1 = z := ⟨_, rfl⟩
  have trW : zk σ0 rW 21 := by rw [← erW]; exact h0.1.2.1
  obtain ⟨rP, erP⟩ : ∃ z, kR κ this 5 = z := ⟨_, rfl⟩
  have trP : zk σ0 rP 25 := by rw [← erP]; exact h0.1.2.2.2.2
  have hB0 := h0.b
  rw [erW] at hB0
  have hW := h0.2.1
  rw [erW] at hW
  have hP := h0.2.2.1
  rw [erP] at hP
  have hrN : (rN σ0 this : Int) = (zI σ0 this 7).toInt := by unfold rN; omega
  try simp only [erW, erP] at h1
  have hPL0 := h0.2.2.1
  refine lv_aload_n hx hb dX6_inverts_0 rfl (lv_at hl 0 rfl) ?_
  have hTo := hT
  refine tVi (n := 0) (As := []) (rest := []) hx hb hml hown hg hT hK hX (X6_steps l κ σ0 this  (hT.k t_this (by decide)) h0) sub_fE_gW (mwV k1416 k1418 k52 k92 k1419) ⟨rfl, by decide, by decide, by decide +kernel⟩ ⟨(Nat.le_of_ble_eq_true rfl), (Nat.le_of_ble_eq_true rfl)⟩ (hT.o20 (hT.k t_this (by decide))) rfl rfl hl.1 rfl (Nat.le_of_ble_eq_true rfl) dX6_inverts_1 zroom.rf (fun x1 s2 H locs hφ hEs2 hT => ?_)
  have E3 : zJ s2 rW = zJ σ0 rW := funext fun k => (hTo.k trW (by decide)).eJ hEs2 (by decide) rfl
  have R4 : RI κ s2 this := h0.ext hEs2 ⟨rfl, rfl, fun _ => rfl, fun _ => rfl, fun _ => rfl, fun _ => rfl⟩
  have B5 := R4.b
  rw [erW] at B5
  have K6 : zI s2 this 7 = zI σ0 this 7 := hT.eI t_this (by decide) rfl rfl
  have K6n : (zI s2 this 7).toInt = (zI σ0 this 7).toInt := by rw [K6]
  have J7 : zJ s2 rW = zJ σ0 rW := by rw [E3]
  have P8 : zI s2 rP = zI σ0 rP := funext fun k => hT.eI trP (by decide) rfl rfl
  try simp only [K6, J7, P8] at B5
  have f9 := hφ
  try simp only [erW, erP, ix_0, ix_1, ix_2, ix_3, ix_4, ix_5, ix_6, ix_7, ix_8, ix_9, K6, J7, P8] at f9
  refine lv_iconst (v := 1) hx hb dX6_inverts_4 (by decide) ?_
  refine lv_isub hx hb dX6_inverts_5 ?_
  first | refine g_sub (by omega) (by omega) (fun t10 ht10 => ?_) | refine lv_topi (fun t10 ht10 => ?_)
  refine lv_istore_n (lv' := [(1, .int t10), (0, .ref this)]) hx hb dX6_inverts_6 rfl hl (by decide) rfl (fun ls hl => ?_)
  have i_t10 : (ix t10 : Int) = t10.toInt := by unfold ix; omega
  obtain ⟨k9, p9, q9, ⟨g01, g02, g03⟩, ⟨gk, gp, gq⟩, ⟨ge1, ge2, ge3, ge4, ge5⟩, gs, gl, -⟩ := hW.inv (n := ix t10) (by omega)
  refine lv_aload_n hx hb dX6_inverts_7 rfl (lv_at hl 1 rfl) ?_
  refine lv_iload_n hx hb dX6_inverts_8 rfl (lv_at hl 0 rfl) ?_
  refine lv_iconst (v := 0) hx hb dX6_inverts_9 (by decide) ?_
  have hTo := hT
  refine tVl (n := 2) (As := [.int t10, .int 0]) (rest := []) hx hb hml hown hg hT hK hX (X6_of l κ s2 this t10 0  (hT.k t_this (by decide)) (by omega) (by omega) (by omega) (by omega)) sub_fE_gW (mwV k1424 k1426 k54 k92 k1427) ⟨rfl, by decide, by decide, by decide +kernel⟩ ⟨(Nat.le_of_ble_eq_true rfl), (Nat.le_of_ble_eq_true rfl)⟩ (hT.o20 (hT.k t_this (by decide))) rfl rfl hl.1 rfl (Nat.le_of_ble_eq_true rfl) dX6_inverts_10 zroom.rf (fun x11 s12 H locs hφ hEs12 hT => ?_)
  have E13 : zJ s12 rW = zJ s2 rW := funext fun k => (hTo.k trW (by decide)).eJ hEs12 (by decide) rfl
  have R14 : RI κ s12 this := R4.ext hEs12 ⟨rfl, rfl, fun _ => rfl, fun _ => rfl, fun _ => rfl, fun _ => rfl⟩
  have B15 := R14.b
  rw [erW] at B15
  have K16 : zI s12 this 7 = zI σ0 this 7 := hT.eI t_this (by decide) rfl rfl
  have K16n : (zI s12 this 7).toInt = (zI σ0 this 7).toInt := by rw [K16]
  have J17 : zJ s12 rW = zJ σ0 rW := by rw [E13, E3]
  have P18 : zI s12 rP = zI σ0 rP := funext fun k => hT.eI trP (by decide) rfl rfl
  try simp only [K16, J17, P18] at B15
  have f19 := hφ
  try simp only [erW, erP, ix_0, ix_1, ix_2, ix_3, ix_4, ix_5, ix_6, ix_7, ix_8, ix_9, K6, J7, P8, K16, J17, P18] at f19
  refine lv_l2i hx hb dX6_inverts_13 rfl ?_
  first | refine g_l2i (by omega) (by omega) (fun t20 ht20 => ?_) | refine lv_topi (fun t20 ht20 => ?_)
  refine lv_istore_n (lv' := [(2, .int t20), (1, .int t10), (0, .ref this)]) hx hb dX6_inverts_14 rfl hl (by decide) rfl (fun ls hl => ?_)
  refine lv_aload_n hx hb dX6_inverts_15 rfl (lv_at hl 2 rfl) ?_
  refine lv_iload_n hx hb dX6_inverts_16 rfl (lv_at hl 1 rfl) ?_
  refine lv_iconst (v := 1) hx hb dX6_inverts_17 (by decide) ?_
  have hTo := hT
  refine tVl (n := 2) (As := [.int t10, .int 1]) (rest := []) hx hb hml hown hg hT hK hX (X6_of l κ s12 this t10 1  (hT.k t_this (by decide)) (by omega) (by omega) (by omega) (by omega)) sub_fE_gW (mwV k1424 k1426 k54 k92 k1427) ⟨rfl, by decide, by decide, by decide +kernel⟩ ⟨(Nat.le_of_ble_eq_true rfl), (Nat.le_of_ble_eq_true rfl)⟩ (hT.o20 (hT.k t_this (by decide))) rfl rfl hl.1 rfl (Nat.le_of_ble_eq_true rfl) dX6_inverts_18 zroom.rf (fun x21 s22 H locs hφ hEs22 hT => ?_)
  have E23 : zJ s22 rW = zJ s12 rW := funext fun k => (hTo.k trW (by decide)).eJ hEs22 (by decide) rfl
  have R24 : RI κ s22 this := R14.ext hEs22 ⟨rfl, rfl, fun _ => rfl, fun _ => rfl, fun _ => rfl, fun _ => rfl⟩
  have B25 := R24.b
  rw [erW] at B25
  have K26 : zI s22 this 7 = zI σ0 this 7 := hT.eI t_this (by decide) rfl rfl
  have K26n : (zI s22 this 7).toInt = (zI σ0 this 7).toInt := by rw [K26]
  have J27 : zJ s22 rW = zJ σ0 rW := by rw [E23, E13, E3]
  have P28 : zI s22 rP = zI σ0 rP := funext fun k => hT.eI trP (by decide) rfl rfl
  try simp only [K26, J27, P28] at B25
  have f29 := hφ
  try simp only [erW, erP, ix_0, ix_1, ix_2, ix_3, ix_4, ix_5, ix_6, ix_7, ix_8, ix_9, K16, J17, P18, K26, J27, P28] at f29
  refine lv_l2i hx hb dX6_inverts_21 rfl ?_
  first | refine g_l2i (by omega) (by omega) (fun t30 ht30 => ?_) | refine lv_topi (fun t30 ht30 => ?_)
  refine lv_istore_n (lv' := [(3, .int t30), (2, .int t20), (1, .int t10), (0, .ref this)]) hx hb dX6_inverts_22 rfl hl (by decide) rfl (fun ls hl => ?_)
  refine lv_aload_n hx hb dX6_inverts_23 rfl (lv_at hl 3 rfl) ?_
  refine lv_iload_n hx hb dX6_inverts_24 rfl (lv_at hl 2 rfl) ?_
  refine lv_iconst (v := 2) hx hb dX6_inverts_25 (by decide) ?_
  have hTo := hT
  refine tVl (n := 2) (As := [.int t10, .int 2]) (rest := []) hx hb hml hown hg hT hK hX (X6_of l κ s22 this t10 2  (hT.k t_this (by decide)) (by omega) (by omega) (by omega) (by omega)) sub_fE_gW (mwV k1424 k1426 k54 k92 k1427) ⟨rfl, by decide, by decide, by decide +kernel⟩ ⟨(Nat.le_of_ble_eq_true rfl), (Nat.le_of_ble_eq_true rfl)⟩ (hT.o20 (hT.k t_this (by decide))) rfl rfl hl.1 rfl (Nat.le_of_ble_eq_true rfl) dX6_inverts_26 zroom.rf (fun x31 s32 H locs hφ hEs32 hT => ?_)
  have E33 : zJ s32 rW = zJ s22 rW := funext fun k => (hTo.k trW (by decide)).eJ hEs32 (by decide) rfl
  have R34 : RI κ s32 this := R24.ext hEs32 ⟨rfl, rfl, fun _ => rfl, fun _ => rfl, fun _ => rfl, fun _ => rfl⟩
  have B35 := R34.b
  rw [erW] at B35
  have K36 : zI s32 this 7 = zI σ0 this 7 := hT.eI t_this (by decide) rfl rfl
  have K36n : (zI s32 this 7).toInt = (zI σ0 this 7).toInt := by rw [K36]
  have J37 : zJ s32 rW = zJ σ0 rW := by rw [E33, E23, E13, E3]
  have P38 : zI s32 rP = zI σ0 rP := funext fun k => hT.eI trP (by decide) rfl rfl
  try simp only [K36, J37, P38] at B35
  have f39 := hφ
  try simp only [erW, erP, ix_0, ix_1, ix_2, ix_3, ix_4, ix_5, ix_6, ix_7, ix_8, ix_9, K26, J27, P28, K36, J37, P38] at f39
  refine lv_l2i hx hb dX6_inverts_29 rfl ?_
  first | refine g_l2i (by omega) (by omega) (fun t40 ht40 => ?_) | refine lv_topi (fun t40 ht40 => ?_)
  refine lv_istore (lv' := [(4, .int t40), (3, .int t30), (2, .int t20), (1, .int t10), (0, .ref this)]) hx hb dX6_inverts_30 hl (by decide) rfl (fun ls hl => ?_)
  have e_t20 : ix t20 = k9 := by unfold ix; omega
  have u_t20 : ix t20 < 48 := by omega
  have i_t20 : (ix t20 : Int) = t20.toInt := by unfold ix; omega
  have e_t30 : ix t30 = p9 := by unfold ix; omega
  have u_t30 : ix t30 < 48 := by omega
  have i_t30 : (ix t30 : Int) = t30.toInt := by unfold ix; omega
  have e_t40 : ix t40 = q9 := by unfold ix; omega
  have u_t40 : ix t40 < 48 := by omega
  have i_t40 : (ix t40 : Int) = t40.toInt := by unfold ix; omega
  have n_t20_t30 : ix t20 ≠ ix t30 := by omega
  have n_t20_t40 : ix t20 ≠ ix t40 := by omega
  have n_t30_t20 : ix t30 ≠ ix t20 := by omega
  have n_t30_t40 : ix t30 ≠ ix t40 := by omega
  have n_t40_t20 : ix t40 ≠ ix t20 := by omega
  have n_t40_t30 : ix t40 ≠ ix t30 := by omega
  refine lv_aload_n hx hb dX6_inverts_32 rfl (lv_at hl 4 rfl) ?_
  refine lv_iload_n hx hb dX6_inverts_33 rfl (lv_at hl 3 rfl) ?_
  refine lv_bipush (v := 6) hx hb dX6_inverts_34 (by decide) ?_
  have hTo := hT
  refine tVl (n := 2) (As := [.int t10, .int 6]) (rest := []) hx hb hml hown hg hT hK hX (X6_of l κ s32 this t10 6  (hT.k t_this (by decide)) (by omega) (by omega) (by omega) (by omega)) sub_fE_gW (mwV k1424 k1426 k54 k92 k1427) ⟨rfl, by decide, by decide, by decide +kernel⟩ ⟨(Nat.le_of_ble_eq_true rfl), (Nat.le_of_ble_eq_true rfl)⟩ (hT.o20 (hT.k t_this (by decide))) rfl rfl hl.1 rfl (Nat.le_of_ble_eq_true rfl) dX6_inverts_36 zroom.rf (fun x41 s42 H locs hφ hEs42 hT => ?_)
  have E43 : zJ s42 rW = zJ s32 rW := funext fun k => (hTo.k trW (by decide)).eJ hEs42 (by decide) rfl
  have R44 : RI κ s42 this := R34.ext hEs42 ⟨rfl, rfl, fun _ => rfl, fun _ => rfl, fun _ => rfl, fun _ => rfl⟩
  have B45 := R44.b
  rw [erW] at B45
  have K46 : zI s42 this 7 = zI σ0 this 7 := hT.eI t_this (by decide) rfl rfl
  have K46n : (zI s42 this 7).toInt = (zI σ0 this 7).toInt := by rw [K46]
  have J47 : zJ s42 rW = zJ σ0 rW := by rw [E43, E33, E23, E13, E3]
  have P48 : zI s42 rP = zI σ0 rP := funext fun k => hT.eI trP (by decide) rfl rfl
  try simp only [K46, J47, P48] at B45
  have f49 := hφ
  try simp only [erW, erP, ix_0, ix_1, ix_2, ix_3, ix_4, ix_5, ix_6, ix_7, ix_8, ix_9, K36, J37, P38, K46, J47, P48] at f49
  refine lv_aload_n hx hb dX6_inverts_39 rfl (lv_at hl 4 rfl) ?_
  refine lv_iload_n hx hb dX6_inverts_40 rfl (lv_at hl 3 rfl) ?_
  refine lv_iconst (v := 5) hx hb dX6_inverts_41 (by decide) ?_
  have hTo := hT
  refine tVl (n := 2) (As := [.int t10, .int 5]) (rest := [.long x41]) hx hb hml hown hg hT hK hX (X6_of l κ s42 this t10 5  (hT.k t_this (by decide)) (by omega) (by omega) (by omega) (by omega)) sub_fE_gW (mwV k1424 k1426 k54 k92 k1427) ⟨rfl, by decide, by decide, by decide +kernel⟩ ⟨(Nat.le_of_ble_eq_true rfl), (Nat.le_of_ble_eq_true rfl)⟩ (hT.o20 (hT.k t_this (by decide))) rfl rfl hl.1 rfl (Nat.le_of_ble_eq_true rfl) dX6_inverts_42 zroom.rf (fun x50 s51 H locs hφ hEs51 hT => ?_)
  have E52 : zJ s51 rW = zJ s42 rW := funext fun k => (hTo.k trW (by decide)).eJ hEs51 (by decide) rfl
  have R53 : RI κ s51 this := R44.ext hEs51 ⟨rfl, rfl, fun _ => rfl, fun _ => rfl, fun _ => rfl, fun _ => rfl⟩
  have B54 := R53.b
  rw [erW] at B54
  have K55 : zI s51 this 7 = zI σ0 this 7 := hT.eI t_this (by decide) rfl rfl
  have K55n : (zI s51 this 7).toInt = (zI σ0 this 7).toInt := by rw [K55]
  have J56 : zJ s51 rW = zJ σ0 rW := by rw [E52, E43, E33, E23, E13, E3]
  have P57 : zI s51 rP = zI σ0 rP := funext fun k => hT.eI trP (by decide) rfl rfl
  try simp only [K55, J56, P57] at B54
  have f58 := hφ
  try simp only [erW, erP, ix_0, ix_1, ix_2, ix_3, ix_4, ix_5, ix_6, ix_7, ix_8, ix_9, K46, J47, P48, K55, J56, P57] at f58
  refine lv_ladd hx hb dX6_inverts_45 ?_
  refine g_addl (by omega) (by omega) (fun t59 ht59 => ?_)
  refine lv_lstore (lv' := [(5, .long t59), (4, .int t40), (3, .int t30), (2, .int t20), (1, .int t10), (0, .ref this)]) hx hb dX6_inverts_46 hl (by decide) rfl (fun ls hl => ?_)
  refine lv_aload_n hx hb dX6_inverts_48 rfl (lv_at hl 5 rfl) ?_
  refine lv_iload_n hx hb dX6_inverts_49 rfl (lv_at hl 4 rfl) ?_
  refine lv_bipush (v := 7) hx hb dX6_inverts_50 (by decide) ?_
  have hTo := hT
  refine tVl (n := 2) (As := [.int t10, .int 7]) (rest := []) hx hb hml hown hg hT hK hX (X6_of l κ s51 this t10 7  (hT.k t_this (by decide)) (by omega) (by omega) (by omega) (by omega)) sub_fE_gW (mwV k1424 k1426 k54 k92 k1427) ⟨rfl, by decide, by decide, by decide +kernel⟩ ⟨(Nat.le_of_ble_eq_true rfl), (Nat.le_of_ble_eq_true rfl)⟩ (hT.o20 (hT.k t_this (by decide))) rfl rfl hl.1 rfl (Nat.le_of_ble_eq_true rfl) dX6_inverts_52 zroom.rf (fun x60 s61 H locs hφ hEs61 hT => ?_)
  have E62 : zJ s61 rW = zJ s51 rW := funext fun k => (hTo.k trW (by decide)).eJ hEs61 (by decide) rfl
  have R63 : RI κ s61 this := R53.ext hEs61 ⟨rfl, rfl, fun _ => rfl, fun _ => rfl, fun _ => rfl, fun _ => rfl⟩
  have B64 := R63.b
  rw [erW] at B64
  have K65 : zI s61 this 7 = zI σ0 this 7 := hT.eI t_this (by decide) rfl rfl
  have K65n : (zI s61 this 7).toInt = (zI σ0 this 7).toInt := by rw [K65]
  have J66 : zJ s61 rW = zJ σ0 rW := by rw [E62, E52, E43, E33, E23, E13, E3]
  have P67 : zI s61 rP = zI σ0 rP := funext fun k => hT.eI trP (by decide) rfl rfl
  try simp only [K65, J66, P67] at B64
  have f68 := hφ
  try simp only [erW, erP, ix_0, ix_1, ix_2, ix_3, ix_4, ix_5, ix_6, ix_7, ix_8, ix_9, K55, J56, P57, K65, J66, P67] at f68
  refine lv_aload_n hx hb dX6_inverts_55 rfl (lv_at hl 5 rfl) ?_
  refine lv_iload_n hx hb dX6_inverts_56 rfl (lv_at hl 4 rfl) ?_
  refine lv_iconst (v := 4) hx hb dX6_inverts_57 (by decide) ?_
  have hTo := hT
  refine tVl (n := 2) (As := [.int t10, .int 4]) (rest := [.long x60]) hx hb hml hown hg hT hK hX (X6_of l κ s61 this t10 4  (hT.k t_this (by decide)) (by omega) (by omega) (by omega) (by omega)) sub_fE_gW (mwV k1424 k1426 k54 k92 k1427) ⟨rfl, by decide, by decide, by decide +kernel⟩ ⟨(Nat.le_of_ble_eq_true rfl), (Nat.le_of_ble_eq_true rfl)⟩ (hT.o20 (hT.k t_this (by decide))) rfl rfl hl.1 rfl (Nat.le_of_ble_eq_true rfl) dX6_inverts_58 zroom.rf (fun x69 s70 H locs hφ hEs70 hT => ?_)
  have E71 : zJ s70 rW = zJ s61 rW := funext fun k => (hTo.k trW (by decide)).eJ hEs70 (by decide) rfl
  have R72 : RI κ s70 this := R63.ext hEs70 ⟨rfl, rfl, fun _ => rfl, fun _ => rfl, fun _ => rfl, fun _ => rfl⟩
  have B73 := R72.b
  rw [erW] at B73
  have K74 : zI s70 this 7 = zI σ0 this 7 := hT.eI t_this (by decide) rfl rfl
  have K74n : (zI s70 this 7).toInt = (zI σ0 this 7).toInt := by rw [K74]
  have J75 : zJ s70 rW = zJ σ0 rW := by rw [E71, E62, E52, E43, E33, E23, E13, E3]
  have P76 : zI s70 rP = zI σ0 rP := funext fun k => hT.eI trP (by decide) rfl rfl
  try simp only [K74, J75, P76] at B73
  have f77 := hφ
  try simp only [erW, erP, ix_0, ix_1, ix_2, ix_3, ix_4, ix_5, ix_6, ix_7, ix_8, ix_9, K65, J66, P67, K74, J75, P76] at f77
  refine lv_ladd hx hb dX6_inverts_61 ?_
  refine g_addl (by omega) (by omega) (fun t78 ht78 => ?_)
  refine lv_aload_n hx hb dX6_inverts_62 rfl (lv_at hl 5 rfl) ?_
  refine lv_iload_n hx hb dX6_inverts_63 rfl (lv_at hl 4 rfl) ?_
  refine lv_iconst (v := 5) hx hb dX6_inverts_64 (by decide) ?_
  have hTo := hT
  refine tVl (n := 2) (As := [.int t10, .int 5]) (rest := [.long t78]) hx hb hml hown hg hT hK hX (X6_of l κ s70 this t10 5  (hT.k t_this (by decide)) (by omega) (by omega) (by omega) (by omega)) sub_fE_gW (mwV k1424 k1426 k54 k92 k1427) ⟨rfl, by decide, by decide, by decide +kernel⟩ ⟨(Nat.le_of_ble_eq_true rfl), (Nat.le_of_ble_eq_true rfl)⟩ (hT.o20 (hT.k t_this (by decide))) rfl rfl hl.1 rfl (Nat.le_of_ble_eq_true rfl) dX6_inverts_65 zroom.rf (fun x79 s80 H locs hφ hEs80 hT => ?_)
  have E81 : zJ s80 rW = zJ s70 rW := funext fun k => (hTo.k trW (by decide)).eJ hEs80 (by decide) rfl
  have R82 : RI κ s80 this := R72.ext hEs80 ⟨rfl, rfl, fun _ => rfl, fun _ => rfl, fun _ => rfl, fun _ => rfl⟩
  have B83 := R82.b
  rw [erW] at B83
  have K84 : zI s80 this 7 = zI σ0 this 7 := hT.eI t_this (by decide) rfl rfl
  have K84n : (zI s80 this 7).toInt = (zI σ0 this 7).toInt := by rw [K84]
  have J85 : zJ s80 rW = zJ σ0 rW := by rw [E81, E71, E62, E52, E43, E33, E23, E13, E3]
  have P86 : zI s80 rP = zI σ0 rP := funext fun k => hT.eI trP (by decide) rfl rfl
  try simp only [K84, J85, P86] at B83
  have f87 := hφ
  try simp only [erW, erP, ix_0, ix_1, ix_2, ix_3, ix_4, ix_5, ix_6, ix_7, ix_8, ix_9, K74, J75, P76, K84, J85, P86] at f87
  refine lv_lsub hx hb dX6_inverts_68 ?_
  refine g_subl (by omega) (by omega) (fun t88 ht88 => ?_)
  refine lv_lstore (lv' := [(7, .long t88), (5, .long t59), (4, .int t40), (3, .int t30), (2, .int t20), (1, .int t10), (0, .ref this)]) hx hb dX6_inverts_69 hl (by decide) rfl (fun ls hl => ?_)
  clear B5 K6n B15 K16n B25 K26n B35 K36n B45 K46n B54 K55n B64 K65n B73 K74n B83 K84n
  refine lv_lload hx hb dX6_inverts_71 (lv_at hl 1 rfl) ?_
  refine lv_aload_n hx hb dX6_inverts_73 rfl (lv_at hl 6 rfl) ?_
  refine va_get (D := κ.1) (ci := 6) (v := .ref (kR κ this 1)) (C := RX6) (T := TX6) (N := 27) hx hb hg inX6 hown hK (hT.o20 (hT.k t_this (by decide))).one 0 rfl rfl 1 (by decide) (hg _ k1220) (fun _ h9 => h9) rfl dX6_inverts_74 ?_
  rw [erW]
  refine lv_iconst (v := 5) hx hb dX6_inverts_77 (by decide) ?_
  refine lv_iload_n hx hb dX6_inverts_78 rfl (lv_at hl 3 rfl) ?_
  refine lv_iadd hx hb dX6_inverts_79 ?_
  first | refine g_add (by omega) (by omega) (fun t89 ht89 => ?_) | refine lv_topi (fun t89 ht89 => ?_)
  refine va_lald hx hb hK (hT.o21 (hT.k trW (by decide))).one 0 1 rfl rfl (g_in (by omega) (by omega)) dX6_inverts_80 ?_
  refine lv_topl (fun t90 ht90 => ?_)
  refine lv_lmul hx hb dX6_inverts_81 ?_
  refine lv_topl (fun t91 ht91 => ?_)
  refine lv_lload hx hb dX6_inverts_82 (lv_at hl 0 rfl) ?_
  refine lv_aload_n hx hb dX6_inverts_84 rfl (lv_at hl 6 rfl) ?_
  refine va_get (D := κ.1) (ci := 6) (v := .ref (kR κ this 1)) (C := RX6) (T := TX6) (N := 27) hx hb hg inX6 hown hK (hT.o20 (hT.k t_this (by decide))).one 0 rfl rfl 1 (by decide) (hg _ k1220) (fun _ h9 => h9) rfl dX6_inverts_85 ?_
  rw [erW]
  refine lv_iconst (v := 5) hx hb dX6_inverts_88 (by decide) ?_
  refine lv_iload hx hb dX6_inverts_89 (lv_at hl 2 rfl) ?_
  refine lv_iadd hx hb dX6_inverts_91 ?_
  first | refine g_add (by omega) (by omega) (fun t92 ht92 => ?_) | refine lv_topi (fun t92 ht92 => ?_)
  refine va_lald hx hb hK (hT.o21 (hT.k trW (by decide))).one 0 1 rfl rfl (g_in (by omega) (by omega)) dX6_inverts_92 ?_
  refine lv_topl (fun t93 ht93 => ?_)
  refine lv_lmul hx hb dX6_inverts_93 ?_
  refine lv_topl (fun t94 ht94 => ?_)
  refine lv_ladd hx hb dX6_inverts_94 ?_
  refine lv_topl (fun t95 ht95 => ?_)
  refine lv_lstore (lv' := [(9, .long t95), (7, .long t88), (5, .long t59), (4, .int t40), (3, .int t30), (2, .int t20), (1, .int t10), (0, .ref this)]) hx hb dX6_inverts_95 hl (by decide) rfl (fun ls hl => ?_)
  clear ht95 ht94 ht93 ht92 ht91 ht90 ht89
  refine lv_aload_n hx hb dX6_inverts_97 rfl (lv_at hl 7 rfl) ?_
  refine va_get (D := κ.1) (ci := 6) (v := .ref (kR κ this 1)) (C := RX6) (T := TX6) (N := 27) hx hb hg inX6 hown hK (hT.o20 (hT.k t_this (by decide))).one 0 rfl rfl 1 (by decide) (hg _ k1220) (fun _ h9 => h9) rfl dX6_inverts_98 ?_
  rw [erW]
  refine lv_iconst (v := 5) hx hb dX6_inverts_101 (by decide) ?_
  refine lv_iload_n hx hb dX6_inverts_102 rfl (lv_at hl 4 rfl) ?_
  refine lv_iadd hx hb dX6_inverts_103 ?_
  first | refine g_add (by omega) (by omega) (fun t96 ht96 => ?_) | refine lv_topi (fun t96 ht96 => ?_)
  refine lv_dup2_11 hx hb dX6_inverts_104 rfl rfl ?_
  refine va_lald hx hb hK (hT.o21 (hT.k trW (by decide))).one 0 1 rfl rfl (g_in (by omega) (by omega)) dX6_inverts_105 ?_
  refine lv_topl (fun t97 ht97 => ?_)
  refine lv_aload_n hx hb dX6_inverts_106 rfl (lv_at hl 7 rfl) ?_
  refine lv_iload_n hx hb dX6_inverts_107 rfl (lv_at hl 6 rfl) ?_
  refine lv_lload hx hb dX6_inverts_108 (lv_at hl 2 rfl) ?_
  refine lv_lload hx hb dX6_inverts_110 (lv_at hl 1 rfl) ?_
  have hTo := hT
  refine tVl (n := 3) (As := [.int t10, .long t59, .long t88]) (rest := [.long t97, .int t96, .ref rW]) hx hb hml hown hg hT hK hX (X6_gets l κ s80 this t10 t59 t88  (hT.k t_this (by decide)) (by omega) (by omega) (by omega) (by omega) (by omega) (by omega) (by omega)) sub_fE_gW (mwV k1604 k1606 k75 k92 k1607) ⟨rfl, by decide, by decide, by decide +kernel⟩ ⟨(Nat.le_of_ble_eq_true rfl), (Nat.le_of_ble_eq_true rfl)⟩ (hT.o20 (hT.k t_this (by decide))) rfl rfl hl.1 rfl (Nat.le_of_ble_eq_true rfl) dX6_inverts_112 zroom.rf (fun x98 s99 H locs hφ hEs99 hT => ?_)
  have E100 : zJ s99 rW = zJ s80 rW := funext fun k => (hTo.k trW (by decide)).eJ hEs99 (by decide) rfl
  have R101 : RI κ s99 this := R82.ext hEs99 ⟨rfl, rfl, fun _ => rfl, fun _ => rfl, fun _ => rfl, fun _ => rfl⟩
  have B102 := R101.b
  rw [erW] at B102
  have K103 : zI s99 this 7 = zI σ0 this 7 := hT.eI t_this (by decide) rfl rfl
  have K103n : (zI s99 this 7).toInt = (zI σ0 this 7).toInt := by rw [K103]
  have J104 : zJ s99 rW = zJ σ0 rW := by rw [E100, E81, E71, E62, E52, E43, E33, E23, E13, E3]
  have P105 : zI s99 rP = zI σ0 rP := funext fun k => hT.eI trP (by decide) rfl rfl
  try simp only [K103, J104, P105] at B102
  refine lv_lsub hx hb dX6_inverts_115 ?_
  refine lv_topl (fun t106 ht106 => ?_)
  have hTo := hT
  refine tastlx (n := 609) hx hb hK hT (hT.k trW (by decide)) ⟨by decide, by decide⟩ (fun _ _ _ => rfl) (fun _ _ => trivial) (by omega) (by omega) (ge3_gW _ (by unfold ix; omega)) dX6_inverts_116 (fun H locs s107 hus107 hT => ?_)
  have E108 : zJ s107 rW = vp_updL (zJ s99 rW) (5 + ix t30) t106 := by rw [zpul_Ja hus107]; exact congrArg (fun q9 => vp_updL (zJ s99 rW) q9 t106) (show ix t96 = 5 + ix t30 from by unfold ix; omega)
  refine lv_aload_n hx hb dX6_inverts_117 rfl (lv_at hl 7 rfl) ?_
  refine va_get (D := κ.1) (ci := 6) (v := .ref (kR κ this 1)) (C := RX6) (T := TX6) (N := 27) hx hb hg inX6 hown hK (hT.o20 (hT.k t_this (by decide))).one 0 rfl rfl 1 (by decide) (hg _ k1220) (fun _ h9 => h9) rfl dX6_inverts_118 ?_
  rw [erW]
  refine lv_iconst (v := 5) hx hb dX6_inverts_121 (by decide) ?_
  refine lv_iload hx hb dX6_inverts_122 (lv_at hl 3 rfl) ?_
  refine lv_iadd hx hb dX6_inverts_124 ?_
  first | refine g_add (by omega) (by omega) (fun t110 ht110 => ?_) | refine lv_topi (fun t110 ht110 => ?_)
  refine lv_dup2_11 hx hb dX6_inverts_125 rfl rfl ?_
  refine va_lald hx hb hK (hT.o21 (hT.k trW (by decide))).one 0 1 rfl rfl (g_in (by omega) (by omega)) dX6_inverts_126 ?_
  refine lv_topl (fun t111 ht111 => ?_)
  refine lv_aload_n hx hb dX6_inverts_127 rfl (lv_at hl 7 rfl) ?_
  refine lv_iload_n hx hb dX6_inverts_128 rfl (lv_at hl 6 rfl) ?_
  refine lv_lload hx hb dX6_inverts_129 (lv_at hl 1 rfl) ?_
  refine lv_lload hx hb dX6_inverts_131 (lv_at hl 2 rfl) ?_
  have hTo := hT
  refine tVl (n := 3) (As := [.int t10, .long t88, .long t59]) (rest := [.long t111, .int t110, .ref rW]) hx hb hml hown hg hT hK hX (X6_gets l κ s107 this t10 t88 t59  (hT.k t_this (by decide)) (by omega) (by omega) (by omega) (by omega) (by omega) (by omega) (by omega)) sub_fE_gW (mwV k1604 k1606 k75 k92 k1607) ⟨rfl, by decide, by decide, by decide +kernel⟩ ⟨(Nat.le_of_ble_eq_true rfl), (Nat.le_of_ble_eq_true rfl)⟩ (hT.o20 (hT.k t_this (by decide))) rfl rfl hl.1 rfl (Nat.le_of_ble_eq_true rfl) dX6_inverts_133 zroom.rf (fun x112 s113 H locs hφ hEs113 hT => ?_)
  have E114 : zJ s113 rW = zJ s107 rW := funext fun k => (hTo.k trW (by decide)).eJ hEs113 (by decide) rfl
  refine lv_lsub hx hb dX6_inverts_136 ?_
  refine lv_topl (fun t115 ht115 => ?_)
  have hTo := hT
  refine tastlx (n := 609) hx hb hK hT (hT.k trW (by decide)) ⟨by decide, by decide⟩ (fun _ _ _ => rfl) (fun _ _ => trivial) (by omega) (by omega) (ge3_gW _ (by unfold ix; omega)) dX6_inverts_137 (fun H locs s116 hus116 hT => ?_)
  have E117 : zJ s116 rW = vp_updL (zJ s113 rW) (5 + ix t40) t115 := by rw [zpul_Ja hus116]; exact congrArg (fun q9 => vp_updL (zJ s113 rW) q9 t115) (show ix t110 = 5 + ix t40 from by unfold ix; omega)
  refine lv_aload_n hx hb dX6_inverts_138 rfl (lv_at hl 7 rfl) ?_
  refine va_get (D := κ.1) (ci := 6) (v := .ref (kR κ this 1)) (C := RX6) (T := TX6) (N := 27) hx hb hg inX6 hown hK (hT.o20 (hT.k t_this (by decide))).one 0 rfl rfl 1 (by decide) (hg _ k1220) (fun _ h9 => h9) rfl dX6_inverts_139 ?_
  rw [erW]
  refine lv_bipush (v := 53) hx hb dX6_inverts_142 (by decide) ?_
  refine lv_iload_n hx hb dX6_inverts_144 rfl (lv_at hl 4 rfl) ?_
  refine lv_iadd hx hb dX6_inverts_145 ?_
  first | refine g_add (by omega) (by omega) (fun t118 ht118 => ?_) | refine lv_topi (fun t118 ht118 => ?_)
  refine lv_aload_n hx hb dX6_inverts_146 rfl (lv_at hl 7 rfl) ?_
  refine lv_iload_n hx hb dX6_inverts_147 rfl (lv_at hl 6 rfl) ?_
  refine lv_bipush (v := 6) hx hb dX6_inverts_148 (by decide) ?_
  have hTo := hT
  refine tVl (n := 2) (As := [.int t10, .int 6]) (rest := [.int t118, .ref rW]) hx hb hml hown hg hT hK hX (X6_of l κ s116 this t10 6  (hT.k t_this (by decide)) (by omega) (by omega) (by omega) (by omega)) sub_fE_gW (mwV k1424 k1426 k54 k92 k1427) ⟨rfl, by decide, by decide, by decide +kernel⟩ ⟨(Nat.le_of_ble_eq_true rfl), (Nat.le_of_ble_eq_true rfl)⟩ (hT.o20 (hT.k t_this (by decide))) rfl rfl hl.1 rfl (Nat.le_of_ble_eq_true rfl) dX6_inverts_150 zroom.rf (fun x119 s120 H locs hφ hEs120 hT => ?_)
  have E121 : zJ s120 rW = zJ s116 rW := funext fun k => (hTo.k trW (by decide)).eJ hEs120 (by decide) rfl
  have f122 := hφ
  try simp only [erW, erP, ix_0, ix_1, ix_2, ix_3, ix_4, ix_5, ix_6, ix_7, ix_8, ix_9] at f122
  have yx119 : x119.toInt = rst (zJ σ0 rW) (ix t10) 6 := by rw [f122]; show (zJ s116 rW (149 + 10 * ix t10 + 6)).toInt = _; rw [E117, un (show 149 + 10 * ix t10 + 6 ≠ 5 + ix t40 from by omega), E114, E108, un (show 149 + 10 * ix t10 + 6 ≠ 5 + ix t30 from by omega), E100, E81, E71, E62, E52, E43, E33, E23, E13, E3]; rfl
  have hTo := hT
  refine tastlx (n := 609) hx hb hK hT (hT.k trW (by decide)) ⟨by decide, by decide⟩ (fun _ _ _ => rfl) (fun _ _ => trivial) (by omega) (by omega) (ge3_gW _ (by unfold ix; omega)) dX6_inverts_153 (fun H locs s123 hus123 hT => ?_)
  have E124 : zJ s123 rW = vp_updL (zJ s120 rW) (53 + ix t30) x119 := by rw [zpul_Ja hus123]; exact congrArg (fun q9 => vp_updL (zJ s120 rW) q9 x119) (show ix t118 = 53 + ix t30 from by unfold ix; omega)
  refine lv_aload_n hx hb dX6_inverts_154 rfl (lv_at hl 7 rfl) ?_
  refine va_get (D := κ.1) (ci := 6) (v := .ref (kR κ this 1)) (C := RX6) (T := TX6) (N := 27) hx hb hg inX6 hown hK (hT.o20 (hT.k t_this (by decide))).one 0 rfl rfl 1 (by decide) (hg _ k1220) (fun _ h9 => h9) rfl dX6_inverts_155 ?_
  rw [erW]
  refine lv_bipush (v := 53) hx hb dX6_inverts_158 (by decide) ?_
  refine lv_iload hx hb dX6_inverts_160 (lv_at hl 3 rfl) ?_
  refine lv_iadd hx hb dX6_inverts_162 ?_
  first | refine g_add (by omega) (by omega) (fun t125 ht125 => ?_) | refine lv_topi (fun t125 ht125 => ?_)
  refine lv_aload_n hx hb dX6_inverts_163 rfl (lv_at hl 7 rfl) ?_
  refine lv_iload_n hx hb dX6_inverts_164 rfl (lv_at hl 6 rfl) ?_
  refine lv_bipush (v := 7) hx hb dX6_inverts_165 (by decide) ?_
  have hTo := hT
  refine tVl (n := 2) (As := [.int t10, .int 7]) (rest := [.int t125, .ref rW]) hx hb hml hown hg hT hK hX (X6_of l κ s123 this t10 7  (hT.k t_this (by decide)) (by omega) (by omega) (by omega) (by omega)) sub_fE_gW (mwV k1424 k1426 k54 k92 k1427) ⟨rfl, by decide, by decide, by decide +kernel⟩ ⟨(Nat.le_of_ble_eq_true rfl), (Nat.le_of_ble_eq_true rfl)⟩ (hT.o20 (hT.k t_this (by decide))) rfl rfl hl.1 rfl (Nat.le_of_ble_eq_true rfl) dX6_inverts_167 zroom.rf (fun x126 s127 H locs hφ hEs127 hT => ?_)
  have E128 : zJ s127 rW = zJ s123 rW := funext fun k => (hTo.k trW (by decide)).eJ hEs127 (by decide) rfl
  have f129 := hφ
  try simp only [erW, erP, ix_0, ix_1, ix_2, ix_3, ix_4, ix_5, ix_6, ix_7, ix_8, ix_9] at f129
  have yx126 : x126.toInt = rst (zJ σ0 rW) (ix t10) 7 := by rw [f129]; show (zJ s123 rW (149 + 10 * ix t10 + 7)).toInt = _; rw [E124, un (show 149 + 10 * ix t10 + 7 ≠ 53 + ix t30 from by omega), E121, E117, un (show 149 + 10 * ix t10 + 7 ≠ 5 + ix t40 from by omega), E114, E108, un (show 149 + 10 * ix t10 + 7 ≠ 5 + ix t30 from by omega), E100, E81, E71, E62, E52, E43, E33, E23, E13, E3]; rfl
  have hTo := hT
  refine tastlx (n := 609) hx hb hK hT (hT.k trW (by decide)) ⟨by decide, by decide⟩ (fun _ _ _ => rfl) (fun _ _ => trivial) (by omega) (by omega) (ge3_gW _ (by unfold ix; omega)) dX6_inverts_170 (fun H locs s130 hus130 hT => ?_)
  have E131 : zJ s130 rW = vp_updL (zJ s127 rW) (53 + ix t40) x126 := by rw [zpul_Ja hus130]; exact congrArg (fun q9 => vp_updL (zJ s127 rW) q9 x126) (show ix t125 = 53 + ix t40 from by unfold ix; omega)
  refine lv_aload_n hx hb dX6_inverts_171 rfl (lv_at hl 7 rfl) ?_
  refine va_get (D := κ.1) (ci := 6) (v := .ref (kR κ this 1)) (C := RX6) (T := TX6) (N := 27) hx hb hg inX6 hown hK (hT.o20 (hT.k t_this (by decide))).one 0 rfl rfl 1 (by decide) (hg _ k1220) (fun _ h9 => h9) rfl dX6_inverts_172 ?_
  rw [erW]
  refine lv_bipush (v := 53) hx hb dX6_inverts_175 (by decide) ?_
  refine lv_iload_n hx hb dX6_inverts_177 rfl (lv_at hl 5 rfl) ?_
  refine lv_iadd hx hb dX6_inverts_178 ?_
  first | refine g_add (by omega) (by omega) (fun t132 ht132 => ?_) | refine lv_topi (fun t132 ht132 => ?_)
  refine lv_aload_n hx hb dX6_inverts_179 rfl (lv_at hl 7 rfl) ?_
  refine lv_iload_n hx hb dX6_inverts_180 rfl (lv_at hl 6 rfl) ?_
  refine lv_iconst (v := 4) hx hb dX6_inverts_181 (by decide) ?_
  have hTo := hT
  refine tVl (n := 2) (As := [.int t10, .int 4]) (rest := [.int t132, .ref rW]) hx hb hml hown hg hT hK hX (X6_of l κ s130 this t10 4  (hT.k t_this (by decide)) (by omega) (by omega) (by omega) (by omega)) sub_fE_gW (mwV k1424 k1426 k54 k92 k1427) ⟨rfl, by decide, by decide, by decide +kernel⟩ ⟨(Nat.le_of_ble_eq_true rfl), (Nat.le_of_ble_eq_true rfl)⟩ (hT.o20 (hT.k t_this (by decide))) rfl rfl hl.1 rfl (Nat.le_of_ble_eq_true rfl) dX6_inverts_182 zroom.rf (fun x133 s134 H locs hφ hEs134 hT => ?_)
  have E135 : zJ s134 rW = zJ s130 rW := funext fun k => (hTo.k trW (by decide)).eJ hEs134 (by decide) rfl
  have f136 := hφ
  try simp only [erW, erP, ix_0, ix_1, ix_2, ix_3, ix_4, ix_5, ix_6, ix_7, ix_8, ix_9] at f136
  have yx133 : x133.toInt = rst (zJ σ0 rW) (ix t10) 4 := by rw [f136]; show (zJ s130 rW (149 + 10 * ix t10 + 4)).toInt = _; rw [E131, un (show 149 + 10 * ix t10 + 4 ≠ 53 + ix t40 from by omega), E128, E124, un (show 149 + 10 * ix t10 + 4 ≠ 53 + ix t30 from by omega), E121, E117, un (show 149 + 10 * ix t10 + 4 ≠ 5 + ix t40 from by omega), E114, E108, un (show 149 + 10 * ix t10 + 4 ≠ 5 + ix t30 from by omega), E100, E81, E71, E62, E52, E43, E33, E23, E13, E3]; rfl
  have hTo := hT
  refine tastlx (n := 609) hx hb hK hT (hT.k trW (by decide)) ⟨by decide, by decide⟩ (fun _ _ _ => rfl) (fun _ _ => trivial) (by omega) (by omega) (ge3_gW _ (by unfold ix; omega)) dX6_inverts_185 (fun H locs s137 hus137 hT => ?_)
  have E138 : zJ s137 rW = vp_updL (zJ s134 rW) (53 + ix t20) x133 := by rw [zpul_Ja hus137]; exact congrArg (fun q9 => vp_updL (zJ s134 rW) q9 x133) (show ix t132 = 53 + ix t20 from by unfold ix; omega)
  refine lv_aload_n hx hb dX6_inverts_186 rfl (lv_at hl 7 rfl) ?_
  refine va_get (D := κ.1) (ci := 6) (v := .ref (kR κ this 1)) (C := RX6) (T := TX6) (N := 27) hx hb hg inX6 hown hK (hT.o20 (hT.k t_this (by decide))).one 0 rfl rfl 1 (by decide) (hg _ k1220) (fun _ h9 => h9) rfl dX6_inverts_187 ?_
  rw [erW]
  refine lv_iconst (v := 5) hx hb dX6_inverts_190 (by decide) ?_
  refine lv_iload_n hx hb dX6_inverts_191 rfl (lv_at hl 5 rfl) ?_
  refine lv_iadd hx hb dX6_inverts_192 ?_
  first | refine g_add (by omega) (by omega) (fun t139 ht139 => ?_) | refine lv_topi (fun t139 ht139 => ?_)
  refine lv_aload_n hx hb dX6_inverts_193 rfl (lv_at hl 7 rfl) ?_
  refine lv_iload_n hx hb dX6_inverts_194 rfl (lv_at hl 5 rfl) ?_
  refine lv_iload_n hx hb dX6_inverts_195 rfl (lv_at hl 4 rfl) ?_
  refine lv_iload hx hb dX6_inverts_196 (lv_at hl 3 rfl) ?_
  refine lv_aload_n hx hb dX6_inverts_198 rfl (lv_at hl 7 rfl) ?_
  refine lv_iload_n hx hb dX6_inverts_199 rfl (lv_at hl 6 rfl) ?_
  refine lv_bipush (v := 8) hx hb dX6_inverts_200 (by decide) ?_
  have hTo := hT
  refine tVl (n := 2) (As := [.int t10, .int 8]) (rest := [.int t40, .int t30, .int t20, .ref this, .int t139, .ref rW]) hx hb hml hown hg hT hK hX (X6_of l κ s137 this t10 8  (hT.k t_this (by decide)) (by omega) (by omega) (by omega) (by omega)) sub_fE_gW (mwV k1424 k1426 k54 k92 k1427) ⟨rfl, by decide, by decide, by decide +kernel⟩ ⟨(Nat.le_of_ble_eq_true rfl), (Nat.le_of_ble_eq_true rfl)⟩ (hT.o20 (hT.k t_this (by decide))) rfl rfl hl.1 rfl (Nat.le_of_ble_eq_true rfl) dX6_inverts_202 zroom.rf (fun x140 s141 H locs hφ hEs141 hT => ?_)
  have E142 : zJ s141 rW = zJ s137 rW := funext fun k => (hTo.k trW (by decide)).eJ hEs141 (by decide) rfl
  have f143 := hφ
  try simp only [erW, erP, ix_0, ix_1, ix_2, ix_3, ix_4, ix_5, ix_6, ix_7, ix_8, ix_9] at f143
  refine lv_l2i hx hb dX6_inverts_205 rfl ?_
  first | refine g_l2i (by omega) (by omega) (fun t144 ht144 => ?_) | refine lv_topi (fun t144 ht144 => ?_)
  have hTo := hT
  refine tVl (n := 4) (As := [.int t20, .int t30, .int t40, .int t144]) (rest := [.int t139, .ref rW]) hx hb hml hown hg hT hK hX (X6_predictedK l κ s141 this t20 t30 t40 t144  (hT.k t_this (by decide)) (PLe hPL0 t_this h0.1.2.2.2.2 hT.2.2.1 rfl (fun _ => rfl)) (by omega) (by omega) (by omega) (by rw [show zI s141 this 7 = zI σ0 this 7 from hT.eI t_this (by decide) rfl rfl]; omega) (by rw [show zI s141 this 7 = zI σ0 this 7 from hT.eI t_this (by decide) rfl rfl]; omega)) sub_fE_gW (mwV k1539 k1541 k67 k92 k1542) ⟨rfl, by decide, by decide, by decide +kernel⟩ ⟨(Nat.le_of_ble_eq_true rfl), (Nat.le_of_ble_eq_true rfl)⟩ (hT.o20 (hT.k t_this (by decide))) rfl rfl hl.1 rfl (Nat.le_of_ble_eq_true rfl) dX6_inverts_206 zroom.rf (fun x145 s146 H locs hφ hEs146 hT => ?_)
  have E147 : zJ s146 rW = zJ s141 rW := funext fun k => (hTo.k trW (by decide)).eJ hEs146 (by decide) rfl
  refine lv_aload_n hx hb dX6_inverts_209 rfl (lv_at hl 7 rfl) ?_
  refine lv_iload_n hx hb dX6_inverts_210 rfl (lv_at hl 6 rfl) ?_
  refine lv_iconst (v := 3) hx hb dX6_inverts_211 (by decide) ?_
  have hTo := hT
  refine tVl (n := 2) (As := [.int t10, .int 3]) (rest := [.long x145, .int t139, .ref rW]) hx hb hml hown hg hT hK hX (X6_of l κ s146 this t10 3  (hT.k t_this (by decide)) (by omega) (by omega) (by omega) (by omega)) sub_fE_gW (mwV k1424 k1426 k54 k92 k1427) ⟨rfl, by decide, by decide, by decide +kernel⟩ ⟨(Nat.le_of_ble_eq_true rfl), (Nat.le_of_ble_eq_true rfl)⟩ (hT.o20 (hT.k t_this (by decide))) rfl rfl hl.1 rfl (Nat.le_of_ble_eq_true rfl) dX6_inverts_212 zroom.rf (fun x148 s149 H locs hφ hEs149 hT => ?_)
  have E150 : zJ s149 rW = zJ s146 rW := funext fun k => (hTo.k trW (by decide)).eJ hEs149 (by decide) rfl
  have f151 := hφ
  try simp only [erW, erP, ix_0, ix_1, ix_2, ix_3, ix_4, ix_5, ix_6, ix_7, ix_8, ix_9] at f151
  refine lv_ladd hx hb dX6_inverts_215 ?_
  refine lv_topl (fun t152 ht152 => ?_)
  have hTo := hT
  refine tastlx (n := 609) hx hb hK hT (hT.k trW (by decide)) ⟨by decide, by decide⟩ (fun _ _ _ => rfl) (fun _ _ => trivial) (by omega) (by omega) (ge3_gW _ (by unfold ix; omega)) dX6_inverts_216 (fun H locs s153 hus153 hT => ?_)
  have E154 : zJ s153 rW = vp_updL (zJ s149 rW) (5 + ix t20) t152 := by rw [zpul_Ja hus153]; exact congrArg (fun q9 => vp_updL (zJ s149 rW) q9 t152) (show ix t139 = 5 + ix t20 from by unfold ix; omega)
  refine lv_aload_n hx hb dX6_inverts_217 rfl (lv_at hl 7 rfl) ?_
  refine va_get (D := κ.1) (ci := 6) (v := .ref (kR κ this 1)) (C := RX6) (T := TX6) (N := 27) hx hb hg inX6 hown hK (hT.o20 (hT.k t_this (by decide))).one 0 rfl rfl 1 (by decide) (hg _ k1220) (fun _ h9 => h9) rfl dX6_inverts_218 ?_
  rw [erW]
  refine lv_bipush (v := 101) hx hb dX6_inverts_221 (by decide) ?_
  refine lv_iload_n hx hb dX6_inverts_223 rfl (lv_at hl 5 rfl) ?_
  refine lv_iadd hx hb dX6_inverts_224 ?_
  first | refine g_add (by omega) (by omega) (fun t155 ht155 => ?_) | refine lv_topi (fun t155 ht155 => ?_)
  refine lv_ldc2 hx hb hown (hg _ k1218) dX6_inverts_225 ?_
  have hTo := hT
  refine tastlx (n := 609) hx hb hK hT (hT.k trW (by decide)) ⟨by decide, by decide⟩ (fun _ _ _ => rfl) (fun _ _ => trivial) (by omega) (by omega) (ge3_gW _ (by unfold ix; omega)) dX6_inverts_228 (fun H locs s156 hus156 hT => ?_)
  have E157 : zJ s156 rW = vp_updL (zJ s153 rW) (101 + ix t20) (-1) := by rw [zpul_Ja hus156]; exact congrArg (fun q9 => vp_updL (zJ s153 rW) q9 (-1)) (show ix t155 = 101 + ix t20 from by unfold ix; omega)
  refine lv_aload_n hx hb dX6_inverts_229 rfl (lv_at hl 7 rfl) ?_
  refine va_get (D := κ.1) (ci := 6) (v := .ref (kR κ this 1)) (C := RX6) (T := TX6) (N := 27) hx hb hg inX6 hown hK (hT.o20 (hT.k t_this (by decide))).one 0 rfl rfl 1 (by decide) (hg _ k1220) (fun _ h9 => h9) rfl dX6_inverts_230 ?_
  rw [erW]
  refine lv_iconst (v := 4) hx hb dX6_inverts_233 (by decide) ?_
  refine lv_dup2_11 hx hb dX6_inverts_234 rfl rfl ?_
  refine va_lald hx hb hK (hT.o21 (hT.k trW (by decide))).one 0 1 rfl rfl (g_in (by omega) (by omega)) dX6_inverts_235 ?_
  refine lv_topl (fun t158 ht158 => ?_)
  have xt158 : (zJ s156 rW 4).toInt = t158.toInt := by rw [ht158]; exact congrArg (fun q9 => (zJ s156 rW q9).toInt) (show 4 = ix 4 from by decide)
  have yt158 : t158.toInt = (zJ σ0 rW 4).toInt := by rw [← xt158]; show (zJ s156 rW (4)).toInt = _; rw [E157, un d4_101, E154, un d4_5, E150, E147, E142, E138, un d4_53, E135, E131, un d4_53, E128, E124, un d4_53, E121, E117, un d4_5, E114, E108, un d4_5, E100, E81, E71, E62, E52, E43, E33, E23, E13, E3]
  refine lv_lconst (v := 1) hx hb dX6_inverts_236 (by decide) ?_
  refine lv_lsub hx hb dX6_inverts_237 ?_
  refine g_subl (by omega) (by omega) (fun t159 ht159 => ?_)
  have hTo := hT
  refine tastlx (n := 609) hx hb hK hT (hT.k trW (by decide)) ⟨by decide, by decide⟩ (fun _ _ _ => rfl) (fun _ _ => trivial) (by omega) (by omega) (ge3_gW _ (by unfold ix; omega)) dX6_inverts_238 (fun H locs s160 hus160 hT => ?_)
  have E161 : zJ s160 rW = vp_updL (zJ s156 rW) (4) t159 := by rw [zpul_Ja hus160]; exact congrArg (fun q9 => vp_updL (zJ s156 rW) q9 t159) (show ix 4 = 4 from by decide)
  refine lv_aload_n hx hb dX6_inverts_239 rfl (lv_at hl 7 rfl) ?_
  refine va_get (D := κ.1) (ci := 6) (v := .ref (kR κ this 1)) (C := RX6) (T := TX6) (N := 27) hx hb hg inX6 hown hK (hT.o20 (hT.k t_this (by decide))).one 0 rfl rfl 1 (by decide) (hg _ k1220) (fun _ h9 => h9) rfl dX6_inverts_240 ?_
  rw [erW]
  refine lv_iconst (v := 3) hx hb dX6_inverts_243 (by decide) ?_
  refine lv_dup2_11 hx hb dX6_inverts_244 rfl rfl ?_
  refine va_lald hx hb hK (hT.o21 (hT.k trW (by decide))).one 0 1 rfl rfl (g_in (by omega) (by omega)) dX6_inverts_245 ?_
  refine lv_topl (fun t162 ht162 => ?_)
  have xt162 : (zJ s160 rW 3).toInt = t162.toInt := by rw [ht162]; exact congrArg (fun q9 => (zJ s160 rW q9).toInt) (show 3 = ix 3 from by decide)
  have yt162 : t162.toInt = (zJ σ0 rW 3).toInt := by rw [← xt162]; show (zJ s160 rW (3)).toInt = _; rw [E161, un (show 3 ≠ 4 from by omega), E157, un (show 3 ≠ 101 + ix t20 from by omega), E154, un (show 3 ≠ 5 + ix t20 from by omega), E150, E147, E142, E138, un (show 3 ≠ 53 + ix t20 from by omega), E135, E131, un (show 3 ≠ 53 + ix t40 from by omega), E128, E124, un (show 3 ≠ 53 + ix t30 from by omega), E121, E117, un (show 3 ≠ 5 + ix t40 from by omega), E114, E108, un (show 3 ≠ 5 + ix t30 from by omega), E100, E81, E71, E62, E52, E43, E33, E23, E13, E3]
  refine lv_aload_n hx hb dX6_inverts_246 rfl (lv_at hl 7 rfl) ?_
  refine va_get (D := κ.1) (ci := 6) (v := .ref (kR κ this 1)) (C := RX6) (T := TX6) (N := 27) hx hb hg inX6 hown hK (hT.o20 (hT.k t_this (by decide))).one 0 rfl rfl 1 (by decide) (hg _ k1220) (fun _ h9 => h9) rfl dX6_inverts_247 ?_
  rw [erW]
  refine lv_bipush (v := 53) hx hb dX6_inverts_250 (by decide) ?_
  refine lv_iload_n hx hb dX6_inverts_252 rfl (lv_at hl 4 rfl) ?_
  refine lv_iadd hx hb dX6_inverts_253 ?_
  first | refine g_add (by omega) (by omega) (fun t163 ht163 => ?_) | refine lv_topi (fun t163 ht163 => ?_)
  refine va_lald hx hb hK (hT.o21 (hT.k trW (by decide))).one 0 1 rfl rfl (g_in (by omega) (by omega)) dX6_inverts_254 ?_
  refine lv_topl (fun t164 ht164 => ?_)
  refine lv_aload_n hx hb dX6_inverts_255 rfl (lv_at hl 7 rfl) ?_
  refine va_get (D := κ.1) (ci := 6) (v := .ref (kR κ this 1)) (C := RX6) (T := TX6) (N := 27) hx hb hg inX6 hown hK (hT.o20 (hT.k t_this (by decide))).one 0 rfl rfl 1 (by decide) (hg _ k1220) (fun _ h9 => h9) rfl dX6_inverts_256 ?_
  rw [erW]
  refine lv_iconst (v := 5) hx hb dX6_inverts_259 (by decide) ?_
  refine lv_iload_n hx hb dX6_inverts_260 rfl (lv_at hl 4 rfl) ?_
  refine lv_iadd hx hb dX6_inverts_261 ?_
  first | refine g_add (by omega) (by omega) (fun t165 ht165 => ?_) | refine lv_topi (fun t165 ht165 => ?_)
  refine va_lald hx hb hK (hT.o21 (hT.k trW (by decide))).one 0 1 rfl rfl (g_in (by omega) (by omega)) dX6_inverts_262 ?_
  refine lv_topl (fun t166 ht166 => ?_)
  refine lv_lmul hx hb dX6_inverts_263 ?_
  refine lv_topl (fun t167 ht167 => ?_)
  refine lv_aload_n hx hb dX6_inverts_264 rfl (lv_at hl 7 rfl) ?_
  refine va_get (D := κ.1) (ci := 6) (v := .ref (kR κ this 1)) (C := RX6) (T := TX6) (N := 27) hx hb hg inX6 hown hK (hT.o20 (hT.k t_this (by decide))).one 0 rfl rfl 1 (by decide) (hg _ k1220) (fun _ h9 => h9) rfl dX6_inverts_265 ?_
  rw [erW]
  refine lv_bipush (v := 53) hx hb dX6_inverts_268 (by decide) ?_
  refine lv_iload hx hb dX6_inverts_270 (lv_at hl 3 rfl) ?_
  refine lv_iadd hx hb dX6_inverts_272 ?_
  first | refine g_add (by omega) (by omega) (fun t168 ht168 => ?_) | refine lv_topi (fun t168 ht168 => ?_)
  refine va_lald hx hb hK (hT.o21 (hT.k trW (by decide))).one 0 1 rfl rfl (g_in (by omega) (by omega)) dX6_inverts_273 ?_
  refine lv_topl (fun t169 ht169 => ?_)
  refine lv_aload_n hx hb dX6_inverts_274 rfl (lv_at hl 7 rfl) ?_
  refine va_get (D := κ.1) (ci := 6) (v := .ref (kR κ this 1)) (C := RX6) (T := TX6) (N := 27) hx hb hg inX6 hown hK (hT.o20 (hT.k t_this (by decide))).one 0 rfl rfl 1 (by decide) (hg _ k1220) (fun _ h9 => h9) rfl dX6_inverts_275 ?_
  rw [erW]
  refine lv_iconst (v := 5) hx hb dX6_inverts_278 (by decide) ?_
  refine lv_iload hx hb dX6_inverts_279 (lv_at hl 3 rfl) ?_
  refine lv_iadd hx hb dX6_inverts_281 ?_
  first | refine g_add (by omega) (by omega) (fun t170 ht170 => ?_) | refine lv_topi (fun t170 ht170 => ?_)
  refine va_lald hx hb hK (hT.o21 (hT.k trW (by decide))).one 0 1 rfl rfl (g_in (by omega) (by omega)) dX6_inverts_282 ?_
  refine lv_topl (fun t171 ht171 => ?_)
  refine lv_lmul hx hb dX6_inverts_283 ?_
  refine lv_topl (fun t172 ht172 => ?_)
  refine lv_ladd hx hb dX6_inverts_284 ?_
  refine lv_topl (fun t173 ht173 => ?_)
  refine lv_aload_n hx hb dX6_inverts_285 rfl (lv_at hl 7 rfl) ?_
  refine va_get (D := κ.1) (ci := 6) (v := .ref (kR κ this 1)) (C := RX6) (T := TX6) (N := 27) hx hb hg inX6 hown hK (hT.o20 (hT.k t_this (by decide))).one 0 rfl rfl 1 (by decide) (hg _ k1220) (fun _ h9 => h9) rfl dX6_inverts_286 ?_
  rw [erW]
  refine lv_bipush (v := 53) hx hb dX6_inverts_289 (by decide) ?_
  refine lv_iload_n hx hb dX6_inverts_291 rfl (lv_at hl 5 rfl) ?_
  refine lv_iadd hx hb dX6_inverts_292 ?_
  first | refine g_add (by omega) (by omega) (fun t174 ht174 => ?_) | refine lv_topi (fun t174 ht174 => ?_)
  refine va_lald hx hb hK (hT.o21 (hT.k trW (by decide))).one 0 1 rfl rfl (g_in (by omega) (by omega)) dX6_inverts_293 ?_
  refine lv_topl (fun t175 ht175 => ?_)
  refine lv_aload_n hx hb dX6_inverts_294 rfl (lv_at hl 7 rfl) ?_
  refine va_get (D := κ.1) (ci := 6) (v := .ref (kR κ this 1)) (C := RX6) (T := TX6) (N := 27) hx hb hg inX6 hown hK (hT.o20 (hT.k t_this (by decide))).one 0 rfl rfl 1 (by decide) (hg _ k1220) (fun _ h9 => h9) rfl dX6_inverts_295 ?_
  rw [erW]
  refine lv_iconst (v := 5) hx hb dX6_inverts_298 (by decide) ?_
  refine lv_iload_n hx hb dX6_inverts_299 rfl (lv_at hl 5 rfl) ?_
  refine lv_iadd hx hb dX6_inverts_300 ?_
  first | refine g_add (by omega) (by omega) (fun t176 ht176 => ?_) | refine lv_topi (fun t176 ht176 => ?_)
  refine va_lald hx hb hK (hT.o21 (hT.k trW (by decide))).one 0 1 rfl rfl (g_in (by omega) (by omega)) dX6_inverts_301 ?_
  refine lv_topl (fun t177 ht177 => ?_)
  refine lv_lmul hx hb dX6_inverts_302 ?_
  refine lv_topl (fun t178 ht178 => ?_)
  refine lv_ladd hx hb dX6_inverts_303 ?_
  refine lv_topl (fun t179 ht179 => ?_)
  refine lv_lload hx hb dX6_inverts_304 (lv_at hl 0 rfl) ?_
  refine lv_lsub hx hb dX6_inverts_306 ?_
  refine lv_topl (fun t180 ht180 => ?_)
  refine lv_lsub hx hb dX6_inverts_307 ?_
  refine lv_topl (fun t181 ht181 => ?_)
  have hTo := hT
  refine tastlx (n := 609) hx hb hK hT (hT.k trW (by decide)) ⟨by decide, by decide⟩ (fun _ _ _ => rfl) (fun _ _ => trivial) (by omega) (by omega) (ge3_gW _ (by unfold ix; omega)) dX6_inverts_308 (fun H locs s182 hus182 hT => ?_)
  have E183 : zJ s182 rW = vp_updL (zJ s160 rW) (3) t181 := by rw [zpul_Ja hus182]; exact congrArg (fun q9 => vp_updL (zJ s160 rW) q9 t181) (show ix 3 = 3 from by decide)
  have WL : WI (rN σ0 this) (zJ s182 rW) := hW.invertedE (n := ix t10) (k := ix t20) (p := ix t30) (q := ix t40) (v1 := t106) (v2 := t115) (v3 := x119) (v4 := x126) (v5 := x133) (v6 := t152) (v7 := (-1)) (v8 := t159) (v9 := t181) (by omega) (by omega) (by omega) (by omega) (by omega) (by omega) (by omega) (by first | omega | decide) (by omega) (E108.trans (by rw [E100, E81, E71, E62, E52, E43, E33, E23, E13, E3])) (E117.trans (by rw [E114])) (E124.trans (by rw [E121])) (E131.trans (by rw [E128])) (E138.trans (by rw [E135])) (E154.trans (by rw [E150, E147, E142])) E157 E161 E183
  have RL : RI κ s182 this := h0.extw hT.2.2.1 ⟨rfl, rfl, fun _ => rfl, fun _ => rfl, fun _ => rfl⟩ (by rw [erW]; exact WL)
  subst hQ9
  exact t_v hx hb hr hlocks hT ⟨RL, by rw [erW, E183, un (by decide), E161, uh]; omega⟩ dX6_inverts_309
