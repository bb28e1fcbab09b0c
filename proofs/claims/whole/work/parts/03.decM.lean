theorem dX9_init_0 : decode cX9_init 0 = .ok (.aload_n 0, 1) := by decide +kernel
theorem dX9_init_1 : decode cX9_init 1 = .ok (.invokespecial 1, 3) := by decide +kernel
theorem dX9_init_4 : decode cX9_init 4 = .ok (.aload_n 0, 1) := by decide +kernel
theorem dX9_init_5 : decode cX9_init 5 = .ok (.sipush 256, 3) := by decide +kernel
theorem dX9_init_8 : decode cX9_init 8 = .ok (.newarray .int, 2) := by decide +kernel
theorem dX9_init_10 : decode cX9_init 10 = .ok (.putfield 7, 3) := by decide +kernel
theorem dX9_init_13 : decode cX9_init 13 = .ok (.aload_n 0, 1) := by decide +kernel
theorem dX9_init_14 : decode cX9_init 14 = .ok (.sipush 256, 3) := by decide +kernel
theorem dX9_init_17 : decode cX9_init 17 = .ok (.newarray .int, 2) := by decide +kernel
theorem dX9_init_19 : decode cX9_init 19 = .ok (.putfield 13, 3) := by decide +kernel
theorem dX9_init_22 : decode cX9_init 22 = .ok (.aload_n 0, 1) := by decide +kernel
theorem dX9_init_23 : decode cX9_init 23 = .ok (.sipush 256, 3) := by decide +kernel
theorem dX9_init_26 : decode cX9_init 26 = .ok (.newarray .int, 2) := by decide +kernel
theorem dX9_init_28 : decode cX9_init 28 = .ok (.putfield 16, 3) := by decide +kernel
theorem dX9_init_31 : decode cX9_init 31 = .ok (.aload_n 0, 1) := by decide +kernel
theorem dX9_init_32 : decode cX9_init 32 = .ok (.sipush 256, 3) := by decide +kernel
theorem dX9_init_35 : decode cX9_init 35 = .ok (.newarray .int, 2) := by decide +kernel
theorem dX9_init_37 : decode cX9_init 37 = .ok (.putfield 19, 3) := by decide +kernel
theorem dX9_init_40 : decode cX9_init 40 = .ok (.aload_n 0, 1) := by decide +kernel
theorem dX9_init_41 : decode cX9_init 41 = .ok (.sipush 3072, 3) := by decide +kernel
theorem dX9_init_44 : decode cX9_init 44 = .ok (.newarray .int, 2) := by decide +kernel
theorem dX9_init_46 : decode cX9_init 46 = .ok (.putfield 22, 3) := by decide +kernel
theorem dX9_init_49 : decode cX9_init 49 = .ok (.aload_n 0, 1) := by decide +kernel
theorem dX9_init_50 : decode cX9_init 50 = .ok (.sipush 1024, 3) := by decide +kernel
theorem dX9_init_53 : decode cX9_init 53 = .ok (.newarray .int, 2) := by decide +kernel
theorem dX9_init_55 : decode cX9_init 55 = .ok (.putfield 25, 3) := by decide +kernel
theorem dX9_init_58 : decode cX9_init 58 = .ok (.aload_n 0, 1) := by decide +kernel
theorem dX9_init_59 : decode cX9_init 59 = .ok (.sipush 256, 3) := by decide +kernel
theorem dX9_init_62 : decode cX9_init 62 = .ok (.newarray .int, 2) := by decide +kernel
theorem dX9_init_64 : decode cX9_init 64 = .ok (.putfield 28, 3) := by decide +kernel
theorem dX9_init_67 : decode cX9_init 67 = .ok (.aload_n 0, 1) := by decide +kernel
theorem dX9_init_68 : decode cX9_init 68 = .ok (.sipush 256, 3) := by decide +kernel
theorem dX9_init_71 : decode cX9_init 71 = .ok (.newarray .int, 2) := by decide +kernel
theorem dX9_init_73 : decode cX9_init 73 = .ok (.putfield 31, 3) := by decide +kernel
theorem dX9_init_76 : decode cX9_init 76 = .ok (.aload_n 0, 1) := by decide +kernel
theorem dX9_init_77 : decode cX9_init 77 = .ok (.sipush 256, 3) := by decide +kernel
theorem dX9_init_80 : decode cX9_init 80 = .ok (.newarray .boolean, 2) := by decide +kernel
theorem dX9_init_82 : decode cX9_init 82 = .ok (.putfield 34, 3) := by decide +kernel
theorem dX9_init_85 : decode cX9_init 85 = .ok (.aload_n 0, 1) := by decide +kernel
theorem dX9_init_86 : decode cX9_init 86 = .ok (.sipush 1536, 3) := by decide +kernel
theorem dX9_init_89 : decode cX9_init 89 = .ok (.newarray .boolean, 2) := by decide +kernel
theorem dX9_init_91 : decode cX9_init 91 = .ok (.putfield 38, 3) := by decide +kernel
theorem dX9_init_94 : decode cX9_init 94 = .ok (.aload_n 0, 1) := by decide +kernel
theorem dX9_init_95 : decode cX9_init 95 = .ok (.bipush 18, 2) := by decide +kernel
theorem dX9_init_97 : decode cX9_init 97 = .ok (.newarray .int, 2) := by decide +kernel
theorem dX9_init_99 : decode cX9_init 99 = .ok (.putfield 41, 3) := by decide +kernel
theorem dX9_init_102 : decode cX9_init 102 = .ok (.aload_n 0, 1) := by decide +kernel
theorem dX9_init_103 : decode cX9_init 103 = .ok (.bipush 18, 2) := by decide +kernel
theorem dX9_init_105 : decode cX9_init 105 = .ok (.newarray .int, 2) := by decide +kernel
theorem dX9_init_107 : decode cX9_init 107 = .ok (.putfield 44, 3) := by decide +kernel
theorem dX9_init_110 : decode cX9_init 110 = .ok (.aload_n 0, 1) := by decide +kernel
theorem dX9_init_111 : decode cX9_init 111 = .ok (.sipush 256, 3) := by decide +kernel
theorem dX9_init_114 : decode cX9_init 114 = .ok (.newarray .boolean, 2) := by decide +kernel
theorem dX9_init_116 : decode cX9_init 116 = .ok (.putfield 47, 3) := by decide +kernel
theorem dX9_init_119 : decode cX9_init 119 = .ok (.aload_n 0, 1) := by decide +kernel
theorem dX9_init_120 : decode cX9_init 120 = .ok (.sipush 256, 3) := by decide +kernel
theorem dX9_init_123 : decode cX9_init 123 = .ok (.newarray .boolean, 2) := by decide +kernel
theorem dX9_init_125 : decode cX9_init 125 = .ok (.putfield 50, 3) := by decide +kernel
theorem dX9_init_128 : decode cX9_init 128 = .ok (.aload_n 0, 1) := by decide +kernel
theorem dX9_init_129 : decode cX9_init 129 = .ok (.sipush 768, 3) := by decide +kernel
theorem dX9_init_132 : decode cX9_init 132 = .ok (.newarray .int, 2) := by decide +kernel
theorem dX9_init_134 : decode cX9_init 134 = .ok (.putfield 53, 3) := by decide +kernel
theorem dX9_init_137 : decode cX9_init 137 = .ok (.aload_n 0, 1) := by decide +kernel
theorem dX9_init_138 : decode cX9_init 138 = .ok (.sipush 768, 3) := by decide +kernel
theorem dX9_init_141 : decode cX9_init 141 = .ok (.newarray .boolean, 2) := by decide +kernel
theorem dX9_init_143 : decode cX9_init 143 = .ok (.putfield 56, 3) := by decide +kernel
theorem dX9_init_146 : decode cX9_init 146 = .ok (.aload_n 0, 1) := by decide +kernel
theorem dX9_init_147 : decode cX9_init 147 = .ok (.bipush 16, 2) := by decide +kernel
theorem dX9_init_149 : decode cX9_init 149 = .ok (.newarray .int, 2) := by decide +kernel
theorem dX9_init_151 : decode cX9_init 151 = .ok (.putfield 59, 3) := by decide +kernel
theorem dX9_init_154 : decode cX9_init 154 = .ok (.aload_n 0, 1) := by decide +kernel
theorem dX9_init_155 : decode cX9_init 155 = .ok (.sipush 800, 3) := by decide +kernel
theorem dX9_init_158 : decode cX9_init 158 = .ok (.newarray .int, 2) := by decide +kernel
theorem dX9_init_160 : decode cX9_init 160 = .ok (.putfield 62, 3) := by decide +kernel
theorem dX9_init_163 : decode cX9_init 163 = .ok (.aload_n 0, 1) := by decide +kernel
theorem dX9_init_164 : decode cX9_init 164 = .ok (.sipush 800, 3) := by decide +kernel
theorem dX9_init_167 : decode cX9_init 167 = .ok (.newarray .int, 2) := by decide +kernel
theorem dX9_init_169 : decode cX9_init 169 = .ok (.putfield 65, 3) := by decide +kernel
theorem dX9_init_172 : decode cX9_init 172 = .ok (.aload_n 0, 1) := by decide +kernel
theorem dX9_init_173 : decode cX9_init 173 = .ok (.iconst 3, 1) := by decide +kernel
theorem dX9_init_174 : decode cX9_init 174 = .ok (.newarray .int, 2) := by decide +kernel
theorem dX9_init_176 : decode cX9_init 176 = .ok (.putfield 68, 3) := by decide +kernel
theorem dX9_init_179 : decode cX9_init 179 = .ok (.aload_n 0, 1) := by decide +kernel
theorem dX9_init_180 : decode cX9_init 180 = .ok (.sipush 256, 3) := by decide +kernel
theorem dX9_init_183 : decode cX9_init 183 = .ok (.newarray .boolean, 2) := by decide +kernel
theorem dX9_init_185 : decode cX9_init 185 = .ok (.putfield 71, 3) := by decide +kernel
theorem dX9_init_188 : decode cX9_init 188 = .ok (.aload_n 0, 1) := by decide +kernel
theorem dX9_init_189 : decode cX9_init 189 = .ok (.sipush 768, 3) := by decide +kernel
theorem dX9_init_192 : decode cX9_init 192 = .ok (.newarray .int, 2) := by decide +kernel
theorem dX9_init_194 : decode cX9_init 194 = .ok (.putfield 74, 3) := by decide +kernel
theorem dX9_init_197 : decode cX9_init 197 = .ok (.aload_n 0, 1) := by decide +kernel
theorem dX9_init_198 : decode cX9_init 198 = .ok (.sipush 768, 3) := by decide +kernel
theorem dX9_init_201 : decode cX9_init 201 = .ok (.newarray .int, 2) := by decide +kernel
theorem dX9_init_203 : decode cX9_init 203 = .ok (.putfield 77, 3) := by decide +kernel
theorem dX9_init_206 : decode cX9_init 206 = .ok (.iconst 0, 1) := by decide +kernel
theorem dX9_init_207 : decode cX9_init 207 = .ok (.istore_n 1, 1) := by decide +kernel
theorem dX9_init_208 : decode cX9_init 208 = .ok (.iload_n 1, 1) := by decide +kernel
theorem dX9_init_209 : decode cX9_init 209 = .ok (.bipush 18, 2) := by decide +kernel
theorem dX9_init_211 : decode cX9_init 211 = .ok (.if_icmp .ge 16, 3) := by decide +kernel
theorem dX9_init_214 : decode cX9_init 214 = .ok (.aload_n 0, 1) := by decide +kernel
theorem dX9_init_215 : decode cX9_init 215 = .ok (.getfield 44, 3) := by decide +kernel
theorem dX9_init_218 : decode cX9_init 218 = .ok (.iload_n 1, 1) := by decide +kernel
theorem dX9_init_219 : decode cX9_init 219 = .ok (.iconst (-1), 1) := by decide +kernel
theorem dX9_init_220 : decode cX9_init 220 = .ok (.iastore, 1) := by decide +kernel
theorem dX9_init_221 : decode cX9_init 221 = .ok (.iinc 1 1, 3) := by decide +kernel
theorem dX9_init_224 : decode cX9_init 224 = .ok (.goto (-16), 3) := by decide +kernel
theorem dX9_init_227 : decode cX9_init 227 = .ok (.return_, 1) := by decide +kernel
theorem dX9_refuse_0 : decode cX9_refuse 0 = .ok (.aload_n 0, 1) := by decide +kernel
theorem dX9_refuse_1 : decode cX9_refuse 1 = .ok (.iload_n 1, 1) := by decide +kernel
theorem dX9_refuse_2 : decode cX9_refuse 2 = .ok (.putfield 80, 3) := by decide +kernel
theorem dX9_refuse_5 : decode cX9_refuse 5 = .ok (.iconst (-1), 1) := by decide +kernel
theorem dX9_refuse_6 : decode cX9_refuse 6 = .ok (.ireturn, 1) := by decide +kernel
theorem dX9_done_0 : decode cX9_done 0 = .ok (.aload_n 0, 1) := by decide +kernel
theorem dX9_done_1 : decode cX9_done 1 = .ok (.iconst 0, 1) := by decide +kernel
theorem dX9_done_2 : decode cX9_done 2 = .ok (.putfield 80, 3) := by decide +kernel
theorem dX9_done_5 : decode cX9_done 5 = .ok (.iload_n 1, 1) := by decide +kernel
theorem dX9_done_6 : decode cX9_done 6 = .ok (.ireturn, 1) := by decide +kernel
theorem dX9_isPen_0 : decode cX9_isPen 0 = .ok (.iload_n 0, 1) := by decide +kernel
theorem dX9_isPen_1 : decode cX9_isPen 1 = .ok (.ifCond .lt 13, 3) := by decide +kernel
theorem dX9_isPen_4 : decode cX9_isPen 4 = .ok (.iload_n 0, 1) := by decide +kernel
theorem dX9_isPen_5 : decode cX9_isPen 5 = .ok (.bipush 6, 2) := by decide +kernel
theorem dX9_isPen_7 : decode cX9_isPen 7 = .ok (.if_icmp .ge 7, 3) := by decide +kernel
theorem dX9_isPen_10 : decode cX9_isPen 10 = .ok (.iconst 1, 1) := by decide +kernel
theorem dX9_isPen_11 : decode cX9_isPen 11 = .ok (.goto 4, 3) := by decide +kernel
theorem dX9_isPen_14 : decode cX9_isPen 14 = .ok (.iconst 0, 1) := by decide +kernel
theorem dX9_isPen_15 : decode cX9_isPen 15 = .ok (.ireturn, 1) := by decide +kernel
theorem dX9_isSlip_0 : decode cX9_isSlip 0 = .ok (.iload_n 1, 1) := by decide +kernel
theorem dX9_isSlip_1 : decode cX9_isSlip 1 = .ok (.ifCond .lt 15, 3) := by decide +kernel
theorem dX9_isSlip_4 : decode cX9_isSlip 4 = .ok (.iload_n 1, 1) := by decide +kernel
theorem dX9_isSlip_5 : decode cX9_isSlip 5 = .ok (.aload_n 0, 1) := by decide +kernel
theorem dX9_isSlip_6 : decode cX9_isSlip 6 = .ok (.getfield 84, 3) := by decide +kernel
theorem dX9_isSlip_9 : decode cX9_isSlip 9 = .ok (.if_icmp .ge 7, 3) := by decide +kernel
theorem dX9_isSlip_12 : decode cX9_isSlip 12 = .ok (.iconst 1, 1) := by decide +kernel
theorem dX9_isSlip_13 : decode cX9_isSlip 13 = .ok (.goto 4, 3) := by decide +kernel
theorem dX9_isSlip_16 : decode cX9_isSlip 16 = .ok (.iconst 0, 1) := by decide +kernel
theorem dX9_isSlip_17 : decode cX9_isSlip 17 = .ok (.ireturn, 1) := by decide +kernel
theorem dX9_isLater_0 : decode cX9_isLater 0 = .ok (.aload_n 0, 1) := by decide +kernel
theorem dX9_isLater_1 : decode cX9_isLater 1 = .ok (.getfield 13, 3) := by decide +kernel
theorem dX9_isLater_4 : decode cX9_isLater 4 = .ok (.iload_n 1, 1) := by decide +kernel
theorem dX9_isLater_5 : decode cX9_isLater 5 = .ok (.iaload, 1) := by decide +kernel
theorem dX9_isLater_6 : decode cX9_isLater 6 = .ok (.aload_n 0, 1) := by decide +kernel
theorem dX9_isLater_7 : decode cX9_isLater 7 = .ok (.getfield 13, 3) := by decide +kernel
theorem dX9_isLater_10 : decode cX9_isLater 10 = .ok (.iload_n 2, 1) := by decide +kernel
theorem dX9_isLater_11 : decode cX9_isLater 11 = .ok (.iaload, 1) := by decide +kernel
theorem dX9_isLater_12 : decode cX9_isLater 12 = .ok (.if_icmp .eq 26, 3) := by decide +kernel
theorem dX9_isLater_15 : decode cX9_isLater 15 = .ok (.aload_n 0, 1) := by decide +kernel
theorem dX9_isLater_16 : decode cX9_isLater 16 = .ok (.getfield 13, 3) := by decide +kernel
theorem dX9_isLater_19 : decode cX9_isLater 19 = .ok (.iload_n 1, 1) := by decide +kernel
theorem dX9_isLater_20 : decode cX9_isLater 20 = .ok (.iaload, 1) := by decide +kernel
theorem dX9_isLater_21 : decode cX9_isLater 21 = .ok (.aload_n 0, 1) := by decide +kernel
theorem dX9_isLater_22 : decode cX9_isLater 22 = .ok (.getfield 13, 3) := by decide +kernel
theorem dX9_isLater_25 : decode cX9_isLater 25 = .ok (.iload_n 2, 1) := by decide +kernel
theorem dX9_isLater_26 : decode cX9_isLater 26 = .ok (.iaload, 1) := by decide +kernel
theorem dX9_isLater_27 : decode cX9_isLater 27 = .ok (.if_icmp .le 7, 3) := by decide +kernel
theorem dX9_isLater_30 : decode cX9_isLater 30 = .ok (.iconst 1, 1) := by decide +kernel
theorem dX9_isLater_31 : decode cX9_isLater 31 = .ok (.goto 27, 3) := by decide +kernel
theorem dX9_isLater_34 : decode cX9_isLater 34 = .ok (.iconst 0, 1) := by decide +kernel
theorem dX9_isLater_35 : decode cX9_isLater 35 = .ok (.goto 23, 3) := by decide +kernel
theorem dX9_isLater_38 : decode cX9_isLater 38 = .ok (.aload_n 0, 1) := by decide +kernel
theorem dX9_isLater_39 : decode cX9_isLater 39 = .ok (.getfield 7, 3) := by decide +kernel
theorem dX9_isLater_42 : decode cX9_isLater 42 = .ok (.iload_n 1, 1) := by decide +kernel
theorem dX9_isLater_43 : decode cX9_isLater 43 = .ok (.iaload, 1) := by decide +kernel
theorem dX9_isLater_44 : decode cX9_isLater 44 = .ok (.aload_n 0, 1) := by decide +kernel
theorem dX9_isLater_45 : decode cX9_isLater 45 = .ok (.getfield 7, 3) := by decide +kernel
theorem dX9_isLater_48 : decode cX9_isLater 48 = .ok (.iload_n 2, 1) := by decide +kernel
theorem dX9_isLater_49 : decode cX9_isLater 49 = .ok (.iaload, 1) := by decide +kernel
theorem dX9_isLater_50 : decode cX9_isLater 50 = .ok (.if_icmp .le 7, 3) := by decide +kernel
theorem dX9_isLater_53 : decode cX9_isLater 53 = .ok (.iconst 1, 1) := by decide +kernel
theorem dX9_isLater_54 : decode cX9_isLater 54 = .ok (.goto 4, 3) := by decide +kernel
theorem dX9_isLater_57 : decode cX9_isLater 57 = .ok (.iconst 0, 1) := by decide +kernel
theorem dX9_isLater_58 : decode cX9_isLater 58 = .ok (.ireturn, 1) := by decide +kernel
theorem dX9_latestOf_0 : decode cX9_latestOf 0 = .ok (.iconst (-1), 1) := by decide +kernel
theorem dX9_latestOf_1 : decode cX9_latestOf 1 = .ok (.istore_n 3, 1) := by decide +kernel
theorem dX9_latestOf_2 : decode cX9_latestOf 2 = .ok (.iconst 0, 1) := by decide +kernel
theorem dX9_latestOf_3 : decode cX9_latestOf 3 = .ok (.istore 4, 2) := by decide +kernel
theorem dX9_latestOf_5 : decode cX9_latestOf 5 = .ok (.iload 4, 2) := by decide +kernel
theorem dX9_latestOf_7 : decode cX9_latestOf 7 = .ok (.iload_n 2, 1) := by decide +kernel
theorem dX9_latestOf_8 : decode cX9_latestOf 8 = .ok (.if_icmp .ge 27, 3) := by decide +kernel
theorem dX9_latestOf_11 : decode cX9_latestOf 11 = .ok (.aload_n 0, 1) := by decide +kernel
theorem dX9_latestOf_12 : decode cX9_latestOf 12 = .ok (.getfield 7, 3) := by decide +kernel
theorem dX9_latestOf_15 : decode cX9_latestOf 15 = .ok (.iload 4, 2) := by decide +kernel
theorem dX9_latestOf_17 : decode cX9_latestOf 17 = .ok (.iaload, 1) := by decide +kernel
theorem dX9_latestOf_18 : decode cX9_latestOf 18 = .ok (.iload_n 1, 1) := by decide +kernel
theorem dX9_latestOf_19 : decode cX9_latestOf 19 = .ok (.if_icmp .ne 8, 3) := by decide +kernel
theorem dX9_latestOf_22 : decode cX9_latestOf 22 = .ok (.iload 4, 2) := by decide +kernel
theorem dX9_latestOf_24 : decode cX9_latestOf 24 = .ok (.goto 4, 3) := by decide +kernel
theorem dX9_latestOf_27 : decode cX9_latestOf 27 = .ok (.iload_n 3, 1) := by decide +kernel
theorem dX9_latestOf_28 : decode cX9_latestOf 28 = .ok (.istore_n 3, 1) := by decide +kernel
theorem dX9_latestOf_29 : decode cX9_latestOf 29 = .ok (.iinc 4 1, 3) := by decide +kernel
theorem dX9_latestOf_32 : decode cX9_latestOf 32 = .ok (.goto (-27), 3) := by decide +kernel
theorem dX9_latestOf_35 : decode cX9_latestOf 35 = .ok (.iload_n 3, 1) := by decide +kernel
theorem dX9_latestOf_36 : decode cX9_latestOf 36 = .ok (.ireturn, 1) := by decide +kernel
theorem dX9_need_0 : decode cX9_need 0 = .ok (.iload_n 1, 1) := by decide +kernel
theorem dX9_need_1 : decode cX9_need 1 = .ok (.ifCond .lt 23, 3) := by decide +kernel
theorem dX9_need_4 : decode cX9_need 4 = .ok (.aload_n 0, 1) := by decide +kernel
theorem dX9_need_5 : decode cX9_need 5 = .ok (.getfield 59, 3) := by decide +kernel
theorem dX9_need_8 : decode cX9_need 8 = .ok (.aload_n 0, 1) := by decide +kernel
theorem dX9_need_9 : decode cX9_need 9 = .ok (.getfield 87, 3) := by decide +kernel
theorem dX9_need_12 : decode cX9_need 12 = .ok (.iload_n 1, 1) := by decide +kernel
theorem dX9_need_13 : decode cX9_need 13 = .ok (.iastore, 1) := by decide +kernel
theorem dX9_need_14 : decode cX9_need 14 = .ok (.aload_n 0, 1) := by decide +kernel
theorem dX9_need_15 : decode cX9_need 15 = .ok (.dup, 1) := by decide +kernel
theorem dX9_need_16 : decode cX9_need 16 = .ok (.getfield 87, 3) := by decide +kernel
theorem dX9_need_19 : decode cX9_need 19 = .ok (.iconst 1, 1) := by decide +kernel
theorem dX9_need_20 : decode cX9_need 20 = .ok (.iadd, 1) := by decide +kernel
theorem dX9_need_21 : decode cX9_need 21 = .ok (.putfield 87, 3) := by decide +kernel
theorem dX9_need_24 : decode cX9_need 24 = .ok (.return_, 1) := by decide +kernel
theorem dX9_findNeeds_0 : decode cX9_findNeeds 0 = .ok (.aload_n 0, 1) := by decide +kernel
theorem dX9_findNeeds_1 : decode cX9_findNeeds 1 = .ok (.iconst 0, 1) := by decide +kernel
theorem dX9_findNeeds_2 : decode cX9_findNeeds 2 = .ok (.putfield 87, 3) := by decide +kernel
theorem dX9_findNeeds_5 : decode cX9_findNeeds 5 = .ok (.aload_n 0, 1) := by decide +kernel
theorem dX9_findNeeds_6 : decode cX9_findNeeds 6 = .ok (.aload_n 0, 1) := by decide +kernel
theorem dX9_findNeeds_7 : decode cX9_findNeeds 7 = .ok (.aload_n 0, 1) := by decide +kernel
theorem dX9_findNeeds_8 : decode cX9_findNeeds 8 = .ok (.getfield 7, 3) := by decide +kernel
theorem dX9_findNeeds_11 : decode cX9_findNeeds 11 = .ok (.iload_n 1, 1) := by decide +kernel
theorem dX9_findNeeds_12 : decode cX9_findNeeds 12 = .ok (.iaload, 1) := by decide +kernel
theorem dX9_findNeeds_13 : decode cX9_findNeeds 13 = .ok (.iload_n 1, 1) := by decide +kernel
theorem dX9_findNeeds_14 : decode cX9_findNeeds 14 = .ok (.invokevirtual 90, 3) := by decide +kernel
theorem dX9_findNeeds_17 : decode cX9_findNeeds 17 = .ok (.invokevirtual 94, 3) := by decide +kernel
theorem dX9_findNeeds_20 : decode cX9_findNeeds 20 = .ok (.aload_n 0, 1) := by decide +kernel
theorem dX9_findNeeds_21 : decode cX9_findNeeds 21 = .ok (.getfield 16, 3) := by decide +kernel
theorem dX9_findNeeds_24 : decode cX9_findNeeds 24 = .ok (.iload_n 1, 1) := by decide +kernel
theorem dX9_findNeeds_25 : decode cX9_findNeeds 25 = .ok (.iaload, 1) := by decide +kernel
theorem dX9_findNeeds_26 : decode cX9_findNeeds 26 = .ok (.iconst 1, 1) := by decide +kernel
theorem dX9_findNeeds_27 : decode cX9_findNeeds 27 = .ok (.if_icmp .eq 13, 3) := by decide +kernel
theorem dX9_findNeeds_30 : decode cX9_findNeeds 30 = .ok (.aload_n 0, 1) := by decide +kernel
theorem dX9_findNeeds_31 : decode cX9_findNeeds 31 = .ok (.getfield 16, 3) := by decide +kernel
theorem dX9_findNeeds_34 : decode cX9_findNeeds 34 = .ok (.iload_n 1, 1) := by decide +kernel
theorem dX9_findNeeds_35 : decode cX9_findNeeds 35 = .ok (.iaload, 1) := by decide +kernel
theorem dX9_findNeeds_36 : decode cX9_findNeeds 36 = .ok (.iconst 2, 1) := by decide +kernel
theorem dX9_findNeeds_37 : decode cX9_findNeeds 37 = .ok (.if_icmp .ne 38, 3) := by decide +kernel
theorem dX9_findNeeds_40 : decode cX9_findNeeds 40 = .ok (.iconst 0, 1) := by decide +kernel
theorem dX9_findNeeds_41 : decode cX9_findNeeds 41 = .ok (.istore_n 2, 1) := by decide +kernel
theorem dX9_findNeeds_42 : decode cX9_findNeeds 42 = .ok (.iload_n 2, 1) := by decide +kernel
theorem dX9_findNeeds_43 : decode cX9_findNeeds 43 = .ok (.aload_n 0, 1) := by decide +kernel
theorem dX9_findNeeds_44 : decode cX9_findNeeds 44 = .ok (.getfield 19, 3) := by decide +kernel
theorem dX9_findNeeds_47 : decode cX9_findNeeds 47 = .ok (.iload_n 1, 1) := by decide +kernel
theorem dX9_findNeeds_48 : decode cX9_findNeeds 48 = .ok (.iaload, 1) := by decide +kernel
theorem dX9_findNeeds_49 : decode cX9_findNeeds 49 = .ok (.if_icmp .ge 26, 3) := by decide +kernel
theorem dX9_findNeeds_52 : decode cX9_findNeeds 52 = .ok (.aload_n 0, 1) := by decide +kernel
theorem dX9_findNeeds_53 : decode cX9_findNeeds 53 = .ok (.aload_n 0, 1) := by decide +kernel
theorem dX9_findNeeds_54 : decode cX9_findNeeds 54 = .ok (.getfield 22, 3) := by decide +kernel
theorem dX9_findNeeds_57 : decode cX9_findNeeds 57 = .ok (.bipush 12, 2) := by decide +kernel
theorem dX9_findNeeds_59 : decode cX9_findNeeds 59 = .ok (.iload_n 1, 1) := by decide +kernel
theorem dX9_findNeeds_60 : decode cX9_findNeeds 60 = .ok (.imul, 1) := by decide +kernel
theorem dX9_findNeeds_61 : decode cX9_findNeeds 61 = .ok (.iload_n 2, 1) := by decide +kernel
theorem dX9_findNeeds_62 : decode cX9_findNeeds 62 = .ok (.iadd, 1) := by decide +kernel
theorem dX9_findNeeds_63 : decode cX9_findNeeds 63 = .ok (.iaload, 1) := by decide +kernel
theorem dX9_findNeeds_64 : decode cX9_findNeeds 64 = .ok (.iconst 4, 1) := by decide +kernel
theorem dX9_findNeeds_65 : decode cX9_findNeeds 65 = .ok (.idiv, 1) := by decide +kernel
theorem dX9_findNeeds_66 : decode cX9_findNeeds 66 = .ok (.invokevirtual 94, 3) := by decide +kernel
theorem dX9_findNeeds_69 : decode cX9_findNeeds 69 = .ok (.iinc 2 1, 3) := by decide +kernel
theorem dX9_findNeeds_72 : decode cX9_findNeeds 72 = .ok (.goto (-30), 3) := by decide +kernel
theorem dX9_findNeeds_75 : decode cX9_findNeeds 75 = .ok (.aload_n 0, 1) := by decide +kernel
theorem dX9_findNeeds_76 : decode cX9_findNeeds 76 = .ok (.getfield 16, 3) := by decide +kernel
theorem dX9_findNeeds_79 : decode cX9_findNeeds 79 = .ok (.iload_n 1, 1) := by decide +kernel
theorem dX9_findNeeds_80 : decode cX9_findNeeds 80 = .ok (.iaload, 1) := by decide +kernel
theorem dX9_findNeeds_81 : decode cX9_findNeeds 81 = .ok (.iconst 3, 1) := by decide +kernel
theorem dX9_findNeeds_82 : decode cX9_findNeeds 82 = .ok (.if_icmp .ne 16, 3) := by decide +kernel
theorem dX9_findNeeds_85 : decode cX9_findNeeds 85 = .ok (.aload_n 0, 1) := by decide +kernel
theorem dX9_findNeeds_86 : decode cX9_findNeeds 86 = .ok (.aload_n 0, 1) := by decide +kernel
theorem dX9_findNeeds_87 : decode cX9_findNeeds 87 = .ok (.getfield 28, 3) := by decide +kernel
theorem dX9_findNeeds_90 : decode cX9_findNeeds 90 = .ok (.iload_n 1, 1) := by decide +kernel
theorem dX9_findNeeds_91 : decode cX9_findNeeds 91 = .ok (.iaload, 1) := by decide +kernel
theorem dX9_findNeeds_92 : decode cX9_findNeeds 92 = .ok (.invokevirtual 94, 3) := by decide +kernel
theorem dX9_findNeeds_95 : decode cX9_findNeeds 95 = .ok (.goto 34, 3) := by decide +kernel
theorem dX9_findNeeds_98 : decode cX9_findNeeds 98 = .ok (.aload_n 0, 1) := by decide +kernel
theorem dX9_findNeeds_99 : decode cX9_findNeeds 99 = .ok (.getfield 28, 3) := by decide +kernel
theorem dX9_findNeeds_102 : decode cX9_findNeeds 102 = .ok (.iload_n 1, 1) := by decide +kernel
theorem dX9_findNeeds_103 : decode cX9_findNeeds 103 = .ok (.iaload, 1) := by decide +kernel
theorem dX9_findNeeds_104 : decode cX9_findNeeds 104 = .ok (.ifCond .lt 25, 3) := by decide +kernel
theorem dX9_findNeeds_107 : decode cX9_findNeeds 107 = .ok (.aload_n 0, 1) := by decide +kernel
theorem dX9_findNeeds_108 : decode cX9_findNeeds 108 = .ok (.getfield 16, 3) := by decide +kernel
theorem dX9_findNeeds_111 : decode cX9_findNeeds 111 = .ok (.iload_n 1, 1) := by decide +kernel
theorem dX9_findNeeds_112 : decode cX9_findNeeds 112 = .ok (.iaload, 1) := by decide +kernel
theorem dX9_findNeeds_113 : decode cX9_findNeeds 113 = .ok (.iconst 1, 1) := by decide +kernel
theorem dX9_findNeeds_114 : decode cX9_findNeeds 114 = .ok (.if_icmp .eq 15, 3) := by decide +kernel
theorem dX9_findNeeds_117 : decode cX9_findNeeds 117 = .ok (.aload_n 0, 1) := by decide +kernel
theorem dX9_findNeeds_118 : decode cX9_findNeeds 118 = .ok (.aload_n 0, 1) := by decide +kernel
theorem dX9_findNeeds_119 : decode cX9_findNeeds 119 = .ok (.getfield 28, 3) := by decide +kernel
theorem dX9_findNeeds_122 : decode cX9_findNeeds 122 = .ok (.iload_n 1, 1) := by decide +kernel
theorem dX9_findNeeds_123 : decode cX9_findNeeds 123 = .ok (.iaload, 1) := by decide +kernel
theorem dX9_findNeeds_124 : decode cX9_findNeeds 124 = .ok (.iconst 4, 1) := by decide +kernel
theorem dX9_findNeeds_125 : decode cX9_findNeeds 125 = .ok (.idiv, 1) := by decide +kernel
theorem dX9_findNeeds_126 : decode cX9_findNeeds 126 = .ok (.invokevirtual 94, 3) := by decide +kernel
theorem dX9_findNeeds_129 : decode cX9_findNeeds 129 = .ok (.return_, 1) := by decide +kernel
theorem dX9_hasNeeds_0 : decode cX9_hasNeeds 0 = .ok (.aload_n 0, 1) := by decide +kernel
theorem dX9_hasNeeds_1 : decode cX9_hasNeeds 1 = .ok (.iload_n 1, 1) := by decide +kernel
theorem dX9_hasNeeds_2 : decode cX9_hasNeeds 2 = .ok (.invokevirtual 98, 3) := by decide +kernel
theorem dX9_hasNeeds_5 : decode cX9_hasNeeds 5 = .ok (.iconst 1, 1) := by decide +kernel
theorem dX9_hasNeeds_6 : decode cX9_hasNeeds 6 = .ok (.istore_n 2, 1) := by decide +kernel
theorem dX9_hasNeeds_7 : decode cX9_hasNeeds 7 = .ok (.iconst 0, 1) := by decide +kernel
theorem dX9_hasNeeds_8 : decode cX9_hasNeeds 8 = .ok (.istore_n 3, 1) := by decide +kernel
theorem dX9_hasNeeds_9 : decode cX9_hasNeeds 9 = .ok (.iload_n 3, 1) := by decide +kernel
theorem dX9_hasNeeds_10 : decode cX9_hasNeeds 10 = .ok (.aload_n 0, 1) := by decide +kernel
theorem dX9_hasNeeds_11 : decode cX9_hasNeeds 11 = .ok (.getfield 87, 3) := by decide +kernel
theorem dX9_hasNeeds_14 : decode cX9_hasNeeds 14 = .ok (.if_icmp .ge 33, 3) := by decide +kernel
theorem dX9_hasNeeds_17 : decode cX9_hasNeeds 17 = .ok (.iload_n 2, 1) := by decide +kernel
theorem dX9_hasNeeds_18 : decode cX9_hasNeeds 18 = .ok (.ifCond .eq 21, 3) := by decide +kernel
theorem dX9_hasNeeds_21 : decode cX9_hasNeeds 21 = .ok (.aload_n 0, 1) := by decide +kernel
theorem dX9_hasNeeds_22 : decode cX9_hasNeeds 22 = .ok (.getfield 47, 3) := by decide +kernel
theorem dX9_hasNeeds_25 : decode cX9_hasNeeds 25 = .ok (.aload_n 0, 1) := by decide +kernel
theorem dX9_hasNeeds_26 : decode cX9_hasNeeds 26 = .ok (.getfield 59, 3) := by decide +kernel
theorem dX9_hasNeeds_29 : decode cX9_hasNeeds 29 = .ok (.iload_n 3, 1) := by decide +kernel
theorem dX9_hasNeeds_30 : decode cX9_hasNeeds 30 = .ok (.iaload, 1) := by decide +kernel
theorem dX9_hasNeeds_31 : decode cX9_hasNeeds 31 = .ok (.baload, 1) := by decide +kernel
theorem dX9_hasNeeds_32 : decode cX9_hasNeeds 32 = .ok (.ifCond .eq 7, 3) := by decide +kernel
theorem dX9_hasNeeds_35 : decode cX9_hasNeeds 35 = .ok (.iconst 1, 1) := by decide +kernel
theorem dX9_hasNeeds_36 : decode cX9_hasNeeds 36 = .ok (.goto 4, 3) := by decide +kernel
theorem dX9_hasNeeds_39 : decode cX9_hasNeeds 39 = .ok (.iconst 0, 1) := by decide +kernel
theorem dX9_hasNeeds_40 : decode cX9_hasNeeds 40 = .ok (.istore_n 2, 1) := by decide +kernel
theorem dX9_hasNeeds_41 : decode cX9_hasNeeds 41 = .ok (.iinc 3 1, 3) := by decide +kernel
theorem dX9_hasNeeds_44 : decode cX9_hasNeeds 44 = .ok (.goto (-35), 3) := by decide +kernel
theorem dX9_hasNeeds_47 : decode cX9_hasNeeds 47 = .ok (.iload_n 2, 1) := by decide +kernel
theorem dX9_hasNeeds_48 : decode cX9_hasNeeds 48 = .ok (.ireturn, 1) := by decide +kernel
theorem dX9_findTaken_0 : decode cX9_findTaken 0 = .ok (.iconst 0, 1) := by decide +kernel
theorem dX9_findTaken_1 : decode cX9_findTaken 1 = .ok (.istore_n 2, 1) := by decide +kernel
theorem dX9_findTaken_2 : decode cX9_findTaken 2 = .ok (.iconst 0, 1) := by decide +kernel
theorem dX9_findTaken_3 : decode cX9_findTaken 3 = .ok (.istore_n 3, 1) := by decide +kernel
theorem dX9_findTaken_4 : decode cX9_findTaken 4 = .ok (.iload_n 3, 1) := by decide +kernel
theorem dX9_findTaken_5 : decode cX9_findTaken 5 = .ok (.aload_n 0, 1) := by decide +kernel
theorem dX9_findTaken_6 : decode cX9_findTaken 6 = .ok (.getfield 84, 3) := by decide +kernel
theorem dX9_findTaken_9 : decode cX9_findTaken 9 = .ok (.if_icmp .ge 60, 3) := by decide +kernel
theorem dX9_findTaken_12 : decode cX9_findTaken 12 = .ok (.aload_n 0, 1) := by decide +kernel
theorem dX9_findTaken_13 : decode cX9_findTaken 13 = .ok (.getfield 47, 3) := by decide +kernel
theorem dX9_findTaken_16 : decode cX9_findTaken 16 = .ok (.iload_n 3, 1) := by decide +kernel
theorem dX9_findTaken_17 : decode cX9_findTaken 17 = .ok (.aload_n 0, 1) := by decide +kernel
theorem dX9_findTaken_18 : decode cX9_findTaken 18 = .ok (.getfield 38, 3) := by decide +kernel
theorem dX9_findTaken_21 : decode cX9_findTaken 21 = .ok (.sipush 256, 3) := by decide +kernel
theorem dX9_findTaken_24 : decode cX9_findTaken 24 = .ok (.iload_n 1, 1) := by decide +kernel
theorem dX9_findTaken_25 : decode cX9_findTaken 25 = .ok (.imul, 1) := by decide +kernel
theorem dX9_findTaken_26 : decode cX9_findTaken 26 = .ok (.iload_n 3, 1) := by decide +kernel
theorem dX9_findTaken_27 : decode cX9_findTaken 27 = .ok (.iadd, 1) := by decide +kernel
theorem dX9_findTaken_28 : decode cX9_findTaken 28 = .ok (.baload, 1) := by decide +kernel
theorem dX9_findTaken_29 : decode cX9_findTaken 29 = .ok (.ifCond .eq 15, 3) := by decide +kernel
theorem dX9_findTaken_32 : decode cX9_findTaken 32 = .ok (.aload_n 0, 1) := by decide +kernel
theorem dX9_findTaken_33 : decode cX9_findTaken 33 = .ok (.iload_n 3, 1) := by decide +kernel
theorem dX9_findTaken_34 : decode cX9_findTaken 34 = .ok (.invokevirtual 101, 3) := by decide +kernel
theorem dX9_findTaken_37 : decode cX9_findTaken 37 = .ok (.ifCond .eq 7, 3) := by decide +kernel
theorem dX9_findTaken_40 : decode cX9_findTaken 40 = .ok (.iconst 1, 1) := by decide +kernel
theorem dX9_findTaken_41 : decode cX9_findTaken 41 = .ok (.goto 4, 3) := by decide +kernel
theorem dX9_findTaken_44 : decode cX9_findTaken 44 = .ok (.iconst 0, 1) := by decide +kernel
theorem dX9_findTaken_45 : decode cX9_findTaken 45 = .ok (.bastore, 1) := by decide +kernel
theorem dX9_findTaken_46 : decode cX9_findTaken 46 = .ok (.iload_n 2, 1) := by decide +kernel
theorem dX9_findTaken_47 : decode cX9_findTaken 47 = .ok (.aload_n 0, 1) := by decide +kernel
theorem dX9_findTaken_48 : decode cX9_findTaken 48 = .ok (.getfield 47, 3) := by decide +kernel
theorem dX9_findTaken_51 : decode cX9_findTaken 51 = .ok (.iload_n 3, 1) := by decide +kernel
theorem dX9_findTaken_52 : decode cX9_findTaken 52 = .ok (.baload, 1) := by decide +kernel
theorem dX9_findTaken_53 : decode cX9_findTaken 53 = .ok (.ifCond .eq 7, 3) := by decide +kernel
theorem dX9_findTaken_56 : decode cX9_findTaken 56 = .ok (.iconst 1, 1) := by decide +kernel
theorem dX9_findTaken_57 : decode cX9_findTaken 57 = .ok (.goto 4, 3) := by decide +kernel
theorem dX9_findTaken_60 : decode cX9_findTaken 60 = .ok (.iconst 0, 1) := by decide +kernel
theorem dX9_findTaken_61 : decode cX9_findTaken 61 = .ok (.iadd, 1) := by decide +kernel
theorem dX9_findTaken_62 : decode cX9_findTaken 62 = .ok (.istore_n 2, 1) := by decide +kernel
theorem dX9_findTaken_63 : decode cX9_findTaken 63 = .ok (.iinc 3 1, 3) := by decide +kernel
theorem dX9_findTaken_66 : decode cX9_findTaken 66 = .ok (.goto (-62), 3) := by decide +kernel
theorem dX9_findTaken_69 : decode cX9_findTaken 69 = .ok (.iload_n 2, 1) := by decide +kernel
theorem dX9_findTaken_70 : decode cX9_findTaken 70 = .ok (.ireturn, 1) := by decide +kernel
theorem dX9_findWorks_0 : decode cX9_findWorks 0 = .ok (.aload_n 0, 1) := by decide +kernel
theorem dX9_findWorks_1 : decode cX9_findWorks 1 = .ok (.getfield 84, 3) := by decide +kernel
theorem dX9_findWorks_4 : decode cX9_findWorks 4 = .ok (.iconst 1, 1) := by decide +kernel
theorem dX9_findWorks_5 : decode cX9_findWorks 5 = .ok (.isub, 1) := by decide +kernel
theorem dX9_findWorks_6 : decode cX9_findWorks 6 = .ok (.istore_n 1, 1) := by decide +kernel
theorem dX9_findWorks_7 : decode cX9_findWorks 7 = .ok (.iload_n 1, 1) := by decide +kernel
theorem dX9_findWorks_8 : decode cX9_findWorks 8 = .ok (.ifCond .lt 88, 3) := by decide +kernel
theorem dX9_findWorks_11 : decode cX9_findWorks 11 = .ok (.aload_n 0, 1) := by decide +kernel
theorem dX9_findWorks_12 : decode cX9_findWorks 12 = .ok (.getfield 50, 3) := by decide +kernel
theorem dX9_findWorks_15 : decode cX9_findWorks 15 = .ok (.iload_n 1, 1) := by decide +kernel
theorem dX9_findWorks_16 : decode cX9_findWorks 16 = .ok (.aload_n 0, 1) := by decide +kernel
theorem dX9_findWorks_17 : decode cX9_findWorks 17 = .ok (.getfield 47, 3) := by decide +kernel
theorem dX9_findWorks_20 : decode cX9_findWorks 20 = .ok (.iload_n 1, 1) := by decide +kernel
theorem dX9_findWorks_21 : decode cX9_findWorks 21 = .ok (.baload, 1) := by decide +kernel
theorem dX9_findWorks_22 : decode cX9_findWorks 22 = .ok (.bastore, 1) := by decide +kernel
theorem dX9_findWorks_23 : decode cX9_findWorks 23 = .ok (.iload_n 1, 1) := by decide +kernel
theorem dX9_findWorks_24 : decode cX9_findWorks 24 = .ok (.iconst 1, 1) := by decide +kernel
theorem dX9_findWorks_25 : decode cX9_findWorks 25 = .ok (.iadd, 1) := by decide +kernel
theorem dX9_findWorks_26 : decode cX9_findWorks 26 = .ok (.istore_n 2, 1) := by decide +kernel
theorem dX9_findWorks_27 : decode cX9_findWorks 27 = .ok (.iload_n 2, 1) := by decide +kernel
theorem dX9_findWorks_28 : decode cX9_findWorks 28 = .ok (.aload_n 0, 1) := by decide +kernel
theorem dX9_findWorks_29 : decode cX9_findWorks 29 = .ok (.getfield 84, 3) := by decide +kernel
theorem dX9_findWorks_32 : decode cX9_findWorks 32 = .ok (.if_icmp .ge 58, 3) := by decide +kernel
theorem dX9_findWorks_35 : decode cX9_findWorks 35 = .ok (.aload_n 0, 1) := by decide +kernel
theorem dX9_findWorks_36 : decode cX9_findWorks 36 = .ok (.getfield 50, 3) := by decide +kernel
theorem dX9_findWorks_39 : decode cX9_findWorks 39 = .ok (.iload_n 1, 1) := by decide +kernel
theorem dX9_findWorks_40 : decode cX9_findWorks 40 = .ok (.aload_n 0, 1) := by decide +kernel
theorem dX9_findWorks_41 : decode cX9_findWorks 41 = .ok (.getfield 50, 3) := by decide +kernel
theorem dX9_findWorks_44 : decode cX9_findWorks 44 = .ok (.iload_n 1, 1) := by decide +kernel
theorem dX9_findWorks_45 : decode cX9_findWorks 45 = .ok (.baload, 1) := by decide +kernel
theorem dX9_findWorks_46 : decode cX9_findWorks 46 = .ok (.ifCond .eq 36, 3) := by decide +kernel
theorem dX9_findWorks_49 : decode cX9_findWorks 49 = .ok (.aload_n 0, 1) := by decide +kernel
theorem dX9_findWorks_50 : decode cX9_findWorks 50 = .ok (.getfield 16, 3) := by decide +kernel
theorem dX9_findWorks_53 : decode cX9_findWorks 53 = .ok (.iload_n 2, 1) := by decide +kernel
theorem dX9_findWorks_54 : decode cX9_findWorks 54 = .ok (.iaload, 1) := by decide +kernel
theorem dX9_findWorks_55 : decode cX9_findWorks 55 = .ok (.iconst 3, 1) := by decide +kernel
theorem dX9_findWorks_56 : decode cX9_findWorks 56 = .ok (.if_icmp .ne 22, 3) := by decide +kernel
theorem dX9_findWorks_59 : decode cX9_findWorks 59 = .ok (.aload_n 0, 1) := by decide +kernel
theorem dX9_findWorks_60 : decode cX9_findWorks 60 = .ok (.getfield 28, 3) := by decide +kernel
theorem dX9_findWorks_63 : decode cX9_findWorks 63 = .ok (.iload_n 2, 1) := by decide +kernel
theorem dX9_findWorks_64 : decode cX9_findWorks 64 = .ok (.iaload, 1) := by decide +kernel
theorem dX9_findWorks_65 : decode cX9_findWorks 65 = .ok (.iload_n 1, 1) := by decide +kernel
theorem dX9_findWorks_66 : decode cX9_findWorks 66 = .ok (.if_icmp .ne 12, 3) := by decide +kernel
theorem dX9_findWorks_69 : decode cX9_findWorks 69 = .ok (.aload_n 0, 1) := by decide +kernel
theorem dX9_findWorks_70 : decode cX9_findWorks 70 = .ok (.getfield 50, 3) := by decide +kernel
theorem dX9_findWorks_73 : decode cX9_findWorks 73 = .ok (.iload_n 2, 1) := by decide +kernel
theorem dX9_findWorks_74 : decode cX9_findWorks 74 = .ok (.baload, 1) := by decide +kernel
theorem dX9_findWorks_75 : decode cX9_findWorks 75 = .ok (.ifCond .ne 7, 3) := by decide +kernel
theorem dX9_findWorks_78 : decode cX9_findWorks 78 = .ok (.iconst 1, 1) := by decide +kernel
theorem dX9_findWorks_79 : decode cX9_findWorks 79 = .ok (.goto 4, 3) := by decide +kernel
theorem dX9_findWorks_82 : decode cX9_findWorks 82 = .ok (.iconst 0, 1) := by decide +kernel
theorem dX9_findWorks_83 : decode cX9_findWorks 83 = .ok (.bastore, 1) := by decide +kernel
theorem dX9_findWorks_84 : decode cX9_findWorks 84 = .ok (.iinc 2 1, 3) := by decide +kernel
theorem dX9_findWorks_87 : decode cX9_findWorks 87 = .ok (.goto (-60), 3) := by decide +kernel
theorem dX9_findWorks_90 : decode cX9_findWorks 90 = .ok (.iinc 1 (-1), 3) := by decide +kernel
theorem dX9_findWorks_93 : decode cX9_findWorks 93 = .ok (.goto (-86), 3) := by decide +kernel
theorem dX9_findWorks_96 : decode cX9_findWorks 96 = .ok (.return_, 1) := by decide +kernel
theorem dX9_pilePuts_0 : decode cX9_pilePuts 0 = .ok (.aload_n 0, 1) := by decide +kernel
theorem dX9_pilePuts_1 : decode cX9_pilePuts 1 = .ok (.getfield 105, 3) := by decide +kernel
theorem dX9_pilePuts_4 : decode cX9_pilePuts 4 = .ok (.istore_n 2, 1) := by decide +kernel
theorem dX9_pilePuts_5 : decode cX9_pilePuts 5 = .ok (.iconst 0, 1) := by decide +kernel
theorem dX9_pilePuts_6 : decode cX9_pilePuts 6 = .ok (.istore_n 3, 1) := by decide +kernel
theorem dX9_pilePuts_7 : decode cX9_pilePuts 7 = .ok (.iload_n 3, 1) := by decide +kernel
theorem dX9_pilePuts_8 : decode cX9_pilePuts 8 = .ok (.aload_n 0, 1) := by decide +kernel
theorem dX9_pilePuts_9 : decode cX9_pilePuts 9 = .ok (.getfield 84, 3) := by decide +kernel
theorem dX9_pilePuts_12 : decode cX9_pilePuts 12 = .ok (.if_icmp .ge 130, 3) := by decide +kernel
theorem dX9_pilePuts_15 : decode cX9_pilePuts 15 = .ok (.aload_n 0, 1) := by decide +kernel
theorem dX9_pilePuts_16 : decode cX9_pilePuts 16 = .ok (.getfield 47, 3) := by decide +kernel
theorem dX9_pilePuts_19 : decode cX9_pilePuts 19 = .ok (.iload_n 3, 1) := by decide +kernel
theorem dX9_pilePuts_20 : decode cX9_pilePuts 20 = .ok (.baload, 1) := by decide +kernel
theorem dX9_pilePuts_21 : decode cX9_pilePuts 21 = .ok (.ifCond .eq 115, 3) := by decide +kernel
theorem dX9_pilePuts_24 : decode cX9_pilePuts 24 = .ok (.aload_n 0, 1) := by decide +kernel
theorem dX9_pilePuts_25 : decode cX9_pilePuts 25 = .ok (.getfield 16, 3) := by decide +kernel
theorem dX9_pilePuts_28 : decode cX9_pilePuts 28 = .ok (.iload_n 3, 1) := by decide +kernel
theorem dX9_pilePuts_29 : decode cX9_pilePuts 29 = .ok (.iaload, 1) := by decide +kernel
theorem dX9_pilePuts_30 : decode cX9_pilePuts 30 = .ok (.ifCond .ne 106, 3) := by decide +kernel
theorem dX9_pilePuts_33 : decode cX9_pilePuts 33 = .ok (.aload_n 0, 1) := by decide +kernel
theorem dX9_pilePuts_34 : decode cX9_pilePuts 34 = .ok (.getfield 28, 3) := by decide +kernel
theorem dX9_pilePuts_37 : decode cX9_pilePuts 37 = .ok (.iload_n 3, 1) := by decide +kernel
theorem dX9_pilePuts_38 : decode cX9_pilePuts 38 = .ok (.iaload, 1) := by decide +kernel
theorem dX9_pilePuts_39 : decode cX9_pilePuts 39 = .ok (.iload_n 1, 1) := by decide +kernel
theorem dX9_pilePuts_40 : decode cX9_pilePuts 40 = .ok (.if_icmp .ne 96, 3) := by decide +kernel
theorem dX9_pilePuts_43 : decode cX9_pilePuts 43 = .ok (.aload_n 0, 1) := by decide +kernel
theorem dX9_pilePuts_44 : decode cX9_pilePuts 44 = .ok (.getfield 105, 3) := by decide +kernel
theorem dX9_pilePuts_47 : decode cX9_pilePuts 47 = .ok (.istore 4, 2) := by decide +kernel
theorem dX9_pilePuts_49 : decode cX9_pilePuts 49 = .ok (.iload 4, 2) := by decide +kernel
theorem dX9_pilePuts_51 : decode cX9_pilePuts 51 = .ok (.iload_n 2, 1) := by decide +kernel
theorem dX9_pilePuts_52 : decode cX9_pilePuts 52 = .ok (.if_icmp .le 58, 3) := by decide +kernel
theorem dX9_pilePuts_55 : decode cX9_pilePuts 55 = .ok (.aload_n 0, 1) := by decide +kernel
theorem dX9_pilePuts_56 : decode cX9_pilePuts 56 = .ok (.aload_n 0, 1) := by decide +kernel
theorem dX9_pilePuts_57 : decode cX9_pilePuts 57 = .ok (.getfield 62, 3) := by decide +kernel
theorem dX9_pilePuts_60 : decode cX9_pilePuts 60 = .ok (.iload 4, 2) := by decide +kernel
theorem dX9_pilePuts_62 : decode cX9_pilePuts 62 = .ok (.iconst 1, 1) := by decide +kernel
theorem dX9_pilePuts_63 : decode cX9_pilePuts 63 = .ok (.isub, 1) := by decide +kernel
theorem dX9_pilePuts_64 : decode cX9_pilePuts 64 = .ok (.iaload, 1) := by decide +kernel
theorem dX9_pilePuts_65 : decode cX9_pilePuts 65 = .ok (.iload_n 3, 1) := by decide +kernel
theorem dX9_pilePuts_66 : decode cX9_pilePuts 66 = .ok (.invokevirtual 108, 3) := by decide +kernel
theorem dX9_pilePuts_69 : decode cX9_pilePuts 69 = .ok (.ifCond .eq 41, 3) := by decide +kernel
theorem dX9_pilePuts_72 : decode cX9_pilePuts 72 = .ok (.aload_n 0, 1) := by decide +kernel
theorem dX9_pilePuts_73 : decode cX9_pilePuts 73 = .ok (.getfield 62, 3) := by decide +kernel
theorem dX9_pilePuts_76 : decode cX9_pilePuts 76 = .ok (.iload 4, 2) := by decide +kernel
theorem dX9_pilePuts_78 : decode cX9_pilePuts 78 = .ok (.aload_n 0, 1) := by decide +kernel
theorem dX9_pilePuts_79 : decode cX9_pilePuts 79 = .ok (.getfield 62, 3) := by decide +kernel
theorem dX9_pilePuts_82 : decode cX9_pilePuts 82 = .ok (.iload 4, 2) := by decide +kernel
theorem dX9_pilePuts_84 : decode cX9_pilePuts 84 = .ok (.iconst 1, 1) := by decide +kernel
theorem dX9_pilePuts_85 : decode cX9_pilePuts 85 = .ok (.isub, 1) := by decide +kernel
theorem dX9_pilePuts_86 : decode cX9_pilePuts 86 = .ok (.iaload, 1) := by decide +kernel
theorem dX9_pilePuts_87 : decode cX9_pilePuts 87 = .ok (.iastore, 1) := by decide +kernel
theorem dX9_pilePuts_88 : decode cX9_pilePuts 88 = .ok (.aload_n 0, 1) := by decide +kernel
theorem dX9_pilePuts_89 : decode cX9_pilePuts 89 = .ok (.getfield 65, 3) := by decide +kernel
theorem dX9_pilePuts_92 : decode cX9_pilePuts 92 = .ok (.iload 4, 2) := by decide +kernel
theorem dX9_pilePuts_94 : decode cX9_pilePuts 94 = .ok (.aload_n 0, 1) := by decide +kernel
theorem dX9_pilePuts_95 : decode cX9_pilePuts 95 = .ok (.getfield 65, 3) := by decide +kernel
theorem dX9_pilePuts_98 : decode cX9_pilePuts 98 = .ok (.iload 4, 2) := by decide +kernel
theorem dX9_pilePuts_100 : decode cX9_pilePuts 100 = .ok (.iconst 1, 1) := by decide +kernel
theorem dX9_pilePuts_101 : decode cX9_pilePuts 101 = .ok (.isub, 1) := by decide +kernel
theorem dX9_pilePuts_102 : decode cX9_pilePuts 102 = .ok (.iaload, 1) := by decide +kernel
theorem dX9_pilePuts_103 : decode cX9_pilePuts 103 = .ok (.iastore, 1) := by decide +kernel
theorem dX9_pilePuts_104 : decode cX9_pilePuts 104 = .ok (.iinc 4 (-1), 3) := by decide +kernel
theorem dX9_pilePuts_107 : decode cX9_pilePuts 107 = .ok (.goto (-58), 3) := by decide +kernel
theorem dX9_pilePuts_110 : decode cX9_pilePuts 110 = .ok (.aload_n 0, 1) := by decide +kernel
theorem dX9_pilePuts_111 : decode cX9_pilePuts 111 = .ok (.getfield 62, 3) := by decide +kernel
theorem dX9_pilePuts_114 : decode cX9_pilePuts 114 = .ok (.iload 4, 2) := by decide +kernel
theorem dX9_pilePuts_116 : decode cX9_pilePuts 116 = .ok (.iload_n 3, 1) := by decide +kernel
theorem dX9_pilePuts_117 : decode cX9_pilePuts 117 = .ok (.iastore, 1) := by decide +kernel
theorem dX9_pilePuts_118 : decode cX9_pilePuts 118 = .ok (.aload_n 0, 1) := by decide +kernel
theorem dX9_pilePuts_119 : decode cX9_pilePuts 119 = .ok (.getfield 65, 3) := by decide +kernel
theorem dX9_pilePuts_122 : decode cX9_pilePuts 122 = .ok (.iload 4, 2) := by decide +kernel
theorem dX9_pilePuts_124 : decode cX9_pilePuts 124 = .ok (.iconst 0, 1) := by decide +kernel
theorem dX9_pilePuts_125 : decode cX9_pilePuts 125 = .ok (.iastore, 1) := by decide +kernel
theorem dX9_pilePuts_126 : decode cX9_pilePuts 126 = .ok (.aload_n 0, 1) := by decide +kernel
theorem dX9_pilePuts_127 : decode cX9_pilePuts 127 = .ok (.dup, 1) := by decide +kernel
theorem dX9_pilePuts_128 : decode cX9_pilePuts 128 = .ok (.getfield 105, 3) := by decide +kernel
theorem dX9_pilePuts_131 : decode cX9_pilePuts 131 = .ok (.iconst 1, 1) := by decide +kernel
theorem dX9_pilePuts_132 : decode cX9_pilePuts 132 = .ok (.iadd, 1) := by decide +kernel
theorem dX9_pilePuts_133 : decode cX9_pilePuts 133 = .ok (.putfield 105, 3) := by decide +kernel
theorem dX9_pilePuts_136 : decode cX9_pilePuts 136 = .ok (.iinc 3 1, 3) := by decide +kernel
theorem dX9_pilePuts_139 : decode cX9_pilePuts 139 = .ok (.goto (-132), 3) := by decide +kernel
theorem dX9_pilePuts_142 : decode cX9_pilePuts 142 = .ok (.return_, 1) := by decide +kernel
theorem dX9_findOrder_0 : decode cX9_findOrder 0 = .ok (.aload_n 0, 1) := by decide +kernel
theorem dX9_findOrder_1 : decode cX9_findOrder 1 = .ok (.iconst 0, 1) := by decide +kernel
theorem dX9_findOrder_2 : decode cX9_findOrder 2 = .ok (.putfield 112, 3) := by decide +kernel
theorem dX9_findOrder_5 : decode cX9_findOrder 5 = .ok (.aload_n 0, 1) := by decide +kernel
theorem dX9_findOrder_6 : decode cX9_findOrder 6 = .ok (.iconst 0, 1) := by decide +kernel
theorem dX9_findOrder_7 : decode cX9_findOrder 7 = .ok (.putfield 105, 3) := by decide +kernel
theorem dX9_findOrder_10 : decode cX9_findOrder 10 = .ok (.aload_n 0, 1) := by decide +kernel
theorem dX9_findOrder_11 : decode cX9_findOrder 11 = .ok (.bipush (-2), 2) := by decide +kernel
theorem dX9_findOrder_13 : decode cX9_findOrder 13 = .ok (.invokevirtual 115, 3) := by decide +kernel
theorem dX9_findOrder_16 : decode cX9_findOrder 16 = .ok (.aload_n 0, 1) := by decide +kernel
theorem dX9_findOrder_17 : decode cX9_findOrder 17 = .ok (.getfield 105, 3) := by decide +kernel
theorem dX9_findOrder_20 : decode cX9_findOrder 20 = .ok (.ifCond .le 102, 3) := by decide +kernel
theorem dX9_findOrder_23 : decode cX9_findOrder 23 = .ok (.aload_n 0, 1) := by decide +kernel
theorem dX9_findOrder_24 : decode cX9_findOrder 24 = .ok (.getfield 62, 3) := by decide +kernel
theorem dX9_findOrder_27 : decode cX9_findOrder 27 = .ok (.aload_n 0, 1) := by decide +kernel
theorem dX9_findOrder_28 : decode cX9_findOrder 28 = .ok (.getfield 105, 3) := by decide +kernel
theorem dX9_findOrder_31 : decode cX9_findOrder 31 = .ok (.iconst 1, 1) := by decide +kernel
theorem dX9_findOrder_32 : decode cX9_findOrder 32 = .ok (.isub, 1) := by decide +kernel
theorem dX9_findOrder_33 : decode cX9_findOrder 33 = .ok (.iaload, 1) := by decide +kernel
theorem dX9_findOrder_34 : decode cX9_findOrder 34 = .ok (.istore_n 1, 1) := by decide +kernel
theorem dX9_findOrder_35 : decode cX9_findOrder 35 = .ok (.aload_n 0, 1) := by decide +kernel
theorem dX9_findOrder_36 : decode cX9_findOrder 36 = .ok (.getfield 65, 3) := by decide +kernel
theorem dX9_findOrder_39 : decode cX9_findOrder 39 = .ok (.aload_n 0, 1) := by decide +kernel
theorem dX9_findOrder_40 : decode cX9_findOrder 40 = .ok (.getfield 105, 3) := by decide +kernel
theorem dX9_findOrder_43 : decode cX9_findOrder 43 = .ok (.iconst 1, 1) := by decide +kernel
theorem dX9_findOrder_44 : decode cX9_findOrder 44 = .ok (.isub, 1) := by decide +kernel
theorem dX9_findOrder_45 : decode cX9_findOrder 45 = .ok (.iaload, 1) := by decide +kernel
theorem dX9_findOrder_46 : decode cX9_findOrder 46 = .ok (.istore_n 2, 1) := by decide +kernel
theorem dX9_findOrder_47 : decode cX9_findOrder 47 = .ok (.iload_n 2, 1) := by decide +kernel
theorem dX9_findOrder_48 : decode cX9_findOrder 48 = .ok (.iconst 1, 1) := by decide +kernel
theorem dX9_findOrder_49 : decode cX9_findOrder 49 = .ok (.iadd, 1) := by decide +kernel
theorem dX9_findOrder_50 : decode cX9_findOrder 50 = .ok (.aload_n 0, 1) := by decide +kernel
theorem dX9_findOrder_51 : decode cX9_findOrder 51 = .ok (.getfield 19, 3) := by decide +kernel
theorem dX9_findOrder_54 : decode cX9_findOrder 54 = .ok (.iload_n 1, 1) := by decide +kernel
theorem dX9_findOrder_55 : decode cX9_findOrder 55 = .ok (.iaload, 1) := by decide +kernel
theorem dX9_findOrder_56 : decode cX9_findOrder 56 = .ok (.if_icmp .ge 20, 3) := by decide +kernel
theorem dX9_findOrder_59 : decode cX9_findOrder 59 = .ok (.aload_n 0, 1) := by decide +kernel
theorem dX9_findOrder_60 : decode cX9_findOrder 60 = .ok (.getfield 65, 3) := by decide +kernel
theorem dX9_findOrder_63 : decode cX9_findOrder 63 = .ok (.aload_n 0, 1) := by decide +kernel
theorem dX9_findOrder_64 : decode cX9_findOrder 64 = .ok (.getfield 105, 3) := by decide +kernel
theorem dX9_findOrder_67 : decode cX9_findOrder 67 = .ok (.iconst 1, 1) := by decide +kernel
theorem dX9_findOrder_68 : decode cX9_findOrder 68 = .ok (.isub, 1) := by decide +kernel
theorem dX9_findOrder_69 : decode cX9_findOrder 69 = .ok (.iload_n 2, 1) := by decide +kernel
theorem dX9_findOrder_70 : decode cX9_findOrder 70 = .ok (.iconst 1, 1) := by decide +kernel
theorem dX9_findOrder_71 : decode cX9_findOrder 71 = .ok (.iadd, 1) := by decide +kernel
theorem dX9_findOrder_72 : decode cX9_findOrder 72 = .ok (.iastore, 1) := by decide +kernel
theorem dX9_findOrder_73 : decode cX9_findOrder 73 = .ok (.goto 13, 3) := by decide +kernel
theorem dX9_findOrder_76 : decode cX9_findOrder 76 = .ok (.aload_n 0, 1) := by decide +kernel
theorem dX9_findOrder_77 : decode cX9_findOrder 77 = .ok (.dup, 1) := by decide +kernel
theorem dX9_findOrder_78 : decode cX9_findOrder 78 = .ok (.getfield 105, 3) := by decide +kernel
theorem dX9_findOrder_81 : decode cX9_findOrder 81 = .ok (.iconst 1, 1) := by decide +kernel
theorem dX9_findOrder_82 : decode cX9_findOrder 82 = .ok (.isub, 1) := by decide +kernel
theorem dX9_findOrder_83 : decode cX9_findOrder 83 = .ok (.putfield 105, 3) := by decide +kernel
theorem dX9_findOrder_86 : decode cX9_findOrder 86 = .ok (.aload_n 0, 1) := by decide +kernel
theorem dX9_findOrder_87 : decode cX9_findOrder 87 = .ok (.getfield 53, 3) := by decide +kernel
theorem dX9_findOrder_90 : decode cX9_findOrder 90 = .ok (.aload_n 0, 1) := by decide +kernel
theorem dX9_findOrder_91 : decode cX9_findOrder 91 = .ok (.getfield 112, 3) := by decide +kernel
theorem dX9_findOrder_94 : decode cX9_findOrder 94 = .ok (.iconst 4, 1) := by decide +kernel
theorem dX9_findOrder_95 : decode cX9_findOrder 95 = .ok (.iload_n 1, 1) := by decide +kernel
theorem dX9_findOrder_96 : decode cX9_findOrder 96 = .ok (.imul, 1) := by decide +kernel
theorem dX9_findOrder_97 : decode cX9_findOrder 97 = .ok (.iload_n 2, 1) := by decide +kernel
theorem dX9_findOrder_98 : decode cX9_findOrder 98 = .ok (.iadd, 1) := by decide +kernel
theorem dX9_findOrder_99 : decode cX9_findOrder 99 = .ok (.iastore, 1) := by decide +kernel
theorem dX9_findOrder_100 : decode cX9_findOrder 100 = .ok (.aload_n 0, 1) := by decide +kernel
theorem dX9_findOrder_101 : decode cX9_findOrder 101 = .ok (.dup, 1) := by decide +kernel
theorem dX9_findOrder_102 : decode cX9_findOrder 102 = .ok (.getfield 112, 3) := by decide +kernel
theorem dX9_findOrder_105 : decode cX9_findOrder 105 = .ok (.iconst 1, 1) := by decide +kernel
theorem dX9_findOrder_106 : decode cX9_findOrder 106 = .ok (.iadd, 1) := by decide +kernel
theorem dX9_findOrder_107 : decode cX9_findOrder 107 = .ok (.putfield 112, 3) := by decide +kernel
theorem dX9_findOrder_110 : decode cX9_findOrder 110 = .ok (.aload_n 0, 1) := by decide +kernel
theorem dX9_findOrder_111 : decode cX9_findOrder 111 = .ok (.iconst 4, 1) := by decide +kernel
theorem dX9_findOrder_112 : decode cX9_findOrder 112 = .ok (.iload_n 1, 1) := by decide +kernel
theorem dX9_findOrder_113 : decode cX9_findOrder 113 = .ok (.imul, 1) := by decide +kernel
theorem dX9_findOrder_114 : decode cX9_findOrder 114 = .ok (.iload_n 2, 1) := by decide +kernel
theorem dX9_findOrder_115 : decode cX9_findOrder 115 = .ok (.iadd, 1) := by decide +kernel
theorem dX9_findOrder_116 : decode cX9_findOrder 116 = .ok (.invokevirtual 115, 3) := by decide +kernel
theorem dX9_findOrder_119 : decode cX9_findOrder 119 = .ok (.goto (-103), 3) := by decide +kernel
theorem dX9_findOrder_122 : decode cX9_findOrder 122 = .ok (.return_, 1) := by decide +kernel
theorem dX9_isStruck_0 : decode cX9_isStruck 0 = .ok (.aload_n 0, 1) := by decide +kernel
theorem dX9_isStruck_1 : decode cX9_isStruck 1 = .ok (.iload_n 1, 1) := by decide +kernel
theorem dX9_isStruck_2 : decode cX9_isStruck 2 = .ok (.invokevirtual 118, 3) := by decide +kernel
theorem dX9_isStruck_5 : decode cX9_isStruck 5 = .ok (.ifCond .le 7, 3) := by decide +kernel
theorem dX9_isStruck_8 : decode cX9_isStruck 8 = .ok (.iconst 1, 1) := by decide +kernel
theorem dX9_isStruck_9 : decode cX9_isStruck 9 = .ok (.goto 4, 3) := by decide +kernel
theorem dX9_isStruck_12 : decode cX9_isStruck 12 = .ok (.iconst 0, 1) := by decide +kernel
theorem dX9_isStruck_13 : decode cX9_isStruck 13 = .ok (.ireturn, 1) := by decide +kernel
theorem dX9_strikesOf_0 : decode cX9_strikesOf 0 = .ok (.iconst 0, 1) := by decide +kernel
theorem dX9_strikesOf_1 : decode cX9_strikesOf 1 = .ok (.istore_n 2, 1) := by decide +kernel
theorem dX9_strikesOf_2 : decode cX9_strikesOf 2 = .ok (.iconst 0, 1) := by decide +kernel
theorem dX9_strikesOf_3 : decode cX9_strikesOf 3 = .ok (.istore_n 3, 1) := by decide +kernel
theorem dX9_strikesOf_4 : decode cX9_strikesOf 4 = .ok (.iload_n 3, 1) := by decide +kernel
theorem dX9_strikesOf_5 : decode cX9_strikesOf 5 = .ok (.aload_n 0, 1) := by decide +kernel
theorem dX9_strikesOf_6 : decode cX9_strikesOf 6 = .ok (.getfield 84, 3) := by decide +kernel
theorem dX9_strikesOf_9 : decode cX9_strikesOf 9 = .ok (.if_icmp .ge 92, 3) := by decide +kernel
theorem dX9_strikesOf_12 : decode cX9_strikesOf 12 = .ok (.iconst 0, 1) := by decide +kernel
theorem dX9_strikesOf_13 : decode cX9_strikesOf 13 = .ok (.istore 4, 2) := by decide +kernel
theorem dX9_strikesOf_15 : decode cX9_strikesOf 15 = .ok (.iconst 0, 1) := by decide +kernel
theorem dX9_strikesOf_16 : decode cX9_strikesOf 16 = .ok (.istore 5, 2) := by decide +kernel
theorem dX9_strikesOf_18 : decode cX9_strikesOf 18 = .ok (.aload_n 0, 1) := by decide +kernel
theorem dX9_strikesOf_19 : decode cX9_strikesOf 19 = .ok (.getfield 50, 3) := by decide +kernel
theorem dX9_strikesOf_22 : decode cX9_strikesOf 22 = .ok (.iload_n 3, 1) := by decide +kernel
theorem dX9_strikesOf_23 : decode cX9_strikesOf 23 = .ok (.baload, 1) := by decide +kernel
theorem dX9_strikesOf_24 : decode cX9_strikesOf 24 = .ok (.ifCond .eq 58, 3) := by decide +kernel
theorem dX9_strikesOf_27 : decode cX9_strikesOf 27 = .ok (.aload_n 0, 1) := by decide +kernel
theorem dX9_strikesOf_28 : decode cX9_strikesOf 28 = .ok (.getfield 16, 3) := by decide +kernel
theorem dX9_strikesOf_31 : decode cX9_strikesOf 31 = .ok (.iload_n 3, 1) := by decide +kernel
theorem dX9_strikesOf_32 : decode cX9_strikesOf 32 = .ok (.iaload, 1) := by decide +kernel
theorem dX9_strikesOf_33 : decode cX9_strikesOf 33 = .ok (.iconst 1, 1) := by decide +kernel
theorem dX9_strikesOf_34 : decode cX9_strikesOf 34 = .ok (.if_icmp .ne 48, 3) := by decide +kernel
theorem dX9_strikesOf_37 : decode cX9_strikesOf 37 = .ok (.iload 5, 2) := by decide +kernel
theorem dX9_strikesOf_39 : decode cX9_strikesOf 39 = .ok (.aload_n 0, 1) := by decide +kernel
theorem dX9_strikesOf_40 : decode cX9_strikesOf 40 = .ok (.getfield 19, 3) := by decide +kernel
theorem dX9_strikesOf_43 : decode cX9_strikesOf 43 = .ok (.iload_n 3, 1) := by decide +kernel
theorem dX9_strikesOf_44 : decode cX9_strikesOf 44 = .ok (.iaload, 1) := by decide +kernel
theorem dX9_strikesOf_45 : decode cX9_strikesOf 45 = .ok (.if_icmp .ge 37, 3) := by decide +kernel
theorem dX9_strikesOf_48 : decode cX9_strikesOf 48 = .ok (.iload 4, 2) := by decide +kernel
theorem dX9_strikesOf_50 : decode cX9_strikesOf 50 = .ok (.ifCond .ne 19, 3) := by decide +kernel
theorem dX9_strikesOf_53 : decode cX9_strikesOf 53 = .ok (.aload_n 0, 1) := by decide +kernel
theorem dX9_strikesOf_54 : decode cX9_strikesOf 54 = .ok (.getfield 22, 3) := by decide +kernel
theorem dX9_strikesOf_57 : decode cX9_strikesOf 57 = .ok (.bipush 12, 2) := by decide +kernel
theorem dX9_strikesOf_59 : decode cX9_strikesOf 59 = .ok (.iload_n 3, 1) := by decide +kernel
theorem dX9_strikesOf_60 : decode cX9_strikesOf 60 = .ok (.imul, 1) := by decide +kernel
theorem dX9_strikesOf_61 : decode cX9_strikesOf 61 = .ok (.iload 5, 2) := by decide +kernel
theorem dX9_strikesOf_63 : decode cX9_strikesOf 63 = .ok (.iadd, 1) := by decide +kernel
theorem dX9_strikesOf_64 : decode cX9_strikesOf 64 = .ok (.iaload, 1) := by decide +kernel
theorem dX9_strikesOf_65 : decode cX9_strikesOf 65 = .ok (.iload_n 1, 1) := by decide +kernel
theorem dX9_strikesOf_66 : decode cX9_strikesOf 66 = .ok (.if_icmp .ne 7, 3) := by decide +kernel
theorem dX9_strikesOf_69 : decode cX9_strikesOf 69 = .ok (.iconst 1, 1) := by decide +kernel
theorem dX9_strikesOf_70 : decode cX9_strikesOf 70 = .ok (.goto 4, 3) := by decide +kernel
theorem dX9_strikesOf_73 : decode cX9_strikesOf 73 = .ok (.iconst 0, 1) := by decide +kernel
theorem dX9_strikesOf_74 : decode cX9_strikesOf 74 = .ok (.istore 4, 2) := by decide +kernel
theorem dX9_strikesOf_76 : decode cX9_strikesOf 76 = .ok (.iinc 5 1, 3) := by decide +kernel
theorem dX9_strikesOf_79 : decode cX9_strikesOf 79 = .ok (.goto (-61), 3) := by decide +kernel
theorem dX9_strikesOf_82 : decode cX9_strikesOf 82 = .ok (.iload_n 2, 1) := by decide +kernel
theorem dX9_strikesOf_83 : decode cX9_strikesOf 83 = .ok (.iload 4, 2) := by decide +kernel
theorem dX9_strikesOf_85 : decode cX9_strikesOf 85 = .ok (.ifCond .eq 7, 3) := by decide +kernel
theorem dX9_strikesOf_88 : decode cX9_strikesOf 88 = .ok (.iconst 1, 1) := by decide +kernel
theorem dX9_strikesOf_89 : decode cX9_strikesOf 89 = .ok (.goto 4, 3) := by decide +kernel
theorem dX9_strikesOf_92 : decode cX9_strikesOf 92 = .ok (.iconst 0, 1) := by decide +kernel
theorem dX9_strikesOf_93 : decode cX9_strikesOf 93 = .ok (.iadd, 1) := by decide +kernel
theorem dX9_strikesOf_94 : decode cX9_strikesOf 94 = .ok (.istore_n 2, 1) := by decide +kernel
theorem dX9_strikesOf_95 : decode cX9_strikesOf 95 = .ok (.iinc 3 1, 3) := by decide +kernel
theorem dX9_strikesOf_98 : decode cX9_strikesOf 98 = .ok (.goto (-94), 3) := by decide +kernel
theorem dX9_strikesOf_101 : decode cX9_strikesOf 101 = .ok (.iload_n 2, 1) := by decide +kernel
theorem dX9_strikesOf_102 : decode cX9_strikesOf 102 = .ok (.ireturn, 1) := by decide +kernel
theorem dX9_findText_0 : decode cX9_findText 0 = .ok (.aload_n 0, 1) := by decide +kernel
theorem dX9_findText_1 : decode cX9_findText 1 = .ok (.invokevirtual 122, 3) := by decide +kernel
theorem dX9_findText_4 : decode cX9_findText 4 = .ok (.aload_n 0, 1) := by decide +kernel
theorem dX9_findText_5 : decode cX9_findText 5 = .ok (.invokevirtual 125, 3) := by decide +kernel
theorem dX9_findText_8 : decode cX9_findText 8 = .ok (.iconst 0, 1) := by decide +kernel
theorem dX9_findText_9 : decode cX9_findText 9 = .ok (.istore_n 1, 1) := by decide +kernel
theorem dX9_findText_10 : decode cX9_findText 10 = .ok (.iconst 0, 1) := by decide +kernel
theorem dX9_findText_11 : decode cX9_findText 11 = .ok (.istore_n 2, 1) := by decide +kernel
theorem dX9_findText_12 : decode cX9_findText 12 = .ok (.iload_n 2, 1) := by decide +kernel
theorem dX9_findText_13 : decode cX9_findText 13 = .ok (.aload_n 0, 1) := by decide +kernel
theorem dX9_findText_14 : decode cX9_findText 14 = .ok (.getfield 112, 3) := by decide +kernel
theorem dX9_findText_17 : decode cX9_findText 17 = .ok (.if_icmp .ge 66, 3) := by decide +kernel
theorem dX9_findText_20 : decode cX9_findText 20 = .ok (.aload_n 0, 1) := by decide +kernel
theorem dX9_findText_21 : decode cX9_findText 21 = .ok (.getfield 56, 3) := by decide +kernel
theorem dX9_findText_24 : decode cX9_findText 24 = .ok (.iload_n 2, 1) := by decide +kernel
theorem dX9_findText_25 : decode cX9_findText 25 = .ok (.aload_n 0, 1) := by decide +kernel
theorem dX9_findText_26 : decode cX9_findText 26 = .ok (.getfield 50, 3) := by decide +kernel
theorem dX9_findText_29 : decode cX9_findText 29 = .ok (.aload_n 0, 1) := by decide +kernel
theorem dX9_findText_30 : decode cX9_findText 30 = .ok (.getfield 53, 3) := by decide +kernel
theorem dX9_findText_33 : decode cX9_findText 33 = .ok (.iload_n 2, 1) := by decide +kernel
theorem dX9_findText_34 : decode cX9_findText 34 = .ok (.iaload, 1) := by decide +kernel
theorem dX9_findText_35 : decode cX9_findText 35 = .ok (.iconst 4, 1) := by decide +kernel
theorem dX9_findText_36 : decode cX9_findText 36 = .ok (.idiv, 1) := by decide +kernel
theorem dX9_findText_37 : decode cX9_findText 37 = .ok (.baload, 1) := by decide +kernel
theorem dX9_findText_38 : decode cX9_findText 38 = .ok (.ifCond .eq 20, 3) := by decide +kernel
theorem dX9_findText_41 : decode cX9_findText 41 = .ok (.aload_n 0, 1) := by decide +kernel
theorem dX9_findText_42 : decode cX9_findText 42 = .ok (.aload_n 0, 1) := by decide +kernel
theorem dX9_findText_43 : decode cX9_findText 43 = .ok (.getfield 53, 3) := by decide +kernel
theorem dX9_findText_46 : decode cX9_findText 46 = .ok (.iload_n 2, 1) := by decide +kernel
theorem dX9_findText_47 : decode cX9_findText 47 = .ok (.iaload, 1) := by decide +kernel
theorem dX9_findText_48 : decode cX9_findText 48 = .ok (.invokevirtual 128, 3) := by decide +kernel
theorem dX9_findText_51 : decode cX9_findText 51 = .ok (.ifCond .ne 7, 3) := by decide +kernel
theorem dX9_findText_54 : decode cX9_findText 54 = .ok (.iconst 1, 1) := by decide +kernel
theorem dX9_findText_55 : decode cX9_findText 55 = .ok (.goto 4, 3) := by decide +kernel
theorem dX9_findText_58 : decode cX9_findText 58 = .ok (.iconst 0, 1) := by decide +kernel
theorem dX9_findText_59 : decode cX9_findText 59 = .ok (.bastore, 1) := by decide +kernel
theorem dX9_findText_60 : decode cX9_findText 60 = .ok (.iload_n 1, 1) := by decide +kernel
theorem dX9_findText_61 : decode cX9_findText 61 = .ok (.aload_n 0, 1) := by decide +kernel
theorem dX9_findText_62 : decode cX9_findText 62 = .ok (.getfield 56, 3) := by decide +kernel
theorem dX9_findText_65 : decode cX9_findText 65 = .ok (.iload_n 2, 1) := by decide +kernel
theorem dX9_findText_66 : decode cX9_findText 66 = .ok (.baload, 1) := by decide +kernel
theorem dX9_findText_67 : decode cX9_findText 67 = .ok (.ifCond .eq 7, 3) := by decide +kernel
theorem dX9_findText_70 : decode cX9_findText 70 = .ok (.iconst 1, 1) := by decide +kernel
theorem dX9_findText_71 : decode cX9_findText 71 = .ok (.goto 4, 3) := by decide +kernel
theorem dX9_findText_74 : decode cX9_findText 74 = .ok (.iconst 0, 1) := by decide +kernel
theorem dX9_findText_75 : decode cX9_findText 75 = .ok (.iadd, 1) := by decide +kernel
theorem dX9_findText_76 : decode cX9_findText 76 = .ok (.istore_n 1, 1) := by decide +kernel
theorem dX9_findText_77 : decode cX9_findText 77 = .ok (.iinc 2 1, 3) := by decide +kernel
theorem dX9_findText_80 : decode cX9_findText 80 = .ok (.goto (-68), 3) := by decide +kernel
theorem dX9_findText_83 : decode cX9_findText 83 = .ok (.iload_n 1, 1) := by decide +kernel
theorem dX9_findText_84 : decode cX9_findText 84 = .ok (.ireturn, 1) := by decide +kernel
theorem dX9_sheet_0 : decode cX9_sheet 0 = .ok (.aload_n 0, 1) := by decide +kernel
theorem dX9_sheet_1 : decode cX9_sheet 1 = .ok (.iload_n 1, 1) := by decide +kernel
theorem dX9_sheet_2 : decode cX9_sheet 2 = .ok (.invokevirtual 131, 3) := by decide +kernel
theorem dX9_sheet_5 : decode cX9_sheet 5 = .ok (.pop, 1) := by decide +kernel
theorem dX9_sheet_6 : decode cX9_sheet 6 = .ok (.aload_n 0, 1) := by decide +kernel
theorem dX9_sheet_7 : decode cX9_sheet 7 = .ok (.invokevirtual 134, 3) := by decide +kernel
theorem dX9_sheet_10 : decode cX9_sheet 10 = .ok (.ireturn, 1) := by decide +kernel
theorem dX9_atPlace_0 : decode cX9_atPlace 0 = .ok (.iload_n 1, 1) := by decide +kernel
theorem dX9_atPlace_1 : decode cX9_atPlace 1 = .ok (.istore_n 2, 1) := by decide +kernel
theorem dX9_atPlace_2 : decode cX9_atPlace 2 = .ok (.iconst 0, 1) := by decide +kernel
theorem dX9_atPlace_3 : decode cX9_atPlace 3 = .ok (.istore_n 3, 1) := by decide +kernel
theorem dX9_atPlace_4 : decode cX9_atPlace 4 = .ok (.iload_n 3, 1) := by decide +kernel
theorem dX9_atPlace_5 : decode cX9_atPlace 5 = .ok (.aload_n 0, 1) := by decide +kernel
theorem dX9_atPlace_6 : decode cX9_atPlace 6 = .ok (.getfield 112, 3) := by decide +kernel
theorem dX9_atPlace_9 : decode cX9_atPlace 9 = .ok (.if_icmp .ge 27, 3) := by decide +kernel
theorem dX9_atPlace_12 : decode cX9_atPlace 12 = .ok (.aload_n 0, 1) := by decide +kernel
theorem dX9_atPlace_13 : decode cX9_atPlace 13 = .ok (.getfield 56, 3) := by decide +kernel
theorem dX9_atPlace_16 : decode cX9_atPlace 16 = .ok (.iload_n 3, 1) := by decide +kernel
theorem dX9_atPlace_17 : decode cX9_atPlace 17 = .ok (.baload, 1) := by decide +kernel
theorem dX9_atPlace_18 : decode cX9_atPlace 18 = .ok (.ifCond .eq 12, 3) := by decide +kernel
theorem dX9_atPlace_21 : decode cX9_atPlace 21 = .ok (.iload_n 2, 1) := by decide +kernel
theorem dX9_atPlace_22 : decode cX9_atPlace 22 = .ok (.ifCond .ne 5, 3) := by decide +kernel
theorem dX9_atPlace_25 : decode cX9_atPlace 25 = .ok (.iload_n 3, 1) := by decide +kernel
theorem dX9_atPlace_26 : decode cX9_atPlace 26 = .ok (.ireturn, 1) := by decide +kernel
theorem dX9_atPlace_27 : decode cX9_atPlace 27 = .ok (.iinc 2 (-1), 3) := by decide +kernel
theorem dX9_atPlace_30 : decode cX9_atPlace 30 = .ok (.iinc 3 1, 3) := by decide +kernel
theorem dX9_atPlace_33 : decode cX9_atPlace 33 = .ok (.goto (-29), 3) := by decide +kernel
theorem dX9_atPlace_36 : decode cX9_atPlace 36 = .ok (.iconst (-1), 1) := by decide +kernel
theorem dX9_atPlace_37 : decode cX9_atPlace 37 = .ok (.ireturn, 1) := by decide +kernel
theorem dX9_inOrder_0 : decode cX9_inOrder 0 = .ok (.iconst (-1), 1) := by decide +kernel
theorem dX9_inOrder_1 : decode cX9_inOrder 1 = .ok (.istore_n 2, 1) := by decide +kernel
theorem dX9_inOrder_2 : decode cX9_inOrder 2 = .ok (.iconst 0, 1) := by decide +kernel
theorem dX9_inOrder_3 : decode cX9_inOrder 3 = .ok (.istore_n 3, 1) := by decide +kernel
theorem dX9_inOrder_4 : decode cX9_inOrder 4 = .ok (.iload_n 3, 1) := by decide +kernel
theorem dX9_inOrder_5 : decode cX9_inOrder 5 = .ok (.aload_n 0, 1) := by decide +kernel
theorem dX9_inOrder_6 : decode cX9_inOrder 6 = .ok (.getfield 112, 3) := by decide +kernel
theorem dX9_inOrder_9 : decode cX9_inOrder 9 = .ok (.if_icmp .ge 25, 3) := by decide +kernel
theorem dX9_inOrder_12 : decode cX9_inOrder 12 = .ok (.aload_n 0, 1) := by decide +kernel
theorem dX9_inOrder_13 : decode cX9_inOrder 13 = .ok (.getfield 53, 3) := by decide +kernel
theorem dX9_inOrder_16 : decode cX9_inOrder 16 = .ok (.iload_n 3, 1) := by decide +kernel
theorem dX9_inOrder_17 : decode cX9_inOrder 17 = .ok (.iaload, 1) := by decide +kernel
theorem dX9_inOrder_18 : decode cX9_inOrder 18 = .ok (.iload_n 1, 1) := by decide +kernel
theorem dX9_inOrder_19 : decode cX9_inOrder 19 = .ok (.if_icmp .ne 7, 3) := by decide +kernel
theorem dX9_inOrder_22 : decode cX9_inOrder 22 = .ok (.iload_n 3, 1) := by decide +kernel
theorem dX9_inOrder_23 : decode cX9_inOrder 23 = .ok (.goto 4, 3) := by decide +kernel
theorem dX9_inOrder_26 : decode cX9_inOrder 26 = .ok (.iload_n 2, 1) := by decide +kernel
theorem dX9_inOrder_27 : decode cX9_inOrder 27 = .ok (.istore_n 2, 1) := by decide +kernel
theorem dX9_inOrder_28 : decode cX9_inOrder 28 = .ok (.iinc 3 1, 3) := by decide +kernel
theorem dX9_inOrder_31 : decode cX9_inOrder 31 = .ok (.goto (-27), 3) := by decide +kernel
theorem dX9_inOrder_34 : decode cX9_inOrder 34 = .ok (.iload_n 2, 1) := by decide +kernel
theorem dX9_inOrder_35 : decode cX9_inOrder 35 = .ok (.ireturn, 1) := by decide +kernel
theorem dX9_seenAhead_0 : decode cX9_seenAhead 0 = .ok (.iconst 0, 1) := by decide +kernel
theorem dX9_seenAhead_1 : decode cX9_seenAhead 1 = .ok (.istore_n 2, 1) := by decide +kernel
theorem dX9_seenAhead_2 : decode cX9_seenAhead 2 = .ok (.iconst 0, 1) := by decide +kernel
theorem dX9_seenAhead_3 : decode cX9_seenAhead 3 = .ok (.istore_n 3, 1) := by decide +kernel
theorem dX9_seenAhead_4 : decode cX9_seenAhead 4 = .ok (.iload_n 3, 1) := by decide +kernel
theorem dX9_seenAhead_5 : decode cX9_seenAhead 5 = .ok (.iload_n 1, 1) := by decide +kernel
theorem dX9_seenAhead_6 : decode cX9_seenAhead 6 = .ok (.if_icmp .ge 26, 3) := by decide +kernel
theorem dX9_seenAhead_9 : decode cX9_seenAhead 9 = .ok (.iload_n 2, 1) := by decide +kernel
theorem dX9_seenAhead_10 : decode cX9_seenAhead 10 = .ok (.aload_n 0, 1) := by decide +kernel
theorem dX9_seenAhead_11 : decode cX9_seenAhead 11 = .ok (.getfield 56, 3) := by decide +kernel
theorem dX9_seenAhead_14 : decode cX9_seenAhead 14 = .ok (.iload_n 3, 1) := by decide +kernel
theorem dX9_seenAhead_15 : decode cX9_seenAhead 15 = .ok (.baload, 1) := by decide +kernel
theorem dX9_seenAhead_16 : decode cX9_seenAhead 16 = .ok (.ifCond .eq 7, 3) := by decide +kernel
theorem dX9_seenAhead_19 : decode cX9_seenAhead 19 = .ok (.iconst 1, 1) := by decide +kernel
theorem dX9_seenAhead_20 : decode cX9_seenAhead 20 = .ok (.goto 4, 3) := by decide +kernel
theorem dX9_seenAhead_23 : decode cX9_seenAhead 23 = .ok (.iconst 0, 1) := by decide +kernel
theorem dX9_seenAhead_24 : decode cX9_seenAhead 24 = .ok (.iadd, 1) := by decide +kernel
theorem dX9_seenAhead_25 : decode cX9_seenAhead 25 = .ok (.istore_n 2, 1) := by decide +kernel
theorem dX9_seenAhead_26 : decode cX9_seenAhead 26 = .ok (.iinc 3 1, 3) := by decide +kernel
theorem dX9_seenAhead_29 : decode cX9_seenAhead 29 = .ok (.goto (-25), 3) := by decide +kernel
theorem dX9_seenAhead_32 : decode cX9_seenAhead 32 = .ok (.iload_n 2, 1) := by decide +kernel
theorem dX9_seenAhead_33 : decode cX9_seenAhead 33 = .ok (.ireturn, 1) := by decide +kernel
theorem dX9_covers_0 : decode cX9_covers 0 = .ok (.aload_n 0, 1) := by decide +kernel
theorem dX9_covers_1 : decode cX9_covers 1 = .ok (.aload_n 0, 1) := by decide +kernel
theorem dX9_covers_2 : decode cX9_covers 2 = .ok (.getfield 22, 3) := by decide +kernel
theorem dX9_covers_5 : decode cX9_covers 5 = .ok (.bipush 12, 2) := by decide +kernel
theorem dX9_covers_7 : decode cX9_covers 7 = .ok (.iload_n 1, 1) := by decide +kernel
theorem dX9_covers_8 : decode cX9_covers 8 = .ok (.imul, 1) := by decide +kernel
theorem dX9_covers_9 : decode cX9_covers 9 = .ok (.iaload, 1) := by decide +kernel
theorem dX9_covers_10 : decode cX9_covers 10 = .ok (.invokevirtual 138, 3) := by decide +kernel
theorem dX9_covers_13 : decode cX9_covers 13 = .ok (.istore_n 3, 1) := by decide +kernel
theorem dX9_covers_14 : decode cX9_covers 14 = .ok (.aload_n 0, 1) := by decide +kernel
theorem dX9_covers_15 : decode cX9_covers 15 = .ok (.aload_n 0, 1) := by decide +kernel
theorem dX9_covers_16 : decode cX9_covers 16 = .ok (.getfield 22, 3) := by decide +kernel
theorem dX9_covers_19 : decode cX9_covers 19 = .ok (.bipush 12, 2) := by decide +kernel
theorem dX9_covers_21 : decode cX9_covers 21 = .ok (.iload_n 1, 1) := by decide +kernel
theorem dX9_covers_22 : decode cX9_covers 22 = .ok (.imul, 1) := by decide +kernel
theorem dX9_covers_23 : decode cX9_covers 23 = .ok (.iconst 1, 1) := by decide +kernel
theorem dX9_covers_24 : decode cX9_covers 24 = .ok (.iadd, 1) := by decide +kernel
theorem dX9_covers_25 : decode cX9_covers 25 = .ok (.iaload, 1) := by decide +kernel
theorem dX9_covers_26 : decode cX9_covers 26 = .ok (.invokevirtual 138, 3) := by decide +kernel
theorem dX9_covers_29 : decode cX9_covers 29 = .ok (.istore 4, 2) := by decide +kernel
theorem dX9_covers_31 : decode cX9_covers 31 = .ok (.iload_n 2, 1) := by decide +kernel
theorem dX9_covers_32 : decode cX9_covers 32 = .ok (.iload_n 3, 1) := by decide +kernel
theorem dX9_covers_33 : decode cX9_covers 33 = .ok (.if_icmp .lt 11, 3) := by decide +kernel
theorem dX9_covers_36 : decode cX9_covers 36 = .ok (.iload_n 2, 1) := by decide +kernel
theorem dX9_covers_37 : decode cX9_covers 37 = .ok (.iload 4, 2) := by decide +kernel
theorem dX9_covers_39 : decode cX9_covers 39 = .ok (.if_icmp .gt 5, 3) := by decide +kernel
theorem dX9_covers_42 : decode cX9_covers 42 = .ok (.iconst 1, 1) := by decide +kernel
theorem dX9_covers_43 : decode cX9_covers 43 = .ok (.ireturn, 1) := by decide +kernel
theorem dX9_covers_44 : decode cX9_covers 44 = .ok (.iload_n 2, 1) := by decide +kernel
theorem dX9_covers_45 : decode cX9_covers 45 = .ok (.iload_n 3, 1) := by decide +kernel
theorem dX9_covers_46 : decode cX9_covers 46 = .ok (.if_icmp .lt 14, 3) := by decide +kernel
theorem dX9_covers_49 : decode cX9_covers 49 = .ok (.aload_n 0, 1) := by decide +kernel
theorem dX9_covers_50 : decode cX9_covers 50 = .ok (.getfield 28, 3) := by decide +kernel
theorem dX9_covers_53 : decode cX9_covers 53 = .ok (.iload_n 1, 1) := by decide +kernel
theorem dX9_covers_54 : decode cX9_covers 54 = .ok (.iaload, 1) := by decide +kernel
theorem dX9_covers_55 : decode cX9_covers 55 = .ok (.bipush (-3), 2) := by decide +kernel
theorem dX9_covers_57 : decode cX9_covers 57 = .ok (.if_icmp .ne 5, 3) := by decide +kernel
theorem dX9_covers_60 : decode cX9_covers 60 = .ok (.iconst 0, 1) := by decide +kernel
theorem dX9_covers_61 : decode cX9_covers 61 = .ok (.ireturn, 1) := by decide +kernel
theorem dX9_covers_62 : decode cX9_covers 62 = .ok (.aload_n 0, 1) := by decide +kernel
theorem dX9_covers_63 : decode cX9_covers 63 = .ok (.getfield 28, 3) := by decide +kernel
theorem dX9_covers_66 : decode cX9_covers 66 = .ok (.iload_n 1, 1) := by decide +kernel
theorem dX9_covers_67 : decode cX9_covers 67 = .ok (.iaload, 1) := by decide +kernel
theorem dX9_covers_68 : decode cX9_covers 68 = .ok (.bipush (-2), 2) := by decide +kernel
theorem dX9_covers_70 : decode cX9_covers 70 = .ok (.if_icmp .eq 17, 3) := by decide +kernel
theorem dX9_covers_73 : decode cX9_covers 73 = .ok (.iload_n 2, 1) := by decide +kernel
theorem dX9_covers_74 : decode cX9_covers 74 = .ok (.aload_n 0, 1) := by decide +kernel
theorem dX9_covers_75 : decode cX9_covers 75 = .ok (.aload_n 0, 1) := by decide +kernel
theorem dX9_covers_76 : decode cX9_covers 76 = .ok (.getfield 28, 3) := by decide +kernel
theorem dX9_covers_79 : decode cX9_covers 79 = .ok (.iload_n 1, 1) := by decide +kernel
theorem dX9_covers_80 : decode cX9_covers 80 = .ok (.iaload, 1) := by decide +kernel
theorem dX9_covers_81 : decode cX9_covers 81 = .ok (.invokevirtual 138, 3) := by decide +kernel
theorem dX9_covers_84 : decode cX9_covers 84 = .ok (.if_icmp .ge 7, 3) := by decide +kernel
theorem dX9_covers_87 : decode cX9_covers 87 = .ok (.iconst 1, 1) := by decide +kernel
theorem dX9_covers_88 : decode cX9_covers 88 = .ok (.goto 4, 3) := by decide +kernel
theorem dX9_covers_91 : decode cX9_covers 91 = .ok (.iconst 0, 1) := by decide +kernel
theorem dX9_covers_92 : decode cX9_covers 92 = .ok (.ireturn, 1) := by decide +kernel
theorem dX9_hasTint_0 : decode cX9_hasTint 0 = .ok (.iconst (-1), 1) := by decide +kernel
theorem dX9_hasTint_1 : decode cX9_hasTint 1 = .ok (.istore_n 3, 1) := by decide +kernel
theorem dX9_hasTint_2 : decode cX9_hasTint 2 = .ok (.iconst 0, 1) := by decide +kernel
theorem dX9_hasTint_3 : decode cX9_hasTint 3 = .ok (.istore 4, 2) := by decide +kernel
theorem dX9_hasTint_5 : decode cX9_hasTint 5 = .ok (.iload 4, 2) := by decide +kernel
theorem dX9_hasTint_7 : decode cX9_hasTint 7 = .ok (.aload_n 0, 1) := by decide +kernel
theorem dX9_hasTint_8 : decode cX9_hasTint 8 = .ok (.getfield 84, 3) := by decide +kernel
theorem dX9_hasTint_11 : decode cX9_hasTint 11 = .ok (.if_icmp .ge 72, 3) := by decide +kernel
theorem dX9_hasTint_14 : decode cX9_hasTint 14 = .ok (.aload_n 0, 1) := by decide +kernel
theorem dX9_hasTint_15 : decode cX9_hasTint 15 = .ok (.getfield 50, 3) := by decide +kernel
theorem dX9_hasTint_18 : decode cX9_hasTint 18 = .ok (.iload 4, 2) := by decide +kernel
theorem dX9_hasTint_20 : decode cX9_hasTint 20 = .ok (.baload, 1) := by decide +kernel
theorem dX9_hasTint_21 : decode cX9_hasTint 21 = .ok (.ifCond .eq 56, 3) := by decide +kernel
theorem dX9_hasTint_24 : decode cX9_hasTint 24 = .ok (.aload_n 0, 1) := by decide +kernel
theorem dX9_hasTint_25 : decode cX9_hasTint 25 = .ok (.getfield 16, 3) := by decide +kernel
theorem dX9_hasTint_28 : decode cX9_hasTint 28 = .ok (.iload 4, 2) := by decide +kernel
theorem dX9_hasTint_30 : decode cX9_hasTint 30 = .ok (.iaload, 1) := by decide +kernel
theorem dX9_hasTint_31 : decode cX9_hasTint 31 = .ok (.iconst 2, 1) := by decide +kernel
theorem dX9_hasTint_32 : decode cX9_hasTint 32 = .ok (.if_icmp .ne 45, 3) := by decide +kernel
theorem dX9_hasTint_35 : decode cX9_hasTint 35 = .ok (.aload_n 0, 1) := by decide +kernel
theorem dX9_hasTint_36 : decode cX9_hasTint 36 = .ok (.getfield 31, 3) := by decide +kernel
theorem dX9_hasTint_39 : decode cX9_hasTint 39 = .ok (.iload 4, 2) := by decide +kernel
theorem dX9_hasTint_41 : decode cX9_hasTint 41 = .ok (.iaload, 1) := by decide +kernel
theorem dX9_hasTint_42 : decode cX9_hasTint 42 = .ok (.iload_n 2, 1) := by decide +kernel
theorem dX9_hasTint_43 : decode cX9_hasTint 43 = .ok (.if_icmp .ne 34, 3) := by decide +kernel
theorem dX9_hasTint_46 : decode cX9_hasTint 46 = .ok (.aload_n 0, 1) := by decide +kernel
theorem dX9_hasTint_47 : decode cX9_hasTint 47 = .ok (.iload 4, 2) := by decide +kernel
theorem dX9_hasTint_49 : decode cX9_hasTint 49 = .ok (.iload_n 1, 1) := by decide +kernel
theorem dX9_hasTint_50 : decode cX9_hasTint 50 = .ok (.invokevirtual 141, 3) := by decide +kernel
theorem dX9_hasTint_53 : decode cX9_hasTint 53 = .ok (.ifCond .eq 24, 3) := by decide +kernel
theorem dX9_hasTint_56 : decode cX9_hasTint 56 = .ok (.iload_n 3, 1) := by decide +kernel
theorem dX9_hasTint_57 : decode cX9_hasTint 57 = .ok (.ifCond .lt 13, 3) := by decide +kernel
theorem dX9_hasTint_60 : decode cX9_hasTint 60 = .ok (.aload_n 0, 1) := by decide +kernel
theorem dX9_hasTint_61 : decode cX9_hasTint 61 = .ok (.iload 4, 2) := by decide +kernel
theorem dX9_hasTint_63 : decode cX9_hasTint 63 = .ok (.iload_n 3, 1) := by decide +kernel
theorem dX9_hasTint_64 : decode cX9_hasTint 64 = .ok (.invokevirtual 108, 3) := by decide +kernel
theorem dX9_hasTint_67 : decode cX9_hasTint 67 = .ok (.ifCond .eq 8, 3) := by decide +kernel
theorem dX9_hasTint_70 : decode cX9_hasTint 70 = .ok (.iload 4, 2) := by decide +kernel
theorem dX9_hasTint_72 : decode cX9_hasTint 72 = .ok (.goto 4, 3) := by decide +kernel
theorem dX9_hasTint_75 : decode cX9_hasTint 75 = .ok (.iload_n 3, 1) := by decide +kernel
theorem dX9_hasTint_76 : decode cX9_hasTint 76 = .ok (.istore_n 3, 1) := by decide +kernel
theorem dX9_hasTint_77 : decode cX9_hasTint 77 = .ok (.iinc 4 1, 3) := by decide +kernel
theorem dX9_hasTint_80 : decode cX9_hasTint 80 = .ok (.goto (-75), 3) := by decide +kernel
theorem dX9_hasTint_83 : decode cX9_hasTint 83 = .ok (.iload_n 3, 1) := by decide +kernel
theorem dX9_hasTint_84 : decode cX9_hasTint 84 = .ok (.ifCond .lt 16, 3) := by decide +kernel
theorem dX9_hasTint_87 : decode cX9_hasTint 87 = .ok (.aload_n 0, 1) := by decide +kernel
theorem dX9_hasTint_88 : decode cX9_hasTint 88 = .ok (.getfield 34, 3) := by decide +kernel
theorem dX9_hasTint_91 : decode cX9_hasTint 91 = .ok (.iload_n 3, 1) := by decide +kernel
theorem dX9_hasTint_92 : decode cX9_hasTint 92 = .ok (.baload, 1) := by decide +kernel
theorem dX9_hasTint_93 : decode cX9_hasTint 93 = .ok (.ifCond .eq 7, 3) := by decide +kernel
theorem dX9_hasTint_96 : decode cX9_hasTint 96 = .ok (.iconst 1, 1) := by decide +kernel
theorem dX9_hasTint_97 : decode cX9_hasTint 97 = .ok (.goto 4, 3) := by decide +kernel
theorem dX9_hasTint_100 : decode cX9_hasTint 100 = .ok (.iconst 0, 1) := by decide +kernel
theorem dX9_hasTint_101 : decode cX9_hasTint 101 = .ok (.ireturn, 1) := by decide +kernel
theorem dX9_tintsOf_0 : decode cX9_tintsOf 0 = .ok (.iconst 0, 1) := by decide +kernel
theorem dX9_tintsOf_1 : decode cX9_tintsOf 1 = .ok (.istore_n 2, 1) := by decide +kernel
theorem dX9_tintsOf_2 : decode cX9_tintsOf 2 = .ok (.iconst 0, 1) := by decide +kernel
theorem dX9_tintsOf_3 : decode cX9_tintsOf 3 = .ok (.istore_n 3, 1) := by decide +kernel
theorem dX9_tintsOf_4 : decode cX9_tintsOf 4 = .ok (.iload_n 3, 1) := by decide +kernel
theorem dX9_tintsOf_5 : decode cX9_tintsOf 5 = .ok (.iconst 4, 1) := by decide +kernel
theorem dX9_tintsOf_6 : decode cX9_tintsOf 6 = .ok (.if_icmp .ge 28, 3) := by decide +kernel
theorem dX9_tintsOf_9 : decode cX9_tintsOf 9 = .ok (.iload_n 2, 1) := by decide +kernel
theorem dX9_tintsOf_10 : decode cX9_tintsOf 10 = .ok (.aload_n 0, 1) := by decide +kernel
theorem dX9_tintsOf_11 : decode cX9_tintsOf 11 = .ok (.iload_n 1, 1) := by decide +kernel
theorem dX9_tintsOf_12 : decode cX9_tintsOf 12 = .ok (.iload_n 3, 1) := by decide +kernel
theorem dX9_tintsOf_13 : decode cX9_tintsOf 13 = .ok (.invokevirtual 144, 3) := by decide +kernel
theorem dX9_tintsOf_16 : decode cX9_tintsOf 16 = .ok (.ifCond .eq 9, 3) := by decide +kernel
theorem dX9_tintsOf_19 : decode cX9_tintsOf 19 = .ok (.iconst 1, 1) := by decide +kernel
theorem dX9_tintsOf_20 : decode cX9_tintsOf 20 = .ok (.iload_n 3, 1) := by decide +kernel
theorem dX9_tintsOf_21 : decode cX9_tintsOf 21 = .ok (.ishl, 1) := by decide +kernel
theorem dX9_tintsOf_22 : decode cX9_tintsOf 22 = .ok (.goto 4, 3) := by decide +kernel
theorem dX9_tintsOf_25 : decode cX9_tintsOf 25 = .ok (.iconst 0, 1) := by decide +kernel
theorem dX9_tintsOf_26 : decode cX9_tintsOf 26 = .ok (.iadd, 1) := by decide +kernel
theorem dX9_tintsOf_27 : decode cX9_tintsOf 27 = .ok (.istore_n 2, 1) := by decide +kernel
theorem dX9_tintsOf_28 : decode cX9_tintsOf 28 = .ok (.iinc 3 1, 3) := by decide +kernel
theorem dX9_tintsOf_31 : decode cX9_tintsOf 31 = .ok (.goto (-27), 3) := by decide +kernel
theorem dX9_tintsOf_34 : decode cX9_tintsOf 34 = .ok (.iload_n 2, 1) := by decide +kernel
theorem dX9_tintsOf_35 : decode cX9_tintsOf 35 = .ok (.ireturn, 1) := by decide +kernel
theorem dX9_make_0 : decode cX9_make 0 = .ok (.iconst 0, 1) := by decide +kernel
theorem dX9_make_1 : decode cX9_make 1 = .ok (.istore 4, 2) := by decide +kernel
theorem dX9_make_3 : decode cX9_make 3 = .ok (.iconst 0, 1) := by decide +kernel
theorem dX9_make_4 : decode cX9_make 4 = .ok (.istore 5, 2) := by decide +kernel
theorem dX9_make_6 : decode cX9_make 6 = .ok (.iload 5, 2) := by decide +kernel
theorem dX9_make_8 : decode cX9_make 8 = .ok (.aload_n 0, 1) := by decide +kernel
theorem dX9_make_9 : decode cX9_make 9 = .ok (.getfield 84, 3) := by decide +kernel
theorem dX9_make_12 : decode cX9_make 12 = .ok (.if_icmp .ge 45, 3) := by decide +kernel
theorem dX9_make_15 : decode cX9_make 15 = .ok (.aload_n 0, 1) := by decide +kernel
theorem dX9_make_16 : decode cX9_make 16 = .ok (.getfield 47, 3) := by decide +kernel
theorem dX9_make_19 : decode cX9_make 19 = .ok (.iload 5, 2) := by decide +kernel
theorem dX9_make_21 : decode cX9_make 21 = .ok (.baload, 1) := by decide +kernel
theorem dX9_make_22 : decode cX9_make 22 = .ok (.ifCond .eq 25, 3) := by decide +kernel
theorem dX9_make_25 : decode cX9_make 25 = .ok (.aload_n 0, 1) := by decide +kernel
theorem dX9_make_26 : decode cX9_make 26 = .ok (.getfield 13, 3) := by decide +kernel
theorem dX9_make_29 : decode cX9_make 29 = .ok (.iload 5, 2) := by decide +kernel
theorem dX9_make_31 : decode cX9_make 31 = .ok (.iaload, 1) := by decide +kernel
theorem dX9_make_32 : decode cX9_make 32 = .ok (.iload 4, 2) := by decide +kernel
theorem dX9_make_34 : decode cX9_make 34 = .ok (.if_icmp .le 13, 3) := by decide +kernel
theorem dX9_make_37 : decode cX9_make 37 = .ok (.aload_n 0, 1) := by decide +kernel
theorem dX9_make_38 : decode cX9_make 38 = .ok (.getfield 13, 3) := by decide +kernel
theorem dX9_make_41 : decode cX9_make 41 = .ok (.iload 5, 2) := by decide +kernel
theorem dX9_make_43 : decode cX9_make 43 = .ok (.iaload, 1) := by decide +kernel
theorem dX9_make_44 : decode cX9_make 44 = .ok (.goto 5, 3) := by decide +kernel
theorem dX9_make_47 : decode cX9_make 47 = .ok (.iload 4, 2) := by decide +kernel
theorem dX9_make_49 : decode cX9_make 49 = .ok (.istore 4, 2) := by decide +kernel
theorem dX9_make_51 : decode cX9_make 51 = .ok (.iinc 5 1, 3) := by decide +kernel
theorem dX9_make_54 : decode cX9_make 54 = .ok (.goto (-48), 3) := by decide +kernel
theorem dX9_make_57 : decode cX9_make 57 = .ok (.aload_n 0, 1) := by decide +kernel
theorem dX9_make_58 : decode cX9_make 58 = .ok (.getfield 7, 3) := by decide +kernel
theorem dX9_make_61 : decode cX9_make 61 = .ok (.aload_n 0, 1) := by decide +kernel
theorem dX9_make_62 : decode cX9_make 62 = .ok (.getfield 84, 3) := by decide +kernel
theorem dX9_make_65 : decode cX9_make 65 = .ok (.iload_n 1, 1) := by decide +kernel
theorem dX9_make_66 : decode cX9_make 66 = .ok (.iastore, 1) := by decide +kernel
theorem dX9_make_67 : decode cX9_make 67 = .ok (.aload_n 0, 1) := by decide +kernel
theorem dX9_make_68 : decode cX9_make 68 = .ok (.getfield 13, 3) := by decide +kernel
theorem dX9_make_71 : decode cX9_make 71 = .ok (.aload_n 0, 1) := by decide +kernel
theorem dX9_make_72 : decode cX9_make 72 = .ok (.getfield 84, 3) := by decide +kernel
theorem dX9_make_75 : decode cX9_make 75 = .ok (.iload 4, 2) := by decide +kernel
theorem dX9_make_77 : decode cX9_make 77 = .ok (.iconst 1, 1) := by decide +kernel
theorem dX9_make_78 : decode cX9_make 78 = .ok (.iadd, 1) := by decide +kernel
theorem dX9_make_79 : decode cX9_make 79 = .ok (.iastore, 1) := by decide +kernel
theorem dX9_make_80 : decode cX9_make 80 = .ok (.aload_n 0, 1) := by decide +kernel
theorem dX9_make_81 : decode cX9_make 81 = .ok (.getfield 16, 3) := by decide +kernel
theorem dX9_make_84 : decode cX9_make 84 = .ok (.aload_n 0, 1) := by decide +kernel
theorem dX9_make_85 : decode cX9_make 85 = .ok (.getfield 84, 3) := by decide +kernel
theorem dX9_make_88 : decode cX9_make 88 = .ok (.iload_n 2, 1) := by decide +kernel
theorem dX9_make_89 : decode cX9_make 89 = .ok (.iastore, 1) := by decide +kernel
theorem dX9_make_90 : decode cX9_make 90 = .ok (.aload_n 0, 1) := by decide +kernel
theorem dX9_make_91 : decode cX9_make 91 = .ok (.getfield 19, 3) := by decide +kernel
theorem dX9_make_94 : decode cX9_make 94 = .ok (.aload_n 0, 1) := by decide +kernel
theorem dX9_make_95 : decode cX9_make 95 = .ok (.getfield 84, 3) := by decide +kernel
theorem dX9_make_98 : decode cX9_make 98 = .ok (.iload_n 3, 1) := by decide +kernel
theorem dX9_make_99 : decode cX9_make 99 = .ok (.iastore, 1) := by decide +kernel
theorem dX9_make_100 : decode cX9_make 100 = .ok (.aload_n 0, 1) := by decide +kernel
theorem dX9_make_101 : decode cX9_make 101 = .ok (.getfield 28, 3) := by decide +kernel
theorem dX9_make_104 : decode cX9_make 104 = .ok (.aload_n 0, 1) := by decide +kernel
theorem dX9_make_105 : decode cX9_make 105 = .ok (.getfield 84, 3) := by decide +kernel
theorem dX9_make_108 : decode cX9_make 108 = .ok (.bipush (-3), 2) := by decide +kernel
theorem dX9_make_110 : decode cX9_make 110 = .ok (.iastore, 1) := by decide +kernel
theorem dX9_make_111 : decode cX9_make 111 = .ok (.iconst 0, 1) := by decide +kernel
theorem dX9_make_112 : decode cX9_make 112 = .ok (.istore 5, 2) := by decide +kernel
theorem dX9_make_114 : decode cX9_make 114 = .ok (.iload 5, 2) := by decide +kernel
theorem dX9_make_116 : decode cX9_make 116 = .ok (.bipush 6, 2) := by decide +kernel
theorem dX9_make_118 : decode cX9_make 118 = .ok (.if_icmp .ge 36, 3) := by decide +kernel
theorem dX9_make_121 : decode cX9_make 121 = .ok (.aload_n 0, 1) := by decide +kernel
theorem dX9_make_122 : decode cX9_make 122 = .ok (.getfield 38, 3) := by decide +kernel
theorem dX9_make_125 : decode cX9_make 125 = .ok (.sipush 256, 3) := by decide +kernel
theorem dX9_make_128 : decode cX9_make 128 = .ok (.iload 5, 2) := by decide +kernel
theorem dX9_make_130 : decode cX9_make 130 = .ok (.imul, 1) := by decide +kernel
theorem dX9_make_131 : decode cX9_make 131 = .ok (.aload_n 0, 1) := by decide +kernel
theorem dX9_make_132 : decode cX9_make 132 = .ok (.getfield 84, 3) := by decide +kernel
theorem dX9_make_135 : decode cX9_make 135 = .ok (.iadd, 1) := by decide +kernel
theorem dX9_make_136 : decode cX9_make 136 = .ok (.iload 5, 2) := by decide +kernel
theorem dX9_make_138 : decode cX9_make 138 = .ok (.iload_n 1, 1) := by decide +kernel
theorem dX9_make_139 : decode cX9_make 139 = .ok (.if_icmp .ne 7, 3) := by decide +kernel
theorem dX9_make_142 : decode cX9_make 142 = .ok (.iconst 1, 1) := by decide +kernel
theorem dX9_make_143 : decode cX9_make 143 = .ok (.goto 4, 3) := by decide +kernel
theorem dX9_make_146 : decode cX9_make 146 = .ok (.iconst 0, 1) := by decide +kernel
theorem dX9_make_147 : decode cX9_make 147 = .ok (.bastore, 1) := by decide +kernel
theorem dX9_make_148 : decode cX9_make 148 = .ok (.iinc 5 1, 3) := by decide +kernel
theorem dX9_make_151 : decode cX9_make 151 = .ok (.goto (-37), 3) := by decide +kernel
theorem dX9_make_154 : decode cX9_make 154 = .ok (.aload_n 0, 1) := by decide +kernel
theorem dX9_make_155 : decode cX9_make 155 = .ok (.dup, 1) := by decide +kernel
theorem dX9_make_156 : decode cX9_make 156 = .ok (.getfield 84, 3) := by decide +kernel
theorem dX9_make_159 : decode cX9_make 159 = .ok (.iconst 1, 1) := by decide +kernel
theorem dX9_make_160 : decode cX9_make 160 = .ok (.iadd, 1) := by decide +kernel
theorem dX9_make_161 : decode cX9_make 161 = .ok (.putfield 84, 3) := by decide +kernel
theorem dX9_make_164 : decode cX9_make 164 = .ok (.aload_n 0, 1) := by decide +kernel
theorem dX9_make_165 : decode cX9_make 165 = .ok (.getfield 84, 3) := by decide +kernel
theorem dX9_make_168 : decode cX9_make 168 = .ok (.iconst 1, 1) := by decide +kernel
theorem dX9_make_169 : decode cX9_make 169 = .ok (.isub, 1) := by decide +kernel
theorem dX9_make_170 : decode cX9_make 170 = .ok (.ireturn, 1) := by decide +kernel
theorem dX9_type_0 : decode cX9_type 0 = .ok (.iload_n 1, 1) := by decide +kernel
theorem dX9_type_1 : decode cX9_type 1 = .ok (.invokestatic 147, 3) := by decide +kernel
theorem dX9_type_4 : decode cX9_type 4 = .ok (.ifCond .ne 9, 3) := by decide +kernel
theorem dX9_type_7 : decode cX9_type 7 = .ok (.aload_n 0, 1) := by decide +kernel
theorem dX9_type_8 : decode cX9_type 8 = .ok (.iconst 1, 1) := by decide +kernel
theorem dX9_type_9 : decode cX9_type 9 = .ok (.invokevirtual 150, 3) := by decide +kernel
theorem dX9_type_12 : decode cX9_type 12 = .ok (.ireturn, 1) := by decide +kernel
theorem dX9_type_13 : decode cX9_type 13 = .ok (.aload_n 0, 1) := by decide +kernel
theorem dX9_type_14 : decode cX9_type 14 = .ok (.iload_n 1, 1) := by decide +kernel
theorem dX9_type_15 : decode cX9_type 15 = .ok (.invokevirtual 153, 3) := by decide +kernel
theorem dX9_type_18 : decode cX9_type 18 = .ok (.istore 6, 2) := by decide +kernel
theorem dX9_type_20 : decode cX9_type 20 = .ok (.aload_n 0, 1) := by decide +kernel
theorem dX9_type_21 : decode cX9_type 21 = .ok (.getfield 68, 3) := by decide +kernel
theorem dX9_type_24 : decode cX9_type 24 = .ok (.iconst 0, 1) := by decide +kernel
theorem dX9_type_25 : decode cX9_type 25 = .ok (.iload_n 3, 1) := by decide +kernel
theorem dX9_type_26 : decode cX9_type 26 = .ok (.iastore, 1) := by decide +kernel
theorem dX9_type_27 : decode cX9_type 27 = .ok (.aload_n 0, 1) := by decide +kernel
theorem dX9_type_28 : decode cX9_type 28 = .ok (.getfield 68, 3) := by decide +kernel
theorem dX9_type_31 : decode cX9_type 31 = .ok (.iconst 1, 1) := by decide +kernel
theorem dX9_type_32 : decode cX9_type 32 = .ok (.iload 4, 2) := by decide +kernel
theorem dX9_type_34 : decode cX9_type 34 = .ok (.iastore, 1) := by decide +kernel
theorem dX9_type_35 : decode cX9_type 35 = .ok (.aload_n 0, 1) := by decide +kernel
theorem dX9_type_36 : decode cX9_type 36 = .ok (.getfield 68, 3) := by decide +kernel
theorem dX9_type_39 : decode cX9_type 39 = .ok (.iconst 2, 1) := by decide +kernel
theorem dX9_type_40 : decode cX9_type 40 = .ok (.iload 5, 2) := by decide +kernel
theorem dX9_type_42 : decode cX9_type 42 = .ok (.iastore, 1) := by decide +kernel
theorem dX9_type_43 : decode cX9_type 43 = .ok (.iconst 0, 1) := by decide +kernel
theorem dX9_type_44 : decode cX9_type 44 = .ok (.istore 7, 2) := by decide +kernel
theorem dX9_type_46 : decode cX9_type 46 = .ok (.iload_n 2, 1) := by decide +kernel
theorem dX9_type_47 : decode cX9_type 47 = .ok (.ifCond .lt 18, 3) := by decide +kernel
theorem dX9_type_50 : decode cX9_type 50 = .ok (.iload_n 2, 1) := by decide +kernel
theorem dX9_type_51 : decode cX9_type 51 = .ok (.iload 6, 2) := by decide +kernel
theorem dX9_type_53 : decode cX9_type 53 = .ok (.if_icmp .gt 12, 3) := by decide +kernel
theorem dX9_type_56 : decode cX9_type 56 = .ok (.iload_n 3, 1) := by decide +kernel
theorem dX9_type_57 : decode cX9_type 57 = .ok (.iconst (-1), 1) := by decide +kernel
theorem dX9_type_58 : decode cX9_type 58 = .ok (.if_icmp .eq 7, 3) := by decide +kernel
theorem dX9_type_61 : decode cX9_type 61 = .ok (.iconst 1, 1) := by decide +kernel
theorem dX9_type_62 : decode cX9_type 62 = .ok (.goto 4, 3) := by decide +kernel
theorem dX9_type_65 : decode cX9_type 65 = .ok (.iconst 0, 1) := by decide +kernel
theorem dX9_type_66 : decode cX9_type 66 = .ok (.istore 8, 2) := by decide +kernel
theorem dX9_type_68 : decode cX9_type 68 = .ok (.iload 7, 2) := by decide +kernel
theorem dX9_type_70 : decode cX9_type 70 = .ok (.iconst 3, 1) := by decide +kernel
theorem dX9_type_71 : decode cX9_type 71 = .ok (.if_icmp .ge 55, 3) := by decide +kernel
theorem dX9_type_74 : decode cX9_type 74 = .ok (.aload_n 0, 1) := by decide +kernel
theorem dX9_type_75 : decode cX9_type 75 = .ok (.getfield 68, 3) := by decide +kernel
theorem dX9_type_78 : decode cX9_type 78 = .ok (.iload 7, 2) := by decide +kernel
theorem dX9_type_80 : decode cX9_type 80 = .ok (.iaload, 1) := by decide +kernel
theorem dX9_type_81 : decode cX9_type 81 = .ok (.iconst (-1), 1) := by decide +kernel
theorem dX9_type_82 : decode cX9_type 82 = .ok (.if_icmp .eq 44, 3) := by decide +kernel
theorem dX9_type_85 : decode cX9_type 85 = .ok (.iload 8, 2) := by decide +kernel
theorem dX9_type_87 : decode cX9_type 87 = .ok (.ifCond .eq 30, 3) := by decide +kernel
theorem dX9_type_90 : decode cX9_type 90 = .ok (.aload_n 0, 1) := by decide +kernel
theorem dX9_type_91 : decode cX9_type 91 = .ok (.getfield 68, 3) := by decide +kernel
theorem dX9_type_94 : decode cX9_type 94 = .ok (.iload 7, 2) := by decide +kernel
theorem dX9_type_96 : decode cX9_type 96 = .ok (.iaload, 1) := by decide +kernel
theorem dX9_type_97 : decode cX9_type 97 = .ok (.ifCond .lt 20, 3) := by decide +kernel
theorem dX9_type_100 : decode cX9_type 100 = .ok (.aload_n 0, 1) := by decide +kernel
theorem dX9_type_101 : decode cX9_type 101 = .ok (.getfield 68, 3) := by decide +kernel
theorem dX9_type_104 : decode cX9_type 104 = .ok (.iload 7, 2) := by decide +kernel
theorem dX9_type_106 : decode cX9_type 106 = .ok (.iaload, 1) := by decide +kernel
theorem dX9_type_107 : decode cX9_type 107 = .ok (.sipush 255, 3) := by decide +kernel
theorem dX9_type_110 : decode cX9_type 110 = .ok (.if_icmp .gt 7, 3) := by decide +kernel
theorem dX9_type_113 : decode cX9_type 113 = .ok (.iconst 1, 1) := by decide +kernel
theorem dX9_type_114 : decode cX9_type 114 = .ok (.goto 4, 3) := by decide +kernel
theorem dX9_type_117 : decode cX9_type 117 = .ok (.iconst 0, 1) := by decide +kernel
theorem dX9_type_118 : decode cX9_type 118 = .ok (.istore 8, 2) := by decide +kernel
theorem dX9_type_120 : decode cX9_type 120 = .ok (.iinc 7 1, 3) := by decide +kernel
theorem dX9_type_123 : decode cX9_type 123 = .ok (.goto (-55), 3) := by decide +kernel
theorem dX9_type_126 : decode cX9_type 126 = .ok (.iload 8, 2) := by decide +kernel
theorem dX9_type_128 : decode cX9_type 128 = .ok (.ifCond .ne 9, 3) := by decide +kernel
theorem dX9_type_131 : decode cX9_type 131 = .ok (.aload_n 0, 1) := by decide +kernel
theorem dX9_type_132 : decode cX9_type 132 = .ok (.iconst 1, 1) := by decide +kernel
theorem dX9_type_133 : decode cX9_type 133 = .ok (.invokevirtual 150, 3) := by decide +kernel
theorem dX9_type_136 : decode cX9_type 136 = .ok (.ireturn, 1) := by decide +kernel
theorem dX9_type_137 : decode cX9_type 137 = .ok (.aload_n 0, 1) := by decide +kernel
theorem dX9_type_138 : decode cX9_type 138 = .ok (.getfield 84, 3) := by decide +kernel
theorem dX9_type_141 : decode cX9_type 141 = .ok (.sipush 256, 3) := by decide +kernel
theorem dX9_type_144 : decode cX9_type 144 = .ok (.if_icmp .ne 9, 3) := by decide +kernel
theorem dX9_type_147 : decode cX9_type 147 = .ok (.aload_n 0, 1) := by decide +kernel
theorem dX9_type_148 : decode cX9_type 148 = .ok (.iconst 2, 1) := by decide +kernel
theorem dX9_type_149 : decode cX9_type 149 = .ok (.invokevirtual 150, 3) := by decide +kernel
theorem dX9_type_152 : decode cX9_type 152 = .ok (.ireturn, 1) := by decide +kernel
theorem dX9_type_153 : decode cX9_type 153 = .ok (.iload_n 2, 1) := by decide +kernel
theorem dX9_type_154 : decode cX9_type 154 = .ok (.ifCond .ne 8, 3) := by decide +kernel
theorem dX9_type_157 : decode cX9_type 157 = .ok (.bipush (-2), 2) := by decide +kernel
theorem dX9_type_159 : decode cX9_type 159 = .ok (.goto 15, 3) := by decide +kernel
theorem dX9_type_162 : decode cX9_type 162 = .ok (.aload_n 0, 1) := by decide +kernel
theorem dX9_type_163 : decode cX9_type 163 = .ok (.getfield 53, 3) := by decide +kernel
theorem dX9_type_166 : decode cX9_type 166 = .ok (.aload_n 0, 1) := by decide +kernel
theorem dX9_type_167 : decode cX9_type 167 = .ok (.iload_n 2, 1) := by decide +kernel
theorem dX9_type_168 : decode cX9_type 168 = .ok (.iconst 1, 1) := by decide +kernel
theorem dX9_type_169 : decode cX9_type 169 = .ok (.isub, 1) := by decide +kernel
theorem dX9_type_170 : decode cX9_type 170 = .ok (.invokevirtual 156, 3) := by decide +kernel
theorem dX9_type_173 : decode cX9_type 173 = .ok (.iaload, 1) := by decide +kernel
theorem dX9_type_174 : decode cX9_type 174 = .ok (.istore 9, 2) := by decide +kernel
theorem dX9_type_176 : decode cX9_type 176 = .ok (.aload_n 0, 1) := by decide +kernel
theorem dX9_type_177 : decode cX9_type 177 = .ok (.iload_n 1, 1) := by decide +kernel
theorem dX9_type_178 : decode cX9_type 178 = .ok (.iconst 0, 1) := by decide +kernel
theorem dX9_type_179 : decode cX9_type 179 = .ok (.iload 7, 2) := by decide +kernel
theorem dX9_type_181 : decode cX9_type 181 = .ok (.invokevirtual 159, 3) := by decide +kernel
theorem dX9_type_184 : decode cX9_type 184 = .ok (.istore 10, 2) := by decide +kernel
theorem dX9_type_186 : decode cX9_type 186 = .ok (.aload_n 0, 1) := by decide +kernel
theorem dX9_type_187 : decode cX9_type 187 = .ok (.getfield 28, 3) := by decide +kernel
theorem dX9_type_190 : decode cX9_type 190 = .ok (.iload 10, 2) := by decide +kernel
theorem dX9_type_192 : decode cX9_type 192 = .ok (.iload 9, 2) := by decide +kernel
theorem dX9_type_194 : decode cX9_type 194 = .ok (.iastore, 1) := by decide +kernel
theorem dX9_type_195 : decode cX9_type 195 = .ok (.iconst 0, 1) := by decide +kernel
theorem dX9_type_196 : decode cX9_type 196 = .ok (.istore 11, 2) := by decide +kernel
theorem dX9_type_198 : decode cX9_type 198 = .ok (.iload 11, 2) := by decide +kernel
theorem dX9_type_200 : decode cX9_type 200 = .ok (.iload 7, 2) := by decide +kernel
theorem dX9_type_202 : decode cX9_type 202 = .ok (.if_icmp .ge 48, 3) := by decide +kernel
theorem dX9_type_205 : decode cX9_type 205 = .ok (.aload_n 0, 1) := by decide +kernel
theorem dX9_type_206 : decode cX9_type 206 = .ok (.getfield 25, 3) := by decide +kernel
theorem dX9_type_209 : decode cX9_type 209 = .ok (.iconst 4, 1) := by decide +kernel
theorem dX9_type_210 : decode cX9_type 210 = .ok (.iload 10, 2) := by decide +kernel
theorem dX9_type_212 : decode cX9_type 212 = .ok (.imul, 1) := by decide +kernel
theorem dX9_type_213 : decode cX9_type 213 = .ok (.iload 11, 2) := by decide +kernel
theorem dX9_type_215 : decode cX9_type 215 = .ok (.iadd, 1) := by decide +kernel
theorem dX9_type_216 : decode cX9_type 216 = .ok (.aload_n 0, 1) := by decide +kernel
theorem dX9_type_217 : decode cX9_type 217 = .ok (.getfield 68, 3) := by decide +kernel
theorem dX9_type_220 : decode cX9_type 220 = .ok (.iload 11, 2) := by decide +kernel
theorem dX9_type_222 : decode cX9_type 222 = .ok (.iaload, 1) := by decide +kernel
theorem dX9_type_223 : decode cX9_type 223 = .ok (.iastore, 1) := by decide +kernel
theorem dX9_type_224 : decode cX9_type 224 = .ok (.aload_n 0, 1) := by decide +kernel
theorem dX9_type_225 : decode cX9_type 225 = .ok (.getfield 22, 3) := by decide +kernel
theorem dX9_type_228 : decode cX9_type 228 = .ok (.bipush 12, 2) := by decide +kernel
theorem dX9_type_230 : decode cX9_type 230 = .ok (.iload 10, 2) := by decide +kernel
theorem dX9_type_232 : decode cX9_type 232 = .ok (.imul, 1) := by decide +kernel
theorem dX9_type_233 : decode cX9_type 233 = .ok (.iload 11, 2) := by decide +kernel
theorem dX9_type_235 : decode cX9_type 235 = .ok (.iadd, 1) := by decide +kernel
theorem dX9_type_236 : decode cX9_type 236 = .ok (.iconst 4, 1) := by decide +kernel
theorem dX9_type_237 : decode cX9_type 237 = .ok (.iload 10, 2) := by decide +kernel
theorem dX9_type_239 : decode cX9_type 239 = .ok (.imul, 1) := by decide +kernel
theorem dX9_type_240 : decode cX9_type 240 = .ok (.iload 11, 2) := by decide +kernel
theorem dX9_type_242 : decode cX9_type 242 = .ok (.iadd, 1) := by decide +kernel
theorem dX9_type_243 : decode cX9_type 243 = .ok (.iastore, 1) := by decide +kernel
theorem dX9_type_244 : decode cX9_type 244 = .ok (.iinc 11 1, 3) := by decide +kernel
theorem dX9_type_247 : decode cX9_type 247 = .ok (.goto (-49), 3) := by decide +kernel
theorem dX9_type_250 : decode cX9_type 250 = .ok (.aload_n 0, 1) := by decide +kernel
theorem dX9_type_251 : decode cX9_type 251 = .ok (.iload 10, 2) := by decide +kernel
theorem dX9_type_253 : decode cX9_type 253 = .ok (.invokevirtual 163, 3) := by decide +kernel
theorem dX9_type_256 : decode cX9_type 256 = .ok (.ireturn, 1) := by decide +kernel
theorem dX9_isRange_0 : decode cX9_isRange 0 = .ok (.iload_n 0, 1) := by decide +kernel
theorem dX9_isRange_1 : decode cX9_isRange 1 = .ok (.ifCond .lt 23, 3) := by decide +kernel
theorem dX9_isRange_4 : decode cX9_isRange 4 = .ok (.iload_n 1, 1) := by decide +kernel
theorem dX9_isRange_5 : decode cX9_isRange 5 = .ok (.ifCond .lt 19, 3) := by decide +kernel
theorem dX9_isRange_8 : decode cX9_isRange 8 = .ok (.iload_n 1, 1) := by decide +kernel
theorem dX9_isRange_9 : decode cX9_isRange 9 = .ok (.iload_n 2, 1) := by decide +kernel
theorem dX9_isRange_10 : decode cX9_isRange 10 = .ok (.if_icmp .gt 14, 3) := by decide +kernel
theorem dX9_isRange_13 : decode cX9_isRange 13 = .ok (.iload_n 0, 1) := by decide +kernel
theorem dX9_isRange_14 : decode cX9_isRange 14 = .ok (.iload_n 2, 1) := by decide +kernel
theorem dX9_isRange_15 : decode cX9_isRange 15 = .ok (.iload_n 1, 1) := by decide +kernel
theorem dX9_isRange_16 : decode cX9_isRange 16 = .ok (.isub, 1) := by decide +kernel
theorem dX9_isRange_17 : decode cX9_isRange 17 = .ok (.if_icmp .gt 7, 3) := by decide +kernel
theorem dX9_isRange_20 : decode cX9_isRange 20 = .ok (.iconst 1, 1) := by decide +kernel
theorem dX9_isRange_21 : decode cX9_isRange 21 = .ok (.goto 4, 3) := by decide +kernel
theorem dX9_isRange_24 : decode cX9_isRange 24 = .ok (.iconst 0, 1) := by decide +kernel
theorem dX9_isRange_25 : decode cX9_isRange 25 = .ok (.ireturn, 1) := by decide +kernel
theorem dX9_strike_0 : decode cX9_strike 0 = .ok (.iload_n 1, 1) := by decide +kernel
theorem dX9_strike_1 : decode cX9_strike 1 = .ok (.invokestatic 147, 3) := by decide +kernel
theorem dX9_strike_4 : decode cX9_strike 4 = .ok (.ifCond .ne 9, 3) := by decide +kernel
theorem dX9_strike_7 : decode cX9_strike 7 = .ok (.aload_n 0, 1) := by decide +kernel
theorem dX9_strike_8 : decode cX9_strike 8 = .ok (.iconst 1, 1) := by decide +kernel
theorem dX9_strike_9 : decode cX9_strike 9 = .ok (.invokevirtual 150, 3) := by decide +kernel
theorem dX9_strike_12 : decode cX9_strike 12 = .ok (.ireturn, 1) := by decide +kernel
theorem dX9_strike_13 : decode cX9_strike 13 = .ok (.iload_n 3, 1) := by decide +kernel
theorem dX9_strike_14 : decode cX9_strike 14 = .ok (.ifCond .ge 9, 3) := by decide +kernel
theorem dX9_strike_17 : decode cX9_strike 17 = .ok (.aload_n 0, 1) := by decide +kernel
theorem dX9_strike_18 : decode cX9_strike 18 = .ok (.iconst 5, 1) := by decide +kernel
theorem dX9_strike_19 : decode cX9_strike 19 = .ok (.invokevirtual 150, 3) := by decide +kernel
theorem dX9_strike_22 : decode cX9_strike 22 = .ok (.ireturn, 1) := by decide +kernel
theorem dX9_strike_23 : decode cX9_strike 23 = .ok (.aload_n 0, 1) := by decide +kernel
theorem dX9_strike_24 : decode cX9_strike 24 = .ok (.iload_n 1, 1) := by decide +kernel
theorem dX9_strike_25 : decode cX9_strike 25 = .ok (.invokevirtual 153, 3) := by decide +kernel
theorem dX9_strike_28 : decode cX9_strike 28 = .ok (.istore 4, 2) := by decide +kernel
theorem dX9_strike_30 : decode cX9_strike 30 = .ok (.iload_n 3, 1) := by decide +kernel
theorem dX9_strike_31 : decode cX9_strike 31 = .ok (.iconst 1, 1) := by decide +kernel
theorem dX9_strike_32 : decode cX9_strike 32 = .ok (.if_icmp .lt 19, 3) := by decide +kernel
theorem dX9_strike_35 : decode cX9_strike 35 = .ok (.iload_n 3, 1) := by decide +kernel
theorem dX9_strike_36 : decode cX9_strike 36 = .ok (.bipush 12, 2) := by decide +kernel
theorem dX9_strike_38 : decode cX9_strike 38 = .ok (.if_icmp .gt 13, 3) := by decide +kernel
theorem dX9_strike_41 : decode cX9_strike 41 = .ok (.iload_n 2, 1) := by decide +kernel
theorem dX9_strike_42 : decode cX9_strike 42 = .ok (.iload_n 3, 1) := by decide +kernel
theorem dX9_strike_43 : decode cX9_strike 43 = .ok (.iload 4, 2) := by decide +kernel
theorem dX9_strike_45 : decode cX9_strike 45 = .ok (.invokestatic 166, 3) := by decide +kernel
theorem dX9_strike_48 : decode cX9_strike 48 = .ok (.ifCond .ne 9, 3) := by decide +kernel
theorem dX9_strike_51 : decode cX9_strike 51 = .ok (.aload_n 0, 1) := by decide +kernel
theorem dX9_strike_52 : decode cX9_strike 52 = .ok (.iconst 1, 1) := by decide +kernel
theorem dX9_strike_53 : decode cX9_strike 53 = .ok (.invokevirtual 150, 3) := by decide +kernel
theorem dX9_strike_56 : decode cX9_strike 56 = .ok (.ireturn, 1) := by decide +kernel
theorem dX9_strike_57 : decode cX9_strike 57 = .ok (.aload_n 0, 1) := by decide +kernel
theorem dX9_strike_58 : decode cX9_strike 58 = .ok (.getfield 84, 3) := by decide +kernel
theorem dX9_strike_61 : decode cX9_strike 61 = .ok (.sipush 256, 3) := by decide +kernel
theorem dX9_strike_64 : decode cX9_strike 64 = .ok (.if_icmp .ne 9, 3) := by decide +kernel
theorem dX9_strike_67 : decode cX9_strike 67 = .ok (.aload_n 0, 1) := by decide +kernel
theorem dX9_strike_68 : decode cX9_strike 68 = .ok (.iconst 2, 1) := by decide +kernel
theorem dX9_strike_69 : decode cX9_strike 69 = .ok (.invokevirtual 150, 3) := by decide +kernel
theorem dX9_strike_72 : decode cX9_strike 72 = .ok (.ireturn, 1) := by decide +kernel
theorem dX9_strike_73 : decode cX9_strike 73 = .ok (.aload_n 0, 1) := by decide +kernel
theorem dX9_strike_74 : decode cX9_strike 74 = .ok (.iload_n 1, 1) := by decide +kernel
theorem dX9_strike_75 : decode cX9_strike 75 = .ok (.iconst 1, 1) := by decide +kernel
theorem dX9_strike_76 : decode cX9_strike 76 = .ok (.iload_n 3, 1) := by decide +kernel
theorem dX9_strike_77 : decode cX9_strike 77 = .ok (.invokevirtual 159, 3) := by decide +kernel
theorem dX9_strike_80 : decode cX9_strike 80 = .ok (.istore 5, 2) := by decide +kernel
theorem dX9_strike_82 : decode cX9_strike 82 = .ok (.iconst 0, 1) := by decide +kernel
theorem dX9_strike_83 : decode cX9_strike 83 = .ok (.istore 6, 2) := by decide +kernel
theorem dX9_strike_85 : decode cX9_strike 85 = .ok (.iload 6, 2) := by decide +kernel
theorem dX9_strike_87 : decode cX9_strike 87 = .ok (.iload_n 3, 1) := by decide +kernel
theorem dX9_strike_88 : decode cX9_strike 88 = .ok (.if_icmp .ge 35, 3) := by decide +kernel
theorem dX9_strike_91 : decode cX9_strike 91 = .ok (.aload_n 0, 1) := by decide +kernel
theorem dX9_strike_92 : decode cX9_strike 92 = .ok (.getfield 22, 3) := by decide +kernel
theorem dX9_strike_95 : decode cX9_strike 95 = .ok (.bipush 12, 2) := by decide +kernel
theorem dX9_strike_97 : decode cX9_strike 97 = .ok (.iload 5, 2) := by decide +kernel
theorem dX9_strike_99 : decode cX9_strike 99 = .ok (.imul, 1) := by decide +kernel
theorem dX9_strike_100 : decode cX9_strike 100 = .ok (.iload 6, 2) := by decide +kernel
theorem dX9_strike_102 : decode cX9_strike 102 = .ok (.iadd, 1) := by decide +kernel
theorem dX9_strike_103 : decode cX9_strike 103 = .ok (.aload_n 0, 1) := by decide +kernel
theorem dX9_strike_104 : decode cX9_strike 104 = .ok (.getfield 53, 3) := by decide +kernel
theorem dX9_strike_107 : decode cX9_strike 107 = .ok (.aload_n 0, 1) := by decide +kernel
theorem dX9_strike_108 : decode cX9_strike 108 = .ok (.iload_n 2, 1) := by decide +kernel
theorem dX9_strike_109 : decode cX9_strike 109 = .ok (.iload 6, 2) := by decide +kernel
theorem dX9_strike_111 : decode cX9_strike 111 = .ok (.iadd, 1) := by decide +kernel
theorem dX9_strike_112 : decode cX9_strike 112 = .ok (.invokevirtual 156, 3) := by decide +kernel
theorem dX9_strike_115 : decode cX9_strike 115 = .ok (.iaload, 1) := by decide +kernel
theorem dX9_strike_116 : decode cX9_strike 116 = .ok (.iastore, 1) := by decide +kernel
theorem dX9_strike_117 : decode cX9_strike 117 = .ok (.iinc 6 1, 3) := by decide +kernel
theorem dX9_strike_120 : decode cX9_strike 120 = .ok (.goto (-35), 3) := by decide +kernel
theorem dX9_strike_123 : decode cX9_strike 123 = .ok (.aload_n 0, 1) := by decide +kernel
theorem dX9_strike_124 : decode cX9_strike 124 = .ok (.iload 5, 2) := by decide +kernel
theorem dX9_strike_126 : decode cX9_strike 126 = .ok (.invokevirtual 163, 3) := by decide +kernel
theorem dX9_strike_129 : decode cX9_strike 129 = .ok (.ireturn, 1) := by decide +kernel
theorem dX9_mark_0 : decode cX9_mark 0 = .ok (.iload_n 1, 1) := by decide +kernel
theorem dX9_mark_1 : decode cX9_mark 1 = .ok (.invokestatic 147, 3) := by decide +kernel
theorem dX9_mark_4 : decode cX9_mark 4 = .ok (.ifCond .ne 9, 3) := by decide +kernel
theorem dX9_mark_7 : decode cX9_mark 7 = .ok (.aload_n 0, 1) := by decide +kernel
theorem dX9_mark_8 : decode cX9_mark 8 = .ok (.iconst 1, 1) := by decide +kernel
theorem dX9_mark_9 : decode cX9_mark 9 = .ok (.invokevirtual 150, 3) := by decide +kernel
theorem dX9_mark_12 : decode cX9_mark 12 = .ok (.ireturn, 1) := by decide +kernel
theorem dX9_mark_13 : decode cX9_mark 13 = .ok (.iload_n 3, 1) := by decide +kernel
theorem dX9_mark_14 : decode cX9_mark 14 = .ok (.ifCond .ge 9, 3) := by decide +kernel
theorem dX9_mark_17 : decode cX9_mark 17 = .ok (.aload_n 0, 1) := by decide +kernel
theorem dX9_mark_18 : decode cX9_mark 18 = .ok (.iconst 5, 1) := by decide +kernel
theorem dX9_mark_19 : decode cX9_mark 19 = .ok (.invokevirtual 150, 3) := by decide +kernel
theorem dX9_mark_22 : decode cX9_mark 22 = .ok (.ireturn, 1) := by decide +kernel
theorem dX9_mark_23 : decode cX9_mark 23 = .ok (.aload_n 0, 1) := by decide +kernel
theorem dX9_mark_24 : decode cX9_mark 24 = .ok (.iload_n 1, 1) := by decide +kernel
theorem dX9_mark_25 : decode cX9_mark 25 = .ok (.invokevirtual 153, 3) := by decide +kernel
theorem dX9_mark_28 : decode cX9_mark 28 = .ok (.istore 6, 2) := by decide +kernel
theorem dX9_mark_30 : decode cX9_mark 30 = .ok (.iload_n 3, 1) := by decide +kernel
theorem dX9_mark_31 : decode cX9_mark 31 = .ok (.ifCond .eq 35, 3) := by decide +kernel
theorem dX9_mark_34 : decode cX9_mark 34 = .ok (.iload_n 2, 1) := by decide +kernel
theorem dX9_mark_35 : decode cX9_mark 35 = .ok (.iload_n 3, 1) := by decide +kernel
theorem dX9_mark_36 : decode cX9_mark 36 = .ok (.iload 6, 2) := by decide +kernel
theorem dX9_mark_38 : decode cX9_mark 38 = .ok (.invokestatic 166, 3) := by decide +kernel
theorem dX9_mark_41 : decode cX9_mark 41 = .ok (.ifCond .eq 25, 3) := by decide +kernel
theorem dX9_mark_44 : decode cX9_mark 44 = .ok (.iload 4, 2) := by decide +kernel
theorem dX9_mark_46 : decode cX9_mark 46 = .ok (.ifCond .lt 20, 3) := by decide +kernel
theorem dX9_mark_49 : decode cX9_mark 49 = .ok (.iload 4, 2) := by decide +kernel
theorem dX9_mark_51 : decode cX9_mark 51 = .ok (.iconst 3, 1) := by decide +kernel
theorem dX9_mark_52 : decode cX9_mark 52 = .ok (.if_icmp .gt 14, 3) := by decide +kernel
theorem dX9_mark_55 : decode cX9_mark 55 = .ok (.iload 5, 2) := by decide +kernel
theorem dX9_mark_57 : decode cX9_mark 57 = .ok (.ifCond .lt 9, 3) := by decide +kernel
theorem dX9_mark_60 : decode cX9_mark 60 = .ok (.iload 5, 2) := by decide +kernel
theorem dX9_mark_62 : decode cX9_mark 62 = .ok (.iconst 3, 1) := by decide +kernel
theorem dX9_mark_63 : decode cX9_mark 63 = .ok (.if_icmp .le 9, 3) := by decide +kernel
theorem dX9_mark_66 : decode cX9_mark 66 = .ok (.aload_n 0, 1) := by decide +kernel
theorem dX9_mark_67 : decode cX9_mark 67 = .ok (.iconst 1, 1) := by decide +kernel
theorem dX9_mark_68 : decode cX9_mark 68 = .ok (.invokevirtual 150, 3) := by decide +kernel
theorem dX9_mark_71 : decode cX9_mark 71 = .ok (.ireturn, 1) := by decide +kernel
theorem dX9_mark_72 : decode cX9_mark 72 = .ok (.aload_n 0, 1) := by decide +kernel
theorem dX9_mark_73 : decode cX9_mark 73 = .ok (.getfield 84, 3) := by decide +kernel
theorem dX9_mark_76 : decode cX9_mark 76 = .ok (.sipush 256, 3) := by decide +kernel
theorem dX9_mark_79 : decode cX9_mark 79 = .ok (.if_icmp .ne 9, 3) := by decide +kernel
theorem dX9_mark_82 : decode cX9_mark 82 = .ok (.aload_n 0, 1) := by decide +kernel
theorem dX9_mark_83 : decode cX9_mark 83 = .ok (.iconst 2, 1) := by decide +kernel
theorem dX9_mark_84 : decode cX9_mark 84 = .ok (.invokevirtual 150, 3) := by decide +kernel
theorem dX9_mark_87 : decode cX9_mark 87 = .ok (.ireturn, 1) := by decide +kernel
theorem dX9_mark_88 : decode cX9_mark 88 = .ok (.aload_n 0, 1) := by decide +kernel
theorem dX9_mark_89 : decode cX9_mark 89 = .ok (.iload_n 2, 1) := by decide +kernel
theorem dX9_mark_90 : decode cX9_mark 90 = .ok (.invokevirtual 156, 3) := by decide +kernel
theorem dX9_mark_93 : decode cX9_mark 93 = .ok (.istore 7, 2) := by decide +kernel
theorem dX9_mark_95 : decode cX9_mark 95 = .ok (.aload_n 0, 1) := by decide +kernel
theorem dX9_mark_96 : decode cX9_mark 96 = .ok (.iload_n 2, 1) := by decide +kernel
theorem dX9_mark_97 : decode cX9_mark 97 = .ok (.iload_n 3, 1) := by decide +kernel
theorem dX9_mark_98 : decode cX9_mark 98 = .ok (.iadd, 1) := by decide +kernel
theorem dX9_mark_99 : decode cX9_mark 99 = .ok (.iconst 1, 1) := by decide +kernel
theorem dX9_mark_100 : decode cX9_mark 100 = .ok (.isub, 1) := by decide +kernel
theorem dX9_mark_101 : decode cX9_mark 101 = .ok (.invokevirtual 156, 3) := by decide +kernel
theorem dX9_mark_104 : decode cX9_mark 104 = .ok (.istore 8, 2) := by decide +kernel
theorem dX9_mark_106 : decode cX9_mark 106 = .ok (.aload_n 0, 1) := by decide +kernel
theorem dX9_mark_107 : decode cX9_mark 107 = .ok (.iload_n 1, 1) := by decide +kernel
theorem dX9_mark_108 : decode cX9_mark 108 = .ok (.iconst 2, 1) := by decide +kernel
theorem dX9_mark_109 : decode cX9_mark 109 = .ok (.iconst 2, 1) := by decide +kernel
theorem dX9_mark_110 : decode cX9_mark 110 = .ok (.invokevirtual 159, 3) := by decide +kernel
theorem dX9_mark_113 : decode cX9_mark 113 = .ok (.istore 9, 2) := by decide +kernel
theorem dX9_mark_115 : decode cX9_mark 115 = .ok (.aload_n 0, 1) := by decide +kernel
theorem dX9_mark_116 : decode cX9_mark 116 = .ok (.getfield 22, 3) := by decide +kernel
theorem dX9_mark_119 : decode cX9_mark 119 = .ok (.bipush 12, 2) := by decide +kernel
theorem dX9_mark_121 : decode cX9_mark 121 = .ok (.iload 9, 2) := by decide +kernel
theorem dX9_mark_123 : decode cX9_mark 123 = .ok (.imul, 1) := by decide +kernel
theorem dX9_mark_124 : decode cX9_mark 124 = .ok (.aload_n 0, 1) := by decide +kernel
theorem dX9_mark_125 : decode cX9_mark 125 = .ok (.getfield 53, 3) := by decide +kernel
theorem dX9_mark_128 : decode cX9_mark 128 = .ok (.iload 7, 2) := by decide +kernel
theorem dX9_mark_130 : decode cX9_mark 130 = .ok (.iaload, 1) := by decide +kernel
theorem dX9_mark_131 : decode cX9_mark 131 = .ok (.iastore, 1) := by decide +kernel
theorem dX9_mark_132 : decode cX9_mark 132 = .ok (.aload_n 0, 1) := by decide +kernel
theorem dX9_mark_133 : decode cX9_mark 133 = .ok (.getfield 22, 3) := by decide +kernel
theorem dX9_mark_136 : decode cX9_mark 136 = .ok (.bipush 12, 2) := by decide +kernel
theorem dX9_mark_138 : decode cX9_mark 138 = .ok (.iload 9, 2) := by decide +kernel
theorem dX9_mark_140 : decode cX9_mark 140 = .ok (.imul, 1) := by decide +kernel
theorem dX9_mark_141 : decode cX9_mark 141 = .ok (.iconst 1, 1) := by decide +kernel
theorem dX9_mark_142 : decode cX9_mark 142 = .ok (.iadd, 1) := by decide +kernel
theorem dX9_mark_143 : decode cX9_mark 143 = .ok (.aload_n 0, 1) := by decide +kernel
theorem dX9_mark_144 : decode cX9_mark 144 = .ok (.getfield 53, 3) := by decide +kernel
theorem dX9_mark_147 : decode cX9_mark 147 = .ok (.iload 8, 2) := by decide +kernel
theorem dX9_mark_149 : decode cX9_mark 149 = .ok (.iaload, 1) := by decide +kernel
theorem dX9_mark_150 : decode cX9_mark 150 = .ok (.iastore, 1) := by decide +kernel
theorem dX9_mark_151 : decode cX9_mark 151 = .ok (.aload_n 0, 1) := by decide +kernel
theorem dX9_mark_152 : decode cX9_mark 152 = .ok (.getfield 31, 3) := by decide +kernel
theorem dX9_mark_155 : decode cX9_mark 155 = .ok (.iload 9, 2) := by decide +kernel
theorem dX9_mark_157 : decode cX9_mark 157 = .ok (.iload 4, 2) := by decide +kernel
theorem dX9_mark_159 : decode cX9_mark 159 = .ok (.iastore, 1) := by decide +kernel
theorem dX9_mark_160 : decode cX9_mark 160 = .ok (.aload_n 0, 1) := by decide +kernel
theorem dX9_mark_161 : decode cX9_mark 161 = .ok (.getfield 34, 3) := by decide +kernel
theorem dX9_mark_164 : decode cX9_mark 164 = .ok (.iload 9, 2) := by decide +kernel
theorem dX9_mark_166 : decode cX9_mark 166 = .ok (.iload 5, 2) := by decide +kernel
theorem dX9_mark_168 : decode cX9_mark 168 = .ok (.iconst 1, 1) := by decide +kernel
theorem dX9_mark_169 : decode cX9_mark 169 = .ok (.if_icmp .eq 9, 3) := by decide +kernel
theorem dX9_mark_172 : decode cX9_mark 172 = .ok (.iload 5, 2) := by decide +kernel
theorem dX9_mark_174 : decode cX9_mark 174 = .ok (.iconst 3, 1) := by decide +kernel
theorem dX9_mark_175 : decode cX9_mark 175 = .ok (.if_icmp .ne 7, 3) := by decide +kernel
theorem dX9_mark_178 : decode cX9_mark 178 = .ok (.iconst 1, 1) := by decide +kernel
theorem dX9_mark_179 : decode cX9_mark 179 = .ok (.goto 4, 3) := by decide +kernel
theorem dX9_mark_182 : decode cX9_mark 182 = .ok (.iconst 0, 1) := by decide +kernel
theorem dX9_mark_183 : decode cX9_mark 183 = .ok (.bastore, 1) := by decide +kernel
theorem dX9_mark_184 : decode cX9_mark 184 = .ok (.aload_n 0, 1) := by decide +kernel
theorem dX9_mark_185 : decode cX9_mark 185 = .ok (.getfield 28, 3) := by decide +kernel
theorem dX9_mark_188 : decode cX9_mark 188 = .ok (.iload 9, 2) := by decide +kernel
theorem dX9_mark_190 : decode cX9_mark 190 = .ok (.iload 5, 2) := by decide +kernel
theorem dX9_mark_192 : decode cX9_mark 192 = .ok (.iconst 2, 1) := by decide +kernel
theorem dX9_mark_193 : decode cX9_mark 193 = .ok (.if_icmp .ge 8, 3) := by decide +kernel
theorem dX9_mark_196 : decode cX9_mark 196 = .ok (.bipush (-3), 2) := by decide +kernel
theorem dX9_mark_198 : decode cX9_mark 198 = .ok (.goto 28, 3) := by decide +kernel
theorem dX9_mark_201 : decode cX9_mark 201 = .ok (.iload 8, 2) := by decide +kernel
theorem dX9_mark_203 : decode cX9_mark 203 = .ok (.iconst 1, 1) := by decide +kernel
theorem dX9_mark_204 : decode cX9_mark 204 = .ok (.iadd, 1) := by decide +kernel
theorem dX9_mark_205 : decode cX9_mark 205 = .ok (.aload_n 0, 1) := by decide +kernel
theorem dX9_mark_206 : decode cX9_mark 206 = .ok (.getfield 112, 3) := by decide +kernel
theorem dX9_mark_209 : decode cX9_mark 209 = .ok (.if_icmp .ge 15, 3) := by decide +kernel
theorem dX9_mark_212 : decode cX9_mark 212 = .ok (.aload_n 0, 1) := by decide +kernel
theorem dX9_mark_213 : decode cX9_mark 213 = .ok (.getfield 53, 3) := by decide +kernel
theorem dX9_mark_216 : decode cX9_mark 216 = .ok (.iload 8, 2) := by decide +kernel
theorem dX9_mark_218 : decode cX9_mark 218 = .ok (.iconst 1, 1) := by decide +kernel
theorem dX9_mark_219 : decode cX9_mark 219 = .ok (.iadd, 1) := by decide +kernel
theorem dX9_mark_220 : decode cX9_mark 220 = .ok (.iaload, 1) := by decide +kernel
theorem dX9_mark_221 : decode cX9_mark 221 = .ok (.goto 5, 3) := by decide +kernel
theorem dX9_mark_224 : decode cX9_mark 224 = .ok (.bipush (-2), 2) := by decide +kernel
theorem dX9_mark_226 : decode cX9_mark 226 = .ok (.iastore, 1) := by decide +kernel
theorem dX9_mark_227 : decode cX9_mark 227 = .ok (.aload_n 0, 1) := by decide +kernel
theorem dX9_mark_228 : decode cX9_mark 228 = .ok (.iload 9, 2) := by decide +kernel
theorem dX9_mark_230 : decode cX9_mark 230 = .ok (.invokevirtual 163, 3) := by decide +kernel
theorem dX9_mark_233 : decode cX9_mark 233 = .ok (.ireturn, 1) := by decide +kernel
theorem dX9_undo_0 : decode cX9_undo 0 = .ok (.iload_n 1, 1) := by decide +kernel
theorem dX9_undo_1 : decode cX9_undo 1 = .ok (.invokestatic 147, 3) := by decide +kernel
theorem dX9_undo_4 : decode cX9_undo 4 = .ok (.ifCond .eq 11, 3) := by decide +kernel
theorem dX9_undo_7 : decode cX9_undo 7 = .ok (.aload_n 0, 1) := by decide +kernel
theorem dX9_undo_8 : decode cX9_undo 8 = .ok (.iload_n 2, 1) := by decide +kernel
theorem dX9_undo_9 : decode cX9_undo 9 = .ok (.invokevirtual 170, 3) := by decide +kernel
theorem dX9_undo_12 : decode cX9_undo 12 = .ok (.ifCond .ne 9, 3) := by decide +kernel
theorem dX9_undo_15 : decode cX9_undo 15 = .ok (.aload_n 0, 1) := by decide +kernel
theorem dX9_undo_16 : decode cX9_undo 16 = .ok (.iconst 1, 1) := by decide +kernel
theorem dX9_undo_17 : decode cX9_undo 17 = .ok (.invokevirtual 150, 3) := by decide +kernel
theorem dX9_undo_20 : decode cX9_undo 20 = .ok (.ireturn, 1) := by decide +kernel
theorem dX9_undo_21 : decode cX9_undo 21 = .ok (.aload_n 0, 1) := by decide +kernel
theorem dX9_undo_22 : decode cX9_undo 22 = .ok (.getfield 7, 3) := by decide +kernel
theorem dX9_undo_25 : decode cX9_undo 25 = .ok (.iload_n 2, 1) := by decide +kernel
theorem dX9_undo_26 : decode cX9_undo 26 = .ok (.iaload, 1) := by decide +kernel
theorem dX9_undo_27 : decode cX9_undo 27 = .ok (.iload_n 1, 1) := by decide +kernel
theorem dX9_undo_28 : decode cX9_undo 28 = .ok (.if_icmp .eq 9, 3) := by decide +kernel
theorem dX9_undo_31 : decode cX9_undo 31 = .ok (.aload_n 0, 1) := by decide +kernel
theorem dX9_undo_32 : decode cX9_undo 32 = .ok (.iconst 3, 1) := by decide +kernel
theorem dX9_undo_33 : decode cX9_undo 33 = .ok (.invokevirtual 150, 3) := by decide +kernel
theorem dX9_undo_36 : decode cX9_undo 36 = .ok (.ireturn, 1) := by decide +kernel
theorem dX9_undo_37 : decode cX9_undo 37 = .ok (.aload_n 0, 1) := by decide +kernel
theorem dX9_undo_38 : decode cX9_undo 38 = .ok (.iload_n 1, 1) := by decide +kernel
theorem dX9_undo_39 : decode cX9_undo 39 = .ok (.invokevirtual 131, 3) := by decide +kernel
theorem dX9_undo_42 : decode cX9_undo 42 = .ok (.pop, 1) := by decide +kernel
theorem dX9_undo_43 : decode cX9_undo 43 = .ok (.aload_n 0, 1) := by decide +kernel
theorem dX9_undo_44 : decode cX9_undo 44 = .ok (.invokevirtual 122, 3) := by decide +kernel
theorem dX9_undo_47 : decode cX9_undo 47 = .ok (.aload_n 0, 1) := by decide +kernel
theorem dX9_undo_48 : decode cX9_undo 48 = .ok (.getfield 50, 3) := by decide +kernel
theorem dX9_undo_51 : decode cX9_undo 51 = .ok (.iload_n 2, 1) := by decide +kernel
theorem dX9_undo_52 : decode cX9_undo 52 = .ok (.baload, 1) := by decide +kernel
theorem dX9_undo_53 : decode cX9_undo 53 = .ok (.ifCond .ne 9, 3) := by decide +kernel
theorem dX9_undo_56 : decode cX9_undo 56 = .ok (.aload_n 0, 1) := by decide +kernel
theorem dX9_undo_57 : decode cX9_undo 57 = .ok (.iconst 4, 1) := by decide +kernel
theorem dX9_undo_58 : decode cX9_undo 58 = .ok (.invokevirtual 150, 3) := by decide +kernel
theorem dX9_undo_61 : decode cX9_undo 61 = .ok (.ireturn, 1) := by decide +kernel
theorem dX9_undo_62 : decode cX9_undo 62 = .ok (.aload_n 0, 1) := by decide +kernel
theorem dX9_undo_63 : decode cX9_undo 63 = .ok (.getfield 84, 3) := by decide +kernel
theorem dX9_undo_66 : decode cX9_undo 66 = .ok (.sipush 256, 3) := by decide +kernel
theorem dX9_undo_69 : decode cX9_undo 69 = .ok (.if_icmp .ne 9, 3) := by decide +kernel
theorem dX9_undo_72 : decode cX9_undo 72 = .ok (.aload_n 0, 1) := by decide +kernel
theorem dX9_undo_73 : decode cX9_undo 73 = .ok (.iconst 2, 1) := by decide +kernel
theorem dX9_undo_74 : decode cX9_undo 74 = .ok (.invokevirtual 150, 3) := by decide +kernel
theorem dX9_undo_77 : decode cX9_undo 77 = .ok (.ireturn, 1) := by decide +kernel
theorem dX9_undo_78 : decode cX9_undo 78 = .ok (.aload_n 0, 1) := by decide +kernel
theorem dX9_undo_79 : decode cX9_undo 79 = .ok (.iload_n 1, 1) := by decide +kernel
theorem dX9_undo_80 : decode cX9_undo 80 = .ok (.iconst 3, 1) := by decide +kernel
theorem dX9_undo_81 : decode cX9_undo 81 = .ok (.iconst 0, 1) := by decide +kernel
theorem dX9_undo_82 : decode cX9_undo 82 = .ok (.invokevirtual 159, 3) := by decide +kernel
theorem dX9_undo_85 : decode cX9_undo 85 = .ok (.istore_n 3, 1) := by decide +kernel
theorem dX9_undo_86 : decode cX9_undo 86 = .ok (.aload_n 0, 1) := by decide +kernel
theorem dX9_undo_87 : decode cX9_undo 87 = .ok (.getfield 28, 3) := by decide +kernel
theorem dX9_undo_90 : decode cX9_undo 90 = .ok (.iload_n 3, 1) := by decide +kernel
theorem dX9_undo_91 : decode cX9_undo 91 = .ok (.iload_n 2, 1) := by decide +kernel
theorem dX9_undo_92 : decode cX9_undo 92 = .ok (.iastore, 1) := by decide +kernel
theorem dX9_undo_93 : decode cX9_undo 93 = .ok (.aload_n 0, 1) := by decide +kernel
theorem dX9_undo_94 : decode cX9_undo 94 = .ok (.iload_n 3, 1) := by decide +kernel
theorem dX9_undo_95 : decode cX9_undo 95 = .ok (.invokevirtual 163, 3) := by decide +kernel
theorem dX9_undo_98 : decode cX9_undo 98 = .ok (.ireturn, 1) := by decide +kernel
theorem dX9_carry_0 : decode cX9_carry 0 = .ok (.iload_n 2, 1) := by decide +kernel
theorem dX9_carry_1 : decode cX9_carry 1 = .ok (.invokestatic 147, 3) := by decide +kernel
theorem dX9_carry_4 : decode cX9_carry 4 = .ok (.ifCond .eq 11, 3) := by decide +kernel
theorem dX9_carry_7 : decode cX9_carry 7 = .ok (.aload_n 0, 1) := by decide +kernel
theorem dX9_carry_8 : decode cX9_carry 8 = .ok (.iload_n 1, 1) := by decide +kernel
theorem dX9_carry_9 : decode cX9_carry 9 = .ok (.invokevirtual 170, 3) := by decide +kernel
theorem dX9_carry_12 : decode cX9_carry 12 = .ok (.ifCond .ne 9, 3) := by decide +kernel
theorem dX9_carry_15 : decode cX9_carry 15 = .ok (.aload_n 0, 1) := by decide +kernel
theorem dX9_carry_16 : decode cX9_carry 16 = .ok (.iconst 1, 1) := by decide +kernel
theorem dX9_carry_17 : decode cX9_carry 17 = .ok (.invokevirtual 150, 3) := by decide +kernel
theorem dX9_carry_20 : decode cX9_carry 20 = .ok (.ireturn, 1) := by decide +kernel
theorem dX9_carry_21 : decode cX9_carry 21 = .ok (.aload_n 0, 1) := by decide +kernel
theorem dX9_carry_22 : decode cX9_carry 22 = .ok (.iload_n 2, 1) := by decide +kernel
theorem dX9_carry_23 : decode cX9_carry 23 = .ok (.invokevirtual 131, 3) := by decide +kernel
theorem dX9_carry_26 : decode cX9_carry 26 = .ok (.istore_n 3, 1) := by decide +kernel
theorem dX9_carry_27 : decode cX9_carry 27 = .ok (.aload_n 0, 1) := by decide +kernel
theorem dX9_carry_28 : decode cX9_carry 28 = .ok (.getfield 38, 3) := by decide +kernel
theorem dX9_carry_31 : decode cX9_carry 31 = .ok (.sipush 256, 3) := by decide +kernel
theorem dX9_carry_34 : decode cX9_carry 34 = .ok (.iload_n 2, 1) := by decide +kernel
theorem dX9_carry_35 : decode cX9_carry 35 = .ok (.imul, 1) := by decide +kernel
theorem dX9_carry_36 : decode cX9_carry 36 = .ok (.iload_n 1, 1) := by decide +kernel
theorem dX9_carry_37 : decode cX9_carry 37 = .ok (.iadd, 1) := by decide +kernel
theorem dX9_carry_38 : decode cX9_carry 38 = .ok (.iconst 1, 1) := by decide +kernel
theorem dX9_carry_39 : decode cX9_carry 39 = .ok (.bastore, 1) := by decide +kernel
theorem dX9_carry_40 : decode cX9_carry 40 = .ok (.aload_n 0, 1) := by decide +kernel
theorem dX9_carry_41 : decode cX9_carry 41 = .ok (.aload_n 0, 1) := by decide +kernel
theorem dX9_carry_42 : decode cX9_carry 42 = .ok (.iload_n 2, 1) := by decide +kernel
theorem dX9_carry_43 : decode cX9_carry 43 = .ok (.invokevirtual 131, 3) := by decide +kernel
theorem dX9_carry_46 : decode cX9_carry 46 = .ok (.iload_n 3, 1) := by decide +kernel
theorem dX9_carry_47 : decode cX9_carry 47 = .ok (.isub, 1) := by decide +kernel
theorem dX9_carry_48 : decode cX9_carry 48 = .ok (.invokevirtual 163, 3) := by decide +kernel
theorem dX9_carry_51 : decode cX9_carry 51 = .ok (.ireturn, 1) := by decide +kernel
theorem dX9_all_0 : decode cX9_all 0 = .ok (.iload_n 1, 1) := by decide +kernel
theorem dX9_all_1 : decode cX9_all 1 = .ok (.invokestatic 147, 3) := by decide +kernel
theorem dX9_all_4 : decode cX9_all 4 = .ok (.ifCond .eq 10, 3) := by decide +kernel
theorem dX9_all_7 : decode cX9_all 7 = .ok (.iload_n 2, 1) := by decide +kernel
theorem dX9_all_8 : decode cX9_all 8 = .ok (.invokestatic 147, 3) := by decide +kernel
theorem dX9_all_11 : decode cX9_all 11 = .ok (.ifCond .ne 9, 3) := by decide +kernel
theorem dX9_all_14 : decode cX9_all 14 = .ok (.aload_n 0, 1) := by decide +kernel
theorem dX9_all_15 : decode cX9_all 15 = .ok (.iconst 1, 1) := by decide +kernel
theorem dX9_all_16 : decode cX9_all 16 = .ok (.invokevirtual 150, 3) := by decide +kernel
theorem dX9_all_19 : decode cX9_all 19 = .ok (.ireturn, 1) := by decide +kernel
theorem dX9_all_20 : decode cX9_all 20 = .ok (.aload_n 0, 1) := by decide +kernel
theorem dX9_all_21 : decode cX9_all 21 = .ok (.iload_n 1, 1) := by decide +kernel
theorem dX9_all_22 : decode cX9_all 22 = .ok (.invokevirtual 131, 3) := by decide +kernel
theorem dX9_all_25 : decode cX9_all 25 = .ok (.pop, 1) := by decide +kernel
theorem dX9_all_26 : decode cX9_all 26 = .ok (.iconst 0, 1) := by decide +kernel
theorem dX9_all_27 : decode cX9_all 27 = .ok (.istore_n 3, 1) := by decide +kernel
theorem dX9_all_28 : decode cX9_all 28 = .ok (.iload_n 3, 1) := by decide +kernel
theorem dX9_all_29 : decode cX9_all 29 = .ok (.aload_n 0, 1) := by decide +kernel
theorem dX9_all_30 : decode cX9_all 30 = .ok (.getfield 84, 3) := by decide +kernel
theorem dX9_all_33 : decode cX9_all 33 = .ok (.if_icmp .ge 21, 3) := by decide +kernel
theorem dX9_all_36 : decode cX9_all 36 = .ok (.aload_n 0, 1) := by decide +kernel
theorem dX9_all_37 : decode cX9_all 37 = .ok (.getfield 71, 3) := by decide +kernel
theorem dX9_all_40 : decode cX9_all 40 = .ok (.iload_n 3, 1) := by decide +kernel
theorem dX9_all_41 : decode cX9_all 41 = .ok (.aload_n 0, 1) := by decide +kernel
theorem dX9_all_42 : decode cX9_all 42 = .ok (.getfield 47, 3) := by decide +kernel
theorem dX9_all_45 : decode cX9_all 45 = .ok (.iload_n 3, 1) := by decide +kernel
theorem dX9_all_46 : decode cX9_all 46 = .ok (.baload, 1) := by decide +kernel
theorem dX9_all_47 : decode cX9_all 47 = .ok (.bastore, 1) := by decide +kernel
theorem dX9_all_48 : decode cX9_all 48 = .ok (.iinc 3 1, 3) := by decide +kernel
theorem dX9_all_51 : decode cX9_all 51 = .ok (.goto (-23), 3) := by decide +kernel
theorem dX9_all_54 : decode cX9_all 54 = .ok (.aload_n 0, 1) := by decide +kernel
theorem dX9_all_55 : decode cX9_all 55 = .ok (.iload_n 2, 1) := by decide +kernel
theorem dX9_all_56 : decode cX9_all 56 = .ok (.invokevirtual 131, 3) := by decide +kernel
theorem dX9_all_59 : decode cX9_all 59 = .ok (.istore_n 3, 1) := by decide +kernel
theorem dX9_all_60 : decode cX9_all 60 = .ok (.iconst 0, 1) := by decide +kernel
theorem dX9_all_61 : decode cX9_all 61 = .ok (.istore 4, 2) := by decide +kernel
theorem dX9_all_63 : decode cX9_all 63 = .ok (.iload 4, 2) := by decide +kernel
theorem dX9_all_65 : decode cX9_all 65 = .ok (.aload_n 0, 1) := by decide +kernel
theorem dX9_all_66 : decode cX9_all 66 = .ok (.getfield 84, 3) := by decide +kernel
theorem dX9_all_69 : decode cX9_all 69 = .ok (.if_icmp .ge 53, 3) := by decide +kernel
theorem dX9_all_72 : decode cX9_all 72 = .ok (.aload_n 0, 1) := by decide +kernel
theorem dX9_all_73 : decode cX9_all 73 = .ok (.getfield 38, 3) := by decide +kernel
theorem dX9_all_76 : decode cX9_all 76 = .ok (.sipush 256, 3) := by decide +kernel
theorem dX9_all_79 : decode cX9_all 79 = .ok (.iload_n 2, 1) := by decide +kernel
theorem dX9_all_80 : decode cX9_all 80 = .ok (.imul, 1) := by decide +kernel
theorem dX9_all_81 : decode cX9_all 81 = .ok (.iload 4, 2) := by decide +kernel
theorem dX9_all_83 : decode cX9_all 83 = .ok (.iadd, 1) := by decide +kernel
theorem dX9_all_84 : decode cX9_all 84 = .ok (.aload_n 0, 1) := by decide +kernel
theorem dX9_all_85 : decode cX9_all 85 = .ok (.getfield 38, 3) := by decide +kernel
theorem dX9_all_88 : decode cX9_all 88 = .ok (.sipush 256, 3) := by decide +kernel
theorem dX9_all_91 : decode cX9_all 91 = .ok (.iload_n 2, 1) := by decide +kernel
theorem dX9_all_92 : decode cX9_all 92 = .ok (.imul, 1) := by decide +kernel
theorem dX9_all_93 : decode cX9_all 93 = .ok (.iload 4, 2) := by decide +kernel
theorem dX9_all_95 : decode cX9_all 95 = .ok (.iadd, 1) := by decide +kernel
theorem dX9_all_96 : decode cX9_all 96 = .ok (.baload, 1) := by decide +kernel
theorem dX9_all_97 : decode cX9_all 97 = .ok (.ifCond .ne 13, 3) := by decide +kernel
theorem dX9_all_100 : decode cX9_all 100 = .ok (.aload_n 0, 1) := by decide +kernel
theorem dX9_all_101 : decode cX9_all 101 = .ok (.getfield 71, 3) := by decide +kernel
theorem dX9_all_104 : decode cX9_all 104 = .ok (.iload 4, 2) := by decide +kernel
theorem dX9_all_106 : decode cX9_all 106 = .ok (.baload, 1) := by decide +kernel
theorem dX9_all_107 : decode cX9_all 107 = .ok (.ifCond .eq 7, 3) := by decide +kernel
theorem dX9_all_110 : decode cX9_all 110 = .ok (.iconst 1, 1) := by decide +kernel
theorem dX9_all_111 : decode cX9_all 111 = .ok (.goto 4, 3) := by decide +kernel
theorem dX9_all_114 : decode cX9_all 114 = .ok (.iconst 0, 1) := by decide +kernel
theorem dX9_all_115 : decode cX9_all 115 = .ok (.bastore, 1) := by decide +kernel
theorem dX9_all_116 : decode cX9_all 116 = .ok (.iinc 4 1, 3) := by decide +kernel
theorem dX9_all_119 : decode cX9_all 119 = .ok (.goto (-56), 3) := by decide +kernel
theorem dX9_all_122 : decode cX9_all 122 = .ok (.aload_n 0, 1) := by decide +kernel
theorem dX9_all_123 : decode cX9_all 123 = .ok (.aload_n 0, 1) := by decide +kernel
theorem dX9_all_124 : decode cX9_all 124 = .ok (.iload_n 2, 1) := by decide +kernel
theorem dX9_all_125 : decode cX9_all 125 = .ok (.invokevirtual 131, 3) := by decide +kernel
theorem dX9_all_128 : decode cX9_all 128 = .ok (.iload_n 3, 1) := by decide +kernel
theorem dX9_all_129 : decode cX9_all 129 = .ok (.isub, 1) := by decide +kernel
theorem dX9_all_130 : decode cX9_all 130 = .ok (.invokevirtual 163, 3) := by decide +kernel
theorem dX9_all_133 : decode cX9_all 133 = .ok (.ireturn, 1) := by decide +kernel
theorem dX9_state_0 : decode cX9_state 0 = .ok (.iload_n 1, 1) := by decide +kernel
theorem dX9_state_1 : decode cX9_state 1 = .ok (.invokestatic 147, 3) := by decide +kernel
theorem dX9_state_4 : decode cX9_state 4 = .ok (.ifCond .eq 11, 3) := by decide +kernel
theorem dX9_state_7 : decode cX9_state 7 = .ok (.aload_n 0, 1) := by decide +kernel
theorem dX9_state_8 : decode cX9_state 8 = .ok (.iload_n 2, 1) := by decide +kernel
theorem dX9_state_9 : decode cX9_state 9 = .ok (.invokevirtual 170, 3) := by decide +kernel
theorem dX9_state_12 : decode cX9_state 12 = .ok (.ifCond .ne 5, 3) := by decide +kernel
theorem dX9_state_15 : decode cX9_state 15 = .ok (.iconst (-1), 1) := by decide +kernel
theorem dX9_state_16 : decode cX9_state 16 = .ok (.ireturn, 1) := by decide +kernel
theorem dX9_state_17 : decode cX9_state 17 = .ok (.aload_n 0, 1) := by decide +kernel
theorem dX9_state_18 : decode cX9_state 18 = .ok (.iload_n 1, 1) := by decide +kernel
theorem dX9_state_19 : decode cX9_state 19 = .ok (.invokevirtual 131, 3) := by decide +kernel
theorem dX9_state_22 : decode cX9_state 22 = .ok (.pop, 1) := by decide +kernel
theorem dX9_state_23 : decode cX9_state 23 = .ok (.aload_n 0, 1) := by decide +kernel
theorem dX9_state_24 : decode cX9_state 24 = .ok (.invokevirtual 122, 3) := by decide +kernel
theorem dX9_state_27 : decode cX9_state 27 = .ok (.aload_n 0, 1) := by decide +kernel
theorem dX9_state_28 : decode cX9_state 28 = .ok (.getfield 38, 3) := by decide +kernel
theorem dX9_state_31 : decode cX9_state 31 = .ok (.sipush 256, 3) := by decide +kernel
theorem dX9_state_34 : decode cX9_state 34 = .ok (.iload_n 1, 1) := by decide +kernel
theorem dX9_state_35 : decode cX9_state 35 = .ok (.imul, 1) := by decide +kernel
theorem dX9_state_36 : decode cX9_state 36 = .ok (.iload_n 2, 1) := by decide +kernel
theorem dX9_state_37 : decode cX9_state 37 = .ok (.iadd, 1) := by decide +kernel
theorem dX9_state_38 : decode cX9_state 38 = .ok (.baload, 1) := by decide +kernel
theorem dX9_state_39 : decode cX9_state 39 = .ok (.ifCond .ne 7, 3) := by decide +kernel
theorem dX9_state_42 : decode cX9_state 42 = .ok (.iconst 0, 1) := by decide +kernel
theorem dX9_state_43 : decode cX9_state 43 = .ok (.goto 30, 3) := by decide +kernel
theorem dX9_state_46 : decode cX9_state 46 = .ok (.aload_n 0, 1) := by decide +kernel
theorem dX9_state_47 : decode cX9_state 47 = .ok (.getfield 47, 3) := by decide +kernel
theorem dX9_state_50 : decode cX9_state 50 = .ok (.iload_n 2, 1) := by decide +kernel
theorem dX9_state_51 : decode cX9_state 51 = .ok (.baload, 1) := by decide +kernel
theorem dX9_state_52 : decode cX9_state 52 = .ok (.ifCond .ne 7, 3) := by decide +kernel
theorem dX9_state_55 : decode cX9_state 55 = .ok (.iconst 1, 1) := by decide +kernel
theorem dX9_state_56 : decode cX9_state 56 = .ok (.goto 17, 3) := by decide +kernel
theorem dX9_state_59 : decode cX9_state 59 = .ok (.aload_n 0, 1) := by decide +kernel
theorem dX9_state_60 : decode cX9_state 60 = .ok (.getfield 50, 3) := by decide +kernel
theorem dX9_state_63 : decode cX9_state 63 = .ok (.iload_n 2, 1) := by decide +kernel
theorem dX9_state_64 : decode cX9_state 64 = .ok (.baload, 1) := by decide +kernel
theorem dX9_state_65 : decode cX9_state 65 = .ok (.ifCond .eq 7, 3) := by decide +kernel
theorem dX9_state_68 : decode cX9_state 68 = .ok (.iconst 3, 1) := by decide +kernel
theorem dX9_state_69 : decode cX9_state 69 = .ok (.goto 4, 3) := by decide +kernel
theorem dX9_state_72 : decode cX9_state 72 = .ok (.iconst 2, 1) := by decide +kernel
theorem dX9_state_73 : decode cX9_state 73 = .ok (.ireturn, 1) := by decide +kernel
theorem dX9_lacks_0 : decode cX9_lacks 0 = .ok (.iload_n 1, 1) := by decide +kernel
theorem dX9_lacks_1 : decode cX9_lacks 1 = .ok (.invokestatic 147, 3) := by decide +kernel
theorem dX9_lacks_4 : decode cX9_lacks 4 = .ok (.ifCond .eq 26, 3) := by decide +kernel
theorem dX9_lacks_7 : decode cX9_lacks 7 = .ok (.aload_n 0, 1) := by decide +kernel
theorem dX9_lacks_8 : decode cX9_lacks 8 = .ok (.iload_n 2, 1) := by decide +kernel
theorem dX9_lacks_9 : decode cX9_lacks 9 = .ok (.invokevirtual 170, 3) := by decide +kernel
theorem dX9_lacks_12 : decode cX9_lacks 12 = .ok (.ifCond .eq 18, 3) := by decide +kernel
theorem dX9_lacks_15 : decode cX9_lacks 15 = .ok (.aload_n 0, 1) := by decide +kernel
theorem dX9_lacks_16 : decode cX9_lacks 16 = .ok (.getfield 38, 3) := by decide +kernel
theorem dX9_lacks_19 : decode cX9_lacks 19 = .ok (.sipush 256, 3) := by decide +kernel
theorem dX9_lacks_22 : decode cX9_lacks 22 = .ok (.iload_n 1, 1) := by decide +kernel
theorem dX9_lacks_23 : decode cX9_lacks 23 = .ok (.imul, 1) := by decide +kernel
theorem dX9_lacks_24 : decode cX9_lacks 24 = .ok (.iload_n 2, 1) := by decide +kernel
theorem dX9_lacks_25 : decode cX9_lacks 25 = .ok (.iadd, 1) := by decide +kernel
theorem dX9_lacks_26 : decode cX9_lacks 26 = .ok (.baload, 1) := by decide +kernel
theorem dX9_lacks_27 : decode cX9_lacks 27 = .ok (.ifCond .ne 5, 3) := by decide +kernel
theorem dX9_lacks_30 : decode cX9_lacks 30 = .ok (.iconst (-1), 1) := by decide +kernel
theorem dX9_lacks_31 : decode cX9_lacks 31 = .ok (.ireturn, 1) := by decide +kernel
theorem dX9_lacks_32 : decode cX9_lacks 32 = .ok (.aload_n 0, 1) := by decide +kernel
theorem dX9_lacks_33 : decode cX9_lacks 33 = .ok (.iload_n 1, 1) := by decide +kernel
theorem dX9_lacks_34 : decode cX9_lacks 34 = .ok (.invokevirtual 131, 3) := by decide +kernel
theorem dX9_lacks_37 : decode cX9_lacks 37 = .ok (.pop, 1) := by decide +kernel
theorem dX9_lacks_38 : decode cX9_lacks 38 = .ok (.aload_n 0, 1) := by decide +kernel
theorem dX9_lacks_39 : decode cX9_lacks 39 = .ok (.getfield 47, 3) := by decide +kernel
theorem dX9_lacks_42 : decode cX9_lacks 42 = .ok (.iload_n 2, 1) := by decide +kernel
theorem dX9_lacks_43 : decode cX9_lacks 43 = .ok (.baload, 1) := by decide +kernel
theorem dX9_lacks_44 : decode cX9_lacks 44 = .ok (.ifCond .eq 5, 3) := by decide +kernel
theorem dX9_lacks_47 : decode cX9_lacks 47 = .ok (.iconst (-1), 1) := by decide +kernel
theorem dX9_lacks_48 : decode cX9_lacks 48 = .ok (.ireturn, 1) := by decide +kernel
theorem dX9_lacks_49 : decode cX9_lacks 49 = .ok (.aload_n 0, 1) := by decide +kernel
theorem dX9_lacks_50 : decode cX9_lacks 50 = .ok (.iload_n 2, 1) := by decide +kernel
theorem dX9_lacks_51 : decode cX9_lacks 51 = .ok (.invokevirtual 98, 3) := by decide +kernel
theorem dX9_lacks_54 : decode cX9_lacks 54 = .ok (.iconst (-1), 1) := by decide +kernel
theorem dX9_lacks_55 : decode cX9_lacks 55 = .ok (.istore_n 3, 1) := by decide +kernel
theorem dX9_lacks_56 : decode cX9_lacks 56 = .ok (.iconst 0, 1) := by decide +kernel
theorem dX9_lacks_57 : decode cX9_lacks 57 = .ok (.istore 4, 2) := by decide +kernel
theorem dX9_lacks_59 : decode cX9_lacks 59 = .ok (.iload 4, 2) := by decide +kernel
theorem dX9_lacks_61 : decode cX9_lacks 61 = .ok (.aload_n 0, 1) := by decide +kernel
theorem dX9_lacks_62 : decode cX9_lacks 62 = .ok (.getfield 87, 3) := by decide +kernel
theorem dX9_lacks_65 : decode cX9_lacks 65 = .ok (.if_icmp .ge 63, 3) := by decide +kernel
theorem dX9_lacks_68 : decode cX9_lacks 68 = .ok (.aload_n 0, 1) := by decide +kernel
theorem dX9_lacks_69 : decode cX9_lacks 69 = .ok (.getfield 47, 3) := by decide +kernel
theorem dX9_lacks_72 : decode cX9_lacks 72 = .ok (.aload_n 0, 1) := by decide +kernel
theorem dX9_lacks_73 : decode cX9_lacks 73 = .ok (.getfield 59, 3) := by decide +kernel
theorem dX9_lacks_76 : decode cX9_lacks 76 = .ok (.iload 4, 2) := by decide +kernel
theorem dX9_lacks_78 : decode cX9_lacks 78 = .ok (.iaload, 1) := by decide +kernel
theorem dX9_lacks_79 : decode cX9_lacks 79 = .ok (.baload, 1) := by decide +kernel
theorem dX9_lacks_80 : decode cX9_lacks 80 = .ok (.ifCond .ne 22, 3) := by decide +kernel
theorem dX9_lacks_83 : decode cX9_lacks 83 = .ok (.iload_n 3, 1) := by decide +kernel
theorem dX9_lacks_84 : decode cX9_lacks 84 = .ok (.ifCond .lt 14, 3) := by decide +kernel
theorem dX9_lacks_87 : decode cX9_lacks 87 = .ok (.aload_n 0, 1) := by decide +kernel
theorem dX9_lacks_88 : decode cX9_lacks 88 = .ok (.getfield 59, 3) := by decide +kernel
theorem dX9_lacks_91 : decode cX9_lacks 91 = .ok (.iload 4, 2) := by decide +kernel
theorem dX9_lacks_93 : decode cX9_lacks 93 = .ok (.iaload, 1) := by decide +kernel
theorem dX9_lacks_94 : decode cX9_lacks 94 = .ok (.iload_n 3, 1) := by decide +kernel
theorem dX9_lacks_95 : decode cX9_lacks 95 = .ok (.if_icmp .ge 7, 3) := by decide +kernel
theorem dX9_lacks_98 : decode cX9_lacks 98 = .ok (.iconst 1, 1) := by decide +kernel
theorem dX9_lacks_99 : decode cX9_lacks 99 = .ok (.goto 4, 3) := by decide +kernel
theorem dX9_lacks_102 : decode cX9_lacks 102 = .ok (.iconst 0, 1) := by decide +kernel
theorem dX9_lacks_103 : decode cX9_lacks 103 = .ok (.istore 5, 2) := by decide +kernel
theorem dX9_lacks_105 : decode cX9_lacks 105 = .ok (.iload 5, 2) := by decide +kernel
theorem dX9_lacks_107 : decode cX9_lacks 107 = .ok (.ifCond .eq 13, 3) := by decide +kernel
theorem dX9_lacks_110 : decode cX9_lacks 110 = .ok (.aload_n 0, 1) := by decide +kernel
theorem dX9_lacks_111 : decode cX9_lacks 111 = .ok (.getfield 59, 3) := by decide +kernel
theorem dX9_lacks_114 : decode cX9_lacks 114 = .ok (.iload 4, 2) := by decide +kernel
theorem dX9_lacks_116 : decode cX9_lacks 116 = .ok (.iaload, 1) := by decide +kernel
theorem dX9_lacks_117 : decode cX9_lacks 117 = .ok (.goto 4, 3) := by decide +kernel
theorem dX9_lacks_120 : decode cX9_lacks 120 = .ok (.iload_n 3, 1) := by decide +kernel
theorem dX9_lacks_121 : decode cX9_lacks 121 = .ok (.istore_n 3, 1) := by decide +kernel
theorem dX9_lacks_122 : decode cX9_lacks 122 = .ok (.iinc 4 1, 3) := by decide +kernel
theorem dX9_lacks_125 : decode cX9_lacks 125 = .ok (.goto (-66), 3) := by decide +kernel
theorem dX9_lacks_128 : decode cX9_lacks 128 = .ok (.iload_n 3, 1) := by decide +kernel
theorem dX9_lacks_129 : decode cX9_lacks 129 = .ok (.ireturn, 1) := by decide +kernel
theorem dX9_slips_0 : decode cX9_slips 0 = .ok (.aload_n 0, 1) := by decide +kernel
theorem dX9_slips_1 : decode cX9_slips 1 = .ok (.getfield 84, 3) := by decide +kernel
theorem dX9_slips_4 : decode cX9_slips 4 = .ok (.ireturn, 1) := by decide +kernel
theorem dX9_slip_0 : decode cX9_slip 0 = .ok (.aload_n 0, 1) := by decide +kernel
theorem dX9_slip_1 : decode cX9_slip 1 = .ok (.iload_n 1, 1) := by decide +kernel
theorem dX9_slip_2 : decode cX9_slip 2 = .ok (.invokevirtual 170, 3) := by decide +kernel
theorem dX9_slip_5 : decode cX9_slip 5 = .ok (.ifCond .ne 5, 3) := by decide +kernel
theorem dX9_slip_8 : decode cX9_slip 8 = .ok (.iconst (-1), 1) := by decide +kernel
theorem dX9_slip_9 : decode cX9_slip 9 = .ok (.ireturn, 1) := by decide +kernel
theorem dX9_slip_10 : decode cX9_slip 10 = .ok (.iload_n 2, 1) := by decide +kernel
theorem dX9_slip_11 : decode cX9_slip 11 = .ok (.tableswitch 57 0 3 #[29, 36, 43, 50], 29) := by decide +kernel
theorem dX9_slip_40 : decode cX9_slip 40 = .ok (.aload_n 0, 1) := by decide +kernel
theorem dX9_slip_41 : decode cX9_slip 41 = .ok (.getfield 7, 3) := by decide +kernel
theorem dX9_slip_44 : decode cX9_slip 44 = .ok (.iload_n 1, 1) := by decide +kernel
theorem dX9_slip_45 : decode cX9_slip 45 = .ok (.iaload, 1) := by decide +kernel
theorem dX9_slip_46 : decode cX9_slip 46 = .ok (.ireturn, 1) := by decide +kernel
theorem dX9_slip_47 : decode cX9_slip 47 = .ok (.aload_n 0, 1) := by decide +kernel
theorem dX9_slip_48 : decode cX9_slip 48 = .ok (.getfield 13, 3) := by decide +kernel
theorem dX9_slip_51 : decode cX9_slip 51 = .ok (.iload_n 1, 1) := by decide +kernel
theorem dX9_slip_52 : decode cX9_slip 52 = .ok (.iaload, 1) := by decide +kernel
theorem dX9_slip_53 : decode cX9_slip 53 = .ok (.ireturn, 1) := by decide +kernel
theorem dX9_slip_54 : decode cX9_slip 54 = .ok (.aload_n 0, 1) := by decide +kernel
theorem dX9_slip_55 : decode cX9_slip 55 = .ok (.getfield 16, 3) := by decide +kernel
theorem dX9_slip_58 : decode cX9_slip 58 = .ok (.iload_n 1, 1) := by decide +kernel
theorem dX9_slip_59 : decode cX9_slip 59 = .ok (.iaload, 1) := by decide +kernel
theorem dX9_slip_60 : decode cX9_slip 60 = .ok (.ireturn, 1) := by decide +kernel
theorem dX9_slip_61 : decode cX9_slip 61 = .ok (.aload_n 0, 1) := by decide +kernel
theorem dX9_slip_62 : decode cX9_slip 62 = .ok (.getfield 19, 3) := by decide +kernel
theorem dX9_slip_65 : decode cX9_slip 65 = .ok (.iload_n 1, 1) := by decide +kernel
theorem dX9_slip_66 : decode cX9_slip 66 = .ok (.iaload, 1) := by decide +kernel
theorem dX9_slip_67 : decode cX9_slip 67 = .ok (.ireturn, 1) := by decide +kernel
theorem dX9_slip_68 : decode cX9_slip 68 = .ok (.iconst (-1), 1) := by decide +kernel
theorem dX9_slip_69 : decode cX9_slip 69 = .ok (.ireturn, 1) := by decide +kernel
theorem dX9_part_0 : decode cX9_part 0 = .ok (.aload_n 0, 1) := by decide +kernel
theorem dX9_part_1 : decode cX9_part 1 = .ok (.iload_n 1, 1) := by decide +kernel
theorem dX9_part_2 : decode cX9_part 2 = .ok (.invokevirtual 170, 3) := by decide +kernel
theorem dX9_part_5 : decode cX9_part 5 = .ok (.ifCond .ne 9, 3) := by decide +kernel
theorem dX9_part_8 : decode cX9_part 8 = .ok (.aload_n 0, 1) := by decide +kernel
theorem dX9_part_9 : decode cX9_part 9 = .ok (.iconst 1, 1) := by decide +kernel
theorem dX9_part_10 : decode cX9_part 10 = .ok (.invokevirtual 150, 3) := by decide +kernel
theorem dX9_part_13 : decode cX9_part 13 = .ok (.ireturn, 1) := by decide +kernel
theorem dX9_part_14 : decode cX9_part 14 = .ok (.aload_n 0, 1) := by decide +kernel
theorem dX9_part_15 : decode cX9_part 15 = .ok (.getfield 16, 3) := by decide +kernel
theorem dX9_part_18 : decode cX9_part 18 = .ok (.iload_n 1, 1) := by decide +kernel
theorem dX9_part_19 : decode cX9_part 19 = .ok (.iaload, 1) := by decide +kernel
theorem dX9_part_20 : decode cX9_part 20 = .ok (.iconst 3, 1) := by decide +kernel
theorem dX9_part_21 : decode cX9_part 21 = .ok (.if_icmp .ne 10, 3) := by decide +kernel
theorem dX9_part_24 : decode cX9_part 24 = .ok (.aload_n 0, 1) := by decide +kernel
theorem dX9_part_25 : decode cX9_part 25 = .ok (.bipush 6, 2) := by decide +kernel
theorem dX9_part_27 : decode cX9_part 27 = .ok (.invokevirtual 150, 3) := by decide +kernel
theorem dX9_part_30 : decode cX9_part 30 = .ok (.ireturn, 1) := by decide +kernel
theorem dX9_part_31 : decode cX9_part 31 = .ok (.iload_n 2, 1) := by decide +kernel
theorem dX9_part_32 : decode cX9_part 32 = .ok (.ifCond .lt 13, 3) := by decide +kernel
theorem dX9_part_35 : decode cX9_part 35 = .ok (.iload_n 2, 1) := by decide +kernel
theorem dX9_part_36 : decode cX9_part 36 = .ok (.aload_n 0, 1) := by decide +kernel
theorem dX9_part_37 : decode cX9_part 37 = .ok (.getfield 19, 3) := by decide +kernel
theorem dX9_part_40 : decode cX9_part 40 = .ok (.iload_n 1, 1) := by decide +kernel
theorem dX9_part_41 : decode cX9_part 41 = .ok (.iaload, 1) := by decide +kernel
theorem dX9_part_42 : decode cX9_part 42 = .ok (.if_icmp .lt 11, 3) := by decide +kernel
theorem dX9_part_45 : decode cX9_part 45 = .ok (.aload_n 0, 1) := by decide +kernel
theorem dX9_part_46 : decode cX9_part 46 = .ok (.iconst 1, 1) := by decide +kernel
theorem dX9_part_47 : decode cX9_part 47 = .ok (.invokevirtual 150, 3) := by decide +kernel
theorem dX9_part_50 : decode cX9_part 50 = .ok (.goto 18, 3) := by decide +kernel
theorem dX9_part_53 : decode cX9_part 53 = .ok (.aload_n 0, 1) := by decide +kernel
theorem dX9_part_54 : decode cX9_part 54 = .ok (.aload_n 0, 1) := by decide +kernel
theorem dX9_part_55 : decode cX9_part 55 = .ok (.getfield 22, 3) := by decide +kernel
theorem dX9_part_58 : decode cX9_part 58 = .ok (.bipush 12, 2) := by decide +kernel
theorem dX9_part_60 : decode cX9_part 60 = .ok (.iload_n 1, 1) := by decide +kernel
theorem dX9_part_61 : decode cX9_part 61 = .ok (.imul, 1) := by decide +kernel
theorem dX9_part_62 : decode cX9_part 62 = .ok (.iload_n 2, 1) := by decide +kernel
theorem dX9_part_63 : decode cX9_part 63 = .ok (.iadd, 1) := by decide +kernel
theorem dX9_part_64 : decode cX9_part 64 = .ok (.iaload, 1) := by decide +kernel
theorem dX9_part_65 : decode cX9_part 65 = .ok (.invokevirtual 163, 3) := by decide +kernel
theorem dX9_part_68 : decode cX9_part 68 = .ok (.ireturn, 1) := by decide +kernel
theorem dX9_linked_0 : decode cX9_linked 0 = .ok (.aload_n 0, 1) := by decide +kernel
theorem dX9_linked_1 : decode cX9_linked 1 = .ok (.iload_n 1, 1) := by decide +kernel
theorem dX9_linked_2 : decode cX9_linked 2 = .ok (.invokevirtual 170, 3) := by decide +kernel
theorem dX9_linked_5 : decode cX9_linked 5 = .ok (.ifCond .ne 9, 3) := by decide +kernel
theorem dX9_linked_8 : decode cX9_linked 8 = .ok (.aload_n 0, 1) := by decide +kernel
theorem dX9_linked_9 : decode cX9_linked 9 = .ok (.iconst 1, 1) := by decide +kernel
theorem dX9_linked_10 : decode cX9_linked 10 = .ok (.invokevirtual 150, 3) := by decide +kernel
theorem dX9_linked_13 : decode cX9_linked 13 = .ok (.ireturn, 1) := by decide +kernel
theorem dX9_linked_14 : decode cX9_linked 14 = .ok (.aload_n 0, 1) := by decide +kernel
theorem dX9_linked_15 : decode cX9_linked 15 = .ok (.getfield 16, 3) := by decide +kernel
theorem dX9_linked_18 : decode cX9_linked 18 = .ok (.iload_n 1, 1) := by decide +kernel
theorem dX9_linked_19 : decode cX9_linked 19 = .ok (.iaload, 1) := by decide +kernel
theorem dX9_linked_20 : decode cX9_linked 20 = .ok (.iload_n 2, 1) := by decide +kernel
theorem dX9_linked_21 : decode cX9_linked 21 = .ok (.if_icmp .eq 12, 3) := by decide +kernel
theorem dX9_linked_24 : decode cX9_linked 24 = .ok (.aload_n 0, 1) := by decide +kernel
theorem dX9_linked_25 : decode cX9_linked 25 = .ok (.bipush 6, 2) := by decide +kernel
theorem dX9_linked_27 : decode cX9_linked 27 = .ok (.invokevirtual 150, 3) := by decide +kernel
theorem dX9_linked_30 : decode cX9_linked 30 = .ok (.goto 13, 3) := by decide +kernel
theorem dX9_linked_33 : decode cX9_linked 33 = .ok (.aload_n 0, 1) := by decide +kernel
theorem dX9_linked_34 : decode cX9_linked 34 = .ok (.aload_n 0, 1) := by decide +kernel
theorem dX9_linked_35 : decode cX9_linked 35 = .ok (.getfield 28, 3) := by decide +kernel
theorem dX9_linked_38 : decode cX9_linked 38 = .ok (.iload_n 1, 1) := by decide +kernel
theorem dX9_linked_39 : decode cX9_linked 39 = .ok (.iaload, 1) := by decide +kernel
theorem dX9_linked_40 : decode cX9_linked 40 = .ok (.invokevirtual 163, 3) := by decide +kernel
theorem dX9_linked_43 : decode cX9_linked 43 = .ok (.ireturn, 1) := by decide +kernel
theorem dX9_left_0 : decode cX9_left 0 = .ok (.aload_n 0, 1) := by decide +kernel
theorem dX9_left_1 : decode cX9_left 1 = .ok (.iload_n 1, 1) := by decide +kernel
theorem dX9_left_2 : decode cX9_left 2 = .ok (.iconst 0, 1) := by decide +kernel
theorem dX9_left_3 : decode cX9_left 3 = .ok (.invokevirtual 173, 3) := by decide +kernel
theorem dX9_left_6 : decode cX9_left 6 = .ok (.ireturn, 1) := by decide +kernel
theorem dX9_bound_0 : decode cX9_bound 0 = .ok (.aload_n 0, 1) := by decide +kernel
theorem dX9_bound_1 : decode cX9_bound 1 = .ok (.iload_n 1, 1) := by decide +kernel
theorem dX9_bound_2 : decode cX9_bound 2 = .ok (.iconst 2, 1) := by decide +kernel
theorem dX9_bound_3 : decode cX9_bound 3 = .ok (.invokevirtual 173, 3) := by decide +kernel
theorem dX9_bound_6 : decode cX9_bound 6 = .ok (.ireturn, 1) := by decide +kernel
theorem dX9_undone_0 : decode cX9_undone 0 = .ok (.aload_n 0, 1) := by decide +kernel
theorem dX9_undone_1 : decode cX9_undone 1 = .ok (.iload_n 1, 1) := by decide +kernel
theorem dX9_undone_2 : decode cX9_undone 2 = .ok (.iconst 3, 1) := by decide +kernel
theorem dX9_undone_3 : decode cX9_undone 3 = .ok (.invokevirtual 173, 3) := by decide +kernel
theorem dX9_undone_6 : decode cX9_undone 6 = .ok (.ireturn, 1) := by decide +kernel
theorem dX9_later_0 : decode cX9_later 0 = .ok (.aload_n 0, 1) := by decide +kernel
theorem dX9_later_1 : decode cX9_later 1 = .ok (.iload_n 1, 1) := by decide +kernel
theorem dX9_later_2 : decode cX9_later 2 = .ok (.invokevirtual 170, 3) := by decide +kernel
theorem dX9_later_5 : decode cX9_later 5 = .ok (.ifCond .eq 24, 3) := by decide +kernel
theorem dX9_later_8 : decode cX9_later 8 = .ok (.aload_n 0, 1) := by decide +kernel
theorem dX9_later_9 : decode cX9_later 9 = .ok (.iload_n 2, 1) := by decide +kernel
theorem dX9_later_10 : decode cX9_later 10 = .ok (.invokevirtual 170, 3) := by decide +kernel
theorem dX9_later_13 : decode cX9_later 13 = .ok (.ifCond .eq 16, 3) := by decide +kernel
theorem dX9_later_16 : decode cX9_later 16 = .ok (.aload_n 0, 1) := by decide +kernel
theorem dX9_later_17 : decode cX9_later 17 = .ok (.iload_n 1, 1) := by decide +kernel
theorem dX9_later_18 : decode cX9_later 18 = .ok (.iload_n 2, 1) := by decide +kernel
theorem dX9_later_19 : decode cX9_later 19 = .ok (.invokevirtual 108, 3) := by decide +kernel
theorem dX9_later_22 : decode cX9_later 22 = .ok (.ifCond .eq 7, 3) := by decide +kernel
theorem dX9_later_25 : decode cX9_later 25 = .ok (.iconst 1, 1) := by decide +kernel
theorem dX9_later_26 : decode cX9_later 26 = .ok (.goto 4, 3) := by decide +kernel
theorem dX9_later_29 : decode cX9_later 29 = .ok (.iconst 0, 1) := by decide +kernel
theorem dX9_later_30 : decode cX9_later 30 = .ok (.ireturn, 1) := by decide +kernel
theorem dX9_length_0 : decode cX9_length 0 = .ok (.iload_n 1, 1) := by decide +kernel
theorem dX9_length_1 : decode cX9_length 1 = .ok (.invokestatic 147, 3) := by decide +kernel
theorem dX9_length_4 : decode cX9_length 4 = .ok (.ifCond .eq 11, 3) := by decide +kernel
theorem dX9_length_7 : decode cX9_length 7 = .ok (.aload_n 0, 1) := by decide +kernel
theorem dX9_length_8 : decode cX9_length 8 = .ok (.iload_n 1, 1) := by decide +kernel
theorem dX9_length_9 : decode cX9_length 9 = .ok (.invokevirtual 153, 3) := by decide +kernel
theorem dX9_length_12 : decode cX9_length 12 = .ok (.goto 4, 3) := by decide +kernel
theorem dX9_length_15 : decode cX9_length 15 = .ok (.iconst (-1), 1) := by decide +kernel
theorem dX9_length_16 : decode cX9_length 16 = .ok (.ireturn, 1) := by decide +kernel
theorem dX9_text_0 : decode cX9_text 0 = .ok (.iload_n 1, 1) := by decide +kernel
theorem dX9_text_1 : decode cX9_text 1 = .ok (.invokestatic 147, 3) := by decide +kernel
theorem dX9_text_4 : decode cX9_text 4 = .ok (.ifCond .eq 16, 3) := by decide +kernel
theorem dX9_text_7 : decode cX9_text 7 = .ok (.iload_n 2, 1) := by decide +kernel
theorem dX9_text_8 : decode cX9_text 8 = .ok (.ifCond .lt 12, 3) := by decide +kernel
theorem dX9_text_11 : decode cX9_text 11 = .ok (.iload_n 2, 1) := by decide +kernel
theorem dX9_text_12 : decode cX9_text 12 = .ok (.aload_n 0, 1) := by decide +kernel
theorem dX9_text_13 : decode cX9_text 13 = .ok (.iload_n 1, 1) := by decide +kernel
theorem dX9_text_14 : decode cX9_text 14 = .ok (.invokevirtual 153, 3) := by decide +kernel
theorem dX9_text_17 : decode cX9_text 17 = .ok (.if_icmp .lt 5, 3) := by decide +kernel
theorem dX9_text_20 : decode cX9_text 20 = .ok (.iconst (-1), 1) := by decide +kernel
theorem dX9_text_21 : decode cX9_text 21 = .ok (.ireturn, 1) := by decide +kernel
theorem dX9_text_22 : decode cX9_text 22 = .ok (.aload_n 0, 1) := by decide +kernel
theorem dX9_text_23 : decode cX9_text 23 = .ok (.iload_n 2, 1) := by decide +kernel
theorem dX9_text_24 : decode cX9_text 24 = .ok (.invokevirtual 156, 3) := by decide +kernel
theorem dX9_text_27 : decode cX9_text 27 = .ok (.istore 4, 2) := by decide +kernel
theorem dX9_text_29 : decode cX9_text 29 = .ok (.iload_n 3, 1) := by decide +kernel
theorem dX9_text_30 : decode cX9_text 30 = .ok (.tableswitch 73 0 3 #[30, 43, 51, 58], 30) := by decide +kernel
theorem dX9_text_60 : decode cX9_text 60 = .ok (.aload_n 0, 1) := by decide +kernel
theorem dX9_text_61 : decode cX9_text 61 = .ok (.getfield 25, 3) := by decide +kernel
theorem dX9_text_64 : decode cX9_text 64 = .ok (.aload_n 0, 1) := by decide +kernel
theorem dX9_text_65 : decode cX9_text 65 = .ok (.getfield 53, 3) := by decide +kernel
theorem dX9_text_68 : decode cX9_text 68 = .ok (.iload 4, 2) := by decide +kernel
theorem dX9_text_70 : decode cX9_text 70 = .ok (.iaload, 1) := by decide +kernel
theorem dX9_text_71 : decode cX9_text 71 = .ok (.iaload, 1) := by decide +kernel
theorem dX9_text_72 : decode cX9_text 72 = .ok (.ireturn, 1) := by decide +kernel
theorem dX9_text_73 : decode cX9_text 73 = .ok (.aload_n 0, 1) := by decide +kernel
theorem dX9_text_74 : decode cX9_text 74 = .ok (.getfield 53, 3) := by decide +kernel
theorem dX9_text_77 : decode cX9_text 77 = .ok (.iload 4, 2) := by decide +kernel
theorem dX9_text_79 : decode cX9_text 79 = .ok (.iaload, 1) := by decide +kernel
theorem dX9_text_80 : decode cX9_text 80 = .ok (.ireturn, 1) := by decide +kernel
theorem dX9_text_81 : decode cX9_text 81 = .ok (.aload_n 0, 1) := by decide +kernel
theorem dX9_text_82 : decode cX9_text 82 = .ok (.iload 4, 2) := by decide +kernel
theorem dX9_text_84 : decode cX9_text 84 = .ok (.invokevirtual 176, 3) := by decide +kernel
theorem dX9_text_87 : decode cX9_text 87 = .ok (.ireturn, 1) := by decide +kernel
theorem dX9_text_88 : decode cX9_text 88 = .ok (.aload_n 0, 1) := by decide +kernel
theorem dX9_text_89 : decode cX9_text 89 = .ok (.getfield 7, 3) := by decide +kernel
theorem dX9_text_92 : decode cX9_text 92 = .ok (.aload_n 0, 1) := by decide +kernel
theorem dX9_text_93 : decode cX9_text 93 = .ok (.getfield 53, 3) := by decide +kernel
theorem dX9_text_96 : decode cX9_text 96 = .ok (.iload 4, 2) := by decide +kernel
theorem dX9_text_98 : decode cX9_text 98 = .ok (.iaload, 1) := by decide +kernel
theorem dX9_text_99 : decode cX9_text 99 = .ok (.iconst 4, 1) := by decide +kernel
theorem dX9_text_100 : decode cX9_text 100 = .ok (.idiv, 1) := by decide +kernel
theorem dX9_text_101 : decode cX9_text 101 = .ok (.iaload, 1) := by decide +kernel
theorem dX9_text_102 : decode cX9_text 102 = .ok (.ireturn, 1) := by decide +kernel
theorem dX9_text_103 : decode cX9_text 103 = .ok (.iconst (-1), 1) := by decide +kernel
theorem dX9_text_104 : decode cX9_text 104 = .ok (.ireturn, 1) := by decide +kernel
theorem dX9_signs_0 : decode cX9_signs 0 = .ok (.iload_n 1, 1) := by decide +kernel
theorem dX9_signs_1 : decode cX9_signs 1 = .ok (.invokestatic 147, 3) := by decide +kernel
theorem dX9_signs_4 : decode cX9_signs 4 = .ok (.ifCond .ne 5, 3) := by decide +kernel
theorem dX9_signs_7 : decode cX9_signs 7 = .ok (.iconst (-1), 1) := by decide +kernel
theorem dX9_signs_8 : decode cX9_signs 8 = .ok (.ireturn, 1) := by decide +kernel
theorem dX9_signs_9 : decode cX9_signs 9 = .ok (.aload_n 0, 1) := by decide +kernel
theorem dX9_signs_10 : decode cX9_signs 10 = .ok (.iload_n 1, 1) := by decide +kernel
theorem dX9_signs_11 : decode cX9_signs 11 = .ok (.invokevirtual 153, 3) := by decide +kernel
theorem dX9_signs_14 : decode cX9_signs 14 = .ok (.istore_n 2, 1) := by decide +kernel
theorem dX9_signs_15 : decode cX9_signs 15 = .ok (.aload_n 0, 1) := by decide +kernel
theorem dX9_signs_16 : decode cX9_signs 16 = .ok (.getfield 112, 3) := by decide +kernel
theorem dX9_signs_19 : decode cX9_signs 19 = .ok (.ireturn, 1) := by decide +kernel
theorem dX9_order_0 : decode cX9_order 0 = .ok (.iload_n 2, 1) := by decide +kernel
theorem dX9_order_1 : decode cX9_order 1 = .ok (.ifCond .lt 21, 3) := by decide +kernel
theorem dX9_order_4 : decode cX9_order 4 = .ok (.iload_n 2, 1) := by decide +kernel
theorem dX9_order_5 : decode cX9_order 5 = .ok (.aload_n 0, 1) := by decide +kernel
theorem dX9_order_6 : decode cX9_order 6 = .ok (.iload_n 1, 1) := by decide +kernel
theorem dX9_order_7 : decode cX9_order 7 = .ok (.invokevirtual 179, 3) := by decide +kernel
theorem dX9_order_10 : decode cX9_order 10 = .ok (.if_icmp .ge 12, 3) := by decide +kernel
theorem dX9_order_13 : decode cX9_order 13 = .ok (.aload_n 0, 1) := by decide +kernel
theorem dX9_order_14 : decode cX9_order 14 = .ok (.getfield 53, 3) := by decide +kernel
theorem dX9_order_17 : decode cX9_order 17 = .ok (.iload_n 2, 1) := by decide +kernel
theorem dX9_order_18 : decode cX9_order 18 = .ok (.iaload, 1) := by decide +kernel
theorem dX9_order_19 : decode cX9_order 19 = .ok (.goto 4, 3) := by decide +kernel
theorem dX9_order_22 : decode cX9_order 22 = .ok (.iconst (-1), 1) := by decide +kernel
theorem dX9_order_23 : decode cX9_order 23 = .ok (.ireturn, 1) := by decide +kernel
theorem dX9_place_0 : decode cX9_place 0 = .ok (.aload_n 0, 1) := by decide +kernel
theorem dX9_place_1 : decode cX9_place 1 = .ok (.iload_n 1, 1) := by decide +kernel
theorem dX9_place_2 : decode cX9_place 2 = .ok (.invokevirtual 179, 3) := by decide +kernel
theorem dX9_place_5 : decode cX9_place 5 = .ok (.istore_n 3, 1) := by decide +kernel
theorem dX9_place_6 : decode cX9_place 6 = .ok (.iload_n 3, 1) := by decide +kernel
theorem dX9_place_7 : decode cX9_place 7 = .ok (.ifCond .ge 7, 3) := by decide +kernel
theorem dX9_place_10 : decode cX9_place 10 = .ok (.iconst (-1), 1) := by decide +kernel
theorem dX9_place_11 : decode cX9_place 11 = .ok (.goto 8, 3) := by decide +kernel
theorem dX9_place_14 : decode cX9_place 14 = .ok (.aload_n 0, 1) := by decide +kernel
theorem dX9_place_15 : decode cX9_place 15 = .ok (.iload_n 2, 1) := by decide +kernel
theorem dX9_place_16 : decode cX9_place 16 = .ok (.invokevirtual 138, 3) := by decide +kernel
theorem dX9_place_19 : decode cX9_place 19 = .ok (.istore 4, 2) := by decide +kernel
theorem dX9_place_21 : decode cX9_place 21 = .ok (.iload 4, 2) := by decide +kernel
theorem dX9_place_23 : decode cX9_place 23 = .ok (.ifCond .ge 8, 3) := by decide +kernel
theorem dX9_place_26 : decode cX9_place 26 = .ok (.bipush (-3), 2) := by decide +kernel
theorem dX9_place_28 : decode cX9_place 28 = .ok (.goto 24, 3) := by decide +kernel
theorem dX9_place_31 : decode cX9_place 31 = .ok (.aload_n 0, 1) := by decide +kernel
theorem dX9_place_32 : decode cX9_place 32 = .ok (.getfield 56, 3) := by decide +kernel
theorem dX9_place_35 : decode cX9_place 35 = .ok (.iload 4, 2) := by decide +kernel
theorem dX9_place_37 : decode cX9_place 37 = .ok (.baload, 1) := by decide +kernel
theorem dX9_place_38 : decode cX9_place 38 = .ok (.ifCond .eq 12, 3) := by decide +kernel
theorem dX9_place_41 : decode cX9_place 41 = .ok (.aload_n 0, 1) := by decide +kernel
theorem dX9_place_42 : decode cX9_place 42 = .ok (.iload 4, 2) := by decide +kernel
theorem dX9_place_44 : decode cX9_place 44 = .ok (.invokevirtual 182, 3) := by decide +kernel
theorem dX9_place_47 : decode cX9_place 47 = .ok (.goto 5, 3) := by decide +kernel
theorem dX9_place_50 : decode cX9_place 50 = .ok (.bipush (-2), 2) := by decide +kernel
theorem dX9_place_52 : decode cX9_place 52 = .ok (.ireturn, 1) := by decide +kernel
theorem dX9_strikers_0 : decode cX9_strikers 0 = .ok (.aload_n 0, 1) := by decide +kernel
theorem dX9_strikers_1 : decode cX9_strikers 1 = .ok (.iload_n 1, 1) := by decide +kernel
theorem dX9_strikers_2 : decode cX9_strikers 2 = .ok (.invokevirtual 179, 3) := by decide +kernel
theorem dX9_strikers_5 : decode cX9_strikers 5 = .ok (.istore_n 3, 1) := by decide +kernel
theorem dX9_strikers_6 : decode cX9_strikers 6 = .ok (.iload_n 3, 1) := by decide +kernel
theorem dX9_strikers_7 : decode cX9_strikers 7 = .ok (.ifCond .lt 11, 3) := by decide +kernel
theorem dX9_strikers_10 : decode cX9_strikers 10 = .ok (.aload_n 0, 1) := by decide +kernel
theorem dX9_strikers_11 : decode cX9_strikers 11 = .ok (.iload_n 2, 1) := by decide +kernel
theorem dX9_strikers_12 : decode cX9_strikers 12 = .ok (.invokevirtual 138, 3) := by decide +kernel
theorem dX9_strikers_15 : decode cX9_strikers 15 = .ok (.ifCond .ge 7, 3) := by decide +kernel
theorem dX9_strikers_18 : decode cX9_strikers 18 = .ok (.iconst (-1), 1) := by decide +kernel
theorem dX9_strikers_19 : decode cX9_strikers 19 = .ok (.goto 8, 3) := by decide +kernel
theorem dX9_strikers_22 : decode cX9_strikers 22 = .ok (.aload_n 0, 1) := by decide +kernel
theorem dX9_strikers_23 : decode cX9_strikers 23 = .ok (.iload_n 2, 1) := by decide +kernel
theorem dX9_strikers_24 : decode cX9_strikers 24 = .ok (.invokevirtual 118, 3) := by decide +kernel
theorem dX9_strikers_27 : decode cX9_strikers 27 = .ok (.ireturn, 1) := by decide +kernel
theorem dX9_spans_0 : decode cX9_spans 0 = .ok (.iload_n 1, 1) := by decide +kernel
theorem dX9_spans_1 : decode cX9_spans 1 = .ok (.invokestatic 147, 3) := by decide +kernel
theorem dX9_spans_4 : decode cX9_spans 4 = .ok (.ifCond .eq 12, 3) := by decide +kernel
theorem dX9_spans_7 : decode cX9_spans 7 = .ok (.iload_n 2, 1) := by decide +kernel
theorem dX9_spans_8 : decode cX9_spans 8 = .ok (.ifCond .lt 8, 3) := by decide +kernel
theorem dX9_spans_11 : decode cX9_spans 11 = .ok (.iload_n 2, 1) := by decide +kernel
theorem dX9_spans_12 : decode cX9_spans 12 = .ok (.iconst 3, 1) := by decide +kernel
theorem dX9_spans_13 : decode cX9_spans 13 = .ok (.if_icmp .le 5, 3) := by decide +kernel
theorem dX9_spans_16 : decode cX9_spans 16 = .ok (.iconst (-1), 1) := by decide +kernel
theorem dX9_spans_17 : decode cX9_spans 17 = .ok (.ireturn, 1) := by decide +kernel
theorem dX9_spans_18 : decode cX9_spans 18 = .ok (.aload_n 0, 1) := by decide +kernel
theorem dX9_spans_19 : decode cX9_spans 19 = .ok (.iload_n 1, 1) := by decide +kernel
theorem dX9_spans_20 : decode cX9_spans 20 = .ok (.invokevirtual 153, 3) := by decide +kernel
theorem dX9_spans_23 : decode cX9_spans 23 = .ok (.istore_n 3, 1) := by decide +kernel
theorem dX9_spans_24 : decode cX9_spans 24 = .ok (.iconst 0, 1) := by decide +kernel
theorem dX9_spans_25 : decode cX9_spans 25 = .ok (.istore 4, 2) := by decide +kernel
theorem dX9_spans_27 : decode cX9_spans 27 = .ok (.iconst 0, 1) := by decide +kernel
theorem dX9_spans_28 : decode cX9_spans 28 = .ok (.istore 5, 2) := by decide +kernel
theorem dX9_spans_30 : decode cX9_spans 30 = .ok (.iconst 0, 1) := by decide +kernel
theorem dX9_spans_31 : decode cX9_spans 31 = .ok (.istore 6, 2) := by decide +kernel
theorem dX9_spans_33 : decode cX9_spans 33 = .ok (.iload 6, 2) := by decide +kernel
theorem dX9_spans_35 : decode cX9_spans 35 = .ok (.aload_n 0, 1) := by decide +kernel
theorem dX9_spans_36 : decode cX9_spans 36 = .ok (.getfield 112, 3) := by decide +kernel
theorem dX9_spans_39 : decode cX9_spans 39 = .ok (.if_icmp .ge 52, 3) := by decide +kernel
theorem dX9_spans_42 : decode cX9_spans 42 = .ok (.aload_n 0, 1) := by decide +kernel
theorem dX9_spans_43 : decode cX9_spans 43 = .ok (.getfield 56, 3) := by decide +kernel
theorem dX9_spans_46 : decode cX9_spans 46 = .ok (.iload 6, 2) := by decide +kernel
theorem dX9_spans_48 : decode cX9_spans 48 = .ok (.baload, 1) := by decide +kernel
theorem dX9_spans_49 : decode cX9_spans 49 = .ok (.ifCond .eq 36, 3) := by decide +kernel
theorem dX9_spans_52 : decode cX9_spans 52 = .ok (.aload_n 0, 1) := by decide +kernel
theorem dX9_spans_53 : decode cX9_spans 53 = .ok (.iload 6, 2) := by decide +kernel
theorem dX9_spans_55 : decode cX9_spans 55 = .ok (.iload_n 2, 1) := by decide +kernel
theorem dX9_spans_56 : decode cX9_spans 56 = .ok (.invokevirtual 144, 3) := by decide +kernel
theorem dX9_spans_59 : decode cX9_spans 59 = .ok (.istore 7, 2) := by decide +kernel
theorem dX9_spans_61 : decode cX9_spans 61 = .ok (.iload 4, 2) := by decide +kernel
theorem dX9_spans_63 : decode cX9_spans 63 = .ok (.iload 7, 2) := by decide +kernel
theorem dX9_spans_65 : decode cX9_spans 65 = .ok (.ifCond .eq 12, 3) := by decide +kernel
theorem dX9_spans_68 : decode cX9_spans 68 = .ok (.iload 5, 2) := by decide +kernel
theorem dX9_spans_70 : decode cX9_spans 70 = .ok (.ifCond .ne 7, 3) := by decide +kernel
theorem dX9_spans_73 : decode cX9_spans 73 = .ok (.iconst 1, 1) := by decide +kernel
theorem dX9_spans_74 : decode cX9_spans 74 = .ok (.goto 4, 3) := by decide +kernel
theorem dX9_spans_77 : decode cX9_spans 77 = .ok (.iconst 0, 1) := by decide +kernel
theorem dX9_spans_78 : decode cX9_spans 78 = .ok (.iadd, 1) := by decide +kernel
theorem dX9_spans_79 : decode cX9_spans 79 = .ok (.istore 4, 2) := by decide +kernel
theorem dX9_spans_81 : decode cX9_spans 81 = .ok (.iload 7, 2) := by decide +kernel
theorem dX9_spans_83 : decode cX9_spans 83 = .ok (.istore 5, 2) := by decide +kernel
theorem dX9_spans_85 : decode cX9_spans 85 = .ok (.iinc 6 1, 3) := by decide +kernel
theorem dX9_spans_88 : decode cX9_spans 88 = .ok (.goto (-55), 3) := by decide +kernel
theorem dX9_spans_91 : decode cX9_spans 91 = .ok (.iload 4, 2) := by decide +kernel
theorem dX9_spans_93 : decode cX9_spans 93 = .ok (.ireturn, 1) := by decide +kernel
theorem dX9_history_0 : decode cX9_history 0 = .ok (.iload_n 1, 1) := by decide +kernel
theorem dX9_history_1 : decode cX9_history 1 = .ok (.invokestatic 147, 3) := by decide +kernel
theorem dX9_history_4 : decode cX9_history 4 = .ok (.ifCond .eq 16, 3) := by decide +kernel
theorem dX9_history_7 : decode cX9_history 7 = .ok (.iload_n 2, 1) := by decide +kernel
theorem dX9_history_8 : decode cX9_history 8 = .ok (.ifCond .lt 12, 3) := by decide +kernel
theorem dX9_history_11 : decode cX9_history 11 = .ok (.iload_n 2, 1) := by decide +kernel
theorem dX9_history_12 : decode cX9_history 12 = .ok (.aload_n 0, 1) := by decide +kernel
theorem dX9_history_13 : decode cX9_history 13 = .ok (.iload_n 1, 1) := by decide +kernel
theorem dX9_history_14 : decode cX9_history 14 = .ok (.invokevirtual 131, 3) := by decide +kernel
theorem dX9_history_17 : decode cX9_history 17 = .ok (.if_icmp .lt 5, 3) := by decide +kernel
theorem dX9_history_20 : decode cX9_history 20 = .ok (.iconst (-1), 1) := by decide +kernel
theorem dX9_history_21 : decode cX9_history 21 = .ok (.ireturn, 1) := by decide +kernel
theorem dX9_history_22 : decode cX9_history 22 = .ok (.iconst 0, 1) := by decide +kernel
theorem dX9_history_23 : decode cX9_history 23 = .ok (.istore_n 3, 1) := by decide +kernel
theorem dX9_history_24 : decode cX9_history 24 = .ok (.iload_n 3, 1) := by decide +kernel
theorem dX9_history_25 : decode cX9_history 25 = .ok (.aload_n 0, 1) := by decide +kernel
theorem dX9_history_26 : decode cX9_history 26 = .ok (.getfield 84, 3) := by decide +kernel
theorem dX9_history_29 : decode cX9_history 29 = .ok (.if_icmp .ge 77, 3) := by decide +kernel
theorem dX9_history_32 : decode cX9_history 32 = .ok (.iconst 0, 1) := by decide +kernel
theorem dX9_history_33 : decode cX9_history 33 = .ok (.istore 4, 2) := by decide +kernel
theorem dX9_history_35 : decode cX9_history 35 = .ok (.iconst 0, 1) := by decide +kernel
theorem dX9_history_36 : decode cX9_history 36 = .ok (.istore 5, 2) := by decide +kernel
theorem dX9_history_38 : decode cX9_history 38 = .ok (.iload 5, 2) := by decide +kernel
theorem dX9_history_40 : decode cX9_history 40 = .ok (.aload_n 0, 1) := by decide +kernel
theorem dX9_history_41 : decode cX9_history 41 = .ok (.getfield 84, 3) := by decide +kernel
theorem dX9_history_44 : decode cX9_history 44 = .ok (.if_icmp .ge 39, 3) := by decide +kernel
theorem dX9_history_47 : decode cX9_history 47 = .ok (.iload 4, 2) := by decide +kernel
theorem dX9_history_49 : decode cX9_history 49 = .ok (.aload_n 0, 1) := by decide +kernel
theorem dX9_history_50 : decode cX9_history 50 = .ok (.getfield 47, 3) := by decide +kernel
theorem dX9_history_53 : decode cX9_history 53 = .ok (.iload 5, 2) := by decide +kernel
theorem dX9_history_55 : decode cX9_history 55 = .ok (.baload, 1) := by decide +kernel
theorem dX9_history_56 : decode cX9_history 56 = .ok (.ifCond .eq 17, 3) := by decide +kernel
theorem dX9_history_59 : decode cX9_history 59 = .ok (.aload_n 0, 1) := by decide +kernel
theorem dX9_history_60 : decode cX9_history 60 = .ok (.iload_n 3, 1) := by decide +kernel
theorem dX9_history_61 : decode cX9_history 61 = .ok (.iload 5, 2) := by decide +kernel
theorem dX9_history_63 : decode cX9_history 63 = .ok (.invokevirtual 108, 3) := by decide +kernel
theorem dX9_history_66 : decode cX9_history 66 = .ok (.ifCond .eq 7, 3) := by decide +kernel
theorem dX9_history_69 : decode cX9_history 69 = .ok (.iconst 1, 1) := by decide +kernel
theorem dX9_history_70 : decode cX9_history 70 = .ok (.goto 4, 3) := by decide +kernel
theorem dX9_history_73 : decode cX9_history 73 = .ok (.iconst 0, 1) := by decide +kernel
theorem dX9_history_74 : decode cX9_history 74 = .ok (.iadd, 1) := by decide +kernel
theorem dX9_history_75 : decode cX9_history 75 = .ok (.istore 4, 2) := by decide +kernel
theorem dX9_history_77 : decode cX9_history 77 = .ok (.iinc 5 1, 3) := by decide +kernel
theorem dX9_history_80 : decode cX9_history 80 = .ok (.goto (-42), 3) := by decide +kernel
theorem dX9_history_83 : decode cX9_history 83 = .ok (.aload_n 0, 1) := by decide +kernel
theorem dX9_history_84 : decode cX9_history 84 = .ok (.getfield 47, 3) := by decide +kernel
theorem dX9_history_87 : decode cX9_history 87 = .ok (.iload_n 3, 1) := by decide +kernel
theorem dX9_history_88 : decode cX9_history 88 = .ok (.baload, 1) := by decide +kernel
theorem dX9_history_89 : decode cX9_history 89 = .ok (.ifCond .eq 11, 3) := by decide +kernel
theorem dX9_history_92 : decode cX9_history 92 = .ok (.iload 4, 2) := by decide +kernel
theorem dX9_history_94 : decode cX9_history 94 = .ok (.iload_n 2, 1) := by decide +kernel
theorem dX9_history_95 : decode cX9_history 95 = .ok (.if_icmp .ne 5, 3) := by decide +kernel
theorem dX9_history_98 : decode cX9_history 98 = .ok (.iload_n 3, 1) := by decide +kernel
theorem dX9_history_99 : decode cX9_history 99 = .ok (.ireturn, 1) := by decide +kernel
theorem dX9_history_100 : decode cX9_history 100 = .ok (.iinc 3 1, 3) := by decide +kernel
theorem dX9_history_103 : decode cX9_history 103 = .ok (.goto (-79), 3) := by decide +kernel
theorem dX9_history_106 : decode cX9_history 106 = .ok (.iconst (-1), 1) := by decide +kernel
theorem dX9_history_107 : decode cX9_history 107 = .ok (.ireturn, 1) := by decide +kernel
theorem dX9_asOf_0 : decode cX9_asOf 0 = .ok (.iload_n 1, 1) := by decide +kernel
theorem dX9_asOf_1 : decode cX9_asOf 1 = .ok (.invokestatic 147, 3) := by decide +kernel
theorem dX9_asOf_4 : decode cX9_asOf 4 = .ok (.ifCond .ne 5, 3) := by decide +kernel
theorem dX9_asOf_7 : decode cX9_asOf 7 = .ok (.iconst (-1), 1) := by decide +kernel
theorem dX9_asOf_8 : decode cX9_asOf 8 = .ok (.ireturn, 1) := by decide +kernel
theorem dX9_asOf_9 : decode cX9_asOf 9 = .ok (.aload_n 0, 1) := by decide +kernel
theorem dX9_asOf_10 : decode cX9_asOf 10 = .ok (.iload_n 1, 1) := by decide +kernel
theorem dX9_asOf_11 : decode cX9_asOf 11 = .ok (.invokevirtual 131, 3) := by decide +kernel
theorem dX9_asOf_14 : decode cX9_asOf 14 = .ok (.pop, 1) := by decide +kernel
theorem dX9_asOf_15 : decode cX9_asOf 15 = .ok (.iconst 0, 1) := by decide +kernel
theorem dX9_asOf_16 : decode cX9_asOf 16 = .ok (.istore 4, 2) := by decide +kernel
theorem dX9_asOf_18 : decode cX9_asOf 18 = .ok (.iload 4, 2) := by decide +kernel
theorem dX9_asOf_20 : decode cX9_asOf 20 = .ok (.aload_n 0, 1) := by decide +kernel
theorem dX9_asOf_21 : decode cX9_asOf 21 = .ok (.getfield 84, 3) := by decide +kernel
theorem dX9_asOf_24 : decode cX9_asOf 24 = .ok (.if_icmp .ge 42, 3) := by decide +kernel
theorem dX9_asOf_27 : decode cX9_asOf 27 = .ok (.aload_n 0, 1) := by decide +kernel
theorem dX9_asOf_28 : decode cX9_asOf 28 = .ok (.getfield 47, 3) := by decide +kernel
theorem dX9_asOf_31 : decode cX9_asOf 31 = .ok (.iload 4, 2) := by decide +kernel
theorem dX9_asOf_33 : decode cX9_asOf 33 = .ok (.aload_n 0, 1) := by decide +kernel
theorem dX9_asOf_34 : decode cX9_asOf 34 = .ok (.getfield 47, 3) := by decide +kernel
theorem dX9_asOf_37 : decode cX9_asOf 37 = .ok (.iload 4, 2) := by decide +kernel
theorem dX9_asOf_39 : decode cX9_asOf 39 = .ok (.baload, 1) := by decide +kernel
theorem dX9_asOf_40 : decode cX9_asOf 40 = .ok (.ifCond .eq 18, 3) := by decide +kernel
theorem dX9_asOf_43 : decode cX9_asOf 43 = .ok (.aload_n 0, 1) := by decide +kernel
theorem dX9_asOf_44 : decode cX9_asOf 44 = .ok (.getfield 13, 3) := by decide +kernel
theorem dX9_asOf_47 : decode cX9_asOf 47 = .ok (.iload 4, 2) := by decide +kernel
theorem dX9_asOf_49 : decode cX9_asOf 49 = .ok (.iaload, 1) := by decide +kernel
theorem dX9_asOf_50 : decode cX9_asOf 50 = .ok (.iload_n 2, 1) := by decide +kernel
theorem dX9_asOf_51 : decode cX9_asOf 51 = .ok (.if_icmp .gt 7, 3) := by decide +kernel
theorem dX9_asOf_54 : decode cX9_asOf 54 = .ok (.iconst 1, 1) := by decide +kernel
theorem dX9_asOf_55 : decode cX9_asOf 55 = .ok (.goto 4, 3) := by decide +kernel
theorem dX9_asOf_58 : decode cX9_asOf 58 = .ok (.iconst 0, 1) := by decide +kernel
theorem dX9_asOf_59 : decode cX9_asOf 59 = .ok (.bastore, 1) := by decide +kernel
theorem dX9_asOf_60 : decode cX9_asOf 60 = .ok (.iinc 4 1, 3) := by decide +kernel
theorem dX9_asOf_63 : decode cX9_asOf 63 = .ok (.goto (-45), 3) := by decide +kernel
theorem dX9_asOf_66 : decode cX9_asOf 66 = .ok (.aload_n 0, 1) := by decide +kernel
theorem dX9_asOf_67 : decode cX9_asOf 67 = .ok (.invokevirtual 134, 3) := by decide +kernel
theorem dX9_asOf_70 : decode cX9_asOf 70 = .ok (.istore 4, 2) := by decide +kernel
theorem dX9_asOf_72 : decode cX9_asOf 72 = .ok (.iload_n 3, 1) := by decide +kernel
theorem dX9_asOf_73 : decode cX9_asOf 73 = .ok (.ifCond .lt 27, 3) := by decide +kernel
theorem dX9_asOf_76 : decode cX9_asOf 76 = .ok (.iload_n 3, 1) := by decide +kernel
theorem dX9_asOf_77 : decode cX9_asOf 77 = .ok (.iload 4, 2) := by decide +kernel
theorem dX9_asOf_79 : decode cX9_asOf 79 = .ok (.if_icmp .ge 21, 3) := by decide +kernel
theorem dX9_asOf_82 : decode cX9_asOf 82 = .ok (.aload_n 0, 1) := by decide +kernel
theorem dX9_asOf_83 : decode cX9_asOf 83 = .ok (.getfield 25, 3) := by decide +kernel
theorem dX9_asOf_86 : decode cX9_asOf 86 = .ok (.aload_n 0, 1) := by decide +kernel
theorem dX9_asOf_87 : decode cX9_asOf 87 = .ok (.getfield 53, 3) := by decide +kernel
theorem dX9_asOf_90 : decode cX9_asOf 90 = .ok (.aload_n 0, 1) := by decide +kernel
theorem dX9_asOf_91 : decode cX9_asOf 91 = .ok (.iload_n 3, 1) := by decide +kernel
theorem dX9_asOf_92 : decode cX9_asOf 92 = .ok (.invokevirtual 156, 3) := by decide +kernel
theorem dX9_asOf_95 : decode cX9_asOf 95 = .ok (.iaload, 1) := by decide +kernel
theorem dX9_asOf_96 : decode cX9_asOf 96 = .ok (.iaload, 1) := by decide +kernel
theorem dX9_asOf_97 : decode cX9_asOf 97 = .ok (.goto 4, 3) := by decide +kernel
theorem dX9_asOf_100 : decode cX9_asOf 100 = .ok (.iconst (-1), 1) := by decide +kernel
theorem dX9_asOf_101 : decode cX9_asOf 101 = .ok (.ireturn, 1) := by decide +kernel
theorem dX9_unlike_0 : decode cX9_unlike 0 = .ok (.iload_n 1, 1) := by decide +kernel
theorem dX9_unlike_1 : decode cX9_unlike 1 = .ok (.invokestatic 147, 3) := by decide +kernel
theorem dX9_unlike_4 : decode cX9_unlike 4 = .ok (.ifCond .eq 10, 3) := by decide +kernel
theorem dX9_unlike_7 : decode cX9_unlike 7 = .ok (.iload_n 2, 1) := by decide +kernel
theorem dX9_unlike_8 : decode cX9_unlike 8 = .ok (.invokestatic 147, 3) := by decide +kernel
theorem dX9_unlike_11 : decode cX9_unlike 11 = .ok (.ifCond .ne 5, 3) := by decide +kernel
theorem dX9_unlike_14 : decode cX9_unlike 14 = .ok (.iconst (-1), 1) := by decide +kernel
theorem dX9_unlike_15 : decode cX9_unlike 15 = .ok (.ireturn, 1) := by decide +kernel
theorem dX9_unlike_16 : decode cX9_unlike 16 = .ok (.aload_n 0, 1) := by decide +kernel
theorem dX9_unlike_17 : decode cX9_unlike 17 = .ok (.iload_n 1, 1) := by decide +kernel
theorem dX9_unlike_18 : decode cX9_unlike 18 = .ok (.invokevirtual 153, 3) := by decide +kernel
theorem dX9_unlike_21 : decode cX9_unlike 21 = .ok (.istore_n 3, 1) := by decide +kernel
theorem dX9_unlike_22 : decode cX9_unlike 22 = .ok (.iconst 0, 1) := by decide +kernel
theorem dX9_unlike_23 : decode cX9_unlike 23 = .ok (.istore 4, 2) := by decide +kernel
theorem dX9_unlike_25 : decode cX9_unlike 25 = .ok (.iload 4, 2) := by decide +kernel
theorem dX9_unlike_27 : decode cX9_unlike 27 = .ok (.iload_n 3, 1) := by decide +kernel
theorem dX9_unlike_28 : decode cX9_unlike 28 = .ok (.if_icmp .ge 44, 3) := by decide +kernel
theorem dX9_unlike_31 : decode cX9_unlike 31 = .ok (.aload_n 0, 1) := by decide +kernel
theorem dX9_unlike_32 : decode cX9_unlike 32 = .ok (.iload 4, 2) := by decide +kernel
theorem dX9_unlike_34 : decode cX9_unlike 34 = .ok (.invokevirtual 156, 3) := by decide +kernel
theorem dX9_unlike_37 : decode cX9_unlike 37 = .ok (.istore 5, 2) := by decide +kernel
theorem dX9_unlike_39 : decode cX9_unlike 39 = .ok (.aload_n 0, 1) := by decide +kernel
theorem dX9_unlike_40 : decode cX9_unlike 40 = .ok (.getfield 74, 3) := by decide +kernel
theorem dX9_unlike_43 : decode cX9_unlike 43 = .ok (.iload 4, 2) := by decide +kernel
theorem dX9_unlike_45 : decode cX9_unlike 45 = .ok (.aload_n 0, 1) := by decide +kernel
theorem dX9_unlike_46 : decode cX9_unlike 46 = .ok (.getfield 53, 3) := by decide +kernel
theorem dX9_unlike_49 : decode cX9_unlike 49 = .ok (.iload 5, 2) := by decide +kernel
theorem dX9_unlike_51 : decode cX9_unlike 51 = .ok (.iaload, 1) := by decide +kernel
theorem dX9_unlike_52 : decode cX9_unlike 52 = .ok (.iastore, 1) := by decide +kernel
theorem dX9_unlike_53 : decode cX9_unlike 53 = .ok (.aload_n 0, 1) := by decide +kernel
theorem dX9_unlike_54 : decode cX9_unlike 54 = .ok (.getfield 77, 3) := by decide +kernel
theorem dX9_unlike_57 : decode cX9_unlike 57 = .ok (.iload 4, 2) := by decide +kernel
theorem dX9_unlike_59 : decode cX9_unlike 59 = .ok (.aload_n 0, 1) := by decide +kernel
theorem dX9_unlike_60 : decode cX9_unlike 60 = .ok (.iload 5, 2) := by decide +kernel
theorem dX9_unlike_62 : decode cX9_unlike 62 = .ok (.invokevirtual 176, 3) := by decide +kernel
theorem dX9_unlike_65 : decode cX9_unlike 65 = .ok (.iastore, 1) := by decide +kernel
theorem dX9_unlike_66 : decode cX9_unlike 66 = .ok (.iinc 4 1, 3) := by decide +kernel
theorem dX9_unlike_69 : decode cX9_unlike 69 = .ok (.goto (-44), 3) := by decide +kernel
theorem dX9_unlike_72 : decode cX9_unlike 72 = .ok (.iconst 0, 1) := by decide +kernel
theorem dX9_unlike_73 : decode cX9_unlike 73 = .ok (.istore 4, 2) := by decide +kernel
theorem dX9_unlike_75 : decode cX9_unlike 75 = .ok (.iload 4, 2) := by decide +kernel
theorem dX9_unlike_77 : decode cX9_unlike 77 = .ok (.aload_n 0, 1) := by decide +kernel
theorem dX9_unlike_78 : decode cX9_unlike 78 = .ok (.getfield 84, 3) := by decide +kernel
theorem dX9_unlike_81 : decode cX9_unlike 81 = .ok (.if_icmp .ge 23, 3) := by decide +kernel
theorem dX9_unlike_84 : decode cX9_unlike 84 = .ok (.aload_n 0, 1) := by decide +kernel
theorem dX9_unlike_85 : decode cX9_unlike 85 = .ok (.getfield 71, 3) := by decide +kernel
theorem dX9_unlike_88 : decode cX9_unlike 88 = .ok (.iload 4, 2) := by decide +kernel
theorem dX9_unlike_90 : decode cX9_unlike 90 = .ok (.aload_n 0, 1) := by decide +kernel
theorem dX9_unlike_91 : decode cX9_unlike 91 = .ok (.getfield 47, 3) := by decide +kernel
theorem dX9_unlike_94 : decode cX9_unlike 94 = .ok (.iload 4, 2) := by decide +kernel
theorem dX9_unlike_96 : decode cX9_unlike 96 = .ok (.baload, 1) := by decide +kernel
theorem dX9_unlike_97 : decode cX9_unlike 97 = .ok (.bastore, 1) := by decide +kernel
theorem dX9_unlike_98 : decode cX9_unlike 98 = .ok (.iinc 4 1, 3) := by decide +kernel
theorem dX9_unlike_101 : decode cX9_unlike 101 = .ok (.goto (-26), 3) := by decide +kernel
theorem dX9_unlike_104 : decode cX9_unlike 104 = .ok (.aload_n 0, 1) := by decide +kernel
theorem dX9_unlike_105 : decode cX9_unlike 105 = .ok (.iload_n 2, 1) := by decide +kernel
theorem dX9_unlike_106 : decode cX9_unlike 106 = .ok (.invokevirtual 153, 3) := by decide +kernel
theorem dX9_unlike_109 : decode cX9_unlike 109 = .ok (.istore 4, 2) := by decide +kernel
theorem dX9_unlike_111 : decode cX9_unlike 111 = .ok (.iconst 1, 1) := by decide +kernel
theorem dX9_unlike_112 : decode cX9_unlike 112 = .ok (.istore 5, 2) := by decide +kernel
theorem dX9_unlike_114 : decode cX9_unlike 114 = .ok (.iconst 0, 1) := by decide +kernel
theorem dX9_unlike_115 : decode cX9_unlike 115 = .ok (.istore 6, 2) := by decide +kernel
theorem dX9_unlike_117 : decode cX9_unlike 117 = .ok (.iload 6, 2) := by decide +kernel
theorem dX9_unlike_119 : decode cX9_unlike 119 = .ok (.aload_n 0, 1) := by decide +kernel
theorem dX9_unlike_120 : decode cX9_unlike 120 = .ok (.getfield 84, 3) := by decide +kernel
theorem dX9_unlike_123 : decode cX9_unlike 123 = .ok (.if_icmp .ge 38, 3) := by decide +kernel
theorem dX9_unlike_126 : decode cX9_unlike 126 = .ok (.iload 5, 2) := by decide +kernel
theorem dX9_unlike_128 : decode cX9_unlike 128 = .ok (.ifCond .eq 24, 3) := by decide +kernel
theorem dX9_unlike_131 : decode cX9_unlike 131 = .ok (.aload_n 0, 1) := by decide +kernel
theorem dX9_unlike_132 : decode cX9_unlike 132 = .ok (.getfield 71, 3) := by decide +kernel
theorem dX9_unlike_135 : decode cX9_unlike 135 = .ok (.iload 6, 2) := by decide +kernel
theorem dX9_unlike_137 : decode cX9_unlike 137 = .ok (.baload, 1) := by decide +kernel
theorem dX9_unlike_138 : decode cX9_unlike 138 = .ok (.aload_n 0, 1) := by decide +kernel
theorem dX9_unlike_139 : decode cX9_unlike 139 = .ok (.getfield 47, 3) := by decide +kernel
theorem dX9_unlike_142 : decode cX9_unlike 142 = .ok (.iload 6, 2) := by decide +kernel
theorem dX9_unlike_144 : decode cX9_unlike 144 = .ok (.baload, 1) := by decide +kernel
theorem dX9_unlike_145 : decode cX9_unlike 145 = .ok (.if_icmp .ne 7, 3) := by decide +kernel
theorem dX9_unlike_148 : decode cX9_unlike 148 = .ok (.iconst 1, 1) := by decide +kernel
theorem dX9_unlike_149 : decode cX9_unlike 149 = .ok (.goto 4, 3) := by decide +kernel
theorem dX9_unlike_152 : decode cX9_unlike 152 = .ok (.iconst 0, 1) := by decide +kernel
theorem dX9_unlike_153 : decode cX9_unlike 153 = .ok (.istore 5, 2) := by decide +kernel
theorem dX9_unlike_155 : decode cX9_unlike 155 = .ok (.iinc 6 1, 3) := by decide +kernel
theorem dX9_unlike_158 : decode cX9_unlike 158 = .ok (.goto (-41), 3) := by decide +kernel
theorem dX9_unlike_161 : decode cX9_unlike 161 = .ok (.iload 5, 2) := by decide +kernel
theorem dX9_unlike_163 : decode cX9_unlike 163 = .ok (.ifCond .eq 5, 3) := by decide +kernel
theorem dX9_unlike_166 : decode cX9_unlike 166 = .ok (.iconst 0, 1) := by decide +kernel
theorem dX9_unlike_167 : decode cX9_unlike 167 = .ok (.ireturn, 1) := by decide +kernel
theorem dX9_unlike_168 : decode cX9_unlike 168 = .ok (.iconst 0, 1) := by decide +kernel
theorem dX9_unlike_169 : decode cX9_unlike 169 = .ok (.istore 6, 2) := by decide +kernel
theorem dX9_unlike_171 : decode cX9_unlike 171 = .ok (.iload 6, 2) := by decide +kernel
theorem dX9_unlike_173 : decode cX9_unlike 173 = .ok (.iload_n 3, 1) := by decide +kernel
theorem dX9_unlike_174 : decode cX9_unlike 174 = .ok (.if_icmp .ge 57, 3) := by decide +kernel
theorem dX9_unlike_177 : decode cX9_unlike 177 = .ok (.iload 6, 2) := by decide +kernel
theorem dX9_unlike_179 : decode cX9_unlike 179 = .ok (.iload 4, 2) := by decide +kernel
theorem dX9_unlike_181 : decode cX9_unlike 181 = .ok (.if_icmp .ge 50, 3) := by decide +kernel
theorem dX9_unlike_184 : decode cX9_unlike 184 = .ok (.aload_n 0, 1) := by decide +kernel
theorem dX9_unlike_185 : decode cX9_unlike 185 = .ok (.getfield 53, 3) := by decide +kernel
theorem dX9_unlike_188 : decode cX9_unlike 188 = .ok (.aload_n 0, 1) := by decide +kernel
theorem dX9_unlike_189 : decode cX9_unlike 189 = .ok (.iload 6, 2) := by decide +kernel
theorem dX9_unlike_191 : decode cX9_unlike 191 = .ok (.invokevirtual 156, 3) := by decide +kernel
theorem dX9_unlike_194 : decode cX9_unlike 194 = .ok (.iaload, 1) := by decide +kernel
theorem dX9_unlike_195 : decode cX9_unlike 195 = .ok (.aload_n 0, 1) := by decide +kernel
theorem dX9_unlike_196 : decode cX9_unlike 196 = .ok (.getfield 74, 3) := by decide +kernel
theorem dX9_unlike_199 : decode cX9_unlike 199 = .ok (.iload 6, 2) := by decide +kernel
theorem dX9_unlike_201 : decode cX9_unlike 201 = .ok (.iaload, 1) := by decide +kernel
theorem dX9_unlike_202 : decode cX9_unlike 202 = .ok (.if_icmp .ne 29, 3) := by decide +kernel
theorem dX9_unlike_205 : decode cX9_unlike 205 = .ok (.aload_n 0, 1) := by decide +kernel
theorem dX9_unlike_206 : decode cX9_unlike 206 = .ok (.aload_n 0, 1) := by decide +kernel
theorem dX9_unlike_207 : decode cX9_unlike 207 = .ok (.iload 6, 2) := by decide +kernel
theorem dX9_unlike_209 : decode cX9_unlike 209 = .ok (.invokevirtual 156, 3) := by decide +kernel
theorem dX9_unlike_212 : decode cX9_unlike 212 = .ok (.invokevirtual 176, 3) := by decide +kernel
theorem dX9_unlike_215 : decode cX9_unlike 215 = .ok (.aload_n 0, 1) := by decide +kernel
theorem dX9_unlike_216 : decode cX9_unlike 216 = .ok (.getfield 77, 3) := by decide +kernel
theorem dX9_unlike_219 : decode cX9_unlike 219 = .ok (.iload 6, 2) := by decide +kernel
theorem dX9_unlike_221 : decode cX9_unlike 221 = .ok (.iaload, 1) := by decide +kernel
theorem dX9_unlike_222 : decode cX9_unlike 222 = .ok (.if_icmp .ne 9, 3) := by decide +kernel
theorem dX9_unlike_225 : decode cX9_unlike 225 = .ok (.iinc 6 1, 3) := by decide +kernel
theorem dX9_unlike_228 : decode cX9_unlike 228 = .ok (.goto (-57), 3) := by decide +kernel
theorem dX9_unlike_231 : decode cX9_unlike 231 = .ok (.iload 6, 2) := by decide +kernel
theorem dX9_unlike_233 : decode cX9_unlike 233 = .ok (.iconst 1, 1) := by decide +kernel
theorem dX9_unlike_234 : decode cX9_unlike 234 = .ok (.iadd, 1) := by decide +kernel
theorem dX9_unlike_235 : decode cX9_unlike 235 = .ok (.ireturn, 1) := by decide +kernel
theorem dX9_cursor_0 : decode cX9_cursor 0 = .ok (.iload_n 1, 1) := by decide +kernel
theorem dX9_cursor_1 : decode cX9_cursor 1 = .ok (.invokestatic 147, 3) := by decide +kernel
theorem dX9_cursor_4 : decode cX9_cursor 4 = .ok (.ifCond .eq 12, 3) := by decide +kernel
theorem dX9_cursor_7 : decode cX9_cursor 7 = .ok (.iload_n 2, 1) := by decide +kernel
theorem dX9_cursor_8 : decode cX9_cursor 8 = .ok (.ifCond .lt 8, 3) := by decide +kernel
theorem dX9_cursor_11 : decode cX9_cursor 11 = .ok (.iload_n 2, 1) := by decide +kernel
theorem dX9_cursor_12 : decode cX9_cursor 12 = .ok (.iconst 3, 1) := by decide +kernel
theorem dX9_cursor_13 : decode cX9_cursor 13 = .ok (.if_icmp .lt 9, 3) := by decide +kernel
theorem dX9_cursor_16 : decode cX9_cursor 16 = .ok (.aload_n 0, 1) := by decide +kernel
theorem dX9_cursor_17 : decode cX9_cursor 17 = .ok (.iconst 1, 1) := by decide +kernel
theorem dX9_cursor_18 : decode cX9_cursor 18 = .ok (.invokevirtual 150, 3) := by decide +kernel
theorem dX9_cursor_21 : decode cX9_cursor 21 = .ok (.ireturn, 1) := by decide +kernel
theorem dX9_cursor_22 : decode cX9_cursor 22 = .ok (.aload_n 0, 1) := by decide +kernel
theorem dX9_cursor_23 : decode cX9_cursor 23 = .ok (.iload_n 1, 1) := by decide +kernel
theorem dX9_cursor_24 : decode cX9_cursor 24 = .ok (.invokevirtual 153, 3) := by decide +kernel
theorem dX9_cursor_27 : decode cX9_cursor 27 = .ok (.istore 5, 2) := by decide +kernel
theorem dX9_cursor_29 : decode cX9_cursor 29 = .ok (.iload_n 3, 1) := by decide +kernel
theorem dX9_cursor_30 : decode cX9_cursor 30 = .ok (.ifCond .lt 20, 3) := by decide +kernel
theorem dX9_cursor_33 : decode cX9_cursor 33 = .ok (.iload_n 3, 1) := by decide +kernel
theorem dX9_cursor_34 : decode cX9_cursor 34 = .ok (.iload 5, 2) := by decide +kernel
theorem dX9_cursor_36 : decode cX9_cursor 36 = .ok (.if_icmp .gt 14, 3) := by decide +kernel
theorem dX9_cursor_39 : decode cX9_cursor 39 = .ok (.iload 4, 2) := by decide +kernel
theorem dX9_cursor_41 : decode cX9_cursor 41 = .ok (.ifCond .lt 9, 3) := by decide +kernel
theorem dX9_cursor_44 : decode cX9_cursor 44 = .ok (.iload 4, 2) := by decide +kernel
theorem dX9_cursor_46 : decode cX9_cursor 46 = .ok (.iconst 1, 1) := by decide +kernel
theorem dX9_cursor_47 : decode cX9_cursor 47 = .ok (.if_icmp .le 9, 3) := by decide +kernel
theorem dX9_cursor_50 : decode cX9_cursor 50 = .ok (.aload_n 0, 1) := by decide +kernel
theorem dX9_cursor_51 : decode cX9_cursor 51 = .ok (.iconst 1, 1) := by decide +kernel
theorem dX9_cursor_52 : decode cX9_cursor 52 = .ok (.invokevirtual 150, 3) := by decide +kernel
theorem dX9_cursor_55 : decode cX9_cursor 55 = .ok (.ireturn, 1) := by decide +kernel
theorem dX9_cursor_56 : decode cX9_cursor 56 = .ok (.iload 4, 2) := by decide +kernel
theorem dX9_cursor_58 : decode cX9_cursor 58 = .ok (.ifCond .ne 9, 3) := by decide +kernel
theorem dX9_cursor_61 : decode cX9_cursor 61 = .ok (.iload_n 3, 1) := by decide +kernel
theorem dX9_cursor_62 : decode cX9_cursor 62 = .ok (.iconst 1, 1) := by decide +kernel
theorem dX9_cursor_63 : decode cX9_cursor 63 = .ok (.isub, 1) := by decide +kernel
theorem dX9_cursor_64 : decode cX9_cursor 64 = .ok (.goto 4, 3) := by decide +kernel
theorem dX9_cursor_67 : decode cX9_cursor 67 = .ok (.iload_n 3, 1) := by decide +kernel
theorem dX9_cursor_68 : decode cX9_cursor 68 = .ok (.istore 6, 2) := by decide +kernel
theorem dX9_cursor_70 : decode cX9_cursor 70 = .ok (.aload_n 0, 1) := by decide +kernel
theorem dX9_cursor_71 : decode cX9_cursor 71 = .ok (.getfield 41, 3) := by decide +kernel
theorem dX9_cursor_74 : decode cX9_cursor 74 = .ok (.iconst 3, 1) := by decide +kernel
theorem dX9_cursor_75 : decode cX9_cursor 75 = .ok (.iload_n 1, 1) := by decide +kernel
theorem dX9_cursor_76 : decode cX9_cursor 76 = .ok (.imul, 1) := by decide +kernel
theorem dX9_cursor_77 : decode cX9_cursor 77 = .ok (.iload_n 2, 1) := by decide +kernel
theorem dX9_cursor_78 : decode cX9_cursor 78 = .ok (.iadd, 1) := by decide +kernel
theorem dX9_cursor_79 : decode cX9_cursor 79 = .ok (.iload 6, 2) := by decide +kernel
theorem dX9_cursor_81 : decode cX9_cursor 81 = .ok (.ifCond .lt 10, 3) := by decide +kernel
theorem dX9_cursor_84 : decode cX9_cursor 84 = .ok (.iload 6, 2) := by decide +kernel
theorem dX9_cursor_86 : decode cX9_cursor 86 = .ok (.iload 5, 2) := by decide +kernel
theorem dX9_cursor_88 : decode cX9_cursor 88 = .ok (.if_icmp .lt 8, 3) := by decide +kernel
theorem dX9_cursor_91 : decode cX9_cursor 91 = .ok (.bipush (-2), 2) := by decide +kernel
theorem dX9_cursor_93 : decode cX9_cursor 93 = .ok (.goto 14, 3) := by decide +kernel
theorem dX9_cursor_96 : decode cX9_cursor 96 = .ok (.aload_n 0, 1) := by decide +kernel
theorem dX9_cursor_97 : decode cX9_cursor 97 = .ok (.getfield 53, 3) := by decide +kernel
theorem dX9_cursor_100 : decode cX9_cursor 100 = .ok (.aload_n 0, 1) := by decide +kernel
theorem dX9_cursor_101 : decode cX9_cursor 101 = .ok (.iload 6, 2) := by decide +kernel
theorem dX9_cursor_103 : decode cX9_cursor 103 = .ok (.invokevirtual 156, 3) := by decide +kernel
theorem dX9_cursor_106 : decode cX9_cursor 106 = .ok (.iaload, 1) := by decide +kernel
theorem dX9_cursor_107 : decode cX9_cursor 107 = .ok (.iastore, 1) := by decide +kernel
theorem dX9_cursor_108 : decode cX9_cursor 108 = .ok (.aload_n 0, 1) := by decide +kernel
theorem dX9_cursor_109 : decode cX9_cursor 109 = .ok (.getfield 44, 3) := by decide +kernel
theorem dX9_cursor_112 : decode cX9_cursor 112 = .ok (.iconst 3, 1) := by decide +kernel
theorem dX9_cursor_113 : decode cX9_cursor 113 = .ok (.iload_n 1, 1) := by decide +kernel
theorem dX9_cursor_114 : decode cX9_cursor 114 = .ok (.imul, 1) := by decide +kernel
theorem dX9_cursor_115 : decode cX9_cursor 115 = .ok (.iload_n 2, 1) := by decide +kernel
theorem dX9_cursor_116 : decode cX9_cursor 116 = .ok (.iadd, 1) := by decide +kernel
theorem dX9_cursor_117 : decode cX9_cursor 117 = .ok (.iload 4, 2) := by decide +kernel
theorem dX9_cursor_119 : decode cX9_cursor 119 = .ok (.iastore, 1) := by decide +kernel
theorem dX9_cursor_120 : decode cX9_cursor 120 = .ok (.aload_n 0, 1) := by decide +kernel
theorem dX9_cursor_121 : decode cX9_cursor 121 = .ok (.iconst 1, 1) := by decide +kernel
theorem dX9_cursor_122 : decode cX9_cursor 122 = .ok (.invokevirtual 163, 3) := by decide +kernel
theorem dX9_cursor_125 : decode cX9_cursor 125 = .ok (.ireturn, 1) := by decide +kernel
theorem dX9_where_0 : decode cX9_where 0 = .ok (.iload_n 1, 1) := by decide +kernel
theorem dX9_where_1 : decode cX9_where 1 = .ok (.invokestatic 147, 3) := by decide +kernel
theorem dX9_where_4 : decode cX9_where 4 = .ok (.ifCond .eq 25, 3) := by decide +kernel
theorem dX9_where_7 : decode cX9_where 7 = .ok (.iload_n 2, 1) := by decide +kernel
theorem dX9_where_8 : decode cX9_where 8 = .ok (.ifCond .lt 21, 3) := by decide +kernel
theorem dX9_where_11 : decode cX9_where 11 = .ok (.iload_n 2, 1) := by decide +kernel
theorem dX9_where_12 : decode cX9_where 12 = .ok (.iconst 3, 1) := by decide +kernel
theorem dX9_where_13 : decode cX9_where 13 = .ok (.if_icmp .ge 16, 3) := by decide +kernel
theorem dX9_where_16 : decode cX9_where 16 = .ok (.aload_n 0, 1) := by decide +kernel
theorem dX9_where_17 : decode cX9_where 17 = .ok (.getfield 44, 3) := by decide +kernel
theorem dX9_where_20 : decode cX9_where 20 = .ok (.iconst 3, 1) := by decide +kernel
theorem dX9_where_21 : decode cX9_where 21 = .ok (.iload_n 1, 1) := by decide +kernel
theorem dX9_where_22 : decode cX9_where 22 = .ok (.imul, 1) := by decide +kernel
theorem dX9_where_23 : decode cX9_where 23 = .ok (.iload_n 2, 1) := by decide +kernel
theorem dX9_where_24 : decode cX9_where 24 = .ok (.iadd, 1) := by decide +kernel
theorem dX9_where_25 : decode cX9_where 25 = .ok (.iaload, 1) := by decide +kernel
theorem dX9_where_26 : decode cX9_where 26 = .ok (.ifCond .ge 5, 3) := by decide +kernel
theorem dX9_where_29 : decode cX9_where 29 = .ok (.iconst (-1), 1) := by decide +kernel
theorem dX9_where_30 : decode cX9_where 30 = .ok (.ireturn, 1) := by decide +kernel
theorem dX9_where_31 : decode cX9_where 31 = .ok (.aload_n 0, 1) := by decide +kernel
theorem dX9_where_32 : decode cX9_where 32 = .ok (.iload_n 1, 1) := by decide +kernel
theorem dX9_where_33 : decode cX9_where 33 = .ok (.invokevirtual 153, 3) := by decide +kernel
theorem dX9_where_36 : decode cX9_where 36 = .ok (.istore_n 3, 1) := by decide +kernel
theorem dX9_where_37 : decode cX9_where 37 = .ok (.aload_n 0, 1) := by decide +kernel
theorem dX9_where_38 : decode cX9_where 38 = .ok (.getfield 41, 3) := by decide +kernel
theorem dX9_where_41 : decode cX9_where 41 = .ok (.iconst 3, 1) := by decide +kernel
theorem dX9_where_42 : decode cX9_where 42 = .ok (.iload_n 1, 1) := by decide +kernel
theorem dX9_where_43 : decode cX9_where 43 = .ok (.imul, 1) := by decide +kernel
theorem dX9_where_44 : decode cX9_where 44 = .ok (.iload_n 2, 1) := by decide +kernel
theorem dX9_where_45 : decode cX9_where 45 = .ok (.iadd, 1) := by decide +kernel
theorem dX9_where_46 : decode cX9_where 46 = .ok (.iaload, 1) := by decide +kernel
theorem dX9_where_47 : decode cX9_where 47 = .ok (.istore 4, 2) := by decide +kernel
theorem dX9_where_49 : decode cX9_where 49 = .ok (.aload_n 0, 1) := by decide +kernel
theorem dX9_where_50 : decode cX9_where 50 = .ok (.getfield 44, 3) := by decide +kernel
theorem dX9_where_53 : decode cX9_where 53 = .ok (.iconst 3, 1) := by decide +kernel
theorem dX9_where_54 : decode cX9_where 54 = .ok (.iload_n 1, 1) := by decide +kernel
theorem dX9_where_55 : decode cX9_where 55 = .ok (.imul, 1) := by decide +kernel
theorem dX9_where_56 : decode cX9_where 56 = .ok (.iload_n 2, 1) := by decide +kernel
theorem dX9_where_57 : decode cX9_where 57 = .ok (.iadd, 1) := by decide +kernel
theorem dX9_where_58 : decode cX9_where 58 = .ok (.iaload, 1) := by decide +kernel
theorem dX9_where_59 : decode cX9_where 59 = .ok (.istore 5, 2) := by decide +kernel
theorem dX9_where_61 : decode cX9_where 61 = .ok (.iload 4, 2) := by decide +kernel
theorem dX9_where_63 : decode cX9_where 63 = .ok (.bipush (-2), 2) := by decide +kernel
theorem dX9_where_65 : decode cX9_where 65 = .ok (.if_icmp .ne 14, 3) := by decide +kernel
theorem dX9_where_68 : decode cX9_where 68 = .ok (.iload 5, 2) := by decide +kernel
theorem dX9_where_70 : decode cX9_where 70 = .ok (.ifCond .ne 7, 3) := by decide +kernel
theorem dX9_where_73 : decode cX9_where 73 = .ok (.iconst 0, 1) := by decide +kernel
theorem dX9_where_74 : decode cX9_where 74 = .ok (.goto 4, 3) := by decide +kernel
theorem dX9_where_77 : decode cX9_where 77 = .ok (.iload_n 3, 1) := by decide +kernel
theorem dX9_where_78 : decode cX9_where 78 = .ok (.ireturn, 1) := by decide +kernel
theorem dX9_where_79 : decode cX9_where 79 = .ok (.aload_n 0, 1) := by decide +kernel
theorem dX9_where_80 : decode cX9_where 80 = .ok (.iload 4, 2) := by decide +kernel
theorem dX9_where_82 : decode cX9_where 82 = .ok (.invokevirtual 138, 3) := by decide +kernel
theorem dX9_where_85 : decode cX9_where 85 = .ok (.istore 6, 2) := by decide +kernel
theorem dX9_where_87 : decode cX9_where 87 = .ok (.iload 5, 2) := by decide +kernel
theorem dX9_where_89 : decode cX9_where 89 = .ok (.ifCond .ne 14, 3) := by decide +kernel
theorem dX9_where_92 : decode cX9_where 92 = .ok (.aload_n 0, 1) := by decide +kernel
theorem dX9_where_93 : decode cX9_where 93 = .ok (.iload 6, 2) := by decide +kernel
theorem dX9_where_95 : decode cX9_where 95 = .ok (.iconst 1, 1) := by decide +kernel
theorem dX9_where_96 : decode cX9_where 96 = .ok (.iadd, 1) := by decide +kernel
theorem dX9_where_97 : decode cX9_where 97 = .ok (.invokevirtual 182, 3) := by decide +kernel
theorem dX9_where_100 : decode cX9_where 100 = .ok (.goto 9, 3) := by decide +kernel
theorem dX9_where_103 : decode cX9_where 103 = .ok (.aload_n 0, 1) := by decide +kernel
theorem dX9_where_104 : decode cX9_where 104 = .ok (.iload 6, 2) := by decide +kernel
theorem dX9_where_106 : decode cX9_where 106 = .ok (.invokevirtual 182, 3) := by decide +kernel
theorem dX9_where_109 : decode cX9_where 109 = .ok (.ireturn, 1) := by decide +kernel
theorem dX9_status_0 : decode cX9_status 0 = .ok (.aload_n 0, 1) := by decide +kernel
theorem dX9_status_1 : decode cX9_status 1 = .ok (.getfield 80, 3) := by decide +kernel
theorem dX9_status_4 : decode cX9_status 4 = .ok (.ireturn, 1) := by decide +kernel
theorem dJ9_max_7cf53_0 : decode cJ9_max_7cf53 0 = .ok (.iload_n 0, 1) := by decide +kernel
theorem dJ9_max_7cf53_1 : decode cJ9_max_7cf53 1 = .ok (.iload_n 1, 1) := by decide +kernel
theorem dJ9_max_7cf53_2 : decode cJ9_max_7cf53 2 = .ok (.if_icmp .lt 7, 3) := by decide +kernel
theorem dJ9_max_7cf53_5 : decode cJ9_max_7cf53 5 = .ok (.iload_n 0, 1) := by decide +kernel
theorem dJ9_max_7cf53_6 : decode cJ9_max_7cf53 6 = .ok (.goto 4, 3) := by decide +kernel
theorem dJ9_max_7cf53_9 : decode cJ9_max_7cf53 9 = .ok (.iload_n 1, 1) := by decide +kernel
theorem dJ9_max_7cf53_10 : decode cJ9_max_7cf53 10 = .ok (.ireturn, 1) := by decide +kernel
theorem dJ9_min_7cf53_0 : decode cJ9_min_7cf53 0 = .ok (.iload_n 0, 1) := by decide +kernel
theorem dJ9_min_7cf53_1 : decode cJ9_min_7cf53 1 = .ok (.iload_n 1, 1) := by decide +kernel
theorem dJ9_min_7cf53_2 : decode cJ9_min_7cf53 2 = .ok (.if_icmp .gt 7, 3) := by decide +kernel
theorem dJ9_min_7cf53_5 : decode cJ9_min_7cf53 5 = .ok (.iload_n 0, 1) := by decide +kernel
theorem dJ9_min_7cf53_6 : decode cJ9_min_7cf53 6 = .ok (.goto 4, 3) := by decide +kernel
theorem dJ9_min_7cf53_9 : decode cJ9_min_7cf53 9 = .ok (.iload_n 1, 1) := by decide +kernel
theorem dJ9_min_7cf53_10 : decode cJ9_min_7cf53 10 = .ok (.ireturn, 1) := by decide +kernel
theorem dJ7_fill_53178_0 : decode cJ7_fill_53178 0 = .ok (.iconst 0, 1) := by decide +kernel
theorem dJ7_fill_53178_1 : decode cJ7_fill_53178 1 = .ok (.istore_n 2, 1) := by decide +kernel
theorem dJ7_fill_53178_2 : decode cJ7_fill_53178 2 = .ok (.aload_n 0, 1) := by decide +kernel
theorem dJ7_fill_53178_3 : decode cJ7_fill_53178 3 = .ok (.arraylength, 1) := by decide +kernel
theorem dJ7_fill_53178_4 : decode cJ7_fill_53178 4 = .ok (.istore_n 3, 1) := by decide +kernel
theorem dJ7_fill_53178_5 : decode cJ7_fill_53178 5 = .ok (.iload_n 2, 1) := by decide +kernel
theorem dJ7_fill_53178_6 : decode cJ7_fill_53178 6 = .ok (.iload_n 3, 1) := by decide +kernel
theorem dJ7_fill_53178_7 : decode cJ7_fill_53178 7 = .ok (.if_icmp .ge 13, 3) := by decide +kernel
theorem dJ7_fill_53178_10 : decode cJ7_fill_53178 10 = .ok (.aload_n 0, 1) := by decide +kernel
theorem dJ7_fill_53178_11 : decode cJ7_fill_53178 11 = .ok (.iload_n 2, 1) := by decide +kernel
theorem dJ7_fill_53178_12 : decode cJ7_fill_53178 12 = .ok (.iload_n 1, 1) := by decide +kernel
theorem dJ7_fill_53178_13 : decode cJ7_fill_53178 13 = .ok (.iastore, 1) := by decide +kernel
theorem dJ7_fill_53178_14 : decode cJ7_fill_53178 14 = .ok (.iinc 2 1, 3) := by decide +kernel
theorem dJ7_fill_53178_17 : decode cJ7_fill_53178 17 = .ok (.goto (-12), 3) := by decide +kernel
theorem dJ7_fill_53178_20 : decode cJ7_fill_53178 20 = .ok (.return_, 1) := by decide +kernel
theorem dJ7_copyOf_59c91_0 : decode cJ7_copyOf_59c91 0 = .ok (.iload_n 1, 1) := by decide +kernel
theorem dJ7_copyOf_59c91_1 : decode cJ7_copyOf_59c91 1 = .ok (.aload_n 0, 1) := by decide +kernel
theorem dJ7_copyOf_59c91_2 : decode cJ7_copyOf_59c91 2 = .ok (.arraylength, 1) := by decide +kernel
theorem dJ7_copyOf_59c91_3 : decode cJ7_copyOf_59c91 3 = .ok (.if_icmp .ne 11, 3) := by decide +kernel
theorem dJ7_copyOf_59c91_6 : decode cJ7_copyOf_59c91 6 = .ok (.aload_n 0, 1) := by decide +kernel
theorem dJ7_copyOf_59c91_7 : decode cJ7_copyOf_59c91 7 = .ok (.invokevirtual 316, 3) := by decide +kernel
theorem dJ7_copyOf_59c91_10 : decode cJ7_copyOf_59c91 10 = .ok (.checkcast 317, 3) := by decide +kernel
theorem dJ7_copyOf_59c91_13 : decode cJ7_copyOf_59c91 13 = .ok (.areturn, 1) := by decide +kernel
theorem dJ7_copyOf_59c91_14 : decode cJ7_copyOf_59c91 14 = .ok (.iload_n 1, 1) := by decide +kernel
theorem dJ7_copyOf_59c91_15 : decode cJ7_copyOf_59c91 15 = .ok (.newarray .int, 2) := by decide +kernel
theorem dJ7_copyOf_59c91_17 : decode cJ7_copyOf_59c91 17 = .ok (.astore_n 2, 1) := by decide +kernel
theorem dJ7_copyOf_59c91_18 : decode cJ7_copyOf_59c91 18 = .ok (.aload_n 0, 1) := by decide +kernel
theorem dJ7_copyOf_59c91_19 : decode cJ7_copyOf_59c91 19 = .ok (.iconst 0, 1) := by decide +kernel
theorem dJ7_copyOf_59c91_20 : decode cJ7_copyOf_59c91 20 = .ok (.aload_n 2, 1) := by decide +kernel
theorem dJ7_copyOf_59c91_21 : decode cJ7_copyOf_59c91 21 = .ok (.iconst 0, 1) := by decide +kernel
theorem dJ7_copyOf_59c91_22 : decode cJ7_copyOf_59c91 22 = .ok (.aload_n 0, 1) := by decide +kernel
theorem dJ7_copyOf_59c91_23 : decode cJ7_copyOf_59c91 23 = .ok (.arraylength, 1) := by decide +kernel
theorem dJ7_copyOf_59c91_24 : decode cJ7_copyOf_59c91 24 = .ok (.iload_n 1, 1) := by decide +kernel
theorem dJ7_copyOf_59c91_25 : decode cJ7_copyOf_59c91 25 = .ok (.invokestatic 304, 3) := by decide +kernel
theorem dJ7_copyOf_59c91_28 : decode cJ7_copyOf_59c91 28 = .ok (.invokestatic 150, 3) := by decide +kernel
theorem dJ7_copyOf_59c91_31 : decode cJ7_copyOf_59c91 31 = .ok (.aload_n 2, 1) := by decide +kernel
theorem dJ7_copyOf_59c91_32 : decode cJ7_copyOf_59c91 32 = .ok (.areturn, 1) := by decide +kernel
