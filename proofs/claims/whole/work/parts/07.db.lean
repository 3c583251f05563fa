theorem dX11_init_0 : decode cX11_init 0 = .ok (.aload_n 0, 1) := by decide +kernel
theorem dX11_init_1 : decode cX11_init 1 = .ok (.invokespecial 1, 3) := by decide +kernel
theorem dX11_init_4 : decode cX11_init 4 = .ok (.aload_n 0, 1) := by decide +kernel
theorem dX11_init_5 : decode cX11_init 5 = .ok (.bipush 80, 2) := by decide +kernel
theorem dX11_init_7 : decode cX11_init 7 = .ok (.newarray .int, 2) := by decide +kernel
theorem dX11_init_9 : decode cX11_init 9 = .ok (.putfield 7, 3) := by decide +kernel
theorem dX11_init_12 : decode cX11_init 12 = .ok (.aload_n 0, 1) := by decide +kernel
theorem dX11_init_13 : decode cX11_init 13 = .ok (.bipush 22, 2) := by decide +kernel
theorem dX11_init_15 : decode cX11_init 15 = .ok (.newarray .int, 2) := by decide +kernel
theorem dX11_init_17 : decode cX11_init 17 = .ok (.putfield 13, 3) := by decide +kernel
theorem dX11_init_20 : decode cX11_init 20 = .ok (.aload_n 0, 1) := by decide +kernel
theorem dX11_init_21 : decode cX11_init 21 = .ok (.bipush 22, 2) := by decide +kernel
theorem dX11_init_23 : decode cX11_init 23 = .ok (.newarray .int, 2) := by decide +kernel
theorem dX11_init_25 : decode cX11_init 25 = .ok (.putfield 16, 3) := by decide +kernel
theorem dX11_init_28 : decode cX11_init 28 = .ok (.aload_n 0, 1) := by decide +kernel
theorem dX11_init_29 : decode cX11_init 29 = .ok (.bipush 22, 2) := by decide +kernel
theorem dX11_init_31 : decode cX11_init 31 = .ok (.newarray .int, 2) := by decide +kernel
theorem dX11_init_33 : decode cX11_init 33 = .ok (.putfield 19, 3) := by decide +kernel
theorem dX11_init_36 : decode cX11_init 36 = .ok (.aload_n 0, 1) := by decide +kernel
theorem dX11_init_37 : decode cX11_init 37 = .ok (.sipush 308, 3) := by decide +kernel
theorem dX11_init_40 : decode cX11_init 40 = .ok (.newarray .int, 2) := by decide +kernel
theorem dX11_init_42 : decode cX11_init 42 = .ok (.putfield 22, 3) := by decide +kernel
theorem dX11_init_45 : decode cX11_init 45 = .ok (.aload_n 0, 1) := by decide +kernel
theorem dX11_init_46 : decode cX11_init 46 = .ok (.bipush 44, 2) := by decide +kernel
theorem dX11_init_48 : decode cX11_init 48 = .ok (.newarray .int, 2) := by decide +kernel
theorem dX11_init_50 : decode cX11_init 50 = .ok (.putfield 25, 3) := by decide +kernel
theorem dX11_init_53 : decode cX11_init 53 = .ok (.aload_n 0, 1) := by decide +kernel
theorem dX11_init_54 : decode cX11_init 54 = .ok (.iconst 2, 1) := by decide +kernel
theorem dX11_init_55 : decode cX11_init 55 = .ok (.newarray .boolean, 2) := by decide +kernel
theorem dX11_init_57 : decode cX11_init 57 = .ok (.putfield 28, 3) := by decide +kernel
theorem dX11_init_60 : decode cX11_init 60 = .ok (.aload_n 0, 1) := by decide +kernel
theorem dX11_init_61 : decode cX11_init 61 = .ok (.bipush 6, 2) := by decide +kernel
theorem dX11_init_63 : decode cX11_init 63 = .ok (.newarray .int, 2) := by decide +kernel
theorem dX11_init_65 : decode cX11_init 65 = .ok (.putfield 32, 3) := by decide +kernel
theorem dX11_init_68 : decode cX11_init 68 = .ok (.aload_n 0, 1) := by decide +kernel
theorem dX11_init_69 : decode cX11_init 69 = .ok (.bipush 6, 2) := by decide +kernel
theorem dX11_init_71 : decode cX11_init 71 = .ok (.newarray .int, 2) := by decide +kernel
theorem dX11_init_73 : decode cX11_init 73 = .ok (.putfield 35, 3) := by decide +kernel
theorem dX11_init_76 : decode cX11_init 76 = .ok (.aload_n 0, 1) := by decide +kernel
theorem dX11_init_77 : decode cX11_init 77 = .ok (.sipush 512, 3) := by decide +kernel
theorem dX11_init_80 : decode cX11_init 80 = .ok (.newarray .int, 2) := by decide +kernel
theorem dX11_init_82 : decode cX11_init 82 = .ok (.putfield 38, 3) := by decide +kernel
theorem dX11_init_85 : decode cX11_init 85 = .ok (.aload_n 0, 1) := by decide +kernel
theorem dX11_init_86 : decode cX11_init 86 = .ok (.sipush 512, 3) := by decide +kernel
theorem dX11_init_89 : decode cX11_init 89 = .ok (.newarray .int, 2) := by decide +kernel
theorem dX11_init_91 : decode cX11_init 91 = .ok (.putfield 41, 3) := by decide +kernel
theorem dX11_init_94 : decode cX11_init 94 = .ok (.aload_n 0, 1) := by decide +kernel
theorem dX11_init_95 : decode cX11_init 95 = .ok (.sipush 512, 3) := by decide +kernel
theorem dX11_init_98 : decode cX11_init 98 = .ok (.newarray .int, 2) := by decide +kernel
theorem dX11_init_100 : decode cX11_init 100 = .ok (.putfield 44, 3) := by decide +kernel
theorem dX11_init_103 : decode cX11_init 103 = .ok (.aload_n 0, 1) := by decide +kernel
theorem dX11_init_104 : decode cX11_init 104 = .ok (.sipush 512, 3) := by decide +kernel
theorem dX11_init_107 : decode cX11_init 107 = .ok (.newarray .int, 2) := by decide +kernel
theorem dX11_init_109 : decode cX11_init 109 = .ok (.putfield 47, 3) := by decide +kernel
theorem dX11_init_112 : decode cX11_init 112 = .ok (.aload_n 0, 1) := by decide +kernel
theorem dX11_init_113 : decode cX11_init 113 = .ok (.bipush 81, 2) := by decide +kernel
theorem dX11_init_115 : decode cX11_init 115 = .ok (.newarray .boolean, 2) := by decide +kernel
theorem dX11_init_117 : decode cX11_init 117 = .ok (.putfield 50, 3) := by decide +kernel
theorem dX11_init_120 : decode cX11_init 120 = .ok (.aload_n 0, 1) := by decide +kernel
theorem dX11_init_121 : decode cX11_init 121 = .ok (.sipush 128, 3) := by decide +kernel
theorem dX11_init_124 : decode cX11_init 124 = .ok (.newarray .int, 2) := by decide +kernel
theorem dX11_init_126 : decode cX11_init 126 = .ok (.putfield 53, 3) := by decide +kernel
theorem dX11_init_129 : decode cX11_init 129 = .ok (.aload_n 0, 1) := by decide +kernel
theorem dX11_init_130 : decode cX11_init 130 = .ok (.sipush 128, 3) := by decide +kernel
theorem dX11_init_133 : decode cX11_init 133 = .ok (.newarray .int, 2) := by decide +kernel
theorem dX11_init_135 : decode cX11_init 135 = .ok (.putfield 56, 3) := by decide +kernel
theorem dX11_init_138 : decode cX11_init 138 = .ok (.aload_n 0, 1) := by decide +kernel
theorem dX11_init_139 : decode cX11_init 139 = .ok (.sipush 128, 3) := by decide +kernel
theorem dX11_init_142 : decode cX11_init 142 = .ok (.newarray .int, 2) := by decide +kernel
theorem dX11_init_144 : decode cX11_init 144 = .ok (.putfield 59, 3) := by decide +kernel
theorem dX11_init_147 : decode cX11_init 147 = .ok (.aload_n 0, 1) := by decide +kernel
theorem dX11_init_148 : decode cX11_init 148 = .ok (.sipush 128, 3) := by decide +kernel
theorem dX11_init_151 : decode cX11_init 151 = .ok (.newarray .int, 2) := by decide +kernel
theorem dX11_init_153 : decode cX11_init 153 = .ok (.putfield 62, 3) := by decide +kernel
theorem dX11_init_156 : decode cX11_init 156 = .ok (.aload_n 0, 1) := by decide +kernel
theorem dX11_init_157 : decode cX11_init 157 = .ok (.sipush 128, 3) := by decide +kernel
theorem dX11_init_160 : decode cX11_init 160 = .ok (.newarray .boolean, 2) := by decide +kernel
theorem dX11_init_162 : decode cX11_init 162 = .ok (.putfield 65, 3) := by decide +kernel
theorem dX11_init_165 : decode cX11_init 165 = .ok (.aload_n 0, 1) := by decide +kernel
theorem dX11_init_166 : decode cX11_init 166 = .ok (.sipush 128, 3) := by decide +kernel
theorem dX11_init_169 : decode cX11_init 169 = .ok (.newarray .boolean, 2) := by decide +kernel
theorem dX11_init_171 : decode cX11_init 171 = .ok (.putfield 68, 3) := by decide +kernel
theorem dX11_init_174 : decode cX11_init 174 = .ok (.aload_n 0, 1) := by decide +kernel
theorem dX11_init_175 : decode cX11_init 175 = .ok (.bipush 32, 2) := by decide +kernel
theorem dX11_init_177 : decode cX11_init 177 = .ok (.newarray .int, 2) := by decide +kernel
theorem dX11_init_179 : decode cX11_init 179 = .ok (.putfield 71, 3) := by decide +kernel
theorem dX11_init_182 : decode cX11_init 182 = .ok (.aload_n 0, 1) := by decide +kernel
theorem dX11_init_183 : decode cX11_init 183 = .ok (.getfield 16, 3) := by decide +kernel
theorem dX11_init_186 : decode cX11_init 186 = .ok (.iconst 0, 1) := by decide +kernel
theorem dX11_init_187 : decode cX11_init 187 = .ok (.iconst 1, 1) := by decide +kernel
theorem dX11_init_188 : decode cX11_init 188 = .ok (.iastore, 1) := by decide +kernel
theorem dX11_init_189 : decode cX11_init 189 = .ok (.aload_n 0, 1) := by decide +kernel
theorem dX11_init_190 : decode cX11_init 190 = .ok (.getfield 16, 3) := by decide +kernel
theorem dX11_init_193 : decode cX11_init 193 = .ok (.iconst 1, 1) := by decide +kernel
theorem dX11_init_194 : decode cX11_init 194 = .ok (.iconst 1, 1) := by decide +kernel
theorem dX11_init_195 : decode cX11_init 195 = .ok (.iastore, 1) := by decide +kernel
theorem dX11_init_196 : decode cX11_init 196 = .ok (.return_, 1) := by decide +kernel
theorem dX11_in_0 : decode cX11_in 0 = .ok (.lload_n 0, 1) := by decide +kernel
theorem dX11_in_1 : decode cX11_in 1 = .ok (.lload_n 2, 1) := by decide +kernel
theorem dX11_in_2 : decode cX11_in 2 = .ok (.lcmp, 1) := by decide +kernel
theorem dX11_in_3 : decode cX11_in 3 = .ok (.ifCond .lt 14, 3) := by decide +kernel
theorem dX11_in_6 : decode cX11_in 6 = .ok (.lload_n 0, 1) := by decide +kernel
theorem dX11_in_7 : decode cX11_in 7 = .ok (.lload 4, 2) := by decide +kernel
theorem dX11_in_9 : decode cX11_in 9 = .ok (.lcmp, 1) := by decide +kernel
theorem dX11_in_10 : decode cX11_in 10 = .ok (.ifCond .gt 7, 3) := by decide +kernel
theorem dX11_in_13 : decode cX11_in 13 = .ok (.iconst 1, 1) := by decide +kernel
theorem dX11_in_14 : decode cX11_in 14 = .ok (.goto 4, 3) := by decide +kernel
theorem dX11_in_17 : decode cX11_in 17 = .ok (.iconst 0, 1) := by decide +kernel
theorem dX11_in_18 : decode cX11_in 18 = .ok (.ireturn, 1) := by decide +kernel
theorem dX11_has_0 : decode cX11_has 0 = .ok (.iload_n 0, 1) := by decide +kernel
theorem dX11_has_1 : decode cX11_has 1 = .ok (.iload_n 1, 1) := by decide +kernel
theorem dX11_has_2 : decode cX11_has 2 = .ok (.ishr, 1) := by decide +kernel
theorem dX11_has_3 : decode cX11_has 3 = .ok (.iconst 1, 1) := by decide +kernel
theorem dX11_has_4 : decode cX11_has 4 = .ok (.iand, 1) := by decide +kernel
theorem dX11_has_5 : decode cX11_has 5 = .ok (.iconst 1, 1) := by decide +kernel
theorem dX11_has_6 : decode cX11_has 6 = .ok (.if_icmp .ne 7, 3) := by decide +kernel
theorem dX11_has_9 : decode cX11_has 9 = .ok (.iconst 1, 1) := by decide +kernel
theorem dX11_has_10 : decode cX11_has 10 = .ok (.goto 4, 3) := by decide +kernel
theorem dX11_has_13 : decode cX11_has 13 = .ok (.iconst 0, 1) := by decide +kernel
theorem dX11_has_14 : decode cX11_has 14 = .ok (.ireturn, 1) := by decide +kernel
theorem dX11_ones_0 : decode cX11_ones 0 = .ok (.iconst 0, 1) := by decide +kernel
theorem dX11_ones_1 : decode cX11_ones 1 = .ok (.istore_n 1, 1) := by decide +kernel
theorem dX11_ones_2 : decode cX11_ones 2 = .ok (.iconst 0, 1) := by decide +kernel
theorem dX11_ones_3 : decode cX11_ones 3 = .ok (.istore_n 2, 1) := by decide +kernel
theorem dX11_ones_4 : decode cX11_ones 4 = .ok (.iload_n 2, 1) := by decide +kernel
theorem dX11_ones_5 : decode cX11_ones 5 = .ok (.bipush 10, 2) := by decide +kernel
theorem dX11_ones_7 : decode cX11_ones 7 = .ok (.if_icmp .ge 17, 3) := by decide +kernel
theorem dX11_ones_10 : decode cX11_ones 10 = .ok (.iload_n 1, 1) := by decide +kernel
theorem dX11_ones_11 : decode cX11_ones 11 = .ok (.iload_n 0, 1) := by decide +kernel
theorem dX11_ones_12 : decode cX11_ones 12 = .ok (.iload_n 2, 1) := by decide +kernel
theorem dX11_ones_13 : decode cX11_ones 13 = .ok (.ishr, 1) := by decide +kernel
theorem dX11_ones_14 : decode cX11_ones 14 = .ok (.iconst 1, 1) := by decide +kernel
theorem dX11_ones_15 : decode cX11_ones 15 = .ok (.iand, 1) := by decide +kernel
theorem dX11_ones_16 : decode cX11_ones 16 = .ok (.iadd, 1) := by decide +kernel
theorem dX11_ones_17 : decode cX11_ones 17 = .ok (.istore_n 1, 1) := by decide +kernel
theorem dX11_ones_18 : decode cX11_ones 18 = .ok (.iinc 2 1, 3) := by decide +kernel
theorem dX11_ones_21 : decode cX11_ones 21 = .ok (.goto (-17), 3) := by decide +kernel
theorem dX11_ones_24 : decode cX11_ones 24 = .ok (.iload_n 1, 1) := by decide +kernel
theorem dX11_ones_25 : decode cX11_ones 25 = .ok (.ireturn, 1) := by decide +kernel
theorem dX11_power_0 : decode cX11_power 0 = .ok (.iconst 1, 1) := by decide +kernel
theorem dX11_power_1 : decode cX11_power 1 = .ok (.istore_n 2, 1) := by decide +kernel
theorem dX11_power_2 : decode cX11_power 2 = .ok (.iconst 0, 1) := by decide +kernel
theorem dX11_power_3 : decode cX11_power 3 = .ok (.istore_n 3, 1) := by decide +kernel
theorem dX11_power_4 : decode cX11_power 4 = .ok (.iload_n 3, 1) := by decide +kernel
theorem dX11_power_5 : decode cX11_power 5 = .ok (.iload_n 1, 1) := by decide +kernel
theorem dX11_power_6 : decode cX11_power 6 = .ok (.if_icmp .ge 13, 3) := by decide +kernel
theorem dX11_power_9 : decode cX11_power 9 = .ok (.iload_n 2, 1) := by decide +kernel
theorem dX11_power_10 : decode cX11_power 10 = .ok (.iload_n 0, 1) := by decide +kernel
theorem dX11_power_11 : decode cX11_power 11 = .ok (.imul, 1) := by decide +kernel
theorem dX11_power_12 : decode cX11_power 12 = .ok (.istore_n 2, 1) := by decide +kernel
theorem dX11_power_13 : decode cX11_power 13 = .ok (.iinc 3 1, 3) := by decide +kernel
theorem dX11_power_16 : decode cX11_power 16 = .ok (.goto (-12), 3) := by decide +kernel
theorem dX11_power_19 : decode cX11_power 19 = .ok (.iload_n 2, 1) := by decide +kernel
theorem dX11_power_20 : decode cX11_power 20 = .ok (.ireturn, 1) := by decide +kernel
theorem dX11_noState_0 : decode cX11_noState 0 = .ok (.iload_n 1, 1) := by decide +kernel
theorem dX11_noState_1 : decode cX11_noState 1 = .ok (.i2l, 1) := by decide +kernel
theorem dX11_noState_2 : decode cX11_noState 2 = .ok (.lconst 0, 1) := by decide +kernel
theorem dX11_noState_3 : decode cX11_noState 3 = .ok (.lconst 1, 1) := by decide +kernel
theorem dX11_noState_4 : decode cX11_noState 4 = .ok (.invokestatic 78, 3) := by decide +kernel
theorem dX11_noState_7 : decode cX11_noState 7 = .ok (.ifCond .eq 21, 3) := by decide +kernel
theorem dX11_noState_10 : decode cX11_noState 10 = .ok (.iload_n 2, 1) := by decide +kernel
theorem dX11_noState_11 : decode cX11_noState 11 = .ok (.i2l, 1) := by decide +kernel
theorem dX11_noState_12 : decode cX11_noState 12 = .ok (.lconst 0, 1) := by decide +kernel
theorem dX11_noState_13 : decode cX11_noState 13 = .ok (.aload_n 0, 1) := by decide +kernel
theorem dX11_noState_14 : decode cX11_noState 14 = .ok (.getfield 16, 3) := by decide +kernel
theorem dX11_noState_17 : decode cX11_noState 17 = .ok (.iload_n 1, 1) := by decide +kernel
theorem dX11_noState_18 : decode cX11_noState 18 = .ok (.iaload, 1) := by decide +kernel
theorem dX11_noState_19 : decode cX11_noState 19 = .ok (.iconst 1, 1) := by decide +kernel
theorem dX11_noState_20 : decode cX11_noState 20 = .ok (.isub, 1) := by decide +kernel
theorem dX11_noState_21 : decode cX11_noState 21 = .ok (.i2l, 1) := by decide +kernel
theorem dX11_noState_22 : decode cX11_noState 22 = .ok (.invokestatic 78, 3) := by decide +kernel
theorem dX11_noState_25 : decode cX11_noState 25 = .ok (.ifCond .ne 7, 3) := by decide +kernel
theorem dX11_noState_28 : decode cX11_noState 28 = .ok (.iconst 1, 1) := by decide +kernel
theorem dX11_noState_29 : decode cX11_noState 29 = .ok (.goto 4, 3) := by decide +kernel
theorem dX11_noState_32 : decode cX11_noState 32 = .ok (.iconst 0, 1) := by decide +kernel
theorem dX11_noState_33 : decode cX11_noState 33 = .ok (.ireturn, 1) := by decide +kernel
theorem dX11_at_0 : decode cX11_at 0 = .ok (.iload_n 0, 1) := by decide +kernel
theorem dX11_at_1 : decode cX11_at 1 = .ok (.ifCond .ne 7, 3) := by decide +kernel
theorem dX11_at_4 : decode cX11_at 4 = .ok (.iconst 4, 1) := by decide +kernel
theorem dX11_at_5 : decode cX11_at 5 = .ok (.goto 5, 3) := by decide +kernel
theorem dX11_at_8 : decode cX11_at 8 = .ok (.bipush 12, 2) := by decide +kernel
theorem dX11_at_10 : decode cX11_at 10 = .ok (.iconst 2, 1) := by decide +kernel
theorem dX11_at_11 : decode cX11_at 11 = .ok (.iload_n 1, 1) := by decide +kernel
theorem dX11_at_12 : decode cX11_at 12 = .ok (.imul, 1) := by decide +kernel
theorem dX11_at_13 : decode cX11_at 13 = .ok (.iadd, 1) := by decide +kernel
theorem dX11_at_14 : decode cX11_at 14 = .ok (.iload_n 2, 1) := by decide +kernel
theorem dX11_at_15 : decode cX11_at 15 = .ok (.iadd, 1) := by decide +kernel
theorem dX11_at_16 : decode cX11_at 16 = .ok (.iconst 1, 1) := by decide +kernel
theorem dX11_at_17 : decode cX11_at 17 = .ok (.isub, 1) := by decide +kernel
theorem dX11_at_18 : decode cX11_at 18 = .ok (.ireturn, 1) := by decide +kernel
theorem dX11_lead_0 : decode cX11_lead 0 = .ok (.iconst 0, 1) := by decide +kernel
theorem dX11_lead_1 : decode cX11_lead 1 = .ok (.istore 4, 2) := by decide +kernel
theorem dX11_lead_3 : decode cX11_lead 3 = .ok (.iconst 0, 1) := by decide +kernel
theorem dX11_lead_4 : decode cX11_lead 4 = .ok (.istore 5, 2) := by decide +kernel
theorem dX11_lead_6 : decode cX11_lead 6 = .ok (.iload 5, 2) := by decide +kernel
theorem dX11_lead_8 : decode cX11_lead 8 = .ok (.aload_n 0, 1) := by decide +kernel
theorem dX11_lead_9 : decode cX11_lead 9 = .ok (.iload_n 1, 1) := by decide +kernel
theorem dX11_lead_10 : decode cX11_lead 10 = .ok (.iaload, 1) := by decide +kernel
theorem dX11_lead_11 : decode cX11_lead 11 = .ok (.if_icmp .ge 36, 3) := by decide +kernel
theorem dX11_lead_14 : decode cX11_lead 14 = .ok (.iload 4, 2) := by decide +kernel
theorem dX11_lead_16 : decode cX11_lead 16 = .ok (.iload_n 2, 1) := by decide +kernel
theorem dX11_lead_17 : decode cX11_lead 17 = .ok (.iload 5, 2) := by decide +kernel
theorem dX11_lead_19 : decode cX11_lead 19 = .ok (.invokestatic 82, 3) := by decide +kernel
theorem dX11_lead_22 : decode cX11_lead 22 = .ok (.ifCond .eq 15, 3) := by decide +kernel
theorem dX11_lead_25 : decode cX11_lead 25 = .ok (.aload_n 0, 1) := by decide +kernel
theorem dX11_lead_26 : decode cX11_lead 26 = .ok (.iload_n 1, 1) := by decide +kernel
theorem dX11_lead_27 : decode cX11_lead 27 = .ok (.iload 5, 2) := by decide +kernel
theorem dX11_lead_29 : decode cX11_lead 29 = .ok (.iload_n 3, 1) := by decide +kernel
theorem dX11_lead_30 : decode cX11_lead 30 = .ok (.invokestatic 86, 3) := by decide +kernel
theorem dX11_lead_33 : decode cX11_lead 33 = .ok (.iaload, 1) := by decide +kernel
theorem dX11_lead_34 : decode cX11_lead 34 = .ok (.goto 4, 3) := by decide +kernel
theorem dX11_lead_37 : decode cX11_lead 37 = .ok (.iconst 0, 1) := by decide +kernel
theorem dX11_lead_38 : decode cX11_lead 38 = .ok (.ior, 1) := by decide +kernel
theorem dX11_lead_39 : decode cX11_lead 39 = .ok (.istore 4, 2) := by decide +kernel
theorem dX11_lead_41 : decode cX11_lead 41 = .ok (.iinc 5 1, 3) := by decide +kernel
theorem dX11_lead_44 : decode cX11_lead 44 = .ok (.goto (-38), 3) := by decide +kernel
theorem dX11_lead_47 : decode cX11_lead 47 = .ok (.iload 4, 2) := by decide +kernel
theorem dX11_lead_49 : decode cX11_lead 49 = .ok (.ireturn, 1) := by decide +kernel
theorem dX11_edges_0 : decode cX11_edges 0 = .ok (.iconst 0, 1) := by decide +kernel
theorem dX11_edges_1 : decode cX11_edges 1 = .ok (.istore_n 2, 1) := by decide +kernel
theorem dX11_edges_2 : decode cX11_edges 2 = .ok (.iconst 0, 1) := by decide +kernel
theorem dX11_edges_3 : decode cX11_edges 3 = .ok (.istore_n 3, 1) := by decide +kernel
theorem dX11_edges_4 : decode cX11_edges 4 = .ok (.iload_n 3, 1) := by decide +kernel
theorem dX11_edges_5 : decode cX11_edges 5 = .ok (.aload_n 0, 1) := by decide +kernel
theorem dX11_edges_6 : decode cX11_edges 6 = .ok (.iload_n 1, 1) := by decide +kernel
theorem dX11_edges_7 : decode cX11_edges 7 = .ok (.iaload, 1) := by decide +kernel
theorem dX11_edges_8 : decode cX11_edges 8 = .ok (.if_icmp .ge 35, 3) := by decide +kernel
theorem dX11_edges_11 : decode cX11_edges 11 = .ok (.iload_n 2, 1) := by decide +kernel
theorem dX11_edges_12 : decode cX11_edges 12 = .ok (.aload_n 0, 1) := by decide +kernel
theorem dX11_edges_13 : decode cX11_edges 13 = .ok (.iload_n 1, 1) := by decide +kernel
theorem dX11_edges_14 : decode cX11_edges 14 = .ok (.iload_n 3, 1) := by decide +kernel
theorem dX11_edges_15 : decode cX11_edges 15 = .ok (.iconst 1, 1) := by decide +kernel
theorem dX11_edges_16 : decode cX11_edges 16 = .ok (.invokestatic 86, 3) := by decide +kernel
theorem dX11_edges_19 : decode cX11_edges 19 = .ok (.iaload, 1) := by decide +kernel
theorem dX11_edges_20 : decode cX11_edges 20 = .ok (.invokestatic 90, 3) := by decide +kernel
theorem dX11_edges_23 : decode cX11_edges 23 = .ok (.aload_n 0, 1) := by decide +kernel
theorem dX11_edges_24 : decode cX11_edges 24 = .ok (.iload_n 1, 1) := by decide +kernel
theorem dX11_edges_25 : decode cX11_edges 25 = .ok (.iload_n 3, 1) := by decide +kernel
theorem dX11_edges_26 : decode cX11_edges 26 = .ok (.iconst 2, 1) := by decide +kernel
theorem dX11_edges_27 : decode cX11_edges 27 = .ok (.invokestatic 86, 3) := by decide +kernel
theorem dX11_edges_30 : decode cX11_edges 30 = .ok (.iaload, 1) := by decide +kernel
theorem dX11_edges_31 : decode cX11_edges 31 = .ok (.invokestatic 90, 3) := by decide +kernel
theorem dX11_edges_34 : decode cX11_edges 34 = .ok (.iadd, 1) := by decide +kernel
theorem dX11_edges_35 : decode cX11_edges 35 = .ok (.iadd, 1) := by decide +kernel
theorem dX11_edges_36 : decode cX11_edges 36 = .ok (.istore_n 2, 1) := by decide +kernel
theorem dX11_edges_37 : decode cX11_edges 37 = .ok (.iinc 3 1, 3) := by decide +kernel
theorem dX11_edges_40 : decode cX11_edges 40 = .ok (.goto (-36), 3) := by decide +kernel
theorem dX11_edges_43 : decode cX11_edges 43 = .ok (.iload_n 2, 1) := by decide +kernel
theorem dX11_edges_44 : decode cX11_edges 44 = .ok (.ireturn, 1) := by decide +kernel
theorem dX11_lay_0 : decode cX11_lay 0 = .ok (.iconst 0, 1) := by decide +kernel
theorem dX11_lay_1 : decode cX11_lay 1 = .ok (.istore_n 2, 1) := by decide +kernel
theorem dX11_lay_2 : decode cX11_lay 2 = .ok (.iload_n 2, 1) := by decide +kernel
theorem dX11_lay_3 : decode cX11_lay 3 = .ok (.bipush 22, 2) := by decide +kernel
theorem dX11_lay_5 : decode cX11_lay 5 = .ok (.if_icmp .ge 15, 3) := by decide +kernel
theorem dX11_lay_8 : decode cX11_lay 8 = .ok (.aload_n 0, 1) := by decide +kernel
theorem dX11_lay_9 : decode cX11_lay 9 = .ok (.iload_n 2, 1) := by decide +kernel
theorem dX11_lay_10 : decode cX11_lay 10 = .ok (.aload_n 1, 1) := by decide +kernel
theorem dX11_lay_11 : decode cX11_lay 11 = .ok (.iload_n 2, 1) := by decide +kernel
theorem dX11_lay_12 : decode cX11_lay 12 = .ok (.iaload, 1) := by decide +kernel
theorem dX11_lay_13 : decode cX11_lay 13 = .ok (.iastore, 1) := by decide +kernel
theorem dX11_lay_14 : decode cX11_lay 14 = .ok (.iinc 2 1, 3) := by decide +kernel
theorem dX11_lay_17 : decode cX11_lay 17 = .ok (.goto (-15), 3) := by decide +kernel
theorem dX11_lay_20 : decode cX11_lay 20 = .ok (.return_, 1) := by decide +kernel
theorem dX11_write_0 : decode cX11_write 0 = .ok (.aload_n 0, 1) := by decide +kernel
theorem dX11_write_1 : decode cX11_write 1 = .ok (.iconst 0, 1) := by decide +kernel
theorem dX11_write_2 : decode cX11_write 2 = .ok (.putfield 74, 3) := by decide +kernel
theorem dX11_write_5 : decode cX11_write 5 = .ok (.iload_n 1, 1) := by decide +kernel
theorem dX11_write_6 : decode cX11_write 6 = .ok (.i2l, 1) := by decide +kernel
theorem dX11_write_7 : decode cX11_write 7 = .ok (.lconst 0, 1) := by decide +kernel
theorem dX11_write_8 : decode cX11_write 8 = .ok (.ldc2_w 94, 3) := by decide +kernel
theorem dX11_write_11 : decode cX11_write 11 = .ok (.invokestatic 78, 3) := by decide +kernel
theorem dX11_write_14 : decode cX11_write 14 = .ok (.ifCond .ne 6, 3) := by decide +kernel
theorem dX11_write_17 : decode cX11_write 17 = .ok (.bipush (-2), 2) := by decide +kernel
theorem dX11_write_19 : decode cX11_write 19 = .ok (.ireturn, 1) := by decide +kernel
theorem dX11_write_20 : decode cX11_write 20 = .ok (.aload_n 0, 1) := by decide +kernel
theorem dX11_write_21 : decode cX11_write 21 = .ok (.getfield 96, 3) := by decide +kernel
theorem dX11_write_24 : decode cX11_write 24 = .ok (.bipush 80, 2) := by decide +kernel
theorem dX11_write_26 : decode cX11_write 26 = .ok (.if_icmp .ne 6, 3) := by decide +kernel
theorem dX11_write_29 : decode cX11_write 29 = .ok (.bipush (-4), 2) := by decide +kernel
theorem dX11_write_31 : decode cX11_write 31 = .ok (.ireturn, 1) := by decide +kernel
theorem dX11_write_32 : decode cX11_write 32 = .ok (.aload_n 0, 1) := by decide +kernel
theorem dX11_write_33 : decode cX11_write 33 = .ok (.getfield 7, 3) := by decide +kernel
theorem dX11_write_36 : decode cX11_write 36 = .ok (.aload_n 0, 1) := by decide +kernel
theorem dX11_write_37 : decode cX11_write 37 = .ok (.getfield 96, 3) := by decide +kernel
theorem dX11_write_40 : decode cX11_write 40 = .ok (.iload_n 1, 1) := by decide +kernel
theorem dX11_write_41 : decode cX11_write 41 = .ok (.iastore, 1) := by decide +kernel
theorem dX11_write_42 : decode cX11_write 42 = .ok (.aload_n 0, 1) := by decide +kernel
theorem dX11_write_43 : decode cX11_write 43 = .ok (.dup, 1) := by decide +kernel
theorem dX11_write_44 : decode cX11_write 44 = .ok (.getfield 96, 3) := by decide +kernel
theorem dX11_write_47 : decode cX11_write 47 = .ok (.iconst 1, 1) := by decide +kernel
theorem dX11_write_48 : decode cX11_write 48 = .ok (.iadd, 1) := by decide +kernel
theorem dX11_write_49 : decode cX11_write 49 = .ok (.putfield 96, 3) := by decide +kernel
theorem dX11_write_52 : decode cX11_write 52 = .ok (.aload_n 0, 1) := by decide +kernel
theorem dX11_write_53 : decode cX11_write 53 = .ok (.getfield 96, 3) := by decide +kernel
theorem dX11_write_56 : decode cX11_write 56 = .ok (.ireturn, 1) := by decide +kernel
theorem dX11_wipe_0 : decode cX11_wipe 0 = .ok (.aload_n 0, 1) := by decide +kernel
theorem dX11_wipe_1 : decode cX11_wipe 1 = .ok (.iconst 0, 1) := by decide +kernel
theorem dX11_wipe_2 : decode cX11_wipe 2 = .ok (.putfield 74, 3) := by decide +kernel
theorem dX11_wipe_5 : decode cX11_wipe 5 = .ok (.aload_n 0, 1) := by decide +kernel
theorem dX11_wipe_6 : decode cX11_wipe 6 = .ok (.getfield 96, 3) := by decide +kernel
theorem dX11_wipe_9 : decode cX11_wipe 9 = .ok (.istore_n 1, 1) := by decide +kernel
theorem dX11_wipe_10 : decode cX11_wipe 10 = .ok (.aload_n 0, 1) := by decide +kernel
theorem dX11_wipe_11 : decode cX11_wipe 11 = .ok (.iconst 0, 1) := by decide +kernel
theorem dX11_wipe_12 : decode cX11_wipe 12 = .ok (.putfield 96, 3) := by decide +kernel
theorem dX11_wipe_15 : decode cX11_wipe 15 = .ok (.iload_n 1, 1) := by decide +kernel
theorem dX11_wipe_16 : decode cX11_wipe 16 = .ok (.ireturn, 1) := by decide +kernel
theorem dX11_figure_0 : decode cX11_figure 0 = .ok (.aload_n 0, 1) := by decide +kernel
theorem dX11_figure_1 : decode cX11_figure 1 = .ok (.getfield 99, 3) := by decide +kernel
theorem dX11_figure_4 : decode cX11_figure 4 = .ok (.aload_n 0, 1) := by decide +kernel
theorem dX11_figure_5 : decode cX11_figure 5 = .ok (.getfield 96, 3) := by decide +kernel
theorem dX11_figure_8 : decode cX11_figure 8 = .ok (.if_icmp .eq 26, 3) := by decide +kernel
theorem dX11_figure_11 : decode cX11_figure 11 = .ok (.aload_n 0, 1) := by decide +kernel
theorem dX11_figure_12 : decode cX11_figure 12 = .ok (.getfield 7, 3) := by decide +kernel
theorem dX11_figure_15 : decode cX11_figure 15 = .ok (.aload_n 0, 1) := by decide +kernel
theorem dX11_figure_16 : decode cX11_figure 16 = .ok (.getfield 99, 3) := by decide +kernel
theorem dX11_figure_19 : decode cX11_figure 19 = .ok (.iaload, 1) := by decide +kernel
theorem dX11_figure_20 : decode cX11_figure 20 = .ok (.bipush 48, 2) := by decide +kernel
theorem dX11_figure_22 : decode cX11_figure 22 = .ok (.isub, 1) := by decide +kernel
theorem dX11_figure_23 : decode cX11_figure 23 = .ok (.i2l, 1) := by decide +kernel
theorem dX11_figure_24 : decode cX11_figure 24 = .ok (.iload_n 1, 1) := by decide +kernel
theorem dX11_figure_25 : decode cX11_figure 25 = .ok (.i2l, 1) := by decide +kernel
theorem dX11_figure_26 : decode cX11_figure 26 = .ok (.iload_n 2, 1) := by decide +kernel
theorem dX11_figure_27 : decode cX11_figure 27 = .ok (.i2l, 1) := by decide +kernel
theorem dX11_figure_28 : decode cX11_figure 28 = .ok (.invokestatic 78, 3) := by decide +kernel
theorem dX11_figure_31 : decode cX11_figure 31 = .ok (.ifCond .ne 6, 3) := by decide +kernel
theorem dX11_figure_34 : decode cX11_figure 34 = .ok (.bipush (-9), 2) := by decide +kernel
theorem dX11_figure_36 : decode cX11_figure 36 = .ok (.ireturn, 1) := by decide +kernel
theorem dX11_figure_37 : decode cX11_figure 37 = .ok (.aload_n 0, 1) := by decide +kernel
theorem dX11_figure_38 : decode cX11_figure 38 = .ok (.dup, 1) := by decide +kernel
theorem dX11_figure_39 : decode cX11_figure 39 = .ok (.getfield 99, 3) := by decide +kernel
theorem dX11_figure_42 : decode cX11_figure 42 = .ok (.iconst 1, 1) := by decide +kernel
theorem dX11_figure_43 : decode cX11_figure 43 = .ok (.iadd, 1) := by decide +kernel
theorem dX11_figure_44 : decode cX11_figure 44 = .ok (.putfield 99, 3) := by decide +kernel
theorem dX11_figure_47 : decode cX11_figure 47 = .ok (.aload_n 0, 1) := by decide +kernel
theorem dX11_figure_48 : decode cX11_figure 48 = .ok (.getfield 7, 3) := by decide +kernel
theorem dX11_figure_51 : decode cX11_figure 51 = .ok (.aload_n 0, 1) := by decide +kernel
theorem dX11_figure_52 : decode cX11_figure 52 = .ok (.getfield 99, 3) := by decide +kernel
theorem dX11_figure_55 : decode cX11_figure 55 = .ok (.iconst 1, 1) := by decide +kernel
theorem dX11_figure_56 : decode cX11_figure 56 = .ok (.isub, 1) := by decide +kernel
theorem dX11_figure_57 : decode cX11_figure 57 = .ok (.iaload, 1) := by decide +kernel
theorem dX11_figure_58 : decode cX11_figure 58 = .ok (.bipush 48, 2) := by decide +kernel
theorem dX11_figure_60 : decode cX11_figure 60 = .ok (.isub, 1) := by decide +kernel
theorem dX11_figure_61 : decode cX11_figure 61 = .ok (.ireturn, 1) := by decide +kernel
theorem dX11_all_0 : decode cX11_all 0 = .ok (.iconst 1, 1) := by decide +kernel
theorem dX11_all_1 : decode cX11_all 1 = .ok (.aload_n 0, 1) := by decide +kernel
theorem dX11_all_2 : decode cX11_all 2 = .ok (.getfield 13, 3) := by decide +kernel
theorem dX11_all_5 : decode cX11_all 5 = .ok (.iload_n 1, 1) := by decide +kernel
theorem dX11_all_6 : decode cX11_all 6 = .ok (.iaload, 1) := by decide +kernel
theorem dX11_all_7 : decode cX11_all 7 = .ok (.ishl, 1) := by decide +kernel
theorem dX11_all_8 : decode cX11_all 8 = .ok (.iconst 1, 1) := by decide +kernel
theorem dX11_all_9 : decode cX11_all 9 = .ok (.isub, 1) := by decide +kernel
theorem dX11_all_10 : decode cX11_all 10 = .ok (.ireturn, 1) := by decide +kernel
theorem dX11_isFullFrom_0 : decode cX11_isFullFrom 0 = .ok (.aload_n 0, 1) := by decide +kernel
theorem dX11_isFullFrom_1 : decode cX11_isFullFrom 1 = .ok (.getfield 13, 3) := by decide +kernel
theorem dX11_isFullFrom_4 : decode cX11_isFullFrom 4 = .ok (.iload_n 1, 1) := by decide +kernel
theorem dX11_isFullFrom_5 : decode cX11_isFullFrom 5 = .ok (.iload_n 2, 1) := by decide +kernel
theorem dX11_isFullFrom_6 : decode cX11_isFullFrom 6 = .ok (.iconst 1, 1) := by decide +kernel
theorem dX11_isFullFrom_7 : decode cX11_isFullFrom 7 = .ok (.invokestatic 86, 3) := by decide +kernel
theorem dX11_isFullFrom_10 : decode cX11_isFullFrom 10 = .ok (.iaload, 1) := by decide +kernel
theorem dX11_isFullFrom_11 : decode cX11_isFullFrom 11 = .ok (.aload_n 0, 1) := by decide +kernel
theorem dX11_isFullFrom_12 : decode cX11_isFullFrom 12 = .ok (.iload_n 1, 1) := by decide +kernel
theorem dX11_isFullFrom_13 : decode cX11_isFullFrom 13 = .ok (.invokevirtual 102, 3) := by decide +kernel
theorem dX11_isFullFrom_16 : decode cX11_isFullFrom 16 = .ok (.if_icmp .ne 26, 3) := by decide +kernel
theorem dX11_isFullFrom_19 : decode cX11_isFullFrom 19 = .ok (.aload_n 0, 1) := by decide +kernel
theorem dX11_isFullFrom_20 : decode cX11_isFullFrom 20 = .ok (.getfield 13, 3) := by decide +kernel
theorem dX11_isFullFrom_23 : decode cX11_isFullFrom 23 = .ok (.iload_n 1, 1) := by decide +kernel
theorem dX11_isFullFrom_24 : decode cX11_isFullFrom 24 = .ok (.iload_n 2, 1) := by decide +kernel
theorem dX11_isFullFrom_25 : decode cX11_isFullFrom 25 = .ok (.iconst 2, 1) := by decide +kernel
theorem dX11_isFullFrom_26 : decode cX11_isFullFrom 26 = .ok (.invokestatic 86, 3) := by decide +kernel
theorem dX11_isFullFrom_29 : decode cX11_isFullFrom 29 = .ok (.iaload, 1) := by decide +kernel
theorem dX11_isFullFrom_30 : decode cX11_isFullFrom 30 = .ok (.aload_n 0, 1) := by decide +kernel
theorem dX11_isFullFrom_31 : decode cX11_isFullFrom 31 = .ok (.iload_n 1, 1) := by decide +kernel
theorem dX11_isFullFrom_32 : decode cX11_isFullFrom 32 = .ok (.invokevirtual 102, 3) := by decide +kernel
theorem dX11_isFullFrom_35 : decode cX11_isFullFrom 35 = .ok (.if_icmp .ne 7, 3) := by decide +kernel
theorem dX11_isFullFrom_38 : decode cX11_isFullFrom 38 = .ok (.iconst 1, 1) := by decide +kernel
theorem dX11_isFullFrom_39 : decode cX11_isFullFrom 39 = .ok (.goto 4, 3) := by decide +kernel
theorem dX11_isFullFrom_42 : decode cX11_isFullFrom 42 = .ok (.iconst 0, 1) := by decide +kernel
theorem dX11_isFullFrom_43 : decode cX11_isFullFrom 43 = .ok (.ireturn, 1) := by decide +kernel
theorem dX11_readEdge_0 : decode cX11_readEdge 0 = .ok (.aload_n 0, 1) := by decide +kernel
theorem dX11_readEdge_1 : decode cX11_readEdge 1 = .ok (.iconst 0, 1) := by decide +kernel
theorem dX11_readEdge_2 : decode cX11_readEdge 2 = .ok (.aload_n 0, 1) := by decide +kernel
theorem dX11_readEdge_3 : decode cX11_readEdge 3 = .ok (.getfield 13, 3) := by decide +kernel
theorem dX11_readEdge_6 : decode cX11_readEdge 6 = .ok (.iload_n 1, 1) := by decide +kernel
theorem dX11_readEdge_7 : decode cX11_readEdge 7 = .ok (.iaload, 1) := by decide +kernel
theorem dX11_readEdge_8 : decode cX11_readEdge 8 = .ok (.iconst 1, 1) := by decide +kernel
theorem dX11_readEdge_9 : decode cX11_readEdge 9 = .ok (.isub, 1) := by decide +kernel
theorem dX11_readEdge_10 : decode cX11_readEdge 10 = .ok (.invokevirtual 105, 3) := by decide +kernel
theorem dX11_readEdge_13 : decode cX11_readEdge 13 = .ok (.istore_n 2, 1) := by decide +kernel
theorem dX11_readEdge_14 : decode cX11_readEdge 14 = .ok (.iload_n 2, 1) := by decide +kernel
theorem dX11_readEdge_15 : decode cX11_readEdge 15 = .ok (.bipush (-9), 2) := by decide +kernel
theorem dX11_readEdge_17 : decode cX11_readEdge 17 = .ok (.if_icmp .ne 5, 3) := by decide +kernel
theorem dX11_readEdge_20 : decode cX11_readEdge 20 = .ok (.iconst 0, 1) := by decide +kernel
theorem dX11_readEdge_21 : decode cX11_readEdge 21 = .ok (.ireturn, 1) := by decide +kernel
theorem dX11_readEdge_22 : decode cX11_readEdge 22 = .ok (.aload_n 0, 1) := by decide +kernel
theorem dX11_readEdge_23 : decode cX11_readEdge 23 = .ok (.iload_n 1, 1) := by decide +kernel
theorem dX11_readEdge_24 : decode cX11_readEdge 24 = .ok (.iload_n 2, 1) := by decide +kernel
theorem dX11_readEdge_25 : decode cX11_readEdge 25 = .ok (.invokevirtual 109, 3) := by decide +kernel
theorem dX11_readEdge_28 : decode cX11_readEdge 28 = .ok (.ifCond .eq 15, 3) := by decide +kernel
theorem dX11_readEdge_31 : decode cX11_readEdge 31 = .ok (.aload_n 0, 1) := by decide +kernel
theorem dX11_readEdge_32 : decode cX11_readEdge 32 = .ok (.dup, 1) := by decide +kernel
theorem dX11_readEdge_33 : decode cX11_readEdge 33 = .ok (.getfield 99, 3) := by decide +kernel
theorem dX11_readEdge_36 : decode cX11_readEdge 36 = .ok (.iconst 1, 1) := by decide +kernel
theorem dX11_readEdge_37 : decode cX11_readEdge 37 = .ok (.isub, 1) := by decide +kernel
theorem dX11_readEdge_38 : decode cX11_readEdge 38 = .ok (.putfield 99, 3) := by decide +kernel
theorem dX11_readEdge_41 : decode cX11_readEdge 41 = .ok (.iconst 0, 1) := by decide +kernel
theorem dX11_readEdge_42 : decode cX11_readEdge 42 = .ok (.ireturn, 1) := by decide +kernel
theorem dX11_readEdge_43 : decode cX11_readEdge 43 = .ok (.aload_n 0, 1) := by decide +kernel
theorem dX11_readEdge_44 : decode cX11_readEdge 44 = .ok (.getfield 99, 3) := by decide +kernel
theorem dX11_readEdge_47 : decode cX11_readEdge 47 = .ok (.aload_n 0, 1) := by decide +kernel
theorem dX11_readEdge_48 : decode cX11_readEdge 48 = .ok (.getfield 96, 3) := by decide +kernel
theorem dX11_readEdge_51 : decode cX11_readEdge 51 = .ok (.if_icmp .ge 40, 3) := by decide +kernel
theorem dX11_readEdge_54 : decode cX11_readEdge 54 = .ok (.aload_n 0, 1) := by decide +kernel
theorem dX11_readEdge_55 : decode cX11_readEdge 55 = .ok (.getfield 7, 3) := by decide +kernel
theorem dX11_readEdge_58 : decode cX11_readEdge 58 = .ok (.aload_n 0, 1) := by decide +kernel
theorem dX11_readEdge_59 : decode cX11_readEdge 59 = .ok (.getfield 99, 3) := by decide +kernel
theorem dX11_readEdge_62 : decode cX11_readEdge 62 = .ok (.iaload, 1) := by decide +kernel
theorem dX11_readEdge_63 : decode cX11_readEdge 63 = .ok (.i2l, 1) := by decide +kernel
theorem dX11_readEdge_64 : decode cX11_readEdge 64 = .ok (.ldc2_w 112, 3) := by decide +kernel
theorem dX11_readEdge_67 : decode cX11_readEdge 67 = .ok (.ldc2_w 114, 3) := by decide +kernel
theorem dX11_readEdge_70 : decode cX11_readEdge 70 = .ok (.invokestatic 78, 3) := by decide +kernel
theorem dX11_readEdge_73 : decode cX11_readEdge 73 = .ok (.ifCond .eq 18, 3) := by decide +kernel
theorem dX11_readEdge_76 : decode cX11_readEdge 76 = .ok (.aload_n 0, 1) := by decide +kernel
theorem dX11_readEdge_77 : decode cX11_readEdge 77 = .ok (.getfield 7, 3) := by decide +kernel
theorem dX11_readEdge_80 : decode cX11_readEdge 80 = .ok (.aload_n 0, 1) := by decide +kernel
theorem dX11_readEdge_81 : decode cX11_readEdge 81 = .ok (.getfield 99, 3) := by decide +kernel
theorem dX11_readEdge_84 : decode cX11_readEdge 84 = .ok (.iaload, 1) := by decide +kernel
theorem dX11_readEdge_85 : decode cX11_readEdge 85 = .ok (.bipush 96, 2) := by decide +kernel
theorem dX11_readEdge_87 : decode cX11_readEdge 87 = .ok (.isub, 1) := by decide +kernel
theorem dX11_readEdge_88 : decode cX11_readEdge 88 = .ok (.goto 5, 3) := by decide +kernel
theorem dX11_readEdge_91 : decode cX11_readEdge 91 = .ok (.bipush (-9), 2) := by decide +kernel
theorem dX11_readEdge_93 : decode cX11_readEdge 93 = .ok (.istore_n 3, 1) := by decide +kernel
theorem dX11_readEdge_94 : decode cX11_readEdge 94 = .ok (.iload_n 3, 1) := by decide +kernel
theorem dX11_readEdge_95 : decode cX11_readEdge 95 = .ok (.bipush (-9), 2) := by decide +kernel
theorem dX11_readEdge_97 : decode cX11_readEdge 97 = .ok (.if_icmp .eq 22, 3) := by decide +kernel
theorem dX11_readEdge_100 : decode cX11_readEdge 100 = .ok (.aload_n 0, 1) := by decide +kernel
theorem dX11_readEdge_101 : decode cX11_readEdge 101 = .ok (.getfield 13, 3) := by decide +kernel
theorem dX11_readEdge_104 : decode cX11_readEdge 104 = .ok (.iload_n 1, 1) := by decide +kernel
theorem dX11_readEdge_105 : decode cX11_readEdge 105 = .ok (.iload_n 2, 1) := by decide +kernel
theorem dX11_readEdge_106 : decode cX11_readEdge 106 = .ok (.iload_n 3, 1) := by decide +kernel
theorem dX11_readEdge_107 : decode cX11_readEdge 107 = .ok (.invokestatic 86, 3) := by decide +kernel
theorem dX11_readEdge_110 : decode cX11_readEdge 110 = .ok (.iaload, 1) := by decide +kernel
theorem dX11_readEdge_111 : decode cX11_readEdge 111 = .ok (.aload_n 0, 1) := by decide +kernel
theorem dX11_readEdge_112 : decode cX11_readEdge 112 = .ok (.iload_n 1, 1) := by decide +kernel
theorem dX11_readEdge_113 : decode cX11_readEdge 113 = .ok (.invokevirtual 102, 3) := by decide +kernel
theorem dX11_readEdge_116 : decode cX11_readEdge 116 = .ok (.if_icmp .ne 5, 3) := by decide +kernel
theorem dX11_readEdge_119 : decode cX11_readEdge 119 = .ok (.iconst 0, 1) := by decide +kernel
theorem dX11_readEdge_120 : decode cX11_readEdge 120 = .ok (.ireturn, 1) := by decide +kernel
theorem dX11_readEdge_121 : decode cX11_readEdge 121 = .ok (.aload_n 0, 1) := by decide +kernel
theorem dX11_readEdge_122 : decode cX11_readEdge 122 = .ok (.dup, 1) := by decide +kernel
theorem dX11_readEdge_123 : decode cX11_readEdge 123 = .ok (.getfield 99, 3) := by decide +kernel
theorem dX11_readEdge_126 : decode cX11_readEdge 126 = .ok (.iconst 1, 1) := by decide +kernel
theorem dX11_readEdge_127 : decode cX11_readEdge 127 = .ok (.iadd, 1) := by decide +kernel
theorem dX11_readEdge_128 : decode cX11_readEdge 128 = .ok (.putfield 99, 3) := by decide +kernel
theorem dX11_readEdge_131 : decode cX11_readEdge 131 = .ok (.aload_n 0, 1) := by decide +kernel
theorem dX11_readEdge_132 : decode cX11_readEdge 132 = .ok (.iconst 0, 1) := by decide +kernel
theorem dX11_readEdge_133 : decode cX11_readEdge 133 = .ok (.aload_n 0, 1) := by decide +kernel
theorem dX11_readEdge_134 : decode cX11_readEdge 134 = .ok (.getfield 13, 3) := by decide +kernel
theorem dX11_readEdge_137 : decode cX11_readEdge 137 = .ok (.iload_n 1, 1) := by decide +kernel
theorem dX11_readEdge_138 : decode cX11_readEdge 138 = .ok (.iaload, 1) := by decide +kernel
theorem dX11_readEdge_139 : decode cX11_readEdge 139 = .ok (.iconst 1, 1) := by decide +kernel
theorem dX11_readEdge_140 : decode cX11_readEdge 140 = .ok (.isub, 1) := by decide +kernel
theorem dX11_readEdge_141 : decode cX11_readEdge 141 = .ok (.invokevirtual 105, 3) := by decide +kernel
theorem dX11_readEdge_144 : decode cX11_readEdge 144 = .ok (.istore 4, 2) := by decide +kernel
theorem dX11_readEdge_146 : decode cX11_readEdge 146 = .ok (.iload 4, 2) := by decide +kernel
theorem dX11_readEdge_148 : decode cX11_readEdge 148 = .ok (.bipush (-9), 2) := by decide +kernel
theorem dX11_readEdge_150 : decode cX11_readEdge 150 = .ok (.if_icmp .ne 5, 3) := by decide +kernel
theorem dX11_readEdge_153 : decode cX11_readEdge 153 = .ok (.iconst 0, 1) := by decide +kernel
theorem dX11_readEdge_154 : decode cX11_readEdge 154 = .ok (.ireturn, 1) := by decide +kernel
theorem dX11_readEdge_155 : decode cX11_readEdge 155 = .ok (.aload_n 0, 1) := by decide +kernel
theorem dX11_readEdge_156 : decode cX11_readEdge 156 = .ok (.getfield 13, 3) := by decide +kernel
theorem dX11_readEdge_159 : decode cX11_readEdge 159 = .ok (.iload_n 1, 1) := by decide +kernel
theorem dX11_readEdge_160 : decode cX11_readEdge 160 = .ok (.iload_n 2, 1) := by decide +kernel
theorem dX11_readEdge_161 : decode cX11_readEdge 161 = .ok (.iload_n 3, 1) := by decide +kernel
theorem dX11_readEdge_162 : decode cX11_readEdge 162 = .ok (.invokestatic 86, 3) := by decide +kernel
theorem dX11_readEdge_165 : decode cX11_readEdge 165 = .ok (.iaload, 1) := by decide +kernel
theorem dX11_readEdge_166 : decode cX11_readEdge 166 = .ok (.iload 4, 2) := by decide +kernel
theorem dX11_readEdge_168 : decode cX11_readEdge 168 = .ok (.invokestatic 82, 3) := by decide +kernel
theorem dX11_readEdge_171 : decode cX11_readEdge 171 = .ok (.ifCond .eq 15, 3) := by decide +kernel
theorem dX11_readEdge_174 : decode cX11_readEdge 174 = .ok (.aload_n 0, 1) := by decide +kernel
theorem dX11_readEdge_175 : decode cX11_readEdge 175 = .ok (.dup, 1) := by decide +kernel
theorem dX11_readEdge_176 : decode cX11_readEdge 176 = .ok (.getfield 99, 3) := by decide +kernel
theorem dX11_readEdge_179 : decode cX11_readEdge 179 = .ok (.iconst 1, 1) := by decide +kernel
theorem dX11_readEdge_180 : decode cX11_readEdge 180 = .ok (.isub, 1) := by decide +kernel
theorem dX11_readEdge_181 : decode cX11_readEdge 181 = .ok (.putfield 99, 3) := by decide +kernel
theorem dX11_readEdge_184 : decode cX11_readEdge 184 = .ok (.iconst 0, 1) := by decide +kernel
theorem dX11_readEdge_185 : decode cX11_readEdge 185 = .ok (.ireturn, 1) := by decide +kernel
theorem dX11_readEdge_186 : decode cX11_readEdge 186 = .ok (.aload_n 0, 1) := by decide +kernel
theorem dX11_readEdge_187 : decode cX11_readEdge 187 = .ok (.getfield 13, 3) := by decide +kernel
theorem dX11_readEdge_190 : decode cX11_readEdge 190 = .ok (.iload_n 1, 1) := by decide +kernel
theorem dX11_readEdge_191 : decode cX11_readEdge 191 = .ok (.iload_n 2, 1) := by decide +kernel
theorem dX11_readEdge_192 : decode cX11_readEdge 192 = .ok (.iload_n 3, 1) := by decide +kernel
theorem dX11_readEdge_193 : decode cX11_readEdge 193 = .ok (.invokestatic 86, 3) := by decide +kernel
theorem dX11_readEdge_196 : decode cX11_readEdge 196 = .ok (.dup2, 1) := by decide +kernel
theorem dX11_readEdge_197 : decode cX11_readEdge 197 = .ok (.iaload, 1) := by decide +kernel
theorem dX11_readEdge_198 : decode cX11_readEdge 198 = .ok (.iconst 1, 1) := by decide +kernel
theorem dX11_readEdge_199 : decode cX11_readEdge 199 = .ok (.iload 4, 2) := by decide +kernel
theorem dX11_readEdge_201 : decode cX11_readEdge 201 = .ok (.ishl, 1) := by decide +kernel
theorem dX11_readEdge_202 : decode cX11_readEdge 202 = .ok (.ior, 1) := by decide +kernel
theorem dX11_readEdge_203 : decode cX11_readEdge 203 = .ok (.iastore, 1) := by decide +kernel
theorem dX11_readEdge_204 : decode cX11_readEdge 204 = .ok (.iconst 1, 1) := by decide +kernel
theorem dX11_readEdge_205 : decode cX11_readEdge 205 = .ok (.ireturn, 1) := by decide +kernel
theorem dX11_readEnd_0 : decode cX11_readEnd 0 = .ok (.aload_n 0, 1) := by decide +kernel
theorem dX11_readEnd_1 : decode cX11_readEnd 1 = .ok (.iconst 0, 1) := by decide +kernel
theorem dX11_readEnd_2 : decode cX11_readEnd 2 = .ok (.aload_n 0, 1) := by decide +kernel
theorem dX11_readEnd_3 : decode cX11_readEnd 3 = .ok (.getfield 13, 3) := by decide +kernel
theorem dX11_readEnd_6 : decode cX11_readEnd 6 = .ok (.iload_n 1, 1) := by decide +kernel
theorem dX11_readEnd_7 : decode cX11_readEnd 7 = .ok (.iaload, 1) := by decide +kernel
theorem dX11_readEnd_8 : decode cX11_readEnd 8 = .ok (.iconst 1, 1) := by decide +kernel
theorem dX11_readEnd_9 : decode cX11_readEnd 9 = .ok (.isub, 1) := by decide +kernel
theorem dX11_readEnd_10 : decode cX11_readEnd 10 = .ok (.invokevirtual 105, 3) := by decide +kernel
theorem dX11_readEnd_13 : decode cX11_readEnd 13 = .ok (.istore_n 2, 1) := by decide +kernel
theorem dX11_readEnd_14 : decode cX11_readEnd 14 = .ok (.iload_n 2, 1) := by decide +kernel
theorem dX11_readEnd_15 : decode cX11_readEnd 15 = .ok (.bipush (-9), 2) := by decide +kernel
theorem dX11_readEnd_17 : decode cX11_readEnd 17 = .ok (.if_icmp .ne 5, 3) := by decide +kernel
theorem dX11_readEnd_20 : decode cX11_readEnd 20 = .ok (.iconst 0, 1) := by decide +kernel
theorem dX11_readEnd_21 : decode cX11_readEnd 21 = .ok (.ireturn, 1) := by decide +kernel
theorem dX11_readEnd_22 : decode cX11_readEnd 22 = .ok (.aload_n 0, 1) := by decide +kernel
theorem dX11_readEnd_23 : decode cX11_readEnd 23 = .ok (.getfield 13, 3) := by decide +kernel
theorem dX11_readEnd_26 : decode cX11_readEnd 26 = .ok (.iconst 2, 1) := by decide +kernel
theorem dX11_readEnd_27 : decode cX11_readEnd 27 = .ok (.iload_n 1, 1) := by decide +kernel
theorem dX11_readEnd_28 : decode cX11_readEnd 28 = .ok (.iadd, 1) := by decide +kernel
theorem dX11_readEnd_29 : decode cX11_readEnd 29 = .ok (.iaload, 1) := by decide +kernel
theorem dX11_readEnd_30 : decode cX11_readEnd 30 = .ok (.iload_n 2, 1) := by decide +kernel
theorem dX11_readEnd_31 : decode cX11_readEnd 31 = .ok (.invokestatic 82, 3) := by decide +kernel
theorem dX11_readEnd_34 : decode cX11_readEnd 34 = .ok (.ifCond .eq 15, 3) := by decide +kernel
theorem dX11_readEnd_37 : decode cX11_readEnd 37 = .ok (.aload_n 0, 1) := by decide +kernel
theorem dX11_readEnd_38 : decode cX11_readEnd 38 = .ok (.dup, 1) := by decide +kernel
theorem dX11_readEnd_39 : decode cX11_readEnd 39 = .ok (.getfield 99, 3) := by decide +kernel
theorem dX11_readEnd_42 : decode cX11_readEnd 42 = .ok (.iconst 1, 1) := by decide +kernel
theorem dX11_readEnd_43 : decode cX11_readEnd 43 = .ok (.isub, 1) := by decide +kernel
theorem dX11_readEnd_44 : decode cX11_readEnd 44 = .ok (.putfield 99, 3) := by decide +kernel
theorem dX11_readEnd_47 : decode cX11_readEnd 47 = .ok (.iconst 0, 1) := by decide +kernel
theorem dX11_readEnd_48 : decode cX11_readEnd 48 = .ok (.ireturn, 1) := by decide +kernel
theorem dX11_readEnd_49 : decode cX11_readEnd 49 = .ok (.aload_n 0, 1) := by decide +kernel
theorem dX11_readEnd_50 : decode cX11_readEnd 50 = .ok (.getfield 13, 3) := by decide +kernel
theorem dX11_readEnd_53 : decode cX11_readEnd 53 = .ok (.iconst 2, 1) := by decide +kernel
theorem dX11_readEnd_54 : decode cX11_readEnd 54 = .ok (.iload_n 1, 1) := by decide +kernel
theorem dX11_readEnd_55 : decode cX11_readEnd 55 = .ok (.iadd, 1) := by decide +kernel
theorem dX11_readEnd_56 : decode cX11_readEnd 56 = .ok (.dup2, 1) := by decide +kernel
theorem dX11_readEnd_57 : decode cX11_readEnd 57 = .ok (.iaload, 1) := by decide +kernel
theorem dX11_readEnd_58 : decode cX11_readEnd 58 = .ok (.iconst 1, 1) := by decide +kernel
theorem dX11_readEnd_59 : decode cX11_readEnd 59 = .ok (.iload_n 2, 1) := by decide +kernel
theorem dX11_readEnd_60 : decode cX11_readEnd 60 = .ok (.ishl, 1) := by decide +kernel
theorem dX11_readEnd_61 : decode cX11_readEnd 61 = .ok (.ior, 1) := by decide +kernel
theorem dX11_readEnd_62 : decode cX11_readEnd 62 = .ok (.iastore, 1) := by decide +kernel
theorem dX11_readEnd_63 : decode cX11_readEnd 63 = .ok (.iconst 1, 1) := by decide +kernel
theorem dX11_readEnd_64 : decode cX11_readEnd 64 = .ok (.ireturn, 1) := by decide +kernel
theorem dX11_readPart_0 : decode cX11_readPart 0 = .ok (.aload_n 0, 1) := by decide +kernel
theorem dX11_readPart_1 : decode cX11_readPart 1 = .ok (.getfield 7, 3) := by decide +kernel
theorem dX11_readPart_4 : decode cX11_readPart 4 = .ok (.aload_n 0, 1) := by decide +kernel
theorem dX11_readPart_5 : decode cX11_readPart 5 = .ok (.getfield 99, 3) := by decide +kernel
theorem dX11_readPart_8 : decode cX11_readPart 8 = .ok (.iaload, 1) := by decide +kernel
theorem dX11_readPart_9 : decode cX11_readPart 9 = .ok (.istore_n 1, 1) := by decide +kernel
theorem dX11_readPart_10 : decode cX11_readPart 10 = .ok (.iload_n 1, 1) := by decide +kernel
theorem dX11_readPart_11 : decode cX11_readPart 11 = .ok (.bipush 112, 2) := by decide +kernel
theorem dX11_readPart_13 : decode cX11_readPart 13 = .ok (.if_icmp .eq 9, 3) := by decide +kernel
theorem dX11_readPart_16 : decode cX11_readPart 16 = .ok (.iload_n 1, 1) := by decide +kernel
theorem dX11_readPart_17 : decode cX11_readPart 17 = .ok (.bipush 113, 2) := by decide +kernel
theorem dX11_readPart_19 : decode cX11_readPart 19 = .ok (.if_icmp .ne 7, 3) := by decide +kernel
theorem dX11_readPart_22 : decode cX11_readPart 22 = .ok (.iconst 1, 1) := by decide +kernel
theorem dX11_readPart_23 : decode cX11_readPart 23 = .ok (.goto 4, 3) := by decide +kernel
theorem dX11_readPart_26 : decode cX11_readPart 26 = .ok (.iconst 0, 1) := by decide +kernel
theorem dX11_readPart_27 : decode cX11_readPart 27 = .ok (.istore_n 2, 1) := by decide +kernel
theorem dX11_readPart_28 : decode cX11_readPart 28 = .ok (.iload_n 1, 1) := by decide +kernel
theorem dX11_readPart_29 : decode cX11_readPart 29 = .ok (.bipush 80, 2) := by decide +kernel
theorem dX11_readPart_31 : decode cX11_readPart 31 = .ok (.if_icmp .eq 9, 3) := by decide +kernel
theorem dX11_readPart_34 : decode cX11_readPart 34 = .ok (.iload_n 1, 1) := by decide +kernel
theorem dX11_readPart_35 : decode cX11_readPart 35 = .ok (.bipush 81, 2) := by decide +kernel
theorem dX11_readPart_37 : decode cX11_readPart 37 = .ok (.if_icmp .ne 7, 3) := by decide +kernel
theorem dX11_readPart_40 : decode cX11_readPart 40 = .ok (.iconst 1, 1) := by decide +kernel
theorem dX11_readPart_41 : decode cX11_readPart 41 = .ok (.goto 4, 3) := by decide +kernel
theorem dX11_readPart_44 : decode cX11_readPart 44 = .ok (.iconst 0, 1) := by decide +kernel
theorem dX11_readPart_45 : decode cX11_readPart 45 = .ok (.istore_n 3, 1) := by decide +kernel
theorem dX11_readPart_46 : decode cX11_readPart 46 = .ok (.iload_n 1, 1) := by decide +kernel
theorem dX11_readPart_47 : decode cX11_readPart 47 = .ok (.bipush 112, 2) := by decide +kernel
theorem dX11_readPart_49 : decode cX11_readPart 49 = .ok (.if_icmp .eq 9, 3) := by decide +kernel
theorem dX11_readPart_52 : decode cX11_readPart 52 = .ok (.iload_n 1, 1) := by decide +kernel
theorem dX11_readPart_53 : decode cX11_readPart 53 = .ok (.bipush 80, 2) := by decide +kernel
theorem dX11_readPart_55 : decode cX11_readPart 55 = .ok (.if_icmp .ne 7, 3) := by decide +kernel
theorem dX11_readPart_58 : decode cX11_readPart 58 = .ok (.iconst 0, 1) := by decide +kernel
theorem dX11_readPart_59 : decode cX11_readPart 59 = .ok (.goto 4, 3) := by decide +kernel
theorem dX11_readPart_62 : decode cX11_readPart 62 = .ok (.iconst 1, 1) := by decide +kernel
theorem dX11_readPart_63 : decode cX11_readPart 63 = .ok (.istore 4, 2) := by decide +kernel
theorem dX11_readPart_65 : decode cX11_readPart 65 = .ok (.iconst 2, 1) := by decide +kernel
theorem dX11_readPart_66 : decode cX11_readPart 66 = .ok (.aload_n 0, 1) := by decide +kernel
theorem dX11_readPart_67 : decode cX11_readPart 67 = .ok (.getfield 13, 3) := by decide +kernel
theorem dX11_readPart_70 : decode cX11_readPart 70 = .ok (.iload 4, 2) := by decide +kernel
theorem dX11_readPart_72 : decode cX11_readPart 72 = .ok (.iaload, 1) := by decide +kernel
theorem dX11_readPart_73 : decode cX11_readPart 73 = .ok (.imul, 1) := by decide +kernel
theorem dX11_readPart_74 : decode cX11_readPart 74 = .ok (.aload_n 0, 1) := by decide +kernel
theorem dX11_readPart_75 : decode cX11_readPart 75 = .ok (.getfield 13, 3) := by decide +kernel
theorem dX11_readPart_78 : decode cX11_readPart 78 = .ok (.iload 4, 2) := by decide +kernel
theorem dX11_readPart_80 : decode cX11_readPart 80 = .ok (.iaload, 1) := by decide +kernel
theorem dX11_readPart_81 : decode cX11_readPart 81 = .ok (.imul, 1) := by decide +kernel
theorem dX11_readPart_82 : decode cX11_readPart 82 = .ok (.istore 5, 2) := by decide +kernel
theorem dX11_readPart_84 : decode cX11_readPart 84 = .ok (.iload_n 2, 1) := by decide +kernel
theorem dX11_readPart_85 : decode cX11_readPart 85 = .ok (.ifCond .ne 7, 3) := by decide +kernel
theorem dX11_readPart_88 : decode cX11_readPart 88 = .ok (.iload_n 3, 1) := by decide +kernel
theorem dX11_readPart_89 : decode cX11_readPart 89 = .ok (.ifCond .eq 43, 3) := by decide +kernel
theorem dX11_readPart_92 : decode cX11_readPart 92 = .ok (.iload_n 2, 1) := by decide +kernel
theorem dX11_readPart_93 : decode cX11_readPart 93 = .ok (.ifCond .eq 17, 3) := by decide +kernel
theorem dX11_readPart_96 : decode cX11_readPart 96 = .ok (.aload_n 0, 1) := by decide +kernel
theorem dX11_readPart_97 : decode cX11_readPart 97 = .ok (.getfield 13, 3) := by decide +kernel
theorem dX11_readPart_100 : decode cX11_readPart 100 = .ok (.iload 4, 2) := by decide +kernel
theorem dX11_readPart_102 : decode cX11_readPart 102 = .ok (.invokestatic 116, 3) := by decide +kernel
theorem dX11_readPart_105 : decode cX11_readPart 105 = .ok (.iload 5, 2) := by decide +kernel
theorem dX11_readPart_107 : decode cX11_readPart 107 = .ok (.if_icmp .eq 25, 3) := by decide +kernel
theorem dX11_readPart_110 : decode cX11_readPart 110 = .ok (.iload_n 3, 1) := by decide +kernel
theorem dX11_readPart_111 : decode cX11_readPart 111 = .ok (.ifCond .eq 23, 3) := by decide +kernel
theorem dX11_readPart_114 : decode cX11_readPart 114 = .ok (.aload_n 0, 1) := by decide +kernel
theorem dX11_readPart_115 : decode cX11_readPart 115 = .ok (.getfield 13, 3) := by decide +kernel
theorem dX11_readPart_118 : decode cX11_readPart 118 = .ok (.iconst 2, 1) := by decide +kernel
theorem dX11_readPart_119 : decode cX11_readPart 119 = .ok (.iload 4, 2) := by decide +kernel
theorem dX11_readPart_121 : decode cX11_readPart 121 = .ok (.iadd, 1) := by decide +kernel
theorem dX11_readPart_122 : decode cX11_readPart 122 = .ok (.iaload, 1) := by decide +kernel
theorem dX11_readPart_123 : decode cX11_readPart 123 = .ok (.aload_n 0, 1) := by decide +kernel
theorem dX11_readPart_124 : decode cX11_readPart 124 = .ok (.iload 4, 2) := by decide +kernel
theorem dX11_readPart_126 : decode cX11_readPart 126 = .ok (.invokevirtual 102, 3) := by decide +kernel
theorem dX11_readPart_129 : decode cX11_readPart 129 = .ok (.if_icmp .ne 5, 3) := by decide +kernel
theorem dX11_readPart_132 : decode cX11_readPart 132 = .ok (.iconst 0, 1) := by decide +kernel
theorem dX11_readPart_133 : decode cX11_readPart 133 = .ok (.ireturn, 1) := by decide +kernel
theorem dX11_readPart_134 : decode cX11_readPart 134 = .ok (.aload_n 0, 1) := by decide +kernel
theorem dX11_readPart_135 : decode cX11_readPart 135 = .ok (.dup, 1) := by decide +kernel
theorem dX11_readPart_136 : decode cX11_readPart 136 = .ok (.getfield 99, 3) := by decide +kernel
theorem dX11_readPart_139 : decode cX11_readPart 139 = .ok (.iconst 1, 1) := by decide +kernel
theorem dX11_readPart_140 : decode cX11_readPart 140 = .ok (.iadd, 1) := by decide +kernel
theorem dX11_readPart_141 : decode cX11_readPart 141 = .ok (.putfield 99, 3) := by decide +kernel
theorem dX11_readPart_144 : decode cX11_readPart 144 = .ok (.iload_n 2, 1) := by decide +kernel
theorem dX11_readPart_145 : decode cX11_readPart 145 = .ok (.ifCond .eq 12, 3) := by decide +kernel
theorem dX11_readPart_148 : decode cX11_readPart 148 = .ok (.aload_n 0, 1) := by decide +kernel
theorem dX11_readPart_149 : decode cX11_readPart 149 = .ok (.iload 4, 2) := by decide +kernel
theorem dX11_readPart_151 : decode cX11_readPart 151 = .ok (.invokevirtual 120, 3) := by decide +kernel
theorem dX11_readPart_154 : decode cX11_readPart 154 = .ok (.goto 9, 3) := by decide +kernel
theorem dX11_readPart_157 : decode cX11_readPart 157 = .ok (.aload_n 0, 1) := by decide +kernel
theorem dX11_readPart_158 : decode cX11_readPart 158 = .ok (.iload 4, 2) := by decide +kernel
theorem dX11_readPart_160 : decode cX11_readPart 160 = .ok (.invokevirtual 124, 3) := by decide +kernel
theorem dX11_readPart_163 : decode cX11_readPart 163 = .ok (.ireturn, 1) := by decide +kernel
theorem dX11_readMachines_0 : decode cX11_readMachines 0 = .ok (.iconst 0, 1) := by decide +kernel
theorem dX11_readMachines_1 : decode cX11_readMachines 1 = .ok (.istore_n 1, 1) := by decide +kernel
theorem dX11_readMachines_2 : decode cX11_readMachines 2 = .ok (.iload_n 1, 1) := by decide +kernel
theorem dX11_readMachines_3 : decode cX11_readMachines 3 = .ok (.bipush 22, 2) := by decide +kernel
theorem dX11_readMachines_5 : decode cX11_readMachines 5 = .ok (.if_icmp .ge 16, 3) := by decide +kernel
theorem dX11_readMachines_8 : decode cX11_readMachines 8 = .ok (.aload_n 0, 1) := by decide +kernel
theorem dX11_readMachines_9 : decode cX11_readMachines 9 = .ok (.getfield 13, 3) := by decide +kernel
theorem dX11_readMachines_12 : decode cX11_readMachines 12 = .ok (.iload_n 1, 1) := by decide +kernel
theorem dX11_readMachines_13 : decode cX11_readMachines 13 = .ok (.iconst 0, 1) := by decide +kernel
theorem dX11_readMachines_14 : decode cX11_readMachines 14 = .ok (.iastore, 1) := by decide +kernel
theorem dX11_readMachines_15 : decode cX11_readMachines 15 = .ok (.iinc 1 1, 3) := by decide +kernel
theorem dX11_readMachines_18 : decode cX11_readMachines 18 = .ok (.goto (-16), 3) := by decide +kernel
theorem dX11_readMachines_21 : decode cX11_readMachines 21 = .ok (.aload_n 0, 1) := by decide +kernel
theorem dX11_readMachines_22 : decode cX11_readMachines 22 = .ok (.iconst 0, 1) := by decide +kernel
theorem dX11_readMachines_23 : decode cX11_readMachines 23 = .ok (.putfield 99, 3) := by decide +kernel
theorem dX11_readMachines_26 : decode cX11_readMachines 26 = .ok (.aload_n 0, 1) := by decide +kernel
theorem dX11_readMachines_27 : decode cX11_readMachines 27 = .ok (.getfield 96, 3) := by decide +kernel
theorem dX11_readMachines_30 : decode cX11_readMachines 30 = .ok (.ifCond .eq 14, 3) := by decide +kernel
theorem dX11_readMachines_33 : decode cX11_readMachines 33 = .ok (.aload_n 0, 1) := by decide +kernel
theorem dX11_readMachines_34 : decode cX11_readMachines 34 = .ok (.getfield 7, 3) := by decide +kernel
theorem dX11_readMachines_37 : decode cX11_readMachines 37 = .ok (.iconst 0, 1) := by decide +kernel
theorem dX11_readMachines_38 : decode cX11_readMachines 38 = .ok (.iaload, 1) := by decide +kernel
theorem dX11_readMachines_39 : decode cX11_readMachines 39 = .ok (.bipush 87, 2) := by decide +kernel
theorem dX11_readMachines_41 : decode cX11_readMachines 41 = .ok (.if_icmp .eq 5, 3) := by decide +kernel
theorem dX11_readMachines_44 : decode cX11_readMachines 44 = .ok (.iconst 0, 1) := by decide +kernel
theorem dX11_readMachines_45 : decode cX11_readMachines 45 = .ok (.ireturn, 1) := by decide +kernel
theorem dX11_readMachines_46 : decode cX11_readMachines 46 = .ok (.aload_n 0, 1) := by decide +kernel
theorem dX11_readMachines_47 : decode cX11_readMachines 47 = .ok (.iconst 1, 1) := by decide +kernel
theorem dX11_readMachines_48 : decode cX11_readMachines 48 = .ok (.putfield 99, 3) := by decide +kernel
theorem dX11_readMachines_51 : decode cX11_readMachines 51 = .ok (.aload_n 0, 1) := by decide +kernel
theorem dX11_readMachines_52 : decode cX11_readMachines 52 = .ok (.iconst 1, 1) := by decide +kernel
theorem dX11_readMachines_53 : decode cX11_readMachines 53 = .ok (.iconst 4, 1) := by decide +kernel
theorem dX11_readMachines_54 : decode cX11_readMachines 54 = .ok (.invokevirtual 105, 3) := by decide +kernel
theorem dX11_readMachines_57 : decode cX11_readMachines 57 = .ok (.istore_n 1, 1) := by decide +kernel
theorem dX11_readMachines_58 : decode cX11_readMachines 58 = .ok (.iload_n 1, 1) := by decide +kernel
theorem dX11_readMachines_59 : decode cX11_readMachines 59 = .ok (.bipush (-9), 2) := by decide +kernel
theorem dX11_readMachines_61 : decode cX11_readMachines 61 = .ok (.if_icmp .ne 8, 3) := by decide +kernel
theorem dX11_readMachines_64 : decode cX11_readMachines 64 = .ok (.bipush (-9), 2) := by decide +kernel
theorem dX11_readMachines_66 : decode cX11_readMachines 66 = .ok (.goto 9, 3) := by decide +kernel
theorem dX11_readMachines_69 : decode cX11_readMachines 69 = .ok (.aload_n 0, 1) := by decide +kernel
theorem dX11_readMachines_70 : decode cX11_readMachines 70 = .ok (.iconst 1, 1) := by decide +kernel
theorem dX11_readMachines_71 : decode cX11_readMachines 71 = .ok (.iconst 5, 1) := by decide +kernel
theorem dX11_readMachines_72 : decode cX11_readMachines 72 = .ok (.invokevirtual 105, 3) := by decide +kernel
theorem dX11_readMachines_75 : decode cX11_readMachines 75 = .ok (.istore_n 2, 1) := by decide +kernel
theorem dX11_readMachines_76 : decode cX11_readMachines 76 = .ok (.iload_n 2, 1) := by decide +kernel
theorem dX11_readMachines_77 : decode cX11_readMachines 77 = .ok (.bipush (-9), 2) := by decide +kernel
theorem dX11_readMachines_79 : decode cX11_readMachines 79 = .ok (.if_icmp .ne 8, 3) := by decide +kernel
theorem dX11_readMachines_82 : decode cX11_readMachines 82 = .ok (.aload_n 0, 1) := by decide +kernel
theorem dX11_readMachines_83 : decode cX11_readMachines 83 = .ok (.getfield 99, 3) := by decide +kernel
theorem dX11_readMachines_86 : decode cX11_readMachines 86 = .ok (.ireturn, 1) := by decide +kernel
theorem dX11_readMachines_87 : decode cX11_readMachines 87 = .ok (.aload_n 0, 1) := by decide +kernel
theorem dX11_readMachines_88 : decode cX11_readMachines 88 = .ok (.getfield 13, 3) := by decide +kernel
theorem dX11_readMachines_91 : decode cX11_readMachines 91 = .ok (.iconst 0, 1) := by decide +kernel
theorem dX11_readMachines_92 : decode cX11_readMachines 92 = .ok (.iload_n 1, 1) := by decide +kernel
theorem dX11_readMachines_93 : decode cX11_readMachines 93 = .ok (.iastore, 1) := by decide +kernel
theorem dX11_readMachines_94 : decode cX11_readMachines 94 = .ok (.aload_n 0, 1) := by decide +kernel
theorem dX11_readMachines_95 : decode cX11_readMachines 95 = .ok (.getfield 13, 3) := by decide +kernel
theorem dX11_readMachines_98 : decode cX11_readMachines 98 = .ok (.iconst 1, 1) := by decide +kernel
theorem dX11_readMachines_99 : decode cX11_readMachines 99 = .ok (.iload_n 2, 1) := by decide +kernel
theorem dX11_readMachines_100 : decode cX11_readMachines 100 = .ok (.iastore, 1) := by decide +kernel
theorem dX11_readMachines_101 : decode cX11_readMachines 101 = .ok (.aload_n 0, 1) := by decide +kernel
theorem dX11_readMachines_102 : decode cX11_readMachines 102 = .ok (.getfield 99, 3) := by decide +kernel
theorem dX11_readMachines_105 : decode cX11_readMachines 105 = .ok (.aload_n 0, 1) := by decide +kernel
theorem dX11_readMachines_106 : decode cX11_readMachines 106 = .ok (.getfield 96, 3) := by decide +kernel
theorem dX11_readMachines_109 : decode cX11_readMachines 109 = .ok (.if_icmp .ge 15, 3) := by decide +kernel
theorem dX11_readMachines_112 : decode cX11_readMachines 112 = .ok (.aload_n 0, 1) := by decide +kernel
theorem dX11_readMachines_113 : decode cX11_readMachines 113 = .ok (.invokevirtual 127, 3) := by decide +kernel
theorem dX11_readMachines_116 : decode cX11_readMachines 116 = .ok (.ifCond .ne (-15), 3) := by decide +kernel
theorem dX11_readMachines_119 : decode cX11_readMachines 119 = .ok (.aload_n 0, 1) := by decide +kernel
theorem dX11_readMachines_120 : decode cX11_readMachines 120 = .ok (.getfield 99, 3) := by decide +kernel
theorem dX11_readMachines_123 : decode cX11_readMachines 123 = .ok (.ireturn, 1) := by decide +kernel
theorem dX11_readMachines_124 : decode cX11_readMachines 124 = .ok (.bipush (-9), 2) := by decide +kernel
theorem dX11_readMachines_126 : decode cX11_readMachines 126 = .ok (.ireturn, 1) := by decide +kernel
theorem dX11_fault_0 : decode cX11_fault 0 = .ok (.aload_n 0, 1) := by decide +kernel
theorem dX11_fault_1 : decode cX11_fault 1 = .ok (.iconst 0, 1) := by decide +kernel
theorem dX11_fault_2 : decode cX11_fault 2 = .ok (.putfield 74, 3) := by decide +kernel
theorem dX11_fault_5 : decode cX11_fault 5 = .ok (.aload_n 0, 1) := by decide +kernel
theorem dX11_fault_6 : decode cX11_fault 6 = .ok (.invokevirtual 131, 3) := by decide +kernel
theorem dX11_fault_9 : decode cX11_fault 9 = .ok (.ireturn, 1) := by decide +kernel
theorem dX11_allEdges_0 : decode cX11_allEdges 0 = .ok (.aload_n 0, 1) := by decide +kernel
theorem dX11_allEdges_1 : decode cX11_allEdges 1 = .ok (.iconst 0, 1) := by decide +kernel
theorem dX11_allEdges_2 : decode cX11_allEdges 2 = .ok (.invokestatic 116, 3) := by decide +kernel
theorem dX11_allEdges_5 : decode cX11_allEdges 5 = .ok (.aload_n 0, 1) := by decide +kernel
theorem dX11_allEdges_6 : decode cX11_allEdges 6 = .ok (.iconst 1, 1) := by decide +kernel
theorem dX11_allEdges_7 : decode cX11_allEdges 7 = .ok (.invokestatic 116, 3) := by decide +kernel
theorem dX11_allEdges_10 : decode cX11_allEdges 10 = .ok (.iadd, 1) := by decide +kernel
theorem dX11_allEdges_11 : decode cX11_allEdges 11 = .ok (.ireturn, 1) := by decide +kernel
theorem dX11_machines_0 : decode cX11_machines 0 = .ok (.aload_n 0, 1) := by decide +kernel
theorem dX11_machines_1 : decode cX11_machines 1 = .ok (.iconst 0, 1) := by decide +kernel
theorem dX11_machines_2 : decode cX11_machines 2 = .ok (.putfield 74, 3) := by decide +kernel
theorem dX11_machines_5 : decode cX11_machines 5 = .ok (.aload_n 0, 1) := by decide +kernel
theorem dX11_machines_6 : decode cX11_machines 6 = .ok (.invokevirtual 131, 3) := by decide +kernel
theorem dX11_machines_9 : decode cX11_machines 9 = .ok (.bipush (-9), 2) := by decide +kernel
theorem dX11_machines_11 : decode cX11_machines 11 = .ok (.if_icmp .eq 6, 3) := by decide +kernel
theorem dX11_machines_14 : decode cX11_machines 14 = .ok (.bipush (-3), 2) := by decide +kernel
theorem dX11_machines_16 : decode cX11_machines 16 = .ok (.ireturn, 1) := by decide +kernel
theorem dX11_machines_17 : decode cX11_machines 17 = .ok (.aload_n 0, 1) := by decide +kernel
theorem dX11_machines_18 : decode cX11_machines 18 = .ok (.getfield 16, 3) := by decide +kernel
theorem dX11_machines_21 : decode cX11_machines 21 = .ok (.aload_n 0, 1) := by decide +kernel
theorem dX11_machines_22 : decode cX11_machines 22 = .ok (.getfield 13, 3) := by decide +kernel
theorem dX11_machines_25 : decode cX11_machines 25 = .ok (.invokestatic 135, 3) := by decide +kernel
theorem dX11_machines_28 : decode cX11_machines 28 = .ok (.aload_n 0, 1) := by decide +kernel
theorem dX11_machines_29 : decode cX11_machines 29 = .ok (.iconst 0, 1) := by decide +kernel
theorem dX11_machines_30 : decode cX11_machines 30 = .ok (.putfield 139, 3) := by decide +kernel
theorem dX11_machines_33 : decode cX11_machines 33 = .ok (.aload_n 0, 1) := by decide +kernel
theorem dX11_machines_34 : decode cX11_machines 34 = .ok (.getfield 28, 3) := by decide +kernel
theorem dX11_machines_37 : decode cX11_machines 37 = .ok (.iconst 0, 1) := by decide +kernel
theorem dX11_machines_38 : decode cX11_machines 38 = .ok (.iconst 0, 1) := by decide +kernel
theorem dX11_machines_39 : decode cX11_machines 39 = .ok (.bastore, 1) := by decide +kernel
theorem dX11_machines_40 : decode cX11_machines 40 = .ok (.aload_n 0, 1) := by decide +kernel
theorem dX11_machines_41 : decode cX11_machines 41 = .ok (.getfield 28, 3) := by decide +kernel
theorem dX11_machines_44 : decode cX11_machines 44 = .ok (.iconst 1, 1) := by decide +kernel
theorem dX11_machines_45 : decode cX11_machines 45 = .ok (.iconst 0, 1) := by decide +kernel
theorem dX11_machines_46 : decode cX11_machines 46 = .ok (.bastore, 1) := by decide +kernel
theorem dX11_machines_47 : decode cX11_machines 47 = .ok (.aload_n 0, 1) := by decide +kernel
theorem dX11_machines_48 : decode cX11_machines 48 = .ok (.getfield 16, 3) := by decide +kernel
theorem dX11_machines_51 : decode cX11_machines 51 = .ok (.invokestatic 142, 3) := by decide +kernel
theorem dX11_machines_54 : decode cX11_machines 54 = .ok (.ireturn, 1) := by decide +kernel
theorem dX11_noEdge_0 : decode cX11_noEdge 0 = .ok (.aload_n 0, 1) := by decide +kernel
theorem dX11_noEdge_1 : decode cX11_noEdge 1 = .ok (.iload_n 1, 1) := by decide +kernel
theorem dX11_noEdge_2 : decode cX11_noEdge 2 = .ok (.iload_n 2, 1) := by decide +kernel
theorem dX11_noEdge_3 : decode cX11_noEdge 3 = .ok (.invokevirtual 146, 3) := by decide +kernel
theorem dX11_noEdge_6 : decode cX11_noEdge 6 = .ok (.ifCond .ne 25, 3) := by decide +kernel
theorem dX11_noEdge_9 : decode cX11_noEdge 9 = .ok (.iload_n 3, 1) := by decide +kernel
theorem dX11_noEdge_10 : decode cX11_noEdge 10 = .ok (.i2l, 1) := by decide +kernel
theorem dX11_noEdge_11 : decode cX11_noEdge 11 = .ok (.lconst 1, 1) := by decide +kernel
theorem dX11_noEdge_12 : decode cX11_noEdge 12 = .ok (.ldc2_w 149, 3) := by decide +kernel
theorem dX11_noEdge_15 : decode cX11_noEdge 15 = .ok (.invokestatic 78, 3) := by decide +kernel
theorem dX11_noEdge_18 : decode cX11_noEdge 18 = .ok (.ifCond .eq 13, 3) := by decide +kernel
theorem dX11_noEdge_21 : decode cX11_noEdge 21 = .ok (.aload_n 0, 1) := by decide +kernel
theorem dX11_noEdge_22 : decode cX11_noEdge 22 = .ok (.iload_n 1, 1) := by decide +kernel
theorem dX11_noEdge_23 : decode cX11_noEdge 23 = .ok (.iload 4, 2) := by decide +kernel
theorem dX11_noEdge_25 : decode cX11_noEdge 25 = .ok (.invokevirtual 146, 3) := by decide +kernel
theorem dX11_noEdge_28 : decode cX11_noEdge 28 = .ok (.ifCond .eq 7, 3) := by decide +kernel
theorem dX11_noEdge_31 : decode cX11_noEdge 31 = .ok (.iconst 1, 1) := by decide +kernel
theorem dX11_noEdge_32 : decode cX11_noEdge 32 = .ok (.goto 4, 3) := by decide +kernel
theorem dX11_noEdge_35 : decode cX11_noEdge 35 = .ok (.iconst 0, 1) := by decide +kernel
theorem dX11_noEdge_36 : decode cX11_noEdge 36 = .ok (.ireturn, 1) := by decide +kernel
theorem dX11_edge_0 : decode cX11_edge 0 = .ok (.aload_n 0, 1) := by decide +kernel
theorem dX11_edge_1 : decode cX11_edge 1 = .ok (.iconst 0, 1) := by decide +kernel
theorem dX11_edge_2 : decode cX11_edge 2 = .ok (.putfield 74, 3) := by decide +kernel
theorem dX11_edge_5 : decode cX11_edge 5 = .ok (.aload_n 0, 1) := by decide +kernel
theorem dX11_edge_6 : decode cX11_edge 6 = .ok (.iload_n 1, 1) := by decide +kernel
theorem dX11_edge_7 : decode cX11_edge 7 = .ok (.iload_n 2, 1) := by decide +kernel
theorem dX11_edge_8 : decode cX11_edge 8 = .ok (.iload_n 3, 1) := by decide +kernel
theorem dX11_edge_9 : decode cX11_edge 9 = .ok (.iload 4, 2) := by decide +kernel
theorem dX11_edge_11 : decode cX11_edge 11 = .ok (.invokevirtual 151, 3) := by decide +kernel
theorem dX11_edge_14 : decode cX11_edge 14 = .ok (.ifCond .eq 5, 3) := by decide +kernel
theorem dX11_edge_17 : decode cX11_edge 17 = .ok (.iconst (-1), 1) := by decide +kernel
theorem dX11_edge_18 : decode cX11_edge 18 = .ok (.ireturn, 1) := by decide +kernel
theorem dX11_edge_19 : decode cX11_edge 19 = .ok (.aload_n 0, 1) := by decide +kernel
theorem dX11_edge_20 : decode cX11_edge 20 = .ok (.getfield 16, 3) := by decide +kernel
theorem dX11_edge_23 : decode cX11_edge 23 = .ok (.iload_n 1, 1) := by decide +kernel
theorem dX11_edge_24 : decode cX11_edge 24 = .ok (.iload_n 2, 1) := by decide +kernel
theorem dX11_edge_25 : decode cX11_edge 25 = .ok (.iload_n 3, 1) := by decide +kernel
theorem dX11_edge_26 : decode cX11_edge 26 = .ok (.invokestatic 86, 3) := by decide +kernel
theorem dX11_edge_29 : decode cX11_edge 29 = .ok (.iaload, 1) := by decide +kernel
theorem dX11_edge_30 : decode cX11_edge 30 = .ok (.iload 4, 2) := by decide +kernel
theorem dX11_edge_32 : decode cX11_edge 32 = .ok (.invokestatic 82, 3) := by decide +kernel
theorem dX11_edge_35 : decode cX11_edge 35 = .ok (.ifCond .eq 7, 3) := by decide +kernel
theorem dX11_edge_38 : decode cX11_edge 38 = .ok (.iconst 1, 1) := by decide +kernel
theorem dX11_edge_39 : decode cX11_edge 39 = .ok (.goto 4, 3) := by decide +kernel
theorem dX11_edge_42 : decode cX11_edge 42 = .ok (.iconst 0, 1) := by decide +kernel
theorem dX11_edge_43 : decode cX11_edge 43 = .ok (.ireturn, 1) := by decide +kernel
theorem dX11_note_0 : decode cX11_note 0 = .ok (.aload_n 0, 1) := by decide +kernel
theorem dX11_note_1 : decode cX11_note 1 = .ok (.getfield 139, 3) := by decide +kernel
theorem dX11_note_4 : decode cX11_note 4 = .ok (.bipush 14, 2) := by decide +kernel
theorem dX11_note_6 : decode cX11_note 6 = .ok (.if_icmp .ne 43, 3) := by decide +kernel
theorem dX11_note_9 : decode cX11_note 9 = .ok (.iconst 0, 1) := by decide +kernel
theorem dX11_note_10 : decode cX11_note 10 = .ok (.istore_n 1, 1) := by decide +kernel
theorem dX11_note_11 : decode cX11_note 11 = .ok (.iload_n 1, 1) := by decide +kernel
theorem dX11_note_12 : decode cX11_note 12 = .ok (.sipush 286, 3) := by decide +kernel
theorem dX11_note_15 : decode cX11_note 15 = .ok (.if_icmp .ge 24, 3) := by decide +kernel
theorem dX11_note_18 : decode cX11_note 18 = .ok (.aload_n 0, 1) := by decide +kernel
theorem dX11_note_19 : decode cX11_note 19 = .ok (.getfield 22, 3) := by decide +kernel
theorem dX11_note_22 : decode cX11_note 22 = .ok (.iload_n 1, 1) := by decide +kernel
theorem dX11_note_23 : decode cX11_note 23 = .ok (.aload_n 0, 1) := by decide +kernel
theorem dX11_note_24 : decode cX11_note 24 = .ok (.getfield 22, 3) := by decide +kernel
theorem dX11_note_27 : decode cX11_note 27 = .ok (.iload_n 1, 1) := by decide +kernel
theorem dX11_note_28 : decode cX11_note 28 = .ok (.bipush 22, 2) := by decide +kernel
theorem dX11_note_30 : decode cX11_note 30 = .ok (.iadd, 1) := by decide +kernel
theorem dX11_note_31 : decode cX11_note 31 = .ok (.iaload, 1) := by decide +kernel
theorem dX11_note_32 : decode cX11_note 32 = .ok (.iastore, 1) := by decide +kernel
theorem dX11_note_33 : decode cX11_note 33 = .ok (.iinc 1 1, 3) := by decide +kernel
theorem dX11_note_36 : decode cX11_note 36 = .ok (.goto (-25), 3) := by decide +kernel
theorem dX11_note_39 : decode cX11_note 39 = .ok (.aload_n 0, 1) := by decide +kernel
theorem dX11_note_40 : decode cX11_note 40 = .ok (.dup, 1) := by decide +kernel
theorem dX11_note_41 : decode cX11_note 41 = .ok (.getfield 139, 3) := by decide +kernel
theorem dX11_note_44 : decode cX11_note 44 = .ok (.iconst 1, 1) := by decide +kernel
theorem dX11_note_45 : decode cX11_note 45 = .ok (.isub, 1) := by decide +kernel
theorem dX11_note_46 : decode cX11_note 46 = .ok (.putfield 139, 3) := by decide +kernel
theorem dX11_note_49 : decode cX11_note 49 = .ok (.iconst 0, 1) := by decide +kernel
theorem dX11_note_50 : decode cX11_note 50 = .ok (.istore_n 1, 1) := by decide +kernel
theorem dX11_note_51 : decode cX11_note 51 = .ok (.iload_n 1, 1) := by decide +kernel
theorem dX11_note_52 : decode cX11_note 52 = .ok (.bipush 22, 2) := by decide +kernel
theorem dX11_note_54 : decode cX11_note 54 = .ok (.if_icmp .ge 29, 3) := by decide +kernel
theorem dX11_note_57 : decode cX11_note 57 = .ok (.aload_n 0, 1) := by decide +kernel
theorem dX11_note_58 : decode cX11_note 58 = .ok (.getfield 22, 3) := by decide +kernel
theorem dX11_note_61 : decode cX11_note 61 = .ok (.bipush 22, 2) := by decide +kernel
theorem dX11_note_63 : decode cX11_note 63 = .ok (.aload_n 0, 1) := by decide +kernel
theorem dX11_note_64 : decode cX11_note 64 = .ok (.getfield 139, 3) := by decide +kernel
theorem dX11_note_67 : decode cX11_note 67 = .ok (.imul, 1) := by decide +kernel
theorem dX11_note_68 : decode cX11_note 68 = .ok (.iload_n 1, 1) := by decide +kernel
theorem dX11_note_69 : decode cX11_note 69 = .ok (.iadd, 1) := by decide +kernel
theorem dX11_note_70 : decode cX11_note 70 = .ok (.aload_n 0, 1) := by decide +kernel
theorem dX11_note_71 : decode cX11_note 71 = .ok (.getfield 16, 3) := by decide +kernel
theorem dX11_note_74 : decode cX11_note 74 = .ok (.iload_n 1, 1) := by decide +kernel
theorem dX11_note_75 : decode cX11_note 75 = .ok (.iaload, 1) := by decide +kernel
theorem dX11_note_76 : decode cX11_note 76 = .ok (.iastore, 1) := by decide +kernel
theorem dX11_note_77 : decode cX11_note 77 = .ok (.iinc 1 1, 3) := by decide +kernel
theorem dX11_note_80 : decode cX11_note 80 = .ok (.goto (-29), 3) := by decide +kernel
theorem dX11_note_83 : decode cX11_note 83 = .ok (.aload_n 0, 1) := by decide +kernel
theorem dX11_note_84 : decode cX11_note 84 = .ok (.dup, 1) := by decide +kernel
theorem dX11_note_85 : decode cX11_note 85 = .ok (.getfield 139, 3) := by decide +kernel
theorem dX11_note_88 : decode cX11_note 88 = .ok (.iconst 1, 1) := by decide +kernel
theorem dX11_note_89 : decode cX11_note 89 = .ok (.iadd, 1) := by decide +kernel
theorem dX11_note_90 : decode cX11_note 90 = .ok (.putfield 139, 3) := by decide +kernel
theorem dX11_note_93 : decode cX11_note 93 = .ok (.return_, 1) := by decide +kernel
theorem dX11_turn_0 : decode cX11_turn 0 = .ok (.aload_n 0, 1) := by decide +kernel
theorem dX11_turn_1 : decode cX11_turn 1 = .ok (.iconst 0, 1) := by decide +kernel
theorem dX11_turn_2 : decode cX11_turn 2 = .ok (.putfield 74, 3) := by decide +kernel
theorem dX11_turn_5 : decode cX11_turn 5 = .ok (.aload_n 0, 1) := by decide +kernel
theorem dX11_turn_6 : decode cX11_turn 6 = .ok (.iload_n 1, 1) := by decide +kernel
theorem dX11_turn_7 : decode cX11_turn 7 = .ok (.iload_n 2, 1) := by decide +kernel
theorem dX11_turn_8 : decode cX11_turn 8 = .ok (.iload_n 3, 1) := by decide +kernel
theorem dX11_turn_9 : decode cX11_turn 9 = .ok (.iload 4, 2) := by decide +kernel
theorem dX11_turn_11 : decode cX11_turn 11 = .ok (.invokevirtual 151, 3) := by decide +kernel
theorem dX11_turn_14 : decode cX11_turn 14 = .ok (.ifCond .eq 5, 3) := by decide +kernel
theorem dX11_turn_17 : decode cX11_turn 17 = .ok (.iconst (-1), 1) := by decide +kernel
theorem dX11_turn_18 : decode cX11_turn 18 = .ok (.ireturn, 1) := by decide +kernel
theorem dX11_turn_19 : decode cX11_turn 19 = .ok (.aload_n 0, 1) := by decide +kernel
theorem dX11_turn_20 : decode cX11_turn 20 = .ok (.invokevirtual 155, 3) := by decide +kernel
theorem dX11_turn_23 : decode cX11_turn 23 = .ok (.aload_n 0, 1) := by decide +kernel
theorem dX11_turn_24 : decode cX11_turn 24 = .ok (.getfield 16, 3) := by decide +kernel
theorem dX11_turn_27 : decode cX11_turn 27 = .ok (.iload_n 1, 1) := by decide +kernel
theorem dX11_turn_28 : decode cX11_turn 28 = .ok (.iload_n 2, 1) := by decide +kernel
theorem dX11_turn_29 : decode cX11_turn 29 = .ok (.iload_n 3, 1) := by decide +kernel
theorem dX11_turn_30 : decode cX11_turn 30 = .ok (.invokestatic 86, 3) := by decide +kernel
theorem dX11_turn_33 : decode cX11_turn 33 = .ok (.dup2, 1) := by decide +kernel
theorem dX11_turn_34 : decode cX11_turn 34 = .ok (.iaload, 1) := by decide +kernel
theorem dX11_turn_35 : decode cX11_turn 35 = .ok (.iconst 1, 1) := by decide +kernel
theorem dX11_turn_36 : decode cX11_turn 36 = .ok (.iload 4, 2) := by decide +kernel
theorem dX11_turn_38 : decode cX11_turn 38 = .ok (.ishl, 1) := by decide +kernel
theorem dX11_turn_39 : decode cX11_turn 39 = .ok (.ixor, 1) := by decide +kernel
theorem dX11_turn_40 : decode cX11_turn 40 = .ok (.iastore, 1) := by decide +kernel
theorem dX11_turn_41 : decode cX11_turn 41 = .ok (.aload_n 0, 1) := by decide +kernel
theorem dX11_turn_42 : decode cX11_turn 42 = .ok (.getfield 16, 3) := by decide +kernel
theorem dX11_turn_45 : decode cX11_turn 45 = .ok (.iload_n 1, 1) := by decide +kernel
theorem dX11_turn_46 : decode cX11_turn 46 = .ok (.iload_n 2, 1) := by decide +kernel
theorem dX11_turn_47 : decode cX11_turn 47 = .ok (.iload_n 3, 1) := by decide +kernel
theorem dX11_turn_48 : decode cX11_turn 48 = .ok (.invokestatic 86, 3) := by decide +kernel
theorem dX11_turn_51 : decode cX11_turn 51 = .ok (.iaload, 1) := by decide +kernel
theorem dX11_turn_52 : decode cX11_turn 52 = .ok (.iload 4, 2) := by decide +kernel
theorem dX11_turn_54 : decode cX11_turn 54 = .ok (.invokestatic 82, 3) := by decide +kernel
theorem dX11_turn_57 : decode cX11_turn 57 = .ok (.ifCond .eq 7, 3) := by decide +kernel
theorem dX11_turn_60 : decode cX11_turn 60 = .ok (.iconst 1, 1) := by decide +kernel
theorem dX11_turn_61 : decode cX11_turn 61 = .ok (.goto 4, 3) := by decide +kernel
theorem dX11_turn_64 : decode cX11_turn 64 = .ok (.iconst 0, 1) := by decide +kernel
theorem dX11_turn_65 : decode cX11_turn 65 = .ok (.ireturn, 1) := by decide +kernel
theorem dX11_end_0 : decode cX11_end 0 = .ok (.aload_n 0, 1) := by decide +kernel
theorem dX11_end_1 : decode cX11_end 1 = .ok (.iconst 0, 1) := by decide +kernel
theorem dX11_end_2 : decode cX11_end 2 = .ok (.putfield 74, 3) := by decide +kernel
theorem dX11_end_5 : decode cX11_end 5 = .ok (.aload_n 0, 1) := by decide +kernel
theorem dX11_end_6 : decode cX11_end 6 = .ok (.iload_n 1, 1) := by decide +kernel
theorem dX11_end_7 : decode cX11_end 7 = .ok (.iload_n 2, 1) := by decide +kernel
theorem dX11_end_8 : decode cX11_end 8 = .ok (.invokevirtual 146, 3) := by decide +kernel
theorem dX11_end_11 : decode cX11_end 11 = .ok (.ifCond .eq 5, 3) := by decide +kernel
theorem dX11_end_14 : decode cX11_end 14 = .ok (.iconst (-1), 1) := by decide +kernel
theorem dX11_end_15 : decode cX11_end 15 = .ok (.ireturn, 1) := by decide +kernel
theorem dX11_end_16 : decode cX11_end 16 = .ok (.aload_n 0, 1) := by decide +kernel
theorem dX11_end_17 : decode cX11_end 17 = .ok (.invokevirtual 155, 3) := by decide +kernel
theorem dX11_end_20 : decode cX11_end 20 = .ok (.aload_n 0, 1) := by decide +kernel
theorem dX11_end_21 : decode cX11_end 21 = .ok (.getfield 16, 3) := by decide +kernel
theorem dX11_end_24 : decode cX11_end 24 = .ok (.iconst 2, 1) := by decide +kernel
theorem dX11_end_25 : decode cX11_end 25 = .ok (.iload_n 1, 1) := by decide +kernel
theorem dX11_end_26 : decode cX11_end 26 = .ok (.iadd, 1) := by decide +kernel
theorem dX11_end_27 : decode cX11_end 27 = .ok (.dup2, 1) := by decide +kernel
theorem dX11_end_28 : decode cX11_end 28 = .ok (.iaload, 1) := by decide +kernel
theorem dX11_end_29 : decode cX11_end 29 = .ok (.iconst 1, 1) := by decide +kernel
theorem dX11_end_30 : decode cX11_end 30 = .ok (.iload_n 2, 1) := by decide +kernel
theorem dX11_end_31 : decode cX11_end 31 = .ok (.ishl, 1) := by decide +kernel
theorem dX11_end_32 : decode cX11_end 32 = .ok (.ixor, 1) := by decide +kernel
theorem dX11_end_33 : decode cX11_end 33 = .ok (.iastore, 1) := by decide +kernel
theorem dX11_end_34 : decode cX11_end 34 = .ok (.aload_n 0, 1) := by decide +kernel
theorem dX11_end_35 : decode cX11_end 35 = .ok (.getfield 16, 3) := by decide +kernel
theorem dX11_end_38 : decode cX11_end 38 = .ok (.iconst 2, 1) := by decide +kernel
theorem dX11_end_39 : decode cX11_end 39 = .ok (.iload_n 1, 1) := by decide +kernel
theorem dX11_end_40 : decode cX11_end 40 = .ok (.iadd, 1) := by decide +kernel
theorem dX11_end_41 : decode cX11_end 41 = .ok (.iaload, 1) := by decide +kernel
theorem dX11_end_42 : decode cX11_end 42 = .ok (.iload_n 2, 1) := by decide +kernel
theorem dX11_end_43 : decode cX11_end 43 = .ok (.invokestatic 82, 3) := by decide +kernel
theorem dX11_end_46 : decode cX11_end 46 = .ok (.ifCond .eq 7, 3) := by decide +kernel
theorem dX11_end_49 : decode cX11_end 49 = .ok (.iconst 1, 1) := by decide +kernel
theorem dX11_end_50 : decode cX11_end 50 = .ok (.goto 4, 3) := by decide +kernel
theorem dX11_end_53 : decode cX11_end 53 = .ok (.iconst 0, 1) := by decide +kernel
theorem dX11_end_54 : decode cX11_end 54 = .ok (.ireturn, 1) := by decide +kernel
theorem dX11_undo_0 : decode cX11_undo 0 = .ok (.aload_n 0, 1) := by decide +kernel
theorem dX11_undo_1 : decode cX11_undo 1 = .ok (.iconst 0, 1) := by decide +kernel
theorem dX11_undo_2 : decode cX11_undo 2 = .ok (.putfield 74, 3) := by decide +kernel
theorem dX11_undo_5 : decode cX11_undo 5 = .ok (.aload_n 0, 1) := by decide +kernel
theorem dX11_undo_6 : decode cX11_undo 6 = .ok (.getfield 139, 3) := by decide +kernel
theorem dX11_undo_9 : decode cX11_undo 9 = .ok (.ifCond .ne 6, 3) := by decide +kernel
theorem dX11_undo_12 : decode cX11_undo 12 = .ok (.bipush (-3), 2) := by decide +kernel
theorem dX11_undo_14 : decode cX11_undo 14 = .ok (.ireturn, 1) := by decide +kernel
theorem dX11_undo_15 : decode cX11_undo 15 = .ok (.aload_n 0, 1) := by decide +kernel
theorem dX11_undo_16 : decode cX11_undo 16 = .ok (.dup, 1) := by decide +kernel
theorem dX11_undo_17 : decode cX11_undo 17 = .ok (.getfield 139, 3) := by decide +kernel
theorem dX11_undo_20 : decode cX11_undo 20 = .ok (.iconst 1, 1) := by decide +kernel
theorem dX11_undo_21 : decode cX11_undo 21 = .ok (.isub, 1) := by decide +kernel
theorem dX11_undo_22 : decode cX11_undo 22 = .ok (.putfield 139, 3) := by decide +kernel
theorem dX11_undo_25 : decode cX11_undo 25 = .ok (.iconst 0, 1) := by decide +kernel
theorem dX11_undo_26 : decode cX11_undo 26 = .ok (.istore_n 1, 1) := by decide +kernel
theorem dX11_undo_27 : decode cX11_undo 27 = .ok (.iload_n 1, 1) := by decide +kernel
theorem dX11_undo_28 : decode cX11_undo 28 = .ok (.bipush 22, 2) := by decide +kernel
theorem dX11_undo_30 : decode cX11_undo 30 = .ok (.if_icmp .ge 29, 3) := by decide +kernel
theorem dX11_undo_33 : decode cX11_undo 33 = .ok (.aload_n 0, 1) := by decide +kernel
theorem dX11_undo_34 : decode cX11_undo 34 = .ok (.getfield 16, 3) := by decide +kernel
theorem dX11_undo_37 : decode cX11_undo 37 = .ok (.iload_n 1, 1) := by decide +kernel
theorem dX11_undo_38 : decode cX11_undo 38 = .ok (.aload_n 0, 1) := by decide +kernel
theorem dX11_undo_39 : decode cX11_undo 39 = .ok (.getfield 22, 3) := by decide +kernel
theorem dX11_undo_42 : decode cX11_undo 42 = .ok (.bipush 22, 2) := by decide +kernel
theorem dX11_undo_44 : decode cX11_undo 44 = .ok (.aload_n 0, 1) := by decide +kernel
theorem dX11_undo_45 : decode cX11_undo 45 = .ok (.getfield 139, 3) := by decide +kernel
theorem dX11_undo_48 : decode cX11_undo 48 = .ok (.imul, 1) := by decide +kernel
theorem dX11_undo_49 : decode cX11_undo 49 = .ok (.iload_n 1, 1) := by decide +kernel
theorem dX11_undo_50 : decode cX11_undo 50 = .ok (.iadd, 1) := by decide +kernel
theorem dX11_undo_51 : decode cX11_undo 51 = .ok (.iaload, 1) := by decide +kernel
theorem dX11_undo_52 : decode cX11_undo 52 = .ok (.iastore, 1) := by decide +kernel
theorem dX11_undo_53 : decode cX11_undo 53 = .ok (.iinc 1 1, 3) := by decide +kernel
theorem dX11_undo_56 : decode cX11_undo 56 = .ok (.goto (-29), 3) := by decide +kernel
theorem dX11_undo_59 : decode cX11_undo 59 = .ok (.aload_n 0, 1) := by decide +kernel
theorem dX11_undo_60 : decode cX11_undo 60 = .ok (.getfield 139, 3) := by decide +kernel
theorem dX11_undo_63 : decode cX11_undo 63 = .ok (.ireturn, 1) := by decide +kernel
theorem dX11_isWord_0 : decode cX11_isWord 0 = .ok (.iload_n 0, 1) := by decide +kernel
theorem dX11_isWord_1 : decode cX11_isWord 1 = .ok (.i2l, 1) := by decide +kernel
theorem dX11_isWord_2 : decode cX11_isWord 2 = .ok (.lconst 0, 1) := by decide +kernel
theorem dX11_isWord_3 : decode cX11_isWord 3 = .ok (.ldc2_w 158, 3) := by decide +kernel
theorem dX11_isWord_6 : decode cX11_isWord 6 = .ok (.invokestatic 78, 3) := by decide +kernel
theorem dX11_isWord_9 : decode cX11_isWord 9 = .ok (.istore_n 1, 1) := by decide +kernel
theorem dX11_isWord_10 : decode cX11_isWord 10 = .ok (.iload_n 0, 1) := by decide +kernel
theorem dX11_isWord_11 : decode cX11_isWord 11 = .ok (.istore_n 2, 1) := by decide +kernel
theorem dX11_isWord_12 : decode cX11_isWord 12 = .ok (.iload_n 2, 1) := by decide +kernel
theorem dX11_isWord_13 : decode cX11_isWord 13 = .ok (.ifCond .le 36, 3) := by decide +kernel
theorem dX11_isWord_16 : decode cX11_isWord 16 = .ok (.iload_n 1, 1) := by decide +kernel
theorem dX11_isWord_17 : decode cX11_isWord 17 = .ok (.ifCond .eq 22, 3) := by decide +kernel
theorem dX11_isWord_20 : decode cX11_isWord 20 = .ok (.iload_n 2, 1) := by decide +kernel
theorem dX11_isWord_21 : decode cX11_isWord 21 = .ok (.bipush 10, 2) := by decide +kernel
theorem dX11_isWord_23 : decode cX11_isWord 23 = .ok (.irem, 1) := by decide +kernel
theorem dX11_isWord_24 : decode cX11_isWord 24 = .ok (.i2l, 1) := by decide +kernel
theorem dX11_isWord_25 : decode cX11_isWord 25 = .ok (.lconst 1, 1) := by decide +kernel
theorem dX11_isWord_26 : decode cX11_isWord 26 = .ok (.ldc2_w 149, 3) := by decide +kernel
theorem dX11_isWord_29 : decode cX11_isWord 29 = .ok (.invokestatic 78, 3) := by decide +kernel
theorem dX11_isWord_32 : decode cX11_isWord 32 = .ok (.ifCond .eq 7, 3) := by decide +kernel
theorem dX11_isWord_35 : decode cX11_isWord 35 = .ok (.iconst 1, 1) := by decide +kernel
theorem dX11_isWord_36 : decode cX11_isWord 36 = .ok (.goto 4, 3) := by decide +kernel
theorem dX11_isWord_39 : decode cX11_isWord 39 = .ok (.iconst 0, 1) := by decide +kernel
theorem dX11_isWord_40 : decode cX11_isWord 40 = .ok (.istore_n 1, 1) := by decide +kernel
theorem dX11_isWord_41 : decode cX11_isWord 41 = .ok (.iload_n 2, 1) := by decide +kernel
theorem dX11_isWord_42 : decode cX11_isWord 42 = .ok (.bipush 10, 2) := by decide +kernel
theorem dX11_isWord_44 : decode cX11_isWord 44 = .ok (.idiv, 1) := by decide +kernel
theorem dX11_isWord_45 : decode cX11_isWord 45 = .ok (.istore_n 2, 1) := by decide +kernel
theorem dX11_isWord_46 : decode cX11_isWord 46 = .ok (.goto (-34), 3) := by decide +kernel
theorem dX11_isWord_49 : decode cX11_isWord 49 = .ok (.iload_n 1, 1) := by decide +kernel
theorem dX11_isWord_50 : decode cX11_isWord 50 = .ok (.ireturn, 1) := by decide +kernel
theorem dX11_lettersOf_0 : decode cX11_lettersOf 0 = .ok (.iconst 0, 1) := by decide +kernel
theorem dX11_lettersOf_1 : decode cX11_lettersOf 1 = .ok (.istore_n 1, 1) := by decide +kernel
theorem dX11_lettersOf_2 : decode cX11_lettersOf 2 = .ok (.iload_n 0, 1) := by decide +kernel
theorem dX11_lettersOf_3 : decode cX11_lettersOf 3 = .ok (.istore_n 2, 1) := by decide +kernel
theorem dX11_lettersOf_4 : decode cX11_lettersOf 4 = .ok (.iload_n 2, 1) := by decide +kernel
theorem dX11_lettersOf_5 : decode cX11_lettersOf 5 = .ok (.ifCond .le 14, 3) := by decide +kernel
theorem dX11_lettersOf_8 : decode cX11_lettersOf 8 = .ok (.iinc 1 1, 3) := by decide +kernel
theorem dX11_lettersOf_11 : decode cX11_lettersOf 11 = .ok (.iload_n 2, 1) := by decide +kernel
theorem dX11_lettersOf_12 : decode cX11_lettersOf 12 = .ok (.bipush 10, 2) := by decide +kernel
theorem dX11_lettersOf_14 : decode cX11_lettersOf 14 = .ok (.idiv, 1) := by decide +kernel
theorem dX11_lettersOf_15 : decode cX11_lettersOf 15 = .ok (.istore_n 2, 1) := by decide +kernel
theorem dX11_lettersOf_16 : decode cX11_lettersOf 16 = .ok (.goto (-12), 3) := by decide +kernel
theorem dX11_lettersOf_19 : decode cX11_lettersOf 19 = .ok (.iload_n 1, 1) := by decide +kernel
theorem dX11_lettersOf_20 : decode cX11_lettersOf 20 = .ok (.ireturn, 1) := by decide +kernel
theorem dX11_letterOf_0 : decode cX11_letterOf 0 = .ok (.iload_n 0, 1) := by decide +kernel
theorem dX11_letterOf_1 : decode cX11_letterOf 1 = .ok (.bipush 10, 2) := by decide +kernel
theorem dX11_letterOf_3 : decode cX11_letterOf 3 = .ok (.iload_n 0, 1) := by decide +kernel
theorem dX11_letterOf_4 : decode cX11_letterOf 4 = .ok (.invokestatic 160, 3) := by decide +kernel
theorem dX11_letterOf_7 : decode cX11_letterOf 7 = .ok (.iconst 1, 1) := by decide +kernel
theorem dX11_letterOf_8 : decode cX11_letterOf 8 = .ok (.isub, 1) := by decide +kernel
theorem dX11_letterOf_9 : decode cX11_letterOf 9 = .ok (.iload_n 1, 1) := by decide +kernel
theorem dX11_letterOf_10 : decode cX11_letterOf 10 = .ok (.isub, 1) := by decide +kernel
theorem dX11_letterOf_11 : decode cX11_letterOf 11 = .ok (.invokestatic 163, 3) := by decide +kernel
theorem dX11_letterOf_14 : decode cX11_letterOf 14 = .ok (.idiv, 1) := by decide +kernel
theorem dX11_letterOf_15 : decode cX11_letterOf 15 = .ok (.bipush 10, 2) := by decide +kernel
theorem dX11_letterOf_17 : decode cX11_letterOf 17 = .ok (.irem, 1) := by decide +kernel
theorem dX11_letterOf_18 : decode cX11_letterOf 18 = .ok (.ireturn, 1) := by decide +kernel
theorem dX11_afterWord_0 : decode cX11_afterWord 0 = .ok (.iload_n 2, 1) := by decide +kernel
theorem dX11_afterWord_1 : decode cX11_afterWord 1 = .ok (.istore 4, 2) := by decide +kernel
theorem dX11_afterWord_3 : decode cX11_afterWord 3 = .ok (.iconst 0, 1) := by decide +kernel
theorem dX11_afterWord_4 : decode cX11_afterWord 4 = .ok (.istore 5, 2) := by decide +kernel
theorem dX11_afterWord_6 : decode cX11_afterWord 6 = .ok (.iload 5, 2) := by decide +kernel
theorem dX11_afterWord_8 : decode cX11_afterWord 8 = .ok (.iload_n 3, 1) := by decide +kernel
theorem dX11_afterWord_9 : decode cX11_afterWord 9 = .ok (.invokestatic 160, 3) := by decide +kernel
theorem dX11_afterWord_12 : decode cX11_afterWord 12 = .ok (.if_icmp .ge 24, 3) := by decide +kernel
theorem dX11_afterWord_15 : decode cX11_afterWord 15 = .ok (.aload_n 0, 1) := by decide +kernel
theorem dX11_afterWord_16 : decode cX11_afterWord 16 = .ok (.iload_n 1, 1) := by decide +kernel
theorem dX11_afterWord_17 : decode cX11_afterWord 17 = .ok (.iload 4, 2) := by decide +kernel
theorem dX11_afterWord_19 : decode cX11_afterWord 19 = .ok (.iload_n 3, 1) := by decide +kernel
theorem dX11_afterWord_20 : decode cX11_afterWord 20 = .ok (.iload 5, 2) := by decide +kernel
theorem dX11_afterWord_22 : decode cX11_afterWord 22 = .ok (.invokestatic 166, 3) := by decide +kernel
theorem dX11_afterWord_25 : decode cX11_afterWord 25 = .ok (.invokestatic 169, 3) := by decide +kernel
theorem dX11_afterWord_28 : decode cX11_afterWord 28 = .ok (.istore 4, 2) := by decide +kernel
theorem dX11_afterWord_30 : decode cX11_afterWord 30 = .ok (.iinc 5 1, 3) := by decide +kernel
theorem dX11_afterWord_33 : decode cX11_afterWord 33 = .ok (.goto (-27), 3) := by decide +kernel
theorem dX11_afterWord_36 : decode cX11_afterWord 36 = .ok (.iload 4, 2) := by decide +kernel
theorem dX11_afterWord_38 : decode cX11_afterWord 38 = .ok (.ireturn, 1) := by decide +kernel
theorem dX11_takesFrom_0 : decode cX11_takesFrom 0 = .ok (.aload_n 0, 1) := by decide +kernel
theorem dX11_takesFrom_1 : decode cX11_takesFrom 1 = .ok (.iload_n 1, 1) := by decide +kernel
theorem dX11_takesFrom_2 : decode cX11_takesFrom 2 = .ok (.iload_n 2, 1) := by decide +kernel
theorem dX11_takesFrom_3 : decode cX11_takesFrom 3 = .ok (.iload_n 3, 1) := by decide +kernel
theorem dX11_takesFrom_4 : decode cX11_takesFrom 4 = .ok (.invokestatic 173, 3) := by decide +kernel
theorem dX11_takesFrom_7 : decode cX11_takesFrom 7 = .ok (.aload_n 0, 1) := by decide +kernel
theorem dX11_takesFrom_8 : decode cX11_takesFrom 8 = .ok (.iconst 2, 1) := by decide +kernel
theorem dX11_takesFrom_9 : decode cX11_takesFrom 9 = .ok (.iload_n 1, 1) := by decide +kernel
theorem dX11_takesFrom_10 : decode cX11_takesFrom 10 = .ok (.iadd, 1) := by decide +kernel
theorem dX11_takesFrom_11 : decode cX11_takesFrom 11 = .ok (.iaload, 1) := by decide +kernel
theorem dX11_takesFrom_12 : decode cX11_takesFrom 12 = .ok (.iand, 1) := by decide +kernel
theorem dX11_takesFrom_13 : decode cX11_takesFrom 13 = .ok (.ifCond .eq 7, 3) := by decide +kernel
theorem dX11_takesFrom_16 : decode cX11_takesFrom 16 = .ok (.iconst 1, 1) := by decide +kernel
theorem dX11_takesFrom_17 : decode cX11_takesFrom 17 = .ok (.goto 4, 3) := by decide +kernel
theorem dX11_takesFrom_20 : decode cX11_takesFrom 20 = .ok (.iconst 0, 1) := by decide +kernel
theorem dX11_takesFrom_21 : decode cX11_takesFrom 21 = .ok (.ireturn, 1) := by decide +kernel
theorem dX11_takes_0 : decode cX11_takes 0 = .ok (.aload_n 0, 1) := by decide +kernel
theorem dX11_takes_1 : decode cX11_takes 1 = .ok (.iconst 0, 1) := by decide +kernel
theorem dX11_takes_2 : decode cX11_takes 2 = .ok (.putfield 74, 3) := by decide +kernel
theorem dX11_takes_5 : decode cX11_takes 5 = .ok (.iload_n 1, 1) := by decide +kernel
theorem dX11_takes_6 : decode cX11_takes 6 = .ok (.i2l, 1) := by decide +kernel
theorem dX11_takes_7 : decode cX11_takes 7 = .ok (.lconst 0, 1) := by decide +kernel
theorem dX11_takes_8 : decode cX11_takes 8 = .ok (.lconst 1, 1) := by decide +kernel
theorem dX11_takes_9 : decode cX11_takes 9 = .ok (.invokestatic 78, 3) := by decide +kernel
theorem dX11_takes_12 : decode cX11_takes 12 = .ok (.ifCond .ne 5, 3) := by decide +kernel
theorem dX11_takes_15 : decode cX11_takes 15 = .ok (.iconst (-1), 1) := by decide +kernel
theorem dX11_takes_16 : decode cX11_takes 16 = .ok (.ireturn, 1) := by decide +kernel
theorem dX11_takes_17 : decode cX11_takes 17 = .ok (.iload_n 2, 1) := by decide +kernel
theorem dX11_takes_18 : decode cX11_takes 18 = .ok (.invokestatic 176, 3) := by decide +kernel
theorem dX11_takes_21 : decode cX11_takes 21 = .ok (.ifCond .ne 6, 3) := by decide +kernel
theorem dX11_takes_24 : decode cX11_takes 24 = .ok (.bipush (-2), 2) := by decide +kernel
theorem dX11_takes_26 : decode cX11_takes 26 = .ok (.ireturn, 1) := by decide +kernel
theorem dX11_takes_27 : decode cX11_takes 27 = .ok (.aload_n 0, 1) := by decide +kernel
theorem dX11_takes_28 : decode cX11_takes 28 = .ok (.getfield 16, 3) := by decide +kernel
theorem dX11_takes_31 : decode cX11_takes 31 = .ok (.iload_n 1, 1) := by decide +kernel
theorem dX11_takes_32 : decode cX11_takes 32 = .ok (.iconst 1, 1) := by decide +kernel
theorem dX11_takes_33 : decode cX11_takes 33 = .ok (.iload_n 2, 1) := by decide +kernel
theorem dX11_takes_34 : decode cX11_takes 34 = .ok (.invokestatic 179, 3) := by decide +kernel
theorem dX11_takes_37 : decode cX11_takes 37 = .ok (.ifCond .eq 7, 3) := by decide +kernel
theorem dX11_takes_40 : decode cX11_takes 40 = .ok (.iconst 1, 1) := by decide +kernel
theorem dX11_takes_41 : decode cX11_takes 41 = .ok (.goto 4, 3) := by decide +kernel
theorem dX11_takes_44 : decode cX11_takes 44 = .ok (.iconst 0, 1) := by decide +kernel
theorem dX11_takes_45 : decode cX11_takes 45 = .ok (.ireturn, 1) := by decide +kernel
theorem dX11_after_0 : decode cX11_after 0 = .ok (.aload_n 0, 1) := by decide +kernel
theorem dX11_after_1 : decode cX11_after 1 = .ok (.iconst 0, 1) := by decide +kernel
theorem dX11_after_2 : decode cX11_after 2 = .ok (.putfield 74, 3) := by decide +kernel
theorem dX11_after_5 : decode cX11_after 5 = .ok (.iload_n 1, 1) := by decide +kernel
theorem dX11_after_6 : decode cX11_after 6 = .ok (.i2l, 1) := by decide +kernel
theorem dX11_after_7 : decode cX11_after 7 = .ok (.lconst 0, 1) := by decide +kernel
theorem dX11_after_8 : decode cX11_after 8 = .ok (.lconst 1, 1) := by decide +kernel
theorem dX11_after_9 : decode cX11_after 9 = .ok (.invokestatic 78, 3) := by decide +kernel
theorem dX11_after_12 : decode cX11_after 12 = .ok (.ifCond .ne 5, 3) := by decide +kernel
theorem dX11_after_15 : decode cX11_after 15 = .ok (.iconst (-1), 1) := by decide +kernel
theorem dX11_after_16 : decode cX11_after 16 = .ok (.ireturn, 1) := by decide +kernel
theorem dX11_after_17 : decode cX11_after 17 = .ok (.iload_n 2, 1) := by decide +kernel
theorem dX11_after_18 : decode cX11_after 18 = .ok (.invokestatic 176, 3) := by decide +kernel
theorem dX11_after_21 : decode cX11_after 21 = .ok (.ifCond .eq 16, 3) := by decide +kernel
theorem dX11_after_24 : decode cX11_after 24 = .ok (.aload_n 0, 1) := by decide +kernel
theorem dX11_after_25 : decode cX11_after 25 = .ok (.getfield 16, 3) := by decide +kernel
theorem dX11_after_28 : decode cX11_after 28 = .ok (.iload_n 1, 1) := by decide +kernel
theorem dX11_after_29 : decode cX11_after 29 = .ok (.iconst 1, 1) := by decide +kernel
theorem dX11_after_30 : decode cX11_after 30 = .ok (.iload_n 2, 1) := by decide +kernel
theorem dX11_after_31 : decode cX11_after 31 = .ok (.invokestatic 173, 3) := by decide +kernel
theorem dX11_after_34 : decode cX11_after 34 = .ok (.goto 5, 3) := by decide +kernel
theorem dX11_after_37 : decode cX11_after 37 = .ok (.bipush (-2), 2) := by decide +kernel
theorem dX11_after_39 : decode cX11_after 39 = .ok (.ireturn, 1) := by decide +kernel
theorem dX11_afterBits_0 : decode cX11_afterBits 0 = .ok (.iconst 1, 1) := by decide +kernel
theorem dX11_afterBits_1 : decode cX11_afterBits 1 = .ok (.istore 4, 2) := by decide +kernel
theorem dX11_afterBits_3 : decode cX11_afterBits 3 = .ok (.iconst 0, 1) := by decide +kernel
theorem dX11_afterBits_4 : decode cX11_afterBits 4 = .ok (.istore 5, 2) := by decide +kernel
theorem dX11_afterBits_6 : decode cX11_afterBits 6 = .ok (.iload 5, 2) := by decide +kernel
theorem dX11_afterBits_8 : decode cX11_afterBits 8 = .ok (.iload_n 3, 1) := by decide +kernel
theorem dX11_afterBits_9 : decode cX11_afterBits 9 = .ok (.if_icmp .ge 26, 3) := by decide +kernel
theorem dX11_afterBits_12 : decode cX11_afterBits 12 = .ok (.aload_n 0, 1) := by decide +kernel
theorem dX11_afterBits_13 : decode cX11_afterBits 13 = .ok (.iload_n 1, 1) := by decide +kernel
theorem dX11_afterBits_14 : decode cX11_afterBits 14 = .ok (.iload 4, 2) := by decide +kernel
theorem dX11_afterBits_16 : decode cX11_afterBits 16 = .ok (.iconst 1, 1) := by decide +kernel
theorem dX11_afterBits_17 : decode cX11_afterBits 17 = .ok (.iload_n 2, 1) := by decide +kernel
theorem dX11_afterBits_18 : decode cX11_afterBits 18 = .ok (.iload 5, 2) := by decide +kernel
theorem dX11_afterBits_20 : decode cX11_afterBits 20 = .ok (.ishr, 1) := by decide +kernel
theorem dX11_afterBits_21 : decode cX11_afterBits 21 = .ok (.iconst 1, 1) := by decide +kernel
theorem dX11_afterBits_22 : decode cX11_afterBits 22 = .ok (.iand, 1) := by decide +kernel
theorem dX11_afterBits_23 : decode cX11_afterBits 23 = .ok (.iadd, 1) := by decide +kernel
theorem dX11_afterBits_24 : decode cX11_afterBits 24 = .ok (.invokestatic 169, 3) := by decide +kernel
theorem dX11_afterBits_27 : decode cX11_afterBits 27 = .ok (.istore 4, 2) := by decide +kernel
theorem dX11_afterBits_29 : decode cX11_afterBits 29 = .ok (.iinc 5 1, 3) := by decide +kernel
theorem dX11_afterBits_32 : decode cX11_afterBits 32 = .ok (.goto (-26), 3) := by decide +kernel
theorem dX11_afterBits_35 : decode cX11_afterBits 35 = .ok (.iload 4, 2) := by decide +kernel
theorem dX11_afterBits_37 : decode cX11_afterBits 37 = .ok (.ireturn, 1) := by decide +kernel
theorem dX11_many_0 : decode cX11_many 0 = .ok (.aload_n 0, 1) := by decide +kernel
theorem dX11_many_1 : decode cX11_many 1 = .ok (.iconst 0, 1) := by decide +kernel
theorem dX11_many_2 : decode cX11_many 2 = .ok (.putfield 74, 3) := by decide +kernel
theorem dX11_many_5 : decode cX11_many 5 = .ok (.iload_n 1, 1) := by decide +kernel
theorem dX11_many_6 : decode cX11_many 6 = .ok (.i2l, 1) := by decide +kernel
theorem dX11_many_7 : decode cX11_many 7 = .ok (.lconst 0, 1) := by decide +kernel
theorem dX11_many_8 : decode cX11_many 8 = .ok (.ldc2_w 183, 3) := by decide +kernel
theorem dX11_many_11 : decode cX11_many 11 = .ok (.invokestatic 78, 3) := by decide +kernel
theorem dX11_many_14 : decode cX11_many 14 = .ok (.ifCond .eq 15, 3) := by decide +kernel
theorem dX11_many_17 : decode cX11_many 17 = .ok (.iload_n 2, 1) := by decide +kernel
theorem dX11_many_18 : decode cX11_many 18 = .ok (.i2l, 1) := by decide +kernel
theorem dX11_many_19 : decode cX11_many 19 = .ok (.lconst 0, 1) := by decide +kernel
theorem dX11_many_20 : decode cX11_many 20 = .ok (.ldc2_w 185, 3) := by decide +kernel
theorem dX11_many_23 : decode cX11_many 23 = .ok (.invokestatic 78, 3) := by decide +kernel
theorem dX11_many_26 : decode cX11_many 26 = .ok (.ifCond .ne 6, 3) := by decide +kernel
theorem dX11_many_29 : decode cX11_many 29 = .ok (.bipush (-2), 2) := by decide +kernel
theorem dX11_many_31 : decode cX11_many 31 = .ok (.ireturn, 1) := by decide +kernel
theorem dX11_many_32 : decode cX11_many 32 = .ok (.iconst 0, 1) := by decide +kernel
theorem dX11_many_33 : decode cX11_many 33 = .ok (.istore_n 3, 1) := by decide +kernel
theorem dX11_many_34 : decode cX11_many 34 = .ok (.iconst 0, 1) := by decide +kernel
theorem dX11_many_35 : decode cX11_many 35 = .ok (.istore 4, 2) := by decide +kernel
theorem dX11_many_37 : decode cX11_many 37 = .ok (.iload 4, 2) := by decide +kernel
theorem dX11_many_39 : decode cX11_many 39 = .ok (.iconst 1, 1) := by decide +kernel
theorem dX11_many_40 : decode cX11_many 40 = .ok (.iload_n 1, 1) := by decide +kernel
theorem dX11_many_41 : decode cX11_many 41 = .ok (.ishl, 1) := by decide +kernel
theorem dX11_many_42 : decode cX11_many 42 = .ok (.if_icmp .ge 137, 3) := by decide +kernel
theorem dX11_many_45 : decode cX11_many 45 = .ok (.aload_n 0, 1) := by decide +kernel
theorem dX11_many_46 : decode cX11_many 46 = .ok (.getfield 16, 3) := by decide +kernel
theorem dX11_many_49 : decode cX11_many 49 = .ok (.iconst 0, 1) := by decide +kernel
theorem dX11_many_50 : decode cX11_many 50 = .ok (.iload 4, 2) := by decide +kernel
theorem dX11_many_52 : decode cX11_many 52 = .ok (.iload_n 1, 1) := by decide +kernel
theorem dX11_many_53 : decode cX11_many 53 = .ok (.invokestatic 187, 3) := by decide +kernel
theorem dX11_many_56 : decode cX11_many 56 = .ok (.aload_n 0, 1) := by decide +kernel
theorem dX11_many_57 : decode cX11_many 57 = .ok (.getfield 16, 3) := by decide +kernel
theorem dX11_many_60 : decode cX11_many 60 = .ok (.iconst 2, 1) := by decide +kernel
theorem dX11_many_61 : decode cX11_many 61 = .ok (.iaload, 1) := by decide +kernel
theorem dX11_many_62 : decode cX11_many 62 = .ok (.iand, 1) := by decide +kernel
theorem dX11_many_63 : decode cX11_many 63 = .ok (.ifCond .eq 7, 3) := by decide +kernel
theorem dX11_many_66 : decode cX11_many 66 = .ok (.iconst 1, 1) := by decide +kernel
theorem dX11_many_67 : decode cX11_many 67 = .ok (.goto 4, 3) := by decide +kernel
theorem dX11_many_70 : decode cX11_many 70 = .ok (.iconst 0, 1) := by decide +kernel
theorem dX11_many_71 : decode cX11_many 71 = .ok (.istore 5, 2) := by decide +kernel
theorem dX11_many_73 : decode cX11_many 73 = .ok (.aload_n 0, 1) := by decide +kernel
theorem dX11_many_74 : decode cX11_many 74 = .ok (.getfield 16, 3) := by decide +kernel
theorem dX11_many_77 : decode cX11_many 77 = .ok (.iconst 1, 1) := by decide +kernel
theorem dX11_many_78 : decode cX11_many 78 = .ok (.iload 4, 2) := by decide +kernel
theorem dX11_many_80 : decode cX11_many 80 = .ok (.iload_n 1, 1) := by decide +kernel
theorem dX11_many_81 : decode cX11_many 81 = .ok (.invokestatic 187, 3) := by decide +kernel
theorem dX11_many_84 : decode cX11_many 84 = .ok (.aload_n 0, 1) := by decide +kernel
theorem dX11_many_85 : decode cX11_many 85 = .ok (.getfield 16, 3) := by decide +kernel
theorem dX11_many_88 : decode cX11_many 88 = .ok (.iconst 3, 1) := by decide +kernel
theorem dX11_many_89 : decode cX11_many 89 = .ok (.iaload, 1) := by decide +kernel
theorem dX11_many_90 : decode cX11_many 90 = .ok (.iand, 1) := by decide +kernel
theorem dX11_many_91 : decode cX11_many 91 = .ok (.ifCond .eq 7, 3) := by decide +kernel
theorem dX11_many_94 : decode cX11_many 94 = .ok (.iconst 1, 1) := by decide +kernel
theorem dX11_many_95 : decode cX11_many 95 = .ok (.goto 4, 3) := by decide +kernel
theorem dX11_many_98 : decode cX11_many 98 = .ok (.iconst 0, 1) := by decide +kernel
theorem dX11_many_99 : decode cX11_many 99 = .ok (.istore 6, 2) := by decide +kernel
theorem dX11_many_101 : decode cX11_many 101 = .ok (.iload_n 2, 1) := by decide +kernel
theorem dX11_many_102 : decode cX11_many 102 = .ok (.ifCond .ne 8, 3) := by decide +kernel
theorem dX11_many_105 : decode cX11_many 105 = .ok (.iload 5, 2) := by decide +kernel
theorem dX11_many_107 : decode cX11_many 107 = .ok (.goto 51, 3) := by decide +kernel
theorem dX11_many_110 : decode cX11_many 110 = .ok (.iload_n 2, 1) := by decide +kernel
theorem dX11_many_111 : decode cX11_many 111 = .ok (.iconst 1, 1) := by decide +kernel
theorem dX11_many_112 : decode cX11_many 112 = .ok (.if_icmp .ne 8, 3) := by decide +kernel
theorem dX11_many_115 : decode cX11_many 115 = .ok (.iload 6, 2) := by decide +kernel
theorem dX11_many_117 : decode cX11_many 117 = .ok (.goto 41, 3) := by decide +kernel
theorem dX11_many_120 : decode cX11_many 120 = .ok (.iload_n 2, 1) := by decide +kernel
theorem dX11_many_121 : decode cX11_many 121 = .ok (.iconst 2, 1) := by decide +kernel
theorem dX11_many_122 : decode cX11_many 122 = .ok (.if_icmp .ne 21, 3) := by decide +kernel
theorem dX11_many_125 : decode cX11_many 125 = .ok (.iload 5, 2) := by decide +kernel
theorem dX11_many_127 : decode cX11_many 127 = .ok (.ifCond .eq 12, 3) := by decide +kernel
theorem dX11_many_130 : decode cX11_many 130 = .ok (.iload 6, 2) := by decide +kernel
theorem dX11_many_132 : decode cX11_many 132 = .ok (.ifCond .eq 7, 3) := by decide +kernel
theorem dX11_many_135 : decode cX11_many 135 = .ok (.iconst 1, 1) := by decide +kernel
theorem dX11_many_136 : decode cX11_many 136 = .ok (.goto 22, 3) := by decide +kernel
theorem dX11_many_139 : decode cX11_many 139 = .ok (.iconst 0, 1) := by decide +kernel
theorem dX11_many_140 : decode cX11_many 140 = .ok (.goto 18, 3) := by decide +kernel
theorem dX11_many_143 : decode cX11_many 143 = .ok (.iload 5, 2) := by decide +kernel
theorem dX11_many_145 : decode cX11_many 145 = .ok (.ifCond .eq 12, 3) := by decide +kernel
theorem dX11_many_148 : decode cX11_many 148 = .ok (.iload 6, 2) := by decide +kernel
theorem dX11_many_150 : decode cX11_many 150 = .ok (.ifCond .ne 7, 3) := by decide +kernel
theorem dX11_many_153 : decode cX11_many 153 = .ok (.iconst 1, 1) := by decide +kernel
theorem dX11_many_154 : decode cX11_many 154 = .ok (.goto 4, 3) := by decide +kernel
theorem dX11_many_157 : decode cX11_many 157 = .ok (.iconst 0, 1) := by decide +kernel
theorem dX11_many_158 : decode cX11_many 158 = .ok (.istore 7, 2) := by decide +kernel
theorem dX11_many_160 : decode cX11_many 160 = .ok (.iload_n 3, 1) := by decide +kernel
theorem dX11_many_161 : decode cX11_many 161 = .ok (.iload 7, 2) := by decide +kernel
theorem dX11_many_163 : decode cX11_many 163 = .ok (.ifCond .eq 7, 3) := by decide +kernel
theorem dX11_many_166 : decode cX11_many 166 = .ok (.iconst 1, 1) := by decide +kernel
theorem dX11_many_167 : decode cX11_many 167 = .ok (.goto 4, 3) := by decide +kernel
theorem dX11_many_170 : decode cX11_many 170 = .ok (.iconst 0, 1) := by decide +kernel
theorem dX11_many_171 : decode cX11_many 171 = .ok (.iadd, 1) := by decide +kernel
theorem dX11_many_172 : decode cX11_many 172 = .ok (.istore_n 3, 1) := by decide +kernel
theorem dX11_many_173 : decode cX11_many 173 = .ok (.iinc 4 1, 3) := by decide +kernel
theorem dX11_many_176 : decode cX11_many 176 = .ok (.goto (-139), 3) := by decide +kernel
theorem dX11_many_179 : decode cX11_many 179 = .ok (.iload_n 3, 1) := by decide +kernel
theorem dX11_many_180 : decode cX11_many 180 = .ok (.ireturn, 1) := by decide +kernel
theorem dX11_isWanted_0 : decode cX11_isWanted 0 = .ok (.iload_n 2, 1) := by decide +kernel
theorem dX11_isWanted_1 : decode cX11_isWanted 1 = .ok (.bipush 15, 2) := by decide +kernel
theorem dX11_isWanted_3 : decode cX11_isWanted 3 = .ok (.iand, 1) := by decide +kernel
theorem dX11_isWanted_4 : decode cX11_isWanted 4 = .ok (.aload_n 0, 1) := by decide +kernel
theorem dX11_isWanted_5 : decode cX11_isWanted 5 = .ok (.iconst 2, 1) := by decide +kernel
theorem dX11_isWanted_6 : decode cX11_isWanted 6 = .ok (.iaload, 1) := by decide +kernel
theorem dX11_isWanted_7 : decode cX11_isWanted 7 = .ok (.iand, 1) := by decide +kernel
theorem dX11_isWanted_8 : decode cX11_isWanted 8 = .ok (.ifCond .eq 7, 3) := by decide +kernel
theorem dX11_isWanted_11 : decode cX11_isWanted 11 = .ok (.iconst 1, 1) := by decide +kernel
theorem dX11_isWanted_12 : decode cX11_isWanted 12 = .ok (.goto 4, 3) := by decide +kernel
theorem dX11_isWanted_15 : decode cX11_isWanted 15 = .ok (.iconst 0, 1) := by decide +kernel
theorem dX11_isWanted_16 : decode cX11_isWanted 16 = .ok (.istore_n 3, 1) := by decide +kernel
theorem dX11_isWanted_17 : decode cX11_isWanted 17 = .ok (.iload_n 2, 1) := by decide +kernel
theorem dX11_isWanted_18 : decode cX11_isWanted 18 = .ok (.iconst 4, 1) := by decide +kernel
theorem dX11_isWanted_19 : decode cX11_isWanted 19 = .ok (.ishr, 1) := by decide +kernel
theorem dX11_isWanted_20 : decode cX11_isWanted 20 = .ok (.aload_n 0, 1) := by decide +kernel
theorem dX11_isWanted_21 : decode cX11_isWanted 21 = .ok (.iconst 3, 1) := by decide +kernel
theorem dX11_isWanted_22 : decode cX11_isWanted 22 = .ok (.iaload, 1) := by decide +kernel
theorem dX11_isWanted_23 : decode cX11_isWanted 23 = .ok (.iand, 1) := by decide +kernel
theorem dX11_isWanted_24 : decode cX11_isWanted 24 = .ok (.ifCond .eq 7, 3) := by decide +kernel
theorem dX11_isWanted_27 : decode cX11_isWanted 27 = .ok (.iconst 1, 1) := by decide +kernel
theorem dX11_isWanted_28 : decode cX11_isWanted 28 = .ok (.goto 4, 3) := by decide +kernel
theorem dX11_isWanted_31 : decode cX11_isWanted 31 = .ok (.iconst 0, 1) := by decide +kernel
theorem dX11_isWanted_32 : decode cX11_isWanted 32 = .ok (.istore 4, 2) := by decide +kernel
theorem dX11_isWanted_34 : decode cX11_isWanted 34 = .ok (.iload_n 1, 1) := by decide +kernel
theorem dX11_isWanted_35 : decode cX11_isWanted 35 = .ok (.ifCond .ne 20, 3) := by decide +kernel
theorem dX11_isWanted_38 : decode cX11_isWanted 38 = .ok (.iload_n 3, 1) := by decide +kernel
theorem dX11_isWanted_39 : decode cX11_isWanted 39 = .ok (.ifCond .eq 12, 3) := by decide +kernel
theorem dX11_isWanted_42 : decode cX11_isWanted 42 = .ok (.iload 4, 2) := by decide +kernel
theorem dX11_isWanted_44 : decode cX11_isWanted 44 = .ok (.ifCond .ne 7, 3) := by decide +kernel
theorem dX11_isWanted_47 : decode cX11_isWanted 47 = .ok (.iconst 1, 1) := by decide +kernel
theorem dX11_isWanted_48 : decode cX11_isWanted 48 = .ok (.goto 34, 3) := by decide +kernel
theorem dX11_isWanted_51 : decode cX11_isWanted 51 = .ok (.iconst 0, 1) := by decide +kernel
theorem dX11_isWanted_52 : decode cX11_isWanted 52 = .ok (.goto 30, 3) := by decide +kernel
theorem dX11_isWanted_55 : decode cX11_isWanted 55 = .ok (.iload_n 1, 1) := by decide +kernel
theorem dX11_isWanted_56 : decode cX11_isWanted 56 = .ok (.iconst 1, 1) := by decide +kernel
theorem dX11_isWanted_57 : decode cX11_isWanted 57 = .ok (.if_icmp .ne 15, 3) := by decide +kernel
theorem dX11_isWanted_60 : decode cX11_isWanted 60 = .ok (.iload_n 3, 1) := by decide +kernel
theorem dX11_isWanted_61 : decode cX11_isWanted 61 = .ok (.ifCond .ne 7, 3) := by decide +kernel
theorem dX11_isWanted_64 : decode cX11_isWanted 64 = .ok (.iconst 1, 1) := by decide +kernel
theorem dX11_isWanted_65 : decode cX11_isWanted 65 = .ok (.goto 17, 3) := by decide +kernel
theorem dX11_isWanted_68 : decode cX11_isWanted 68 = .ok (.iconst 0, 1) := by decide +kernel
theorem dX11_isWanted_69 : decode cX11_isWanted 69 = .ok (.goto 13, 3) := by decide +kernel
theorem dX11_isWanted_72 : decode cX11_isWanted 72 = .ok (.iload 4, 2) := by decide +kernel
theorem dX11_isWanted_74 : decode cX11_isWanted 74 = .ok (.ifCond .ne 7, 3) := by decide +kernel
theorem dX11_isWanted_77 : decode cX11_isWanted 77 = .ok (.iconst 1, 1) := by decide +kernel
theorem dX11_isWanted_78 : decode cX11_isWanted 78 = .ok (.goto 4, 3) := by decide +kernel
theorem dX11_isWanted_81 : decode cX11_isWanted 81 = .ok (.iconst 0, 1) := by decide +kernel
theorem dX11_isWanted_82 : decode cX11_isWanted 82 = .ok (.ireturn, 1) := by decide +kernel
theorem dX11_next_0 : decode cX11_next 0 = .ok (.aload_n 0, 1) := by decide +kernel
theorem dX11_next_1 : decode cX11_next 1 = .ok (.iconst 0, 1) := by decide +kernel
theorem dX11_next_2 : decode cX11_next 2 = .ok (.iload_n 1, 1) := by decide +kernel
theorem dX11_next_3 : decode cX11_next 3 = .ok (.bipush 15, 2) := by decide +kernel
theorem dX11_next_5 : decode cX11_next 5 = .ok (.iand, 1) := by decide +kernel
theorem dX11_next_6 : decode cX11_next 6 = .ok (.iload_n 2, 1) := by decide +kernel
theorem dX11_next_7 : decode cX11_next 7 = .ok (.invokestatic 169, 3) := by decide +kernel
theorem dX11_next_10 : decode cX11_next 10 = .ok (.aload_n 0, 1) := by decide +kernel
theorem dX11_next_11 : decode cX11_next 11 = .ok (.iconst 1, 1) := by decide +kernel
theorem dX11_next_12 : decode cX11_next 12 = .ok (.iload_n 1, 1) := by decide +kernel
theorem dX11_next_13 : decode cX11_next 13 = .ok (.iconst 4, 1) := by decide +kernel
theorem dX11_next_14 : decode cX11_next 14 = .ok (.ishr, 1) := by decide +kernel
theorem dX11_next_15 : decode cX11_next 15 = .ok (.iload_n 2, 1) := by decide +kernel
theorem dX11_next_16 : decode cX11_next 16 = .ok (.invokestatic 169, 3) := by decide +kernel
theorem dX11_next_19 : decode cX11_next 19 = .ok (.iconst 4, 1) := by decide +kernel
theorem dX11_next_20 : decode cX11_next 20 = .ok (.ishl, 1) := by decide +kernel
theorem dX11_next_21 : decode cX11_next 21 = .ok (.ior, 1) := by decide +kernel
theorem dX11_next_22 : decode cX11_next 22 = .ok (.ireturn, 1) := by decide +kernel
theorem dX11_layWay_0 : decode cX11_layWay 0 = .ok (.aload_n 0, 1) := by decide +kernel
theorem dX11_layWay_1 : decode cX11_layWay 1 = .ok (.iconst 0, 1) := by decide +kernel
theorem dX11_layWay_2 : decode cX11_layWay 2 = .ok (.putfield 190, 3) := by decide +kernel
theorem dX11_layWay_5 : decode cX11_layWay 5 = .ok (.iload_n 1, 1) := by decide +kernel
theorem dX11_layWay_6 : decode cX11_layWay 6 = .ok (.istore_n 2, 1) := by decide +kernel
theorem dX11_layWay_7 : decode cX11_layWay 7 = .ok (.aload_n 0, 1) := by decide +kernel
theorem dX11_layWay_8 : decode cX11_layWay 8 = .ok (.getfield 41, 3) := by decide +kernel
theorem dX11_layWay_11 : decode cX11_layWay 11 = .ok (.iload_n 2, 1) := by decide +kernel
theorem dX11_layWay_12 : decode cX11_layWay 12 = .ok (.iaload, 1) := by decide +kernel
theorem dX11_layWay_13 : decode cX11_layWay 13 = .ok (.sipush 512, 3) := by decide +kernel
theorem dX11_layWay_16 : decode cX11_layWay 16 = .ok (.if_icmp .eq 38, 3) := by decide +kernel
theorem dX11_layWay_19 : decode cX11_layWay 19 = .ok (.aload_n 0, 1) := by decide +kernel
theorem dX11_layWay_20 : decode cX11_layWay 20 = .ok (.getfield 47, 3) := by decide +kernel
theorem dX11_layWay_23 : decode cX11_layWay 23 = .ok (.aload_n 0, 1) := by decide +kernel
theorem dX11_layWay_24 : decode cX11_layWay 24 = .ok (.getfield 190, 3) := by decide +kernel
theorem dX11_layWay_27 : decode cX11_layWay 27 = .ok (.aload_n 0, 1) := by decide +kernel
theorem dX11_layWay_28 : decode cX11_layWay 28 = .ok (.getfield 44, 3) := by decide +kernel
theorem dX11_layWay_31 : decode cX11_layWay 31 = .ok (.iload_n 2, 1) := by decide +kernel
theorem dX11_layWay_32 : decode cX11_layWay 32 = .ok (.iaload, 1) := by decide +kernel
theorem dX11_layWay_33 : decode cX11_layWay 33 = .ok (.iastore, 1) := by decide +kernel
theorem dX11_layWay_34 : decode cX11_layWay 34 = .ok (.aload_n 0, 1) := by decide +kernel
theorem dX11_layWay_35 : decode cX11_layWay 35 = .ok (.dup, 1) := by decide +kernel
theorem dX11_layWay_36 : decode cX11_layWay 36 = .ok (.getfield 190, 3) := by decide +kernel
theorem dX11_layWay_39 : decode cX11_layWay 39 = .ok (.iconst 1, 1) := by decide +kernel
theorem dX11_layWay_40 : decode cX11_layWay 40 = .ok (.iadd, 1) := by decide +kernel
theorem dX11_layWay_41 : decode cX11_layWay 41 = .ok (.putfield 190, 3) := by decide +kernel
theorem dX11_layWay_44 : decode cX11_layWay 44 = .ok (.aload_n 0, 1) := by decide +kernel
theorem dX11_layWay_45 : decode cX11_layWay 45 = .ok (.getfield 41, 3) := by decide +kernel
theorem dX11_layWay_48 : decode cX11_layWay 48 = .ok (.iload_n 2, 1) := by decide +kernel
theorem dX11_layWay_49 : decode cX11_layWay 49 = .ok (.iaload, 1) := by decide +kernel
theorem dX11_layWay_50 : decode cX11_layWay 50 = .ok (.istore_n 2, 1) := by decide +kernel
theorem dX11_layWay_51 : decode cX11_layWay 51 = .ok (.goto (-44), 3) := by decide +kernel
theorem dX11_layWay_54 : decode cX11_layWay 54 = .ok (.iconst 0, 1) := by decide +kernel
theorem dX11_layWay_55 : decode cX11_layWay 55 = .ok (.istore_n 2, 1) := by decide +kernel
theorem dX11_layWay_56 : decode cX11_layWay 56 = .ok (.iload_n 2, 1) := by decide +kernel
theorem dX11_layWay_57 : decode cX11_layWay 57 = .ok (.aload_n 0, 1) := by decide +kernel
theorem dX11_layWay_58 : decode cX11_layWay 58 = .ok (.getfield 190, 3) := by decide +kernel
theorem dX11_layWay_61 : decode cX11_layWay 61 = .ok (.iconst 2, 1) := by decide +kernel
theorem dX11_layWay_62 : decode cX11_layWay 62 = .ok (.idiv, 1) := by decide +kernel
theorem dX11_layWay_63 : decode cX11_layWay 63 = .ok (.if_icmp .ge 49, 3) := by decide +kernel
theorem dX11_layWay_66 : decode cX11_layWay 66 = .ok (.aload_n 0, 1) := by decide +kernel
theorem dX11_layWay_67 : decode cX11_layWay 67 = .ok (.getfield 47, 3) := by decide +kernel
theorem dX11_layWay_70 : decode cX11_layWay 70 = .ok (.iload_n 2, 1) := by decide +kernel
theorem dX11_layWay_71 : decode cX11_layWay 71 = .ok (.iaload, 1) := by decide +kernel
theorem dX11_layWay_72 : decode cX11_layWay 72 = .ok (.istore_n 3, 1) := by decide +kernel
theorem dX11_layWay_73 : decode cX11_layWay 73 = .ok (.aload_n 0, 1) := by decide +kernel
theorem dX11_layWay_74 : decode cX11_layWay 74 = .ok (.getfield 47, 3) := by decide +kernel
theorem dX11_layWay_77 : decode cX11_layWay 77 = .ok (.iload_n 2, 1) := by decide +kernel
theorem dX11_layWay_78 : decode cX11_layWay 78 = .ok (.aload_n 0, 1) := by decide +kernel
theorem dX11_layWay_79 : decode cX11_layWay 79 = .ok (.getfield 47, 3) := by decide +kernel
theorem dX11_layWay_82 : decode cX11_layWay 82 = .ok (.aload_n 0, 1) := by decide +kernel
theorem dX11_layWay_83 : decode cX11_layWay 83 = .ok (.getfield 190, 3) := by decide +kernel
theorem dX11_layWay_86 : decode cX11_layWay 86 = .ok (.iconst 1, 1) := by decide +kernel
theorem dX11_layWay_87 : decode cX11_layWay 87 = .ok (.isub, 1) := by decide +kernel
theorem dX11_layWay_88 : decode cX11_layWay 88 = .ok (.iload_n 2, 1) := by decide +kernel
theorem dX11_layWay_89 : decode cX11_layWay 89 = .ok (.isub, 1) := by decide +kernel
theorem dX11_layWay_90 : decode cX11_layWay 90 = .ok (.iaload, 1) := by decide +kernel
theorem dX11_layWay_91 : decode cX11_layWay 91 = .ok (.iastore, 1) := by decide +kernel
theorem dX11_layWay_92 : decode cX11_layWay 92 = .ok (.aload_n 0, 1) := by decide +kernel
theorem dX11_layWay_93 : decode cX11_layWay 93 = .ok (.getfield 47, 3) := by decide +kernel
theorem dX11_layWay_96 : decode cX11_layWay 96 = .ok (.aload_n 0, 1) := by decide +kernel
theorem dX11_layWay_97 : decode cX11_layWay 97 = .ok (.getfield 190, 3) := by decide +kernel
theorem dX11_layWay_100 : decode cX11_layWay 100 = .ok (.iconst 1, 1) := by decide +kernel
theorem dX11_layWay_101 : decode cX11_layWay 101 = .ok (.isub, 1) := by decide +kernel
theorem dX11_layWay_102 : decode cX11_layWay 102 = .ok (.iload_n 2, 1) := by decide +kernel
theorem dX11_layWay_103 : decode cX11_layWay 103 = .ok (.isub, 1) := by decide +kernel
theorem dX11_layWay_104 : decode cX11_layWay 104 = .ok (.iload_n 3, 1) := by decide +kernel
theorem dX11_layWay_105 : decode cX11_layWay 105 = .ok (.iastore, 1) := by decide +kernel
theorem dX11_layWay_106 : decode cX11_layWay 106 = .ok (.iinc 2 1, 3) := by decide +kernel
theorem dX11_layWay_109 : decode cX11_layWay 109 = .ok (.goto (-53), 3) := by decide +kernel
theorem dX11_layWay_112 : decode cX11_layWay 112 = .ok (.return_, 1) := by decide +kernel
theorem dX11_find_0 : decode cX11_find 0 = .ok (.iconst 0, 1) := by decide +kernel
theorem dX11_find_1 : decode cX11_find 1 = .ok (.istore_n 3, 1) := by decide +kernel
theorem dX11_find_2 : decode cX11_find 2 = .ok (.iload_n 3, 1) := by decide +kernel
theorem dX11_find_3 : decode cX11_find 3 = .ok (.sipush 512, 3) := by decide +kernel
theorem dX11_find_6 : decode cX11_find 6 = .ok (.if_icmp .ge 17, 3) := by decide +kernel
theorem dX11_find_9 : decode cX11_find 9 = .ok (.aload_n 0, 1) := by decide +kernel
theorem dX11_find_10 : decode cX11_find 10 = .ok (.getfield 41, 3) := by decide +kernel
theorem dX11_find_13 : decode cX11_find 13 = .ok (.iload_n 3, 1) := by decide +kernel
theorem dX11_find_14 : decode cX11_find 14 = .ok (.bipush (-9), 2) := by decide +kernel
theorem dX11_find_16 : decode cX11_find 16 = .ok (.iastore, 1) := by decide +kernel
theorem dX11_find_17 : decode cX11_find 17 = .ok (.iinc 3 1, 3) := by decide +kernel
theorem dX11_find_20 : decode cX11_find 20 = .ok (.goto (-18), 3) := by decide +kernel
theorem dX11_find_23 : decode cX11_find 23 = .ok (.aload_n 0, 1) := by decide +kernel
theorem dX11_find_24 : decode cX11_find 24 = .ok (.getfield 38, 3) := by decide +kernel
theorem dX11_find_27 : decode cX11_find 27 = .ok (.iconst 0, 1) := by decide +kernel
theorem dX11_find_28 : decode cX11_find 28 = .ok (.bipush 17, 2) := by decide +kernel
theorem dX11_find_30 : decode cX11_find 30 = .ok (.iastore, 1) := by decide +kernel
theorem dX11_find_31 : decode cX11_find 31 = .ok (.aload_n 0, 1) := by decide +kernel
theorem dX11_find_32 : decode cX11_find 32 = .ok (.getfield 41, 3) := by decide +kernel
theorem dX11_find_35 : decode cX11_find 35 = .ok (.bipush 17, 2) := by decide +kernel
theorem dX11_find_37 : decode cX11_find 37 = .ok (.sipush 512, 3) := by decide +kernel
theorem dX11_find_40 : decode cX11_find 40 = .ok (.iastore, 1) := by decide +kernel
theorem dX11_find_41 : decode cX11_find 41 = .ok (.iconst 1, 1) := by decide +kernel
theorem dX11_find_42 : decode cX11_find 42 = .ok (.istore_n 3, 1) := by decide +kernel
theorem dX11_find_43 : decode cX11_find 43 = .ok (.iconst 0, 1) := by decide +kernel
theorem dX11_find_44 : decode cX11_find 44 = .ok (.istore 4, 2) := by decide +kernel
theorem dX11_find_46 : decode cX11_find 46 = .ok (.iload 4, 2) := by decide +kernel
theorem dX11_find_48 : decode cX11_find 48 = .ok (.iload_n 3, 1) := by decide +kernel
theorem dX11_find_49 : decode cX11_find 49 = .ok (.if_icmp .ge 102, 3) := by decide +kernel
theorem dX11_find_52 : decode cX11_find 52 = .ok (.aload_n 0, 1) := by decide +kernel
theorem dX11_find_53 : decode cX11_find 53 = .ok (.getfield 38, 3) := by decide +kernel
theorem dX11_find_56 : decode cX11_find 56 = .ok (.iload 4, 2) := by decide +kernel
theorem dX11_find_58 : decode cX11_find 58 = .ok (.iaload, 1) := by decide +kernel
theorem dX11_find_59 : decode cX11_find 59 = .ok (.istore 5, 2) := by decide +kernel
theorem dX11_find_61 : decode cX11_find 61 = .ok (.aload_n 1, 1) := by decide +kernel
theorem dX11_find_62 : decode cX11_find 62 = .ok (.iload_n 2, 1) := by decide +kernel
theorem dX11_find_63 : decode cX11_find 63 = .ok (.iload 5, 2) := by decide +kernel
theorem dX11_find_65 : decode cX11_find 65 = .ok (.invokestatic 193, 3) := by decide +kernel
theorem dX11_find_68 : decode cX11_find 68 = .ok (.ifCond .eq 11, 3) := by decide +kernel
theorem dX11_find_71 : decode cX11_find 71 = .ok (.aload_n 0, 1) := by decide +kernel
theorem dX11_find_72 : decode cX11_find 72 = .ok (.iload 5, 2) := by decide +kernel
theorem dX11_find_74 : decode cX11_find 74 = .ok (.invokevirtual 197, 3) := by decide +kernel
theorem dX11_find_77 : decode cX11_find 77 = .ok (.iconst 1, 1) := by decide +kernel
theorem dX11_find_78 : decode cX11_find 78 = .ok (.ireturn, 1) := by decide +kernel
theorem dX11_find_79 : decode cX11_find 79 = .ok (.iconst 1, 1) := by decide +kernel
theorem dX11_find_80 : decode cX11_find 80 = .ok (.istore 6, 2) := by decide +kernel
theorem dX11_find_82 : decode cX11_find 82 = .ok (.iload 6, 2) := by decide +kernel
theorem dX11_find_84 : decode cX11_find 84 = .ok (.iconst 3, 1) := by decide +kernel
theorem dX11_find_85 : decode cX11_find 85 = .ok (.if_icmp .ge 60, 3) := by decide +kernel
theorem dX11_find_88 : decode cX11_find 88 = .ok (.aload_n 1, 1) := by decide +kernel
theorem dX11_find_89 : decode cX11_find 89 = .ok (.iload 5, 2) := by decide +kernel
theorem dX11_find_91 : decode cX11_find 91 = .ok (.iload 6, 2) := by decide +kernel
theorem dX11_find_93 : decode cX11_find 93 = .ok (.invokestatic 201, 3) := by decide +kernel
theorem dX11_find_96 : decode cX11_find 96 = .ok (.istore 7, 2) := by decide +kernel
theorem dX11_find_98 : decode cX11_find 98 = .ok (.aload_n 0, 1) := by decide +kernel
theorem dX11_find_99 : decode cX11_find 99 = .ok (.getfield 41, 3) := by decide +kernel
theorem dX11_find_102 : decode cX11_find 102 = .ok (.iload 7, 2) := by decide +kernel
theorem dX11_find_104 : decode cX11_find 104 = .ok (.iaload, 1) := by decide +kernel
theorem dX11_find_105 : decode cX11_find 105 = .ok (.bipush (-9), 2) := by decide +kernel
theorem dX11_find_107 : decode cX11_find 107 = .ok (.if_icmp .ne 32, 3) := by decide +kernel
theorem dX11_find_110 : decode cX11_find 110 = .ok (.aload_n 0, 1) := by decide +kernel
theorem dX11_find_111 : decode cX11_find 111 = .ok (.getfield 41, 3) := by decide +kernel
theorem dX11_find_114 : decode cX11_find 114 = .ok (.iload 7, 2) := by decide +kernel
theorem dX11_find_116 : decode cX11_find 116 = .ok (.iload 5, 2) := by decide +kernel
theorem dX11_find_118 : decode cX11_find 118 = .ok (.iastore, 1) := by decide +kernel
theorem dX11_find_119 : decode cX11_find 119 = .ok (.aload_n 0, 1) := by decide +kernel
theorem dX11_find_120 : decode cX11_find 120 = .ok (.getfield 44, 3) := by decide +kernel
theorem dX11_find_123 : decode cX11_find 123 = .ok (.iload 7, 2) := by decide +kernel
theorem dX11_find_125 : decode cX11_find 125 = .ok (.iload 6, 2) := by decide +kernel
theorem dX11_find_127 : decode cX11_find 127 = .ok (.iastore, 1) := by decide +kernel
theorem dX11_find_128 : decode cX11_find 128 = .ok (.aload_n 0, 1) := by decide +kernel
theorem dX11_find_129 : decode cX11_find 129 = .ok (.getfield 38, 3) := by decide +kernel
theorem dX11_find_132 : decode cX11_find 132 = .ok (.iload_n 3, 1) := by decide +kernel
theorem dX11_find_133 : decode cX11_find 133 = .ok (.iload 7, 2) := by decide +kernel
theorem dX11_find_135 : decode cX11_find 135 = .ok (.iastore, 1) := by decide +kernel
theorem dX11_find_136 : decode cX11_find 136 = .ok (.iinc 3 1, 3) := by decide +kernel
theorem dX11_find_139 : decode cX11_find 139 = .ok (.iinc 6 1, 3) := by decide +kernel
theorem dX11_find_142 : decode cX11_find 142 = .ok (.goto (-60), 3) := by decide +kernel
theorem dX11_find_145 : decode cX11_find 145 = .ok (.iinc 4 1, 3) := by decide +kernel
theorem dX11_find_148 : decode cX11_find 148 = .ok (.goto (-102), 3) := by decide +kernel
theorem dX11_find_151 : decode cX11_find 151 = .ok (.iconst 0, 1) := by decide +kernel
theorem dX11_find_152 : decode cX11_find 152 = .ok (.ireturn, 1) := by decide +kernel
theorem dX11_isWithin_0 : decode cX11_isWithin 0 = .ok (.aload_n 0, 1) := by decide +kernel
theorem dX11_isWithin_1 : decode cX11_isWithin 1 = .ok (.aload_n 1, 1) := by decide +kernel
theorem dX11_isWithin_2 : decode cX11_isWithin 2 = .ok (.iconst 0, 1) := by decide +kernel
theorem dX11_isWithin_3 : decode cX11_isWithin 3 = .ok (.invokevirtual 205, 3) := by decide +kernel
theorem dX11_isWithin_6 : decode cX11_isWithin 6 = .ok (.ifCond .ne 7, 3) := by decide +kernel
theorem dX11_isWithin_9 : decode cX11_isWithin 9 = .ok (.iconst 1, 1) := by decide +kernel
theorem dX11_isWithin_10 : decode cX11_isWithin 10 = .ok (.goto 4, 3) := by decide +kernel
theorem dX11_isWithin_13 : decode cX11_isWithin 13 = .ok (.iconst 0, 1) := by decide +kernel
theorem dX11_isWithin_14 : decode cX11_isWithin 14 = .ok (.ireturn, 1) := by decide +kernel
theorem dX11_within_0 : decode cX11_within 0 = .ok (.aload_n 0, 1) := by decide +kernel
theorem dX11_within_1 : decode cX11_within 1 = .ok (.iconst 0, 1) := by decide +kernel
theorem dX11_within_2 : decode cX11_within 2 = .ok (.putfield 74, 3) := by decide +kernel
theorem dX11_within_5 : decode cX11_within 5 = .ok (.aload_n 0, 1) := by decide +kernel
theorem dX11_within_6 : decode cX11_within 6 = .ok (.aload_n 0, 1) := by decide +kernel
theorem dX11_within_7 : decode cX11_within 7 = .ok (.getfield 16, 3) := by decide +kernel
theorem dX11_within_10 : decode cX11_within 10 = .ok (.invokevirtual 209, 3) := by decide +kernel
theorem dX11_within_13 : decode cX11_within 13 = .ok (.ifCond .eq 7, 3) := by decide +kernel
theorem dX11_within_16 : decode cX11_within 16 = .ok (.iconst 1, 1) := by decide +kernel
theorem dX11_within_17 : decode cX11_within 17 = .ok (.goto 4, 3) := by decide +kernel
theorem dX11_within_20 : decode cX11_within 20 = .ok (.iconst 0, 1) := by decide +kernel
theorem dX11_within_21 : decode cX11_within 21 = .ok (.ireturn, 1) := by decide +kernel
theorem dX11_tellWay_0 : decode cX11_tellWay 0 = .ok (.iload_n 1, 1) := by decide +kernel
theorem dX11_tellWay_1 : decode cX11_tellWay 1 = .ok (.ifCond .eq 11, 3) := by decide +kernel
theorem dX11_tellWay_4 : decode cX11_tellWay 4 = .ok (.iload_n 2, 1) := by decide +kernel
theorem dX11_tellWay_5 : decode cX11_tellWay 5 = .ok (.aload_n 0, 1) := by decide +kernel
theorem dX11_tellWay_6 : decode cX11_tellWay 6 = .ok (.getfield 190, 3) := by decide +kernel
theorem dX11_tellWay_9 : decode cX11_tellWay 9 = .ok (.if_icmp .le 6, 3) := by decide +kernel
theorem dX11_tellWay_12 : decode cX11_tellWay 12 = .ok (.bipush (-9), 2) := by decide +kernel
theorem dX11_tellWay_14 : decode cX11_tellWay 14 = .ok (.ireturn, 1) := by decide +kernel
theorem dX11_tellWay_15 : decode cX11_tellWay 15 = .ok (.iload_n 2, 1) := by decide +kernel
theorem dX11_tellWay_16 : decode cX11_tellWay 16 = .ok (.ifCond .ne 10, 3) := by decide +kernel
theorem dX11_tellWay_19 : decode cX11_tellWay 19 = .ok (.aload_n 0, 1) := by decide +kernel
theorem dX11_tellWay_20 : decode cX11_tellWay 20 = .ok (.getfield 190, 3) := by decide +kernel
theorem dX11_tellWay_23 : decode cX11_tellWay 23 = .ok (.goto 11, 3) := by decide +kernel
theorem dX11_tellWay_26 : decode cX11_tellWay 26 = .ok (.aload_n 0, 1) := by decide +kernel
theorem dX11_tellWay_27 : decode cX11_tellWay 27 = .ok (.getfield 47, 3) := by decide +kernel
theorem dX11_tellWay_30 : decode cX11_tellWay 30 = .ok (.iload_n 2, 1) := by decide +kernel
theorem dX11_tellWay_31 : decode cX11_tellWay 31 = .ok (.iconst 1, 1) := by decide +kernel
theorem dX11_tellWay_32 : decode cX11_tellWay 32 = .ok (.isub, 1) := by decide +kernel
theorem dX11_tellWay_33 : decode cX11_tellWay 33 = .ok (.iaload, 1) := by decide +kernel
theorem dX11_tellWay_34 : decode cX11_tellWay 34 = .ok (.ireturn, 1) := by decide +kernel
theorem dX11_missing_0 : decode cX11_missing 0 = .ok (.aload_n 0, 1) := by decide +kernel
theorem dX11_missing_1 : decode cX11_missing 1 = .ok (.iconst 0, 1) := by decide +kernel
theorem dX11_missing_2 : decode cX11_missing 2 = .ok (.putfield 74, 3) := by decide +kernel
theorem dX11_missing_5 : decode cX11_missing 5 = .ok (.iload_n 1, 1) := by decide +kernel
theorem dX11_missing_6 : decode cX11_missing 6 = .ok (.i2l, 1) := by decide +kernel
theorem dX11_missing_7 : decode cX11_missing 7 = .ok (.lconst 0, 1) := by decide +kernel
theorem dX11_missing_8 : decode cX11_missing 8 = .ok (.ldc2_w 213, 3) := by decide +kernel
theorem dX11_missing_11 : decode cX11_missing 11 = .ok (.invokestatic 78, 3) := by decide +kernel
theorem dX11_missing_14 : decode cX11_missing 14 = .ok (.ifCond .eq 20, 3) := by decide +kernel
theorem dX11_missing_17 : decode cX11_missing 17 = .ok (.aload_n 0, 1) := by decide +kernel
theorem dX11_missing_18 : decode cX11_missing 18 = .ok (.aload_n 0, 1) := by decide +kernel
theorem dX11_missing_19 : decode cX11_missing 19 = .ok (.aload_n 0, 1) := by decide +kernel
theorem dX11_missing_20 : decode cX11_missing 20 = .ok (.getfield 16, 3) := by decide +kernel
theorem dX11_missing_23 : decode cX11_missing 23 = .ok (.iconst 0, 1) := by decide +kernel
theorem dX11_missing_24 : decode cX11_missing 24 = .ok (.invokevirtual 205, 3) := by decide +kernel
theorem dX11_missing_27 : decode cX11_missing 27 = .ok (.iload_n 1, 1) := by decide +kernel
theorem dX11_missing_28 : decode cX11_missing 28 = .ok (.invokevirtual 215, 3) := by decide +kernel
theorem dX11_missing_31 : decode cX11_missing 31 = .ok (.goto 5, 3) := by decide +kernel
theorem dX11_missing_34 : decode cX11_missing 34 = .ok (.bipush (-2), 2) := by decide +kernel
theorem dX11_missing_36 : decode cX11_missing 36 = .ok (.ireturn, 1) := by decide +kernel
theorem dX11_leftOut_0 : decode cX11_leftOut 0 = .ok (.aload_n 0, 1) := by decide +kernel
theorem dX11_leftOut_1 : decode cX11_leftOut 1 = .ok (.iconst 0, 1) := by decide +kernel
theorem dX11_leftOut_2 : decode cX11_leftOut 2 = .ok (.putfield 74, 3) := by decide +kernel
theorem dX11_leftOut_5 : decode cX11_leftOut 5 = .ok (.iload_n 1, 1) := by decide +kernel
theorem dX11_leftOut_6 : decode cX11_leftOut 6 = .ok (.i2l, 1) := by decide +kernel
theorem dX11_leftOut_7 : decode cX11_leftOut 7 = .ok (.lconst 0, 1) := by decide +kernel
theorem dX11_leftOut_8 : decode cX11_leftOut 8 = .ok (.lconst 1, 1) := by decide +kernel
theorem dX11_leftOut_9 : decode cX11_leftOut 9 = .ok (.invokestatic 78, 3) := by decide +kernel
theorem dX11_leftOut_12 : decode cX11_leftOut 12 = .ok (.ifCond .ne 5, 3) := by decide +kernel
theorem dX11_leftOut_15 : decode cX11_leftOut 15 = .ok (.iconst (-1), 1) := by decide +kernel
theorem dX11_leftOut_16 : decode cX11_leftOut 16 = .ok (.ireturn, 1) := by decide +kernel
theorem dX11_leftOut_17 : decode cX11_leftOut 17 = .ok (.iload_n 2, 1) := by decide +kernel
theorem dX11_leftOut_18 : decode cX11_leftOut 18 = .ok (.i2l, 1) := by decide +kernel
theorem dX11_leftOut_19 : decode cX11_leftOut 19 = .ok (.lconst 0, 1) := by decide +kernel
theorem dX11_leftOut_20 : decode cX11_leftOut 20 = .ok (.ldc2_w 213, 3) := by decide +kernel
theorem dX11_leftOut_23 : decode cX11_leftOut 23 = .ok (.invokestatic 78, 3) := by decide +kernel
theorem dX11_leftOut_26 : decode cX11_leftOut 26 = .ok (.ifCond .eq 22, 3) := by decide +kernel
theorem dX11_leftOut_29 : decode cX11_leftOut 29 = .ok (.aload_n 0, 1) := by decide +kernel
theorem dX11_leftOut_30 : decode cX11_leftOut 30 = .ok (.aload_n 0, 1) := by decide +kernel
theorem dX11_leftOut_31 : decode cX11_leftOut 31 = .ok (.aload_n 0, 1) := by decide +kernel
theorem dX11_leftOut_32 : decode cX11_leftOut 32 = .ok (.getfield 16, 3) := by decide +kernel
theorem dX11_leftOut_35 : decode cX11_leftOut 35 = .ok (.iconst 1, 1) := by decide +kernel
theorem dX11_leftOut_36 : decode cX11_leftOut 36 = .ok (.iload_n 1, 1) := by decide +kernel
theorem dX11_leftOut_37 : decode cX11_leftOut 37 = .ok (.iadd, 1) := by decide +kernel
theorem dX11_leftOut_38 : decode cX11_leftOut 38 = .ok (.invokevirtual 205, 3) := by decide +kernel
theorem dX11_leftOut_41 : decode cX11_leftOut 41 = .ok (.iload_n 2, 1) := by decide +kernel
theorem dX11_leftOut_42 : decode cX11_leftOut 42 = .ok (.invokevirtual 215, 3) := by decide +kernel
theorem dX11_leftOut_45 : decode cX11_leftOut 45 = .ok (.goto 5, 3) := by decide +kernel
theorem dX11_leftOut_48 : decode cX11_leftOut 48 = .ok (.bipush (-2), 2) := by decide +kernel
theorem dX11_leftOut_50 : decode cX11_leftOut 50 = .ok (.ireturn, 1) := by decide +kernel
theorem dX11_isThere_0 : decode cX11_isThere 0 = .ok (.iload_n 1, 1) := by decide +kernel
theorem dX11_isThere_1 : decode cX11_isThere 1 = .ok (.iconst 4, 1) := by decide +kernel
theorem dX11_isThere_2 : decode cX11_isThere 2 = .ok (.if_icmp .ge 18, 3) := by decide +kernel
theorem dX11_isThere_5 : decode cX11_isThere 5 = .ok (.iload_n 1, 1) := by decide +kernel
theorem dX11_isThere_6 : decode cX11_isThere 6 = .ok (.aload_n 0, 1) := by decide +kernel
theorem dX11_isThere_7 : decode cX11_isThere 7 = .ok (.iconst 0, 1) := by decide +kernel
theorem dX11_isThere_8 : decode cX11_isThere 8 = .ok (.iaload, 1) := by decide +kernel
theorem dX11_isThere_9 : decode cX11_isThere 9 = .ok (.if_icmp .ge 7, 3) := by decide +kernel
theorem dX11_isThere_12 : decode cX11_isThere 12 = .ok (.iconst 1, 1) := by decide +kernel
theorem dX11_isThere_13 : decode cX11_isThere 13 = .ok (.goto 21, 3) := by decide +kernel
theorem dX11_isThere_16 : decode cX11_isThere 16 = .ok (.iconst 0, 1) := by decide +kernel
theorem dX11_isThere_17 : decode cX11_isThere 17 = .ok (.goto 17, 3) := by decide +kernel
theorem dX11_isThere_20 : decode cX11_isThere 20 = .ok (.iload_n 1, 1) := by decide +kernel
theorem dX11_isThere_21 : decode cX11_isThere 21 = .ok (.iconst 4, 1) := by decide +kernel
theorem dX11_isThere_22 : decode cX11_isThere 22 = .ok (.isub, 1) := by decide +kernel
theorem dX11_isThere_23 : decode cX11_isThere 23 = .ok (.aload_n 0, 1) := by decide +kernel
theorem dX11_isThere_24 : decode cX11_isThere 24 = .ok (.iconst 1, 1) := by decide +kernel
theorem dX11_isThere_25 : decode cX11_isThere 25 = .ok (.iaload, 1) := by decide +kernel
theorem dX11_isThere_26 : decode cX11_isThere 26 = .ok (.if_icmp .ge 7, 3) := by decide +kernel
theorem dX11_isThere_29 : decode cX11_isThere 29 = .ok (.iconst 1, 1) := by decide +kernel
theorem dX11_isThere_30 : decode cX11_isThere 30 = .ok (.goto 4, 3) := by decide +kernel
theorem dX11_isThere_33 : decode cX11_isThere 33 = .ok (.iconst 0, 1) := by decide +kernel
theorem dX11_isThere_34 : decode cX11_isThere 34 = .ok (.ireturn, 1) := by decide +kernel
theorem dX11_isEnd_0 : decode cX11_isEnd 0 = .ok (.iload_n 1, 1) := by decide +kernel
theorem dX11_isEnd_1 : decode cX11_isEnd 1 = .ok (.iconst 4, 1) := by decide +kernel
theorem dX11_isEnd_2 : decode cX11_isEnd 2 = .ok (.if_icmp .ge 13, 3) := by decide +kernel
theorem dX11_isEnd_5 : decode cX11_isEnd 5 = .ok (.aload_n 0, 1) := by decide +kernel
theorem dX11_isEnd_6 : decode cX11_isEnd 6 = .ok (.iconst 2, 1) := by decide +kernel
theorem dX11_isEnd_7 : decode cX11_isEnd 7 = .ok (.iaload, 1) := by decide +kernel
theorem dX11_isEnd_8 : decode cX11_isEnd 8 = .ok (.iload_n 1, 1) := by decide +kernel
theorem dX11_isEnd_9 : decode cX11_isEnd 9 = .ok (.invokestatic 82, 3) := by decide +kernel
theorem dX11_isEnd_12 : decode cX11_isEnd 12 = .ok (.goto 12, 3) := by decide +kernel
theorem dX11_isEnd_15 : decode cX11_isEnd 15 = .ok (.aload_n 0, 1) := by decide +kernel
theorem dX11_isEnd_16 : decode cX11_isEnd 16 = .ok (.iconst 3, 1) := by decide +kernel
theorem dX11_isEnd_17 : decode cX11_isEnd 17 = .ok (.iaload, 1) := by decide +kernel
theorem dX11_isEnd_18 : decode cX11_isEnd 18 = .ok (.iload_n 1, 1) := by decide +kernel
theorem dX11_isEnd_19 : decode cX11_isEnd 19 = .ok (.iconst 4, 1) := by decide +kernel
theorem dX11_isEnd_20 : decode cX11_isEnd 20 = .ok (.isub, 1) := by decide +kernel
theorem dX11_isEnd_21 : decode cX11_isEnd 21 = .ok (.invokestatic 82, 3) := by decide +kernel
theorem dX11_isEnd_24 : decode cX11_isEnd 24 = .ok (.ireturn, 1) := by decide +kernel
theorem dX11_leadsTo_0 : decode cX11_leadsTo 0 = .ok (.iload_n 1, 1) := by decide +kernel
theorem dX11_leadsTo_1 : decode cX11_leadsTo 1 = .ok (.iconst 4, 1) := by decide +kernel
theorem dX11_leadsTo_2 : decode cX11_leadsTo 2 = .ok (.if_icmp .ge 14, 3) := by decide +kernel
theorem dX11_leadsTo_5 : decode cX11_leadsTo 5 = .ok (.aload_n 0, 1) := by decide +kernel
theorem dX11_leadsTo_6 : decode cX11_leadsTo 6 = .ok (.iconst 0, 1) := by decide +kernel
theorem dX11_leadsTo_7 : decode cX11_leadsTo 7 = .ok (.iload_n 1, 1) := by decide +kernel
theorem dX11_leadsTo_8 : decode cX11_leadsTo 8 = .ok (.iload_n 2, 1) := by decide +kernel
theorem dX11_leadsTo_9 : decode cX11_leadsTo 9 = .ok (.invokestatic 86, 3) := by decide +kernel
theorem dX11_leadsTo_12 : decode cX11_leadsTo 12 = .ok (.iaload, 1) := by decide +kernel
theorem dX11_leadsTo_13 : decode cX11_leadsTo 13 = .ok (.goto 15, 3) := by decide +kernel
theorem dX11_leadsTo_16 : decode cX11_leadsTo 16 = .ok (.aload_n 0, 1) := by decide +kernel
theorem dX11_leadsTo_17 : decode cX11_leadsTo 17 = .ok (.iconst 1, 1) := by decide +kernel
theorem dX11_leadsTo_18 : decode cX11_leadsTo 18 = .ok (.iload_n 1, 1) := by decide +kernel
theorem dX11_leadsTo_19 : decode cX11_leadsTo 19 = .ok (.iconst 4, 1) := by decide +kernel
theorem dX11_leadsTo_20 : decode cX11_leadsTo 20 = .ok (.isub, 1) := by decide +kernel
theorem dX11_leadsTo_21 : decode cX11_leadsTo 21 = .ok (.iload_n 2, 1) := by decide +kernel
theorem dX11_leadsTo_22 : decode cX11_leadsTo 22 = .ok (.invokestatic 86, 3) := by decide +kernel
theorem dX11_leadsTo_25 : decode cX11_leadsTo 25 = .ok (.iaload, 1) := by decide +kernel
theorem dX11_leadsTo_26 : decode cX11_leadsTo 26 = .ok (.iconst 4, 1) := by decide +kernel
theorem dX11_leadsTo_27 : decode cX11_leadsTo 27 = .ok (.ishl, 1) := by decide +kernel
theorem dX11_leadsTo_28 : decode cX11_leadsTo 28 = .ok (.ireturn, 1) := by decide +kernel
theorem dX11_holds_0 : decode cX11_holds 0 = .ok (.iconst 1, 1) := by decide +kernel
theorem dX11_holds_1 : decode cX11_holds 1 = .ok (.istore 4, 2) := by decide +kernel
theorem dX11_holds_3 : decode cX11_holds 3 = .ok (.iconst 1, 1) := by decide +kernel
theorem dX11_holds_4 : decode cX11_holds 4 = .ok (.istore 5, 2) := by decide +kernel
theorem dX11_holds_6 : decode cX11_holds 6 = .ok (.iload 5, 2) := by decide +kernel
theorem dX11_holds_8 : decode cX11_holds 8 = .ok (.iconst 3, 1) := by decide +kernel
theorem dX11_holds_9 : decode cX11_holds 9 = .ok (.if_icmp .ge 123, 3) := by decide +kernel
theorem dX11_holds_12 : decode cX11_holds 12 = .ok (.iconst 0, 1) := by decide +kernel
theorem dX11_holds_13 : decode cX11_holds 13 = .ok (.istore 6, 2) := by decide +kernel
theorem dX11_holds_15 : decode cX11_holds 15 = .ok (.iload 6, 2) := by decide +kernel
theorem dX11_holds_17 : decode cX11_holds 17 = .ok (.bipush 9, 2) := by decide +kernel
theorem dX11_holds_19 : decode cX11_holds 19 = .ok (.if_icmp .ge 107, 3) := by decide +kernel
theorem dX11_holds_22 : decode cX11_holds 22 = .ok (.aload_n 1, 1) := by decide +kernel
theorem dX11_holds_23 : decode cX11_holds 23 = .ok (.iload_n 2, 1) := by decide +kernel
theorem dX11_holds_24 : decode cX11_holds 24 = .ok (.iload 5, 2) := by decide +kernel
theorem dX11_holds_26 : decode cX11_holds 26 = .ok (.invokestatic 219, 3) := by decide +kernel
theorem dX11_holds_29 : decode cX11_holds 29 = .ok (.iload 6, 2) := by decide +kernel
theorem dX11_holds_31 : decode cX11_holds 31 = .ok (.invokestatic 82, 3) := by decide +kernel
theorem dX11_holds_34 : decode cX11_holds 34 = .ok (.ifCond .ne 7, 3) := by decide +kernel
theorem dX11_holds_37 : decode cX11_holds 37 = .ok (.iconst 1, 1) := by decide +kernel
theorem dX11_holds_38 : decode cX11_holds 38 = .ok (.goto 4, 3) := by decide +kernel
theorem dX11_holds_41 : decode cX11_holds 41 = .ok (.iconst 0, 1) := by decide +kernel
theorem dX11_holds_42 : decode cX11_holds 42 = .ok (.istore 7, 2) := by decide +kernel
theorem dX11_holds_44 : decode cX11_holds 44 = .ok (.iconst 0, 1) := by decide +kernel
theorem dX11_holds_45 : decode cX11_holds 45 = .ok (.istore 8, 2) := by decide +kernel
theorem dX11_holds_47 : decode cX11_holds 47 = .ok (.iload 8, 2) := by decide +kernel
theorem dX11_holds_49 : decode cX11_holds 49 = .ok (.bipush 9, 2) := by decide +kernel
theorem dX11_holds_51 : decode cX11_holds 51 = .ok (.if_icmp .ge 52, 3) := by decide +kernel
theorem dX11_holds_54 : decode cX11_holds 54 = .ok (.iload 7, 2) := by decide +kernel
theorem dX11_holds_56 : decode cX11_holds 56 = .ok (.ifCond .ne 34, 3) := by decide +kernel
theorem dX11_holds_59 : decode cX11_holds 59 = .ok (.aload_n 1, 1) := by decide +kernel
theorem dX11_holds_60 : decode cX11_holds 60 = .ok (.iload_n 3, 1) := by decide +kernel
theorem dX11_holds_61 : decode cX11_holds 61 = .ok (.iload 5, 2) := by decide +kernel
theorem dX11_holds_63 : decode cX11_holds 63 = .ok (.invokestatic 219, 3) := by decide +kernel
theorem dX11_holds_66 : decode cX11_holds 66 = .ok (.iload 8, 2) := by decide +kernel
theorem dX11_holds_68 : decode cX11_holds 68 = .ok (.invokestatic 82, 3) := by decide +kernel
theorem dX11_holds_71 : decode cX11_holds 71 = .ok (.ifCond .eq 23, 3) := by decide +kernel
theorem dX11_holds_74 : decode cX11_holds 74 = .ok (.aload_n 0, 1) := by decide +kernel
theorem dX11_holds_75 : decode cX11_holds 75 = .ok (.getfield 50, 3) := by decide +kernel
theorem dX11_holds_78 : decode cX11_holds 78 = .ok (.bipush 9, 2) := by decide +kernel
theorem dX11_holds_80 : decode cX11_holds 80 = .ok (.iload 6, 2) := by decide +kernel
theorem dX11_holds_82 : decode cX11_holds 82 = .ok (.imul, 1) := by decide +kernel
theorem dX11_holds_83 : decode cX11_holds 83 = .ok (.iload 8, 2) := by decide +kernel
theorem dX11_holds_85 : decode cX11_holds 85 = .ok (.iadd, 1) := by decide +kernel
theorem dX11_holds_86 : decode cX11_holds 86 = .ok (.baload, 1) := by decide +kernel
theorem dX11_holds_87 : decode cX11_holds 87 = .ok (.ifCond .eq 7, 3) := by decide +kernel
theorem dX11_holds_90 : decode cX11_holds 90 = .ok (.iconst 1, 1) := by decide +kernel
theorem dX11_holds_91 : decode cX11_holds 91 = .ok (.goto 4, 3) := by decide +kernel
theorem dX11_holds_94 : decode cX11_holds 94 = .ok (.iconst 0, 1) := by decide +kernel
theorem dX11_holds_95 : decode cX11_holds 95 = .ok (.istore 7, 2) := by decide +kernel
theorem dX11_holds_97 : decode cX11_holds 97 = .ok (.iinc 8 1, 3) := by decide +kernel
theorem dX11_holds_100 : decode cX11_holds 100 = .ok (.goto (-53), 3) := by decide +kernel
theorem dX11_holds_103 : decode cX11_holds 103 = .ok (.iload 4, 2) := by decide +kernel
theorem dX11_holds_105 : decode cX11_holds 105 = .ok (.ifCond .eq 12, 3) := by decide +kernel
theorem dX11_holds_108 : decode cX11_holds 108 = .ok (.iload 7, 2) := by decide +kernel
theorem dX11_holds_110 : decode cX11_holds 110 = .ok (.ifCond .eq 7, 3) := by decide +kernel
theorem dX11_holds_113 : decode cX11_holds 113 = .ok (.iconst 1, 1) := by decide +kernel
theorem dX11_holds_114 : decode cX11_holds 114 = .ok (.goto 4, 3) := by decide +kernel
theorem dX11_holds_117 : decode cX11_holds 117 = .ok (.iconst 0, 1) := by decide +kernel
theorem dX11_holds_118 : decode cX11_holds 118 = .ok (.istore 4, 2) := by decide +kernel
theorem dX11_holds_120 : decode cX11_holds 120 = .ok (.iinc 6 1, 3) := by decide +kernel
theorem dX11_holds_123 : decode cX11_holds 123 = .ok (.goto (-108), 3) := by decide +kernel
theorem dX11_holds_126 : decode cX11_holds 126 = .ok (.iinc 5 1, 3) := by decide +kernel
theorem dX11_holds_129 : decode cX11_holds 129 = .ok (.goto (-123), 3) := by decide +kernel
theorem dX11_holds_132 : decode cX11_holds 132 = .ok (.iload 4, 2) := by decide +kernel
theorem dX11_holds_134 : decode cX11_holds 134 = .ok (.ireturn, 1) := by decide +kernel
theorem dX11_findFollows_0 : decode cX11_findFollows 0 = .ok (.iconst 0, 1) := by decide +kernel
theorem dX11_findFollows_1 : decode cX11_findFollows 1 = .ok (.istore_n 2, 1) := by decide +kernel
theorem dX11_findFollows_2 : decode cX11_findFollows 2 = .ok (.iload_n 2, 1) := by decide +kernel
theorem dX11_findFollows_3 : decode cX11_findFollows 3 = .ok (.bipush 81, 2) := by decide +kernel
theorem dX11_findFollows_5 : decode cX11_findFollows 5 = .ok (.if_icmp .ge 65, 3) := by decide +kernel
theorem dX11_findFollows_8 : decode cX11_findFollows 8 = .ok (.iload_n 2, 1) := by decide +kernel
theorem dX11_findFollows_9 : decode cX11_findFollows 9 = .ok (.bipush 9, 2) := by decide +kernel
theorem dX11_findFollows_11 : decode cX11_findFollows 11 = .ok (.idiv, 1) := by decide +kernel
theorem dX11_findFollows_12 : decode cX11_findFollows 12 = .ok (.istore_n 3, 1) := by decide +kernel
theorem dX11_findFollows_13 : decode cX11_findFollows 13 = .ok (.iload_n 2, 1) := by decide +kernel
theorem dX11_findFollows_14 : decode cX11_findFollows 14 = .ok (.bipush 9, 2) := by decide +kernel
theorem dX11_findFollows_16 : decode cX11_findFollows 16 = .ok (.irem, 1) := by decide +kernel
theorem dX11_findFollows_17 : decode cX11_findFollows 17 = .ok (.istore 4, 2) := by decide +kernel
theorem dX11_findFollows_19 : decode cX11_findFollows 19 = .ok (.aload_n 0, 1) := by decide +kernel
theorem dX11_findFollows_20 : decode cX11_findFollows 20 = .ok (.getfield 50, 3) := by decide +kernel
theorem dX11_findFollows_23 : decode cX11_findFollows 23 = .ok (.iload_n 2, 1) := by decide +kernel
theorem dX11_findFollows_24 : decode cX11_findFollows 24 = .ok (.aload_n 1, 1) := by decide +kernel
theorem dX11_findFollows_25 : decode cX11_findFollows 25 = .ok (.iload_n 3, 1) := by decide +kernel
theorem dX11_findFollows_26 : decode cX11_findFollows 26 = .ok (.invokestatic 222, 3) := by decide +kernel
theorem dX11_findFollows_29 : decode cX11_findFollows 29 = .ok (.ifCond .eq 33, 3) := by decide +kernel
theorem dX11_findFollows_32 : decode cX11_findFollows 32 = .ok (.aload_n 1, 1) := by decide +kernel
theorem dX11_findFollows_33 : decode cX11_findFollows 33 = .ok (.iload 4, 2) := by decide +kernel
theorem dX11_findFollows_35 : decode cX11_findFollows 35 = .ok (.invokestatic 222, 3) := by decide +kernel
theorem dX11_findFollows_38 : decode cX11_findFollows 38 = .ok (.ifCond .eq 24, 3) := by decide +kernel
theorem dX11_findFollows_41 : decode cX11_findFollows 41 = .ok (.aload_n 1, 1) := by decide +kernel
theorem dX11_findFollows_42 : decode cX11_findFollows 42 = .ok (.iload_n 3, 1) := by decide +kernel
theorem dX11_findFollows_43 : decode cX11_findFollows 43 = .ok (.invokestatic 225, 3) := by decide +kernel
theorem dX11_findFollows_46 : decode cX11_findFollows 46 = .ok (.ifCond .eq 12, 3) := by decide +kernel
theorem dX11_findFollows_49 : decode cX11_findFollows 49 = .ok (.aload_n 1, 1) := by decide +kernel
theorem dX11_findFollows_50 : decode cX11_findFollows 50 = .ok (.iload 4, 2) := by decide +kernel
theorem dX11_findFollows_52 : decode cX11_findFollows 52 = .ok (.invokestatic 225, 3) := by decide +kernel
theorem dX11_findFollows_55 : decode cX11_findFollows 55 = .ok (.ifCond .eq 7, 3) := by decide +kernel
theorem dX11_findFollows_58 : decode cX11_findFollows 58 = .ok (.iconst 1, 1) := by decide +kernel
theorem dX11_findFollows_59 : decode cX11_findFollows 59 = .ok (.goto 4, 3) := by decide +kernel
theorem dX11_findFollows_62 : decode cX11_findFollows 62 = .ok (.iconst 0, 1) := by decide +kernel
theorem dX11_findFollows_63 : decode cX11_findFollows 63 = .ok (.bastore, 1) := by decide +kernel
theorem dX11_findFollows_64 : decode cX11_findFollows 64 = .ok (.iinc 2 1, 3) := by decide +kernel
theorem dX11_findFollows_67 : decode cX11_findFollows 67 = .ok (.goto (-65), 3) := by decide +kernel
theorem dX11_findFollows_70 : decode cX11_findFollows 70 = .ok (.iconst 1, 1) := by decide +kernel
theorem dX11_findFollows_71 : decode cX11_findFollows 71 = .ok (.istore_n 2, 1) := by decide +kernel
theorem dX11_findFollows_72 : decode cX11_findFollows 72 = .ok (.iload_n 2, 1) := by decide +kernel
theorem dX11_findFollows_73 : decode cX11_findFollows 73 = .ok (.ifCond .eq 56, 3) := by decide +kernel
theorem dX11_findFollows_76 : decode cX11_findFollows 76 = .ok (.iconst 0, 1) := by decide +kernel
theorem dX11_findFollows_77 : decode cX11_findFollows 77 = .ok (.istore_n 2, 1) := by decide +kernel
theorem dX11_findFollows_78 : decode cX11_findFollows 78 = .ok (.iconst 0, 1) := by decide +kernel
theorem dX11_findFollows_79 : decode cX11_findFollows 79 = .ok (.istore_n 3, 1) := by decide +kernel
theorem dX11_findFollows_80 : decode cX11_findFollows 80 = .ok (.iload_n 3, 1) := by decide +kernel
theorem dX11_findFollows_81 : decode cX11_findFollows 81 = .ok (.bipush 81, 2) := by decide +kernel
theorem dX11_findFollows_83 : decode cX11_findFollows 83 = .ok (.if_icmp .ge 43, 3) := by decide +kernel
theorem dX11_findFollows_86 : decode cX11_findFollows 86 = .ok (.aload_n 0, 1) := by decide +kernel
theorem dX11_findFollows_87 : decode cX11_findFollows 87 = .ok (.getfield 50, 3) := by decide +kernel
theorem dX11_findFollows_90 : decode cX11_findFollows 90 = .ok (.iload_n 3, 1) := by decide +kernel
theorem dX11_findFollows_91 : decode cX11_findFollows 91 = .ok (.baload, 1) := by decide +kernel
theorem dX11_findFollows_92 : decode cX11_findFollows 92 = .ok (.ifCond .eq 28, 3) := by decide +kernel
theorem dX11_findFollows_95 : decode cX11_findFollows 95 = .ok (.aload_n 0, 1) := by decide +kernel
theorem dX11_findFollows_96 : decode cX11_findFollows 96 = .ok (.aload_n 1, 1) := by decide +kernel
theorem dX11_findFollows_97 : decode cX11_findFollows 97 = .ok (.iload_n 3, 1) := by decide +kernel
theorem dX11_findFollows_98 : decode cX11_findFollows 98 = .ok (.bipush 9, 2) := by decide +kernel
theorem dX11_findFollows_100 : decode cX11_findFollows 100 = .ok (.idiv, 1) := by decide +kernel
theorem dX11_findFollows_101 : decode cX11_findFollows 101 = .ok (.iload_n 3, 1) := by decide +kernel
theorem dX11_findFollows_102 : decode cX11_findFollows 102 = .ok (.bipush 9, 2) := by decide +kernel
theorem dX11_findFollows_104 : decode cX11_findFollows 104 = .ok (.irem, 1) := by decide +kernel
theorem dX11_findFollows_105 : decode cX11_findFollows 105 = .ok (.invokevirtual 228, 3) := by decide +kernel
theorem dX11_findFollows_108 : decode cX11_findFollows 108 = .ok (.ifCond .ne 12, 3) := by decide +kernel
theorem dX11_findFollows_111 : decode cX11_findFollows 111 = .ok (.aload_n 0, 1) := by decide +kernel
theorem dX11_findFollows_112 : decode cX11_findFollows 112 = .ok (.getfield 50, 3) := by decide +kernel
theorem dX11_findFollows_115 : decode cX11_findFollows 115 = .ok (.iload_n 3, 1) := by decide +kernel
theorem dX11_findFollows_116 : decode cX11_findFollows 116 = .ok (.iconst 0, 1) := by decide +kernel
theorem dX11_findFollows_117 : decode cX11_findFollows 117 = .ok (.bastore, 1) := by decide +kernel
theorem dX11_findFollows_118 : decode cX11_findFollows 118 = .ok (.iconst 1, 1) := by decide +kernel
theorem dX11_findFollows_119 : decode cX11_findFollows 119 = .ok (.istore_n 2, 1) := by decide +kernel
theorem dX11_findFollows_120 : decode cX11_findFollows 120 = .ok (.iinc 3 1, 3) := by decide +kernel
theorem dX11_findFollows_123 : decode cX11_findFollows 123 = .ok (.goto (-43), 3) := by decide +kernel
theorem dX11_findFollows_126 : decode cX11_findFollows 126 = .ok (.goto (-54), 3) := by decide +kernel
theorem dX11_findFollows_129 : decode cX11_findFollows 129 = .ok (.return_, 1) := by decide +kernel
theorem dX11_follows_0 : decode cX11_follows 0 = .ok (.aload_n 0, 1) := by decide +kernel
theorem dX11_follows_1 : decode cX11_follows 1 = .ok (.iconst 0, 1) := by decide +kernel
theorem dX11_follows_2 : decode cX11_follows 2 = .ok (.putfield 74, 3) := by decide +kernel
theorem dX11_follows_5 : decode cX11_follows 5 = .ok (.aload_n 0, 1) := by decide +kernel
theorem dX11_follows_6 : decode cX11_follows 6 = .ok (.iload_n 1, 1) := by decide +kernel
theorem dX11_follows_7 : decode cX11_follows 7 = .ok (.iload_n 2, 1) := by decide +kernel
theorem dX11_follows_8 : decode cX11_follows 8 = .ok (.invokevirtual 146, 3) := by decide +kernel
theorem dX11_follows_11 : decode cX11_follows 11 = .ok (.ifCond .ne 13, 3) := by decide +kernel
theorem dX11_follows_14 : decode cX11_follows 14 = .ok (.aload_n 0, 1) := by decide +kernel
theorem dX11_follows_15 : decode cX11_follows 15 = .ok (.iload_n 3, 1) := by decide +kernel
theorem dX11_follows_16 : decode cX11_follows 16 = .ok (.iload 4, 2) := by decide +kernel
theorem dX11_follows_18 : decode cX11_follows 18 = .ok (.invokevirtual 146, 3) := by decide +kernel
theorem dX11_follows_21 : decode cX11_follows 21 = .ok (.ifCond .eq 5, 3) := by decide +kernel
theorem dX11_follows_24 : decode cX11_follows 24 = .ok (.iconst (-1), 1) := by decide +kernel
theorem dX11_follows_25 : decode cX11_follows 25 = .ok (.ireturn, 1) := by decide +kernel
theorem dX11_follows_26 : decode cX11_follows 26 = .ok (.aload_n 0, 1) := by decide +kernel
theorem dX11_follows_27 : decode cX11_follows 27 = .ok (.aload_n 0, 1) := by decide +kernel
theorem dX11_follows_28 : decode cX11_follows 28 = .ok (.getfield 16, 3) := by decide +kernel
theorem dX11_follows_31 : decode cX11_follows 31 = .ok (.invokevirtual 231, 3) := by decide +kernel
theorem dX11_follows_34 : decode cX11_follows 34 = .ok (.aload_n 0, 1) := by decide +kernel
theorem dX11_follows_35 : decode cX11_follows 35 = .ok (.getfield 50, 3) := by decide +kernel
theorem dX11_follows_38 : decode cX11_follows 38 = .ok (.bipush 9, 2) := by decide +kernel
theorem dX11_follows_40 : decode cX11_follows 40 = .ok (.iconst 4, 1) := by decide +kernel
theorem dX11_follows_41 : decode cX11_follows 41 = .ok (.iload_n 1, 1) := by decide +kernel
theorem dX11_follows_42 : decode cX11_follows 42 = .ok (.imul, 1) := by decide +kernel
theorem dX11_follows_43 : decode cX11_follows 43 = .ok (.iload_n 2, 1) := by decide +kernel
theorem dX11_follows_44 : decode cX11_follows 44 = .ok (.iadd, 1) := by decide +kernel
theorem dX11_follows_45 : decode cX11_follows 45 = .ok (.imul, 1) := by decide +kernel
theorem dX11_follows_46 : decode cX11_follows 46 = .ok (.iconst 4, 1) := by decide +kernel
theorem dX11_follows_47 : decode cX11_follows 47 = .ok (.iload_n 3, 1) := by decide +kernel
theorem dX11_follows_48 : decode cX11_follows 48 = .ok (.imul, 1) := by decide +kernel
theorem dX11_follows_49 : decode cX11_follows 49 = .ok (.iadd, 1) := by decide +kernel
theorem dX11_follows_50 : decode cX11_follows 50 = .ok (.iload 4, 2) := by decide +kernel
theorem dX11_follows_52 : decode cX11_follows 52 = .ok (.iadd, 1) := by decide +kernel
theorem dX11_follows_53 : decode cX11_follows 53 = .ok (.baload, 1) := by decide +kernel
theorem dX11_follows_54 : decode cX11_follows 54 = .ok (.ifCond .eq 7, 3) := by decide +kernel
theorem dX11_follows_57 : decode cX11_follows 57 = .ok (.iconst 1, 1) := by decide +kernel
theorem dX11_follows_58 : decode cX11_follows 58 = .ok (.goto 4, 3) := by decide +kernel
theorem dX11_follows_61 : decode cX11_follows 61 = .ok (.iconst 0, 1) := by decide +kernel
theorem dX11_follows_62 : decode cX11_follows 62 = .ok (.ireturn, 1) := by decide +kernel
theorem dX11_followsSome_0 : decode cX11_followsSome 0 = .ok (.iconst 0, 1) := by decide +kernel
theorem dX11_followsSome_1 : decode cX11_followsSome 1 = .ok (.istore_n 3, 1) := by decide +kernel
theorem dX11_followsSome_2 : decode cX11_followsSome 2 = .ok (.iconst 0, 1) := by decide +kernel
theorem dX11_followsSome_3 : decode cX11_followsSome 3 = .ok (.istore 4, 2) := by decide +kernel
theorem dX11_followsSome_5 : decode cX11_followsSome 5 = .ok (.iload 4, 2) := by decide +kernel
theorem dX11_followsSome_7 : decode cX11_followsSome 7 = .ok (.iconst 5, 1) := by decide +kernel
theorem dX11_followsSome_8 : decode cX11_followsSome 8 = .ok (.if_icmp .ge 45, 3) := by decide +kernel
theorem dX11_followsSome_11 : decode cX11_followsSome 11 = .ok (.iload_n 3, 1) := by decide +kernel
theorem dX11_followsSome_12 : decode cX11_followsSome 12 = .ok (.ifCond .ne 29, 3) := by decide +kernel
theorem dX11_followsSome_15 : decode cX11_followsSome 15 = .ok (.iload_n 2, 1) := by decide +kernel
theorem dX11_followsSome_16 : decode cX11_followsSome 16 = .ok (.iload 4, 2) := by decide +kernel
theorem dX11_followsSome_18 : decode cX11_followsSome 18 = .ok (.invokestatic 82, 3) := by decide +kernel
theorem dX11_followsSome_21 : decode cX11_followsSome 21 = .ok (.ifCond .eq 24, 3) := by decide +kernel
theorem dX11_followsSome_24 : decode cX11_followsSome 24 = .ok (.aload_n 0, 1) := by decide +kernel
theorem dX11_followsSome_25 : decode cX11_followsSome 25 = .ok (.getfield 50, 3) := by decide +kernel
theorem dX11_followsSome_28 : decode cX11_followsSome 28 = .ok (.bipush 9, 2) := by decide +kernel
theorem dX11_followsSome_30 : decode cX11_followsSome 30 = .ok (.iload_n 1, 1) := by decide +kernel
theorem dX11_followsSome_31 : decode cX11_followsSome 31 = .ok (.imul, 1) := by decide +kernel
theorem dX11_followsSome_32 : decode cX11_followsSome 32 = .ok (.iconst 4, 1) := by decide +kernel
theorem dX11_followsSome_33 : decode cX11_followsSome 33 = .ok (.iadd, 1) := by decide +kernel
theorem dX11_followsSome_34 : decode cX11_followsSome 34 = .ok (.iload 4, 2) := by decide +kernel
theorem dX11_followsSome_36 : decode cX11_followsSome 36 = .ok (.iadd, 1) := by decide +kernel
theorem dX11_followsSome_37 : decode cX11_followsSome 37 = .ok (.baload, 1) := by decide +kernel
theorem dX11_followsSome_38 : decode cX11_followsSome 38 = .ok (.ifCond .eq 7, 3) := by decide +kernel
theorem dX11_followsSome_41 : decode cX11_followsSome 41 = .ok (.iconst 1, 1) := by decide +kernel
theorem dX11_followsSome_42 : decode cX11_followsSome 42 = .ok (.goto 4, 3) := by decide +kernel
theorem dX11_followsSome_45 : decode cX11_followsSome 45 = .ok (.iconst 0, 1) := by decide +kernel
theorem dX11_followsSome_46 : decode cX11_followsSome 46 = .ok (.istore_n 3, 1) := by decide +kernel
theorem dX11_followsSome_47 : decode cX11_followsSome 47 = .ok (.iinc 4 1, 3) := by decide +kernel
theorem dX11_followsSome_50 : decode cX11_followsSome 50 = .ok (.goto (-45), 3) := by decide +kernel
theorem dX11_followsSome_53 : decode cX11_followsSome 53 = .ok (.iload_n 3, 1) := by decide +kernel
theorem dX11_followsSome_54 : decode cX11_followsSome 54 = .ok (.ireturn, 1) := by decide +kernel
theorem dX11_allFollow_0 : decode cX11_allFollow 0 = .ok (.iconst 1, 1) := by decide +kernel
theorem dX11_allFollow_1 : decode cX11_allFollow 1 = .ok (.istore_n 3, 1) := by decide +kernel
theorem dX11_allFollow_2 : decode cX11_allFollow 2 = .ok (.iconst 0, 1) := by decide +kernel
theorem dX11_allFollow_3 : decode cX11_allFollow 3 = .ok (.istore 4, 2) := by decide +kernel
theorem dX11_allFollow_5 : decode cX11_allFollow 5 = .ok (.iload 4, 2) := by decide +kernel
theorem dX11_allFollow_7 : decode cX11_allFollow 7 = .ok (.iconst 5, 1) := by decide +kernel
theorem dX11_allFollow_8 : decode cX11_allFollow 8 = .ok (.if_icmp .ge 40, 3) := by decide +kernel
theorem dX11_allFollow_11 : decode cX11_allFollow 11 = .ok (.iload_n 3, 1) := by decide +kernel
theorem dX11_allFollow_12 : decode cX11_allFollow 12 = .ok (.ifCond .eq 28, 3) := by decide +kernel
theorem dX11_allFollow_15 : decode cX11_allFollow 15 = .ok (.iload_n 1, 1) := by decide +kernel
theorem dX11_allFollow_16 : decode cX11_allFollow 16 = .ok (.iload 4, 2) := by decide +kernel
theorem dX11_allFollow_18 : decode cX11_allFollow 18 = .ok (.invokestatic 82, 3) := by decide +kernel
theorem dX11_allFollow_21 : decode cX11_allFollow 21 = .ok (.ifCond .eq 15, 3) := by decide +kernel
theorem dX11_allFollow_24 : decode cX11_allFollow 24 = .ok (.aload_n 0, 1) := by decide +kernel
theorem dX11_allFollow_25 : decode cX11_allFollow 25 = .ok (.iconst 4, 1) := by decide +kernel
theorem dX11_allFollow_26 : decode cX11_allFollow 26 = .ok (.iload 4, 2) := by decide +kernel
theorem dX11_allFollow_28 : decode cX11_allFollow 28 = .ok (.iadd, 1) := by decide +kernel
theorem dX11_allFollow_29 : decode cX11_allFollow 29 = .ok (.iload_n 2, 1) := by decide +kernel
theorem dX11_allFollow_30 : decode cX11_allFollow 30 = .ok (.invokevirtual 235, 3) := by decide +kernel
theorem dX11_allFollow_33 : decode cX11_allFollow 33 = .ok (.ifCond .eq 7, 3) := by decide +kernel
theorem dX11_allFollow_36 : decode cX11_allFollow 36 = .ok (.iconst 1, 1) := by decide +kernel
theorem dX11_allFollow_37 : decode cX11_allFollow 37 = .ok (.goto 4, 3) := by decide +kernel
theorem dX11_allFollow_40 : decode cX11_allFollow 40 = .ok (.iconst 0, 1) := by decide +kernel
theorem dX11_allFollow_41 : decode cX11_allFollow 41 = .ok (.istore_n 3, 1) := by decide +kernel
theorem dX11_allFollow_42 : decode cX11_allFollow 42 = .ok (.iinc 4 1, 3) := by decide +kernel
theorem dX11_allFollow_45 : decode cX11_allFollow 45 = .ok (.goto (-40), 3) := by decide +kernel
theorem dX11_allFollow_48 : decode cX11_allFollow 48 = .ok (.iload_n 3, 1) := by decide +kernel
theorem dX11_allFollow_49 : decode cX11_allFollow 49 = .ok (.ireturn, 1) := by decide +kernel
theorem dX11_isCovered_0 : decode cX11_isCovered 0 = .ok (.iload_n 1, 1) := by decide +kernel
theorem dX11_isCovered_1 : decode cX11_isCovered 1 = .ok (.iconst 2, 1) := by decide +kernel
theorem dX11_isCovered_2 : decode cX11_isCovered 2 = .ok (.if_icmp .ne 34, 3) := by decide +kernel
theorem dX11_isCovered_5 : decode cX11_isCovered 5 = .ok (.aload_n 0, 1) := by decide +kernel
theorem dX11_isCovered_6 : decode cX11_isCovered 6 = .ok (.getfield 50, 3) := by decide +kernel
theorem dX11_isCovered_9 : decode cX11_isCovered 9 = .ok (.bipush 9, 2) := by decide +kernel
theorem dX11_isCovered_11 : decode cX11_isCovered 11 = .ok (.iload_n 2, 1) := by decide +kernel
theorem dX11_isCovered_12 : decode cX11_isCovered 12 = .ok (.imul, 1) := by decide +kernel
theorem dX11_isCovered_13 : decode cX11_isCovered 13 = .ok (.iload 4, 2) := by decide +kernel
theorem dX11_isCovered_15 : decode cX11_isCovered 15 = .ok (.iadd, 1) := by decide +kernel
theorem dX11_isCovered_16 : decode cX11_isCovered 16 = .ok (.baload, 1) := by decide +kernel
theorem dX11_isCovered_17 : decode cX11_isCovered 17 = .ok (.ifCond .eq 17, 3) := by decide +kernel
theorem dX11_isCovered_20 : decode cX11_isCovered 20 = .ok (.aload_n 0, 1) := by decide +kernel
theorem dX11_isCovered_21 : decode cX11_isCovered 21 = .ok (.iload 5, 2) := by decide +kernel
theorem dX11_isCovered_23 : decode cX11_isCovered 23 = .ok (.iload_n 3, 1) := by decide +kernel
theorem dX11_isCovered_24 : decode cX11_isCovered 24 = .ok (.invokevirtual 238, 3) := by decide +kernel
theorem dX11_isCovered_27 : decode cX11_isCovered 27 = .ok (.ifCond .eq 7, 3) := by decide +kernel
theorem dX11_isCovered_30 : decode cX11_isCovered 30 = .ok (.iconst 1, 1) := by decide +kernel
theorem dX11_isCovered_31 : decode cX11_isCovered 31 = .ok (.goto 4, 3) := by decide +kernel
theorem dX11_isCovered_34 : decode cX11_isCovered 34 = .ok (.iconst 0, 1) := by decide +kernel
theorem dX11_isCovered_35 : decode cX11_isCovered 35 = .ok (.ireturn, 1) := by decide +kernel
theorem dX11_isCovered_36 : decode cX11_isCovered 36 = .ok (.iload_n 2, 1) := by decide +kernel
theorem dX11_isCovered_37 : decode cX11_isCovered 37 = .ok (.iload 4, 2) := by decide +kernel
theorem dX11_isCovered_39 : decode cX11_isCovered 39 = .ok (.if_icmp .ne 29, 3) := by decide +kernel
theorem dX11_isCovered_42 : decode cX11_isCovered 42 = .ok (.iload_n 1, 1) := by decide +kernel
theorem dX11_isCovered_43 : decode cX11_isCovered 43 = .ok (.ifCond .ne 12, 3) := by decide +kernel
theorem dX11_isCovered_46 : decode cX11_isCovered 46 = .ok (.iload_n 3, 1) := by decide +kernel
theorem dX11_isCovered_47 : decode cX11_isCovered 47 = .ok (.iload 5, 2) := by decide +kernel
theorem dX11_isCovered_49 : decode cX11_isCovered 49 = .ok (.if_icmp .ne 19, 3) := by decide +kernel
theorem dX11_isCovered_52 : decode cX11_isCovered 52 = .ok (.goto 12, 3) := by decide +kernel
theorem dX11_isCovered_55 : decode cX11_isCovered 55 = .ok (.iload 5, 2) := by decide +kernel
theorem dX11_isCovered_57 : decode cX11_isCovered 57 = .ok (.iload_n 3, 1) := by decide +kernel
theorem dX11_isCovered_58 : decode cX11_isCovered 58 = .ok (.iconst (-1), 1) := by decide +kernel
theorem dX11_isCovered_59 : decode cX11_isCovered 59 = .ok (.ixor, 1) := by decide +kernel
theorem dX11_isCovered_60 : decode cX11_isCovered 60 = .ok (.iand, 1) := by decide +kernel
theorem dX11_isCovered_61 : decode cX11_isCovered 61 = .ok (.ifCond .ne 7, 3) := by decide +kernel
theorem dX11_isCovered_64 : decode cX11_isCovered 64 = .ok (.iconst 1, 1) := by decide +kernel
theorem dX11_isCovered_65 : decode cX11_isCovered 65 = .ok (.goto 4, 3) := by decide +kernel
theorem dX11_isCovered_68 : decode cX11_isCovered 68 = .ok (.iconst 0, 1) := by decide +kernel
theorem dX11_isCovered_69 : decode cX11_isCovered 69 = .ok (.ireturn, 1) := by decide +kernel
theorem dX11_passes_0 : decode cX11_passes 0 = .ok (.iload_n 1, 1) := by decide +kernel
theorem dX11_passes_1 : decode cX11_passes 1 = .ok (.iconst 2, 1) := by decide +kernel
theorem dX11_passes_2 : decode cX11_passes 2 = .ok (.if_icmp .ne 14, 3) := by decide +kernel
theorem dX11_passes_5 : decode cX11_passes 5 = .ok (.aload_n 0, 1) := by decide +kernel
theorem dX11_passes_6 : decode cX11_passes 6 = .ok (.iload_n 2, 1) := by decide +kernel
theorem dX11_passes_7 : decode cX11_passes 7 = .ok (.iload_n 3, 1) := by decide +kernel
theorem dX11_passes_8 : decode cX11_passes 8 = .ok (.invokevirtual 235, 3) := by decide +kernel
theorem dX11_passes_11 : decode cX11_passes 11 = .ok (.ifCond .eq 5, 3) := by decide +kernel
theorem dX11_passes_14 : decode cX11_passes 14 = .ok (.iconst 1, 1) := by decide +kernel
theorem dX11_passes_15 : decode cX11_passes 15 = .ok (.ireturn, 1) := by decide +kernel
theorem dX11_passes_16 : decode cX11_passes 16 = .ok (.iconst 0, 1) := by decide +kernel
theorem dX11_passes_17 : decode cX11_passes 17 = .ok (.istore 4, 2) := by decide +kernel
theorem dX11_passes_19 : decode cX11_passes 19 = .ok (.iconst 0, 1) := by decide +kernel
theorem dX11_passes_20 : decode cX11_passes 20 = .ok (.istore 5, 2) := by decide +kernel
theorem dX11_passes_22 : decode cX11_passes 22 = .ok (.iload 5, 2) := by decide +kernel
theorem dX11_passes_24 : decode cX11_passes 24 = .ok (.aload_n 0, 1) := by decide +kernel
theorem dX11_passes_25 : decode cX11_passes 25 = .ok (.getfield 241, 3) := by decide +kernel
theorem dX11_passes_28 : decode cX11_passes 28 = .ok (.if_icmp .ge 55, 3) := by decide +kernel
theorem dX11_passes_31 : decode cX11_passes 31 = .ok (.iload 4, 2) := by decide +kernel
theorem dX11_passes_33 : decode cX11_passes 33 = .ok (.ifCond .ne 37, 3) := by decide +kernel
theorem dX11_passes_36 : decode cX11_passes 36 = .ok (.aload_n 0, 1) := by decide +kernel
theorem dX11_passes_37 : decode cX11_passes 37 = .ok (.getfield 65, 3) := by decide +kernel
theorem dX11_passes_40 : decode cX11_passes 40 = .ok (.iload 5, 2) := by decide +kernel
theorem dX11_passes_42 : decode cX11_passes 42 = .ok (.baload, 1) := by decide +kernel
theorem dX11_passes_43 : decode cX11_passes 43 = .ok (.ifCond .eq 31, 3) := by decide +kernel
theorem dX11_passes_46 : decode cX11_passes 46 = .ok (.aload_n 0, 1) := by decide +kernel
theorem dX11_passes_47 : decode cX11_passes 47 = .ok (.iload_n 1, 1) := by decide +kernel
theorem dX11_passes_48 : decode cX11_passes 48 = .ok (.iload_n 2, 1) := by decide +kernel
theorem dX11_passes_49 : decode cX11_passes 49 = .ok (.iload_n 3, 1) := by decide +kernel
theorem dX11_passes_50 : decode cX11_passes 50 = .ok (.aload_n 0, 1) := by decide +kernel
theorem dX11_passes_51 : decode cX11_passes 51 = .ok (.getfield 53, 3) := by decide +kernel
theorem dX11_passes_54 : decode cX11_passes 54 = .ok (.iload 5, 2) := by decide +kernel
theorem dX11_passes_56 : decode cX11_passes 56 = .ok (.iaload, 1) := by decide +kernel
theorem dX11_passes_57 : decode cX11_passes 57 = .ok (.aload_n 0, 1) := by decide +kernel
theorem dX11_passes_58 : decode cX11_passes 58 = .ok (.getfield 56, 3) := by decide +kernel
theorem dX11_passes_61 : decode cX11_passes 61 = .ok (.iload 5, 2) := by decide +kernel
theorem dX11_passes_63 : decode cX11_passes 63 = .ok (.iaload, 1) := by decide +kernel
theorem dX11_passes_64 : decode cX11_passes 64 = .ok (.invokevirtual 244, 3) := by decide +kernel
theorem dX11_passes_67 : decode cX11_passes 67 = .ok (.ifCond .eq 7, 3) := by decide +kernel
theorem dX11_passes_70 : decode cX11_passes 70 = .ok (.iconst 1, 1) := by decide +kernel
theorem dX11_passes_71 : decode cX11_passes 71 = .ok (.goto 4, 3) := by decide +kernel
theorem dX11_passes_74 : decode cX11_passes 74 = .ok (.iconst 0, 1) := by decide +kernel
theorem dX11_passes_75 : decode cX11_passes 75 = .ok (.istore 4, 2) := by decide +kernel
theorem dX11_passes_77 : decode cX11_passes 77 = .ok (.iinc 5 1, 3) := by decide +kernel
theorem dX11_passes_80 : decode cX11_passes 80 = .ok (.goto (-58), 3) := by decide +kernel
theorem dX11_passes_83 : decode cX11_passes 83 = .ok (.iload 4, 2) := by decide +kernel
theorem dX11_passes_85 : decode cX11_passes 85 = .ok (.ireturn, 1) := by decide +kernel
theorem dX11_come_0 : decode cX11_come 0 = .ok (.aload_n 0, 1) := by decide +kernel
theorem dX11_come_1 : decode cX11_come 1 = .ok (.iload_n 1, 1) := by decide +kernel
theorem dX11_come_2 : decode cX11_come 2 = .ok (.iload_n 2, 1) := by decide +kernel
theorem dX11_come_3 : decode cX11_come 3 = .ok (.iload_n 3, 1) := by decide +kernel
theorem dX11_come_4 : decode cX11_come 4 = .ok (.invokevirtual 248, 3) := by decide +kernel
theorem dX11_come_7 : decode cX11_come 7 = .ok (.ifCond .eq 15, 3) := by decide +kernel
theorem dX11_come_10 : decode cX11_come 10 = .ok (.aload_n 0, 1) := by decide +kernel
theorem dX11_come_11 : decode cX11_come 11 = .ok (.dup, 1) := by decide +kernel
theorem dX11_come_12 : decode cX11_come 12 = .ok (.getfield 252, 3) := by decide +kernel
theorem dX11_come_15 : decode cX11_come 15 = .ok (.iconst 1, 1) := by decide +kernel
theorem dX11_come_16 : decode cX11_come 16 = .ok (.iadd, 1) := by decide +kernel
theorem dX11_come_17 : decode cX11_come 17 = .ok (.putfield 252, 3) := by decide +kernel
theorem dX11_come_20 : decode cX11_come 20 = .ok (.iconst 0, 1) := by decide +kernel
theorem dX11_come_21 : decode cX11_come 21 = .ok (.ireturn, 1) := by decide +kernel
theorem dX11_come_22 : decode cX11_come 22 = .ok (.iconst 0, 1) := by decide +kernel
theorem dX11_come_23 : decode cX11_come 23 = .ok (.istore 6, 2) := by decide +kernel
theorem dX11_come_25 : decode cX11_come 25 = .ok (.iload 6, 2) := by decide +kernel
theorem dX11_come_27 : decode cX11_come 27 = .ok (.aload_n 0, 1) := by decide +kernel
theorem dX11_come_28 : decode cX11_come 28 = .ok (.getfield 241, 3) := by decide +kernel
theorem dX11_come_31 : decode cX11_come 31 = .ok (.if_icmp .ge 69, 3) := by decide +kernel
theorem dX11_come_34 : decode cX11_come 34 = .ok (.aload_n 0, 1) := by decide +kernel
theorem dX11_come_35 : decode cX11_come 35 = .ok (.getfield 65, 3) := by decide +kernel
theorem dX11_come_38 : decode cX11_come 38 = .ok (.iload 6, 2) := by decide +kernel
theorem dX11_come_40 : decode cX11_come 40 = .ok (.baload, 1) := by decide +kernel
theorem dX11_come_41 : decode cX11_come 41 = .ok (.ifCond .eq 53, 3) := by decide +kernel
theorem dX11_come_44 : decode cX11_come 44 = .ok (.aload_n 0, 1) := by decide +kernel
theorem dX11_come_45 : decode cX11_come 45 = .ok (.iload_n 1, 1) := by decide +kernel
theorem dX11_come_46 : decode cX11_come 46 = .ok (.aload_n 0, 1) := by decide +kernel
theorem dX11_come_47 : decode cX11_come 47 = .ok (.getfield 53, 3) := by decide +kernel
theorem dX11_come_50 : decode cX11_come 50 = .ok (.iload 6, 2) := by decide +kernel
theorem dX11_come_52 : decode cX11_come 52 = .ok (.iaload, 1) := by decide +kernel
theorem dX11_come_53 : decode cX11_come 53 = .ok (.aload_n 0, 1) := by decide +kernel
theorem dX11_come_54 : decode cX11_come 54 = .ok (.getfield 56, 3) := by decide +kernel
theorem dX11_come_57 : decode cX11_come 57 = .ok (.iload 6, 2) := by decide +kernel
theorem dX11_come_59 : decode cX11_come 59 = .ok (.iaload, 1) := by decide +kernel
theorem dX11_come_60 : decode cX11_come 60 = .ok (.iload_n 2, 1) := by decide +kernel
theorem dX11_come_61 : decode cX11_come 61 = .ok (.iload_n 3, 1) := by decide +kernel
theorem dX11_come_62 : decode cX11_come 62 = .ok (.invokevirtual 244, 3) := by decide +kernel
theorem dX11_come_65 : decode cX11_come 65 = .ok (.ifCond .eq 29, 3) := by decide +kernel
theorem dX11_come_68 : decode cX11_come 68 = .ok (.aload_n 0, 1) := by decide +kernel
theorem dX11_come_69 : decode cX11_come 69 = .ok (.getfield 65, 3) := by decide +kernel
theorem dX11_come_72 : decode cX11_come 72 = .ok (.iload 6, 2) := by decide +kernel
theorem dX11_come_74 : decode cX11_come 74 = .ok (.iconst 0, 1) := by decide +kernel
theorem dX11_come_75 : decode cX11_come 75 = .ok (.bastore, 1) := by decide +kernel
theorem dX11_come_76 : decode cX11_come 76 = .ok (.aload_n 0, 1) := by decide +kernel
theorem dX11_come_77 : decode cX11_come 77 = .ok (.getfield 68, 3) := by decide +kernel
theorem dX11_come_80 : decode cX11_come 80 = .ok (.iload 6, 2) := by decide +kernel
theorem dX11_come_82 : decode cX11_come 82 = .ok (.iconst 0, 1) := by decide +kernel
theorem dX11_come_83 : decode cX11_come 83 = .ok (.bastore, 1) := by decide +kernel
theorem dX11_come_84 : decode cX11_come 84 = .ok (.aload_n 0, 1) := by decide +kernel
theorem dX11_come_85 : decode cX11_come 85 = .ok (.dup, 1) := by decide +kernel
theorem dX11_come_86 : decode cX11_come 86 = .ok (.getfield 255, 3) := by decide +kernel
theorem dX11_come_89 : decode cX11_come 89 = .ok (.iconst 1, 1) := by decide +kernel
theorem dX11_come_90 : decode cX11_come 90 = .ok (.iadd, 1) := by decide +kernel
theorem dX11_come_91 : decode cX11_come 91 = .ok (.putfield 255, 3) := by decide +kernel
theorem dX11_come_94 : decode cX11_come 94 = .ok (.iinc 6 1, 3) := by decide +kernel
theorem dX11_come_97 : decode cX11_come 97 = .ok (.goto (-72), 3) := by decide +kernel
theorem dX11_come_100 : decode cX11_come 100 = .ok (.aload_n 0, 1) := by decide +kernel
theorem dX11_come_101 : decode cX11_come 101 = .ok (.getfield 53, 3) := by decide +kernel
theorem dX11_come_104 : decode cX11_come 104 = .ok (.aload_n 0, 1) := by decide +kernel
theorem dX11_come_105 : decode cX11_come 105 = .ok (.getfield 241, 3) := by decide +kernel
theorem dX11_come_108 : decode cX11_come 108 = .ok (.iload_n 2, 1) := by decide +kernel
theorem dX11_come_109 : decode cX11_come 109 = .ok (.iastore, 1) := by decide +kernel
theorem dX11_come_110 : decode cX11_come 110 = .ok (.aload_n 0, 1) := by decide +kernel
theorem dX11_come_111 : decode cX11_come 111 = .ok (.getfield 56, 3) := by decide +kernel
theorem dX11_come_114 : decode cX11_come 114 = .ok (.aload_n 0, 1) := by decide +kernel
theorem dX11_come_115 : decode cX11_come 115 = .ok (.getfield 241, 3) := by decide +kernel
theorem dX11_come_118 : decode cX11_come 118 = .ok (.iload_n 3, 1) := by decide +kernel
theorem dX11_come_119 : decode cX11_come 119 = .ok (.iastore, 1) := by decide +kernel
theorem dX11_come_120 : decode cX11_come 120 = .ok (.aload_n 0, 1) := by decide +kernel
theorem dX11_come_121 : decode cX11_come 121 = .ok (.getfield 59, 3) := by decide +kernel
theorem dX11_come_124 : decode cX11_come 124 = .ok (.aload_n 0, 1) := by decide +kernel
theorem dX11_come_125 : decode cX11_come 125 = .ok (.getfield 241, 3) := by decide +kernel
theorem dX11_come_128 : decode cX11_come 128 = .ok (.iload 4, 2) := by decide +kernel
theorem dX11_come_130 : decode cX11_come 130 = .ok (.iastore, 1) := by decide +kernel
theorem dX11_come_131 : decode cX11_come 131 = .ok (.aload_n 0, 1) := by decide +kernel
theorem dX11_come_132 : decode cX11_come 132 = .ok (.getfield 62, 3) := by decide +kernel
theorem dX11_come_135 : decode cX11_come 135 = .ok (.aload_n 0, 1) := by decide +kernel
theorem dX11_come_136 : decode cX11_come 136 = .ok (.getfield 241, 3) := by decide +kernel
theorem dX11_come_139 : decode cX11_come 139 = .ok (.iload 5, 2) := by decide +kernel
theorem dX11_come_141 : decode cX11_come 141 = .ok (.iastore, 1) := by decide +kernel
theorem dX11_come_142 : decode cX11_come 142 = .ok (.aload_n 0, 1) := by decide +kernel
theorem dX11_come_143 : decode cX11_come 143 = .ok (.getfield 65, 3) := by decide +kernel
theorem dX11_come_146 : decode cX11_come 146 = .ok (.aload_n 0, 1) := by decide +kernel
theorem dX11_come_147 : decode cX11_come 147 = .ok (.getfield 241, 3) := by decide +kernel
theorem dX11_come_150 : decode cX11_come 150 = .ok (.iconst 1, 1) := by decide +kernel
theorem dX11_come_151 : decode cX11_come 151 = .ok (.bastore, 1) := by decide +kernel
theorem dX11_come_152 : decode cX11_come 152 = .ok (.aload_n 0, 1) := by decide +kernel
theorem dX11_come_153 : decode cX11_come 153 = .ok (.getfield 68, 3) := by decide +kernel
theorem dX11_come_156 : decode cX11_come 156 = .ok (.aload_n 0, 1) := by decide +kernel
theorem dX11_come_157 : decode cX11_come 157 = .ok (.getfield 241, 3) := by decide +kernel
theorem dX11_come_160 : decode cX11_come 160 = .ok (.iconst 1, 1) := by decide +kernel
theorem dX11_come_161 : decode cX11_come 161 = .ok (.bastore, 1) := by decide +kernel
theorem dX11_come_162 : decode cX11_come 162 = .ok (.aload_n 0, 1) := by decide +kernel
theorem dX11_come_163 : decode cX11_come 163 = .ok (.dup, 1) := by decide +kernel
theorem dX11_come_164 : decode cX11_come 164 = .ok (.getfield 241, 3) := by decide +kernel
theorem dX11_come_167 : decode cX11_come 167 = .ok (.iconst 1, 1) := by decide +kernel
theorem dX11_come_168 : decode cX11_come 168 = .ok (.iadd, 1) := by decide +kernel
theorem dX11_come_169 : decode cX11_come 169 = .ok (.putfield 241, 3) := by decide +kernel
theorem dX11_come_172 : decode cX11_come 172 = .ok (.aload_n 0, 1) := by decide +kernel
theorem dX11_come_173 : decode cX11_come 173 = .ok (.getfield 16, 3) := by decide +kernel
theorem dX11_come_176 : decode cX11_come 176 = .ok (.iconst 2, 1) := by decide +kernel
theorem dX11_come_177 : decode cX11_come 177 = .ok (.iaload, 1) := by decide +kernel
theorem dX11_come_178 : decode cX11_come 178 = .ok (.iload_n 2, 1) := by decide +kernel
theorem dX11_come_179 : decode cX11_come 179 = .ok (.invokestatic 82, 3) := by decide +kernel
theorem dX11_come_182 : decode cX11_come 182 = .ok (.ifCond .eq 18, 3) := by decide +kernel
theorem dX11_come_185 : decode cX11_come 185 = .ok (.iload_n 3, 1) := by decide +kernel
theorem dX11_come_186 : decode cX11_come 186 = .ok (.aload_n 0, 1) := by decide +kernel
theorem dX11_come_187 : decode cX11_come 187 = .ok (.getfield 16, 3) := by decide +kernel
theorem dX11_come_190 : decode cX11_come 190 = .ok (.iconst 3, 1) := by decide +kernel
theorem dX11_come_191 : decode cX11_come 191 = .ok (.iaload, 1) := by decide +kernel
theorem dX11_come_192 : decode cX11_come 192 = .ok (.iand, 1) := by decide +kernel
theorem dX11_come_193 : decode cX11_come 193 = .ok (.ifCond .ne 7, 3) := by decide +kernel
theorem dX11_come_196 : decode cX11_come 196 = .ok (.iconst 1, 1) := by decide +kernel
theorem dX11_come_197 : decode cX11_come 197 = .ok (.goto 4, 3) := by decide +kernel
theorem dX11_come_200 : decode cX11_come 200 = .ok (.iconst 0, 1) := by decide +kernel
theorem dX11_come_201 : decode cX11_come 201 = .ok (.istore 6, 2) := by decide +kernel
theorem dX11_come_203 : decode cX11_come 203 = .ok (.aload_n 0, 1) := by decide +kernel
theorem dX11_come_204 : decode cX11_come 204 = .ok (.iload 6, 2) := by decide +kernel
theorem dX11_come_206 : decode cX11_come 206 = .ok (.ifCond .eq 12, 3) := by decide +kernel
theorem dX11_come_209 : decode cX11_come 209 = .ok (.aload_n 0, 1) := by decide +kernel
theorem dX11_come_210 : decode cX11_come 210 = .ok (.getfield 241, 3) := by decide +kernel
theorem dX11_come_213 : decode cX11_come 213 = .ok (.iconst 1, 1) := by decide +kernel
theorem dX11_come_214 : decode cX11_come 214 = .ok (.isub, 1) := by decide +kernel
theorem dX11_come_215 : decode cX11_come 215 = .ok (.goto 7, 3) := by decide +kernel
theorem dX11_come_218 : decode cX11_come 218 = .ok (.aload_n 0, 1) := by decide +kernel
theorem dX11_come_219 : decode cX11_come 219 = .ok (.getfield 258, 3) := by decide +kernel
theorem dX11_come_222 : decode cX11_come 222 = .ok (.putfield 258, 3) := by decide +kernel
theorem dX11_come_225 : decode cX11_come 225 = .ok (.iload 6, 2) := by decide +kernel
theorem dX11_come_227 : decode cX11_come 227 = .ok (.ireturn, 1) := by decide +kernel
theorem dX11_firstWaiting_0 : decode cX11_firstWaiting 0 = .ok (.bipush (-9), 2) := by decide +kernel
theorem dX11_firstWaiting_2 : decode cX11_firstWaiting 2 = .ok (.istore_n 1, 1) := by decide +kernel
theorem dX11_firstWaiting_3 : decode cX11_firstWaiting 3 = .ok (.aload_n 0, 1) := by decide +kernel
theorem dX11_firstWaiting_4 : decode cX11_firstWaiting 4 = .ok (.getfield 241, 3) := by decide +kernel
theorem dX11_firstWaiting_7 : decode cX11_firstWaiting 7 = .ok (.iconst 1, 1) := by decide +kernel
theorem dX11_firstWaiting_8 : decode cX11_firstWaiting 8 = .ok (.isub, 1) := by decide +kernel
theorem dX11_firstWaiting_9 : decode cX11_firstWaiting 9 = .ok (.istore_n 2, 1) := by decide +kernel
theorem dX11_firstWaiting_10 : decode cX11_firstWaiting 10 = .ok (.iload_n 2, 1) := by decide +kernel
theorem dX11_firstWaiting_11 : decode cX11_firstWaiting 11 = .ok (.ifCond .lt 24, 3) := by decide +kernel
theorem dX11_firstWaiting_14 : decode cX11_firstWaiting 14 = .ok (.aload_n 0, 1) := by decide +kernel
theorem dX11_firstWaiting_15 : decode cX11_firstWaiting 15 = .ok (.getfield 68, 3) := by decide +kernel
theorem dX11_firstWaiting_18 : decode cX11_firstWaiting 18 = .ok (.iload_n 2, 1) := by decide +kernel
theorem dX11_firstWaiting_19 : decode cX11_firstWaiting 19 = .ok (.baload, 1) := by decide +kernel
theorem dX11_firstWaiting_20 : decode cX11_firstWaiting 20 = .ok (.ifCond .eq 7, 3) := by decide +kernel
theorem dX11_firstWaiting_23 : decode cX11_firstWaiting 23 = .ok (.iload_n 2, 1) := by decide +kernel
theorem dX11_firstWaiting_24 : decode cX11_firstWaiting 24 = .ok (.goto 4, 3) := by decide +kernel
theorem dX11_firstWaiting_27 : decode cX11_firstWaiting 27 = .ok (.iload_n 1, 1) := by decide +kernel
theorem dX11_firstWaiting_28 : decode cX11_firstWaiting 28 = .ok (.istore_n 1, 1) := by decide +kernel
theorem dX11_firstWaiting_29 : decode cX11_firstWaiting 29 = .ok (.iinc 2 (-1), 3) := by decide +kernel
theorem dX11_firstWaiting_32 : decode cX11_firstWaiting 32 = .ok (.goto (-22), 3) := by decide +kernel
theorem dX11_firstWaiting_35 : decode cX11_firstWaiting 35 = .ok (.iload_n 1, 1) := by decide +kernel
theorem dX11_firstWaiting_36 : decode cX11_firstWaiting 36 = .ok (.ireturn, 1) := by decide +kernel
theorem dX11_take_0 : decode cX11_take 0 = .ok (.aload_n 0, 1) := by decide +kernel
theorem dX11_take_1 : decode cX11_take 1 = .ok (.getfield 68, 3) := by decide +kernel
theorem dX11_take_4 : decode cX11_take 4 = .ok (.iload_n 2, 1) := by decide +kernel
theorem dX11_take_5 : decode cX11_take 5 = .ok (.iconst 0, 1) := by decide +kernel
theorem dX11_take_6 : decode cX11_take 6 = .ok (.bastore, 1) := by decide +kernel
theorem dX11_take_7 : decode cX11_take 7 = .ok (.aload_n 0, 1) := by decide +kernel
theorem dX11_take_8 : decode cX11_take 8 = .ok (.dup, 1) := by decide +kernel
theorem dX11_take_9 : decode cX11_take 9 = .ok (.getfield 261, 3) := by decide +kernel
theorem dX11_take_12 : decode cX11_take 12 = .ok (.iconst 1, 1) := by decide +kernel
theorem dX11_take_13 : decode cX11_take 13 = .ok (.iadd, 1) := by decide +kernel
theorem dX11_take_14 : decode cX11_take 14 = .ok (.putfield 261, 3) := by decide +kernel
theorem dX11_take_17 : decode cX11_take 17 = .ok (.aload_n 0, 1) := by decide +kernel
theorem dX11_take_18 : decode cX11_take 18 = .ok (.getfield 53, 3) := by decide +kernel
theorem dX11_take_21 : decode cX11_take 21 = .ok (.iload_n 2, 1) := by decide +kernel
theorem dX11_take_22 : decode cX11_take 22 = .ok (.iaload, 1) := by decide +kernel
theorem dX11_take_23 : decode cX11_take 23 = .ok (.istore_n 3, 1) := by decide +kernel
theorem dX11_take_24 : decode cX11_take 24 = .ok (.aload_n 0, 1) := by decide +kernel
theorem dX11_take_25 : decode cX11_take 25 = .ok (.getfield 56, 3) := by decide +kernel
theorem dX11_take_28 : decode cX11_take 28 = .ok (.iload_n 2, 1) := by decide +kernel
theorem dX11_take_29 : decode cX11_take 29 = .ok (.iaload, 1) := by decide +kernel
theorem dX11_take_30 : decode cX11_take 30 = .ok (.istore 4, 2) := by decide +kernel
theorem dX11_take_32 : decode cX11_take 32 = .ok (.iconst 1, 1) := by decide +kernel
theorem dX11_take_33 : decode cX11_take 33 = .ok (.istore 5, 2) := by decide +kernel
theorem dX11_take_35 : decode cX11_take 35 = .ok (.iload 5, 2) := by decide +kernel
theorem dX11_take_37 : decode cX11_take 37 = .ok (.iconst 3, 1) := by decide +kernel
theorem dX11_take_38 : decode cX11_take 38 = .ok (.if_icmp .ge 80, 3) := by decide +kernel
theorem dX11_take_41 : decode cX11_take 41 = .ok (.aload_n 0, 1) := by decide +kernel
theorem dX11_take_42 : decode cX11_take 42 = .ok (.getfield 16, 3) := by decide +kernel
theorem dX11_take_45 : decode cX11_take 45 = .ok (.iconst 1, 1) := by decide +kernel
theorem dX11_take_46 : decode cX11_take 46 = .ok (.iload 4, 2) := by decide +kernel
theorem dX11_take_48 : decode cX11_take 48 = .ok (.iload 5, 2) := by decide +kernel
theorem dX11_take_50 : decode cX11_take 50 = .ok (.invokestatic 169, 3) := by decide +kernel
theorem dX11_take_53 : decode cX11_take 53 = .ok (.istore 6, 2) := by decide +kernel
theorem dX11_take_55 : decode cX11_take 55 = .ok (.iconst 0, 1) := by decide +kernel
theorem dX11_take_56 : decode cX11_take 56 = .ok (.istore 7, 2) := by decide +kernel
theorem dX11_take_58 : decode cX11_take 58 = .ok (.iload 7, 2) := by decide +kernel
theorem dX11_take_60 : decode cX11_take 60 = .ok (.aload_n 0, 1) := by decide +kernel
theorem dX11_take_61 : decode cX11_take 61 = .ok (.getfield 16, 3) := by decide +kernel
theorem dX11_take_64 : decode cX11_take 64 = .ok (.iconst 0, 1) := by decide +kernel
theorem dX11_take_65 : decode cX11_take 65 = .ok (.iaload, 1) := by decide +kernel
theorem dX11_take_66 : decode cX11_take 66 = .ok (.if_icmp .ge 46, 3) := by decide +kernel
theorem dX11_take_69 : decode cX11_take 69 = .ok (.aload_n 0, 1) := by decide +kernel
theorem dX11_take_70 : decode cX11_take 70 = .ok (.getfield 16, 3) := by decide +kernel
theorem dX11_take_73 : decode cX11_take 73 = .ok (.iconst 0, 1) := by decide +kernel
theorem dX11_take_74 : decode cX11_take 74 = .ok (.iload_n 3, 1) := by decide +kernel
theorem dX11_take_75 : decode cX11_take 75 = .ok (.iload 5, 2) := by decide +kernel
theorem dX11_take_77 : decode cX11_take 77 = .ok (.invokestatic 86, 3) := by decide +kernel
theorem dX11_take_80 : decode cX11_take 80 = .ok (.iaload, 1) := by decide +kernel
theorem dX11_take_81 : decode cX11_take 81 = .ok (.iload 7, 2) := by decide +kernel
theorem dX11_take_83 : decode cX11_take 83 = .ok (.invokestatic 82, 3) := by decide +kernel
theorem dX11_take_86 : decode cX11_take 86 = .ok (.ifCond .eq 20, 3) := by decide +kernel
theorem dX11_take_89 : decode cX11_take 89 = .ok (.aload_n 0, 1) := by decide +kernel
theorem dX11_take_90 : decode cX11_take 90 = .ok (.iload_n 1, 1) := by decide +kernel
theorem dX11_take_91 : decode cX11_take 91 = .ok (.iload 7, 2) := by decide +kernel
theorem dX11_take_93 : decode cX11_take 93 = .ok (.iload 6, 2) := by decide +kernel
theorem dX11_take_95 : decode cX11_take 95 = .ok (.iload_n 2, 1) := by decide +kernel
theorem dX11_take_96 : decode cX11_take 96 = .ok (.iload 5, 2) := by decide +kernel
theorem dX11_take_98 : decode cX11_take 98 = .ok (.invokevirtual 264, 3) := by decide +kernel
theorem dX11_take_101 : decode cX11_take 101 = .ok (.ifCond .eq 5, 3) := by decide +kernel
theorem dX11_take_104 : decode cX11_take 104 = .ok (.iconst 1, 1) := by decide +kernel
theorem dX11_take_105 : decode cX11_take 105 = .ok (.ireturn, 1) := by decide +kernel
theorem dX11_take_106 : decode cX11_take 106 = .ok (.iinc 7 1, 3) := by decide +kernel
theorem dX11_take_109 : decode cX11_take 109 = .ok (.goto (-51), 3) := by decide +kernel
theorem dX11_take_112 : decode cX11_take 112 = .ok (.iinc 5 1, 3) := by decide +kernel
theorem dX11_take_115 : decode cX11_take 115 = .ok (.goto (-80), 3) := by decide +kernel
theorem dX11_take_118 : decode cX11_take 118 = .ok (.iconst 0, 1) := by decide +kernel
theorem dX11_take_119 : decode cX11_take 119 = .ok (.ireturn, 1) := by decide +kernel
theorem dX11_goSearch_0 : decode cX11_goSearch 0 = .ok (.aload_n 0, 1) := by decide +kernel
theorem dX11_goSearch_1 : decode cX11_goSearch 1 = .ok (.aload_n 0, 1) := by decide +kernel
theorem dX11_goSearch_2 : decode cX11_goSearch 2 = .ok (.getfield 16, 3) := by decide +kernel
theorem dX11_goSearch_5 : decode cX11_goSearch 5 = .ok (.invokevirtual 231, 3) := by decide +kernel
theorem dX11_goSearch_8 : decode cX11_goSearch 8 = .ok (.aload_n 0, 1) := by decide +kernel
theorem dX11_goSearch_9 : decode cX11_goSearch 9 = .ok (.iconst 0, 1) := by decide +kernel
theorem dX11_goSearch_10 : decode cX11_goSearch 10 = .ok (.putfield 241, 3) := by decide +kernel
theorem dX11_goSearch_13 : decode cX11_goSearch 13 = .ok (.aload_n 0, 1) := by decide +kernel
theorem dX11_goSearch_14 : decode cX11_goSearch 14 = .ok (.iconst 0, 1) := by decide +kernel
theorem dX11_goSearch_15 : decode cX11_goSearch 15 = .ok (.putfield 261, 3) := by decide +kernel
theorem dX11_goSearch_18 : decode cX11_goSearch 18 = .ok (.aload_n 0, 1) := by decide +kernel
theorem dX11_goSearch_19 : decode cX11_goSearch 19 = .ok (.iconst 0, 1) := by decide +kernel
theorem dX11_goSearch_20 : decode cX11_goSearch 20 = .ok (.putfield 252, 3) := by decide +kernel
theorem dX11_goSearch_23 : decode cX11_goSearch 23 = .ok (.aload_n 0, 1) := by decide +kernel
theorem dX11_goSearch_24 : decode cX11_goSearch 24 = .ok (.iconst 0, 1) := by decide +kernel
theorem dX11_goSearch_25 : decode cX11_goSearch 25 = .ok (.putfield 255, 3) := by decide +kernel
theorem dX11_goSearch_28 : decode cX11_goSearch 28 = .ok (.aload_n 0, 1) := by decide +kernel
theorem dX11_goSearch_29 : decode cX11_goSearch 29 = .ok (.bipush (-9), 2) := by decide +kernel
theorem dX11_goSearch_31 : decode cX11_goSearch 31 = .ok (.putfield 258, 3) := by decide +kernel
theorem dX11_goSearch_34 : decode cX11_goSearch 34 = .ok (.aload_n 0, 1) := by decide +kernel
theorem dX11_goSearch_35 : decode cX11_goSearch 35 = .ok (.iload_n 1, 1) := by decide +kernel
theorem dX11_goSearch_36 : decode cX11_goSearch 36 = .ok (.iconst 0, 1) := by decide +kernel
theorem dX11_goSearch_37 : decode cX11_goSearch 37 = .ok (.iconst 1, 1) := by decide +kernel
theorem dX11_goSearch_38 : decode cX11_goSearch 38 = .ok (.bipush (-9), 2) := by decide +kernel
theorem dX11_goSearch_40 : decode cX11_goSearch 40 = .ok (.iconst 0, 1) := by decide +kernel
theorem dX11_goSearch_41 : decode cX11_goSearch 41 = .ok (.invokevirtual 264, 3) := by decide +kernel
theorem dX11_goSearch_44 : decode cX11_goSearch 44 = .ok (.istore_n 2, 1) := by decide +kernel
theorem dX11_goSearch_45 : decode cX11_goSearch 45 = .ok (.aload_n 0, 1) := by decide +kernel
theorem dX11_goSearch_46 : decode cX11_goSearch 46 = .ok (.invokevirtual 267, 3) := by decide +kernel
theorem dX11_goSearch_49 : decode cX11_goSearch 49 = .ok (.istore_n 3, 1) := by decide +kernel
theorem dX11_goSearch_50 : decode cX11_goSearch 50 = .ok (.iload_n 2, 1) := by decide +kernel
theorem dX11_goSearch_51 : decode cX11_goSearch 51 = .ok (.ifCond .ne 24, 3) := by decide +kernel
theorem dX11_goSearch_54 : decode cX11_goSearch 54 = .ok (.iload_n 3, 1) := by decide +kernel
theorem dX11_goSearch_55 : decode cX11_goSearch 55 = .ok (.bipush (-9), 2) := by decide +kernel
theorem dX11_goSearch_57 : decode cX11_goSearch 57 = .ok (.if_icmp .eq 18, 3) := by decide +kernel
theorem dX11_goSearch_60 : decode cX11_goSearch 60 = .ok (.aload_n 0, 1) := by decide +kernel
theorem dX11_goSearch_61 : decode cX11_goSearch 61 = .ok (.iload_n 1, 1) := by decide +kernel
theorem dX11_goSearch_62 : decode cX11_goSearch 62 = .ok (.iload_n 3, 1) := by decide +kernel
theorem dX11_goSearch_63 : decode cX11_goSearch 63 = .ok (.invokevirtual 270, 3) := by decide +kernel
theorem dX11_goSearch_66 : decode cX11_goSearch 66 = .ok (.istore_n 2, 1) := by decide +kernel
theorem dX11_goSearch_67 : decode cX11_goSearch 67 = .ok (.aload_n 0, 1) := by decide +kernel
theorem dX11_goSearch_68 : decode cX11_goSearch 68 = .ok (.invokevirtual 267, 3) := by decide +kernel
theorem dX11_goSearch_71 : decode cX11_goSearch 71 = .ok (.istore_n 3, 1) := by decide +kernel
theorem dX11_goSearch_72 : decode cX11_goSearch 72 = .ok (.goto (-22), 3) := by decide +kernel
theorem dX11_goSearch_75 : decode cX11_goSearch 75 = .ok (.return_, 1) := by decide +kernel
theorem dX11_staying_0 : decode cX11_staying 0 = .ok (.iconst 0, 1) := by decide +kernel
theorem dX11_staying_1 : decode cX11_staying 1 = .ok (.istore_n 1, 1) := by decide +kernel
theorem dX11_staying_2 : decode cX11_staying 2 = .ok (.iconst 0, 1) := by decide +kernel
theorem dX11_staying_3 : decode cX11_staying 3 = .ok (.istore_n 2, 1) := by decide +kernel
theorem dX11_staying_4 : decode cX11_staying 4 = .ok (.iload_n 2, 1) := by decide +kernel
theorem dX11_staying_5 : decode cX11_staying 5 = .ok (.aload_n 0, 1) := by decide +kernel
theorem dX11_staying_6 : decode cX11_staying 6 = .ok (.getfield 241, 3) := by decide +kernel
theorem dX11_staying_9 : decode cX11_staying 9 = .ok (.if_icmp .ge 26, 3) := by decide +kernel
theorem dX11_staying_12 : decode cX11_staying 12 = .ok (.iload_n 1, 1) := by decide +kernel
theorem dX11_staying_13 : decode cX11_staying 13 = .ok (.aload_n 0, 1) := by decide +kernel
theorem dX11_staying_14 : decode cX11_staying 14 = .ok (.getfield 65, 3) := by decide +kernel
theorem dX11_staying_17 : decode cX11_staying 17 = .ok (.iload_n 2, 1) := by decide +kernel
theorem dX11_staying_18 : decode cX11_staying 18 = .ok (.baload, 1) := by decide +kernel
theorem dX11_staying_19 : decode cX11_staying 19 = .ok (.ifCond .eq 7, 3) := by decide +kernel
theorem dX11_staying_22 : decode cX11_staying 22 = .ok (.iconst 1, 1) := by decide +kernel
theorem dX11_staying_23 : decode cX11_staying 23 = .ok (.goto 4, 3) := by decide +kernel
theorem dX11_staying_26 : decode cX11_staying 26 = .ok (.iconst 0, 1) := by decide +kernel
theorem dX11_staying_27 : decode cX11_staying 27 = .ok (.iadd, 1) := by decide +kernel
theorem dX11_staying_28 : decode cX11_staying 28 = .ok (.istore_n 1, 1) := by decide +kernel
theorem dX11_staying_29 : decode cX11_staying 29 = .ok (.iinc 2 1, 3) := by decide +kernel
theorem dX11_staying_32 : decode cX11_staying 32 = .ok (.goto (-28), 3) := by decide +kernel
theorem dX11_staying_35 : decode cX11_staying 35 = .ok (.iload_n 1, 1) := by decide +kernel
theorem dX11_staying_36 : decode cX11_staying 36 = .ok (.ireturn, 1) := by decide +kernel
theorem dX11_search_0 : decode cX11_search 0 = .ok (.aload_n 0, 1) := by decide +kernel
theorem dX11_search_1 : decode cX11_search 1 = .ok (.iconst 0, 1) := by decide +kernel
theorem dX11_search_2 : decode cX11_search 2 = .ok (.putfield 74, 3) := by decide +kernel
theorem dX11_search_5 : decode cX11_search 5 = .ok (.iload_n 1, 1) := by decide +kernel
theorem dX11_search_6 : decode cX11_search 6 = .ok (.i2l, 1) := by decide +kernel
theorem dX11_search_7 : decode cX11_search 7 = .ok (.lconst 0, 1) := by decide +kernel
theorem dX11_search_8 : decode cX11_search 8 = .ok (.ldc2_w 149, 3) := by decide +kernel
theorem dX11_search_11 : decode cX11_search 11 = .ok (.invokestatic 78, 3) := by decide +kernel
theorem dX11_search_14 : decode cX11_search 14 = .ok (.ifCond .eq 15, 3) := by decide +kernel
theorem dX11_search_17 : decode cX11_search 17 = .ok (.iload_n 2, 1) := by decide +kernel
theorem dX11_search_18 : decode cX11_search 18 = .ok (.i2l, 1) := by decide +kernel
theorem dX11_search_19 : decode cX11_search 19 = .ok (.lconst 0, 1) := by decide +kernel
theorem dX11_search_20 : decode cX11_search 20 = .ok (.ldc2_w 273, 3) := by decide +kernel
theorem dX11_search_23 : decode cX11_search 23 = .ok (.invokestatic 78, 3) := by decide +kernel
theorem dX11_search_26 : decode cX11_search 26 = .ok (.ifCond .ne 6, 3) := by decide +kernel
theorem dX11_search_29 : decode cX11_search 29 = .ok (.bipush (-2), 2) := by decide +kernel
theorem dX11_search_31 : decode cX11_search 31 = .ok (.ireturn, 1) := by decide +kernel
theorem dX11_search_32 : decode cX11_search 32 = .ok (.aload_n 0, 1) := by decide +kernel
theorem dX11_search_33 : decode cX11_search 33 = .ok (.iload_n 1, 1) := by decide +kernel
theorem dX11_search_34 : decode cX11_search 34 = .ok (.invokevirtual 275, 3) := by decide +kernel
theorem dX11_search_37 : decode cX11_search 37 = .ok (.iload_n 2, 1) := by decide +kernel
theorem dX11_search_38 : decode cX11_search 38 = .ok (.tableswitch 60 0 3 #[30, 45, 50, 55], 30) := by decide +kernel
theorem dX11_search_68 : decode cX11_search 68 = .ok (.aload_n 0, 1) := by decide +kernel
theorem dX11_search_69 : decode cX11_search 69 = .ok (.getfield 258, 3) := by decide +kernel
theorem dX11_search_72 : decode cX11_search 72 = .ok (.bipush (-9), 2) := by decide +kernel
theorem dX11_search_74 : decode cX11_search 74 = .ok (.if_icmp .ne 7, 3) := by decide +kernel
theorem dX11_search_77 : decode cX11_search 77 = .ok (.iconst 1, 1) := by decide +kernel
theorem dX11_search_78 : decode cX11_search 78 = .ok (.goto 4, 3) := by decide +kernel
theorem dX11_search_81 : decode cX11_search 81 = .ok (.iconst 0, 1) := by decide +kernel
theorem dX11_search_82 : decode cX11_search 82 = .ok (.ireturn, 1) := by decide +kernel
theorem dX11_search_83 : decode cX11_search 83 = .ok (.aload_n 0, 1) := by decide +kernel
theorem dX11_search_84 : decode cX11_search 84 = .ok (.getfield 261, 3) := by decide +kernel
theorem dX11_search_87 : decode cX11_search 87 = .ok (.ireturn, 1) := by decide +kernel
theorem dX11_search_88 : decode cX11_search 88 = .ok (.aload_n 0, 1) := by decide +kernel
theorem dX11_search_89 : decode cX11_search 89 = .ok (.invokevirtual 278, 3) := by decide +kernel
theorem dX11_search_92 : decode cX11_search 92 = .ok (.ireturn, 1) := by decide +kernel
theorem dX11_search_93 : decode cX11_search 93 = .ok (.aload_n 0, 1) := by decide +kernel
theorem dX11_search_94 : decode cX11_search 94 = .ok (.getfield 252, 3) := by decide +kernel
theorem dX11_search_97 : decode cX11_search 97 = .ok (.ireturn, 1) := by decide +kernel
theorem dX11_search_98 : decode cX11_search 98 = .ok (.aload_n 0, 1) := by decide +kernel
theorem dX11_search_99 : decode cX11_search 99 = .ok (.getfield 255, 3) := by decide +kernel
theorem dX11_search_102 : decode cX11_search 102 = .ok (.ireturn, 1) := by decide +kernel
theorem dX11_kept_0 : decode cX11_kept 0 = .ok (.aload_n 0, 1) := by decide +kernel
theorem dX11_kept_1 : decode cX11_kept 1 = .ok (.iconst 0, 1) := by decide +kernel
theorem dX11_kept_2 : decode cX11_kept 2 = .ok (.putfield 74, 3) := by decide +kernel
theorem dX11_kept_5 : decode cX11_kept 5 = .ok (.iload_n 1, 1) := by decide +kernel
theorem dX11_kept_6 : decode cX11_kept 6 = .ok (.i2l, 1) := by decide +kernel
theorem dX11_kept_7 : decode cX11_kept 7 = .ok (.lconst 0, 1) := by decide +kernel
theorem dX11_kept_8 : decode cX11_kept 8 = .ok (.ldc2_w 149, 3) := by decide +kernel
theorem dX11_kept_11 : decode cX11_kept 11 = .ok (.invokestatic 78, 3) := by decide +kernel
theorem dX11_kept_14 : decode cX11_kept 14 = .ok (.ifCond .ne 6, 3) := by decide +kernel
theorem dX11_kept_17 : decode cX11_kept 17 = .ok (.bipush (-2), 2) := by decide +kernel
theorem dX11_kept_19 : decode cX11_kept 19 = .ok (.ireturn, 1) := by decide +kernel
theorem dX11_kept_20 : decode cX11_kept 20 = .ok (.aload_n 0, 1) := by decide +kernel
theorem dX11_kept_21 : decode cX11_kept 21 = .ok (.iload_n 1, 1) := by decide +kernel
theorem dX11_kept_22 : decode cX11_kept 22 = .ok (.invokevirtual 275, 3) := by decide +kernel
theorem dX11_kept_25 : decode cX11_kept 25 = .ok (.iload_n 2, 1) := by decide +kernel
theorem dX11_kept_26 : decode cX11_kept 26 = .ok (.i2l, 1) := by decide +kernel
theorem dX11_kept_27 : decode cX11_kept 27 = .ok (.lconst 0, 1) := by decide +kernel
theorem dX11_kept_28 : decode cX11_kept 28 = .ok (.aload_n 0, 1) := by decide +kernel
theorem dX11_kept_29 : decode cX11_kept 29 = .ok (.invokevirtual 278, 3) := by decide +kernel
theorem dX11_kept_32 : decode cX11_kept 32 = .ok (.iconst 1, 1) := by decide +kernel
theorem dX11_kept_33 : decode cX11_kept 33 = .ok (.isub, 1) := by decide +kernel
theorem dX11_kept_34 : decode cX11_kept 34 = .ok (.i2l, 1) := by decide +kernel
theorem dX11_kept_35 : decode cX11_kept 35 = .ok (.invokestatic 78, 3) := by decide +kernel
theorem dX11_kept_38 : decode cX11_kept 38 = .ok (.ifCond .ne 5, 3) := by decide +kernel
theorem dX11_kept_41 : decode cX11_kept 41 = .ok (.iconst (-1), 1) := by decide +kernel
theorem dX11_kept_42 : decode cX11_kept 42 = .ok (.ireturn, 1) := by decide +kernel
theorem dX11_kept_43 : decode cX11_kept 43 = .ok (.iconst 0, 1) := by decide +kernel
theorem dX11_kept_44 : decode cX11_kept 44 = .ok (.istore_n 3, 1) := by decide +kernel
theorem dX11_kept_45 : decode cX11_kept 45 = .ok (.bipush (-9), 2) := by decide +kernel
theorem dX11_kept_47 : decode cX11_kept 47 = .ok (.istore 4, 2) := by decide +kernel
theorem dX11_kept_49 : decode cX11_kept 49 = .ok (.iconst 0, 1) := by decide +kernel
theorem dX11_kept_50 : decode cX11_kept 50 = .ok (.istore 5, 2) := by decide +kernel
theorem dX11_kept_52 : decode cX11_kept 52 = .ok (.iload 5, 2) := by decide +kernel
theorem dX11_kept_54 : decode cX11_kept 54 = .ok (.aload_n 0, 1) := by decide +kernel
theorem dX11_kept_55 : decode cX11_kept 55 = .ok (.getfield 241, 3) := by decide +kernel
theorem dX11_kept_58 : decode cX11_kept 58 = .ok (.if_icmp .ge 67, 3) := by decide +kernel
theorem dX11_kept_61 : decode cX11_kept 61 = .ok (.aload_n 0, 1) := by decide +kernel
theorem dX11_kept_62 : decode cX11_kept 62 = .ok (.getfield 65, 3) := by decide +kernel
theorem dX11_kept_65 : decode cX11_kept 65 = .ok (.iload 5, 2) := by decide +kernel
theorem dX11_kept_67 : decode cX11_kept 67 = .ok (.baload, 1) := by decide +kernel
theorem dX11_kept_68 : decode cX11_kept 68 = .ok (.ifCond .eq 29, 3) := by decide +kernel
theorem dX11_kept_71 : decode cX11_kept 71 = .ok (.iload_n 3, 1) := by decide +kernel
theorem dX11_kept_72 : decode cX11_kept 72 = .ok (.iload_n 2, 1) := by decide +kernel
theorem dX11_kept_73 : decode cX11_kept 73 = .ok (.if_icmp .ne 24, 3) := by decide +kernel
theorem dX11_kept_76 : decode cX11_kept 76 = .ok (.bipush 100, 2) := by decide +kernel
theorem dX11_kept_78 : decode cX11_kept 78 = .ok (.aload_n 0, 1) := by decide +kernel
theorem dX11_kept_79 : decode cX11_kept 79 = .ok (.getfield 53, 3) := by decide +kernel
theorem dX11_kept_82 : decode cX11_kept 82 = .ok (.iload 5, 2) := by decide +kernel
theorem dX11_kept_84 : decode cX11_kept 84 = .ok (.iaload, 1) := by decide +kernel
theorem dX11_kept_85 : decode cX11_kept 85 = .ok (.imul, 1) := by decide +kernel
theorem dX11_kept_86 : decode cX11_kept 86 = .ok (.aload_n 0, 1) := by decide +kernel
theorem dX11_kept_87 : decode cX11_kept 87 = .ok (.getfield 56, 3) := by decide +kernel
theorem dX11_kept_90 : decode cX11_kept 90 = .ok (.iload 5, 2) := by decide +kernel
theorem dX11_kept_92 : decode cX11_kept 92 = .ok (.iaload, 1) := by decide +kernel
theorem dX11_kept_93 : decode cX11_kept 93 = .ok (.iadd, 1) := by decide +kernel
theorem dX11_kept_94 : decode cX11_kept 94 = .ok (.goto 5, 3) := by decide +kernel
theorem dX11_kept_97 : decode cX11_kept 97 = .ok (.iload 4, 2) := by decide +kernel
theorem dX11_kept_99 : decode cX11_kept 99 = .ok (.istore 4, 2) := by decide +kernel
theorem dX11_kept_101 : decode cX11_kept 101 = .ok (.iload_n 3, 1) := by decide +kernel
theorem dX11_kept_102 : decode cX11_kept 102 = .ok (.aload_n 0, 1) := by decide +kernel
theorem dX11_kept_103 : decode cX11_kept 103 = .ok (.getfield 65, 3) := by decide +kernel
theorem dX11_kept_106 : decode cX11_kept 106 = .ok (.iload 5, 2) := by decide +kernel
theorem dX11_kept_108 : decode cX11_kept 108 = .ok (.baload, 1) := by decide +kernel
theorem dX11_kept_109 : decode cX11_kept 109 = .ok (.ifCond .eq 7, 3) := by decide +kernel
theorem dX11_kept_112 : decode cX11_kept 112 = .ok (.iconst 1, 1) := by decide +kernel
theorem dX11_kept_113 : decode cX11_kept 113 = .ok (.goto 4, 3) := by decide +kernel
theorem dX11_kept_116 : decode cX11_kept 116 = .ok (.iconst 0, 1) := by decide +kernel
theorem dX11_kept_117 : decode cX11_kept 117 = .ok (.iadd, 1) := by decide +kernel
theorem dX11_kept_118 : decode cX11_kept 118 = .ok (.istore_n 3, 1) := by decide +kernel
theorem dX11_kept_119 : decode cX11_kept 119 = .ok (.iinc 5 1, 3) := by decide +kernel
theorem dX11_kept_122 : decode cX11_kept 122 = .ok (.goto (-70), 3) := by decide +kernel
theorem dX11_kept_125 : decode cX11_kept 125 = .ok (.iload 4, 2) := by decide +kernel
theorem dX11_kept_127 : decode cX11_kept 127 = .ok (.ireturn, 1) := by decide +kernel
theorem dX11_found_0 : decode cX11_found 0 = .ok (.aload_n 0, 1) := by decide +kernel
theorem dX11_found_1 : decode cX11_found 1 = .ok (.iconst 0, 1) := by decide +kernel
theorem dX11_found_2 : decode cX11_found 2 = .ok (.putfield 74, 3) := by decide +kernel
theorem dX11_found_5 : decode cX11_found 5 = .ok (.iload_n 1, 1) := by decide +kernel
theorem dX11_found_6 : decode cX11_found 6 = .ok (.i2l, 1) := by decide +kernel
theorem dX11_found_7 : decode cX11_found 7 = .ok (.lconst 0, 1) := by decide +kernel
theorem dX11_found_8 : decode cX11_found 8 = .ok (.ldc2_w 149, 3) := by decide +kernel
theorem dX11_found_11 : decode cX11_found 11 = .ok (.invokestatic 78, 3) := by decide +kernel
theorem dX11_found_14 : decode cX11_found 14 = .ok (.ifCond .eq 15, 3) := by decide +kernel
theorem dX11_found_17 : decode cX11_found 17 = .ok (.iload_n 2, 1) := by decide +kernel
theorem dX11_found_18 : decode cX11_found 18 = .ok (.i2l, 1) := by decide +kernel
theorem dX11_found_19 : decode cX11_found 19 = .ok (.lconst 0, 1) := by decide +kernel
theorem dX11_found_20 : decode cX11_found 20 = .ok (.ldc2_w 213, 3) := by decide +kernel
theorem dX11_found_23 : decode cX11_found 23 = .ok (.invokestatic 78, 3) := by decide +kernel
theorem dX11_found_26 : decode cX11_found 26 = .ok (.ifCond .ne 6, 3) := by decide +kernel
theorem dX11_found_29 : decode cX11_found 29 = .ok (.bipush (-2), 2) := by decide +kernel
theorem dX11_found_31 : decode cX11_found 31 = .ok (.ireturn, 1) := by decide +kernel
theorem dX11_found_32 : decode cX11_found 32 = .ok (.aload_n 0, 1) := by decide +kernel
theorem dX11_found_33 : decode cX11_found 33 = .ok (.iload_n 1, 1) := by decide +kernel
theorem dX11_found_34 : decode cX11_found 34 = .ok (.invokevirtual 275, 3) := by decide +kernel
theorem dX11_found_37 : decode cX11_found 37 = .ok (.iconst 0, 1) := by decide +kernel
theorem dX11_found_38 : decode cX11_found 38 = .ok (.istore_n 3, 1) := by decide +kernel
theorem dX11_found_39 : decode cX11_found 39 = .ok (.aload_n 0, 1) := by decide +kernel
theorem dX11_found_40 : decode cX11_found 40 = .ok (.getfield 258, 3) := by decide +kernel
theorem dX11_found_43 : decode cX11_found 43 = .ok (.istore 4, 2) := by decide +kernel
theorem dX11_found_45 : decode cX11_found 45 = .ok (.iload 4, 2) := by decide +kernel
theorem dX11_found_47 : decode cX11_found 47 = .ok (.bipush (-9), 2) := by decide +kernel
theorem dX11_found_49 : decode cX11_found 49 = .ok (.if_icmp .eq 30, 3) := by decide +kernel
theorem dX11_found_52 : decode cX11_found 52 = .ok (.aload_n 0, 1) := by decide +kernel
theorem dX11_found_53 : decode cX11_found 53 = .ok (.getfield 59, 3) := by decide +kernel
theorem dX11_found_56 : decode cX11_found 56 = .ok (.iload 4, 2) := by decide +kernel
theorem dX11_found_58 : decode cX11_found 58 = .ok (.iaload, 1) := by decide +kernel
theorem dX11_found_59 : decode cX11_found 59 = .ok (.bipush (-9), 2) := by decide +kernel
theorem dX11_found_61 : decode cX11_found 61 = .ok (.if_icmp .eq 18, 3) := by decide +kernel
theorem dX11_found_64 : decode cX11_found 64 = .ok (.iinc 3 1, 3) := by decide +kernel
theorem dX11_found_67 : decode cX11_found 67 = .ok (.aload_n 0, 1) := by decide +kernel
theorem dX11_found_68 : decode cX11_found 68 = .ok (.getfield 59, 3) := by decide +kernel
theorem dX11_found_71 : decode cX11_found 71 = .ok (.iload 4, 2) := by decide +kernel
theorem dX11_found_73 : decode cX11_found 73 = .ok (.iaload, 1) := by decide +kernel
theorem dX11_found_74 : decode cX11_found 74 = .ok (.istore 4, 2) := by decide +kernel
theorem dX11_found_76 : decode cX11_found 76 = .ok (.goto (-31), 3) := by decide +kernel
theorem dX11_found_79 : decode cX11_found 79 = .ok (.aload_n 0, 1) := by decide +kernel
theorem dX11_found_80 : decode cX11_found 80 = .ok (.getfield 258, 3) := by decide +kernel
theorem dX11_found_83 : decode cX11_found 83 = .ok (.bipush (-9), 2) := by decide +kernel
theorem dX11_found_85 : decode cX11_found 85 = .ok (.if_icmp .eq 8, 3) := by decide +kernel
theorem dX11_found_88 : decode cX11_found 88 = .ok (.iload_n 2, 1) := by decide +kernel
theorem dX11_found_89 : decode cX11_found 89 = .ok (.iload_n 3, 1) := by decide +kernel
theorem dX11_found_90 : decode cX11_found 90 = .ok (.if_icmp .le 6, 3) := by decide +kernel
theorem dX11_found_93 : decode cX11_found 93 = .ok (.bipush (-9), 2) := by decide +kernel
theorem dX11_found_95 : decode cX11_found 95 = .ok (.ireturn, 1) := by decide +kernel
theorem dX11_found_96 : decode cX11_found 96 = .ok (.aload_n 0, 1) := by decide +kernel
theorem dX11_found_97 : decode cX11_found 97 = .ok (.getfield 258, 3) := by decide +kernel
theorem dX11_found_100 : decode cX11_found 100 = .ok (.istore 4, 2) := by decide +kernel
theorem dX11_found_102 : decode cX11_found 102 = .ok (.iload_n 3, 1) := by decide +kernel
theorem dX11_found_103 : decode cX11_found 103 = .ok (.istore 5, 2) := by decide +kernel
theorem dX11_found_105 : decode cX11_found 105 = .ok (.iload 5, 2) := by decide +kernel
theorem dX11_found_107 : decode cX11_found 107 = .ok (.iload_n 2, 1) := by decide +kernel
theorem dX11_found_108 : decode cX11_found 108 = .ok (.if_icmp .le 22, 3) := by decide +kernel
theorem dX11_found_111 : decode cX11_found 111 = .ok (.iload_n 2, 1) := by decide +kernel
theorem dX11_found_112 : decode cX11_found 112 = .ok (.ifCond .le 18, 3) := by decide +kernel
theorem dX11_found_115 : decode cX11_found 115 = .ok (.aload_n 0, 1) := by decide +kernel
theorem dX11_found_116 : decode cX11_found 116 = .ok (.getfield 59, 3) := by decide +kernel
theorem dX11_found_119 : decode cX11_found 119 = .ok (.iload 4, 2) := by decide +kernel
theorem dX11_found_121 : decode cX11_found 121 = .ok (.iaload, 1) := by decide +kernel
theorem dX11_found_122 : decode cX11_found 122 = .ok (.istore 4, 2) := by decide +kernel
theorem dX11_found_124 : decode cX11_found 124 = .ok (.iinc 5 (-1), 3) := by decide +kernel
theorem dX11_found_127 : decode cX11_found 127 = .ok (.goto (-22), 3) := by decide +kernel
theorem dX11_found_130 : decode cX11_found 130 = .ok (.iload_n 2, 1) := by decide +kernel
theorem dX11_found_131 : decode cX11_found 131 = .ok (.ifCond .ne 7, 3) := by decide +kernel
theorem dX11_found_134 : decode cX11_found 134 = .ok (.iload_n 3, 1) := by decide +kernel
theorem dX11_found_135 : decode cX11_found 135 = .ok (.goto 10, 3) := by decide +kernel
theorem dX11_found_138 : decode cX11_found 138 = .ok (.aload_n 0, 1) := by decide +kernel
theorem dX11_found_139 : decode cX11_found 139 = .ok (.getfield 62, 3) := by decide +kernel
theorem dX11_found_142 : decode cX11_found 142 = .ok (.iload 4, 2) := by decide +kernel
theorem dX11_found_144 : decode cX11_found 144 = .ok (.iaload, 1) := by decide +kernel
theorem dX11_found_145 : decode cX11_found 145 = .ok (.ireturn, 1) := by decide +kernel
theorem dX11_mended_0 : decode cX11_mended 0 = .ok (.aload_n 0, 1) := by decide +kernel
theorem dX11_mended_1 : decode cX11_mended 1 = .ok (.iconst 0, 1) := by decide +kernel
theorem dX11_mended_2 : decode cX11_mended 2 = .ok (.putfield 74, 3) := by decide +kernel
theorem dX11_mended_5 : decode cX11_mended 5 = .ok (.iload_n 1, 1) := by decide +kernel
theorem dX11_mended_6 : decode cX11_mended 6 = .ok (.i2l, 1) := by decide +kernel
theorem dX11_mended_7 : decode cX11_mended 7 = .ok (.lconst 0, 1) := by decide +kernel
theorem dX11_mended_8 : decode cX11_mended 8 = .ok (.lconst 1, 1) := by decide +kernel
theorem dX11_mended_9 : decode cX11_mended 9 = .ok (.invokestatic 78, 3) := by decide +kernel
theorem dX11_mended_12 : decode cX11_mended 12 = .ok (.ifCond .ne 5, 3) := by decide +kernel
theorem dX11_mended_15 : decode cX11_mended 15 = .ok (.iconst (-1), 1) := by decide +kernel
theorem dX11_mended_16 : decode cX11_mended 16 = .ok (.ireturn, 1) := by decide +kernel
theorem dX11_mended_17 : decode cX11_mended 17 = .ok (.iload_n 2, 1) := by decide +kernel
theorem dX11_mended_18 : decode cX11_mended 18 = .ok (.i2l, 1) := by decide +kernel
theorem dX11_mended_19 : decode cX11_mended 19 = .ok (.lconst 0, 1) := by decide +kernel
theorem dX11_mended_20 : decode cX11_mended 20 = .ok (.lconst 1, 1) := by decide +kernel
theorem dX11_mended_21 : decode cX11_mended 21 = .ok (.invokestatic 78, 3) := by decide +kernel
theorem dX11_mended_24 : decode cX11_mended 24 = .ok (.ifCond .ne 6, 3) := by decide +kernel
theorem dX11_mended_27 : decode cX11_mended 27 = .ok (.bipush (-2), 2) := by decide +kernel
theorem dX11_mended_29 : decode cX11_mended 29 = .ok (.ireturn, 1) := by decide +kernel
theorem dX11_mended_30 : decode cX11_mended 30 = .ok (.iconst 0, 1) := by decide +kernel
theorem dX11_mended_31 : decode cX11_mended 31 = .ok (.istore_n 3, 1) := by decide +kernel
theorem dX11_mended_32 : decode cX11_mended 32 = .ok (.bipush (-9), 2) := by decide +kernel
theorem dX11_mended_34 : decode cX11_mended 34 = .ok (.istore 4, 2) := by decide +kernel
theorem dX11_mended_36 : decode cX11_mended 36 = .ok (.aload_n 0, 1) := by decide +kernel
theorem dX11_mended_37 : decode cX11_mended 37 = .ok (.aload_n 0, 1) := by decide +kernel
theorem dX11_mended_38 : decode cX11_mended 38 = .ok (.getfield 16, 3) := by decide +kernel
theorem dX11_mended_41 : decode cX11_mended 41 = .ok (.invokevirtual 209, 3) := by decide +kernel
theorem dX11_mended_44 : decode cX11_mended 44 = .ok (.ifCond .ne 7, 3) := by decide +kernel
theorem dX11_mended_47 : decode cX11_mended 47 = .ok (.iconst 1, 1) := by decide +kernel
theorem dX11_mended_48 : decode cX11_mended 48 = .ok (.goto 4, 3) := by decide +kernel
theorem dX11_mended_51 : decode cX11_mended 51 = .ok (.iconst 0, 1) := by decide +kernel
theorem dX11_mended_52 : decode cX11_mended 52 = .ok (.istore 5, 2) := by decide +kernel
theorem dX11_mended_54 : decode cX11_mended 54 = .ok (.aload_n 0, 1) := by decide +kernel
theorem dX11_mended_55 : decode cX11_mended 55 = .ok (.getfield 16, 3) := by decide +kernel
theorem dX11_mended_58 : decode cX11_mended 58 = .ok (.iload_n 1, 1) := by decide +kernel
theorem dX11_mended_59 : decode cX11_mended 59 = .ok (.iaload, 1) := by decide +kernel
theorem dX11_mended_60 : decode cX11_mended 60 = .ok (.istore 6, 2) := by decide +kernel
theorem dX11_mended_62 : decode cX11_mended 62 = .ok (.iconst 2, 1) := by decide +kernel
theorem dX11_mended_63 : decode cX11_mended 63 = .ok (.iload 6, 2) := by decide +kernel
theorem dX11_mended_65 : decode cX11_mended 65 = .ok (.imul, 1) := by decide +kernel
theorem dX11_mended_66 : decode cX11_mended 66 = .ok (.iload 6, 2) := by decide +kernel
theorem dX11_mended_68 : decode cX11_mended 68 = .ok (.imul, 1) := by decide +kernel
theorem dX11_mended_69 : decode cX11_mended 69 = .ok (.iconst 1, 1) := by decide +kernel
theorem dX11_mended_70 : decode cX11_mended 70 = .ok (.isub, 1) := by decide +kernel
theorem dX11_mended_71 : decode cX11_mended 71 = .ok (.istore 7, 2) := by decide +kernel
theorem dX11_mended_73 : decode cX11_mended 73 = .ok (.iload 7, 2) := by decide +kernel
theorem dX11_mended_75 : decode cX11_mended 75 = .ok (.ifCond .lt 144, 3) := by decide +kernel
theorem dX11_mended_78 : decode cX11_mended 78 = .ok (.iload 5, 2) := by decide +kernel
theorem dX11_mended_80 : decode cX11_mended 80 = .ok (.ifCond .eq 139, 3) := by decide +kernel
theorem dX11_mended_83 : decode cX11_mended 83 = .ok (.iload 7, 2) := by decide +kernel
theorem dX11_mended_85 : decode cX11_mended 85 = .ok (.iconst 2, 1) := by decide +kernel
theorem dX11_mended_86 : decode cX11_mended 86 = .ok (.iload 6, 2) := by decide +kernel
theorem dX11_mended_88 : decode cX11_mended 88 = .ok (.imul, 1) := by decide +kernel
theorem dX11_mended_89 : decode cX11_mended 89 = .ok (.idiv, 1) := by decide +kernel
theorem dX11_mended_90 : decode cX11_mended 90 = .ok (.istore 8, 2) := by decide +kernel
theorem dX11_mended_92 : decode cX11_mended 92 = .ok (.iconst 1, 1) := by decide +kernel
theorem dX11_mended_93 : decode cX11_mended 93 = .ok (.iload 7, 2) := by decide +kernel
theorem dX11_mended_95 : decode cX11_mended 95 = .ok (.iload 6, 2) := by decide +kernel
theorem dX11_mended_97 : decode cX11_mended 97 = .ok (.idiv, 1) := by decide +kernel
theorem dX11_mended_98 : decode cX11_mended 98 = .ok (.iconst 2, 1) := by decide +kernel
theorem dX11_mended_99 : decode cX11_mended 99 = .ok (.irem, 1) := by decide +kernel
theorem dX11_mended_100 : decode cX11_mended 100 = .ok (.iadd, 1) := by decide +kernel
theorem dX11_mended_101 : decode cX11_mended 101 = .ok (.istore 9, 2) := by decide +kernel
theorem dX11_mended_103 : decode cX11_mended 103 = .ok (.iload 7, 2) := by decide +kernel
theorem dX11_mended_105 : decode cX11_mended 105 = .ok (.iload 6, 2) := by decide +kernel
theorem dX11_mended_107 : decode cX11_mended 107 = .ok (.irem, 1) := by decide +kernel
theorem dX11_mended_108 : decode cX11_mended 108 = .ok (.istore 10, 2) := by decide +kernel
theorem dX11_mended_110 : decode cX11_mended 110 = .ok (.aload_n 0, 1) := by decide +kernel
theorem dX11_mended_111 : decode cX11_mended 111 = .ok (.getfield 19, 3) := by decide +kernel
theorem dX11_mended_114 : decode cX11_mended 114 = .ok (.aload_n 0, 1) := by decide +kernel
theorem dX11_mended_115 : decode cX11_mended 115 = .ok (.getfield 16, 3) := by decide +kernel
theorem dX11_mended_118 : decode cX11_mended 118 = .ok (.invokestatic 135, 3) := by decide +kernel
theorem dX11_mended_121 : decode cX11_mended 121 = .ok (.aload_n 0, 1) := by decide +kernel
theorem dX11_mended_122 : decode cX11_mended 122 = .ok (.getfield 19, 3) := by decide +kernel
theorem dX11_mended_125 : decode cX11_mended 125 = .ok (.iload_n 1, 1) := by decide +kernel
theorem dX11_mended_126 : decode cX11_mended 126 = .ok (.iload 8, 2) := by decide +kernel
theorem dX11_mended_128 : decode cX11_mended 128 = .ok (.iload 9, 2) := by decide +kernel
theorem dX11_mended_130 : decode cX11_mended 130 = .ok (.invokestatic 86, 3) := by decide +kernel
theorem dX11_mended_133 : decode cX11_mended 133 = .ok (.dup2, 1) := by decide +kernel
theorem dX11_mended_134 : decode cX11_mended 134 = .ok (.iaload, 1) := by decide +kernel
theorem dX11_mended_135 : decode cX11_mended 135 = .ok (.iconst 1, 1) := by decide +kernel
theorem dX11_mended_136 : decode cX11_mended 136 = .ok (.iload 10, 2) := by decide +kernel
theorem dX11_mended_138 : decode cX11_mended 138 = .ok (.ishl, 1) := by decide +kernel
theorem dX11_mended_139 : decode cX11_mended 139 = .ok (.ixor, 1) := by decide +kernel
theorem dX11_mended_140 : decode cX11_mended 140 = .ok (.iastore, 1) := by decide +kernel
theorem dX11_mended_141 : decode cX11_mended 141 = .ok (.aload_n 0, 1) := by decide +kernel
theorem dX11_mended_142 : decode cX11_mended 142 = .ok (.getfield 16, 3) := by decide +kernel
theorem dX11_mended_145 : decode cX11_mended 145 = .ok (.iload_n 1, 1) := by decide +kernel
theorem dX11_mended_146 : decode cX11_mended 146 = .ok (.iload 8, 2) := by decide +kernel
theorem dX11_mended_148 : decode cX11_mended 148 = .ok (.iload 9, 2) := by decide +kernel
theorem dX11_mended_150 : decode cX11_mended 150 = .ok (.invokestatic 86, 3) := by decide +kernel
theorem dX11_mended_153 : decode cX11_mended 153 = .ok (.iaload, 1) := by decide +kernel
theorem dX11_mended_154 : decode cX11_mended 154 = .ok (.iload 10, 2) := by decide +kernel
theorem dX11_mended_156 : decode cX11_mended 156 = .ok (.invokestatic 82, 3) := by decide +kernel
theorem dX11_mended_159 : decode cX11_mended 159 = .ok (.iload_n 1, 1) := by decide +kernel
theorem dX11_mended_160 : decode cX11_mended 160 = .ok (.ifCond .ne 7, 3) := by decide +kernel
theorem dX11_mended_163 : decode cX11_mended 163 = .ok (.iconst 1, 1) := by decide +kernel
theorem dX11_mended_164 : decode cX11_mended 164 = .ok (.goto 4, 3) := by decide +kernel
theorem dX11_mended_167 : decode cX11_mended 167 = .ok (.iconst 0, 1) := by decide +kernel
theorem dX11_mended_168 : decode cX11_mended 168 = .ok (.if_icmp .ne 7, 3) := by decide +kernel
theorem dX11_mended_171 : decode cX11_mended 171 = .ok (.iconst 1, 1) := by decide +kernel
theorem dX11_mended_172 : decode cX11_mended 172 = .ok (.goto 4, 3) := by decide +kernel
theorem dX11_mended_175 : decode cX11_mended 175 = .ok (.iconst 0, 1) := by decide +kernel
theorem dX11_mended_176 : decode cX11_mended 176 = .ok (.istore 11, 2) := by decide +kernel
theorem dX11_mended_178 : decode cX11_mended 178 = .ok (.iload 11, 2) := by decide +kernel
theorem dX11_mended_180 : decode cX11_mended 180 = .ok (.ifCond .eq 33, 3) := by decide +kernel
theorem dX11_mended_183 : decode cX11_mended 183 = .ok (.aload_n 0, 1) := by decide +kernel
theorem dX11_mended_184 : decode cX11_mended 184 = .ok (.aload_n 0, 1) := by decide +kernel
theorem dX11_mended_185 : decode cX11_mended 185 = .ok (.getfield 19, 3) := by decide +kernel
theorem dX11_mended_188 : decode cX11_mended 188 = .ok (.invokevirtual 209, 3) := by decide +kernel
theorem dX11_mended_191 : decode cX11_mended 191 = .ok (.ifCond .eq 22, 3) := by decide +kernel
theorem dX11_mended_194 : decode cX11_mended 194 = .ok (.iinc 3 1, 3) := by decide +kernel
theorem dX11_mended_197 : decode cX11_mended 197 = .ok (.bipush 100, 2) := by decide +kernel
theorem dX11_mended_199 : decode cX11_mended 199 = .ok (.iload 8, 2) := by decide +kernel
theorem dX11_mended_201 : decode cX11_mended 201 = .ok (.imul, 1) := by decide +kernel
theorem dX11_mended_202 : decode cX11_mended 202 = .ok (.bipush 10, 2) := by decide +kernel
theorem dX11_mended_204 : decode cX11_mended 204 = .ok (.iload 9, 2) := by decide +kernel
theorem dX11_mended_206 : decode cX11_mended 206 = .ok (.imul, 1) := by decide +kernel
theorem dX11_mended_207 : decode cX11_mended 207 = .ok (.iadd, 1) := by decide +kernel
theorem dX11_mended_208 : decode cX11_mended 208 = .ok (.iload 10, 2) := by decide +kernel
theorem dX11_mended_210 : decode cX11_mended 210 = .ok (.iadd, 1) := by decide +kernel
theorem dX11_mended_211 : decode cX11_mended 211 = .ok (.istore 4, 2) := by decide +kernel
theorem dX11_mended_213 : decode cX11_mended 213 = .ok (.iinc 7 (-1), 3) := by decide +kernel
theorem dX11_mended_216 : decode cX11_mended 216 = .ok (.goto (-143), 3) := by decide +kernel
theorem dX11_mended_219 : decode cX11_mended 219 = .ok (.iload_n 2, 1) := by decide +kernel
theorem dX11_mended_220 : decode cX11_mended 220 = .ok (.ifCond .ne 7, 3) := by decide +kernel
theorem dX11_mended_223 : decode cX11_mended 223 = .ok (.iload_n 3, 1) := by decide +kernel
theorem dX11_mended_224 : decode cX11_mended 224 = .ok (.goto 5, 3) := by decide +kernel
theorem dX11_mended_227 : decode cX11_mended 227 = .ok (.iload 4, 2) := by decide +kernel
theorem dX11_mended_229 : decode cX11_mended 229 = .ok (.ireturn, 1) := by decide +kernel
theorem dX11_longPower_0 : decode cX11_longPower 0 = .ok (.lconst 1, 1) := by decide +kernel
theorem dX11_longPower_1 : decode cX11_longPower 1 = .ok (.lstore_n 3, 1) := by decide +kernel
theorem dX11_longPower_2 : decode cX11_longPower 2 = .ok (.iconst 0, 1) := by decide +kernel
theorem dX11_longPower_3 : decode cX11_longPower 3 = .ok (.istore 5, 2) := by decide +kernel
theorem dX11_longPower_5 : decode cX11_longPower 5 = .ok (.iload 5, 2) := by decide +kernel
theorem dX11_longPower_7 : decode cX11_longPower 7 = .ok (.iload_n 2, 1) := by decide +kernel
theorem dX11_longPower_8 : decode cX11_longPower 8 = .ok (.if_icmp .ge 13, 3) := by decide +kernel
theorem dX11_longPower_11 : decode cX11_longPower 11 = .ok (.lload_n 3, 1) := by decide +kernel
theorem dX11_longPower_12 : decode cX11_longPower 12 = .ok (.lload_n 0, 1) := by decide +kernel
theorem dX11_longPower_13 : decode cX11_longPower 13 = .ok (.lmul, 1) := by decide +kernel
theorem dX11_longPower_14 : decode cX11_longPower 14 = .ok (.lstore_n 3, 1) := by decide +kernel
theorem dX11_longPower_15 : decode cX11_longPower 15 = .ok (.iinc 5 1, 3) := by decide +kernel
theorem dX11_longPower_18 : decode cX11_longPower 18 = .ok (.goto (-13), 3) := by decide +kernel
theorem dX11_longPower_21 : decode cX11_longPower 21 = .ok (.lload_n 3, 1) := by decide +kernel
theorem dX11_longPower_22 : decode cX11_longPower 22 = .ok (.lreturn, 1) := by decide +kernel
theorem dX11_does_0 : decode cX11_does 0 = .ok (.iload_n 1, 1) := by decide +kernel
theorem dX11_does_1 : decode cX11_does 1 = .ok (.sipush 1000, 3) := by decide +kernel
theorem dX11_does_4 : decode cX11_does 4 = .ok (.idiv, 1) := by decide +kernel
theorem dX11_does_5 : decode cX11_does 5 = .ok (.bipush 10, 2) := by decide +kernel
theorem dX11_does_7 : decode cX11_does 7 = .ok (.irem, 1) := by decide +kernel
theorem dX11_does_8 : decode cX11_does 8 = .ok (.istore_n 2, 1) := by decide +kernel
theorem dX11_does_9 : decode cX11_does 9 = .ok (.iload_n 1, 1) := by decide +kernel
theorem dX11_does_10 : decode cX11_does 10 = .ok (.bipush 100, 2) := by decide +kernel
theorem dX11_does_12 : decode cX11_does 12 = .ok (.idiv, 1) := by decide +kernel
theorem dX11_does_13 : decode cX11_does 13 = .ok (.bipush 10, 2) := by decide +kernel
theorem dX11_does_15 : decode cX11_does 15 = .ok (.irem, 1) := by decide +kernel
theorem dX11_does_16 : decode cX11_does 16 = .ok (.istore_n 3, 1) := by decide +kernel
theorem dX11_does_17 : decode cX11_does 17 = .ok (.iload_n 1, 1) := by decide +kernel
theorem dX11_does_18 : decode cX11_does 18 = .ok (.bipush 10, 2) := by decide +kernel
theorem dX11_does_20 : decode cX11_does 20 = .ok (.idiv, 1) := by decide +kernel
theorem dX11_does_21 : decode cX11_does 21 = .ok (.bipush 10, 2) := by decide +kernel
theorem dX11_does_23 : decode cX11_does 23 = .ok (.irem, 1) := by decide +kernel
theorem dX11_does_24 : decode cX11_does 24 = .ok (.istore 4, 2) := by decide +kernel
theorem dX11_does_26 : decode cX11_does 26 = .ok (.iload_n 1, 1) := by decide +kernel
theorem dX11_does_27 : decode cX11_does 27 = .ok (.bipush 10, 2) := by decide +kernel
theorem dX11_does_29 : decode cX11_does 29 = .ok (.irem, 1) := by decide +kernel
theorem dX11_does_30 : decode cX11_does 30 = .ok (.istore 5, 2) := by decide +kernel
theorem dX11_does_32 : decode cX11_does 32 = .ok (.iload_n 2, 1) := by decide +kernel
theorem dX11_does_33 : decode cX11_does 33 = .ok (.iconst 2, 1) := by decide +kernel
theorem dX11_does_34 : decode cX11_does 34 = .ok (.if_icmp .ge 7, 3) := by decide +kernel
theorem dX11_does_37 : decode cX11_does 37 = .ok (.iload_n 2, 1) := by decide +kernel
theorem dX11_does_38 : decode cX11_does 38 = .ok (.goto 4, 3) := by decide +kernel
theorem dX11_does_41 : decode cX11_does 41 = .ok (.iconst 0, 1) := by decide +kernel
theorem dX11_does_42 : decode cX11_does 42 = .ok (.istore 6, 2) := by decide +kernel
theorem dX11_does_44 : decode cX11_does 44 = .ok (.iload_n 2, 1) := by decide +kernel
theorem dX11_does_45 : decode cX11_does 45 = .ok (.iconst 2, 1) := by decide +kernel
theorem dX11_does_46 : decode cX11_does 46 = .ok (.if_icmp .ge 18, 3) := by decide +kernel
theorem dX11_does_49 : decode cX11_does 49 = .ok (.iload_n 3, 1) := by decide +kernel
theorem dX11_does_50 : decode cX11_does 50 = .ok (.aload_n 0, 1) := by decide +kernel
theorem dX11_does_51 : decode cX11_does 51 = .ok (.getfield 19, 3) := by decide +kernel
theorem dX11_does_54 : decode cX11_does 54 = .ok (.iload 6, 2) := by decide +kernel
theorem dX11_does_56 : decode cX11_does 56 = .ok (.iaload, 1) := by decide +kernel
theorem dX11_does_57 : decode cX11_does 57 = .ok (.if_icmp .ge 7, 3) := by decide +kernel
theorem dX11_does_60 : decode cX11_does 60 = .ok (.iconst 1, 1) := by decide +kernel
theorem dX11_does_61 : decode cX11_does 61 = .ok (.goto 4, 3) := by decide +kernel
theorem dX11_does_64 : decode cX11_does 64 = .ok (.iconst 0, 1) := by decide +kernel
theorem dX11_does_65 : decode cX11_does 65 = .ok (.istore 7, 2) := by decide +kernel
theorem dX11_does_67 : decode cX11_does 67 = .ok (.iload_n 1, 1) := by decide +kernel
theorem dX11_does_68 : decode cX11_does 68 = .ok (.sipush 10000, 3) := by decide +kernel
theorem dX11_does_71 : decode cX11_does 71 = .ok (.idiv, 1) := by decide +kernel
theorem dX11_does_72 : decode cX11_does 72 = .ok (.tableswitch 299 1 5 #[36, 101, 150, 190, 227], 36) := by decide +kernel
theorem dX11_does_108 : decode cX11_does 108 = .ok (.iload 7, 2) := by decide +kernel
theorem dX11_does_110 : decode cX11_does 110 = .ok (.ifCond .eq 32, 3) := by decide +kernel
theorem dX11_does_113 : decode cX11_does 113 = .ok (.iload 4, 2) := by decide +kernel
theorem dX11_does_115 : decode cX11_does 115 = .ok (.i2l, 1) := by decide +kernel
theorem dX11_does_116 : decode cX11_does 116 = .ok (.lconst 1, 1) := by decide +kernel
theorem dX11_does_117 : decode cX11_does 117 = .ok (.ldc2_w 149, 3) := by decide +kernel
theorem dX11_does_120 : decode cX11_does 120 = .ok (.invokestatic 78, 3) := by decide +kernel
theorem dX11_does_123 : decode cX11_does 123 = .ok (.ifCond .eq 19, 3) := by decide +kernel
theorem dX11_does_126 : decode cX11_does 126 = .ok (.iload 5, 2) := by decide +kernel
theorem dX11_does_128 : decode cX11_does 128 = .ok (.aload_n 0, 1) := by decide +kernel
theorem dX11_does_129 : decode cX11_does 129 = .ok (.getfield 19, 3) := by decide +kernel
theorem dX11_does_132 : decode cX11_does 132 = .ok (.iload 6, 2) := by decide +kernel
theorem dX11_does_134 : decode cX11_does 134 = .ok (.iaload, 1) := by decide +kernel
theorem dX11_does_135 : decode cX11_does 135 = .ok (.if_icmp .ge 7, 3) := by decide +kernel
theorem dX11_does_138 : decode cX11_does 138 = .ok (.iconst 1, 1) := by decide +kernel
theorem dX11_does_139 : decode cX11_does 139 = .ok (.goto 4, 3) := by decide +kernel
theorem dX11_does_142 : decode cX11_does 142 = .ok (.iconst 0, 1) := by decide +kernel
theorem dX11_does_143 : decode cX11_does 143 = .ok (.istore 8, 2) := by decide +kernel
theorem dX11_does_145 : decode cX11_does 145 = .ok (.iload 8, 2) := by decide +kernel
theorem dX11_does_147 : decode cX11_does 147 = .ok (.ifCond .eq 23, 3) := by decide +kernel
theorem dX11_does_150 : decode cX11_does 150 = .ok (.aload_n 0, 1) := by decide +kernel
theorem dX11_does_151 : decode cX11_does 151 = .ok (.getfield 19, 3) := by decide +kernel
theorem dX11_does_154 : decode cX11_does 154 = .ok (.iload 6, 2) := by decide +kernel
theorem dX11_does_156 : decode cX11_does 156 = .ok (.iload_n 3, 1) := by decide +kernel
theorem dX11_does_157 : decode cX11_does 157 = .ok (.iload 4, 2) := by decide +kernel
theorem dX11_does_159 : decode cX11_does 159 = .ok (.invokestatic 86, 3) := by decide +kernel
theorem dX11_does_162 : decode cX11_does 162 = .ok (.dup2, 1) := by decide +kernel
theorem dX11_does_163 : decode cX11_does 163 = .ok (.iaload, 1) := by decide +kernel
theorem dX11_does_164 : decode cX11_does 164 = .ok (.iconst 1, 1) := by decide +kernel
theorem dX11_does_165 : decode cX11_does 165 = .ok (.iload 5, 2) := by decide +kernel
theorem dX11_does_167 : decode cX11_does 167 = .ok (.ishl, 1) := by decide +kernel
theorem dX11_does_168 : decode cX11_does 168 = .ok (.ixor, 1) := by decide +kernel
theorem dX11_does_169 : decode cX11_does 169 = .ok (.iastore, 1) := by decide +kernel
theorem dX11_does_170 : decode cX11_does 170 = .ok (.iload 8, 2) := by decide +kernel
theorem dX11_does_172 : decode cX11_does 172 = .ok (.ireturn, 1) := by decide +kernel
theorem dX11_does_173 : decode cX11_does 173 = .ok (.iload 7, 2) := by decide +kernel
theorem dX11_does_175 : decode cX11_does 175 = .ok (.ifCond .eq 17, 3) := by decide +kernel
theorem dX11_does_178 : decode cX11_does 178 = .ok (.iload 4, 2) := by decide +kernel
theorem dX11_does_180 : decode cX11_does 180 = .ok (.ifCond .ne 12, 3) := by decide +kernel
theorem dX11_does_183 : decode cX11_does 183 = .ok (.iload 5, 2) := by decide +kernel
theorem dX11_does_185 : decode cX11_does 185 = .ok (.ifCond .ne 7, 3) := by decide +kernel
theorem dX11_does_188 : decode cX11_does 188 = .ok (.iconst 1, 1) := by decide +kernel
theorem dX11_does_189 : decode cX11_does 189 = .ok (.goto 4, 3) := by decide +kernel
theorem dX11_does_192 : decode cX11_does 192 = .ok (.iconst 0, 1) := by decide +kernel
theorem dX11_does_193 : decode cX11_does 193 = .ok (.istore 9, 2) := by decide +kernel
theorem dX11_does_195 : decode cX11_does 195 = .ok (.aload_n 0, 1) := by decide +kernel
theorem dX11_does_196 : decode cX11_does 196 = .ok (.getfield 19, 3) := by decide +kernel
theorem dX11_does_199 : decode cX11_does 199 = .ok (.iconst 2, 1) := by decide +kernel
theorem dX11_does_200 : decode cX11_does 200 = .ok (.iload 6, 2) := by decide +kernel
theorem dX11_does_202 : decode cX11_does 202 = .ok (.iadd, 1) := by decide +kernel
theorem dX11_does_203 : decode cX11_does 203 = .ok (.dup2, 1) := by decide +kernel
theorem dX11_does_204 : decode cX11_does 204 = .ok (.iaload, 1) := by decide +kernel
theorem dX11_does_205 : decode cX11_does 205 = .ok (.iload 9, 2) := by decide +kernel
theorem dX11_does_207 : decode cX11_does 207 = .ok (.ifCond .eq 9, 3) := by decide +kernel
theorem dX11_does_210 : decode cX11_does 210 = .ok (.iconst 1, 1) := by decide +kernel
theorem dX11_does_211 : decode cX11_does 211 = .ok (.iload_n 3, 1) := by decide +kernel
theorem dX11_does_212 : decode cX11_does 212 = .ok (.ishl, 1) := by decide +kernel
theorem dX11_does_213 : decode cX11_does 213 = .ok (.goto 4, 3) := by decide +kernel
theorem dX11_does_216 : decode cX11_does 216 = .ok (.iconst 0, 1) := by decide +kernel
theorem dX11_does_217 : decode cX11_does 217 = .ok (.ixor, 1) := by decide +kernel
theorem dX11_does_218 : decode cX11_does 218 = .ok (.iastore, 1) := by decide +kernel
theorem dX11_does_219 : decode cX11_does 219 = .ok (.iload 9, 2) := by decide +kernel
theorem dX11_does_221 : decode cX11_does 221 = .ok (.ireturn, 1) := by decide +kernel
theorem dX11_does_222 : decode cX11_does 222 = .ok (.iload_n 2, 1) := by decide +kernel
theorem dX11_does_223 : decode cX11_does 223 = .ok (.iconst 2, 1) := by decide +kernel
theorem dX11_does_224 : decode cX11_does 224 = .ok (.if_icmp .ge 36, 3) := by decide +kernel
theorem dX11_does_227 : decode cX11_does 227 = .ok (.iload_n 1, 1) := by decide +kernel
theorem dX11_does_228 : decode cX11_does 228 = .ok (.sipush 1000, 3) := by decide +kernel
theorem dX11_does_231 : decode cX11_does 231 = .ok (.irem, 1) := by decide +kernel
theorem dX11_does_232 : decode cX11_does 232 = .ok (.invokestatic 176, 3) := by decide +kernel
theorem dX11_does_235 : decode cX11_does 235 = .ok (.ifCond .eq 25, 3) := by decide +kernel
theorem dX11_does_238 : decode cX11_does 238 = .ok (.aload_n 0, 1) := by decide +kernel
theorem dX11_does_239 : decode cX11_does 239 = .ok (.getfield 19, 3) := by decide +kernel
theorem dX11_does_242 : decode cX11_does 242 = .ok (.iload 6, 2) := by decide +kernel
theorem dX11_does_244 : decode cX11_does 244 = .ok (.iconst 1, 1) := by decide +kernel
theorem dX11_does_245 : decode cX11_does 245 = .ok (.iload_n 1, 1) := by decide +kernel
theorem dX11_does_246 : decode cX11_does 246 = .ok (.sipush 1000, 3) := by decide +kernel
theorem dX11_does_249 : decode cX11_does 249 = .ok (.irem, 1) := by decide +kernel
theorem dX11_does_250 : decode cX11_does 250 = .ok (.invokestatic 179, 3) := by decide +kernel
theorem dX11_does_253 : decode cX11_does 253 = .ok (.ifCond .eq 7, 3) := by decide +kernel
theorem dX11_does_256 : decode cX11_does 256 = .ok (.iconst 1, 1) := by decide +kernel
theorem dX11_does_257 : decode cX11_does 257 = .ok (.goto 4, 3) := by decide +kernel
theorem dX11_does_260 : decode cX11_does 260 = .ok (.iconst 0, 1) := by decide +kernel
theorem dX11_does_261 : decode cX11_does 261 = .ok (.ireturn, 1) := by decide +kernel
theorem dX11_does_262 : decode cX11_does 262 = .ok (.iload_n 1, 1) := by decide +kernel
theorem dX11_does_263 : decode cX11_does 263 = .ok (.sipush 10000, 3) := by decide +kernel
theorem dX11_does_266 : decode cX11_does 266 = .ok (.irem, 1) := by decide +kernel
theorem dX11_does_267 : decode cX11_does 267 = .ok (.iconst 2, 1) := by decide +kernel
theorem dX11_does_268 : decode cX11_does 268 = .ok (.if_icmp .ge 29, 3) := by decide +kernel
theorem dX11_does_271 : decode cX11_does 271 = .ok (.aload_n 0, 1) := by decide +kernel
theorem dX11_does_272 : decode cX11_does 272 = .ok (.aload_n 0, 1) := by decide +kernel
theorem dX11_does_273 : decode cX11_does 273 = .ok (.getfield 19, 3) := by decide +kernel
theorem dX11_does_276 : decode cX11_does 276 = .ok (.invokevirtual 209, 3) := by decide +kernel
theorem dX11_does_279 : decode cX11_does 279 = .ok (.iload 5, 2) := by decide +kernel
theorem dX11_does_281 : decode cX11_does 281 = .ok (.iconst 1, 1) := by decide +kernel
theorem dX11_does_282 : decode cX11_does 282 = .ok (.if_icmp .ne 7, 3) := by decide +kernel
theorem dX11_does_285 : decode cX11_does 285 = .ok (.iconst 1, 1) := by decide +kernel
theorem dX11_does_286 : decode cX11_does 286 = .ok (.goto 4, 3) := by decide +kernel
theorem dX11_does_289 : decode cX11_does 289 = .ok (.iconst 0, 1) := by decide +kernel
theorem dX11_does_290 : decode cX11_does 290 = .ok (.if_icmp .ne 7, 3) := by decide +kernel
theorem dX11_does_293 : decode cX11_does 293 = .ok (.iconst 1, 1) := by decide +kernel
theorem dX11_does_294 : decode cX11_does 294 = .ok (.goto 4, 3) := by decide +kernel
theorem dX11_does_297 : decode cX11_does 297 = .ok (.iconst 0, 1) := by decide +kernel
theorem dX11_does_298 : decode cX11_does 298 = .ok (.ireturn, 1) := by decide +kernel
theorem dX11_does_299 : decode cX11_does 299 = .ok (.aload_n 0, 1) := by decide +kernel
theorem dX11_does_300 : decode cX11_does 300 = .ok (.aload_n 0, 1) := by decide +kernel
theorem dX11_does_301 : decode cX11_does 301 = .ok (.getfield 19, 3) := by decide +kernel
theorem dX11_does_304 : decode cX11_does 304 = .ok (.invokevirtual 231, 3) := by decide +kernel
theorem dX11_does_307 : decode cX11_does 307 = .ok (.iload_n 2, 1) := by decide +kernel
theorem dX11_does_308 : decode cX11_does 308 = .ok (.aload_n 0, 1) := by decide +kernel
theorem dX11_does_309 : decode cX11_does 309 = .ok (.getfield 19, 3) := by decide +kernel
theorem dX11_does_312 : decode cX11_does 312 = .ok (.iconst 0, 1) := by decide +kernel
theorem dX11_does_313 : decode cX11_does 313 = .ok (.iaload, 1) := by decide +kernel
theorem dX11_does_314 : decode cX11_does 314 = .ok (.if_icmp .ge 55, 3) := by decide +kernel
theorem dX11_does_317 : decode cX11_does 317 = .ok (.iload_n 3, 1) := by decide +kernel
theorem dX11_does_318 : decode cX11_does 318 = .ok (.aload_n 0, 1) := by decide +kernel
theorem dX11_does_319 : decode cX11_does 319 = .ok (.getfield 19, 3) := by decide +kernel
theorem dX11_does_322 : decode cX11_does 322 = .ok (.iconst 1, 1) := by decide +kernel
theorem dX11_does_323 : decode cX11_does 323 = .ok (.iaload, 1) := by decide +kernel
theorem dX11_does_324 : decode cX11_does 324 = .ok (.if_icmp .ge 45, 3) := by decide +kernel
theorem dX11_does_327 : decode cX11_does 327 = .ok (.iload 4, 2) := by decide +kernel
theorem dX11_does_329 : decode cX11_does 329 = .ok (.ifCond .ne 40, 3) := by decide +kernel
theorem dX11_does_332 : decode cX11_does 332 = .ok (.iload 5, 2) := by decide +kernel
theorem dX11_does_334 : decode cX11_does 334 = .ok (.iconst 2, 1) := by decide +kernel
theorem dX11_does_335 : decode cX11_does 335 = .ok (.if_icmp .ge 34, 3) := by decide +kernel
theorem dX11_does_338 : decode cX11_does 338 = .ok (.aload_n 0, 1) := by decide +kernel
theorem dX11_does_339 : decode cX11_does 339 = .ok (.getfield 50, 3) := by decide +kernel
theorem dX11_does_342 : decode cX11_does 342 = .ok (.bipush 9, 2) := by decide +kernel
theorem dX11_does_344 : decode cX11_does 344 = .ok (.iload_n 2, 1) := by decide +kernel
theorem dX11_does_345 : decode cX11_does 345 = .ok (.imul, 1) := by decide +kernel
theorem dX11_does_346 : decode cX11_does 346 = .ok (.iconst 4, 1) := by decide +kernel
theorem dX11_does_347 : decode cX11_does 347 = .ok (.iadd, 1) := by decide +kernel
theorem dX11_does_348 : decode cX11_does 348 = .ok (.iload_n 3, 1) := by decide +kernel
theorem dX11_does_349 : decode cX11_does 349 = .ok (.iadd, 1) := by decide +kernel
theorem dX11_does_350 : decode cX11_does 350 = .ok (.baload, 1) := by decide +kernel
theorem dX11_does_351 : decode cX11_does 351 = .ok (.iload 5, 2) := by decide +kernel
theorem dX11_does_353 : decode cX11_does 353 = .ok (.iconst 1, 1) := by decide +kernel
theorem dX11_does_354 : decode cX11_does 354 = .ok (.if_icmp .ne 7, 3) := by decide +kernel
theorem dX11_does_357 : decode cX11_does 357 = .ok (.iconst 1, 1) := by decide +kernel
theorem dX11_does_358 : decode cX11_does 358 = .ok (.goto 4, 3) := by decide +kernel
theorem dX11_does_361 : decode cX11_does 361 = .ok (.iconst 0, 1) := by decide +kernel
theorem dX11_does_362 : decode cX11_does 362 = .ok (.if_icmp .ne 7, 3) := by decide +kernel
theorem dX11_does_365 : decode cX11_does 365 = .ok (.iconst 1, 1) := by decide +kernel
theorem dX11_does_366 : decode cX11_does 366 = .ok (.goto 4, 3) := by decide +kernel
theorem dX11_does_369 : decode cX11_does 369 = .ok (.iconst 0, 1) := by decide +kernel
theorem dX11_does_370 : decode cX11_does 370 = .ok (.ireturn, 1) := by decide +kernel
theorem dX11_does_371 : decode cX11_does 371 = .ok (.iconst 0, 1) := by decide +kernel
theorem dX11_does_372 : decode cX11_does 372 = .ok (.ireturn, 1) := by decide +kernel
theorem dX11_judge_0 : decode cX11_judge 0 = .ok (.aload_n 0, 1) := by decide +kernel
theorem dX11_judge_1 : decode cX11_judge 1 = .ok (.iconst 0, 1) := by decide +kernel
theorem dX11_judge_2 : decode cX11_judge 2 = .ok (.putfield 74, 3) := by decide +kernel
theorem dX11_judge_5 : decode cX11_judge 5 = .ok (.iload_n 1, 1) := by decide +kernel
theorem dX11_judge_6 : decode cX11_judge 6 = .ok (.i2l, 1) := by decide +kernel
theorem dX11_judge_7 : decode cX11_judge 7 = .ok (.lconst 1, 1) := by decide +kernel
theorem dX11_judge_8 : decode cX11_judge 8 = .ok (.ldc2_w 185, 3) := by decide +kernel
theorem dX11_judge_11 : decode cX11_judge 11 = .ok (.invokestatic 78, 3) := by decide +kernel
theorem dX11_judge_14 : decode cX11_judge 14 = .ok (.ifCond .eq 20, 3) := by decide +kernel
theorem dX11_judge_17 : decode cX11_judge 17 = .ok (.lload_n 2, 1) := by decide +kernel
theorem dX11_judge_18 : decode cX11_judge 18 = .ok (.lconst 0, 1) := by decide +kernel
theorem dX11_judge_19 : decode cX11_judge 19 = .ok (.ldc2_w 281, 3) := by decide +kernel
theorem dX11_judge_22 : decode cX11_judge 22 = .ok (.iload_n 1, 1) := by decide +kernel
theorem dX11_judge_23 : decode cX11_judge 23 = .ok (.invokestatic 283, 3) := by decide +kernel
theorem dX11_judge_26 : decode cX11_judge 26 = .ok (.lconst 1, 1) := by decide +kernel
theorem dX11_judge_27 : decode cX11_judge 27 = .ok (.lsub, 1) := by decide +kernel
theorem dX11_judge_28 : decode cX11_judge 28 = .ok (.invokestatic 78, 3) := by decide +kernel
theorem dX11_judge_31 : decode cX11_judge 31 = .ok (.ifCond .ne 6, 3) := by decide +kernel
theorem dX11_judge_34 : decode cX11_judge 34 = .ok (.bipush (-2), 2) := by decide +kernel
theorem dX11_judge_36 : decode cX11_judge 36 = .ok (.ireturn, 1) := by decide +kernel
theorem dX11_judge_37 : decode cX11_judge 37 = .ok (.aload_n 0, 1) := by decide +kernel
theorem dX11_judge_38 : decode cX11_judge 38 = .ok (.getfield 19, 3) := by decide +kernel
theorem dX11_judge_41 : decode cX11_judge 41 = .ok (.aload_n 0, 1) := by decide +kernel
theorem dX11_judge_42 : decode cX11_judge 42 = .ok (.getfield 16, 3) := by decide +kernel
theorem dX11_judge_45 : decode cX11_judge 45 = .ok (.invokestatic 135, 3) := by decide +kernel
theorem dX11_judge_48 : decode cX11_judge 48 = .ok (.iconst 0, 1) := by decide +kernel
theorem dX11_judge_49 : decode cX11_judge 49 = .ok (.istore 4, 2) := by decide +kernel
theorem dX11_judge_51 : decode cX11_judge 51 = .ok (.iload 4, 2) := by decide +kernel
theorem dX11_judge_53 : decode cX11_judge 53 = .ok (.iload_n 1, 1) := by decide +kernel
theorem dX11_judge_54 : decode cX11_judge 54 = .ok (.if_icmp .ge 38, 3) := by decide +kernel
theorem dX11_judge_57 : decode cX11_judge 57 = .ok (.aload_n 0, 1) := by decide +kernel
theorem dX11_judge_58 : decode cX11_judge 58 = .ok (.lload_n 2, 1) := by decide +kernel
theorem dX11_judge_59 : decode cX11_judge 59 = .ok (.ldc2_w 281, 3) := by decide +kernel
theorem dX11_judge_62 : decode cX11_judge 62 = .ok (.iload_n 1, 1) := by decide +kernel
theorem dX11_judge_63 : decode cX11_judge 63 = .ok (.iconst 1, 1) := by decide +kernel
theorem dX11_judge_64 : decode cX11_judge 64 = .ok (.isub, 1) := by decide +kernel
theorem dX11_judge_65 : decode cX11_judge 65 = .ok (.iload 4, 2) := by decide +kernel
theorem dX11_judge_67 : decode cX11_judge 67 = .ok (.isub, 1) := by decide +kernel
theorem dX11_judge_68 : decode cX11_judge 68 = .ok (.invokestatic 283, 3) := by decide +kernel
theorem dX11_judge_71 : decode cX11_judge 71 = .ok (.ldiv, 1) := by decide +kernel
theorem dX11_judge_72 : decode cX11_judge 72 = .ok (.ldc2_w 281, 3) := by decide +kernel
theorem dX11_judge_75 : decode cX11_judge 75 = .ok (.lrem, 1) := by decide +kernel
theorem dX11_judge_76 : decode cX11_judge 76 = .ok (.l2i, 1) := by decide +kernel
theorem dX11_judge_77 : decode cX11_judge 77 = .ok (.invokevirtual 287, 3) := by decide +kernel
theorem dX11_judge_80 : decode cX11_judge 80 = .ok (.ifCond .ne 6, 3) := by decide +kernel
theorem dX11_judge_83 : decode cX11_judge 83 = .ok (.iload 4, 2) := by decide +kernel
theorem dX11_judge_85 : decode cX11_judge 85 = .ok (.ireturn, 1) := by decide +kernel
theorem dX11_judge_86 : decode cX11_judge 86 = .ok (.iinc 4 1, 3) := by decide +kernel
theorem dX11_judge_89 : decode cX11_judge 89 = .ok (.goto (-38), 3) := by decide +kernel
theorem dX11_judge_92 : decode cX11_judge 92 = .ok (.bipush (-9), 2) := by decide +kernel
theorem dX11_judge_94 : decode cX11_judge 94 = .ok (.ireturn, 1) := by decide +kernel
theorem dX11_see_0 : decode cX11_see 0 = .ok (.aload_n 0, 1) := by decide +kernel
theorem dX11_see_1 : decode cX11_see 1 = .ok (.iconst 0, 1) := by decide +kernel
theorem dX11_see_2 : decode cX11_see 2 = .ok (.putfield 74, 3) := by decide +kernel
theorem dX11_see_5 : decode cX11_see 5 = .ok (.iload_n 1, 1) := by decide +kernel
theorem dX11_see_6 : decode cX11_see 6 = .ok (.invokestatic 176, 3) := by decide +kernel
theorem dX11_see_9 : decode cX11_see 9 = .ok (.ifCond .eq 13, 3) := by decide +kernel
theorem dX11_see_12 : decode cX11_see 12 = .ok (.iload_n 2, 1) := by decide +kernel
theorem dX11_see_13 : decode cX11_see 13 = .ok (.i2l, 1) := by decide +kernel
theorem dX11_see_14 : decode cX11_see 14 = .ok (.lconst 0, 1) := by decide +kernel
theorem dX11_see_15 : decode cX11_see 15 = .ok (.lconst 1, 1) := by decide +kernel
theorem dX11_see_16 : decode cX11_see 16 = .ok (.invokestatic 78, 3) := by decide +kernel
theorem dX11_see_19 : decode cX11_see 19 = .ok (.ifCond .ne 6, 3) := by decide +kernel
theorem dX11_see_22 : decode cX11_see 22 = .ok (.bipush (-2), 2) := by decide +kernel
theorem dX11_see_24 : decode cX11_see 24 = .ok (.ireturn, 1) := by decide +kernel
theorem dX11_see_25 : decode cX11_see 25 = .ok (.aload_n 0, 1) := by decide +kernel
theorem dX11_see_26 : decode cX11_see 26 = .ok (.getfield 290, 3) := by decide +kernel
theorem dX11_see_29 : decode cX11_see 29 = .ok (.bipush 6, 2) := by decide +kernel
theorem dX11_see_31 : decode cX11_see 31 = .ok (.if_icmp .ne 6, 3) := by decide +kernel
theorem dX11_see_34 : decode cX11_see 34 = .ok (.bipush (-4), 2) := by decide +kernel
theorem dX11_see_36 : decode cX11_see 36 = .ok (.ireturn, 1) := by decide +kernel
theorem dX11_see_37 : decode cX11_see 37 = .ok (.aload_n 0, 1) := by decide +kernel
theorem dX11_see_38 : decode cX11_see 38 = .ok (.getfield 32, 3) := by decide +kernel
theorem dX11_see_41 : decode cX11_see 41 = .ok (.aload_n 0, 1) := by decide +kernel
theorem dX11_see_42 : decode cX11_see 42 = .ok (.getfield 290, 3) := by decide +kernel
theorem dX11_see_45 : decode cX11_see 45 = .ok (.iload_n 1, 1) := by decide +kernel
theorem dX11_see_46 : decode cX11_see 46 = .ok (.iastore, 1) := by decide +kernel
theorem dX11_see_47 : decode cX11_see 47 = .ok (.aload_n 0, 1) := by decide +kernel
theorem dX11_see_48 : decode cX11_see 48 = .ok (.getfield 35, 3) := by decide +kernel
theorem dX11_see_51 : decode cX11_see 51 = .ok (.aload_n 0, 1) := by decide +kernel
theorem dX11_see_52 : decode cX11_see 52 = .ok (.getfield 290, 3) := by decide +kernel
theorem dX11_see_55 : decode cX11_see 55 = .ok (.iload_n 2, 1) := by decide +kernel
theorem dX11_see_56 : decode cX11_see 56 = .ok (.iastore, 1) := by decide +kernel
theorem dX11_see_57 : decode cX11_see 57 = .ok (.aload_n 0, 1) := by decide +kernel
theorem dX11_see_58 : decode cX11_see 58 = .ok (.dup, 1) := by decide +kernel
theorem dX11_see_59 : decode cX11_see 59 = .ok (.getfield 290, 3) := by decide +kernel
theorem dX11_see_62 : decode cX11_see 62 = .ok (.iconst 1, 1) := by decide +kernel
theorem dX11_see_63 : decode cX11_see 63 = .ok (.iadd, 1) := by decide +kernel
theorem dX11_see_64 : decode cX11_see 64 = .ok (.putfield 290, 3) := by decide +kernel
theorem dX11_see_67 : decode cX11_see 67 = .ok (.aload_n 0, 1) := by decide +kernel
theorem dX11_see_68 : decode cX11_see 68 = .ok (.getfield 290, 3) := by decide +kernel
theorem dX11_see_71 : decode cX11_see 71 = .ok (.ireturn, 1) := by decide +kernel
theorem dX11_unsee_0 : decode cX11_unsee 0 = .ok (.aload_n 0, 1) := by decide +kernel
theorem dX11_unsee_1 : decode cX11_unsee 1 = .ok (.iconst 0, 1) := by decide +kernel
theorem dX11_unsee_2 : decode cX11_unsee 2 = .ok (.putfield 74, 3) := by decide +kernel
theorem dX11_unsee_5 : decode cX11_unsee 5 = .ok (.aload_n 0, 1) := by decide +kernel
theorem dX11_unsee_6 : decode cX11_unsee 6 = .ok (.getfield 290, 3) := by decide +kernel
theorem dX11_unsee_9 : decode cX11_unsee 9 = .ok (.istore_n 1, 1) := by decide +kernel
theorem dX11_unsee_10 : decode cX11_unsee 10 = .ok (.aload_n 0, 1) := by decide +kernel
theorem dX11_unsee_11 : decode cX11_unsee 11 = .ok (.iconst 0, 1) := by decide +kernel
theorem dX11_unsee_12 : decode cX11_unsee 12 = .ok (.putfield 290, 3) := by decide +kernel
theorem dX11_unsee_15 : decode cX11_unsee 15 = .ok (.iload_n 1, 1) := by decide +kernel
theorem dX11_unsee_16 : decode cX11_unsee 16 = .ok (.ireturn, 1) := by decide +kernel
theorem dX11_agrees_0 : decode cX11_agrees 0 = .ok (.iconst 1, 1) := by decide +kernel
theorem dX11_agrees_1 : decode cX11_agrees 1 = .ok (.istore_n 3, 1) := by decide +kernel
theorem dX11_agrees_2 : decode cX11_agrees 2 = .ok (.iconst 0, 1) := by decide +kernel
theorem dX11_agrees_3 : decode cX11_agrees 3 = .ok (.istore 4, 2) := by decide +kernel
theorem dX11_agrees_5 : decode cX11_agrees 5 = .ok (.iload 4, 2) := by decide +kernel
theorem dX11_agrees_7 : decode cX11_agrees 7 = .ok (.aload_n 0, 1) := by decide +kernel
theorem dX11_agrees_8 : decode cX11_agrees 8 = .ok (.getfield 290, 3) := by decide +kernel
theorem dX11_agrees_11 : decode cX11_agrees 11 = .ok (.if_icmp .ge 56, 3) := by decide +kernel
theorem dX11_agrees_14 : decode cX11_agrees 14 = .ok (.iload_n 3, 1) := by decide +kernel
theorem dX11_agrees_15 : decode cX11_agrees 15 = .ok (.ifCond .eq 44, 3) := by decide +kernel
theorem dX11_agrees_18 : decode cX11_agrees 18 = .ok (.aload_n 0, 1) := by decide +kernel
theorem dX11_agrees_19 : decode cX11_agrees 19 = .ok (.getfield 16, 3) := by decide +kernel
theorem dX11_agrees_22 : decode cX11_agrees 22 = .ok (.iload_n 1, 1) := by decide +kernel
theorem dX11_agrees_23 : decode cX11_agrees 23 = .ok (.iconst 1, 1) := by decide +kernel
theorem dX11_agrees_24 : decode cX11_agrees 24 = .ok (.iload_n 2, 1) := by decide +kernel
theorem dX11_agrees_25 : decode cX11_agrees 25 = .ok (.ishl, 1) := by decide +kernel
theorem dX11_agrees_26 : decode cX11_agrees 26 = .ok (.aload_n 0, 1) := by decide +kernel
theorem dX11_agrees_27 : decode cX11_agrees 27 = .ok (.getfield 32, 3) := by decide +kernel
theorem dX11_agrees_30 : decode cX11_agrees 30 = .ok (.iload 4, 2) := by decide +kernel
theorem dX11_agrees_32 : decode cX11_agrees 32 = .ok (.iaload, 1) := by decide +kernel
theorem dX11_agrees_33 : decode cX11_agrees 33 = .ok (.invokestatic 179, 3) := by decide +kernel
theorem dX11_agrees_36 : decode cX11_agrees 36 = .ok (.aload_n 0, 1) := by decide +kernel
theorem dX11_agrees_37 : decode cX11_agrees 37 = .ok (.getfield 35, 3) := by decide +kernel
theorem dX11_agrees_40 : decode cX11_agrees 40 = .ok (.iload 4, 2) := by decide +kernel
theorem dX11_agrees_42 : decode cX11_agrees 42 = .ok (.iaload, 1) := by decide +kernel
theorem dX11_agrees_43 : decode cX11_agrees 43 = .ok (.iconst 1, 1) := by decide +kernel
theorem dX11_agrees_44 : decode cX11_agrees 44 = .ok (.if_icmp .ne 7, 3) := by decide +kernel
theorem dX11_agrees_47 : decode cX11_agrees 47 = .ok (.iconst 1, 1) := by decide +kernel
theorem dX11_agrees_48 : decode cX11_agrees 48 = .ok (.goto 4, 3) := by decide +kernel
theorem dX11_agrees_51 : decode cX11_agrees 51 = .ok (.iconst 0, 1) := by decide +kernel
theorem dX11_agrees_52 : decode cX11_agrees 52 = .ok (.if_icmp .ne 7, 3) := by decide +kernel
theorem dX11_agrees_55 : decode cX11_agrees 55 = .ok (.iconst 1, 1) := by decide +kernel
theorem dX11_agrees_56 : decode cX11_agrees 56 = .ok (.goto 4, 3) := by decide +kernel
theorem dX11_agrees_59 : decode cX11_agrees 59 = .ok (.iconst 0, 1) := by decide +kernel
theorem dX11_agrees_60 : decode cX11_agrees 60 = .ok (.istore_n 3, 1) := by decide +kernel
theorem dX11_agrees_61 : decode cX11_agrees 61 = .ok (.iinc 4 1, 3) := by decide +kernel
theorem dX11_agrees_64 : decode cX11_agrees 64 = .ok (.goto (-59), 3) := by decide +kernel
theorem dX11_agrees_67 : decode cX11_agrees 67 = .ok (.iload_n 3, 1) := by decide +kernel
theorem dX11_agrees_68 : decode cX11_agrees 68 = .ok (.ireturn, 1) := by decide +kernel
theorem dX11_which_0 : decode cX11_which 0 = .ok (.aload_n 0, 1) := by decide +kernel
theorem dX11_which_1 : decode cX11_which 1 = .ok (.iconst 0, 1) := by decide +kernel
theorem dX11_which_2 : decode cX11_which 2 = .ok (.putfield 74, 3) := by decide +kernel
theorem dX11_which_5 : decode cX11_which 5 = .ok (.iconst 0, 1) := by decide +kernel
theorem dX11_which_6 : decode cX11_which 6 = .ok (.istore_n 1, 1) := by decide +kernel
theorem dX11_which_7 : decode cX11_which 7 = .ok (.iconst 0, 1) := by decide +kernel
theorem dX11_which_8 : decode cX11_which 8 = .ok (.istore_n 2, 1) := by decide +kernel
theorem dX11_which_9 : decode cX11_which 9 = .ok (.iload_n 2, 1) := by decide +kernel
theorem dX11_which_10 : decode cX11_which 10 = .ok (.aload_n 0, 1) := by decide +kernel
theorem dX11_which_11 : decode cX11_which 11 = .ok (.getfield 16, 3) := by decide +kernel
theorem dX11_which_14 : decode cX11_which 14 = .ok (.iconst 0, 1) := by decide +kernel
theorem dX11_which_15 : decode cX11_which 15 = .ok (.iaload, 1) := by decide +kernel
theorem dX11_which_16 : decode cX11_which 16 = .ok (.if_icmp .ge 28, 3) := by decide +kernel
theorem dX11_which_19 : decode cX11_which 19 = .ok (.iload_n 1, 1) := by decide +kernel
theorem dX11_which_20 : decode cX11_which 20 = .ok (.aload_n 0, 1) := by decide +kernel
theorem dX11_which_21 : decode cX11_which 21 = .ok (.iconst 0, 1) := by decide +kernel
theorem dX11_which_22 : decode cX11_which 22 = .ok (.iload_n 2, 1) := by decide +kernel
theorem dX11_which_23 : decode cX11_which 23 = .ok (.invokevirtual 293, 3) := by decide +kernel
theorem dX11_which_26 : decode cX11_which 26 = .ok (.ifCond .eq 9, 3) := by decide +kernel
theorem dX11_which_29 : decode cX11_which 29 = .ok (.iconst 1, 1) := by decide +kernel
theorem dX11_which_30 : decode cX11_which 30 = .ok (.iload_n 2, 1) := by decide +kernel
theorem dX11_which_31 : decode cX11_which 31 = .ok (.ishl, 1) := by decide +kernel
theorem dX11_which_32 : decode cX11_which 32 = .ok (.goto 4, 3) := by decide +kernel
theorem dX11_which_35 : decode cX11_which 35 = .ok (.iconst 0, 1) := by decide +kernel
theorem dX11_which_36 : decode cX11_which 36 = .ok (.ior, 1) := by decide +kernel
theorem dX11_which_37 : decode cX11_which 37 = .ok (.istore_n 1, 1) := by decide +kernel
theorem dX11_which_38 : decode cX11_which 38 = .ok (.iinc 2 1, 3) := by decide +kernel
theorem dX11_which_41 : decode cX11_which 41 = .ok (.goto (-32), 3) := by decide +kernel
theorem dX11_which_44 : decode cX11_which 44 = .ok (.iconst 0, 1) := by decide +kernel
theorem dX11_which_45 : decode cX11_which 45 = .ok (.istore_n 2, 1) := by decide +kernel
theorem dX11_which_46 : decode cX11_which 46 = .ok (.iload_n 2, 1) := by decide +kernel
theorem dX11_which_47 : decode cX11_which 47 = .ok (.aload_n 0, 1) := by decide +kernel
theorem dX11_which_48 : decode cX11_which 48 = .ok (.getfield 16, 3) := by decide +kernel
theorem dX11_which_51 : decode cX11_which 51 = .ok (.iconst 1, 1) := by decide +kernel
theorem dX11_which_52 : decode cX11_which 52 = .ok (.iaload, 1) := by decide +kernel
theorem dX11_which_53 : decode cX11_which 53 = .ok (.if_icmp .ge 29, 3) := by decide +kernel
theorem dX11_which_56 : decode cX11_which 56 = .ok (.iload_n 1, 1) := by decide +kernel
theorem dX11_which_57 : decode cX11_which 57 = .ok (.aload_n 0, 1) := by decide +kernel
theorem dX11_which_58 : decode cX11_which 58 = .ok (.iconst 1, 1) := by decide +kernel
theorem dX11_which_59 : decode cX11_which 59 = .ok (.iload_n 2, 1) := by decide +kernel
theorem dX11_which_60 : decode cX11_which 60 = .ok (.invokevirtual 293, 3) := by decide +kernel
theorem dX11_which_63 : decode cX11_which 63 = .ok (.ifCond .eq 10, 3) := by decide +kernel
theorem dX11_which_66 : decode cX11_which 66 = .ok (.bipush 16, 2) := by decide +kernel
theorem dX11_which_68 : decode cX11_which 68 = .ok (.iload_n 2, 1) := by decide +kernel
theorem dX11_which_69 : decode cX11_which 69 = .ok (.ishl, 1) := by decide +kernel
theorem dX11_which_70 : decode cX11_which 70 = .ok (.goto 4, 3) := by decide +kernel
theorem dX11_which_73 : decode cX11_which 73 = .ok (.iconst 0, 1) := by decide +kernel
theorem dX11_which_74 : decode cX11_which 74 = .ok (.ior, 1) := by decide +kernel
theorem dX11_which_75 : decode cX11_which 75 = .ok (.istore_n 1, 1) := by decide +kernel
theorem dX11_which_76 : decode cX11_which 76 = .ok (.iinc 2 1, 3) := by decide +kernel
theorem dX11_which_79 : decode cX11_which 79 = .ok (.goto (-33), 3) := by decide +kernel
theorem dX11_which_82 : decode cX11_which 82 = .ok (.iload_n 1, 1) := by decide +kernel
theorem dX11_which_83 : decode cX11_which 83 = .ok (.ireturn, 1) := by decide +kernel
theorem dX11_divisor_0 : decode cX11_divisor 0 = .ok (.iload_n 0, 1) := by decide +kernel
theorem dX11_divisor_1 : decode cX11_divisor 1 = .ok (.istore_n 2, 1) := by decide +kernel
theorem dX11_divisor_2 : decode cX11_divisor 2 = .ok (.iload_n 1, 1) := by decide +kernel
theorem dX11_divisor_3 : decode cX11_divisor 3 = .ok (.istore_n 3, 1) := by decide +kernel
theorem dX11_divisor_4 : decode cX11_divisor 4 = .ok (.iload_n 3, 1) := by decide +kernel
theorem dX11_divisor_5 : decode cX11_divisor 5 = .ok (.ifCond .eq 16, 3) := by decide +kernel
theorem dX11_divisor_8 : decode cX11_divisor 8 = .ok (.iload_n 2, 1) := by decide +kernel
theorem dX11_divisor_9 : decode cX11_divisor 9 = .ok (.iload_n 3, 1) := by decide +kernel
theorem dX11_divisor_10 : decode cX11_divisor 10 = .ok (.irem, 1) := by decide +kernel
theorem dX11_divisor_11 : decode cX11_divisor 11 = .ok (.istore 4, 2) := by decide +kernel
theorem dX11_divisor_13 : decode cX11_divisor 13 = .ok (.iload_n 3, 1) := by decide +kernel
theorem dX11_divisor_14 : decode cX11_divisor 14 = .ok (.istore_n 2, 1) := by decide +kernel
theorem dX11_divisor_15 : decode cX11_divisor 15 = .ok (.iload 4, 2) := by decide +kernel
theorem dX11_divisor_17 : decode cX11_divisor 17 = .ok (.istore_n 3, 1) := by decide +kernel
theorem dX11_divisor_18 : decode cX11_divisor 18 = .ok (.goto (-14), 3) := by decide +kernel
theorem dX11_divisor_21 : decode cX11_divisor 21 = .ok (.iload_n 2, 1) := by decide +kernel
theorem dX11_divisor_22 : decode cX11_divisor 22 = .ok (.ireturn, 1) := by decide +kernel
theorem dX11_fraction_0 : decode cX11_fraction 0 = .ok (.iload_n 0, 1) := by decide +kernel
theorem dX11_fraction_1 : decode cX11_fraction 1 = .ok (.iload_n 1, 1) := by decide +kernel
theorem dX11_fraction_2 : decode cX11_fraction 2 = .ok (.invokestatic 296, 3) := by decide +kernel
theorem dX11_fraction_5 : decode cX11_fraction 5 = .ok (.istore_n 3, 1) := by decide +kernel
theorem dX11_fraction_6 : decode cX11_fraction 6 = .ok (.iload_n 2, 1) := by decide +kernel
theorem dX11_fraction_7 : decode cX11_fraction 7 = .ok (.ifCond .eq 9, 3) := by decide +kernel
theorem dX11_fraction_10 : decode cX11_fraction 10 = .ok (.iload_n 0, 1) := by decide +kernel
theorem dX11_fraction_11 : decode cX11_fraction 11 = .ok (.iload_n 3, 1) := by decide +kernel
theorem dX11_fraction_12 : decode cX11_fraction 12 = .ok (.idiv, 1) := by decide +kernel
theorem dX11_fraction_13 : decode cX11_fraction 13 = .ok (.goto 6, 3) := by decide +kernel
theorem dX11_fraction_16 : decode cX11_fraction 16 = .ok (.iload_n 1, 1) := by decide +kernel
theorem dX11_fraction_17 : decode cX11_fraction 17 = .ok (.iload_n 3, 1) := by decide +kernel
theorem dX11_fraction_18 : decode cX11_fraction 18 = .ok (.idiv, 1) := by decide +kernel
theorem dX11_fraction_19 : decode cX11_fraction 19 = .ok (.ireturn, 1) := by decide +kernel
theorem dX11_factorial_0 : decode cX11_factorial 0 = .ok (.iconst 1, 1) := by decide +kernel
theorem dX11_factorial_1 : decode cX11_factorial 1 = .ok (.istore_n 1, 1) := by decide +kernel
theorem dX11_factorial_2 : decode cX11_factorial 2 = .ok (.iconst 2, 1) := by decide +kernel
theorem dX11_factorial_3 : decode cX11_factorial 3 = .ok (.istore_n 2, 1) := by decide +kernel
theorem dX11_factorial_4 : decode cX11_factorial 4 = .ok (.iload_n 2, 1) := by decide +kernel
theorem dX11_factorial_5 : decode cX11_factorial 5 = .ok (.iload_n 0, 1) := by decide +kernel
theorem dX11_factorial_6 : decode cX11_factorial 6 = .ok (.if_icmp .gt 13, 3) := by decide +kernel
theorem dX11_factorial_9 : decode cX11_factorial 9 = .ok (.iload_n 1, 1) := by decide +kernel
theorem dX11_factorial_10 : decode cX11_factorial 10 = .ok (.iload_n 2, 1) := by decide +kernel
theorem dX11_factorial_11 : decode cX11_factorial 11 = .ok (.imul, 1) := by decide +kernel
theorem dX11_factorial_12 : decode cX11_factorial 12 = .ok (.istore_n 1, 1) := by decide +kernel
theorem dX11_factorial_13 : decode cX11_factorial 13 = .ok (.iinc 2 1, 3) := by decide +kernel
theorem dX11_factorial_16 : decode cX11_factorial 16 = .ok (.goto (-12), 3) := by decide +kernel
theorem dX11_factorial_19 : decode cX11_factorial 19 = .ok (.iload_n 1, 1) := by decide +kernel
theorem dX11_factorial_20 : decode cX11_factorial 20 = .ok (.ireturn, 1) := by decide +kernel
theorem dX11_weigh_0 : decode cX11_weigh 0 = .ok (.iconst 0, 1) := by decide +kernel
theorem dX11_weigh_1 : decode cX11_weigh 1 = .ok (.istore_n 1, 1) := by decide +kernel
theorem dX11_weigh_2 : decode cX11_weigh 2 = .ok (.iload_n 1, 1) := by decide +kernel
theorem dX11_weigh_3 : decode cX11_weigh 3 = .ok (.bipush 32, 2) := by decide +kernel
theorem dX11_weigh_5 : decode cX11_weigh 5 = .ok (.if_icmp .ge 16, 3) := by decide +kernel
theorem dX11_weigh_8 : decode cX11_weigh 8 = .ok (.aload_n 0, 1) := by decide +kernel
theorem dX11_weigh_9 : decode cX11_weigh 9 = .ok (.getfield 71, 3) := by decide +kernel
theorem dX11_weigh_12 : decode cX11_weigh 12 = .ok (.iload_n 1, 1) := by decide +kernel
theorem dX11_weigh_13 : decode cX11_weigh 13 = .ok (.iconst 0, 1) := by decide +kernel
theorem dX11_weigh_14 : decode cX11_weigh 14 = .ok (.iastore, 1) := by decide +kernel
theorem dX11_weigh_15 : decode cX11_weigh 15 = .ok (.iinc 1 1, 3) := by decide +kernel
theorem dX11_weigh_18 : decode cX11_weigh 18 = .ok (.goto (-16), 3) := by decide +kernel
theorem dX11_weigh_21 : decode cX11_weigh 21 = .ok (.iconst 0, 1) := by decide +kernel
theorem dX11_weigh_22 : decode cX11_weigh 22 = .ok (.istore_n 1, 1) := by decide +kernel
theorem dX11_weigh_23 : decode cX11_weigh 23 = .ok (.iload_n 1, 1) := by decide +kernel
theorem dX11_weigh_24 : decode cX11_weigh 24 = .ok (.bipush 7, 2) := by decide +kernel
theorem dX11_weigh_26 : decode cX11_weigh 26 = .ok (.if_icmp .ge 93, 3) := by decide +kernel
theorem dX11_weigh_29 : decode cX11_weigh 29 = .ok (.iconst 0, 1) := by decide +kernel
theorem dX11_weigh_30 : decode cX11_weigh 30 = .ok (.istore_n 2, 1) := by decide +kernel
theorem dX11_weigh_31 : decode cX11_weigh 31 = .ok (.iload_n 2, 1) := by decide +kernel
theorem dX11_weigh_32 : decode cX11_weigh 32 = .ok (.iconst 1, 1) := by decide +kernel
theorem dX11_weigh_33 : decode cX11_weigh 33 = .ok (.iload_n 1, 1) := by decide +kernel
theorem dX11_weigh_34 : decode cX11_weigh 34 = .ok (.ishl, 1) := by decide +kernel
theorem dX11_weigh_35 : decode cX11_weigh 35 = .ok (.if_icmp .ge 78, 3) := by decide +kernel
theorem dX11_weigh_38 : decode cX11_weigh 38 = .ok (.aload_n 0, 1) := by decide +kernel
theorem dX11_weigh_39 : decode cX11_weigh 39 = .ok (.getfield 16, 3) := by decide +kernel
theorem dX11_weigh_42 : decode cX11_weigh 42 = .ok (.iconst 0, 1) := by decide +kernel
theorem dX11_weigh_43 : decode cX11_weigh 43 = .ok (.iload_n 2, 1) := by decide +kernel
theorem dX11_weigh_44 : decode cX11_weigh 44 = .ok (.iload_n 1, 1) := by decide +kernel
theorem dX11_weigh_45 : decode cX11_weigh 45 = .ok (.invokestatic 187, 3) := by decide +kernel
theorem dX11_weigh_48 : decode cX11_weigh 48 = .ok (.aload_n 0, 1) := by decide +kernel
theorem dX11_weigh_49 : decode cX11_weigh 49 = .ok (.getfield 16, 3) := by decide +kernel
theorem dX11_weigh_52 : decode cX11_weigh 52 = .ok (.iconst 2, 1) := by decide +kernel
theorem dX11_weigh_53 : decode cX11_weigh 53 = .ok (.iaload, 1) := by decide +kernel
theorem dX11_weigh_54 : decode cX11_weigh 54 = .ok (.iand, 1) := by decide +kernel
theorem dX11_weigh_55 : decode cX11_weigh 55 = .ok (.ifCond .eq 52, 3) := by decide +kernel
theorem dX11_weigh_58 : decode cX11_weigh 58 = .ok (.aload_n 0, 1) := by decide +kernel
theorem dX11_weigh_59 : decode cX11_weigh 59 = .ok (.getfield 16, 3) := by decide +kernel
theorem dX11_weigh_62 : decode cX11_weigh 62 = .ok (.iconst 1, 1) := by decide +kernel
theorem dX11_weigh_63 : decode cX11_weigh 63 = .ok (.iload_n 2, 1) := by decide +kernel
theorem dX11_weigh_64 : decode cX11_weigh 64 = .ok (.iload_n 1, 1) := by decide +kernel
theorem dX11_weigh_65 : decode cX11_weigh 65 = .ok (.invokestatic 187, 3) := by decide +kernel
theorem dX11_weigh_68 : decode cX11_weigh 68 = .ok (.istore_n 3, 1) := by decide +kernel
theorem dX11_weigh_69 : decode cX11_weigh 69 = .ok (.iconst 0, 1) := by decide +kernel
theorem dX11_weigh_70 : decode cX11_weigh 70 = .ok (.istore 4, 2) := by decide +kernel
theorem dX11_weigh_72 : decode cX11_weigh 72 = .ok (.iload 4, 2) := by decide +kernel
theorem dX11_weigh_74 : decode cX11_weigh 74 = .ok (.bipush 32, 2) := by decide +kernel
theorem dX11_weigh_76 : decode cX11_weigh 76 = .ok (.if_icmp .ge 31, 3) := by decide +kernel
theorem dX11_weigh_79 : decode cX11_weigh 79 = .ok (.aload_n 0, 1) := by decide +kernel
theorem dX11_weigh_80 : decode cX11_weigh 80 = .ok (.getfield 71, 3) := by decide +kernel
theorem dX11_weigh_83 : decode cX11_weigh 83 = .ok (.iload 4, 2) := by decide +kernel
theorem dX11_weigh_85 : decode cX11_weigh 85 = .ok (.dup2, 1) := by decide +kernel
theorem dX11_weigh_86 : decode cX11_weigh 86 = .ok (.iaload, 1) := by decide +kernel
theorem dX11_weigh_87 : decode cX11_weigh 87 = .ok (.iload_n 3, 1) := by decide +kernel
theorem dX11_weigh_88 : decode cX11_weigh 88 = .ok (.iload 4, 2) := by decide +kernel
theorem dX11_weigh_90 : decode cX11_weigh 90 = .ok (.iand, 1) := by decide +kernel
theorem dX11_weigh_91 : decode cX11_weigh 91 = .ok (.ifCond .eq 7, 3) := by decide +kernel
theorem dX11_weigh_94 : decode cX11_weigh 94 = .ok (.iconst 1, 1) := by decide +kernel
theorem dX11_weigh_95 : decode cX11_weigh 95 = .ok (.goto 4, 3) := by decide +kernel
theorem dX11_weigh_98 : decode cX11_weigh 98 = .ok (.iconst 0, 1) := by decide +kernel
theorem dX11_weigh_99 : decode cX11_weigh 99 = .ok (.iadd, 1) := by decide +kernel
theorem dX11_weigh_100 : decode cX11_weigh 100 = .ok (.iastore, 1) := by decide +kernel
theorem dX11_weigh_101 : decode cX11_weigh 101 = .ok (.iinc 4 1, 3) := by decide +kernel
theorem dX11_weigh_104 : decode cX11_weigh 104 = .ok (.goto (-32), 3) := by decide +kernel
theorem dX11_weigh_107 : decode cX11_weigh 107 = .ok (.iinc 2 1, 3) := by decide +kernel
theorem dX11_weigh_110 : decode cX11_weigh 110 = .ok (.goto (-79), 3) := by decide +kernel
theorem dX11_weigh_113 : decode cX11_weigh 113 = .ok (.iinc 1 1, 3) := by decide +kernel
theorem dX11_weigh_116 : decode cX11_weigh 116 = .ok (.goto (-93), 3) := by decide +kernel
theorem dX11_weigh_119 : decode cX11_weigh 119 = .ok (.return_, 1) := by decide +kernel
theorem dX11_share_0 : decode cX11_share 0 = .ok (.aload_n 0, 1) := by decide +kernel
theorem dX11_share_1 : decode cX11_share 1 = .ok (.iconst 0, 1) := by decide +kernel
theorem dX11_share_2 : decode cX11_share 2 = .ok (.putfield 74, 3) := by decide +kernel
theorem dX11_share_5 : decode cX11_share 5 = .ok (.aload_n 0, 1) := by decide +kernel
theorem dX11_share_6 : decode cX11_share 6 = .ok (.iconst 1, 1) := by decide +kernel
theorem dX11_share_7 : decode cX11_share 7 = .ok (.iload_n 1, 1) := by decide +kernel
theorem dX11_share_8 : decode cX11_share 8 = .ok (.invokevirtual 146, 3) := by decide +kernel
theorem dX11_share_11 : decode cX11_share 11 = .ok (.ifCond .eq 5, 3) := by decide +kernel
theorem dX11_share_14 : decode cX11_share 14 = .ok (.iconst (-1), 1) := by decide +kernel
theorem dX11_share_15 : decode cX11_share 15 = .ok (.ireturn, 1) := by decide +kernel
theorem dX11_share_16 : decode cX11_share 16 = .ok (.aload_n 0, 1) := by decide +kernel
theorem dX11_share_17 : decode cX11_share 17 = .ok (.getfield 16, 3) := by decide +kernel
theorem dX11_share_20 : decode cX11_share 20 = .ok (.iconst 3, 1) := by decide +kernel
theorem dX11_share_21 : decode cX11_share 21 = .ok (.iaload, 1) := by decide +kernel
theorem dX11_share_22 : decode cX11_share 22 = .ok (.istore_n 3, 1) := by decide +kernel
theorem dX11_share_23 : decode cX11_share 23 = .ok (.iload_n 3, 1) := by decide +kernel
theorem dX11_share_24 : decode cX11_share 24 = .ok (.iload_n 1, 1) := by decide +kernel
theorem dX11_share_25 : decode cX11_share 25 = .ok (.invokestatic 82, 3) := by decide +kernel
theorem dX11_share_28 : decode cX11_share 28 = .ok (.ifCond .ne 6, 3) := by decide +kernel
theorem dX11_share_31 : decode cX11_share 31 = .ok (.bipush (-3), 2) := by decide +kernel
theorem dX11_share_33 : decode cX11_share 33 = .ok (.ireturn, 1) := by decide +kernel
theorem dX11_share_34 : decode cX11_share 34 = .ok (.aload_n 0, 1) := by decide +kernel
theorem dX11_share_35 : decode cX11_share 35 = .ok (.invokevirtual 299, 3) := by decide +kernel
theorem dX11_share_38 : decode cX11_share 38 = .ok (.iload_n 3, 1) := by decide +kernel
theorem dX11_share_39 : decode cX11_share 39 = .ok (.invokestatic 90, 3) := by decide +kernel
theorem dX11_share_42 : decode cX11_share 42 = .ok (.istore 4, 2) := by decide +kernel
theorem dX11_share_44 : decode cX11_share 44 = .ok (.iconst 0, 1) := by decide +kernel
theorem dX11_share_45 : decode cX11_share 45 = .ok (.istore 5, 2) := by decide +kernel
theorem dX11_share_47 : decode cX11_share 47 = .ok (.iconst 0, 1) := by decide +kernel
theorem dX11_share_48 : decode cX11_share 48 = .ok (.istore 6, 2) := by decide +kernel
theorem dX11_share_50 : decode cX11_share 50 = .ok (.iload 6, 2) := by decide +kernel
theorem dX11_share_52 : decode cX11_share 52 = .ok (.bipush 32, 2) := by decide +kernel
theorem dX11_share_54 : decode cX11_share 54 = .ok (.if_icmp .ge 90, 3) := by decide +kernel
theorem dX11_share_57 : decode cX11_share 57 = .ok (.iload 6, 2) := by decide +kernel
theorem dX11_share_59 : decode cX11_share 59 = .ok (.iload_n 3, 1) := by decide +kernel
theorem dX11_share_60 : decode cX11_share 60 = .ok (.iconst (-1), 1) := by decide +kernel
theorem dX11_share_61 : decode cX11_share 61 = .ok (.ixor, 1) := by decide +kernel
theorem dX11_share_62 : decode cX11_share 62 = .ok (.iand, 1) := by decide +kernel
theorem dX11_share_63 : decode cX11_share 63 = .ok (.ifCond .ne 16, 3) := by decide +kernel
theorem dX11_share_66 : decode cX11_share 66 = .ok (.iload 6, 2) := by decide +kernel
theorem dX11_share_68 : decode cX11_share 68 = .ok (.iload_n 1, 1) := by decide +kernel
theorem dX11_share_69 : decode cX11_share 69 = .ok (.invokestatic 82, 3) := by decide +kernel
theorem dX11_share_72 : decode cX11_share 72 = .ok (.ifCond .ne 7, 3) := by decide +kernel
theorem dX11_share_75 : decode cX11_share 75 = .ok (.iconst 1, 1) := by decide +kernel
theorem dX11_share_76 : decode cX11_share 76 = .ok (.goto 4, 3) := by decide +kernel
theorem dX11_share_79 : decode cX11_share 79 = .ok (.iconst 0, 1) := by decide +kernel
theorem dX11_share_80 : decode cX11_share 80 = .ok (.istore 7, 2) := by decide +kernel
theorem dX11_share_82 : decode cX11_share 82 = .ok (.iload 5, 2) := by decide +kernel
theorem dX11_share_84 : decode cX11_share 84 = .ok (.iload 7, 2) := by decide +kernel
theorem dX11_share_86 : decode cX11_share 86 = .ok (.ifCond .eq 48, 3) := by decide +kernel
theorem dX11_share_89 : decode cX11_share 89 = .ok (.iload 6, 2) := by decide +kernel
theorem dX11_share_91 : decode cX11_share 91 = .ok (.invokestatic 90, 3) := by decide +kernel
theorem dX11_share_94 : decode cX11_share 94 = .ok (.invokestatic 302, 3) := by decide +kernel
theorem dX11_share_97 : decode cX11_share 97 = .ok (.iload 4, 2) := by decide +kernel
theorem dX11_share_99 : decode cX11_share 99 = .ok (.iconst 1, 1) := by decide +kernel
theorem dX11_share_100 : decode cX11_share 100 = .ok (.isub, 1) := by decide +kernel
theorem dX11_share_101 : decode cX11_share 101 = .ok (.iload 6, 2) := by decide +kernel
theorem dX11_share_103 : decode cX11_share 103 = .ok (.invokestatic 90, 3) := by decide +kernel
theorem dX11_share_106 : decode cX11_share 106 = .ok (.isub, 1) := by decide +kernel
theorem dX11_share_107 : decode cX11_share 107 = .ok (.invokestatic 302, 3) := by decide +kernel
theorem dX11_share_110 : decode cX11_share 110 = .ok (.imul, 1) := by decide +kernel
theorem dX11_share_111 : decode cX11_share 111 = .ok (.aload_n 0, 1) := by decide +kernel
theorem dX11_share_112 : decode cX11_share 112 = .ok (.getfield 71, 3) := by decide +kernel
theorem dX11_share_115 : decode cX11_share 115 = .ok (.iload 6, 2) := by decide +kernel
theorem dX11_share_117 : decode cX11_share 117 = .ok (.iconst 1, 1) := by decide +kernel
theorem dX11_share_118 : decode cX11_share 118 = .ok (.iload_n 1, 1) := by decide +kernel
theorem dX11_share_119 : decode cX11_share 119 = .ok (.ishl, 1) := by decide +kernel
theorem dX11_share_120 : decode cX11_share 120 = .ok (.ior, 1) := by decide +kernel
theorem dX11_share_121 : decode cX11_share 121 = .ok (.iaload, 1) := by decide +kernel
theorem dX11_share_122 : decode cX11_share 122 = .ok (.aload_n 0, 1) := by decide +kernel
theorem dX11_share_123 : decode cX11_share 123 = .ok (.getfield 71, 3) := by decide +kernel
theorem dX11_share_126 : decode cX11_share 126 = .ok (.iload 6, 2) := by decide +kernel
theorem dX11_share_128 : decode cX11_share 128 = .ok (.iaload, 1) := by decide +kernel
theorem dX11_share_129 : decode cX11_share 129 = .ok (.isub, 1) := by decide +kernel
theorem dX11_share_130 : decode cX11_share 130 = .ok (.imul, 1) := by decide +kernel
theorem dX11_share_131 : decode cX11_share 131 = .ok (.goto 4, 3) := by decide +kernel
theorem dX11_share_134 : decode cX11_share 134 = .ok (.iconst 0, 1) := by decide +kernel
theorem dX11_share_135 : decode cX11_share 135 = .ok (.iadd, 1) := by decide +kernel
theorem dX11_share_136 : decode cX11_share 136 = .ok (.istore 5, 2) := by decide +kernel
theorem dX11_share_138 : decode cX11_share 138 = .ok (.iinc 6 1, 3) := by decide +kernel
theorem dX11_share_141 : decode cX11_share 141 = .ok (.goto (-91), 3) := by decide +kernel
theorem dX11_share_144 : decode cX11_share 144 = .ok (.iload 5, 2) := by decide +kernel
theorem dX11_share_146 : decode cX11_share 146 = .ok (.iload 4, 2) := by decide +kernel
theorem dX11_share_148 : decode cX11_share 148 = .ok (.invokestatic 302, 3) := by decide +kernel
theorem dX11_share_151 : decode cX11_share 151 = .ok (.iload_n 2, 1) := by decide +kernel
theorem dX11_share_152 : decode cX11_share 152 = .ok (.invokestatic 305, 3) := by decide +kernel
theorem dX11_share_155 : decode cX11_share 155 = .ok (.ireturn, 1) := by decide +kernel
theorem dX11_lost_0 : decode cX11_lost 0 = .ok (.aload_n 0, 1) := by decide +kernel
theorem dX11_lost_1 : decode cX11_lost 1 = .ok (.iconst 0, 1) := by decide +kernel
theorem dX11_lost_2 : decode cX11_lost 2 = .ok (.putfield 74, 3) := by decide +kernel
theorem dX11_lost_5 : decode cX11_lost 5 = .ok (.iload_n 1, 1) := by decide +kernel
theorem dX11_lost_6 : decode cX11_lost 6 = .ok (.i2l, 1) := by decide +kernel
theorem dX11_lost_7 : decode cX11_lost 7 = .ok (.lconst 0, 1) := by decide +kernel
theorem dX11_lost_8 : decode cX11_lost 8 = .ok (.ldc2_w 309, 3) := by decide +kernel
theorem dX11_lost_11 : decode cX11_lost 11 = .ok (.invokestatic 78, 3) := by decide +kernel
theorem dX11_lost_14 : decode cX11_lost 14 = .ok (.ifCond .ne 6, 3) := by decide +kernel
theorem dX11_lost_17 : decode cX11_lost 17 = .ok (.bipush (-2), 2) := by decide +kernel
theorem dX11_lost_19 : decode cX11_lost 19 = .ok (.ireturn, 1) := by decide +kernel
theorem dX11_lost_20 : decode cX11_lost 20 = .ok (.aload_n 0, 1) := by decide +kernel
theorem dX11_lost_21 : decode cX11_lost 21 = .ok (.getfield 16, 3) := by decide +kernel
theorem dX11_lost_24 : decode cX11_lost 24 = .ok (.iconst 3, 1) := by decide +kernel
theorem dX11_lost_25 : decode cX11_lost 25 = .ok (.iaload, 1) := by decide +kernel
theorem dX11_lost_26 : decode cX11_lost 26 = .ok (.istore_n 3, 1) := by decide +kernel
theorem dX11_lost_27 : decode cX11_lost 27 = .ok (.iload_n 3, 1) := by decide +kernel
theorem dX11_lost_28 : decode cX11_lost 28 = .ok (.invokestatic 90, 3) := by decide +kernel
theorem dX11_lost_31 : decode cX11_lost 31 = .ok (.istore 4, 2) := by decide +kernel
theorem dX11_lost_33 : decode cX11_lost 33 = .ok (.iconst 0, 1) := by decide +kernel
theorem dX11_lost_34 : decode cX11_lost 34 = .ok (.istore 5, 2) := by decide +kernel
theorem dX11_lost_36 : decode cX11_lost 36 = .ok (.iconst 0, 1) := by decide +kernel
theorem dX11_lost_37 : decode cX11_lost 37 = .ok (.istore 6, 2) := by decide +kernel
theorem dX11_lost_39 : decode cX11_lost 39 = .ok (.iload 6, 2) := by decide +kernel
theorem dX11_lost_41 : decode cX11_lost 41 = .ok (.bipush 32, 2) := by decide +kernel
theorem dX11_lost_43 : decode cX11_lost 43 = .ok (.if_icmp .ge 82, 3) := by decide +kernel
theorem dX11_lost_46 : decode cX11_lost 46 = .ok (.iload 6, 2) := by decide +kernel
theorem dX11_lost_48 : decode cX11_lost 48 = .ok (.iload_n 3, 1) := by decide +kernel
theorem dX11_lost_49 : decode cX11_lost 49 = .ok (.iconst (-1), 1) := by decide +kernel
theorem dX11_lost_50 : decode cX11_lost 50 = .ok (.ixor, 1) := by decide +kernel
theorem dX11_lost_51 : decode cX11_lost 51 = .ok (.iand, 1) := by decide +kernel
theorem dX11_lost_52 : decode cX11_lost 52 = .ok (.ifCond .ne 67, 3) := by decide +kernel
theorem dX11_lost_55 : decode cX11_lost 55 = .ok (.aload_n 0, 1) := by decide +kernel
theorem dX11_lost_56 : decode cX11_lost 56 = .ok (.getfield 19, 3) := by decide +kernel
theorem dX11_lost_59 : decode cX11_lost 59 = .ok (.aload_n 0, 1) := by decide +kernel
theorem dX11_lost_60 : decode cX11_lost 60 = .ok (.getfield 16, 3) := by decide +kernel
theorem dX11_lost_63 : decode cX11_lost 63 = .ok (.invokestatic 135, 3) := by decide +kernel
theorem dX11_lost_66 : decode cX11_lost 66 = .ok (.aload_n 0, 1) := by decide +kernel
theorem dX11_lost_67 : decode cX11_lost 67 = .ok (.getfield 19, 3) := by decide +kernel
theorem dX11_lost_70 : decode cX11_lost 70 = .ok (.iconst 3, 1) := by decide +kernel
theorem dX11_lost_71 : decode cX11_lost 71 = .ok (.iload 6, 2) := by decide +kernel
theorem dX11_lost_73 : decode cX11_lost 73 = .ok (.iastore, 1) := by decide +kernel
theorem dX11_lost_74 : decode cX11_lost 74 = .ok (.iload 5, 2) := by decide +kernel
theorem dX11_lost_76 : decode cX11_lost 76 = .ok (.aload_n 0, 1) := by decide +kernel
theorem dX11_lost_77 : decode cX11_lost 77 = .ok (.aload_n 0, 1) := by decide +kernel
theorem dX11_lost_78 : decode cX11_lost 78 = .ok (.getfield 19, 3) := by decide +kernel
theorem dX11_lost_81 : decode cX11_lost 81 = .ok (.invokevirtual 209, 3) := by decide +kernel
theorem dX11_lost_84 : decode cX11_lost 84 = .ok (.ifCond .eq 31, 3) := by decide +kernel
theorem dX11_lost_87 : decode cX11_lost 87 = .ok (.bipush 10, 2) := by decide +kernel
theorem dX11_lost_89 : decode cX11_lost 89 = .ok (.iload_n 1, 1) := by decide +kernel
theorem dX11_lost_90 : decode cX11_lost 90 = .ok (.isub, 1) := by decide +kernel
theorem dX11_lost_91 : decode cX11_lost 91 = .ok (.iload 6, 2) := by decide +kernel
theorem dX11_lost_93 : decode cX11_lost 93 = .ok (.invokestatic 90, 3) := by decide +kernel
theorem dX11_lost_96 : decode cX11_lost 96 = .ok (.invokestatic 163, 3) := by decide +kernel
theorem dX11_lost_99 : decode cX11_lost 99 = .ok (.iload_n 1, 1) := by decide +kernel
theorem dX11_lost_100 : decode cX11_lost 100 = .ok (.iload 4, 2) := by decide +kernel
theorem dX11_lost_102 : decode cX11_lost 102 = .ok (.iload 6, 2) := by decide +kernel
theorem dX11_lost_104 : decode cX11_lost 104 = .ok (.invokestatic 90, 3) := by decide +kernel
theorem dX11_lost_107 : decode cX11_lost 107 = .ok (.isub, 1) := by decide +kernel
theorem dX11_lost_108 : decode cX11_lost 108 = .ok (.invokestatic 163, 3) := by decide +kernel
theorem dX11_lost_111 : decode cX11_lost 111 = .ok (.imul, 1) := by decide +kernel
theorem dX11_lost_112 : decode cX11_lost 112 = .ok (.goto 4, 3) := by decide +kernel
theorem dX11_lost_115 : decode cX11_lost 115 = .ok (.iconst 0, 1) := by decide +kernel
theorem dX11_lost_116 : decode cX11_lost 116 = .ok (.iadd, 1) := by decide +kernel
theorem dX11_lost_117 : decode cX11_lost 117 = .ok (.istore 5, 2) := by decide +kernel
theorem dX11_lost_119 : decode cX11_lost 119 = .ok (.iinc 6 1, 3) := by decide +kernel
theorem dX11_lost_122 : decode cX11_lost 122 = .ok (.goto (-83), 3) := by decide +kernel
theorem dX11_lost_125 : decode cX11_lost 125 = .ok (.iload 5, 2) := by decide +kernel
theorem dX11_lost_127 : decode cX11_lost 127 = .ok (.bipush 10, 2) := by decide +kernel
theorem dX11_lost_129 : decode cX11_lost 129 = .ok (.iload 4, 2) := by decide +kernel
theorem dX11_lost_131 : decode cX11_lost 131 = .ok (.invokestatic 163, 3) := by decide +kernel
theorem dX11_lost_134 : decode cX11_lost 134 = .ok (.iload_n 2, 1) := by decide +kernel
theorem dX11_lost_135 : decode cX11_lost 135 = .ok (.invokestatic 305, 3) := by decide +kernel
theorem dX11_lost_138 : decode cX11_lost 138 = .ok (.ireturn, 1) := by decide +kernel
theorem dX11_seed_0 : decode cX11_seed 0 = .ok (.aload_n 0, 1) := by decide +kernel
theorem dX11_seed_1 : decode cX11_seed 1 = .ok (.iconst 0, 1) := by decide +kernel
theorem dX11_seed_2 : decode cX11_seed 2 = .ok (.putfield 74, 3) := by decide +kernel
theorem dX11_seed_5 : decode cX11_seed 5 = .ok (.aload_n 0, 1) := by decide +kernel
theorem dX11_seed_6 : decode cX11_seed 6 = .ok (.getfield 311, 3) := by decide +kernel
theorem dX11_seed_9 : decode cX11_seed 9 = .ok (.lstore_n 3, 1) := by decide +kernel
theorem dX11_seed_10 : decode cX11_seed 10 = .ok (.aload_n 0, 1) := by decide +kernel
theorem dX11_seed_11 : decode cX11_seed 11 = .ok (.lload_n 1, 1) := by decide +kernel
theorem dX11_seed_12 : decode cX11_seed 12 = .ok (.putfield 311, 3) := by decide +kernel
theorem dX11_seed_15 : decode cX11_seed 15 = .ok (.lload_n 3, 1) := by decide +kernel
theorem dX11_seed_16 : decode cX11_seed 16 = .ok (.lreturn, 1) := by decide +kernel
theorem dX11_drawn_0 : decode cX11_drawn 0 = .ok (.aload_n 0, 1) := by decide +kernel
theorem dX11_drawn_1 : decode cX11_drawn 1 = .ok (.iconst 0, 1) := by decide +kernel
theorem dX11_drawn_2 : decode cX11_drawn 2 = .ok (.putfield 74, 3) := by decide +kernel
theorem dX11_drawn_5 : decode cX11_drawn 5 = .ok (.iload_n 1, 1) := by decide +kernel
theorem dX11_drawn_6 : decode cX11_drawn 6 = .ok (.i2l, 1) := by decide +kernel
theorem dX11_drawn_7 : decode cX11_drawn 7 = .ok (.lconst 1, 1) := by decide +kernel
theorem dX11_drawn_8 : decode cX11_drawn 8 = .ok (.ldc2_w 315, 3) := by decide +kernel
theorem dX11_drawn_11 : decode cX11_drawn 11 = .ok (.invokestatic 78, 3) := by decide +kernel
theorem dX11_drawn_14 : decode cX11_drawn 14 = .ok (.ifCond .ne 6, 3) := by decide +kernel
theorem dX11_drawn_17 : decode cX11_drawn 17 = .ok (.bipush (-2), 2) := by decide +kernel
theorem dX11_drawn_19 : decode cX11_drawn 19 = .ok (.ireturn, 1) := by decide +kernel
theorem dX11_drawn_20 : decode cX11_drawn 20 = .ok (.iconst 0, 1) := by decide +kernel
theorem dX11_drawn_21 : decode cX11_drawn 21 = .ok (.istore_n 2, 1) := by decide +kernel
theorem dX11_drawn_22 : decode cX11_drawn 22 = .ok (.iconst 0, 1) := by decide +kernel
theorem dX11_drawn_23 : decode cX11_drawn 23 = .ok (.istore_n 3, 1) := by decide +kernel
theorem dX11_drawn_24 : decode cX11_drawn 24 = .ok (.iload_n 3, 1) := by decide +kernel
theorem dX11_drawn_25 : decode cX11_drawn 25 = .ok (.iload_n 1, 1) := by decide +kernel
theorem dX11_drawn_26 : decode cX11_drawn 26 = .ok (.if_icmp .ge 107, 3) := by decide +kernel
theorem dX11_drawn_29 : decode cX11_drawn 29 = .ok (.aload_n 0, 1) := by decide +kernel
theorem dX11_drawn_30 : decode cX11_drawn 30 = .ok (.aload_n 0, 1) := by decide +kernel
theorem dX11_drawn_31 : decode cX11_drawn 31 = .ok (.getfield 311, 3) := by decide +kernel
theorem dX11_drawn_34 : decode cX11_drawn 34 = .ok (.ldc2_w 317, 3) := by decide +kernel
theorem dX11_drawn_37 : decode cX11_drawn 37 = .ok (.lmul, 1) := by decide +kernel
theorem dX11_drawn_38 : decode cX11_drawn 38 = .ok (.ldc2_w 319, 3) := by decide +kernel
theorem dX11_drawn_41 : decode cX11_drawn 41 = .ok (.ladd, 1) := by decide +kernel
theorem dX11_drawn_42 : decode cX11_drawn 42 = .ok (.putfield 311, 3) := by decide +kernel
theorem dX11_drawn_45 : decode cX11_drawn 45 = .ok (.aload_n 0, 1) := by decide +kernel
theorem dX11_drawn_46 : decode cX11_drawn 46 = .ok (.getfield 311, 3) := by decide +kernel
theorem dX11_drawn_49 : decode cX11_drawn 49 = .ok (.bipush 33, 2) := by decide +kernel
theorem dX11_drawn_51 : decode cX11_drawn 51 = .ok (.lushr, 1) := by decide +kernel
theorem dX11_drawn_52 : decode cX11_drawn 52 = .ok (.l2i, 1) := by decide +kernel
theorem dX11_drawn_53 : decode cX11_drawn 53 = .ok (.istore 4, 2) := by decide +kernel
theorem dX11_drawn_55 : decode cX11_drawn 55 = .ok (.iload_n 2, 1) := by decide +kernel
theorem dX11_drawn_56 : decode cX11_drawn 56 = .ok (.aload_n 0, 1) := by decide +kernel
theorem dX11_drawn_57 : decode cX11_drawn 57 = .ok (.getfield 16, 3) := by decide +kernel
theorem dX11_drawn_60 : decode cX11_drawn 60 = .ok (.iconst 0, 1) := by decide +kernel
theorem dX11_drawn_61 : decode cX11_drawn 61 = .ok (.iload 4, 2) := by decide +kernel
theorem dX11_drawn_63 : decode cX11_drawn 63 = .ok (.bipush 16, 2) := by decide +kernel
theorem dX11_drawn_65 : decode cX11_drawn 65 = .ok (.idiv, 1) := by decide +kernel
theorem dX11_drawn_66 : decode cX11_drawn 66 = .ok (.iload 4, 2) := by decide +kernel
theorem dX11_drawn_68 : decode cX11_drawn 68 = .ok (.bipush 10, 2) := by decide +kernel
theorem dX11_drawn_70 : decode cX11_drawn 70 = .ok (.irem, 1) := by decide +kernel
theorem dX11_drawn_71 : decode cX11_drawn 71 = .ok (.invokestatic 187, 3) := by decide +kernel
theorem dX11_drawn_74 : decode cX11_drawn 74 = .ok (.aload_n 0, 1) := by decide +kernel
theorem dX11_drawn_75 : decode cX11_drawn 75 = .ok (.getfield 16, 3) := by decide +kernel
theorem dX11_drawn_78 : decode cX11_drawn 78 = .ok (.iconst 2, 1) := by decide +kernel
theorem dX11_drawn_79 : decode cX11_drawn 79 = .ok (.iaload, 1) := by decide +kernel
theorem dX11_drawn_80 : decode cX11_drawn 80 = .ok (.iand, 1) := by decide +kernel
theorem dX11_drawn_81 : decode cX11_drawn 81 = .ok (.ifCond .eq 7, 3) := by decide +kernel
theorem dX11_drawn_84 : decode cX11_drawn 84 = .ok (.iconst 1, 1) := by decide +kernel
theorem dX11_drawn_85 : decode cX11_drawn 85 = .ok (.goto 4, 3) := by decide +kernel
theorem dX11_drawn_88 : decode cX11_drawn 88 = .ok (.iconst 0, 1) := by decide +kernel
theorem dX11_drawn_89 : decode cX11_drawn 89 = .ok (.iadd, 1) := by decide +kernel
theorem dX11_drawn_90 : decode cX11_drawn 90 = .ok (.istore_n 2, 1) := by decide +kernel
theorem dX11_drawn_91 : decode cX11_drawn 91 = .ok (.iload_n 2, 1) := by decide +kernel
theorem dX11_drawn_92 : decode cX11_drawn 92 = .ok (.aload_n 0, 1) := by decide +kernel
theorem dX11_drawn_93 : decode cX11_drawn 93 = .ok (.getfield 16, 3) := by decide +kernel
theorem dX11_drawn_96 : decode cX11_drawn 96 = .ok (.iconst 1, 1) := by decide +kernel
theorem dX11_drawn_97 : decode cX11_drawn 97 = .ok (.iload 4, 2) := by decide +kernel
theorem dX11_drawn_99 : decode cX11_drawn 99 = .ok (.bipush 16, 2) := by decide +kernel
theorem dX11_drawn_101 : decode cX11_drawn 101 = .ok (.idiv, 1) := by decide +kernel
theorem dX11_drawn_102 : decode cX11_drawn 102 = .ok (.iload 4, 2) := by decide +kernel
theorem dX11_drawn_104 : decode cX11_drawn 104 = .ok (.bipush 10, 2) := by decide +kernel
theorem dX11_drawn_106 : decode cX11_drawn 106 = .ok (.irem, 1) := by decide +kernel
theorem dX11_drawn_107 : decode cX11_drawn 107 = .ok (.invokestatic 187, 3) := by decide +kernel
theorem dX11_drawn_110 : decode cX11_drawn 110 = .ok (.aload_n 0, 1) := by decide +kernel
theorem dX11_drawn_111 : decode cX11_drawn 111 = .ok (.getfield 16, 3) := by decide +kernel
theorem dX11_drawn_114 : decode cX11_drawn 114 = .ok (.iconst 3, 1) := by decide +kernel
theorem dX11_drawn_115 : decode cX11_drawn 115 = .ok (.iaload, 1) := by decide +kernel
theorem dX11_drawn_116 : decode cX11_drawn 116 = .ok (.iand, 1) := by decide +kernel
theorem dX11_drawn_117 : decode cX11_drawn 117 = .ok (.ifCond .eq 7, 3) := by decide +kernel
theorem dX11_drawn_120 : decode cX11_drawn 120 = .ok (.iconst 2, 1) := by decide +kernel
theorem dX11_drawn_121 : decode cX11_drawn 121 = .ok (.goto 4, 3) := by decide +kernel
theorem dX11_drawn_124 : decode cX11_drawn 124 = .ok (.iconst 0, 1) := by decide +kernel
theorem dX11_drawn_125 : decode cX11_drawn 125 = .ok (.iadd, 1) := by decide +kernel
theorem dX11_drawn_126 : decode cX11_drawn 126 = .ok (.istore_n 2, 1) := by decide +kernel
theorem dX11_drawn_127 : decode cX11_drawn 127 = .ok (.iinc 3 1, 3) := by decide +kernel
theorem dX11_drawn_130 : decode cX11_drawn 130 = .ok (.goto (-106), 3) := by decide +kernel
theorem dX11_drawn_133 : decode cX11_drawn 133 = .ok (.iload_n 2, 1) := by decide +kernel
theorem dX11_drawn_134 : decode cX11_drawn 134 = .ok (.ireturn, 1) := by decide +kernel
theorem dX11_keep_0 : decode cX11_keep 0 = .ok (.aload_n 0, 1) := by decide +kernel
theorem dX11_keep_1 : decode cX11_keep 1 = .ok (.iconst 0, 1) := by decide +kernel
theorem dX11_keep_2 : decode cX11_keep 2 = .ok (.putfield 74, 3) := by decide +kernel
theorem dX11_keep_5 : decode cX11_keep 5 = .ok (.iload_n 1, 1) := by decide +kernel
theorem dX11_keep_6 : decode cX11_keep 6 = .ok (.i2l, 1) := by decide +kernel
theorem dX11_keep_7 : decode cX11_keep 7 = .ok (.lconst 0, 1) := by decide +kernel
theorem dX11_keep_8 : decode cX11_keep 8 = .ok (.lconst 1, 1) := by decide +kernel
theorem dX11_keep_9 : decode cX11_keep 9 = .ok (.invokestatic 78, 3) := by decide +kernel
theorem dX11_keep_12 : decode cX11_keep 12 = .ok (.ifCond .ne 5, 3) := by decide +kernel
theorem dX11_keep_15 : decode cX11_keep 15 = .ok (.iconst (-1), 1) := by decide +kernel
theorem dX11_keep_16 : decode cX11_keep 16 = .ok (.ireturn, 1) := by decide +kernel
theorem dX11_keep_17 : decode cX11_keep 17 = .ok (.aload_n 0, 1) := by decide +kernel
theorem dX11_keep_18 : decode cX11_keep 18 = .ok (.getfield 28, 3) := by decide +kernel
theorem dX11_keep_21 : decode cX11_keep 21 = .ok (.iload_n 1, 1) := by decide +kernel
theorem dX11_keep_22 : decode cX11_keep 22 = .ok (.iconst 1, 1) := by decide +kernel
theorem dX11_keep_23 : decode cX11_keep 23 = .ok (.bastore, 1) := by decide +kernel
theorem dX11_keep_24 : decode cX11_keep 24 = .ok (.iconst 0, 1) := by decide +kernel
theorem dX11_keep_25 : decode cX11_keep 25 = .ok (.istore_n 2, 1) := by decide +kernel
theorem dX11_keep_26 : decode cX11_keep 26 = .ok (.iload_n 2, 1) := by decide +kernel
theorem dX11_keep_27 : decode cX11_keep 27 = .ok (.bipush 22, 2) := by decide +kernel
theorem dX11_keep_29 : decode cX11_keep 29 = .ok (.if_icmp .ge 26, 3) := by decide +kernel
theorem dX11_keep_32 : decode cX11_keep 32 = .ok (.aload_n 0, 1) := by decide +kernel
theorem dX11_keep_33 : decode cX11_keep 33 = .ok (.getfield 25, 3) := by decide +kernel
theorem dX11_keep_36 : decode cX11_keep 36 = .ok (.bipush 22, 2) := by decide +kernel
theorem dX11_keep_38 : decode cX11_keep 38 = .ok (.iload_n 1, 1) := by decide +kernel
theorem dX11_keep_39 : decode cX11_keep 39 = .ok (.imul, 1) := by decide +kernel
theorem dX11_keep_40 : decode cX11_keep 40 = .ok (.iload_n 2, 1) := by decide +kernel
theorem dX11_keep_41 : decode cX11_keep 41 = .ok (.iadd, 1) := by decide +kernel
theorem dX11_keep_42 : decode cX11_keep 42 = .ok (.aload_n 0, 1) := by decide +kernel
theorem dX11_keep_43 : decode cX11_keep 43 = .ok (.getfield 16, 3) := by decide +kernel
theorem dX11_keep_46 : decode cX11_keep 46 = .ok (.iload_n 2, 1) := by decide +kernel
theorem dX11_keep_47 : decode cX11_keep 47 = .ok (.iaload, 1) := by decide +kernel
theorem dX11_keep_48 : decode cX11_keep 48 = .ok (.iastore, 1) := by decide +kernel
theorem dX11_keep_49 : decode cX11_keep 49 = .ok (.iinc 2 1, 3) := by decide +kernel
theorem dX11_keep_52 : decode cX11_keep 52 = .ok (.goto (-26), 3) := by decide +kernel
theorem dX11_keep_55 : decode cX11_keep 55 = .ok (.aload_n 0, 1) := by decide +kernel
theorem dX11_keep_56 : decode cX11_keep 56 = .ok (.getfield 16, 3) := by decide +kernel
theorem dX11_keep_59 : decode cX11_keep 59 = .ok (.invokestatic 142, 3) := by decide +kernel
theorem dX11_keep_62 : decode cX11_keep 62 = .ok (.ireturn, 1) := by decide +kernel
theorem dX11_again_0 : decode cX11_again 0 = .ok (.aload_n 0, 1) := by decide +kernel
theorem dX11_again_1 : decode cX11_again 1 = .ok (.iconst 0, 1) := by decide +kernel
theorem dX11_again_2 : decode cX11_again 2 = .ok (.putfield 74, 3) := by decide +kernel
theorem dX11_again_5 : decode cX11_again 5 = .ok (.iload_n 1, 1) := by decide +kernel
theorem dX11_again_6 : decode cX11_again 6 = .ok (.i2l, 1) := by decide +kernel
theorem dX11_again_7 : decode cX11_again 7 = .ok (.lconst 0, 1) := by decide +kernel
theorem dX11_again_8 : decode cX11_again 8 = .ok (.lconst 1, 1) := by decide +kernel
theorem dX11_again_9 : decode cX11_again 9 = .ok (.invokestatic 78, 3) := by decide +kernel
theorem dX11_again_12 : decode cX11_again 12 = .ok (.ifCond .ne 5, 3) := by decide +kernel
theorem dX11_again_15 : decode cX11_again 15 = .ok (.iconst (-1), 1) := by decide +kernel
theorem dX11_again_16 : decode cX11_again 16 = .ok (.ireturn, 1) := by decide +kernel
theorem dX11_again_17 : decode cX11_again 17 = .ok (.aload_n 0, 1) := by decide +kernel
theorem dX11_again_18 : decode cX11_again 18 = .ok (.getfield 28, 3) := by decide +kernel
theorem dX11_again_21 : decode cX11_again 21 = .ok (.iload_n 1, 1) := by decide +kernel
theorem dX11_again_22 : decode cX11_again 22 = .ok (.baload, 1) := by decide +kernel
theorem dX11_again_23 : decode cX11_again 23 = .ok (.ifCond .ne 6, 3) := by decide +kernel
theorem dX11_again_26 : decode cX11_again 26 = .ok (.bipush (-3), 2) := by decide +kernel
theorem dX11_again_28 : decode cX11_again 28 = .ok (.ireturn, 1) := by decide +kernel
theorem dX11_again_29 : decode cX11_again 29 = .ok (.iconst 0, 1) := by decide +kernel
theorem dX11_again_30 : decode cX11_again 30 = .ok (.istore_n 2, 1) := by decide +kernel
theorem dX11_again_31 : decode cX11_again 31 = .ok (.iload_n 2, 1) := by decide +kernel
theorem dX11_again_32 : decode cX11_again 32 = .ok (.bipush 22, 2) := by decide +kernel
theorem dX11_again_34 : decode cX11_again 34 = .ok (.if_icmp .ge 26, 3) := by decide +kernel
theorem dX11_again_37 : decode cX11_again 37 = .ok (.aload_n 0, 1) := by decide +kernel
theorem dX11_again_38 : decode cX11_again 38 = .ok (.getfield 16, 3) := by decide +kernel
theorem dX11_again_41 : decode cX11_again 41 = .ok (.iload_n 2, 1) := by decide +kernel
theorem dX11_again_42 : decode cX11_again 42 = .ok (.aload_n 0, 1) := by decide +kernel
theorem dX11_again_43 : decode cX11_again 43 = .ok (.getfield 25, 3) := by decide +kernel
theorem dX11_again_46 : decode cX11_again 46 = .ok (.bipush 22, 2) := by decide +kernel
theorem dX11_again_48 : decode cX11_again 48 = .ok (.iload_n 1, 1) := by decide +kernel
theorem dX11_again_49 : decode cX11_again 49 = .ok (.imul, 1) := by decide +kernel
theorem dX11_again_50 : decode cX11_again 50 = .ok (.iload_n 2, 1) := by decide +kernel
theorem dX11_again_51 : decode cX11_again 51 = .ok (.iadd, 1) := by decide +kernel
theorem dX11_again_52 : decode cX11_again 52 = .ok (.iaload, 1) := by decide +kernel
theorem dX11_again_53 : decode cX11_again 53 = .ok (.iastore, 1) := by decide +kernel
theorem dX11_again_54 : decode cX11_again 54 = .ok (.iinc 2 1, 3) := by decide +kernel
theorem dX11_again_57 : decode cX11_again 57 = .ok (.goto (-26), 3) := by decide +kernel
theorem dX11_again_60 : decode cX11_again 60 = .ok (.aload_n 0, 1) := by decide +kernel
theorem dX11_again_61 : decode cX11_again 61 = .ok (.iconst 0, 1) := by decide +kernel
theorem dX11_again_62 : decode cX11_again 62 = .ok (.putfield 139, 3) := by decide +kernel
theorem dX11_again_65 : decode cX11_again 65 = .ok (.aload_n 0, 1) := by decide +kernel
theorem dX11_again_66 : decode cX11_again 66 = .ok (.getfield 16, 3) := by decide +kernel
theorem dX11_again_69 : decode cX11_again 69 = .ok (.invokestatic 142, 3) := by decide +kernel
theorem dX11_again_72 : decode cX11_again 72 = .ok (.ireturn, 1) := by decide +kernel
theorem dX11_count_0 : decode cX11_count 0 = .ok (.aload_n 0, 1) := by decide +kernel
theorem dX11_count_1 : decode cX11_count 1 = .ok (.iconst 0, 1) := by decide +kernel
theorem dX11_count_2 : decode cX11_count 2 = .ok (.putfield 74, 3) := by decide +kernel
theorem dX11_count_5 : decode cX11_count 5 = .ok (.iload_n 1, 1) := by decide +kernel
theorem dX11_count_6 : decode cX11_count 6 = .ok (.tableswitch 96 0 8 #[50, 55, 55, 64, 64, 75, 75, 86, 91], 50) := by decide +kernel
theorem dX11_count_56 : decode cX11_count 56 = .ok (.aload_n 0, 1) := by decide +kernel
theorem dX11_count_57 : decode cX11_count 57 = .ok (.getfield 96, 3) := by decide +kernel
theorem dX11_count_60 : decode cX11_count 60 = .ok (.ireturn, 1) := by decide +kernel
theorem dX11_count_61 : decode cX11_count 61 = .ok (.aload_n 0, 1) := by decide +kernel
theorem dX11_count_62 : decode cX11_count 62 = .ok (.getfield 16, 3) := by decide +kernel
theorem dX11_count_65 : decode cX11_count 65 = .ok (.iload_n 1, 1) := by decide +kernel
theorem dX11_count_66 : decode cX11_count 66 = .ok (.iconst 1, 1) := by decide +kernel
theorem dX11_count_67 : decode cX11_count 67 = .ok (.isub, 1) := by decide +kernel
theorem dX11_count_68 : decode cX11_count 68 = .ok (.iaload, 1) := by decide +kernel
theorem dX11_count_69 : decode cX11_count 69 = .ok (.ireturn, 1) := by decide +kernel
theorem dX11_count_70 : decode cX11_count 70 = .ok (.aload_n 0, 1) := by decide +kernel
theorem dX11_count_71 : decode cX11_count 71 = .ok (.getfield 16, 3) := by decide +kernel
theorem dX11_count_74 : decode cX11_count 74 = .ok (.iload_n 1, 1) := by decide +kernel
theorem dX11_count_75 : decode cX11_count 75 = .ok (.iconst 3, 1) := by decide +kernel
theorem dX11_count_76 : decode cX11_count 76 = .ok (.isub, 1) := by decide +kernel
theorem dX11_count_77 : decode cX11_count 77 = .ok (.invokestatic 116, 3) := by decide +kernel
theorem dX11_count_80 : decode cX11_count 80 = .ok (.ireturn, 1) := by decide +kernel
theorem dX11_count_81 : decode cX11_count 81 = .ok (.aload_n 0, 1) := by decide +kernel
theorem dX11_count_82 : decode cX11_count 82 = .ok (.getfield 16, 3) := by decide +kernel
theorem dX11_count_85 : decode cX11_count 85 = .ok (.iconst 2, 1) := by decide +kernel
theorem dX11_count_86 : decode cX11_count 86 = .ok (.iload_n 1, 1) := by decide +kernel
theorem dX11_count_87 : decode cX11_count 87 = .ok (.iadd, 1) := by decide +kernel
theorem dX11_count_88 : decode cX11_count 88 = .ok (.iconst 5, 1) := by decide +kernel
theorem dX11_count_89 : decode cX11_count 89 = .ok (.isub, 1) := by decide +kernel
theorem dX11_count_90 : decode cX11_count 90 = .ok (.iaload, 1) := by decide +kernel
theorem dX11_count_91 : decode cX11_count 91 = .ok (.ireturn, 1) := by decide +kernel
theorem dX11_count_92 : decode cX11_count 92 = .ok (.aload_n 0, 1) := by decide +kernel
theorem dX11_count_93 : decode cX11_count 93 = .ok (.getfield 139, 3) := by decide +kernel
theorem dX11_count_96 : decode cX11_count 96 = .ok (.ireturn, 1) := by decide +kernel
theorem dX11_count_97 : decode cX11_count 97 = .ok (.aload_n 0, 1) := by decide +kernel
theorem dX11_count_98 : decode cX11_count 98 = .ok (.getfield 290, 3) := by decide +kernel
theorem dX11_count_101 : decode cX11_count 101 = .ok (.ireturn, 1) := by decide +kernel
theorem dX11_count_102 : decode cX11_count 102 = .ok (.bipush (-2), 2) := by decide +kernel
theorem dX11_count_104 : decode cX11_count 104 = .ok (.ireturn, 1) := by decide +kernel
