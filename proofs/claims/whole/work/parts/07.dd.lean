theorem dX0_init_0 : decode cX0_init 0 = .ok (.aload_n 0, 1) := by decide +kernel
theorem dX0_init_1 : decode cX0_init 1 = .ok (.invokespecial 3, 3) := by decide +kernel
theorem dX0_init_4 : decode cX0_init 4 = .ok (.aload_n 0, 1) := by decide +kernel
theorem dX0_init_5 : decode cX0_init 5 = .ok (.bipush 14, 2) := by decide +kernel
theorem dX0_init_7 : decode cX0_init 7 = .ok (.newarray .int, 2) := by decide +kernel
theorem dX0_init_9 : decode cX0_init 9 = .ok (.putfield 9, 3) := by decide +kernel
theorem dX0_init_12 : decode cX0_init 12 = .ok (.return_, 1) := by decide +kernel
theorem dX0_edgeAct_0 : decode cX0_edgeAct 0 = .ok (.iload_n 0, 1) := by decide +kernel
theorem dX0_edgeAct_1 : decode cX0_edgeAct 1 = .ok (.sipush 1000, 3) := by decide +kernel
theorem dX0_edgeAct_4 : decode cX0_edgeAct 4 = .ok (.imul, 1) := by decide +kernel
theorem dX0_edgeAct_5 : decode cX0_edgeAct 5 = .ok (.iload_n 1, 1) := by decide +kernel
theorem dX0_edgeAct_6 : decode cX0_edgeAct 6 = .ok (.bipush 100, 2) := by decide +kernel
theorem dX0_edgeAct_8 : decode cX0_edgeAct 8 = .ok (.imul, 1) := by decide +kernel
theorem dX0_edgeAct_9 : decode cX0_edgeAct 9 = .ok (.iadd, 1) := by decide +kernel
theorem dX0_edgeAct_10 : decode cX0_edgeAct 10 = .ok (.iload_n 2, 1) := by decide +kernel
theorem dX0_edgeAct_11 : decode cX0_edgeAct 11 = .ok (.bipush 10, 2) := by decide +kernel
theorem dX0_edgeAct_13 : decode cX0_edgeAct 13 = .ok (.imul, 1) := by decide +kernel
theorem dX0_edgeAct_14 : decode cX0_edgeAct 14 = .ok (.iadd, 1) := by decide +kernel
theorem dX0_edgeAct_15 : decode cX0_edgeAct 15 = .ok (.iload_n 3, 1) := by decide +kernel
theorem dX0_edgeAct_16 : decode cX0_edgeAct 16 = .ok (.iadd, 1) := by decide +kernel
theorem dX0_edgeAct_17 : decode cX0_edgeAct 17 = .ok (.ireturn, 1) := by decide +kernel
theorem dX0_endAct_0 : decode cX0_endAct 0 = .ok (.iload_n 0, 1) := by decide +kernel
theorem dX0_endAct_1 : decode cX0_endAct 1 = .ok (.iload_n 1, 1) := by decide +kernel
theorem dX0_endAct_2 : decode cX0_endAct 2 = .ok (.iconst 0, 1) := by decide +kernel
theorem dX0_endAct_3 : decode cX0_endAct 3 = .ok (.iconst 0, 1) := by decide +kernel
theorem dX0_endAct_4 : decode cX0_endAct 4 = .ok (.invokestatic 15, 3) := by decide +kernel
theorem dX0_endAct_7 : decode cX0_endAct 7 = .ok (.ireturn, 1) := by decide +kernel
theorem dX0_append_0 : decode cX0_append 0 = .ok (.aload_n 0, 1) := by decide +kernel
theorem dX0_append_1 : decode cX0_append 1 = .ok (.getfield 19, 3) := by decide +kernel
theorem dX0_append_4 : decode cX0_append 4 = .ok (.bipush 14, 2) := by decide +kernel
theorem dX0_append_6 : decode cX0_append 6 = .ok (.if_icmp .lt 24, 3) := by decide +kernel
theorem dX0_append_9 : decode cX0_append 9 = .ok (.aload_n 0, 1) := by decide +kernel
theorem dX0_append_10 : decode cX0_append 10 = .ok (.getfield 9, 3) := by decide +kernel
theorem dX0_append_13 : decode cX0_append 13 = .ok (.iconst 1, 1) := by decide +kernel
theorem dX0_append_14 : decode cX0_append 14 = .ok (.aload_n 0, 1) := by decide +kernel
theorem dX0_append_15 : decode cX0_append 15 = .ok (.getfield 9, 3) := by decide +kernel
theorem dX0_append_18 : decode cX0_append 18 = .ok (.iconst 0, 1) := by decide +kernel
theorem dX0_append_19 : decode cX0_append 19 = .ok (.bipush 13, 2) := by decide +kernel
theorem dX0_append_21 : decode cX0_append 21 = .ok (.invokestatic 23, 3) := by decide +kernel
theorem dX0_append_24 : decode cX0_append 24 = .ok (.aload_n 0, 1) := by decide +kernel
theorem dX0_append_25 : decode cX0_append 25 = .ok (.bipush 13, 2) := by decide +kernel
theorem dX0_append_27 : decode cX0_append 27 = .ok (.putfield 19, 3) := by decide +kernel
theorem dX0_append_30 : decode cX0_append 30 = .ok (.aload_n 0, 1) := by decide +kernel
theorem dX0_append_31 : decode cX0_append 31 = .ok (.getfield 9, 3) := by decide +kernel
theorem dX0_append_34 : decode cX0_append 34 = .ok (.aload_n 0, 1) := by decide +kernel
theorem dX0_append_35 : decode cX0_append 35 = .ok (.getfield 19, 3) := by decide +kernel
theorem dX0_append_38 : decode cX0_append 38 = .ok (.iload_n 1, 1) := by decide +kernel
theorem dX0_append_39 : decode cX0_append 39 = .ok (.iastore, 1) := by decide +kernel
theorem dX0_append_40 : decode cX0_append 40 = .ok (.aload_n 0, 1) := by decide +kernel
theorem dX0_append_41 : decode cX0_append 41 = .ok (.dup, 1) := by decide +kernel
theorem dX0_append_42 : decode cX0_append 42 = .ok (.getfield 19, 3) := by decide +kernel
theorem dX0_append_45 : decode cX0_append 45 = .ok (.iconst 1, 1) := by decide +kernel
theorem dX0_append_46 : decode cX0_append 46 = .ok (.iadd, 1) := by decide +kernel
theorem dX0_append_47 : decode cX0_append 47 = .ok (.putfield 19, 3) := by decide +kernel
theorem dX0_append_50 : decode cX0_append 50 = .ok (.return_, 1) := by decide +kernel
theorem dX0_takeBack_0 : decode cX0_takeBack 0 = .ok (.aload_n 0, 1) := by decide +kernel
theorem dX0_takeBack_1 : decode cX0_takeBack 1 = .ok (.getfield 19, 3) := by decide +kernel
theorem dX0_takeBack_4 : decode cX0_takeBack 4 = .ok (.iconst 1, 1) := by decide +kernel
theorem dX0_takeBack_5 : decode cX0_takeBack 5 = .ok (.if_icmp .lt 12, 3) := by decide +kernel
theorem dX0_takeBack_8 : decode cX0_takeBack 8 = .ok (.aload_n 0, 1) := by decide +kernel
theorem dX0_takeBack_9 : decode cX0_takeBack 9 = .ok (.getfield 19, 3) := by decide +kernel
theorem dX0_takeBack_12 : decode cX0_takeBack 12 = .ok (.bipush 14, 2) := by decide +kernel
theorem dX0_takeBack_14 : decode cX0_takeBack 14 = .ok (.if_icmp .le 4, 3) := by decide +kernel
theorem dX0_takeBack_17 : decode cX0_takeBack 17 = .ok (.return_, 1) := by decide +kernel
theorem dX0_takeBack_18 : decode cX0_takeBack 18 = .ok (.aload_n 0, 1) := by decide +kernel
theorem dX0_takeBack_19 : decode cX0_takeBack 19 = .ok (.dup, 1) := by decide +kernel
theorem dX0_takeBack_20 : decode cX0_takeBack 20 = .ok (.getfield 19, 3) := by decide +kernel
theorem dX0_takeBack_23 : decode cX0_takeBack 23 = .ok (.iconst 1, 1) := by decide +kernel
theorem dX0_takeBack_24 : decode cX0_takeBack 24 = .ok (.isub, 1) := by decide +kernel
theorem dX0_takeBack_25 : decode cX0_takeBack 25 = .ok (.putfield 19, 3) := by decide +kernel
theorem dX0_takeBack_28 : decode cX0_takeBack 28 = .ok (.aload_n 0, 1) := by decide +kernel
theorem dX0_takeBack_29 : decode cX0_takeBack 29 = .ok (.getfield 9, 3) := by decide +kernel
theorem dX0_takeBack_32 : decode cX0_takeBack 32 = .ok (.aload_n 0, 1) := by decide +kernel
theorem dX0_takeBack_33 : decode cX0_takeBack 33 = .ok (.getfield 19, 3) := by decide +kernel
theorem dX0_takeBack_36 : decode cX0_takeBack 36 = .ok (.iaload, 1) := by decide +kernel
theorem dX0_takeBack_37 : decode cX0_takeBack 37 = .ok (.istore_n 2, 1) := by decide +kernel
theorem dX0_takeBack_38 : decode cX0_takeBack 38 = .ok (.aload_n 1, 1) := by decide +kernel
theorem dX0_takeBack_39 : decode cX0_takeBack 39 = .ok (.iload_n 2, 1) := by decide +kernel
theorem dX0_takeBack_40 : decode cX0_takeBack 40 = .ok (.sipush 1000, 3) := by decide +kernel
theorem dX0_takeBack_43 : decode cX0_takeBack 43 = .ok (.idiv, 1) := by decide +kernel
theorem dX0_takeBack_44 : decode cX0_takeBack 44 = .ok (.invokevirtual 29, 3) := by decide +kernel
theorem dX0_takeBack_47 : decode cX0_takeBack 47 = .ok (.astore_n 3, 1) := by decide +kernel
theorem dX0_takeBack_48 : decode cX0_takeBack 48 = .ok (.iload_n 2, 1) := by decide +kernel
theorem dX0_takeBack_49 : decode cX0_takeBack 49 = .ok (.bipush 100, 2) := by decide +kernel
theorem dX0_takeBack_51 : decode cX0_takeBack 51 = .ok (.idiv, 1) := by decide +kernel
theorem dX0_takeBack_52 : decode cX0_takeBack 52 = .ok (.bipush 10, 2) := by decide +kernel
theorem dX0_takeBack_54 : decode cX0_takeBack 54 = .ok (.irem, 1) := by decide +kernel
theorem dX0_takeBack_55 : decode cX0_takeBack 55 = .ok (.istore 4, 2) := by decide +kernel
theorem dX0_takeBack_57 : decode cX0_takeBack 57 = .ok (.iload_n 2, 1) := by decide +kernel
theorem dX0_takeBack_58 : decode cX0_takeBack 58 = .ok (.bipush 10, 2) := by decide +kernel
theorem dX0_takeBack_60 : decode cX0_takeBack 60 = .ok (.idiv, 1) := by decide +kernel
theorem dX0_takeBack_61 : decode cX0_takeBack 61 = .ok (.bipush 10, 2) := by decide +kernel
theorem dX0_takeBack_63 : decode cX0_takeBack 63 = .ok (.irem, 1) := by decide +kernel
theorem dX0_takeBack_64 : decode cX0_takeBack 64 = .ok (.istore 5, 2) := by decide +kernel
theorem dX0_takeBack_66 : decode cX0_takeBack 66 = .ok (.iload 5, 2) := by decide +kernel
theorem dX0_takeBack_68 : decode cX0_takeBack 68 = .ok (.ifCond .ne 12, 3) := by decide +kernel
theorem dX0_takeBack_71 : decode cX0_takeBack 71 = .ok (.aload_n 3, 1) := by decide +kernel
theorem dX0_takeBack_72 : decode cX0_takeBack 72 = .ok (.iload 4, 2) := by decide +kernel
theorem dX0_takeBack_74 : decode cX0_takeBack 74 = .ok (.invokevirtual 35, 3) := by decide +kernel
theorem dX0_takeBack_77 : decode cX0_takeBack 77 = .ok (.goto 15, 3) := by decide +kernel
theorem dX0_takeBack_80 : decode cX0_takeBack 80 = .ok (.aload_n 3, 1) := by decide +kernel
theorem dX0_takeBack_81 : decode cX0_takeBack 81 = .ok (.iload 4, 2) := by decide +kernel
theorem dX0_takeBack_83 : decode cX0_takeBack 83 = .ok (.iload 5, 2) := by decide +kernel
theorem dX0_takeBack_85 : decode cX0_takeBack 85 = .ok (.iload_n 2, 1) := by decide +kernel
theorem dX0_takeBack_86 : decode cX0_takeBack 86 = .ok (.bipush 10, 2) := by decide +kernel
theorem dX0_takeBack_88 : decode cX0_takeBack 88 = .ok (.irem, 1) := by decide +kernel
theorem dX0_takeBack_89 : decode cX0_takeBack 89 = .ok (.invokevirtual 41, 3) := by decide +kernel
theorem dX0_takeBack_92 : decode cX0_takeBack 92 = .ok (.return_, 1) := by decide +kernel
theorem dX2_init_0 : decode cX2_init 0 = .ok (.aload_n 0, 1) := by decide +kernel
theorem dX2_init_1 : decode cX2_init 1 = .ok (.invokespecial 3, 3) := by decide +kernel
theorem dX2_init_4 : decode cX2_init 4 = .ok (.aload_n 0, 1) := by decide +kernel
theorem dX2_init_5 : decode cX2_init 5 = .ok (.sipush 512, 3) := by decide +kernel
theorem dX2_init_8 : decode cX2_init 8 = .ok (.newarray .int, 2) := by decide +kernel
theorem dX2_init_10 : decode cX2_init 10 = .ok (.putfield 9, 3) := by decide +kernel
theorem dX2_init_13 : decode cX2_init 13 = .ok (.aload_n 0, 1) := by decide +kernel
theorem dX2_init_14 : decode cX2_init 14 = .ok (.sipush 512, 3) := by decide +kernel
theorem dX2_init_17 : decode cX2_init 17 = .ok (.newarray .int, 2) := by decide +kernel
theorem dX2_init_19 : decode cX2_init 19 = .ok (.putfield 15, 3) := by decide +kernel
theorem dX2_init_22 : decode cX2_init 22 = .ok (.return_, 1) := by decide +kernel
theorem dX2_spell_0 : decode cX2_spell 0 = .ok (.aload_n 0, 1) := by decide +kernel
theorem dX2_spell_1 : decode cX2_spell 1 = .ok (.getfield 9, 3) := by decide +kernel
theorem dX2_spell_4 : decode cX2_spell 4 = .ok (.iconst (-1), 1) := by decide +kernel
theorem dX2_spell_5 : decode cX2_spell 5 = .ok (.invokestatic 18, 3) := by decide +kernel
theorem dX2_spell_8 : decode cX2_spell 8 = .ok (.aload_n 0, 1) := by decide +kernel
theorem dX2_spell_9 : decode cX2_spell 9 = .ok (.iconst 0, 1) := by decide +kernel
theorem dX2_spell_10 : decode cX2_spell 10 = .ok (.putfield 24, 3) := by decide +kernel
theorem dX2_spell_13 : decode cX2_spell 13 = .ok (.aload_n 0, 1) := by decide +kernel
theorem dX2_spell_14 : decode cX2_spell 14 = .ok (.iconst 1, 1) := by decide +kernel
theorem dX2_spell_15 : decode cX2_spell 15 = .ok (.iconst 1, 1) := by decide +kernel
theorem dX2_spell_16 : decode cX2_spell 16 = .ok (.bipush (-2), 2) := by decide +kernel
theorem dX2_spell_18 : decode cX2_spell 18 = .ok (.invokevirtual 28, 3) := by decide +kernel
theorem dX2_spell_21 : decode cX2_spell 21 = .ok (.iconst 0, 1) := by decide +kernel
theorem dX2_spell_22 : decode cX2_spell 22 = .ok (.istore 4, 2) := by decide +kernel
theorem dX2_spell_24 : decode cX2_spell 24 = .ok (.iload 4, 2) := by decide +kernel
theorem dX2_spell_26 : decode cX2_spell 26 = .ok (.aload_n 0, 1) := by decide +kernel
theorem dX2_spell_27 : decode cX2_spell 27 = .ok (.getfield 24, 3) := by decide +kernel
theorem dX2_spell_30 : decode cX2_spell 30 = .ok (.if_icmp .ge 112, 3) := by decide +kernel
theorem dX2_spell_33 : decode cX2_spell 33 = .ok (.iload 4, 2) := by decide +kernel
theorem dX2_spell_35 : decode cX2_spell 35 = .ok (.aload_n 0, 1) := by decide +kernel
theorem dX2_spell_36 : decode cX2_spell 36 = .ok (.getfield 15, 3) := by decide +kernel
theorem dX2_spell_39 : decode cX2_spell 39 = .ok (.arraylength, 1) := by decide +kernel
theorem dX2_spell_40 : decode cX2_spell 40 = .ok (.if_icmp .ge 102, 3) := by decide +kernel
theorem dX2_spell_43 : decode cX2_spell 43 = .ok (.aload_n 0, 1) := by decide +kernel
theorem dX2_spell_44 : decode cX2_spell 44 = .ok (.getfield 15, 3) := by decide +kernel
theorem dX2_spell_47 : decode cX2_spell 47 = .ok (.iload 4, 2) := by decide +kernel
theorem dX2_spell_49 : decode cX2_spell 49 = .ok (.iaload, 1) := by decide +kernel
theorem dX2_spell_50 : decode cX2_spell 50 = .ok (.istore 5, 2) := by decide +kernel
theorem dX2_spell_52 : decode cX2_spell 52 = .ok (.iload 5, 2) := by decide +kernel
theorem dX2_spell_54 : decode cX2_spell 54 = .ok (.bipush 16, 2) := by decide +kernel
theorem dX2_spell_56 : decode cX2_spell 56 = .ok (.irem, 1) := by decide +kernel
theorem dX2_spell_57 : decode cX2_spell 57 = .ok (.istore 6, 2) := by decide +kernel
theorem dX2_spell_59 : decode cX2_spell 59 = .ok (.iload 5, 2) := by decide +kernel
theorem dX2_spell_61 : decode cX2_spell 61 = .ok (.bipush 16, 2) := by decide +kernel
theorem dX2_spell_63 : decode cX2_spell 63 = .ok (.idiv, 1) := by decide +kernel
theorem dX2_spell_64 : decode cX2_spell 64 = .ok (.istore 7, 2) := by decide +kernel
theorem dX2_spell_66 : decode cX2_spell 66 = .ok (.aload_n 1, 1) := by decide +kernel
theorem dX2_spell_67 : decode cX2_spell 67 = .ok (.iload 6, 2) := by decide +kernel
theorem dX2_spell_69 : decode cX2_spell 69 = .ok (.invokevirtual 32, 3) := by decide +kernel
theorem dX2_spell_72 : decode cX2_spell 72 = .ok (.ifCond .eq 20, 3) := by decide +kernel
theorem dX2_spell_75 : decode cX2_spell 75 = .ok (.aload_n 2, 1) := by decide +kernel
theorem dX2_spell_76 : decode cX2_spell 76 = .ok (.iload 7, 2) := by decide +kernel
theorem dX2_spell_78 : decode cX2_spell 78 = .ok (.invokevirtual 32, 3) := by decide +kernel
theorem dX2_spell_81 : decode cX2_spell 81 = .ok (.ifCond .ne 11, 3) := by decide +kernel
theorem dX2_spell_84 : decode cX2_spell 84 = .ok (.aload_n 0, 1) := by decide +kernel
theorem dX2_spell_85 : decode cX2_spell 85 = .ok (.iload 5, 2) := by decide +kernel
theorem dX2_spell_87 : decode cX2_spell 87 = .ok (.aload_n 3, 1) := by decide +kernel
theorem dX2_spell_88 : decode cX2_spell 88 = .ok (.invokevirtual 38, 3) := by decide +kernel
theorem dX2_spell_91 : decode cX2_spell 91 = .ok (.return_, 1) := by decide +kernel
theorem dX2_spell_92 : decode cX2_spell 92 = .ok (.iconst 1, 1) := by decide +kernel
theorem dX2_spell_93 : decode cX2_spell 93 = .ok (.istore 8, 2) := by decide +kernel
theorem dX2_spell_95 : decode cX2_spell 95 = .ok (.iload 8, 2) := by decide +kernel
theorem dX2_spell_97 : decode cX2_spell 97 = .ok (.iconst 2, 1) := by decide +kernel
theorem dX2_spell_98 : decode cX2_spell 98 = .ok (.if_icmp .gt 38, 3) := by decide +kernel
theorem dX2_spell_101 : decode cX2_spell 101 = .ok (.aload_n 0, 1) := by decide +kernel
theorem dX2_spell_102 : decode cX2_spell 102 = .ok (.aload_n 1, 1) := by decide +kernel
theorem dX2_spell_103 : decode cX2_spell 103 = .ok (.iload 6, 2) := by decide +kernel
theorem dX2_spell_105 : decode cX2_spell 105 = .ok (.iload 8, 2) := by decide +kernel
theorem dX2_spell_107 : decode cX2_spell 107 = .ok (.invokevirtual 42, 3) := by decide +kernel
theorem dX2_spell_110 : decode cX2_spell 110 = .ok (.aload_n 2, 1) := by decide +kernel
theorem dX2_spell_111 : decode cX2_spell 111 = .ok (.iload 7, 2) := by decide +kernel
theorem dX2_spell_113 : decode cX2_spell 113 = .ok (.iload 8, 2) := by decide +kernel
theorem dX2_spell_115 : decode cX2_spell 115 = .ok (.invokevirtual 42, 3) := by decide +kernel
theorem dX2_spell_118 : decode cX2_spell 118 = .ok (.iload 5, 2) := by decide +kernel
theorem dX2_spell_120 : decode cX2_spell 120 = .ok (.iconst 2, 1) := by decide +kernel
theorem dX2_spell_121 : decode cX2_spell 121 = .ok (.imul, 1) := by decide +kernel
theorem dX2_spell_122 : decode cX2_spell 122 = .ok (.iload 8, 2) := by decide +kernel
theorem dX2_spell_124 : decode cX2_spell 124 = .ok (.iadd, 1) := by decide +kernel
theorem dX2_spell_125 : decode cX2_spell 125 = .ok (.iconst 1, 1) := by decide +kernel
theorem dX2_spell_126 : decode cX2_spell 126 = .ok (.isub, 1) := by decide +kernel
theorem dX2_spell_127 : decode cX2_spell 127 = .ok (.invokevirtual 28, 3) := by decide +kernel
theorem dX2_spell_130 : decode cX2_spell 130 = .ok (.iinc 8 1, 3) := by decide +kernel
theorem dX2_spell_133 : decode cX2_spell 133 = .ok (.goto (-38), 3) := by decide +kernel
theorem dX2_spell_136 : decode cX2_spell 136 = .ok (.iinc 4 1, 3) := by decide +kernel
theorem dX2_spell_139 : decode cX2_spell 139 = .ok (.goto (-115), 3) := by decide +kernel
theorem dX2_spell_142 : decode cX2_spell 142 = .ok (.aload_n 3, 1) := by decide +kernel
theorem dX2_spell_143 : decode cX2_spell 143 = .ok (.iconst 0, 1) := by decide +kernel
theorem dX2_spell_144 : decode cX2_spell 144 = .ok (.invokevirtual 46, 3) := by decide +kernel
theorem dX2_spell_147 : decode cX2_spell 147 = .ok (.return_, 1) := by decide +kernel
theorem dX2_meet_0 : decode cX2_meet 0 = .ok (.iload_n 1, 1) := by decide +kernel
theorem dX2_meet_1 : decode cX2_meet 1 = .ok (.bipush 16, 2) := by decide +kernel
theorem dX2_meet_3 : decode cX2_meet 3 = .ok (.iload_n 2, 1) := by decide +kernel
theorem dX2_meet_4 : decode cX2_meet 4 = .ok (.imul, 1) := by decide +kernel
theorem dX2_meet_5 : decode cX2_meet 5 = .ok (.iadd, 1) := by decide +kernel
theorem dX2_meet_6 : decode cX2_meet 6 = .ok (.istore 4, 2) := by decide +kernel
theorem dX2_meet_8 : decode cX2_meet 8 = .ok (.iload_n 1, 1) := by decide +kernel
theorem dX2_meet_9 : decode cX2_meet 9 = .ok (.ifCond .eq 29, 3) := by decide +kernel
theorem dX2_meet_12 : decode cX2_meet 12 = .ok (.iload 4, 2) := by decide +kernel
theorem dX2_meet_14 : decode cX2_meet 14 = .ok (.ifCond .lt 24, 3) := by decide +kernel
theorem dX2_meet_17 : decode cX2_meet 17 = .ok (.iload 4, 2) := by decide +kernel
theorem dX2_meet_19 : decode cX2_meet 19 = .ok (.aload_n 0, 1) := by decide +kernel
theorem dX2_meet_20 : decode cX2_meet 20 = .ok (.getfield 9, 3) := by decide +kernel
theorem dX2_meet_23 : decode cX2_meet 23 = .ok (.arraylength, 1) := by decide +kernel
theorem dX2_meet_24 : decode cX2_meet 24 = .ok (.if_icmp .ge 14, 3) := by decide +kernel
theorem dX2_meet_27 : decode cX2_meet 27 = .ok (.aload_n 0, 1) := by decide +kernel
theorem dX2_meet_28 : decode cX2_meet 28 = .ok (.getfield 9, 3) := by decide +kernel
theorem dX2_meet_31 : decode cX2_meet 31 = .ok (.iload 4, 2) := by decide +kernel
theorem dX2_meet_33 : decode cX2_meet 33 = .ok (.iaload, 1) := by decide +kernel
theorem dX2_meet_34 : decode cX2_meet 34 = .ok (.iconst (-1), 1) := by decide +kernel
theorem dX2_meet_35 : decode cX2_meet 35 = .ok (.if_icmp .eq 4, 3) := by decide +kernel
theorem dX2_meet_38 : decode cX2_meet 38 = .ok (.return_, 1) := by decide +kernel
theorem dX2_meet_39 : decode cX2_meet 39 = .ok (.aload_n 0, 1) := by decide +kernel
theorem dX2_meet_40 : decode cX2_meet 40 = .ok (.getfield 9, 3) := by decide +kernel
theorem dX2_meet_43 : decode cX2_meet 43 = .ok (.iload 4, 2) := by decide +kernel
theorem dX2_meet_45 : decode cX2_meet 45 = .ok (.iload_n 3, 1) := by decide +kernel
theorem dX2_meet_46 : decode cX2_meet 46 = .ok (.iastore, 1) := by decide +kernel
theorem dX2_meet_47 : decode cX2_meet 47 = .ok (.aload_n 0, 1) := by decide +kernel
theorem dX2_meet_48 : decode cX2_meet 48 = .ok (.getfield 24, 3) := by decide +kernel
theorem dX2_meet_51 : decode cX2_meet 51 = .ok (.aload_n 0, 1) := by decide +kernel
theorem dX2_meet_52 : decode cX2_meet 52 = .ok (.getfield 15, 3) := by decide +kernel
theorem dX2_meet_55 : decode cX2_meet 55 = .ok (.arraylength, 1) := by decide +kernel
theorem dX2_meet_56 : decode cX2_meet 56 = .ok (.if_icmp .ge 24, 3) := by decide +kernel
theorem dX2_meet_59 : decode cX2_meet 59 = .ok (.aload_n 0, 1) := by decide +kernel
theorem dX2_meet_60 : decode cX2_meet 60 = .ok (.getfield 15, 3) := by decide +kernel
theorem dX2_meet_63 : decode cX2_meet 63 = .ok (.aload_n 0, 1) := by decide +kernel
theorem dX2_meet_64 : decode cX2_meet 64 = .ok (.getfield 24, 3) := by decide +kernel
theorem dX2_meet_67 : decode cX2_meet 67 = .ok (.iload 4, 2) := by decide +kernel
theorem dX2_meet_69 : decode cX2_meet 69 = .ok (.iastore, 1) := by decide +kernel
theorem dX2_meet_70 : decode cX2_meet 70 = .ok (.aload_n 0, 1) := by decide +kernel
theorem dX2_meet_71 : decode cX2_meet 71 = .ok (.dup, 1) := by decide +kernel
theorem dX2_meet_72 : decode cX2_meet 72 = .ok (.getfield 24, 3) := by decide +kernel
theorem dX2_meet_75 : decode cX2_meet 75 = .ok (.iconst 1, 1) := by decide +kernel
theorem dX2_meet_76 : decode cX2_meet 76 = .ok (.iadd, 1) := by decide +kernel
theorem dX2_meet_77 : decode cX2_meet 77 = .ok (.putfield 24, 3) := by decide +kernel
theorem dX2_meet_80 : decode cX2_meet 80 = .ok (.return_, 1) := by decide +kernel
theorem dX2_spellBack_0 : decode cX2_spellBack 0 = .ok (.aload_n 2, 1) := by decide +kernel
theorem dX2_spellBack_1 : decode cX2_spellBack 1 = .ok (.iconst 1, 1) := by decide +kernel
theorem dX2_spellBack_2 : decode cX2_spellBack 2 = .ok (.invokevirtual 46, 3) := by decide +kernel
theorem dX2_spellBack_5 : decode cX2_spellBack 5 = .ok (.iload_n 1, 1) := by decide +kernel
theorem dX2_spellBack_6 : decode cX2_spellBack 6 = .ok (.istore_n 3, 1) := by decide +kernel
theorem dX2_spellBack_7 : decode cX2_spellBack 7 = .ok (.iconst 0, 1) := by decide +kernel
theorem dX2_spellBack_8 : decode cX2_spellBack 8 = .ok (.istore 4, 2) := by decide +kernel
theorem dX2_spellBack_10 : decode cX2_spellBack 10 = .ok (.iload 4, 2) := by decide +kernel
theorem dX2_spellBack_12 : decode cX2_spellBack 12 = .ok (.aload_n 0, 1) := by decide +kernel
theorem dX2_spellBack_13 : decode cX2_spellBack 13 = .ok (.getfield 9, 3) := by decide +kernel
theorem dX2_spellBack_16 : decode cX2_spellBack 16 = .ok (.arraylength, 1) := by decide +kernel
theorem dX2_spellBack_17 : decode cX2_spellBack 17 = .ok (.if_icmp .ge 55, 3) := by decide +kernel
theorem dX2_spellBack_20 : decode cX2_spellBack 20 = .ok (.iload_n 3, 1) := by decide +kernel
theorem dX2_spellBack_21 : decode cX2_spellBack 21 = .ok (.ifCond .lt 21, 3) := by decide +kernel
theorem dX2_spellBack_24 : decode cX2_spellBack 24 = .ok (.iload_n 3, 1) := by decide +kernel
theorem dX2_spellBack_25 : decode cX2_spellBack 25 = .ok (.aload_n 0, 1) := by decide +kernel
theorem dX2_spellBack_26 : decode cX2_spellBack 26 = .ok (.getfield 9, 3) := by decide +kernel
theorem dX2_spellBack_29 : decode cX2_spellBack 29 = .ok (.arraylength, 1) := by decide +kernel
theorem dX2_spellBack_30 : decode cX2_spellBack 30 = .ok (.if_icmp .ge 12, 3) := by decide +kernel
theorem dX2_spellBack_33 : decode cX2_spellBack 33 = .ok (.aload_n 0, 1) := by decide +kernel
theorem dX2_spellBack_34 : decode cX2_spellBack 34 = .ok (.getfield 9, 3) := by decide +kernel
theorem dX2_spellBack_37 : decode cX2_spellBack 37 = .ok (.iload_n 3, 1) := by decide +kernel
theorem dX2_spellBack_38 : decode cX2_spellBack 38 = .ok (.iaload, 1) := by decide +kernel
theorem dX2_spellBack_39 : decode cX2_spellBack 39 = .ok (.ifCond .ge 4, 3) := by decide +kernel
theorem dX2_spellBack_42 : decode cX2_spellBack 42 = .ok (.return_, 1) := by decide +kernel
theorem dX2_spellBack_43 : decode cX2_spellBack 43 = .ok (.aload_n 2, 1) := by decide +kernel
theorem dX2_spellBack_44 : decode cX2_spellBack 44 = .ok (.aload_n 0, 1) := by decide +kernel
theorem dX2_spellBack_45 : decode cX2_spellBack 45 = .ok (.getfield 9, 3) := by decide +kernel
theorem dX2_spellBack_48 : decode cX2_spellBack 48 = .ok (.iload_n 3, 1) := by decide +kernel
theorem dX2_spellBack_49 : decode cX2_spellBack 49 = .ok (.iaload, 1) := by decide +kernel
theorem dX2_spellBack_50 : decode cX2_spellBack 50 = .ok (.iconst 2, 1) := by decide +kernel
theorem dX2_spellBack_51 : decode cX2_spellBack 51 = .ok (.irem, 1) := by decide +kernel
theorem dX2_spellBack_52 : decode cX2_spellBack 52 = .ok (.iconst 1, 1) := by decide +kernel
theorem dX2_spellBack_53 : decode cX2_spellBack 53 = .ok (.iadd, 1) := by decide +kernel
theorem dX2_spellBack_54 : decode cX2_spellBack 54 = .ok (.invokevirtual 52, 3) := by decide +kernel
theorem dX2_spellBack_57 : decode cX2_spellBack 57 = .ok (.aload_n 0, 1) := by decide +kernel
theorem dX2_spellBack_58 : decode cX2_spellBack 58 = .ok (.getfield 9, 3) := by decide +kernel
theorem dX2_spellBack_61 : decode cX2_spellBack 61 = .ok (.iload_n 3, 1) := by decide +kernel
theorem dX2_spellBack_62 : decode cX2_spellBack 62 = .ok (.iaload, 1) := by decide +kernel
theorem dX2_spellBack_63 : decode cX2_spellBack 63 = .ok (.iconst 2, 1) := by decide +kernel
theorem dX2_spellBack_64 : decode cX2_spellBack 64 = .ok (.idiv, 1) := by decide +kernel
theorem dX2_spellBack_65 : decode cX2_spellBack 65 = .ok (.istore_n 3, 1) := by decide +kernel
theorem dX2_spellBack_66 : decode cX2_spellBack 66 = .ok (.iinc 4 1, 3) := by decide +kernel
theorem dX2_spellBack_69 : decode cX2_spellBack 69 = .ok (.goto (-59), 3) := by decide +kernel
theorem dX2_spellBack_72 : decode cX2_spellBack 72 = .ok (.return_, 1) := by decide +kernel
theorem dX3_init_0 : decode cX3_init 0 = .ok (.aload_n 0, 1) := by decide +kernel
theorem dX3_init_1 : decode cX3_init 1 = .ok (.invokespecial 3, 3) := by decide +kernel
theorem dX3_init_4 : decode cX3_init 4 = .ok (.aload_n 0, 1) := by decide +kernel
theorem dX3_init_5 : decode cX3_init 5 = .ok (.new 9, 3) := by decide +kernel
theorem dX3_init_8 : decode cX3_init 8 = .ok (.dup, 1) := by decide +kernel
theorem dX3_init_9 : decode cX3_init 9 = .ok (.invokespecial 11, 3) := by decide +kernel
theorem dX3_init_12 : decode cX3_init 12 = .ok (.putfield 12, 3) := by decide +kernel
theorem dX3_init_15 : decode cX3_init 15 = .ok (.aload_n 0, 1) := by decide +kernel
theorem dX3_init_16 : decode cX3_init 16 = .ok (.sipush 128, 3) := by decide +kernel
theorem dX3_init_19 : decode cX3_init 19 = .ok (.newarray .int, 2) := by decide +kernel
theorem dX3_init_21 : decode cX3_init 21 = .ok (.putfield 18, 3) := by decide +kernel
theorem dX3_init_24 : decode cX3_init 24 = .ok (.aload_n 0, 1) := by decide +kernel
theorem dX3_init_25 : decode cX3_init 25 = .ok (.sipush 128, 3) := by decide +kernel
theorem dX3_init_28 : decode cX3_init 28 = .ok (.newarray .int, 2) := by decide +kernel
theorem dX3_init_30 : decode cX3_init 30 = .ok (.putfield 22, 3) := by decide +kernel
theorem dX3_init_33 : decode cX3_init 33 = .ok (.aload_n 0, 1) := by decide +kernel
theorem dX3_init_34 : decode cX3_init 34 = .ok (.sipush 128, 3) := by decide +kernel
theorem dX3_init_37 : decode cX3_init 37 = .ok (.newarray .int, 2) := by decide +kernel
theorem dX3_init_39 : decode cX3_init 39 = .ok (.putfield 25, 3) := by decide +kernel
theorem dX3_init_42 : decode cX3_init 42 = .ok (.aload_n 0, 1) := by decide +kernel
theorem dX3_init_43 : decode cX3_init 43 = .ok (.sipush 128, 3) := by decide +kernel
theorem dX3_init_46 : decode cX3_init 46 = .ok (.newarray .int, 2) := by decide +kernel
theorem dX3_init_48 : decode cX3_init 48 = .ok (.putfield 28, 3) := by decide +kernel
theorem dX3_init_51 : decode cX3_init 51 = .ok (.aload_n 0, 1) := by decide +kernel
theorem dX3_init_52 : decode cX3_init 52 = .ok (.sipush 128, 3) := by decide +kernel
theorem dX3_init_55 : decode cX3_init 55 = .ok (.newarray .boolean, 2) := by decide +kernel
theorem dX3_init_57 : decode cX3_init 57 = .ok (.putfield 31, 3) := by decide +kernel
theorem dX3_init_60 : decode cX3_init 60 = .ok (.return_, 1) := by decide +kernel
theorem dX3_run_0 : decode cX3_run 0 = .ok (.aload_n 0, 1) := by decide +kernel
theorem dX3_run_1 : decode cX3_run 1 = .ok (.iload_n 2, 1) := by decide +kernel
theorem dX3_run_2 : decode cX3_run 2 = .ok (.putfield 35, 3) := by decide +kernel
theorem dX3_run_5 : decode cX3_run 5 = .ok (.aload_n 0, 1) := by decide +kernel
theorem dX3_run_6 : decode cX3_run 6 = .ok (.iconst 0, 1) := by decide +kernel
theorem dX3_run_7 : decode cX3_run 7 = .ok (.putfield 39, 3) := by decide +kernel
theorem dX3_run_10 : decode cX3_run 10 = .ok (.aload_n 0, 1) := by decide +kernel
theorem dX3_run_11 : decode cX3_run 11 = .ok (.iconst 0, 1) := by decide +kernel
theorem dX3_run_12 : decode cX3_run 12 = .ok (.putfield 42, 3) := by decide +kernel
theorem dX3_run_15 : decode cX3_run 15 = .ok (.aload_n 0, 1) := by decide +kernel
theorem dX3_run_16 : decode cX3_run 16 = .ok (.iconst 0, 1) := by decide +kernel
theorem dX3_run_17 : decode cX3_run 17 = .ok (.putfield 45, 3) := by decide +kernel
theorem dX3_run_20 : decode cX3_run 20 = .ok (.aload_n 0, 1) := by decide +kernel
theorem dX3_run_21 : decode cX3_run 21 = .ok (.iconst 0, 1) := by decide +kernel
theorem dX3_run_22 : decode cX3_run 22 = .ok (.putfield 48, 3) := by decide +kernel
theorem dX3_run_25 : decode cX3_run 25 = .ok (.aload_n 0, 1) := by decide +kernel
theorem dX3_run_26 : decode cX3_run 26 = .ok (.bipush (-9), 2) := by decide +kernel
theorem dX3_run_28 : decode cX3_run 28 = .ok (.putfield 51, 3) := by decide +kernel
theorem dX3_run_31 : decode cX3_run 31 = .ok (.aload_n 0, 1) := by decide +kernel
theorem dX3_run_32 : decode cX3_run 32 = .ok (.getfield 35, 3) := by decide +kernel
theorem dX3_run_35 : decode cX3_run 35 = .ok (.iconst 2, 1) := by decide +kernel
theorem dX3_run_36 : decode cX3_run 36 = .ok (.if_icmp .ne 11, 3) := by decide +kernel
theorem dX3_run_39 : decode cX3_run 39 = .ok (.aload_n 0, 1) := by decide +kernel
theorem dX3_run_40 : decode cX3_run 40 = .ok (.getfield 12, 3) := by decide +kernel
theorem dX3_run_43 : decode cX3_run 43 = .ok (.aload_n 1, 1) := by decide +kernel
theorem dX3_run_44 : decode cX3_run 44 = .ok (.invokevirtual 54, 3) := by decide +kernel
theorem dX3_run_47 : decode cX3_run 47 = .ok (.aload_n 0, 1) := by decide +kernel
theorem dX3_run_48 : decode cX3_run 48 = .ok (.aload_n 1, 1) := by decide +kernel
theorem dX3_run_49 : decode cX3_run 49 = .ok (.iconst 0, 1) := by decide +kernel
theorem dX3_run_50 : decode cX3_run 50 = .ok (.iconst 1, 1) := by decide +kernel
theorem dX3_run_51 : decode cX3_run 51 = .ok (.bipush (-9), 2) := by decide +kernel
theorem dX3_run_53 : decode cX3_run 53 = .ok (.iconst 0, 1) := by decide +kernel
theorem dX3_run_54 : decode cX3_run 54 = .ok (.invokevirtual 58, 3) := by decide +kernel
theorem dX3_run_57 : decode cX3_run 57 = .ok (.iconst 0, 1) := by decide +kernel
theorem dX3_run_58 : decode cX3_run 58 = .ok (.istore_n 3, 1) := by decide +kernel
theorem dX3_run_59 : decode cX3_run 59 = .ok (.iload_n 3, 1) := by decide +kernel
theorem dX3_run_60 : decode cX3_run 60 = .ok (.aload_n 0, 1) := by decide +kernel
theorem dX3_run_61 : decode cX3_run 61 = .ok (.getfield 39, 3) := by decide +kernel
theorem dX3_run_64 : decode cX3_run 64 = .ok (.if_icmp .ge 48, 3) := by decide +kernel
theorem dX3_run_67 : decode cX3_run 67 = .ok (.iload_n 3, 1) := by decide +kernel
theorem dX3_run_68 : decode cX3_run 68 = .ok (.sipush 128, 3) := by decide +kernel
theorem dX3_run_71 : decode cX3_run 71 = .ok (.if_icmp .ge 41, 3) := by decide +kernel
theorem dX3_run_74 : decode cX3_run 74 = .ok (.aload_n 0, 1) := by decide +kernel
theorem dX3_run_75 : decode cX3_run 75 = .ok (.getfield 51, 3) := by decide +kernel
theorem dX3_run_78 : decode cX3_run 78 = .ok (.ifCond .ge 34, 3) := by decide +kernel
theorem dX3_run_81 : decode cX3_run 81 = .ok (.aload_n 0, 1) := by decide +kernel
theorem dX3_run_82 : decode cX3_run 82 = .ok (.getfield 31, 3) := by decide +kernel
theorem dX3_run_85 : decode cX3_run 85 = .ok (.iload_n 3, 1) := by decide +kernel
theorem dX3_run_86 : decode cX3_run 86 = .ok (.baload, 1) := by decide +kernel
theorem dX3_run_87 : decode cX3_run 87 = .ok (.ifCond .ne 19, 3) := by decide +kernel
theorem dX3_run_90 : decode cX3_run 90 = .ok (.aload_n 0, 1) := by decide +kernel
theorem dX3_run_91 : decode cX3_run 91 = .ok (.dup, 1) := by decide +kernel
theorem dX3_run_92 : decode cX3_run 92 = .ok (.getfield 42, 3) := by decide +kernel
theorem dX3_run_95 : decode cX3_run 95 = .ok (.iconst 1, 1) := by decide +kernel
theorem dX3_run_96 : decode cX3_run 96 = .ok (.iadd, 1) := by decide +kernel
theorem dX3_run_97 : decode cX3_run 97 = .ok (.putfield 42, 3) := by decide +kernel
theorem dX3_run_100 : decode cX3_run 100 = .ok (.aload_n 0, 1) := by decide +kernel
theorem dX3_run_101 : decode cX3_run 101 = .ok (.aload_n 1, 1) := by decide +kernel
theorem dX3_run_102 : decode cX3_run 102 = .ok (.iload_n 3, 1) := by decide +kernel
theorem dX3_run_103 : decode cX3_run 103 = .ok (.invokevirtual 62, 3) := by decide +kernel
theorem dX3_run_106 : decode cX3_run 106 = .ok (.iinc 3 1, 3) := by decide +kernel
theorem dX3_run_109 : decode cX3_run 109 = .ok (.goto (-50), 3) := by decide +kernel
theorem dX3_run_112 : decode cX3_run 112 = .ok (.return_, 1) := by decide +kernel
theorem dX3_tellPair_0 : decode cX3_tellPair 0 = .ok (.iconst 0, 1) := by decide +kernel
theorem dX3_tellPair_1 : decode cX3_tellPair 1 = .ok (.istore_n 2, 1) := by decide +kernel
theorem dX3_tellPair_2 : decode cX3_tellPair 2 = .ok (.iconst 0, 1) := by decide +kernel
theorem dX3_tellPair_3 : decode cX3_tellPair 3 = .ok (.istore_n 3, 1) := by decide +kernel
theorem dX3_tellPair_4 : decode cX3_tellPair 4 = .ok (.iload_n 3, 1) := by decide +kernel
theorem dX3_tellPair_5 : decode cX3_tellPair 5 = .ok (.aload_n 0, 1) := by decide +kernel
theorem dX3_tellPair_6 : decode cX3_tellPair 6 = .ok (.getfield 39, 3) := by decide +kernel
theorem dX3_tellPair_9 : decode cX3_tellPair 9 = .ok (.if_icmp .ge 50, 3) := by decide +kernel
theorem dX3_tellPair_12 : decode cX3_tellPair 12 = .ok (.iload_n 3, 1) := by decide +kernel
theorem dX3_tellPair_13 : decode cX3_tellPair 13 = .ok (.sipush 128, 3) := by decide +kernel
theorem dX3_tellPair_16 : decode cX3_tellPair 16 = .ok (.if_icmp .ge 43, 3) := by decide +kernel
theorem dX3_tellPair_19 : decode cX3_tellPair 19 = .ok (.aload_n 0, 1) := by decide +kernel
theorem dX3_tellPair_20 : decode cX3_tellPair 20 = .ok (.getfield 31, 3) := by decide +kernel
theorem dX3_tellPair_23 : decode cX3_tellPair 23 = .ok (.iload_n 3, 1) := by decide +kernel
theorem dX3_tellPair_24 : decode cX3_tellPair 24 = .ok (.baload, 1) := by decide +kernel
theorem dX3_tellPair_25 : decode cX3_tellPair 25 = .ok (.ifCond .ne 28, 3) := by decide +kernel
theorem dX3_tellPair_28 : decode cX3_tellPair 28 = .ok (.iload_n 2, 1) := by decide +kernel
theorem dX3_tellPair_29 : decode cX3_tellPair 29 = .ok (.iload_n 1, 1) := by decide +kernel
theorem dX3_tellPair_30 : decode cX3_tellPair 30 = .ok (.if_icmp .ne 20, 3) := by decide +kernel
theorem dX3_tellPair_33 : decode cX3_tellPair 33 = .ok (.bipush 100, 2) := by decide +kernel
theorem dX3_tellPair_35 : decode cX3_tellPair 35 = .ok (.aload_n 0, 1) := by decide +kernel
theorem dX3_tellPair_36 : decode cX3_tellPair 36 = .ok (.getfield 18, 3) := by decide +kernel
theorem dX3_tellPair_39 : decode cX3_tellPair 39 = .ok (.iload_n 3, 1) := by decide +kernel
theorem dX3_tellPair_40 : decode cX3_tellPair 40 = .ok (.iaload, 1) := by decide +kernel
theorem dX3_tellPair_41 : decode cX3_tellPair 41 = .ok (.imul, 1) := by decide +kernel
theorem dX3_tellPair_42 : decode cX3_tellPair 42 = .ok (.aload_n 0, 1) := by decide +kernel
theorem dX3_tellPair_43 : decode cX3_tellPair 43 = .ok (.getfield 22, 3) := by decide +kernel
theorem dX3_tellPair_46 : decode cX3_tellPair 46 = .ok (.iload_n 3, 1) := by decide +kernel
theorem dX3_tellPair_47 : decode cX3_tellPair 47 = .ok (.iaload, 1) := by decide +kernel
theorem dX3_tellPair_48 : decode cX3_tellPair 48 = .ok (.iadd, 1) := by decide +kernel
theorem dX3_tellPair_49 : decode cX3_tellPair 49 = .ok (.ireturn, 1) := by decide +kernel
theorem dX3_tellPair_50 : decode cX3_tellPair 50 = .ok (.iinc 2 1, 3) := by decide +kernel
theorem dX3_tellPair_53 : decode cX3_tellPair 53 = .ok (.iinc 3 1, 3) := by decide +kernel
theorem dX3_tellPair_56 : decode cX3_tellPair 56 = .ok (.goto (-52), 3) := by decide +kernel
theorem dX3_tellPair_59 : decode cX3_tellPair 59 = .ok (.iconst (-1), 1) := by decide +kernel
theorem dX3_tellPair_60 : decode cX3_tellPair 60 = .ok (.ireturn, 1) := by decide +kernel
theorem dX3_spell_0 : decode cX3_spell 0 = .ok (.aload_n 1, 1) := by decide +kernel
theorem dX3_spell_1 : decode cX3_spell 1 = .ok (.aload_n 0, 1) := by decide +kernel
theorem dX3_spell_2 : decode cX3_spell 2 = .ok (.getfield 51, 3) := by decide +kernel
theorem dX3_spell_5 : decode cX3_spell 5 = .ok (.ifCond .lt 7, 3) := by decide +kernel
theorem dX3_spell_8 : decode cX3_spell 8 = .ok (.iconst 1, 1) := by decide +kernel
theorem dX3_spell_9 : decode cX3_spell 9 = .ok (.goto 4, 3) := by decide +kernel
theorem dX3_spell_12 : decode cX3_spell 12 = .ok (.iconst 0, 1) := by decide +kernel
theorem dX3_spell_13 : decode cX3_spell 13 = .ok (.invokevirtual 66, 3) := by decide +kernel
theorem dX3_spell_16 : decode cX3_spell 16 = .ok (.aload_n 0, 1) := by decide +kernel
theorem dX3_spell_17 : decode cX3_spell 17 = .ok (.getfield 51, 3) := by decide +kernel
theorem dX3_spell_20 : decode cX3_spell 20 = .ok (.istore_n 2, 1) := by decide +kernel
theorem dX3_spell_21 : decode cX3_spell 21 = .ok (.iconst 0, 1) := by decide +kernel
theorem dX3_spell_22 : decode cX3_spell 22 = .ok (.istore_n 3, 1) := by decide +kernel
theorem dX3_spell_23 : decode cX3_spell 23 = .ok (.iload_n 3, 1) := by decide +kernel
theorem dX3_spell_24 : decode cX3_spell 24 = .ok (.sipush 128, 3) := by decide +kernel
theorem dX3_spell_27 : decode cX3_spell 27 = .ok (.if_icmp .ge 47, 3) := by decide +kernel
theorem dX3_spell_30 : decode cX3_spell 30 = .ok (.iload_n 2, 1) := by decide +kernel
theorem dX3_spell_31 : decode cX3_spell 31 = .ok (.ifCond .lt 19, 3) := by decide +kernel
theorem dX3_spell_34 : decode cX3_spell 34 = .ok (.iload_n 2, 1) := by decide +kernel
theorem dX3_spell_35 : decode cX3_spell 35 = .ok (.sipush 128, 3) := by decide +kernel
theorem dX3_spell_38 : decode cX3_spell 38 = .ok (.if_icmp .ge 12, 3) := by decide +kernel
theorem dX3_spell_41 : decode cX3_spell 41 = .ok (.aload_n 0, 1) := by decide +kernel
theorem dX3_spell_42 : decode cX3_spell 42 = .ok (.getfield 25, 3) := by decide +kernel
theorem dX3_spell_45 : decode cX3_spell 45 = .ok (.iload_n 2, 1) := by decide +kernel
theorem dX3_spell_46 : decode cX3_spell 46 = .ok (.iaload, 1) := by decide +kernel
theorem dX3_spell_47 : decode cX3_spell 47 = .ok (.ifCond .ge 4, 3) := by decide +kernel
theorem dX3_spell_50 : decode cX3_spell 50 = .ok (.return_, 1) := by decide +kernel
theorem dX3_spell_51 : decode cX3_spell 51 = .ok (.aload_n 1, 1) := by decide +kernel
theorem dX3_spell_52 : decode cX3_spell 52 = .ok (.aload_n 0, 1) := by decide +kernel
theorem dX3_spell_53 : decode cX3_spell 53 = .ok (.getfield 28, 3) := by decide +kernel
theorem dX3_spell_56 : decode cX3_spell 56 = .ok (.iload_n 2, 1) := by decide +kernel
theorem dX3_spell_57 : decode cX3_spell 57 = .ok (.iaload, 1) := by decide +kernel
theorem dX3_spell_58 : decode cX3_spell 58 = .ok (.invokevirtual 72, 3) := by decide +kernel
theorem dX3_spell_61 : decode cX3_spell 61 = .ok (.aload_n 0, 1) := by decide +kernel
theorem dX3_spell_62 : decode cX3_spell 62 = .ok (.getfield 25, 3) := by decide +kernel
theorem dX3_spell_65 : decode cX3_spell 65 = .ok (.iload_n 2, 1) := by decide +kernel
theorem dX3_spell_66 : decode cX3_spell 66 = .ok (.iaload, 1) := by decide +kernel
theorem dX3_spell_67 : decode cX3_spell 67 = .ok (.istore_n 2, 1) := by decide +kernel
theorem dX3_spell_68 : decode cX3_spell 68 = .ok (.iinc 3 1, 3) := by decide +kernel
theorem dX3_spell_71 : decode cX3_spell 71 = .ok (.goto (-48), 3) := by decide +kernel
theorem dX3_spell_74 : decode cX3_spell 74 = .ok (.return_, 1) := by decide +kernel
theorem dX3_goOn_0 : decode cX3_goOn 0 = .ok (.iconst 1, 1) := by decide +kernel
theorem dX3_goOn_1 : decode cX3_goOn 1 = .ok (.istore_n 3, 1) := by decide +kernel
theorem dX3_goOn_2 : decode cX3_goOn 2 = .ok (.iload_n 3, 1) := by decide +kernel
theorem dX3_goOn_3 : decode cX3_goOn 3 = .ok (.iconst 2, 1) := by decide +kernel
theorem dX3_goOn_4 : decode cX3_goOn 4 = .ok (.if_icmp .gt 84, 3) := by decide +kernel
theorem dX3_goOn_7 : decode cX3_goOn 7 = .ok (.aload_n 1, 1) := by decide +kernel
theorem dX3_goOn_8 : decode cX3_goOn 8 = .ok (.getfield 76, 3) := by decide +kernel
theorem dX3_goOn_11 : decode cX3_goOn 11 = .ok (.aload_n 0, 1) := by decide +kernel
theorem dX3_goOn_12 : decode cX3_goOn 12 = .ok (.getfield 18, 3) := by decide +kernel
theorem dX3_goOn_15 : decode cX3_goOn 15 = .ok (.iload_n 2, 1) := by decide +kernel
theorem dX3_goOn_16 : decode cX3_goOn 16 = .ok (.iaload, 1) := by decide +kernel
theorem dX3_goOn_17 : decode cX3_goOn 17 = .ok (.iload_n 3, 1) := by decide +kernel
theorem dX3_goOn_18 : decode cX3_goOn 18 = .ok (.invokevirtual 82, 3) := by decide +kernel
theorem dX3_goOn_21 : decode cX3_goOn 21 = .ok (.istore 4, 2) := by decide +kernel
theorem dX3_goOn_23 : decode cX3_goOn 23 = .ok (.aload_n 1, 1) := by decide +kernel
theorem dX3_goOn_24 : decode cX3_goOn 24 = .ok (.getfield 88, 3) := by decide +kernel
theorem dX3_goOn_27 : decode cX3_goOn 27 = .ok (.aload_n 0, 1) := by decide +kernel
theorem dX3_goOn_28 : decode cX3_goOn 28 = .ok (.getfield 22, 3) := by decide +kernel
theorem dX3_goOn_31 : decode cX3_goOn 31 = .ok (.iload_n 2, 1) := by decide +kernel
theorem dX3_goOn_32 : decode cX3_goOn 32 = .ok (.iaload, 1) := by decide +kernel
theorem dX3_goOn_33 : decode cX3_goOn 33 = .ok (.iload_n 3, 1) := by decide +kernel
theorem dX3_goOn_34 : decode cX3_goOn 34 = .ok (.invokevirtual 91, 3) := by decide +kernel
theorem dX3_goOn_37 : decode cX3_goOn 37 = .ok (.istore 5, 2) := by decide +kernel
theorem dX3_goOn_39 : decode cX3_goOn 39 = .ok (.iconst 0, 1) := by decide +kernel
theorem dX3_goOn_40 : decode cX3_goOn 40 = .ok (.istore 6, 2) := by decide +kernel
theorem dX3_goOn_42 : decode cX3_goOn 42 = .ok (.iload 6, 2) := by decide +kernel
theorem dX3_goOn_44 : decode cX3_goOn 44 = .ok (.iconst 4, 1) := by decide +kernel
theorem dX3_goOn_45 : decode cX3_goOn 45 = .ok (.if_icmp .ge 37, 3) := by decide +kernel
theorem dX3_goOn_48 : decode cX3_goOn 48 = .ok (.aload_n 0, 1) := by decide +kernel
theorem dX3_goOn_49 : decode cX3_goOn 49 = .ok (.getfield 51, 3) := by decide +kernel
theorem dX3_goOn_52 : decode cX3_goOn 52 = .ok (.ifCond .ge 30, 3) := by decide +kernel
theorem dX3_goOn_55 : decode cX3_goOn 55 = .ok (.iload 4, 2) := by decide +kernel
theorem dX3_goOn_57 : decode cX3_goOn 57 = .ok (.iload 6, 2) := by decide +kernel
theorem dX3_goOn_59 : decode cX3_goOn 59 = .ok (.ishr, 1) := by decide +kernel
theorem dX3_goOn_60 : decode cX3_goOn 60 = .ok (.iconst 1, 1) := by decide +kernel
theorem dX3_goOn_61 : decode cX3_goOn 61 = .ok (.iand, 1) := by decide +kernel
theorem dX3_goOn_62 : decode cX3_goOn 62 = .ok (.ifCond .eq 14, 3) := by decide +kernel
theorem dX3_goOn_65 : decode cX3_goOn 65 = .ok (.aload_n 0, 1) := by decide +kernel
theorem dX3_goOn_66 : decode cX3_goOn 66 = .ok (.aload_n 1, 1) := by decide +kernel
theorem dX3_goOn_67 : decode cX3_goOn 67 = .ok (.iload 6, 2) := by decide +kernel
theorem dX3_goOn_69 : decode cX3_goOn 69 = .ok (.iload 5, 2) := by decide +kernel
theorem dX3_goOn_71 : decode cX3_goOn 71 = .ok (.iload_n 2, 1) := by decide +kernel
theorem dX3_goOn_72 : decode cX3_goOn 72 = .ok (.iload_n 3, 1) := by decide +kernel
theorem dX3_goOn_73 : decode cX3_goOn 73 = .ok (.invokevirtual 58, 3) := by decide +kernel
theorem dX3_goOn_76 : decode cX3_goOn 76 = .ok (.iinc 6 1, 3) := by decide +kernel
theorem dX3_goOn_79 : decode cX3_goOn 79 = .ok (.goto (-37), 3) := by decide +kernel
theorem dX3_goOn_82 : decode cX3_goOn 82 = .ok (.iinc 3 1, 3) := by decide +kernel
theorem dX3_goOn_85 : decode cX3_goOn 85 = .ok (.goto (-83), 3) := by decide +kernel
theorem dX3_goOn_88 : decode cX3_goOn 88 = .ok (.return_, 1) := by decide +kernel
theorem dX3_come_0 : decode cX3_come 0 = .ok (.aload_n 0, 1) := by decide +kernel
theorem dX3_come_1 : decode cX3_come 1 = .ok (.getfield 35, 3) := by decide +kernel
theorem dX3_come_4 : decode cX3_come 4 = .ok (.iconst 2, 1) := by decide +kernel
theorem dX3_come_5 : decode cX3_come 5 = .ok (.if_icmp .ne 17, 3) := by decide +kernel
theorem dX3_come_8 : decode cX3_come 8 = .ok (.aload_n 0, 1) := by decide +kernel
theorem dX3_come_9 : decode cX3_come 9 = .ok (.getfield 12, 3) := by decide +kernel
theorem dX3_come_12 : decode cX3_come 12 = .ok (.iconst 0, 1) := by decide +kernel
theorem dX3_come_13 : decode cX3_come 13 = .ok (.iload_n 2, 1) := by decide +kernel
theorem dX3_come_14 : decode cX3_come 14 = .ok (.iconst 1, 1) := by decide +kernel
theorem dX3_come_15 : decode cX3_come 15 = .ok (.iload_n 3, 1) := by decide +kernel
theorem dX3_come_16 : decode cX3_come 16 = .ok (.invokevirtual 94, 3) := by decide +kernel
theorem dX3_come_19 : decode cX3_come 19 = .ok (.ifCond .ne 12, 3) := by decide +kernel
theorem dX3_come_22 : decode cX3_come 22 = .ok (.aload_n 0, 1) := by decide +kernel
theorem dX3_come_23 : decode cX3_come 23 = .ok (.iload_n 2, 1) := by decide +kernel
theorem dX3_come_24 : decode cX3_come 24 = .ok (.iload_n 3, 1) := by decide +kernel
theorem dX3_come_25 : decode cX3_come 25 = .ok (.invokevirtual 98, 3) := by decide +kernel
theorem dX3_come_28 : decode cX3_come 28 = .ok (.ifCond .eq 14, 3) := by decide +kernel
theorem dX3_come_31 : decode cX3_come 31 = .ok (.aload_n 0, 1) := by decide +kernel
theorem dX3_come_32 : decode cX3_come 32 = .ok (.dup, 1) := by decide +kernel
theorem dX3_come_33 : decode cX3_come 33 = .ok (.getfield 45, 3) := by decide +kernel
theorem dX3_come_36 : decode cX3_come 36 = .ok (.iconst 1, 1) := by decide +kernel
theorem dX3_come_37 : decode cX3_come 37 = .ok (.iadd, 1) := by decide +kernel
theorem dX3_come_38 : decode cX3_come 38 = .ok (.putfield 45, 3) := by decide +kernel
theorem dX3_come_41 : decode cX3_come 41 = .ok (.return_, 1) := by decide +kernel
theorem dX3_come_42 : decode cX3_come 42 = .ok (.aload_n 0, 1) := by decide +kernel
theorem dX3_come_43 : decode cX3_come 43 = .ok (.iload_n 2, 1) := by decide +kernel
theorem dX3_come_44 : decode cX3_come 44 = .ok (.iload_n 3, 1) := by decide +kernel
theorem dX3_come_45 : decode cX3_come 45 = .ok (.invokevirtual 102, 3) := by decide +kernel
theorem dX3_come_48 : decode cX3_come 48 = .ok (.aload_n 0, 1) := by decide +kernel
theorem dX3_come_49 : decode cX3_come 49 = .ok (.getfield 39, 3) := by decide +kernel
theorem dX3_come_52 : decode cX3_come 52 = .ok (.sipush 128, 3) := by decide +kernel
theorem dX3_come_55 : decode cX3_come 55 = .ok (.if_icmp .lt 4, 3) := by decide +kernel
theorem dX3_come_58 : decode cX3_come 58 = .ok (.return_, 1) := by decide +kernel
theorem dX3_come_59 : decode cX3_come 59 = .ok (.aload_n 0, 1) := by decide +kernel
theorem dX3_come_60 : decode cX3_come 60 = .ok (.getfield 18, 3) := by decide +kernel
theorem dX3_come_63 : decode cX3_come 63 = .ok (.aload_n 0, 1) := by decide +kernel
theorem dX3_come_64 : decode cX3_come 64 = .ok (.getfield 39, 3) := by decide +kernel
theorem dX3_come_67 : decode cX3_come 67 = .ok (.iload_n 2, 1) := by decide +kernel
theorem dX3_come_68 : decode cX3_come 68 = .ok (.iastore, 1) := by decide +kernel
theorem dX3_come_69 : decode cX3_come 69 = .ok (.aload_n 0, 1) := by decide +kernel
theorem dX3_come_70 : decode cX3_come 70 = .ok (.getfield 22, 3) := by decide +kernel
theorem dX3_come_73 : decode cX3_come 73 = .ok (.aload_n 0, 1) := by decide +kernel
theorem dX3_come_74 : decode cX3_come 74 = .ok (.getfield 39, 3) := by decide +kernel
theorem dX3_come_77 : decode cX3_come 77 = .ok (.iload_n 3, 1) := by decide +kernel
theorem dX3_come_78 : decode cX3_come 78 = .ok (.iastore, 1) := by decide +kernel
theorem dX3_come_79 : decode cX3_come 79 = .ok (.aload_n 0, 1) := by decide +kernel
theorem dX3_come_80 : decode cX3_come 80 = .ok (.getfield 25, 3) := by decide +kernel
theorem dX3_come_83 : decode cX3_come 83 = .ok (.aload_n 0, 1) := by decide +kernel
theorem dX3_come_84 : decode cX3_come 84 = .ok (.getfield 39, 3) := by decide +kernel
theorem dX3_come_87 : decode cX3_come 87 = .ok (.iload 4, 2) := by decide +kernel
theorem dX3_come_89 : decode cX3_come 89 = .ok (.iastore, 1) := by decide +kernel
theorem dX3_come_90 : decode cX3_come 90 = .ok (.aload_n 0, 1) := by decide +kernel
theorem dX3_come_91 : decode cX3_come 91 = .ok (.getfield 28, 3) := by decide +kernel
theorem dX3_come_94 : decode cX3_come 94 = .ok (.aload_n 0, 1) := by decide +kernel
theorem dX3_come_95 : decode cX3_come 95 = .ok (.getfield 39, 3) := by decide +kernel
theorem dX3_come_98 : decode cX3_come 98 = .ok (.iload 5, 2) := by decide +kernel
theorem dX3_come_100 : decode cX3_come 100 = .ok (.iastore, 1) := by decide +kernel
theorem dX3_come_101 : decode cX3_come 101 = .ok (.aload_n 0, 1) := by decide +kernel
theorem dX3_come_102 : decode cX3_come 102 = .ok (.getfield 31, 3) := by decide +kernel
theorem dX3_come_105 : decode cX3_come 105 = .ok (.aload_n 0, 1) := by decide +kernel
theorem dX3_come_106 : decode cX3_come 106 = .ok (.getfield 39, 3) := by decide +kernel
theorem dX3_come_109 : decode cX3_come 109 = .ok (.iconst 0, 1) := by decide +kernel
theorem dX3_come_110 : decode cX3_come 110 = .ok (.bastore, 1) := by decide +kernel
theorem dX3_come_111 : decode cX3_come 111 = .ok (.aload_n 1, 1) := by decide +kernel
theorem dX3_come_112 : decode cX3_come 112 = .ok (.getfield 76, 3) := by decide +kernel
theorem dX3_come_115 : decode cX3_come 115 = .ok (.iload_n 2, 1) := by decide +kernel
theorem dX3_come_116 : decode cX3_come 116 = .ok (.invokevirtual 106, 3) := by decide +kernel
theorem dX3_come_119 : decode cX3_come 119 = .ok (.ifCond .eq 22, 3) := by decide +kernel
theorem dX3_come_122 : decode cX3_come 122 = .ok (.aload_n 1, 1) := by decide +kernel
theorem dX3_come_123 : decode cX3_come 123 = .ok (.getfield 88, 3) := by decide +kernel
theorem dX3_come_126 : decode cX3_come 126 = .ok (.iload_n 3, 1) := by decide +kernel
theorem dX3_come_127 : decode cX3_come 127 = .ok (.invokevirtual 110, 3) := by decide +kernel
theorem dX3_come_130 : decode cX3_come 130 = .ok (.ifCond .ne 11, 3) := by decide +kernel
theorem dX3_come_133 : decode cX3_come 133 = .ok (.aload_n 0, 1) := by decide +kernel
theorem dX3_come_134 : decode cX3_come 134 = .ok (.aload_n 0, 1) := by decide +kernel
theorem dX3_come_135 : decode cX3_come 135 = .ok (.getfield 39, 3) := by decide +kernel
theorem dX3_come_138 : decode cX3_come 138 = .ok (.putfield 51, 3) := by decide +kernel
theorem dX3_come_141 : decode cX3_come 141 = .ok (.aload_n 0, 1) := by decide +kernel
theorem dX3_come_142 : decode cX3_come 142 = .ok (.dup, 1) := by decide +kernel
theorem dX3_come_143 : decode cX3_come 143 = .ok (.getfield 39, 3) := by decide +kernel
theorem dX3_come_146 : decode cX3_come 146 = .ok (.iconst 1, 1) := by decide +kernel
theorem dX3_come_147 : decode cX3_come 147 = .ok (.iadd, 1) := by decide +kernel
theorem dX3_come_148 : decode cX3_come 148 = .ok (.putfield 39, 3) := by decide +kernel
theorem dX3_come_151 : decode cX3_come 151 = .ok (.return_, 1) := by decide +kernel
theorem dX3_isCoveredByKept_0 : decode cX3_isCoveredByKept 0 = .ok (.iconst 0, 1) := by decide +kernel
theorem dX3_isCoveredByKept_1 : decode cX3_isCoveredByKept 1 = .ok (.istore_n 3, 1) := by decide +kernel
theorem dX3_isCoveredByKept_2 : decode cX3_isCoveredByKept 2 = .ok (.iload_n 3, 1) := by decide +kernel
theorem dX3_isCoveredByKept_3 : decode cX3_isCoveredByKept 3 = .ok (.aload_n 0, 1) := by decide +kernel
theorem dX3_isCoveredByKept_4 : decode cX3_isCoveredByKept 4 = .ok (.getfield 39, 3) := by decide +kernel
theorem dX3_isCoveredByKept_7 : decode cX3_isCoveredByKept 7 = .ok (.if_icmp .ge 48, 3) := by decide +kernel
theorem dX3_isCoveredByKept_10 : decode cX3_isCoveredByKept 10 = .ok (.iload_n 3, 1) := by decide +kernel
theorem dX3_isCoveredByKept_11 : decode cX3_isCoveredByKept 11 = .ok (.sipush 128, 3) := by decide +kernel
theorem dX3_isCoveredByKept_14 : decode cX3_isCoveredByKept 14 = .ok (.if_icmp .ge 41, 3) := by decide +kernel
theorem dX3_isCoveredByKept_17 : decode cX3_isCoveredByKept 17 = .ok (.aload_n 0, 1) := by decide +kernel
theorem dX3_isCoveredByKept_18 : decode cX3_isCoveredByKept 18 = .ok (.getfield 31, 3) := by decide +kernel
theorem dX3_isCoveredByKept_21 : decode cX3_isCoveredByKept 21 = .ok (.iload_n 3, 1) := by decide +kernel
theorem dX3_isCoveredByKept_22 : decode cX3_isCoveredByKept 22 = .ok (.baload, 1) := by decide +kernel
theorem dX3_isCoveredByKept_23 : decode cX3_isCoveredByKept 23 = .ok (.ifCond .ne 26, 3) := by decide +kernel
theorem dX3_isCoveredByKept_26 : decode cX3_isCoveredByKept 26 = .ok (.aload_n 0, 1) := by decide +kernel
theorem dX3_isCoveredByKept_27 : decode cX3_isCoveredByKept 27 = .ok (.iload_n 1, 1) := by decide +kernel
theorem dX3_isCoveredByKept_28 : decode cX3_isCoveredByKept 28 = .ok (.iload_n 2, 1) := by decide +kernel
theorem dX3_isCoveredByKept_29 : decode cX3_isCoveredByKept 29 = .ok (.aload_n 0, 1) := by decide +kernel
theorem dX3_isCoveredByKept_30 : decode cX3_isCoveredByKept 30 = .ok (.getfield 18, 3) := by decide +kernel
theorem dX3_isCoveredByKept_33 : decode cX3_isCoveredByKept 33 = .ok (.iload_n 3, 1) := by decide +kernel
theorem dX3_isCoveredByKept_34 : decode cX3_isCoveredByKept 34 = .ok (.iaload, 1) := by decide +kernel
theorem dX3_isCoveredByKept_35 : decode cX3_isCoveredByKept 35 = .ok (.aload_n 0, 1) := by decide +kernel
theorem dX3_isCoveredByKept_36 : decode cX3_isCoveredByKept 36 = .ok (.getfield 22, 3) := by decide +kernel
theorem dX3_isCoveredByKept_39 : decode cX3_isCoveredByKept 39 = .ok (.iload_n 3, 1) := by decide +kernel
theorem dX3_isCoveredByKept_40 : decode cX3_isCoveredByKept 40 = .ok (.iaload, 1) := by decide +kernel
theorem dX3_isCoveredByKept_41 : decode cX3_isCoveredByKept 41 = .ok (.invokevirtual 113, 3) := by decide +kernel
theorem dX3_isCoveredByKept_44 : decode cX3_isCoveredByKept 44 = .ok (.ifCond .eq 5, 3) := by decide +kernel
theorem dX3_isCoveredByKept_47 : decode cX3_isCoveredByKept 47 = .ok (.iconst 1, 1) := by decide +kernel
theorem dX3_isCoveredByKept_48 : decode cX3_isCoveredByKept 48 = .ok (.ireturn, 1) := by decide +kernel
theorem dX3_isCoveredByKept_49 : decode cX3_isCoveredByKept 49 = .ok (.iinc 3 1, 3) := by decide +kernel
theorem dX3_isCoveredByKept_52 : decode cX3_isCoveredByKept 52 = .ok (.goto (-50), 3) := by decide +kernel
theorem dX3_isCoveredByKept_55 : decode cX3_isCoveredByKept 55 = .ok (.iconst 0, 1) := by decide +kernel
theorem dX3_isCoveredByKept_56 : decode cX3_isCoveredByKept 56 = .ok (.ireturn, 1) := by decide +kernel
theorem dX3_dropCovered_0 : decode cX3_dropCovered 0 = .ok (.iconst 0, 1) := by decide +kernel
theorem dX3_dropCovered_1 : decode cX3_dropCovered 1 = .ok (.istore_n 3, 1) := by decide +kernel
theorem dX3_dropCovered_2 : decode cX3_dropCovered 2 = .ok (.iload_n 3, 1) := by decide +kernel
theorem dX3_dropCovered_3 : decode cX3_dropCovered 3 = .ok (.aload_n 0, 1) := by decide +kernel
theorem dX3_dropCovered_4 : decode cX3_dropCovered 4 = .ok (.getfield 39, 3) := by decide +kernel
theorem dX3_dropCovered_7 : decode cX3_dropCovered 7 = .ok (.if_icmp .ge 63, 3) := by decide +kernel
theorem dX3_dropCovered_10 : decode cX3_dropCovered 10 = .ok (.iload_n 3, 1) := by decide +kernel
theorem dX3_dropCovered_11 : decode cX3_dropCovered 11 = .ok (.sipush 128, 3) := by decide +kernel
theorem dX3_dropCovered_14 : decode cX3_dropCovered 14 = .ok (.if_icmp .ge 56, 3) := by decide +kernel
theorem dX3_dropCovered_17 : decode cX3_dropCovered 17 = .ok (.aload_n 0, 1) := by decide +kernel
theorem dX3_dropCovered_18 : decode cX3_dropCovered 18 = .ok (.getfield 31, 3) := by decide +kernel
theorem dX3_dropCovered_21 : decode cX3_dropCovered 21 = .ok (.iload_n 3, 1) := by decide +kernel
theorem dX3_dropCovered_22 : decode cX3_dropCovered 22 = .ok (.baload, 1) := by decide +kernel
theorem dX3_dropCovered_23 : decode cX3_dropCovered 23 = .ok (.ifCond .ne 41, 3) := by decide +kernel
theorem dX3_dropCovered_26 : decode cX3_dropCovered 26 = .ok (.aload_n 0, 1) := by decide +kernel
theorem dX3_dropCovered_27 : decode cX3_dropCovered 27 = .ok (.aload_n 0, 1) := by decide +kernel
theorem dX3_dropCovered_28 : decode cX3_dropCovered 28 = .ok (.getfield 18, 3) := by decide +kernel
theorem dX3_dropCovered_31 : decode cX3_dropCovered 31 = .ok (.iload_n 3, 1) := by decide +kernel
theorem dX3_dropCovered_32 : decode cX3_dropCovered 32 = .ok (.iaload, 1) := by decide +kernel
theorem dX3_dropCovered_33 : decode cX3_dropCovered 33 = .ok (.aload_n 0, 1) := by decide +kernel
theorem dX3_dropCovered_34 : decode cX3_dropCovered 34 = .ok (.getfield 22, 3) := by decide +kernel
theorem dX3_dropCovered_37 : decode cX3_dropCovered 37 = .ok (.iload_n 3, 1) := by decide +kernel
theorem dX3_dropCovered_38 : decode cX3_dropCovered 38 = .ok (.iaload, 1) := by decide +kernel
theorem dX3_dropCovered_39 : decode cX3_dropCovered 39 = .ok (.iload_n 1, 1) := by decide +kernel
theorem dX3_dropCovered_40 : decode cX3_dropCovered 40 = .ok (.iload_n 2, 1) := by decide +kernel
theorem dX3_dropCovered_41 : decode cX3_dropCovered 41 = .ok (.invokevirtual 113, 3) := by decide +kernel
theorem dX3_dropCovered_44 : decode cX3_dropCovered 44 = .ok (.ifCond .eq 20, 3) := by decide +kernel
theorem dX3_dropCovered_47 : decode cX3_dropCovered 47 = .ok (.aload_n 0, 1) := by decide +kernel
theorem dX3_dropCovered_48 : decode cX3_dropCovered 48 = .ok (.getfield 31, 3) := by decide +kernel
theorem dX3_dropCovered_51 : decode cX3_dropCovered 51 = .ok (.iload_n 3, 1) := by decide +kernel
theorem dX3_dropCovered_52 : decode cX3_dropCovered 52 = .ok (.iconst 1, 1) := by decide +kernel
theorem dX3_dropCovered_53 : decode cX3_dropCovered 53 = .ok (.bastore, 1) := by decide +kernel
theorem dX3_dropCovered_54 : decode cX3_dropCovered 54 = .ok (.aload_n 0, 1) := by decide +kernel
theorem dX3_dropCovered_55 : decode cX3_dropCovered 55 = .ok (.dup, 1) := by decide +kernel
theorem dX3_dropCovered_56 : decode cX3_dropCovered 56 = .ok (.getfield 48, 3) := by decide +kernel
theorem dX3_dropCovered_59 : decode cX3_dropCovered 59 = .ok (.iconst 1, 1) := by decide +kernel
theorem dX3_dropCovered_60 : decode cX3_dropCovered 60 = .ok (.iadd, 1) := by decide +kernel
theorem dX3_dropCovered_61 : decode cX3_dropCovered 61 = .ok (.putfield 48, 3) := by decide +kernel
theorem dX3_dropCovered_64 : decode cX3_dropCovered 64 = .ok (.iinc 3 1, 3) := by decide +kernel
theorem dX3_dropCovered_67 : decode cX3_dropCovered 67 = .ok (.goto (-65), 3) := by decide +kernel
theorem dX3_dropCovered_70 : decode cX3_dropCovered 70 = .ok (.return_, 1) := by decide +kernel
theorem dX3_isCovered_0 : decode cX3_isCovered 0 = .ok (.aload_n 0, 1) := by decide +kernel
theorem dX3_isCovered_1 : decode cX3_isCovered 1 = .ok (.getfield 35, 3) := by decide +kernel
theorem dX3_isCovered_4 : decode cX3_isCovered 4 = .ok (.lookupswitch 65 #[(0, 28), (1, 45)], 28) := by decide +kernel
theorem dX3_isCovered_32 : decode cX3_isCovered 32 = .ok (.iload_n 1, 1) := by decide +kernel
theorem dX3_isCovered_33 : decode cX3_isCovered 33 = .ok (.iload_n 3, 1) := by decide +kernel
theorem dX3_isCovered_34 : decode cX3_isCovered 34 = .ok (.if_icmp .ne 13, 3) := by decide +kernel
theorem dX3_isCovered_37 : decode cX3_isCovered 37 = .ok (.iload_n 2, 1) := by decide +kernel
theorem dX3_isCovered_38 : decode cX3_isCovered 38 = .ok (.iload 4, 2) := by decide +kernel
theorem dX3_isCovered_40 : decode cX3_isCovered 40 = .ok (.if_icmp .ne 7, 3) := by decide +kernel
theorem dX3_isCovered_43 : decode cX3_isCovered 43 = .ok (.iconst 1, 1) := by decide +kernel
theorem dX3_isCovered_44 : decode cX3_isCovered 44 = .ok (.goto 4, 3) := by decide +kernel
theorem dX3_isCovered_47 : decode cX3_isCovered 47 = .ok (.iconst 0, 1) := by decide +kernel
theorem dX3_isCovered_48 : decode cX3_isCovered 48 = .ok (.ireturn, 1) := by decide +kernel
theorem dX3_isCovered_49 : decode cX3_isCovered 49 = .ok (.iload_n 1, 1) := by decide +kernel
theorem dX3_isCovered_50 : decode cX3_isCovered 50 = .ok (.iload_n 3, 1) := by decide +kernel
theorem dX3_isCovered_51 : decode cX3_isCovered 51 = .ok (.if_icmp .ne 16, 3) := by decide +kernel
theorem dX3_isCovered_54 : decode cX3_isCovered 54 = .ok (.iload_n 2, 1) := by decide +kernel
theorem dX3_isCovered_55 : decode cX3_isCovered 55 = .ok (.iload 4, 2) := by decide +kernel
theorem dX3_isCovered_57 : decode cX3_isCovered 57 = .ok (.iand, 1) := by decide +kernel
theorem dX3_isCovered_58 : decode cX3_isCovered 58 = .ok (.iload 4, 2) := by decide +kernel
theorem dX3_isCovered_60 : decode cX3_isCovered 60 = .ok (.if_icmp .ne 7, 3) := by decide +kernel
theorem dX3_isCovered_63 : decode cX3_isCovered 63 = .ok (.iconst 1, 1) := by decide +kernel
theorem dX3_isCovered_64 : decode cX3_isCovered 64 = .ok (.goto 4, 3) := by decide +kernel
theorem dX3_isCovered_67 : decode cX3_isCovered 67 = .ok (.iconst 0, 1) := by decide +kernel
theorem dX3_isCovered_68 : decode cX3_isCovered 68 = .ok (.ireturn, 1) := by decide +kernel
theorem dX3_isCovered_69 : decode cX3_isCovered 69 = .ok (.aload_n 0, 1) := by decide +kernel
theorem dX3_isCovered_70 : decode cX3_isCovered 70 = .ok (.getfield 12, 3) := by decide +kernel
theorem dX3_isCovered_73 : decode cX3_isCovered 73 = .ok (.iconst 0, 1) := by decide +kernel
theorem dX3_isCovered_74 : decode cX3_isCovered 74 = .ok (.iload_n 1, 1) := by decide +kernel
theorem dX3_isCovered_75 : decode cX3_isCovered 75 = .ok (.iconst 0, 1) := by decide +kernel
theorem dX3_isCovered_76 : decode cX3_isCovered 76 = .ok (.iconst 1, 1) := by decide +kernel
theorem dX3_isCovered_77 : decode cX3_isCovered 77 = .ok (.iload_n 3, 1) := by decide +kernel
theorem dX3_isCovered_78 : decode cX3_isCovered 78 = .ok (.ishl, 1) := by decide +kernel
theorem dX3_isCovered_79 : decode cX3_isCovered 79 = .ok (.invokevirtual 94, 3) := by decide +kernel
theorem dX3_isCovered_82 : decode cX3_isCovered 82 = .ok (.ifCond .eq 20, 3) := by decide +kernel
theorem dX3_isCovered_85 : decode cX3_isCovered 85 = .ok (.aload_n 0, 1) := by decide +kernel
theorem dX3_isCovered_86 : decode cX3_isCovered 86 = .ok (.getfield 12, 3) := by decide +kernel
theorem dX3_isCovered_89 : decode cX3_isCovered 89 = .ok (.iload 4, 2) := by decide +kernel
theorem dX3_isCovered_91 : decode cX3_isCovered 91 = .ok (.iload_n 2, 1) := by decide +kernel
theorem dX3_isCovered_92 : decode cX3_isCovered 92 = .ok (.invokevirtual 116, 3) := by decide +kernel
theorem dX3_isCovered_95 : decode cX3_isCovered 95 = .ok (.ifCond .eq 7, 3) := by decide +kernel
theorem dX3_isCovered_98 : decode cX3_isCovered 98 = .ok (.iconst 1, 1) := by decide +kernel
theorem dX3_isCovered_99 : decode cX3_isCovered 99 = .ok (.goto 4, 3) := by decide +kernel
theorem dX3_isCovered_102 : decode cX3_isCovered 102 = .ok (.iconst 0, 1) := by decide +kernel
theorem dX3_isCovered_103 : decode cX3_isCovered 103 = .ok (.ireturn, 1) := by decide +kernel
theorem dX4_init_0 : decode cX4_init 0 = .ok (.aload_n 0, 1) := by decide +kernel
theorem dX4_init_1 : decode cX4_init 1 = .ok (.invokespecial 3, 3) := by decide +kernel
theorem dX4_init_4 : decode cX4_init 4 = .ok (.aload_n 0, 1) := by decide +kernel
theorem dX4_init_5 : decode cX4_init 5 = .ok (.iconst 4, 1) := by decide +kernel
theorem dX4_init_6 : decode cX4_init 6 = .ok (.newarray .int, 2) := by decide +kernel
theorem dX4_init_8 : decode cX4_init 8 = .ok (.putfield 9, 3) := by decide +kernel
theorem dX4_init_11 : decode cX4_init 11 = .ok (.aload_n 0, 1) := by decide +kernel
theorem dX4_init_12 : decode cX4_init 12 = .ok (.sipush 128, 3) := by decide +kernel
theorem dX4_init_15 : decode cX4_init 15 = .ok (.newarray .int, 2) := by decide +kernel
theorem dX4_init_17 : decode cX4_init 17 = .ok (.putfield 15, 3) := by decide +kernel
theorem dX4_init_20 : decode cX4_init 20 = .ok (.return_, 1) := by decide +kernel
theorem dX4_holds_0 : decode cX4_holds 0 = .ok (.aload_n 0, 1) := by decide +kernel
theorem dX4_holds_1 : decode cX4_holds 1 = .ok (.invokevirtual 18, 3) := by decide +kernel
theorem dX4_holds_4 : decode cX4_holds 4 = .ok (.iconst 0, 1) := by decide +kernel
theorem dX4_holds_5 : decode cX4_holds 5 = .ok (.istore_n 2, 1) := by decide +kernel
theorem dX4_holds_6 : decode cX4_holds 6 = .ok (.iload_n 2, 1) := by decide +kernel
theorem dX4_holds_7 : decode cX4_holds 7 = .ok (.aload_n 0, 1) := by decide +kernel
theorem dX4_holds_8 : decode cX4_holds 8 = .ok (.getfield 21, 3) := by decide +kernel
theorem dX4_holds_11 : decode cX4_holds 11 = .ok (.if_icmp .ge 49, 3) := by decide +kernel
theorem dX4_holds_14 : decode cX4_holds 14 = .ok (.iload_n 2, 1) := by decide +kernel
theorem dX4_holds_15 : decode cX4_holds 15 = .ok (.sipush 128, 3) := by decide +kernel
theorem dX4_holds_18 : decode cX4_holds 18 = .ok (.if_icmp .ge 42, 3) := by decide +kernel
theorem dX4_holds_21 : decode cX4_holds 21 = .ok (.aload_n 1, 1) := by decide +kernel
theorem dX4_holds_22 : decode cX4_holds 22 = .ok (.aload_n 0, 1) := by decide +kernel
theorem dX4_holds_23 : decode cX4_holds 23 = .ok (.getfield 15, 3) := by decide +kernel
theorem dX4_holds_26 : decode cX4_holds 26 = .ok (.iload_n 2, 1) := by decide +kernel
theorem dX4_holds_27 : decode cX4_holds 27 = .ok (.iaload, 1) := by decide +kernel
theorem dX4_holds_28 : decode cX4_holds 28 = .ok (.aload_n 1, 1) := by decide +kernel
theorem dX4_holds_29 : decode cX4_holds 29 = .ok (.getfield 25, 3) := by decide +kernel
theorem dX4_holds_32 : decode cX4_holds 32 = .ok (.getfield 31, 3) := by decide +kernel
theorem dX4_holds_35 : decode cX4_holds 35 = .ok (.invokestatic 36, 3) := by decide +kernel
theorem dX4_holds_38 : decode cX4_holds 38 = .ok (.ifCond .eq 5, 3) := by decide +kernel
theorem dX4_holds_41 : decode cX4_holds 41 = .ok (.iconst 0, 1) := by decide +kernel
theorem dX4_holds_42 : decode cX4_holds 42 = .ok (.ireturn, 1) := by decide +kernel
theorem dX4_holds_43 : decode cX4_holds 43 = .ok (.aload_n 0, 1) := by decide +kernel
theorem dX4_holds_44 : decode cX4_holds 44 = .ok (.aload_n 1, 1) := by decide +kernel
theorem dX4_holds_45 : decode cX4_holds 45 = .ok (.aload_n 0, 1) := by decide +kernel
theorem dX4_holds_46 : decode cX4_holds 46 = .ok (.getfield 15, 3) := by decide +kernel
theorem dX4_holds_49 : decode cX4_holds 49 = .ok (.iload_n 2, 1) := by decide +kernel
theorem dX4_holds_50 : decode cX4_holds 50 = .ok (.iaload, 1) := by decide +kernel
theorem dX4_holds_51 : decode cX4_holds 51 = .ok (.invokevirtual 40, 3) := by decide +kernel
theorem dX4_holds_54 : decode cX4_holds 54 = .ok (.iinc 2 1, 3) := by decide +kernel
theorem dX4_holds_57 : decode cX4_holds 57 = .ok (.goto (-51), 3) := by decide +kernel
theorem dX4_holds_60 : decode cX4_holds 60 = .ok (.iconst 1, 1) := by decide +kernel
theorem dX4_holds_61 : decode cX4_holds 61 = .ok (.ireturn, 1) := by decide +kernel
theorem dX4_meetAll_0 : decode cX4_meetAll 0 = .ok (.aload_n 0, 1) := by decide +kernel
theorem dX4_meetAll_1 : decode cX4_meetAll 1 = .ok (.invokevirtual 18, 3) := by decide +kernel
theorem dX4_meetAll_4 : decode cX4_meetAll 4 = .ok (.iconst 0, 1) := by decide +kernel
theorem dX4_meetAll_5 : decode cX4_meetAll 5 = .ok (.istore_n 2, 1) := by decide +kernel
theorem dX4_meetAll_6 : decode cX4_meetAll 6 = .ok (.iload_n 2, 1) := by decide +kernel
theorem dX4_meetAll_7 : decode cX4_meetAll 7 = .ok (.aload_n 0, 1) := by decide +kernel
theorem dX4_meetAll_8 : decode cX4_meetAll 8 = .ok (.getfield 21, 3) := by decide +kernel
theorem dX4_meetAll_11 : decode cX4_meetAll 11 = .ok (.if_icmp .ge 27, 3) := by decide +kernel
theorem dX4_meetAll_14 : decode cX4_meetAll 14 = .ok (.iload_n 2, 1) := by decide +kernel
theorem dX4_meetAll_15 : decode cX4_meetAll 15 = .ok (.sipush 128, 3) := by decide +kernel
theorem dX4_meetAll_18 : decode cX4_meetAll 18 = .ok (.if_icmp .ge 20, 3) := by decide +kernel
theorem dX4_meetAll_21 : decode cX4_meetAll 21 = .ok (.aload_n 0, 1) := by decide +kernel
theorem dX4_meetAll_22 : decode cX4_meetAll 22 = .ok (.aload_n 1, 1) := by decide +kernel
theorem dX4_meetAll_23 : decode cX4_meetAll 23 = .ok (.aload_n 0, 1) := by decide +kernel
theorem dX4_meetAll_24 : decode cX4_meetAll 24 = .ok (.getfield 15, 3) := by decide +kernel
theorem dX4_meetAll_27 : decode cX4_meetAll 27 = .ok (.iload_n 2, 1) := by decide +kernel
theorem dX4_meetAll_28 : decode cX4_meetAll 28 = .ok (.iaload, 1) := by decide +kernel
theorem dX4_meetAll_29 : decode cX4_meetAll 29 = .ok (.invokevirtual 40, 3) := by decide +kernel
theorem dX4_meetAll_32 : decode cX4_meetAll 32 = .ok (.iinc 2 1, 3) := by decide +kernel
theorem dX4_meetAll_35 : decode cX4_meetAll 35 = .ok (.goto (-29), 3) := by decide +kernel
theorem dX4_meetAll_38 : decode cX4_meetAll 38 = .ok (.return_, 1) := by decide +kernel
theorem dX4_holdsBy_0 : decode cX4_holdsBy 0 = .ok (.iconst 0, 1) := by decide +kernel
theorem dX4_holdsBy_1 : decode cX4_holdsBy 1 = .ok (.istore_n 3, 1) := by decide +kernel
theorem dX4_holdsBy_2 : decode cX4_holdsBy 2 = .ok (.iload_n 3, 1) := by decide +kernel
theorem dX4_holdsBy_3 : decode cX4_holdsBy 3 = .ok (.aload_n 0, 1) := by decide +kernel
theorem dX4_holdsBy_4 : decode cX4_holdsBy 4 = .ok (.getfield 21, 3) := by decide +kernel
theorem dX4_holdsBy_7 : decode cX4_holdsBy 7 = .ok (.if_icmp .ge 32, 3) := by decide +kernel
theorem dX4_holdsBy_10 : decode cX4_holdsBy 10 = .ok (.iload_n 3, 1) := by decide +kernel
theorem dX4_holdsBy_11 : decode cX4_holdsBy 11 = .ok (.sipush 128, 3) := by decide +kernel
theorem dX4_holdsBy_14 : decode cX4_holdsBy 14 = .ok (.if_icmp .ge 25, 3) := by decide +kernel
theorem dX4_holdsBy_17 : decode cX4_holdsBy 17 = .ok (.aload_n 1, 1) := by decide +kernel
theorem dX4_holdsBy_18 : decode cX4_holdsBy 18 = .ok (.aload_n 0, 1) := by decide +kernel
theorem dX4_holdsBy_19 : decode cX4_holdsBy 19 = .ok (.getfield 15, 3) := by decide +kernel
theorem dX4_holdsBy_22 : decode cX4_holdsBy 22 = .ok (.iload_n 3, 1) := by decide +kernel
theorem dX4_holdsBy_23 : decode cX4_holdsBy 23 = .ok (.iaload, 1) := by decide +kernel
theorem dX4_holdsBy_24 : decode cX4_holdsBy 24 = .ok (.iload_n 2, 1) := by decide +kernel
theorem dX4_holdsBy_25 : decode cX4_holdsBy 25 = .ok (.invokestatic 36, 3) := by decide +kernel
theorem dX4_holdsBy_28 : decode cX4_holdsBy 28 = .ok (.ifCond .eq 5, 3) := by decide +kernel
theorem dX4_holdsBy_31 : decode cX4_holdsBy 31 = .ok (.iconst 0, 1) := by decide +kernel
theorem dX4_holdsBy_32 : decode cX4_holdsBy 32 = .ok (.ireturn, 1) := by decide +kernel
theorem dX4_holdsBy_33 : decode cX4_holdsBy 33 = .ok (.iinc 3 1, 3) := by decide +kernel
theorem dX4_holdsBy_36 : decode cX4_holdsBy 36 = .ok (.goto (-34), 3) := by decide +kernel
theorem dX4_holdsBy_39 : decode cX4_holdsBy 39 = .ok (.iconst 1, 1) := by decide +kernel
theorem dX4_holdsBy_40 : decode cX4_holdsBy 40 = .ok (.ireturn, 1) := by decide +kernel
theorem dX4_start_0 : decode cX4_start 0 = .ok (.aload_n 0, 1) := by decide +kernel
theorem dX4_start_1 : decode cX4_start 1 = .ok (.getfield 9, 3) := by decide +kernel
theorem dX4_start_4 : decode cX4_start 4 = .ok (.iconst 0, 1) := by decide +kernel
theorem dX4_start_5 : decode cX4_start 5 = .ok (.invokestatic 44, 3) := by decide +kernel
theorem dX4_start_8 : decode cX4_start 8 = .ok (.aload_n 0, 1) := by decide +kernel
theorem dX4_start_9 : decode cX4_start 9 = .ok (.iconst 0, 1) := by decide +kernel
theorem dX4_start_10 : decode cX4_start 10 = .ok (.putfield 21, 3) := by decide +kernel
theorem dX4_start_13 : decode cX4_start 13 = .ok (.aload_n 0, 1) := by decide +kernel
theorem dX4_start_14 : decode cX4_start 14 = .ok (.iconst 0, 1) := by decide +kernel
theorem dX4_start_15 : decode cX4_start 15 = .ok (.iconst 1, 1) := by decide +kernel
theorem dX4_start_16 : decode cX4_start 16 = .ok (.invokevirtual 50, 3) := by decide +kernel
theorem dX4_start_19 : decode cX4_start 19 = .ok (.return_, 1) := by decide +kernel
theorem dX4_isBad_0 : decode cX4_isBad 0 = .ok (.aload_n 0, 1) := by decide +kernel
theorem dX4_isBad_1 : decode cX4_isBad 1 = .ok (.getfield 54, 3) := by decide +kernel
theorem dX4_isBad_4 : decode cX4_isBad 4 = .ok (.iload_n 1, 1) := by decide +kernel
theorem dX4_isBad_5 : decode cX4_isBad 5 = .ok (.bipush 32, 2) := by decide +kernel
theorem dX4_isBad_7 : decode cX4_isBad 7 = .ok (.idiv, 1) := by decide +kernel
theorem dX4_isBad_8 : decode cX4_isBad 8 = .ok (.invokevirtual 57, 3) := by decide +kernel
theorem dX4_isBad_11 : decode cX4_isBad 11 = .ok (.ifCond .eq 16, 3) := by decide +kernel
theorem dX4_isBad_14 : decode cX4_isBad 14 = .ok (.iload_n 1, 1) := by decide +kernel
theorem dX4_isBad_15 : decode cX4_isBad 15 = .ok (.bipush 32, 2) := by decide +kernel
theorem dX4_isBad_17 : decode cX4_isBad 17 = .ok (.irem, 1) := by decide +kernel
theorem dX4_isBad_18 : decode cX4_isBad 18 = .ok (.iload_n 2, 1) := by decide +kernel
theorem dX4_isBad_19 : decode cX4_isBad 19 = .ok (.iand, 1) := by decide +kernel
theorem dX4_isBad_20 : decode cX4_isBad 20 = .ok (.ifCond .ne 7, 3) := by decide +kernel
theorem dX4_isBad_23 : decode cX4_isBad 23 = .ok (.iconst 1, 1) := by decide +kernel
theorem dX4_isBad_24 : decode cX4_isBad 24 = .ok (.goto 4, 3) := by decide +kernel
theorem dX4_isBad_27 : decode cX4_isBad 27 = .ok (.iconst 0, 1) := by decide +kernel
theorem dX4_isBad_28 : decode cX4_isBad 28 = .ok (.ireturn, 1) := by decide +kernel
theorem dX4_goOn_0 : decode cX4_goOn 0 = .ok (.iconst 1, 1) := by decide +kernel
theorem dX4_goOn_1 : decode cX4_goOn 1 = .ok (.istore_n 3, 1) := by decide +kernel
theorem dX4_goOn_2 : decode cX4_goOn 2 = .ok (.iload_n 3, 1) := by decide +kernel
theorem dX4_goOn_3 : decode cX4_goOn 3 = .ok (.iconst 2, 1) := by decide +kernel
theorem dX4_goOn_4 : decode cX4_goOn 4 = .ok (.if_icmp .gt 75, 3) := by decide +kernel
theorem dX4_goOn_7 : decode cX4_goOn 7 = .ok (.aload_n 1, 1) := by decide +kernel
theorem dX4_goOn_8 : decode cX4_goOn 8 = .ok (.getfield 54, 3) := by decide +kernel
theorem dX4_goOn_11 : decode cX4_goOn 11 = .ok (.iload_n 2, 1) := by decide +kernel
theorem dX4_goOn_12 : decode cX4_goOn 12 = .ok (.bipush 32, 2) := by decide +kernel
theorem dX4_goOn_14 : decode cX4_goOn 14 = .ok (.idiv, 1) := by decide +kernel
theorem dX4_goOn_15 : decode cX4_goOn 15 = .ok (.iload_n 3, 1) := by decide +kernel
theorem dX4_goOn_16 : decode cX4_goOn 16 = .ok (.invokevirtual 61, 3) := by decide +kernel
theorem dX4_goOn_19 : decode cX4_goOn 19 = .ok (.istore 4, 2) := by decide +kernel
theorem dX4_goOn_21 : decode cX4_goOn 21 = .ok (.iload 4, 2) := by decide +kernel
theorem dX4_goOn_23 : decode cX4_goOn 23 = .ok (.ifCond .eq 50, 3) := by decide +kernel
theorem dX4_goOn_26 : decode cX4_goOn 26 = .ok (.aload_n 1, 1) := by decide +kernel
theorem dX4_goOn_27 : decode cX4_goOn 27 = .ok (.getfield 25, 3) := by decide +kernel
theorem dX4_goOn_30 : decode cX4_goOn 30 = .ok (.iload_n 2, 1) := by decide +kernel
theorem dX4_goOn_31 : decode cX4_goOn 31 = .ok (.bipush 32, 2) := by decide +kernel
theorem dX4_goOn_33 : decode cX4_goOn 33 = .ok (.irem, 1) := by decide +kernel
theorem dX4_goOn_34 : decode cX4_goOn 34 = .ok (.iload_n 3, 1) := by decide +kernel
theorem dX4_goOn_35 : decode cX4_goOn 35 = .ok (.invokevirtual 65, 3) := by decide +kernel
theorem dX4_goOn_38 : decode cX4_goOn 38 = .ok (.istore 5, 2) := by decide +kernel
theorem dX4_goOn_40 : decode cX4_goOn 40 = .ok (.iconst 0, 1) := by decide +kernel
theorem dX4_goOn_41 : decode cX4_goOn 41 = .ok (.istore 6, 2) := by decide +kernel
theorem dX4_goOn_43 : decode cX4_goOn 43 = .ok (.iload 6, 2) := by decide +kernel
theorem dX4_goOn_45 : decode cX4_goOn 45 = .ok (.iconst 4, 1) := by decide +kernel
theorem dX4_goOn_46 : decode cX4_goOn 46 = .ok (.if_icmp .ge 27, 3) := by decide +kernel
theorem dX4_goOn_49 : decode cX4_goOn 49 = .ok (.iload 4, 2) := by decide +kernel
theorem dX4_goOn_51 : decode cX4_goOn 51 = .ok (.iload 6, 2) := by decide +kernel
theorem dX4_goOn_53 : decode cX4_goOn 53 = .ok (.ishr, 1) := by decide +kernel
theorem dX4_goOn_54 : decode cX4_goOn 54 = .ok (.iconst 1, 1) := by decide +kernel
theorem dX4_goOn_55 : decode cX4_goOn 55 = .ok (.iand, 1) := by decide +kernel
theorem dX4_goOn_56 : decode cX4_goOn 56 = .ok (.ifCond .eq 11, 3) := by decide +kernel
theorem dX4_goOn_59 : decode cX4_goOn 59 = .ok (.aload_n 0, 1) := by decide +kernel
theorem dX4_goOn_60 : decode cX4_goOn 60 = .ok (.iload 6, 2) := by decide +kernel
theorem dX4_goOn_62 : decode cX4_goOn 62 = .ok (.iload 5, 2) := by decide +kernel
theorem dX4_goOn_64 : decode cX4_goOn 64 = .ok (.invokevirtual 50, 3) := by decide +kernel
theorem dX4_goOn_67 : decode cX4_goOn 67 = .ok (.iinc 6 1, 3) := by decide +kernel
theorem dX4_goOn_70 : decode cX4_goOn 70 = .ok (.goto (-27), 3) := by decide +kernel
theorem dX4_goOn_73 : decode cX4_goOn 73 = .ok (.iinc 3 1, 3) := by decide +kernel
theorem dX4_goOn_76 : decode cX4_goOn 76 = .ok (.goto (-74), 3) := by decide +kernel
theorem dX4_goOn_79 : decode cX4_goOn 79 = .ok (.return_, 1) := by decide +kernel
theorem dX4_meet_0 : decode cX4_meet 0 = .ok (.iload_n 1, 1) := by decide +kernel
theorem dX4_meet_1 : decode cX4_meet 1 = .ok (.ifCond .lt 21, 3) := by decide +kernel
theorem dX4_meet_4 : decode cX4_meet 4 = .ok (.iload_n 1, 1) := by decide +kernel
theorem dX4_meet_5 : decode cX4_meet 5 = .ok (.iconst 4, 1) := by decide +kernel
theorem dX4_meet_6 : decode cX4_meet 6 = .ok (.if_icmp .ge 16, 3) := by decide +kernel
theorem dX4_meet_9 : decode cX4_meet 9 = .ok (.aload_n 0, 1) := by decide +kernel
theorem dX4_meet_10 : decode cX4_meet 10 = .ok (.getfield 9, 3) := by decide +kernel
theorem dX4_meet_13 : decode cX4_meet 13 = .ok (.iload_n 1, 1) := by decide +kernel
theorem dX4_meet_14 : decode cX4_meet 14 = .ok (.iaload, 1) := by decide +kernel
theorem dX4_meet_15 : decode cX4_meet 15 = .ok (.iload_n 2, 1) := by decide +kernel
theorem dX4_meet_16 : decode cX4_meet 16 = .ok (.ishr, 1) := by decide +kernel
theorem dX4_meet_17 : decode cX4_meet 17 = .ok (.iconst 1, 1) := by decide +kernel
theorem dX4_meet_18 : decode cX4_meet 18 = .ok (.iand, 1) := by decide +kernel
theorem dX4_meet_19 : decode cX4_meet 19 = .ok (.ifCond .eq 4, 3) := by decide +kernel
theorem dX4_meet_22 : decode cX4_meet 22 = .ok (.return_, 1) := by decide +kernel
theorem dX4_meet_23 : decode cX4_meet 23 = .ok (.aload_n 0, 1) := by decide +kernel
theorem dX4_meet_24 : decode cX4_meet 24 = .ok (.getfield 9, 3) := by decide +kernel
theorem dX4_meet_27 : decode cX4_meet 27 = .ok (.iload_n 1, 1) := by decide +kernel
theorem dX4_meet_28 : decode cX4_meet 28 = .ok (.dup2, 1) := by decide +kernel
theorem dX4_meet_29 : decode cX4_meet 29 = .ok (.iaload, 1) := by decide +kernel
theorem dX4_meet_30 : decode cX4_meet 30 = .ok (.iconst 1, 1) := by decide +kernel
theorem dX4_meet_31 : decode cX4_meet 31 = .ok (.iload_n 2, 1) := by decide +kernel
theorem dX4_meet_32 : decode cX4_meet 32 = .ok (.ishl, 1) := by decide +kernel
theorem dX4_meet_33 : decode cX4_meet 33 = .ok (.ior, 1) := by decide +kernel
theorem dX4_meet_34 : decode cX4_meet 34 = .ok (.iastore, 1) := by decide +kernel
theorem dX4_meet_35 : decode cX4_meet 35 = .ok (.aload_n 0, 1) := by decide +kernel
theorem dX4_meet_36 : decode cX4_meet 36 = .ok (.getfield 21, 3) := by decide +kernel
theorem dX4_meet_39 : decode cX4_meet 39 = .ok (.sipush 128, 3) := by decide +kernel
theorem dX4_meet_42 : decode cX4_meet 42 = .ok (.if_icmp .ge 28, 3) := by decide +kernel
theorem dX4_meet_45 : decode cX4_meet 45 = .ok (.aload_n 0, 1) := by decide +kernel
theorem dX4_meet_46 : decode cX4_meet 46 = .ok (.getfield 15, 3) := by decide +kernel
theorem dX4_meet_49 : decode cX4_meet 49 = .ok (.aload_n 0, 1) := by decide +kernel
theorem dX4_meet_50 : decode cX4_meet 50 = .ok (.getfield 21, 3) := by decide +kernel
theorem dX4_meet_53 : decode cX4_meet 53 = .ok (.iload_n 1, 1) := by decide +kernel
theorem dX4_meet_54 : decode cX4_meet 54 = .ok (.bipush 32, 2) := by decide +kernel
theorem dX4_meet_56 : decode cX4_meet 56 = .ok (.imul, 1) := by decide +kernel
theorem dX4_meet_57 : decode cX4_meet 57 = .ok (.iload_n 2, 1) := by decide +kernel
theorem dX4_meet_58 : decode cX4_meet 58 = .ok (.iadd, 1) := by decide +kernel
theorem dX4_meet_59 : decode cX4_meet 59 = .ok (.iastore, 1) := by decide +kernel
theorem dX4_meet_60 : decode cX4_meet 60 = .ok (.aload_n 0, 1) := by decide +kernel
theorem dX4_meet_61 : decode cX4_meet 61 = .ok (.dup, 1) := by decide +kernel
theorem dX4_meet_62 : decode cX4_meet 62 = .ok (.getfield 21, 3) := by decide +kernel
theorem dX4_meet_65 : decode cX4_meet 65 = .ok (.iconst 1, 1) := by decide +kernel
theorem dX4_meet_66 : decode cX4_meet 66 = .ok (.iadd, 1) := by decide +kernel
theorem dX4_meet_67 : decode cX4_meet 67 = .ok (.putfield 21, 3) := by decide +kernel
theorem dX4_meet_70 : decode cX4_meet 70 = .ok (.return_, 1) := by decide +kernel
theorem dX5_init_0 : decode cX5_init 0 = .ok (.aload_n 0, 1) := by decide +kernel
theorem dX5_init_1 : decode cX5_init 1 = .ok (.invokespecial 3, 3) := by decide +kernel
theorem dX5_init_4 : decode cX5_init 4 = .ok (.aload_n 0, 1) := by decide +kernel
theorem dX5_init_5 : decode cX5_init 5 = .ok (.bipush 9, 2) := by decide +kernel
theorem dX5_init_7 : decode cX5_init 7 = .ok (.newarray .int, 2) := by decide +kernel
theorem dX5_init_9 : decode cX5_init 9 = .ok (.putfield 11, 3) := by decide +kernel
theorem dX5_init_12 : decode cX5_init 12 = .ok (.aload_n 0, 1) := by decide +kernel
theorem dX5_init_13 : decode cX5_init 13 = .ok (.bipush 18, 2) := by decide +kernel
theorem dX5_init_15 : decode cX5_init 15 = .ok (.newarray .int, 2) := by decide +kernel
theorem dX5_init_17 : decode cX5_init 17 = .ok (.putfield 15, 3) := by decide +kernel
theorem dX5_init_20 : decode cX5_init 20 = .ok (.return_, 1) := by decide +kernel
theorem dX5_work_0 : decode cX5_work 0 = .ok (.iconst 0, 1) := by decide +kernel
theorem dX5_work_1 : decode cX5_work 1 = .ok (.istore_n 2, 1) := by decide +kernel
theorem dX5_work_2 : decode cX5_work 2 = .ok (.iload_n 2, 1) := by decide +kernel
theorem dX5_work_3 : decode cX5_work 3 = .ok (.bipush 9, 2) := by decide +kernel
theorem dX5_work_5 : decode cX5_work 5 = .ok (.if_icmp .ge 50, 3) := by decide +kernel
theorem dX5_work_8 : decode cX5_work 8 = .ok (.aload_n 0, 1) := by decide +kernel
theorem dX5_work_9 : decode cX5_work 9 = .ok (.getfield 11, 3) := by decide +kernel
theorem dX5_work_12 : decode cX5_work 12 = .ok (.iload_n 2, 1) := by decide +kernel
theorem dX5_work_13 : decode cX5_work 13 = .ok (.aload_n 1, 1) := by decide +kernel
theorem dX5_work_14 : decode cX5_work 14 = .ok (.iload_n 2, 1) := by decide +kernel
theorem dX5_work_15 : decode cX5_work 15 = .ok (.invokestatic 18, 3) := by decide +kernel
theorem dX5_work_18 : decode cX5_work 18 = .ok (.iastore, 1) := by decide +kernel
theorem dX5_work_19 : decode cX5_work 19 = .ok (.aload_n 0, 1) := by decide +kernel
theorem dX5_work_20 : decode cX5_work 20 = .ok (.getfield 15, 3) := by decide +kernel
theorem dX5_work_23 : decode cX5_work 23 = .ok (.iload_n 2, 1) := by decide +kernel
theorem dX5_work_24 : decode cX5_work 24 = .ok (.iconst 2, 1) := by decide +kernel
theorem dX5_work_25 : decode cX5_work 25 = .ok (.imul, 1) := by decide +kernel
theorem dX5_work_26 : decode cX5_work 26 = .ok (.aload_n 1, 1) := by decide +kernel
theorem dX5_work_27 : decode cX5_work 27 = .ok (.iload_n 2, 1) := by decide +kernel
theorem dX5_work_28 : decode cX5_work 28 = .ok (.iconst 1, 1) := by decide +kernel
theorem dX5_work_29 : decode cX5_work 29 = .ok (.invokestatic 22, 3) := by decide +kernel
theorem dX5_work_32 : decode cX5_work 32 = .ok (.iastore, 1) := by decide +kernel
theorem dX5_work_33 : decode cX5_work 33 = .ok (.aload_n 0, 1) := by decide +kernel
theorem dX5_work_34 : decode cX5_work 34 = .ok (.getfield 15, 3) := by decide +kernel
theorem dX5_work_37 : decode cX5_work 37 = .ok (.iload_n 2, 1) := by decide +kernel
theorem dX5_work_38 : decode cX5_work 38 = .ok (.iconst 2, 1) := by decide +kernel
theorem dX5_work_39 : decode cX5_work 39 = .ok (.imul, 1) := by decide +kernel
theorem dX5_work_40 : decode cX5_work 40 = .ok (.iconst 1, 1) := by decide +kernel
theorem dX5_work_41 : decode cX5_work 41 = .ok (.iadd, 1) := by decide +kernel
theorem dX5_work_42 : decode cX5_work 42 = .ok (.aload_n 1, 1) := by decide +kernel
theorem dX5_work_43 : decode cX5_work 43 = .ok (.iload_n 2, 1) := by decide +kernel
theorem dX5_work_44 : decode cX5_work 44 = .ok (.iconst 2, 1) := by decide +kernel
theorem dX5_work_45 : decode cX5_work 45 = .ok (.invokestatic 22, 3) := by decide +kernel
theorem dX5_work_48 : decode cX5_work 48 = .ok (.iastore, 1) := by decide +kernel
theorem dX5_work_49 : decode cX5_work 49 = .ok (.iinc 2 1, 3) := by decide +kernel
theorem dX5_work_52 : decode cX5_work 52 = .ok (.goto (-50), 3) := by decide +kernel
theorem dX5_work_55 : decode cX5_work 55 = .ok (.iconst 1, 1) := by decide +kernel
theorem dX5_work_56 : decode cX5_work 56 = .ok (.istore_n 2, 1) := by decide +kernel
theorem dX5_work_57 : decode cX5_work 57 = .ok (.iconst 0, 1) := by decide +kernel
theorem dX5_work_58 : decode cX5_work 58 = .ok (.istore_n 3, 1) := by decide +kernel
theorem dX5_work_59 : decode cX5_work 59 = .ok (.iload_n 3, 1) := by decide +kernel
theorem dX5_work_60 : decode cX5_work 60 = .ok (.bipush 81, 2) := by decide +kernel
theorem dX5_work_62 : decode cX5_work 62 = .ok (.if_icmp .gt 70, 3) := by decide +kernel
theorem dX5_work_65 : decode cX5_work 65 = .ok (.iload_n 2, 1) := by decide +kernel
theorem dX5_work_66 : decode cX5_work 66 = .ok (.ifCond .eq 66, 3) := by decide +kernel
theorem dX5_work_69 : decode cX5_work 69 = .ok (.iconst 0, 1) := by decide +kernel
theorem dX5_work_70 : decode cX5_work 70 = .ok (.istore_n 2, 1) := by decide +kernel
theorem dX5_work_71 : decode cX5_work 71 = .ok (.iconst 0, 1) := by decide +kernel
theorem dX5_work_72 : decode cX5_work 72 = .ok (.istore 4, 2) := by decide +kernel
theorem dX5_work_74 : decode cX5_work 74 = .ok (.iload 4, 2) := by decide +kernel
theorem dX5_work_76 : decode cX5_work 76 = .ok (.bipush 9, 2) := by decide +kernel
theorem dX5_work_78 : decode cX5_work 78 = .ok (.if_icmp .ge 48, 3) := by decide +kernel
theorem dX5_work_81 : decode cX5_work 81 = .ok (.aload_n 0, 1) := by decide +kernel
theorem dX5_work_82 : decode cX5_work 82 = .ok (.iload 4, 2) := by decide +kernel
theorem dX5_work_84 : decode cX5_work 84 = .ok (.invokevirtual 26, 3) := by decide +kernel
theorem dX5_work_87 : decode cX5_work 87 = .ok (.istore 5, 2) := by decide +kernel
theorem dX5_work_89 : decode cX5_work 89 = .ok (.iload_n 2, 1) := by decide +kernel
theorem dX5_work_90 : decode cX5_work 90 = .ok (.ifCond .ne 15, 3) := by decide +kernel
theorem dX5_work_93 : decode cX5_work 93 = .ok (.iload 5, 2) := by decide +kernel
theorem dX5_work_95 : decode cX5_work 95 = .ok (.aload_n 0, 1) := by decide +kernel
theorem dX5_work_96 : decode cX5_work 96 = .ok (.getfield 11, 3) := by decide +kernel
theorem dX5_work_99 : decode cX5_work 99 = .ok (.iload 4, 2) := by decide +kernel
theorem dX5_work_101 : decode cX5_work 101 = .ok (.iaload, 1) := by decide +kernel
theorem dX5_work_102 : decode cX5_work 102 = .ok (.if_icmp .eq 7, 3) := by decide +kernel
theorem dX5_work_105 : decode cX5_work 105 = .ok (.iconst 1, 1) := by decide +kernel
theorem dX5_work_106 : decode cX5_work 106 = .ok (.goto 4, 3) := by decide +kernel
theorem dX5_work_109 : decode cX5_work 109 = .ok (.iconst 0, 1) := by decide +kernel
theorem dX5_work_110 : decode cX5_work 110 = .ok (.istore_n 2, 1) := by decide +kernel
theorem dX5_work_111 : decode cX5_work 111 = .ok (.aload_n 0, 1) := by decide +kernel
theorem dX5_work_112 : decode cX5_work 112 = .ok (.getfield 11, 3) := by decide +kernel
theorem dX5_work_115 : decode cX5_work 115 = .ok (.iload 4, 2) := by decide +kernel
theorem dX5_work_117 : decode cX5_work 117 = .ok (.iload 5, 2) := by decide +kernel
theorem dX5_work_119 : decode cX5_work 119 = .ok (.iastore, 1) := by decide +kernel
theorem dX5_work_120 : decode cX5_work 120 = .ok (.iinc 4 1, 3) := by decide +kernel
theorem dX5_work_123 : decode cX5_work 123 = .ok (.goto (-49), 3) := by decide +kernel
theorem dX5_work_126 : decode cX5_work 126 = .ok (.iinc 3 1, 3) := by decide +kernel
theorem dX5_work_129 : decode cX5_work 129 = .ok (.goto (-70), 3) := by decide +kernel
theorem dX5_work_132 : decode cX5_work 132 = .ok (.return_, 1) := by decide +kernel
theorem dX5_holds_0 : decode cX5_holds 0 = .ok (.iload_n 1, 1) := by decide +kernel
theorem dX5_holds_1 : decode cX5_holds 1 = .ok (.ifCond .ne 7, 3) := by decide +kernel
theorem dX5_holds_4 : decode cX5_holds 4 = .ok (.iload_n 2, 1) := by decide +kernel
theorem dX5_holds_5 : decode cX5_holds 5 = .ok (.goto 6, 3) := by decide +kernel
theorem dX5_holds_8 : decode cX5_holds 8 = .ok (.iload_n 2, 1) := by decide +kernel
theorem dX5_holds_9 : decode cX5_holds 9 = .ok (.iconst 4, 1) := by decide +kernel
theorem dX5_holds_10 : decode cX5_holds 10 = .ok (.iadd, 1) := by decide +kernel
theorem dX5_holds_11 : decode cX5_holds 11 = .ok (.istore 5, 2) := by decide +kernel
theorem dX5_holds_13 : decode cX5_holds 13 = .ok (.iload_n 3, 1) := by decide +kernel
theorem dX5_holds_14 : decode cX5_holds 14 = .ok (.ifCond .ne 8, 3) := by decide +kernel
theorem dX5_holds_17 : decode cX5_holds 17 = .ok (.iload 4, 2) := by decide +kernel
theorem dX5_holds_19 : decode cX5_holds 19 = .ok (.goto 7, 3) := by decide +kernel
theorem dX5_holds_22 : decode cX5_holds 22 = .ok (.iload 4, 2) := by decide +kernel
theorem dX5_holds_24 : decode cX5_holds 24 = .ok (.iconst 4, 1) := by decide +kernel
theorem dX5_holds_25 : decode cX5_holds 25 = .ok (.ishl, 1) := by decide +kernel
theorem dX5_holds_26 : decode cX5_holds 26 = .ok (.istore 6, 2) := by decide +kernel
theorem dX5_holds_28 : decode cX5_holds 28 = .ok (.iload 5, 2) := by decide +kernel
theorem dX5_holds_30 : decode cX5_holds 30 = .ok (.ifCond .lt 27, 3) := by decide +kernel
theorem dX5_holds_33 : decode cX5_holds 33 = .ok (.iload 5, 2) := by decide +kernel
theorem dX5_holds_35 : decode cX5_holds 35 = .ok (.bipush 9, 2) := by decide +kernel
theorem dX5_holds_37 : decode cX5_holds 37 = .ok (.if_icmp .ge 20, 3) := by decide +kernel
theorem dX5_holds_40 : decode cX5_holds 40 = .ok (.aload_n 0, 1) := by decide +kernel
theorem dX5_holds_41 : decode cX5_holds 41 = .ok (.getfield 11, 3) := by decide +kernel
theorem dX5_holds_44 : decode cX5_holds 44 = .ok (.iload 5, 2) := by decide +kernel
theorem dX5_holds_46 : decode cX5_holds 46 = .ok (.iaload, 1) := by decide +kernel
theorem dX5_holds_47 : decode cX5_holds 47 = .ok (.iload 6, 2) := by decide +kernel
theorem dX5_holds_49 : decode cX5_holds 49 = .ok (.iand, 1) := by decide +kernel
theorem dX5_holds_50 : decode cX5_holds 50 = .ok (.ifCond .eq 7, 3) := by decide +kernel
theorem dX5_holds_53 : decode cX5_holds 53 = .ok (.iconst 1, 1) := by decide +kernel
theorem dX5_holds_54 : decode cX5_holds 54 = .ok (.goto 4, 3) := by decide +kernel
theorem dX5_holds_57 : decode cX5_holds 57 = .ok (.iconst 0, 1) := by decide +kernel
theorem dX5_holds_58 : decode cX5_holds 58 = .ok (.ireturn, 1) := by decide +kernel
theorem dX5_holdsForEach_0 : decode cX5_holdsForEach 0 = .ok (.iconst 0, 1) := by decide +kernel
theorem dX5_holdsForEach_1 : decode cX5_holdsForEach 1 = .ok (.istore_n 3, 1) := by decide +kernel
theorem dX5_holdsForEach_2 : decode cX5_holdsForEach 2 = .ok (.iload_n 3, 1) := by decide +kernel
theorem dX5_holdsForEach_3 : decode cX5_holdsForEach 3 = .ok (.iconst 5, 1) := by decide +kernel
theorem dX5_holdsForEach_4 : decode cX5_holdsForEach 4 = .ok (.if_icmp .ge 46, 3) := by decide +kernel
theorem dX5_holdsForEach_7 : decode cX5_holdsForEach 7 = .ok (.iload_n 1, 1) := by decide +kernel
theorem dX5_holdsForEach_8 : decode cX5_holdsForEach 8 = .ok (.iload_n 3, 1) := by decide +kernel
theorem dX5_holdsForEach_9 : decode cX5_holdsForEach 9 = .ok (.ishr, 1) := by decide +kernel
theorem dX5_holdsForEach_10 : decode cX5_holdsForEach 10 = .ok (.iconst 1, 1) := by decide +kernel
theorem dX5_holdsForEach_11 : decode cX5_holdsForEach 11 = .ok (.iand, 1) := by decide +kernel
theorem dX5_holdsForEach_12 : decode cX5_holdsForEach 12 = .ok (.ifCond .eq 7, 3) := by decide +kernel
theorem dX5_holdsForEach_15 : decode cX5_holdsForEach 15 = .ok (.iconst 1, 1) := by decide +kernel
theorem dX5_holdsForEach_16 : decode cX5_holdsForEach 16 = .ok (.goto 4, 3) := by decide +kernel
theorem dX5_holdsForEach_19 : decode cX5_holdsForEach 19 = .ok (.iconst 0, 1) := by decide +kernel
theorem dX5_holdsForEach_20 : decode cX5_holdsForEach 20 = .ok (.istore 4, 2) := by decide +kernel
theorem dX5_holdsForEach_22 : decode cX5_holdsForEach 22 = .ok (.iload 4, 2) := by decide +kernel
theorem dX5_holdsForEach_24 : decode cX5_holdsForEach 24 = .ok (.ifCond .eq 20, 3) := by decide +kernel
theorem dX5_holdsForEach_27 : decode cX5_holdsForEach 27 = .ok (.aload_n 0, 1) := by decide +kernel
theorem dX5_holdsForEach_28 : decode cX5_holdsForEach 28 = .ok (.getfield 11, 3) := by decide +kernel
theorem dX5_holdsForEach_31 : decode cX5_holdsForEach 31 = .ok (.iload_n 3, 1) := by decide +kernel
theorem dX5_holdsForEach_32 : decode cX5_holdsForEach 32 = .ok (.iconst 4, 1) := by decide +kernel
theorem dX5_holdsForEach_33 : decode cX5_holdsForEach 33 = .ok (.iadd, 1) := by decide +kernel
theorem dX5_holdsForEach_34 : decode cX5_holdsForEach 34 = .ok (.iaload, 1) := by decide +kernel
theorem dX5_holdsForEach_35 : decode cX5_holdsForEach 35 = .ok (.iload_n 2, 1) := by decide +kernel
theorem dX5_holdsForEach_36 : decode cX5_holdsForEach 36 = .ok (.iconst 4, 1) := by decide +kernel
theorem dX5_holdsForEach_37 : decode cX5_holdsForEach 37 = .ok (.ishl, 1) := by decide +kernel
theorem dX5_holdsForEach_38 : decode cX5_holdsForEach 38 = .ok (.iand, 1) := by decide +kernel
theorem dX5_holdsForEach_39 : decode cX5_holdsForEach 39 = .ok (.ifCond .ne 5, 3) := by decide +kernel
theorem dX5_holdsForEach_42 : decode cX5_holdsForEach 42 = .ok (.iconst 0, 1) := by decide +kernel
theorem dX5_holdsForEach_43 : decode cX5_holdsForEach 43 = .ok (.ireturn, 1) := by decide +kernel
theorem dX5_holdsForEach_44 : decode cX5_holdsForEach 44 = .ok (.iinc 3 1, 3) := by decide +kernel
theorem dX5_holdsForEach_47 : decode cX5_holdsForEach 47 = .ok (.goto (-45), 3) := by decide +kernel
theorem dX5_holdsForEach_50 : decode cX5_holdsForEach 50 = .ok (.iconst 1, 1) := by decide +kernel
theorem dX5_holdsForEach_51 : decode cX5_holdsForEach 51 = .ok (.ireturn, 1) := by decide +kernel
theorem dX5_byEnds_0 : decode cX5_byEnds 0 = .ok (.aload_n 0, 1) := by decide +kernel
theorem dX5_byEnds_1 : decode cX5_byEnds 1 = .ok (.getfield 30, 3) := by decide +kernel
theorem dX5_byEnds_4 : decode cX5_byEnds 4 = .ok (.invokevirtual 36, 3) := by decide +kernel
theorem dX5_byEnds_7 : decode cX5_byEnds 7 = .ok (.aload_n 0, 1) := by decide +kernel
theorem dX5_byEnds_8 : decode cX5_byEnds 8 = .ok (.getfield 42, 3) := by decide +kernel
theorem dX5_byEnds_11 : decode cX5_byEnds 11 = .ok (.invokevirtual 36, 3) := by decide +kernel
theorem dX5_byEnds_14 : decode cX5_byEnds 14 = .ok (.iconst 4, 1) := by decide +kernel
theorem dX5_byEnds_15 : decode cX5_byEnds 15 = .ok (.ishl, 1) := by decide +kernel
theorem dX5_byEnds_16 : decode cX5_byEnds 16 = .ok (.ior, 1) := by decide +kernel
theorem dX5_byEnds_17 : decode cX5_byEnds 17 = .ok (.istore_n 2, 1) := by decide +kernel
theorem dX5_byEnds_18 : decode cX5_byEnds 18 = .ok (.aload_n 0, 1) := by decide +kernel
theorem dX5_byEnds_19 : decode cX5_byEnds 19 = .ok (.getfield 30, 3) := by decide +kernel
theorem dX5_byEnds_22 : decode cX5_byEnds 22 = .ok (.getfield 45, 3) := by decide +kernel
theorem dX5_byEnds_25 : decode cX5_byEnds 25 = .ok (.aload_n 0, 1) := by decide +kernel
theorem dX5_byEnds_26 : decode cX5_byEnds 26 = .ok (.getfield 42, 3) := by decide +kernel
theorem dX5_byEnds_29 : decode cX5_byEnds 29 = .ok (.getfield 45, 3) := by decide +kernel
theorem dX5_byEnds_32 : decode cX5_byEnds 32 = .ok (.iconst 4, 1) := by decide +kernel
theorem dX5_byEnds_33 : decode cX5_byEnds 33 = .ok (.ishl, 1) := by decide +kernel
theorem dX5_byEnds_34 : decode cX5_byEnds 34 = .ok (.ior, 1) := by decide +kernel
theorem dX5_byEnds_35 : decode cX5_byEnds 35 = .ok (.istore_n 3, 1) := by decide +kernel
theorem dX5_byEnds_36 : decode cX5_byEnds 36 = .ok (.iload_n 2, 1) := by decide +kernel
theorem dX5_byEnds_37 : decode cX5_byEnds 37 = .ok (.iload_n 1, 1) := by decide +kernel
theorem dX5_byEnds_38 : decode cX5_byEnds 38 = .ok (.ishr, 1) := by decide +kernel
theorem dX5_byEnds_39 : decode cX5_byEnds 39 = .ok (.iconst 1, 1) := by decide +kernel
theorem dX5_byEnds_40 : decode cX5_byEnds 40 = .ok (.iand, 1) := by decide +kernel
theorem dX5_byEnds_41 : decode cX5_byEnds 41 = .ok (.ifCond .ne 5, 3) := by decide +kernel
theorem dX5_byEnds_44 : decode cX5_byEnds 44 = .ok (.iconst 0, 1) := by decide +kernel
theorem dX5_byEnds_45 : decode cX5_byEnds 45 = .ok (.ireturn, 1) := by decide +kernel
theorem dX5_byEnds_46 : decode cX5_byEnds 46 = .ok (.iload_n 3, 1) := by decide +kernel
theorem dX5_byEnds_47 : decode cX5_byEnds 47 = .ok (.iload_n 1, 1) := by decide +kernel
theorem dX5_byEnds_48 : decode cX5_byEnds 48 = .ok (.ishr, 1) := by decide +kernel
theorem dX5_byEnds_49 : decode cX5_byEnds 49 = .ok (.iconst 1, 1) := by decide +kernel
theorem dX5_byEnds_50 : decode cX5_byEnds 50 = .ok (.iand, 1) := by decide +kernel
theorem dX5_byEnds_51 : decode cX5_byEnds 51 = .ok (.ifCond .eq 7, 3) := by decide +kernel
theorem dX5_byEnds_54 : decode cX5_byEnds 54 = .ok (.iload_n 3, 1) := by decide +kernel
theorem dX5_byEnds_55 : decode cX5_byEnds 55 = .ok (.goto 4, 3) := by decide +kernel
theorem dX5_byEnds_58 : decode cX5_byEnds 58 = .ok (.iload_n 2, 1) := by decide +kernel
theorem dX5_byEnds_59 : decode cX5_byEnds 59 = .ok (.ireturn, 1) := by decide +kernel
theorem dX5_notRefuted_0 : decode cX5_notRefuted 0 = .ok (.aload_n 0, 1) := by decide +kernel
theorem dX5_notRefuted_1 : decode cX5_notRefuted 1 = .ok (.getfield 11, 3) := by decide +kernel
theorem dX5_notRefuted_4 : decode cX5_notRefuted 4 = .ok (.iload_n 1, 1) := by decide +kernel
theorem dX5_notRefuted_5 : decode cX5_notRefuted 5 = .ok (.iaload, 1) := by decide +kernel
theorem dX5_notRefuted_6 : decode cX5_notRefuted 6 = .ok (.istore_n 2, 1) := by decide +kernel
theorem dX5_notRefuted_7 : decode cX5_notRefuted 7 = .ok (.iconst 0, 1) := by decide +kernel
theorem dX5_notRefuted_8 : decode cX5_notRefuted 8 = .ok (.istore_n 3, 1) := by decide +kernel
theorem dX5_notRefuted_9 : decode cX5_notRefuted 9 = .ok (.iload_n 3, 1) := by decide +kernel
theorem dX5_notRefuted_10 : decode cX5_notRefuted 10 = .ok (.bipush 9, 2) := by decide +kernel
theorem dX5_notRefuted_12 : decode cX5_notRefuted 12 = .ok (.if_icmp .ge 34, 3) := by decide +kernel
theorem dX5_notRefuted_15 : decode cX5_notRefuted 15 = .ok (.iload_n 2, 1) := by decide +kernel
theorem dX5_notRefuted_16 : decode cX5_notRefuted 16 = .ok (.iload_n 3, 1) := by decide +kernel
theorem dX5_notRefuted_17 : decode cX5_notRefuted 17 = .ok (.ishr, 1) := by decide +kernel
theorem dX5_notRefuted_18 : decode cX5_notRefuted 18 = .ok (.iconst 1, 1) := by decide +kernel
theorem dX5_notRefuted_19 : decode cX5_notRefuted 19 = .ok (.iand, 1) := by decide +kernel
theorem dX5_notRefuted_20 : decode cX5_notRefuted 20 = .ok (.ifCond .eq 20, 3) := by decide +kernel
theorem dX5_notRefuted_23 : decode cX5_notRefuted 23 = .ok (.aload_n 0, 1) := by decide +kernel
theorem dX5_notRefuted_24 : decode cX5_notRefuted 24 = .ok (.iload_n 1, 1) := by decide +kernel
theorem dX5_notRefuted_25 : decode cX5_notRefuted 25 = .ok (.iload_n 3, 1) := by decide +kernel
theorem dX5_notRefuted_26 : decode cX5_notRefuted 26 = .ok (.invokevirtual 49, 3) := by decide +kernel
theorem dX5_notRefuted_29 : decode cX5_notRefuted 29 = .ok (.ifCond .eq 11, 3) := by decide +kernel
theorem dX5_notRefuted_32 : decode cX5_notRefuted 32 = .ok (.iload_n 2, 1) := by decide +kernel
theorem dX5_notRefuted_33 : decode cX5_notRefuted 33 = .ok (.iconst 1, 1) := by decide +kernel
theorem dX5_notRefuted_34 : decode cX5_notRefuted 34 = .ok (.iload_n 3, 1) := by decide +kernel
theorem dX5_notRefuted_35 : decode cX5_notRefuted 35 = .ok (.ishl, 1) := by decide +kernel
theorem dX5_notRefuted_36 : decode cX5_notRefuted 36 = .ok (.iconst (-1), 1) := by decide +kernel
theorem dX5_notRefuted_37 : decode cX5_notRefuted 37 = .ok (.ixor, 1) := by decide +kernel
theorem dX5_notRefuted_38 : decode cX5_notRefuted 38 = .ok (.iand, 1) := by decide +kernel
theorem dX5_notRefuted_39 : decode cX5_notRefuted 39 = .ok (.istore_n 2, 1) := by decide +kernel
theorem dX5_notRefuted_40 : decode cX5_notRefuted 40 = .ok (.iinc 3 1, 3) := by decide +kernel
theorem dX5_notRefuted_43 : decode cX5_notRefuted 43 = .ok (.goto (-34), 3) := by decide +kernel
theorem dX5_notRefuted_46 : decode cX5_notRefuted 46 = .ok (.iload_n 2, 1) := by decide +kernel
theorem dX5_notRefuted_47 : decode cX5_notRefuted 47 = .ok (.ireturn, 1) := by decide +kernel
theorem dX5_isRefuted_0 : decode cX5_isRefuted 0 = .ok (.iconst 0, 1) := by decide +kernel
theorem dX5_isRefuted_1 : decode cX5_isRefuted 1 = .ok (.istore_n 3, 1) := by decide +kernel
theorem dX5_isRefuted_2 : decode cX5_isRefuted 2 = .ok (.iload_n 3, 1) := by decide +kernel
theorem dX5_isRefuted_3 : decode cX5_isRefuted 3 = .ok (.iconst 2, 1) := by decide +kernel
theorem dX5_isRefuted_4 : decode cX5_isRefuted 4 = .ok (.if_icmp .ge 74, 3) := by decide +kernel
theorem dX5_isRefuted_7 : decode cX5_isRefuted 7 = .ok (.aload_n 0, 1) := by decide +kernel
theorem dX5_isRefuted_8 : decode cX5_isRefuted 8 = .ok (.getfield 15, 3) := by decide +kernel
theorem dX5_isRefuted_11 : decode cX5_isRefuted 11 = .ok (.iload_n 1, 1) := by decide +kernel
theorem dX5_isRefuted_12 : decode cX5_isRefuted 12 = .ok (.iconst 2, 1) := by decide +kernel
theorem dX5_isRefuted_13 : decode cX5_isRefuted 13 = .ok (.imul, 1) := by decide +kernel
theorem dX5_isRefuted_14 : decode cX5_isRefuted 14 = .ok (.iload_n 3, 1) := by decide +kernel
theorem dX5_isRefuted_15 : decode cX5_isRefuted 15 = .ok (.iadd, 1) := by decide +kernel
theorem dX5_isRefuted_16 : decode cX5_isRefuted 16 = .ok (.iaload, 1) := by decide +kernel
theorem dX5_isRefuted_17 : decode cX5_isRefuted 17 = .ok (.istore 4, 2) := by decide +kernel
theorem dX5_isRefuted_19 : decode cX5_isRefuted 19 = .ok (.aload_n 0, 1) := by decide +kernel
theorem dX5_isRefuted_20 : decode cX5_isRefuted 20 = .ok (.getfield 15, 3) := by decide +kernel
theorem dX5_isRefuted_23 : decode cX5_isRefuted 23 = .ok (.iload_n 2, 1) := by decide +kernel
theorem dX5_isRefuted_24 : decode cX5_isRefuted 24 = .ok (.iconst 2, 1) := by decide +kernel
theorem dX5_isRefuted_25 : decode cX5_isRefuted 25 = .ok (.imul, 1) := by decide +kernel
theorem dX5_isRefuted_26 : decode cX5_isRefuted 26 = .ok (.iload_n 3, 1) := by decide +kernel
theorem dX5_isRefuted_27 : decode cX5_isRefuted 27 = .ok (.iadd, 1) := by decide +kernel
theorem dX5_isRefuted_28 : decode cX5_isRefuted 28 = .ok (.iaload, 1) := by decide +kernel
theorem dX5_isRefuted_29 : decode cX5_isRefuted 29 = .ok (.istore 5, 2) := by decide +kernel
theorem dX5_isRefuted_31 : decode cX5_isRefuted 31 = .ok (.iconst 0, 1) := by decide +kernel
theorem dX5_isRefuted_32 : decode cX5_isRefuted 32 = .ok (.istore 6, 2) := by decide +kernel
theorem dX5_isRefuted_34 : decode cX5_isRefuted 34 = .ok (.iload 6, 2) := by decide +kernel
theorem dX5_isRefuted_36 : decode cX5_isRefuted 36 = .ok (.bipush 9, 2) := by decide +kernel
theorem dX5_isRefuted_38 : decode cX5_isRefuted 38 = .ok (.if_icmp .ge 34, 3) := by decide +kernel
theorem dX5_isRefuted_41 : decode cX5_isRefuted 41 = .ok (.iload 4, 2) := by decide +kernel
theorem dX5_isRefuted_43 : decode cX5_isRefuted 43 = .ok (.iload 6, 2) := by decide +kernel
theorem dX5_isRefuted_45 : decode cX5_isRefuted 45 = .ok (.ishr, 1) := by decide +kernel
theorem dX5_isRefuted_46 : decode cX5_isRefuted 46 = .ok (.iconst 1, 1) := by decide +kernel
theorem dX5_isRefuted_47 : decode cX5_isRefuted 47 = .ok (.iand, 1) := by decide +kernel
theorem dX5_isRefuted_48 : decode cX5_isRefuted 48 = .ok (.ifCond .eq 18, 3) := by decide +kernel
theorem dX5_isRefuted_51 : decode cX5_isRefuted 51 = .ok (.aload_n 0, 1) := by decide +kernel
theorem dX5_isRefuted_52 : decode cX5_isRefuted 52 = .ok (.getfield 11, 3) := by decide +kernel
theorem dX5_isRefuted_55 : decode cX5_isRefuted 55 = .ok (.iload 6, 2) := by decide +kernel
theorem dX5_isRefuted_57 : decode cX5_isRefuted 57 = .ok (.iaload, 1) := by decide +kernel
theorem dX5_isRefuted_58 : decode cX5_isRefuted 58 = .ok (.iload 5, 2) := by decide +kernel
theorem dX5_isRefuted_60 : decode cX5_isRefuted 60 = .ok (.iand, 1) := by decide +kernel
theorem dX5_isRefuted_61 : decode cX5_isRefuted 61 = .ok (.ifCond .ne 5, 3) := by decide +kernel
theorem dX5_isRefuted_64 : decode cX5_isRefuted 64 = .ok (.iconst 1, 1) := by decide +kernel
theorem dX5_isRefuted_65 : decode cX5_isRefuted 65 = .ok (.ireturn, 1) := by decide +kernel
theorem dX5_isRefuted_66 : decode cX5_isRefuted 66 = .ok (.iinc 6 1, 3) := by decide +kernel
theorem dX5_isRefuted_69 : decode cX5_isRefuted 69 = .ok (.goto (-35), 3) := by decide +kernel
theorem dX5_isRefuted_72 : decode cX5_isRefuted 72 = .ok (.iinc 3 1, 3) := by decide +kernel
theorem dX5_isRefuted_75 : decode cX5_isRefuted 75 = .ok (.goto (-73), 3) := by decide +kernel
theorem dX5_isRefuted_78 : decode cX5_isRefuted 78 = .ok (.iconst 0, 1) := by decide +kernel
theorem dX5_isRefuted_79 : decode cX5_isRefuted 79 = .ok (.ireturn, 1) := by decide +kernel
theorem dX5_leadsTo_0 : decode cX5_leadsTo 0 = .ok (.iload_n 1, 1) := by decide +kernel
theorem dX5_leadsTo_1 : decode cX5_leadsTo 1 = .ok (.iconst 4, 1) := by decide +kernel
theorem dX5_leadsTo_2 : decode cX5_leadsTo 2 = .ok (.if_icmp .ge 15, 3) := by decide +kernel
theorem dX5_leadsTo_5 : decode cX5_leadsTo 5 = .ok (.aload_n 0, 1) := by decide +kernel
theorem dX5_leadsTo_6 : decode cX5_leadsTo 6 = .ok (.getfield 30, 3) := by decide +kernel
theorem dX5_leadsTo_9 : decode cX5_leadsTo 9 = .ok (.iload_n 1, 1) := by decide +kernel
theorem dX5_leadsTo_10 : decode cX5_leadsTo 10 = .ok (.iload_n 2, 1) := by decide +kernel
theorem dX5_leadsTo_11 : decode cX5_leadsTo 11 = .ok (.invokevirtual 53, 3) := by decide +kernel
theorem dX5_leadsTo_14 : decode cX5_leadsTo 14 = .ok (.goto 16, 3) := by decide +kernel
theorem dX5_leadsTo_17 : decode cX5_leadsTo 17 = .ok (.aload_n 0, 1) := by decide +kernel
theorem dX5_leadsTo_18 : decode cX5_leadsTo 18 = .ok (.getfield 42, 3) := by decide +kernel
theorem dX5_leadsTo_21 : decode cX5_leadsTo 21 = .ok (.iload_n 1, 1) := by decide +kernel
theorem dX5_leadsTo_22 : decode cX5_leadsTo 22 = .ok (.iconst 4, 1) := by decide +kernel
theorem dX5_leadsTo_23 : decode cX5_leadsTo 23 = .ok (.isub, 1) := by decide +kernel
theorem dX5_leadsTo_24 : decode cX5_leadsTo 24 = .ok (.iload_n 2, 1) := by decide +kernel
theorem dX5_leadsTo_25 : decode cX5_leadsTo 25 = .ok (.invokevirtual 53, 3) := by decide +kernel
theorem dX5_leadsTo_28 : decode cX5_leadsTo 28 = .ok (.iconst 4, 1) := by decide +kernel
theorem dX5_leadsTo_29 : decode cX5_leadsTo 29 = .ok (.ishl, 1) := by decide +kernel
theorem dX5_leadsTo_30 : decode cX5_leadsTo 30 = .ok (.ireturn, 1) := by decide +kernel
theorem dX7_init_0 : decode cX7_init 0 = .ok (.aload_n 0, 1) := by decide +kernel
theorem dX7_init_1 : decode cX7_init 1 = .ok (.invokespecial 3, 3) := by decide +kernel
theorem dX7_init_4 : decode cX7_init 4 = .ok (.aload_n 0, 1) := by decide +kernel
theorem dX7_init_5 : decode cX7_init 5 = .ok (.bipush 80, 2) := by decide +kernel
theorem dX7_init_7 : decode cX7_init 7 = .ok (.newarray .int, 2) := by decide +kernel
theorem dX7_init_9 : decode cX7_init 9 = .ok (.putfield 9, 3) := by decide +kernel
theorem dX7_init_12 : decode cX7_init 12 = .ok (.return_, 1) := by decide +kernel
theorem dX7_append_0 : decode cX7_append 0 = .ok (.aload_n 0, 1) := by decide +kernel
theorem dX7_append_1 : decode cX7_append 1 = .ok (.getfield 15, 3) := by decide +kernel
theorem dX7_append_4 : decode cX7_append 4 = .ok (.bipush 80, 2) := by decide +kernel
theorem dX7_append_6 : decode cX7_append 6 = .ok (.if_icmp .ge 23, 3) := by decide +kernel
theorem dX7_append_9 : decode cX7_append 9 = .ok (.aload_n 0, 1) := by decide +kernel
theorem dX7_append_10 : decode cX7_append 10 = .ok (.getfield 9, 3) := by decide +kernel
theorem dX7_append_13 : decode cX7_append 13 = .ok (.aload_n 0, 1) := by decide +kernel
theorem dX7_append_14 : decode cX7_append 14 = .ok (.getfield 15, 3) := by decide +kernel
theorem dX7_append_17 : decode cX7_append 17 = .ok (.iload_n 1, 1) := by decide +kernel
theorem dX7_append_18 : decode cX7_append 18 = .ok (.iastore, 1) := by decide +kernel
theorem dX7_append_19 : decode cX7_append 19 = .ok (.aload_n 0, 1) := by decide +kernel
theorem dX7_append_20 : decode cX7_append 20 = .ok (.dup, 1) := by decide +kernel
theorem dX7_append_21 : decode cX7_append 21 = .ok (.getfield 15, 3) := by decide +kernel
theorem dX7_append_24 : decode cX7_append 24 = .ok (.iconst 1, 1) := by decide +kernel
theorem dX7_append_25 : decode cX7_append 25 = .ok (.iadd, 1) := by decide +kernel
theorem dX7_append_26 : decode cX7_append 26 = .ok (.putfield 15, 3) := by decide +kernel
theorem dX7_append_29 : decode cX7_append 29 = .ok (.return_, 1) := by decide +kernel
theorem dX7_letterAt_0 : decode cX7_letterAt 0 = .ok (.iload_n 1, 1) := by decide +kernel
theorem dX7_letterAt_1 : decode cX7_letterAt 1 = .ok (.ifCond .lt 26, 3) := by decide +kernel
theorem dX7_letterAt_4 : decode cX7_letterAt 4 = .ok (.iload_n 1, 1) := by decide +kernel
theorem dX7_letterAt_5 : decode cX7_letterAt 5 = .ok (.aload_n 0, 1) := by decide +kernel
theorem dX7_letterAt_6 : decode cX7_letterAt 6 = .ok (.getfield 15, 3) := by decide +kernel
theorem dX7_letterAt_9 : decode cX7_letterAt 9 = .ok (.if_icmp .ge 18, 3) := by decide +kernel
theorem dX7_letterAt_12 : decode cX7_letterAt 12 = .ok (.iload_n 1, 1) := by decide +kernel
theorem dX7_letterAt_13 : decode cX7_letterAt 13 = .ok (.bipush 80, 2) := by decide +kernel
theorem dX7_letterAt_15 : decode cX7_letterAt 15 = .ok (.if_icmp .ge 12, 3) := by decide +kernel
theorem dX7_letterAt_18 : decode cX7_letterAt 18 = .ok (.aload_n 0, 1) := by decide +kernel
theorem dX7_letterAt_19 : decode cX7_letterAt 19 = .ok (.getfield 9, 3) := by decide +kernel
theorem dX7_letterAt_22 : decode cX7_letterAt 22 = .ok (.iload_n 1, 1) := by decide +kernel
theorem dX7_letterAt_23 : decode cX7_letterAt 23 = .ok (.iaload, 1) := by decide +kernel
theorem dX7_letterAt_24 : decode cX7_letterAt 24 = .ok (.goto 5, 3) := by decide +kernel
theorem dX7_letterAt_27 : decode cX7_letterAt 27 = .ok (.bipush (-9), 2) := by decide +kernel
theorem dX7_letterAt_29 : decode cX7_letterAt 29 = .ok (.ireturn, 1) := by decide +kernel
theorem dX7_figureAt_0 : decode cX7_figureAt 0 = .ok (.aload_n 0, 1) := by decide +kernel
theorem dX7_figureAt_1 : decode cX7_figureAt 1 = .ok (.iload_n 1, 1) := by decide +kernel
theorem dX7_figureAt_2 : decode cX7_figureAt 2 = .ok (.invokevirtual 19, 3) := by decide +kernel
theorem dX7_figureAt_5 : decode cX7_figureAt 5 = .ok (.istore_n 2, 1) := by decide +kernel
theorem dX7_figureAt_6 : decode cX7_figureAt 6 = .ok (.iload_n 2, 1) := by decide +kernel
theorem dX7_figureAt_7 : decode cX7_figureAt 7 = .ok (.bipush 48, 2) := by decide +kernel
theorem dX7_figureAt_9 : decode cX7_figureAt 9 = .ok (.if_icmp .lt 16, 3) := by decide +kernel
theorem dX7_figureAt_12 : decode cX7_figureAt 12 = .ok (.iload_n 2, 1) := by decide +kernel
theorem dX7_figureAt_13 : decode cX7_figureAt 13 = .ok (.bipush 57, 2) := by decide +kernel
theorem dX7_figureAt_15 : decode cX7_figureAt 15 = .ok (.if_icmp .gt 10, 3) := by decide +kernel
theorem dX7_figureAt_18 : decode cX7_figureAt 18 = .ok (.iload_n 2, 1) := by decide +kernel
theorem dX7_figureAt_19 : decode cX7_figureAt 19 = .ok (.bipush 48, 2) := by decide +kernel
theorem dX7_figureAt_21 : decode cX7_figureAt 21 = .ok (.isub, 1) := by decide +kernel
theorem dX7_figureAt_22 : decode cX7_figureAt 22 = .ok (.goto 5, 3) := by decide +kernel
theorem dX7_figureAt_25 : decode cX7_figureAt 25 = .ok (.bipush (-9), 2) := by decide +kernel
theorem dX7_figureAt_27 : decode cX7_figureAt 27 = .ok (.ireturn, 1) := by decide +kernel
theorem dX7_read_0 : decode cX7_read 0 = .ok (.aload_n 0, 1) := by decide +kernel
theorem dX7_read_1 : decode cX7_read 1 = .ok (.iconst 0, 1) := by decide +kernel
theorem dX7_read_2 : decode cX7_read 2 = .ok (.invokevirtual 19, 3) := by decide +kernel
theorem dX7_read_5 : decode cX7_read 5 = .ok (.bipush 87, 2) := by decide +kernel
theorem dX7_read_7 : decode cX7_read 7 = .ok (.if_icmp .eq 5, 3) := by decide +kernel
theorem dX7_read_10 : decode cX7_read 10 = .ok (.iconst 0, 1) := by decide +kernel
theorem dX7_read_11 : decode cX7_read 11 = .ok (.ireturn, 1) := by decide +kernel
theorem dX7_read_12 : decode cX7_read 12 = .ok (.aload_n 0, 1) := by decide +kernel
theorem dX7_read_13 : decode cX7_read 13 = .ok (.iconst 1, 1) := by decide +kernel
theorem dX7_read_14 : decode cX7_read 14 = .ok (.invokevirtual 23, 3) := by decide +kernel
theorem dX7_read_17 : decode cX7_read 17 = .ok (.istore_n 2, 1) := by decide +kernel
theorem dX7_read_18 : decode cX7_read 18 = .ok (.iload_n 2, 1) := by decide +kernel
theorem dX7_read_19 : decode cX7_read 19 = .ok (.iconst 1, 1) := by decide +kernel
theorem dX7_read_20 : decode cX7_read 20 = .ok (.if_icmp .lt 8, 3) := by decide +kernel
theorem dX7_read_23 : decode cX7_read 23 = .ok (.iload_n 2, 1) := by decide +kernel
theorem dX7_read_24 : decode cX7_read 24 = .ok (.iconst 4, 1) := by decide +kernel
theorem dX7_read_25 : decode cX7_read 25 = .ok (.if_icmp .le 5, 3) := by decide +kernel
theorem dX7_read_28 : decode cX7_read 28 = .ok (.iconst 1, 1) := by decide +kernel
theorem dX7_read_29 : decode cX7_read 29 = .ok (.ireturn, 1) := by decide +kernel
theorem dX7_read_30 : decode cX7_read 30 = .ok (.aload_n 0, 1) := by decide +kernel
theorem dX7_read_31 : decode cX7_read 31 = .ok (.iconst 2, 1) := by decide +kernel
theorem dX7_read_32 : decode cX7_read 32 = .ok (.invokevirtual 23, 3) := by decide +kernel
theorem dX7_read_35 : decode cX7_read 35 = .ok (.istore_n 3, 1) := by decide +kernel
theorem dX7_read_36 : decode cX7_read 36 = .ok (.iload_n 3, 1) := by decide +kernel
theorem dX7_read_37 : decode cX7_read 37 = .ok (.iconst 1, 1) := by decide +kernel
theorem dX7_read_38 : decode cX7_read 38 = .ok (.if_icmp .lt 8, 3) := by decide +kernel
theorem dX7_read_41 : decode cX7_read 41 = .ok (.iload_n 3, 1) := by decide +kernel
theorem dX7_read_42 : decode cX7_read 42 = .ok (.iconst 5, 1) := by decide +kernel
theorem dX7_read_43 : decode cX7_read 43 = .ok (.if_icmp .le 5, 3) := by decide +kernel
theorem dX7_read_46 : decode cX7_read 46 = .ok (.iconst 2, 1) := by decide +kernel
theorem dX7_read_47 : decode cX7_read 47 = .ok (.ireturn, 1) := by decide +kernel
theorem dX7_read_48 : decode cX7_read 48 = .ok (.aload_n 1, 1) := by decide +kernel
theorem dX7_read_49 : decode cX7_read 49 = .ok (.getfield 26, 3) := by decide +kernel
theorem dX7_read_52 : decode cX7_read 52 = .ok (.iload_n 2, 1) := by decide +kernel
theorem dX7_read_53 : decode cX7_read 53 = .ok (.invokevirtual 32, 3) := by decide +kernel
theorem dX7_read_56 : decode cX7_read 56 = .ok (.aload_n 1, 1) := by decide +kernel
theorem dX7_read_57 : decode cX7_read 57 = .ok (.getfield 38, 3) := by decide +kernel
theorem dX7_read_60 : decode cX7_read 60 = .ok (.iload_n 3, 1) := by decide +kernel
theorem dX7_read_61 : decode cX7_read 61 = .ok (.invokevirtual 32, 3) := by decide +kernel
theorem dX7_read_64 : decode cX7_read 64 = .ok (.iconst 3, 1) := by decide +kernel
theorem dX7_read_65 : decode cX7_read 65 = .ok (.istore 4, 2) := by decide +kernel
theorem dX7_read_67 : decode cX7_read 67 = .ok (.iload 4, 2) := by decide +kernel
theorem dX7_read_69 : decode cX7_read 69 = .ok (.aload_n 0, 1) := by decide +kernel
theorem dX7_read_70 : decode cX7_read 70 = .ok (.getfield 15, 3) := by decide +kernel
theorem dX7_read_73 : decode cX7_read 73 = .ok (.if_icmp .ge 113, 3) := by decide +kernel
theorem dX7_read_76 : decode cX7_read 76 = .ok (.aload_n 0, 1) := by decide +kernel
theorem dX7_read_77 : decode cX7_read 77 = .ok (.iload 4, 2) := by decide +kernel
theorem dX7_read_79 : decode cX7_read 79 = .ok (.invokevirtual 19, 3) := by decide +kernel
theorem dX7_read_82 : decode cX7_read 82 = .ok (.istore 5, 2) := by decide +kernel
theorem dX7_read_84 : decode cX7_read 84 = .ok (.iload 5, 2) := by decide +kernel
theorem dX7_read_86 : decode cX7_read 86 = .ok (.bipush 112, 2) := by decide +kernel
theorem dX7_read_88 : decode cX7_read 88 = .ok (.if_icmp .eq 10, 3) := by decide +kernel
theorem dX7_read_91 : decode cX7_read 91 = .ok (.iload 5, 2) := by decide +kernel
theorem dX7_read_93 : decode cX7_read 93 = .ok (.bipush 113, 2) := by decide +kernel
theorem dX7_read_95 : decode cX7_read 95 = .ok (.if_icmp .ne 7, 3) := by decide +kernel
theorem dX7_read_98 : decode cX7_read 98 = .ok (.iconst 1, 1) := by decide +kernel
theorem dX7_read_99 : decode cX7_read 99 = .ok (.goto 4, 3) := by decide +kernel
theorem dX7_read_102 : decode cX7_read 102 = .ok (.iconst 0, 1) := by decide +kernel
theorem dX7_read_103 : decode cX7_read 103 = .ok (.istore 6, 2) := by decide +kernel
theorem dX7_read_105 : decode cX7_read 105 = .ok (.iload 5, 2) := by decide +kernel
theorem dX7_read_107 : decode cX7_read 107 = .ok (.bipush 112, 2) := by decide +kernel
theorem dX7_read_109 : decode cX7_read 109 = .ok (.if_icmp .eq 10, 3) := by decide +kernel
theorem dX7_read_112 : decode cX7_read 112 = .ok (.iload 5, 2) := by decide +kernel
theorem dX7_read_114 : decode cX7_read 114 = .ok (.bipush 80, 2) := by decide +kernel
theorem dX7_read_116 : decode cX7_read 116 = .ok (.if_icmp .ne 10, 3) := by decide +kernel
theorem dX7_read_119 : decode cX7_read 119 = .ok (.aload_n 1, 1) := by decide +kernel
theorem dX7_read_120 : decode cX7_read 120 = .ok (.getfield 26, 3) := by decide +kernel
theorem dX7_read_123 : decode cX7_read 123 = .ok (.goto 7, 3) := by decide +kernel
theorem dX7_read_126 : decode cX7_read 126 = .ok (.aload_n 1, 1) := by decide +kernel
theorem dX7_read_127 : decode cX7_read 127 = .ok (.getfield 38, 3) := by decide +kernel
theorem dX7_read_130 : decode cX7_read 130 = .ok (.astore 7, 2) := by decide +kernel
theorem dX7_read_132 : decode cX7_read 132 = .ok (.iload 6, 2) := by decide +kernel
theorem dX7_read_134 : decode cX7_read 134 = .ok (.ifCond .eq 14, 3) := by decide +kernel
theorem dX7_read_137 : decode cX7_read 137 = .ok (.aload_n 0, 1) := by decide +kernel
theorem dX7_read_138 : decode cX7_read 138 = .ok (.aload 7, 2) := by decide +kernel
theorem dX7_read_140 : decode cX7_read 140 = .ok (.iload 4, 2) := by decide +kernel
theorem dX7_read_142 : decode cX7_read 142 = .ok (.invokevirtual 41, 3) := by decide +kernel
theorem dX7_read_145 : decode cX7_read 145 = .ok (.goto 11, 3) := by decide +kernel
theorem dX7_read_148 : decode cX7_read 148 = .ok (.aload_n 0, 1) := by decide +kernel
theorem dX7_read_149 : decode cX7_read 149 = .ok (.aload 7, 2) := by decide +kernel
theorem dX7_read_151 : decode cX7_read 151 = .ok (.iload 4, 2) := by decide +kernel
theorem dX7_read_153 : decode cX7_read 153 = .ok (.invokevirtual 45, 3) := by decide +kernel
theorem dX7_read_156 : decode cX7_read 156 = .ok (.istore 8, 2) := by decide +kernel
theorem dX7_read_158 : decode cX7_read 158 = .ok (.iload 8, 2) := by decide +kernel
theorem dX7_read_160 : decode cX7_read 160 = .ok (.bipush (-9), 2) := by decide +kernel
theorem dX7_read_162 : decode cX7_read 162 = .ok (.if_icmp .eq 6, 3) := by decide +kernel
theorem dX7_read_165 : decode cX7_read 165 = .ok (.iload 8, 2) := by decide +kernel
theorem dX7_read_167 : decode cX7_read 167 = .ok (.ireturn, 1) := by decide +kernel
theorem dX7_read_168 : decode cX7_read 168 = .ok (.iload 4, 2) := by decide +kernel
theorem dX7_read_170 : decode cX7_read 170 = .ok (.iload 6, 2) := by decide +kernel
theorem dX7_read_172 : decode cX7_read 172 = .ok (.ifCond .eq 7, 3) := by decide +kernel
theorem dX7_read_175 : decode cX7_read 175 = .ok (.iconst 4, 1) := by decide +kernel
theorem dX7_read_176 : decode cX7_read 176 = .ok (.goto 4, 3) := by decide +kernel
theorem dX7_read_179 : decode cX7_read 179 = .ok (.iconst 2, 1) := by decide +kernel
theorem dX7_read_180 : decode cX7_read 180 = .ok (.iadd, 1) := by decide +kernel
theorem dX7_read_181 : decode cX7_read 181 = .ok (.istore 4, 2) := by decide +kernel
theorem dX7_read_183 : decode cX7_read 183 = .ok (.goto (-116), 3) := by decide +kernel
theorem dX7_read_186 : decode cX7_read 186 = .ok (.bipush (-9), 2) := by decide +kernel
theorem dX7_read_188 : decode cX7_read 188 = .ok (.ireturn, 1) := by decide +kernel
theorem dX7_readEdge_0 : decode cX7_readEdge 0 = .ok (.aload_n 1, 1) := by decide +kernel
theorem dX7_readEdge_1 : decode cX7_readEdge 1 = .ok (.getfield 48, 3) := by decide +kernel
theorem dX7_readEdge_4 : decode cX7_readEdge 4 = .ok (.istore_n 3, 1) := by decide +kernel
theorem dX7_readEdge_5 : decode cX7_readEdge 5 = .ok (.aload_n 1, 1) := by decide +kernel
theorem dX7_readEdge_6 : decode cX7_readEdge 6 = .ok (.invokevirtual 51, 3) := by decide +kernel
theorem dX7_readEdge_9 : decode cX7_readEdge 9 = .ok (.iload_n 3, 1) := by decide +kernel
theorem dX7_readEdge_10 : decode cX7_readEdge 10 = .ok (.iconst 2, 1) := by decide +kernel
theorem dX7_readEdge_11 : decode cX7_readEdge 11 = .ok (.imul, 1) := by decide +kernel
theorem dX7_readEdge_12 : decode cX7_readEdge 12 = .ok (.iload_n 3, 1) := by decide +kernel
theorem dX7_readEdge_13 : decode cX7_readEdge 13 = .ok (.imul, 1) := by decide +kernel
theorem dX7_readEdge_14 : decode cX7_readEdge 14 = .ok (.if_icmp .ne 5, 3) := by decide +kernel
theorem dX7_readEdge_17 : decode cX7_readEdge 17 = .ok (.iload_n 2, 1) := by decide +kernel
theorem dX7_readEdge_18 : decode cX7_readEdge 18 = .ok (.ireturn, 1) := by decide +kernel
theorem dX7_readEdge_19 : decode cX7_readEdge 19 = .ok (.aload_n 0, 1) := by decide +kernel
theorem dX7_readEdge_20 : decode cX7_readEdge 20 = .ok (.iload_n 2, 1) := by decide +kernel
theorem dX7_readEdge_21 : decode cX7_readEdge 21 = .ok (.iconst 1, 1) := by decide +kernel
theorem dX7_readEdge_22 : decode cX7_readEdge 22 = .ok (.iadd, 1) := by decide +kernel
theorem dX7_readEdge_23 : decode cX7_readEdge 23 = .ok (.invokevirtual 23, 3) := by decide +kernel
theorem dX7_readEdge_26 : decode cX7_readEdge 26 = .ok (.istore 4, 2) := by decide +kernel
theorem dX7_readEdge_28 : decode cX7_readEdge 28 = .ok (.aload_n 1, 1) := by decide +kernel
theorem dX7_readEdge_29 : decode cX7_readEdge 29 = .ok (.iload 4, 2) := by decide +kernel
theorem dX7_readEdge_31 : decode cX7_readEdge 31 = .ok (.invokevirtual 55, 3) := by decide +kernel
theorem dX7_readEdge_34 : decode cX7_readEdge 34 = .ok (.ifCond .eq 15, 3) := by decide +kernel
theorem dX7_readEdge_37 : decode cX7_readEdge 37 = .ok (.aload_n 1, 1) := by decide +kernel
theorem dX7_readEdge_38 : decode cX7_readEdge 38 = .ok (.iload 4, 2) := by decide +kernel
theorem dX7_readEdge_40 : decode cX7_readEdge 40 = .ok (.invokevirtual 59, 3) := by decide +kernel
theorem dX7_readEdge_43 : decode cX7_readEdge 43 = .ok (.iconst 2, 1) := by decide +kernel
theorem dX7_readEdge_44 : decode cX7_readEdge 44 = .ok (.iload_n 3, 1) := by decide +kernel
theorem dX7_readEdge_45 : decode cX7_readEdge 45 = .ok (.imul, 1) := by decide +kernel
theorem dX7_readEdge_46 : decode cX7_readEdge 46 = .ok (.if_icmp .ne 7, 3) := by decide +kernel
theorem dX7_readEdge_49 : decode cX7_readEdge 49 = .ok (.iload_n 2, 1) := by decide +kernel
theorem dX7_readEdge_50 : decode cX7_readEdge 50 = .ok (.iconst 1, 1) := by decide +kernel
theorem dX7_readEdge_51 : decode cX7_readEdge 51 = .ok (.iadd, 1) := by decide +kernel
theorem dX7_readEdge_52 : decode cX7_readEdge 52 = .ok (.ireturn, 1) := by decide +kernel
theorem dX7_readEdge_53 : decode cX7_readEdge 53 = .ok (.aload_n 0, 1) := by decide +kernel
theorem dX7_readEdge_54 : decode cX7_readEdge 54 = .ok (.iload_n 2, 1) := by decide +kernel
theorem dX7_readEdge_55 : decode cX7_readEdge 55 = .ok (.iconst 2, 1) := by decide +kernel
theorem dX7_readEdge_56 : decode cX7_readEdge 56 = .ok (.iadd, 1) := by decide +kernel
theorem dX7_readEdge_57 : decode cX7_readEdge 57 = .ok (.invokevirtual 19, 3) := by decide +kernel
theorem dX7_readEdge_60 : decode cX7_readEdge 60 = .ok (.bipush 97, 2) := by decide +kernel
theorem dX7_readEdge_62 : decode cX7_readEdge 62 = .ok (.isub, 1) := by decide +kernel
theorem dX7_readEdge_63 : decode cX7_readEdge 63 = .ok (.iconst 1, 1) := by decide +kernel
theorem dX7_readEdge_64 : decode cX7_readEdge 64 = .ok (.iadd, 1) := by decide +kernel
theorem dX7_readEdge_65 : decode cX7_readEdge 65 = .ok (.istore 5, 2) := by decide +kernel
theorem dX7_readEdge_67 : decode cX7_readEdge 67 = .ok (.iload 5, 2) := by decide +kernel
theorem dX7_readEdge_69 : decode cX7_readEdge 69 = .ok (.invokestatic 62, 3) := by decide +kernel
theorem dX7_readEdge_72 : decode cX7_readEdge 72 = .ok (.ifCond .eq 18, 3) := by decide +kernel
theorem dX7_readEdge_75 : decode cX7_readEdge 75 = .ok (.aload_n 1, 1) := by decide +kernel
theorem dX7_readEdge_76 : decode cX7_readEdge 76 = .ok (.iload 4, 2) := by decide +kernel
theorem dX7_readEdge_78 : decode cX7_readEdge 78 = .ok (.iload 5, 2) := by decide +kernel
theorem dX7_readEdge_80 : decode cX7_readEdge 80 = .ok (.invokevirtual 65, 3) := by decide +kernel
theorem dX7_readEdge_83 : decode cX7_readEdge 83 = .ok (.aload_n 1, 1) := by decide +kernel
theorem dX7_readEdge_84 : decode cX7_readEdge 84 = .ok (.invokevirtual 69, 3) := by decide +kernel
theorem dX7_readEdge_87 : decode cX7_readEdge 87 = .ok (.if_icmp .ne 7, 3) := by decide +kernel
theorem dX7_readEdge_90 : decode cX7_readEdge 90 = .ok (.iload_n 2, 1) := by decide +kernel
theorem dX7_readEdge_91 : decode cX7_readEdge 91 = .ok (.iconst 2, 1) := by decide +kernel
theorem dX7_readEdge_92 : decode cX7_readEdge 92 = .ok (.iadd, 1) := by decide +kernel
theorem dX7_readEdge_93 : decode cX7_readEdge 93 = .ok (.ireturn, 1) := by decide +kernel
theorem dX7_readEdge_94 : decode cX7_readEdge 94 = .ok (.aload_n 0, 1) := by decide +kernel
theorem dX7_readEdge_95 : decode cX7_readEdge 95 = .ok (.iload_n 2, 1) := by decide +kernel
theorem dX7_readEdge_96 : decode cX7_readEdge 96 = .ok (.iconst 3, 1) := by decide +kernel
theorem dX7_readEdge_97 : decode cX7_readEdge 97 = .ok (.iadd, 1) := by decide +kernel
theorem dX7_readEdge_98 : decode cX7_readEdge 98 = .ok (.invokevirtual 23, 3) := by decide +kernel
theorem dX7_readEdge_101 : decode cX7_readEdge 101 = .ok (.istore 6, 2) := by decide +kernel
theorem dX7_readEdge_103 : decode cX7_readEdge 103 = .ok (.aload_n 1, 1) := by decide +kernel
theorem dX7_readEdge_104 : decode cX7_readEdge 104 = .ok (.iload 6, 2) := by decide +kernel
theorem dX7_readEdge_106 : decode cX7_readEdge 106 = .ok (.invokevirtual 55, 3) := by decide +kernel
theorem dX7_readEdge_109 : decode cX7_readEdge 109 = .ok (.ifCond .eq 16, 3) := by decide +kernel
theorem dX7_readEdge_112 : decode cX7_readEdge 112 = .ok (.aload_n 1, 1) := by decide +kernel
theorem dX7_readEdge_113 : decode cX7_readEdge 113 = .ok (.iload 4, 2) := by decide +kernel
theorem dX7_readEdge_115 : decode cX7_readEdge 115 = .ok (.iload 5, 2) := by decide +kernel
theorem dX7_readEdge_117 : decode cX7_readEdge 117 = .ok (.iload 6, 2) := by decide +kernel
theorem dX7_readEdge_119 : decode cX7_readEdge 119 = .ok (.invokevirtual 72, 3) := by decide +kernel
theorem dX7_readEdge_122 : decode cX7_readEdge 122 = .ok (.ifCond .eq 7, 3) := by decide +kernel
theorem dX7_readEdge_125 : decode cX7_readEdge 125 = .ok (.iload_n 2, 1) := by decide +kernel
theorem dX7_readEdge_126 : decode cX7_readEdge 126 = .ok (.iconst 3, 1) := by decide +kernel
theorem dX7_readEdge_127 : decode cX7_readEdge 127 = .ok (.iadd, 1) := by decide +kernel
theorem dX7_readEdge_128 : decode cX7_readEdge 128 = .ok (.ireturn, 1) := by decide +kernel
theorem dX7_readEdge_129 : decode cX7_readEdge 129 = .ok (.aload_n 1, 1) := by decide +kernel
theorem dX7_readEdge_130 : decode cX7_readEdge 130 = .ok (.iload 4, 2) := by decide +kernel
theorem dX7_readEdge_132 : decode cX7_readEdge 132 = .ok (.iload 5, 2) := by decide +kernel
theorem dX7_readEdge_134 : decode cX7_readEdge 134 = .ok (.iload 6, 2) := by decide +kernel
theorem dX7_readEdge_136 : decode cX7_readEdge 136 = .ok (.invokevirtual 76, 3) := by decide +kernel
theorem dX7_readEdge_139 : decode cX7_readEdge 139 = .ok (.bipush (-9), 2) := by decide +kernel
theorem dX7_readEdge_141 : decode cX7_readEdge 141 = .ok (.ireturn, 1) := by decide +kernel
theorem dX7_readEnd_0 : decode cX7_readEnd 0 = .ok (.aload_n 0, 1) := by decide +kernel
theorem dX7_readEnd_1 : decode cX7_readEnd 1 = .ok (.iload_n 2, 1) := by decide +kernel
theorem dX7_readEnd_2 : decode cX7_readEnd 2 = .ok (.invokevirtual 19, 3) := by decide +kernel
theorem dX7_readEnd_5 : decode cX7_readEnd 5 = .ok (.istore_n 3, 1) := by decide +kernel
theorem dX7_readEnd_6 : decode cX7_readEnd 6 = .ok (.iload_n 3, 1) := by decide +kernel
theorem dX7_readEnd_7 : decode cX7_readEnd 7 = .ok (.bipush 80, 2) := by decide +kernel
theorem dX7_readEnd_9 : decode cX7_readEnd 9 = .ok (.if_icmp .eq 9, 3) := by decide +kernel
theorem dX7_readEnd_12 : decode cX7_readEnd 12 = .ok (.iload_n 3, 1) := by decide +kernel
theorem dX7_readEnd_13 : decode cX7_readEnd 13 = .ok (.bipush 81, 2) := by decide +kernel
theorem dX7_readEnd_15 : decode cX7_readEnd 15 = .ok (.if_icmp .ne 14, 3) := by decide +kernel
theorem dX7_readEnd_18 : decode cX7_readEnd 18 = .ok (.aload_n 1, 1) := by decide +kernel
theorem dX7_readEnd_19 : decode cX7_readEnd 19 = .ok (.getfield 80, 3) := by decide +kernel
theorem dX7_readEnd_22 : decode cX7_readEnd 22 = .ok (.aload_n 1, 1) := by decide +kernel
theorem dX7_readEnd_23 : decode cX7_readEnd 23 = .ok (.invokevirtual 69, 3) := by decide +kernel
theorem dX7_readEnd_26 : decode cX7_readEnd 26 = .ok (.if_icmp .ne 5, 3) := by decide +kernel
theorem dX7_readEnd_29 : decode cX7_readEnd 29 = .ok (.iload_n 2, 1) := by decide +kernel
theorem dX7_readEnd_30 : decode cX7_readEnd 30 = .ok (.ireturn, 1) := by decide +kernel
theorem dX7_readEnd_31 : decode cX7_readEnd 31 = .ok (.aload_n 0, 1) := by decide +kernel
theorem dX7_readEnd_32 : decode cX7_readEnd 32 = .ok (.iload_n 2, 1) := by decide +kernel
theorem dX7_readEnd_33 : decode cX7_readEnd 33 = .ok (.iconst 1, 1) := by decide +kernel
theorem dX7_readEnd_34 : decode cX7_readEnd 34 = .ok (.iadd, 1) := by decide +kernel
theorem dX7_readEnd_35 : decode cX7_readEnd 35 = .ok (.invokevirtual 23, 3) := by decide +kernel
theorem dX7_readEnd_38 : decode cX7_readEnd 38 = .ok (.istore 4, 2) := by decide +kernel
theorem dX7_readEnd_40 : decode cX7_readEnd 40 = .ok (.aload_n 1, 1) := by decide +kernel
theorem dX7_readEnd_41 : decode cX7_readEnd 41 = .ok (.iload 4, 2) := by decide +kernel
theorem dX7_readEnd_43 : decode cX7_readEnd 43 = .ok (.invokevirtual 55, 3) := by decide +kernel
theorem dX7_readEnd_46 : decode cX7_readEnd 46 = .ok (.ifCond .eq 12, 3) := by decide +kernel
theorem dX7_readEnd_49 : decode cX7_readEnd 49 = .ok (.aload_n 1, 1) := by decide +kernel
theorem dX7_readEnd_50 : decode cX7_readEnd 50 = .ok (.iload 4, 2) := by decide +kernel
theorem dX7_readEnd_52 : decode cX7_readEnd 52 = .ok (.invokevirtual 83, 3) := by decide +kernel
theorem dX7_readEnd_55 : decode cX7_readEnd 55 = .ok (.ifCond .eq 7, 3) := by decide +kernel
theorem dX7_readEnd_58 : decode cX7_readEnd 58 = .ok (.iload_n 2, 1) := by decide +kernel
theorem dX7_readEnd_59 : decode cX7_readEnd 59 = .ok (.iconst 1, 1) := by decide +kernel
theorem dX7_readEnd_60 : decode cX7_readEnd 60 = .ok (.iadd, 1) := by decide +kernel
theorem dX7_readEnd_61 : decode cX7_readEnd 61 = .ok (.ireturn, 1) := by decide +kernel
theorem dX7_readEnd_62 : decode cX7_readEnd 62 = .ok (.aload_n 1, 1) := by decide +kernel
theorem dX7_readEnd_63 : decode cX7_readEnd 63 = .ok (.iload 4, 2) := by decide +kernel
theorem dX7_readEnd_65 : decode cX7_readEnd 65 = .ok (.invokevirtual 86, 3) := by decide +kernel
theorem dX7_readEnd_68 : decode cX7_readEnd 68 = .ok (.bipush (-9), 2) := by decide +kernel
theorem dX7_readEnd_70 : decode cX7_readEnd 70 = .ok (.ireturn, 1) := by decide +kernel
theorem dX9_init_0 : decode cX9_init 0 = .ok (.aload_n 0, 1) := by decide +kernel
theorem dX9_init_1 : decode cX9_init 1 = .ok (.invokespecial 3, 3) := by decide +kernel
theorem dX9_init_4 : decode cX9_init 4 = .ok (.aload_n 0, 1) := by decide +kernel
theorem dX9_init_5 : decode cX9_init 5 = .ok (.sipush 1024, 3) := by decide +kernel
theorem dX9_init_8 : decode cX9_init 8 = .ok (.newarray .int, 2) := by decide +kernel
theorem dX9_init_10 : decode cX9_init 10 = .ok (.putfield 9, 3) := by decide +kernel
theorem dX9_init_13 : decode cX9_init 13 = .ok (.return_, 1) := by decide +kernel
theorem dX9_grow_0 : decode cX9_grow 0 = .ok (.aload_n 0, 1) := by decide +kernel
theorem dX9_grow_1 : decode cX9_grow 1 = .ok (.getfield 9, 3) := by decide +kernel
theorem dX9_grow_4 : decode cX9_grow 4 = .ok (.iconst 1, 1) := by decide +kernel
theorem dX9_grow_5 : decode cX9_grow 5 = .ok (.bipush 17, 2) := by decide +kernel
theorem dX9_grow_7 : decode cX9_grow 7 = .ok (.iastore, 1) := by decide +kernel
theorem dX9_grow_8 : decode cX9_grow 8 = .ok (.iconst 2, 1) := by decide +kernel
theorem dX9_grow_9 : decode cX9_grow 9 = .ok (.istore_n 3, 1) := by decide +kernel
theorem dX9_grow_10 : decode cX9_grow 10 = .ok (.iload_n 3, 1) := by decide +kernel
theorem dX9_grow_11 : decode cX9_grow 11 = .ok (.iconst 2, 1) := by decide +kernel
theorem dX9_grow_12 : decode cX9_grow 12 = .ok (.iload_n 2, 1) := by decide +kernel
theorem dX9_grow_13 : decode cX9_grow 13 = .ok (.ishl, 1) := by decide +kernel
theorem dX9_grow_14 : decode cX9_grow 14 = .ok (.if_icmp .ge 78, 3) := by decide +kernel
theorem dX9_grow_17 : decode cX9_grow 17 = .ok (.iload_n 3, 1) := by decide +kernel
theorem dX9_grow_18 : decode cX9_grow 18 = .ok (.aload_n 0, 1) := by decide +kernel
theorem dX9_grow_19 : decode cX9_grow 19 = .ok (.getfield 9, 3) := by decide +kernel
theorem dX9_grow_22 : decode cX9_grow 22 = .ok (.arraylength, 1) := by decide +kernel
theorem dX9_grow_23 : decode cX9_grow 23 = .ok (.if_icmp .ge 69, 3) := by decide +kernel
theorem dX9_grow_26 : decode cX9_grow 26 = .ok (.iload_n 3, 1) := by decide +kernel
theorem dX9_grow_27 : decode cX9_grow 27 = .ok (.iconst 2, 1) := by decide +kernel
theorem dX9_grow_28 : decode cX9_grow 28 = .ok (.idiv, 1) := by decide +kernel
theorem dX9_grow_29 : decode cX9_grow 29 = .ok (.istore 4, 2) := by decide +kernel
theorem dX9_grow_31 : decode cX9_grow 31 = .ok (.iload_n 3, 1) := by decide +kernel
theorem dX9_grow_32 : decode cX9_grow 32 = .ok (.iconst 2, 1) := by decide +kernel
theorem dX9_grow_33 : decode cX9_grow 33 = .ok (.irem, 1) := by decide +kernel
theorem dX9_grow_34 : decode cX9_grow 34 = .ok (.iconst 1, 1) := by decide +kernel
theorem dX9_grow_35 : decode cX9_grow 35 = .ok (.iadd, 1) := by decide +kernel
theorem dX9_grow_36 : decode cX9_grow 36 = .ok (.istore 5, 2) := by decide +kernel
theorem dX9_grow_38 : decode cX9_grow 38 = .ok (.aload_n 1, 1) := by decide +kernel
theorem dX9_grow_39 : decode cX9_grow 39 = .ok (.getfield 15, 3) := by decide +kernel
theorem dX9_grow_42 : decode cX9_grow 42 = .ok (.aload_n 0, 1) := by decide +kernel
theorem dX9_grow_43 : decode cX9_grow 43 = .ok (.iload 4, 2) := by decide +kernel
theorem dX9_grow_45 : decode cX9_grow 45 = .ok (.invokevirtual 21, 3) := by decide +kernel
theorem dX9_grow_48 : decode cX9_grow 48 = .ok (.iload 5, 2) := by decide +kernel
theorem dX9_grow_50 : decode cX9_grow 50 = .ok (.invokevirtual 25, 3) := by decide +kernel
theorem dX9_grow_53 : decode cX9_grow 53 = .ok (.istore 6, 2) := by decide +kernel
theorem dX9_grow_55 : decode cX9_grow 55 = .ok (.aload_n 1, 1) := by decide +kernel
theorem dX9_grow_56 : decode cX9_grow 56 = .ok (.getfield 31, 3) := by decide +kernel
theorem dX9_grow_59 : decode cX9_grow 59 = .ok (.aload_n 0, 1) := by decide +kernel
theorem dX9_grow_60 : decode cX9_grow 60 = .ok (.iload 4, 2) := by decide +kernel
theorem dX9_grow_62 : decode cX9_grow 62 = .ok (.invokevirtual 34, 3) := by decide +kernel
theorem dX9_grow_65 : decode cX9_grow 65 = .ok (.iload 5, 2) := by decide +kernel
theorem dX9_grow_67 : decode cX9_grow 67 = .ok (.invokevirtual 25, 3) := by decide +kernel
theorem dX9_grow_70 : decode cX9_grow 70 = .ok (.istore 7, 2) := by decide +kernel
theorem dX9_grow_72 : decode cX9_grow 72 = .ok (.aload_n 0, 1) := by decide +kernel
theorem dX9_grow_73 : decode cX9_grow 73 = .ok (.getfield 9, 3) := by decide +kernel
theorem dX9_grow_76 : decode cX9_grow 76 = .ok (.iload_n 3, 1) := by decide +kernel
theorem dX9_grow_77 : decode cX9_grow 77 = .ok (.iload 6, 2) := by decide +kernel
theorem dX9_grow_79 : decode cX9_grow 79 = .ok (.bipush 16, 2) := by decide +kernel
theorem dX9_grow_81 : decode cX9_grow 81 = .ok (.iload 7, 2) := by decide +kernel
theorem dX9_grow_83 : decode cX9_grow 83 = .ok (.imul, 1) := by decide +kernel
theorem dX9_grow_84 : decode cX9_grow 84 = .ok (.iadd, 1) := by decide +kernel
theorem dX9_grow_85 : decode cX9_grow 85 = .ok (.iastore, 1) := by decide +kernel
theorem dX9_grow_86 : decode cX9_grow 86 = .ok (.iinc 3 1, 3) := by decide +kernel
theorem dX9_grow_89 : decode cX9_grow 89 = .ok (.goto (-79), 3) := by decide +kernel
theorem dX9_grow_92 : decode cX9_grow 92 = .ok (.return_, 1) := by decide +kernel
theorem dX9_zeroSet_0 : decode cX9_zeroSet 0 = .ok (.iload_n 1, 1) := by decide +kernel
theorem dX9_zeroSet_1 : decode cX9_zeroSet 1 = .ok (.ifCond .lt 24, 3) := by decide +kernel
theorem dX9_zeroSet_4 : decode cX9_zeroSet 4 = .ok (.iload_n 1, 1) := by decide +kernel
theorem dX9_zeroSet_5 : decode cX9_zeroSet 5 = .ok (.aload_n 0, 1) := by decide +kernel
theorem dX9_zeroSet_6 : decode cX9_zeroSet 6 = .ok (.getfield 9, 3) := by decide +kernel
theorem dX9_zeroSet_9 : decode cX9_zeroSet 9 = .ok (.arraylength, 1) := by decide +kernel
theorem dX9_zeroSet_10 : decode cX9_zeroSet 10 = .ok (.if_icmp .ge 15, 3) := by decide +kernel
theorem dX9_zeroSet_13 : decode cX9_zeroSet 13 = .ok (.aload_n 0, 1) := by decide +kernel
theorem dX9_zeroSet_14 : decode cX9_zeroSet 14 = .ok (.getfield 9, 3) := by decide +kernel
theorem dX9_zeroSet_17 : decode cX9_zeroSet 17 = .ok (.iload_n 1, 1) := by decide +kernel
theorem dX9_zeroSet_18 : decode cX9_zeroSet 18 = .ok (.iaload, 1) := by decide +kernel
theorem dX9_zeroSet_19 : decode cX9_zeroSet 19 = .ok (.bipush 16, 2) := by decide +kernel
theorem dX9_zeroSet_21 : decode cX9_zeroSet 21 = .ok (.irem, 1) := by decide +kernel
theorem dX9_zeroSet_22 : decode cX9_zeroSet 22 = .ok (.goto 4, 3) := by decide +kernel
theorem dX9_zeroSet_25 : decode cX9_zeroSet 25 = .ok (.iconst 0, 1) := by decide +kernel
theorem dX9_zeroSet_26 : decode cX9_zeroSet 26 = .ok (.ireturn, 1) := by decide +kernel
theorem dX9_oneSet_0 : decode cX9_oneSet 0 = .ok (.iload_n 1, 1) := by decide +kernel
theorem dX9_oneSet_1 : decode cX9_oneSet 1 = .ok (.ifCond .lt 24, 3) := by decide +kernel
theorem dX9_oneSet_4 : decode cX9_oneSet 4 = .ok (.iload_n 1, 1) := by decide +kernel
theorem dX9_oneSet_5 : decode cX9_oneSet 5 = .ok (.aload_n 0, 1) := by decide +kernel
theorem dX9_oneSet_6 : decode cX9_oneSet 6 = .ok (.getfield 9, 3) := by decide +kernel
theorem dX9_oneSet_9 : decode cX9_oneSet 9 = .ok (.arraylength, 1) := by decide +kernel
theorem dX9_oneSet_10 : decode cX9_oneSet 10 = .ok (.if_icmp .ge 15, 3) := by decide +kernel
theorem dX9_oneSet_13 : decode cX9_oneSet 13 = .ok (.aload_n 0, 1) := by decide +kernel
theorem dX9_oneSet_14 : decode cX9_oneSet 14 = .ok (.getfield 9, 3) := by decide +kernel
theorem dX9_oneSet_17 : decode cX9_oneSet 17 = .ok (.iload_n 1, 1) := by decide +kernel
theorem dX9_oneSet_18 : decode cX9_oneSet 18 = .ok (.iaload, 1) := by decide +kernel
theorem dX9_oneSet_19 : decode cX9_oneSet 19 = .ok (.bipush 16, 2) := by decide +kernel
theorem dX9_oneSet_21 : decode cX9_oneSet 21 = .ok (.idiv, 1) := by decide +kernel
theorem dX9_oneSet_22 : decode cX9_oneSet 22 = .ok (.goto 4, 3) := by decide +kernel
theorem dX9_oneSet_25 : decode cX9_oneSet 25 = .ok (.iconst 0, 1) := by decide +kernel
theorem dX9_oneSet_26 : decode cX9_oneSet 26 = .ok (.ireturn, 1) := by decide +kernel
