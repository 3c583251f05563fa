theorem dX10_init_0 : decode cX10_init 0 = .ok (.aload_n 0, 1) := by decide +kernel
theorem dX10_init_1 : decode cX10_init 1 = .ok (.invokespecial 3, 3) := by decide +kernel
theorem dX10_init_4 : decode cX10_init 4 = .ok (.aload_n 0, 1) := by decide +kernel
theorem dX10_init_5 : decode cX10_init 5 = .ok (.new 9, 3) := by decide +kernel
theorem dX10_init_8 : decode cX10_init 8 = .ok (.dup, 1) := by decide +kernel
theorem dX10_init_9 : decode cX10_init 9 = .ok (.invokespecial 11, 3) := by decide +kernel
theorem dX10_init_12 : decode cX10_init 12 = .ok (.putfield 12, 3) := by decide +kernel
theorem dX10_init_15 : decode cX10_init 15 = .ok (.aload_n 0, 1) := by decide +kernel
theorem dX10_init_16 : decode cX10_init 16 = .ok (.new 16, 3) := by decide +kernel
theorem dX10_init_19 : decode cX10_init 19 = .ok (.dup, 1) := by decide +kernel
theorem dX10_init_20 : decode cX10_init 20 = .ok (.invokespecial 18, 3) := by decide +kernel
theorem dX10_init_23 : decode cX10_init 23 = .ok (.putfield 19, 3) := by decide +kernel
theorem dX10_init_26 : decode cX10_init 26 = .ok (.aload_n 0, 1) := by decide +kernel
theorem dX10_init_27 : decode cX10_init 27 = .ok (.new 16, 3) := by decide +kernel
theorem dX10_init_30 : decode cX10_init 30 = .ok (.dup, 1) := by decide +kernel
theorem dX10_init_31 : decode cX10_init 31 = .ok (.invokespecial 18, 3) := by decide +kernel
theorem dX10_init_34 : decode cX10_init 34 = .ok (.putfield 23, 3) := by decide +kernel
theorem dX10_init_37 : decode cX10_init 37 = .ok (.aload_n 0, 1) := by decide +kernel
theorem dX10_init_38 : decode cX10_init 38 = .ok (.new 26, 3) := by decide +kernel
theorem dX10_init_41 : decode cX10_init 41 = .ok (.dup, 1) := by decide +kernel
theorem dX10_init_42 : decode cX10_init 42 = .ok (.invokespecial 28, 3) := by decide +kernel
theorem dX10_init_45 : decode cX10_init 45 = .ok (.putfield 29, 3) := by decide +kernel
theorem dX10_init_48 : decode cX10_init 48 = .ok (.aload_n 0, 1) := by decide +kernel
theorem dX10_init_49 : decode cX10_init 49 = .ok (.iconst 2, 1) := by decide +kernel
theorem dX10_init_50 : decode cX10_init 50 = .ok (.anewarray 16, 3) := by decide +kernel
theorem dX10_init_53 : decode cX10_init 53 = .ok (.putfield 33, 3) := by decide +kernel
theorem dX10_init_56 : decode cX10_init 56 = .ok (.iconst 0, 1) := by decide +kernel
theorem dX10_init_57 : decode cX10_init 57 = .ok (.istore_n 1, 1) := by decide +kernel
theorem dX10_init_58 : decode cX10_init 58 = .ok (.iload_n 1, 1) := by decide +kernel
theorem dX10_init_59 : decode cX10_init 59 = .ok (.iconst 2, 1) := by decide +kernel
theorem dX10_init_60 : decode cX10_init 60 = .ok (.if_icmp .ge 22, 3) := by decide +kernel
theorem dX10_init_63 : decode cX10_init 63 = .ok (.aload_n 0, 1) := by decide +kernel
theorem dX10_init_64 : decode cX10_init 64 = .ok (.getfield 33, 3) := by decide +kernel
theorem dX10_init_67 : decode cX10_init 67 = .ok (.iload_n 1, 1) := by decide +kernel
theorem dX10_init_68 : decode cX10_init 68 = .ok (.new 16, 3) := by decide +kernel
theorem dX10_init_71 : decode cX10_init 71 = .ok (.dup, 1) := by decide +kernel
theorem dX10_init_72 : decode cX10_init 72 = .ok (.invokespecial 18, 3) := by decide +kernel
theorem dX10_init_75 : decode cX10_init 75 = .ok (.aastore, 1) := by decide +kernel
theorem dX10_init_76 : decode cX10_init 76 = .ok (.iinc 1 1, 3) := by decide +kernel
theorem dX10_init_79 : decode cX10_init 79 = .ok (.goto (-21), 3) := by decide +kernel
theorem dX10_init_82 : decode cX10_init 82 = .ok (.aload_n 0, 1) := by decide +kernel
theorem dX10_init_83 : decode cX10_init 83 = .ok (.iconst 2, 1) := by decide +kernel
theorem dX10_init_84 : decode cX10_init 84 = .ok (.newarray .boolean, 2) := by decide +kernel
theorem dX10_init_86 : decode cX10_init 86 = .ok (.putfield 37, 3) := by decide +kernel
theorem dX10_init_89 : decode cX10_init 89 = .ok (.aload_n 0, 1) := by decide +kernel
theorem dX10_init_90 : decode cX10_init 90 = .ok (.bipush 6, 2) := by decide +kernel
theorem dX10_init_92 : decode cX10_init 92 = .ok (.newarray .int, 2) := by decide +kernel
theorem dX10_init_94 : decode cX10_init 94 = .ok (.putfield 41, 3) := by decide +kernel
theorem dX10_init_97 : decode cX10_init 97 = .ok (.aload_n 0, 1) := by decide +kernel
theorem dX10_init_98 : decode cX10_init 98 = .ok (.bipush 6, 2) := by decide +kernel
theorem dX10_init_100 : decode cX10_init 100 = .ok (.newarray .int, 2) := by decide +kernel
theorem dX10_init_102 : decode cX10_init 102 = .ok (.putfield 45, 3) := by decide +kernel
theorem dX10_init_105 : decode cX10_init 105 = .ok (.aload_n 0, 1) := by decide +kernel
theorem dX10_init_106 : decode cX10_init 106 = .ok (.new 48, 3) := by decide +kernel
theorem dX10_init_109 : decode cX10_init 109 = .ok (.dup, 1) := by decide +kernel
theorem dX10_init_110 : decode cX10_init 110 = .ok (.invokespecial 50, 3) := by decide +kernel
theorem dX10_init_113 : decode cX10_init 113 = .ok (.putfield 51, 3) := by decide +kernel
theorem dX10_init_116 : decode cX10_init 116 = .ok (.aload_n 0, 1) := by decide +kernel
theorem dX10_init_117 : decode cX10_init 117 = .ok (.getfield 51, 3) := by decide +kernel
theorem dX10_init_120 : decode cX10_init 120 = .ok (.iconst 0, 1) := by decide +kernel
theorem dX10_init_121 : decode cX10_init 121 = .ok (.iconst 1, 1) := by decide +kernel
theorem dX10_init_122 : decode cX10_init 122 = .ok (.iconst 0, 1) := by decide +kernel
theorem dX10_init_123 : decode cX10_init 123 = .ok (.invokevirtual 55, 3) := by decide +kernel
theorem dX10_init_126 : decode cX10_init 126 = .ok (.aload_n 0, 1) := by decide +kernel
theorem dX10_init_127 : decode cX10_init 127 = .ok (.getfield 51, 3) := by decide +kernel
theorem dX10_init_130 : decode cX10_init 130 = .ok (.iconst 0, 1) := by decide +kernel
theorem dX10_init_131 : decode cX10_init 131 = .ok (.iconst 2, 1) := by decide +kernel
theorem dX10_init_132 : decode cX10_init 132 = .ok (.iconst 0, 1) := by decide +kernel
theorem dX10_init_133 : decode cX10_init 133 = .ok (.invokevirtual 55, 3) := by decide +kernel
theorem dX10_init_136 : decode cX10_init 136 = .ok (.aload_n 0, 1) := by decide +kernel
theorem dX10_init_137 : decode cX10_init 137 = .ok (.getfield 51, 3) := by decide +kernel
theorem dX10_init_140 : decode cX10_init 140 = .ok (.iconst 0, 1) := by decide +kernel
theorem dX10_init_141 : decode cX10_init 141 = .ok (.invokevirtual 59, 3) := by decide +kernel
theorem dX10_init_144 : decode cX10_init 144 = .ok (.aload_n 0, 1) := by decide +kernel
theorem dX10_init_145 : decode cX10_init 145 = .ok (.new 63, 3) := by decide +kernel
theorem dX10_init_148 : decode cX10_init 148 = .ok (.dup, 1) := by decide +kernel
theorem dX10_init_149 : decode cX10_init 149 = .ok (.invokespecial 65, 3) := by decide +kernel
theorem dX10_init_152 : decode cX10_init 152 = .ok (.putfield 66, 3) := by decide +kernel
theorem dX10_init_155 : decode cX10_init 155 = .ok (.aload_n 0, 1) := by decide +kernel
theorem dX10_init_156 : decode cX10_init 156 = .ok (.new 70, 3) := by decide +kernel
theorem dX10_init_159 : decode cX10_init 159 = .ok (.dup, 1) := by decide +kernel
theorem dX10_init_160 : decode cX10_init 160 = .ok (.invokespecial 72, 3) := by decide +kernel
theorem dX10_init_163 : decode cX10_init 163 = .ok (.putfield 73, 3) := by decide +kernel
theorem dX10_init_166 : decode cX10_init 166 = .ok (.aload_n 0, 1) := by decide +kernel
theorem dX10_init_167 : decode cX10_init 167 = .ok (.new 77, 3) := by decide +kernel
theorem dX10_init_170 : decode cX10_init 170 = .ok (.dup, 1) := by decide +kernel
theorem dX10_init_171 : decode cX10_init 171 = .ok (.invokespecial 79, 3) := by decide +kernel
theorem dX10_init_174 : decode cX10_init 174 = .ok (.putfield 80, 3) := by decide +kernel
theorem dX10_init_177 : decode cX10_init 177 = .ok (.aload_n 0, 1) := by decide +kernel
theorem dX10_init_178 : decode cX10_init 178 = .ok (.new 84, 3) := by decide +kernel
theorem dX10_init_181 : decode cX10_init 181 = .ok (.dup, 1) := by decide +kernel
theorem dX10_init_182 : decode cX10_init 182 = .ok (.invokespecial 86, 3) := by decide +kernel
theorem dX10_init_185 : decode cX10_init 185 = .ok (.putfield 87, 3) := by decide +kernel
theorem dX10_init_188 : decode cX10_init 188 = .ok (.aload_n 0, 1) := by decide +kernel
theorem dX10_init_189 : decode cX10_init 189 = .ok (.new 91, 3) := by decide +kernel
theorem dX10_init_192 : decode cX10_init 192 = .ok (.dup, 1) := by decide +kernel
theorem dX10_init_193 : decode cX10_init 193 = .ok (.invokespecial 93, 3) := by decide +kernel
theorem dX10_init_196 : decode cX10_init 196 = .ok (.putfield 94, 3) := by decide +kernel
theorem dX10_init_199 : decode cX10_init 199 = .ok (.aload_n 0, 1) := by decide +kernel
theorem dX10_init_200 : decode cX10_init 200 = .ok (.new 98, 3) := by decide +kernel
theorem dX10_init_203 : decode cX10_init 203 = .ok (.dup, 1) := by decide +kernel
theorem dX10_init_204 : decode cX10_init 204 = .ok (.invokespecial 100, 3) := by decide +kernel
theorem dX10_init_207 : decode cX10_init 207 = .ok (.putfield 101, 3) := by decide +kernel
theorem dX10_init_210 : decode cX10_init 210 = .ok (.return_, 1) := by decide +kernel
theorem dX10_write_0 : decode cX10_write 0 = .ok (.iload_n 1, 1) := by decide +kernel
theorem dX10_write_1 : decode cX10_write 1 = .ok (.ifCond .lt 10, 3) := by decide +kernel
theorem dX10_write_4 : decode cX10_write 4 = .ok (.iload_n 1, 1) := by decide +kernel
theorem dX10_write_5 : decode cX10_write 5 = .ok (.sipush 255, 3) := by decide +kernel
theorem dX10_write_8 : decode cX10_write 8 = .ok (.if_icmp .le 6, 3) := by decide +kernel
theorem dX10_write_11 : decode cX10_write 11 = .ok (.bipush (-2), 2) := by decide +kernel
theorem dX10_write_13 : decode cX10_write 13 = .ok (.ireturn, 1) := by decide +kernel
theorem dX10_write_14 : decode cX10_write 14 = .ok (.aload_n 0, 1) := by decide +kernel
theorem dX10_write_15 : decode cX10_write 15 = .ok (.getfield 12, 3) := by decide +kernel
theorem dX10_write_18 : decode cX10_write 18 = .ok (.getfield 105, 3) := by decide +kernel
theorem dX10_write_21 : decode cX10_write 21 = .ok (.bipush 80, 2) := by decide +kernel
theorem dX10_write_23 : decode cX10_write 23 = .ok (.if_icmp .lt 6, 3) := by decide +kernel
theorem dX10_write_26 : decode cX10_write 26 = .ok (.bipush (-4), 2) := by decide +kernel
theorem dX10_write_28 : decode cX10_write 28 = .ok (.ireturn, 1) := by decide +kernel
theorem dX10_write_29 : decode cX10_write 29 = .ok (.aload_n 0, 1) := by decide +kernel
theorem dX10_write_30 : decode cX10_write 30 = .ok (.getfield 12, 3) := by decide +kernel
theorem dX10_write_33 : decode cX10_write 33 = .ok (.iload_n 1, 1) := by decide +kernel
theorem dX10_write_34 : decode cX10_write 34 = .ok (.invokevirtual 109, 3) := by decide +kernel
theorem dX10_write_37 : decode cX10_write 37 = .ok (.aload_n 0, 1) := by decide +kernel
theorem dX10_write_38 : decode cX10_write 38 = .ok (.getfield 12, 3) := by decide +kernel
theorem dX10_write_41 : decode cX10_write 41 = .ok (.getfield 105, 3) := by decide +kernel
theorem dX10_write_44 : decode cX10_write 44 = .ok (.ireturn, 1) := by decide +kernel
theorem dX10_wipe_0 : decode cX10_wipe 0 = .ok (.aload_n 0, 1) := by decide +kernel
theorem dX10_wipe_1 : decode cX10_wipe 1 = .ok (.getfield 12, 3) := by decide +kernel
theorem dX10_wipe_4 : decode cX10_wipe 4 = .ok (.getfield 105, 3) := by decide +kernel
theorem dX10_wipe_7 : decode cX10_wipe 7 = .ok (.istore_n 1, 1) := by decide +kernel
theorem dX10_wipe_8 : decode cX10_wipe 8 = .ok (.aload_n 0, 1) := by decide +kernel
theorem dX10_wipe_9 : decode cX10_wipe 9 = .ok (.getfield 12, 3) := by decide +kernel
theorem dX10_wipe_12 : decode cX10_wipe 12 = .ok (.iconst 0, 1) := by decide +kernel
theorem dX10_wipe_13 : decode cX10_wipe 13 = .ok (.putfield 105, 3) := by decide +kernel
theorem dX10_wipe_16 : decode cX10_wipe 16 = .ok (.iload_n 1, 1) := by decide +kernel
theorem dX10_wipe_17 : decode cX10_wipe 17 = .ok (.ireturn, 1) := by decide +kernel
theorem dX10_fault_0 : decode cX10_fault 0 = .ok (.aload_n 0, 1) := by decide +kernel
theorem dX10_fault_1 : decode cX10_fault 1 = .ok (.getfield 12, 3) := by decide +kernel
theorem dX10_fault_4 : decode cX10_fault 4 = .ok (.aload_n 0, 1) := by decide +kernel
theorem dX10_fault_5 : decode cX10_fault 5 = .ok (.getfield 23, 3) := by decide +kernel
theorem dX10_fault_8 : decode cX10_fault 8 = .ok (.invokevirtual 112, 3) := by decide +kernel
theorem dX10_fault_11 : decode cX10_fault 11 = .ok (.ireturn, 1) := by decide +kernel
theorem dX10_machines_0 : decode cX10_machines 0 = .ok (.aload_n 0, 1) := by decide +kernel
theorem dX10_machines_1 : decode cX10_machines 1 = .ok (.getfield 12, 3) := by decide +kernel
theorem dX10_machines_4 : decode cX10_machines 4 = .ok (.aload_n 0, 1) := by decide +kernel
theorem dX10_machines_5 : decode cX10_machines 5 = .ok (.getfield 23, 3) := by decide +kernel
theorem dX10_machines_8 : decode cX10_machines 8 = .ok (.invokevirtual 112, 3) := by decide +kernel
theorem dX10_machines_11 : decode cX10_machines 11 = .ok (.bipush (-9), 2) := by decide +kernel
theorem dX10_machines_13 : decode cX10_machines 13 = .ok (.if_icmp .eq 6, 3) := by decide +kernel
theorem dX10_machines_16 : decode cX10_machines 16 = .ok (.bipush (-3), 2) := by decide +kernel
theorem dX10_machines_18 : decode cX10_machines 18 = .ok (.ireturn, 1) := by decide +kernel
theorem dX10_machines_19 : decode cX10_machines 19 = .ok (.aload_n 0, 1) := by decide +kernel
theorem dX10_machines_20 : decode cX10_machines 20 = .ok (.getfield 19, 3) := by decide +kernel
theorem dX10_machines_23 : decode cX10_machines 23 = .ok (.aload_n 0, 1) := by decide +kernel
theorem dX10_machines_24 : decode cX10_machines 24 = .ok (.getfield 23, 3) := by decide +kernel
theorem dX10_machines_27 : decode cX10_machines 27 = .ok (.invokevirtual 116, 3) := by decide +kernel
theorem dX10_machines_30 : decode cX10_machines 30 = .ok (.aload_n 0, 1) := by decide +kernel
theorem dX10_machines_31 : decode cX10_machines 31 = .ok (.getfield 29, 3) := by decide +kernel
theorem dX10_machines_34 : decode cX10_machines 34 = .ok (.iconst 0, 1) := by decide +kernel
theorem dX10_machines_35 : decode cX10_machines 35 = .ok (.putfield 120, 3) := by decide +kernel
theorem dX10_machines_38 : decode cX10_machines 38 = .ok (.iconst 0, 1) := by decide +kernel
theorem dX10_machines_39 : decode cX10_machines 39 = .ok (.istore_n 1, 1) := by decide +kernel
theorem dX10_machines_40 : decode cX10_machines 40 = .ok (.iload_n 1, 1) := by decide +kernel
theorem dX10_machines_41 : decode cX10_machines 41 = .ok (.iconst 2, 1) := by decide +kernel
theorem dX10_machines_42 : decode cX10_machines 42 = .ok (.if_icmp .ge 16, 3) := by decide +kernel
theorem dX10_machines_45 : decode cX10_machines 45 = .ok (.aload_n 0, 1) := by decide +kernel
theorem dX10_machines_46 : decode cX10_machines 46 = .ok (.getfield 37, 3) := by decide +kernel
theorem dX10_machines_49 : decode cX10_machines 49 = .ok (.iload_n 1, 1) := by decide +kernel
theorem dX10_machines_50 : decode cX10_machines 50 = .ok (.iconst 0, 1) := by decide +kernel
theorem dX10_machines_51 : decode cX10_machines 51 = .ok (.bastore, 1) := by decide +kernel
theorem dX10_machines_52 : decode cX10_machines 52 = .ok (.iinc 1 1, 3) := by decide +kernel
theorem dX10_machines_55 : decode cX10_machines 55 = .ok (.goto (-15), 3) := by decide +kernel
theorem dX10_machines_58 : decode cX10_machines 58 = .ok (.aload_n 0, 1) := by decide +kernel
theorem dX10_machines_59 : decode cX10_machines 59 = .ok (.getfield 19, 3) := by decide +kernel
theorem dX10_machines_62 : decode cX10_machines 62 = .ok (.invokevirtual 121, 3) := by decide +kernel
theorem dX10_machines_65 : decode cX10_machines 65 = .ok (.ireturn, 1) := by decide +kernel
theorem dX10_edge_0 : decode cX10_edge 0 = .ok (.aload_n 0, 1) := by decide +kernel
theorem dX10_edge_1 : decode cX10_edge 1 = .ok (.getfield 19, 3) := by decide +kernel
theorem dX10_edge_4 : decode cX10_edge 4 = .ok (.iload_n 1, 1) := by decide +kernel
theorem dX10_edge_5 : decode cX10_edge 5 = .ok (.iload_n 2, 1) := by decide +kernel
theorem dX10_edge_6 : decode cX10_edge 6 = .ok (.iload_n 3, 1) := by decide +kernel
theorem dX10_edge_7 : decode cX10_edge 7 = .ok (.iload 4, 2) := by decide +kernel
theorem dX10_edge_9 : decode cX10_edge 9 = .ok (.invokestatic 125, 3) := by decide +kernel
theorem dX10_edge_12 : decode cX10_edge 12 = .ok (.ifCond .ne 5, 3) := by decide +kernel
theorem dX10_edge_15 : decode cX10_edge 15 = .ok (.iconst (-1), 1) := by decide +kernel
theorem dX10_edge_16 : decode cX10_edge 16 = .ok (.ireturn, 1) := by decide +kernel
theorem dX10_edge_17 : decode cX10_edge 17 = .ok (.aload_n 0, 1) := by decide +kernel
theorem dX10_edge_18 : decode cX10_edge 18 = .ok (.getfield 19, 3) := by decide +kernel
theorem dX10_edge_21 : decode cX10_edge 21 = .ok (.iload_n 1, 1) := by decide +kernel
theorem dX10_edge_22 : decode cX10_edge 22 = .ok (.invokevirtual 129, 3) := by decide +kernel
theorem dX10_edge_25 : decode cX10_edge 25 = .ok (.iload_n 2, 1) := by decide +kernel
theorem dX10_edge_26 : decode cX10_edge 26 = .ok (.iload_n 3, 1) := by decide +kernel
theorem dX10_edge_27 : decode cX10_edge 27 = .ok (.iload 4, 2) := by decide +kernel
theorem dX10_edge_29 : decode cX10_edge 29 = .ok (.invokevirtual 133, 3) := by decide +kernel
theorem dX10_edge_32 : decode cX10_edge 32 = .ok (.invokestatic 137, 3) := by decide +kernel
theorem dX10_edge_35 : decode cX10_edge 35 = .ok (.ireturn, 1) := by decide +kernel
theorem dX10_turn_0 : decode cX10_turn 0 = .ok (.aload_n 0, 1) := by decide +kernel
theorem dX10_turn_1 : decode cX10_turn 1 = .ok (.getfield 19, 3) := by decide +kernel
theorem dX10_turn_4 : decode cX10_turn 4 = .ok (.iload_n 1, 1) := by decide +kernel
theorem dX10_turn_5 : decode cX10_turn 5 = .ok (.iload_n 2, 1) := by decide +kernel
theorem dX10_turn_6 : decode cX10_turn 6 = .ok (.iload_n 3, 1) := by decide +kernel
theorem dX10_turn_7 : decode cX10_turn 7 = .ok (.iload 4, 2) := by decide +kernel
theorem dX10_turn_9 : decode cX10_turn 9 = .ok (.invokestatic 125, 3) := by decide +kernel
theorem dX10_turn_12 : decode cX10_turn 12 = .ok (.ifCond .ne 5, 3) := by decide +kernel
theorem dX10_turn_15 : decode cX10_turn 15 = .ok (.iconst (-1), 1) := by decide +kernel
theorem dX10_turn_16 : decode cX10_turn 16 = .ok (.ireturn, 1) := by decide +kernel
theorem dX10_turn_17 : decode cX10_turn 17 = .ok (.aload_n 0, 1) := by decide +kernel
theorem dX10_turn_18 : decode cX10_turn 18 = .ok (.getfield 29, 3) := by decide +kernel
theorem dX10_turn_21 : decode cX10_turn 21 = .ok (.iload_n 1, 1) := by decide +kernel
theorem dX10_turn_22 : decode cX10_turn 22 = .ok (.iload_n 2, 1) := by decide +kernel
theorem dX10_turn_23 : decode cX10_turn 23 = .ok (.iload_n 3, 1) := by decide +kernel
theorem dX10_turn_24 : decode cX10_turn 24 = .ok (.iload 4, 2) := by decide +kernel
theorem dX10_turn_26 : decode cX10_turn 26 = .ok (.invokestatic 141, 3) := by decide +kernel
theorem dX10_turn_29 : decode cX10_turn 29 = .ok (.invokevirtual 145, 3) := by decide +kernel
theorem dX10_turn_32 : decode cX10_turn 32 = .ok (.aload_n 0, 1) := by decide +kernel
theorem dX10_turn_33 : decode cX10_turn 33 = .ok (.getfield 19, 3) := by decide +kernel
theorem dX10_turn_36 : decode cX10_turn 36 = .ok (.iload_n 1, 1) := by decide +kernel
theorem dX10_turn_37 : decode cX10_turn 37 = .ok (.invokevirtual 129, 3) := by decide +kernel
theorem dX10_turn_40 : decode cX10_turn 40 = .ok (.iload_n 2, 1) := by decide +kernel
theorem dX10_turn_41 : decode cX10_turn 41 = .ok (.iload_n 3, 1) := by decide +kernel
theorem dX10_turn_42 : decode cX10_turn 42 = .ok (.iload 4, 2) := by decide +kernel
theorem dX10_turn_44 : decode cX10_turn 44 = .ok (.invokevirtual 55, 3) := by decide +kernel
theorem dX10_turn_47 : decode cX10_turn 47 = .ok (.aload_n 0, 1) := by decide +kernel
theorem dX10_turn_48 : decode cX10_turn 48 = .ok (.getfield 19, 3) := by decide +kernel
theorem dX10_turn_51 : decode cX10_turn 51 = .ok (.iload_n 1, 1) := by decide +kernel
theorem dX10_turn_52 : decode cX10_turn 52 = .ok (.invokevirtual 129, 3) := by decide +kernel
theorem dX10_turn_55 : decode cX10_turn 55 = .ok (.iload_n 2, 1) := by decide +kernel
theorem dX10_turn_56 : decode cX10_turn 56 = .ok (.iload_n 3, 1) := by decide +kernel
theorem dX10_turn_57 : decode cX10_turn 57 = .ok (.iload 4, 2) := by decide +kernel
theorem dX10_turn_59 : decode cX10_turn 59 = .ok (.invokevirtual 133, 3) := by decide +kernel
theorem dX10_turn_62 : decode cX10_turn 62 = .ok (.invokestatic 137, 3) := by decide +kernel
theorem dX10_turn_65 : decode cX10_turn 65 = .ok (.ireturn, 1) := by decide +kernel
theorem dX10_end_0 : decode cX10_end 0 = .ok (.aload_n 0, 1) := by decide +kernel
theorem dX10_end_1 : decode cX10_end 1 = .ok (.getfield 19, 3) := by decide +kernel
theorem dX10_end_4 : decode cX10_end 4 = .ok (.iload_n 1, 1) := by decide +kernel
theorem dX10_end_5 : decode cX10_end 5 = .ok (.iload_n 2, 1) := by decide +kernel
theorem dX10_end_6 : decode cX10_end 6 = .ok (.invokestatic 146, 3) := by decide +kernel
theorem dX10_end_9 : decode cX10_end 9 = .ok (.ifCond .ne 5, 3) := by decide +kernel
theorem dX10_end_12 : decode cX10_end 12 = .ok (.iconst (-1), 1) := by decide +kernel
theorem dX10_end_13 : decode cX10_end 13 = .ok (.ireturn, 1) := by decide +kernel
theorem dX10_end_14 : decode cX10_end 14 = .ok (.aload_n 0, 1) := by decide +kernel
theorem dX10_end_15 : decode cX10_end 15 = .ok (.getfield 29, 3) := by decide +kernel
theorem dX10_end_18 : decode cX10_end 18 = .ok (.iload_n 1, 1) := by decide +kernel
theorem dX10_end_19 : decode cX10_end 19 = .ok (.iload_n 2, 1) := by decide +kernel
theorem dX10_end_20 : decode cX10_end 20 = .ok (.invokestatic 150, 3) := by decide +kernel
theorem dX10_end_23 : decode cX10_end 23 = .ok (.invokevirtual 145, 3) := by decide +kernel
theorem dX10_end_26 : decode cX10_end 26 = .ok (.aload_n 0, 1) := by decide +kernel
theorem dX10_end_27 : decode cX10_end 27 = .ok (.getfield 19, 3) := by decide +kernel
theorem dX10_end_30 : decode cX10_end 30 = .ok (.iload_n 1, 1) := by decide +kernel
theorem dX10_end_31 : decode cX10_end 31 = .ok (.invokevirtual 129, 3) := by decide +kernel
theorem dX10_end_34 : decode cX10_end 34 = .ok (.iload_n 2, 1) := by decide +kernel
theorem dX10_end_35 : decode cX10_end 35 = .ok (.invokevirtual 59, 3) := by decide +kernel
theorem dX10_end_38 : decode cX10_end 38 = .ok (.aload_n 0, 1) := by decide +kernel
theorem dX10_end_39 : decode cX10_end 39 = .ok (.getfield 19, 3) := by decide +kernel
theorem dX10_end_42 : decode cX10_end 42 = .ok (.iload_n 1, 1) := by decide +kernel
theorem dX10_end_43 : decode cX10_end 43 = .ok (.invokevirtual 129, 3) := by decide +kernel
theorem dX10_end_46 : decode cX10_end 46 = .ok (.iload_n 2, 1) := by decide +kernel
theorem dX10_end_47 : decode cX10_end 47 = .ok (.invokevirtual 154, 3) := by decide +kernel
theorem dX10_end_50 : decode cX10_end 50 = .ok (.invokestatic 137, 3) := by decide +kernel
theorem dX10_end_53 : decode cX10_end 53 = .ok (.ireturn, 1) := by decide +kernel
theorem dX10_undo_0 : decode cX10_undo 0 = .ok (.aload_n 0, 1) := by decide +kernel
theorem dX10_undo_1 : decode cX10_undo 1 = .ok (.getfield 29, 3) := by decide +kernel
theorem dX10_undo_4 : decode cX10_undo 4 = .ok (.getfield 120, 3) := by decide +kernel
theorem dX10_undo_7 : decode cX10_undo 7 = .ok (.ifCond .ne 6, 3) := by decide +kernel
theorem dX10_undo_10 : decode cX10_undo 10 = .ok (.bipush (-3), 2) := by decide +kernel
theorem dX10_undo_12 : decode cX10_undo 12 = .ok (.ireturn, 1) := by decide +kernel
theorem dX10_undo_13 : decode cX10_undo 13 = .ok (.aload_n 0, 1) := by decide +kernel
theorem dX10_undo_14 : decode cX10_undo 14 = .ok (.getfield 29, 3) := by decide +kernel
theorem dX10_undo_17 : decode cX10_undo 17 = .ok (.aload_n 0, 1) := by decide +kernel
theorem dX10_undo_18 : decode cX10_undo 18 = .ok (.getfield 19, 3) := by decide +kernel
theorem dX10_undo_21 : decode cX10_undo 21 = .ok (.invokevirtual 158, 3) := by decide +kernel
theorem dX10_undo_24 : decode cX10_undo 24 = .ok (.aload_n 0, 1) := by decide +kernel
theorem dX10_undo_25 : decode cX10_undo 25 = .ok (.getfield 29, 3) := by decide +kernel
theorem dX10_undo_28 : decode cX10_undo 28 = .ok (.getfield 120, 3) := by decide +kernel
theorem dX10_undo_31 : decode cX10_undo 31 = .ok (.ireturn, 1) := by decide +kernel
theorem dX10_takes_0 : decode cX10_takes 0 = .ok (.iload_n 1, 1) := by decide +kernel
theorem dX10_takes_1 : decode cX10_takes 1 = .ok (.invokestatic 161, 3) := by decide +kernel
theorem dX10_takes_4 : decode cX10_takes 4 = .ok (.ifCond .ne 5, 3) := by decide +kernel
theorem dX10_takes_7 : decode cX10_takes 7 = .ok (.iconst (-1), 1) := by decide +kernel
theorem dX10_takes_8 : decode cX10_takes 8 = .ok (.ireturn, 1) := by decide +kernel
theorem dX10_takes_9 : decode cX10_takes 9 = .ok (.iload_n 2, 1) := by decide +kernel
theorem dX10_takes_10 : decode cX10_takes 10 = .ok (.invokestatic 164, 3) := by decide +kernel
theorem dX10_takes_13 : decode cX10_takes 13 = .ok (.ifCond .ne 6, 3) := by decide +kernel
theorem dX10_takes_16 : decode cX10_takes 16 = .ok (.bipush (-2), 2) := by decide +kernel
theorem dX10_takes_18 : decode cX10_takes 18 = .ok (.ireturn, 1) := by decide +kernel
theorem dX10_takes_19 : decode cX10_takes 19 = .ok (.aload_n 0, 1) := by decide +kernel
theorem dX10_takes_20 : decode cX10_takes 20 = .ok (.getfield 19, 3) := by decide +kernel
theorem dX10_takes_23 : decode cX10_takes 23 = .ok (.iload_n 1, 1) := by decide +kernel
theorem dX10_takes_24 : decode cX10_takes 24 = .ok (.invokevirtual 129, 3) := by decide +kernel
theorem dX10_takes_27 : decode cX10_takes 27 = .ok (.iconst 1, 1) := by decide +kernel
theorem dX10_takes_28 : decode cX10_takes 28 = .ok (.iload_n 2, 1) := by decide +kernel
theorem dX10_takes_29 : decode cX10_takes 29 = .ok (.invokevirtual 167, 3) := by decide +kernel
theorem dX10_takes_32 : decode cX10_takes 32 = .ok (.invokestatic 137, 3) := by decide +kernel
theorem dX10_takes_35 : decode cX10_takes 35 = .ok (.ireturn, 1) := by decide +kernel
theorem dX10_after_0 : decode cX10_after 0 = .ok (.iload_n 1, 1) := by decide +kernel
theorem dX10_after_1 : decode cX10_after 1 = .ok (.invokestatic 161, 3) := by decide +kernel
theorem dX10_after_4 : decode cX10_after 4 = .ok (.ifCond .ne 5, 3) := by decide +kernel
theorem dX10_after_7 : decode cX10_after 7 = .ok (.iconst (-1), 1) := by decide +kernel
theorem dX10_after_8 : decode cX10_after 8 = .ok (.ireturn, 1) := by decide +kernel
theorem dX10_after_9 : decode cX10_after 9 = .ok (.iload_n 2, 1) := by decide +kernel
theorem dX10_after_10 : decode cX10_after 10 = .ok (.invokestatic 164, 3) := by decide +kernel
theorem dX10_after_13 : decode cX10_after 13 = .ok (.ifCond .ne 6, 3) := by decide +kernel
theorem dX10_after_16 : decode cX10_after 16 = .ok (.bipush (-2), 2) := by decide +kernel
theorem dX10_after_18 : decode cX10_after 18 = .ok (.ireturn, 1) := by decide +kernel
theorem dX10_after_19 : decode cX10_after 19 = .ok (.aload_n 0, 1) := by decide +kernel
theorem dX10_after_20 : decode cX10_after 20 = .ok (.getfield 19, 3) := by decide +kernel
theorem dX10_after_23 : decode cX10_after 23 = .ok (.iload_n 1, 1) := by decide +kernel
theorem dX10_after_24 : decode cX10_after 24 = .ok (.invokevirtual 129, 3) := by decide +kernel
theorem dX10_after_27 : decode cX10_after 27 = .ok (.iconst 1, 1) := by decide +kernel
theorem dX10_after_28 : decode cX10_after 28 = .ok (.iload_n 2, 1) := by decide +kernel
theorem dX10_after_29 : decode cX10_after 29 = .ok (.invokevirtual 171, 3) := by decide +kernel
theorem dX10_after_32 : decode cX10_after 32 = .ok (.ireturn, 1) := by decide +kernel
theorem dX10_many_0 : decode cX10_many 0 = .ok (.iload_n 1, 1) := by decide +kernel
theorem dX10_many_1 : decode cX10_many 1 = .ok (.ifCond .lt 18, 3) := by decide +kernel
theorem dX10_many_4 : decode cX10_many 4 = .ok (.iload_n 1, 1) := by decide +kernel
theorem dX10_many_5 : decode cX10_many 5 = .ok (.bipush 9, 2) := by decide +kernel
theorem dX10_many_7 : decode cX10_many 7 = .ok (.if_icmp .gt 12, 3) := by decide +kernel
theorem dX10_many_10 : decode cX10_many 10 = .ok (.iload_n 2, 1) := by decide +kernel
theorem dX10_many_11 : decode cX10_many 11 = .ok (.ifCond .lt 8, 3) := by decide +kernel
theorem dX10_many_14 : decode cX10_many 14 = .ok (.iload_n 2, 1) := by decide +kernel
theorem dX10_many_15 : decode cX10_many 15 = .ok (.iconst 3, 1) := by decide +kernel
theorem dX10_many_16 : decode cX10_many 16 = .ok (.if_icmp .le 6, 3) := by decide +kernel
theorem dX10_many_19 : decode cX10_many 19 = .ok (.bipush (-2), 2) := by decide +kernel
theorem dX10_many_21 : decode cX10_many 21 = .ok (.ireturn, 1) := by decide +kernel
theorem dX10_many_22 : decode cX10_many 22 = .ok (.aload_n 0, 1) := by decide +kernel
theorem dX10_many_23 : decode cX10_many 23 = .ok (.getfield 101, 3) := by decide +kernel
theorem dX10_many_26 : decode cX10_many 26 = .ok (.aload_n 0, 1) := by decide +kernel
theorem dX10_many_27 : decode cX10_many 27 = .ok (.getfield 19, 3) := by decide +kernel
theorem dX10_many_30 : decode cX10_many 30 = .ok (.iload_n 1, 1) := by decide +kernel
theorem dX10_many_31 : decode cX10_many 31 = .ok (.invokevirtual 174, 3) := by decide +kernel
theorem dX10_many_34 : decode cX10_many 34 = .ok (.iconst 0, 1) := by decide +kernel
theorem dX10_many_35 : decode cX10_many 35 = .ok (.istore_n 3, 1) := by decide +kernel
theorem dX10_many_36 : decode cX10_many 36 = .ok (.iconst 1, 1) := by decide +kernel
theorem dX10_many_37 : decode cX10_many 37 = .ok (.iload_n 1, 1) := by decide +kernel
theorem dX10_many_38 : decode cX10_many 38 = .ok (.ishl, 1) := by decide +kernel
theorem dX10_many_39 : decode cX10_many 39 = .ok (.istore 4, 2) := by decide +kernel
theorem dX10_many_41 : decode cX10_many 41 = .ok (.iload 4, 2) := by decide +kernel
theorem dX10_many_43 : decode cX10_many 43 = .ok (.iconst 2, 1) := by decide +kernel
theorem dX10_many_44 : decode cX10_many 44 = .ok (.iload_n 1, 1) := by decide +kernel
theorem dX10_many_45 : decode cX10_many 45 = .ok (.ishl, 1) := by decide +kernel
theorem dX10_many_46 : decode cX10_many 46 = .ok (.if_icmp .ge 65, 3) := by decide +kernel
theorem dX10_many_49 : decode cX10_many 49 = .ok (.aload_n 0, 1) := by decide +kernel
theorem dX10_many_50 : decode cX10_many 50 = .ok (.getfield 19, 3) := by decide +kernel
theorem dX10_many_53 : decode cX10_many 53 = .ok (.getfield 178, 3) := by decide +kernel
theorem dX10_many_56 : decode cX10_many 56 = .ok (.aload_n 0, 1) := by decide +kernel
theorem dX10_many_57 : decode cX10_many 57 = .ok (.getfield 101, 3) := by decide +kernel
theorem dX10_many_60 : decode cX10_many 60 = .ok (.iload 4, 2) := by decide +kernel
theorem dX10_many_62 : decode cX10_many 62 = .ok (.invokevirtual 181, 3) := by decide +kernel
theorem dX10_many_65 : decode cX10_many 65 = .ok (.invokevirtual 185, 3) := by decide +kernel
theorem dX10_many_68 : decode cX10_many 68 = .ok (.istore 5, 2) := by decide +kernel
theorem dX10_many_70 : decode cX10_many 70 = .ok (.aload_n 0, 1) := by decide +kernel
theorem dX10_many_71 : decode cX10_many 71 = .ok (.getfield 19, 3) := by decide +kernel
theorem dX10_many_74 : decode cX10_many 74 = .ok (.getfield 188, 3) := by decide +kernel
theorem dX10_many_77 : decode cX10_many 77 = .ok (.aload_n 0, 1) := by decide +kernel
theorem dX10_many_78 : decode cX10_many 78 = .ok (.getfield 101, 3) := by decide +kernel
theorem dX10_many_81 : decode cX10_many 81 = .ok (.iload 4, 2) := by decide +kernel
theorem dX10_many_83 : decode cX10_many 83 = .ok (.invokevirtual 191, 3) := by decide +kernel
theorem dX10_many_86 : decode cX10_many 86 = .ok (.invokevirtual 185, 3) := by decide +kernel
theorem dX10_many_89 : decode cX10_many 89 = .ok (.istore 6, 2) := by decide +kernel
theorem dX10_many_91 : decode cX10_many 91 = .ok (.iload_n 3, 1) := by decide +kernel
theorem dX10_many_92 : decode cX10_many 92 = .ok (.iload_n 2, 1) := by decide +kernel
theorem dX10_many_93 : decode cX10_many 93 = .ok (.iload 5, 2) := by decide +kernel
theorem dX10_many_95 : decode cX10_many 95 = .ok (.iload 6, 2) := by decide +kernel
theorem dX10_many_97 : decode cX10_many 97 = .ok (.invokestatic 194, 3) := by decide +kernel
theorem dX10_many_100 : decode cX10_many 100 = .ok (.invokestatic 137, 3) := by decide +kernel
theorem dX10_many_103 : decode cX10_many 103 = .ok (.iadd, 1) := by decide +kernel
theorem dX10_many_104 : decode cX10_many 104 = .ok (.istore_n 3, 1) := by decide +kernel
theorem dX10_many_105 : decode cX10_many 105 = .ok (.iinc 4 1, 3) := by decide +kernel
theorem dX10_many_108 : decode cX10_many 108 = .ok (.goto (-67), 3) := by decide +kernel
theorem dX10_many_111 : decode cX10_many 111 = .ok (.iload_n 3, 1) := by decide +kernel
theorem dX10_many_112 : decode cX10_many 112 = .ok (.ireturn, 1) := by decide +kernel
theorem dX10_within_0 : decode cX10_within 0 = .ok (.aload_n 0, 1) := by decide +kernel
theorem dX10_within_1 : decode cX10_within 1 = .ok (.getfield 80, 3) := by decide +kernel
theorem dX10_within_4 : decode cX10_within 4 = .ok (.aload_n 0, 1) := by decide +kernel
theorem dX10_within_5 : decode cX10_within 5 = .ok (.getfield 19, 3) := by decide +kernel
theorem dX10_within_8 : decode cX10_within 8 = .ok (.invokevirtual 198, 3) := by decide +kernel
theorem dX10_within_11 : decode cX10_within 11 = .ok (.invokestatic 137, 3) := by decide +kernel
theorem dX10_within_14 : decode cX10_within 14 = .ok (.ireturn, 1) := by decide +kernel
theorem dX10_missing_0 : decode cX10_missing 0 = .ok (.iload_n 1, 1) := by decide +kernel
theorem dX10_missing_1 : decode cX10_missing 1 = .ok (.invokestatic 202, 3) := by decide +kernel
theorem dX10_missing_4 : decode cX10_missing 4 = .ok (.ifCond .ne 6, 3) := by decide +kernel
theorem dX10_missing_7 : decode cX10_missing 7 = .ok (.bipush (-2), 2) := by decide +kernel
theorem dX10_missing_9 : decode cX10_missing 9 = .ok (.ireturn, 1) := by decide +kernel
theorem dX10_missing_10 : decode cX10_missing 10 = .ok (.aload_n 0, 1) := by decide +kernel
theorem dX10_missing_11 : decode cX10_missing 11 = .ok (.getfield 73, 3) := by decide +kernel
theorem dX10_missing_14 : decode cX10_missing 14 = .ok (.aload_n 0, 1) := by decide +kernel
theorem dX10_missing_15 : decode cX10_missing 15 = .ok (.getfield 19, 3) := by decide +kernel
theorem dX10_missing_18 : decode cX10_missing 18 = .ok (.getfield 178, 3) := by decide +kernel
theorem dX10_missing_21 : decode cX10_missing 21 = .ok (.aload_n 0, 1) := by decide +kernel
theorem dX10_missing_22 : decode cX10_missing 22 = .ok (.getfield 19, 3) := by decide +kernel
theorem dX10_missing_25 : decode cX10_missing 25 = .ok (.getfield 188, 3) := by decide +kernel
theorem dX10_missing_28 : decode cX10_missing 28 = .ok (.aload_n 0, 1) := by decide +kernel
theorem dX10_missing_29 : decode cX10_missing 29 = .ok (.getfield 66, 3) := by decide +kernel
theorem dX10_missing_32 : decode cX10_missing 32 = .ok (.invokevirtual 205, 3) := by decide +kernel
theorem dX10_missing_35 : decode cX10_missing 35 = .ok (.aload_n 0, 1) := by decide +kernel
theorem dX10_missing_36 : decode cX10_missing 36 = .ok (.getfield 66, 3) := by decide +kernel
theorem dX10_missing_39 : decode cX10_missing 39 = .ok (.iload_n 1, 1) := by decide +kernel
theorem dX10_missing_40 : decode cX10_missing 40 = .ok (.invokevirtual 209, 3) := by decide +kernel
theorem dX10_missing_43 : decode cX10_missing 43 = .ok (.ireturn, 1) := by decide +kernel
theorem dX10_leftOut_0 : decode cX10_leftOut 0 = .ok (.iload_n 1, 1) := by decide +kernel
theorem dX10_leftOut_1 : decode cX10_leftOut 1 = .ok (.invokestatic 161, 3) := by decide +kernel
theorem dX10_leftOut_4 : decode cX10_leftOut 4 = .ok (.ifCond .ne 5, 3) := by decide +kernel
theorem dX10_leftOut_7 : decode cX10_leftOut 7 = .ok (.iconst (-1), 1) := by decide +kernel
theorem dX10_leftOut_8 : decode cX10_leftOut 8 = .ok (.ireturn, 1) := by decide +kernel
theorem dX10_leftOut_9 : decode cX10_leftOut 9 = .ok (.iload_n 2, 1) := by decide +kernel
theorem dX10_leftOut_10 : decode cX10_leftOut 10 = .ok (.invokestatic 202, 3) := by decide +kernel
theorem dX10_leftOut_13 : decode cX10_leftOut 13 = .ok (.ifCond .ne 6, 3) := by decide +kernel
theorem dX10_leftOut_16 : decode cX10_leftOut 16 = .ok (.bipush (-2), 2) := by decide +kernel
theorem dX10_leftOut_18 : decode cX10_leftOut 18 = .ok (.ireturn, 1) := by decide +kernel
theorem dX10_leftOut_19 : decode cX10_leftOut 19 = .ok (.aload_n 0, 1) := by decide +kernel
theorem dX10_leftOut_20 : decode cX10_leftOut 20 = .ok (.getfield 73, 3) := by decide +kernel
theorem dX10_leftOut_23 : decode cX10_leftOut 23 = .ok (.aload_n 0, 1) := by decide +kernel
theorem dX10_leftOut_24 : decode cX10_leftOut 24 = .ok (.getfield 51, 3) := by decide +kernel
theorem dX10_leftOut_27 : decode cX10_leftOut 27 = .ok (.aload_n 0, 1) := by decide +kernel
theorem dX10_leftOut_28 : decode cX10_leftOut 28 = .ok (.getfield 19, 3) := by decide +kernel
theorem dX10_leftOut_31 : decode cX10_leftOut 31 = .ok (.iload_n 1, 1) := by decide +kernel
theorem dX10_leftOut_32 : decode cX10_leftOut 32 = .ok (.invokevirtual 129, 3) := by decide +kernel
theorem dX10_leftOut_35 : decode cX10_leftOut 35 = .ok (.aload_n 0, 1) := by decide +kernel
theorem dX10_leftOut_36 : decode cX10_leftOut 36 = .ok (.getfield 66, 3) := by decide +kernel
theorem dX10_leftOut_39 : decode cX10_leftOut 39 = .ok (.invokevirtual 205, 3) := by decide +kernel
theorem dX10_leftOut_42 : decode cX10_leftOut 42 = .ok (.aload_n 0, 1) := by decide +kernel
theorem dX10_leftOut_43 : decode cX10_leftOut 43 = .ok (.getfield 66, 3) := by decide +kernel
theorem dX10_leftOut_46 : decode cX10_leftOut 46 = .ok (.iload_n 2, 1) := by decide +kernel
theorem dX10_leftOut_47 : decode cX10_leftOut 47 = .ok (.invokevirtual 209, 3) := by decide +kernel
theorem dX10_leftOut_50 : decode cX10_leftOut 50 = .ok (.ireturn, 1) := by decide +kernel
theorem dX10_follows_0 : decode cX10_follows 0 = .ok (.aload_n 0, 1) := by decide +kernel
theorem dX10_follows_1 : decode cX10_follows 1 = .ok (.getfield 19, 3) := by decide +kernel
theorem dX10_follows_4 : decode cX10_follows 4 = .ok (.iload_n 1, 1) := by decide +kernel
theorem dX10_follows_5 : decode cX10_follows 5 = .ok (.iload_n 2, 1) := by decide +kernel
theorem dX10_follows_6 : decode cX10_follows 6 = .ok (.invokestatic 146, 3) := by decide +kernel
theorem dX10_follows_9 : decode cX10_follows 9 = .ok (.ifCond .eq 16, 3) := by decide +kernel
theorem dX10_follows_12 : decode cX10_follows 12 = .ok (.aload_n 0, 1) := by decide +kernel
theorem dX10_follows_13 : decode cX10_follows 13 = .ok (.getfield 19, 3) := by decide +kernel
theorem dX10_follows_16 : decode cX10_follows 16 = .ok (.iload_n 3, 1) := by decide +kernel
theorem dX10_follows_17 : decode cX10_follows 17 = .ok (.iload 4, 2) := by decide +kernel
theorem dX10_follows_19 : decode cX10_follows 19 = .ok (.invokestatic 146, 3) := by decide +kernel
theorem dX10_follows_22 : decode cX10_follows 22 = .ok (.ifCond .ne 5, 3) := by decide +kernel
theorem dX10_follows_25 : decode cX10_follows 25 = .ok (.iconst (-1), 1) := by decide +kernel
theorem dX10_follows_26 : decode cX10_follows 26 = .ok (.ireturn, 1) := by decide +kernel
theorem dX10_follows_27 : decode cX10_follows 27 = .ok (.aload_n 0, 1) := by decide +kernel
theorem dX10_follows_28 : decode cX10_follows 28 = .ok (.getfield 87, 3) := by decide +kernel
theorem dX10_follows_31 : decode cX10_follows 31 = .ok (.aload_n 0, 1) := by decide +kernel
theorem dX10_follows_32 : decode cX10_follows 32 = .ok (.getfield 19, 3) := by decide +kernel
theorem dX10_follows_35 : decode cX10_follows 35 = .ok (.invokevirtual 212, 3) := by decide +kernel
theorem dX10_follows_38 : decode cX10_follows 38 = .ok (.aload_n 0, 1) := by decide +kernel
theorem dX10_follows_39 : decode cX10_follows 39 = .ok (.getfield 87, 3) := by decide +kernel
theorem dX10_follows_42 : decode cX10_follows 42 = .ok (.iload_n 1, 1) := by decide +kernel
theorem dX10_follows_43 : decode cX10_follows 43 = .ok (.iload_n 2, 1) := by decide +kernel
theorem dX10_follows_44 : decode cX10_follows 44 = .ok (.iload_n 3, 1) := by decide +kernel
theorem dX10_follows_45 : decode cX10_follows 45 = .ok (.iconst 1, 1) := by decide +kernel
theorem dX10_follows_46 : decode cX10_follows 46 = .ok (.iload 4, 2) := by decide +kernel
theorem dX10_follows_48 : decode cX10_follows 48 = .ok (.ishl, 1) := by decide +kernel
theorem dX10_follows_49 : decode cX10_follows 49 = .ok (.invokevirtual 215, 3) := by decide +kernel
theorem dX10_follows_52 : decode cX10_follows 52 = .ok (.invokestatic 137, 3) := by decide +kernel
theorem dX10_follows_55 : decode cX10_follows 55 = .ok (.ireturn, 1) := by decide +kernel
theorem dX10_search_0 : decode cX10_search 0 = .ok (.iload_n 1, 1) := by decide +kernel
theorem dX10_search_1 : decode cX10_search 1 = .ok (.invokestatic 218, 3) := by decide +kernel
theorem dX10_search_4 : decode cX10_search 4 = .ok (.ifCond .eq 12, 3) := by decide +kernel
theorem dX10_search_7 : decode cX10_search 7 = .ok (.iload_n 2, 1) := by decide +kernel
theorem dX10_search_8 : decode cX10_search 8 = .ok (.ifCond .lt 8, 3) := by decide +kernel
theorem dX10_search_11 : decode cX10_search 11 = .ok (.iload_n 2, 1) := by decide +kernel
theorem dX10_search_12 : decode cX10_search 12 = .ok (.iconst 4, 1) := by decide +kernel
theorem dX10_search_13 : decode cX10_search 13 = .ok (.if_icmp .le 6, 3) := by decide +kernel
theorem dX10_search_16 : decode cX10_search 16 = .ok (.bipush (-2), 2) := by decide +kernel
theorem dX10_search_18 : decode cX10_search 18 = .ok (.ireturn, 1) := by decide +kernel
theorem dX10_search_19 : decode cX10_search 19 = .ok (.aload_n 0, 1) := by decide +kernel
theorem dX10_search_20 : decode cX10_search 20 = .ok (.getfield 94, 3) := by decide +kernel
theorem dX10_search_23 : decode cX10_search 23 = .ok (.aload_n 0, 1) := by decide +kernel
theorem dX10_search_24 : decode cX10_search 24 = .ok (.getfield 19, 3) := by decide +kernel
theorem dX10_search_27 : decode cX10_search 27 = .ok (.iload_n 1, 1) := by decide +kernel
theorem dX10_search_28 : decode cX10_search 28 = .ok (.invokevirtual 221, 3) := by decide +kernel
theorem dX10_search_31 : decode cX10_search 31 = .ok (.iload_n 2, 1) := by decide +kernel
theorem dX10_search_32 : decode cX10_search 32 = .ok (.tableswitch 83 0 3 #[32, 51, 59, 75], 32) := by decide +kernel
theorem dX10_search_64 : decode cX10_search 64 = .ok (.aload_n 0, 1) := by decide +kernel
theorem dX10_search_65 : decode cX10_search 65 = .ok (.getfield 94, 3) := by decide +kernel
theorem dX10_search_68 : decode cX10_search 68 = .ok (.getfield 224, 3) := by decide +kernel
theorem dX10_search_71 : decode cX10_search 71 = .ok (.ifCond .ge 7, 3) := by decide +kernel
theorem dX10_search_74 : decode cX10_search 74 = .ok (.iconst 1, 1) := by decide +kernel
theorem dX10_search_75 : decode cX10_search 75 = .ok (.goto 4, 3) := by decide +kernel
theorem dX10_search_78 : decode cX10_search 78 = .ok (.iconst 0, 1) := by decide +kernel
theorem dX10_search_79 : decode cX10_search 79 = .ok (.invokestatic 137, 3) := by decide +kernel
theorem dX10_search_82 : decode cX10_search 82 = .ok (.ireturn, 1) := by decide +kernel
theorem dX10_search_83 : decode cX10_search 83 = .ok (.aload_n 0, 1) := by decide +kernel
theorem dX10_search_84 : decode cX10_search 84 = .ok (.getfield 94, 3) := by decide +kernel
theorem dX10_search_87 : decode cX10_search 87 = .ok (.getfield 227, 3) := by decide +kernel
theorem dX10_search_90 : decode cX10_search 90 = .ok (.ireturn, 1) := by decide +kernel
theorem dX10_search_91 : decode cX10_search 91 = .ok (.aload_n 0, 1) := by decide +kernel
theorem dX10_search_92 : decode cX10_search 92 = .ok (.getfield 94, 3) := by decide +kernel
theorem dX10_search_95 : decode cX10_search 95 = .ok (.getfield 230, 3) := by decide +kernel
theorem dX10_search_98 : decode cX10_search 98 = .ok (.aload_n 0, 1) := by decide +kernel
theorem dX10_search_99 : decode cX10_search 99 = .ok (.getfield 94, 3) := by decide +kernel
theorem dX10_search_102 : decode cX10_search 102 = .ok (.getfield 231, 3) := by decide +kernel
theorem dX10_search_105 : decode cX10_search 105 = .ok (.isub, 1) := by decide +kernel
theorem dX10_search_106 : decode cX10_search 106 = .ok (.ireturn, 1) := by decide +kernel
theorem dX10_search_107 : decode cX10_search 107 = .ok (.aload_n 0, 1) := by decide +kernel
theorem dX10_search_108 : decode cX10_search 108 = .ok (.getfield 94, 3) := by decide +kernel
theorem dX10_search_111 : decode cX10_search 111 = .ok (.getfield 234, 3) := by decide +kernel
theorem dX10_search_114 : decode cX10_search 114 = .ok (.ireturn, 1) := by decide +kernel
theorem dX10_search_115 : decode cX10_search 115 = .ok (.aload_n 0, 1) := by decide +kernel
theorem dX10_search_116 : decode cX10_search 116 = .ok (.getfield 94, 3) := by decide +kernel
theorem dX10_search_119 : decode cX10_search 119 = .ok (.getfield 231, 3) := by decide +kernel
theorem dX10_search_122 : decode cX10_search 122 = .ok (.ireturn, 1) := by decide +kernel
theorem dX10_kept_0 : decode cX10_kept 0 = .ok (.iload_n 1, 1) := by decide +kernel
theorem dX10_kept_1 : decode cX10_kept 1 = .ok (.invokestatic 218, 3) := by decide +kernel
theorem dX10_kept_4 : decode cX10_kept 4 = .ok (.ifCond .ne 6, 3) := by decide +kernel
theorem dX10_kept_7 : decode cX10_kept 7 = .ok (.bipush (-2), 2) := by decide +kernel
theorem dX10_kept_9 : decode cX10_kept 9 = .ok (.ireturn, 1) := by decide +kernel
theorem dX10_kept_10 : decode cX10_kept 10 = .ok (.aload_n 0, 1) := by decide +kernel
theorem dX10_kept_11 : decode cX10_kept 11 = .ok (.getfield 94, 3) := by decide +kernel
theorem dX10_kept_14 : decode cX10_kept 14 = .ok (.aload_n 0, 1) := by decide +kernel
theorem dX10_kept_15 : decode cX10_kept 15 = .ok (.getfield 19, 3) := by decide +kernel
theorem dX10_kept_18 : decode cX10_kept 18 = .ok (.iload_n 1, 1) := by decide +kernel
theorem dX10_kept_19 : decode cX10_kept 19 = .ok (.invokevirtual 221, 3) := by decide +kernel
theorem dX10_kept_22 : decode cX10_kept 22 = .ok (.aload_n 0, 1) := by decide +kernel
theorem dX10_kept_23 : decode cX10_kept 23 = .ok (.getfield 94, 3) := by decide +kernel
theorem dX10_kept_26 : decode cX10_kept 26 = .ok (.iload_n 2, 1) := by decide +kernel
theorem dX10_kept_27 : decode cX10_kept 27 = .ok (.invokevirtual 237, 3) := by decide +kernel
theorem dX10_kept_30 : decode cX10_kept 30 = .ok (.ireturn, 1) := by decide +kernel
theorem dX10_found_0 : decode cX10_found 0 = .ok (.iload_n 1, 1) := by decide +kernel
theorem dX10_found_1 : decode cX10_found 1 = .ok (.invokestatic 218, 3) := by decide +kernel
theorem dX10_found_4 : decode cX10_found 4 = .ok (.ifCond .eq 10, 3) := by decide +kernel
theorem dX10_found_7 : decode cX10_found 7 = .ok (.iload_n 2, 1) := by decide +kernel
theorem dX10_found_8 : decode cX10_found 8 = .ok (.invokestatic 202, 3) := by decide +kernel
theorem dX10_found_11 : decode cX10_found 11 = .ok (.ifCond .ne 6, 3) := by decide +kernel
theorem dX10_found_14 : decode cX10_found 14 = .ok (.bipush (-2), 2) := by decide +kernel
theorem dX10_found_16 : decode cX10_found 16 = .ok (.ireturn, 1) := by decide +kernel
theorem dX10_found_17 : decode cX10_found 17 = .ok (.aload_n 0, 1) := by decide +kernel
theorem dX10_found_18 : decode cX10_found 18 = .ok (.getfield 94, 3) := by decide +kernel
theorem dX10_found_21 : decode cX10_found 21 = .ok (.aload_n 0, 1) := by decide +kernel
theorem dX10_found_22 : decode cX10_found 22 = .ok (.getfield 19, 3) := by decide +kernel
theorem dX10_found_25 : decode cX10_found 25 = .ok (.iload_n 1, 1) := by decide +kernel
theorem dX10_found_26 : decode cX10_found 26 = .ok (.invokevirtual 221, 3) := by decide +kernel
theorem dX10_found_29 : decode cX10_found 29 = .ok (.aload_n 0, 1) := by decide +kernel
theorem dX10_found_30 : decode cX10_found 30 = .ok (.getfield 94, 3) := by decide +kernel
theorem dX10_found_33 : decode cX10_found 33 = .ok (.aload_n 0, 1) := by decide +kernel
theorem dX10_found_34 : decode cX10_found 34 = .ok (.getfield 66, 3) := by decide +kernel
theorem dX10_found_37 : decode cX10_found 37 = .ok (.invokevirtual 240, 3) := by decide +kernel
theorem dX10_found_40 : decode cX10_found 40 = .ok (.aload_n 0, 1) := by decide +kernel
theorem dX10_found_41 : decode cX10_found 41 = .ok (.getfield 66, 3) := by decide +kernel
theorem dX10_found_44 : decode cX10_found 44 = .ok (.iload_n 2, 1) := by decide +kernel
theorem dX10_found_45 : decode cX10_found 45 = .ok (.invokevirtual 209, 3) := by decide +kernel
theorem dX10_found_48 : decode cX10_found 48 = .ok (.ireturn, 1) := by decide +kernel
theorem dX10_mended_0 : decode cX10_mended 0 = .ok (.iload_n 1, 1) := by decide +kernel
theorem dX10_mended_1 : decode cX10_mended 1 = .ok (.invokestatic 161, 3) := by decide +kernel
theorem dX10_mended_4 : decode cX10_mended 4 = .ok (.ifCond .ne 5, 3) := by decide +kernel
theorem dX10_mended_7 : decode cX10_mended 7 = .ok (.iconst (-1), 1) := by decide +kernel
theorem dX10_mended_8 : decode cX10_mended 8 = .ok (.ireturn, 1) := by decide +kernel
theorem dX10_mended_9 : decode cX10_mended 9 = .ok (.iload_n 2, 1) := by decide +kernel
theorem dX10_mended_10 : decode cX10_mended 10 = .ok (.ifCond .lt 8, 3) := by decide +kernel
theorem dX10_mended_13 : decode cX10_mended 13 = .ok (.iload_n 2, 1) := by decide +kernel
theorem dX10_mended_14 : decode cX10_mended 14 = .ok (.iconst 1, 1) := by decide +kernel
theorem dX10_mended_15 : decode cX10_mended 15 = .ok (.if_icmp .le 6, 3) := by decide +kernel
theorem dX10_mended_18 : decode cX10_mended 18 = .ok (.bipush (-2), 2) := by decide +kernel
theorem dX10_mended_20 : decode cX10_mended 20 = .ok (.ireturn, 1) := by decide +kernel
theorem dX10_mended_21 : decode cX10_mended 21 = .ok (.aload_n 0, 1) := by decide +kernel
theorem dX10_mended_22 : decode cX10_mended 22 = .ok (.getfield 80, 3) := by decide +kernel
theorem dX10_mended_25 : decode cX10_mended 25 = .ok (.aload_n 0, 1) := by decide +kernel
theorem dX10_mended_26 : decode cX10_mended 26 = .ok (.getfield 19, 3) := by decide +kernel
theorem dX10_mended_29 : decode cX10_mended 29 = .ok (.invokevirtual 198, 3) := by decide +kernel
theorem dX10_mended_32 : decode cX10_mended 32 = .ok (.ifCond .eq 14, 3) := by decide +kernel
theorem dX10_mended_35 : decode cX10_mended 35 = .ok (.iload_n 2, 1) := by decide +kernel
theorem dX10_mended_36 : decode cX10_mended 36 = .ok (.ifCond .ne 7, 3) := by decide +kernel
theorem dX10_mended_39 : decode cX10_mended 39 = .ok (.iconst 0, 1) := by decide +kernel
theorem dX10_mended_40 : decode cX10_mended 40 = .ok (.goto 5, 3) := by decide +kernel
theorem dX10_mended_43 : decode cX10_mended 43 = .ok (.bipush (-9), 2) := by decide +kernel
theorem dX10_mended_45 : decode cX10_mended 45 = .ok (.ireturn, 1) := by decide +kernel
theorem dX10_mended_46 : decode cX10_mended 46 = .ok (.aload_n 0, 1) := by decide +kernel
theorem dX10_mended_47 : decode cX10_mended 47 = .ok (.getfield 23, 3) := by decide +kernel
theorem dX10_mended_50 : decode cX10_mended 50 = .ok (.aload_n 0, 1) := by decide +kernel
theorem dX10_mended_51 : decode cX10_mended 51 = .ok (.getfield 19, 3) := by decide +kernel
theorem dX10_mended_54 : decode cX10_mended 54 = .ok (.invokevirtual 116, 3) := by decide +kernel
theorem dX10_mended_57 : decode cX10_mended 57 = .ok (.aload_n 0, 1) := by decide +kernel
theorem dX10_mended_58 : decode cX10_mended 58 = .ok (.getfield 19, 3) := by decide +kernel
theorem dX10_mended_61 : decode cX10_mended 61 = .ok (.iload_n 1, 1) := by decide +kernel
theorem dX10_mended_62 : decode cX10_mended 62 = .ok (.invokevirtual 129, 3) := by decide +kernel
theorem dX10_mended_65 : decode cX10_mended 65 = .ok (.getfield 243, 3) := by decide +kernel
theorem dX10_mended_68 : decode cX10_mended 68 = .ok (.istore_n 3, 1) := by decide +kernel
theorem dX10_mended_69 : decode cX10_mended 69 = .ok (.iconst 0, 1) := by decide +kernel
theorem dX10_mended_70 : decode cX10_mended 70 = .ok (.istore 4, 2) := by decide +kernel
theorem dX10_mended_72 : decode cX10_mended 72 = .ok (.bipush (-9), 2) := by decide +kernel
theorem dX10_mended_74 : decode cX10_mended 74 = .ok (.istore 5, 2) := by decide +kernel
theorem dX10_mended_76 : decode cX10_mended 76 = .ok (.iconst 0, 1) := by decide +kernel
theorem dX10_mended_77 : decode cX10_mended 77 = .ok (.istore 6, 2) := by decide +kernel
theorem dX10_mended_79 : decode cX10_mended 79 = .ok (.iload 6, 2) := by decide +kernel
theorem dX10_mended_81 : decode cX10_mended 81 = .ok (.iload_n 3, 1) := by decide +kernel
theorem dX10_mended_82 : decode cX10_mended 82 = .ok (.if_icmp .ge 82, 3) := by decide +kernel
theorem dX10_mended_85 : decode cX10_mended 85 = .ok (.iconst 1, 1) := by decide +kernel
theorem dX10_mended_86 : decode cX10_mended 86 = .ok (.istore 7, 2) := by decide +kernel
theorem dX10_mended_88 : decode cX10_mended 88 = .ok (.iload 7, 2) := by decide +kernel
theorem dX10_mended_90 : decode cX10_mended 90 = .ok (.iconst 2, 1) := by decide +kernel
theorem dX10_mended_91 : decode cX10_mended 91 = .ok (.if_icmp .gt 67, 3) := by decide +kernel
theorem dX10_mended_94 : decode cX10_mended 94 = .ok (.iconst 0, 1) := by decide +kernel
theorem dX10_mended_95 : decode cX10_mended 95 = .ok (.istore 8, 2) := by decide +kernel
theorem dX10_mended_97 : decode cX10_mended 97 = .ok (.iload 8, 2) := by decide +kernel
theorem dX10_mended_99 : decode cX10_mended 99 = .ok (.iload_n 3, 1) := by decide +kernel
theorem dX10_mended_100 : decode cX10_mended 100 = .ok (.if_icmp .ge 52, 3) := by decide +kernel
theorem dX10_mended_103 : decode cX10_mended 103 = .ok (.aload_n 0, 1) := by decide +kernel
theorem dX10_mended_104 : decode cX10_mended 104 = .ok (.iload_n 1, 1) := by decide +kernel
theorem dX10_mended_105 : decode cX10_mended 105 = .ok (.iload 6, 2) := by decide +kernel
theorem dX10_mended_107 : decode cX10_mended 107 = .ok (.iload 7, 2) := by decide +kernel
theorem dX10_mended_109 : decode cX10_mended 109 = .ok (.iload 8, 2) := by decide +kernel
theorem dX10_mended_111 : decode cX10_mended 111 = .ok (.invokevirtual 246, 3) := by decide +kernel
theorem dX10_mended_114 : decode cX10_mended 114 = .ok (.ifCond .eq 32, 3) := by decide +kernel
theorem dX10_mended_117 : decode cX10_mended 117 = .ok (.iload 4, 2) := by decide +kernel
theorem dX10_mended_119 : decode cX10_mended 119 = .ok (.ifCond .ne 20, 3) := by decide +kernel
theorem dX10_mended_122 : decode cX10_mended 122 = .ok (.bipush 100, 2) := by decide +kernel
theorem dX10_mended_124 : decode cX10_mended 124 = .ok (.iload 6, 2) := by decide +kernel
theorem dX10_mended_126 : decode cX10_mended 126 = .ok (.imul, 1) := by decide +kernel
theorem dX10_mended_127 : decode cX10_mended 127 = .ok (.bipush 10, 2) := by decide +kernel
theorem dX10_mended_129 : decode cX10_mended 129 = .ok (.iload 7, 2) := by decide +kernel
theorem dX10_mended_131 : decode cX10_mended 131 = .ok (.imul, 1) := by decide +kernel
theorem dX10_mended_132 : decode cX10_mended 132 = .ok (.iadd, 1) := by decide +kernel
theorem dX10_mended_133 : decode cX10_mended 133 = .ok (.iload 8, 2) := by decide +kernel
theorem dX10_mended_135 : decode cX10_mended 135 = .ok (.iadd, 1) := by decide +kernel
theorem dX10_mended_136 : decode cX10_mended 136 = .ok (.goto 5, 3) := by decide +kernel
theorem dX10_mended_139 : decode cX10_mended 139 = .ok (.iload 5, 2) := by decide +kernel
theorem dX10_mended_141 : decode cX10_mended 141 = .ok (.istore 5, 2) := by decide +kernel
theorem dX10_mended_143 : decode cX10_mended 143 = .ok (.iinc 4 1, 3) := by decide +kernel
theorem dX10_mended_146 : decode cX10_mended 146 = .ok (.iinc 8 1, 3) := by decide +kernel
theorem dX10_mended_149 : decode cX10_mended 149 = .ok (.goto (-52), 3) := by decide +kernel
theorem dX10_mended_152 : decode cX10_mended 152 = .ok (.iinc 7 1, 3) := by decide +kernel
theorem dX10_mended_155 : decode cX10_mended 155 = .ok (.goto (-67), 3) := by decide +kernel
theorem dX10_mended_158 : decode cX10_mended 158 = .ok (.iinc 6 1, 3) := by decide +kernel
theorem dX10_mended_161 : decode cX10_mended 161 = .ok (.goto (-82), 3) := by decide +kernel
theorem dX10_mended_164 : decode cX10_mended 164 = .ok (.iload_n 2, 1) := by decide +kernel
theorem dX10_mended_165 : decode cX10_mended 165 = .ok (.ifCond .ne 8, 3) := by decide +kernel
theorem dX10_mended_168 : decode cX10_mended 168 = .ok (.iload 4, 2) := by decide +kernel
theorem dX10_mended_170 : decode cX10_mended 170 = .ok (.goto 5, 3) := by decide +kernel
theorem dX10_mended_173 : decode cX10_mended 173 = .ok (.iload 5, 2) := by decide +kernel
theorem dX10_mended_175 : decode cX10_mended 175 = .ok (.ireturn, 1) := by decide +kernel
theorem dX10_judge_0 : decode cX10_judge 0 = .ok (.iload_n 1, 1) := by decide +kernel
theorem dX10_judge_1 : decode cX10_judge 1 = .ok (.iconst 1, 1) := by decide +kernel
theorem dX10_judge_2 : decode cX10_judge 2 = .ok (.if_icmp .lt 24, 3) := by decide +kernel
theorem dX10_judge_5 : decode cX10_judge 5 = .ok (.iload_n 1, 1) := by decide +kernel
theorem dX10_judge_6 : decode cX10_judge 6 = .ok (.iconst 3, 1) := by decide +kernel
theorem dX10_judge_7 : decode cX10_judge 7 = .ok (.if_icmp .gt 19, 3) := by decide +kernel
theorem dX10_judge_10 : decode cX10_judge 10 = .ok (.lload_n 2, 1) := by decide +kernel
theorem dX10_judge_11 : decode cX10_judge 11 = .ok (.lconst 0, 1) := by decide +kernel
theorem dX10_judge_12 : decode cX10_judge 12 = .ok (.lcmp, 1) := by decide +kernel
theorem dX10_judge_13 : decode cX10_judge 13 = .ok (.ifCond .lt 13, 3) := by decide +kernel
theorem dX10_judge_16 : decode cX10_judge 16 = .ok (.lload_n 2, 1) := by decide +kernel
theorem dX10_judge_17 : decode cX10_judge 17 = .ok (.getstatic 249, 3) := by decide +kernel
theorem dX10_judge_20 : decode cX10_judge 20 = .ok (.iload_n 1, 1) := by decide +kernel
theorem dX10_judge_21 : decode cX10_judge 21 = .ok (.laload, 1) := by decide +kernel
theorem dX10_judge_22 : decode cX10_judge 22 = .ok (.lcmp, 1) := by decide +kernel
theorem dX10_judge_23 : decode cX10_judge 23 = .ok (.ifCond .lt 6, 3) := by decide +kernel
theorem dX10_judge_26 : decode cX10_judge 26 = .ok (.bipush (-2), 2) := by decide +kernel
theorem dX10_judge_28 : decode cX10_judge 28 = .ok (.ireturn, 1) := by decide +kernel
theorem dX10_judge_29 : decode cX10_judge 29 = .ok (.aload_n 0, 1) := by decide +kernel
theorem dX10_judge_30 : decode cX10_judge 30 = .ok (.getfield 23, 3) := by decide +kernel
theorem dX10_judge_33 : decode cX10_judge 33 = .ok (.aload_n 0, 1) := by decide +kernel
theorem dX10_judge_34 : decode cX10_judge 34 = .ok (.getfield 19, 3) := by decide +kernel
theorem dX10_judge_37 : decode cX10_judge 37 = .ok (.invokevirtual 116, 3) := by decide +kernel
theorem dX10_judge_40 : decode cX10_judge 40 = .ok (.iconst 0, 1) := by decide +kernel
theorem dX10_judge_41 : decode cX10_judge 41 = .ok (.istore 4, 2) := by decide +kernel
theorem dX10_judge_43 : decode cX10_judge 43 = .ok (.iload 4, 2) := by decide +kernel
theorem dX10_judge_45 : decode cX10_judge 45 = .ok (.iload_n 1, 1) := by decide +kernel
theorem dX10_judge_46 : decode cX10_judge 46 = .ok (.if_icmp .ge 42, 3) := by decide +kernel
theorem dX10_judge_49 : decode cX10_judge 49 = .ok (.lload_n 2, 1) := by decide +kernel
theorem dX10_judge_50 : decode cX10_judge 50 = .ok (.getstatic 249, 3) := by decide +kernel
theorem dX10_judge_53 : decode cX10_judge 53 = .ok (.iload_n 1, 1) := by decide +kernel
theorem dX10_judge_54 : decode cX10_judge 54 = .ok (.iconst 1, 1) := by decide +kernel
theorem dX10_judge_55 : decode cX10_judge 55 = .ok (.isub, 1) := by decide +kernel
theorem dX10_judge_56 : decode cX10_judge 56 = .ok (.iload 4, 2) := by decide +kernel
theorem dX10_judge_58 : decode cX10_judge 58 = .ok (.isub, 1) := by decide +kernel
theorem dX10_judge_59 : decode cX10_judge 59 = .ok (.laload, 1) := by decide +kernel
theorem dX10_judge_60 : decode cX10_judge 60 = .ok (.ldiv, 1) := by decide +kernel
theorem dX10_judge_61 : decode cX10_judge 61 = .ok (.getstatic 249, 3) := by decide +kernel
theorem dX10_judge_64 : decode cX10_judge 64 = .ok (.iconst 1, 1) := by decide +kernel
theorem dX10_judge_65 : decode cX10_judge 65 = .ok (.laload, 1) := by decide +kernel
theorem dX10_judge_66 : decode cX10_judge 66 = .ok (.lrem, 1) := by decide +kernel
theorem dX10_judge_67 : decode cX10_judge 67 = .ok (.l2i, 1) := by decide +kernel
theorem dX10_judge_68 : decode cX10_judge 68 = .ok (.istore 5, 2) := by decide +kernel
theorem dX10_judge_70 : decode cX10_judge 70 = .ok (.aload_n 0, 1) := by decide +kernel
theorem dX10_judge_71 : decode cX10_judge 71 = .ok (.iload 5, 2) := by decide +kernel
theorem dX10_judge_73 : decode cX10_judge 73 = .ok (.invokevirtual 253, 3) := by decide +kernel
theorem dX10_judge_76 : decode cX10_judge 76 = .ok (.ifCond .ne 6, 3) := by decide +kernel
theorem dX10_judge_79 : decode cX10_judge 79 = .ok (.iload 4, 2) := by decide +kernel
theorem dX10_judge_81 : decode cX10_judge 81 = .ok (.ireturn, 1) := by decide +kernel
theorem dX10_judge_82 : decode cX10_judge 82 = .ok (.iinc 4 1, 3) := by decide +kernel
theorem dX10_judge_85 : decode cX10_judge 85 = .ok (.goto (-42), 3) := by decide +kernel
theorem dX10_judge_88 : decode cX10_judge 88 = .ok (.bipush (-9), 2) := by decide +kernel
theorem dX10_judge_90 : decode cX10_judge 90 = .ok (.ireturn, 1) := by decide +kernel
theorem dX10_see_0 : decode cX10_see 0 = .ok (.iload_n 1, 1) := by decide +kernel
theorem dX10_see_1 : decode cX10_see 1 = .ok (.invokestatic 164, 3) := by decide +kernel
theorem dX10_see_4 : decode cX10_see 4 = .ok (.ifCond .eq 12, 3) := by decide +kernel
theorem dX10_see_7 : decode cX10_see 7 = .ok (.iload_n 2, 1) := by decide +kernel
theorem dX10_see_8 : decode cX10_see 8 = .ok (.ifCond .lt 8, 3) := by decide +kernel
theorem dX10_see_11 : decode cX10_see 11 = .ok (.iload_n 2, 1) := by decide +kernel
theorem dX10_see_12 : decode cX10_see 12 = .ok (.iconst 1, 1) := by decide +kernel
theorem dX10_see_13 : decode cX10_see 13 = .ok (.if_icmp .le 6, 3) := by decide +kernel
theorem dX10_see_16 : decode cX10_see 16 = .ok (.bipush (-2), 2) := by decide +kernel
theorem dX10_see_18 : decode cX10_see 18 = .ok (.ireturn, 1) := by decide +kernel
theorem dX10_see_19 : decode cX10_see 19 = .ok (.aload_n 0, 1) := by decide +kernel
theorem dX10_see_20 : decode cX10_see 20 = .ok (.getfield 256, 3) := by decide +kernel
theorem dX10_see_23 : decode cX10_see 23 = .ok (.bipush 6, 2) := by decide +kernel
theorem dX10_see_25 : decode cX10_see 25 = .ok (.if_icmp .lt 6, 3) := by decide +kernel
theorem dX10_see_28 : decode cX10_see 28 = .ok (.bipush (-4), 2) := by decide +kernel
theorem dX10_see_30 : decode cX10_see 30 = .ok (.ireturn, 1) := by decide +kernel
theorem dX10_see_31 : decode cX10_see 31 = .ok (.aload_n 0, 1) := by decide +kernel
theorem dX10_see_32 : decode cX10_see 32 = .ok (.getfield 41, 3) := by decide +kernel
theorem dX10_see_35 : decode cX10_see 35 = .ok (.aload_n 0, 1) := by decide +kernel
theorem dX10_see_36 : decode cX10_see 36 = .ok (.getfield 256, 3) := by decide +kernel
theorem dX10_see_39 : decode cX10_see 39 = .ok (.iload_n 1, 1) := by decide +kernel
theorem dX10_see_40 : decode cX10_see 40 = .ok (.iastore, 1) := by decide +kernel
theorem dX10_see_41 : decode cX10_see 41 = .ok (.aload_n 0, 1) := by decide +kernel
theorem dX10_see_42 : decode cX10_see 42 = .ok (.getfield 45, 3) := by decide +kernel
theorem dX10_see_45 : decode cX10_see 45 = .ok (.aload_n 0, 1) := by decide +kernel
theorem dX10_see_46 : decode cX10_see 46 = .ok (.getfield 256, 3) := by decide +kernel
theorem dX10_see_49 : decode cX10_see 49 = .ok (.iload_n 2, 1) := by decide +kernel
theorem dX10_see_50 : decode cX10_see 50 = .ok (.iastore, 1) := by decide +kernel
theorem dX10_see_51 : decode cX10_see 51 = .ok (.aload_n 0, 1) := by decide +kernel
theorem dX10_see_52 : decode cX10_see 52 = .ok (.dup, 1) := by decide +kernel
theorem dX10_see_53 : decode cX10_see 53 = .ok (.getfield 256, 3) := by decide +kernel
theorem dX10_see_56 : decode cX10_see 56 = .ok (.iconst 1, 1) := by decide +kernel
theorem dX10_see_57 : decode cX10_see 57 = .ok (.iadd, 1) := by decide +kernel
theorem dX10_see_58 : decode cX10_see 58 = .ok (.putfield 256, 3) := by decide +kernel
theorem dX10_see_61 : decode cX10_see 61 = .ok (.aload_n 0, 1) := by decide +kernel
theorem dX10_see_62 : decode cX10_see 62 = .ok (.getfield 256, 3) := by decide +kernel
theorem dX10_see_65 : decode cX10_see 65 = .ok (.ireturn, 1) := by decide +kernel
theorem dX10_unsee_0 : decode cX10_unsee 0 = .ok (.aload_n 0, 1) := by decide +kernel
theorem dX10_unsee_1 : decode cX10_unsee 1 = .ok (.getfield 256, 3) := by decide +kernel
theorem dX10_unsee_4 : decode cX10_unsee 4 = .ok (.istore_n 1, 1) := by decide +kernel
theorem dX10_unsee_5 : decode cX10_unsee 5 = .ok (.aload_n 0, 1) := by decide +kernel
theorem dX10_unsee_6 : decode cX10_unsee 6 = .ok (.iconst 0, 1) := by decide +kernel
theorem dX10_unsee_7 : decode cX10_unsee 7 = .ok (.putfield 256, 3) := by decide +kernel
theorem dX10_unsee_10 : decode cX10_unsee 10 = .ok (.iload_n 1, 1) := by decide +kernel
theorem dX10_unsee_11 : decode cX10_unsee 11 = .ok (.ireturn, 1) := by decide +kernel
theorem dX10_which_0 : decode cX10_which 0 = .ok (.aload_n 0, 1) := by decide +kernel
theorem dX10_which_1 : decode cX10_which 1 = .ok (.aload_n 0, 1) := by decide +kernel
theorem dX10_which_2 : decode cX10_which 2 = .ok (.getfield 19, 3) := by decide +kernel
theorem dX10_which_5 : decode cX10_which 5 = .ok (.getfield 178, 3) := by decide +kernel
theorem dX10_which_8 : decode cX10_which 8 = .ok (.invokevirtual 259, 3) := by decide +kernel
theorem dX10_which_11 : decode cX10_which 11 = .ok (.bipush 16, 2) := by decide +kernel
theorem dX10_which_13 : decode cX10_which 13 = .ok (.aload_n 0, 1) := by decide +kernel
theorem dX10_which_14 : decode cX10_which 14 = .ok (.aload_n 0, 1) := by decide +kernel
theorem dX10_which_15 : decode cX10_which 15 = .ok (.getfield 19, 3) := by decide +kernel
theorem dX10_which_18 : decode cX10_which 18 = .ok (.getfield 188, 3) := by decide +kernel
theorem dX10_which_21 : decode cX10_which 21 = .ok (.invokevirtual 259, 3) := by decide +kernel
theorem dX10_which_24 : decode cX10_which 24 = .ok (.imul, 1) := by decide +kernel
theorem dX10_which_25 : decode cX10_which 25 = .ok (.iadd, 1) := by decide +kernel
theorem dX10_which_26 : decode cX10_which 26 = .ok (.ireturn, 1) := by decide +kernel
theorem dX10_share_0 : decode cX10_share 0 = .ok (.aload_n 0, 1) := by decide +kernel
theorem dX10_share_1 : decode cX10_share 1 = .ok (.getfield 19, 3) := by decide +kernel
theorem dX10_share_4 : decode cX10_share 4 = .ok (.getfield 188, 3) := by decide +kernel
theorem dX10_share_7 : decode cX10_share 7 = .ok (.iload_n 1, 1) := by decide +kernel
theorem dX10_share_8 : decode cX10_share 8 = .ok (.invokevirtual 263, 3) := by decide +kernel
theorem dX10_share_11 : decode cX10_share 11 = .ok (.ifCond .ne 5, 3) := by decide +kernel
theorem dX10_share_14 : decode cX10_share 14 = .ok (.iconst (-1), 1) := by decide +kernel
theorem dX10_share_15 : decode cX10_share 15 = .ok (.ireturn, 1) := by decide +kernel
theorem dX10_share_16 : decode cX10_share 16 = .ok (.aload_n 0, 1) := by decide +kernel
theorem dX10_share_17 : decode cX10_share 17 = .ok (.getfield 19, 3) := by decide +kernel
theorem dX10_share_20 : decode cX10_share 20 = .ok (.getfield 188, 3) := by decide +kernel
theorem dX10_share_23 : decode cX10_share 23 = .ok (.iload_n 1, 1) := by decide +kernel
theorem dX10_share_24 : decode cX10_share 24 = .ok (.invokevirtual 154, 3) := by decide +kernel
theorem dX10_share_27 : decode cX10_share 27 = .ok (.ifCond .ne 6, 3) := by decide +kernel
theorem dX10_share_30 : decode cX10_share 30 = .ok (.bipush (-3), 2) := by decide +kernel
theorem dX10_share_32 : decode cX10_share 32 = .ok (.ireturn, 1) := by decide +kernel
theorem dX10_share_33 : decode cX10_share 33 = .ok (.aload_n 0, 1) := by decide +kernel
theorem dX10_share_34 : decode cX10_share 34 = .ok (.getfield 101, 3) := by decide +kernel
theorem dX10_share_37 : decode cX10_share 37 = .ok (.aload_n 0, 1) := by decide +kernel
theorem dX10_share_38 : decode cX10_share 38 = .ok (.getfield 19, 3) := by decide +kernel
theorem dX10_share_41 : decode cX10_share 41 = .ok (.bipush 6, 2) := by decide +kernel
theorem dX10_share_43 : decode cX10_share 43 = .ok (.invokevirtual 174, 3) := by decide +kernel
theorem dX10_share_46 : decode cX10_share 46 = .ok (.iconst 0, 1) := by decide +kernel
theorem dX10_share_47 : decode cX10_share 47 = .ok (.istore_n 3, 1) := by decide +kernel
theorem dX10_share_48 : decode cX10_share 48 = .ok (.iconst 1, 1) := by decide +kernel
theorem dX10_share_49 : decode cX10_share 49 = .ok (.istore 4, 2) := by decide +kernel
theorem dX10_share_51 : decode cX10_share 51 = .ok (.iload 4, 2) := by decide +kernel
theorem dX10_share_53 : decode cX10_share 53 = .ok (.sipush 128, 3) := by decide +kernel
theorem dX10_share_56 : decode cX10_share 56 = .ok (.if_icmp .ge 58, 3) := by decide +kernel
theorem dX10_share_59 : decode cX10_share 59 = .ok (.aload_n 0, 1) := by decide +kernel
theorem dX10_share_60 : decode cX10_share 60 = .ok (.getfield 19, 3) := by decide +kernel
theorem dX10_share_63 : decode cX10_share 63 = .ok (.getfield 178, 3) := by decide +kernel
theorem dX10_share_66 : decode cX10_share 66 = .ok (.aload_n 0, 1) := by decide +kernel
theorem dX10_share_67 : decode cX10_share 67 = .ok (.getfield 101, 3) := by decide +kernel
theorem dX10_share_70 : decode cX10_share 70 = .ok (.iload 4, 2) := by decide +kernel
theorem dX10_share_72 : decode cX10_share 72 = .ok (.invokevirtual 181, 3) := by decide +kernel
theorem dX10_share_75 : decode cX10_share 75 = .ok (.invokevirtual 185, 3) := by decide +kernel
theorem dX10_share_78 : decode cX10_share 78 = .ok (.ifCond .eq 30, 3) := by decide +kernel
theorem dX10_share_81 : decode cX10_share 81 = .ok (.iload_n 3, 1) := by decide +kernel
theorem dX10_share_82 : decode cX10_share 82 = .ok (.iload_n 1, 1) := by decide +kernel
theorem dX10_share_83 : decode cX10_share 83 = .ok (.aload_n 0, 1) := by decide +kernel
theorem dX10_share_84 : decode cX10_share 84 = .ok (.getfield 101, 3) := by decide +kernel
theorem dX10_share_87 : decode cX10_share 87 = .ok (.iload 4, 2) := by decide +kernel
theorem dX10_share_89 : decode cX10_share 89 = .ok (.invokevirtual 191, 3) := by decide +kernel
theorem dX10_share_92 : decode cX10_share 92 = .ok (.aload_n 0, 1) := by decide +kernel
theorem dX10_share_93 : decode cX10_share 93 = .ok (.getfield 19, 3) := by decide +kernel
theorem dX10_share_96 : decode cX10_share 96 = .ok (.getfield 188, 3) := by decide +kernel
theorem dX10_share_99 : decode cX10_share 99 = .ok (.getfield 266, 3) := by decide +kernel
theorem dX10_share_102 : decode cX10_share 102 = .ok (.iand, 1) := by decide +kernel
theorem dX10_share_103 : decode cX10_share 103 = .ok (.invokestatic 269, 3) := by decide +kernel
theorem dX10_share_106 : decode cX10_share 106 = .ok (.iadd, 1) := by decide +kernel
theorem dX10_share_107 : decode cX10_share 107 = .ok (.istore_n 3, 1) := by decide +kernel
theorem dX10_share_108 : decode cX10_share 108 = .ok (.iinc 4 1, 3) := by decide +kernel
theorem dX10_share_111 : decode cX10_share 111 = .ok (.goto (-60), 3) := by decide +kernel
theorem dX10_share_114 : decode cX10_share 114 = .ok (.iload_n 3, 1) := by decide +kernel
theorem dX10_share_115 : decode cX10_share 115 = .ok (.bipush 60, 2) := by decide +kernel
theorem dX10_share_117 : decode cX10_share 117 = .ok (.iload_n 2, 1) := by decide +kernel
theorem dX10_share_118 : decode cX10_share 118 = .ok (.invokestatic 272, 3) := by decide +kernel
theorem dX10_share_121 : decode cX10_share 121 = .ok (.ireturn, 1) := by decide +kernel
theorem dX10_lost_0 : decode cX10_lost 0 = .ok (.iload_n 1, 1) := by decide +kernel
theorem dX10_lost_1 : decode cX10_lost 1 = .ok (.ifCond .lt 9, 3) := by decide +kernel
theorem dX10_lost_4 : decode cX10_lost 4 = .ok (.iload_n 1, 1) := by decide +kernel
theorem dX10_lost_5 : decode cX10_lost 5 = .ok (.bipush 10, 2) := by decide +kernel
theorem dX10_lost_7 : decode cX10_lost 7 = .ok (.if_icmp .le 6, 3) := by decide +kernel
theorem dX10_lost_10 : decode cX10_lost 10 = .ok (.bipush (-2), 2) := by decide +kernel
theorem dX10_lost_12 : decode cX10_lost 12 = .ok (.ireturn, 1) := by decide +kernel
theorem dX10_lost_13 : decode cX10_lost 13 = .ok (.aload_n 0, 1) := by decide +kernel
theorem dX10_lost_14 : decode cX10_lost 14 = .ok (.getfield 80, 3) := by decide +kernel
theorem dX10_lost_17 : decode cX10_lost 17 = .ok (.aload_n 0, 1) := by decide +kernel
theorem dX10_lost_18 : decode cX10_lost 18 = .ok (.getfield 19, 3) := by decide +kernel
theorem dX10_lost_21 : decode cX10_lost 21 = .ok (.invokevirtual 276, 3) := by decide +kernel
theorem dX10_lost_24 : decode cX10_lost 24 = .ok (.aload_n 0, 1) := by decide +kernel
theorem dX10_lost_25 : decode cX10_lost 25 = .ok (.getfield 19, 3) := by decide +kernel
theorem dX10_lost_28 : decode cX10_lost 28 = .ok (.getfield 188, 3) := by decide +kernel
theorem dX10_lost_31 : decode cX10_lost 31 = .ok (.getfield 266, 3) := by decide +kernel
theorem dX10_lost_34 : decode cX10_lost 34 = .ok (.istore_n 3, 1) := by decide +kernel
theorem dX10_lost_35 : decode cX10_lost 35 = .ok (.iconst 1, 1) := by decide +kernel
theorem dX10_lost_36 : decode cX10_lost 36 = .ok (.istore 4, 2) := by decide +kernel
theorem dX10_lost_38 : decode cX10_lost 38 = .ok (.iconst 0, 1) := by decide +kernel
theorem dX10_lost_39 : decode cX10_lost 39 = .ok (.istore 5, 2) := by decide +kernel
theorem dX10_lost_41 : decode cX10_lost 41 = .ok (.iload 5, 2) := by decide +kernel
theorem dX10_lost_43 : decode cX10_lost 43 = .ok (.iconst 5, 1) := by decide +kernel
theorem dX10_lost_44 : decode cX10_lost 44 = .ok (.if_icmp .ge 35, 3) := by decide +kernel
theorem dX10_lost_47 : decode cX10_lost 47 = .ok (.iload 4, 2) := by decide +kernel
theorem dX10_lost_49 : decode cX10_lost 49 = .ok (.aload_n 0, 1) := by decide +kernel
theorem dX10_lost_50 : decode cX10_lost 50 = .ok (.getfield 19, 3) := by decide +kernel
theorem dX10_lost_53 : decode cX10_lost 53 = .ok (.getfield 188, 3) := by decide +kernel
theorem dX10_lost_56 : decode cX10_lost 56 = .ok (.iload 5, 2) := by decide +kernel
theorem dX10_lost_58 : decode cX10_lost 58 = .ok (.invokevirtual 154, 3) := by decide +kernel
theorem dX10_lost_61 : decode cX10_lost 61 = .ok (.ifCond .eq 8, 3) := by decide +kernel
theorem dX10_lost_64 : decode cX10_lost 64 = .ok (.bipush 10, 2) := by decide +kernel
theorem dX10_lost_66 : decode cX10_lost 66 = .ok (.goto 4, 3) := by decide +kernel
theorem dX10_lost_69 : decode cX10_lost 69 = .ok (.iconst 1, 1) := by decide +kernel
theorem dX10_lost_70 : decode cX10_lost 70 = .ok (.imul, 1) := by decide +kernel
theorem dX10_lost_71 : decode cX10_lost 71 = .ok (.istore 4, 2) := by decide +kernel
theorem dX10_lost_73 : decode cX10_lost 73 = .ok (.iinc 5 1, 3) := by decide +kernel
theorem dX10_lost_76 : decode cX10_lost 76 = .ok (.goto (-35), 3) := by decide +kernel
theorem dX10_lost_79 : decode cX10_lost 79 = .ok (.iconst 0, 1) := by decide +kernel
theorem dX10_lost_80 : decode cX10_lost 80 = .ok (.istore 5, 2) := by decide +kernel
theorem dX10_lost_82 : decode cX10_lost 82 = .ok (.iconst 0, 1) := by decide +kernel
theorem dX10_lost_83 : decode cX10_lost 83 = .ok (.istore 6, 2) := by decide +kernel
theorem dX10_lost_85 : decode cX10_lost 85 = .ok (.iload 6, 2) := by decide +kernel
theorem dX10_lost_87 : decode cX10_lost 87 = .ok (.bipush 32, 2) := by decide +kernel
theorem dX10_lost_89 : decode cX10_lost 89 = .ok (.if_icmp .ge 46, 3) := by decide +kernel
theorem dX10_lost_92 : decode cX10_lost 92 = .ok (.iload 6, 2) := by decide +kernel
theorem dX10_lost_94 : decode cX10_lost 94 = .ok (.iload_n 3, 1) := by decide +kernel
theorem dX10_lost_95 : decode cX10_lost 95 = .ok (.iand, 1) := by decide +kernel
theorem dX10_lost_96 : decode cX10_lost 96 = .ok (.iload 6, 2) := by decide +kernel
theorem dX10_lost_98 : decode cX10_lost 98 = .ok (.if_icmp .ne 31, 3) := by decide +kernel
theorem dX10_lost_101 : decode cX10_lost 101 = .ok (.aload_n 0, 1) := by decide +kernel
theorem dX10_lost_102 : decode cX10_lost 102 = .ok (.getfield 80, 3) := by decide +kernel
theorem dX10_lost_105 : decode cX10_lost 105 = .ok (.aload_n 0, 1) := by decide +kernel
theorem dX10_lost_106 : decode cX10_lost 106 = .ok (.getfield 19, 3) := by decide +kernel
theorem dX10_lost_109 : decode cX10_lost 109 = .ok (.iload 6, 2) := by decide +kernel
theorem dX10_lost_111 : decode cX10_lost 111 = .ok (.invokevirtual 279, 3) := by decide +kernel
theorem dX10_lost_114 : decode cX10_lost 114 = .ok (.ifCond .eq 15, 3) := by decide +kernel
theorem dX10_lost_117 : decode cX10_lost 117 = .ok (.iload 5, 2) := by decide +kernel
theorem dX10_lost_119 : decode cX10_lost 119 = .ok (.aload_n 0, 1) := by decide +kernel
theorem dX10_lost_120 : decode cX10_lost 120 = .ok (.iload 6, 2) := by decide +kernel
theorem dX10_lost_122 : decode cX10_lost 122 = .ok (.iload_n 1, 1) := by decide +kernel
theorem dX10_lost_123 : decode cX10_lost 123 = .ok (.invokevirtual 283, 3) := by decide +kernel
theorem dX10_lost_126 : decode cX10_lost 126 = .ok (.iadd, 1) := by decide +kernel
theorem dX10_lost_127 : decode cX10_lost 127 = .ok (.istore 5, 2) := by decide +kernel
theorem dX10_lost_129 : decode cX10_lost 129 = .ok (.iinc 6 1, 3) := by decide +kernel
theorem dX10_lost_132 : decode cX10_lost 132 = .ok (.goto (-47), 3) := by decide +kernel
theorem dX10_lost_135 : decode cX10_lost 135 = .ok (.iload 5, 2) := by decide +kernel
theorem dX10_lost_137 : decode cX10_lost 137 = .ok (.iload 4, 2) := by decide +kernel
theorem dX10_lost_139 : decode cX10_lost 139 = .ok (.iload_n 2, 1) := by decide +kernel
theorem dX10_lost_140 : decode cX10_lost 140 = .ok (.invokestatic 272, 3) := by decide +kernel
theorem dX10_lost_143 : decode cX10_lost 143 = .ok (.ireturn, 1) := by decide +kernel
theorem dX10_seed_0 : decode cX10_seed 0 = .ok (.aload_n 0, 1) := by decide +kernel
theorem dX10_seed_1 : decode cX10_seed 1 = .ok (.getfield 286, 3) := by decide +kernel
theorem dX10_seed_4 : decode cX10_seed 4 = .ok (.lstore_n 3, 1) := by decide +kernel
theorem dX10_seed_5 : decode cX10_seed 5 = .ok (.aload_n 0, 1) := by decide +kernel
theorem dX10_seed_6 : decode cX10_seed 6 = .ok (.lload_n 1, 1) := by decide +kernel
theorem dX10_seed_7 : decode cX10_seed 7 = .ok (.putfield 286, 3) := by decide +kernel
theorem dX10_seed_10 : decode cX10_seed 10 = .ok (.lload_n 3, 1) := by decide +kernel
theorem dX10_seed_11 : decode cX10_seed 11 = .ok (.lreturn, 1) := by decide +kernel
theorem dX10_drawn_0 : decode cX10_drawn 0 = .ok (.iload_n 1, 1) := by decide +kernel
theorem dX10_drawn_1 : decode cX10_drawn 1 = .ok (.iconst 1, 1) := by decide +kernel
theorem dX10_drawn_2 : decode cX10_drawn 2 = .ok (.if_icmp .lt 9, 3) := by decide +kernel
theorem dX10_drawn_5 : decode cX10_drawn 5 = .ok (.iload_n 1, 1) := by decide +kernel
theorem dX10_drawn_6 : decode cX10_drawn 6 = .ok (.bipush 20, 2) := by decide +kernel
theorem dX10_drawn_8 : decode cX10_drawn 8 = .ok (.if_icmp .le 6, 3) := by decide +kernel
theorem dX10_drawn_11 : decode cX10_drawn 11 = .ok (.bipush (-2), 2) := by decide +kernel
theorem dX10_drawn_13 : decode cX10_drawn 13 = .ok (.ireturn, 1) := by decide +kernel
theorem dX10_drawn_14 : decode cX10_drawn 14 = .ok (.iconst 0, 1) := by decide +kernel
theorem dX10_drawn_15 : decode cX10_drawn 15 = .ok (.istore_n 2, 1) := by decide +kernel
theorem dX10_drawn_16 : decode cX10_drawn 16 = .ok (.iconst 0, 1) := by decide +kernel
theorem dX10_drawn_17 : decode cX10_drawn 17 = .ok (.istore_n 3, 1) := by decide +kernel
theorem dX10_drawn_18 : decode cX10_drawn 18 = .ok (.iload_n 3, 1) := by decide +kernel
theorem dX10_drawn_19 : decode cX10_drawn 19 = .ok (.iload_n 1, 1) := by decide +kernel
theorem dX10_drawn_20 : decode cX10_drawn 20 = .ok (.if_icmp .ge 40, 3) := by decide +kernel
theorem dX10_drawn_23 : decode cX10_drawn 23 = .ok (.aload_n 0, 1) := by decide +kernel
theorem dX10_drawn_24 : decode cX10_drawn 24 = .ok (.aload_n 0, 1) := by decide +kernel
theorem dX10_drawn_25 : decode cX10_drawn 25 = .ok (.getfield 286, 3) := by decide +kernel
theorem dX10_drawn_28 : decode cX10_drawn 28 = .ok (.ldc2_w 290, 3) := by decide +kernel
theorem dX10_drawn_31 : decode cX10_drawn 31 = .ok (.lmul, 1) := by decide +kernel
theorem dX10_drawn_32 : decode cX10_drawn 32 = .ok (.ldc2_w 292, 3) := by decide +kernel
theorem dX10_drawn_35 : decode cX10_drawn 35 = .ok (.ladd, 1) := by decide +kernel
theorem dX10_drawn_36 : decode cX10_drawn 36 = .ok (.putfield 286, 3) := by decide +kernel
theorem dX10_drawn_39 : decode cX10_drawn 39 = .ok (.iload_n 2, 1) := by decide +kernel
theorem dX10_drawn_40 : decode cX10_drawn 40 = .ok (.aload_n 0, 1) := by decide +kernel
theorem dX10_drawn_41 : decode cX10_drawn 41 = .ok (.aload_n 0, 1) := by decide +kernel
theorem dX10_drawn_42 : decode cX10_drawn 42 = .ok (.getfield 286, 3) := by decide +kernel
theorem dX10_drawn_45 : decode cX10_drawn 45 = .ok (.bipush 33, 2) := by decide +kernel
theorem dX10_drawn_47 : decode cX10_drawn 47 = .ok (.lushr, 1) := by decide +kernel
theorem dX10_drawn_48 : decode cX10_drawn 48 = .ok (.l2i, 1) := by decide +kernel
theorem dX10_drawn_49 : decode cX10_drawn 49 = .ok (.invokevirtual 294, 3) := by decide +kernel
theorem dX10_drawn_52 : decode cX10_drawn 52 = .ok (.iadd, 1) := by decide +kernel
theorem dX10_drawn_53 : decode cX10_drawn 53 = .ok (.istore_n 2, 1) := by decide +kernel
theorem dX10_drawn_54 : decode cX10_drawn 54 = .ok (.iinc 3 1, 3) := by decide +kernel
theorem dX10_drawn_57 : decode cX10_drawn 57 = .ok (.goto (-39), 3) := by decide +kernel
theorem dX10_drawn_60 : decode cX10_drawn 60 = .ok (.iload_n 2, 1) := by decide +kernel
theorem dX10_drawn_61 : decode cX10_drawn 61 = .ok (.ireturn, 1) := by decide +kernel
theorem dX10_keep_0 : decode cX10_keep 0 = .ok (.iload_n 1, 1) := by decide +kernel
theorem dX10_keep_1 : decode cX10_keep 1 = .ok (.invokestatic 297, 3) := by decide +kernel
theorem dX10_keep_4 : decode cX10_keep 4 = .ok (.ifCond .ne 5, 3) := by decide +kernel
theorem dX10_keep_7 : decode cX10_keep 7 = .ok (.iconst (-1), 1) := by decide +kernel
theorem dX10_keep_8 : decode cX10_keep 8 = .ok (.ireturn, 1) := by decide +kernel
theorem dX10_keep_9 : decode cX10_keep 9 = .ok (.aload_n 0, 1) := by decide +kernel
theorem dX10_keep_10 : decode cX10_keep 10 = .ok (.getfield 33, 3) := by decide +kernel
theorem dX10_keep_13 : decode cX10_keep 13 = .ok (.iload_n 1, 1) := by decide +kernel
theorem dX10_keep_14 : decode cX10_keep 14 = .ok (.aaload, 1) := by decide +kernel
theorem dX10_keep_15 : decode cX10_keep 15 = .ok (.aload_n 0, 1) := by decide +kernel
theorem dX10_keep_16 : decode cX10_keep 16 = .ok (.getfield 19, 3) := by decide +kernel
theorem dX10_keep_19 : decode cX10_keep 19 = .ok (.invokevirtual 116, 3) := by decide +kernel
theorem dX10_keep_22 : decode cX10_keep 22 = .ok (.aload_n 0, 1) := by decide +kernel
theorem dX10_keep_23 : decode cX10_keep 23 = .ok (.getfield 37, 3) := by decide +kernel
theorem dX10_keep_26 : decode cX10_keep 26 = .ok (.iload_n 1, 1) := by decide +kernel
theorem dX10_keep_27 : decode cX10_keep 27 = .ok (.iconst 1, 1) := by decide +kernel
theorem dX10_keep_28 : decode cX10_keep 28 = .ok (.bastore, 1) := by decide +kernel
theorem dX10_keep_29 : decode cX10_keep 29 = .ok (.aload_n 0, 1) := by decide +kernel
theorem dX10_keep_30 : decode cX10_keep 30 = .ok (.getfield 19, 3) := by decide +kernel
theorem dX10_keep_33 : decode cX10_keep 33 = .ok (.invokevirtual 121, 3) := by decide +kernel
theorem dX10_keep_36 : decode cX10_keep 36 = .ok (.ireturn, 1) := by decide +kernel
theorem dX10_again_0 : decode cX10_again 0 = .ok (.iload_n 1, 1) := by decide +kernel
theorem dX10_again_1 : decode cX10_again 1 = .ok (.invokestatic 297, 3) := by decide +kernel
theorem dX10_again_4 : decode cX10_again 4 = .ok (.ifCond .ne 5, 3) := by decide +kernel
theorem dX10_again_7 : decode cX10_again 7 = .ok (.iconst (-1), 1) := by decide +kernel
theorem dX10_again_8 : decode cX10_again 8 = .ok (.ireturn, 1) := by decide +kernel
theorem dX10_again_9 : decode cX10_again 9 = .ok (.aload_n 0, 1) := by decide +kernel
theorem dX10_again_10 : decode cX10_again 10 = .ok (.getfield 37, 3) := by decide +kernel
theorem dX10_again_13 : decode cX10_again 13 = .ok (.iload_n 1, 1) := by decide +kernel
theorem dX10_again_14 : decode cX10_again 14 = .ok (.baload, 1) := by decide +kernel
theorem dX10_again_15 : decode cX10_again 15 = .ok (.ifCond .ne 6, 3) := by decide +kernel
theorem dX10_again_18 : decode cX10_again 18 = .ok (.bipush (-3), 2) := by decide +kernel
theorem dX10_again_20 : decode cX10_again 20 = .ok (.ireturn, 1) := by decide +kernel
theorem dX10_again_21 : decode cX10_again 21 = .ok (.aload_n 0, 1) := by decide +kernel
theorem dX10_again_22 : decode cX10_again 22 = .ok (.getfield 19, 3) := by decide +kernel
theorem dX10_again_25 : decode cX10_again 25 = .ok (.aload_n 0, 1) := by decide +kernel
theorem dX10_again_26 : decode cX10_again 26 = .ok (.getfield 33, 3) := by decide +kernel
theorem dX10_again_29 : decode cX10_again 29 = .ok (.iload_n 1, 1) := by decide +kernel
theorem dX10_again_30 : decode cX10_again 30 = .ok (.aaload, 1) := by decide +kernel
theorem dX10_again_31 : decode cX10_again 31 = .ok (.invokevirtual 116, 3) := by decide +kernel
theorem dX10_again_34 : decode cX10_again 34 = .ok (.aload_n 0, 1) := by decide +kernel
theorem dX10_again_35 : decode cX10_again 35 = .ok (.getfield 29, 3) := by decide +kernel
theorem dX10_again_38 : decode cX10_again 38 = .ok (.iconst 0, 1) := by decide +kernel
theorem dX10_again_39 : decode cX10_again 39 = .ok (.putfield 120, 3) := by decide +kernel
theorem dX10_again_42 : decode cX10_again 42 = .ok (.aload_n 0, 1) := by decide +kernel
theorem dX10_again_43 : decode cX10_again 43 = .ok (.getfield 19, 3) := by decide +kernel
theorem dX10_again_46 : decode cX10_again 46 = .ok (.invokevirtual 121, 3) := by decide +kernel
theorem dX10_again_49 : decode cX10_again 49 = .ok (.ireturn, 1) := by decide +kernel
theorem dX10_count_0 : decode cX10_count 0 = .ok (.iload_n 1, 1) := by decide +kernel
theorem dX10_count_1 : decode cX10_count 1 = .ok (.tableswitch 138 0 8 #[51, 59, 70, 81, 92, 103, 114, 125, 133], 51) := by decide +kernel
theorem dX10_count_52 : decode cX10_count 52 = .ok (.aload_n 0, 1) := by decide +kernel
theorem dX10_count_53 : decode cX10_count 53 = .ok (.getfield 12, 3) := by decide +kernel
theorem dX10_count_56 : decode cX10_count 56 = .ok (.getfield 105, 3) := by decide +kernel
theorem dX10_count_59 : decode cX10_count 59 = .ok (.ireturn, 1) := by decide +kernel
theorem dX10_count_60 : decode cX10_count 60 = .ok (.aload_n 0, 1) := by decide +kernel
theorem dX10_count_61 : decode cX10_count 61 = .ok (.getfield 19, 3) := by decide +kernel
theorem dX10_count_64 : decode cX10_count 64 = .ok (.getfield 178, 3) := by decide +kernel
theorem dX10_count_67 : decode cX10_count 67 = .ok (.getfield 243, 3) := by decide +kernel
theorem dX10_count_70 : decode cX10_count 70 = .ok (.ireturn, 1) := by decide +kernel
theorem dX10_count_71 : decode cX10_count 71 = .ok (.aload_n 0, 1) := by decide +kernel
theorem dX10_count_72 : decode cX10_count 72 = .ok (.getfield 19, 3) := by decide +kernel
theorem dX10_count_75 : decode cX10_count 75 = .ok (.getfield 188, 3) := by decide +kernel
theorem dX10_count_78 : decode cX10_count 78 = .ok (.getfield 243, 3) := by decide +kernel
theorem dX10_count_81 : decode cX10_count 81 = .ok (.ireturn, 1) := by decide +kernel
theorem dX10_count_82 : decode cX10_count 82 = .ok (.aload_n 0, 1) := by decide +kernel
theorem dX10_count_83 : decode cX10_count 83 = .ok (.getfield 19, 3) := by decide +kernel
theorem dX10_count_86 : decode cX10_count 86 = .ok (.getfield 178, 3) := by decide +kernel
theorem dX10_count_89 : decode cX10_count 89 = .ok (.invokevirtual 300, 3) := by decide +kernel
theorem dX10_count_92 : decode cX10_count 92 = .ok (.ireturn, 1) := by decide +kernel
theorem dX10_count_93 : decode cX10_count 93 = .ok (.aload_n 0, 1) := by decide +kernel
theorem dX10_count_94 : decode cX10_count 94 = .ok (.getfield 19, 3) := by decide +kernel
theorem dX10_count_97 : decode cX10_count 97 = .ok (.getfield 188, 3) := by decide +kernel
theorem dX10_count_100 : decode cX10_count 100 = .ok (.invokevirtual 300, 3) := by decide +kernel
theorem dX10_count_103 : decode cX10_count 103 = .ok (.ireturn, 1) := by decide +kernel
theorem dX10_count_104 : decode cX10_count 104 = .ok (.aload_n 0, 1) := by decide +kernel
theorem dX10_count_105 : decode cX10_count 105 = .ok (.getfield 19, 3) := by decide +kernel
theorem dX10_count_108 : decode cX10_count 108 = .ok (.getfield 178, 3) := by decide +kernel
theorem dX10_count_111 : decode cX10_count 111 = .ok (.getfield 266, 3) := by decide +kernel
theorem dX10_count_114 : decode cX10_count 114 = .ok (.ireturn, 1) := by decide +kernel
theorem dX10_count_115 : decode cX10_count 115 = .ok (.aload_n 0, 1) := by decide +kernel
theorem dX10_count_116 : decode cX10_count 116 = .ok (.getfield 19, 3) := by decide +kernel
theorem dX10_count_119 : decode cX10_count 119 = .ok (.getfield 188, 3) := by decide +kernel
theorem dX10_count_122 : decode cX10_count 122 = .ok (.getfield 266, 3) := by decide +kernel
theorem dX10_count_125 : decode cX10_count 125 = .ok (.ireturn, 1) := by decide +kernel
theorem dX10_count_126 : decode cX10_count 126 = .ok (.aload_n 0, 1) := by decide +kernel
theorem dX10_count_127 : decode cX10_count 127 = .ok (.getfield 29, 3) := by decide +kernel
theorem dX10_count_130 : decode cX10_count 130 = .ok (.getfield 120, 3) := by decide +kernel
theorem dX10_count_133 : decode cX10_count 133 = .ok (.ireturn, 1) := by decide +kernel
theorem dX10_count_134 : decode cX10_count 134 = .ok (.aload_n 0, 1) := by decide +kernel
theorem dX10_count_135 : decode cX10_count 135 = .ok (.getfield 256, 3) := by decide +kernel
theorem dX10_count_138 : decode cX10_count 138 = .ok (.ireturn, 1) := by decide +kernel
theorem dX10_count_139 : decode cX10_count 139 = .ok (.bipush (-2), 2) := by decide +kernel
theorem dX10_count_141 : decode cX10_count 141 = .ok (.ireturn, 1) := by decide +kernel
theorem dX10_isMachine_0 : decode cX10_isMachine 0 = .ok (.iload_n 0, 1) := by decide +kernel
theorem dX10_isMachine_1 : decode cX10_isMachine 1 = .ok (.ifCond .eq 8, 3) := by decide +kernel
theorem dX10_isMachine_4 : decode cX10_isMachine 4 = .ok (.iload_n 0, 1) := by decide +kernel
theorem dX10_isMachine_5 : decode cX10_isMachine 5 = .ok (.iconst 1, 1) := by decide +kernel
theorem dX10_isMachine_6 : decode cX10_isMachine 6 = .ok (.if_icmp .ne 7, 3) := by decide +kernel
theorem dX10_isMachine_9 : decode cX10_isMachine 9 = .ok (.iconst 1, 1) := by decide +kernel
theorem dX10_isMachine_10 : decode cX10_isMachine 10 = .ok (.goto 4, 3) := by decide +kernel
theorem dX10_isMachine_13 : decode cX10_isMachine 13 = .ok (.iconst 0, 1) := by decide +kernel
theorem dX10_isMachine_14 : decode cX10_isMachine 14 = .ok (.ireturn, 1) := by decide +kernel
theorem dX10_isMode_0 : decode cX10_isMode 0 = .ok (.iload_n 0, 1) := by decide +kernel
theorem dX10_isMode_1 : decode cX10_isMode 1 = .ok (.ifCond .lt 12, 3) := by decide +kernel
theorem dX10_isMode_4 : decode cX10_isMode 4 = .ok (.iload_n 0, 1) := by decide +kernel
theorem dX10_isMode_5 : decode cX10_isMode 5 = .ok (.iconst 2, 1) := by decide +kernel
theorem dX10_isMode_6 : decode cX10_isMode 6 = .ok (.if_icmp .gt 7, 3) := by decide +kernel
theorem dX10_isMode_9 : decode cX10_isMode 9 = .ok (.iconst 1, 1) := by decide +kernel
theorem dX10_isMode_10 : decode cX10_isMode 10 = .ok (.goto 4, 3) := by decide +kernel
theorem dX10_isMode_13 : decode cX10_isMode 13 = .ok (.iconst 0, 1) := by decide +kernel
theorem dX10_isMode_14 : decode cX10_isMode 14 = .ok (.ireturn, 1) := by decide +kernel
theorem dX10_isPlace_0 : decode cX10_isPlace 0 = .ok (.iload_n 0, 1) := by decide +kernel
theorem dX10_isPlace_1 : decode cX10_isPlace 1 = .ok (.ifCond .lt 14, 3) := by decide +kernel
theorem dX10_isPlace_4 : decode cX10_isPlace 4 = .ok (.iload_n 0, 1) := by decide +kernel
theorem dX10_isPlace_5 : decode cX10_isPlace 5 = .ok (.sipush 200, 3) := by decide +kernel
theorem dX10_isPlace_8 : decode cX10_isPlace 8 = .ok (.if_icmp .gt 7, 3) := by decide +kernel
theorem dX10_isPlace_11 : decode cX10_isPlace 11 = .ok (.iconst 1, 1) := by decide +kernel
theorem dX10_isPlace_12 : decode cX10_isPlace 12 = .ok (.goto 4, 3) := by decide +kernel
theorem dX10_isPlace_15 : decode cX10_isPlace 15 = .ok (.iconst 0, 1) := by decide +kernel
theorem dX10_isPlace_16 : decode cX10_isPlace 16 = .ok (.ireturn, 1) := by decide +kernel
theorem dX10_isSlot_0 : decode cX10_isSlot 0 = .ok (.iload_n 0, 1) := by decide +kernel
theorem dX10_isSlot_1 : decode cX10_isSlot 1 = .ok (.ifCond .lt 12, 3) := by decide +kernel
theorem dX10_isSlot_4 : decode cX10_isSlot 4 = .ok (.iload_n 0, 1) := by decide +kernel
theorem dX10_isSlot_5 : decode cX10_isSlot 5 = .ok (.iconst 2, 1) := by decide +kernel
theorem dX10_isSlot_6 : decode cX10_isSlot 6 = .ok (.if_icmp .ge 7, 3) := by decide +kernel
theorem dX10_isSlot_9 : decode cX10_isSlot 9 = .ok (.iconst 1, 1) := by decide +kernel
theorem dX10_isSlot_10 : decode cX10_isSlot 10 = .ok (.goto 4, 3) := by decide +kernel
theorem dX10_isSlot_13 : decode cX10_isSlot 13 = .ok (.iconst 0, 1) := by decide +kernel
theorem dX10_isSlot_14 : decode cX10_isSlot 14 = .ok (.ireturn, 1) := by decide +kernel
theorem dX10_isStateOf_0 : decode cX10_isStateOf 0 = .ok (.iload_n 1, 1) := by decide +kernel
theorem dX10_isStateOf_1 : decode cX10_isStateOf 1 = .ok (.invokestatic 161, 3) := by decide +kernel
theorem dX10_isStateOf_4 : decode cX10_isStateOf 4 = .ok (.ifCond .eq 19, 3) := by decide +kernel
theorem dX10_isStateOf_7 : decode cX10_isStateOf 7 = .ok (.aload_n 0, 1) := by decide +kernel
theorem dX10_isStateOf_8 : decode cX10_isStateOf 8 = .ok (.iload_n 1, 1) := by decide +kernel
theorem dX10_isStateOf_9 : decode cX10_isStateOf 9 = .ok (.invokevirtual 129, 3) := by decide +kernel
theorem dX10_isStateOf_12 : decode cX10_isStateOf 12 = .ok (.iload_n 2, 1) := by decide +kernel
theorem dX10_isStateOf_13 : decode cX10_isStateOf 13 = .ok (.invokevirtual 263, 3) := by decide +kernel
theorem dX10_isStateOf_16 : decode cX10_isStateOf 16 = .ok (.ifCond .eq 7, 3) := by decide +kernel
theorem dX10_isStateOf_19 : decode cX10_isStateOf 19 = .ok (.iconst 1, 1) := by decide +kernel
theorem dX10_isStateOf_20 : decode cX10_isStateOf 20 = .ok (.goto 4, 3) := by decide +kernel
theorem dX10_isStateOf_23 : decode cX10_isStateOf 23 = .ok (.iconst 0, 1) := by decide +kernel
theorem dX10_isStateOf_24 : decode cX10_isStateOf 24 = .ok (.ireturn, 1) := by decide +kernel
theorem dX10_isEdgeOf_0 : decode cX10_isEdgeOf 0 = .ok (.aload_n 0, 1) := by decide +kernel
theorem dX10_isEdgeOf_1 : decode cX10_isEdgeOf 1 = .ok (.iload_n 1, 1) := by decide +kernel
theorem dX10_isEdgeOf_2 : decode cX10_isEdgeOf 2 = .ok (.iload_n 2, 1) := by decide +kernel
theorem dX10_isEdgeOf_3 : decode cX10_isEdgeOf 3 = .ok (.invokestatic 146, 3) := by decide +kernel
theorem dX10_isEdgeOf_6 : decode cX10_isEdgeOf 6 = .ok (.ifCond .eq 24, 3) := by decide +kernel
theorem dX10_isEdgeOf_9 : decode cX10_isEdgeOf 9 = .ok (.iload_n 3, 1) := by decide +kernel
theorem dX10_isEdgeOf_10 : decode cX10_isEdgeOf 10 = .ok (.invokestatic 303, 3) := by decide +kernel
theorem dX10_isEdgeOf_13 : decode cX10_isEdgeOf 13 = .ok (.ifCond .eq 17, 3) := by decide +kernel
theorem dX10_isEdgeOf_16 : decode cX10_isEdgeOf 16 = .ok (.aload_n 0, 1) := by decide +kernel
theorem dX10_isEdgeOf_17 : decode cX10_isEdgeOf 17 = .ok (.iload_n 1, 1) := by decide +kernel
theorem dX10_isEdgeOf_18 : decode cX10_isEdgeOf 18 = .ok (.iload 4, 2) := by decide +kernel
theorem dX10_isEdgeOf_20 : decode cX10_isEdgeOf 20 = .ok (.invokestatic 146, 3) := by decide +kernel
theorem dX10_isEdgeOf_23 : decode cX10_isEdgeOf 23 = .ok (.ifCond .eq 7, 3) := by decide +kernel
theorem dX10_isEdgeOf_26 : decode cX10_isEdgeOf 26 = .ok (.iconst 1, 1) := by decide +kernel
theorem dX10_isEdgeOf_27 : decode cX10_isEdgeOf 27 = .ok (.goto 4, 3) := by decide +kernel
theorem dX10_isEdgeOf_30 : decode cX10_isEdgeOf 30 = .ok (.iconst 0, 1) := by decide +kernel
theorem dX10_isEdgeOf_31 : decode cX10_isEdgeOf 31 = .ok (.ireturn, 1) := by decide +kernel
theorem dX10_isWord_0 : decode cX10_isWord 0 = .ok (.iload_n 0, 1) := by decide +kernel
theorem dX10_isWord_1 : decode cX10_isWord 1 = .ok (.ifCond .ge 5, 3) := by decide +kernel
theorem dX10_isWord_4 : decode cX10_isWord 4 = .ok (.iconst 0, 1) := by decide +kernel
theorem dX10_isWord_5 : decode cX10_isWord 5 = .ok (.ireturn, 1) := by decide +kernel
theorem dX10_isWord_6 : decode cX10_isWord 6 = .ok (.iload_n 0, 1) := by decide +kernel
theorem dX10_isWord_7 : decode cX10_isWord 7 = .ok (.istore_n 1, 1) := by decide +kernel
theorem dX10_isWord_8 : decode cX10_isWord 8 = .ok (.iconst 0, 1) := by decide +kernel
theorem dX10_isWord_9 : decode cX10_isWord 9 = .ok (.istore_n 2, 1) := by decide +kernel
theorem dX10_isWord_10 : decode cX10_isWord 10 = .ok (.iload_n 2, 1) := by decide +kernel
theorem dX10_isWord_11 : decode cX10_isWord 11 = .ok (.bipush 9, 2) := by decide +kernel
theorem dX10_isWord_13 : decode cX10_isWord 13 = .ok (.if_icmp .ge 30, 3) := by decide +kernel
theorem dX10_isWord_16 : decode cX10_isWord 16 = .ok (.iload_n 1, 1) := by decide +kernel
theorem dX10_isWord_17 : decode cX10_isWord 17 = .ok (.ifCond .eq 26, 3) := by decide +kernel
theorem dX10_isWord_20 : decode cX10_isWord 20 = .ok (.iload_n 1, 1) := by decide +kernel
theorem dX10_isWord_21 : decode cX10_isWord 21 = .ok (.bipush 10, 2) := by decide +kernel
theorem dX10_isWord_23 : decode cX10_isWord 23 = .ok (.irem, 1) := by decide +kernel
theorem dX10_isWord_24 : decode cX10_isWord 24 = .ok (.invokestatic 303, 3) := by decide +kernel
theorem dX10_isWord_27 : decode cX10_isWord 27 = .ok (.ifCond .ne 5, 3) := by decide +kernel
theorem dX10_isWord_30 : decode cX10_isWord 30 = .ok (.iconst 0, 1) := by decide +kernel
theorem dX10_isWord_31 : decode cX10_isWord 31 = .ok (.ireturn, 1) := by decide +kernel
theorem dX10_isWord_32 : decode cX10_isWord 32 = .ok (.iload_n 1, 1) := by decide +kernel
theorem dX10_isWord_33 : decode cX10_isWord 33 = .ok (.bipush 10, 2) := by decide +kernel
theorem dX10_isWord_35 : decode cX10_isWord 35 = .ok (.idiv, 1) := by decide +kernel
theorem dX10_isWord_36 : decode cX10_isWord 36 = .ok (.istore_n 1, 1) := by decide +kernel
theorem dX10_isWord_37 : decode cX10_isWord 37 = .ok (.iinc 2 1, 3) := by decide +kernel
theorem dX10_isWord_40 : decode cX10_isWord 40 = .ok (.goto (-30), 3) := by decide +kernel
theorem dX10_isWord_43 : decode cX10_isWord 43 = .ok (.iload_n 1, 1) := by decide +kernel
theorem dX10_isWord_44 : decode cX10_isWord 44 = .ok (.ifCond .ne 7, 3) := by decide +kernel
theorem dX10_isWord_47 : decode cX10_isWord 47 = .ok (.iconst 1, 1) := by decide +kernel
theorem dX10_isWord_48 : decode cX10_isWord 48 = .ok (.goto 4, 3) := by decide +kernel
theorem dX10_isWord_51 : decode cX10_isWord 51 = .ok (.iconst 0, 1) := by decide +kernel
theorem dX10_isWord_52 : decode cX10_isWord 52 = .ok (.ireturn, 1) := by decide +kernel
theorem dX10_bit_0 : decode cX10_bit 0 = .ok (.iload_n 0, 1) := by decide +kernel
theorem dX10_bit_1 : decode cX10_bit 1 = .ok (.ifCond .eq 7, 3) := by decide +kernel
theorem dX10_bit_4 : decode cX10_bit 4 = .ok (.iconst 1, 1) := by decide +kernel
theorem dX10_bit_5 : decode cX10_bit 5 = .ok (.goto 4, 3) := by decide +kernel
theorem dX10_bit_8 : decode cX10_bit 8 = .ok (.iconst 0, 1) := by decide +kernel
theorem dX10_bit_9 : decode cX10_bit 9 = .ok (.ireturn, 1) := by decide +kernel
theorem dX10_isMeant_0 : decode cX10_isMeant 0 = .ok (.iload_n 0, 1) := by decide +kernel
theorem dX10_isMeant_1 : decode cX10_isMeant 1 = .ok (.tableswitch 45 0 2 #[27, 29, 31], 27) := by decide +kernel
theorem dX10_isMeant_28 : decode cX10_isMeant 28 = .ok (.iload_n 1, 1) := by decide +kernel
theorem dX10_isMeant_29 : decode cX10_isMeant 29 = .ok (.ireturn, 1) := by decide +kernel
theorem dX10_isMeant_30 : decode cX10_isMeant 30 = .ok (.iload_n 2, 1) := by decide +kernel
theorem dX10_isMeant_31 : decode cX10_isMeant 31 = .ok (.ireturn, 1) := by decide +kernel
theorem dX10_isMeant_32 : decode cX10_isMeant 32 = .ok (.iload_n 1, 1) := by decide +kernel
theorem dX10_isMeant_33 : decode cX10_isMeant 33 = .ok (.ifCond .eq 11, 3) := by decide +kernel
theorem dX10_isMeant_36 : decode cX10_isMeant 36 = .ok (.iload_n 2, 1) := by decide +kernel
theorem dX10_isMeant_37 : decode cX10_isMeant 37 = .ok (.ifCond .eq 7, 3) := by decide +kernel
theorem dX10_isMeant_40 : decode cX10_isMeant 40 = .ok (.iconst 1, 1) := by decide +kernel
theorem dX10_isMeant_41 : decode cX10_isMeant 41 = .ok (.goto 4, 3) := by decide +kernel
theorem dX10_isMeant_44 : decode cX10_isMeant 44 = .ok (.iconst 0, 1) := by decide +kernel
theorem dX10_isMeant_45 : decode cX10_isMeant 45 = .ok (.ireturn, 1) := by decide +kernel
theorem dX10_isMeant_46 : decode cX10_isMeant 46 = .ok (.iload_n 1, 1) := by decide +kernel
theorem dX10_isMeant_47 : decode cX10_isMeant 47 = .ok (.ifCond .eq 11, 3) := by decide +kernel
theorem dX10_isMeant_50 : decode cX10_isMeant 50 = .ok (.iload_n 2, 1) := by decide +kernel
theorem dX10_isMeant_51 : decode cX10_isMeant 51 = .ok (.ifCond .ne 7, 3) := by decide +kernel
theorem dX10_isMeant_54 : decode cX10_isMeant 54 = .ok (.iconst 1, 1) := by decide +kernel
theorem dX10_isMeant_55 : decode cX10_isMeant 55 = .ok (.goto 4, 3) := by decide +kernel
theorem dX10_isMeant_58 : decode cX10_isMeant 58 = .ok (.iconst 0, 1) := by decide +kernel
theorem dX10_isMeant_59 : decode cX10_isMeant 59 = .ok (.ireturn, 1) := by decide +kernel
theorem dX10_mends_0 : decode cX10_mends 0 = .ok (.aload_n 0, 1) := by decide +kernel
theorem dX10_mends_1 : decode cX10_mends 1 = .ok (.getfield 23, 3) := by decide +kernel
theorem dX10_mends_4 : decode cX10_mends 4 = .ok (.iload_n 1, 1) := by decide +kernel
theorem dX10_mends_5 : decode cX10_mends 5 = .ok (.invokevirtual 129, 3) := by decide +kernel
theorem dX10_mends_8 : decode cX10_mends 8 = .ok (.astore 5, 2) := by decide +kernel
theorem dX10_mends_10 : decode cX10_mends 10 = .ok (.iload_n 1, 1) := by decide +kernel
theorem dX10_mends_11 : decode cX10_mends 11 = .ok (.ifCond .ne 7, 3) := by decide +kernel
theorem dX10_mends_14 : decode cX10_mends 14 = .ok (.iconst 1, 1) := by decide +kernel
theorem dX10_mends_15 : decode cX10_mends 15 = .ok (.goto 4, 3) := by decide +kernel
theorem dX10_mends_18 : decode cX10_mends 18 = .ok (.iconst 0, 1) := by decide +kernel
theorem dX10_mends_19 : decode cX10_mends 19 = .ok (.istore 6, 2) := by decide +kernel
theorem dX10_mends_21 : decode cX10_mends 21 = .ok (.aload 5, 2) := by decide +kernel
theorem dX10_mends_23 : decode cX10_mends 23 = .ok (.iload_n 2, 1) := by decide +kernel
theorem dX10_mends_24 : decode cX10_mends 24 = .ok (.iload_n 3, 1) := by decide +kernel
theorem dX10_mends_25 : decode cX10_mends 25 = .ok (.iload 4, 2) := by decide +kernel
theorem dX10_mends_27 : decode cX10_mends 27 = .ok (.invokevirtual 133, 3) := by decide +kernel
theorem dX10_mends_30 : decode cX10_mends 30 = .ok (.iload 6, 2) := by decide +kernel
theorem dX10_mends_32 : decode cX10_mends 32 = .ok (.if_icmp .eq 5, 3) := by decide +kernel
theorem dX10_mends_35 : decode cX10_mends 35 = .ok (.iconst 0, 1) := by decide +kernel
theorem dX10_mends_36 : decode cX10_mends 36 = .ok (.ireturn, 1) := by decide +kernel
theorem dX10_mends_37 : decode cX10_mends 37 = .ok (.aload 5, 2) := by decide +kernel
theorem dX10_mends_39 : decode cX10_mends 39 = .ok (.iload_n 2, 1) := by decide +kernel
theorem dX10_mends_40 : decode cX10_mends 40 = .ok (.iload_n 3, 1) := by decide +kernel
theorem dX10_mends_41 : decode cX10_mends 41 = .ok (.iload 4, 2) := by decide +kernel
theorem dX10_mends_43 : decode cX10_mends 43 = .ok (.invokevirtual 55, 3) := by decide +kernel
theorem dX10_mends_46 : decode cX10_mends 46 = .ok (.aload_n 0, 1) := by decide +kernel
theorem dX10_mends_47 : decode cX10_mends 47 = .ok (.getfield 80, 3) := by decide +kernel
theorem dX10_mends_50 : decode cX10_mends 50 = .ok (.aload_n 0, 1) := by decide +kernel
theorem dX10_mends_51 : decode cX10_mends 51 = .ok (.getfield 23, 3) := by decide +kernel
theorem dX10_mends_54 : decode cX10_mends 54 = .ok (.invokevirtual 198, 3) := by decide +kernel
theorem dX10_mends_57 : decode cX10_mends 57 = .ok (.istore 7, 2) := by decide +kernel
theorem dX10_mends_59 : decode cX10_mends 59 = .ok (.aload 5, 2) := by decide +kernel
theorem dX10_mends_61 : decode cX10_mends 61 = .ok (.iload_n 2, 1) := by decide +kernel
theorem dX10_mends_62 : decode cX10_mends 62 = .ok (.iload_n 3, 1) := by decide +kernel
theorem dX10_mends_63 : decode cX10_mends 63 = .ok (.iload 4, 2) := by decide +kernel
theorem dX10_mends_65 : decode cX10_mends 65 = .ok (.invokevirtual 55, 3) := by decide +kernel
theorem dX10_mends_68 : decode cX10_mends 68 = .ok (.iload 7, 2) := by decide +kernel
theorem dX10_mends_70 : decode cX10_mends 70 = .ok (.ireturn, 1) := by decide +kernel
theorem dX10_canBe_0 : decode cX10_canBe 0 = .ok (.iload_n 1, 1) := by decide +kernel
theorem dX10_canBe_1 : decode cX10_canBe 1 = .ok (.sipush 1000, 3) := by decide +kernel
theorem dX10_canBe_4 : decode cX10_canBe 4 = .ok (.idiv, 1) := by decide +kernel
theorem dX10_canBe_5 : decode cX10_canBe 5 = .ok (.bipush 10, 2) := by decide +kernel
theorem dX10_canBe_7 : decode cX10_canBe 7 = .ok (.irem, 1) := by decide +kernel
theorem dX10_canBe_8 : decode cX10_canBe 8 = .ok (.istore_n 2, 1) := by decide +kernel
theorem dX10_canBe_9 : decode cX10_canBe 9 = .ok (.iload_n 1, 1) := by decide +kernel
theorem dX10_canBe_10 : decode cX10_canBe 10 = .ok (.bipush 100, 2) := by decide +kernel
theorem dX10_canBe_12 : decode cX10_canBe 12 = .ok (.idiv, 1) := by decide +kernel
theorem dX10_canBe_13 : decode cX10_canBe 13 = .ok (.bipush 10, 2) := by decide +kernel
theorem dX10_canBe_15 : decode cX10_canBe 15 = .ok (.irem, 1) := by decide +kernel
theorem dX10_canBe_16 : decode cX10_canBe 16 = .ok (.istore_n 3, 1) := by decide +kernel
theorem dX10_canBe_17 : decode cX10_canBe 17 = .ok (.iload_n 1, 1) := by decide +kernel
theorem dX10_canBe_18 : decode cX10_canBe 18 = .ok (.bipush 10, 2) := by decide +kernel
theorem dX10_canBe_20 : decode cX10_canBe 20 = .ok (.idiv, 1) := by decide +kernel
theorem dX10_canBe_21 : decode cX10_canBe 21 = .ok (.bipush 10, 2) := by decide +kernel
theorem dX10_canBe_23 : decode cX10_canBe 23 = .ok (.irem, 1) := by decide +kernel
theorem dX10_canBe_24 : decode cX10_canBe 24 = .ok (.istore 4, 2) := by decide +kernel
theorem dX10_canBe_26 : decode cX10_canBe 26 = .ok (.iload_n 1, 1) := by decide +kernel
theorem dX10_canBe_27 : decode cX10_canBe 27 = .ok (.bipush 10, 2) := by decide +kernel
theorem dX10_canBe_29 : decode cX10_canBe 29 = .ok (.irem, 1) := by decide +kernel
theorem dX10_canBe_30 : decode cX10_canBe 30 = .ok (.istore 5, 2) := by decide +kernel
theorem dX10_canBe_32 : decode cX10_canBe 32 = .ok (.iload_n 1, 1) := by decide +kernel
theorem dX10_canBe_33 : decode cX10_canBe 33 = .ok (.sipush 10000, 3) := by decide +kernel
theorem dX10_canBe_36 : decode cX10_canBe 36 = .ok (.idiv, 1) := by decide +kernel
theorem dX10_canBe_37 : decode cX10_canBe 37 = .ok (.tableswitch 226 1 5 #[35, 46, 71, 115, 165], 35) := by decide +kernel
theorem dX10_canBe_72 : decode cX10_canBe 72 = .ok (.aload_n 0, 1) := by decide +kernel
theorem dX10_canBe_73 : decode cX10_canBe 73 = .ok (.iload_n 2, 1) := by decide +kernel
theorem dX10_canBe_74 : decode cX10_canBe 74 = .ok (.iload_n 3, 1) := by decide +kernel
theorem dX10_canBe_75 : decode cX10_canBe 75 = .ok (.iload 4, 2) := by decide +kernel
theorem dX10_canBe_77 : decode cX10_canBe 77 = .ok (.iload 5, 2) := by decide +kernel
theorem dX10_canBe_79 : decode cX10_canBe 79 = .ok (.invokevirtual 306, 3) := by decide +kernel
theorem dX10_canBe_82 : decode cX10_canBe 82 = .ok (.ireturn, 1) := by decide +kernel
theorem dX10_canBe_83 : decode cX10_canBe 83 = .ok (.iload 4, 2) := by decide +kernel
theorem dX10_canBe_85 : decode cX10_canBe 85 = .ok (.ifCond .ne 21, 3) := by decide +kernel
theorem dX10_canBe_88 : decode cX10_canBe 88 = .ok (.iload 5, 2) := by decide +kernel
theorem dX10_canBe_90 : decode cX10_canBe 90 = .ok (.ifCond .ne 16, 3) := by decide +kernel
theorem dX10_canBe_93 : decode cX10_canBe 93 = .ok (.aload_n 0, 1) := by decide +kernel
theorem dX10_canBe_94 : decode cX10_canBe 94 = .ok (.iload_n 2, 1) := by decide +kernel
theorem dX10_canBe_95 : decode cX10_canBe 95 = .ok (.iload_n 3, 1) := by decide +kernel
theorem dX10_canBe_96 : decode cX10_canBe 96 = .ok (.invokevirtual 309, 3) := by decide +kernel
theorem dX10_canBe_99 : decode cX10_canBe 99 = .ok (.ifCond .eq 7, 3) := by decide +kernel
theorem dX10_canBe_102 : decode cX10_canBe 102 = .ok (.iconst 1, 1) := by decide +kernel
theorem dX10_canBe_103 : decode cX10_canBe 103 = .ok (.goto 4, 3) := by decide +kernel
theorem dX10_canBe_106 : decode cX10_canBe 106 = .ok (.iconst 0, 1) := by decide +kernel
theorem dX10_canBe_107 : decode cX10_canBe 107 = .ok (.ireturn, 1) := by decide +kernel
theorem dX10_canBe_108 : decode cX10_canBe 108 = .ok (.iload_n 2, 1) := by decide +kernel
theorem dX10_canBe_109 : decode cX10_canBe 109 = .ok (.invokestatic 161, 3) := by decide +kernel
theorem dX10_canBe_112 : decode cX10_canBe 112 = .ok (.ifCond .eq 38, 3) := by decide +kernel
theorem dX10_canBe_115 : decode cX10_canBe 115 = .ok (.iload_n 1, 1) := by decide +kernel
theorem dX10_canBe_116 : decode cX10_canBe 116 = .ok (.sipush 1000, 3) := by decide +kernel
theorem dX10_canBe_119 : decode cX10_canBe 119 = .ok (.irem, 1) := by decide +kernel
theorem dX10_canBe_120 : decode cX10_canBe 120 = .ok (.invokestatic 164, 3) := by decide +kernel
theorem dX10_canBe_123 : decode cX10_canBe 123 = .ok (.ifCond .eq 27, 3) := by decide +kernel
theorem dX10_canBe_126 : decode cX10_canBe 126 = .ok (.aload_n 0, 1) := by decide +kernel
theorem dX10_canBe_127 : decode cX10_canBe 127 = .ok (.getfield 23, 3) := by decide +kernel
theorem dX10_canBe_130 : decode cX10_canBe 130 = .ok (.iload_n 2, 1) := by decide +kernel
theorem dX10_canBe_131 : decode cX10_canBe 131 = .ok (.invokevirtual 129, 3) := by decide +kernel
theorem dX10_canBe_134 : decode cX10_canBe 134 = .ok (.iconst 1, 1) := by decide +kernel
theorem dX10_canBe_135 : decode cX10_canBe 135 = .ok (.iload_n 1, 1) := by decide +kernel
theorem dX10_canBe_136 : decode cX10_canBe 136 = .ok (.sipush 1000, 3) := by decide +kernel
theorem dX10_canBe_139 : decode cX10_canBe 139 = .ok (.irem, 1) := by decide +kernel
theorem dX10_canBe_140 : decode cX10_canBe 140 = .ok (.invokevirtual 167, 3) := by decide +kernel
theorem dX10_canBe_143 : decode cX10_canBe 143 = .ok (.ifCond .eq 7, 3) := by decide +kernel
theorem dX10_canBe_146 : decode cX10_canBe 146 = .ok (.iconst 1, 1) := by decide +kernel
theorem dX10_canBe_147 : decode cX10_canBe 147 = .ok (.goto 4, 3) := by decide +kernel
theorem dX10_canBe_150 : decode cX10_canBe 150 = .ok (.iconst 0, 1) := by decide +kernel
theorem dX10_canBe_151 : decode cX10_canBe 151 = .ok (.ireturn, 1) := by decide +kernel
theorem dX10_canBe_152 : decode cX10_canBe 152 = .ok (.iload_n 2, 1) := by decide +kernel
theorem dX10_canBe_153 : decode cX10_canBe 153 = .ok (.ifCond .ne 47, 3) := by decide +kernel
theorem dX10_canBe_156 : decode cX10_canBe 156 = .ok (.iload_n 3, 1) := by decide +kernel
theorem dX10_canBe_157 : decode cX10_canBe 157 = .ok (.ifCond .ne 43, 3) := by decide +kernel
theorem dX10_canBe_160 : decode cX10_canBe 160 = .ok (.iload 4, 2) := by decide +kernel
theorem dX10_canBe_162 : decode cX10_canBe 162 = .ok (.ifCond .ne 38, 3) := by decide +kernel
theorem dX10_canBe_165 : decode cX10_canBe 165 = .ok (.iload 5, 2) := by decide +kernel
theorem dX10_canBe_167 : decode cX10_canBe 167 = .ok (.iconst 1, 1) := by decide +kernel
theorem dX10_canBe_168 : decode cX10_canBe 168 = .ok (.if_icmp .gt 32, 3) := by decide +kernel
theorem dX10_canBe_171 : decode cX10_canBe 171 = .ok (.aload_n 0, 1) := by decide +kernel
theorem dX10_canBe_172 : decode cX10_canBe 172 = .ok (.getfield 80, 3) := by decide +kernel
theorem dX10_canBe_175 : decode cX10_canBe 175 = .ok (.aload_n 0, 1) := by decide +kernel
theorem dX10_canBe_176 : decode cX10_canBe 176 = .ok (.getfield 23, 3) := by decide +kernel
theorem dX10_canBe_179 : decode cX10_canBe 179 = .ok (.invokevirtual 198, 3) := by decide +kernel
theorem dX10_canBe_182 : decode cX10_canBe 182 = .ok (.iload 5, 2) := by decide +kernel
theorem dX10_canBe_184 : decode cX10_canBe 184 = .ok (.iconst 1, 1) := by decide +kernel
theorem dX10_canBe_185 : decode cX10_canBe 185 = .ok (.if_icmp .ne 7, 3) := by decide +kernel
theorem dX10_canBe_188 : decode cX10_canBe 188 = .ok (.iconst 1, 1) := by decide +kernel
theorem dX10_canBe_189 : decode cX10_canBe 189 = .ok (.goto 4, 3) := by decide +kernel
theorem dX10_canBe_192 : decode cX10_canBe 192 = .ok (.iconst 0, 1) := by decide +kernel
theorem dX10_canBe_193 : decode cX10_canBe 193 = .ok (.if_icmp .ne 7, 3) := by decide +kernel
theorem dX10_canBe_196 : decode cX10_canBe 196 = .ok (.iconst 1, 1) := by decide +kernel
theorem dX10_canBe_197 : decode cX10_canBe 197 = .ok (.goto 4, 3) := by decide +kernel
theorem dX10_canBe_200 : decode cX10_canBe 200 = .ok (.iconst 0, 1) := by decide +kernel
theorem dX10_canBe_201 : decode cX10_canBe 201 = .ok (.ireturn, 1) := by decide +kernel
theorem dX10_canBe_202 : decode cX10_canBe 202 = .ok (.iload 4, 2) := by decide +kernel
theorem dX10_canBe_204 : decode cX10_canBe 204 = .ok (.ifCond .ne 57, 3) := by decide +kernel
theorem dX10_canBe_207 : decode cX10_canBe 207 = .ok (.iload 5, 2) := by decide +kernel
theorem dX10_canBe_209 : decode cX10_canBe 209 = .ok (.iconst 1, 1) := by decide +kernel
theorem dX10_canBe_210 : decode cX10_canBe 210 = .ok (.if_icmp .gt 51, 3) := by decide +kernel
theorem dX10_canBe_213 : decode cX10_canBe 213 = .ok (.aload_n 0, 1) := by decide +kernel
theorem dX10_canBe_214 : decode cX10_canBe 214 = .ok (.getfield 23, 3) := by decide +kernel
theorem dX10_canBe_217 : decode cX10_canBe 217 = .ok (.iconst 0, 1) := by decide +kernel
theorem dX10_canBe_218 : decode cX10_canBe 218 = .ok (.iload_n 2, 1) := by decide +kernel
theorem dX10_canBe_219 : decode cX10_canBe 219 = .ok (.invokestatic 146, 3) := by decide +kernel
theorem dX10_canBe_222 : decode cX10_canBe 222 = .ok (.ifCond .eq 39, 3) := by decide +kernel
theorem dX10_canBe_225 : decode cX10_canBe 225 = .ok (.aload_n 0, 1) := by decide +kernel
theorem dX10_canBe_226 : decode cX10_canBe 226 = .ok (.getfield 23, 3) := by decide +kernel
theorem dX10_canBe_229 : decode cX10_canBe 229 = .ok (.iconst 1, 1) := by decide +kernel
theorem dX10_canBe_230 : decode cX10_canBe 230 = .ok (.iload_n 3, 1) := by decide +kernel
theorem dX10_canBe_231 : decode cX10_canBe 231 = .ok (.invokestatic 146, 3) := by decide +kernel
theorem dX10_canBe_234 : decode cX10_canBe 234 = .ok (.ifCond .eq 27, 3) := by decide +kernel
theorem dX10_canBe_237 : decode cX10_canBe 237 = .ok (.aload_n 0, 1) := by decide +kernel
theorem dX10_canBe_238 : decode cX10_canBe 238 = .ok (.iload_n 2, 1) := by decide +kernel
theorem dX10_canBe_239 : decode cX10_canBe 239 = .ok (.iload_n 3, 1) := by decide +kernel
theorem dX10_canBe_240 : decode cX10_canBe 240 = .ok (.invokevirtual 312, 3) := by decide +kernel
theorem dX10_canBe_243 : decode cX10_canBe 243 = .ok (.iload 5, 2) := by decide +kernel
theorem dX10_canBe_245 : decode cX10_canBe 245 = .ok (.iconst 1, 1) := by decide +kernel
theorem dX10_canBe_246 : decode cX10_canBe 246 = .ok (.if_icmp .ne 7, 3) := by decide +kernel
theorem dX10_canBe_249 : decode cX10_canBe 249 = .ok (.iconst 1, 1) := by decide +kernel
theorem dX10_canBe_250 : decode cX10_canBe 250 = .ok (.goto 4, 3) := by decide +kernel
theorem dX10_canBe_253 : decode cX10_canBe 253 = .ok (.iconst 0, 1) := by decide +kernel
theorem dX10_canBe_254 : decode cX10_canBe 254 = .ok (.if_icmp .ne 7, 3) := by decide +kernel
theorem dX10_canBe_257 : decode cX10_canBe 257 = .ok (.iconst 1, 1) := by decide +kernel
theorem dX10_canBe_258 : decode cX10_canBe 258 = .ok (.goto 4, 3) := by decide +kernel
theorem dX10_canBe_261 : decode cX10_canBe 261 = .ok (.iconst 0, 1) := by decide +kernel
theorem dX10_canBe_262 : decode cX10_canBe 262 = .ok (.ireturn, 1) := by decide +kernel
theorem dX10_canBe_263 : decode cX10_canBe 263 = .ok (.iconst 0, 1) := by decide +kernel
theorem dX10_canBe_264 : decode cX10_canBe 264 = .ok (.ireturn, 1) := by decide +kernel
theorem dX10_turnsEdge_0 : decode cX10_turnsEdge 0 = .ok (.aload_n 0, 1) := by decide +kernel
theorem dX10_turnsEdge_1 : decode cX10_turnsEdge 1 = .ok (.getfield 23, 3) := by decide +kernel
theorem dX10_turnsEdge_4 : decode cX10_turnsEdge 4 = .ok (.iload_n 1, 1) := by decide +kernel
theorem dX10_turnsEdge_5 : decode cX10_turnsEdge 5 = .ok (.iload_n 2, 1) := by decide +kernel
theorem dX10_turnsEdge_6 : decode cX10_turnsEdge 6 = .ok (.iload_n 3, 1) := by decide +kernel
theorem dX10_turnsEdge_7 : decode cX10_turnsEdge 7 = .ok (.iload 4, 2) := by decide +kernel
theorem dX10_turnsEdge_9 : decode cX10_turnsEdge 9 = .ok (.invokestatic 125, 3) := by decide +kernel
theorem dX10_turnsEdge_12 : decode cX10_turnsEdge 12 = .ok (.ifCond .ne 5, 3) := by decide +kernel
theorem dX10_turnsEdge_15 : decode cX10_turnsEdge 15 = .ok (.iconst 0, 1) := by decide +kernel
theorem dX10_turnsEdge_16 : decode cX10_turnsEdge 16 = .ok (.ireturn, 1) := by decide +kernel
theorem dX10_turnsEdge_17 : decode cX10_turnsEdge 17 = .ok (.aload_n 0, 1) := by decide +kernel
theorem dX10_turnsEdge_18 : decode cX10_turnsEdge 18 = .ok (.getfield 23, 3) := by decide +kernel
theorem dX10_turnsEdge_21 : decode cX10_turnsEdge 21 = .ok (.iload_n 1, 1) := by decide +kernel
theorem dX10_turnsEdge_22 : decode cX10_turnsEdge 22 = .ok (.invokevirtual 129, 3) := by decide +kernel
theorem dX10_turnsEdge_25 : decode cX10_turnsEdge 25 = .ok (.iload_n 2, 1) := by decide +kernel
theorem dX10_turnsEdge_26 : decode cX10_turnsEdge 26 = .ok (.iload_n 3, 1) := by decide +kernel
theorem dX10_turnsEdge_27 : decode cX10_turnsEdge 27 = .ok (.iload 4, 2) := by decide +kernel
theorem dX10_turnsEdge_29 : decode cX10_turnsEdge 29 = .ok (.invokevirtual 55, 3) := by decide +kernel
theorem dX10_turnsEdge_32 : decode cX10_turnsEdge 32 = .ok (.iconst 1, 1) := by decide +kernel
theorem dX10_turnsEdge_33 : decode cX10_turnsEdge 33 = .ok (.ireturn, 1) := by decide +kernel
theorem dX10_turnsEnd_0 : decode cX10_turnsEnd 0 = .ok (.aload_n 0, 1) := by decide +kernel
theorem dX10_turnsEnd_1 : decode cX10_turnsEnd 1 = .ok (.getfield 23, 3) := by decide +kernel
theorem dX10_turnsEnd_4 : decode cX10_turnsEnd 4 = .ok (.iload_n 1, 1) := by decide +kernel
theorem dX10_turnsEnd_5 : decode cX10_turnsEnd 5 = .ok (.iload_n 2, 1) := by decide +kernel
theorem dX10_turnsEnd_6 : decode cX10_turnsEnd 6 = .ok (.invokestatic 146, 3) := by decide +kernel
theorem dX10_turnsEnd_9 : decode cX10_turnsEnd 9 = .ok (.ifCond .ne 5, 3) := by decide +kernel
theorem dX10_turnsEnd_12 : decode cX10_turnsEnd 12 = .ok (.iconst 0, 1) := by decide +kernel
theorem dX10_turnsEnd_13 : decode cX10_turnsEnd 13 = .ok (.ireturn, 1) := by decide +kernel
theorem dX10_turnsEnd_14 : decode cX10_turnsEnd 14 = .ok (.aload_n 0, 1) := by decide +kernel
theorem dX10_turnsEnd_15 : decode cX10_turnsEnd 15 = .ok (.getfield 23, 3) := by decide +kernel
theorem dX10_turnsEnd_18 : decode cX10_turnsEnd 18 = .ok (.iload_n 1, 1) := by decide +kernel
theorem dX10_turnsEnd_19 : decode cX10_turnsEnd 19 = .ok (.invokevirtual 129, 3) := by decide +kernel
theorem dX10_turnsEnd_22 : decode cX10_turnsEnd 22 = .ok (.iload_n 2, 1) := by decide +kernel
theorem dX10_turnsEnd_23 : decode cX10_turnsEnd 23 = .ok (.invokevirtual 59, 3) := by decide +kernel
theorem dX10_turnsEnd_26 : decode cX10_turnsEnd 26 = .ok (.iconst 1, 1) := by decide +kernel
theorem dX10_turnsEnd_27 : decode cX10_turnsEnd 27 = .ok (.ireturn, 1) := by decide +kernel
theorem dX10_followsInTrial_0 : decode cX10_followsInTrial 0 = .ok (.aload_n 0, 1) := by decide +kernel
theorem dX10_followsInTrial_1 : decode cX10_followsInTrial 1 = .ok (.getfield 87, 3) := by decide +kernel
theorem dX10_followsInTrial_4 : decode cX10_followsInTrial 4 = .ok (.aload_n 0, 1) := by decide +kernel
theorem dX10_followsInTrial_5 : decode cX10_followsInTrial 5 = .ok (.getfield 23, 3) := by decide +kernel
theorem dX10_followsInTrial_8 : decode cX10_followsInTrial 8 = .ok (.invokevirtual 212, 3) := by decide +kernel
theorem dX10_followsInTrial_11 : decode cX10_followsInTrial 11 = .ok (.aload_n 0, 1) := by decide +kernel
theorem dX10_followsInTrial_12 : decode cX10_followsInTrial 12 = .ok (.getfield 87, 3) := by decide +kernel
theorem dX10_followsInTrial_15 : decode cX10_followsInTrial 15 = .ok (.iconst 0, 1) := by decide +kernel
theorem dX10_followsInTrial_16 : decode cX10_followsInTrial 16 = .ok (.iload_n 1, 1) := by decide +kernel
theorem dX10_followsInTrial_17 : decode cX10_followsInTrial 17 = .ok (.iconst 1, 1) := by decide +kernel
theorem dX10_followsInTrial_18 : decode cX10_followsInTrial 18 = .ok (.iconst 1, 1) := by decide +kernel
theorem dX10_followsInTrial_19 : decode cX10_followsInTrial 19 = .ok (.iload_n 2, 1) := by decide +kernel
theorem dX10_followsInTrial_20 : decode cX10_followsInTrial 20 = .ok (.ishl, 1) := by decide +kernel
theorem dX10_followsInTrial_21 : decode cX10_followsInTrial 21 = .ok (.invokevirtual 215, 3) := by decide +kernel
theorem dX10_followsInTrial_24 : decode cX10_followsInTrial 24 = .ok (.ireturn, 1) := by decide +kernel
theorem dX10_statesAsSeen_0 : decode cX10_statesAsSeen 0 = .ok (.iconst 0, 1) := by decide +kernel
theorem dX10_statesAsSeen_1 : decode cX10_statesAsSeen 1 = .ok (.istore_n 2, 1) := by decide +kernel
theorem dX10_statesAsSeen_2 : decode cX10_statesAsSeen 2 = .ok (.iconst 0, 1) := by decide +kernel
theorem dX10_statesAsSeen_3 : decode cX10_statesAsSeen 3 = .ok (.istore_n 3, 1) := by decide +kernel
theorem dX10_statesAsSeen_4 : decode cX10_statesAsSeen 4 = .ok (.iload_n 3, 1) := by decide +kernel
theorem dX10_statesAsSeen_5 : decode cX10_statesAsSeen 5 = .ok (.aload_n 1, 1) := by decide +kernel
theorem dX10_statesAsSeen_6 : decode cX10_statesAsSeen 6 = .ok (.getfield 243, 3) := by decide +kernel
theorem dX10_statesAsSeen_9 : decode cX10_statesAsSeen 9 = .ok (.if_icmp .ge 28, 3) := by decide +kernel
theorem dX10_statesAsSeen_12 : decode cX10_statesAsSeen 12 = .ok (.iload_n 2, 1) := by decide +kernel
theorem dX10_statesAsSeen_13 : decode cX10_statesAsSeen 13 = .ok (.aload_n 0, 1) := by decide +kernel
theorem dX10_statesAsSeen_14 : decode cX10_statesAsSeen 14 = .ok (.aload_n 1, 1) := by decide +kernel
theorem dX10_statesAsSeen_15 : decode cX10_statesAsSeen 15 = .ok (.iload_n 3, 1) := by decide +kernel
theorem dX10_statesAsSeen_16 : decode cX10_statesAsSeen 16 = .ok (.invokevirtual 315, 3) := by decide +kernel
theorem dX10_statesAsSeen_19 : decode cX10_statesAsSeen 19 = .ok (.ifCond .eq 9, 3) := by decide +kernel
theorem dX10_statesAsSeen_22 : decode cX10_statesAsSeen 22 = .ok (.iconst 1, 1) := by decide +kernel
theorem dX10_statesAsSeen_23 : decode cX10_statesAsSeen 23 = .ok (.iload_n 3, 1) := by decide +kernel
theorem dX10_statesAsSeen_24 : decode cX10_statesAsSeen 24 = .ok (.ishl, 1) := by decide +kernel
theorem dX10_statesAsSeen_25 : decode cX10_statesAsSeen 25 = .ok (.goto 4, 3) := by decide +kernel
theorem dX10_statesAsSeen_28 : decode cX10_statesAsSeen 28 = .ok (.iconst 0, 1) := by decide +kernel
theorem dX10_statesAsSeen_29 : decode cX10_statesAsSeen 29 = .ok (.ior, 1) := by decide +kernel
theorem dX10_statesAsSeen_30 : decode cX10_statesAsSeen 30 = .ok (.istore_n 2, 1) := by decide +kernel
theorem dX10_statesAsSeen_31 : decode cX10_statesAsSeen 31 = .ok (.iinc 3 1, 3) := by decide +kernel
theorem dX10_statesAsSeen_34 : decode cX10_statesAsSeen 34 = .ok (.goto (-30), 3) := by decide +kernel
theorem dX10_statesAsSeen_37 : decode cX10_statesAsSeen 37 = .ok (.iload_n 2, 1) := by decide +kernel
theorem dX10_statesAsSeen_38 : decode cX10_statesAsSeen 38 = .ok (.ireturn, 1) := by decide +kernel
theorem dX10_isAsSeen_0 : decode cX10_isAsSeen 0 = .ok (.iconst 0, 1) := by decide +kernel
theorem dX10_isAsSeen_1 : decode cX10_isAsSeen 1 = .ok (.istore_n 3, 1) := by decide +kernel
theorem dX10_isAsSeen_2 : decode cX10_isAsSeen 2 = .ok (.iload_n 3, 1) := by decide +kernel
theorem dX10_isAsSeen_3 : decode cX10_isAsSeen 3 = .ok (.aload_n 0, 1) := by decide +kernel
theorem dX10_isAsSeen_4 : decode cX10_isAsSeen 4 = .ok (.getfield 256, 3) := by decide +kernel
theorem dX10_isAsSeen_7 : decode cX10_isAsSeen 7 = .ok (.if_icmp .ge 42, 3) := by decide +kernel
theorem dX10_isAsSeen_10 : decode cX10_isAsSeen 10 = .ok (.iload_n 3, 1) := by decide +kernel
theorem dX10_isAsSeen_11 : decode cX10_isAsSeen 11 = .ok (.bipush 6, 2) := by decide +kernel
theorem dX10_isAsSeen_13 : decode cX10_isAsSeen 13 = .ok (.if_icmp .ge 36, 3) := by decide +kernel
theorem dX10_isAsSeen_16 : decode cX10_isAsSeen 16 = .ok (.aload_n 1, 1) := by decide +kernel
theorem dX10_isAsSeen_17 : decode cX10_isAsSeen 17 = .ok (.iconst 1, 1) := by decide +kernel
theorem dX10_isAsSeen_18 : decode cX10_isAsSeen 18 = .ok (.iload_n 2, 1) := by decide +kernel
theorem dX10_isAsSeen_19 : decode cX10_isAsSeen 19 = .ok (.ishl, 1) := by decide +kernel
theorem dX10_isAsSeen_20 : decode cX10_isAsSeen 20 = .ok (.aload_n 0, 1) := by decide +kernel
theorem dX10_isAsSeen_21 : decode cX10_isAsSeen 21 = .ok (.getfield 41, 3) := by decide +kernel
theorem dX10_isAsSeen_24 : decode cX10_isAsSeen 24 = .ok (.iload_n 3, 1) := by decide +kernel
theorem dX10_isAsSeen_25 : decode cX10_isAsSeen 25 = .ok (.iaload, 1) := by decide +kernel
theorem dX10_isAsSeen_26 : decode cX10_isAsSeen 26 = .ok (.invokevirtual 167, 3) := by decide +kernel
theorem dX10_isAsSeen_29 : decode cX10_isAsSeen 29 = .ok (.invokestatic 137, 3) := by decide +kernel
theorem dX10_isAsSeen_32 : decode cX10_isAsSeen 32 = .ok (.aload_n 0, 1) := by decide +kernel
theorem dX10_isAsSeen_33 : decode cX10_isAsSeen 33 = .ok (.getfield 45, 3) := by decide +kernel
theorem dX10_isAsSeen_36 : decode cX10_isAsSeen 36 = .ok (.iload_n 3, 1) := by decide +kernel
theorem dX10_isAsSeen_37 : decode cX10_isAsSeen 37 = .ok (.iaload, 1) := by decide +kernel
theorem dX10_isAsSeen_38 : decode cX10_isAsSeen 38 = .ok (.if_icmp .eq 5, 3) := by decide +kernel
theorem dX10_isAsSeen_41 : decode cX10_isAsSeen 41 = .ok (.iconst 0, 1) := by decide +kernel
theorem dX10_isAsSeen_42 : decode cX10_isAsSeen 42 = .ok (.ireturn, 1) := by decide +kernel
theorem dX10_isAsSeen_43 : decode cX10_isAsSeen 43 = .ok (.iinc 3 1, 3) := by decide +kernel
theorem dX10_isAsSeen_46 : decode cX10_isAsSeen 46 = .ok (.goto (-44), 3) := by decide +kernel
theorem dX10_isAsSeen_49 : decode cX10_isAsSeen 49 = .ok (.iconst 1, 1) := by decide +kernel
theorem dX10_isAsSeen_50 : decode cX10_isAsSeen 50 = .ok (.ireturn, 1) := by decide +kernel
theorem dX10_shareOfWord_0 : decode cX10_shareOfWord 0 = .ok (.iload_n 1, 1) := by decide +kernel
theorem dX10_shareOfWord_1 : decode cX10_shareOfWord 1 = .ok (.invokestatic 319, 3) := by decide +kernel
theorem dX10_shareOfWord_4 : decode cX10_shareOfWord 4 = .ok (.istore_n 2, 1) := by decide +kernel
theorem dX10_shareOfWord_5 : decode cX10_shareOfWord 5 = .ok (.iload_n 2, 1) := by decide +kernel
theorem dX10_shareOfWord_6 : decode cX10_shareOfWord 6 = .ok (.ifCond .eq 11, 3) := by decide +kernel
theorem dX10_shareOfWord_9 : decode cX10_shareOfWord 9 = .ok (.iload_n 1, 1) := by decide +kernel
theorem dX10_shareOfWord_10 : decode cX10_shareOfWord 10 = .ok (.iload_n 0, 1) := by decide +kernel
theorem dX10_shareOfWord_11 : decode cX10_shareOfWord 11 = .ok (.ishr, 1) := by decide +kernel
theorem dX10_shareOfWord_12 : decode cX10_shareOfWord 12 = .ok (.iconst 1, 1) := by decide +kernel
theorem dX10_shareOfWord_13 : decode cX10_shareOfWord 13 = .ok (.iand, 1) := by decide +kernel
theorem dX10_shareOfWord_14 : decode cX10_shareOfWord 14 = .ok (.ifCond .ne 5, 3) := by decide +kernel
theorem dX10_shareOfWord_17 : decode cX10_shareOfWord 17 = .ok (.iconst 0, 1) := by decide +kernel
theorem dX10_shareOfWord_18 : decode cX10_shareOfWord 18 = .ok (.ireturn, 1) := by decide +kernel
theorem dX10_shareOfWord_19 : decode cX10_shareOfWord 19 = .ok (.bipush 60, 2) := by decide +kernel
theorem dX10_shareOfWord_21 : decode cX10_shareOfWord 21 = .ok (.iload_n 2, 1) := by decide +kernel
theorem dX10_shareOfWord_22 : decode cX10_shareOfWord 22 = .ok (.idiv, 1) := by decide +kernel
theorem dX10_shareOfWord_23 : decode cX10_shareOfWord 23 = .ok (.ireturn, 1) := by decide +kernel
theorem dX10_chance_0 : decode cX10_chance 0 = .ok (.iconst 1, 1) := by decide +kernel
theorem dX10_chance_1 : decode cX10_chance 1 = .ok (.istore_n 3, 1) := by decide +kernel
theorem dX10_chance_2 : decode cX10_chance 2 = .ok (.iconst 0, 1) := by decide +kernel
theorem dX10_chance_3 : decode cX10_chance 3 = .ok (.istore 4, 2) := by decide +kernel
theorem dX10_chance_5 : decode cX10_chance 5 = .ok (.iload 4, 2) := by decide +kernel
theorem dX10_chance_7 : decode cX10_chance 7 = .ok (.iconst 5, 1) := by decide +kernel
theorem dX10_chance_8 : decode cX10_chance 8 = .ok (.if_icmp .ge 44, 3) := by decide +kernel
theorem dX10_chance_11 : decode cX10_chance 11 = .ok (.aload_n 0, 1) := by decide +kernel
theorem dX10_chance_12 : decode cX10_chance 12 = .ok (.getfield 19, 3) := by decide +kernel
theorem dX10_chance_15 : decode cX10_chance 15 = .ok (.getfield 188, 3) := by decide +kernel
theorem dX10_chance_18 : decode cX10_chance 18 = .ok (.iload 4, 2) := by decide +kernel
theorem dX10_chance_20 : decode cX10_chance 20 = .ok (.invokevirtual 154, 3) := by decide +kernel
theorem dX10_chance_23 : decode cX10_chance 23 = .ok (.ifCond .eq 23, 3) := by decide +kernel
theorem dX10_chance_26 : decode cX10_chance 26 = .ok (.iload_n 3, 1) := by decide +kernel
theorem dX10_chance_27 : decode cX10_chance 27 = .ok (.iload_n 1, 1) := by decide +kernel
theorem dX10_chance_28 : decode cX10_chance 28 = .ok (.iload 4, 2) := by decide +kernel
theorem dX10_chance_30 : decode cX10_chance 30 = .ok (.ishr, 1) := by decide +kernel
theorem dX10_chance_31 : decode cX10_chance 31 = .ok (.iconst 1, 1) := by decide +kernel
theorem dX10_chance_32 : decode cX10_chance 32 = .ok (.iand, 1) := by decide +kernel
theorem dX10_chance_33 : decode cX10_chance 33 = .ok (.ifCond .eq 10, 3) := by decide +kernel
theorem dX10_chance_36 : decode cX10_chance 36 = .ok (.bipush 10, 2) := by decide +kernel
theorem dX10_chance_38 : decode cX10_chance 38 = .ok (.iload_n 2, 1) := by decide +kernel
theorem dX10_chance_39 : decode cX10_chance 39 = .ok (.isub, 1) := by decide +kernel
theorem dX10_chance_40 : decode cX10_chance 40 = .ok (.goto 4, 3) := by decide +kernel
theorem dX10_chance_43 : decode cX10_chance 43 = .ok (.iload_n 2, 1) := by decide +kernel
theorem dX10_chance_44 : decode cX10_chance 44 = .ok (.imul, 1) := by decide +kernel
theorem dX10_chance_45 : decode cX10_chance 45 = .ok (.istore_n 3, 1) := by decide +kernel
theorem dX10_chance_46 : decode cX10_chance 46 = .ok (.iinc 4 1, 3) := by decide +kernel
theorem dX10_chance_49 : decode cX10_chance 49 = .ok (.goto (-44), 3) := by decide +kernel
theorem dX10_chance_52 : decode cX10_chance 52 = .ok (.iload_n 3, 1) := by decide +kernel
theorem dX10_chance_53 : decode cX10_chance 53 = .ok (.ireturn, 1) := by decide +kernel
theorem dX10_inLeastTerms_0 : decode cX10_inLeastTerms 0 = .ok (.iload_n 1, 1) := by decide +kernel
theorem dX10_inLeastTerms_1 : decode cX10_inLeastTerms 1 = .ok (.istore_n 3, 1) := by decide +kernel
theorem dX10_inLeastTerms_2 : decode cX10_inLeastTerms 2 = .ok (.iload_n 0, 1) := by decide +kernel
theorem dX10_inLeastTerms_3 : decode cX10_inLeastTerms 3 = .ok (.istore 4, 2) := by decide +kernel
theorem dX10_inLeastTerms_5 : decode cX10_inLeastTerms 5 = .ok (.iconst 0, 1) := by decide +kernel
theorem dX10_inLeastTerms_6 : decode cX10_inLeastTerms 6 = .ok (.istore 5, 2) := by decide +kernel
theorem dX10_inLeastTerms_8 : decode cX10_inLeastTerms 8 = .ok (.iload 5, 2) := by decide +kernel
theorem dX10_inLeastTerms_10 : decode cX10_inLeastTerms 10 = .ok (.bipush 100, 2) := by decide +kernel
theorem dX10_inLeastTerms_12 : decode cX10_inLeastTerms 12 = .ok (.if_icmp .ge 27, 3) := by decide +kernel
theorem dX10_inLeastTerms_15 : decode cX10_inLeastTerms 15 = .ok (.iload 4, 2) := by decide +kernel
theorem dX10_inLeastTerms_17 : decode cX10_inLeastTerms 17 = .ok (.ifCond .eq 22, 3) := by decide +kernel
theorem dX10_inLeastTerms_20 : decode cX10_inLeastTerms 20 = .ok (.iload_n 3, 1) := by decide +kernel
theorem dX10_inLeastTerms_21 : decode cX10_inLeastTerms 21 = .ok (.iload 4, 2) := by decide +kernel
theorem dX10_inLeastTerms_23 : decode cX10_inLeastTerms 23 = .ok (.irem, 1) := by decide +kernel
theorem dX10_inLeastTerms_24 : decode cX10_inLeastTerms 24 = .ok (.istore 6, 2) := by decide +kernel
theorem dX10_inLeastTerms_26 : decode cX10_inLeastTerms 26 = .ok (.iload 4, 2) := by decide +kernel
theorem dX10_inLeastTerms_28 : decode cX10_inLeastTerms 28 = .ok (.istore_n 3, 1) := by decide +kernel
theorem dX10_inLeastTerms_29 : decode cX10_inLeastTerms 29 = .ok (.iload 6, 2) := by decide +kernel
theorem dX10_inLeastTerms_31 : decode cX10_inLeastTerms 31 = .ok (.istore 4, 2) := by decide +kernel
theorem dX10_inLeastTerms_33 : decode cX10_inLeastTerms 33 = .ok (.iinc 5 1, 3) := by decide +kernel
theorem dX10_inLeastTerms_36 : decode cX10_inLeastTerms 36 = .ok (.goto (-28), 3) := by decide +kernel
theorem dX10_inLeastTerms_39 : decode cX10_inLeastTerms 39 = .ok (.iload_n 3, 1) := by decide +kernel
theorem dX10_inLeastTerms_40 : decode cX10_inLeastTerms 40 = .ok (.ifCond .ne 5, 3) := by decide +kernel
theorem dX10_inLeastTerms_43 : decode cX10_inLeastTerms 43 = .ok (.iconst 0, 1) := by decide +kernel
theorem dX10_inLeastTerms_44 : decode cX10_inLeastTerms 44 = .ok (.ireturn, 1) := by decide +kernel
theorem dX10_inLeastTerms_45 : decode cX10_inLeastTerms 45 = .ok (.iload_n 2, 1) := by decide +kernel
theorem dX10_inLeastTerms_46 : decode cX10_inLeastTerms 46 = .ok (.ifCond .eq 9, 3) := by decide +kernel
theorem dX10_inLeastTerms_49 : decode cX10_inLeastTerms 49 = .ok (.iload_n 0, 1) := by decide +kernel
theorem dX10_inLeastTerms_50 : decode cX10_inLeastTerms 50 = .ok (.iload_n 3, 1) := by decide +kernel
theorem dX10_inLeastTerms_51 : decode cX10_inLeastTerms 51 = .ok (.idiv, 1) := by decide +kernel
theorem dX10_inLeastTerms_52 : decode cX10_inLeastTerms 52 = .ok (.goto 6, 3) := by decide +kernel
theorem dX10_inLeastTerms_55 : decode cX10_inLeastTerms 55 = .ok (.iload_n 1, 1) := by decide +kernel
theorem dX10_inLeastTerms_56 : decode cX10_inLeastTerms 56 = .ok (.iload_n 3, 1) := by decide +kernel
theorem dX10_inLeastTerms_57 : decode cX10_inLeastTerms 57 = .ok (.idiv, 1) := by decide +kernel
theorem dX10_inLeastTerms_58 : decode cX10_inLeastTerms 58 = .ok (.ireturn, 1) := by decide +kernel
theorem dX10_drawnOnce_0 : decode cX10_drawnOnce 0 = .ok (.iload_n 1, 1) := by decide +kernel
theorem dX10_drawnOnce_1 : decode cX10_drawnOnce 1 = .ok (.bipush 10, 2) := by decide +kernel
theorem dX10_drawnOnce_3 : decode cX10_drawnOnce 3 = .ok (.irem, 1) := by decide +kernel
theorem dX10_drawnOnce_4 : decode cX10_drawnOnce 4 = .ok (.istore_n 2, 1) := by decide +kernel
theorem dX10_drawnOnce_5 : decode cX10_drawnOnce 5 = .ok (.iconst 1, 1) := by decide +kernel
theorem dX10_drawnOnce_6 : decode cX10_drawnOnce 6 = .ok (.istore_n 3, 1) := by decide +kernel
theorem dX10_drawnOnce_7 : decode cX10_drawnOnce 7 = .ok (.iconst 1, 1) := by decide +kernel
theorem dX10_drawnOnce_8 : decode cX10_drawnOnce 8 = .ok (.istore 4, 2) := by decide +kernel
theorem dX10_drawnOnce_10 : decode cX10_drawnOnce 10 = .ok (.iload_n 1, 1) := by decide +kernel
theorem dX10_drawnOnce_11 : decode cX10_drawnOnce 11 = .ok (.bipush 16, 2) := by decide +kernel
theorem dX10_drawnOnce_13 : decode cX10_drawnOnce 13 = .ok (.idiv, 1) := by decide +kernel
theorem dX10_drawnOnce_14 : decode cX10_drawnOnce 14 = .ok (.istore 5, 2) := by decide +kernel
theorem dX10_drawnOnce_16 : decode cX10_drawnOnce 16 = .ok (.iconst 0, 1) := by decide +kernel
theorem dX10_drawnOnce_17 : decode cX10_drawnOnce 17 = .ok (.istore 6, 2) := by decide +kernel
theorem dX10_drawnOnce_19 : decode cX10_drawnOnce 19 = .ok (.iload 6, 2) := by decide +kernel
theorem dX10_drawnOnce_21 : decode cX10_drawnOnce 21 = .ok (.iload_n 2, 1) := by decide +kernel
theorem dX10_drawnOnce_22 : decode cX10_drawnOnce 22 = .ok (.if_icmp .ge 53, 3) := by decide +kernel
theorem dX10_drawnOnce_25 : decode cX10_drawnOnce 25 = .ok (.iload 5, 2) := by decide +kernel
theorem dX10_drawnOnce_27 : decode cX10_drawnOnce 27 = .ok (.iconst 2, 1) := by decide +kernel
theorem dX10_drawnOnce_28 : decode cX10_drawnOnce 28 = .ok (.irem, 1) := by decide +kernel
theorem dX10_drawnOnce_29 : decode cX10_drawnOnce 29 = .ok (.iconst 1, 1) := by decide +kernel
theorem dX10_drawnOnce_30 : decode cX10_drawnOnce 30 = .ok (.iadd, 1) := by decide +kernel
theorem dX10_drawnOnce_31 : decode cX10_drawnOnce 31 = .ok (.istore 7, 2) := by decide +kernel
theorem dX10_drawnOnce_33 : decode cX10_drawnOnce 33 = .ok (.aload_n 0, 1) := by decide +kernel
theorem dX10_drawnOnce_34 : decode cX10_drawnOnce 34 = .ok (.getfield 19, 3) := by decide +kernel
theorem dX10_drawnOnce_37 : decode cX10_drawnOnce 37 = .ok (.getfield 178, 3) := by decide +kernel
theorem dX10_drawnOnce_40 : decode cX10_drawnOnce 40 = .ok (.iload_n 3, 1) := by decide +kernel
theorem dX10_drawnOnce_41 : decode cX10_drawnOnce 41 = .ok (.iload 7, 2) := by decide +kernel
theorem dX10_drawnOnce_43 : decode cX10_drawnOnce 43 = .ok (.invokevirtual 324, 3) := by decide +kernel
theorem dX10_drawnOnce_46 : decode cX10_drawnOnce 46 = .ok (.istore_n 3, 1) := by decide +kernel
theorem dX10_drawnOnce_47 : decode cX10_drawnOnce 47 = .ok (.aload_n 0, 1) := by decide +kernel
theorem dX10_drawnOnce_48 : decode cX10_drawnOnce 48 = .ok (.getfield 19, 3) := by decide +kernel
theorem dX10_drawnOnce_51 : decode cX10_drawnOnce 51 = .ok (.getfield 188, 3) := by decide +kernel
theorem dX10_drawnOnce_54 : decode cX10_drawnOnce 54 = .ok (.iload 4, 2) := by decide +kernel
theorem dX10_drawnOnce_56 : decode cX10_drawnOnce 56 = .ok (.iload 7, 2) := by decide +kernel
theorem dX10_drawnOnce_58 : decode cX10_drawnOnce 58 = .ok (.invokevirtual 324, 3) := by decide +kernel
theorem dX10_drawnOnce_61 : decode cX10_drawnOnce 61 = .ok (.istore 4, 2) := by decide +kernel
theorem dX10_drawnOnce_63 : decode cX10_drawnOnce 63 = .ok (.iload 5, 2) := by decide +kernel
theorem dX10_drawnOnce_65 : decode cX10_drawnOnce 65 = .ok (.iconst 2, 1) := by decide +kernel
theorem dX10_drawnOnce_66 : decode cX10_drawnOnce 66 = .ok (.idiv, 1) := by decide +kernel
theorem dX10_drawnOnce_67 : decode cX10_drawnOnce 67 = .ok (.istore 5, 2) := by decide +kernel
theorem dX10_drawnOnce_69 : decode cX10_drawnOnce 69 = .ok (.iinc 6 1, 3) := by decide +kernel
theorem dX10_drawnOnce_72 : decode cX10_drawnOnce 72 = .ok (.goto (-53), 3) := by decide +kernel
theorem dX10_drawnOnce_75 : decode cX10_drawnOnce 75 = .ok (.aload_n 0, 1) := by decide +kernel
theorem dX10_drawnOnce_76 : decode cX10_drawnOnce 76 = .ok (.getfield 19, 3) := by decide +kernel
theorem dX10_drawnOnce_79 : decode cX10_drawnOnce 79 = .ok (.getfield 178, 3) := by decide +kernel
theorem dX10_drawnOnce_82 : decode cX10_drawnOnce 82 = .ok (.iload_n 3, 1) := by decide +kernel
theorem dX10_drawnOnce_83 : decode cX10_drawnOnce 83 = .ok (.invokevirtual 185, 3) := by decide +kernel
theorem dX10_drawnOnce_86 : decode cX10_drawnOnce 86 = .ok (.invokestatic 137, 3) := by decide +kernel
theorem dX10_drawnOnce_89 : decode cX10_drawnOnce 89 = .ok (.iconst 2, 1) := by decide +kernel
theorem dX10_drawnOnce_90 : decode cX10_drawnOnce 90 = .ok (.aload_n 0, 1) := by decide +kernel
theorem dX10_drawnOnce_91 : decode cX10_drawnOnce 91 = .ok (.getfield 19, 3) := by decide +kernel
theorem dX10_drawnOnce_94 : decode cX10_drawnOnce 94 = .ok (.getfield 188, 3) := by decide +kernel
theorem dX10_drawnOnce_97 : decode cX10_drawnOnce 97 = .ok (.iload 4, 2) := by decide +kernel
theorem dX10_drawnOnce_99 : decode cX10_drawnOnce 99 = .ok (.invokevirtual 185, 3) := by decide +kernel
theorem dX10_drawnOnce_102 : decode cX10_drawnOnce 102 = .ok (.invokestatic 137, 3) := by decide +kernel
theorem dX10_drawnOnce_105 : decode cX10_drawnOnce 105 = .ok (.imul, 1) := by decide +kernel
theorem dX10_drawnOnce_106 : decode cX10_drawnOnce 106 = .ok (.iadd, 1) := by decide +kernel
theorem dX10_drawnOnce_107 : decode cX10_drawnOnce 107 = .ok (.ireturn, 1) := by decide +kernel
