theorem dX1_init_0 : decode cX1_init 0 = .ok (.aload_n 0, 1) := by decide +kernel
theorem dX1_init_1 : decode cX1_init 1 = .ok (.invokespecial 1, 3) := by decide +kernel
theorem dX1_init_4 : decode cX1_init 4 = .ok (.aload_n 0, 1) := by decide +kernel
theorem dX1_init_5 : decode cX1_init 5 = .ok (.new 7, 3) := by decide +kernel
theorem dX1_init_8 : decode cX1_init 8 = .ok (.dup, 1) := by decide +kernel
theorem dX1_init_9 : decode cX1_init 9 = .ok (.invokespecial 9, 3) := by decide +kernel
theorem dX1_init_12 : decode cX1_init 12 = .ok (.putfield 10, 3) := by decide +kernel
theorem dX1_init_15 : decode cX1_init 15 = .ok (.aload_n 0, 1) := by decide +kernel
theorem dX1_init_16 : decode cX1_init 16 = .ok (.new 7, 3) := by decide +kernel
theorem dX1_init_19 : decode cX1_init 19 = .ok (.dup, 1) := by decide +kernel
theorem dX1_init_20 : decode cX1_init 20 = .ok (.invokespecial 9, 3) := by decide +kernel
theorem dX1_init_23 : decode cX1_init 23 = .ok (.putfield 16, 3) := by decide +kernel
theorem dX1_init_26 : decode cX1_init 26 = .ok (.return_, 1) := by decide +kernel
theorem dX1_of_0 : decode cX1_of 0 = .ok (.iload_n 1, 1) := by decide +kernel
theorem dX1_of_1 : decode cX1_of 1 = .ok (.ifCond .ne 10, 3) := by decide +kernel
theorem dX1_of_4 : decode cX1_of 4 = .ok (.aload_n 0, 1) := by decide +kernel
theorem dX1_of_5 : decode cX1_of 5 = .ok (.getfield 10, 3) := by decide +kernel
theorem dX1_of_8 : decode cX1_of 8 = .ok (.goto 7, 3) := by decide +kernel
theorem dX1_of_11 : decode cX1_of 11 = .ok (.aload_n 0, 1) := by decide +kernel
theorem dX1_of_12 : decode cX1_of 12 = .ok (.getfield 16, 3) := by decide +kernel
theorem dX1_of_15 : decode cX1_of 15 = .ok (.areturn, 1) := by decide +kernel
theorem dX1_copyFrom_0 : decode cX1_copyFrom 0 = .ok (.aload_n 0, 1) := by decide +kernel
theorem dX1_copyFrom_1 : decode cX1_copyFrom 1 = .ok (.getfield 10, 3) := by decide +kernel
theorem dX1_copyFrom_4 : decode cX1_copyFrom 4 = .ok (.aload_n 1, 1) := by decide +kernel
theorem dX1_copyFrom_5 : decode cX1_copyFrom 5 = .ok (.getfield 10, 3) := by decide +kernel
theorem dX1_copyFrom_8 : decode cX1_copyFrom 8 = .ok (.invokevirtual 19, 3) := by decide +kernel
theorem dX1_copyFrom_11 : decode cX1_copyFrom 11 = .ok (.aload_n 0, 1) := by decide +kernel
theorem dX1_copyFrom_12 : decode cX1_copyFrom 12 = .ok (.getfield 16, 3) := by decide +kernel
theorem dX1_copyFrom_15 : decode cX1_copyFrom 15 = .ok (.aload_n 1, 1) := by decide +kernel
theorem dX1_copyFrom_16 : decode cX1_copyFrom 16 = .ok (.getfield 16, 3) := by decide +kernel
theorem dX1_copyFrom_19 : decode cX1_copyFrom 19 = .ok (.invokevirtual 19, 3) := by decide +kernel
theorem dX1_copyFrom_22 : decode cX1_copyFrom 22 = .ok (.return_, 1) := by decide +kernel
theorem dX1_edges_0 : decode cX1_edges 0 = .ok (.aload_n 0, 1) := by decide +kernel
theorem dX1_edges_1 : decode cX1_edges 1 = .ok (.getfield 10, 3) := by decide +kernel
theorem dX1_edges_4 : decode cX1_edges 4 = .ok (.invokevirtual 23, 3) := by decide +kernel
theorem dX1_edges_7 : decode cX1_edges 7 = .ok (.aload_n 0, 1) := by decide +kernel
theorem dX1_edges_8 : decode cX1_edges 8 = .ok (.getfield 16, 3) := by decide +kernel
theorem dX1_edges_11 : decode cX1_edges 11 = .ok (.invokevirtual 23, 3) := by decide +kernel
theorem dX1_edges_14 : decode cX1_edges 14 = .ok (.iadd, 1) := by decide +kernel
theorem dX1_edges_15 : decode cX1_edges 15 = .ok (.ireturn, 1) := by decide +kernel
theorem dX6_init_0 : decode cX6_init 0 = .ok (.aload_n 0, 1) := by decide +kernel
theorem dX6_init_1 : decode cX6_init 1 = .ok (.invokespecial 3, 3) := by decide +kernel
theorem dX6_init_4 : decode cX6_init 4 = .ok (.aload_n 0, 1) := by decide +kernel
theorem dX6_init_5 : decode cX6_init 5 = .ok (.bipush 10, 2) := by decide +kernel
theorem dX6_init_7 : decode cX6_init 7 = .ok (.newarray .int, 2) := by decide +kernel
theorem dX6_init_9 : decode cX6_init 9 = .ok (.putfield 9, 3) := by decide +kernel
theorem dX6_init_12 : decode cX6_init 12 = .ok (.aload_n 0, 1) := by decide +kernel
theorem dX6_init_13 : decode cX6_init 13 = .ok (.iconst 1, 1) := by decide +kernel
theorem dX6_init_14 : decode cX6_init 14 = .ok (.putfield 15, 3) := by decide +kernel
theorem dX6_init_17 : decode cX6_init 17 = .ok (.return_, 1) := by decide +kernel
theorem dX6_reset_0 : decode cX6_reset 0 = .ok (.aload_n 0, 1) := by decide +kernel
theorem dX6_reset_1 : decode cX6_reset 1 = .ok (.iload_n 1, 1) := by decide +kernel
theorem dX6_reset_2 : decode cX6_reset 2 = .ok (.putfield 15, 3) := by decide +kernel
theorem dX6_reset_5 : decode cX6_reset 5 = .ok (.aload_n 0, 1) := by decide +kernel
theorem dX6_reset_6 : decode cX6_reset 6 = .ok (.iconst 0, 1) := by decide +kernel
theorem dX6_reset_7 : decode cX6_reset 7 = .ok (.putfield 19, 3) := by decide +kernel
theorem dX6_reset_10 : decode cX6_reset 10 = .ok (.aload_n 0, 1) := by decide +kernel
theorem dX6_reset_11 : decode cX6_reset 11 = .ok (.getfield 9, 3) := by decide +kernel
theorem dX6_reset_14 : decode cX6_reset 14 = .ok (.iconst 0, 1) := by decide +kernel
theorem dX6_reset_15 : decode cX6_reset 15 = .ok (.invokestatic 22, 3) := by decide +kernel
theorem dX6_reset_18 : decode cX6_reset 18 = .ok (.return_, 1) := by decide +kernel
theorem dX6_copyFrom_0 : decode cX6_copyFrom 0 = .ok (.aload_n 0, 1) := by decide +kernel
theorem dX6_copyFrom_1 : decode cX6_copyFrom 1 = .ok (.aload_n 1, 1) := by decide +kernel
theorem dX6_copyFrom_2 : decode cX6_copyFrom 2 = .ok (.getfield 15, 3) := by decide +kernel
theorem dX6_copyFrom_5 : decode cX6_copyFrom 5 = .ok (.putfield 15, 3) := by decide +kernel
theorem dX6_copyFrom_8 : decode cX6_copyFrom 8 = .ok (.aload_n 0, 1) := by decide +kernel
theorem dX6_copyFrom_9 : decode cX6_copyFrom 9 = .ok (.aload_n 1, 1) := by decide +kernel
theorem dX6_copyFrom_10 : decode cX6_copyFrom 10 = .ok (.getfield 19, 3) := by decide +kernel
theorem dX6_copyFrom_13 : decode cX6_copyFrom 13 = .ok (.putfield 19, 3) := by decide +kernel
theorem dX6_copyFrom_16 : decode cX6_copyFrom 16 = .ok (.aload_n 1, 1) := by decide +kernel
theorem dX6_copyFrom_17 : decode cX6_copyFrom 17 = .ok (.getfield 9, 3) := by decide +kernel
theorem dX6_copyFrom_20 : decode cX6_copyFrom 20 = .ok (.iconst 0, 1) := by decide +kernel
theorem dX6_copyFrom_21 : decode cX6_copyFrom 21 = .ok (.aload_n 0, 1) := by decide +kernel
theorem dX6_copyFrom_22 : decode cX6_copyFrom 22 = .ok (.getfield 9, 3) := by decide +kernel
theorem dX6_copyFrom_25 : decode cX6_copyFrom 25 = .ok (.iconst 0, 1) := by decide +kernel
theorem dX6_copyFrom_26 : decode cX6_copyFrom 26 = .ok (.bipush 10, 2) := by decide +kernel
theorem dX6_copyFrom_28 : decode cX6_copyFrom 28 = .ok (.invokestatic 28, 3) := by decide +kernel
theorem dX6_copyFrom_31 : decode cX6_copyFrom 31 = .ok (.return_, 1) := by decide +kernel
theorem dX6_knows_0 : decode cX6_knows 0 = .ok (.iload_n 1, 1) := by decide +kernel
theorem dX6_knows_1 : decode cX6_knows 1 = .ok (.ifCond .lt 15, 3) := by decide +kernel
theorem dX6_knows_4 : decode cX6_knows 4 = .ok (.iload_n 1, 1) := by decide +kernel
theorem dX6_knows_5 : decode cX6_knows 5 = .ok (.aload_n 0, 1) := by decide +kernel
theorem dX6_knows_6 : decode cX6_knows 6 = .ok (.getfield 15, 3) := by decide +kernel
theorem dX6_knows_9 : decode cX6_knows 9 = .ok (.if_icmp .ge 7, 3) := by decide +kernel
theorem dX6_knows_12 : decode cX6_knows 12 = .ok (.iconst 1, 1) := by decide +kernel
theorem dX6_knows_13 : decode cX6_knows 13 = .ok (.goto 4, 3) := by decide +kernel
theorem dX6_knows_16 : decode cX6_knows 16 = .ok (.iconst 0, 1) := by decide +kernel
theorem dX6_knows_17 : decode cX6_knows 17 = .ok (.ireturn, 1) := by decide +kernel
theorem dX6_isEnd_0 : decode cX6_isEnd 0 = .ok (.aload_n 0, 1) := by decide +kernel
theorem dX6_isEnd_1 : decode cX6_isEnd 1 = .ok (.iload_n 1, 1) := by decide +kernel
theorem dX6_isEnd_2 : decode cX6_isEnd 2 = .ok (.invokevirtual 34, 3) := by decide +kernel
theorem dX6_isEnd_5 : decode cX6_isEnd 5 = .ok (.ifCond .eq 18, 3) := by decide +kernel
theorem dX6_isEnd_8 : decode cX6_isEnd 8 = .ok (.aload_n 0, 1) := by decide +kernel
theorem dX6_isEnd_9 : decode cX6_isEnd 9 = .ok (.getfield 19, 3) := by decide +kernel
theorem dX6_isEnd_12 : decode cX6_isEnd 12 = .ok (.iload_n 1, 1) := by decide +kernel
theorem dX6_isEnd_13 : decode cX6_isEnd 13 = .ok (.ishr, 1) := by decide +kernel
theorem dX6_isEnd_14 : decode cX6_isEnd 14 = .ok (.iconst 1, 1) := by decide +kernel
theorem dX6_isEnd_15 : decode cX6_isEnd 15 = .ok (.iand, 1) := by decide +kernel
theorem dX6_isEnd_16 : decode cX6_isEnd 16 = .ok (.ifCond .eq 7, 3) := by decide +kernel
theorem dX6_isEnd_19 : decode cX6_isEnd 19 = .ok (.iconst 1, 1) := by decide +kernel
theorem dX6_isEnd_20 : decode cX6_isEnd 20 = .ok (.goto 4, 3) := by decide +kernel
theorem dX6_isEnd_23 : decode cX6_isEnd 23 = .ok (.iconst 0, 1) := by decide +kernel
theorem dX6_isEnd_24 : decode cX6_isEnd 24 = .ok (.ireturn, 1) := by decide +kernel
theorem dX6_hasEndIn_0 : decode cX6_hasEndIn 0 = .ok (.iload_n 1, 1) := by decide +kernel
theorem dX6_hasEndIn_1 : decode cX6_hasEndIn 1 = .ok (.aload_n 0, 1) := by decide +kernel
theorem dX6_hasEndIn_2 : decode cX6_hasEndIn 2 = .ok (.getfield 19, 3) := by decide +kernel
theorem dX6_hasEndIn_5 : decode cX6_hasEndIn 5 = .ok (.iand, 1) := by decide +kernel
theorem dX6_hasEndIn_6 : decode cX6_hasEndIn 6 = .ok (.ifCond .eq 7, 3) := by decide +kernel
theorem dX6_hasEndIn_9 : decode cX6_hasEndIn 9 = .ok (.iconst 1, 1) := by decide +kernel
theorem dX6_hasEndIn_10 : decode cX6_hasEndIn 10 = .ok (.goto 4, 3) := by decide +kernel
theorem dX6_hasEndIn_13 : decode cX6_hasEndIn 13 = .ok (.iconst 0, 1) := by decide +kernel
theorem dX6_hasEndIn_14 : decode cX6_hasEndIn 14 = .ok (.ireturn, 1) := by decide +kernel
theorem dX6_allStates_0 : decode cX6_allStates 0 = .ok (.iconst 1, 1) := by decide +kernel
theorem dX6_allStates_1 : decode cX6_allStates 1 = .ok (.aload_n 0, 1) := by decide +kernel
theorem dX6_allStates_2 : decode cX6_allStates 2 = .ok (.getfield 15, 3) := by decide +kernel
theorem dX6_allStates_5 : decode cX6_allStates 5 = .ok (.ishl, 1) := by decide +kernel
theorem dX6_allStates_6 : decode cX6_allStates 6 = .ok (.iconst 1, 1) := by decide +kernel
theorem dX6_allStates_7 : decode cX6_allStates 7 = .ok (.isub, 1) := by decide +kernel
theorem dX6_allStates_8 : decode cX6_allStates 8 = .ok (.ireturn, 1) := by decide +kernel
theorem dX6_targets_0 : decode cX6_targets 0 = .ok (.iload_n 1, 1) := by decide +kernel
theorem dX6_targets_1 : decode cX6_targets 1 = .ok (.iconst 2, 1) := by decide +kernel
theorem dX6_targets_2 : decode cX6_targets 2 = .ok (.imul, 1) := by decide +kernel
theorem dX6_targets_3 : decode cX6_targets 3 = .ok (.iload_n 2, 1) := by decide +kernel
theorem dX6_targets_4 : decode cX6_targets 4 = .ok (.iadd, 1) := by decide +kernel
theorem dX6_targets_5 : decode cX6_targets 5 = .ok (.iconst 1, 1) := by decide +kernel
theorem dX6_targets_6 : decode cX6_targets 6 = .ok (.isub, 1) := by decide +kernel
theorem dX6_targets_7 : decode cX6_targets 7 = .ok (.istore_n 3, 1) := by decide +kernel
theorem dX6_targets_8 : decode cX6_targets 8 = .ok (.iload_n 3, 1) := by decide +kernel
theorem dX6_targets_9 : decode cX6_targets 9 = .ok (.ifCond .lt 21, 3) := by decide +kernel
theorem dX6_targets_12 : decode cX6_targets 12 = .ok (.iload_n 3, 1) := by decide +kernel
theorem dX6_targets_13 : decode cX6_targets 13 = .ok (.aload_n 0, 1) := by decide +kernel
theorem dX6_targets_14 : decode cX6_targets 14 = .ok (.getfield 9, 3) := by decide +kernel
theorem dX6_targets_17 : decode cX6_targets 17 = .ok (.arraylength, 1) := by decide +kernel
theorem dX6_targets_18 : decode cX6_targets 18 = .ok (.if_icmp .ge 12, 3) := by decide +kernel
theorem dX6_targets_21 : decode cX6_targets 21 = .ok (.aload_n 0, 1) := by decide +kernel
theorem dX6_targets_22 : decode cX6_targets 22 = .ok (.getfield 9, 3) := by decide +kernel
theorem dX6_targets_25 : decode cX6_targets 25 = .ok (.iload_n 3, 1) := by decide +kernel
theorem dX6_targets_26 : decode cX6_targets 26 = .ok (.iaload, 1) := by decide +kernel
theorem dX6_targets_27 : decode cX6_targets 27 = .ok (.goto 4, 3) := by decide +kernel
theorem dX6_targets_30 : decode cX6_targets 30 = .ok (.iconst 0, 1) := by decide +kernel
theorem dX6_targets_31 : decode cX6_targets 31 = .ok (.ireturn, 1) := by decide +kernel
theorem dX6_joins_0 : decode cX6_joins 0 = .ok (.aload_n 0, 1) := by decide +kernel
theorem dX6_joins_1 : decode cX6_joins 1 = .ok (.iload_n 1, 1) := by decide +kernel
theorem dX6_joins_2 : decode cX6_joins 2 = .ok (.iload_n 2, 1) := by decide +kernel
theorem dX6_joins_3 : decode cX6_joins 3 = .ok (.invokevirtual 38, 3) := by decide +kernel
theorem dX6_joins_6 : decode cX6_joins 6 = .ok (.iload_n 3, 1) := by decide +kernel
theorem dX6_joins_7 : decode cX6_joins 7 = .ok (.ishr, 1) := by decide +kernel
theorem dX6_joins_8 : decode cX6_joins 8 = .ok (.iconst 1, 1) := by decide +kernel
theorem dX6_joins_9 : decode cX6_joins 9 = .ok (.iand, 1) := by decide +kernel
theorem dX6_joins_10 : decode cX6_joins 10 = .ok (.ifCond .eq 7, 3) := by decide +kernel
theorem dX6_joins_13 : decode cX6_joins 13 = .ok (.iconst 1, 1) := by decide +kernel
theorem dX6_joins_14 : decode cX6_joins 14 = .ok (.goto 4, 3) := by decide +kernel
theorem dX6_joins_17 : decode cX6_joins 17 = .ok (.iconst 0, 1) := by decide +kernel
theorem dX6_joins_18 : decode cX6_joins 18 = .ok (.ireturn, 1) := by decide +kernel
theorem dX6_flipEdge_0 : decode cX6_flipEdge 0 = .ok (.iload_n 1, 1) := by decide +kernel
theorem dX6_flipEdge_1 : decode cX6_flipEdge 1 = .ok (.iconst 2, 1) := by decide +kernel
theorem dX6_flipEdge_2 : decode cX6_flipEdge 2 = .ok (.imul, 1) := by decide +kernel
theorem dX6_flipEdge_3 : decode cX6_flipEdge 3 = .ok (.iload_n 2, 1) := by decide +kernel
theorem dX6_flipEdge_4 : decode cX6_flipEdge 4 = .ok (.iadd, 1) := by decide +kernel
theorem dX6_flipEdge_5 : decode cX6_flipEdge 5 = .ok (.iconst 1, 1) := by decide +kernel
theorem dX6_flipEdge_6 : decode cX6_flipEdge 6 = .ok (.isub, 1) := by decide +kernel
theorem dX6_flipEdge_7 : decode cX6_flipEdge 7 = .ok (.istore 4, 2) := by decide +kernel
theorem dX6_flipEdge_9 : decode cX6_flipEdge 9 = .ok (.iload 4, 2) := by decide +kernel
theorem dX6_flipEdge_11 : decode cX6_flipEdge 11 = .ok (.ifCond .lt 26, 3) := by decide +kernel
theorem dX6_flipEdge_14 : decode cX6_flipEdge 14 = .ok (.iload 4, 2) := by decide +kernel
theorem dX6_flipEdge_16 : decode cX6_flipEdge 16 = .ok (.aload_n 0, 1) := by decide +kernel
theorem dX6_flipEdge_17 : decode cX6_flipEdge 17 = .ok (.getfield 9, 3) := by decide +kernel
theorem dX6_flipEdge_20 : decode cX6_flipEdge 20 = .ok (.arraylength, 1) := by decide +kernel
theorem dX6_flipEdge_21 : decode cX6_flipEdge 21 = .ok (.if_icmp .ge 16, 3) := by decide +kernel
theorem dX6_flipEdge_24 : decode cX6_flipEdge 24 = .ok (.aload_n 0, 1) := by decide +kernel
theorem dX6_flipEdge_25 : decode cX6_flipEdge 25 = .ok (.getfield 9, 3) := by decide +kernel
theorem dX6_flipEdge_28 : decode cX6_flipEdge 28 = .ok (.iload 4, 2) := by decide +kernel
theorem dX6_flipEdge_30 : decode cX6_flipEdge 30 = .ok (.dup2, 1) := by decide +kernel
theorem dX6_flipEdge_31 : decode cX6_flipEdge 31 = .ok (.iaload, 1) := by decide +kernel
theorem dX6_flipEdge_32 : decode cX6_flipEdge 32 = .ok (.iconst 1, 1) := by decide +kernel
theorem dX6_flipEdge_33 : decode cX6_flipEdge 33 = .ok (.iload_n 3, 1) := by decide +kernel
theorem dX6_flipEdge_34 : decode cX6_flipEdge 34 = .ok (.ishl, 1) := by decide +kernel
theorem dX6_flipEdge_35 : decode cX6_flipEdge 35 = .ok (.ixor, 1) := by decide +kernel
theorem dX6_flipEdge_36 : decode cX6_flipEdge 36 = .ok (.iastore, 1) := by decide +kernel
theorem dX6_flipEdge_37 : decode cX6_flipEdge 37 = .ok (.return_, 1) := by decide +kernel
theorem dX6_flipEnd_0 : decode cX6_flipEnd 0 = .ok (.aload_n 0, 1) := by decide +kernel
theorem dX6_flipEnd_1 : decode cX6_flipEnd 1 = .ok (.dup, 1) := by decide +kernel
theorem dX6_flipEnd_2 : decode cX6_flipEnd 2 = .ok (.getfield 19, 3) := by decide +kernel
theorem dX6_flipEnd_5 : decode cX6_flipEnd 5 = .ok (.iconst 1, 1) := by decide +kernel
theorem dX6_flipEnd_6 : decode cX6_flipEnd 6 = .ok (.iload_n 1, 1) := by decide +kernel
theorem dX6_flipEnd_7 : decode cX6_flipEnd 7 = .ok (.ishl, 1) := by decide +kernel
theorem dX6_flipEnd_8 : decode cX6_flipEnd 8 = .ok (.ixor, 1) := by decide +kernel
theorem dX6_flipEnd_9 : decode cX6_flipEnd 9 = .ok (.putfield 19, 3) := by decide +kernel
theorem dX6_flipEnd_12 : decode cX6_flipEnd 12 = .ok (.return_, 1) := by decide +kernel
theorem dX6_edgesFrom_0 : decode cX6_edgesFrom 0 = .ok (.aload_n 0, 1) := by decide +kernel
theorem dX6_edgesFrom_1 : decode cX6_edgesFrom 1 = .ok (.iload_n 1, 1) := by decide +kernel
theorem dX6_edgesFrom_2 : decode cX6_edgesFrom 2 = .ok (.iconst 1, 1) := by decide +kernel
theorem dX6_edgesFrom_3 : decode cX6_edgesFrom 3 = .ok (.invokevirtual 38, 3) := by decide +kernel
theorem dX6_edgesFrom_6 : decode cX6_edgesFrom 6 = .ok (.invokestatic 42, 3) := by decide +kernel
theorem dX6_edgesFrom_9 : decode cX6_edgesFrom 9 = .ok (.aload_n 0, 1) := by decide +kernel
theorem dX6_edgesFrom_10 : decode cX6_edgesFrom 10 = .ok (.iload_n 1, 1) := by decide +kernel
theorem dX6_edgesFrom_11 : decode cX6_edgesFrom 11 = .ok (.iconst 2, 1) := by decide +kernel
theorem dX6_edgesFrom_12 : decode cX6_edgesFrom 12 = .ok (.invokevirtual 38, 3) := by decide +kernel
theorem dX6_edgesFrom_15 : decode cX6_edgesFrom 15 = .ok (.invokestatic 42, 3) := by decide +kernel
theorem dX6_edgesFrom_18 : decode cX6_edgesFrom 18 = .ok (.iadd, 1) := by decide +kernel
theorem dX6_edgesFrom_19 : decode cX6_edgesFrom 19 = .ok (.ireturn, 1) := by decide +kernel
theorem dX6_edgeTotal_0 : decode cX6_edgeTotal 0 = .ok (.iconst 0, 1) := by decide +kernel
theorem dX6_edgeTotal_1 : decode cX6_edgeTotal 1 = .ok (.istore_n 1, 1) := by decide +kernel
theorem dX6_edgeTotal_2 : decode cX6_edgeTotal 2 = .ok (.iconst 0, 1) := by decide +kernel
theorem dX6_edgeTotal_3 : decode cX6_edgeTotal 3 = .ok (.istore_n 2, 1) := by decide +kernel
theorem dX6_edgeTotal_4 : decode cX6_edgeTotal 4 = .ok (.iload_n 2, 1) := by decide +kernel
theorem dX6_edgeTotal_5 : decode cX6_edgeTotal 5 = .ok (.aload_n 0, 1) := by decide +kernel
theorem dX6_edgeTotal_6 : decode cX6_edgeTotal 6 = .ok (.getfield 15, 3) := by decide +kernel
theorem dX6_edgeTotal_9 : decode cX6_edgeTotal 9 = .ok (.if_icmp .ge 17, 3) := by decide +kernel
theorem dX6_edgeTotal_12 : decode cX6_edgeTotal 12 = .ok (.iload_n 1, 1) := by decide +kernel
theorem dX6_edgeTotal_13 : decode cX6_edgeTotal 13 = .ok (.aload_n 0, 1) := by decide +kernel
theorem dX6_edgeTotal_14 : decode cX6_edgeTotal 14 = .ok (.iload_n 2, 1) := by decide +kernel
theorem dX6_edgeTotal_15 : decode cX6_edgeTotal 15 = .ok (.invokevirtual 48, 3) := by decide +kernel
theorem dX6_edgeTotal_18 : decode cX6_edgeTotal 18 = .ok (.iadd, 1) := by decide +kernel
theorem dX6_edgeTotal_19 : decode cX6_edgeTotal 19 = .ok (.istore_n 1, 1) := by decide +kernel
theorem dX6_edgeTotal_20 : decode cX6_edgeTotal 20 = .ok (.iinc 2 1, 3) := by decide +kernel
theorem dX6_edgeTotal_23 : decode cX6_edgeTotal 23 = .ok (.goto (-19), 3) := by decide +kernel
theorem dX6_edgeTotal_26 : decode cX6_edgeTotal 26 = .ok (.iload_n 1, 1) := by decide +kernel
theorem dX6_edgeTotal_27 : decode cX6_edgeTotal 27 = .ok (.ireturn, 1) := by decide +kernel
theorem dX6_step_0 : decode cX6_step 0 = .ok (.iconst 0, 1) := by decide +kernel
theorem dX6_step_1 : decode cX6_step 1 = .ok (.istore_n 3, 1) := by decide +kernel
theorem dX6_step_2 : decode cX6_step 2 = .ok (.iconst 0, 1) := by decide +kernel
theorem dX6_step_3 : decode cX6_step 3 = .ok (.istore 4, 2) := by decide +kernel
theorem dX6_step_5 : decode cX6_step 5 = .ok (.iload 4, 2) := by decide +kernel
theorem dX6_step_7 : decode cX6_step 7 = .ok (.aload_n 0, 1) := by decide +kernel
theorem dX6_step_8 : decode cX6_step 8 = .ok (.getfield 15, 3) := by decide +kernel
theorem dX6_step_11 : decode cX6_step 11 = .ok (.if_icmp .ge 28, 3) := by decide +kernel
theorem dX6_step_14 : decode cX6_step 14 = .ok (.iload_n 1, 1) := by decide +kernel
theorem dX6_step_15 : decode cX6_step 15 = .ok (.iload 4, 2) := by decide +kernel
theorem dX6_step_17 : decode cX6_step 17 = .ok (.ishr, 1) := by decide +kernel
theorem dX6_step_18 : decode cX6_step 18 = .ok (.iconst 1, 1) := by decide +kernel
theorem dX6_step_19 : decode cX6_step 19 = .ok (.iand, 1) := by decide +kernel
theorem dX6_step_20 : decode cX6_step 20 = .ok (.ifCond .eq 13, 3) := by decide +kernel
theorem dX6_step_23 : decode cX6_step 23 = .ok (.iload_n 3, 1) := by decide +kernel
theorem dX6_step_24 : decode cX6_step 24 = .ok (.aload_n 0, 1) := by decide +kernel
theorem dX6_step_25 : decode cX6_step 25 = .ok (.iload 4, 2) := by decide +kernel
theorem dX6_step_27 : decode cX6_step 27 = .ok (.iload_n 2, 1) := by decide +kernel
theorem dX6_step_28 : decode cX6_step 28 = .ok (.invokevirtual 38, 3) := by decide +kernel
theorem dX6_step_31 : decode cX6_step 31 = .ok (.ior, 1) := by decide +kernel
theorem dX6_step_32 : decode cX6_step 32 = .ok (.istore_n 3, 1) := by decide +kernel
theorem dX6_step_33 : decode cX6_step 33 = .ok (.iinc 4 1, 3) := by decide +kernel
theorem dX6_step_36 : decode cX6_step 36 = .ok (.goto (-31), 3) := by decide +kernel
theorem dX6_step_39 : decode cX6_step 39 = .ok (.iload_n 3, 1) := by decide +kernel
theorem dX6_step_40 : decode cX6_step 40 = .ok (.ireturn, 1) := by decide +kernel
theorem dX6_walk_0 : decode cX6_walk 0 = .ok (.iload_n 1, 1) := by decide +kernel
theorem dX6_walk_1 : decode cX6_walk 1 = .ok (.istore_n 3, 1) := by decide +kernel
theorem dX6_walk_2 : decode cX6_walk 2 = .ok (.getstatic 51, 3) := by decide +kernel
theorem dX6_walk_5 : decode cX6_walk 5 = .ok (.arraylength, 1) := by decide +kernel
theorem dX6_walk_6 : decode cX6_walk 6 = .ok (.iconst 1, 1) := by decide +kernel
theorem dX6_walk_7 : decode cX6_walk 7 = .ok (.isub, 1) := by decide +kernel
theorem dX6_walk_8 : decode cX6_walk 8 = .ok (.istore 4, 2) := by decide +kernel
theorem dX6_walk_10 : decode cX6_walk 10 = .ok (.iload 4, 2) := by decide +kernel
theorem dX6_walk_12 : decode cX6_walk 12 = .ok (.ifCond .lt 38, 3) := by decide +kernel
theorem dX6_walk_15 : decode cX6_walk 15 = .ok (.iload_n 2, 1) := by decide +kernel
theorem dX6_walk_16 : decode cX6_walk 16 = .ok (.getstatic 51, 3) := by decide +kernel
theorem dX6_walk_19 : decode cX6_walk 19 = .ok (.iload 4, 2) := by decide +kernel
theorem dX6_walk_21 : decode cX6_walk 21 = .ok (.iaload, 1) := by decide +kernel
theorem dX6_walk_22 : decode cX6_walk 22 = .ok (.idiv, 1) := by decide +kernel
theorem dX6_walk_23 : decode cX6_walk 23 = .ok (.bipush 10, 2) := by decide +kernel
theorem dX6_walk_25 : decode cX6_walk 25 = .ok (.irem, 1) := by decide +kernel
theorem dX6_walk_26 : decode cX6_walk 26 = .ok (.istore 5, 2) := by decide +kernel
theorem dX6_walk_28 : decode cX6_walk 28 = .ok (.iload 5, 2) := by decide +kernel
theorem dX6_walk_30 : decode cX6_walk 30 = .ok (.invokestatic 54, 3) := by decide +kernel
theorem dX6_walk_33 : decode cX6_walk 33 = .ok (.ifCond .eq 11, 3) := by decide +kernel
theorem dX6_walk_36 : decode cX6_walk 36 = .ok (.aload_n 0, 1) := by decide +kernel
theorem dX6_walk_37 : decode cX6_walk 37 = .ok (.iload_n 3, 1) := by decide +kernel
theorem dX6_walk_38 : decode cX6_walk 38 = .ok (.iload 5, 2) := by decide +kernel
theorem dX6_walk_40 : decode cX6_walk 40 = .ok (.invokevirtual 57, 3) := by decide +kernel
theorem dX6_walk_43 : decode cX6_walk 43 = .ok (.istore_n 3, 1) := by decide +kernel
theorem dX6_walk_44 : decode cX6_walk 44 = .ok (.iinc 4 (-1), 3) := by decide +kernel
theorem dX6_walk_47 : decode cX6_walk 47 = .ok (.goto (-37), 3) := by decide +kernel
theorem dX6_walk_50 : decode cX6_walk 50 = .ok (.iload_n 3, 1) := by decide +kernel
theorem dX6_walk_51 : decode cX6_walk 51 = .ok (.ireturn, 1) := by decide +kernel
theorem dX6_accepts_0 : decode cX6_accepts 0 = .ok (.aload_n 0, 1) := by decide +kernel
theorem dX6_accepts_1 : decode cX6_accepts 1 = .ok (.aload_n 0, 1) := by decide +kernel
theorem dX6_accepts_2 : decode cX6_accepts 2 = .ok (.iload_n 1, 1) := by decide +kernel
theorem dX6_accepts_3 : decode cX6_accepts 3 = .ok (.iload_n 2, 1) := by decide +kernel
theorem dX6_accepts_4 : decode cX6_accepts 4 = .ok (.invokevirtual 60, 3) := by decide +kernel
theorem dX6_accepts_7 : decode cX6_accepts 7 = .ok (.invokevirtual 63, 3) := by decide +kernel
theorem dX6_accepts_10 : decode cX6_accepts 10 = .ok (.ireturn, 1) := by decide +kernel
theorem dX8_init_0 : decode cX8_init 0 = .ok (.aload_n 0, 1) := by decide +kernel
theorem dX8_init_1 : decode cX8_init 1 = .ok (.invokespecial 3, 3) := by decide +kernel
theorem dX8_init_4 : decode cX8_init 4 = .ok (.aload_n 0, 1) := by decide +kernel
theorem dX8_init_5 : decode cX8_init 5 = .ok (.sipush 200, 3) := by decide +kernel
theorem dX8_init_8 : decode cX8_init 8 = .ok (.newarray .int, 2) := by decide +kernel
theorem dX8_init_10 : decode cX8_init 10 = .ok (.putfield 9, 3) := by decide +kernel
theorem dX8_init_13 : decode cX8_init 13 = .ok (.return_, 1) := by decide +kernel
theorem dX8_clear_0 : decode cX8_clear 0 = .ok (.aload_n 0, 1) := by decide +kernel
theorem dX8_clear_1 : decode cX8_clear 1 = .ok (.iload_n 1, 1) := by decide +kernel
theorem dX8_clear_2 : decode cX8_clear 2 = .ok (.putfield 15, 3) := by decide +kernel
theorem dX8_clear_5 : decode cX8_clear 5 = .ok (.aload_n 0, 1) := by decide +kernel
theorem dX8_clear_6 : decode cX8_clear 6 = .ok (.iconst 0, 1) := by decide +kernel
theorem dX8_clear_7 : decode cX8_clear 7 = .ok (.putfield 19, 3) := by decide +kernel
theorem dX8_clear_10 : decode cX8_clear 10 = .ok (.return_, 1) := by decide +kernel
theorem dX8_prepend_0 : decode cX8_prepend 0 = .ok (.aload_n 0, 1) := by decide +kernel
theorem dX8_prepend_1 : decode cX8_prepend 1 = .ok (.getfield 19, 3) := by decide +kernel
theorem dX8_prepend_4 : decode cX8_prepend 4 = .ok (.aload_n 0, 1) := by decide +kernel
theorem dX8_prepend_5 : decode cX8_prepend 5 = .ok (.getfield 9, 3) := by decide +kernel
theorem dX8_prepend_8 : decode cX8_prepend 8 = .ok (.arraylength, 1) := by decide +kernel
theorem dX8_prepend_9 : decode cX8_prepend 9 = .ok (.if_icmp .ge 23, 3) := by decide +kernel
theorem dX8_prepend_12 : decode cX8_prepend 12 = .ok (.aload_n 0, 1) := by decide +kernel
theorem dX8_prepend_13 : decode cX8_prepend 13 = .ok (.getfield 9, 3) := by decide +kernel
theorem dX8_prepend_16 : decode cX8_prepend 16 = .ok (.aload_n 0, 1) := by decide +kernel
theorem dX8_prepend_17 : decode cX8_prepend 17 = .ok (.getfield 19, 3) := by decide +kernel
theorem dX8_prepend_20 : decode cX8_prepend 20 = .ok (.iload_n 1, 1) := by decide +kernel
theorem dX8_prepend_21 : decode cX8_prepend 21 = .ok (.iastore, 1) := by decide +kernel
theorem dX8_prepend_22 : decode cX8_prepend 22 = .ok (.aload_n 0, 1) := by decide +kernel
theorem dX8_prepend_23 : decode cX8_prepend 23 = .ok (.dup, 1) := by decide +kernel
theorem dX8_prepend_24 : decode cX8_prepend 24 = .ok (.getfield 19, 3) := by decide +kernel
theorem dX8_prepend_27 : decode cX8_prepend 27 = .ok (.iconst 1, 1) := by decide +kernel
theorem dX8_prepend_28 : decode cX8_prepend 28 = .ok (.iadd, 1) := by decide +kernel
theorem dX8_prepend_29 : decode cX8_prepend 29 = .ok (.putfield 19, 3) := by decide +kernel
theorem dX8_prepend_32 : decode cX8_prepend 32 = .ok (.return_, 1) := by decide +kernel
theorem dX8_tell_0 : decode cX8_tell 0 = .ok (.aload_n 0, 1) := by decide +kernel
theorem dX8_tell_1 : decode cX8_tell 1 = .ok (.getfield 15, 3) := by decide +kernel
theorem dX8_tell_4 : decode cX8_tell 4 = .ok (.ifCond .eq 15, 3) := by decide +kernel
theorem dX8_tell_7 : decode cX8_tell 7 = .ok (.iload_n 1, 1) := by decide +kernel
theorem dX8_tell_8 : decode cX8_tell 8 = .ok (.ifCond .lt 11, 3) := by decide +kernel
theorem dX8_tell_11 : decode cX8_tell 11 = .ok (.iload_n 1, 1) := by decide +kernel
theorem dX8_tell_12 : decode cX8_tell 12 = .ok (.aload_n 0, 1) := by decide +kernel
theorem dX8_tell_13 : decode cX8_tell 13 = .ok (.getfield 19, 3) := by decide +kernel
theorem dX8_tell_16 : decode cX8_tell 16 = .ok (.if_icmp .le 6, 3) := by decide +kernel
theorem dX8_tell_19 : decode cX8_tell 19 = .ok (.bipush (-9), 2) := by decide +kernel
theorem dX8_tell_21 : decode cX8_tell 21 = .ok (.ireturn, 1) := by decide +kernel
theorem dX8_tell_22 : decode cX8_tell 22 = .ok (.iload_n 1, 1) := by decide +kernel
theorem dX8_tell_23 : decode cX8_tell 23 = .ok (.ifCond .ne 10, 3) := by decide +kernel
theorem dX8_tell_26 : decode cX8_tell 26 = .ok (.aload_n 0, 1) := by decide +kernel
theorem dX8_tell_27 : decode cX8_tell 27 = .ok (.getfield 19, 3) := by decide +kernel
theorem dX8_tell_30 : decode cX8_tell 30 = .ok (.goto 14, 3) := by decide +kernel
theorem dX8_tell_33 : decode cX8_tell 33 = .ok (.aload_n 0, 1) := by decide +kernel
theorem dX8_tell_34 : decode cX8_tell 34 = .ok (.getfield 9, 3) := by decide +kernel
theorem dX8_tell_37 : decode cX8_tell 37 = .ok (.aload_n 0, 1) := by decide +kernel
theorem dX8_tell_38 : decode cX8_tell 38 = .ok (.getfield 19, 3) := by decide +kernel
theorem dX8_tell_41 : decode cX8_tell 41 = .ok (.iload_n 1, 1) := by decide +kernel
theorem dX8_tell_42 : decode cX8_tell 42 = .ok (.isub, 1) := by decide +kernel
theorem dX8_tell_43 : decode cX8_tell 43 = .ok (.iaload, 1) := by decide +kernel
theorem dX8_tell_44 : decode cX8_tell 44 = .ok (.ireturn, 1) := by decide +kernel
theorem dJ6_bitCount_0f7a4_0 : decode cJ6_bitCount_0f7a4 0 = .ok (.iload_n 0, 1) := by decide +kernel
theorem dJ6_bitCount_0f7a4_1 : decode cJ6_bitCount_0f7a4 1 = .ok (.iload_n 0, 1) := by decide +kernel
theorem dJ6_bitCount_0f7a4_2 : decode cJ6_bitCount_0f7a4 2 = .ok (.iconst 1, 1) := by decide +kernel
theorem dJ6_bitCount_0f7a4_3 : decode cJ6_bitCount_0f7a4 3 = .ok (.iushr, 1) := by decide +kernel
theorem dJ6_bitCount_0f7a4_4 : decode cJ6_bitCount_0f7a4 4 = .ok (.ldc_w 265, 3) := by decide +kernel
theorem dJ6_bitCount_0f7a4_7 : decode cJ6_bitCount_0f7a4 7 = .ok (.iand, 1) := by decide +kernel
theorem dJ6_bitCount_0f7a4_8 : decode cJ6_bitCount_0f7a4 8 = .ok (.isub, 1) := by decide +kernel
theorem dJ6_bitCount_0f7a4_9 : decode cJ6_bitCount_0f7a4 9 = .ok (.istore_n 0, 1) := by decide +kernel
theorem dJ6_bitCount_0f7a4_10 : decode cJ6_bitCount_0f7a4 10 = .ok (.iload_n 0, 1) := by decide +kernel
theorem dJ6_bitCount_0f7a4_11 : decode cJ6_bitCount_0f7a4 11 = .ok (.ldc_w 266, 3) := by decide +kernel
theorem dJ6_bitCount_0f7a4_14 : decode cJ6_bitCount_0f7a4 14 = .ok (.iand, 1) := by decide +kernel
theorem dJ6_bitCount_0f7a4_15 : decode cJ6_bitCount_0f7a4 15 = .ok (.iload_n 0, 1) := by decide +kernel
theorem dJ6_bitCount_0f7a4_16 : decode cJ6_bitCount_0f7a4 16 = .ok (.iconst 2, 1) := by decide +kernel
theorem dJ6_bitCount_0f7a4_17 : decode cJ6_bitCount_0f7a4 17 = .ok (.iushr, 1) := by decide +kernel
theorem dJ6_bitCount_0f7a4_18 : decode cJ6_bitCount_0f7a4 18 = .ok (.ldc_w 266, 3) := by decide +kernel
theorem dJ6_bitCount_0f7a4_21 : decode cJ6_bitCount_0f7a4 21 = .ok (.iand, 1) := by decide +kernel
theorem dJ6_bitCount_0f7a4_22 : decode cJ6_bitCount_0f7a4 22 = .ok (.iadd, 1) := by decide +kernel
theorem dJ6_bitCount_0f7a4_23 : decode cJ6_bitCount_0f7a4 23 = .ok (.istore_n 0, 1) := by decide +kernel
theorem dJ6_bitCount_0f7a4_24 : decode cJ6_bitCount_0f7a4 24 = .ok (.iload_n 0, 1) := by decide +kernel
theorem dJ6_bitCount_0f7a4_25 : decode cJ6_bitCount_0f7a4 25 = .ok (.iload_n 0, 1) := by decide +kernel
theorem dJ6_bitCount_0f7a4_26 : decode cJ6_bitCount_0f7a4 26 = .ok (.iconst 4, 1) := by decide +kernel
theorem dJ6_bitCount_0f7a4_27 : decode cJ6_bitCount_0f7a4 27 = .ok (.iushr, 1) := by decide +kernel
theorem dJ6_bitCount_0f7a4_28 : decode cJ6_bitCount_0f7a4 28 = .ok (.iadd, 1) := by decide +kernel
theorem dJ6_bitCount_0f7a4_29 : decode cJ6_bitCount_0f7a4 29 = .ok (.ldc_w 267, 3) := by decide +kernel
theorem dJ6_bitCount_0f7a4_32 : decode cJ6_bitCount_0f7a4 32 = .ok (.iand, 1) := by decide +kernel
theorem dJ6_bitCount_0f7a4_33 : decode cJ6_bitCount_0f7a4 33 = .ok (.istore_n 0, 1) := by decide +kernel
theorem dJ6_bitCount_0f7a4_34 : decode cJ6_bitCount_0f7a4 34 = .ok (.iload_n 0, 1) := by decide +kernel
theorem dJ6_bitCount_0f7a4_35 : decode cJ6_bitCount_0f7a4 35 = .ok (.iload_n 0, 1) := by decide +kernel
theorem dJ6_bitCount_0f7a4_36 : decode cJ6_bitCount_0f7a4 36 = .ok (.bipush 8, 2) := by decide +kernel
theorem dJ6_bitCount_0f7a4_38 : decode cJ6_bitCount_0f7a4 38 = .ok (.iushr, 1) := by decide +kernel
theorem dJ6_bitCount_0f7a4_39 : decode cJ6_bitCount_0f7a4 39 = .ok (.iadd, 1) := by decide +kernel
theorem dJ6_bitCount_0f7a4_40 : decode cJ6_bitCount_0f7a4 40 = .ok (.istore_n 0, 1) := by decide +kernel
theorem dJ6_bitCount_0f7a4_41 : decode cJ6_bitCount_0f7a4 41 = .ok (.iload_n 0, 1) := by decide +kernel
theorem dJ6_bitCount_0f7a4_42 : decode cJ6_bitCount_0f7a4 42 = .ok (.iload_n 0, 1) := by decide +kernel
theorem dJ6_bitCount_0f7a4_43 : decode cJ6_bitCount_0f7a4 43 = .ok (.bipush 16, 2) := by decide +kernel
theorem dJ6_bitCount_0f7a4_45 : decode cJ6_bitCount_0f7a4 45 = .ok (.iushr, 1) := by decide +kernel
theorem dJ6_bitCount_0f7a4_46 : decode cJ6_bitCount_0f7a4 46 = .ok (.iadd, 1) := by decide +kernel
theorem dJ6_bitCount_0f7a4_47 : decode cJ6_bitCount_0f7a4 47 = .ok (.istore_n 0, 1) := by decide +kernel
theorem dJ6_bitCount_0f7a4_48 : decode cJ6_bitCount_0f7a4 48 = .ok (.iload_n 0, 1) := by decide +kernel
theorem dJ6_bitCount_0f7a4_49 : decode cJ6_bitCount_0f7a4 49 = .ok (.bipush 63, 2) := by decide +kernel
theorem dJ6_bitCount_0f7a4_51 : decode cJ6_bitCount_0f7a4 51 = .ok (.iand, 1) := by decide +kernel
theorem dJ6_bitCount_0f7a4_52 : decode cJ6_bitCount_0f7a4 52 = .ok (.ireturn, 1) := by decide +kernel
theorem dJ7_fill_53178_0 : decode cJ7_fill_53178 0 = .ok (.iconst 0, 1) := by decide +kernel
theorem dJ7_fill_53178_1 : decode cJ7_fill_53178 1 = .ok (.istore_n 2, 1) := by decide +kernel
theorem dJ7_fill_53178_2 : decode cJ7_fill_53178 2 = .ok (.aload_n 0, 1) := by decide +kernel
theorem dJ7_fill_53178_3 : decode cJ7_fill_53178 3 = .ok (.arraylength, 1) := by decide +kernel
theorem dJ7_fill_53178_4 : decode cJ7_fill_53178 4 = .ok (.istore_n 3, 1) := by decide +kernel
theorem dJ7_fill_53178_5 : decode cJ7_fill_53178 5 = .ok (.iload_n 2, 1) := by decide +kernel
theorem dJ7_fill_53178_6 : decode cJ7_fill_53178 6 = .ok (.iload_n 3, 1) := by decide +kernel
theorem dJ7_fill_53178_7 : decode cJ7_fill_53178 7 = .ok (.if_icmp .ge 13, 3) := by decide +kernel
theorem dJ7_fill_53178_10 : decode cJ7_fill_53178 10 = .ok (.aload_n 0, 1) := by decide +kernel
theorem dJ7_fill_53178_11 : decode cJ7_fill_53178 11 = .ok (.iload_n 2, 1) := by decide +kernel
theorem dJ7_fill_53178_12 : decode cJ7_fill_53178 12 = .ok (.iload_n 1, 1) := by decide +kernel
theorem dJ7_fill_53178_13 : decode cJ7_fill_53178 13 = .ok (.iastore, 1) := by decide +kernel
theorem dJ7_fill_53178_14 : decode cJ7_fill_53178 14 = .ok (.iinc 2 1, 3) := by decide +kernel
theorem dJ7_fill_53178_17 : decode cJ7_fill_53178 17 = .ok (.goto (-12), 3) := by decide +kernel
theorem dJ7_fill_53178_20 : decode cJ7_fill_53178 20 = .ok (.return_, 1) := by decide +kernel
theorem dX10_isLetter_0 : decode cX10_isLetter 0 = .ok (.iload_n 0, 1) := by decide +kernel
theorem dX10_isLetter_1 : decode cX10_isLetter 1 = .ok (.iconst 1, 1) := by decide +kernel
theorem dX10_isLetter_2 : decode cX10_isLetter 2 = .ok (.if_icmp .eq 8, 3) := by decide +kernel
theorem dX10_isLetter_5 : decode cX10_isLetter 5 = .ok (.iload_n 0, 1) := by decide +kernel
theorem dX10_isLetter_6 : decode cX10_isLetter 6 = .ok (.iconst 2, 1) := by decide +kernel
theorem dX10_isLetter_7 : decode cX10_isLetter 7 = .ok (.if_icmp .ne 7, 3) := by decide +kernel
theorem dX10_isLetter_10 : decode cX10_isLetter 10 = .ok (.iconst 1, 1) := by decide +kernel
theorem dX10_isLetter_11 : decode cX10_isLetter 11 = .ok (.goto 4, 3) := by decide +kernel
theorem dX10_isLetter_14 : decode cX10_isLetter 14 = .ok (.iconst 0, 1) := by decide +kernel
theorem dX10_isLetter_15 : decode cX10_isLetter 15 = .ok (.ireturn, 1) := by decide +kernel
