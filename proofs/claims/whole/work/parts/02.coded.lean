theorem dX2_load_28 : decode cX2_load 28 = .ok (.iload_n 1, 1) := by decide +kernel
theorem dX2_load_29 : decode cX2_load 29 = .ok (.aaload, 1) := by decide +kernel
theorem dX2_load_30 : decode cX2_load 30 = .ok (.invokevirtual 45, 3) := by decide +kernel
theorem dX2_load_33 : decode cX2_load 33 = .ok (.ireturn, 1) := by decide +kernel
theorem dX0_takeWords_0 : decode cX0_takeWords 0 = .ok (.iconst 3, 1) := by decide +kernel
theorem dX0_takeWords_1 : decode cX0_takeWords 1 = .ok (.istore 7, 2) := by decide +kernel
theorem dX0_takeWords_3 : decode cX0_takeWords 3 = .ok (.iload 7, 2) := by decide +kernel
theorem dX0_takeWords_5 : decode cX0_takeWords 5 = .ok (.bipush 63, 2) := by decide +kernel
theorem dX0_takeWords_7 : decode cX0_takeWords 7 = .ok (.if_icmp .ge 17, 3) := by decide +kernel
theorem dX0_takeWords_10 : decode cX0_takeWords 10 = .ok (.aload_n 0, 1) := by decide +kernel
theorem dX0_takeWords_11 : decode cX0_takeWords 11 = .ok (.getfield 11, 3) := by decide +kernel
theorem dX0_takeWords_14 : decode cX0_takeWords 14 = .ok (.iload 7, 2) := by decide +kernel
theorem dX0_takeWords_16 : decode cX0_takeWords 16 = .ok (.lconst 0, 1) := by decide +kernel
theorem dX0_takeWords_17 : decode cX0_takeWords 17 = .ok (.lastore, 1) := by decide +kernel
theorem dX0_takeWords_18 : decode cX0_takeWords 18 = .ok (.iinc 7 1, 3) := by decide +kernel
theorem dX0_takeWords_21 : decode cX0_takeWords 21 = .ok (.goto (-18), 3) := by decide +kernel
theorem dX0_takeWords_24 : decode cX0_takeWords 24 = .ok (.aload_n 0, 1) := by decide +kernel
theorem dX0_takeWords_25 : decode cX0_takeWords 25 = .ok (.getfield 11, 3) := by decide +kernel
theorem dX0_takeWords_28 : decode cX0_takeWords 28 = .ok (.iconst 0, 1) := by decide +kernel
theorem dX0_takeWords_29 : decode cX0_takeWords 29 = .ok (.lload_n 1, 1) := by decide +kernel
theorem dX0_takeWords_30 : decode cX0_takeWords 30 = .ok (.lastore, 1) := by decide +kernel
theorem dX0_takeWords_31 : decode cX0_takeWords 31 = .ok (.aload_n 0, 1) := by decide +kernel
theorem dX0_takeWords_32 : decode cX0_takeWords 32 = .ok (.getfield 11, 3) := by decide +kernel
theorem dX0_takeWords_35 : decode cX0_takeWords 35 = .ok (.iconst 1, 1) := by decide +kernel
theorem dX0_takeWords_36 : decode cX0_takeWords 36 = .ok (.lload_n 3, 1) := by decide +kernel
theorem dX0_takeWords_37 : decode cX0_takeWords 37 = .ok (.lastore, 1) := by decide +kernel
theorem dX0_takeWords_38 : decode cX0_takeWords 38 = .ok (.aload_n 0, 1) := by decide +kernel
theorem dX0_takeWords_39 : decode cX0_takeWords 39 = .ok (.getfield 11, 3) := by decide +kernel
theorem dX0_takeWords_42 : decode cX0_takeWords 42 = .ok (.iconst 2, 1) := by decide +kernel
theorem dX0_takeWords_43 : decode cX0_takeWords 43 = .ok (.lload 5, 2) := by decide +kernel
theorem dX0_takeWords_45 : decode cX0_takeWords 45 = .ok (.lastore, 1) := by decide +kernel
theorem dX0_takeWords_46 : decode cX0_takeWords 46 = .ok (.return_, 1) := by decide +kernel
theorem dX2_walk_0 : decode cX2_walk 0 = .ok (.iload_n 1, 1) := by decide +kernel
theorem dX2_walk_1 : decode cX2_walk 1 = .ok (.invokestatic 23, 3) := by decide +kernel
theorem dX2_walk_4 : decode cX2_walk 4 = .ok (.ifCond .ne 7, 3) := by decide +kernel
theorem dX2_walk_7 : decode cX2_walk 7 = .ok (.ldc2_w 76, 3) := by decide +kernel
theorem dX2_walk_10 : decode cX2_walk 10 = .ok (.lreturn, 1) := by decide +kernel
theorem dX2_walk_11 : decode cX2_walk 11 = .ok (.aload_n 0, 1) := by decide +kernel
theorem dX2_walk_12 : decode cX2_walk 12 = .ok (.getfield 11, 3) := by decide +kernel
theorem dX2_walk_15 : decode cX2_walk 15 = .ok (.iload_n 1, 1) := by decide +kernel
theorem dX2_walk_16 : decode cX2_walk 16 = .ok (.aaload, 1) := by decide +kernel
theorem dX2_walk_17 : decode cX2_walk 17 = .ok (.invokevirtual 86, 3) := by decide +kernel
theorem dX2_walk_20 : decode cX2_walk 20 = .ok (.lreturn, 1) := by decide +kernel
theorem dX0_rankedSum_0 : decode cX0_rankedSum 0 = .ok (.lconst 0, 1) := by decide +kernel
theorem dX0_rankedSum_1 : decode cX0_rankedSum 1 = .ok (.lstore_n 1, 1) := by decide +kernel
theorem dX0_rankedSum_2 : decode cX0_rankedSum 2 = .ok (.lconst 0, 1) := by decide +kernel
theorem dX0_rankedSum_3 : decode cX0_rankedSum 3 = .ok (.lstore_n 3, 1) := by decide +kernel
theorem dX0_rankedSum_4 : decode cX0_rankedSum 4 = .ok (.iconst 0, 1) := by decide +kernel
theorem dX0_rankedSum_5 : decode cX0_rankedSum 5 = .ok (.istore 5, 2) := by decide +kernel
theorem dX0_rankedSum_7 : decode cX0_rankedSum 7 = .ok (.iload 5, 2) := by decide +kernel
theorem dX0_rankedSum_9 : decode cX0_rankedSum 9 = .ok (.bipush 63, 2) := by decide +kernel
theorem dX0_rankedSum_11 : decode cX0_rankedSum 11 = .ok (.if_icmp .ge 66, 3) := by decide +kernel
theorem dX0_rankedSum_14 : decode cX0_rankedSum 14 = .ok (.aload_n 0, 1) := by decide +kernel
theorem dX0_rankedSum_15 : decode cX0_rankedSum 15 = .ok (.getfield 11, 3) := by decide +kernel
theorem dX0_rankedSum_18 : decode cX0_rankedSum 18 = .ok (.iload 5, 2) := by decide +kernel
theorem dX0_rankedSum_20 : decode cX0_rankedSum 20 = .ok (.laload, 1) := by decide +kernel
theorem dX0_rankedSum_21 : decode cX0_rankedSum 21 = .ok (.lstore 6, 2) := by decide +kernel
theorem dX0_rankedSum_23 : decode cX0_rankedSum 23 = .ok (.lload 6, 2) := by decide +kernel
theorem dX0_rankedSum_25 : decode cX0_rankedSum 25 = .ok (.invokestatic 19, 3) := by decide +kernel
theorem dX0_rankedSum_28 : decode cX0_rankedSum 28 = .ok (.istore 8, 2) := by decide +kernel
theorem dX0_rankedSum_30 : decode cX0_rankedSum 30 = .ok (.iload 8, 2) := by decide +kernel
theorem dX0_rankedSum_32 : decode cX0_rankedSum 32 = .ok (.ifCond .le 39, 3) := by decide +kernel
theorem dX0_rankedSum_35 : decode cX0_rankedSum 35 = .ok (.lload_n 3, 1) := by decide +kernel
theorem dX0_rankedSum_36 : decode cX0_rankedSum 36 = .ok (.lconst 1, 1) := by decide +kernel
theorem dX0_rankedSum_37 : decode cX0_rankedSum 37 = .ok (.ladd, 1) := by decide +kernel
theorem dX0_rankedSum_38 : decode cX0_rankedSum 38 = .ok (.lstore_n 3, 1) := by decide +kernel
theorem dX0_rankedSum_39 : decode cX0_rankedSum 39 = .ok (.lload_n 1, 1) := by decide +kernel
theorem dX0_rankedSum_40 : decode cX0_rankedSum 40 = .ok (.lload_n 3, 1) := by decide +kernel
theorem dX0_rankedSum_41 : decode cX0_rankedSum 41 = .ok (.bipush 64, 2) := by decide +kernel
theorem dX0_rankedSum_43 : decode cX0_rankedSum 43 = .ok (.iload 5, 2) := by decide +kernel
theorem dX0_rankedSum_45 : decode cX0_rankedSum 45 = .ok (.imul, 1) := by decide +kernel
theorem dX0_rankedSum_46 : decode cX0_rankedSum 46 = .ok (.lload 6, 2) := by decide +kernel
theorem dX0_rankedSum_48 : decode cX0_rankedSum 48 = .ok (.invokestatic 38, 3) := by decide +kernel
theorem dX0_rankedSum_51 : decode cX0_rankedSum 51 = .ok (.iadd, 1) := by decide +kernel
theorem dX0_rankedSum_52 : decode cX0_rankedSum 52 = .ok (.i2l, 1) := by decide +kernel
theorem dX0_rankedSum_53 : decode cX0_rankedSum 53 = .ok (.lmul, 1) := by decide +kernel
theorem dX0_rankedSum_54 : decode cX0_rankedSum 54 = .ok (.ladd, 1) := by decide +kernel
theorem dX0_rankedSum_55 : decode cX0_rankedSum 55 = .ok (.lstore_n 1, 1) := by decide +kernel
theorem dX0_rankedSum_56 : decode cX0_rankedSum 56 = .ok (.lload 6, 2) := by decide +kernel
theorem dX0_rankedSum_58 : decode cX0_rankedSum 58 = .ok (.lload 6, 2) := by decide +kernel
theorem dX0_rankedSum_60 : decode cX0_rankedSum 60 = .ok (.lconst 1, 1) := by decide +kernel
theorem dX0_rankedSum_61 : decode cX0_rankedSum 61 = .ok (.lsub, 1) := by decide +kernel
theorem dX0_rankedSum_62 : decode cX0_rankedSum 62 = .ok (.land, 1) := by decide +kernel
theorem dX0_rankedSum_63 : decode cX0_rankedSum 63 = .ok (.lstore 6, 2) := by decide +kernel
theorem dX0_rankedSum_65 : decode cX0_rankedSum 65 = .ok (.iinc 8 (-1), 3) := by decide +kernel
theorem dX0_rankedSum_68 : decode cX0_rankedSum 68 = .ok (.goto (-38), 3) := by decide +kernel
theorem dX0_rankedSum_71 : decode cX0_rankedSum 71 = .ok (.iinc 5 1, 3) := by decide +kernel
theorem dX0_rankedSum_74 : decode cX0_rankedSum 74 = .ok (.goto (-67), 3) := by decide +kernel
theorem dX0_rankedSum_77 : decode cX0_rankedSum 77 = .ok (.lload_n 1, 1) := by decide +kernel
theorem dX0_rankedSum_78 : decode cX0_rankedSum 78 = .ok (.lreturn, 1) := by decide +kernel
theorem dX2_clear_0 : decode cX2_clear 0 = .ok (.iload_n 1, 1) := by decide +kernel
theorem dX2_clear_1 : decode cX2_clear 1 = .ok (.invokestatic 23, 3) := by decide +kernel
theorem dX2_clear_4 : decode cX2_clear 4 = .ok (.ifCond .ne 6, 3) := by decide +kernel
theorem dX2_clear_7 : decode cX2_clear 7 = .ok (.bipush (-2), 2) := by decide +kernel
theorem dX2_clear_9 : decode cX2_clear 9 = .ok (.ireturn, 1) := by decide +kernel
theorem dX2_clear_10 : decode cX2_clear 10 = .ok (.aload_n 0, 1) := by decide +kernel
theorem dX2_clear_11 : decode cX2_clear 11 = .ok (.getfield 11, 3) := by decide +kernel
theorem dX2_clear_14 : decode cX2_clear 14 = .ok (.iload_n 1, 1) := by decide +kernel
theorem dX2_clear_15 : decode cX2_clear 15 = .ok (.aaload, 1) := by decide +kernel
theorem dX2_clear_16 : decode cX2_clear 16 = .ok (.invokevirtual 45, 3) := by decide +kernel
theorem dX2_clear_19 : decode cX2_clear 19 = .ok (.istore_n 2, 1) := by decide +kernel
theorem dX2_clear_20 : decode cX2_clear 20 = .ok (.aload_n 0, 1) := by decide +kernel
theorem dX2_clear_21 : decode cX2_clear 21 = .ok (.getfield 11, 3) := by decide +kernel
theorem dX2_clear_24 : decode cX2_clear 24 = .ok (.iload_n 1, 1) := by decide +kernel
theorem dX2_clear_25 : decode cX2_clear 25 = .ok (.aaload, 1) := by decide +kernel
theorem dX2_clear_26 : decode cX2_clear 26 = .ok (.iconst 0, 1) := by decide +kernel
theorem dX2_clear_27 : decode cX2_clear 27 = .ok (.iconst 0, 1) := by decide +kernel
theorem dX2_clear_28 : decode cX2_clear 28 = .ok (.sipush 4001, 3) := by decide +kernel
theorem dX2_clear_31 : decode cX2_clear 31 = .ok (.invokevirtual 37, 3) := by decide +kernel
theorem dX2_clear_34 : decode cX2_clear 34 = .ok (.iload_n 2, 1) := by decide +kernel
theorem dX2_clear_35 : decode cX2_clear 35 = .ok (.ireturn, 1) := by decide +kernel
theorem dX2_text_0 : decode cX2_text 0 = .ok (.iload_n 1, 1) := by decide +kernel
theorem dX2_text_1 : decode cX2_text 1 = .ok (.invokestatic 23, 3) := by decide +kernel
theorem dX2_text_4 : decode cX2_text 4 = .ok (.ifCond .eq 18, 3) := by decide +kernel
theorem dX2_text_7 : decode cX2_text 7 = .ok (.aload_n 0, 1) := by decide +kernel
theorem dX2_text_8 : decode cX2_text 8 = .ok (.getfield 11, 3) := by decide +kernel
theorem dX2_text_11 : decode cX2_text 11 = .ok (.iload_n 1, 1) := by decide +kernel
theorem dX2_text_12 : decode cX2_text 12 = .ok (.aaload, 1) := by decide +kernel
theorem dX2_text_13 : decode cX2_text 13 = .ok (.invokevirtual 66, 3) := by decide +kernel
theorem dX2_text_16 : decode cX2_text 16 = .ok (.sipush 128, 3) := by decide +kernel
theorem dX2_text_19 : decode cX2_text 19 = .ok (.if_icmp .le 6, 3) := by decide +kernel
theorem dX2_text_22 : decode cX2_text 22 = .ok (.bipush (-2), 2) := by decide +kernel
theorem dX2_text_24 : decode cX2_text 24 = .ok (.ireturn, 1) := by decide +kernel
theorem dX2_text_25 : decode cX2_text 25 = .ok (.aload_n 0, 1) := by decide +kernel
theorem dX2_text_26 : decode cX2_text 26 = .ok (.getfield 19, 3) := by decide +kernel
theorem dX2_text_29 : decode cX2_text 29 = .ok (.aload_n 0, 1) := by decide +kernel
theorem dX2_text_30 : decode cX2_text 30 = .ok (.getfield 11, 3) := by decide +kernel
theorem dX2_text_33 : decode cX2_text 33 = .ok (.iload_n 1, 1) := by decide +kernel
theorem dX2_text_34 : decode cX2_text 34 = .ok (.aaload, 1) := by decide +kernel
theorem dX2_text_35 : decode cX2_text 35 = .ok (.invokevirtual 90, 3) := by decide +kernel
theorem dX2_text_38 : decode cX2_text 38 = .ok (.aload_n 0, 1) := by decide +kernel
theorem dX2_text_39 : decode cX2_text 39 = .ok (.getfield 19, 3) := by decide +kernel
theorem dX2_text_42 : decode cX2_text 42 = .ok (.invokevirtual 94, 3) := by decide +kernel
theorem dX2_text_45 : decode cX2_text 45 = .ok (.ireturn, 1) := by decide +kernel
theorem dX1_write_0 : decode cX1_write 0 = .ok (.aload_n 0, 1) := by decide +kernel
theorem dX1_write_1 : decode cX1_write 1 = .ok (.iconst 0, 1) := by decide +kernel
theorem dX1_write_2 : decode cX1_write 2 = .ok (.putfield 15, 3) := by decide +kernel
theorem dX1_write_5 : decode cX1_write 5 = .ok (.aload_n 0, 1) := by decide +kernel
theorem dX1_write_6 : decode cX1_write 6 = .ok (.bipush 123, 2) := by decide +kernel
theorem dX1_write_8 : decode cX1_write 8 = .ok (.invokevirtual 19, 3) := by decide +kernel
theorem dX1_write_11 : decode cX1_write 11 = .ok (.iconst 0, 1) := by decide +kernel
theorem dX1_write_12 : decode cX1_write 12 = .ok (.istore_n 2, 1) := by decide +kernel
theorem dX1_write_13 : decode cX1_write 13 = .ok (.iload_n 2, 1) := by decide +kernel
theorem dX1_write_14 : decode cX1_write 14 = .ok (.sipush 128, 3) := by decide +kernel
theorem dX1_write_17 : decode cX1_write 17 = .ok (.if_icmp .ge 23, 3) := by decide +kernel
theorem dX1_write_20 : decode cX1_write 20 = .ok (.aload_n 1, 1) := by decide +kernel
theorem dX1_write_21 : decode cX1_write 21 = .ok (.iload_n 2, 1) := by decide +kernel
theorem dX1_write_22 : decode cX1_write 22 = .ok (.invokevirtual 23, 3) := by decide +kernel
theorem dX1_write_25 : decode cX1_write 25 = .ok (.iconst 1, 1) := by decide +kernel
theorem dX1_write_26 : decode cX1_write 26 = .ok (.if_icmp .ne 8, 3) := by decide +kernel
theorem dX1_write_29 : decode cX1_write 29 = .ok (.aload_n 0, 1) := by decide +kernel
theorem dX1_write_30 : decode cX1_write 30 = .ok (.iload_n 2, 1) := by decide +kernel
theorem dX1_write_31 : decode cX1_write 31 = .ok (.invokevirtual 29, 3) := by decide +kernel
theorem dX1_write_34 : decode cX1_write 34 = .ok (.iinc 2 1, 3) := by decide +kernel
theorem dX1_write_37 : decode cX1_write 37 = .ok (.goto (-24), 3) := by decide +kernel
theorem dX1_write_40 : decode cX1_write 40 = .ok (.aload_n 0, 1) := by decide +kernel
theorem dX1_write_41 : decode cX1_write 41 = .ok (.bipush 125, 2) := by decide +kernel
theorem dX1_write_43 : decode cX1_write 43 = .ok (.invokevirtual 19, 3) := by decide +kernel
theorem dX1_write_46 : decode cX1_write 46 = .ok (.return_, 1) := by decide +kernel
theorem dX1_add_0 : decode cX1_add 0 = .ok (.aload_n 0, 1) := by decide +kernel
theorem dX1_add_1 : decode cX1_add 1 = .ok (.getfield 15, 3) := by decide +kernel
theorem dX1_add_4 : decode cX1_add 4 = .ok (.sipush 530, 3) := by decide +kernel
theorem dX1_add_7 : decode cX1_add 7 = .ok (.if_icmp .ge 23, 3) := by decide +kernel
theorem dX1_add_10 : decode cX1_add 10 = .ok (.aload_n 0, 1) := by decide +kernel
theorem dX1_add_11 : decode cX1_add 11 = .ok (.getfield 11, 3) := by decide +kernel
theorem dX1_add_14 : decode cX1_add 14 = .ok (.aload_n 0, 1) := by decide +kernel
theorem dX1_add_15 : decode cX1_add 15 = .ok (.getfield 15, 3) := by decide +kernel
theorem dX1_add_18 : decode cX1_add 18 = .ok (.iload_n 1, 1) := by decide +kernel
theorem dX1_add_19 : decode cX1_add 19 = .ok (.castore, 1) := by decide +kernel
theorem dX1_add_20 : decode cX1_add 20 = .ok (.aload_n 0, 1) := by decide +kernel
theorem dX1_add_21 : decode cX1_add 21 = .ok (.dup, 1) := by decide +kernel
theorem dX1_add_22 : decode cX1_add 22 = .ok (.getfield 15, 3) := by decide +kernel
theorem dX1_add_25 : decode cX1_add 25 = .ok (.iconst 1, 1) := by decide +kernel
theorem dX1_add_26 : decode cX1_add 26 = .ok (.iadd, 1) := by decide +kernel
theorem dX1_add_27 : decode cX1_add 27 = .ok (.putfield 15, 3) := by decide +kernel
theorem dX1_add_30 : decode cX1_add 30 = .ok (.return_, 1) := by decide +kernel
theorem dX1_addPlace_0 : decode cX1_addPlace 0 = .ok (.aload_n 0, 1) := by decide +kernel
theorem dX1_addPlace_1 : decode cX1_addPlace 1 = .ok (.getfield 15, 3) := by decide +kernel
theorem dX1_addPlace_4 : decode cX1_addPlace 4 = .ok (.iconst 1, 1) := by decide +kernel
theorem dX1_addPlace_5 : decode cX1_addPlace 5 = .ok (.if_icmp .le 15, 3) := by decide +kernel
theorem dX1_addPlace_8 : decode cX1_addPlace 8 = .ok (.aload_n 0, 1) := by decide +kernel
theorem dX1_addPlace_9 : decode cX1_addPlace 9 = .ok (.bipush 44, 2) := by decide +kernel
theorem dX1_addPlace_11 : decode cX1_addPlace 11 = .ok (.invokevirtual 19, 3) := by decide +kernel
theorem dX1_addPlace_14 : decode cX1_addPlace 14 = .ok (.aload_n 0, 1) := by decide +kernel
theorem dX1_addPlace_15 : decode cX1_addPlace 15 = .ok (.bipush 32, 2) := by decide +kernel
theorem dX1_addPlace_17 : decode cX1_addPlace 17 = .ok (.invokevirtual 19, 3) := by decide +kernel
theorem dX1_addPlace_20 : decode cX1_addPlace 20 = .ok (.iload_n 1, 1) := by decide +kernel
theorem dX1_addPlace_21 : decode cX1_addPlace 21 = .ok (.bipush 100, 2) := by decide +kernel
theorem dX1_addPlace_23 : decode cX1_addPlace 23 = .ok (.if_icmp .lt 11, 3) := by decide +kernel
theorem dX1_addPlace_26 : decode cX1_addPlace 26 = .ok (.aload_n 0, 1) := by decide +kernel
theorem dX1_addPlace_27 : decode cX1_addPlace 27 = .ok (.iload_n 1, 1) := by decide +kernel
theorem dX1_addPlace_28 : decode cX1_addPlace 28 = .ok (.bipush 100, 2) := by decide +kernel
theorem dX1_addPlace_30 : decode cX1_addPlace 30 = .ok (.idiv, 1) := by decide +kernel
theorem dX1_addPlace_31 : decode cX1_addPlace 31 = .ok (.invokevirtual 33, 3) := by decide +kernel
theorem dX1_addPlace_34 : decode cX1_addPlace 34 = .ok (.iload_n 1, 1) := by decide +kernel
theorem dX1_addPlace_35 : decode cX1_addPlace 35 = .ok (.bipush 10, 2) := by decide +kernel
theorem dX1_addPlace_37 : decode cX1_addPlace 37 = .ok (.if_icmp .lt 14, 3) := by decide +kernel
theorem dX1_addPlace_40 : decode cX1_addPlace 40 = .ok (.aload_n 0, 1) := by decide +kernel
theorem dX1_addPlace_41 : decode cX1_addPlace 41 = .ok (.iload_n 1, 1) := by decide +kernel
theorem dX1_addPlace_42 : decode cX1_addPlace 42 = .ok (.bipush 10, 2) := by decide +kernel
theorem dX1_addPlace_44 : decode cX1_addPlace 44 = .ok (.idiv, 1) := by decide +kernel
theorem dX1_addPlace_45 : decode cX1_addPlace 45 = .ok (.bipush 10, 2) := by decide +kernel
theorem dX1_addPlace_47 : decode cX1_addPlace 47 = .ok (.irem, 1) := by decide +kernel
theorem dX1_addPlace_48 : decode cX1_addPlace 48 = .ok (.invokevirtual 33, 3) := by decide +kernel
theorem dX1_addPlace_51 : decode cX1_addPlace 51 = .ok (.aload_n 0, 1) := by decide +kernel
theorem dX1_addPlace_52 : decode cX1_addPlace 52 = .ok (.iload_n 1, 1) := by decide +kernel
theorem dX1_addPlace_53 : decode cX1_addPlace 53 = .ok (.bipush 10, 2) := by decide +kernel
theorem dX1_addPlace_55 : decode cX1_addPlace 55 = .ok (.irem, 1) := by decide +kernel
theorem dX1_addPlace_56 : decode cX1_addPlace 56 = .ok (.invokevirtual 33, 3) := by decide +kernel
theorem dX1_addPlace_59 : decode cX1_addPlace 59 = .ok (.return_, 1) := by decide +kernel
theorem dX1_addDigit_0 : decode cX1_addDigit 0 = .ok (.aload_n 0, 1) := by decide +kernel
theorem dX1_addDigit_1 : decode cX1_addDigit 1 = .ok (.bipush 48, 2) := by decide +kernel
theorem dX1_addDigit_3 : decode cX1_addDigit 3 = .ok (.iload_n 1, 1) := by decide +kernel
theorem dX1_addDigit_4 : decode cX1_addDigit 4 = .ok (.iadd, 1) := by decide +kernel
theorem dX1_addDigit_5 : decode cX1_addDigit 5 = .ok (.i2c, 1) := by decide +kernel
theorem dX1_addDigit_6 : decode cX1_addDigit 6 = .ok (.invokevirtual 19, 3) := by decide +kernel
theorem dX1_addDigit_9 : decode cX1_addDigit 9 = .ok (.return_, 1) := by decide +kernel
theorem dX1_length_0 : decode cX1_length 0 = .ok (.aload_n 0, 1) := by decide +kernel
theorem dX1_length_1 : decode cX1_length 1 = .ok (.getfield 15, 3) := by decide +kernel
theorem dX1_length_4 : decode cX1_length 4 = .ok (.ireturn, 1) := by decide +kernel
theorem dX2_octet_0 : decode cX2_octet 0 = .ok (.aload_n 0, 1) := by decide +kernel
theorem dX2_octet_1 : decode cX2_octet 1 = .ok (.getfield 19, 3) := by decide +kernel
theorem dX2_octet_4 : decode cX2_octet 4 = .ok (.iload_n 1, 1) := by decide +kernel
theorem dX2_octet_5 : decode cX2_octet 5 = .ok (.invokevirtual 97, 3) := by decide +kernel
theorem dX2_octet_8 : decode cX2_octet 8 = .ok (.ireturn, 1) := by decide +kernel
theorem dX1_codeAt_0 : decode cX1_codeAt 0 = .ok (.iload_n 1, 1) := by decide +kernel
theorem dX1_codeAt_1 : decode cX1_codeAt 1 = .ok (.ifCond .lt 11, 3) := by decide +kernel
theorem dX1_codeAt_4 : decode cX1_codeAt 4 = .ok (.iload_n 1, 1) := by decide +kernel
theorem dX1_codeAt_5 : decode cX1_codeAt 5 = .ok (.aload_n 0, 1) := by decide +kernel
theorem dX1_codeAt_6 : decode cX1_codeAt 6 = .ok (.getfield 15, 3) := by decide +kernel
theorem dX1_codeAt_9 : decode cX1_codeAt 9 = .ok (.if_icmp .lt 6, 3) := by decide +kernel
theorem dX1_codeAt_12 : decode cX1_codeAt 12 = .ok (.bipush (-2), 2) := by decide +kernel
theorem dX1_codeAt_14 : decode cX1_codeAt 14 = .ok (.ireturn, 1) := by decide +kernel
theorem dX1_codeAt_15 : decode cX1_codeAt 15 = .ok (.aload_n 0, 1) := by decide +kernel
theorem dX1_codeAt_16 : decode cX1_codeAt 16 = .ok (.getfield 11, 3) := by decide +kernel
theorem dX1_codeAt_19 : decode cX1_codeAt 19 = .ok (.iload_n 1, 1) := by decide +kernel
theorem dX1_codeAt_20 : decode cX1_codeAt 20 = .ok (.caload, 1) := by decide +kernel
theorem dX1_codeAt_21 : decode cX1_codeAt 21 = .ok (.ireturn, 1) := by decide +kernel
