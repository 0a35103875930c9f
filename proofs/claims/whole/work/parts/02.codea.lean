theorem dX2_init_0 : decode cX2_init 0 = .ok (.aload_n 0, 1) := by decide +kernel
theorem dX2_init_1 : decode cX2_init 1 = .ok (.invokespecial 1, 3) := by decide +kernel
theorem dX2_init_4 : decode cX2_init 4 = .ok (.aload_n 0, 1) := by decide +kernel
theorem dX2_init_5 : decode cX2_init 5 = .ok (.iconst 4, 1) := by decide +kernel
theorem dX2_init_6 : decode cX2_init 6 = .ok (.anewarray 9, 3) := by decide +kernel
theorem dX2_init_9 : decode cX2_init 9 = .ok (.putfield 11, 3) := by decide +kernel
theorem dX2_init_12 : decode cX2_init 12 = .ok (.iconst 0, 1) := by decide +kernel
theorem dX2_init_13 : decode cX2_init 13 = .ok (.istore_n 1, 1) := by decide +kernel
theorem dX2_init_14 : decode cX2_init 14 = .ok (.iload_n 1, 1) := by decide +kernel
theorem dX2_init_15 : decode cX2_init 15 = .ok (.iconst 4, 1) := by decide +kernel
theorem dX2_init_16 : decode cX2_init 16 = .ok (.if_icmp .ge 22, 3) := by decide +kernel
theorem dX2_init_19 : decode cX2_init 19 = .ok (.aload_n 0, 1) := by decide +kernel
theorem dX2_init_20 : decode cX2_init 20 = .ok (.getfield 11, 3) := by decide +kernel
theorem dX2_init_23 : decode cX2_init 23 = .ok (.iload_n 1, 1) := by decide +kernel
theorem dX2_init_24 : decode cX2_init 24 = .ok (.new 9, 3) := by decide +kernel
theorem dX2_init_27 : decode cX2_init 27 = .ok (.dup, 1) := by decide +kernel
theorem dX2_init_28 : decode cX2_init 28 = .ok (.invokespecial 15, 3) := by decide +kernel
theorem dX2_init_31 : decode cX2_init 31 = .ok (.aastore, 1) := by decide +kernel
theorem dX2_init_32 : decode cX2_init 32 = .ok (.iinc 1 1, 3) := by decide +kernel
theorem dX2_init_35 : decode cX2_init 35 = .ok (.goto (-21), 3) := by decide +kernel
theorem dX2_init_38 : decode cX2_init 38 = .ok (.aload_n 0, 1) := by decide +kernel
theorem dX2_init_39 : decode cX2_init 39 = .ok (.new 16, 3) := by decide +kernel
theorem dX2_init_42 : decode cX2_init 42 = .ok (.dup, 1) := by decide +kernel
theorem dX2_init_43 : decode cX2_init 43 = .ok (.invokespecial 18, 3) := by decide +kernel
theorem dX2_init_46 : decode cX2_init 46 = .ok (.putfield 19, 3) := by decide +kernel
theorem dX2_init_49 : decode cX2_init 49 = .ok (.return_, 1) := by decide +kernel
theorem dX0_init_0 : decode cX0_init 0 = .ok (.aload_n 0, 1) := by decide +kernel
theorem dX0_init_1 : decode cX0_init 1 = .ok (.invokespecial 3, 3) := by decide +kernel
theorem dX0_init_4 : decode cX0_init 4 = .ok (.aload_n 0, 1) := by decide +kernel
theorem dX0_init_5 : decode cX0_init 5 = .ok (.bipush 63, 2) := by decide +kernel
theorem dX0_init_7 : decode cX0_init 7 = .ok (.newarray .long, 2) := by decide +kernel
theorem dX0_init_9 : decode cX0_init 9 = .ok (.putfield 11, 3) := by decide +kernel
theorem dX0_init_12 : decode cX0_init 12 = .ok (.return_, 1) := by decide +kernel
theorem dX1_init_0 : decode cX1_init 0 = .ok (.aload_n 0, 1) := by decide +kernel
theorem dX1_init_1 : decode cX1_init 1 = .ok (.invokespecial 3, 3) := by decide +kernel
theorem dX1_init_4 : decode cX1_init 4 = .ok (.aload_n 0, 1) := by decide +kernel
theorem dX1_init_5 : decode cX1_init 5 = .ok (.sipush 530, 3) := by decide +kernel
theorem dX1_init_8 : decode cX1_init 8 = .ok (.newarray .char, 2) := by decide +kernel
theorem dX1_init_10 : decode cX1_init 10 = .ok (.putfield 11, 3) := by decide +kernel
theorem dX1_init_13 : decode cX1_init 13 = .ok (.aload_n 0, 1) := by decide +kernel
theorem dX1_init_14 : decode cX1_init 14 = .ok (.iconst 0, 1) := by decide +kernel
theorem dX1_init_15 : decode cX1_init 15 = .ok (.putfield 15, 3) := by decide +kernel
theorem dX1_init_18 : decode cX1_init 18 = .ok (.return_, 1) := by decide +kernel
theorem dX2_set_0 : decode cX2_set 0 = .ok (.iload_n 1, 1) := by decide +kernel
theorem dX2_set_1 : decode cX2_set 1 = .ok (.invokestatic 23, 3) := by decide +kernel
theorem dX2_set_4 : decode cX2_set 4 = .ok (.ifCond .eq 17, 3) := by decide +kernel
theorem dX2_set_7 : decode cX2_set 7 = .ok (.iload_n 2, 1) := by decide +kernel
theorem dX2_set_8 : decode cX2_set 8 = .ok (.invokestatic 27, 3) := by decide +kernel
theorem dX2_set_11 : decode cX2_set 11 = .ok (.ifCond .eq 10, 3) := by decide +kernel
theorem dX2_set_14 : decode cX2_set 14 = .ok (.iload_n 3, 1) := by decide +kernel
theorem dX2_set_15 : decode cX2_set 15 = .ok (.invokestatic 30, 3) := by decide +kernel
theorem dX2_set_18 : decode cX2_set 18 = .ok (.ifCond .ne 6, 3) := by decide +kernel
theorem dX2_set_21 : decode cX2_set 21 = .ok (.bipush (-2), 2) := by decide +kernel
theorem dX2_set_23 : decode cX2_set 23 = .ok (.ireturn, 1) := by decide +kernel
theorem dX2_set_24 : decode cX2_set 24 = .ok (.aload_n 0, 1) := by decide +kernel
theorem dX2_set_25 : decode cX2_set 25 = .ok (.getfield 11, 3) := by decide +kernel
theorem dX2_set_28 : decode cX2_set 28 = .ok (.iload_n 1, 1) := by decide +kernel
theorem dX2_set_29 : decode cX2_set 29 = .ok (.aaload, 1) := by decide +kernel
theorem dX2_set_30 : decode cX2_set 30 = .ok (.iload_n 3, 1) := by decide +kernel
theorem dX2_set_31 : decode cX2_set 31 = .ok (.invokevirtual 33, 3) := by decide +kernel
theorem dX2_set_34 : decode cX2_set 34 = .ok (.istore 4, 2) := by decide +kernel
theorem dX2_set_36 : decode cX2_set 36 = .ok (.aload_n 0, 1) := by decide +kernel
theorem dX2_set_37 : decode cX2_set 37 = .ok (.getfield 11, 3) := by decide +kernel
theorem dX2_set_40 : decode cX2_set 40 = .ok (.iload_n 1, 1) := by decide +kernel
theorem dX2_set_41 : decode cX2_set 41 = .ok (.aaload, 1) := by decide +kernel
theorem dX2_set_42 : decode cX2_set 42 = .ok (.iload_n 2, 1) := by decide +kernel
theorem dX2_set_43 : decode cX2_set 43 = .ok (.iload_n 3, 1) := by decide +kernel
theorem dX2_set_44 : decode cX2_set 44 = .ok (.iload_n 3, 1) := by decide +kernel
theorem dX2_set_45 : decode cX2_set 45 = .ok (.iconst 1, 1) := by decide +kernel
theorem dX2_set_46 : decode cX2_set 46 = .ok (.iadd, 1) := by decide +kernel
theorem dX2_set_47 : decode cX2_set 47 = .ok (.invokevirtual 37, 3) := by decide +kernel
theorem dX2_set_50 : decode cX2_set 50 = .ok (.iload 4, 2) := by decide +kernel
theorem dX2_set_52 : decode cX2_set 52 = .ok (.ireturn, 1) := by decide +kernel
theorem dX2_isRow_0 : decode cX2_isRow 0 = .ok (.iload_n 0, 1) := by decide +kernel
theorem dX2_isRow_1 : decode cX2_isRow 1 = .ok (.ifCond .lt 12, 3) := by decide +kernel
theorem dX2_isRow_4 : decode cX2_isRow 4 = .ok (.iload_n 0, 1) := by decide +kernel
theorem dX2_isRow_5 : decode cX2_isRow 5 = .ok (.iconst 4, 1) := by decide +kernel
theorem dX2_isRow_6 : decode cX2_isRow 6 = .ok (.if_icmp .ge 7, 3) := by decide +kernel
theorem dX2_isRow_9 : decode cX2_isRow 9 = .ok (.iconst 1, 1) := by decide +kernel
theorem dX2_isRow_10 : decode cX2_isRow 10 = .ok (.goto 4, 3) := by decide +kernel
theorem dX2_isRow_13 : decode cX2_isRow 13 = .ok (.iconst 0, 1) := by decide +kernel
theorem dX2_isRow_14 : decode cX2_isRow 14 = .ok (.ireturn, 1) := by decide +kernel
theorem dX2_isChange_0 : decode cX2_isChange 0 = .ok (.iload_n 0, 1) := by decide +kernel
theorem dX2_isChange_1 : decode cX2_isChange 1 = .ok (.ifCond .lt 12, 3) := by decide +kernel
theorem dX2_isChange_4 : decode cX2_isChange 4 = .ok (.iload_n 0, 1) := by decide +kernel
theorem dX2_isChange_5 : decode cX2_isChange 5 = .ok (.iconst 2, 1) := by decide +kernel
theorem dX2_isChange_6 : decode cX2_isChange 6 = .ok (.if_icmp .gt 7, 3) := by decide +kernel
theorem dX2_isChange_9 : decode cX2_isChange 9 = .ok (.iconst 1, 1) := by decide +kernel
theorem dX2_isChange_10 : decode cX2_isChange 10 = .ok (.goto 4, 3) := by decide +kernel
theorem dX2_isChange_13 : decode cX2_isChange 13 = .ok (.iconst 0, 1) := by decide +kernel
theorem dX2_isChange_14 : decode cX2_isChange 14 = .ok (.ireturn, 1) := by decide +kernel
theorem dX2_isPlace_0 : decode cX2_isPlace 0 = .ok (.iload_n 0, 1) := by decide +kernel
theorem dX2_isPlace_1 : decode cX2_isPlace 1 = .ok (.ifCond .lt 14, 3) := by decide +kernel
theorem dX2_isPlace_4 : decode cX2_isPlace 4 = .ok (.iload_n 0, 1) := by decide +kernel
theorem dX2_isPlace_5 : decode cX2_isPlace 5 = .ok (.sipush 4000, 3) := by decide +kernel
theorem dX2_isPlace_8 : decode cX2_isPlace 8 = .ok (.if_icmp .gt 7, 3) := by decide +kernel
theorem dX2_isPlace_11 : decode cX2_isPlace 11 = .ok (.iconst 1, 1) := by decide +kernel
theorem dX2_isPlace_12 : decode cX2_isPlace 12 = .ok (.goto 4, 3) := by decide +kernel
theorem dX2_isPlace_15 : decode cX2_isPlace 15 = .ok (.iconst 0, 1) := by decide +kernel
theorem dX2_isPlace_16 : decode cX2_isPlace 16 = .ok (.ireturn, 1) := by decide +kernel
theorem dX0_bit_0 : decode cX0_bit 0 = .ok (.aload_n 0, 1) := by decide +kernel
theorem dX0_bit_1 : decode cX0_bit 1 = .ok (.iload_n 1, 1) := by decide +kernel
theorem dX0_bit_2 : decode cX0_bit 2 = .ok (.bipush 6, 2) := by decide +kernel
theorem dX0_bit_4 : decode cX0_bit 4 = .ok (.ishr, 1) := by decide +kernel
theorem dX0_bit_5 : decode cX0_bit 5 = .ok (.invokevirtual 15, 3) := by decide +kernel
theorem dX0_bit_8 : decode cX0_bit 8 = .ok (.iload_n 1, 1) := by decide +kernel
theorem dX0_bit_9 : decode cX0_bit 9 = .ok (.bipush 63, 2) := by decide +kernel
theorem dX0_bit_11 : decode cX0_bit 11 = .ok (.iand, 1) := by decide +kernel
theorem dX0_bit_12 : decode cX0_bit 12 = .ok (.lushr, 1) := by decide +kernel
theorem dX0_bit_13 : decode cX0_bit 13 = .ok (.l2i, 1) := by decide +kernel
theorem dX0_bit_14 : decode cX0_bit 14 = .ok (.iconst 1, 1) := by decide +kernel
theorem dX0_bit_15 : decode cX0_bit 15 = .ok (.iand, 1) := by decide +kernel
theorem dX0_bit_16 : decode cX0_bit 16 = .ok (.ireturn, 1) := by decide +kernel
theorem dX0_wordAt_0 : decode cX0_wordAt 0 = .ok (.iload_n 1, 1) := by decide +kernel
theorem dX0_wordAt_1 : decode cX0_wordAt 1 = .ok (.ifCond .lt 18, 3) := by decide +kernel
theorem dX0_wordAt_4 : decode cX0_wordAt 4 = .ok (.iload_n 1, 1) := by decide +kernel
theorem dX0_wordAt_5 : decode cX0_wordAt 5 = .ok (.bipush 63, 2) := by decide +kernel
theorem dX0_wordAt_7 : decode cX0_wordAt 7 = .ok (.if_icmp .ge 12, 3) := by decide +kernel
theorem dX0_wordAt_10 : decode cX0_wordAt 10 = .ok (.aload_n 0, 1) := by decide +kernel
theorem dX0_wordAt_11 : decode cX0_wordAt 11 = .ok (.getfield 11, 3) := by decide +kernel
theorem dX0_wordAt_14 : decode cX0_wordAt 14 = .ok (.iload_n 1, 1) := by decide +kernel
theorem dX0_wordAt_15 : decode cX0_wordAt 15 = .ok (.laload, 1) := by decide +kernel
theorem dX0_wordAt_16 : decode cX0_wordAt 16 = .ok (.goto 4, 3) := by decide +kernel
theorem dX0_wordAt_19 : decode cX0_wordAt 19 = .ok (.lconst 0, 1) := by decide +kernel
theorem dX0_wordAt_20 : decode cX0_wordAt 20 = .ok (.lreturn, 1) := by decide +kernel
theorem dX0_change_0 : decode cX0_change 0 = .ok (.iconst 0, 1) := by decide +kernel
theorem dX0_change_1 : decode cX0_change 1 = .ok (.istore 4, 2) := by decide +kernel
theorem dX0_change_3 : decode cX0_change 3 = .ok (.iload 4, 2) := by decide +kernel
theorem dX0_change_5 : decode cX0_change 5 = .ok (.bipush 63, 2) := by decide +kernel
theorem dX0_change_7 : decode cX0_change 7 = .ok (.if_icmp .ge 56, 3) := by decide +kernel
theorem dX0_change_10 : decode cX0_change 10 = .ok (.iload_n 3, 1) := by decide +kernel
theorem dX0_change_11 : decode cX0_change 11 = .ok (.bipush 64, 2) := by decide +kernel
theorem dX0_change_13 : decode cX0_change 13 = .ok (.iload 4, 2) := by decide +kernel
theorem dX0_change_15 : decode cX0_change 15 = .ok (.imul, 1) := by decide +kernel
theorem dX0_change_16 : decode cX0_change 16 = .ok (.isub, 1) := by decide +kernel
theorem dX0_change_17 : decode cX0_change 17 = .ok (.invokestatic 29, 3) := by decide +kernel
theorem dX0_change_20 : decode cX0_change 20 = .ok (.iload_n 2, 1) := by decide +kernel
theorem dX0_change_21 : decode cX0_change 21 = .ok (.bipush 64, 2) := by decide +kernel
theorem dX0_change_23 : decode cX0_change 23 = .ok (.iload 4, 2) := by decide +kernel
theorem dX0_change_25 : decode cX0_change 25 = .ok (.imul, 1) := by decide +kernel
theorem dX0_change_26 : decode cX0_change 26 = .ok (.isub, 1) := by decide +kernel
theorem dX0_change_27 : decode cX0_change 27 = .ok (.invokestatic 29, 3) := by decide +kernel
theorem dX0_change_30 : decode cX0_change 30 = .ok (.ldc2_w 32, 3) := by decide +kernel
theorem dX0_change_33 : decode cX0_change 33 = .ok (.lxor, 1) := by decide +kernel
theorem dX0_change_34 : decode cX0_change 34 = .ok (.land, 1) := by decide +kernel
theorem dX0_change_35 : decode cX0_change 35 = .ok (.lstore 5, 2) := by decide +kernel
theorem dX0_change_37 : decode cX0_change 37 = .ok (.aload_n 0, 1) := by decide +kernel
theorem dX0_change_38 : decode cX0_change 38 = .ok (.getfield 11, 3) := by decide +kernel
theorem dX0_change_41 : decode cX0_change 41 = .ok (.iload 4, 2) := by decide +kernel
theorem dX0_change_43 : decode cX0_change 43 = .ok (.aload_n 0, 1) := by decide +kernel
theorem dX0_change_44 : decode cX0_change 44 = .ok (.getfield 11, 3) := by decide +kernel
theorem dX0_change_47 : decode cX0_change 47 = .ok (.iload 4, 2) := by decide +kernel
theorem dX0_change_49 : decode cX0_change 49 = .ok (.laload, 1) := by decide +kernel
theorem dX0_change_50 : decode cX0_change 50 = .ok (.iload_n 1, 1) := by decide +kernel
theorem dX0_change_51 : decode cX0_change 51 = .ok (.lload 5, 2) := by decide +kernel
theorem dX0_change_53 : decode cX0_change 53 = .ok (.invokestatic 34, 3) := by decide +kernel
theorem dX0_change_56 : decode cX0_change 56 = .ok (.lastore, 1) := by decide +kernel
theorem dX0_change_57 : decode cX0_change 57 = .ok (.iinc 4 1, 3) := by decide +kernel
theorem dX0_change_60 : decode cX0_change 60 = .ok (.goto (-57), 3) := by decide +kernel
theorem dX0_change_63 : decode cX0_change 63 = .ok (.return_, 1) := by decide +kernel
theorem dX0_lowBits_0 : decode cX0_lowBits 0 = .ok (.iload_n 0, 1) := by decide +kernel
theorem dX0_lowBits_1 : decode cX0_lowBits 1 = .ok (.ifCond .gt 5, 3) := by decide +kernel
theorem dX0_lowBits_4 : decode cX0_lowBits 4 = .ok (.lconst 0, 1) := by decide +kernel
theorem dX0_lowBits_5 : decode cX0_lowBits 5 = .ok (.lreturn, 1) := by decide +kernel
theorem dX0_lowBits_6 : decode cX0_lowBits 6 = .ok (.iload_n 0, 1) := by decide +kernel
theorem dX0_lowBits_7 : decode cX0_lowBits 7 = .ok (.bipush 64, 2) := by decide +kernel
theorem dX0_lowBits_9 : decode cX0_lowBits 9 = .ok (.if_icmp .lt 9, 3) := by decide +kernel
theorem dX0_lowBits_12 : decode cX0_lowBits 12 = .ok (.ldc2_w 32, 3) := by decide +kernel
theorem dX0_lowBits_15 : decode cX0_lowBits 15 = .ok (.goto 8, 3) := by decide +kernel
theorem dX0_lowBits_18 : decode cX0_lowBits 18 = .ok (.lconst 1, 1) := by decide +kernel
theorem dX0_lowBits_19 : decode cX0_lowBits 19 = .ok (.iload_n 0, 1) := by decide +kernel
theorem dX0_lowBits_20 : decode cX0_lowBits 20 = .ok (.lshl, 1) := by decide +kernel
theorem dX0_lowBits_21 : decode cX0_lowBits 21 = .ok (.lconst 1, 1) := by decide +kernel
theorem dX0_lowBits_22 : decode cX0_lowBits 22 = .ok (.lsub, 1) := by decide +kernel
theorem dX0_lowBits_23 : decode cX0_lowBits 23 = .ok (.lreturn, 1) := by decide +kernel
theorem dX0_changed_0 : decode cX0_changed 0 = .ok (.iload_n 2, 1) := by decide +kernel
theorem dX0_changed_1 : decode cX0_changed 1 = .ok (.lookupswitch 39 #[(0, 27), (1, 35)], 27) := by decide +kernel
theorem dX0_changed_28 : decode cX0_changed 28 = .ok (.lload_n 0, 1) := by decide +kernel
theorem dX0_changed_29 : decode cX0_changed 29 = .ok (.lload_n 3, 1) := by decide +kernel
theorem dX0_changed_30 : decode cX0_changed 30 = .ok (.ldc2_w 32, 3) := by decide +kernel
theorem dX0_changed_33 : decode cX0_changed 33 = .ok (.lxor, 1) := by decide +kernel
theorem dX0_changed_34 : decode cX0_changed 34 = .ok (.land, 1) := by decide +kernel
theorem dX0_changed_35 : decode cX0_changed 35 = .ok (.lreturn, 1) := by decide +kernel
theorem dX0_changed_36 : decode cX0_changed 36 = .ok (.lload_n 0, 1) := by decide +kernel
theorem dX0_changed_37 : decode cX0_changed 37 = .ok (.lload_n 3, 1) := by decide +kernel
theorem dX0_changed_38 : decode cX0_changed 38 = .ok (.lor, 1) := by decide +kernel
theorem dX0_changed_39 : decode cX0_changed 39 = .ok (.lreturn, 1) := by decide +kernel
theorem dX0_changed_40 : decode cX0_changed 40 = .ok (.lload_n 0, 1) := by decide +kernel
theorem dX0_changed_41 : decode cX0_changed 41 = .ok (.lload_n 3, 1) := by decide +kernel
theorem dX0_changed_42 : decode cX0_changed 42 = .ok (.lxor, 1) := by decide +kernel
theorem dX0_changed_43 : decode cX0_changed 43 = .ok (.lreturn, 1) := by decide +kernel
theorem dX2_piece_0 : decode cX2_piece 0 = .ok (.iload_n 1, 1) := by decide +kernel
theorem dX2_piece_1 : decode cX2_piece 1 = .ok (.invokestatic 23, 3) := by decide +kernel
theorem dX2_piece_4 : decode cX2_piece 4 = .ok (.ifCond .eq 19, 3) := by decide +kernel
theorem dX2_piece_7 : decode cX2_piece 7 = .ok (.iload_n 2, 1) := by decide +kernel
theorem dX2_piece_8 : decode cX2_piece 8 = .ok (.invokestatic 27, 3) := by decide +kernel
theorem dX2_piece_11 : decode cX2_piece 11 = .ok (.ifCond .eq 12, 3) := by decide +kernel
theorem dX2_piece_14 : decode cX2_piece 14 = .ok (.iload_n 3, 1) := by decide +kernel
theorem dX2_piece_15 : decode cX2_piece 15 = .ok (.iload 4, 2) := by decide +kernel
theorem dX2_piece_17 : decode cX2_piece 17 = .ok (.invokestatic 41, 3) := by decide +kernel
theorem dX2_piece_20 : decode cX2_piece 20 = .ok (.ifCond .ne 6, 3) := by decide +kernel
theorem dX2_piece_23 : decode cX2_piece 23 = .ok (.bipush (-2), 2) := by decide +kernel
theorem dX2_piece_25 : decode cX2_piece 25 = .ok (.ireturn, 1) := by decide +kernel
theorem dX2_piece_26 : decode cX2_piece 26 = .ok (.aload_n 0, 1) := by decide +kernel
theorem dX2_piece_27 : decode cX2_piece 27 = .ok (.getfield 11, 3) := by decide +kernel
theorem dX2_piece_30 : decode cX2_piece 30 = .ok (.iload_n 1, 1) := by decide +kernel
theorem dX2_piece_31 : decode cX2_piece 31 = .ok (.aaload, 1) := by decide +kernel
theorem dX2_piece_32 : decode cX2_piece 32 = .ok (.iload_n 2, 1) := by decide +kernel
theorem dX2_piece_33 : decode cX2_piece 33 = .ok (.iload_n 3, 1) := by decide +kernel
theorem dX2_piece_34 : decode cX2_piece 34 = .ok (.iload 4, 2) := by decide +kernel
theorem dX2_piece_36 : decode cX2_piece 36 = .ok (.invokevirtual 37, 3) := by decide +kernel
theorem dX2_piece_39 : decode cX2_piece 39 = .ok (.aload_n 0, 1) := by decide +kernel
theorem dX2_piece_40 : decode cX2_piece 40 = .ok (.getfield 11, 3) := by decide +kernel
theorem dX2_piece_43 : decode cX2_piece 43 = .ok (.iload_n 1, 1) := by decide +kernel
theorem dX2_piece_44 : decode cX2_piece 44 = .ok (.aaload, 1) := by decide +kernel
theorem dX2_piece_45 : decode cX2_piece 45 = .ok (.invokevirtual 45, 3) := by decide +kernel
theorem dX2_piece_48 : decode cX2_piece 48 = .ok (.ireturn, 1) := by decide +kernel
theorem dX2_isPiece_0 : decode cX2_isPiece 0 = .ok (.iload_n 0, 1) := by decide +kernel
theorem dX2_isPiece_1 : decode cX2_isPiece 1 = .ok (.ifCond .lt 19, 3) := by decide +kernel
theorem dX2_isPiece_4 : decode cX2_isPiece 4 = .ok (.iload_n 0, 1) := by decide +kernel
theorem dX2_isPiece_5 : decode cX2_isPiece 5 = .ok (.iload_n 1, 1) := by decide +kernel
theorem dX2_isPiece_6 : decode cX2_isPiece 6 = .ok (.if_icmp .gt 14, 3) := by decide +kernel
theorem dX2_isPiece_9 : decode cX2_isPiece 9 = .ok (.iload_n 1, 1) := by decide +kernel
theorem dX2_isPiece_10 : decode cX2_isPiece 10 = .ok (.sipush 4001, 3) := by decide +kernel
theorem dX2_isPiece_13 : decode cX2_isPiece 13 = .ok (.if_icmp .gt 7, 3) := by decide +kernel
theorem dX2_isPiece_16 : decode cX2_isPiece 16 = .ok (.iconst 1, 1) := by decide +kernel
theorem dX2_isPiece_17 : decode cX2_isPiece 17 = .ok (.goto 4, 3) := by decide +kernel
theorem dX2_isPiece_20 : decode cX2_isPiece 20 = .ok (.iconst 0, 1) := by decide +kernel
theorem dX2_isPiece_21 : decode cX2_isPiece 21 = .ok (.ireturn, 1) := by decide +kernel
theorem dX0_ones_0 : decode cX0_ones 0 = .ok (.iconst 0, 1) := by decide +kernel
theorem dX0_ones_1 : decode cX0_ones 1 = .ok (.istore_n 1, 1) := by decide +kernel
theorem dX0_ones_2 : decode cX0_ones 2 = .ok (.iconst 0, 1) := by decide +kernel
theorem dX0_ones_3 : decode cX0_ones 3 = .ok (.istore_n 2, 1) := by decide +kernel
theorem dX0_ones_4 : decode cX0_ones 4 = .ok (.iload_n 2, 1) := by decide +kernel
theorem dX0_ones_5 : decode cX0_ones 5 = .ok (.bipush 63, 2) := by decide +kernel
theorem dX0_ones_7 : decode cX0_ones 7 = .ok (.if_icmp .ge 21, 3) := by decide +kernel
theorem dX0_ones_10 : decode cX0_ones 10 = .ok (.iload_n 1, 1) := by decide +kernel
theorem dX0_ones_11 : decode cX0_ones 11 = .ok (.aload_n 0, 1) := by decide +kernel
theorem dX0_ones_12 : decode cX0_ones 12 = .ok (.getfield 11, 3) := by decide +kernel
theorem dX0_ones_15 : decode cX0_ones 15 = .ok (.iload_n 2, 1) := by decide +kernel
theorem dX0_ones_16 : decode cX0_ones 16 = .ok (.laload, 1) := by decide +kernel
theorem dX0_ones_17 : decode cX0_ones 17 = .ok (.invokestatic 19, 3) := by decide +kernel
theorem dX0_ones_20 : decode cX0_ones 20 = .ok (.iadd, 1) := by decide +kernel
theorem dX0_ones_21 : decode cX0_ones 21 = .ok (.istore_n 1, 1) := by decide +kernel
theorem dX0_ones_22 : decode cX0_ones 22 = .ok (.iinc 2 1, 3) := by decide +kernel
theorem dX0_ones_25 : decode cX0_ones 25 = .ok (.goto (-21), 3) := by decide +kernel
theorem dX0_ones_28 : decode cX0_ones 28 = .ok (.iload_n 1, 1) := by decide +kernel
theorem dX0_ones_29 : decode cX0_ones 29 = .ok (.ireturn, 1) := by decide +kernel
theorem dJ7_bitCount_0 : decode cJ7_bitCount 0 = .ok (.lload_n 0, 1) := by decide +kernel
theorem dJ7_bitCount_1 : decode cJ7_bitCount 1 = .ok (.lload_n 0, 1) := by decide +kernel
theorem dJ7_bitCount_2 : decode cJ7_bitCount 2 = .ok (.iconst 1, 1) := by decide +kernel
theorem dJ7_bitCount_3 : decode cJ7_bitCount 3 = .ok (.lushr, 1) := by decide +kernel
theorem dJ7_bitCount_4 : decode cJ7_bitCount 4 = .ok (.ldc2_w 314, 3) := by decide +kernel
theorem dJ7_bitCount_7 : decode cJ7_bitCount 7 = .ok (.land, 1) := by decide +kernel
theorem dJ7_bitCount_8 : decode cJ7_bitCount 8 = .ok (.lsub, 1) := by decide +kernel
theorem dJ7_bitCount_9 : decode cJ7_bitCount 9 = .ok (.lstore_n 0, 1) := by decide +kernel
theorem dJ7_bitCount_10 : decode cJ7_bitCount 10 = .ok (.lload_n 0, 1) := by decide +kernel
theorem dJ7_bitCount_11 : decode cJ7_bitCount 11 = .ok (.ldc2_w 316, 3) := by decide +kernel
theorem dJ7_bitCount_14 : decode cJ7_bitCount 14 = .ok (.land, 1) := by decide +kernel
theorem dJ7_bitCount_15 : decode cJ7_bitCount 15 = .ok (.lload_n 0, 1) := by decide +kernel
theorem dJ7_bitCount_16 : decode cJ7_bitCount 16 = .ok (.iconst 2, 1) := by decide +kernel
theorem dJ7_bitCount_17 : decode cJ7_bitCount 17 = .ok (.lushr, 1) := by decide +kernel
theorem dJ7_bitCount_18 : decode cJ7_bitCount 18 = .ok (.ldc2_w 316, 3) := by decide +kernel
theorem dJ7_bitCount_21 : decode cJ7_bitCount 21 = .ok (.land, 1) := by decide +kernel
theorem dJ7_bitCount_22 : decode cJ7_bitCount 22 = .ok (.ladd, 1) := by decide +kernel
theorem dJ7_bitCount_23 : decode cJ7_bitCount 23 = .ok (.lstore_n 0, 1) := by decide +kernel
theorem dJ7_bitCount_24 : decode cJ7_bitCount 24 = .ok (.lload_n 0, 1) := by decide +kernel
theorem dJ7_bitCount_25 : decode cJ7_bitCount 25 = .ok (.lload_n 0, 1) := by decide +kernel
theorem dJ7_bitCount_26 : decode cJ7_bitCount 26 = .ok (.iconst 4, 1) := by decide +kernel
theorem dJ7_bitCount_27 : decode cJ7_bitCount 27 = .ok (.lushr, 1) := by decide +kernel
theorem dJ7_bitCount_28 : decode cJ7_bitCount 28 = .ok (.ladd, 1) := by decide +kernel
theorem dJ7_bitCount_29 : decode cJ7_bitCount 29 = .ok (.ldc2_w 318, 3) := by decide +kernel
theorem dJ7_bitCount_32 : decode cJ7_bitCount 32 = .ok (.land, 1) := by decide +kernel
theorem dJ7_bitCount_33 : decode cJ7_bitCount 33 = .ok (.lstore_n 0, 1) := by decide +kernel
theorem dJ7_bitCount_34 : decode cJ7_bitCount 34 = .ok (.lload_n 0, 1) := by decide +kernel
theorem dJ7_bitCount_35 : decode cJ7_bitCount 35 = .ok (.lload_n 0, 1) := by decide +kernel
theorem dJ7_bitCount_36 : decode cJ7_bitCount 36 = .ok (.bipush 8, 2) := by decide +kernel
theorem dJ7_bitCount_38 : decode cJ7_bitCount 38 = .ok (.lushr, 1) := by decide +kernel
theorem dJ7_bitCount_39 : decode cJ7_bitCount 39 = .ok (.ladd, 1) := by decide +kernel
theorem dJ7_bitCount_40 : decode cJ7_bitCount 40 = .ok (.lstore_n 0, 1) := by decide +kernel
theorem dJ7_bitCount_41 : decode cJ7_bitCount 41 = .ok (.lload_n 0, 1) := by decide +kernel
theorem dJ7_bitCount_42 : decode cJ7_bitCount 42 = .ok (.lload_n 0, 1) := by decide +kernel
theorem dJ7_bitCount_43 : decode cJ7_bitCount 43 = .ok (.bipush 16, 2) := by decide +kernel
theorem dJ7_bitCount_45 : decode cJ7_bitCount 45 = .ok (.lushr, 1) := by decide +kernel
theorem dJ7_bitCount_46 : decode cJ7_bitCount 46 = .ok (.ladd, 1) := by decide +kernel
theorem dJ7_bitCount_47 : decode cJ7_bitCount 47 = .ok (.lstore_n 0, 1) := by decide +kernel
theorem dJ7_bitCount_48 : decode cJ7_bitCount 48 = .ok (.lload_n 0, 1) := by decide +kernel
theorem dJ7_bitCount_49 : decode cJ7_bitCount 49 = .ok (.lload_n 0, 1) := by decide +kernel
theorem dJ7_bitCount_50 : decode cJ7_bitCount 50 = .ok (.bipush 32, 2) := by decide +kernel
theorem dJ7_bitCount_52 : decode cJ7_bitCount 52 = .ok (.lushr, 1) := by decide +kernel
theorem dJ7_bitCount_53 : decode cJ7_bitCount 53 = .ok (.ladd, 1) := by decide +kernel
theorem dJ7_bitCount_54 : decode cJ7_bitCount 54 = .ok (.lstore_n 0, 1) := by decide +kernel
theorem dJ7_bitCount_55 : decode cJ7_bitCount 55 = .ok (.lload_n 0, 1) := by decide +kernel
theorem dJ7_bitCount_56 : decode cJ7_bitCount 56 = .ok (.l2i, 1) := by decide +kernel
theorem dJ7_bitCount_57 : decode cJ7_bitCount 57 = .ok (.bipush 127, 2) := by decide +kernel
theorem dJ7_bitCount_59 : decode cJ7_bitCount 59 = .ok (.iand, 1) := by decide +kernel
theorem dJ7_bitCount_60 : decode cJ7_bitCount 60 = .ok (.ireturn, 1) := by decide +kernel
theorem dX2_get_0 : decode cX2_get 0 = .ok (.iload_n 1, 1) := by decide +kernel
theorem dX2_get_1 : decode cX2_get 1 = .ok (.invokestatic 23, 3) := by decide +kernel
theorem dX2_get_4 : decode cX2_get 4 = .ok (.ifCond .eq 10, 3) := by decide +kernel
