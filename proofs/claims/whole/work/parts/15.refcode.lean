theorem dX3_init_0 : decode cX3_init 0 = .ok (.aload_n 0, 1) := by decide +kernel
theorem dX3_init_1 : decode cX3_init 1 = .ok (.invokespecial 1, 3) := by decide +kernel
theorem dX3_init_4 : decode cX3_init 4 = .ok (.aload_n 0, 1) := by decide +kernel
theorem dX3_init_5 : decode cX3_init 5 = .ok (.iconst 4, 1) := by decide +kernel
theorem dX3_init_6 : decode cX3_init 6 = .ok (.sipush 4032, 3) := by decide +kernel
theorem dX3_init_9 : decode cX3_init 9 = .ok (.multianewarray 9 2, 4) := by decide +kernel
theorem dX3_init_13 : decode cX3_init 13 = .ok (.putfield 11, 3) := by decide +kernel
theorem dX3_init_16 : decode cX3_init 16 = .ok (.aload_n 0, 1) := by decide +kernel
theorem dX3_init_17 : decode cX3_init 17 = .ok (.sipush 4032, 3) := by decide +kernel
theorem dX3_init_20 : decode cX3_init 20 = .ok (.newarray .boolean, 2) := by decide +kernel
theorem dX3_init_22 : decode cX3_init 22 = .ok (.putfield 14, 3) := by decide +kernel
theorem dX3_init_25 : decode cX3_init 25 = .ok (.aload_n 0, 1) := by decide +kernel
theorem dX3_init_26 : decode cX3_init 26 = .ok (.sipush 700, 3) := by decide +kernel
theorem dX3_init_29 : decode cX3_init 29 = .ok (.newarray .byte, 2) := by decide +kernel
theorem dX3_init_31 : decode cX3_init 31 = .ok (.putfield 18, 3) := by decide +kernel
theorem dX3_init_34 : decode cX3_init 34 = .ok (.return_, 1) := by decide +kernel
theorem dX3_set_0 : decode cX3_set 0 = .ok (.iload_n 1, 1) := by decide +kernel
theorem dX3_set_1 : decode cX3_set 1 = .ok (.invokestatic 22, 3) := by decide +kernel
theorem dX3_set_4 : decode cX3_set 4 = .ok (.ifCond .eq 19, 3) := by decide +kernel
theorem dX3_set_7 : decode cX3_set 7 = .ok (.iload_n 2, 1) := by decide +kernel
theorem dX3_set_8 : decode cX3_set 8 = .ok (.ifCond .lt 15, 3) := by decide +kernel
theorem dX3_set_11 : decode cX3_set 11 = .ok (.iload_n 2, 1) := by decide +kernel
theorem dX3_set_12 : decode cX3_set 12 = .ok (.iconst 2, 1) := by decide +kernel
theorem dX3_set_13 : decode cX3_set 13 = .ok (.if_icmp .gt 10, 3) := by decide +kernel
theorem dX3_set_16 : decode cX3_set 16 = .ok (.iload_n 3, 1) := by decide +kernel
theorem dX3_set_17 : decode cX3_set 17 = .ok (.invokestatic 26, 3) := by decide +kernel
theorem dX3_set_20 : decode cX3_set 20 = .ok (.ifCond .ne 6, 3) := by decide +kernel
theorem dX3_set_23 : decode cX3_set 23 = .ok (.bipush (-2), 2) := by decide +kernel
theorem dX3_set_25 : decode cX3_set 25 = .ok (.ireturn, 1) := by decide +kernel
theorem dX3_set_26 : decode cX3_set 26 = .ok (.aload_n 0, 1) := by decide +kernel
theorem dX3_set_27 : decode cX3_set 27 = .ok (.getfield 11, 3) := by decide +kernel
theorem dX3_set_30 : decode cX3_set 30 = .ok (.iload_n 1, 1) := by decide +kernel
theorem dX3_set_31 : decode cX3_set 31 = .ok (.aaload, 1) := by decide +kernel
theorem dX3_set_32 : decode cX3_set 32 = .ok (.iload_n 3, 1) := by decide +kernel
theorem dX3_set_33 : decode cX3_set 33 = .ok (.baload, 1) := by decide +kernel
theorem dX3_set_34 : decode cX3_set 34 = .ok (.istore 4, 2) := by decide +kernel
theorem dX3_set_36 : decode cX3_set 36 = .ok (.aload_n 0, 1) := by decide +kernel
theorem dX3_set_37 : decode cX3_set 37 = .ok (.getfield 11, 3) := by decide +kernel
theorem dX3_set_40 : decode cX3_set 40 = .ok (.iload_n 1, 1) := by decide +kernel
theorem dX3_set_41 : decode cX3_set 41 = .ok (.aaload, 1) := by decide +kernel
theorem dX3_set_42 : decode cX3_set 42 = .ok (.iload_n 3, 1) := by decide +kernel
theorem dX3_set_43 : decode cX3_set 43 = .ok (.iload 4, 2) := by decide +kernel
theorem dX3_set_45 : decode cX3_set 45 = .ok (.iload_n 2, 1) := by decide +kernel
theorem dX3_set_46 : decode cX3_set 46 = .ok (.invokestatic 29, 3) := by decide +kernel
theorem dX3_set_49 : decode cX3_set 49 = .ok (.bastore, 1) := by decide +kernel
theorem dX3_set_50 : decode cX3_set 50 = .ok (.iload 4, 2) := by decide +kernel
theorem dX3_set_52 : decode cX3_set 52 = .ok (.ifCond .eq 7, 3) := by decide +kernel
theorem dX3_set_55 : decode cX3_set 55 = .ok (.iconst 1, 1) := by decide +kernel
theorem dX3_set_56 : decode cX3_set 56 = .ok (.goto 4, 3) := by decide +kernel
theorem dX3_set_59 : decode cX3_set 59 = .ok (.iconst 0, 1) := by decide +kernel
theorem dX3_set_60 : decode cX3_set 60 = .ok (.ireturn, 1) := by decide +kernel
theorem dX3_isRow_0 : decode cX3_isRow 0 = .ok (.iload_n 0, 1) := by decide +kernel
theorem dX3_isRow_1 : decode cX3_isRow 1 = .ok (.ifCond .lt 12, 3) := by decide +kernel
theorem dX3_isRow_4 : decode cX3_isRow 4 = .ok (.iload_n 0, 1) := by decide +kernel
theorem dX3_isRow_5 : decode cX3_isRow 5 = .ok (.iconst 4, 1) := by decide +kernel
theorem dX3_isRow_6 : decode cX3_isRow 6 = .ok (.if_icmp .ge 7, 3) := by decide +kernel
theorem dX3_isRow_9 : decode cX3_isRow 9 = .ok (.iconst 1, 1) := by decide +kernel
theorem dX3_isRow_10 : decode cX3_isRow 10 = .ok (.goto 4, 3) := by decide +kernel
theorem dX3_isRow_13 : decode cX3_isRow 13 = .ok (.iconst 0, 1) := by decide +kernel
theorem dX3_isRow_14 : decode cX3_isRow 14 = .ok (.ireturn, 1) := by decide +kernel
theorem dX3_isPlace_0 : decode cX3_isPlace 0 = .ok (.iload_n 0, 1) := by decide +kernel
theorem dX3_isPlace_1 : decode cX3_isPlace 1 = .ok (.ifCond .lt 14, 3) := by decide +kernel
theorem dX3_isPlace_4 : decode cX3_isPlace 4 = .ok (.iload_n 0, 1) := by decide +kernel
theorem dX3_isPlace_5 : decode cX3_isPlace 5 = .ok (.sipush 4000, 3) := by decide +kernel
theorem dX3_isPlace_8 : decode cX3_isPlace 8 = .ok (.if_icmp .gt 7, 3) := by decide +kernel
theorem dX3_isPlace_11 : decode cX3_isPlace 11 = .ok (.iconst 1, 1) := by decide +kernel
theorem dX3_isPlace_12 : decode cX3_isPlace 12 = .ok (.goto 4, 3) := by decide +kernel
theorem dX3_isPlace_15 : decode cX3_isPlace 15 = .ok (.iconst 0, 1) := by decide +kernel
theorem dX3_isPlace_16 : decode cX3_isPlace 16 = .ok (.ireturn, 1) := by decide +kernel
theorem dX3_changed_0 : decode cX3_changed 0 = .ok (.iload_n 1, 1) := by decide +kernel
theorem dX3_changed_1 : decode cX3_changed 1 = .ok (.iconst 1, 1) := by decide +kernel
theorem dX3_changed_2 : decode cX3_changed 2 = .ok (.if_icmp .eq 12, 3) := by decide +kernel
theorem dX3_changed_5 : decode cX3_changed 5 = .ok (.iload_n 1, 1) := by decide +kernel
theorem dX3_changed_6 : decode cX3_changed 6 = .ok (.iconst 2, 1) := by decide +kernel
theorem dX3_changed_7 : decode cX3_changed 7 = .ok (.if_icmp .ne 11, 3) := by decide +kernel
theorem dX3_changed_10 : decode cX3_changed 10 = .ok (.iload_n 0, 1) := by decide +kernel
theorem dX3_changed_11 : decode cX3_changed 11 = .ok (.ifCond .ne 7, 3) := by decide +kernel
theorem dX3_changed_14 : decode cX3_changed 14 = .ok (.iconst 1, 1) := by decide +kernel
theorem dX3_changed_15 : decode cX3_changed 15 = .ok (.goto 4, 3) := by decide +kernel
theorem dX3_changed_18 : decode cX3_changed 18 = .ok (.iconst 0, 1) := by decide +kernel
theorem dX3_changed_19 : decode cX3_changed 19 = .ok (.ireturn, 1) := by decide +kernel
theorem dX3_piece_0 : decode cX3_piece 0 = .ok (.iload_n 1, 1) := by decide +kernel
theorem dX3_piece_1 : decode cX3_piece 1 = .ok (.invokestatic 22, 3) := by decide +kernel
theorem dX3_piece_4 : decode cX3_piece 4 = .ok (.ifCond .eq 21, 3) := by decide +kernel
theorem dX3_piece_7 : decode cX3_piece 7 = .ok (.iload_n 2, 1) := by decide +kernel
theorem dX3_piece_8 : decode cX3_piece 8 = .ok (.ifCond .lt 17, 3) := by decide +kernel
theorem dX3_piece_11 : decode cX3_piece 11 = .ok (.iload_n 2, 1) := by decide +kernel
theorem dX3_piece_12 : decode cX3_piece 12 = .ok (.iconst 2, 1) := by decide +kernel
theorem dX3_piece_13 : decode cX3_piece 13 = .ok (.if_icmp .gt 12, 3) := by decide +kernel
theorem dX3_piece_16 : decode cX3_piece 16 = .ok (.iload_n 3, 1) := by decide +kernel
theorem dX3_piece_17 : decode cX3_piece 17 = .ok (.iload 4, 2) := by decide +kernel
theorem dX3_piece_19 : decode cX3_piece 19 = .ok (.invokestatic 33, 3) := by decide +kernel
theorem dX3_piece_22 : decode cX3_piece 22 = .ok (.ifCond .ne 6, 3) := by decide +kernel
theorem dX3_piece_25 : decode cX3_piece 25 = .ok (.bipush (-2), 2) := by decide +kernel
theorem dX3_piece_27 : decode cX3_piece 27 = .ok (.ireturn, 1) := by decide +kernel
theorem dX3_piece_28 : decode cX3_piece 28 = .ok (.iload_n 3, 1) := by decide +kernel
theorem dX3_piece_29 : decode cX3_piece 29 = .ok (.istore 5, 2) := by decide +kernel
theorem dX3_piece_31 : decode cX3_piece 31 = .ok (.iload 5, 2) := by decide +kernel
theorem dX3_piece_33 : decode cX3_piece 33 = .ok (.iload 4, 2) := by decide +kernel
theorem dX3_piece_35 : decode cX3_piece 35 = .ok (.if_icmp .ge 31, 3) := by decide +kernel
theorem dX3_piece_38 : decode cX3_piece 38 = .ok (.aload_n 0, 1) := by decide +kernel
theorem dX3_piece_39 : decode cX3_piece 39 = .ok (.getfield 11, 3) := by decide +kernel
theorem dX3_piece_42 : decode cX3_piece 42 = .ok (.iload_n 1, 1) := by decide +kernel
theorem dX3_piece_43 : decode cX3_piece 43 = .ok (.aaload, 1) := by decide +kernel
theorem dX3_piece_44 : decode cX3_piece 44 = .ok (.iload 5, 2) := by decide +kernel
theorem dX3_piece_46 : decode cX3_piece 46 = .ok (.aload_n 0, 1) := by decide +kernel
theorem dX3_piece_47 : decode cX3_piece 47 = .ok (.getfield 11, 3) := by decide +kernel
theorem dX3_piece_50 : decode cX3_piece 50 = .ok (.iload_n 1, 1) := by decide +kernel
theorem dX3_piece_51 : decode cX3_piece 51 = .ok (.aaload, 1) := by decide +kernel
theorem dX3_piece_52 : decode cX3_piece 52 = .ok (.iload 5, 2) := by decide +kernel
theorem dX3_piece_54 : decode cX3_piece 54 = .ok (.baload, 1) := by decide +kernel
theorem dX3_piece_55 : decode cX3_piece 55 = .ok (.iload_n 2, 1) := by decide +kernel
theorem dX3_piece_56 : decode cX3_piece 56 = .ok (.invokestatic 29, 3) := by decide +kernel
theorem dX3_piece_59 : decode cX3_piece 59 = .ok (.bastore, 1) := by decide +kernel
theorem dX3_piece_60 : decode cX3_piece 60 = .ok (.iinc 5 1, 3) := by decide +kernel
theorem dX3_piece_63 : decode cX3_piece 63 = .ok (.goto (-32), 3) := by decide +kernel
theorem dX3_piece_66 : decode cX3_piece 66 = .ok (.aload_n 0, 1) := by decide +kernel
theorem dX3_piece_67 : decode cX3_piece 67 = .ok (.iload_n 1, 1) := by decide +kernel
theorem dX3_piece_68 : decode cX3_piece 68 = .ok (.invokevirtual 37, 3) := by decide +kernel
theorem dX3_piece_71 : decode cX3_piece 71 = .ok (.ireturn, 1) := by decide +kernel
theorem dX3_isPiece_0 : decode cX3_isPiece 0 = .ok (.iload_n 0, 1) := by decide +kernel
theorem dX3_isPiece_1 : decode cX3_isPiece 1 = .ok (.ifCond .lt 19, 3) := by decide +kernel
theorem dX3_isPiece_4 : decode cX3_isPiece 4 = .ok (.iload_n 0, 1) := by decide +kernel
theorem dX3_isPiece_5 : decode cX3_isPiece 5 = .ok (.iload_n 1, 1) := by decide +kernel
theorem dX3_isPiece_6 : decode cX3_isPiece 6 = .ok (.if_icmp .gt 14, 3) := by decide +kernel
theorem dX3_isPiece_9 : decode cX3_isPiece 9 = .ok (.iload_n 1, 1) := by decide +kernel
theorem dX3_isPiece_10 : decode cX3_isPiece 10 = .ok (.sipush 4001, 3) := by decide +kernel
theorem dX3_isPiece_13 : decode cX3_isPiece 13 = .ok (.if_icmp .gt 7, 3) := by decide +kernel
theorem dX3_isPiece_16 : decode cX3_isPiece 16 = .ok (.iconst 1, 1) := by decide +kernel
theorem dX3_isPiece_17 : decode cX3_isPiece 17 = .ok (.goto 4, 3) := by decide +kernel
theorem dX3_isPiece_20 : decode cX3_isPiece 20 = .ok (.iconst 0, 1) := by decide +kernel
theorem dX3_isPiece_21 : decode cX3_isPiece 21 = .ok (.ireturn, 1) := by decide +kernel
theorem dX3_ones_0 : decode cX3_ones 0 = .ok (.iconst 0, 1) := by decide +kernel
theorem dX3_ones_1 : decode cX3_ones 1 = .ok (.istore_n 2, 1) := by decide +kernel
theorem dX3_ones_2 : decode cX3_ones 2 = .ok (.iconst 0, 1) := by decide +kernel
theorem dX3_ones_3 : decode cX3_ones 3 = .ok (.istore_n 3, 1) := by decide +kernel
theorem dX3_ones_4 : decode cX3_ones 4 = .ok (.iload_n 3, 1) := by decide +kernel
theorem dX3_ones_5 : decode cX3_ones 5 = .ok (.sipush 4032, 3) := by decide +kernel
theorem dX3_ones_8 : decode cX3_ones 8 = .ok (.if_icmp .ge 28, 3) := by decide +kernel
theorem dX3_ones_11 : decode cX3_ones 11 = .ok (.iload_n 2, 1) := by decide +kernel
theorem dX3_ones_12 : decode cX3_ones 12 = .ok (.aload_n 0, 1) := by decide +kernel
theorem dX3_ones_13 : decode cX3_ones 13 = .ok (.getfield 11, 3) := by decide +kernel
theorem dX3_ones_16 : decode cX3_ones 16 = .ok (.iload_n 1, 1) := by decide +kernel
theorem dX3_ones_17 : decode cX3_ones 17 = .ok (.aaload, 1) := by decide +kernel
theorem dX3_ones_18 : decode cX3_ones 18 = .ok (.iload_n 3, 1) := by decide +kernel
theorem dX3_ones_19 : decode cX3_ones 19 = .ok (.baload, 1) := by decide +kernel
theorem dX3_ones_20 : decode cX3_ones 20 = .ok (.ifCond .eq 7, 3) := by decide +kernel
theorem dX3_ones_23 : decode cX3_ones 23 = .ok (.iconst 1, 1) := by decide +kernel
theorem dX3_ones_24 : decode cX3_ones 24 = .ok (.goto 4, 3) := by decide +kernel
theorem dX3_ones_27 : decode cX3_ones 27 = .ok (.iconst 0, 1) := by decide +kernel
theorem dX3_ones_28 : decode cX3_ones 28 = .ok (.iadd, 1) := by decide +kernel
theorem dX3_ones_29 : decode cX3_ones 29 = .ok (.istore_n 2, 1) := by decide +kernel
theorem dX3_ones_30 : decode cX3_ones 30 = .ok (.iinc 3 1, 3) := by decide +kernel
theorem dX3_ones_33 : decode cX3_ones 33 = .ok (.goto (-29), 3) := by decide +kernel
theorem dX3_ones_36 : decode cX3_ones 36 = .ok (.iload_n 2, 1) := by decide +kernel
theorem dX3_ones_37 : decode cX3_ones 37 = .ok (.ireturn, 1) := by decide +kernel
theorem dX3_get_0 : decode cX3_get 0 = .ok (.iload_n 1, 1) := by decide +kernel
theorem dX3_get_1 : decode cX3_get 1 = .ok (.invokestatic 22, 3) := by decide +kernel
theorem dX3_get_4 : decode cX3_get 4 = .ok (.ifCond .eq 10, 3) := by decide +kernel
theorem dX3_get_7 : decode cX3_get 7 = .ok (.iload_n 2, 1) := by decide +kernel
theorem dX3_get_8 : decode cX3_get 8 = .ok (.invokestatic 26, 3) := by decide +kernel
theorem dX3_get_11 : decode cX3_get 11 = .ok (.ifCond .ne 8, 3) := by decide +kernel
theorem dX3_get_14 : decode cX3_get 14 = .ok (.bipush (-2), 2) := by decide +kernel
theorem dX3_get_16 : decode cX3_get 16 = .ok (.goto 19, 3) := by decide +kernel
theorem dX3_get_19 : decode cX3_get 19 = .ok (.aload_n 0, 1) := by decide +kernel
theorem dX3_get_20 : decode cX3_get 20 = .ok (.getfield 11, 3) := by decide +kernel
theorem dX3_get_23 : decode cX3_get 23 = .ok (.iload_n 1, 1) := by decide +kernel
theorem dX3_get_24 : decode cX3_get 24 = .ok (.aaload, 1) := by decide +kernel
theorem dX3_get_25 : decode cX3_get 25 = .ok (.iload_n 2, 1) := by decide +kernel
theorem dX3_get_26 : decode cX3_get 26 = .ok (.baload, 1) := by decide +kernel
theorem dX3_get_27 : decode cX3_get 27 = .ok (.ifCond .eq 7, 3) := by decide +kernel
theorem dX3_get_30 : decode cX3_get 30 = .ok (.iconst 1, 1) := by decide +kernel
theorem dX3_get_31 : decode cX3_get 31 = .ok (.goto 4, 3) := by decide +kernel
theorem dX3_get_34 : decode cX3_get 34 = .ok (.iconst 0, 1) := by decide +kernel
theorem dX3_get_35 : decode cX3_get 35 = .ok (.ireturn, 1) := by decide +kernel
theorem dX3_next_0 : decode cX3_next 0 = .ok (.iload_n 1, 1) := by decide +kernel
theorem dX3_next_1 : decode cX3_next 1 = .ok (.invokestatic 22, 3) := by decide +kernel
theorem dX3_next_4 : decode cX3_next 4 = .ok (.ifCond .eq 19, 3) := by decide +kernel
theorem dX3_next_7 : decode cX3_next 7 = .ok (.iload_n 2, 1) := by decide +kernel
theorem dX3_next_8 : decode cX3_next 8 = .ok (.ifCond .lt 15, 3) := by decide +kernel
theorem dX3_next_11 : decode cX3_next 11 = .ok (.iload_n 2, 1) := by decide +kernel
theorem dX3_next_12 : decode cX3_next 12 = .ok (.iconst 3, 1) := by decide +kernel
theorem dX3_next_13 : decode cX3_next 13 = .ok (.if_icmp .gt 10, 3) := by decide +kernel
theorem dX3_next_16 : decode cX3_next 16 = .ok (.iload_n 3, 1) := by decide +kernel
theorem dX3_next_17 : decode cX3_next 17 = .ok (.invokestatic 26, 3) := by decide +kernel
theorem dX3_next_20 : decode cX3_next 20 = .ok (.ifCond .ne 6, 3) := by decide +kernel
theorem dX3_next_23 : decode cX3_next 23 = .ok (.bipush (-2), 2) := by decide +kernel
theorem dX3_next_25 : decode cX3_next 25 = .ok (.ireturn, 1) := by decide +kernel
theorem dX3_next_26 : decode cX3_next 26 = .ok (.iload_n 2, 1) := by decide +kernel
theorem dX3_next_27 : decode cX3_next 27 = .ok (.iconst 2, 1) := by decide +kernel
theorem dX3_next_28 : decode cX3_next 28 = .ok (.irem, 1) := by decide +kernel
theorem dX3_next_29 : decode cX3_next 29 = .ok (.ifCond .ne 7, 3) := by decide +kernel
theorem dX3_next_32 : decode cX3_next 32 = .ok (.iconst 1, 1) := by decide +kernel
theorem dX3_next_33 : decode cX3_next 33 = .ok (.goto 4, 3) := by decide +kernel
theorem dX3_next_36 : decode cX3_next 36 = .ok (.iconst 0, 1) := by decide +kernel
theorem dX3_next_37 : decode cX3_next 37 = .ok (.istore 4, 2) := by decide +kernel
theorem dX3_next_39 : decode cX3_next 39 = .ok (.iload_n 2, 1) := by decide +kernel
theorem dX3_next_40 : decode cX3_next 40 = .ok (.iconst 2, 1) := by decide +kernel
theorem dX3_next_41 : decode cX3_next 41 = .ok (.if_icmp .ge 60, 3) := by decide +kernel
theorem dX3_next_44 : decode cX3_next 44 = .ok (.iload_n 3, 1) := by decide +kernel
theorem dX3_next_45 : decode cX3_next 45 = .ok (.istore 5, 2) := by decide +kernel
theorem dX3_next_47 : decode cX3_next 47 = .ok (.iload 5, 2) := by decide +kernel
theorem dX3_next_49 : decode cX3_next 49 = .ok (.sipush 4032, 3) := by decide +kernel
theorem dX3_next_52 : decode cX3_next 52 = .ok (.if_icmp .ge 23, 3) := by decide +kernel
theorem dX3_next_55 : decode cX3_next 55 = .ok (.aload_n 0, 1) := by decide +kernel
theorem dX3_next_56 : decode cX3_next 56 = .ok (.getfield 11, 3) := by decide +kernel
theorem dX3_next_59 : decode cX3_next 59 = .ok (.iload_n 1, 1) := by decide +kernel
theorem dX3_next_60 : decode cX3_next 60 = .ok (.aaload, 1) := by decide +kernel
theorem dX3_next_61 : decode cX3_next 61 = .ok (.iload 5, 2) := by decide +kernel
theorem dX3_next_63 : decode cX3_next 63 = .ok (.baload, 1) := by decide +kernel
theorem dX3_next_64 : decode cX3_next 64 = .ok (.iload 4, 2) := by decide +kernel
theorem dX3_next_66 : decode cX3_next 66 = .ok (.if_icmp .eq 9, 3) := by decide +kernel
theorem dX3_next_69 : decode cX3_next 69 = .ok (.iinc 5 1, 3) := by decide +kernel
theorem dX3_next_72 : decode cX3_next 72 = .ok (.goto (-25), 3) := by decide +kernel
theorem dX3_next_75 : decode cX3_next 75 = .ok (.iload 5, 2) := by decide +kernel
theorem dX3_next_77 : decode cX3_next 77 = .ok (.sipush 4032, 3) := by decide +kernel
theorem dX3_next_80 : decode cX3_next 80 = .ok (.if_icmp .ge 8, 3) := by decide +kernel
theorem dX3_next_83 : decode cX3_next 83 = .ok (.iload 5, 2) := by decide +kernel
theorem dX3_next_85 : decode cX3_next 85 = .ok (.goto 15, 3) := by decide +kernel
theorem dX3_next_88 : decode cX3_next 88 = .ok (.iload 4, 2) := by decide +kernel
theorem dX3_next_90 : decode cX3_next 90 = .ok (.ifCond .eq 7, 3) := by decide +kernel
theorem dX3_next_93 : decode cX3_next 93 = .ok (.iconst (-1), 1) := by decide +kernel
theorem dX3_next_94 : decode cX3_next 94 = .ok (.goto 6, 3) := by decide +kernel
theorem dX3_next_97 : decode cX3_next 97 = .ok (.sipush 4032, 3) := by decide +kernel
theorem dX3_next_100 : decode cX3_next 100 = .ok (.ireturn, 1) := by decide +kernel
theorem dX3_next_101 : decode cX3_next 101 = .ok (.iload_n 3, 1) := by decide +kernel
theorem dX3_next_102 : decode cX3_next 102 = .ok (.istore 5, 2) := by decide +kernel
theorem dX3_next_104 : decode cX3_next 104 = .ok (.iload 5, 2) := by decide +kernel
theorem dX3_next_106 : decode cX3_next 106 = .ok (.ifCond .lt 23, 3) := by decide +kernel
theorem dX3_next_109 : decode cX3_next 109 = .ok (.aload_n 0, 1) := by decide +kernel
theorem dX3_next_110 : decode cX3_next 110 = .ok (.getfield 11, 3) := by decide +kernel
theorem dX3_next_113 : decode cX3_next 113 = .ok (.iload_n 1, 1) := by decide +kernel
theorem dX3_next_114 : decode cX3_next 114 = .ok (.aaload, 1) := by decide +kernel
theorem dX3_next_115 : decode cX3_next 115 = .ok (.iload 5, 2) := by decide +kernel
theorem dX3_next_117 : decode cX3_next 117 = .ok (.baload, 1) := by decide +kernel
theorem dX3_next_118 : decode cX3_next 118 = .ok (.iload 4, 2) := by decide +kernel
theorem dX3_next_120 : decode cX3_next 120 = .ok (.if_icmp .eq 9, 3) := by decide +kernel
theorem dX3_next_123 : decode cX3_next 123 = .ok (.iinc 5 (-1), 3) := by decide +kernel
theorem dX3_next_126 : decode cX3_next 126 = .ok (.goto (-22), 3) := by decide +kernel
theorem dX3_next_129 : decode cX3_next 129 = .ok (.iload 5, 2) := by decide +kernel
theorem dX3_next_131 : decode cX3_next 131 = .ok (.ireturn, 1) := by decide +kernel
theorem dX3_join_0 : decode cX3_join 0 = .ok (.iload_n 1, 1) := by decide +kernel
theorem dX3_join_1 : decode cX3_join 1 = .ok (.invokestatic 22, 3) := by decide +kernel
theorem dX3_join_4 : decode cX3_join 4 = .ok (.ifCond .eq 19, 3) := by decide +kernel
theorem dX3_join_7 : decode cX3_join 7 = .ok (.iload_n 2, 1) := by decide +kernel
theorem dX3_join_8 : decode cX3_join 8 = .ok (.ifCond .lt 15, 3) := by decide +kernel
theorem dX3_join_11 : decode cX3_join 11 = .ok (.iload_n 2, 1) := by decide +kernel
theorem dX3_join_12 : decode cX3_join 12 = .ok (.iconst 3, 1) := by decide +kernel
theorem dX3_join_13 : decode cX3_join 13 = .ok (.if_icmp .gt 10, 3) := by decide +kernel
theorem dX3_join_16 : decode cX3_join 16 = .ok (.iload_n 3, 1) := by decide +kernel
theorem dX3_join_17 : decode cX3_join 17 = .ok (.invokestatic 22, 3) := by decide +kernel
theorem dX3_join_20 : decode cX3_join 20 = .ok (.ifCond .ne 6, 3) := by decide +kernel
theorem dX3_join_23 : decode cX3_join 23 = .ok (.bipush (-2), 2) := by decide +kernel
theorem dX3_join_25 : decode cX3_join 25 = .ok (.ireturn, 1) := by decide +kernel
theorem dX3_join_26 : decode cX3_join 26 = .ok (.iconst 0, 1) := by decide +kernel
theorem dX3_join_27 : decode cX3_join 27 = .ok (.istore 4, 2) := by decide +kernel
theorem dX3_join_29 : decode cX3_join 29 = .ok (.iload 4, 2) := by decide +kernel
theorem dX3_join_31 : decode cX3_join 31 = .ok (.sipush 4032, 3) := by decide +kernel
theorem dX3_join_34 : decode cX3_join 34 = .ok (.if_icmp .ge 120, 3) := by decide +kernel
theorem dX3_join_37 : decode cX3_join 37 = .ok (.aload_n 0, 1) := by decide +kernel
theorem dX3_join_38 : decode cX3_join 38 = .ok (.getfield 11, 3) := by decide +kernel
theorem dX3_join_41 : decode cX3_join 41 = .ok (.iload_n 1, 1) := by decide +kernel
theorem dX3_join_42 : decode cX3_join 42 = .ok (.aaload, 1) := by decide +kernel
theorem dX3_join_43 : decode cX3_join 43 = .ok (.iload 4, 2) := by decide +kernel
theorem dX3_join_45 : decode cX3_join 45 = .ok (.baload, 1) := by decide +kernel
theorem dX3_join_46 : decode cX3_join 46 = .ok (.istore 5, 2) := by decide +kernel
theorem dX3_join_48 : decode cX3_join 48 = .ok (.aload_n 0, 1) := by decide +kernel
theorem dX3_join_49 : decode cX3_join 49 = .ok (.getfield 11, 3) := by decide +kernel
theorem dX3_join_52 : decode cX3_join 52 = .ok (.iload_n 3, 1) := by decide +kernel
theorem dX3_join_53 : decode cX3_join 53 = .ok (.aaload, 1) := by decide +kernel
theorem dX3_join_54 : decode cX3_join 54 = .ok (.iload 4, 2) := by decide +kernel
theorem dX3_join_56 : decode cX3_join 56 = .ok (.baload, 1) := by decide +kernel
theorem dX3_join_57 : decode cX3_join 57 = .ok (.istore 6, 2) := by decide +kernel
theorem dX3_join_59 : decode cX3_join 59 = .ok (.aload_n 0, 1) := by decide +kernel
theorem dX3_join_60 : decode cX3_join 60 = .ok (.getfield 11, 3) := by decide +kernel
theorem dX3_join_63 : decode cX3_join 63 = .ok (.iload_n 1, 1) := by decide +kernel
theorem dX3_join_64 : decode cX3_join 64 = .ok (.aaload, 1) := by decide +kernel
theorem dX3_join_65 : decode cX3_join 65 = .ok (.iload 4, 2) := by decide +kernel
theorem dX3_join_67 : decode cX3_join 67 = .ok (.iload_n 2, 1) := by decide +kernel
theorem dX3_join_68 : decode cX3_join 68 = .ok (.ifCond .ne 21, 3) := by decide +kernel
theorem dX3_join_71 : decode cX3_join 71 = .ok (.iload 5, 2) := by decide +kernel
theorem dX3_join_73 : decode cX3_join 73 = .ok (.ifCond .eq 12, 3) := by decide +kernel
theorem dX3_join_76 : decode cX3_join 76 = .ok (.iload 6, 2) := by decide +kernel
theorem dX3_join_78 : decode cX3_join 78 = .ok (.ifCond .eq 7, 3) := by decide +kernel
theorem dX3_join_81 : decode cX3_join 81 = .ok (.iconst 1, 1) := by decide +kernel
theorem dX3_join_82 : decode cX3_join 82 = .ok (.goto 65, 3) := by decide +kernel
theorem dX3_join_85 : decode cX3_join 85 = .ok (.iconst 0, 1) := by decide +kernel
theorem dX3_join_86 : decode cX3_join 86 = .ok (.goto 61, 3) := by decide +kernel
theorem dX3_join_89 : decode cX3_join 89 = .ok (.iload_n 2, 1) := by decide +kernel
theorem dX3_join_90 : decode cX3_join 90 = .ok (.iconst 1, 1) := by decide +kernel
theorem dX3_join_91 : decode cX3_join 91 = .ok (.if_icmp .ne 21, 3) := by decide +kernel
theorem dX3_join_94 : decode cX3_join 94 = .ok (.iload 5, 2) := by decide +kernel
theorem dX3_join_96 : decode cX3_join 96 = .ok (.ifCond .ne 8, 3) := by decide +kernel
theorem dX3_join_99 : decode cX3_join 99 = .ok (.iload 6, 2) := by decide +kernel
theorem dX3_join_101 : decode cX3_join 101 = .ok (.ifCond .eq 7, 3) := by decide +kernel
theorem dX3_join_104 : decode cX3_join 104 = .ok (.iconst 1, 1) := by decide +kernel
theorem dX3_join_105 : decode cX3_join 105 = .ok (.goto 42, 3) := by decide +kernel
theorem dX3_join_108 : decode cX3_join 108 = .ok (.iconst 0, 1) := by decide +kernel
theorem dX3_join_109 : decode cX3_join 109 = .ok (.goto 38, 3) := by decide +kernel
theorem dX3_join_112 : decode cX3_join 112 = .ok (.iload_n 2, 1) := by decide +kernel
theorem dX3_join_113 : decode cX3_join 113 = .ok (.iconst 2, 1) := by decide +kernel
theorem dX3_join_114 : decode cX3_join 114 = .ok (.if_icmp .ne 18, 3) := by decide +kernel
theorem dX3_join_117 : decode cX3_join 117 = .ok (.iload 5, 2) := by decide +kernel
theorem dX3_join_119 : decode cX3_join 119 = .ok (.iload 6, 2) := by decide +kernel
theorem dX3_join_121 : decode cX3_join 121 = .ok (.if_icmp .eq 7, 3) := by decide +kernel
theorem dX3_join_124 : decode cX3_join 124 = .ok (.iconst 1, 1) := by decide +kernel
theorem dX3_join_125 : decode cX3_join 125 = .ok (.goto 22, 3) := by decide +kernel
theorem dX3_join_128 : decode cX3_join 128 = .ok (.iconst 0, 1) := by decide +kernel
theorem dX3_join_129 : decode cX3_join 129 = .ok (.goto 18, 3) := by decide +kernel
theorem dX3_join_132 : decode cX3_join 132 = .ok (.iload 5, 2) := by decide +kernel
theorem dX3_join_134 : decode cX3_join 134 = .ok (.ifCond .eq 12, 3) := by decide +kernel
theorem dX3_join_137 : decode cX3_join 137 = .ok (.iload 6, 2) := by decide +kernel
theorem dX3_join_139 : decode cX3_join 139 = .ok (.ifCond .ne 7, 3) := by decide +kernel
theorem dX3_join_142 : decode cX3_join 142 = .ok (.iconst 1, 1) := by decide +kernel
theorem dX3_join_143 : decode cX3_join 143 = .ok (.goto 4, 3) := by decide +kernel
theorem dX3_join_146 : decode cX3_join 146 = .ok (.iconst 0, 1) := by decide +kernel
theorem dX3_join_147 : decode cX3_join 147 = .ok (.bastore, 1) := by decide +kernel
theorem dX3_join_148 : decode cX3_join 148 = .ok (.iinc 4 1, 3) := by decide +kernel
theorem dX3_join_151 : decode cX3_join 151 = .ok (.goto (-122), 3) := by decide +kernel
theorem dX3_join_154 : decode cX3_join 154 = .ok (.aload_n 0, 1) := by decide +kernel
theorem dX3_join_155 : decode cX3_join 155 = .ok (.iload_n 1, 1) := by decide +kernel
theorem dX3_join_156 : decode cX3_join 156 = .ok (.invokevirtual 37, 3) := by decide +kernel
theorem dX3_join_159 : decode cX3_join 159 = .ok (.ireturn, 1) := by decide +kernel
theorem dX3_cut_0 : decode cX3_cut 0 = .ok (.iload_n 1, 1) := by decide +kernel
theorem dX3_cut_1 : decode cX3_cut 1 = .ok (.invokestatic 22, 3) := by decide +kernel
theorem dX3_cut_4 : decode cX3_cut 4 = .ok (.ifCond .eq 19, 3) := by decide +kernel
theorem dX3_cut_7 : decode cX3_cut 7 = .ok (.iload_n 2, 1) := by decide +kernel
theorem dX3_cut_8 : decode cX3_cut 8 = .ok (.invokestatic 22, 3) := by decide +kernel
theorem dX3_cut_11 : decode cX3_cut 11 = .ok (.ifCond .eq 12, 3) := by decide +kernel
theorem dX3_cut_14 : decode cX3_cut 14 = .ok (.iload_n 3, 1) := by decide +kernel
theorem dX3_cut_15 : decode cX3_cut 15 = .ok (.iload 4, 2) := by decide +kernel
theorem dX3_cut_17 : decode cX3_cut 17 = .ok (.invokestatic 33, 3) := by decide +kernel
theorem dX3_cut_20 : decode cX3_cut 20 = .ok (.ifCond .ne 6, 3) := by decide +kernel
theorem dX3_cut_23 : decode cX3_cut 23 = .ok (.bipush (-2), 2) := by decide +kernel
theorem dX3_cut_25 : decode cX3_cut 25 = .ok (.ireturn, 1) := by decide +kernel
theorem dX3_cut_26 : decode cX3_cut 26 = .ok (.iconst 0, 1) := by decide +kernel
theorem dX3_cut_27 : decode cX3_cut 27 = .ok (.istore 5, 2) := by decide +kernel
theorem dX3_cut_29 : decode cX3_cut 29 = .ok (.iload 5, 2) := by decide +kernel
theorem dX3_cut_31 : decode cX3_cut 31 = .ok (.sipush 4032, 3) := by decide +kernel
theorem dX3_cut_34 : decode cX3_cut 34 = .ok (.if_icmp .ge 44, 3) := by decide +kernel
theorem dX3_cut_37 : decode cX3_cut 37 = .ok (.aload_n 0, 1) := by decide +kernel
theorem dX3_cut_38 : decode cX3_cut 38 = .ok (.getfield 14, 3) := by decide +kernel
theorem dX3_cut_41 : decode cX3_cut 41 = .ok (.iload 5, 2) := by decide +kernel
theorem dX3_cut_43 : decode cX3_cut 43 = .ok (.iload 5, 2) := by decide +kernel
theorem dX3_cut_45 : decode cX3_cut 45 = .ok (.iload 4, 2) := by decide +kernel
theorem dX3_cut_47 : decode cX3_cut 47 = .ok (.iload_n 3, 1) := by decide +kernel
theorem dX3_cut_48 : decode cX3_cut 48 = .ok (.isub, 1) := by decide +kernel
theorem dX3_cut_49 : decode cX3_cut 49 = .ok (.if_icmp .ge 21, 3) := by decide +kernel
theorem dX3_cut_52 : decode cX3_cut 52 = .ok (.aload_n 0, 1) := by decide +kernel
theorem dX3_cut_53 : decode cX3_cut 53 = .ok (.getfield 11, 3) := by decide +kernel
theorem dX3_cut_56 : decode cX3_cut 56 = .ok (.iload_n 2, 1) := by decide +kernel
theorem dX3_cut_57 : decode cX3_cut 57 = .ok (.aaload, 1) := by decide +kernel
theorem dX3_cut_58 : decode cX3_cut 58 = .ok (.iload_n 3, 1) := by decide +kernel
theorem dX3_cut_59 : decode cX3_cut 59 = .ok (.iload 5, 2) := by decide +kernel
theorem dX3_cut_61 : decode cX3_cut 61 = .ok (.iadd, 1) := by decide +kernel
theorem dX3_cut_62 : decode cX3_cut 62 = .ok (.baload, 1) := by decide +kernel
theorem dX3_cut_63 : decode cX3_cut 63 = .ok (.ifCond .eq 7, 3) := by decide +kernel
theorem dX3_cut_66 : decode cX3_cut 66 = .ok (.iconst 1, 1) := by decide +kernel
theorem dX3_cut_67 : decode cX3_cut 67 = .ok (.goto 4, 3) := by decide +kernel
theorem dX3_cut_70 : decode cX3_cut 70 = .ok (.iconst 0, 1) := by decide +kernel
theorem dX3_cut_71 : decode cX3_cut 71 = .ok (.bastore, 1) := by decide +kernel
theorem dX3_cut_72 : decode cX3_cut 72 = .ok (.iinc 5 1, 3) := by decide +kernel
theorem dX3_cut_75 : decode cX3_cut 75 = .ok (.goto (-46), 3) := by decide +kernel
theorem dX3_cut_78 : decode cX3_cut 78 = .ok (.iconst 0, 1) := by decide +kernel
theorem dX3_cut_79 : decode cX3_cut 79 = .ok (.istore 5, 2) := by decide +kernel
theorem dX3_cut_81 : decode cX3_cut 81 = .ok (.iload 5, 2) := by decide +kernel
theorem dX3_cut_83 : decode cX3_cut 83 = .ok (.sipush 4032, 3) := by decide +kernel
theorem dX3_cut_86 : decode cX3_cut 86 = .ok (.if_icmp .ge 25, 3) := by decide +kernel
theorem dX3_cut_89 : decode cX3_cut 89 = .ok (.aload_n 0, 1) := by decide +kernel
theorem dX3_cut_90 : decode cX3_cut 90 = .ok (.getfield 11, 3) := by decide +kernel
theorem dX3_cut_93 : decode cX3_cut 93 = .ok (.iload_n 1, 1) := by decide +kernel
theorem dX3_cut_94 : decode cX3_cut 94 = .ok (.aaload, 1) := by decide +kernel
theorem dX3_cut_95 : decode cX3_cut 95 = .ok (.iload 5, 2) := by decide +kernel
theorem dX3_cut_97 : decode cX3_cut 97 = .ok (.aload_n 0, 1) := by decide +kernel
theorem dX3_cut_98 : decode cX3_cut 98 = .ok (.getfield 14, 3) := by decide +kernel
theorem dX3_cut_101 : decode cX3_cut 101 = .ok (.iload 5, 2) := by decide +kernel
theorem dX3_cut_103 : decode cX3_cut 103 = .ok (.baload, 1) := by decide +kernel
theorem dX3_cut_104 : decode cX3_cut 104 = .ok (.bastore, 1) := by decide +kernel
theorem dX3_cut_105 : decode cX3_cut 105 = .ok (.iinc 5 1, 3) := by decide +kernel
theorem dX3_cut_108 : decode cX3_cut 108 = .ok (.goto (-27), 3) := by decide +kernel
theorem dX3_cut_111 : decode cX3_cut 111 = .ok (.aload_n 0, 1) := by decide +kernel
theorem dX3_cut_112 : decode cX3_cut 112 = .ok (.iload_n 1, 1) := by decide +kernel
theorem dX3_cut_113 : decode cX3_cut 113 = .ok (.invokevirtual 37, 3) := by decide +kernel
theorem dX3_cut_116 : decode cX3_cut 116 = .ok (.ireturn, 1) := by decide +kernel
theorem dX3_copy_0 : decode cX3_copy 0 = .ok (.iload_n 1, 1) := by decide +kernel
theorem dX3_copy_1 : decode cX3_copy 1 = .ok (.invokestatic 22, 3) := by decide +kernel
theorem dX3_copy_4 : decode cX3_copy 4 = .ok (.ifCond .eq 10, 3) := by decide +kernel
theorem dX3_copy_7 : decode cX3_copy 7 = .ok (.iload_n 2, 1) := by decide +kernel
theorem dX3_copy_8 : decode cX3_copy 8 = .ok (.invokestatic 22, 3) := by decide +kernel
theorem dX3_copy_11 : decode cX3_copy 11 = .ok (.ifCond .ne 6, 3) := by decide +kernel
theorem dX3_copy_14 : decode cX3_copy 14 = .ok (.bipush (-2), 2) := by decide +kernel
theorem dX3_copy_16 : decode cX3_copy 16 = .ok (.ireturn, 1) := by decide +kernel
theorem dX3_copy_17 : decode cX3_copy 17 = .ok (.iconst 0, 1) := by decide +kernel
theorem dX3_copy_18 : decode cX3_copy 18 = .ok (.istore_n 3, 1) := by decide +kernel
theorem dX3_copy_19 : decode cX3_copy 19 = .ok (.iload_n 3, 1) := by decide +kernel
theorem dX3_copy_20 : decode cX3_copy 20 = .ok (.sipush 4032, 3) := by decide +kernel
theorem dX3_copy_23 : decode cX3_copy 23 = .ok (.if_icmp .ge 25, 3) := by decide +kernel
theorem dX3_copy_26 : decode cX3_copy 26 = .ok (.aload_n 0, 1) := by decide +kernel
theorem dX3_copy_27 : decode cX3_copy 27 = .ok (.getfield 11, 3) := by decide +kernel
theorem dX3_copy_30 : decode cX3_copy 30 = .ok (.iload_n 1, 1) := by decide +kernel
theorem dX3_copy_31 : decode cX3_copy 31 = .ok (.aaload, 1) := by decide +kernel
theorem dX3_copy_32 : decode cX3_copy 32 = .ok (.iload_n 3, 1) := by decide +kernel
theorem dX3_copy_33 : decode cX3_copy 33 = .ok (.aload_n 0, 1) := by decide +kernel
theorem dX3_copy_34 : decode cX3_copy 34 = .ok (.getfield 11, 3) := by decide +kernel
theorem dX3_copy_37 : decode cX3_copy 37 = .ok (.iload_n 2, 1) := by decide +kernel
theorem dX3_copy_38 : decode cX3_copy 38 = .ok (.aaload, 1) := by decide +kernel
theorem dX3_copy_39 : decode cX3_copy 39 = .ok (.iload_n 3, 1) := by decide +kernel
theorem dX3_copy_40 : decode cX3_copy 40 = .ok (.baload, 1) := by decide +kernel
theorem dX3_copy_41 : decode cX3_copy 41 = .ok (.bastore, 1) := by decide +kernel
theorem dX3_copy_42 : decode cX3_copy 42 = .ok (.iinc 3 1, 3) := by decide +kernel
theorem dX3_copy_45 : decode cX3_copy 45 = .ok (.goto (-26), 3) := by decide +kernel
theorem dX3_copy_48 : decode cX3_copy 48 = .ok (.aload_n 0, 1) := by decide +kernel
theorem dX3_copy_49 : decode cX3_copy 49 = .ok (.iload_n 1, 1) := by decide +kernel
theorem dX3_copy_50 : decode cX3_copy 50 = .ok (.invokevirtual 37, 3) := by decide +kernel
theorem dX3_copy_53 : decode cX3_copy 53 = .ok (.ireturn, 1) := by decide +kernel
theorem dX3_look_0 : decode cX3_look 0 = .ok (.iload_n 1, 1) := by decide +kernel
theorem dX3_look_1 : decode cX3_look 1 = .ok (.invokestatic 22, 3) := by decide +kernel
theorem dX3_look_4 : decode cX3_look 4 = .ok (.ifCond .eq 12, 3) := by decide +kernel
theorem dX3_look_7 : decode cX3_look 7 = .ok (.iload_n 2, 1) := by decide +kernel
theorem dX3_look_8 : decode cX3_look 8 = .ok (.ifCond .lt 8, 3) := by decide +kernel
theorem dX3_look_11 : decode cX3_look 11 = .ok (.iload_n 2, 1) := by decide +kernel
theorem dX3_look_12 : decode cX3_look 12 = .ok (.iconst 2, 1) := by decide +kernel
theorem dX3_look_13 : decode cX3_look 13 = .ok (.if_icmp .le 6, 3) := by decide +kernel
theorem dX3_look_16 : decode cX3_look 16 = .ok (.bipush (-2), 2) := by decide +kernel
theorem dX3_look_18 : decode cX3_look 18 = .ok (.ireturn, 1) := by decide +kernel
theorem dX3_look_19 : decode cX3_look 19 = .ok (.iload_n 2, 1) := by decide +kernel
theorem dX3_look_20 : decode cX3_look 20 = .ok (.ifCond .ne 11, 3) := by decide +kernel
theorem dX3_look_23 : decode cX3_look 23 = .ok (.aload_n 0, 1) := by decide +kernel
theorem dX3_look_24 : decode cX3_look 24 = .ok (.iload_n 1, 1) := by decide +kernel
theorem dX3_look_25 : decode cX3_look 25 = .ok (.invokevirtual 37, 3) := by decide +kernel
theorem dX3_look_28 : decode cX3_look 28 = .ok (.goto 29, 3) := by decide +kernel
theorem dX3_look_31 : decode cX3_look 31 = .ok (.iload_n 2, 1) := by decide +kernel
theorem dX3_look_32 : decode cX3_look 32 = .ok (.iconst 1, 1) := by decide +kernel
theorem dX3_look_33 : decode cX3_look 33 = .ok (.if_icmp .ne 11, 3) := by decide +kernel
theorem dX3_look_36 : decode cX3_look 36 = .ok (.aload_n 0, 1) := by decide +kernel
theorem dX3_look_37 : decode cX3_look 37 = .ok (.iload_n 1, 1) := by decide +kernel
theorem dX3_look_38 : decode cX3_look 38 = .ok (.invokevirtual 41, 3) := by decide +kernel
theorem dX3_look_41 : decode cX3_look 41 = .ok (.goto 16, 3) := by decide +kernel
theorem dX3_look_44 : decode cX3_look 44 = .ok (.aload_n 0, 1) := by decide +kernel
theorem dX3_look_45 : decode cX3_look 45 = .ok (.iload_n 1, 1) := by decide +kernel
theorem dX3_look_46 : decode cX3_look 46 = .ok (.invokevirtual 41, 3) := by decide +kernel
theorem dX3_look_49 : decode cX3_look 49 = .ok (.ifCond .ne 7, 3) := by decide +kernel
theorem dX3_look_52 : decode cX3_look 52 = .ok (.iconst 1, 1) := by decide +kernel
theorem dX3_look_53 : decode cX3_look 53 = .ok (.goto 4, 3) := by decide +kernel
theorem dX3_look_56 : decode cX3_look 56 = .ok (.iconst 0, 1) := by decide +kernel
theorem dX3_look_57 : decode cX3_look 57 = .ok (.ireturn, 1) := by decide +kernel
theorem dX3_end_0 : decode cX3_end 0 = .ok (.sipush 4032, 3) := by decide +kernel
theorem dX3_end_3 : decode cX3_end 3 = .ok (.istore_n 2, 1) := by decide +kernel
theorem dX3_end_4 : decode cX3_end 4 = .ok (.iload_n 2, 1) := by decide +kernel
theorem dX3_end_5 : decode cX3_end 5 = .ok (.ifCond .le 22, 3) := by decide +kernel
theorem dX3_end_8 : decode cX3_end 8 = .ok (.aload_n 0, 1) := by decide +kernel
theorem dX3_end_9 : decode cX3_end 9 = .ok (.getfield 11, 3) := by decide +kernel
theorem dX3_end_12 : decode cX3_end 12 = .ok (.iload_n 1, 1) := by decide +kernel
theorem dX3_end_13 : decode cX3_end 13 = .ok (.aaload, 1) := by decide +kernel
theorem dX3_end_14 : decode cX3_end 14 = .ok (.iload_n 2, 1) := by decide +kernel
theorem dX3_end_15 : decode cX3_end 15 = .ok (.iconst 1, 1) := by decide +kernel
theorem dX3_end_16 : decode cX3_end 16 = .ok (.isub, 1) := by decide +kernel
theorem dX3_end_17 : decode cX3_end 17 = .ok (.baload, 1) := by decide +kernel
theorem dX3_end_18 : decode cX3_end 18 = .ok (.ifCond .ne 9, 3) := by decide +kernel
theorem dX3_end_21 : decode cX3_end 21 = .ok (.iinc 2 (-1), 3) := by decide +kernel
theorem dX3_end_24 : decode cX3_end 24 = .ok (.goto (-20), 3) := by decide +kernel
theorem dX3_end_27 : decode cX3_end 27 = .ok (.iload_n 2, 1) := by decide +kernel
theorem dX3_end_28 : decode cX3_end 28 = .ok (.ireturn, 1) := by decide +kernel
theorem dX3_meet_0 : decode cX3_meet 0 = .ok (.iload_n 1, 1) := by decide +kernel
theorem dX3_meet_1 : decode cX3_meet 1 = .ok (.invokestatic 22, 3) := by decide +kernel
theorem dX3_meet_4 : decode cX3_meet 4 = .ok (.ifCond .eq 19, 3) := by decide +kernel
theorem dX3_meet_7 : decode cX3_meet 7 = .ok (.iload_n 2, 1) := by decide +kernel
theorem dX3_meet_8 : decode cX3_meet 8 = .ok (.ifCond .lt 15, 3) := by decide +kernel
theorem dX3_meet_11 : decode cX3_meet 11 = .ok (.iload_n 2, 1) := by decide +kernel
theorem dX3_meet_12 : decode cX3_meet 12 = .ok (.iconst 1, 1) := by decide +kernel
theorem dX3_meet_13 : decode cX3_meet 13 = .ok (.if_icmp .gt 10, 3) := by decide +kernel
theorem dX3_meet_16 : decode cX3_meet 16 = .ok (.iload_n 3, 1) := by decide +kernel
theorem dX3_meet_17 : decode cX3_meet 17 = .ok (.invokestatic 22, 3) := by decide +kernel
theorem dX3_meet_20 : decode cX3_meet 20 = .ok (.ifCond .ne 6, 3) := by decide +kernel
theorem dX3_meet_23 : decode cX3_meet 23 = .ok (.bipush (-2), 2) := by decide +kernel
theorem dX3_meet_25 : decode cX3_meet 25 = .ok (.ireturn, 1) := by decide +kernel
theorem dX3_meet_26 : decode cX3_meet 26 = .ok (.iconst 0, 1) := by decide +kernel
theorem dX3_meet_27 : decode cX3_meet 27 = .ok (.istore 4, 2) := by decide +kernel
theorem dX3_meet_29 : decode cX3_meet 29 = .ok (.iconst 1, 1) := by decide +kernel
theorem dX3_meet_30 : decode cX3_meet 30 = .ok (.istore 5, 2) := by decide +kernel
theorem dX3_meet_32 : decode cX3_meet 32 = .ok (.iconst 0, 1) := by decide +kernel
theorem dX3_meet_33 : decode cX3_meet 33 = .ok (.istore 6, 2) := by decide +kernel
theorem dX3_meet_35 : decode cX3_meet 35 = .ok (.iload 6, 2) := by decide +kernel
theorem dX3_meet_37 : decode cX3_meet 37 = .ok (.sipush 4032, 3) := by decide +kernel
theorem dX3_meet_40 : decode cX3_meet 40 = .ok (.if_icmp .ge 78, 3) := by decide +kernel
theorem dX3_meet_43 : decode cX3_meet 43 = .ok (.iload 4, 2) := by decide +kernel
theorem dX3_meet_45 : decode cX3_meet 45 = .ok (.ifCond .ne 27, 3) := by decide +kernel
theorem dX3_meet_48 : decode cX3_meet 48 = .ok (.aload_n 0, 1) := by decide +kernel
theorem dX3_meet_49 : decode cX3_meet 49 = .ok (.getfield 11, 3) := by decide +kernel
theorem dX3_meet_52 : decode cX3_meet 52 = .ok (.iload_n 1, 1) := by decide +kernel
theorem dX3_meet_53 : decode cX3_meet 53 = .ok (.aaload, 1) := by decide +kernel
theorem dX3_meet_54 : decode cX3_meet 54 = .ok (.iload 6, 2) := by decide +kernel
theorem dX3_meet_56 : decode cX3_meet 56 = .ok (.baload, 1) := by decide +kernel
theorem dX3_meet_57 : decode cX3_meet 57 = .ok (.ifCond .eq 19, 3) := by decide +kernel
theorem dX3_meet_60 : decode cX3_meet 60 = .ok (.aload_n 0, 1) := by decide +kernel
theorem dX3_meet_61 : decode cX3_meet 61 = .ok (.getfield 11, 3) := by decide +kernel
theorem dX3_meet_64 : decode cX3_meet 64 = .ok (.iload_n 3, 1) := by decide +kernel
theorem dX3_meet_65 : decode cX3_meet 65 = .ok (.aaload, 1) := by decide +kernel
theorem dX3_meet_66 : decode cX3_meet 66 = .ok (.iload 6, 2) := by decide +kernel
theorem dX3_meet_68 : decode cX3_meet 68 = .ok (.baload, 1) := by decide +kernel
theorem dX3_meet_69 : decode cX3_meet 69 = .ok (.ifCond .eq 7, 3) := by decide +kernel
theorem dX3_meet_72 : decode cX3_meet 72 = .ok (.iconst 1, 1) := by decide +kernel
theorem dX3_meet_73 : decode cX3_meet 73 = .ok (.goto 4, 3) := by decide +kernel
theorem dX3_meet_76 : decode cX3_meet 76 = .ok (.iconst 0, 1) := by decide +kernel
theorem dX3_meet_77 : decode cX3_meet 77 = .ok (.istore 4, 2) := by decide +kernel
theorem dX3_meet_79 : decode cX3_meet 79 = .ok (.iload 5, 2) := by decide +kernel
theorem dX3_meet_81 : decode cX3_meet 81 = .ok (.ifCond .eq 28, 3) := by decide +kernel
theorem dX3_meet_84 : decode cX3_meet 84 = .ok (.aload_n 0, 1) := by decide +kernel
theorem dX3_meet_85 : decode cX3_meet 85 = .ok (.getfield 11, 3) := by decide +kernel
theorem dX3_meet_88 : decode cX3_meet 88 = .ok (.iload_n 1, 1) := by decide +kernel
theorem dX3_meet_89 : decode cX3_meet 89 = .ok (.aaload, 1) := by decide +kernel
theorem dX3_meet_90 : decode cX3_meet 90 = .ok (.iload 6, 2) := by decide +kernel
theorem dX3_meet_92 : decode cX3_meet 92 = .ok (.baload, 1) := by decide +kernel
theorem dX3_meet_93 : decode cX3_meet 93 = .ok (.aload_n 0, 1) := by decide +kernel
theorem dX3_meet_94 : decode cX3_meet 94 = .ok (.getfield 11, 3) := by decide +kernel
theorem dX3_meet_97 : decode cX3_meet 97 = .ok (.iload_n 3, 1) := by decide +kernel
theorem dX3_meet_98 : decode cX3_meet 98 = .ok (.aaload, 1) := by decide +kernel
theorem dX3_meet_99 : decode cX3_meet 99 = .ok (.iload 6, 2) := by decide +kernel
theorem dX3_meet_101 : decode cX3_meet 101 = .ok (.baload, 1) := by decide +kernel
theorem dX3_meet_102 : decode cX3_meet 102 = .ok (.if_icmp .ne 7, 3) := by decide +kernel
theorem dX3_meet_105 : decode cX3_meet 105 = .ok (.iconst 1, 1) := by decide +kernel
theorem dX3_meet_106 : decode cX3_meet 106 = .ok (.goto 4, 3) := by decide +kernel
theorem dX3_meet_109 : decode cX3_meet 109 = .ok (.iconst 0, 1) := by decide +kernel
theorem dX3_meet_110 : decode cX3_meet 110 = .ok (.istore 5, 2) := by decide +kernel
theorem dX3_meet_112 : decode cX3_meet 112 = .ok (.iinc 6 1, 3) := by decide +kernel
theorem dX3_meet_115 : decode cX3_meet 115 = .ok (.goto (-80), 3) := by decide +kernel
theorem dX3_meet_118 : decode cX3_meet 118 = .ok (.iload_n 2, 1) := by decide +kernel
theorem dX3_meet_119 : decode cX3_meet 119 = .ok (.ifCond .ne 11, 3) := by decide +kernel
theorem dX3_meet_122 : decode cX3_meet 122 = .ok (.iload 4, 2) := by decide +kernel
theorem dX3_meet_124 : decode cX3_meet 124 = .ok (.ifCond .eq 15, 3) := by decide +kernel
theorem dX3_meet_127 : decode cX3_meet 127 = .ok (.goto 8, 3) := by decide +kernel
theorem dX3_meet_130 : decode cX3_meet 130 = .ok (.iload 5, 2) := by decide +kernel
theorem dX3_meet_132 : decode cX3_meet 132 = .ok (.ifCond .eq 7, 3) := by decide +kernel
theorem dX3_meet_135 : decode cX3_meet 135 = .ok (.iconst 1, 1) := by decide +kernel
theorem dX3_meet_136 : decode cX3_meet 136 = .ok (.goto 4, 3) := by decide +kernel
theorem dX3_meet_139 : decode cX3_meet 139 = .ok (.iconst 0, 1) := by decide +kernel
theorem dX3_meet_140 : decode cX3_meet 140 = .ok (.ireturn, 1) := by decide +kernel
theorem dX3_word_0 : decode cX3_word 0 = .ok (.iload_n 1, 1) := by decide +kernel
theorem dX3_word_1 : decode cX3_word 1 = .ok (.invokestatic 22, 3) := by decide +kernel
theorem dX3_word_4 : decode cX3_word 4 = .ok (.ifCond .eq 13, 3) := by decide +kernel
theorem dX3_word_7 : decode cX3_word 7 = .ok (.iload_n 2, 1) := by decide +kernel
theorem dX3_word_8 : decode cX3_word 8 = .ok (.ifCond .lt 9, 3) := by decide +kernel
theorem dX3_word_11 : decode cX3_word 11 = .ok (.iload_n 2, 1) := by decide +kernel
theorem dX3_word_12 : decode cX3_word 12 = .ok (.bipush 62, 2) := by decide +kernel
theorem dX3_word_14 : decode cX3_word 14 = .ok (.if_icmp .le 7, 3) := by decide +kernel
theorem dX3_word_17 : decode cX3_word 17 = .ok (.ldc2_w 44, 3) := by decide +kernel
theorem dX3_word_20 : decode cX3_word 20 = .ok (.lreturn, 1) := by decide +kernel
theorem dX3_word_21 : decode cX3_word 21 = .ok (.lconst 0, 1) := by decide +kernel
theorem dX3_word_22 : decode cX3_word 22 = .ok (.lstore_n 3, 1) := by decide +kernel
theorem dX3_word_23 : decode cX3_word 23 = .ok (.bipush 63, 2) := by decide +kernel
theorem dX3_word_25 : decode cX3_word 25 = .ok (.istore 5, 2) := by decide +kernel
theorem dX3_word_27 : decode cX3_word 27 = .ok (.iload 5, 2) := by decide +kernel
theorem dX3_word_29 : decode cX3_word 29 = .ok (.ifCond .lt 38, 3) := by decide +kernel
theorem dX3_word_32 : decode cX3_word 32 = .ok (.ldc2_w 46, 3) := by decide +kernel
theorem dX3_word_35 : decode cX3_word 35 = .ok (.lload_n 3, 1) := by decide +kernel
theorem dX3_word_36 : decode cX3_word 36 = .ok (.lmul, 1) := by decide +kernel
theorem dX3_word_37 : decode cX3_word 37 = .ok (.aload_n 0, 1) := by decide +kernel
theorem dX3_word_38 : decode cX3_word 38 = .ok (.getfield 11, 3) := by decide +kernel
theorem dX3_word_41 : decode cX3_word 41 = .ok (.iload_n 1, 1) := by decide +kernel
theorem dX3_word_42 : decode cX3_word 42 = .ok (.aaload, 1) := by decide +kernel
theorem dX3_word_43 : decode cX3_word 43 = .ok (.bipush 64, 2) := by decide +kernel
theorem dX3_word_45 : decode cX3_word 45 = .ok (.iload_n 2, 1) := by decide +kernel
theorem dX3_word_46 : decode cX3_word 46 = .ok (.imul, 1) := by decide +kernel
theorem dX3_word_47 : decode cX3_word 47 = .ok (.iload 5, 2) := by decide +kernel
theorem dX3_word_49 : decode cX3_word 49 = .ok (.iadd, 1) := by decide +kernel
theorem dX3_word_50 : decode cX3_word 50 = .ok (.baload, 1) := by decide +kernel
theorem dX3_word_51 : decode cX3_word 51 = .ok (.ifCond .eq 7, 3) := by decide +kernel
theorem dX3_word_54 : decode cX3_word 54 = .ok (.lconst 1, 1) := by decide +kernel
theorem dX3_word_55 : decode cX3_word 55 = .ok (.goto 4, 3) := by decide +kernel
theorem dX3_word_58 : decode cX3_word 58 = .ok (.lconst 0, 1) := by decide +kernel
theorem dX3_word_59 : decode cX3_word 59 = .ok (.ladd, 1) := by decide +kernel
theorem dX3_word_60 : decode cX3_word 60 = .ok (.lstore_n 3, 1) := by decide +kernel
theorem dX3_word_61 : decode cX3_word 61 = .ok (.iinc 5 (-1), 3) := by decide +kernel
theorem dX3_word_64 : decode cX3_word 64 = .ok (.goto (-37), 3) := by decide +kernel
theorem dX3_word_67 : decode cX3_word 67 = .ok (.lload_n 3, 1) := by decide +kernel
theorem dX3_word_68 : decode cX3_word 68 = .ok (.lreturn, 1) := by decide +kernel
theorem dX3_load_0 : decode cX3_load 0 = .ok (.iload_n 1, 1) := by decide +kernel
theorem dX3_load_1 : decode cX3_load 1 = .ok (.invokestatic 22, 3) := by decide +kernel
theorem dX3_load_4 : decode cX3_load 4 = .ok (.ifCond .ne 6, 3) := by decide +kernel
theorem dX3_load_7 : decode cX3_load 7 = .ok (.bipush (-2), 2) := by decide +kernel
theorem dX3_load_9 : decode cX3_load 9 = .ok (.ireturn, 1) := by decide +kernel
theorem dX3_load_10 : decode cX3_load 10 = .ok (.iconst 0, 1) := by decide +kernel
theorem dX3_load_11 : decode cX3_load 11 = .ok (.istore 8, 2) := by decide +kernel
theorem dX3_load_13 : decode cX3_load 13 = .ok (.iload 8, 2) := by decide +kernel
theorem dX3_load_15 : decode cX3_load 15 = .ok (.sipush 4032, 3) := by decide +kernel
theorem dX3_load_18 : decode cX3_load 18 = .ok (.if_icmp .ge 70, 3) := by decide +kernel
theorem dX3_load_21 : decode cX3_load 21 = .ok (.aload_n 0, 1) := by decide +kernel
theorem dX3_load_22 : decode cX3_load 22 = .ok (.getfield 11, 3) := by decide +kernel
theorem dX3_load_25 : decode cX3_load 25 = .ok (.iload_n 1, 1) := by decide +kernel
theorem dX3_load_26 : decode cX3_load 26 = .ok (.aaload, 1) := by decide +kernel
theorem dX3_load_27 : decode cX3_load 27 = .ok (.iload 8, 2) := by decide +kernel
theorem dX3_load_29 : decode cX3_load 29 = .ok (.iload 8, 2) := by decide +kernel
theorem dX3_load_31 : decode cX3_load 31 = .ok (.sipush 192, 3) := by decide +kernel
theorem dX3_load_34 : decode cX3_load 34 = .ok (.if_icmp .ge 46, 3) := by decide +kernel
theorem dX3_load_37 : decode cX3_load 37 = .ok (.iload 8, 2) := by decide +kernel
theorem dX3_load_39 : decode cX3_load 39 = .ok (.bipush 64, 2) := by decide +kernel
theorem dX3_load_41 : decode cX3_load 41 = .ok (.if_icmp .ge 7, 3) := by decide +kernel
theorem dX3_load_44 : decode cX3_load 44 = .ok (.lload_n 2, 1) := by decide +kernel
theorem dX3_load_45 : decode cX3_load 45 = .ok (.goto 18, 3) := by decide +kernel
theorem dX3_load_48 : decode cX3_load 48 = .ok (.iload 8, 2) := by decide +kernel
theorem dX3_load_50 : decode cX3_load 50 = .ok (.sipush 128, 3) := by decide +kernel
theorem dX3_load_53 : decode cX3_load 53 = .ok (.if_icmp .ge 8, 3) := by decide +kernel
theorem dX3_load_56 : decode cX3_load 56 = .ok (.lload 4, 2) := by decide +kernel
theorem dX3_load_58 : decode cX3_load 58 = .ok (.goto 5, 3) := by decide +kernel
theorem dX3_load_61 : decode cX3_load 61 = .ok (.lload 6, 2) := by decide +kernel
theorem dX3_load_63 : decode cX3_load 63 = .ok (.iload 8, 2) := by decide +kernel
theorem dX3_load_65 : decode cX3_load 65 = .ok (.bipush 64, 2) := by decide +kernel
theorem dX3_load_67 : decode cX3_load 67 = .ok (.irem, 1) := by decide +kernel
theorem dX3_load_68 : decode cX3_load 68 = .ok (.lshr, 1) := by decide +kernel
theorem dX3_load_69 : decode cX3_load 69 = .ok (.lconst 1, 1) := by decide +kernel
theorem dX3_load_70 : decode cX3_load 70 = .ok (.land, 1) := by decide +kernel
theorem dX3_load_71 : decode cX3_load 71 = .ok (.lconst 1, 1) := by decide +kernel
theorem dX3_load_72 : decode cX3_load 72 = .ok (.lcmp, 1) := by decide +kernel
theorem dX3_load_73 : decode cX3_load 73 = .ok (.ifCond .ne 7, 3) := by decide +kernel
theorem dX3_load_76 : decode cX3_load 76 = .ok (.iconst 1, 1) := by decide +kernel
theorem dX3_load_77 : decode cX3_load 77 = .ok (.goto 4, 3) := by decide +kernel
theorem dX3_load_80 : decode cX3_load 80 = .ok (.iconst 0, 1) := by decide +kernel
theorem dX3_load_81 : decode cX3_load 81 = .ok (.bastore, 1) := by decide +kernel
theorem dX3_load_82 : decode cX3_load 82 = .ok (.iinc 8 1, 3) := by decide +kernel
theorem dX3_load_85 : decode cX3_load 85 = .ok (.goto (-72), 3) := by decide +kernel
theorem dX3_load_88 : decode cX3_load 88 = .ok (.aload_n 0, 1) := by decide +kernel
theorem dX3_load_89 : decode cX3_load 89 = .ok (.iload_n 1, 1) := by decide +kernel
theorem dX3_load_90 : decode cX3_load 90 = .ok (.invokevirtual 37, 3) := by decide +kernel
theorem dX3_load_93 : decode cX3_load 93 = .ok (.ireturn, 1) := by decide +kernel
theorem dX3_walk_0 : decode cX3_walk 0 = .ok (.iload_n 1, 1) := by decide +kernel
theorem dX3_walk_1 : decode cX3_walk 1 = .ok (.invokestatic 22, 3) := by decide +kernel
theorem dX3_walk_4 : decode cX3_walk 4 = .ok (.ifCond .ne 7, 3) := by decide +kernel
theorem dX3_walk_7 : decode cX3_walk 7 = .ok (.ldc2_w 44, 3) := by decide +kernel
theorem dX3_walk_10 : decode cX3_walk 10 = .ok (.lreturn, 1) := by decide +kernel
theorem dX3_walk_11 : decode cX3_walk 11 = .ok (.lconst 0, 1) := by decide +kernel
theorem dX3_walk_12 : decode cX3_walk 12 = .ok (.lstore_n 2, 1) := by decide +kernel
theorem dX3_walk_13 : decode cX3_walk 13 = .ok (.iconst 0, 1) := by decide +kernel
theorem dX3_walk_14 : decode cX3_walk 14 = .ok (.istore 4, 2) := by decide +kernel
theorem dX3_walk_16 : decode cX3_walk 16 = .ok (.iconst 0, 1) := by decide +kernel
theorem dX3_walk_17 : decode cX3_walk 17 = .ok (.istore 5, 2) := by decide +kernel
theorem dX3_walk_19 : decode cX3_walk 19 = .ok (.iload 5, 2) := by decide +kernel
theorem dX3_walk_21 : decode cX3_walk 21 = .ok (.sipush 4032, 3) := by decide +kernel
theorem dX3_walk_24 : decode cX3_walk 24 = .ok (.if_icmp .ge 37, 3) := by decide +kernel
theorem dX3_walk_27 : decode cX3_walk 27 = .ok (.aload_n 0, 1) := by decide +kernel
theorem dX3_walk_28 : decode cX3_walk 28 = .ok (.getfield 11, 3) := by decide +kernel
theorem dX3_walk_31 : decode cX3_walk 31 = .ok (.iload_n 1, 1) := by decide +kernel
theorem dX3_walk_32 : decode cX3_walk 32 = .ok (.aaload, 1) := by decide +kernel
theorem dX3_walk_33 : decode cX3_walk 33 = .ok (.iload 5, 2) := by decide +kernel
theorem dX3_walk_35 : decode cX3_walk 35 = .ok (.baload, 1) := by decide +kernel
theorem dX3_walk_36 : decode cX3_walk 36 = .ok (.ifCond .ne 6, 3) := by decide +kernel
theorem dX3_walk_39 : decode cX3_walk 39 = .ok (.goto 16, 3) := by decide +kernel
theorem dX3_walk_42 : decode cX3_walk 42 = .ok (.iinc 4 1, 3) := by decide +kernel
theorem dX3_walk_45 : decode cX3_walk 45 = .ok (.lload_n 2, 1) := by decide +kernel
theorem dX3_walk_46 : decode cX3_walk 46 = .ok (.iload 5, 2) := by decide +kernel
theorem dX3_walk_48 : decode cX3_walk 48 = .ok (.i2l, 1) := by decide +kernel
theorem dX3_walk_49 : decode cX3_walk 49 = .ok (.iload 4, 2) := by decide +kernel
theorem dX3_walk_51 : decode cX3_walk 51 = .ok (.i2l, 1) := by decide +kernel
theorem dX3_walk_52 : decode cX3_walk 52 = .ok (.lmul, 1) := by decide +kernel
theorem dX3_walk_53 : decode cX3_walk 53 = .ok (.ladd, 1) := by decide +kernel
theorem dX3_walk_54 : decode cX3_walk 54 = .ok (.lstore_n 2, 1) := by decide +kernel
theorem dX3_walk_55 : decode cX3_walk 55 = .ok (.iinc 5 1, 3) := by decide +kernel
theorem dX3_walk_58 : decode cX3_walk 58 = .ok (.goto (-39), 3) := by decide +kernel
theorem dX3_walk_61 : decode cX3_walk 61 = .ok (.lload_n 2, 1) := by decide +kernel
theorem dX3_walk_62 : decode cX3_walk 62 = .ok (.lreturn, 1) := by decide +kernel
theorem dX3_clear_0 : decode cX3_clear 0 = .ok (.iload_n 1, 1) := by decide +kernel
theorem dX3_clear_1 : decode cX3_clear 1 = .ok (.invokestatic 22, 3) := by decide +kernel
theorem dX3_clear_4 : decode cX3_clear 4 = .ok (.ifCond .ne 6, 3) := by decide +kernel
theorem dX3_clear_7 : decode cX3_clear 7 = .ok (.bipush (-2), 2) := by decide +kernel
theorem dX3_clear_9 : decode cX3_clear 9 = .ok (.ireturn, 1) := by decide +kernel
theorem dX3_clear_10 : decode cX3_clear 10 = .ok (.aload_n 0, 1) := by decide +kernel
theorem dX3_clear_11 : decode cX3_clear 11 = .ok (.iload_n 1, 1) := by decide +kernel
theorem dX3_clear_12 : decode cX3_clear 12 = .ok (.invokevirtual 37, 3) := by decide +kernel
theorem dX3_clear_15 : decode cX3_clear 15 = .ok (.istore_n 2, 1) := by decide +kernel
theorem dX3_clear_16 : decode cX3_clear 16 = .ok (.iconst 0, 1) := by decide +kernel
theorem dX3_clear_17 : decode cX3_clear 17 = .ok (.istore_n 3, 1) := by decide +kernel
theorem dX3_clear_18 : decode cX3_clear 18 = .ok (.iload_n 3, 1) := by decide +kernel
theorem dX3_clear_19 : decode cX3_clear 19 = .ok (.sipush 4032, 3) := by decide +kernel
theorem dX3_clear_22 : decode cX3_clear 22 = .ok (.if_icmp .ge 18, 3) := by decide +kernel
theorem dX3_clear_25 : decode cX3_clear 25 = .ok (.aload_n 0, 1) := by decide +kernel
theorem dX3_clear_26 : decode cX3_clear 26 = .ok (.getfield 11, 3) := by decide +kernel
theorem dX3_clear_29 : decode cX3_clear 29 = .ok (.iload_n 1, 1) := by decide +kernel
theorem dX3_clear_30 : decode cX3_clear 30 = .ok (.aaload, 1) := by decide +kernel
theorem dX3_clear_31 : decode cX3_clear 31 = .ok (.iload_n 3, 1) := by decide +kernel
theorem dX3_clear_32 : decode cX3_clear 32 = .ok (.iconst 0, 1) := by decide +kernel
theorem dX3_clear_33 : decode cX3_clear 33 = .ok (.bastore, 1) := by decide +kernel
theorem dX3_clear_34 : decode cX3_clear 34 = .ok (.iinc 3 1, 3) := by decide +kernel
theorem dX3_clear_37 : decode cX3_clear 37 = .ok (.goto (-19), 3) := by decide +kernel
theorem dX3_clear_40 : decode cX3_clear 40 = .ok (.iload_n 2, 1) := by decide +kernel
theorem dX3_clear_41 : decode cX3_clear 41 = .ok (.ireturn, 1) := by decide +kernel
theorem dX3_text_0 : decode cX3_text 0 = .ok (.iload_n 1, 1) := by decide +kernel
theorem dX3_text_1 : decode cX3_text 1 = .ok (.invokestatic 22, 3) := by decide +kernel
theorem dX3_text_4 : decode cX3_text 4 = .ok (.ifCond .eq 14, 3) := by decide +kernel
theorem dX3_text_7 : decode cX3_text 7 = .ok (.aload_n 0, 1) := by decide +kernel
theorem dX3_text_8 : decode cX3_text 8 = .ok (.iload_n 1, 1) := by decide +kernel
theorem dX3_text_9 : decode cX3_text 9 = .ok (.invokevirtual 41, 3) := by decide +kernel
theorem dX3_text_12 : decode cX3_text 12 = .ok (.sipush 128, 3) := by decide +kernel
theorem dX3_text_15 : decode cX3_text 15 = .ok (.if_icmp .le 6, 3) := by decide +kernel
theorem dX3_text_18 : decode cX3_text 18 = .ok (.bipush (-2), 2) := by decide +kernel
theorem dX3_text_20 : decode cX3_text 20 = .ok (.ireturn, 1) := by decide +kernel
theorem dX3_text_21 : decode cX3_text 21 = .ok (.aload_n 0, 1) := by decide +kernel
theorem dX3_text_22 : decode cX3_text 22 = .ok (.iconst 0, 1) := by decide +kernel
theorem dX3_text_23 : decode cX3_text 23 = .ok (.putfield 48, 3) := by decide +kernel
theorem dX3_text_26 : decode cX3_text 26 = .ok (.aload_n 0, 1) := by decide +kernel
theorem dX3_text_27 : decode cX3_text 27 = .ok (.bipush 123, 2) := by decide +kernel
theorem dX3_text_29 : decode cX3_text 29 = .ok (.invokevirtual 52, 3) := by decide +kernel
theorem dX3_text_32 : decode cX3_text 32 = .ok (.iconst 0, 1) := by decide +kernel
theorem dX3_text_33 : decode cX3_text 33 = .ok (.istore_n 2, 1) := by decide +kernel
theorem dX3_text_34 : decode cX3_text 34 = .ok (.iload_n 2, 1) := by decide +kernel
theorem dX3_text_35 : decode cX3_text 35 = .ok (.sipush 4032, 3) := by decide +kernel
theorem dX3_text_38 : decode cX3_text 38 = .ok (.if_icmp .ge 92, 3) := by decide +kernel
theorem dX3_text_41 : decode cX3_text 41 = .ok (.aload_n 0, 1) := by decide +kernel
theorem dX3_text_42 : decode cX3_text 42 = .ok (.getfield 11, 3) := by decide +kernel
theorem dX3_text_45 : decode cX3_text 45 = .ok (.iload_n 1, 1) := by decide +kernel
theorem dX3_text_46 : decode cX3_text 46 = .ok (.aaload, 1) := by decide +kernel
theorem dX3_text_47 : decode cX3_text 47 = .ok (.iload_n 2, 1) := by decide +kernel
theorem dX3_text_48 : decode cX3_text 48 = .ok (.baload, 1) := by decide +kernel
theorem dX3_text_49 : decode cX3_text 49 = .ok (.ifCond .ne 6, 3) := by decide +kernel
theorem dX3_text_52 : decode cX3_text 52 = .ok (.goto 72, 3) := by decide +kernel
theorem dX3_text_55 : decode cX3_text 55 = .ok (.aload_n 0, 1) := by decide +kernel
theorem dX3_text_56 : decode cX3_text 56 = .ok (.getfield 48, 3) := by decide +kernel
theorem dX3_text_59 : decode cX3_text 59 = .ok (.iconst 1, 1) := by decide +kernel
theorem dX3_text_60 : decode cX3_text 60 = .ok (.if_icmp .le 15, 3) := by decide +kernel
theorem dX3_text_63 : decode cX3_text 63 = .ok (.aload_n 0, 1) := by decide +kernel
theorem dX3_text_64 : decode cX3_text 64 = .ok (.bipush 44, 2) := by decide +kernel
theorem dX3_text_66 : decode cX3_text 66 = .ok (.invokevirtual 52, 3) := by decide +kernel
theorem dX3_text_69 : decode cX3_text 69 = .ok (.aload_n 0, 1) := by decide +kernel
theorem dX3_text_70 : decode cX3_text 70 = .ok (.bipush 32, 2) := by decide +kernel
theorem dX3_text_72 : decode cX3_text 72 = .ok (.invokevirtual 52, 3) := by decide +kernel
theorem dX3_text_75 : decode cX3_text 75 = .ok (.iload_n 2, 1) := by decide +kernel
theorem dX3_text_76 : decode cX3_text 76 = .ok (.bipush 99, 2) := by decide +kernel
theorem dX3_text_78 : decode cX3_text 78 = .ok (.if_icmp .le 8, 3) := by decide +kernel
theorem dX3_text_81 : decode cX3_text 81 = .ok (.bipush 100, 2) := by decide +kernel
theorem dX3_text_83 : decode cX3_text 83 = .ok (.goto 15, 3) := by decide +kernel
theorem dX3_text_86 : decode cX3_text 86 = .ok (.iload_n 2, 1) := by decide +kernel
theorem dX3_text_87 : decode cX3_text 87 = .ok (.bipush 9, 2) := by decide +kernel
theorem dX3_text_89 : decode cX3_text 89 = .ok (.if_icmp .le 8, 3) := by decide +kernel
theorem dX3_text_92 : decode cX3_text 92 = .ok (.bipush 10, 2) := by decide +kernel
theorem dX3_text_94 : decode cX3_text 94 = .ok (.goto 4, 3) := by decide +kernel
theorem dX3_text_97 : decode cX3_text 97 = .ok (.iconst 1, 1) := by decide +kernel
theorem dX3_text_98 : decode cX3_text 98 = .ok (.istore_n 3, 1) := by decide +kernel
theorem dX3_text_99 : decode cX3_text 99 = .ok (.iload_n 3, 1) := by decide +kernel
theorem dX3_text_100 : decode cX3_text 100 = .ok (.ifCond .le 24, 3) := by decide +kernel
theorem dX3_text_103 : decode cX3_text 103 = .ok (.aload_n 0, 1) := by decide +kernel
theorem dX3_text_104 : decode cX3_text 104 = .ok (.bipush 48, 2) := by decide +kernel
theorem dX3_text_106 : decode cX3_text 106 = .ok (.iload_n 2, 1) := by decide +kernel
theorem dX3_text_107 : decode cX3_text 107 = .ok (.iload_n 3, 1) := by decide +kernel
theorem dX3_text_108 : decode cX3_text 108 = .ok (.idiv, 1) := by decide +kernel
theorem dX3_text_109 : decode cX3_text 109 = .ok (.bipush 10, 2) := by decide +kernel
theorem dX3_text_111 : decode cX3_text 111 = .ok (.irem, 1) := by decide +kernel
theorem dX3_text_112 : decode cX3_text 112 = .ok (.iadd, 1) := by decide +kernel
theorem dX3_text_113 : decode cX3_text 113 = .ok (.invokevirtual 52, 3) := by decide +kernel
theorem dX3_text_116 : decode cX3_text 116 = .ok (.iload_n 3, 1) := by decide +kernel
theorem dX3_text_117 : decode cX3_text 117 = .ok (.bipush 10, 2) := by decide +kernel
theorem dX3_text_119 : decode cX3_text 119 = .ok (.idiv, 1) := by decide +kernel
theorem dX3_text_120 : decode cX3_text 120 = .ok (.istore_n 3, 1) := by decide +kernel
theorem dX3_text_121 : decode cX3_text 121 = .ok (.goto (-22), 3) := by decide +kernel
theorem dX3_text_124 : decode cX3_text 124 = .ok (.iinc 2 1, 3) := by decide +kernel
theorem dX3_text_127 : decode cX3_text 127 = .ok (.goto (-93), 3) := by decide +kernel
theorem dX3_text_130 : decode cX3_text 130 = .ok (.aload_n 0, 1) := by decide +kernel
theorem dX3_text_131 : decode cX3_text 131 = .ok (.bipush 125, 2) := by decide +kernel
theorem dX3_text_133 : decode cX3_text 133 = .ok (.invokevirtual 52, 3) := by decide +kernel
theorem dX3_text_136 : decode cX3_text 136 = .ok (.aload_n 0, 1) := by decide +kernel
theorem dX3_text_137 : decode cX3_text 137 = .ok (.getfield 48, 3) := by decide +kernel
theorem dX3_text_140 : decode cX3_text 140 = .ok (.ireturn, 1) := by decide +kernel
theorem dX3_write_0 : decode cX3_write 0 = .ok (.aload_n 0, 1) := by decide +kernel
theorem dX3_write_1 : decode cX3_write 1 = .ok (.getfield 18, 3) := by decide +kernel
theorem dX3_write_4 : decode cX3_write 4 = .ok (.aload_n 0, 1) := by decide +kernel
theorem dX3_write_5 : decode cX3_write 5 = .ok (.getfield 48, 3) := by decide +kernel
theorem dX3_write_8 : decode cX3_write 8 = .ok (.iload_n 1, 1) := by decide +kernel
theorem dX3_write_9 : decode cX3_write 9 = .ok (.i2b, 1) := by decide +kernel
theorem dX3_write_10 : decode cX3_write 10 = .ok (.bastore, 1) := by decide +kernel
theorem dX3_write_11 : decode cX3_write 11 = .ok (.aload_n 0, 1) := by decide +kernel
theorem dX3_write_12 : decode cX3_write 12 = .ok (.dup, 1) := by decide +kernel
theorem dX3_write_13 : decode cX3_write 13 = .ok (.getfield 48, 3) := by decide +kernel
theorem dX3_write_16 : decode cX3_write 16 = .ok (.iconst 1, 1) := by decide +kernel
theorem dX3_write_17 : decode cX3_write 17 = .ok (.iadd, 1) := by decide +kernel
theorem dX3_write_18 : decode cX3_write 18 = .ok (.putfield 48, 3) := by decide +kernel
theorem dX3_write_21 : decode cX3_write 21 = .ok (.return_, 1) := by decide +kernel
theorem dX3_octet_0 : decode cX3_octet 0 = .ok (.iload_n 1, 1) := by decide +kernel
theorem dX3_octet_1 : decode cX3_octet 1 = .ok (.ifCond .lt 11, 3) := by decide +kernel
theorem dX3_octet_4 : decode cX3_octet 4 = .ok (.iload_n 1, 1) := by decide +kernel
theorem dX3_octet_5 : decode cX3_octet 5 = .ok (.aload_n 0, 1) := by decide +kernel
theorem dX3_octet_6 : decode cX3_octet 6 = .ok (.getfield 48, 3) := by decide +kernel
theorem dX3_octet_9 : decode cX3_octet 9 = .ok (.if_icmp .lt 8, 3) := by decide +kernel
theorem dX3_octet_12 : decode cX3_octet 12 = .ok (.bipush (-2), 2) := by decide +kernel
theorem dX3_octet_14 : decode cX3_octet 14 = .ok (.goto 9, 3) := by decide +kernel
theorem dX3_octet_17 : decode cX3_octet 17 = .ok (.aload_n 0, 1) := by decide +kernel
theorem dX3_octet_18 : decode cX3_octet 18 = .ok (.getfield 18, 3) := by decide +kernel
theorem dX3_octet_21 : decode cX3_octet 21 = .ok (.iload_n 1, 1) := by decide +kernel
theorem dX3_octet_22 : decode cX3_octet 22 = .ok (.baload, 1) := by decide +kernel
theorem dX3_octet_23 : decode cX3_octet 23 = .ok (.ireturn, 1) := by decide +kernel
