theorem dX0_combine_13 : decode cX0_combine 13 = .ok (.aload_n 0, 1) := by decide +kernel
theorem dX0_combine_14 : decode cX0_combine 14 = .ok (.getfield 11, 3) := by decide +kernel
theorem dX0_combine_17 : decode cX0_combine 17 = .ok (.iload_n 3, 1) := by decide +kernel
theorem dX0_combine_18 : decode cX0_combine 18 = .ok (.laload, 1) := by decide +kernel
theorem dX0_combine_19 : decode cX0_combine 19 = .ok (.iload_n 1, 1) := by decide +kernel
theorem dX0_combine_20 : decode cX0_combine 20 = .ok (.aload_n 2, 1) := by decide +kernel
theorem dX0_combine_21 : decode cX0_combine 21 = .ok (.getfield 11, 3) := by decide +kernel
theorem dX0_combine_24 : decode cX0_combine 24 = .ok (.iload_n 3, 1) := by decide +kernel
theorem dX0_combine_25 : decode cX0_combine 25 = .ok (.laload, 1) := by decide +kernel
theorem dX0_combine_26 : decode cX0_combine 26 = .ok (.invokestatic 44, 3) := by decide +kernel
theorem dX0_combine_29 : decode cX0_combine 29 = .ok (.lastore, 1) := by decide +kernel
theorem dX0_combine_30 : decode cX0_combine 30 = .ok (.iinc 3 1, 3) := by decide +kernel
theorem dX0_combine_33 : decode cX0_combine 33 = .ok (.goto (-31), 3) := by decide +kernel
theorem dX0_combine_36 : decode cX0_combine 36 = .ok (.return_, 1) := by decide +kernel
theorem dX0_combined_0 : decode cX0_combined 0 = .ok (.iload_n 2, 1) := by decide +kernel
theorem dX0_combined_1 : decode cX0_combined 1 = .ok (.tableswitch 39 0 2 #[27, 31, 35], 27) := by decide +kernel
theorem dX0_combined_28 : decode cX0_combined 28 = .ok (.lload_n 0, 1) := by decide +kernel
theorem dX0_combined_29 : decode cX0_combined 29 = .ok (.lload_n 3, 1) := by decide +kernel
theorem dX0_combined_30 : decode cX0_combined 30 = .ok (.land, 1) := by decide +kernel
theorem dX0_combined_31 : decode cX0_combined 31 = .ok (.lreturn, 1) := by decide +kernel
theorem dX0_combined_32 : decode cX0_combined 32 = .ok (.lload_n 0, 1) := by decide +kernel
theorem dX0_combined_33 : decode cX0_combined 33 = .ok (.lload_n 3, 1) := by decide +kernel
theorem dX0_combined_34 : decode cX0_combined 34 = .ok (.lor, 1) := by decide +kernel
theorem dX0_combined_35 : decode cX0_combined 35 = .ok (.lreturn, 1) := by decide +kernel
theorem dX0_combined_36 : decode cX0_combined 36 = .ok (.lload_n 0, 1) := by decide +kernel
theorem dX0_combined_37 : decode cX0_combined 37 = .ok (.lload_n 3, 1) := by decide +kernel
theorem dX0_combined_38 : decode cX0_combined 38 = .ok (.lxor, 1) := by decide +kernel
theorem dX0_combined_39 : decode cX0_combined 39 = .ok (.lreturn, 1) := by decide +kernel
theorem dX0_combined_40 : decode cX0_combined 40 = .ok (.lload_n 0, 1) := by decide +kernel
theorem dX0_combined_41 : decode cX0_combined 41 = .ok (.lload_n 3, 1) := by decide +kernel
theorem dX0_combined_42 : decode cX0_combined 42 = .ok (.ldc2_w 32, 3) := by decide +kernel
theorem dX0_combined_45 : decode cX0_combined 45 = .ok (.lxor, 1) := by decide +kernel
theorem dX0_combined_46 : decode cX0_combined 46 = .ok (.land, 1) := by decide +kernel
theorem dX0_combined_47 : decode cX0_combined 47 = .ok (.lreturn, 1) := by decide +kernel
theorem dX2_cut_0 : decode cX2_cut 0 = .ok (.iload_n 1, 1) := by decide +kernel
theorem dX2_cut_1 : decode cX2_cut 1 = .ok (.invokestatic 23, 3) := by decide +kernel
theorem dX2_cut_4 : decode cX2_cut 4 = .ok (.ifCond .eq 19, 3) := by decide +kernel
theorem dX2_cut_7 : decode cX2_cut 7 = .ok (.iload_n 2, 1) := by decide +kernel
theorem dX2_cut_8 : decode cX2_cut 8 = .ok (.invokestatic 23, 3) := by decide +kernel
theorem dX2_cut_11 : decode cX2_cut 11 = .ok (.ifCond .eq 12, 3) := by decide +kernel
theorem dX2_cut_14 : decode cX2_cut 14 = .ok (.iload_n 3, 1) := by decide +kernel
theorem dX2_cut_15 : decode cX2_cut 15 = .ok (.iload 4, 2) := by decide +kernel
theorem dX2_cut_17 : decode cX2_cut 17 = .ok (.invokestatic 41, 3) := by decide +kernel
theorem dX2_cut_20 : decode cX2_cut 20 = .ok (.ifCond .ne 6, 3) := by decide +kernel
theorem dX2_cut_23 : decode cX2_cut 23 = .ok (.bipush (-2), 2) := by decide +kernel
theorem dX2_cut_25 : decode cX2_cut 25 = .ok (.ireturn, 1) := by decide +kernel
theorem dX2_cut_26 : decode cX2_cut 26 = .ok (.aload_n 0, 1) := by decide +kernel
theorem dX2_cut_27 : decode cX2_cut 27 = .ok (.getfield 11, 3) := by decide +kernel
theorem dX2_cut_30 : decode cX2_cut 30 = .ok (.iload_n 1, 1) := by decide +kernel
theorem dX2_cut_31 : decode cX2_cut 31 = .ok (.aaload, 1) := by decide +kernel
theorem dX2_cut_32 : decode cX2_cut 32 = .ok (.aload_n 0, 1) := by decide +kernel
theorem dX2_cut_33 : decode cX2_cut 33 = .ok (.getfield 11, 3) := by decide +kernel
theorem dX2_cut_36 : decode cX2_cut 36 = .ok (.iload_n 2, 1) := by decide +kernel
theorem dX2_cut_37 : decode cX2_cut 37 = .ok (.aaload, 1) := by decide +kernel
theorem dX2_cut_38 : decode cX2_cut 38 = .ok (.iload_n 3, 1) := by decide +kernel
theorem dX2_cut_39 : decode cX2_cut 39 = .ok (.iload 4, 2) := by decide +kernel
theorem dX2_cut_41 : decode cX2_cut 41 = .ok (.invokevirtual 62, 3) := by decide +kernel
theorem dX2_cut_44 : decode cX2_cut 44 = .ok (.aload_n 0, 1) := by decide +kernel
theorem dX2_cut_45 : decode cX2_cut 45 = .ok (.getfield 11, 3) := by decide +kernel
theorem dX2_cut_48 : decode cX2_cut 48 = .ok (.iload_n 1, 1) := by decide +kernel
theorem dX2_cut_49 : decode cX2_cut 49 = .ok (.aaload, 1) := by decide +kernel
theorem dX2_cut_50 : decode cX2_cut 50 = .ok (.invokevirtual 45, 3) := by decide +kernel
theorem dX2_cut_53 : decode cX2_cut 53 = .ok (.ireturn, 1) := by decide +kernel
theorem dX0_takePiece_0 : decode cX0_takePiece 0 = .ok (.iconst 0, 1) := by decide +kernel
theorem dX0_takePiece_1 : decode cX0_takePiece 1 = .ok (.istore 4, 2) := by decide +kernel
theorem dX0_takePiece_3 : decode cX0_takePiece 3 = .ok (.iload 4, 2) := by decide +kernel
theorem dX0_takePiece_5 : decode cX0_takePiece 5 = .ok (.bipush 63, 2) := by decide +kernel
theorem dX0_takePiece_7 : decode cX0_takePiece 7 = .ok (.if_icmp .ge 40, 3) := by decide +kernel
theorem dX0_takePiece_10 : decode cX0_takePiece 10 = .ok (.aload_n 0, 1) := by decide +kernel
theorem dX0_takePiece_11 : decode cX0_takePiece 11 = .ok (.getfield 11, 3) := by decide +kernel
theorem dX0_takePiece_14 : decode cX0_takePiece 14 = .ok (.iload 4, 2) := by decide +kernel
theorem dX0_takePiece_16 : decode cX0_takePiece 16 = .ok (.aload_n 1, 1) := by decide +kernel
theorem dX0_takePiece_17 : decode cX0_takePiece 17 = .ok (.iload_n 2, 1) := by decide +kernel
theorem dX0_takePiece_18 : decode cX0_takePiece 18 = .ok (.bipush 64, 2) := by decide +kernel
theorem dX0_takePiece_20 : decode cX0_takePiece 20 = .ok (.iload 4, 2) := by decide +kernel
theorem dX0_takePiece_22 : decode cX0_takePiece 22 = .ok (.imul, 1) := by decide +kernel
theorem dX0_takePiece_23 : decode cX0_takePiece 23 = .ok (.iadd, 1) := by decide +kernel
theorem dX0_takePiece_24 : decode cX0_takePiece 24 = .ok (.invokevirtual 47, 3) := by decide +kernel
theorem dX0_takePiece_27 : decode cX0_takePiece 27 = .ok (.iload_n 3, 1) := by decide +kernel
theorem dX0_takePiece_28 : decode cX0_takePiece 28 = .ok (.iload_n 2, 1) := by decide +kernel
theorem dX0_takePiece_29 : decode cX0_takePiece 29 = .ok (.isub, 1) := by decide +kernel
theorem dX0_takePiece_30 : decode cX0_takePiece 30 = .ok (.bipush 64, 2) := by decide +kernel
theorem dX0_takePiece_32 : decode cX0_takePiece 32 = .ok (.iload 4, 2) := by decide +kernel
theorem dX0_takePiece_34 : decode cX0_takePiece 34 = .ok (.imul, 1) := by decide +kernel
theorem dX0_takePiece_35 : decode cX0_takePiece 35 = .ok (.isub, 1) := by decide +kernel
theorem dX0_takePiece_36 : decode cX0_takePiece 36 = .ok (.invokestatic 29, 3) := by decide +kernel
theorem dX0_takePiece_39 : decode cX0_takePiece 39 = .ok (.land, 1) := by decide +kernel
theorem dX0_takePiece_40 : decode cX0_takePiece 40 = .ok (.lastore, 1) := by decide +kernel
theorem dX0_takePiece_41 : decode cX0_takePiece 41 = .ok (.iinc 4 1, 3) := by decide +kernel
theorem dX0_takePiece_44 : decode cX0_takePiece 44 = .ok (.goto (-41), 3) := by decide +kernel
theorem dX0_takePiece_47 : decode cX0_takePiece 47 = .ok (.return_, 1) := by decide +kernel
theorem dX0_bitsFrom_0 : decode cX0_bitsFrom 0 = .ok (.iload_n 1, 1) := by decide +kernel
theorem dX0_bitsFrom_1 : decode cX0_bitsFrom 1 = .ok (.bipush 6, 2) := by decide +kernel
theorem dX0_bitsFrom_3 : decode cX0_bitsFrom 3 = .ok (.ishr, 1) := by decide +kernel
theorem dX0_bitsFrom_4 : decode cX0_bitsFrom 4 = .ok (.istore_n 2, 1) := by decide +kernel
theorem dX0_bitsFrom_5 : decode cX0_bitsFrom 5 = .ok (.iload_n 1, 1) := by decide +kernel
theorem dX0_bitsFrom_6 : decode cX0_bitsFrom 6 = .ok (.bipush 63, 2) := by decide +kernel
theorem dX0_bitsFrom_8 : decode cX0_bitsFrom 8 = .ok (.iand, 1) := by decide +kernel
theorem dX0_bitsFrom_9 : decode cX0_bitsFrom 9 = .ok (.istore_n 3, 1) := by decide +kernel
theorem dX0_bitsFrom_10 : decode cX0_bitsFrom 10 = .ok (.iload_n 3, 1) := by decide +kernel
theorem dX0_bitsFrom_11 : decode cX0_bitsFrom 11 = .ok (.ifCond .ne 9, 3) := by decide +kernel
theorem dX0_bitsFrom_14 : decode cX0_bitsFrom 14 = .ok (.aload_n 0, 1) := by decide +kernel
theorem dX0_bitsFrom_15 : decode cX0_bitsFrom 15 = .ok (.iload_n 2, 1) := by decide +kernel
theorem dX0_bitsFrom_16 : decode cX0_bitsFrom 16 = .ok (.invokevirtual 15, 3) := by decide +kernel
theorem dX0_bitsFrom_19 : decode cX0_bitsFrom 19 = .ok (.lreturn, 1) := by decide +kernel
theorem dX0_bitsFrom_20 : decode cX0_bitsFrom 20 = .ok (.aload_n 0, 1) := by decide +kernel
theorem dX0_bitsFrom_21 : decode cX0_bitsFrom 21 = .ok (.iload_n 2, 1) := by decide +kernel
theorem dX0_bitsFrom_22 : decode cX0_bitsFrom 22 = .ok (.invokevirtual 15, 3) := by decide +kernel
theorem dX0_bitsFrom_25 : decode cX0_bitsFrom 25 = .ok (.iload_n 3, 1) := by decide +kernel
theorem dX0_bitsFrom_26 : decode cX0_bitsFrom 26 = .ok (.lushr, 1) := by decide +kernel
theorem dX0_bitsFrom_27 : decode cX0_bitsFrom 27 = .ok (.aload_n 0, 1) := by decide +kernel
theorem dX0_bitsFrom_28 : decode cX0_bitsFrom 28 = .ok (.iload_n 2, 1) := by decide +kernel
theorem dX0_bitsFrom_29 : decode cX0_bitsFrom 29 = .ok (.iconst 1, 1) := by decide +kernel
theorem dX0_bitsFrom_30 : decode cX0_bitsFrom 30 = .ok (.iadd, 1) := by decide +kernel
theorem dX0_bitsFrom_31 : decode cX0_bitsFrom 31 = .ok (.invokevirtual 15, 3) := by decide +kernel
theorem dX0_bitsFrom_34 : decode cX0_bitsFrom 34 = .ok (.bipush 64, 2) := by decide +kernel
theorem dX0_bitsFrom_36 : decode cX0_bitsFrom 36 = .ok (.iload_n 3, 1) := by decide +kernel
theorem dX0_bitsFrom_37 : decode cX0_bitsFrom 37 = .ok (.isub, 1) := by decide +kernel
theorem dX0_bitsFrom_38 : decode cX0_bitsFrom 38 = .ok (.lshl, 1) := by decide +kernel
theorem dX0_bitsFrom_39 : decode cX0_bitsFrom 39 = .ok (.lor, 1) := by decide +kernel
theorem dX0_bitsFrom_40 : decode cX0_bitsFrom 40 = .ok (.lreturn, 1) := by decide +kernel
theorem dX2_copy_0 : decode cX2_copy 0 = .ok (.iload_n 1, 1) := by decide +kernel
theorem dX2_copy_1 : decode cX2_copy 1 = .ok (.invokestatic 23, 3) := by decide +kernel
theorem dX2_copy_4 : decode cX2_copy 4 = .ok (.ifCond .eq 10, 3) := by decide +kernel
theorem dX2_copy_7 : decode cX2_copy 7 = .ok (.iload_n 2, 1) := by decide +kernel
theorem dX2_copy_8 : decode cX2_copy 8 = .ok (.invokestatic 23, 3) := by decide +kernel
theorem dX2_copy_11 : decode cX2_copy 11 = .ok (.ifCond .ne 6, 3) := by decide +kernel
theorem dX2_copy_14 : decode cX2_copy 14 = .ok (.bipush (-2), 2) := by decide +kernel
theorem dX2_copy_16 : decode cX2_copy 16 = .ok (.ireturn, 1) := by decide +kernel
theorem dX2_copy_17 : decode cX2_copy 17 = .ok (.aload_n 0, 1) := by decide +kernel
theorem dX2_copy_18 : decode cX2_copy 18 = .ok (.getfield 11, 3) := by decide +kernel
theorem dX2_copy_21 : decode cX2_copy 21 = .ok (.iload_n 1, 1) := by decide +kernel
theorem dX2_copy_22 : decode cX2_copy 22 = .ok (.aaload, 1) := by decide +kernel
theorem dX2_copy_23 : decode cX2_copy 23 = .ok (.aload_n 0, 1) := by decide +kernel
theorem dX2_copy_24 : decode cX2_copy 24 = .ok (.getfield 11, 3) := by decide +kernel
theorem dX2_copy_27 : decode cX2_copy 27 = .ok (.iload_n 2, 1) := by decide +kernel
theorem dX2_copy_28 : decode cX2_copy 28 = .ok (.aaload, 1) := by decide +kernel
theorem dX2_copy_29 : decode cX2_copy 29 = .ok (.iconst 0, 1) := by decide +kernel
theorem dX2_copy_30 : decode cX2_copy 30 = .ok (.sipush 4001, 3) := by decide +kernel
theorem dX2_copy_33 : decode cX2_copy 33 = .ok (.invokevirtual 62, 3) := by decide +kernel
theorem dX2_copy_36 : decode cX2_copy 36 = .ok (.aload_n 0, 1) := by decide +kernel
theorem dX2_copy_37 : decode cX2_copy 37 = .ok (.getfield 11, 3) := by decide +kernel
theorem dX2_copy_40 : decode cX2_copy 40 = .ok (.iload_n 1, 1) := by decide +kernel
theorem dX2_copy_41 : decode cX2_copy 41 = .ok (.aaload, 1) := by decide +kernel
theorem dX2_copy_42 : decode cX2_copy 42 = .ok (.invokevirtual 45, 3) := by decide +kernel
theorem dX2_copy_45 : decode cX2_copy 45 = .ok (.ireturn, 1) := by decide +kernel
theorem dX2_look_0 : decode cX2_look 0 = .ok (.iload_n 1, 1) := by decide +kernel
theorem dX2_look_1 : decode cX2_look 1 = .ok (.invokestatic 23, 3) := by decide +kernel
theorem dX2_look_4 : decode cX2_look 4 = .ok (.ifCond .ne 6, 3) := by decide +kernel
theorem dX2_look_7 : decode cX2_look 7 = .ok (.bipush (-2), 2) := by decide +kernel
theorem dX2_look_9 : decode cX2_look 9 = .ok (.ireturn, 1) := by decide +kernel
theorem dX2_look_10 : decode cX2_look 10 = .ok (.iload_n 2, 1) := by decide +kernel
theorem dX2_look_11 : decode cX2_look 11 = .ok (.tableswitch 63 0 2 #[25, 35, 45], 25) := by decide +kernel
theorem dX2_look_36 : decode cX2_look 36 = .ok (.aload_n 0, 1) := by decide +kernel
theorem dX2_look_37 : decode cX2_look 37 = .ok (.getfield 11, 3) := by decide +kernel
theorem dX2_look_40 : decode cX2_look 40 = .ok (.iload_n 1, 1) := by decide +kernel
theorem dX2_look_41 : decode cX2_look 41 = .ok (.aaload, 1) := by decide +kernel
theorem dX2_look_42 : decode cX2_look 42 = .ok (.invokevirtual 45, 3) := by decide +kernel
theorem dX2_look_45 : decode cX2_look 45 = .ok (.ireturn, 1) := by decide +kernel
theorem dX2_look_46 : decode cX2_look 46 = .ok (.aload_n 0, 1) := by decide +kernel
theorem dX2_look_47 : decode cX2_look 47 = .ok (.getfield 11, 3) := by decide +kernel
theorem dX2_look_50 : decode cX2_look 50 = .ok (.iload_n 1, 1) := by decide +kernel
theorem dX2_look_51 : decode cX2_look 51 = .ok (.aaload, 1) := by decide +kernel
theorem dX2_look_52 : decode cX2_look 52 = .ok (.invokevirtual 66, 3) := by decide +kernel
theorem dX2_look_55 : decode cX2_look 55 = .ok (.ireturn, 1) := by decide +kernel
theorem dX2_look_56 : decode cX2_look 56 = .ok (.aload_n 0, 1) := by decide +kernel
theorem dX2_look_57 : decode cX2_look 57 = .ok (.getfield 11, 3) := by decide +kernel
theorem dX2_look_60 : decode cX2_look 60 = .ok (.iload_n 1, 1) := by decide +kernel
theorem dX2_look_61 : decode cX2_look 61 = .ok (.aaload, 1) := by decide +kernel
theorem dX2_look_62 : decode cX2_look 62 = .ok (.invokevirtual 66, 3) := by decide +kernel
theorem dX2_look_65 : decode cX2_look 65 = .ok (.ifCond .ne 7, 3) := by decide +kernel
theorem dX2_look_68 : decode cX2_look 68 = .ok (.iconst 1, 1) := by decide +kernel
theorem dX2_look_69 : decode cX2_look 69 = .ok (.goto 4, 3) := by decide +kernel
theorem dX2_look_72 : decode cX2_look 72 = .ok (.iconst 0, 1) := by decide +kernel
theorem dX2_look_73 : decode cX2_look 73 = .ok (.ireturn, 1) := by decide +kernel
theorem dX2_look_74 : decode cX2_look 74 = .ok (.bipush (-2), 2) := by decide +kernel
theorem dX2_look_76 : decode cX2_look 76 = .ok (.ireturn, 1) := by decide +kernel
theorem dX0_end_0 : decode cX0_end 0 = .ok (.aload_n 0, 1) := by decide +kernel
theorem dX0_end_1 : decode cX0_end 1 = .ok (.sipush 4000, 3) := by decide +kernel
theorem dX0_end_4 : decode cX0_end 4 = .ok (.lconst 0, 1) := by decide +kernel
theorem dX0_end_5 : decode cX0_end 5 = .ok (.invokevirtual 25, 3) := by decide +kernel
theorem dX0_end_8 : decode cX0_end 8 = .ok (.iconst 1, 1) := by decide +kernel
theorem dX0_end_9 : decode cX0_end 9 = .ok (.iadd, 1) := by decide +kernel
theorem dX0_end_10 : decode cX0_end 10 = .ok (.ireturn, 1) := by decide +kernel
theorem dX2_meet_0 : decode cX2_meet 0 = .ok (.iload_n 1, 1) := by decide +kernel
theorem dX2_meet_1 : decode cX2_meet 1 = .ok (.invokestatic 23, 3) := by decide +kernel
theorem dX2_meet_4 : decode cX2_meet 4 = .ok (.ifCond .eq 10, 3) := by decide +kernel
theorem dX2_meet_7 : decode cX2_meet 7 = .ok (.iload_n 3, 1) := by decide +kernel
theorem dX2_meet_8 : decode cX2_meet 8 = .ok (.invokestatic 23, 3) := by decide +kernel
theorem dX2_meet_11 : decode cX2_meet 11 = .ok (.ifCond .ne 6, 3) := by decide +kernel
theorem dX2_meet_14 : decode cX2_meet 14 = .ok (.bipush (-2), 2) := by decide +kernel
theorem dX2_meet_16 : decode cX2_meet 16 = .ok (.ireturn, 1) := by decide +kernel
theorem dX2_meet_17 : decode cX2_meet 17 = .ok (.iload_n 2, 1) := by decide +kernel
theorem dX2_meet_18 : decode cX2_meet 18 = .ok (.lookupswitch 74 #[(0, 26), (1, 50)], 26) := by decide +kernel
theorem dX2_meet_44 : decode cX2_meet 44 = .ok (.aload_n 0, 1) := by decide +kernel
theorem dX2_meet_45 : decode cX2_meet 45 = .ok (.getfield 11, 3) := by decide +kernel
theorem dX2_meet_48 : decode cX2_meet 48 = .ok (.iload_n 1, 1) := by decide +kernel
theorem dX2_meet_49 : decode cX2_meet 49 = .ok (.aaload, 1) := by decide +kernel
theorem dX2_meet_50 : decode cX2_meet 50 = .ok (.aload_n 0, 1) := by decide +kernel
theorem dX2_meet_51 : decode cX2_meet 51 = .ok (.getfield 11, 3) := by decide +kernel
theorem dX2_meet_54 : decode cX2_meet 54 = .ok (.iload_n 3, 1) := by decide +kernel
theorem dX2_meet_55 : decode cX2_meet 55 = .ok (.aaload, 1) := by decide +kernel
theorem dX2_meet_56 : decode cX2_meet 56 = .ok (.invokevirtual 69, 3) := by decide +kernel
theorem dX2_meet_59 : decode cX2_meet 59 = .ok (.ifCond .eq 7, 3) := by decide +kernel
theorem dX2_meet_62 : decode cX2_meet 62 = .ok (.iconst 1, 1) := by decide +kernel
theorem dX2_meet_63 : decode cX2_meet 63 = .ok (.goto 4, 3) := by decide +kernel
theorem dX2_meet_66 : decode cX2_meet 66 = .ok (.iconst 0, 1) := by decide +kernel
theorem dX2_meet_67 : decode cX2_meet 67 = .ok (.ireturn, 1) := by decide +kernel
theorem dX2_meet_68 : decode cX2_meet 68 = .ok (.aload_n 0, 1) := by decide +kernel
theorem dX2_meet_69 : decode cX2_meet 69 = .ok (.getfield 11, 3) := by decide +kernel
theorem dX2_meet_72 : decode cX2_meet 72 = .ok (.iload_n 1, 1) := by decide +kernel
theorem dX2_meet_73 : decode cX2_meet 73 = .ok (.aaload, 1) := by decide +kernel
theorem dX2_meet_74 : decode cX2_meet 74 = .ok (.aload_n 0, 1) := by decide +kernel
theorem dX2_meet_75 : decode cX2_meet 75 = .ok (.getfield 11, 3) := by decide +kernel
theorem dX2_meet_78 : decode cX2_meet 78 = .ok (.iload_n 3, 1) := by decide +kernel
theorem dX2_meet_79 : decode cX2_meet 79 = .ok (.aaload, 1) := by decide +kernel
theorem dX2_meet_80 : decode cX2_meet 80 = .ok (.invokevirtual 73, 3) := by decide +kernel
theorem dX2_meet_83 : decode cX2_meet 83 = .ok (.ifCond .eq 7, 3) := by decide +kernel
theorem dX2_meet_86 : decode cX2_meet 86 = .ok (.iconst 1, 1) := by decide +kernel
theorem dX2_meet_87 : decode cX2_meet 87 = .ok (.goto 4, 3) := by decide +kernel
theorem dX2_meet_90 : decode cX2_meet 90 = .ok (.iconst 0, 1) := by decide +kernel
theorem dX2_meet_91 : decode cX2_meet 91 = .ok (.ireturn, 1) := by decide +kernel
theorem dX2_meet_92 : decode cX2_meet 92 = .ok (.bipush (-2), 2) := by decide +kernel
theorem dX2_meet_94 : decode cX2_meet 94 = .ok (.ireturn, 1) := by decide +kernel
theorem dX0_sharesOne_0 : decode cX0_sharesOne 0 = .ok (.iconst 0, 1) := by decide +kernel
theorem dX0_sharesOne_1 : decode cX0_sharesOne 1 = .ok (.istore_n 2, 1) := by decide +kernel
theorem dX0_sharesOne_2 : decode cX0_sharesOne 2 = .ok (.iload_n 2, 1) := by decide +kernel
theorem dX0_sharesOne_3 : decode cX0_sharesOne 3 = .ok (.bipush 63, 2) := by decide +kernel
theorem dX0_sharesOne_5 : decode cX0_sharesOne 5 = .ok (.if_icmp .ge 29, 3) := by decide +kernel
theorem dX0_sharesOne_8 : decode cX0_sharesOne 8 = .ok (.aload_n 0, 1) := by decide +kernel
theorem dX0_sharesOne_9 : decode cX0_sharesOne 9 = .ok (.getfield 11, 3) := by decide +kernel
theorem dX0_sharesOne_12 : decode cX0_sharesOne 12 = .ok (.iload_n 2, 1) := by decide +kernel
theorem dX0_sharesOne_13 : decode cX0_sharesOne 13 = .ok (.laload, 1) := by decide +kernel
theorem dX0_sharesOne_14 : decode cX0_sharesOne 14 = .ok (.aload_n 1, 1) := by decide +kernel
theorem dX0_sharesOne_15 : decode cX0_sharesOne 15 = .ok (.getfield 11, 3) := by decide +kernel
theorem dX0_sharesOne_18 : decode cX0_sharesOne 18 = .ok (.iload_n 2, 1) := by decide +kernel
theorem dX0_sharesOne_19 : decode cX0_sharesOne 19 = .ok (.laload, 1) := by decide +kernel
theorem dX0_sharesOne_20 : decode cX0_sharesOne 20 = .ok (.land, 1) := by decide +kernel
theorem dX0_sharesOne_21 : decode cX0_sharesOne 21 = .ok (.lconst 0, 1) := by decide +kernel
theorem dX0_sharesOne_22 : decode cX0_sharesOne 22 = .ok (.lcmp, 1) := by decide +kernel
theorem dX0_sharesOne_23 : decode cX0_sharesOne 23 = .ok (.ifCond .eq 5, 3) := by decide +kernel
theorem dX0_sharesOne_26 : decode cX0_sharesOne 26 = .ok (.iconst 1, 1) := by decide +kernel
theorem dX0_sharesOne_27 : decode cX0_sharesOne 27 = .ok (.ireturn, 1) := by decide +kernel
theorem dX0_sharesOne_28 : decode cX0_sharesOne 28 = .ok (.iinc 2 1, 3) := by decide +kernel
theorem dX0_sharesOne_31 : decode cX0_sharesOne 31 = .ok (.goto (-29), 3) := by decide +kernel
theorem dX0_sharesOne_34 : decode cX0_sharesOne 34 = .ok (.iconst 0, 1) := by decide +kernel
theorem dX0_sharesOne_35 : decode cX0_sharesOne 35 = .ok (.ireturn, 1) := by decide +kernel
theorem dX0_isSame_0 : decode cX0_isSame 0 = .ok (.iconst 0, 1) := by decide +kernel
theorem dX0_isSame_1 : decode cX0_isSame 1 = .ok (.istore_n 2, 1) := by decide +kernel
theorem dX0_isSame_2 : decode cX0_isSame 2 = .ok (.iload_n 2, 1) := by decide +kernel
theorem dX0_isSame_3 : decode cX0_isSame 3 = .ok (.bipush 63, 2) := by decide +kernel
theorem dX0_isSame_5 : decode cX0_isSame 5 = .ok (.if_icmp .ge 27, 3) := by decide +kernel
theorem dX0_isSame_8 : decode cX0_isSame 8 = .ok (.aload_n 0, 1) := by decide +kernel
theorem dX0_isSame_9 : decode cX0_isSame 9 = .ok (.getfield 11, 3) := by decide +kernel
theorem dX0_isSame_12 : decode cX0_isSame 12 = .ok (.iload_n 2, 1) := by decide +kernel
theorem dX0_isSame_13 : decode cX0_isSame 13 = .ok (.laload, 1) := by decide +kernel
theorem dX0_isSame_14 : decode cX0_isSame 14 = .ok (.aload_n 1, 1) := by decide +kernel
theorem dX0_isSame_15 : decode cX0_isSame 15 = .ok (.getfield 11, 3) := by decide +kernel
theorem dX0_isSame_18 : decode cX0_isSame 18 = .ok (.iload_n 2, 1) := by decide +kernel
theorem dX0_isSame_19 : decode cX0_isSame 19 = .ok (.laload, 1) := by decide +kernel
theorem dX0_isSame_20 : decode cX0_isSame 20 = .ok (.lcmp, 1) := by decide +kernel
theorem dX0_isSame_21 : decode cX0_isSame 21 = .ok (.ifCond .eq 5, 3) := by decide +kernel
theorem dX0_isSame_24 : decode cX0_isSame 24 = .ok (.iconst 0, 1) := by decide +kernel
theorem dX0_isSame_25 : decode cX0_isSame 25 = .ok (.ireturn, 1) := by decide +kernel
theorem dX0_isSame_26 : decode cX0_isSame 26 = .ok (.iinc 2 1, 3) := by decide +kernel
theorem dX0_isSame_29 : decode cX0_isSame 29 = .ok (.goto (-27), 3) := by decide +kernel
theorem dX0_isSame_32 : decode cX0_isSame 32 = .ok (.iconst 1, 1) := by decide +kernel
theorem dX0_isSame_33 : decode cX0_isSame 33 = .ok (.ireturn, 1) := by decide +kernel
theorem dX2_word_0 : decode cX2_word 0 = .ok (.iload_n 1, 1) := by decide +kernel
theorem dX2_word_1 : decode cX2_word 1 = .ok (.invokestatic 23, 3) := by decide +kernel
theorem dX2_word_4 : decode cX2_word 4 = .ok (.ifCond .eq 13, 3) := by decide +kernel
theorem dX2_word_7 : decode cX2_word 7 = .ok (.iload_n 2, 1) := by decide +kernel
theorem dX2_word_8 : decode cX2_word 8 = .ok (.ifCond .lt 9, 3) := by decide +kernel
theorem dX2_word_11 : decode cX2_word 11 = .ok (.iload_n 2, 1) := by decide +kernel
theorem dX2_word_12 : decode cX2_word 12 = .ok (.bipush 63, 2) := by decide +kernel
theorem dX2_word_14 : decode cX2_word 14 = .ok (.if_icmp .lt 7, 3) := by decide +kernel
theorem dX2_word_17 : decode cX2_word 17 = .ok (.ldc2_w 76, 3) := by decide +kernel
theorem dX2_word_20 : decode cX2_word 20 = .ok (.lreturn, 1) := by decide +kernel
theorem dX2_word_21 : decode cX2_word 21 = .ok (.aload_n 0, 1) := by decide +kernel
theorem dX2_word_22 : decode cX2_word 22 = .ok (.getfield 11, 3) := by decide +kernel
theorem dX2_word_25 : decode cX2_word 25 = .ok (.iload_n 1, 1) := by decide +kernel
theorem dX2_word_26 : decode cX2_word 26 = .ok (.aaload, 1) := by decide +kernel
theorem dX2_word_27 : decode cX2_word 27 = .ok (.iload_n 2, 1) := by decide +kernel
theorem dX2_word_28 : decode cX2_word 28 = .ok (.invokevirtual 78, 3) := by decide +kernel
theorem dX2_word_31 : decode cX2_word 31 = .ok (.lreturn, 1) := by decide +kernel
theorem dX2_load_0 : decode cX2_load 0 = .ok (.iload_n 1, 1) := by decide +kernel
theorem dX2_load_1 : decode cX2_load 1 = .ok (.invokestatic 23, 3) := by decide +kernel
theorem dX2_load_4 : decode cX2_load 4 = .ok (.ifCond .ne 6, 3) := by decide +kernel
theorem dX2_load_7 : decode cX2_load 7 = .ok (.bipush (-2), 2) := by decide +kernel
theorem dX2_load_9 : decode cX2_load 9 = .ok (.ireturn, 1) := by decide +kernel
theorem dX2_load_10 : decode cX2_load 10 = .ok (.aload_n 0, 1) := by decide +kernel
theorem dX2_load_11 : decode cX2_load 11 = .ok (.getfield 11, 3) := by decide +kernel
theorem dX2_load_14 : decode cX2_load 14 = .ok (.iload_n 1, 1) := by decide +kernel
theorem dX2_load_15 : decode cX2_load 15 = .ok (.aaload, 1) := by decide +kernel
theorem dX2_load_16 : decode cX2_load 16 = .ok (.lload_n 2, 1) := by decide +kernel
theorem dX2_load_17 : decode cX2_load 17 = .ok (.lload 4, 2) := by decide +kernel
theorem dX2_load_19 : decode cX2_load 19 = .ok (.lload 6, 2) := by decide +kernel
theorem dX2_load_21 : decode cX2_load 21 = .ok (.invokevirtual 82, 3) := by decide +kernel
theorem dX2_load_24 : decode cX2_load 24 = .ok (.aload_n 0, 1) := by decide +kernel
theorem dX2_load_25 : decode cX2_load 25 = .ok (.getfield 11, 3) := by decide +kernel
