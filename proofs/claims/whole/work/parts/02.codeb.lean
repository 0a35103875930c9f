theorem dX2_get_7 : decode cX2_get 7 = .ok (.iload_n 2, 1) := by decide +kernel
theorem dX2_get_8 : decode cX2_get 8 = .ok (.invokestatic 30, 3) := by decide +kernel
theorem dX2_get_11 : decode cX2_get 11 = .ok (.ifCond .ne 6, 3) := by decide +kernel
theorem dX2_get_14 : decode cX2_get 14 = .ok (.bipush (-2), 2) := by decide +kernel
theorem dX2_get_16 : decode cX2_get 16 = .ok (.ireturn, 1) := by decide +kernel
theorem dX2_get_17 : decode cX2_get 17 = .ok (.aload_n 0, 1) := by decide +kernel
theorem dX2_get_18 : decode cX2_get 18 = .ok (.getfield 11, 3) := by decide +kernel
theorem dX2_get_21 : decode cX2_get 21 = .ok (.iload_n 1, 1) := by decide +kernel
theorem dX2_get_22 : decode cX2_get 22 = .ok (.aaload, 1) := by decide +kernel
theorem dX2_get_23 : decode cX2_get 23 = .ok (.iload_n 2, 1) := by decide +kernel
theorem dX2_get_24 : decode cX2_get 24 = .ok (.invokevirtual 33, 3) := by decide +kernel
theorem dX2_get_27 : decode cX2_get 27 = .ok (.ireturn, 1) := by decide +kernel
theorem dX2_next_0 : decode cX2_next 0 = .ok (.iload_n 1, 1) := by decide +kernel
theorem dX2_next_1 : decode cX2_next 1 = .ok (.invokestatic 23, 3) := by decide +kernel
theorem dX2_next_4 : decode cX2_next 4 = .ok (.ifCond .eq 10, 3) := by decide +kernel
theorem dX2_next_7 : decode cX2_next 7 = .ok (.iload_n 3, 1) := by decide +kernel
theorem dX2_next_8 : decode cX2_next 8 = .ok (.invokestatic 30, 3) := by decide +kernel
theorem dX2_next_11 : decode cX2_next 11 = .ok (.ifCond .ne 6, 3) := by decide +kernel
theorem dX2_next_14 : decode cX2_next 14 = .ok (.bipush (-2), 2) := by decide +kernel
theorem dX2_next_16 : decode cX2_next 16 = .ok (.ireturn, 1) := by decide +kernel
theorem dX2_next_17 : decode cX2_next 17 = .ok (.iload_n 2, 1) := by decide +kernel
theorem dX2_next_18 : decode cX2_next 18 = .ok (.tableswitch 82 0 3 #[30, 42, 56, 68], 30) := by decide +kernel
theorem dX2_next_48 : decode cX2_next 48 = .ok (.aload_n 0, 1) := by decide +kernel
theorem dX2_next_49 : decode cX2_next 49 = .ok (.getfield 11, 3) := by decide +kernel
theorem dX2_next_52 : decode cX2_next 52 = .ok (.iload_n 1, 1) := by decide +kernel
theorem dX2_next_53 : decode cX2_next 53 = .ok (.aaload, 1) := by decide +kernel
theorem dX2_next_54 : decode cX2_next 54 = .ok (.iload_n 3, 1) := by decide +kernel
theorem dX2_next_55 : decode cX2_next 55 = .ok (.lconst 0, 1) := by decide +kernel
theorem dX2_next_56 : decode cX2_next 56 = .ok (.invokevirtual 49, 3) := by decide +kernel
theorem dX2_next_59 : decode cX2_next 59 = .ok (.ireturn, 1) := by decide +kernel
theorem dX2_next_60 : decode cX2_next 60 = .ok (.aload_n 0, 1) := by decide +kernel
theorem dX2_next_61 : decode cX2_next 61 = .ok (.getfield 11, 3) := by decide +kernel
theorem dX2_next_64 : decode cX2_next 64 = .ok (.iload_n 1, 1) := by decide +kernel
theorem dX2_next_65 : decode cX2_next 65 = .ok (.aaload, 1) := by decide +kernel
theorem dX2_next_66 : decode cX2_next 66 = .ok (.iload_n 3, 1) := by decide +kernel
theorem dX2_next_67 : decode cX2_next 67 = .ok (.ldc2_w 53, 3) := by decide +kernel
theorem dX2_next_70 : decode cX2_next 70 = .ok (.invokevirtual 49, 3) := by decide +kernel
theorem dX2_next_73 : decode cX2_next 73 = .ok (.ireturn, 1) := by decide +kernel
theorem dX2_next_74 : decode cX2_next 74 = .ok (.aload_n 0, 1) := by decide +kernel
theorem dX2_next_75 : decode cX2_next 75 = .ok (.getfield 11, 3) := by decide +kernel
theorem dX2_next_78 : decode cX2_next 78 = .ok (.iload_n 1, 1) := by decide +kernel
theorem dX2_next_79 : decode cX2_next 79 = .ok (.aaload, 1) := by decide +kernel
theorem dX2_next_80 : decode cX2_next 80 = .ok (.iload_n 3, 1) := by decide +kernel
theorem dX2_next_81 : decode cX2_next 81 = .ok (.lconst 0, 1) := by decide +kernel
theorem dX2_next_82 : decode cX2_next 82 = .ok (.invokevirtual 55, 3) := by decide +kernel
theorem dX2_next_85 : decode cX2_next 85 = .ok (.ireturn, 1) := by decide +kernel
theorem dX2_next_86 : decode cX2_next 86 = .ok (.aload_n 0, 1) := by decide +kernel
theorem dX2_next_87 : decode cX2_next 87 = .ok (.getfield 11, 3) := by decide +kernel
theorem dX2_next_90 : decode cX2_next 90 = .ok (.iload_n 1, 1) := by decide +kernel
theorem dX2_next_91 : decode cX2_next 91 = .ok (.aaload, 1) := by decide +kernel
theorem dX2_next_92 : decode cX2_next 92 = .ok (.iload_n 3, 1) := by decide +kernel
theorem dX2_next_93 : decode cX2_next 93 = .ok (.ldc2_w 53, 3) := by decide +kernel
theorem dX2_next_96 : decode cX2_next 96 = .ok (.invokevirtual 55, 3) := by decide +kernel
theorem dX2_next_99 : decode cX2_next 99 = .ok (.ireturn, 1) := by decide +kernel
theorem dX2_next_100 : decode cX2_next 100 = .ok (.bipush (-2), 2) := by decide +kernel
theorem dX2_next_102 : decode cX2_next 102 = .ok (.ireturn, 1) := by decide +kernel
theorem dX0_firstFrom_0 : decode cX0_firstFrom 0 = .ok (.iconst 0, 1) := by decide +kernel
theorem dX0_firstFrom_1 : decode cX0_firstFrom 1 = .ok (.istore 4, 2) := by decide +kernel
theorem dX0_firstFrom_3 : decode cX0_firstFrom 3 = .ok (.iload 4, 2) := by decide +kernel
theorem dX0_firstFrom_5 : decode cX0_firstFrom 5 = .ok (.bipush 63, 2) := by decide +kernel
theorem dX0_firstFrom_7 : decode cX0_firstFrom 7 = .ok (.if_icmp .ge 54, 3) := by decide +kernel
theorem dX0_firstFrom_10 : decode cX0_firstFrom 10 = .ok (.aload_n 0, 1) := by decide +kernel
theorem dX0_firstFrom_11 : decode cX0_firstFrom 11 = .ok (.getfield 11, 3) := by decide +kernel
theorem dX0_firstFrom_14 : decode cX0_firstFrom 14 = .ok (.iload 4, 2) := by decide +kernel
theorem dX0_firstFrom_16 : decode cX0_firstFrom 16 = .ok (.laload, 1) := by decide +kernel
theorem dX0_firstFrom_17 : decode cX0_firstFrom 17 = .ok (.lload_n 2, 1) := by decide +kernel
theorem dX0_firstFrom_18 : decode cX0_firstFrom 18 = .ok (.lxor, 1) := by decide +kernel
theorem dX0_firstFrom_19 : decode cX0_firstFrom 19 = .ok (.iload_n 1, 1) := by decide +kernel
theorem dX0_firstFrom_20 : decode cX0_firstFrom 20 = .ok (.bipush 64, 2) := by decide +kernel
theorem dX0_firstFrom_22 : decode cX0_firstFrom 22 = .ok (.iload 4, 2) := by decide +kernel
theorem dX0_firstFrom_24 : decode cX0_firstFrom 24 = .ok (.imul, 1) := by decide +kernel
theorem dX0_firstFrom_25 : decode cX0_firstFrom 25 = .ok (.isub, 1) := by decide +kernel
theorem dX0_firstFrom_26 : decode cX0_firstFrom 26 = .ok (.invokestatic 29, 3) := by decide +kernel
theorem dX0_firstFrom_29 : decode cX0_firstFrom 29 = .ok (.ldc2_w 32, 3) := by decide +kernel
theorem dX0_firstFrom_32 : decode cX0_firstFrom 32 = .ok (.lxor, 1) := by decide +kernel
theorem dX0_firstFrom_33 : decode cX0_firstFrom 33 = .ok (.land, 1) := by decide +kernel
theorem dX0_firstFrom_34 : decode cX0_firstFrom 34 = .ok (.lstore 5, 2) := by decide +kernel
theorem dX0_firstFrom_36 : decode cX0_firstFrom 36 = .ok (.lload 5, 2) := by decide +kernel
theorem dX0_firstFrom_38 : decode cX0_firstFrom 38 = .ok (.lconst 0, 1) := by decide +kernel
theorem dX0_firstFrom_39 : decode cX0_firstFrom 39 = .ok (.lcmp, 1) := by decide +kernel
theorem dX0_firstFrom_40 : decode cX0_firstFrom 40 = .ok (.ifCond .eq 15, 3) := by decide +kernel
theorem dX0_firstFrom_43 : decode cX0_firstFrom 43 = .ok (.bipush 64, 2) := by decide +kernel
theorem dX0_firstFrom_45 : decode cX0_firstFrom 45 = .ok (.iload 4, 2) := by decide +kernel
theorem dX0_firstFrom_47 : decode cX0_firstFrom 47 = .ok (.imul, 1) := by decide +kernel
theorem dX0_firstFrom_48 : decode cX0_firstFrom 48 = .ok (.lload 5, 2) := by decide +kernel
theorem dX0_firstFrom_50 : decode cX0_firstFrom 50 = .ok (.invokestatic 38, 3) := by decide +kernel
theorem dX0_firstFrom_53 : decode cX0_firstFrom 53 = .ok (.iadd, 1) := by decide +kernel
theorem dX0_firstFrom_54 : decode cX0_firstFrom 54 = .ok (.ireturn, 1) := by decide +kernel
theorem dX0_firstFrom_55 : decode cX0_firstFrom 55 = .ok (.iinc 4 1, 3) := by decide +kernel
theorem dX0_firstFrom_58 : decode cX0_firstFrom 58 = .ok (.goto (-55), 3) := by decide +kernel
theorem dX0_firstFrom_61 : decode cX0_firstFrom 61 = .ok (.iconst (-1), 1) := by decide +kernel
theorem dX0_firstFrom_62 : decode cX0_firstFrom 62 = .ok (.ireturn, 1) := by decide +kernel
theorem dJ7_numberOfTrailingZeros_0 : decode cJ7_numberOfTrailingZeros 0 = .ok (.lload_n 0, 1) := by decide +kernel
theorem dJ7_numberOfTrailingZeros_1 : decode cJ7_numberOfTrailingZeros 1 = .ok (.l2i, 1) := by decide +kernel
theorem dJ7_numberOfTrailingZeros_2 : decode cJ7_numberOfTrailingZeros 2 = .ok (.istore_n 2, 1) := by decide +kernel
theorem dJ7_numberOfTrailingZeros_3 : decode cJ7_numberOfTrailingZeros 3 = .ok (.iload_n 2, 1) := by decide +kernel
theorem dJ7_numberOfTrailingZeros_4 : decode cJ7_numberOfTrailingZeros 4 = .ok (.ifCond .ne 17, 3) := by decide +kernel
theorem dJ7_numberOfTrailingZeros_7 : decode cJ7_numberOfTrailingZeros 7 = .ok (.bipush 32, 2) := by decide +kernel
theorem dJ7_numberOfTrailingZeros_9 : decode cJ7_numberOfTrailingZeros 9 = .ok (.lload_n 0, 1) := by decide +kernel
theorem dJ7_numberOfTrailingZeros_10 : decode cJ7_numberOfTrailingZeros 10 = .ok (.bipush 32, 2) := by decide +kernel
theorem dJ7_numberOfTrailingZeros_12 : decode cJ7_numberOfTrailingZeros 12 = .ok (.lushr, 1) := by decide +kernel
theorem dJ7_numberOfTrailingZeros_13 : decode cJ7_numberOfTrailingZeros 13 = .ok (.l2i, 1) := by decide +kernel
theorem dJ7_numberOfTrailingZeros_14 : decode cJ7_numberOfTrailingZeros 14 = .ok (.invokestatic 311, 3) := by decide +kernel
theorem dJ7_numberOfTrailingZeros_17 : decode cJ7_numberOfTrailingZeros 17 = .ok (.iadd, 1) := by decide +kernel
theorem dJ7_numberOfTrailingZeros_18 : decode cJ7_numberOfTrailingZeros 18 = .ok (.goto 7, 3) := by decide +kernel
theorem dJ7_numberOfTrailingZeros_21 : decode cJ7_numberOfTrailingZeros 21 = .ok (.iload_n 2, 1) := by decide +kernel
theorem dJ7_numberOfTrailingZeros_22 : decode cJ7_numberOfTrailingZeros 22 = .ok (.invokestatic 311, 3) := by decide +kernel
theorem dJ7_numberOfTrailingZeros_25 : decode cJ7_numberOfTrailingZeros 25 = .ok (.ireturn, 1) := by decide +kernel
theorem dJ6_numberOfTrailingZeros_0 : decode cJ6_numberOfTrailingZeros 0 = .ok (.iload_n 0, 1) := by decide +kernel
theorem dJ6_numberOfTrailingZeros_1 : decode cJ6_numberOfTrailingZeros 1 = .ok (.iconst (-1), 1) := by decide +kernel
theorem dJ6_numberOfTrailingZeros_2 : decode cJ6_numberOfTrailingZeros 2 = .ok (.ixor, 1) := by decide +kernel
theorem dJ6_numberOfTrailingZeros_3 : decode cJ6_numberOfTrailingZeros 3 = .ok (.iload_n 0, 1) := by decide +kernel
theorem dJ6_numberOfTrailingZeros_4 : decode cJ6_numberOfTrailingZeros 4 = .ok (.iconst 1, 1) := by decide +kernel
theorem dJ6_numberOfTrailingZeros_5 : decode cJ6_numberOfTrailingZeros 5 = .ok (.isub, 1) := by decide +kernel
theorem dJ6_numberOfTrailingZeros_6 : decode cJ6_numberOfTrailingZeros 6 = .ok (.iand, 1) := by decide +kernel
theorem dJ6_numberOfTrailingZeros_7 : decode cJ6_numberOfTrailingZeros 7 = .ok (.istore_n 0, 1) := by decide +kernel
theorem dJ6_numberOfTrailingZeros_8 : decode cJ6_numberOfTrailingZeros 8 = .ok (.iload_n 0, 1) := by decide +kernel
theorem dJ6_numberOfTrailingZeros_9 : decode cJ6_numberOfTrailingZeros 9 = .ok (.ifCond .gt 8, 3) := by decide +kernel
theorem dJ6_numberOfTrailingZeros_12 : decode cJ6_numberOfTrailingZeros 12 = .ok (.iload_n 0, 1) := by decide +kernel
theorem dJ6_numberOfTrailingZeros_13 : decode cJ6_numberOfTrailingZeros 13 = .ok (.bipush 32, 2) := by decide +kernel
theorem dJ6_numberOfTrailingZeros_15 : decode cJ6_numberOfTrailingZeros 15 = .ok (.iand, 1) := by decide +kernel
theorem dJ6_numberOfTrailingZeros_16 : decode cJ6_numberOfTrailingZeros 16 = .ok (.ireturn, 1) := by decide +kernel
theorem dJ6_numberOfTrailingZeros_17 : decode cJ6_numberOfTrailingZeros 17 = .ok (.iconst 1, 1) := by decide +kernel
theorem dJ6_numberOfTrailingZeros_18 : decode cJ6_numberOfTrailingZeros 18 = .ok (.istore_n 1, 1) := by decide +kernel
theorem dJ6_numberOfTrailingZeros_19 : decode cJ6_numberOfTrailingZeros 19 = .ok (.iload_n 0, 1) := by decide +kernel
theorem dJ6_numberOfTrailingZeros_20 : decode cJ6_numberOfTrailingZeros 20 = .ok (.ldc_w 264, 3) := by decide +kernel
theorem dJ6_numberOfTrailingZeros_23 : decode cJ6_numberOfTrailingZeros 23 = .ok (.if_icmp .le 11, 3) := by decide +kernel
theorem dJ6_numberOfTrailingZeros_26 : decode cJ6_numberOfTrailingZeros 26 = .ok (.iinc 1 16, 3) := by decide +kernel
theorem dJ6_numberOfTrailingZeros_29 : decode cJ6_numberOfTrailingZeros 29 = .ok (.iload_n 0, 1) := by decide +kernel
theorem dJ6_numberOfTrailingZeros_30 : decode cJ6_numberOfTrailingZeros 30 = .ok (.bipush 16, 2) := by decide +kernel
theorem dJ6_numberOfTrailingZeros_32 : decode cJ6_numberOfTrailingZeros 32 = .ok (.iushr, 1) := by decide +kernel
theorem dJ6_numberOfTrailingZeros_33 : decode cJ6_numberOfTrailingZeros 33 = .ok (.istore_n 0, 1) := by decide +kernel
theorem dJ6_numberOfTrailingZeros_34 : decode cJ6_numberOfTrailingZeros 34 = .ok (.iload_n 0, 1) := by decide +kernel
theorem dJ6_numberOfTrailingZeros_35 : decode cJ6_numberOfTrailingZeros 35 = .ok (.sipush 256, 3) := by decide +kernel
theorem dJ6_numberOfTrailingZeros_38 : decode cJ6_numberOfTrailingZeros 38 = .ok (.if_icmp .le 11, 3) := by decide +kernel
theorem dJ6_numberOfTrailingZeros_41 : decode cJ6_numberOfTrailingZeros 41 = .ok (.iinc 1 8, 3) := by decide +kernel
theorem dJ6_numberOfTrailingZeros_44 : decode cJ6_numberOfTrailingZeros 44 = .ok (.iload_n 0, 1) := by decide +kernel
theorem dJ6_numberOfTrailingZeros_45 : decode cJ6_numberOfTrailingZeros 45 = .ok (.bipush 8, 2) := by decide +kernel
theorem dJ6_numberOfTrailingZeros_47 : decode cJ6_numberOfTrailingZeros 47 = .ok (.iushr, 1) := by decide +kernel
theorem dJ6_numberOfTrailingZeros_48 : decode cJ6_numberOfTrailingZeros 48 = .ok (.istore_n 0, 1) := by decide +kernel
theorem dJ6_numberOfTrailingZeros_49 : decode cJ6_numberOfTrailingZeros 49 = .ok (.iload_n 0, 1) := by decide +kernel
theorem dJ6_numberOfTrailingZeros_50 : decode cJ6_numberOfTrailingZeros 50 = .ok (.bipush 16, 2) := by decide +kernel
theorem dJ6_numberOfTrailingZeros_52 : decode cJ6_numberOfTrailingZeros 52 = .ok (.if_icmp .le 10, 3) := by decide +kernel
theorem dJ6_numberOfTrailingZeros_55 : decode cJ6_numberOfTrailingZeros 55 = .ok (.iinc 1 4, 3) := by decide +kernel
theorem dJ6_numberOfTrailingZeros_58 : decode cJ6_numberOfTrailingZeros 58 = .ok (.iload_n 0, 1) := by decide +kernel
theorem dJ6_numberOfTrailingZeros_59 : decode cJ6_numberOfTrailingZeros 59 = .ok (.iconst 4, 1) := by decide +kernel
theorem dJ6_numberOfTrailingZeros_60 : decode cJ6_numberOfTrailingZeros 60 = .ok (.iushr, 1) := by decide +kernel
theorem dJ6_numberOfTrailingZeros_61 : decode cJ6_numberOfTrailingZeros 61 = .ok (.istore_n 0, 1) := by decide +kernel
theorem dJ6_numberOfTrailingZeros_62 : decode cJ6_numberOfTrailingZeros 62 = .ok (.iload_n 0, 1) := by decide +kernel
theorem dJ6_numberOfTrailingZeros_63 : decode cJ6_numberOfTrailingZeros 63 = .ok (.iconst 4, 1) := by decide +kernel
theorem dJ6_numberOfTrailingZeros_64 : decode cJ6_numberOfTrailingZeros 64 = .ok (.if_icmp .le 10, 3) := by decide +kernel
theorem dJ6_numberOfTrailingZeros_67 : decode cJ6_numberOfTrailingZeros 67 = .ok (.iinc 1 2, 3) := by decide +kernel
theorem dJ6_numberOfTrailingZeros_70 : decode cJ6_numberOfTrailingZeros 70 = .ok (.iload_n 0, 1) := by decide +kernel
theorem dJ6_numberOfTrailingZeros_71 : decode cJ6_numberOfTrailingZeros 71 = .ok (.iconst 2, 1) := by decide +kernel
theorem dJ6_numberOfTrailingZeros_72 : decode cJ6_numberOfTrailingZeros 72 = .ok (.iushr, 1) := by decide +kernel
theorem dJ6_numberOfTrailingZeros_73 : decode cJ6_numberOfTrailingZeros 73 = .ok (.istore_n 0, 1) := by decide +kernel
theorem dJ6_numberOfTrailingZeros_74 : decode cJ6_numberOfTrailingZeros 74 = .ok (.iload_n 1, 1) := by decide +kernel
theorem dJ6_numberOfTrailingZeros_75 : decode cJ6_numberOfTrailingZeros 75 = .ok (.iload_n 0, 1) := by decide +kernel
theorem dJ6_numberOfTrailingZeros_76 : decode cJ6_numberOfTrailingZeros 76 = .ok (.iconst 1, 1) := by decide +kernel
theorem dJ6_numberOfTrailingZeros_77 : decode cJ6_numberOfTrailingZeros 77 = .ok (.iushr, 1) := by decide +kernel
theorem dJ6_numberOfTrailingZeros_78 : decode cJ6_numberOfTrailingZeros 78 = .ok (.iadd, 1) := by decide +kernel
theorem dJ6_numberOfTrailingZeros_79 : decode cJ6_numberOfTrailingZeros 79 = .ok (.ireturn, 1) := by decide +kernel
theorem dX0_lastUpTo_0 : decode cX0_lastUpTo 0 = .ok (.bipush 62, 2) := by decide +kernel
theorem dX0_lastUpTo_2 : decode cX0_lastUpTo 2 = .ok (.istore 4, 2) := by decide +kernel
theorem dX0_lastUpTo_4 : decode cX0_lastUpTo 4 = .ok (.iload 4, 2) := by decide +kernel
theorem dX0_lastUpTo_6 : decode cX0_lastUpTo 6 = .ok (.ifCond .lt 55, 3) := by decide +kernel
theorem dX0_lastUpTo_9 : decode cX0_lastUpTo 9 = .ok (.aload_n 0, 1) := by decide +kernel
theorem dX0_lastUpTo_10 : decode cX0_lastUpTo 10 = .ok (.getfield 11, 3) := by decide +kernel
theorem dX0_lastUpTo_13 : decode cX0_lastUpTo 13 = .ok (.iload 4, 2) := by decide +kernel
theorem dX0_lastUpTo_15 : decode cX0_lastUpTo 15 = .ok (.laload, 1) := by decide +kernel
theorem dX0_lastUpTo_16 : decode cX0_lastUpTo 16 = .ok (.lload_n 2, 1) := by decide +kernel
theorem dX0_lastUpTo_17 : decode cX0_lastUpTo 17 = .ok (.lxor, 1) := by decide +kernel
theorem dX0_lastUpTo_18 : decode cX0_lastUpTo 18 = .ok (.iload_n 1, 1) := by decide +kernel
theorem dX0_lastUpTo_19 : decode cX0_lastUpTo 19 = .ok (.iconst 1, 1) := by decide +kernel
theorem dX0_lastUpTo_20 : decode cX0_lastUpTo 20 = .ok (.iadd, 1) := by decide +kernel
theorem dX0_lastUpTo_21 : decode cX0_lastUpTo 21 = .ok (.bipush 64, 2) := by decide +kernel
theorem dX0_lastUpTo_23 : decode cX0_lastUpTo 23 = .ok (.iload 4, 2) := by decide +kernel
theorem dX0_lastUpTo_25 : decode cX0_lastUpTo 25 = .ok (.imul, 1) := by decide +kernel
theorem dX0_lastUpTo_26 : decode cX0_lastUpTo 26 = .ok (.isub, 1) := by decide +kernel
theorem dX0_lastUpTo_27 : decode cX0_lastUpTo 27 = .ok (.invokestatic 29, 3) := by decide +kernel
theorem dX0_lastUpTo_30 : decode cX0_lastUpTo 30 = .ok (.land, 1) := by decide +kernel
theorem dX0_lastUpTo_31 : decode cX0_lastUpTo 31 = .ok (.lstore 5, 2) := by decide +kernel
theorem dX0_lastUpTo_33 : decode cX0_lastUpTo 33 = .ok (.lload 5, 2) := by decide +kernel
theorem dX0_lastUpTo_35 : decode cX0_lastUpTo 35 = .ok (.lconst 0, 1) := by decide +kernel
theorem dX0_lastUpTo_36 : decode cX0_lastUpTo 36 = .ok (.lcmp, 1) := by decide +kernel
theorem dX0_lastUpTo_37 : decode cX0_lastUpTo 37 = .ok (.ifCond .eq 18, 3) := by decide +kernel
theorem dX0_lastUpTo_40 : decode cX0_lastUpTo 40 = .ok (.bipush 64, 2) := by decide +kernel
theorem dX0_lastUpTo_42 : decode cX0_lastUpTo 42 = .ok (.iload 4, 2) := by decide +kernel
theorem dX0_lastUpTo_44 : decode cX0_lastUpTo 44 = .ok (.imul, 1) := by decide +kernel
theorem dX0_lastUpTo_45 : decode cX0_lastUpTo 45 = .ok (.bipush 63, 2) := by decide +kernel
theorem dX0_lastUpTo_47 : decode cX0_lastUpTo 47 = .ok (.iadd, 1) := by decide +kernel
theorem dX0_lastUpTo_48 : decode cX0_lastUpTo 48 = .ok (.lload 5, 2) := by decide +kernel
theorem dX0_lastUpTo_50 : decode cX0_lastUpTo 50 = .ok (.invokestatic 41, 3) := by decide +kernel
theorem dX0_lastUpTo_53 : decode cX0_lastUpTo 53 = .ok (.isub, 1) := by decide +kernel
theorem dX0_lastUpTo_54 : decode cX0_lastUpTo 54 = .ok (.ireturn, 1) := by decide +kernel
theorem dX0_lastUpTo_55 : decode cX0_lastUpTo 55 = .ok (.iinc 4 (-1), 3) := by decide +kernel
theorem dX0_lastUpTo_58 : decode cX0_lastUpTo 58 = .ok (.goto (-54), 3) := by decide +kernel
theorem dX0_lastUpTo_61 : decode cX0_lastUpTo 61 = .ok (.iconst (-1), 1) := by decide +kernel
theorem dX0_lastUpTo_62 : decode cX0_lastUpTo 62 = .ok (.ireturn, 1) := by decide +kernel
theorem dJ7_numberOfLeadingZeros_0 : decode cJ7_numberOfLeadingZeros 0 = .ok (.lload_n 0, 1) := by decide +kernel
theorem dJ7_numberOfLeadingZeros_1 : decode cJ7_numberOfLeadingZeros 1 = .ok (.bipush 32, 2) := by decide +kernel
theorem dJ7_numberOfLeadingZeros_3 : decode cJ7_numberOfLeadingZeros 3 = .ok (.lushr, 1) := by decide +kernel
theorem dJ7_numberOfLeadingZeros_4 : decode cJ7_numberOfLeadingZeros 4 = .ok (.l2i, 1) := by decide +kernel
theorem dJ7_numberOfLeadingZeros_5 : decode cJ7_numberOfLeadingZeros 5 = .ok (.istore_n 2, 1) := by decide +kernel
theorem dJ7_numberOfLeadingZeros_6 : decode cJ7_numberOfLeadingZeros 6 = .ok (.iload_n 2, 1) := by decide +kernel
theorem dJ7_numberOfLeadingZeros_7 : decode cJ7_numberOfLeadingZeros 7 = .ok (.ifCond .ne 14, 3) := by decide +kernel
theorem dJ7_numberOfLeadingZeros_10 : decode cJ7_numberOfLeadingZeros 10 = .ok (.bipush 32, 2) := by decide +kernel
theorem dJ7_numberOfLeadingZeros_12 : decode cJ7_numberOfLeadingZeros 12 = .ok (.lload_n 0, 1) := by decide +kernel
theorem dJ7_numberOfLeadingZeros_13 : decode cJ7_numberOfLeadingZeros 13 = .ok (.l2i, 1) := by decide +kernel
theorem dJ7_numberOfLeadingZeros_14 : decode cJ7_numberOfLeadingZeros 14 = .ok (.invokestatic 308, 3) := by decide +kernel
theorem dJ7_numberOfLeadingZeros_17 : decode cJ7_numberOfLeadingZeros 17 = .ok (.iadd, 1) := by decide +kernel
theorem dJ7_numberOfLeadingZeros_18 : decode cJ7_numberOfLeadingZeros 18 = .ok (.goto 7, 3) := by decide +kernel
theorem dJ7_numberOfLeadingZeros_21 : decode cJ7_numberOfLeadingZeros 21 = .ok (.iload_n 2, 1) := by decide +kernel
theorem dJ7_numberOfLeadingZeros_22 : decode cJ7_numberOfLeadingZeros 22 = .ok (.invokestatic 308, 3) := by decide +kernel
theorem dJ7_numberOfLeadingZeros_25 : decode cJ7_numberOfLeadingZeros 25 = .ok (.ireturn, 1) := by decide +kernel
theorem dJ6_numberOfLeadingZeros_0 : decode cJ6_numberOfLeadingZeros 0 = .ok (.iload_n 0, 1) := by decide +kernel
theorem dJ6_numberOfLeadingZeros_1 : decode cJ6_numberOfLeadingZeros 1 = .ok (.ifCond .gt 14, 3) := by decide +kernel
theorem dJ6_numberOfLeadingZeros_4 : decode cJ6_numberOfLeadingZeros 4 = .ok (.iload_n 0, 1) := by decide +kernel
theorem dJ6_numberOfLeadingZeros_5 : decode cJ6_numberOfLeadingZeros 5 = .ok (.ifCond .ne 8, 3) := by decide +kernel
theorem dJ6_numberOfLeadingZeros_8 : decode cJ6_numberOfLeadingZeros 8 = .ok (.bipush 32, 2) := by decide +kernel
theorem dJ6_numberOfLeadingZeros_10 : decode cJ6_numberOfLeadingZeros 10 = .ok (.goto 4, 3) := by decide +kernel
theorem dJ6_numberOfLeadingZeros_13 : decode cJ6_numberOfLeadingZeros 13 = .ok (.iconst 0, 1) := by decide +kernel
theorem dJ6_numberOfLeadingZeros_14 : decode cJ6_numberOfLeadingZeros 14 = .ok (.ireturn, 1) := by decide +kernel
theorem dJ6_numberOfLeadingZeros_15 : decode cJ6_numberOfLeadingZeros 15 = .ok (.bipush 31, 2) := by decide +kernel
theorem dJ6_numberOfLeadingZeros_17 : decode cJ6_numberOfLeadingZeros 17 = .ok (.istore_n 1, 1) := by decide +kernel
theorem dJ6_numberOfLeadingZeros_18 : decode cJ6_numberOfLeadingZeros 18 = .ok (.iload_n 0, 1) := by decide +kernel
theorem dJ6_numberOfLeadingZeros_19 : decode cJ6_numberOfLeadingZeros 19 = .ok (.ldc_w 264, 3) := by decide +kernel
theorem dJ6_numberOfLeadingZeros_22 : decode cJ6_numberOfLeadingZeros 22 = .ok (.if_icmp .lt 11, 3) := by decide +kernel
theorem dJ6_numberOfLeadingZeros_25 : decode cJ6_numberOfLeadingZeros 25 = .ok (.iinc 1 (-16), 3) := by decide +kernel
theorem dJ6_numberOfLeadingZeros_28 : decode cJ6_numberOfLeadingZeros 28 = .ok (.iload_n 0, 1) := by decide +kernel
theorem dJ6_numberOfLeadingZeros_29 : decode cJ6_numberOfLeadingZeros 29 = .ok (.bipush 16, 2) := by decide +kernel
theorem dJ6_numberOfLeadingZeros_31 : decode cJ6_numberOfLeadingZeros 31 = .ok (.iushr, 1) := by decide +kernel
theorem dJ6_numberOfLeadingZeros_32 : decode cJ6_numberOfLeadingZeros 32 = .ok (.istore_n 0, 1) := by decide +kernel
theorem dJ6_numberOfLeadingZeros_33 : decode cJ6_numberOfLeadingZeros 33 = .ok (.iload_n 0, 1) := by decide +kernel
theorem dJ6_numberOfLeadingZeros_34 : decode cJ6_numberOfLeadingZeros 34 = .ok (.sipush 256, 3) := by decide +kernel
theorem dJ6_numberOfLeadingZeros_37 : decode cJ6_numberOfLeadingZeros 37 = .ok (.if_icmp .lt 11, 3) := by decide +kernel
theorem dJ6_numberOfLeadingZeros_40 : decode cJ6_numberOfLeadingZeros 40 = .ok (.iinc 1 (-8), 3) := by decide +kernel
theorem dJ6_numberOfLeadingZeros_43 : decode cJ6_numberOfLeadingZeros 43 = .ok (.iload_n 0, 1) := by decide +kernel
theorem dJ6_numberOfLeadingZeros_44 : decode cJ6_numberOfLeadingZeros 44 = .ok (.bipush 8, 2) := by decide +kernel
theorem dJ6_numberOfLeadingZeros_46 : decode cJ6_numberOfLeadingZeros 46 = .ok (.iushr, 1) := by decide +kernel
theorem dJ6_numberOfLeadingZeros_47 : decode cJ6_numberOfLeadingZeros 47 = .ok (.istore_n 0, 1) := by decide +kernel
theorem dJ6_numberOfLeadingZeros_48 : decode cJ6_numberOfLeadingZeros 48 = .ok (.iload_n 0, 1) := by decide +kernel
theorem dJ6_numberOfLeadingZeros_49 : decode cJ6_numberOfLeadingZeros 49 = .ok (.bipush 16, 2) := by decide +kernel
theorem dJ6_numberOfLeadingZeros_51 : decode cJ6_numberOfLeadingZeros 51 = .ok (.if_icmp .lt 10, 3) := by decide +kernel
theorem dJ6_numberOfLeadingZeros_54 : decode cJ6_numberOfLeadingZeros 54 = .ok (.iinc 1 (-4), 3) := by decide +kernel
theorem dJ6_numberOfLeadingZeros_57 : decode cJ6_numberOfLeadingZeros 57 = .ok (.iload_n 0, 1) := by decide +kernel
theorem dJ6_numberOfLeadingZeros_58 : decode cJ6_numberOfLeadingZeros 58 = .ok (.iconst 4, 1) := by decide +kernel
theorem dJ6_numberOfLeadingZeros_59 : decode cJ6_numberOfLeadingZeros 59 = .ok (.iushr, 1) := by decide +kernel
theorem dJ6_numberOfLeadingZeros_60 : decode cJ6_numberOfLeadingZeros 60 = .ok (.istore_n 0, 1) := by decide +kernel
theorem dJ6_numberOfLeadingZeros_61 : decode cJ6_numberOfLeadingZeros 61 = .ok (.iload_n 0, 1) := by decide +kernel
theorem dJ6_numberOfLeadingZeros_62 : decode cJ6_numberOfLeadingZeros 62 = .ok (.iconst 4, 1) := by decide +kernel
theorem dJ6_numberOfLeadingZeros_63 : decode cJ6_numberOfLeadingZeros 63 = .ok (.if_icmp .lt 10, 3) := by decide +kernel
theorem dJ6_numberOfLeadingZeros_66 : decode cJ6_numberOfLeadingZeros 66 = .ok (.iinc 1 (-2), 3) := by decide +kernel
theorem dJ6_numberOfLeadingZeros_69 : decode cJ6_numberOfLeadingZeros 69 = .ok (.iload_n 0, 1) := by decide +kernel
theorem dJ6_numberOfLeadingZeros_70 : decode cJ6_numberOfLeadingZeros 70 = .ok (.iconst 2, 1) := by decide +kernel
theorem dJ6_numberOfLeadingZeros_71 : decode cJ6_numberOfLeadingZeros 71 = .ok (.iushr, 1) := by decide +kernel
theorem dJ6_numberOfLeadingZeros_72 : decode cJ6_numberOfLeadingZeros 72 = .ok (.istore_n 0, 1) := by decide +kernel
theorem dJ6_numberOfLeadingZeros_73 : decode cJ6_numberOfLeadingZeros 73 = .ok (.iload_n 1, 1) := by decide +kernel
theorem dJ6_numberOfLeadingZeros_74 : decode cJ6_numberOfLeadingZeros 74 = .ok (.iload_n 0, 1) := by decide +kernel
theorem dJ6_numberOfLeadingZeros_75 : decode cJ6_numberOfLeadingZeros 75 = .ok (.iconst 1, 1) := by decide +kernel
theorem dJ6_numberOfLeadingZeros_76 : decode cJ6_numberOfLeadingZeros 76 = .ok (.iushr, 1) := by decide +kernel
theorem dJ6_numberOfLeadingZeros_77 : decode cJ6_numberOfLeadingZeros 77 = .ok (.isub, 1) := by decide +kernel
theorem dJ6_numberOfLeadingZeros_78 : decode cJ6_numberOfLeadingZeros 78 = .ok (.ireturn, 1) := by decide +kernel
theorem dX2_join_0 : decode cX2_join 0 = .ok (.iload_n 1, 1) := by decide +kernel
theorem dX2_join_1 : decode cX2_join 1 = .ok (.invokestatic 23, 3) := by decide +kernel
theorem dX2_join_4 : decode cX2_join 4 = .ok (.ifCond .eq 19, 3) := by decide +kernel
theorem dX2_join_7 : decode cX2_join 7 = .ok (.iload_n 3, 1) := by decide +kernel
theorem dX2_join_8 : decode cX2_join 8 = .ok (.invokestatic 23, 3) := by decide +kernel
theorem dX2_join_11 : decode cX2_join 11 = .ok (.ifCond .eq 12, 3) := by decide +kernel
theorem dX2_join_14 : decode cX2_join 14 = .ok (.iload_n 2, 1) := by decide +kernel
theorem dX2_join_15 : decode cX2_join 15 = .ok (.ifCond .lt 8, 3) := by decide +kernel
theorem dX2_join_18 : decode cX2_join 18 = .ok (.iload_n 2, 1) := by decide +kernel
theorem dX2_join_19 : decode cX2_join 19 = .ok (.iconst 3, 1) := by decide +kernel
theorem dX2_join_20 : decode cX2_join 20 = .ok (.if_icmp .le 6, 3) := by decide +kernel
theorem dX2_join_23 : decode cX2_join 23 = .ok (.bipush (-2), 2) := by decide +kernel
theorem dX2_join_25 : decode cX2_join 25 = .ok (.ireturn, 1) := by decide +kernel
theorem dX2_join_26 : decode cX2_join 26 = .ok (.aload_n 0, 1) := by decide +kernel
theorem dX2_join_27 : decode cX2_join 27 = .ok (.getfield 11, 3) := by decide +kernel
theorem dX2_join_30 : decode cX2_join 30 = .ok (.iload_n 1, 1) := by decide +kernel
theorem dX2_join_31 : decode cX2_join 31 = .ok (.aaload, 1) := by decide +kernel
theorem dX2_join_32 : decode cX2_join 32 = .ok (.iload_n 2, 1) := by decide +kernel
theorem dX2_join_33 : decode cX2_join 33 = .ok (.aload_n 0, 1) := by decide +kernel
theorem dX2_join_34 : decode cX2_join 34 = .ok (.getfield 11, 3) := by decide +kernel
theorem dX2_join_37 : decode cX2_join 37 = .ok (.iload_n 3, 1) := by decide +kernel
theorem dX2_join_38 : decode cX2_join 38 = .ok (.aaload, 1) := by decide +kernel
theorem dX2_join_39 : decode cX2_join 39 = .ok (.invokevirtual 58, 3) := by decide +kernel
theorem dX2_join_42 : decode cX2_join 42 = .ok (.aload_n 0, 1) := by decide +kernel
theorem dX2_join_43 : decode cX2_join 43 = .ok (.getfield 11, 3) := by decide +kernel
theorem dX2_join_46 : decode cX2_join 46 = .ok (.iload_n 1, 1) := by decide +kernel
theorem dX2_join_47 : decode cX2_join 47 = .ok (.aaload, 1) := by decide +kernel
theorem dX2_join_48 : decode cX2_join 48 = .ok (.invokevirtual 45, 3) := by decide +kernel
theorem dX2_join_51 : decode cX2_join 51 = .ok (.ireturn, 1) := by decide +kernel
theorem dX0_combine_0 : decode cX0_combine 0 = .ok (.iconst 0, 1) := by decide +kernel
theorem dX0_combine_1 : decode cX0_combine 1 = .ok (.istore_n 3, 1) := by decide +kernel
theorem dX0_combine_2 : decode cX0_combine 2 = .ok (.iload_n 3, 1) := by decide +kernel
theorem dX0_combine_3 : decode cX0_combine 3 = .ok (.bipush 63, 2) := by decide +kernel
theorem dX0_combine_5 : decode cX0_combine 5 = .ok (.if_icmp .ge 31, 3) := by decide +kernel
theorem dX0_combine_8 : decode cX0_combine 8 = .ok (.aload_n 0, 1) := by decide +kernel
theorem dX0_combine_9 : decode cX0_combine 9 = .ok (.getfield 11, 3) := by decide +kernel
theorem dX0_combine_12 : decode cX0_combine 12 = .ok (.iload_n 3, 1) := by decide +kernel
