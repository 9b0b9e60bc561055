theorem dX5_ageOf_0 : decode cX5_ageOf 0 = .ok (.aload_n 0, 1) := by decide +kernel
theorem dX5_ageOf_1 : decode cX5_ageOf 1 = .ok (.getfield 7, 3) := by decide +kernel
theorem dX5_ageOf_4 : decode cX5_ageOf 4 = .ok (.iconst 5, 1) := by decide +kernel
theorem dX5_ageOf_5 : decode cX5_ageOf 5 = .ok (.iconst 3, 1) := by decide +kernel
theorem dX5_ageOf_6 : decode cX5_ageOf 6 = .ok (.iload_n 1, 1) := by decide +kernel
theorem dX5_ageOf_7 : decode cX5_ageOf 7 = .ok (.imul, 1) := by decide +kernel
theorem dX5_ageOf_8 : decode cX5_ageOf 8 = .ok (.iadd, 1) := by decide +kernel
theorem dX5_ageOf_9 : decode cX5_ageOf 9 = .ok (.iconst 2, 1) := by decide +kernel
theorem dX5_ageOf_10 : decode cX5_ageOf 10 = .ok (.iadd, 1) := by decide +kernel
theorem dX5_ageOf_11 : decode cX5_ageOf 11 = .ok (.iaload, 1) := by decide +kernel
theorem dX5_ageOf_12 : decode cX5_ageOf 12 = .ok (.ireturn, 1) := by decide +kernel
theorem dX5_ahead_0 : decode cX5_ahead 0 = .ok (.iload_n 1, 1) := by decide +kernel
theorem dX5_ahead_1 : decode cX5_ahead 1 = .ok (.invokestatic 165, 3) := by decide +kernel
theorem dX5_ahead_4 : decode cX5_ahead 4 = .ok (.ifCond .eq 19, 3) := by decide +kernel
theorem dX5_ahead_7 : decode cX5_ahead 7 = .ok (.iload_n 2, 1) := by decide +kernel
theorem dX5_ahead_8 : decode cX5_ahead 8 = .ok (.i2l, 1) := by decide +kernel
theorem dX5_ahead_9 : decode cX5_ahead 9 = .ok (.lconst 0, 1) := by decide +kernel
theorem dX5_ahead_10 : decode cX5_ahead 10 = .ok (.aload_n 0, 1) := by decide +kernel
theorem dX5_ahead_11 : decode cX5_ahead 11 = .ok (.getfield 7, 3) := by decide +kernel
theorem dX5_ahead_14 : decode cX5_ahead 14 = .ok (.iconst 1, 1) := by decide +kernel
theorem dX5_ahead_15 : decode cX5_ahead 15 = .ok (.iaload, 1) := by decide +kernel
theorem dX5_ahead_16 : decode cX5_ahead 16 = .ok (.i2l, 1) := by decide +kernel
theorem dX5_ahead_17 : decode cX5_ahead 17 = .ok (.invokestatic 46, 3) := by decide +kernel
theorem dX5_ahead_20 : decode cX5_ahead 20 = .ok (.ifCond .ne 10, 3) := by decide +kernel
theorem dX5_ahead_23 : decode cX5_ahead 23 = .ok (.aload_n 0, 1) := by decide +kernel
theorem dX5_ahead_24 : decode cX5_ahead 24 = .ok (.ldc 43, 2) := by decide +kernel
theorem dX5_ahead_26 : decode cX5_ahead 26 = .ok (.invokevirtual 75, 3) := by decide +kernel
theorem dX5_ahead_29 : decode cX5_ahead 29 = .ok (.ireturn, 1) := by decide +kernel
theorem dX5_ahead_30 : decode cX5_ahead 30 = .ok (.aload_n 0, 1) := by decide +kernel
theorem dX5_ahead_31 : decode cX5_ahead 31 = .ok (.iload_n 1, 1) := by decide +kernel
theorem dX5_ahead_32 : decode cX5_ahead 32 = .ok (.invokevirtual 168, 3) := by decide +kernel
theorem dX5_ahead_35 : decode cX5_ahead 35 = .ok (.ifCond .eq 10, 3) := by decide +kernel
theorem dX5_ahead_38 : decode cX5_ahead 38 = .ok (.aload_n 0, 1) := by decide +kernel
theorem dX5_ahead_39 : decode cX5_ahead 39 = .ok (.ldc 144, 2) := by decide +kernel
theorem dX5_ahead_41 : decode cX5_ahead 41 = .ok (.invokevirtual 75, 3) := by decide +kernel
theorem dX5_ahead_44 : decode cX5_ahead 44 = .ok (.ireturn, 1) := by decide +kernel
theorem dX5_ahead_45 : decode cX5_ahead 45 = .ok (.aload_n 0, 1) := by decide +kernel
theorem dX5_ahead_46 : decode cX5_ahead 46 = .ok (.invokevirtual 171, 3) := by decide +kernel
theorem dX5_ahead_49 : decode cX5_ahead 49 = .ok (.aload_n 0, 1) := by decide +kernel
theorem dX5_ahead_50 : decode cX5_ahead 50 = .ok (.iload_n 1, 1) := by decide +kernel
theorem dX5_ahead_51 : decode cX5_ahead 51 = .ok (.invokevirtual 174, 3) := by decide +kernel
theorem dX5_ahead_54 : decode cX5_ahead 54 = .ok (.iload_n 2, 1) := by decide +kernel
theorem dX5_ahead_55 : decode cX5_ahead 55 = .ok (.ifCond .ne 10, 3) := by decide +kernel
theorem dX5_ahead_58 : decode cX5_ahead 58 = .ok (.aload_n 0, 1) := by decide +kernel
theorem dX5_ahead_59 : decode cX5_ahead 59 = .ok (.invokevirtual 149, 3) := by decide +kernel
theorem dX5_ahead_62 : decode cX5_ahead 62 = .ok (.goto 10, 3) := by decide +kernel
theorem dX5_ahead_65 : decode cX5_ahead 65 = .ok (.aload_n 0, 1) := by decide +kernel
theorem dX5_ahead_66 : decode cX5_ahead 66 = .ok (.iload_n 2, 1) := by decide +kernel
theorem dX5_ahead_67 : decode cX5_ahead 67 = .ok (.iconst 1, 1) := by decide +kernel
theorem dX5_ahead_68 : decode cX5_ahead 68 = .ok (.isub, 1) := by decide +kernel
theorem dX5_ahead_69 : decode cX5_ahead 69 = .ok (.invokevirtual 146, 3) := by decide +kernel
theorem dX5_ahead_72 : decode cX5_ahead 72 = .ok (.istore_n 3, 1) := by decide +kernel
theorem dX5_ahead_73 : decode cX5_ahead 73 = .ok (.aload_n 0, 1) := by decide +kernel
theorem dX5_ahead_74 : decode cX5_ahead 74 = .ok (.invokevirtual 178, 3) := by decide +kernel
theorem dX5_ahead_77 : decode cX5_ahead 77 = .ok (.iload_n 3, 1) := by decide +kernel
theorem dX5_ahead_78 : decode cX5_ahead 78 = .ok (.ireturn, 1) := by decide +kernel
theorem dX5_all_0 : decode cX5_all 0 = .ok (.aload_n 0, 1) := by decide +kernel
theorem dX5_all_1 : decode cX5_all 1 = .ok (.invokevirtual 149, 3) := by decide +kernel
theorem dX5_all_4 : decode cX5_all 4 = .ok (.ireturn, 1) := by decide +kernel
theorem dX5_allTax_0 : decode cX5_allTax 0 = .ok (.iconst 0, 1) := by decide +kernel
theorem dX5_allTax_1 : decode cX5_allTax 1 = .ok (.istore_n 1, 1) := by decide +kernel
theorem dX5_allTax_2 : decode cX5_allTax 2 = .ok (.iconst 0, 1) := by decide +kernel
theorem dX5_allTax_3 : decode cX5_allTax 3 = .ok (.istore_n 2, 1) := by decide +kernel
theorem dX5_allTax_4 : decode cX5_allTax 4 = .ok (.iload_n 2, 1) := by decide +kernel
theorem dX5_allTax_5 : decode cX5_allTax 5 = .ok (.aload_n 0, 1) := by decide +kernel
theorem dX5_allTax_6 : decode cX5_allTax 6 = .ok (.getfield 7, 3) := by decide +kernel
theorem dX5_allTax_9 : decode cX5_allTax 9 = .ok (.iconst 1, 1) := by decide +kernel
theorem dX5_allTax_10 : decode cX5_allTax 10 = .ok (.iaload, 1) := by decide +kernel
theorem dX5_allTax_11 : decode cX5_allTax 11 = .ok (.if_icmp .ge 17, 3) := by decide +kernel
theorem dX5_allTax_14 : decode cX5_allTax 14 = .ok (.iload_n 1, 1) := by decide +kernel
theorem dX5_allTax_15 : decode cX5_allTax 15 = .ok (.aload_n 0, 1) := by decide +kernel
theorem dX5_allTax_16 : decode cX5_allTax 16 = .ok (.iload_n 2, 1) := by decide +kernel
theorem dX5_allTax_17 : decode cX5_allTax 17 = .ok (.invokevirtual 146, 3) := by decide +kernel
theorem dX5_allTax_20 : decode cX5_allTax 20 = .ok (.iadd, 1) := by decide +kernel
theorem dX5_allTax_21 : decode cX5_allTax 21 = .ok (.istore_n 1, 1) := by decide +kernel
theorem dX5_allTax_22 : decode cX5_allTax 22 = .ok (.iinc 2 1, 3) := by decide +kernel
theorem dX5_allTax_25 : decode cX5_allTax 25 = .ok (.goto (-21), 3) := by decide +kernel
theorem dX5_allTax_28 : decode cX5_allTax 28 = .ok (.iload_n 1, 1) := by decide +kernel
theorem dX5_allTax_29 : decode cX5_allTax 29 = .ok (.ireturn, 1) := by decide +kernel
theorem dX5_as_0 : decode cX5_as 0 = .ok (.iload_n 1, 1) := by decide +kernel
theorem dX5_as_1 : decode cX5_as 1 = .ok (.i2l, 1) := by decide +kernel
theorem dX5_as_2 : decode cX5_as 2 = .ok (.lconst 0, 1) := by decide +kernel
theorem dX5_as_3 : decode cX5_as 3 = .ok (.ldc2_w 304, 3) := by decide +kernel
theorem dX5_as_6 : decode cX5_as 6 = .ok (.invokestatic 46, 3) := by decide +kernel
theorem dX5_as_9 : decode cX5_as 9 = .ok (.ifCond .eq 10, 3) := by decide +kernel
theorem dX5_as_12 : decode cX5_as 12 = .ok (.iload_n 2, 1) := by decide +kernel
theorem dX5_as_13 : decode cX5_as 13 = .ok (.invokestatic 78, 3) := by decide +kernel
theorem dX5_as_16 : decode cX5_as 16 = .ok (.ifCond .ne 10, 3) := by decide +kernel
theorem dX5_as_19 : decode cX5_as 19 = .ok (.aload_n 0, 1) := by decide +kernel
theorem dX5_as_20 : decode cX5_as 20 = .ok (.ldc 43, 2) := by decide +kernel
theorem dX5_as_22 : decode cX5_as 22 = .ok (.invokevirtual 75, 3) := by decide +kernel
theorem dX5_as_25 : decode cX5_as 25 = .ok (.ireturn, 1) := by decide +kernel
theorem dX5_as_26 : decode cX5_as 26 = .ok (.aload_n 0, 1) := by decide +kernel
theorem dX5_as_27 : decode cX5_as 27 = .ok (.getfield 7, 3) := by decide +kernel
theorem dX5_as_30 : decode cX5_as 30 = .ok (.bipush 101, 2) := by decide +kernel
theorem dX5_as_32 : decode cX5_as 32 = .ok (.iload_n 1, 1) := by decide +kernel
theorem dX5_as_33 : decode cX5_as 33 = .ok (.iadd, 1) := by decide +kernel
theorem dX5_as_34 : decode cX5_as 34 = .ok (.iaload, 1) := by decide +kernel
theorem dX5_as_35 : decode cX5_as 35 = .ok (.istore_n 3, 1) := by decide +kernel
theorem dX5_as_36 : decode cX5_as 36 = .ok (.iload_n 3, 1) := by decide +kernel
theorem dX5_as_37 : decode cX5_as 37 = .ok (.ifCond .ge 11, 3) := by decide +kernel
theorem dX5_as_40 : decode cX5_as 40 = .ok (.aload_n 0, 1) := by decide +kernel
theorem dX5_as_41 : decode cX5_as 41 = .ok (.ldc_w 308, 3) := by decide +kernel
theorem dX5_as_44 : decode cX5_as 44 = .ok (.invokevirtual 75, 3) := by decide +kernel
theorem dX5_as_47 : decode cX5_as 47 = .ok (.ireturn, 1) := by decide +kernel
theorem dX5_as_48 : decode cX5_as 48 = .ok (.aload_n 0, 1) := by decide +kernel
theorem dX5_as_49 : decode cX5_as 49 = .ok (.iload_n 3, 1) := by decide +kernel
theorem dX5_as_50 : decode cX5_as 50 = .ok (.invokevirtual 67, 3) := by decide +kernel
theorem dX5_as_53 : decode cX5_as 53 = .ok (.istore 4, 2) := by decide +kernel
theorem dX5_as_55 : decode cX5_as 55 = .ok (.iload_n 2, 1) := by decide +kernel
theorem dX5_as_56 : decode cX5_as 56 = .ok (.ifCond .eq 32, 3) := by decide +kernel
theorem dX5_as_59 : decode cX5_as 59 = .ok (.iload 4, 2) := by decide +kernel
theorem dX5_as_61 : decode cX5_as 61 = .ok (.iload_n 2, 1) := by decide +kernel
theorem dX5_as_62 : decode cX5_as 62 = .ok (.if_icmp .eq 26, 3) := by decide +kernel
theorem dX5_as_65 : decode cX5_as 65 = .ok (.iload_n 2, 1) := by decide +kernel
theorem dX5_as_66 : decode cX5_as 66 = .ok (.iconst 1, 1) := by decide +kernel
theorem dX5_as_67 : decode cX5_as 67 = .ok (.if_icmp .ne 9, 3) := by decide +kernel
theorem dX5_as_70 : decode cX5_as 70 = .ok (.iload 4, 2) := by decide +kernel
theorem dX5_as_72 : decode cX5_as 72 = .ok (.iconst 3, 1) := by decide +kernel
theorem dX5_as_73 : decode cX5_as 73 = .ok (.if_icmp .eq 15, 3) := by decide +kernel
theorem dX5_as_76 : decode cX5_as 76 = .ok (.iload_n 2, 1) := by decide +kernel
theorem dX5_as_77 : decode cX5_as 77 = .ok (.iconst 5, 1) := by decide +kernel
theorem dX5_as_78 : decode cX5_as 78 = .ok (.if_icmp .ne 14, 3) := by decide +kernel
theorem dX5_as_81 : decode cX5_as 81 = .ok (.iload 4, 2) := by decide +kernel
theorem dX5_as_83 : decode cX5_as 83 = .ok (.bipush 6, 2) := by decide +kernel
theorem dX5_as_85 : decode cX5_as 85 = .ok (.if_icmp .ne 7, 3) := by decide +kernel
theorem dX5_as_88 : decode cX5_as 88 = .ok (.iconst 1, 1) := by decide +kernel
theorem dX5_as_89 : decode cX5_as 89 = .ok (.goto 4, 3) := by decide +kernel
theorem dX5_as_92 : decode cX5_as 92 = .ok (.iconst 0, 1) := by decide +kernel
theorem dX5_as_93 : decode cX5_as 93 = .ok (.istore 5, 2) := by decide +kernel
theorem dX5_as_95 : decode cX5_as 95 = .ok (.iload 5, 2) := by decide +kernel
theorem dX5_as_97 : decode cX5_as 97 = .ok (.ifCond .eq 7, 3) := by decide +kernel
theorem dX5_as_100 : decode cX5_as 100 = .ok (.iload_n 3, 1) := by decide +kernel
theorem dX5_as_101 : decode cX5_as 101 = .ok (.goto 10, 3) := by decide +kernel
theorem dX5_as_104 : decode cX5_as 104 = .ok (.aload_n 0, 1) := by decide +kernel
theorem dX5_as_105 : decode cX5_as 105 = .ok (.ldc_w 309, 3) := by decide +kernel
theorem dX5_as_108 : decode cX5_as 108 = .ok (.invokevirtual 75, 3) := by decide +kernel
theorem dX5_as_111 : decode cX5_as 111 = .ok (.ireturn, 1) := by decide +kernel
theorem dX5_blind_0 : decode cX5_blind 0 = .ok (.ldc 184, 2) := by decide +kernel
theorem dX5_blind_2 : decode cX5_blind 2 = .ok (.aload_n 0, 1) := by decide +kernel
theorem dX5_blind_3 : decode cX5_blind 3 = .ok (.invokevirtual 181, 3) := by decide +kernel
theorem dX5_blind_6 : decode cX5_blind 6 = .ok (.iconst (-1), 1) := by decide +kernel
theorem dX5_blind_7 : decode cX5_blind 7 = .ok (.ixor, 1) := by decide +kernel
theorem dX5_blind_8 : decode cX5_blind 8 = .ok (.iand, 1) := by decide +kernel
theorem dX5_blind_9 : decode cX5_blind 9 = .ok (.ireturn, 1) := by decide +kernel
theorem dX5_byteAt_0 : decode cX5_byteAt 0 = .ok (.iload_n 1, 1) := by decide +kernel
theorem dX5_byteAt_1 : decode cX5_byteAt 1 = .ok (.aload_n 0, 1) := by decide +kernel
theorem dX5_byteAt_2 : decode cX5_byteAt 2 = .ok (.getfield 204, 3) := by decide +kernel
theorem dX5_byteAt_5 : decode cX5_byteAt 5 = .ok (.if_icmp .ge 12, 3) := by decide +kernel
theorem dX5_byteAt_8 : decode cX5_byteAt 8 = .ok (.aload_n 0, 1) := by decide +kernel
theorem dX5_byteAt_9 : decode cX5_byteAt 9 = .ok (.getfield 28, 3) := by decide +kernel
theorem dX5_byteAt_12 : decode cX5_byteAt 12 = .ok (.iload_n 1, 1) := by decide +kernel
theorem dX5_byteAt_13 : decode cX5_byteAt 13 = .ok (.iaload, 1) := by decide +kernel
theorem dX5_byteAt_14 : decode cX5_byteAt 14 = .ok (.goto 4, 3) := by decide +kernel
theorem dX5_byteAt_17 : decode cX5_byteAt 17 = .ok (.iconst (-1), 1) := by decide +kernel
theorem dX5_byteAt_18 : decode cX5_byteAt 18 = .ok (.ireturn, 1) := by decide +kernel
theorem dX5_cell_0 : decode cX5_cell 0 = .ok (.iload_n 1, 1) := by decide +kernel
theorem dX5_cell_1 : decode cX5_cell 1 = .ok (.invokestatic 58, 3) := by decide +kernel
theorem dX5_cell_4 : decode cX5_cell 4 = .ok (.ifCond .eq 25, 3) := by decide +kernel
theorem dX5_cell_7 : decode cX5_cell 7 = .ok (.iload_n 2, 1) := by decide +kernel
theorem dX5_cell_8 : decode cX5_cell 8 = .ok (.i2l, 1) := by decide +kernel
theorem dX5_cell_9 : decode cX5_cell 9 = .ok (.lconst 0, 1) := by decide +kernel
theorem dX5_cell_10 : decode cX5_cell 10 = .ok (.lconst 1, 1) := by decide +kernel
theorem dX5_cell_11 : decode cX5_cell 11 = .ok (.invokestatic 46, 3) := by decide +kernel
theorem dX5_cell_14 : decode cX5_cell 14 = .ok (.ifCond .eq 15, 3) := by decide +kernel
theorem dX5_cell_17 : decode cX5_cell 17 = .ok (.iload_n 3, 1) := by decide +kernel
theorem dX5_cell_18 : decode cX5_cell 18 = .ok (.i2l, 1) := by decide +kernel
theorem dX5_cell_19 : decode cX5_cell 19 = .ok (.lconst 0, 1) := by decide +kernel
theorem dX5_cell_20 : decode cX5_cell 20 = .ok (.ldc2_w 73, 3) := by decide +kernel
theorem dX5_cell_23 : decode cX5_cell 23 = .ok (.invokestatic 46, 3) := by decide +kernel
theorem dX5_cell_26 : decode cX5_cell 26 = .ok (.ifCond .ne 10, 3) := by decide +kernel
theorem dX5_cell_29 : decode cX5_cell 29 = .ok (.aload_n 0, 1) := by decide +kernel
theorem dX5_cell_30 : decode cX5_cell 30 = .ok (.ldc 43, 2) := by decide +kernel
theorem dX5_cell_32 : decode cX5_cell 32 = .ok (.invokevirtual 75, 3) := by decide +kernel
theorem dX5_cell_35 : decode cX5_cell 35 = .ok (.ireturn, 1) := by decide +kernel
theorem dX5_cell_36 : decode cX5_cell 36 = .ok (.aload_n 0, 1) := by decide +kernel
theorem dX5_cell_37 : decode cX5_cell 37 = .ok (.getfield 7, 3) := by decide +kernel
theorem dX5_cell_40 : decode cX5_cell 40 = .ok (.iconst 5, 1) := by decide +kernel
theorem dX5_cell_41 : decode cX5_cell 41 = .ok (.iconst 3, 1) := by decide +kernel
theorem dX5_cell_42 : decode cX5_cell 42 = .ok (.iload_n 1, 1) := by decide +kernel
theorem dX5_cell_43 : decode cX5_cell 43 = .ok (.imul, 1) := by decide +kernel
theorem dX5_cell_44 : decode cX5_cell 44 = .ok (.iadd, 1) := by decide +kernel
theorem dX5_cell_45 : decode cX5_cell 45 = .ok (.iconst 1, 1) := by decide +kernel
theorem dX5_cell_46 : decode cX5_cell 46 = .ok (.iadd, 1) := by decide +kernel
theorem dX5_cell_47 : decode cX5_cell 47 = .ok (.iload_n 2, 1) := by decide +kernel
theorem dX5_cell_48 : decode cX5_cell 48 = .ok (.iadd, 1) := by decide +kernel
theorem dX5_cell_49 : decode cX5_cell 49 = .ok (.iaload, 1) := by decide +kernel
theorem dX5_cell_50 : decode cX5_cell 50 = .ok (.istore 4, 2) := by decide +kernel
theorem dX5_cell_52 : decode cX5_cell 52 = .ok (.aload_n 0, 1) := by decide +kernel
theorem dX5_cell_53 : decode cX5_cell 53 = .ok (.getfield 7, 3) := by decide +kernel
theorem dX5_cell_56 : decode cX5_cell 56 = .ok (.iconst 5, 1) := by decide +kernel
theorem dX5_cell_57 : decode cX5_cell 57 = .ok (.iconst 3, 1) := by decide +kernel
theorem dX5_cell_58 : decode cX5_cell 58 = .ok (.iload_n 1, 1) := by decide +kernel
theorem dX5_cell_59 : decode cX5_cell 59 = .ok (.imul, 1) := by decide +kernel
theorem dX5_cell_60 : decode cX5_cell 60 = .ok (.iadd, 1) := by decide +kernel
theorem dX5_cell_61 : decode cX5_cell 61 = .ok (.iconst 1, 1) := by decide +kernel
theorem dX5_cell_62 : decode cX5_cell 62 = .ok (.iadd, 1) := by decide +kernel
theorem dX5_cell_63 : decode cX5_cell 63 = .ok (.iload_n 2, 1) := by decide +kernel
theorem dX5_cell_64 : decode cX5_cell 64 = .ok (.iadd, 1) := by decide +kernel
theorem dX5_cell_65 : decode cX5_cell 65 = .ok (.iload_n 3, 1) := by decide +kernel
theorem dX5_cell_66 : decode cX5_cell 66 = .ok (.iastore, 1) := by decide +kernel
theorem dX5_cell_67 : decode cX5_cell 67 = .ok (.iload 4, 2) := by decide +kernel
theorem dX5_cell_69 : decode cX5_cell 69 = .ok (.ireturn, 1) := by decide +kernel
theorem dX5_cellAt_0 : decode cX5_cellAt 0 = .ok (.aload_n 0, 1) := by decide +kernel
theorem dX5_cellAt_1 : decode cX5_cellAt 1 = .ok (.getfield 7, 3) := by decide +kernel
theorem dX5_cellAt_4 : decode cX5_cellAt 4 = .ok (.bipush 77, 2) := by decide +kernel
theorem dX5_cellAt_6 : decode cX5_cellAt 6 = .ok (.iconst 3, 1) := by decide +kernel
theorem dX5_cellAt_7 : decode cX5_cellAt 7 = .ok (.iload_n 1, 1) := by decide +kernel
theorem dX5_cellAt_8 : decode cX5_cellAt 8 = .ok (.imul, 1) := by decide +kernel
theorem dX5_cellAt_9 : decode cX5_cellAt 9 = .ok (.iadd, 1) := by decide +kernel
theorem dX5_cellAt_10 : decode cX5_cellAt 10 = .ok (.iaload, 1) := by decide +kernel
theorem dX5_cellAt_11 : decode cX5_cellAt 11 = .ok (.ireturn, 1) := by decide +kernel
theorem dX5_cellItem_0 : decode cX5_cellItem 0 = .ok (.aload_n 0, 1) := by decide +kernel
theorem dX5_cellItem_1 : decode cX5_cellItem 1 = .ok (.iconst 1, 1) := by decide +kernel
theorem dX5_cellItem_2 : decode cX5_cellItem 2 = .ok (.invokevirtual 244, 3) := by decide +kernel
theorem dX5_cellItem_5 : decode cX5_cellItem 5 = .ok (.aload_n 0, 1) := by decide +kernel
theorem dX5_cellItem_6 : decode cX5_cellItem 6 = .ok (.iconst 0, 1) := by decide +kernel
theorem dX5_cellItem_7 : decode cX5_cellItem 7 = .ok (.bipush 23, 2) := by decide +kernel
theorem dX5_cellItem_9 : decode cX5_cellItem 9 = .ok (.invokevirtual 266, 3) := by decide +kernel
theorem dX5_cellItem_12 : decode cX5_cellItem 12 = .ok (.aload_n 0, 1) := by decide +kernel
theorem dX5_cellItem_13 : decode cX5_cellItem 13 = .ok (.getfield 241, 3) := by decide +kernel
theorem dX5_cellItem_16 : decode cX5_cellItem 16 = .ok (.istore_n 2, 1) := by decide +kernel
theorem dX5_cellItem_17 : decode cX5_cellItem 17 = .ok (.aload_n 0, 1) := by decide +kernel
theorem dX5_cellItem_18 : decode cX5_cellItem 18 = .ok (.aload_n 0, 1) := by decide +kernel
theorem dX5_cellItem_19 : decode cX5_cellItem 19 = .ok (.invokevirtual 248, 3) := by decide +kernel
theorem dX5_cellItem_22 : decode cX5_cellItem 22 = .ok (.ldc2_w 268, 3) := by decide +kernel
theorem dX5_cellItem_25 : decode cX5_cellItem 25 = .ok (.lcmp, 1) := by decide +kernel
theorem dX5_cellItem_26 : decode cX5_cellItem 26 = .ok (.ifCond .ne 7, 3) := by decide +kernel
theorem dX5_cellItem_29 : decode cX5_cellItem 29 = .ok (.iconst 1, 1) := by decide +kernel
theorem dX5_cellItem_30 : decode cX5_cellItem 30 = .ok (.goto 4, 3) := by decide +kernel
theorem dX5_cellItem_33 : decode cX5_cellItem 33 = .ok (.iconst 0, 1) := by decide +kernel
theorem dX5_cellItem_34 : decode cX5_cellItem 34 = .ok (.iload_n 2, 1) := by decide +kernel
theorem dX5_cellItem_35 : decode cX5_cellItem 35 = .ok (.bipush 23, 2) := by decide +kernel
theorem dX5_cellItem_37 : decode cX5_cellItem 37 = .ok (.iload_n 2, 1) := by decide +kernel
theorem dX5_cellItem_38 : decode cX5_cellItem 38 = .ok (.invokevirtual 270, 3) := by decide +kernel
theorem dX5_cellItem_41 : decode cX5_cellItem 41 = .ok (.istore_n 3, 1) := by decide +kernel
theorem dX5_cellItem_42 : decode cX5_cellItem 42 = .ok (.aload_n 0, 1) := by decide +kernel
theorem dX5_cellItem_43 : decode cX5_cellItem 43 = .ok (.aload_n 0, 1) := by decide +kernel
theorem dX5_cellItem_44 : decode cX5_cellItem 44 = .ok (.invokevirtual 248, 3) := by decide +kernel
theorem dX5_cellItem_47 : decode cX5_cellItem 47 = .ok (.ldc2_w 274, 3) := by decide +kernel
theorem dX5_cellItem_50 : decode cX5_cellItem 50 = .ok (.lcmp, 1) := by decide +kernel
theorem dX5_cellItem_51 : decode cX5_cellItem 51 = .ok (.ifCond .ne 7, 3) := by decide +kernel
theorem dX5_cellItem_54 : decode cX5_cellItem 54 = .ok (.iconst 1, 1) := by decide +kernel
theorem dX5_cellItem_55 : decode cX5_cellItem 55 = .ok (.goto 4, 3) := by decide +kernel
theorem dX5_cellItem_58 : decode cX5_cellItem 58 = .ok (.iconst 0, 1) := by decide +kernel
theorem dX5_cellItem_59 : decode cX5_cellItem 59 = .ok (.iconst 0, 1) := by decide +kernel
theorem dX5_cellItem_60 : decode cX5_cellItem 60 = .ok (.bipush 99, 2) := by decide +kernel
theorem dX5_cellItem_62 : decode cX5_cellItem 62 = .ok (.iconst (-1), 1) := by decide +kernel
theorem dX5_cellItem_63 : decode cX5_cellItem 63 = .ok (.invokevirtual 270, 3) := by decide +kernel
theorem dX5_cellItem_66 : decode cX5_cellItem 66 = .ok (.istore 4, 2) := by decide +kernel
theorem dX5_cellItem_68 : decode cX5_cellItem 68 = .ok (.aload_n 0, 1) := by decide +kernel
theorem dX5_cellItem_69 : decode cX5_cellItem 69 = .ok (.aload_n 0, 1) := by decide +kernel
theorem dX5_cellItem_70 : decode cX5_cellItem 70 = .ok (.invokevirtual 248, 3) := by decide +kernel
theorem dX5_cellItem_73 : decode cX5_cellItem 73 = .ok (.ldc2_w 276, 3) := by decide +kernel
theorem dX5_cellItem_76 : decode cX5_cellItem 76 = .ok (.lcmp, 1) := by decide +kernel
theorem dX5_cellItem_77 : decode cX5_cellItem 77 = .ok (.ifCond .ne 7, 3) := by decide +kernel
theorem dX5_cellItem_80 : decode cX5_cellItem 80 = .ok (.iconst 1, 1) := by decide +kernel
theorem dX5_cellItem_81 : decode cX5_cellItem 81 = .ok (.goto 4, 3) := by decide +kernel
theorem dX5_cellItem_84 : decode cX5_cellItem 84 = .ok (.iconst 0, 1) := by decide +kernel
theorem dX5_cellItem_85 : decode cX5_cellItem 85 = .ok (.iconst 0, 1) := by decide +kernel
theorem dX5_cellItem_86 : decode cX5_cellItem 86 = .ok (.bipush 99, 2) := by decide +kernel
theorem dX5_cellItem_88 : decode cX5_cellItem 88 = .ok (.iconst 0, 1) := by decide +kernel
theorem dX5_cellItem_89 : decode cX5_cellItem 89 = .ok (.invokevirtual 270, 3) := by decide +kernel
theorem dX5_cellItem_92 : decode cX5_cellItem 92 = .ok (.istore 5, 2) := by decide +kernel
theorem dX5_cellItem_94 : decode cX5_cellItem 94 = .ok (.iload_n 2, 1) := by decide +kernel
theorem dX5_cellItem_95 : decode cX5_cellItem 95 = .ok (.istore 6, 2) := by decide +kernel
theorem dX5_cellItem_97 : decode cX5_cellItem 97 = .ok (.iload 6, 2) := by decide +kernel
theorem dX5_cellItem_99 : decode cX5_cellItem 99 = .ok (.iload_n 3, 1) := by decide +kernel
theorem dX5_cellItem_100 : decode cX5_cellItem 100 = .ok (.if_icmp .gt 79, 3) := by decide +kernel
theorem dX5_cellItem_103 : decode cX5_cellItem 103 = .ok (.aload_n 0, 1) := by decide +kernel
theorem dX5_cellItem_104 : decode cX5_cellItem 104 = .ok (.getfield 230, 3) := by decide +kernel
theorem dX5_cellItem_107 : decode cX5_cellItem 107 = .ok (.ifCond .ne 72, 3) := by decide +kernel
theorem dX5_cellItem_110 : decode cX5_cellItem 110 = .ok (.aload_n 0, 1) := by decide +kernel
theorem dX5_cellItem_111 : decode cX5_cellItem 111 = .ok (.getfield 7, 3) := by decide +kernel
theorem dX5_cellItem_114 : decode cX5_cellItem 114 = .ok (.iconst 5, 1) := by decide +kernel
theorem dX5_cellItem_115 : decode cX5_cellItem 115 = .ok (.iconst 3, 1) := by decide +kernel
theorem dX5_cellItem_116 : decode cX5_cellItem 116 = .ok (.iload 6, 2) := by decide +kernel
theorem dX5_cellItem_118 : decode cX5_cellItem 118 = .ok (.imul, 1) := by decide +kernel
theorem dX5_cellItem_119 : decode cX5_cellItem 119 = .ok (.iadd, 1) := by decide +kernel
theorem dX5_cellItem_120 : decode cX5_cellItem 120 = .ok (.iload_n 1, 1) := by decide +kernel
theorem dX5_cellItem_121 : decode cX5_cellItem 121 = .ok (.iastore, 1) := by decide +kernel
theorem dX5_cellItem_122 : decode cX5_cellItem 122 = .ok (.aload_n 0, 1) := by decide +kernel
theorem dX5_cellItem_123 : decode cX5_cellItem 123 = .ok (.getfield 7, 3) := by decide +kernel
theorem dX5_cellItem_126 : decode cX5_cellItem 126 = .ok (.iconst 5, 1) := by decide +kernel
theorem dX5_cellItem_127 : decode cX5_cellItem 127 = .ok (.iconst 3, 1) := by decide +kernel
theorem dX5_cellItem_128 : decode cX5_cellItem 128 = .ok (.iload 6, 2) := by decide +kernel
theorem dX5_cellItem_130 : decode cX5_cellItem 130 = .ok (.imul, 1) := by decide +kernel
theorem dX5_cellItem_131 : decode cX5_cellItem 131 = .ok (.iadd, 1) := by decide +kernel
theorem dX5_cellItem_132 : decode cX5_cellItem 132 = .ok (.iconst 1, 1) := by decide +kernel
theorem dX5_cellItem_133 : decode cX5_cellItem 133 = .ok (.iadd, 1) := by decide +kernel
theorem dX5_cellItem_134 : decode cX5_cellItem 134 = .ok (.iload 4, 2) := by decide +kernel
theorem dX5_cellItem_136 : decode cX5_cellItem 136 = .ok (.ifCond .ge 19, 3) := by decide +kernel
theorem dX5_cellItem_139 : decode cX5_cellItem 139 = .ok (.aload_n 0, 1) := by decide +kernel
theorem dX5_cellItem_140 : decode cX5_cellItem 140 = .ok (.getfield 7, 3) := by decide +kernel
theorem dX5_cellItem_143 : decode cX5_cellItem 143 = .ok (.iconst 5, 1) := by decide +kernel
theorem dX5_cellItem_144 : decode cX5_cellItem 144 = .ok (.iconst 3, 1) := by decide +kernel
theorem dX5_cellItem_145 : decode cX5_cellItem 145 = .ok (.iload 6, 2) := by decide +kernel
theorem dX5_cellItem_147 : decode cX5_cellItem 147 = .ok (.imul, 1) := by decide +kernel
theorem dX5_cellItem_148 : decode cX5_cellItem 148 = .ok (.iadd, 1) := by decide +kernel
theorem dX5_cellItem_149 : decode cX5_cellItem 149 = .ok (.iconst 1, 1) := by decide +kernel
theorem dX5_cellItem_150 : decode cX5_cellItem 150 = .ok (.iadd, 1) := by decide +kernel
theorem dX5_cellItem_151 : decode cX5_cellItem 151 = .ok (.iaload, 1) := by decide +kernel
theorem dX5_cellItem_152 : decode cX5_cellItem 152 = .ok (.goto 5, 3) := by decide +kernel
theorem dX5_cellItem_155 : decode cX5_cellItem 155 = .ok (.iload 4, 2) := by decide +kernel
theorem dX5_cellItem_157 : decode cX5_cellItem 157 = .ok (.iastore, 1) := by decide +kernel
theorem dX5_cellItem_158 : decode cX5_cellItem 158 = .ok (.aload_n 0, 1) := by decide +kernel
theorem dX5_cellItem_159 : decode cX5_cellItem 159 = .ok (.getfield 7, 3) := by decide +kernel
theorem dX5_cellItem_162 : decode cX5_cellItem 162 = .ok (.iconst 5, 1) := by decide +kernel
theorem dX5_cellItem_163 : decode cX5_cellItem 163 = .ok (.iconst 3, 1) := by decide +kernel
theorem dX5_cellItem_164 : decode cX5_cellItem 164 = .ok (.iload 6, 2) := by decide +kernel
theorem dX5_cellItem_166 : decode cX5_cellItem 166 = .ok (.imul, 1) := by decide +kernel
theorem dX5_cellItem_167 : decode cX5_cellItem 167 = .ok (.iadd, 1) := by decide +kernel
theorem dX5_cellItem_168 : decode cX5_cellItem 168 = .ok (.iconst 2, 1) := by decide +kernel
theorem dX5_cellItem_169 : decode cX5_cellItem 169 = .ok (.iadd, 1) := by decide +kernel
theorem dX5_cellItem_170 : decode cX5_cellItem 170 = .ok (.iload 5, 2) := by decide +kernel
theorem dX5_cellItem_172 : decode cX5_cellItem 172 = .ok (.iastore, 1) := by decide +kernel
theorem dX5_cellItem_173 : decode cX5_cellItem 173 = .ok (.iinc 6 1, 3) := by decide +kernel
theorem dX5_cellItem_176 : decode cX5_cellItem 176 = .ok (.goto (-79), 3) := by decide +kernel
theorem dX5_cellItem_179 : decode cX5_cellItem 179 = .ok (.return_, 1) := by decide +kernel
theorem dX5_cellOf_0 : decode cX5_cellOf 0 = .ok (.iload_n 1, 1) := by decide +kernel
theorem dX5_cellOf_1 : decode cX5_cellOf 1 = .ok (.invokestatic 58, 3) := by decide +kernel
theorem dX5_cellOf_4 : decode cX5_cellOf 4 = .ok (.ifCond .eq 15, 3) := by decide +kernel
theorem dX5_cellOf_7 : decode cX5_cellOf 7 = .ok (.iload_n 2, 1) := by decide +kernel
theorem dX5_cellOf_8 : decode cX5_cellOf 8 = .ok (.i2l, 1) := by decide +kernel
theorem dX5_cellOf_9 : decode cX5_cellOf 9 = .ok (.lconst 0, 1) := by decide +kernel
theorem dX5_cellOf_10 : decode cX5_cellOf 10 = .ok (.ldc2_w 85, 3) := by decide +kernel
theorem dX5_cellOf_13 : decode cX5_cellOf 13 = .ok (.invokestatic 46, 3) := by decide +kernel
theorem dX5_cellOf_16 : decode cX5_cellOf 16 = .ok (.ifCond .ne 10, 3) := by decide +kernel
theorem dX5_cellOf_19 : decode cX5_cellOf 19 = .ok (.aload_n 0, 1) := by decide +kernel
theorem dX5_cellOf_20 : decode cX5_cellOf 20 = .ok (.ldc 43, 2) := by decide +kernel
theorem dX5_cellOf_22 : decode cX5_cellOf 22 = .ok (.invokevirtual 75, 3) := by decide +kernel
theorem dX5_cellOf_25 : decode cX5_cellOf 25 = .ok (.ireturn, 1) := by decide +kernel
theorem dX5_cellOf_26 : decode cX5_cellOf 26 = .ok (.iload_n 2, 1) := by decide +kernel
theorem dX5_cellOf_27 : decode cX5_cellOf 27 = .ok (.iconst 3, 1) := by decide +kernel
theorem dX5_cellOf_28 : decode cX5_cellOf 28 = .ok (.if_icmp .ge 18, 3) := by decide +kernel
theorem dX5_cellOf_31 : decode cX5_cellOf 31 = .ok (.aload_n 0, 1) := by decide +kernel
theorem dX5_cellOf_32 : decode cX5_cellOf 32 = .ok (.getfield 7, 3) := by decide +kernel
theorem dX5_cellOf_35 : decode cX5_cellOf 35 = .ok (.iconst 5, 1) := by decide +kernel
theorem dX5_cellOf_36 : decode cX5_cellOf 36 = .ok (.iconst 3, 1) := by decide +kernel
theorem dX5_cellOf_37 : decode cX5_cellOf 37 = .ok (.iload_n 1, 1) := by decide +kernel
theorem dX5_cellOf_38 : decode cX5_cellOf 38 = .ok (.imul, 1) := by decide +kernel
theorem dX5_cellOf_39 : decode cX5_cellOf 39 = .ok (.iadd, 1) := by decide +kernel
theorem dX5_cellOf_40 : decode cX5_cellOf 40 = .ok (.iload_n 2, 1) := by decide +kernel
theorem dX5_cellOf_41 : decode cX5_cellOf 41 = .ok (.iadd, 1) := by decide +kernel
theorem dX5_cellOf_42 : decode cX5_cellOf 42 = .ok (.iaload, 1) := by decide +kernel
theorem dX5_cellOf_43 : decode cX5_cellOf 43 = .ok (.goto 21, 3) := by decide +kernel
theorem dX5_cellOf_46 : decode cX5_cellOf 46 = .ok (.iload_n 2, 1) := by decide +kernel
theorem dX5_cellOf_47 : decode cX5_cellOf 47 = .ok (.iconst 3, 1) := by decide +kernel
theorem dX5_cellOf_48 : decode cX5_cellOf 48 = .ok (.if_icmp .ne 11, 3) := by decide +kernel
theorem dX5_cellOf_51 : decode cX5_cellOf 51 = .ok (.aload_n 0, 1) := by decide +kernel
theorem dX5_cellOf_52 : decode cX5_cellOf 52 = .ok (.iload_n 1, 1) := by decide +kernel
theorem dX5_cellOf_53 : decode cX5_cellOf 53 = .ok (.invokevirtual 87, 3) := by decide +kernel
theorem dX5_cellOf_56 : decode cX5_cellOf 56 = .ok (.goto 8, 3) := by decide +kernel
theorem dX5_cellOf_59 : decode cX5_cellOf 59 = .ok (.aload_n 0, 1) := by decide +kernel
theorem dX5_cellOf_60 : decode cX5_cellOf 60 = .ok (.iload_n 1, 1) := by decide +kernel
theorem dX5_cellOf_61 : decode cX5_cellOf 61 = .ok (.invokevirtual 90, 3) := by decide +kernel
theorem dX5_cellOf_64 : decode cX5_cellOf 64 = .ok (.ireturn, 1) := by decide +kernel
theorem dX5_cheapest_0 : decode cX5_cheapest 0 = .ok (.aload_n 0, 1) := by decide +kernel
theorem dX5_cheapest_1 : decode cX5_cheapest 1 = .ok (.iload_n 1, 1) := by decide +kernel
theorem dX5_cheapest_2 : decode cX5_cheapest 2 = .ok (.invokevirtual 104, 3) := by decide +kernel
theorem dX5_cheapest_5 : decode cX5_cheapest 5 = .ok (.ifCond .eq 11, 3) := by decide +kernel
theorem dX5_cheapest_8 : decode cX5_cheapest 8 = .ok (.aload_n 0, 1) := by decide +kernel
theorem dX5_cheapest_9 : decode cX5_cheapest 9 = .ok (.iload_n 1, 1) := by decide +kernel
theorem dX5_cheapest_10 : decode cX5_cheapest 10 = .ok (.invokevirtual 153, 3) := by decide +kernel
theorem dX5_cheapest_13 : decode cX5_cheapest 13 = .ok (.goto 9, 3) := by decide +kernel
theorem dX5_cheapest_16 : decode cX5_cheapest 16 = .ok (.aload_n 0, 1) := by decide +kernel
theorem dX5_cheapest_17 : decode cX5_cheapest 17 = .ok (.ldc 43, 2) := by decide +kernel
theorem dX5_cheapest_19 : decode cX5_cheapest 19 = .ok (.invokevirtual 75, 3) := by decide +kernel
theorem dX5_cheapest_22 : decode cX5_cheapest 22 = .ok (.ireturn, 1) := by decide +kernel
theorem dX5_copy_0 : decode cX5_copy 0 = .ok (.iload_n 1, 1) := by decide +kernel
theorem dX5_copy_1 : decode cX5_copy 1 = .ok (.invokestatic 310, 3) := by decide +kernel
theorem dX5_copy_4 : decode cX5_copy 4 = .ok (.ifCond .eq 10, 3) := by decide +kernel
theorem dX5_copy_7 : decode cX5_copy 7 = .ok (.iload_n 3, 1) := by decide +kernel
theorem dX5_copy_8 : decode cX5_copy 8 = .ok (.invokestatic 310, 3) := by decide +kernel
theorem dX5_copy_11 : decode cX5_copy 11 = .ok (.ifCond .ne 10, 3) := by decide +kernel
theorem dX5_copy_14 : decode cX5_copy 14 = .ok (.aload_n 0, 1) := by decide +kernel
theorem dX5_copy_15 : decode cX5_copy 15 = .ok (.ldc 43, 2) := by decide +kernel
theorem dX5_copy_17 : decode cX5_copy 17 = .ok (.invokevirtual 75, 3) := by decide +kernel
theorem dX5_copy_20 : decode cX5_copy 20 = .ok (.ireturn, 1) := by decide +kernel
theorem dX5_copy_21 : decode cX5_copy 21 = .ok (.aload_n 0, 1) := by decide +kernel
theorem dX5_copy_22 : decode cX5_copy 22 = .ok (.getfield 31, 3) := by decide +kernel
theorem dX5_copy_25 : decode cX5_copy 25 = .ok (.iload_n 1, 1) := by decide +kernel
theorem dX5_copy_26 : decode cX5_copy 26 = .ok (.iaload, 1) := by decide +kernel
theorem dX5_copy_27 : decode cX5_copy 27 = .ok (.ifCond .eq 12, 3) := by decide +kernel
theorem dX5_copy_30 : decode cX5_copy 30 = .ok (.aload_n 0, 1) := by decide +kernel
theorem dX5_copy_31 : decode cX5_copy 31 = .ok (.getfield 31, 3) := by decide +kernel
theorem dX5_copy_34 : decode cX5_copy 34 = .ok (.iload_n 3, 1) := by decide +kernel
theorem dX5_copy_35 : decode cX5_copy 35 = .ok (.iaload, 1) := by decide +kernel
theorem dX5_copy_36 : decode cX5_copy 36 = .ok (.ifCond .ne 11, 3) := by decide +kernel
theorem dX5_copy_39 : decode cX5_copy 39 = .ok (.aload_n 0, 1) := by decide +kernel
theorem dX5_copy_40 : decode cX5_copy 40 = .ok (.ldc_w 308, 3) := by decide +kernel
theorem dX5_copy_43 : decode cX5_copy 43 = .ok (.invokevirtual 75, 3) := by decide +kernel
theorem dX5_copy_46 : decode cX5_copy 46 = .ok (.ireturn, 1) := by decide +kernel
theorem dX5_copy_47 : decode cX5_copy 47 = .ok (.aload_n 0, 1) := by decide +kernel
theorem dX5_copy_48 : decode cX5_copy 48 = .ok (.getfield 31, 3) := by decide +kernel
theorem dX5_copy_51 : decode cX5_copy 51 = .ok (.iload_n 1, 1) := by decide +kernel
theorem dX5_copy_52 : decode cX5_copy 52 = .ok (.iaload, 1) := by decide +kernel
theorem dX5_copy_53 : decode cX5_copy 53 = .ok (.aload_n 0, 1) := by decide +kernel
theorem dX5_copy_54 : decode cX5_copy 54 = .ok (.getfield 31, 3) := by decide +kernel
theorem dX5_copy_57 : decode cX5_copy 57 = .ok (.iload_n 3, 1) := by decide +kernel
theorem dX5_copy_58 : decode cX5_copy 58 = .ok (.iaload, 1) := by decide +kernel
theorem dX5_copy_59 : decode cX5_copy 59 = .ok (.if_icmp .eq 11, 3) := by decide +kernel
theorem dX5_copy_62 : decode cX5_copy 62 = .ok (.aload_n 0, 1) := by decide +kernel
theorem dX5_copy_63 : decode cX5_copy 63 = .ok (.ldc_w 309, 3) := by decide +kernel
theorem dX5_copy_66 : decode cX5_copy 66 = .ok (.invokevirtual 75, 3) := by decide +kernel
theorem dX5_copy_69 : decode cX5_copy 69 = .ok (.ireturn, 1) := by decide +kernel
theorem dX5_copy_70 : decode cX5_copy 70 = .ok (.iload_n 2, 1) := by decide +kernel
theorem dX5_copy_71 : decode cX5_copy 71 = .ok (.ifCond .lt 40, 3) := by decide +kernel
theorem dX5_copy_74 : decode cX5_copy 74 = .ok (.iload 4, 2) := by decide +kernel
theorem dX5_copy_76 : decode cX5_copy 76 = .ok (.ifCond .lt 35, 3) := by decide +kernel
theorem dX5_copy_79 : decode cX5_copy 79 = .ok (.iload 5, 2) := by decide +kernel
theorem dX5_copy_81 : decode cX5_copy 81 = .ok (.ifCond .lt 30, 3) := by decide +kernel
theorem dX5_copy_84 : decode cX5_copy 84 = .ok (.iload 5, 2) := by decide +kernel
theorem dX5_copy_86 : decode cX5_copy 86 = .ok (.aload_n 0, 1) := by decide +kernel
theorem dX5_copy_87 : decode cX5_copy 87 = .ok (.getfield 34, 3) := by decide +kernel
theorem dX5_copy_90 : decode cX5_copy 90 = .ok (.iload_n 1, 1) := by decide +kernel
theorem dX5_copy_91 : decode cX5_copy 91 = .ok (.iaload, 1) := by decide +kernel
theorem dX5_copy_92 : decode cX5_copy 92 = .ok (.iload_n 2, 1) := by decide +kernel
theorem dX5_copy_93 : decode cX5_copy 93 = .ok (.isub, 1) := by decide +kernel
theorem dX5_copy_94 : decode cX5_copy 94 = .ok (.if_icmp .gt 17, 3) := by decide +kernel
theorem dX5_copy_97 : decode cX5_copy 97 = .ok (.iload 5, 2) := by decide +kernel
theorem dX5_copy_99 : decode cX5_copy 99 = .ok (.aload_n 0, 1) := by decide +kernel
theorem dX5_copy_100 : decode cX5_copy 100 = .ok (.getfield 34, 3) := by decide +kernel
theorem dX5_copy_103 : decode cX5_copy 103 = .ok (.iload_n 3, 1) := by decide +kernel
theorem dX5_copy_104 : decode cX5_copy 104 = .ok (.iaload, 1) := by decide +kernel
theorem dX5_copy_105 : decode cX5_copy 105 = .ok (.iload 4, 2) := by decide +kernel
theorem dX5_copy_107 : decode cX5_copy 107 = .ok (.isub, 1) := by decide +kernel
theorem dX5_copy_108 : decode cX5_copy 108 = .ok (.if_icmp .le 10, 3) := by decide +kernel
theorem dX5_copy_111 : decode cX5_copy 111 = .ok (.aload_n 0, 1) := by decide +kernel
theorem dX5_copy_112 : decode cX5_copy 112 = .ok (.ldc 43, 2) := by decide +kernel
theorem dX5_copy_114 : decode cX5_copy 114 = .ok (.invokevirtual 75, 3) := by decide +kernel
theorem dX5_copy_117 : decode cX5_copy 117 = .ok (.ireturn, 1) := by decide +kernel
theorem dX5_copy_118 : decode cX5_copy 118 = .ok (.iconst 0, 1) := by decide +kernel
theorem dX5_copy_119 : decode cX5_copy 119 = .ok (.istore 6, 2) := by decide +kernel
theorem dX5_copy_121 : decode cX5_copy 121 = .ok (.iload 6, 2) := by decide +kernel
theorem dX5_copy_123 : decode cX5_copy 123 = .ok (.iload 5, 2) := by decide +kernel
theorem dX5_copy_125 : decode cX5_copy 125 = .ok (.if_icmp .ge 30, 3) := by decide +kernel
theorem dX5_copy_128 : decode cX5_copy 128 = .ok (.aload_n 0, 1) := by decide +kernel
theorem dX5_copy_129 : decode cX5_copy 129 = .ok (.getfield 40, 3) := by decide +kernel
theorem dX5_copy_132 : decode cX5_copy 132 = .ok (.iload 6, 2) := by decide +kernel
theorem dX5_copy_134 : decode cX5_copy 134 = .ok (.aload_n 0, 1) := by decide +kernel
theorem dX5_copy_135 : decode cX5_copy 135 = .ok (.getfield 37, 3) := by decide +kernel
theorem dX5_copy_138 : decode cX5_copy 138 = .ok (.bipush 40, 2) := by decide +kernel
theorem dX5_copy_140 : decode cX5_copy 140 = .ok (.iload_n 1, 1) := by decide +kernel
theorem dX5_copy_141 : decode cX5_copy 141 = .ok (.imul, 1) := by decide +kernel
theorem dX5_copy_142 : decode cX5_copy 142 = .ok (.iload_n 2, 1) := by decide +kernel
theorem dX5_copy_143 : decode cX5_copy 143 = .ok (.iadd, 1) := by decide +kernel
theorem dX5_copy_144 : decode cX5_copy 144 = .ok (.iload 6, 2) := by decide +kernel
theorem dX5_copy_146 : decode cX5_copy 146 = .ok (.iadd, 1) := by decide +kernel
theorem dX5_copy_147 : decode cX5_copy 147 = .ok (.iaload, 1) := by decide +kernel
theorem dX5_copy_148 : decode cX5_copy 148 = .ok (.iastore, 1) := by decide +kernel
theorem dX5_copy_149 : decode cX5_copy 149 = .ok (.iinc 6 1, 3) := by decide +kernel
theorem dX5_copy_152 : decode cX5_copy 152 = .ok (.goto (-31), 3) := by decide +kernel
theorem dX5_copy_155 : decode cX5_copy 155 = .ok (.iconst 0, 1) := by decide +kernel
theorem dX5_copy_156 : decode cX5_copy 156 = .ok (.istore 6, 2) := by decide +kernel
theorem dX5_copy_158 : decode cX5_copy 158 = .ok (.iload 6, 2) := by decide +kernel
theorem dX5_copy_160 : decode cX5_copy 160 = .ok (.iload 5, 2) := by decide +kernel
theorem dX5_copy_162 : decode cX5_copy 162 = .ok (.if_icmp .ge 31, 3) := by decide +kernel
theorem dX5_copy_165 : decode cX5_copy 165 = .ok (.aload_n 0, 1) := by decide +kernel
theorem dX5_copy_166 : decode cX5_copy 166 = .ok (.getfield 37, 3) := by decide +kernel
theorem dX5_copy_169 : decode cX5_copy 169 = .ok (.bipush 40, 2) := by decide +kernel
theorem dX5_copy_171 : decode cX5_copy 171 = .ok (.iload_n 3, 1) := by decide +kernel
theorem dX5_copy_172 : decode cX5_copy 172 = .ok (.imul, 1) := by decide +kernel
theorem dX5_copy_173 : decode cX5_copy 173 = .ok (.iload 4, 2) := by decide +kernel
theorem dX5_copy_175 : decode cX5_copy 175 = .ok (.iadd, 1) := by decide +kernel
theorem dX5_copy_176 : decode cX5_copy 176 = .ok (.iload 6, 2) := by decide +kernel
theorem dX5_copy_178 : decode cX5_copy 178 = .ok (.iadd, 1) := by decide +kernel
theorem dX5_copy_179 : decode cX5_copy 179 = .ok (.aload_n 0, 1) := by decide +kernel
theorem dX5_copy_180 : decode cX5_copy 180 = .ok (.getfield 40, 3) := by decide +kernel
theorem dX5_copy_183 : decode cX5_copy 183 = .ok (.iload 6, 2) := by decide +kernel
theorem dX5_copy_185 : decode cX5_copy 185 = .ok (.iaload, 1) := by decide +kernel
theorem dX5_copy_186 : decode cX5_copy 186 = .ok (.iastore, 1) := by decide +kernel
theorem dX5_copy_187 : decode cX5_copy 187 = .ok (.iinc 6 1, 3) := by decide +kernel
theorem dX5_copy_190 : decode cX5_copy 190 = .ok (.goto (-32), 3) := by decide +kernel
theorem dX5_copy_193 : decode cX5_copy 193 = .ok (.iload 5, 2) := by decide +kernel
theorem dX5_copy_195 : decode cX5_copy 195 = .ok (.ireturn, 1) := by decide +kernel
theorem dX5_count_0 : decode cX5_count 0 = .ok (.iload_n 1, 1) := by decide +kernel
theorem dX5_count_1 : decode cX5_count 1 = .ok (.tableswitch 120 0 6 #[43, 50, 57, 62, 70, 75, 82], 43) := by decide +kernel
theorem dX5_count_44 : decode cX5_count 44 = .ok (.aload_n 0, 1) := by decide +kernel
theorem dX5_count_45 : decode cX5_count 45 = .ok (.getfield 7, 3) := by decide +kernel
theorem dX5_count_48 : decode cX5_count 48 = .ok (.iconst 0, 1) := by decide +kernel
theorem dX5_count_49 : decode cX5_count 49 = .ok (.iaload, 1) := by decide +kernel
theorem dX5_count_50 : decode cX5_count 50 = .ok (.ireturn, 1) := by decide +kernel
theorem dX5_count_51 : decode cX5_count 51 = .ok (.aload_n 0, 1) := by decide +kernel
theorem dX5_count_52 : decode cX5_count 52 = .ok (.getfield 7, 3) := by decide +kernel
theorem dX5_count_55 : decode cX5_count 55 = .ok (.iconst 1, 1) := by decide +kernel
theorem dX5_count_56 : decode cX5_count 56 = .ok (.iaload, 1) := by decide +kernel
theorem dX5_count_57 : decode cX5_count 57 = .ok (.ireturn, 1) := by decide +kernel
theorem dX5_count_58 : decode cX5_count 58 = .ok (.aload_n 0, 1) := by decide +kernel
theorem dX5_count_59 : decode cX5_count 59 = .ok (.invokevirtual 149, 3) := by decide +kernel
theorem dX5_count_62 : decode cX5_count 62 = .ok (.ireturn, 1) := by decide +kernel
theorem dX5_count_63 : decode cX5_count 63 = .ok (.aload_n 0, 1) := by decide +kernel
theorem dX5_count_64 : decode cX5_count 64 = .ok (.invokevirtual 181, 3) := by decide +kernel
theorem dX5_count_67 : decode cX5_count 67 = .ok (.invokestatic 156, 3) := by decide +kernel
theorem dX5_count_70 : decode cX5_count 70 = .ok (.ireturn, 1) := by decide +kernel
theorem dX5_count_71 : decode cX5_count 71 = .ok (.aload_n 0, 1) := by decide +kernel
theorem dX5_count_72 : decode cX5_count 72 = .ok (.getfield 204, 3) := by decide +kernel
theorem dX5_count_75 : decode cX5_count 75 = .ok (.ireturn, 1) := by decide +kernel
theorem dX5_count_76 : decode cX5_count 76 = .ok (.aload_n 0, 1) := by decide +kernel
theorem dX5_count_77 : decode cX5_count 77 = .ok (.getfield 7, 3) := by decide +kernel
theorem dX5_count_80 : decode cX5_count 80 = .ok (.iconst 4, 1) := by decide +kernel
theorem dX5_count_81 : decode cX5_count 81 = .ok (.iaload, 1) := by decide +kernel
theorem dX5_count_82 : decode cX5_count 82 = .ok (.ireturn, 1) := by decide +kernel
theorem dX5_count_83 : decode cX5_count 83 = .ok (.iconst 0, 1) := by decide +kernel
theorem dX5_count_84 : decode cX5_count 84 = .ok (.istore_n 2, 1) := by decide +kernel
theorem dX5_count_85 : decode cX5_count 85 = .ok (.iconst 0, 1) := by decide +kernel
theorem dX5_count_86 : decode cX5_count 86 = .ok (.istore_n 3, 1) := by decide +kernel
theorem dX5_count_87 : decode cX5_count 87 = .ok (.iload_n 3, 1) := by decide +kernel
theorem dX5_count_88 : decode cX5_count 88 = .ok (.bipush 10, 2) := by decide +kernel
theorem dX5_count_90 : decode cX5_count 90 = .ok (.if_icmp .ge 29, 3) := by decide +kernel
theorem dX5_count_93 : decode cX5_count 93 = .ok (.iload_n 2, 1) := by decide +kernel
theorem dX5_count_94 : decode cX5_count 94 = .ok (.aload_n 0, 1) := by decide +kernel
theorem dX5_count_95 : decode cX5_count 95 = .ok (.getfield 7, 3) := by decide +kernel
theorem dX5_count_98 : decode cX5_count 98 = .ok (.bipush 101, 2) := by decide +kernel
theorem dX5_count_100 : decode cX5_count 100 = .ok (.iload_n 3, 1) := by decide +kernel
theorem dX5_count_101 : decode cX5_count 101 = .ok (.iadd, 1) := by decide +kernel
theorem dX5_count_102 : decode cX5_count 102 = .ok (.iaload, 1) := by decide +kernel
theorem dX5_count_103 : decode cX5_count 103 = .ok (.ifCond .ge 7, 3) := by decide +kernel
theorem dX5_count_106 : decode cX5_count 106 = .ok (.iconst 0, 1) := by decide +kernel
theorem dX5_count_107 : decode cX5_count 107 = .ok (.goto 4, 3) := by decide +kernel
theorem dX5_count_110 : decode cX5_count 110 = .ok (.iconst 1, 1) := by decide +kernel
theorem dX5_count_111 : decode cX5_count 111 = .ok (.iadd, 1) := by decide +kernel
theorem dX5_count_112 : decode cX5_count 112 = .ok (.istore_n 2, 1) := by decide +kernel
theorem dX5_count_113 : decode cX5_count 113 = .ok (.iinc 3 1, 3) := by decide +kernel
theorem dX5_count_116 : decode cX5_count 116 = .ok (.goto (-29), 3) := by decide +kernel
theorem dX5_count_119 : decode cX5_count 119 = .ok (.iload_n 2, 1) := by decide +kernel
theorem dX5_count_120 : decode cX5_count 120 = .ok (.ireturn, 1) := by decide +kernel
theorem dX5_count_121 : decode cX5_count 121 = .ok (.aload_n 0, 1) := by decide +kernel
theorem dX5_count_122 : decode cX5_count 122 = .ok (.ldc 43, 2) := by decide +kernel
theorem dX5_count_124 : decode cX5_count 124 = .ok (.invokevirtual 75, 3) := by decide +kernel
theorem dX5_count_127 : decode cX5_count 127 = .ok (.ireturn, 1) := by decide +kernel
theorem dX5_dig_0 : decode cX5_dig 0 = .ok (.iload_n 1, 1) := by decide +kernel
theorem dX5_dig_1 : decode cX5_dig 1 = .ok (.iload_n 2, 1) := by decide +kernel
theorem dX5_dig_2 : decode cX5_dig 2 = .ok (.invokestatic 115, 3) := by decide +kernel
theorem dX5_dig_5 : decode cX5_dig 5 = .ok (.ifCond .eq 15, 3) := by decide +kernel
theorem dX5_dig_8 : decode cX5_dig 8 = .ok (.iload_n 3, 1) := by decide +kernel
theorem dX5_dig_9 : decode cX5_dig 9 = .ok (.i2l, 1) := by decide +kernel
theorem dX5_dig_10 : decode cX5_dig 10 = .ok (.lconst 1, 1) := by decide +kernel
theorem dX5_dig_11 : decode cX5_dig 11 = .ok (.ldc2_w 73, 3) := by decide +kernel
theorem dX5_dig_14 : decode cX5_dig 14 = .ok (.invokestatic 46, 3) := by decide +kernel
theorem dX5_dig_17 : decode cX5_dig 17 = .ok (.ifCond .ne 10, 3) := by decide +kernel
theorem dX5_dig_20 : decode cX5_dig 20 = .ok (.aload_n 0, 1) := by decide +kernel
theorem dX5_dig_21 : decode cX5_dig 21 = .ok (.ldc 43, 2) := by decide +kernel
theorem dX5_dig_23 : decode cX5_dig 23 = .ok (.invokevirtual 75, 3) := by decide +kernel
theorem dX5_dig_26 : decode cX5_dig 26 = .ok (.ireturn, 1) := by decide +kernel
theorem dX5_dig_27 : decode cX5_dig 27 = .ok (.iconst 0, 1) := by decide +kernel
theorem dX5_dig_28 : decode cX5_dig 28 = .ok (.istore 4, 2) := by decide +kernel
theorem dX5_dig_30 : decode cX5_dig 30 = .ok (.iload_n 1, 1) := by decide +kernel
theorem dX5_dig_31 : decode cX5_dig 31 = .ok (.istore 5, 2) := by decide +kernel
theorem dX5_dig_33 : decode cX5_dig 33 = .ok (.iload 5, 2) := by decide +kernel
theorem dX5_dig_35 : decode cX5_dig 35 = .ok (.iload_n 2, 1) := by decide +kernel
theorem dX5_dig_36 : decode cX5_dig 36 = .ok (.if_icmp .gt 35, 3) := by decide +kernel
theorem dX5_dig_39 : decode cX5_dig 39 = .ok (.aload_n 0, 1) := by decide +kernel
theorem dX5_dig_40 : decode cX5_dig 40 = .ok (.iload 5, 2) := by decide +kernel
theorem dX5_dig_42 : decode cX5_dig 42 = .ok (.iload_n 3, 1) := by decide +kernel
theorem dX5_dig_43 : decode cX5_dig 43 = .ok (.invokevirtual 119, 3) := by decide +kernel
theorem dX5_dig_46 : decode cX5_dig 46 = .ok (.iload 4, 2) := by decide +kernel
theorem dX5_dig_48 : decode cX5_dig 48 = .ok (.aload_n 0, 1) := by decide +kernel
theorem dX5_dig_49 : decode cX5_dig 49 = .ok (.iload 5, 2) := by decide +kernel
theorem dX5_dig_51 : decode cX5_dig 51 = .ok (.invokevirtual 70, 3) := by decide +kernel
theorem dX5_dig_54 : decode cX5_dig 54 = .ok (.ifCond .ne 7, 3) := by decide +kernel
theorem dX5_dig_57 : decode cX5_dig 57 = .ok (.iconst 1, 1) := by decide +kernel
theorem dX5_dig_58 : decode cX5_dig 58 = .ok (.goto 4, 3) := by decide +kernel
theorem dX5_dig_61 : decode cX5_dig 61 = .ok (.iconst 0, 1) := by decide +kernel
theorem dX5_dig_62 : decode cX5_dig 62 = .ok (.iadd, 1) := by decide +kernel
theorem dX5_dig_63 : decode cX5_dig 63 = .ok (.istore 4, 2) := by decide +kernel
theorem dX5_dig_65 : decode cX5_dig 65 = .ok (.iinc 5 1, 3) := by decide +kernel
theorem dX5_dig_68 : decode cX5_dig 68 = .ok (.goto (-35), 3) := by decide +kernel
theorem dX5_dig_71 : decode cX5_dig 71 = .ok (.iload 4, 2) := by decide +kernel
theorem dX5_dig_73 : decode cX5_dig 73 = .ok (.ireturn, 1) := by decide +kernel
theorem dX5_drain_0 : decode cX5_drain 0 = .ok (.iload_n 1, 1) := by decide +kernel
theorem dX5_drain_1 : decode cX5_drain 1 = .ok (.i2l, 1) := by decide +kernel
theorem dX5_drain_2 : decode cX5_drain 2 = .ok (.lconst 0, 1) := by decide +kernel
theorem dX5_drain_3 : decode cX5_drain 3 = .ok (.ldc2_w 122, 3) := by decide +kernel
theorem dX5_drain_6 : decode cX5_drain 6 = .ok (.invokestatic 46, 3) := by decide +kernel
theorem dX5_drain_9 : decode cX5_drain 9 = .ok (.ifCond .ne 10, 3) := by decide +kernel
theorem dX5_drain_12 : decode cX5_drain 12 = .ok (.aload_n 0, 1) := by decide +kernel
theorem dX5_drain_13 : decode cX5_drain 13 = .ok (.ldc 43, 2) := by decide +kernel
theorem dX5_drain_15 : decode cX5_drain 15 = .ok (.invokevirtual 75, 3) := by decide +kernel
theorem dX5_drain_18 : decode cX5_drain 18 = .ok (.ireturn, 1) := by decide +kernel
theorem dX5_drain_19 : decode cX5_drain 19 = .ok (.iconst 0, 1) := by decide +kernel
theorem dX5_drain_20 : decode cX5_drain 20 = .ok (.istore_n 2, 1) := by decide +kernel
theorem dX5_drain_21 : decode cX5_drain 21 = .ok (.iconst 0, 1) := by decide +kernel
theorem dX5_drain_22 : decode cX5_drain 22 = .ok (.istore_n 3, 1) := by decide +kernel
theorem dX5_drain_23 : decode cX5_drain 23 = .ok (.iload_n 3, 1) := by decide +kernel
theorem dX5_drain_24 : decode cX5_drain 24 = .ok (.bipush 24, 2) := by decide +kernel
theorem dX5_drain_26 : decode cX5_drain 26 = .ok (.if_icmp .ge 38, 3) := by decide +kernel
theorem dX5_drain_29 : decode cX5_drain 29 = .ok (.aload_n 0, 1) := by decide +kernel
theorem dX5_drain_30 : decode cX5_drain 30 = .ok (.iload_n 3, 1) := by decide +kernel
theorem dX5_drain_31 : decode cX5_drain 31 = .ok (.invokevirtual 67, 3) := by decide +kernel
theorem dX5_drain_34 : decode cX5_drain 34 = .ok (.iconst 1, 1) := by decide +kernel
theorem dX5_drain_35 : decode cX5_drain 35 = .ok (.if_icmp .ne 23, 3) := by decide +kernel
theorem dX5_drain_38 : decode cX5_drain 38 = .ok (.aload_n 0, 1) := by decide +kernel
theorem dX5_drain_39 : decode cX5_drain 39 = .ok (.getfield 7, 3) := by decide +kernel
theorem dX5_drain_42 : decode cX5_drain 42 = .ok (.iconst 5, 1) := by decide +kernel
theorem dX5_drain_43 : decode cX5_drain 43 = .ok (.iconst 3, 1) := by decide +kernel
theorem dX5_drain_44 : decode cX5_drain 44 = .ok (.iload_n 3, 1) := by decide +kernel
theorem dX5_drain_45 : decode cX5_drain 45 = .ok (.imul, 1) := by decide +kernel
theorem dX5_drain_46 : decode cX5_drain 46 = .ok (.iadd, 1) := by decide +kernel
theorem dX5_drain_47 : decode cX5_drain 47 = .ok (.iconst 2, 1) := by decide +kernel
theorem dX5_drain_48 : decode cX5_drain 48 = .ok (.iastore, 1) := by decide +kernel
theorem dX5_drain_49 : decode cX5_drain 49 = .ok (.aload_n 0, 1) := by decide +kernel
theorem dX5_drain_50 : decode cX5_drain 50 = .ok (.iload_n 3, 1) := by decide +kernel
theorem dX5_drain_51 : decode cX5_drain 51 = .ok (.iload_n 1, 1) := by decide +kernel
theorem dX5_drain_52 : decode cX5_drain 52 = .ok (.invokevirtual 119, 3) := by decide +kernel
theorem dX5_drain_55 : decode cX5_drain 55 = .ok (.iinc 2 1, 3) := by decide +kernel
theorem dX5_drain_58 : decode cX5_drain 58 = .ok (.iinc 3 1, 3) := by decide +kernel
theorem dX5_drain_61 : decode cX5_drain 61 = .ok (.goto (-38), 3) := by decide +kernel
theorem dX5_drain_64 : decode cX5_drain 64 = .ok (.iload_n 2, 1) := by decide +kernel
theorem dX5_drain_65 : decode cX5_drain 65 = .ok (.ireturn, 1) := by decide +kernel
theorem dX5_eye_0 : decode cX5_eye 0 = .ok (.aload_n 0, 1) := by decide +kernel
theorem dX5_eye_1 : decode cX5_eye 1 = .ok (.aload_n 0, 1) := by decide +kernel
theorem dX5_eye_2 : decode cX5_eye 2 = .ok (.iload_n 1, 1) := by decide +kernel
theorem dX5_eye_3 : decode cX5_eye 3 = .ok (.invokevirtual 93, 3) := by decide +kernel
theorem dX5_eye_6 : decode cX5_eye 6 = .ok (.invokevirtual 87, 3) := by decide +kernel
theorem dX5_eye_9 : decode cX5_eye 9 = .ok (.aload_n 0, 1) := by decide +kernel
theorem dX5_eye_10 : decode cX5_eye 10 = .ok (.getfield 7, 3) := by decide +kernel
theorem dX5_eye_13 : decode cX5_eye 13 = .ok (.bipush 77, 2) := by decide +kernel
theorem dX5_eye_15 : decode cX5_eye 15 = .ok (.iconst 3, 1) := by decide +kernel
theorem dX5_eye_16 : decode cX5_eye 16 = .ok (.iload_n 1, 1) := by decide +kernel
theorem dX5_eye_17 : decode cX5_eye 17 = .ok (.imul, 1) := by decide +kernel
theorem dX5_eye_18 : decode cX5_eye 18 = .ok (.iadd, 1) := by decide +kernel
theorem dX5_eye_19 : decode cX5_eye 19 = .ok (.iconst 1, 1) := by decide +kernel
theorem dX5_eye_20 : decode cX5_eye 20 = .ok (.iadd, 1) := by decide +kernel
theorem dX5_eye_21 : decode cX5_eye 21 = .ok (.iaload, 1) := by decide +kernel
theorem dX5_eye_22 : decode cX5_eye 22 = .ok (.iadd, 1) := by decide +kernel
theorem dX5_eye_23 : decode cX5_eye 23 = .ok (.ireturn, 1) := by decide +kernel
theorem dX5_feed_0 : decode cX5_feed 0 = .ok (.iload_n 2, 1) := by decide +kernel
theorem dX5_feed_1 : decode cX5_feed 1 = .ok (.i2l, 1) := by decide +kernel
theorem dX5_feed_2 : decode cX5_feed 2 = .ok (.lconst 1, 1) := by decide +kernel
theorem dX5_feed_3 : decode cX5_feed 3 = .ok (.ldc2_w 85, 3) := by decide +kernel
theorem dX5_feed_6 : decode cX5_feed 6 = .ok (.invokestatic 46, 3) := by decide +kernel
theorem dX5_feed_9 : decode cX5_feed 9 = .ok (.ifCond .ne 10, 3) := by decide +kernel
theorem dX5_feed_12 : decode cX5_feed 12 = .ok (.aload_n 0, 1) := by decide +kernel
theorem dX5_feed_13 : decode cX5_feed 13 = .ok (.ldc 43, 2) := by decide +kernel
theorem dX5_feed_15 : decode cX5_feed 15 = .ok (.invokevirtual 75, 3) := by decide +kernel
theorem dX5_feed_18 : decode cX5_feed 18 = .ok (.ireturn, 1) := by decide +kernel
theorem dX5_feed_19 : decode cX5_feed 19 = .ok (.aload_n 0, 1) := by decide +kernel
theorem dX5_feed_20 : decode cX5_feed 20 = .ok (.getfield 204, 3) := by decide +kernel
theorem dX5_feed_23 : decode cX5_feed 23 = .ok (.iload_n 2, 1) := by decide +kernel
theorem dX5_feed_24 : decode cX5_feed 24 = .ok (.iadd, 1) := by decide +kernel
theorem dX5_feed_25 : decode cX5_feed 25 = .ok (.bipush 120, 2) := by decide +kernel
theorem dX5_feed_27 : decode cX5_feed 27 = .ok (.if_icmp .le 10, 3) := by decide +kernel
theorem dX5_feed_30 : decode cX5_feed 30 = .ok (.aload_n 0, 1) := by decide +kernel
theorem dX5_feed_31 : decode cX5_feed 31 = .ok (.ldc 99, 2) := by decide +kernel
theorem dX5_feed_33 : decode cX5_feed 33 = .ok (.invokevirtual 75, 3) := by decide +kernel
theorem dX5_feed_36 : decode cX5_feed 36 = .ok (.ireturn, 1) := by decide +kernel
theorem dX5_feed_37 : decode cX5_feed 37 = .ok (.iload_n 2, 1) := by decide +kernel
theorem dX5_feed_38 : decode cX5_feed 38 = .ok (.iconst 1, 1) := by decide +kernel
theorem dX5_feed_39 : decode cX5_feed 39 = .ok (.isub, 1) := by decide +kernel
theorem dX5_feed_40 : decode cX5_feed 40 = .ok (.istore_n 3, 1) := by decide +kernel
theorem dX5_feed_41 : decode cX5_feed 41 = .ok (.iload_n 3, 1) := by decide +kernel
theorem dX5_feed_42 : decode cX5_feed 42 = .ok (.ifCond .lt 38, 3) := by decide +kernel
theorem dX5_feed_45 : decode cX5_feed 45 = .ok (.aload_n 0, 1) := by decide +kernel
theorem dX5_feed_46 : decode cX5_feed 46 = .ok (.getfield 28, 3) := by decide +kernel
theorem dX5_feed_49 : decode cX5_feed 49 = .ok (.aload_n 0, 1) := by decide +kernel
theorem dX5_feed_50 : decode cX5_feed 50 = .ok (.getfield 204, 3) := by decide +kernel
theorem dX5_feed_53 : decode cX5_feed 53 = .ok (.iload_n 1, 1) := by decide +kernel
theorem dX5_feed_54 : decode cX5_feed 54 = .ok (.bipush 8, 2) := by decide +kernel
theorem dX5_feed_56 : decode cX5_feed 56 = .ok (.iload_n 3, 1) := by decide +kernel
theorem dX5_feed_57 : decode cX5_feed 57 = .ok (.imul, 1) := by decide +kernel
theorem dX5_feed_58 : decode cX5_feed 58 = .ok (.ishr, 1) := by decide +kernel
theorem dX5_feed_59 : decode cX5_feed 59 = .ok (.sipush 255, 3) := by decide +kernel
theorem dX5_feed_62 : decode cX5_feed 62 = .ok (.iand, 1) := by decide +kernel
theorem dX5_feed_63 : decode cX5_feed 63 = .ok (.iastore, 1) := by decide +kernel
theorem dX5_feed_64 : decode cX5_feed 64 = .ok (.aload_n 0, 1) := by decide +kernel
theorem dX5_feed_65 : decode cX5_feed 65 = .ok (.dup, 1) := by decide +kernel
theorem dX5_feed_66 : decode cX5_feed 66 = .ok (.getfield 204, 3) := by decide +kernel
theorem dX5_feed_69 : decode cX5_feed 69 = .ok (.iconst 1, 1) := by decide +kernel
theorem dX5_feed_70 : decode cX5_feed 70 = .ok (.iadd, 1) := by decide +kernel
theorem dX5_feed_71 : decode cX5_feed 71 = .ok (.putfield 204, 3) := by decide +kernel
theorem dX5_feed_74 : decode cX5_feed 74 = .ok (.iinc 3 (-1), 3) := by decide +kernel
theorem dX5_feed_77 : decode cX5_feed 77 = .ok (.goto (-36), 3) := by decide +kernel
theorem dX5_feed_80 : decode cX5_feed 80 = .ok (.aload_n 0, 1) := by decide +kernel
theorem dX5_feed_81 : decode cX5_feed 81 = .ok (.getfield 204, 3) := by decide +kernel
theorem dX5_feed_84 : decode cX5_feed 84 = .ok (.ireturn, 1) := by decide +kernel
theorem dX5_findHeights_0 : decode cX5_findHeights 0 = .ok (.aload_n 0, 1) := by decide +kernel
theorem dX5_findHeights_1 : decode cX5_findHeights 1 = .ok (.iload_n 1, 1) := by decide +kernel
theorem dX5_findHeights_2 : decode cX5_findHeights 2 = .ok (.invokevirtual 70, 3) := by decide +kernel
theorem dX5_findHeights_5 : decode cX5_findHeights 5 = .ok (.istore 4, 2) := by decide +kernel
theorem dX5_findHeights_7 : decode cX5_findHeights 7 = .ok (.aload_n 0, 1) := by decide +kernel
theorem dX5_findHeights_8 : decode cX5_findHeights 8 = .ok (.iconst 0, 1) := by decide +kernel
theorem dX5_findHeights_9 : decode cX5_findHeights 9 = .ok (.putfield 185, 3) := by decide +kernel
theorem dX5_findHeights_12 : decode cX5_findHeights 12 = .ok (.aload_n 0, 1) := by decide +kernel
theorem dX5_findHeights_13 : decode cX5_findHeights 13 = .ok (.iconst (-1), 1) := by decide +kernel
theorem dX5_findHeights_14 : decode cX5_findHeights 14 = .ok (.putfield 189, 3) := by decide +kernel
theorem dX5_findHeights_17 : decode cX5_findHeights 17 = .ok (.aload_n 0, 1) := by decide +kernel
theorem dX5_findHeights_18 : decode cX5_findHeights 18 = .ok (.iconst (-1), 1) := by decide +kernel
theorem dX5_findHeights_19 : decode cX5_findHeights 19 = .ok (.putfield 192, 3) := by decide +kernel
theorem dX5_findHeights_22 : decode cX5_findHeights 22 = .ok (.iconst 0, 1) := by decide +kernel
theorem dX5_findHeights_23 : decode cX5_findHeights 23 = .ok (.istore 5, 2) := by decide +kernel
theorem dX5_findHeights_25 : decode cX5_findHeights 25 = .ok (.iload 5, 2) := by decide +kernel
theorem dX5_findHeights_27 : decode cX5_findHeights 27 = .ok (.bipush 100, 2) := by decide +kernel
theorem dX5_findHeights_29 : decode cX5_findHeights 29 = .ok (.if_icmp .ge 68, 3) := by decide +kernel
theorem dX5_findHeights_32 : decode cX5_findHeights 32 = .ok (.aload_n 0, 1) := by decide +kernel
theorem dX5_findHeights_33 : decode cX5_findHeights 33 = .ok (.getfield 7, 3) := by decide +kernel
theorem dX5_findHeights_36 : decode cX5_findHeights 36 = .ok (.iconst 5, 1) := by decide +kernel
theorem dX5_findHeights_37 : decode cX5_findHeights 37 = .ok (.iconst 3, 1) := by decide +kernel
theorem dX5_findHeights_38 : decode cX5_findHeights 38 = .ok (.iload_n 1, 1) := by decide +kernel
theorem dX5_findHeights_39 : decode cX5_findHeights 39 = .ok (.imul, 1) := by decide +kernel
theorem dX5_findHeights_40 : decode cX5_findHeights 40 = .ok (.iadd, 1) := by decide +kernel
theorem dX5_findHeights_41 : decode cX5_findHeights 41 = .ok (.iconst 1, 1) := by decide +kernel
theorem dX5_findHeights_42 : decode cX5_findHeights 42 = .ok (.iadd, 1) := by decide +kernel
theorem dX5_findHeights_43 : decode cX5_findHeights 43 = .ok (.iload 5, 2) := by decide +kernel
theorem dX5_findHeights_45 : decode cX5_findHeights 45 = .ok (.iastore, 1) := by decide +kernel
theorem dX5_findHeights_46 : decode cX5_findHeights 46 = .ok (.aload_n 0, 1) := by decide +kernel
theorem dX5_findHeights_47 : decode cX5_findHeights 47 = .ok (.iload_n 2, 1) := by decide +kernel
theorem dX5_findHeights_48 : decode cX5_findHeights 48 = .ok (.invokevirtual 146, 3) := by decide +kernel
theorem dX5_findHeights_51 : decode cX5_findHeights 51 = .ok (.iload_n 3, 1) := by decide +kernel
theorem dX5_findHeights_52 : decode cX5_findHeights 52 = .ok (.if_icmp .ne 39, 3) := by decide +kernel
theorem dX5_findHeights_55 : decode cX5_findHeights 55 = .ok (.aload_n 0, 1) := by decide +kernel
theorem dX5_findHeights_56 : decode cX5_findHeights 56 = .ok (.dup, 1) := by decide +kernel
theorem dX5_findHeights_57 : decode cX5_findHeights 57 = .ok (.getfield 185, 3) := by decide +kernel
theorem dX5_findHeights_60 : decode cX5_findHeights 60 = .ok (.iconst 1, 1) := by decide +kernel
theorem dX5_findHeights_61 : decode cX5_findHeights 61 = .ok (.iadd, 1) := by decide +kernel
theorem dX5_findHeights_62 : decode cX5_findHeights 62 = .ok (.putfield 185, 3) := by decide +kernel
theorem dX5_findHeights_65 : decode cX5_findHeights 65 = .ok (.aload_n 0, 1) := by decide +kernel
theorem dX5_findHeights_66 : decode cX5_findHeights 66 = .ok (.aload_n 0, 1) := by decide +kernel
theorem dX5_findHeights_67 : decode cX5_findHeights 67 = .ok (.getfield 189, 3) := by decide +kernel
theorem dX5_findHeights_70 : decode cX5_findHeights 70 = .ok (.ifCond .ge 8, 3) := by decide +kernel
theorem dX5_findHeights_73 : decode cX5_findHeights 73 = .ok (.iload 5, 2) := by decide +kernel
theorem dX5_findHeights_75 : decode cX5_findHeights 75 = .ok (.goto 7, 3) := by decide +kernel
theorem dX5_findHeights_78 : decode cX5_findHeights 78 = .ok (.aload_n 0, 1) := by decide +kernel
theorem dX5_findHeights_79 : decode cX5_findHeights 79 = .ok (.getfield 189, 3) := by decide +kernel
theorem dX5_findHeights_82 : decode cX5_findHeights 82 = .ok (.putfield 189, 3) := by decide +kernel
theorem dX5_findHeights_85 : decode cX5_findHeights 85 = .ok (.aload_n 0, 1) := by decide +kernel
theorem dX5_findHeights_86 : decode cX5_findHeights 86 = .ok (.iload 5, 2) := by decide +kernel
theorem dX5_findHeights_88 : decode cX5_findHeights 88 = .ok (.putfield 192, 3) := by decide +kernel
theorem dX5_findHeights_91 : decode cX5_findHeights 91 = .ok (.iinc 5 1, 3) := by decide +kernel
theorem dX5_findHeights_94 : decode cX5_findHeights 94 = .ok (.goto (-69), 3) := by decide +kernel
theorem dX5_findHeights_97 : decode cX5_findHeights 97 = .ok (.aload_n 0, 1) := by decide +kernel
theorem dX5_findHeights_98 : decode cX5_findHeights 98 = .ok (.getfield 7, 3) := by decide +kernel
theorem dX5_findHeights_101 : decode cX5_findHeights 101 = .ok (.iconst 5, 1) := by decide +kernel
theorem dX5_findHeights_102 : decode cX5_findHeights 102 = .ok (.iconst 3, 1) := by decide +kernel
theorem dX5_findHeights_103 : decode cX5_findHeights 103 = .ok (.iload_n 1, 1) := by decide +kernel
theorem dX5_findHeights_104 : decode cX5_findHeights 104 = .ok (.imul, 1) := by decide +kernel
theorem dX5_findHeights_105 : decode cX5_findHeights 105 = .ok (.iadd, 1) := by decide +kernel
theorem dX5_findHeights_106 : decode cX5_findHeights 106 = .ok (.iconst 1, 1) := by decide +kernel
theorem dX5_findHeights_107 : decode cX5_findHeights 107 = .ok (.iadd, 1) := by decide +kernel
theorem dX5_findHeights_108 : decode cX5_findHeights 108 = .ok (.iload 4, 2) := by decide +kernel
theorem dX5_findHeights_110 : decode cX5_findHeights 110 = .ok (.iastore, 1) := by decide +kernel
theorem dX5_findHeights_111 : decode cX5_findHeights 111 = .ok (.return_, 1) := by decide +kernel
theorem dX5_findSights_0 : decode cX5_findSights 0 = .ok (.iconst 0, 1) := by decide +kernel
theorem dX5_findSights_1 : decode cX5_findSights 1 = .ok (.istore_n 1, 1) := by decide +kernel
theorem dX5_findSights_2 : decode cX5_findSights 2 = .ok (.iconst 0, 1) := by decide +kernel
theorem dX5_findSights_3 : decode cX5_findSights 3 = .ok (.istore_n 2, 1) := by decide +kernel
theorem dX5_findSights_4 : decode cX5_findSights 4 = .ok (.iload_n 2, 1) := by decide +kernel
theorem dX5_findSights_5 : decode cX5_findSights 5 = .ok (.aload_n 0, 1) := by decide +kernel
theorem dX5_findSights_6 : decode cX5_findSights 6 = .ok (.getfield 7, 3) := by decide +kernel
theorem dX5_findSights_9 : decode cX5_findSights 9 = .ok (.iconst 1, 1) := by decide +kernel
theorem dX5_findSights_10 : decode cX5_findSights 10 = .ok (.iaload, 1) := by decide +kernel
theorem dX5_findSights_11 : decode cX5_findSights 11 = .ok (.if_icmp .ge 29, 3) := by decide +kernel
theorem dX5_findSights_14 : decode cX5_findSights 14 = .ok (.aload_n 0, 1) := by decide +kernel
theorem dX5_findSights_15 : decode cX5_findSights 15 = .ok (.getfield 25, 3) := by decide +kernel
theorem dX5_findSights_18 : decode cX5_findSights 18 = .ok (.iload_n 2, 1) := by decide +kernel
theorem dX5_findSights_19 : decode cX5_findSights 19 = .ok (.aload_n 0, 1) := by decide +kernel
theorem dX5_findSights_20 : decode cX5_findSights 20 = .ok (.iload_n 2, 1) := by decide +kernel
theorem dX5_findSights_21 : decode cX5_findSights 21 = .ok (.invokevirtual 141, 3) := by decide +kernel
theorem dX5_findSights_24 : decode cX5_findSights 24 = .ok (.iastore, 1) := by decide +kernel
theorem dX5_findSights_25 : decode cX5_findSights 25 = .ok (.iload_n 1, 1) := by decide +kernel
theorem dX5_findSights_26 : decode cX5_findSights 26 = .ok (.aload_n 0, 1) := by decide +kernel
theorem dX5_findSights_27 : decode cX5_findSights 27 = .ok (.getfield 25, 3) := by decide +kernel
theorem dX5_findSights_30 : decode cX5_findSights 30 = .ok (.iload_n 2, 1) := by decide +kernel
theorem dX5_findSights_31 : decode cX5_findSights 31 = .ok (.iaload, 1) := by decide +kernel
theorem dX5_findSights_32 : decode cX5_findSights 32 = .ok (.ior, 1) := by decide +kernel
theorem dX5_findSights_33 : decode cX5_findSights 33 = .ok (.istore_n 1, 1) := by decide +kernel
theorem dX5_findSights_34 : decode cX5_findSights 34 = .ok (.iinc 2 1, 3) := by decide +kernel
theorem dX5_findSights_37 : decode cX5_findSights 37 = .ok (.goto (-33), 3) := by decide +kernel
theorem dX5_findSights_40 : decode cX5_findSights 40 = .ok (.iload_n 1, 1) := by decide +kernel
theorem dX5_findSights_41 : decode cX5_findSights 41 = .ok (.ireturn, 1) := by decide +kernel
theorem dX5_finds_0 : decode cX5_finds 0 = .ok (.aload_n 0, 1) := by decide +kernel
theorem dX5_finds_1 : decode cX5_finds 1 = .ok (.getfield 19, 3) := by decide +kernel
theorem dX5_finds_4 : decode cX5_finds 4 = .ok (.ldc 43, 2) := by decide +kernel
theorem dX5_finds_6 : decode cX5_finds 6 = .ok (.iload_n 1, 1) := by decide +kernel
theorem dX5_finds_7 : decode cX5_finds 7 = .ok (.isub, 1) := by decide +kernel
theorem dX5_finds_8 : decode cX5_finds 8 = .ok (.dup2, 1) := by decide +kernel
theorem dX5_finds_9 : decode cX5_finds 9 = .ok (.iaload, 1) := by decide +kernel
theorem dX5_finds_10 : decode cX5_finds 10 = .ok (.iconst 1, 1) := by decide +kernel
theorem dX5_finds_11 : decode cX5_finds 11 = .ok (.iadd, 1) := by decide +kernel
theorem dX5_finds_12 : decode cX5_finds 12 = .ok (.iastore, 1) := by decide +kernel
theorem dX5_finds_13 : decode cX5_finds 13 = .ok (.iload_n 1, 1) := by decide +kernel
theorem dX5_finds_14 : decode cX5_finds 14 = .ok (.ireturn, 1) := by decide +kernel
theorem dX5_floor_0 : decode cX5_floor 0 = .ok (.aload_n 0, 1) := by decide +kernel
theorem dX5_floor_1 : decode cX5_floor 1 = .ok (.iload_n 1, 1) := by decide +kernel
theorem dX5_floor_2 : decode cX5_floor 2 = .ok (.invokevirtual 104, 3) := by decide +kernel
theorem dX5_floor_5 : decode cX5_floor 5 = .ok (.ifCond .eq 10, 3) := by decide +kernel
theorem dX5_floor_8 : decode cX5_floor 8 = .ok (.iload_n 2, 1) := by decide +kernel
theorem dX5_floor_9 : decode cX5_floor 9 = .ok (.invokestatic 96, 3) := by decide +kernel
theorem dX5_floor_12 : decode cX5_floor 12 = .ok (.ifCond .ne 10, 3) := by decide +kernel
theorem dX5_floor_15 : decode cX5_floor 15 = .ok (.aload_n 0, 1) := by decide +kernel
theorem dX5_floor_16 : decode cX5_floor 16 = .ok (.ldc 43, 2) := by decide +kernel
theorem dX5_floor_18 : decode cX5_floor 18 = .ok (.invokevirtual 75, 3) := by decide +kernel
theorem dX5_floor_21 : decode cX5_floor 21 = .ok (.ireturn, 1) := by decide +kernel
theorem dX5_floor_22 : decode cX5_floor 22 = .ok (.aload_n 0, 1) := by decide +kernel
theorem dX5_floor_23 : decode cX5_floor 23 = .ok (.getfield 7, 3) := by decide +kernel
theorem dX5_floor_26 : decode cX5_floor 26 = .ok (.bipush 77, 2) := by decide +kernel
theorem dX5_floor_28 : decode cX5_floor 28 = .ok (.iconst 3, 1) := by decide +kernel
theorem dX5_floor_29 : decode cX5_floor 29 = .ok (.iload_n 1, 1) := by decide +kernel
theorem dX5_floor_30 : decode cX5_floor 30 = .ok (.imul, 1) := by decide +kernel
theorem dX5_floor_31 : decode cX5_floor 31 = .ok (.iadd, 1) := by decide +kernel
theorem dX5_floor_32 : decode cX5_floor 32 = .ok (.iconst 1, 1) := by decide +kernel
theorem dX5_floor_33 : decode cX5_floor 33 = .ok (.iadd, 1) := by decide +kernel
theorem dX5_floor_34 : decode cX5_floor 34 = .ok (.iaload, 1) := by decide +kernel
theorem dX5_floor_35 : decode cX5_floor 35 = .ok (.istore_n 3, 1) := by decide +kernel
theorem dX5_floor_36 : decode cX5_floor 36 = .ok (.aload_n 0, 1) := by decide +kernel
theorem dX5_floor_37 : decode cX5_floor 37 = .ok (.getfield 7, 3) := by decide +kernel
theorem dX5_floor_40 : decode cX5_floor 40 = .ok (.bipush 77, 2) := by decide +kernel
theorem dX5_floor_42 : decode cX5_floor 42 = .ok (.iconst 3, 1) := by decide +kernel
theorem dX5_floor_43 : decode cX5_floor 43 = .ok (.iload_n 1, 1) := by decide +kernel
theorem dX5_floor_44 : decode cX5_floor 44 = .ok (.imul, 1) := by decide +kernel
theorem dX5_floor_45 : decode cX5_floor 45 = .ok (.iadd, 1) := by decide +kernel
theorem dX5_floor_46 : decode cX5_floor 46 = .ok (.iconst 1, 1) := by decide +kernel
theorem dX5_floor_47 : decode cX5_floor 47 = .ok (.iadd, 1) := by decide +kernel
theorem dX5_floor_48 : decode cX5_floor 48 = .ok (.iload_n 2, 1) := by decide +kernel
theorem dX5_floor_49 : decode cX5_floor 49 = .ok (.iastore, 1) := by decide +kernel
theorem dX5_floor_50 : decode cX5_floor 50 = .ok (.iload_n 3, 1) := by decide +kernel
theorem dX5_floor_51 : decode cX5_floor 51 = .ok (.ireturn, 1) := by decide +kernel
theorem dX5_gains_0 : decode cX5_gains 0 = .ok (.iload_n 1, 1) := by decide +kernel
theorem dX5_gains_1 : decode cX5_gains 1 = .ok (.invokestatic 58, 3) := by decide +kernel
theorem dX5_gains_4 : decode cX5_gains 4 = .ok (.ifCond .eq 17, 3) := by decide +kernel
theorem dX5_gains_7 : decode cX5_gains 7 = .ok (.iload_n 2, 1) := by decide +kernel
theorem dX5_gains_8 : decode cX5_gains 8 = .ok (.invokestatic 78, 3) := by decide +kernel
theorem dX5_gains_11 : decode cX5_gains 11 = .ok (.ifCond .eq 10, 3) := by decide +kernel
theorem dX5_gains_14 : decode cX5_gains 14 = .ok (.iload_n 3, 1) := by decide +kernel
theorem dX5_gains_15 : decode cX5_gains 15 = .ok (.invokestatic 165, 3) := by decide +kernel
theorem dX5_gains_18 : decode cX5_gains 18 = .ok (.ifCond .ne 10, 3) := by decide +kernel
theorem dX5_gains_21 : decode cX5_gains 21 = .ok (.aload_n 0, 1) := by decide +kernel
theorem dX5_gains_22 : decode cX5_gains 22 = .ok (.ldc 43, 2) := by decide +kernel
theorem dX5_gains_24 : decode cX5_gains 24 = .ok (.invokevirtual 75, 3) := by decide +kernel
theorem dX5_gains_27 : decode cX5_gains 27 = .ok (.ireturn, 1) := by decide +kernel
theorem dX5_gains_28 : decode cX5_gains 28 = .ok (.aload_n 0, 1) := by decide +kernel
theorem dX5_gains_29 : decode cX5_gains 29 = .ok (.iload_n 3, 1) := by decide +kernel
theorem dX5_gains_30 : decode cX5_gains 30 = .ok (.invokevirtual 168, 3) := by decide +kernel
theorem dX5_gains_33 : decode cX5_gains 33 = .ok (.ifCond .eq 10, 3) := by decide +kernel
theorem dX5_gains_36 : decode cX5_gains 36 = .ok (.aload_n 0, 1) := by decide +kernel
theorem dX5_gains_37 : decode cX5_gains 37 = .ok (.ldc 144, 2) := by decide +kernel
theorem dX5_gains_39 : decode cX5_gains 39 = .ok (.invokevirtual 75, 3) := by decide +kernel
theorem dX5_gains_42 : decode cX5_gains 42 = .ok (.ireturn, 1) := by decide +kernel
theorem dX5_gains_43 : decode cX5_gains 43 = .ok (.aload_n 0, 1) := by decide +kernel
theorem dX5_gains_44 : decode cX5_gains 44 = .ok (.invokevirtual 171, 3) := by decide +kernel
theorem dX5_gains_47 : decode cX5_gains 47 = .ok (.aload_n 0, 1) := by decide +kernel
theorem dX5_gains_48 : decode cX5_gains 48 = .ok (.iload_n 3, 1) := by decide +kernel
theorem dX5_gains_49 : decode cX5_gains 49 = .ok (.invokevirtual 174, 3) := by decide +kernel
theorem dX5_gains_52 : decode cX5_gains 52 = .ok (.iconst 0, 1) := by decide +kernel
theorem dX5_gains_53 : decode cX5_gains 53 = .ok (.istore 4, 2) := by decide +kernel
theorem dX5_gains_55 : decode cX5_gains 55 = .ok (.iload 4, 2) := by decide +kernel
theorem dX5_gains_57 : decode cX5_gains 57 = .ok (.aload_n 0, 1) := by decide +kernel
theorem dX5_gains_58 : decode cX5_gains 58 = .ok (.getfield 7, 3) := by decide +kernel
theorem dX5_gains_61 : decode cX5_gains 61 = .ok (.iconst 1, 1) := by decide +kernel
theorem dX5_gains_62 : decode cX5_gains 62 = .ok (.iaload, 1) := by decide +kernel
theorem dX5_gains_63 : decode cX5_gains 63 = .ok (.if_icmp .ge 22, 3) := by decide +kernel
theorem dX5_gains_66 : decode cX5_gains 66 = .ok (.aload_n 0, 1) := by decide +kernel
theorem dX5_gains_67 : decode cX5_gains 67 = .ok (.getfield 22, 3) := by decide +kernel
theorem dX5_gains_70 : decode cX5_gains 70 = .ok (.iload 4, 2) := by decide +kernel
theorem dX5_gains_72 : decode cX5_gains 72 = .ok (.aload_n 0, 1) := by decide +kernel
theorem dX5_gains_73 : decode cX5_gains 73 = .ok (.iload 4, 2) := by decide +kernel
theorem dX5_gains_75 : decode cX5_gains 75 = .ok (.invokevirtual 146, 3) := by decide +kernel
theorem dX5_gains_78 : decode cX5_gains 78 = .ok (.iastore, 1) := by decide +kernel
theorem dX5_gains_79 : decode cX5_gains 79 = .ok (.iinc 4 1, 3) := by decide +kernel
theorem dX5_gains_82 : decode cX5_gains 82 = .ok (.goto (-27), 3) := by decide +kernel
theorem dX5_gains_85 : decode cX5_gains 85 = .ok (.aload_n 0, 1) := by decide +kernel
theorem dX5_gains_86 : decode cX5_gains 86 = .ok (.invokevirtual 178, 3) := by decide +kernel
theorem dX5_gains_89 : decode cX5_gains 89 = .ok (.aload_n 0, 1) := by decide +kernel
theorem dX5_gains_90 : decode cX5_gains 90 = .ok (.iload_n 1, 1) := by decide +kernel
theorem dX5_gains_91 : decode cX5_gains 91 = .ok (.iload_n 2, 1) := by decide +kernel
theorem dX5_gains_92 : decode cX5_gains 92 = .ok (.invokevirtual 81, 3) := by decide +kernel
theorem dX5_gains_95 : decode cX5_gains 95 = .ok (.aload_n 0, 1) := by decide +kernel
theorem dX5_gains_96 : decode cX5_gains 96 = .ok (.iload_n 3, 1) := by decide +kernel
theorem dX5_gains_97 : decode cX5_gains 97 = .ok (.invokevirtual 174, 3) := by decide +kernel
theorem dX5_gains_100 : decode cX5_gains 100 = .ok (.iconst 0, 1) := by decide +kernel
theorem dX5_gains_101 : decode cX5_gains 101 = .ok (.istore 4, 2) := by decide +kernel
theorem dX5_gains_103 : decode cX5_gains 103 = .ok (.iconst 0, 1) := by decide +kernel
theorem dX5_gains_104 : decode cX5_gains 104 = .ok (.istore 5, 2) := by decide +kernel
theorem dX5_gains_106 : decode cX5_gains 106 = .ok (.iload 5, 2) := by decide +kernel
theorem dX5_gains_108 : decode cX5_gains 108 = .ok (.aload_n 0, 1) := by decide +kernel
theorem dX5_gains_109 : decode cX5_gains 109 = .ok (.getfield 7, 3) := by decide +kernel
theorem dX5_gains_112 : decode cX5_gains 112 = .ok (.iconst 1, 1) := by decide +kernel
theorem dX5_gains_113 : decode cX5_gains 113 = .ok (.iaload, 1) := by decide +kernel
theorem dX5_gains_114 : decode cX5_gains 114 = .ok (.if_icmp .ge 38, 3) := by decide +kernel
theorem dX5_gains_117 : decode cX5_gains 117 = .ok (.iload 4, 2) := by decide +kernel
theorem dX5_gains_119 : decode cX5_gains 119 = .ok (.aload_n 0, 1) := by decide +kernel
theorem dX5_gains_120 : decode cX5_gains 120 = .ok (.iload 5, 2) := by decide +kernel
theorem dX5_gains_122 : decode cX5_gains 122 = .ok (.invokevirtual 146, 3) := by decide +kernel
theorem dX5_gains_125 : decode cX5_gains 125 = .ok (.aload_n 0, 1) := by decide +kernel
theorem dX5_gains_126 : decode cX5_gains 126 = .ok (.getfield 22, 3) := by decide +kernel
theorem dX5_gains_129 : decode cX5_gains 129 = .ok (.iload 5, 2) := by decide +kernel
theorem dX5_gains_131 : decode cX5_gains 131 = .ok (.iaload, 1) := by decide +kernel
theorem dX5_gains_132 : decode cX5_gains 132 = .ok (.if_icmp .ge 10, 3) := by decide +kernel
theorem dX5_gains_135 : decode cX5_gains 135 = .ok (.iconst 1, 1) := by decide +kernel
theorem dX5_gains_136 : decode cX5_gains 136 = .ok (.iload 5, 2) := by decide +kernel
theorem dX5_gains_138 : decode cX5_gains 138 = .ok (.ishl, 1) := by decide +kernel
theorem dX5_gains_139 : decode cX5_gains 139 = .ok (.goto 4, 3) := by decide +kernel
theorem dX5_gains_142 : decode cX5_gains 142 = .ok (.iconst 0, 1) := by decide +kernel
theorem dX5_gains_143 : decode cX5_gains 143 = .ok (.ior, 1) := by decide +kernel
theorem dX5_gains_144 : decode cX5_gains 144 = .ok (.istore 4, 2) := by decide +kernel
theorem dX5_gains_146 : decode cX5_gains 146 = .ok (.iinc 5 1, 3) := by decide +kernel
theorem dX5_gains_149 : decode cX5_gains 149 = .ok (.goto (-43), 3) := by decide +kernel
theorem dX5_gains_152 : decode cX5_gains 152 = .ok (.aload_n 0, 1) := by decide +kernel
theorem dX5_gains_153 : decode cX5_gains 153 = .ok (.invokevirtual 178, 3) := by decide +kernel
theorem dX5_gains_156 : decode cX5_gains 156 = .ok (.iload 4, 2) := by decide +kernel
theorem dX5_gains_158 : decode cX5_gains 158 = .ok (.ireturn, 1) := by decide +kernel
theorem dX5_has_0 : decode cX5_has 0 = .ok (.iload_n 0, 1) := by decide +kernel
theorem dX5_has_1 : decode cX5_has 1 = .ok (.iload_n 1, 1) := by decide +kernel
theorem dX5_has_2 : decode cX5_has 2 = .ok (.ishr, 1) := by decide +kernel
theorem dX5_has_3 : decode cX5_has 3 = .ok (.iconst 1, 1) := by decide +kernel
theorem dX5_has_4 : decode cX5_has 4 = .ok (.iand, 1) := by decide +kernel
theorem dX5_has_5 : decode cX5_has 5 = .ok (.iconst 1, 1) := by decide +kernel
theorem dX5_has_6 : decode cX5_has 6 = .ok (.if_icmp .ne 7, 3) := by decide +kernel
theorem dX5_has_9 : decode cX5_has 9 = .ok (.iconst 1, 1) := by decide +kernel
theorem dX5_has_10 : decode cX5_has 10 = .ok (.goto 4, 3) := by decide +kernel
theorem dX5_has_13 : decode cX5_has 13 = .ok (.iconst 0, 1) := by decide +kernel
theorem dX5_has_14 : decode cX5_has 14 = .ok (.ireturn, 1) := by decide +kernel
theorem dX5_height_0 : decode cX5_height 0 = .ok (.iload_n 1, 1) := by decide +kernel
theorem dX5_height_1 : decode cX5_height 1 = .ok (.invokestatic 58, 3) := by decide +kernel
theorem dX5_height_4 : decode cX5_height 4 = .ok (.ifCond .eq 29, 3) := by decide +kernel
theorem dX5_height_7 : decode cX5_height 7 = .ok (.aload_n 0, 1) := by decide +kernel
theorem dX5_height_8 : decode cX5_height 8 = .ok (.iload_n 2, 1) := by decide +kernel
theorem dX5_height_9 : decode cX5_height 9 = .ok (.invokevirtual 104, 3) := by decide +kernel
theorem dX5_height_12 : decode cX5_height 12 = .ok (.ifCond .eq 21, 3) := by decide +kernel
theorem dX5_height_15 : decode cX5_height 15 = .ok (.iload_n 3, 1) := by decide +kernel
theorem dX5_height_16 : decode cX5_height 16 = .ok (.invokestatic 159, 3) := by decide +kernel
theorem dX5_height_19 : decode cX5_height 19 = .ok (.ifCond .eq 14, 3) := by decide +kernel
theorem dX5_height_22 : decode cX5_height 22 = .ok (.iload 4, 2) := by decide +kernel
theorem dX5_height_24 : decode cX5_height 24 = .ok (.i2l, 1) := by decide +kernel
theorem dX5_height_25 : decode cX5_height 25 = .ok (.lconst 0, 1) := by decide +kernel
theorem dX5_height_26 : decode cX5_height 26 = .ok (.lconst 1, 1) := by decide +kernel
theorem dX5_height_27 : decode cX5_height 27 = .ok (.invokestatic 46, 3) := by decide +kernel
theorem dX5_height_30 : decode cX5_height 30 = .ok (.ifCond .ne 10, 3) := by decide +kernel
theorem dX5_height_33 : decode cX5_height 33 = .ok (.aload_n 0, 1) := by decide +kernel
theorem dX5_height_34 : decode cX5_height 34 = .ok (.ldc 43, 2) := by decide +kernel
theorem dX5_height_36 : decode cX5_height 36 = .ok (.invokevirtual 75, 3) := by decide +kernel
theorem dX5_height_39 : decode cX5_height 39 = .ok (.ireturn, 1) := by decide +kernel
theorem dX5_height_40 : decode cX5_height 40 = .ok (.aload_n 0, 1) := by decide +kernel
theorem dX5_height_41 : decode cX5_height 41 = .ok (.iload_n 1, 1) := by decide +kernel
theorem dX5_height_42 : decode cX5_height 42 = .ok (.iload_n 2, 1) := by decide +kernel
theorem dX5_height_43 : decode cX5_height 43 = .ok (.iload_n 3, 1) := by decide +kernel
theorem dX5_height_44 : decode cX5_height 44 = .ok (.invokevirtual 195, 3) := by decide +kernel
theorem dX5_height_47 : decode cX5_height 47 = .ok (.aload_n 0, 1) := by decide +kernel
theorem dX5_height_48 : decode cX5_height 48 = .ok (.getfield 185, 3) := by decide +kernel
theorem dX5_height_51 : decode cX5_height 51 = .ok (.ifCond .ne 12, 3) := by decide +kernel
theorem dX5_height_54 : decode cX5_height 54 = .ok (.aload_n 0, 1) := by decide +kernel
theorem dX5_height_55 : decode cX5_height 55 = .ok (.ldc 145, 2) := by decide +kernel
theorem dX5_height_57 : decode cX5_height 57 = .ok (.invokevirtual 75, 3) := by decide +kernel
theorem dX5_height_60 : decode cX5_height 60 = .ok (.goto 19, 3) := by decide +kernel
theorem dX5_height_63 : decode cX5_height 63 = .ok (.iload 4, 2) := by decide +kernel
theorem dX5_height_65 : decode cX5_height 65 = .ok (.ifCond .ne 10, 3) := by decide +kernel
theorem dX5_height_68 : decode cX5_height 68 = .ok (.aload_n 0, 1) := by decide +kernel
theorem dX5_height_69 : decode cX5_height 69 = .ok (.getfield 189, 3) := by decide +kernel
theorem dX5_height_72 : decode cX5_height 72 = .ok (.goto 7, 3) := by decide +kernel
theorem dX5_height_75 : decode cX5_height 75 = .ok (.aload_n 0, 1) := by decide +kernel
theorem dX5_height_76 : decode cX5_height 76 = .ok (.getfield 192, 3) := by decide +kernel
theorem dX5_height_79 : decode cX5_height 79 = .ok (.ireturn, 1) := by decide +kernel
theorem dX5_heightOf_0 : decode cX5_heightOf 0 = .ok (.aload_n 0, 1) := by decide +kernel
theorem dX5_heightOf_1 : decode cX5_heightOf 1 = .ok (.getfield 7, 3) := by decide +kernel
theorem dX5_heightOf_4 : decode cX5_heightOf 4 = .ok (.iconst 5, 1) := by decide +kernel
theorem dX5_heightOf_5 : decode cX5_heightOf 5 = .ok (.iconst 3, 1) := by decide +kernel
theorem dX5_heightOf_6 : decode cX5_heightOf 6 = .ok (.iload_n 1, 1) := by decide +kernel
theorem dX5_heightOf_7 : decode cX5_heightOf 7 = .ok (.imul, 1) := by decide +kernel
theorem dX5_heightOf_8 : decode cX5_heightOf 8 = .ok (.iadd, 1) := by decide +kernel
theorem dX5_heightOf_9 : decode cX5_heightOf 9 = .ok (.iconst 1, 1) := by decide +kernel
theorem dX5_heightOf_10 : decode cX5_heightOf 10 = .ok (.iadd, 1) := by decide +kernel
theorem dX5_heightOf_11 : decode cX5_heightOf 11 = .ok (.iaload, 1) := by decide +kernel
theorem dX5_heightOf_12 : decode cX5_heightOf 12 = .ok (.ireturn, 1) := by decide +kernel
theorem dX5_heights_0 : decode cX5_heights 0 = .ok (.iload_n 1, 1) := by decide +kernel
theorem dX5_heights_1 : decode cX5_heights 1 = .ok (.invokestatic 58, 3) := by decide +kernel
theorem dX5_heights_4 : decode cX5_heights 4 = .ok (.ifCond .eq 18, 3) := by decide +kernel
theorem dX5_heights_7 : decode cX5_heights 7 = .ok (.aload_n 0, 1) := by decide +kernel
theorem dX5_heights_8 : decode cX5_heights 8 = .ok (.iload_n 2, 1) := by decide +kernel
theorem dX5_heights_9 : decode cX5_heights 9 = .ok (.invokevirtual 104, 3) := by decide +kernel
theorem dX5_heights_12 : decode cX5_heights 12 = .ok (.ifCond .eq 10, 3) := by decide +kernel
theorem dX5_heights_15 : decode cX5_heights 15 = .ok (.iload_n 3, 1) := by decide +kernel
theorem dX5_heights_16 : decode cX5_heights 16 = .ok (.invokestatic 159, 3) := by decide +kernel
theorem dX5_heights_19 : decode cX5_heights 19 = .ok (.ifCond .ne 10, 3) := by decide +kernel
theorem dX5_heights_22 : decode cX5_heights 22 = .ok (.aload_n 0, 1) := by decide +kernel
theorem dX5_heights_23 : decode cX5_heights 23 = .ok (.ldc 43, 2) := by decide +kernel
theorem dX5_heights_25 : decode cX5_heights 25 = .ok (.invokevirtual 75, 3) := by decide +kernel
theorem dX5_heights_28 : decode cX5_heights 28 = .ok (.ireturn, 1) := by decide +kernel
theorem dX5_heights_29 : decode cX5_heights 29 = .ok (.aload_n 0, 1) := by decide +kernel
theorem dX5_heights_30 : decode cX5_heights 30 = .ok (.iload_n 1, 1) := by decide +kernel
theorem dX5_heights_31 : decode cX5_heights 31 = .ok (.iload_n 2, 1) := by decide +kernel
theorem dX5_heights_32 : decode cX5_heights 32 = .ok (.iload_n 3, 1) := by decide +kernel
theorem dX5_heights_33 : decode cX5_heights 33 = .ok (.invokevirtual 195, 3) := by decide +kernel
theorem dX5_heights_36 : decode cX5_heights 36 = .ok (.aload_n 0, 1) := by decide +kernel
theorem dX5_heights_37 : decode cX5_heights 37 = .ok (.getfield 185, 3) := by decide +kernel
theorem dX5_heights_40 : decode cX5_heights 40 = .ok (.ireturn, 1) := by decide +kernel
theorem dX5_hidden_0 : decode cX5_hidden 0 = .ok (.aload_n 0, 1) := by decide +kernel
theorem dX5_hidden_1 : decode cX5_hidden 1 = .ok (.iload_n 1, 1) := by decide +kernel
theorem dX5_hidden_2 : decode cX5_hidden 2 = .ok (.invokevirtual 104, 3) := by decide +kernel
theorem dX5_hidden_5 : decode cX5_hidden 5 = .ok (.ifCond .eq 10, 3) := by decide +kernel
theorem dX5_hidden_8 : decode cX5_hidden 8 = .ok (.iload_n 2, 1) := by decide +kernel
theorem dX5_hidden_9 : decode cX5_hidden 9 = .ok (.invokestatic 58, 3) := by decide +kernel
theorem dX5_hidden_12 : decode cX5_hidden 12 = .ok (.ifCond .ne 10, 3) := by decide +kernel
theorem dX5_hidden_15 : decode cX5_hidden 15 = .ok (.aload_n 0, 1) := by decide +kernel
theorem dX5_hidden_16 : decode cX5_hidden 16 = .ok (.ldc 43, 2) := by decide +kernel
theorem dX5_hidden_18 : decode cX5_hidden 18 = .ok (.invokevirtual 75, 3) := by decide +kernel
theorem dX5_hidden_21 : decode cX5_hidden 21 = .ok (.ireturn, 1) := by decide +kernel
theorem dX5_hidden_22 : decode cX5_hidden 22 = .ok (.aload_n 0, 1) := by decide +kernel
theorem dX5_hidden_23 : decode cX5_hidden 23 = .ok (.iload_n 1, 1) := by decide +kernel
theorem dX5_hidden_24 : decode cX5_hidden 24 = .ok (.iload_n 2, 1) := by decide +kernel
theorem dX5_hidden_25 : decode cX5_hidden 25 = .ok (.invokevirtual 134, 3) := by decide +kernel
theorem dX5_hidden_28 : decode cX5_hidden 28 = .ok (.ifCond .ne 10, 3) := by decide +kernel
theorem dX5_hidden_31 : decode cX5_hidden 31 = .ok (.aload_n 0, 1) := by decide +kernel
theorem dX5_hidden_32 : decode cX5_hidden 32 = .ok (.ldc 144, 2) := by decide +kernel
theorem dX5_hidden_34 : decode cX5_hidden 34 = .ok (.invokevirtual 75, 3) := by decide +kernel
theorem dX5_hidden_37 : decode cX5_hidden 37 = .ok (.ireturn, 1) := by decide +kernel
theorem dX5_hidden_38 : decode cX5_hidden 38 = .ok (.aload_n 0, 1) := by decide +kernel
theorem dX5_hidden_39 : decode cX5_hidden 39 = .ok (.iload_n 1, 1) := by decide +kernel
theorem dX5_hidden_40 : decode cX5_hidden 40 = .ok (.iload_n 2, 1) := by decide +kernel
theorem dX5_hidden_41 : decode cX5_hidden 41 = .ok (.invokevirtual 137, 3) := by decide +kernel
theorem dX5_hidden_44 : decode cX5_hidden 44 = .ok (.istore_n 3, 1) := by decide +kernel
theorem dX5_hidden_45 : decode cX5_hidden 45 = .ok (.iload_n 3, 1) := by decide +kernel
theorem dX5_hidden_46 : decode cX5_hidden 46 = .ok (.ifCond .ge 12, 3) := by decide +kernel
theorem dX5_hidden_49 : decode cX5_hidden 49 = .ok (.aload_n 0, 1) := by decide +kernel
theorem dX5_hidden_50 : decode cX5_hidden 50 = .ok (.ldc 145, 2) := by decide +kernel
theorem dX5_hidden_52 : decode cX5_hidden 52 = .ok (.invokevirtual 75, 3) := by decide +kernel
theorem dX5_hidden_55 : decode cX5_hidden 55 = .ok (.goto 4, 3) := by decide +kernel
theorem dX5_hidden_58 : decode cX5_hidden 58 = .ok (.iload_n 3, 1) := by decide +kernel
theorem dX5_hidden_59 : decode cX5_hidden 59 = .ok (.ireturn, 1) := by decide +kernel
theorem dX5_hider_0 : decode cX5_hider 0 = .ok (.iload_n 2, 1) := by decide +kernel
theorem dX5_hider_1 : decode cX5_hider 1 = .ok (.aload_n 0, 1) := by decide +kernel
theorem dX5_hider_2 : decode cX5_hider 2 = .ok (.iload_n 1, 1) := by decide +kernel
theorem dX5_hider_3 : decode cX5_hider 3 = .ok (.invokevirtual 93, 3) := by decide +kernel
theorem dX5_hider_6 : decode cX5_hider 6 = .ok (.if_icmp .le 7, 3) := by decide +kernel
theorem dX5_hider_9 : decode cX5_hider 9 = .ok (.iconst 1, 1) := by decide +kernel
theorem dX5_hider_10 : decode cX5_hider 10 = .ok (.goto 4, 3) := by decide +kernel
theorem dX5_hider_13 : decode cX5_hider 13 = .ok (.iconst (-1), 1) := by decide +kernel
theorem dX5_hider_14 : decode cX5_hider 14 = .ok (.istore_n 3, 1) := by decide +kernel
theorem dX5_hider_15 : decode cX5_hider 15 = .ok (.aload_n 0, 1) := by decide +kernel
theorem dX5_hider_16 : decode cX5_hider 16 = .ok (.iload_n 1, 1) := by decide +kernel
theorem dX5_hider_17 : decode cX5_hider 17 = .ok (.invokevirtual 93, 3) := by decide +kernel
theorem dX5_hider_20 : decode cX5_hider 20 = .ok (.iload_n 3, 1) := by decide +kernel
theorem dX5_hider_21 : decode cX5_hider 21 = .ok (.iadd, 1) := by decide +kernel
theorem dX5_hider_22 : decode cX5_hider 22 = .ok (.istore 4, 2) := by decide +kernel
theorem dX5_hider_24 : decode cX5_hider 24 = .ok (.iload 4, 2) := by decide +kernel
theorem dX5_hider_26 : decode cX5_hider 26 = .ok (.iload_n 2, 1) := by decide +kernel
theorem dX5_hider_27 : decode cX5_hider 27 = .ok (.if_icmp .eq 23, 3) := by decide +kernel
theorem dX5_hider_30 : decode cX5_hider 30 = .ok (.aload_n 0, 1) := by decide +kernel
theorem dX5_hider_31 : decode cX5_hider 31 = .ok (.iload_n 1, 1) := by decide +kernel
theorem dX5_hider_32 : decode cX5_hider 32 = .ok (.iload 4, 2) := by decide +kernel
theorem dX5_hider_34 : decode cX5_hider 34 = .ok (.iload_n 2, 1) := by decide +kernel
theorem dX5_hider_35 : decode cX5_hider 35 = .ok (.invokevirtual 130, 3) := by decide +kernel
theorem dX5_hider_38 : decode cX5_hider 38 = .ok (.ifCond .ne 12, 3) := by decide +kernel
theorem dX5_hider_41 : decode cX5_hider 41 = .ok (.iload 4, 2) := by decide +kernel
theorem dX5_hider_43 : decode cX5_hider 43 = .ok (.iload_n 3, 1) := by decide +kernel
theorem dX5_hider_44 : decode cX5_hider 44 = .ok (.iadd, 1) := by decide +kernel
theorem dX5_hider_45 : decode cX5_hider 45 = .ok (.istore 4, 2) := by decide +kernel
theorem dX5_hider_47 : decode cX5_hider 47 = .ok (.goto (-23), 3) := by decide +kernel
theorem dX5_hider_50 : decode cX5_hider 50 = .ok (.iload 4, 2) := by decide +kernel
theorem dX5_hider_52 : decode cX5_hider 52 = .ok (.iload_n 2, 1) := by decide +kernel
theorem dX5_hider_53 : decode cX5_hider 53 = .ok (.if_icmp .ne 7, 3) := by decide +kernel
theorem dX5_hider_56 : decode cX5_hider 56 = .ok (.iconst (-1), 1) := by decide +kernel
theorem dX5_hider_57 : decode cX5_hider 57 = .ok (.goto 5, 3) := by decide +kernel
theorem dX5_hider_60 : decode cX5_hider 60 = .ok (.iload 4, 2) := by decide +kernel
theorem dX5_hider_62 : decode cX5_hider 62 = .ok (.ireturn, 1) := by decide +kernel
theorem dX5_hold_0 : decode cX5_hold 0 = .ok (.iload_n 1, 1) := by decide +kernel
theorem dX5_hold_1 : decode cX5_hold 1 = .ok (.i2l, 1) := by decide +kernel
theorem dX5_hold_2 : decode cX5_hold 2 = .ok (.lconst 0, 1) := by decide +kernel
theorem dX5_hold_3 : decode cX5_hold 3 = .ok (.ldc2_w 304, 3) := by decide +kernel
theorem dX5_hold_6 : decode cX5_hold 6 = .ok (.invokestatic 46, 3) := by decide +kernel
theorem dX5_hold_9 : decode cX5_hold 9 = .ok (.ifCond .eq 17, 3) := by decide +kernel
theorem dX5_hold_12 : decode cX5_hold 12 = .ok (.iload_n 2, 1) := by decide +kernel
theorem dX5_hold_13 : decode cX5_hold 13 = .ok (.i2l, 1) := by decide +kernel
theorem dX5_hold_14 : decode cX5_hold 14 = .ok (.ldc2_w 306, 3) := by decide +kernel
theorem dX5_hold_17 : decode cX5_hold 17 = .ok (.ldc2_w 44, 3) := by decide +kernel
theorem dX5_hold_20 : decode cX5_hold 20 = .ok (.invokestatic 46, 3) := by decide +kernel
theorem dX5_hold_23 : decode cX5_hold 23 = .ok (.ifCond .ne 10, 3) := by decide +kernel
theorem dX5_hold_26 : decode cX5_hold 26 = .ok (.aload_n 0, 1) := by decide +kernel
theorem dX5_hold_27 : decode cX5_hold 27 = .ok (.ldc 43, 2) := by decide +kernel
theorem dX5_hold_29 : decode cX5_hold 29 = .ok (.invokevirtual 75, 3) := by decide +kernel
theorem dX5_hold_32 : decode cX5_hold 32 = .ok (.ireturn, 1) := by decide +kernel
theorem dX5_hold_33 : decode cX5_hold 33 = .ok (.aload_n 0, 1) := by decide +kernel
theorem dX5_hold_34 : decode cX5_hold 34 = .ok (.getfield 7, 3) := by decide +kernel
theorem dX5_hold_37 : decode cX5_hold 37 = .ok (.bipush 101, 2) := by decide +kernel
theorem dX5_hold_39 : decode cX5_hold 39 = .ok (.iload_n 1, 1) := by decide +kernel
theorem dX5_hold_40 : decode cX5_hold 40 = .ok (.iadd, 1) := by decide +kernel
theorem dX5_hold_41 : decode cX5_hold 41 = .ok (.iload_n 2, 1) := by decide +kernel
theorem dX5_hold_42 : decode cX5_hold 42 = .ok (.iastore, 1) := by decide +kernel
theorem dX5_hold_43 : decode cX5_hold 43 = .ok (.iconst 1, 1) := by decide +kernel
theorem dX5_hold_44 : decode cX5_hold 44 = .ok (.ireturn, 1) := by decide +kernel
theorem dX5_house_0 : decode cX5_house 0 = .ok (.iload_n 1, 1) := by decide +kernel
theorem dX5_house_1 : decode cX5_house 1 = .ok (.invokestatic 58, 3) := by decide +kernel
theorem dX5_house_4 : decode cX5_house 4 = .ok (.ifCond .eq 10, 3) := by decide +kernel
theorem dX5_house_7 : decode cX5_house 7 = .ok (.iload_n 2, 1) := by decide +kernel
theorem dX5_house_8 : decode cX5_house 8 = .ok (.invokestatic 96, 3) := by decide +kernel
theorem dX5_house_11 : decode cX5_house 11 = .ok (.ifCond .ne 10, 3) := by decide +kernel
theorem dX5_house_14 : decode cX5_house 14 = .ok (.aload_n 0, 1) := by decide +kernel
theorem dX5_house_15 : decode cX5_house 15 = .ok (.ldc 43, 2) := by decide +kernel
theorem dX5_house_17 : decode cX5_house 17 = .ok (.invokevirtual 75, 3) := by decide +kernel
theorem dX5_house_20 : decode cX5_house 20 = .ok (.ireturn, 1) := by decide +kernel
theorem dX5_house_21 : decode cX5_house 21 = .ok (.aload_n 0, 1) := by decide +kernel
theorem dX5_house_22 : decode cX5_house 22 = .ok (.getfield 7, 3) := by decide +kernel
theorem dX5_house_25 : decode cX5_house 25 = .ok (.iconst 1, 1) := by decide +kernel
theorem dX5_house_26 : decode cX5_house 26 = .ok (.iaload, 1) := by decide +kernel
theorem dX5_house_27 : decode cX5_house 27 = .ok (.bipush 8, 2) := by decide +kernel
theorem dX5_house_29 : decode cX5_house 29 = .ok (.if_icmp .ne 12, 3) := by decide +kernel
theorem dX5_house_32 : decode cX5_house 32 = .ok (.aload_n 0, 1) := by decide +kernel
theorem dX5_house_33 : decode cX5_house 33 = .ok (.ldc 99, 2) := by decide +kernel
theorem dX5_house_35 : decode cX5_house 35 = .ok (.invokevirtual 75, 3) := by decide +kernel
theorem dX5_house_38 : decode cX5_house 38 = .ok (.goto 10, 3) := by decide +kernel
theorem dX5_house_41 : decode cX5_house 41 = .ok (.aload_n 0, 1) := by decide +kernel
theorem dX5_house_42 : decode cX5_house 42 = .ok (.iload_n 1, 1) := by decide +kernel
theorem dX5_house_43 : decode cX5_house 43 = .ok (.iload_n 2, 1) := by decide +kernel
theorem dX5_house_44 : decode cX5_house 44 = .ok (.iconst 3, 1) := by decide +kernel
theorem dX5_house_45 : decode cX5_house 45 = .ok (.invokevirtual 100, 3) := by decide +kernel
theorem dX5_house_48 : decode cX5_house 48 = .ok (.ireturn, 1) := by decide +kernel
theorem dX5_houseItem_0 : decode cX5_houseItem 0 = .ok (.aload_n 0, 1) := by decide +kernel
theorem dX5_houseItem_1 : decode cX5_houseItem 1 = .ok (.aload_n 0, 1) := by decide +kernel
theorem dX5_houseItem_2 : decode cX5_houseItem 2 = .ok (.getfield 7, 3) := by decide +kernel
theorem dX5_houseItem_5 : decode cX5_houseItem 5 = .ok (.iconst 1, 1) := by decide +kernel
theorem dX5_houseItem_6 : decode cX5_houseItem 6 = .ok (.iaload, 1) := by decide +kernel
theorem dX5_houseItem_7 : decode cX5_houseItem 7 = .ok (.bipush 8, 2) := by decide +kernel
theorem dX5_houseItem_9 : decode cX5_houseItem 9 = .ok (.if_icmp .ge 7, 3) := by decide +kernel
theorem dX5_houseItem_12 : decode cX5_houseItem 12 = .ok (.iconst 1, 1) := by decide +kernel
theorem dX5_houseItem_13 : decode cX5_houseItem 13 = .ok (.goto 4, 3) := by decide +kernel
theorem dX5_houseItem_16 : decode cX5_houseItem 16 = .ok (.iconst 0, 1) := by decide +kernel
theorem dX5_houseItem_17 : decode cX5_houseItem 17 = .ok (.invokevirtual 244, 3) := by decide +kernel
theorem dX5_houseItem_20 : decode cX5_houseItem 20 = .ok (.aload_n 0, 1) := by decide +kernel
theorem dX5_houseItem_21 : decode cX5_houseItem 21 = .ok (.iconst 0, 1) := by decide +kernel
theorem dX5_houseItem_22 : decode cX5_houseItem 22 = .ok (.bipush 23, 2) := by decide +kernel
theorem dX5_houseItem_24 : decode cX5_houseItem 24 = .ok (.invokevirtual 266, 3) := by decide +kernel
theorem dX5_houseItem_27 : decode cX5_houseItem 27 = .ok (.aload_n 0, 1) := by decide +kernel
theorem dX5_houseItem_28 : decode cX5_houseItem 28 = .ok (.getfield 241, 3) := by decide +kernel
theorem dX5_houseItem_31 : decode cX5_houseItem 31 = .ok (.istore_n 1, 1) := by decide +kernel
theorem dX5_houseItem_32 : decode cX5_houseItem 32 = .ok (.aload_n 0, 1) := by decide +kernel
theorem dX5_houseItem_33 : decode cX5_houseItem 33 = .ok (.aload_n 0, 1) := by decide +kernel
theorem dX5_houseItem_34 : decode cX5_houseItem 34 = .ok (.invokevirtual 248, 3) := by decide +kernel
theorem dX5_houseItem_37 : decode cX5_houseItem 37 = .ok (.ldc2_w 278, 3) := by decide +kernel
theorem dX5_houseItem_40 : decode cX5_houseItem 40 = .ok (.lcmp, 1) := by decide +kernel
theorem dX5_houseItem_41 : decode cX5_houseItem 41 = .ok (.ifCond .ne 7, 3) := by decide +kernel
theorem dX5_houseItem_44 : decode cX5_houseItem 44 = .ok (.iconst 1, 1) := by decide +kernel
theorem dX5_houseItem_45 : decode cX5_houseItem 45 = .ok (.goto 4, 3) := by decide +kernel
theorem dX5_houseItem_48 : decode cX5_houseItem 48 = .ok (.iconst 0, 1) := by decide +kernel
theorem dX5_houseItem_49 : decode cX5_houseItem 49 = .ok (.invokevirtual 244, 3) := by decide +kernel
theorem dX5_houseItem_52 : decode cX5_houseItem 52 = .ok (.aload_n 0, 1) := by decide +kernel
theorem dX5_houseItem_53 : decode cX5_houseItem 53 = .ok (.iconst 1, 1) := by decide +kernel
theorem dX5_houseItem_54 : decode cX5_houseItem 54 = .ok (.bipush 40, 2) := by decide +kernel
theorem dX5_houseItem_56 : decode cX5_houseItem 56 = .ok (.invokevirtual 266, 3) := by decide +kernel
theorem dX5_houseItem_59 : decode cX5_houseItem 59 = .ok (.aload_n 0, 1) := by decide +kernel
theorem dX5_houseItem_60 : decode cX5_houseItem 60 = .ok (.getfield 241, 3) := by decide +kernel
theorem dX5_houseItem_63 : decode cX5_houseItem 63 = .ok (.istore_n 2, 1) := by decide +kernel
theorem dX5_houseItem_64 : decode cX5_houseItem 64 = .ok (.iconst 3, 1) := by decide +kernel
theorem dX5_houseItem_65 : decode cX5_houseItem 65 = .ok (.istore_n 3, 1) := by decide +kernel
theorem dX5_houseItem_66 : decode cX5_houseItem 66 = .ok (.aload_n 0, 1) := by decide +kernel
theorem dX5_houseItem_67 : decode cX5_houseItem 67 = .ok (.invokevirtual 248, 3) := by decide +kernel
theorem dX5_houseItem_70 : decode cX5_houseItem 70 = .ok (.ldc2_w 280, 3) := by decide +kernel
theorem dX5_houseItem_73 : decode cX5_houseItem 73 = .ok (.lcmp, 1) := by decide +kernel
theorem dX5_houseItem_74 : decode cX5_houseItem 74 = .ok (.ifCond .ne 62, 3) := by decide +kernel
theorem dX5_houseItem_77 : decode cX5_houseItem 77 = .ok (.aload_n 0, 1) := by decide +kernel
theorem dX5_houseItem_78 : decode cX5_houseItem 78 = .ok (.iconst 1, 1) := by decide +kernel
theorem dX5_houseItem_79 : decode cX5_houseItem 79 = .ok (.invokevirtual 244, 3) := by decide +kernel
theorem dX5_houseItem_82 : decode cX5_houseItem 82 = .ok (.aload_n 0, 1) := by decide +kernel
theorem dX5_houseItem_83 : decode cX5_houseItem 83 = .ok (.invokevirtual 248, 3) := by decide +kernel
theorem dX5_houseItem_86 : decode cX5_houseItem 86 = .ok (.ldc2_w 282, 3) := by decide +kernel
theorem dX5_houseItem_89 : decode cX5_houseItem 89 = .ok (.lcmp, 1) := by decide +kernel
theorem dX5_houseItem_90 : decode cX5_houseItem 90 = .ok (.ifCond .ne 7, 3) := by decide +kernel
theorem dX5_houseItem_93 : decode cX5_houseItem 93 = .ok (.iconst 1, 1) := by decide +kernel
theorem dX5_houseItem_94 : decode cX5_houseItem 94 = .ok (.goto 4, 3) := by decide +kernel
theorem dX5_houseItem_97 : decode cX5_houseItem 97 = .ok (.iconst 0, 1) := by decide +kernel
theorem dX5_houseItem_98 : decode cX5_houseItem 98 = .ok (.istore 4, 2) := by decide +kernel
theorem dX5_houseItem_100 : decode cX5_houseItem 100 = .ok (.aload_n 0, 1) := by decide +kernel
theorem dX5_houseItem_101 : decode cX5_houseItem 101 = .ok (.iload 4, 2) := by decide +kernel
theorem dX5_houseItem_103 : decode cX5_houseItem 103 = .ok (.ifCond .ne 14, 3) := by decide +kernel
theorem dX5_houseItem_106 : decode cX5_houseItem 106 = .ok (.aload_n 0, 1) := by decide +kernel
theorem dX5_houseItem_107 : decode cX5_houseItem 107 = .ok (.invokevirtual 248, 3) := by decide +kernel
theorem dX5_houseItem_110 : decode cX5_houseItem 110 = .ok (.ldc2_w 284, 3) := by decide +kernel
theorem dX5_houseItem_113 : decode cX5_houseItem 113 = .ok (.lcmp, 1) := by decide +kernel
theorem dX5_houseItem_114 : decode cX5_houseItem 114 = .ok (.ifCond .ne 7, 3) := by decide +kernel
theorem dX5_houseItem_117 : decode cX5_houseItem 117 = .ok (.iconst 1, 1) := by decide +kernel
theorem dX5_houseItem_118 : decode cX5_houseItem 118 = .ok (.goto 4, 3) := by decide +kernel
theorem dX5_houseItem_121 : decode cX5_houseItem 121 = .ok (.iconst 0, 1) := by decide +kernel
theorem dX5_houseItem_122 : decode cX5_houseItem 122 = .ok (.invokevirtual 244, 3) := by decide +kernel
theorem dX5_houseItem_125 : decode cX5_houseItem 125 = .ok (.iload 4, 2) := by decide +kernel
theorem dX5_houseItem_127 : decode cX5_houseItem 127 = .ok (.ifCond .eq 7, 3) := by decide +kernel
theorem dX5_houseItem_130 : decode cX5_houseItem 130 = .ok (.iconst 2, 1) := by decide +kernel
theorem dX5_houseItem_131 : decode cX5_houseItem 131 = .ok (.goto 4, 3) := by decide +kernel
theorem dX5_houseItem_134 : decode cX5_houseItem 134 = .ok (.iconst 1, 1) := by decide +kernel
theorem dX5_houseItem_135 : decode cX5_houseItem 135 = .ok (.istore_n 3, 1) := by decide +kernel
theorem dX5_houseItem_136 : decode cX5_houseItem 136 = .ok (.aload_n 0, 1) := by decide +kernel
theorem dX5_houseItem_137 : decode cX5_houseItem 137 = .ok (.getfield 230, 3) := by decide +kernel
theorem dX5_houseItem_140 : decode cX5_houseItem 140 = .ok (.ifCond .ne 12, 3) := by decide +kernel
theorem dX5_houseItem_143 : decode cX5_houseItem 143 = .ok (.aload_n 0, 1) := by decide +kernel
theorem dX5_houseItem_144 : decode cX5_houseItem 144 = .ok (.iload_n 1, 1) := by decide +kernel
theorem dX5_houseItem_145 : decode cX5_houseItem 145 = .ok (.iload_n 2, 1) := by decide +kernel
theorem dX5_houseItem_146 : decode cX5_houseItem 146 = .ok (.iload_n 3, 1) := by decide +kernel
theorem dX5_houseItem_147 : decode cX5_houseItem 147 = .ok (.invokevirtual 100, 3) := by decide +kernel
theorem dX5_houseItem_150 : decode cX5_houseItem 150 = .ok (.istore 4, 2) := by decide +kernel
theorem dX5_houseItem_152 : decode cX5_houseItem 152 = .ok (.return_, 1) := by decide +kernel
theorem dX5_houseOf_0 : decode cX5_houseOf 0 = .ok (.aload_n 0, 1) := by decide +kernel
theorem dX5_houseOf_1 : decode cX5_houseOf 1 = .ok (.iload_n 1, 1) := by decide +kernel
theorem dX5_houseOf_2 : decode cX5_houseOf 2 = .ok (.invokevirtual 104, 3) := by decide +kernel
theorem dX5_houseOf_5 : decode cX5_houseOf 5 = .ok (.ifCond .eq 15, 3) := by decide +kernel
theorem dX5_houseOf_8 : decode cX5_houseOf 8 = .ok (.iload_n 2, 1) := by decide +kernel
theorem dX5_houseOf_9 : decode cX5_houseOf 9 = .ok (.i2l, 1) := by decide +kernel
theorem dX5_houseOf_10 : decode cX5_houseOf 10 = .ok (.lconst 0, 1) := by decide +kernel
theorem dX5_houseOf_11 : decode cX5_houseOf 11 = .ok (.ldc2_w 107, 3) := by decide +kernel
theorem dX5_houseOf_14 : decode cX5_houseOf 14 = .ok (.invokestatic 46, 3) := by decide +kernel
theorem dX5_houseOf_17 : decode cX5_houseOf 17 = .ok (.ifCond .ne 10, 3) := by decide +kernel
theorem dX5_houseOf_20 : decode cX5_houseOf 20 = .ok (.aload_n 0, 1) := by decide +kernel
theorem dX5_houseOf_21 : decode cX5_houseOf 21 = .ok (.ldc 43, 2) := by decide +kernel
theorem dX5_houseOf_23 : decode cX5_houseOf 23 = .ok (.invokevirtual 75, 3) := by decide +kernel
theorem dX5_houseOf_26 : decode cX5_houseOf 26 = .ok (.ireturn, 1) := by decide +kernel
theorem dX5_houseOf_27 : decode cX5_houseOf 27 = .ok (.iload_n 2, 1) := by decide +kernel
theorem dX5_houseOf_28 : decode cX5_houseOf 28 = .ok (.iconst 2, 1) := by decide +kernel
theorem dX5_houseOf_29 : decode cX5_houseOf 29 = .ok (.if_icmp .ge 19, 3) := by decide +kernel
theorem dX5_houseOf_32 : decode cX5_houseOf 32 = .ok (.aload_n 0, 1) := by decide +kernel
theorem dX5_houseOf_33 : decode cX5_houseOf 33 = .ok (.getfield 7, 3) := by decide +kernel
theorem dX5_houseOf_36 : decode cX5_houseOf 36 = .ok (.bipush 77, 2) := by decide +kernel
theorem dX5_houseOf_38 : decode cX5_houseOf 38 = .ok (.iconst 3, 1) := by decide +kernel
theorem dX5_houseOf_39 : decode cX5_houseOf 39 = .ok (.iload_n 1, 1) := by decide +kernel
theorem dX5_houseOf_40 : decode cX5_houseOf 40 = .ok (.imul, 1) := by decide +kernel
theorem dX5_houseOf_41 : decode cX5_houseOf 41 = .ok (.iadd, 1) := by decide +kernel
theorem dX5_houseOf_42 : decode cX5_houseOf 42 = .ok (.iload_n 2, 1) := by decide +kernel
theorem dX5_houseOf_43 : decode cX5_houseOf 43 = .ok (.iadd, 1) := by decide +kernel
theorem dX5_houseOf_44 : decode cX5_houseOf 44 = .ok (.iaload, 1) := by decide +kernel
theorem dX5_houseOf_45 : decode cX5_houseOf 45 = .ok (.goto 21, 3) := by decide +kernel
theorem dX5_houseOf_48 : decode cX5_houseOf 48 = .ok (.iload_n 2, 1) := by decide +kernel
theorem dX5_houseOf_49 : decode cX5_houseOf 49 = .ok (.iconst 2, 1) := by decide +kernel
theorem dX5_houseOf_50 : decode cX5_houseOf 50 = .ok (.if_icmp .ne 11, 3) := by decide +kernel
theorem dX5_houseOf_53 : decode cX5_houseOf 53 = .ok (.aload_n 0, 1) := by decide +kernel
theorem dX5_houseOf_54 : decode cX5_houseOf 54 = .ok (.iload_n 1, 1) := by decide +kernel
theorem dX5_houseOf_55 : decode cX5_houseOf 55 = .ok (.invokevirtual 109, 3) := by decide +kernel
theorem dX5_houseOf_58 : decode cX5_houseOf 58 = .ok (.goto 8, 3) := by decide +kernel
theorem dX5_houseOf_61 : decode cX5_houseOf 61 = .ok (.aload_n 0, 1) := by decide +kernel
theorem dX5_houseOf_62 : decode cX5_houseOf 62 = .ok (.iload_n 1, 1) := by decide +kernel
theorem dX5_houseOf_63 : decode cX5_houseOf 63 = .ok (.invokevirtual 112, 3) := by decide +kernel
theorem dX5_houseOf_66 : decode cX5_houseOf 66 = .ok (.ireturn, 1) := by decide +kernel
theorem dX5_image_0 : decode cX5_image 0 = .ok (.iconst 0, 1) := by decide +kernel
theorem dX5_image_1 : decode cX5_image 1 = .ok (.istore_n 1, 1) := by decide +kernel
theorem dX5_image_2 : decode cX5_image 2 = .ok (.iload_n 1, 1) := by decide +kernel
theorem dX5_image_3 : decode cX5_image 3 = .ok (.bipush 111, 2) := by decide +kernel
theorem dX5_image_5 : decode cX5_image 5 = .ok (.if_icmp .ge 21, 3) := by decide +kernel
theorem dX5_image_8 : decode cX5_image 8 = .ok (.aload_n 0, 1) := by decide +kernel
theorem dX5_image_9 : decode cX5_image 9 = .ok (.getfield 13, 3) := by decide +kernel
theorem dX5_image_12 : decode cX5_image 12 = .ok (.iload_n 1, 1) := by decide +kernel
theorem dX5_image_13 : decode cX5_image 13 = .ok (.aload_n 0, 1) := by decide +kernel
theorem dX5_image_14 : decode cX5_image 14 = .ok (.getfield 7, 3) := by decide +kernel
theorem dX5_image_17 : decode cX5_image 17 = .ok (.iload_n 1, 1) := by decide +kernel
theorem dX5_image_18 : decode cX5_image 18 = .ok (.iaload, 1) := by decide +kernel
theorem dX5_image_19 : decode cX5_image 19 = .ok (.iastore, 1) := by decide +kernel
theorem dX5_image_20 : decode cX5_image 20 = .ok (.iinc 1 1, 3) := by decide +kernel
theorem dX5_image_23 : decode cX5_image 23 = .ok (.goto (-21), 3) := by decide +kernel
theorem dX5_image_26 : decode cX5_image 26 = .ok (.aload_n 0, 1) := by decide +kernel
theorem dX5_image_27 : decode cX5_image 27 = .ok (.iconst 1, 1) := by decide +kernel
theorem dX5_image_28 : decode cX5_image 28 = .ok (.putfield 320, 3) := by decide +kernel
theorem dX5_image_31 : decode cX5_image 31 = .ok (.iconst 1, 1) := by decide +kernel
theorem dX5_image_32 : decode cX5_image 32 = .ok (.ireturn, 1) := by decide +kernel
theorem dX5_in_0 : decode cX5_in 0 = .ok (.lload_n 0, 1) := by decide +kernel
theorem dX5_in_1 : decode cX5_in 1 = .ok (.lload_n 2, 1) := by decide +kernel
theorem dX5_in_2 : decode cX5_in 2 = .ok (.lcmp, 1) := by decide +kernel
theorem dX5_in_3 : decode cX5_in 3 = .ok (.ifCond .lt 14, 3) := by decide +kernel
theorem dX5_in_6 : decode cX5_in 6 = .ok (.lload_n 0, 1) := by decide +kernel
theorem dX5_in_7 : decode cX5_in 7 = .ok (.lload 4, 2) := by decide +kernel
theorem dX5_in_9 : decode cX5_in 9 = .ok (.lcmp, 1) := by decide +kernel
theorem dX5_in_10 : decode cX5_in 10 = .ok (.ifCond .gt 7, 3) := by decide +kernel
theorem dX5_in_13 : decode cX5_in 13 = .ok (.iconst 1, 1) := by decide +kernel
theorem dX5_in_14 : decode cX5_in 14 = .ok (.goto 4, 3) := by decide +kernel
theorem dX5_in_17 : decode cX5_in 17 = .ok (.iconst 0, 1) := by decide +kernel
theorem dX5_in_18 : decode cX5_in 18 = .ok (.ireturn, 1) := by decide +kernel
theorem dX5_isAhead_0 : decode cX5_isAhead 0 = .ok (.iload_n 0, 1) := by decide +kernel
theorem dX5_isAhead_1 : decode cX5_isAhead 1 = .ok (.i2l, 1) := by decide +kernel
theorem dX5_isAhead_2 : decode cX5_isAhead 2 = .ok (.lconst 0, 1) := by decide +kernel
theorem dX5_isAhead_3 : decode cX5_isAhead 3 = .ok (.ldc2_w 54, 3) := by decide +kernel
theorem dX5_isAhead_6 : decode cX5_isAhead 6 = .ok (.invokestatic 46, 3) := by decide +kernel
theorem dX5_isAhead_9 : decode cX5_isAhead 9 = .ok (.ireturn, 1) := by decide +kernel
theorem dX5_isCell_0 : decode cX5_isCell 0 = .ok (.iload_n 0, 1) := by decide +kernel
theorem dX5_isCell_1 : decode cX5_isCell 1 = .ok (.i2l, 1) := by decide +kernel
theorem dX5_isCell_2 : decode cX5_isCell 2 = .ok (.lconst 0, 1) := by decide +kernel
theorem dX5_isCell_3 : decode cX5_isCell 3 = .ok (.ldc2_w 44, 3) := by decide +kernel
theorem dX5_isCell_6 : decode cX5_isCell 6 = .ok (.invokestatic 46, 3) := by decide +kernel
theorem dX5_isCell_9 : decode cX5_isCell 9 = .ok (.ireturn, 1) := by decide +kernel
theorem dX5_isDigit_0 : decode cX5_isDigit 0 = .ok (.iload_n 0, 1) := by decide +kernel
theorem dX5_isDigit_1 : decode cX5_isDigit 1 = .ok (.i2l, 1) := by decide +kernel
theorem dX5_isDigit_2 : decode cX5_isDigit 2 = .ok (.ldc2_w 211, 3) := by decide +kernel
theorem dX5_isDigit_5 : decode cX5_isDigit 5 = .ok (.ldc2_w 213, 3) := by decide +kernel
theorem dX5_isDigit_8 : decode cX5_isDigit 8 = .ok (.invokestatic 46, 3) := by decide +kernel
theorem dX5_isDigit_11 : decode cX5_isDigit 11 = .ok (.ireturn, 1) := by decide +kernel
theorem dX5_isFloor_0 : decode cX5_isFloor 0 = .ok (.iload_n 0, 1) := by decide +kernel
theorem dX5_isFloor_1 : decode cX5_isFloor 1 = .ok (.i2l, 1) := by decide +kernel
theorem dX5_isFloor_2 : decode cX5_isFloor 2 = .ok (.lconst 1, 1) := by decide +kernel
theorem dX5_isFloor_3 : decode cX5_isFloor 3 = .ok (.ldc2_w 52, 3) := by decide +kernel
theorem dX5_isFloor_6 : decode cX5_isFloor 6 = .ok (.invokestatic 46, 3) := by decide +kernel
theorem dX5_isFloor_9 : decode cX5_isFloor 9 = .ok (.ireturn, 1) := by decide +kernel
theorem dX5_isHiding_0 : decode cX5_isHiding 0 = .ok (.aload_n 0, 1) := by decide +kernel
theorem dX5_isHiding_1 : decode cX5_isHiding 1 = .ok (.iload_n 1, 1) := by decide +kernel
theorem dX5_isHiding_2 : decode cX5_isHiding 2 = .ok (.invokevirtual 109, 3) := by decide +kernel
theorem dX5_isHiding_5 : decode cX5_isHiding 5 = .ok (.istore 4, 2) := by decide +kernel
theorem dX5_isHiding_7 : decode cX5_isHiding 7 = .ok (.iload_n 3, 1) := by decide +kernel
theorem dX5_isHiding_8 : decode cX5_isHiding 8 = .ok (.aload_n 0, 1) := by decide +kernel
theorem dX5_isHiding_9 : decode cX5_isHiding 9 = .ok (.iload_n 1, 1) := by decide +kernel
theorem dX5_isHiding_10 : decode cX5_isHiding 10 = .ok (.invokevirtual 93, 3) := by decide +kernel
theorem dX5_isHiding_13 : decode cX5_isHiding 13 = .ok (.isub, 1) := by decide +kernel
theorem dX5_isHiding_14 : decode cX5_isHiding 14 = .ok (.invokestatic 124, 3) := by decide +kernel
theorem dX5_isHiding_17 : decode cX5_isHiding 17 = .ok (.istore 5, 2) := by decide +kernel
theorem dX5_isHiding_19 : decode cX5_isHiding 19 = .ok (.iload_n 2, 1) := by decide +kernel
theorem dX5_isHiding_20 : decode cX5_isHiding 20 = .ok (.aload_n 0, 1) := by decide +kernel
theorem dX5_isHiding_21 : decode cX5_isHiding 21 = .ok (.iload_n 1, 1) := by decide +kernel
theorem dX5_isHiding_22 : decode cX5_isHiding 22 = .ok (.invokevirtual 93, 3) := by decide +kernel
theorem dX5_isHiding_25 : decode cX5_isHiding 25 = .ok (.isub, 1) := by decide +kernel
theorem dX5_isHiding_26 : decode cX5_isHiding 26 = .ok (.invokestatic 124, 3) := by decide +kernel
theorem dX5_isHiding_29 : decode cX5_isHiding 29 = .ok (.istore 6, 2) := by decide +kernel
theorem dX5_isHiding_31 : decode cX5_isHiding 31 = .ok (.aload_n 0, 1) := by decide +kernel
theorem dX5_isHiding_32 : decode cX5_isHiding 32 = .ok (.iload_n 2, 1) := by decide +kernel
theorem dX5_isHiding_33 : decode cX5_isHiding 33 = .ok (.invokevirtual 87, 3) := by decide +kernel
theorem dX5_isHiding_36 : decode cX5_isHiding 36 = .ok (.iload 4, 2) := by decide +kernel
theorem dX5_isHiding_38 : decode cX5_isHiding 38 = .ok (.isub, 1) := by decide +kernel
theorem dX5_isHiding_39 : decode cX5_isHiding 39 = .ok (.iload 5, 2) := by decide +kernel
theorem dX5_isHiding_41 : decode cX5_isHiding 41 = .ok (.imul, 1) := by decide +kernel
theorem dX5_isHiding_42 : decode cX5_isHiding 42 = .ok (.aload_n 0, 1) := by decide +kernel
theorem dX5_isHiding_43 : decode cX5_isHiding 43 = .ok (.iload_n 3, 1) := by decide +kernel
theorem dX5_isHiding_44 : decode cX5_isHiding 44 = .ok (.invokevirtual 87, 3) := by decide +kernel
theorem dX5_isHiding_47 : decode cX5_isHiding 47 = .ok (.iload 4, 2) := by decide +kernel
theorem dX5_isHiding_49 : decode cX5_isHiding 49 = .ok (.isub, 1) := by decide +kernel
theorem dX5_isHiding_50 : decode cX5_isHiding 50 = .ok (.iload 6, 2) := by decide +kernel
theorem dX5_isHiding_52 : decode cX5_isHiding 52 = .ok (.imul, 1) := by decide +kernel
theorem dX5_isHiding_53 : decode cX5_isHiding 53 = .ok (.if_icmp .lt 7, 3) := by decide +kernel
theorem dX5_isHiding_56 : decode cX5_isHiding 56 = .ok (.iconst 1, 1) := by decide +kernel
theorem dX5_isHiding_57 : decode cX5_isHiding 57 = .ok (.goto 4, 3) := by decide +kernel
theorem dX5_isHiding_60 : decode cX5_isHiding 60 = .ok (.iconst 0, 1) := by decide +kernel
theorem dX5_isHiding_61 : decode cX5_isHiding 61 = .ok (.ireturn, 1) := by decide +kernel
theorem dX5_isHouse_0 : decode cX5_isHouse 0 = .ok (.iload_n 1, 1) := by decide +kernel
theorem dX5_isHouse_1 : decode cX5_isHouse 1 = .ok (.i2l, 1) := by decide +kernel
theorem dX5_isHouse_2 : decode cX5_isHouse 2 = .ok (.lconst 0, 1) := by decide +kernel
theorem dX5_isHouse_3 : decode cX5_isHouse 3 = .ok (.aload_n 0, 1) := by decide +kernel
theorem dX5_isHouse_4 : decode cX5_isHouse 4 = .ok (.getfield 7, 3) := by decide +kernel
theorem dX5_isHouse_7 : decode cX5_isHouse 7 = .ok (.iconst 1, 1) := by decide +kernel
theorem dX5_isHouse_8 : decode cX5_isHouse 8 = .ok (.iaload, 1) := by decide +kernel
theorem dX5_isHouse_9 : decode cX5_isHouse 9 = .ok (.iconst 1, 1) := by decide +kernel
theorem dX5_isHouse_10 : decode cX5_isHouse 10 = .ok (.isub, 1) := by decide +kernel
theorem dX5_isHouse_11 : decode cX5_isHouse 11 = .ok (.i2l, 1) := by decide +kernel
theorem dX5_isHouse_12 : decode cX5_isHouse 12 = .ok (.invokestatic 46, 3) := by decide +kernel
theorem dX5_isHouse_15 : decode cX5_isHouse 15 = .ok (.ireturn, 1) := by decide +kernel
theorem dX5_isKind_0 : decode cX5_isKind 0 = .ok (.iload_n 0, 1) := by decide +kernel
theorem dX5_isKind_1 : decode cX5_isKind 1 = .ok (.i2l, 1) := by decide +kernel
theorem dX5_isKind_2 : decode cX5_isKind 2 = .ok (.lconst 0, 1) := by decide +kernel
theorem dX5_isKind_3 : decode cX5_isKind 3 = .ok (.ldc2_w 50, 3) := by decide +kernel
theorem dX5_isKind_6 : decode cX5_isKind 6 = .ok (.invokestatic 46, 3) := by decide +kernel
theorem dX5_isKind_9 : decode cX5_isKind 9 = .ok (.ireturn, 1) := by decide +kernel
theorem dX5_isLetter_0 : decode cX5_isLetter 0 = .ok (.iload_n 0, 1) := by decide +kernel
theorem dX5_isLetter_1 : decode cX5_isLetter 1 = .ok (.i2l, 1) := by decide +kernel
theorem dX5_isLetter_2 : decode cX5_isLetter 2 = .ok (.ldc2_w 207, 3) := by decide +kernel
theorem dX5_isLetter_5 : decode cX5_isLetter 5 = .ok (.ldc2_w 209, 3) := by decide +kernel
theorem dX5_isLetter_8 : decode cX5_isLetter 8 = .ok (.invokestatic 46, 3) := by decide +kernel
theorem dX5_isLetter_11 : decode cX5_isLetter 11 = .ok (.ireturn, 1) := by decide +kernel
theorem dX5_isOne_0 : decode cX5_isOne 0 = .ok (.iload_n 0, 1) := by decide +kernel
theorem dX5_isOne_1 : decode cX5_isOne 1 = .ok (.i2l, 1) := by decide +kernel
theorem dX5_isOne_2 : decode cX5_isOne 2 = .ok (.lconst 0, 1) := by decide +kernel
theorem dX5_isOne_3 : decode cX5_isOne 3 = .ok (.ldc2_w 107, 3) := by decide +kernel
theorem dX5_isOne_6 : decode cX5_isOne 6 = .ok (.invokestatic 46, 3) := by decide +kernel
theorem dX5_isOne_9 : decode cX5_isOne 9 = .ok (.ireturn, 1) := by decide +kernel
theorem dX5_isStretch_0 : decode cX5_isStretch 0 = .ok (.iload_n 0, 1) := by decide +kernel
theorem dX5_isStretch_1 : decode cX5_isStretch 1 = .ok (.invokestatic 58, 3) := by decide +kernel
theorem dX5_isStretch_4 : decode cX5_isStretch 4 = .ok (.ifCond .eq 19, 3) := by decide +kernel
theorem dX5_isStretch_7 : decode cX5_isStretch 7 = .ok (.iload_n 1, 1) := by decide +kernel
theorem dX5_isStretch_8 : decode cX5_isStretch 8 = .ok (.invokestatic 58, 3) := by decide +kernel
theorem dX5_isStretch_11 : decode cX5_isStretch 11 = .ok (.ifCond .eq 12, 3) := by decide +kernel
theorem dX5_isStretch_14 : decode cX5_isStretch 14 = .ok (.iload_n 0, 1) := by decide +kernel
theorem dX5_isStretch_15 : decode cX5_isStretch 15 = .ok (.iload_n 1, 1) := by decide +kernel
theorem dX5_isStretch_16 : decode cX5_isStretch 16 = .ok (.if_icmp .gt 7, 3) := by decide +kernel
theorem dX5_isStretch_19 : decode cX5_isStretch 19 = .ok (.iconst 1, 1) := by decide +kernel
theorem dX5_isStretch_20 : decode cX5_isStretch 20 = .ok (.goto 4, 3) := by decide +kernel
theorem dX5_isStretch_23 : decode cX5_isStretch 23 = .ok (.iconst 0, 1) := by decide +kernel
theorem dX5_isStretch_24 : decode cX5_isStretch 24 = .ok (.ireturn, 1) := by decide +kernel
theorem dX5_isTax_0 : decode cX5_isTax 0 = .ok (.iload_n 0, 1) := by decide +kernel
theorem dX5_isTax_1 : decode cX5_isTax 1 = .ok (.i2l, 1) := by decide +kernel
theorem dX5_isTax_2 : decode cX5_isTax 2 = .ok (.lconst 0, 1) := by decide +kernel
theorem dX5_isTax_3 : decode cX5_isTax 3 = .ok (.ldc2_w 56, 3) := by decide +kernel
theorem dX5_isTax_6 : decode cX5_isTax 6 = .ok (.invokestatic 46, 3) := by decide +kernel
theorem dX5_isTax_9 : decode cX5_isTax 9 = .ok (.ireturn, 1) := by decide +kernel
theorem dX5_isTooFar_0 : decode cX5_isTooFar 0 = .ok (.aload_n 0, 1) := by decide +kernel
theorem dX5_isTooFar_1 : decode cX5_isTooFar 1 = .ok (.getfield 7, 3) := by decide +kernel
theorem dX5_isTooFar_4 : decode cX5_isTooFar 4 = .ok (.iconst 0, 1) := by decide +kernel
theorem dX5_isTooFar_5 : decode cX5_isTooFar 5 = .ok (.iaload, 1) := by decide +kernel
theorem dX5_isTooFar_6 : decode cX5_isTooFar 6 = .ok (.iload_n 1, 1) := by decide +kernel
theorem dX5_isTooFar_7 : decode cX5_isTooFar 7 = .ok (.iadd, 1) := by decide +kernel
theorem dX5_isTooFar_8 : decode cX5_isTooFar 8 = .ok (.sipush 999, 3) := by decide +kernel
theorem dX5_isTooFar_11 : decode cX5_isTooFar 11 = .ok (.if_icmp .le 7, 3) := by decide +kernel
theorem dX5_isTooFar_14 : decode cX5_isTooFar 14 = .ok (.iconst 1, 1) := by decide +kernel
theorem dX5_isTooFar_15 : decode cX5_isTooFar 15 = .ok (.goto 4, 3) := by decide +kernel
theorem dX5_isTooFar_18 : decode cX5_isTooFar 18 = .ok (.iconst 0, 1) := by decide +kernel
theorem dX5_isTooFar_19 : decode cX5_isTooFar 19 = .ok (.ireturn, 1) := by decide +kernel
theorem dX5_isTowards_0 : decode cX5_isTowards 0 = .ok (.iload_n 2, 1) := by decide +kernel
theorem dX5_isTowards_1 : decode cX5_isTowards 1 = .ok (.aload_n 0, 1) := by decide +kernel
theorem dX5_isTowards_2 : decode cX5_isTowards 2 = .ok (.iload_n 1, 1) := by decide +kernel
theorem dX5_isTowards_3 : decode cX5_isTowards 3 = .ok (.invokevirtual 93, 3) := by decide +kernel
theorem dX5_isTowards_6 : decode cX5_isTowards 6 = .ok (.isub, 1) := by decide +kernel
theorem dX5_isTowards_7 : decode cX5_isTowards 7 = .ok (.istore_n 3, 1) := by decide +kernel
theorem dX5_isTowards_8 : decode cX5_isTowards 8 = .ok (.iload_n 3, 1) := by decide +kernel
theorem dX5_isTowards_9 : decode cX5_isTowards 9 = .ok (.ifCond .eq 40, 3) := by decide +kernel
theorem dX5_isTowards_12 : decode cX5_isTowards 12 = .ok (.iload_n 3, 1) := by decide +kernel
theorem dX5_isTowards_13 : decode cX5_isTowards 13 = .ok (.invokestatic 124, 3) := by decide +kernel
theorem dX5_isTowards_16 : decode cX5_isTowards 16 = .ok (.aload_n 0, 1) := by decide +kernel
theorem dX5_isTowards_17 : decode cX5_isTowards 17 = .ok (.getfield 7, 3) := by decide +kernel
theorem dX5_isTowards_20 : decode cX5_isTowards 20 = .ok (.iconst 2, 1) := by decide +kernel
theorem dX5_isTowards_21 : decode cX5_isTowards 21 = .ok (.iaload, 1) := by decide +kernel
theorem dX5_isTowards_22 : decode cX5_isTowards 22 = .ok (.if_icmp .gt 27, 3) := by decide +kernel
theorem dX5_isTowards_25 : decode cX5_isTowards 25 = .ok (.aload_n 0, 1) := by decide +kernel
theorem dX5_isTowards_26 : decode cX5_isTowards 26 = .ok (.iload_n 1, 1) := by decide +kernel
theorem dX5_isTowards_27 : decode cX5_isTowards 27 = .ok (.invokevirtual 112, 3) := by decide +kernel
theorem dX5_isTowards_30 : decode cX5_isTowards 30 = .ok (.iload_n 3, 1) := by decide +kernel
theorem dX5_isTowards_31 : decode cX5_isTowards 31 = .ok (.ifCond .ge 7, 3) := by decide +kernel
theorem dX5_isTowards_34 : decode cX5_isTowards 34 = .ok (.iconst 0, 1) := by decide +kernel
theorem dX5_isTowards_35 : decode cX5_isTowards 35 = .ok (.goto 4, 3) := by decide +kernel
theorem dX5_isTowards_38 : decode cX5_isTowards 38 = .ok (.iconst 1, 1) := by decide +kernel
theorem dX5_isTowards_39 : decode cX5_isTowards 39 = .ok (.invokestatic 127, 3) := by decide +kernel
theorem dX5_isTowards_42 : decode cX5_isTowards 42 = .ok (.ifCond .eq 7, 3) := by decide +kernel
theorem dX5_isTowards_45 : decode cX5_isTowards 45 = .ok (.iconst 1, 1) := by decide +kernel
theorem dX5_isTowards_46 : decode cX5_isTowards 46 = .ok (.goto 4, 3) := by decide +kernel
theorem dX5_isTowards_49 : decode cX5_isTowards 49 = .ok (.iconst 0, 1) := by decide +kernel
theorem dX5_isTowards_50 : decode cX5_isTowards 50 = .ok (.ireturn, 1) := by decide +kernel
theorem dX5_item_0 : decode cX5_item 0 = .ok (.aload_n 0, 1) := by decide +kernel
theorem dX5_item_1 : decode cX5_item 1 = .ok (.invokevirtual 286, 3) := by decide +kernel
theorem dX5_item_4 : decode cX5_item 4 = .ok (.istore_n 1, 1) := by decide +kernel
theorem dX5_item_5 : decode cX5_item 5 = .ok (.iload_n 1, 1) := by decide +kernel
theorem dX5_item_6 : decode cX5_item 6 = .ok (.ifCond .lt 11, 3) := by decide +kernel
theorem dX5_item_9 : decode cX5_item 9 = .ok (.aload_n 0, 1) := by decide +kernel
theorem dX5_item_10 : decode cX5_item 10 = .ok (.iload_n 1, 1) := by decide +kernel
theorem dX5_item_11 : decode cX5_item 11 = .ok (.invokevirtual 289, 3) := by decide +kernel
theorem dX5_item_14 : decode cX5_item 14 = .ok (.goto 87, 3) := by decide +kernel
theorem dX5_item_17 : decode cX5_item 17 = .ok (.aload_n 0, 1) := by decide +kernel
theorem dX5_item_18 : decode cX5_item 18 = .ok (.invokevirtual 248, 3) := by decide +kernel
theorem dX5_item_21 : decode cX5_item 21 = .ok (.ldc2_w 292, 3) := by decide +kernel
theorem dX5_item_24 : decode cX5_item 24 = .ok (.lcmp, 1) := by decide +kernel
theorem dX5_item_25 : decode cX5_item 25 = .ok (.ifCond .ne 10, 3) := by decide +kernel
theorem dX5_item_28 : decode cX5_item 28 = .ok (.aload_n 0, 1) := by decide +kernel
theorem dX5_item_29 : decode cX5_item 29 = .ok (.invokevirtual 294, 3) := by decide +kernel
theorem dX5_item_32 : decode cX5_item 32 = .ok (.goto 69, 3) := by decide +kernel
theorem dX5_item_35 : decode cX5_item 35 = .ok (.aload_n 0, 1) := by decide +kernel
theorem dX5_item_36 : decode cX5_item 36 = .ok (.invokevirtual 248, 3) := by decide +kernel
theorem dX5_item_39 : decode cX5_item 39 = .ok (.ldc2_w 297, 3) := by decide +kernel
theorem dX5_item_42 : decode cX5_item 42 = .ok (.lcmp, 1) := by decide +kernel
theorem dX5_item_43 : decode cX5_item 43 = .ok (.ifCond .ne 21, 3) := by decide +kernel
theorem dX5_item_46 : decode cX5_item 46 = .ok (.aload_n 0, 1) := by decide +kernel
theorem dX5_item_47 : decode cX5_item 47 = .ok (.getfield 7, 3) := by decide +kernel
theorem dX5_item_50 : decode cX5_item 50 = .ok (.iconst 2, 1) := by decide +kernel
theorem dX5_item_51 : decode cX5_item 51 = .ok (.aload_n 0, 1) := by decide +kernel
theorem dX5_item_52 : decode cX5_item 52 = .ok (.iconst 1, 1) := by decide +kernel
theorem dX5_item_53 : decode cX5_item 53 = .ok (.iconst 1, 1) := by decide +kernel
theorem dX5_item_54 : decode cX5_item 54 = .ok (.bipush 23, 2) := by decide +kernel
theorem dX5_item_56 : decode cX5_item 56 = .ok (.iconst 0, 1) := by decide +kernel
theorem dX5_item_57 : decode cX5_item 57 = .ok (.invokevirtual 270, 3) := by decide +kernel
theorem dX5_item_60 : decode cX5_item 60 = .ok (.iastore, 1) := by decide +kernel
theorem dX5_item_61 : decode cX5_item 61 = .ok (.goto 40, 3) := by decide +kernel
theorem dX5_item_64 : decode cX5_item 64 = .ok (.aload_n 0, 1) := by decide +kernel
theorem dX5_item_65 : decode cX5_item 65 = .ok (.aload_n 0, 1) := by decide +kernel
theorem dX5_item_66 : decode cX5_item 66 = .ok (.invokevirtual 248, 3) := by decide +kernel
theorem dX5_item_69 : decode cX5_item 69 = .ok (.ldc2_w 299, 3) := by decide +kernel
theorem dX5_item_72 : decode cX5_item 72 = .ok (.lcmp, 1) := by decide +kernel
theorem dX5_item_73 : decode cX5_item 73 = .ok (.ifCond .ne 7, 3) := by decide +kernel
theorem dX5_item_76 : decode cX5_item 76 = .ok (.iconst 1, 1) := by decide +kernel
theorem dX5_item_77 : decode cX5_item 77 = .ok (.goto 4, 3) := by decide +kernel
theorem dX5_item_80 : decode cX5_item 80 = .ok (.iconst 0, 1) := by decide +kernel
theorem dX5_item_81 : decode cX5_item 81 = .ok (.invokevirtual 244, 3) := by decide +kernel
theorem dX5_item_84 : decode cX5_item 84 = .ok (.aload_n 0, 1) := by decide +kernel
theorem dX5_item_85 : decode cX5_item 85 = .ok (.iconst 0, 1) := by decide +kernel
theorem dX5_item_86 : decode cX5_item 86 = .ok (.bipush 99, 2) := by decide +kernel
theorem dX5_item_88 : decode cX5_item 88 = .ok (.invokevirtual 266, 3) := by decide +kernel
theorem dX5_item_91 : decode cX5_item 91 = .ok (.aload_n 0, 1) := by decide +kernel
theorem dX5_item_92 : decode cX5_item 92 = .ok (.getfield 7, 3) := by decide +kernel
theorem dX5_item_95 : decode cX5_item 95 = .ok (.iconst 3, 1) := by decide +kernel
theorem dX5_item_96 : decode cX5_item 96 = .ok (.aload_n 0, 1) := by decide +kernel
theorem dX5_item_97 : decode cX5_item 97 = .ok (.getfield 241, 3) := by decide +kernel
theorem dX5_item_100 : decode cX5_item 100 = .ok (.iastore, 1) := by decide +kernel
theorem dX5_item_101 : decode cX5_item 101 = .ok (.return_, 1) := by decide +kernel
theorem dX5_judge_0 : decode cX5_judge 0 = .ok (.aload_n 0, 1) := by decide +kernel
theorem dX5_judge_1 : decode cX5_judge 1 = .ok (.iload_n 1, 1) := by decide +kernel
theorem dX5_judge_2 : decode cX5_judge 2 = .ok (.invokevirtual 314, 3) := by decide +kernel
theorem dX5_judge_5 : decode cX5_judge 5 = .ok (.istore_n 3, 1) := by decide +kernel
theorem dX5_judge_6 : decode cX5_judge 6 = .ok (.iload_n 3, 1) := by decide +kernel
theorem dX5_judge_7 : decode cX5_judge 7 = .ok (.ifCond .eq 9, 3) := by decide +kernel
theorem dX5_judge_10 : decode cX5_judge 10 = .ok (.aload_n 0, 1) := by decide +kernel
theorem dX5_judge_11 : decode cX5_judge 11 = .ok (.iload_n 3, 1) := by decide +kernel
theorem dX5_judge_12 : decode cX5_judge 12 = .ok (.invokevirtual 75, 3) := by decide +kernel
theorem dX5_judge_15 : decode cX5_judge 15 = .ok (.ireturn, 1) := by decide +kernel
theorem dX5_judge_16 : decode cX5_judge 16 = .ok (.iload_n 2, 1) := by decide +kernel
theorem dX5_judge_17 : decode cX5_judge 17 = .ok (.invokestatic 165, 3) := by decide +kernel
theorem dX5_judge_20 : decode cX5_judge 20 = .ok (.ifCond .ne 10, 3) := by decide +kernel
theorem dX5_judge_23 : decode cX5_judge 23 = .ok (.aload_n 0, 1) := by decide +kernel
theorem dX5_judge_24 : decode cX5_judge 24 = .ok (.ldc 43, 2) := by decide +kernel
theorem dX5_judge_26 : decode cX5_judge 26 = .ok (.invokevirtual 75, 3) := by decide +kernel
theorem dX5_judge_29 : decode cX5_judge 29 = .ok (.ireturn, 1) := by decide +kernel
theorem dX5_judge_30 : decode cX5_judge 30 = .ok (.aload_n 0, 1) := by decide +kernel
theorem dX5_judge_31 : decode cX5_judge 31 = .ok (.iload_n 2, 1) := by decide +kernel
theorem dX5_judge_32 : decode cX5_judge 32 = .ok (.invokevirtual 168, 3) := by decide +kernel
theorem dX5_judge_35 : decode cX5_judge 35 = .ok (.ifCond .eq 10, 3) := by decide +kernel
theorem dX5_judge_38 : decode cX5_judge 38 = .ok (.aload_n 0, 1) := by decide +kernel
theorem dX5_judge_39 : decode cX5_judge 39 = .ok (.ldc 144, 2) := by decide +kernel
theorem dX5_judge_41 : decode cX5_judge 41 = .ok (.invokevirtual 75, 3) := by decide +kernel
theorem dX5_judge_44 : decode cX5_judge 44 = .ok (.ireturn, 1) := by decide +kernel
theorem dX5_judge_45 : decode cX5_judge 45 = .ok (.aload_n 0, 1) := by decide +kernel
theorem dX5_judge_46 : decode cX5_judge 46 = .ok (.invokevirtual 171, 3) := by decide +kernel
theorem dX5_judge_49 : decode cX5_judge 49 = .ok (.aload_n 0, 1) := by decide +kernel
theorem dX5_judge_50 : decode cX5_judge 50 = .ok (.iload_n 2, 1) := by decide +kernel
theorem dX5_judge_51 : decode cX5_judge 51 = .ok (.invokevirtual 174, 3) := by decide +kernel
theorem dX5_judge_54 : decode cX5_judge 54 = .ok (.iconst 0, 1) := by decide +kernel
theorem dX5_judge_55 : decode cX5_judge 55 = .ok (.istore 4, 2) := by decide +kernel
theorem dX5_judge_57 : decode cX5_judge 57 = .ok (.iload 4, 2) := by decide +kernel
theorem dX5_judge_59 : decode cX5_judge 59 = .ok (.aload_n 0, 1) := by decide +kernel
theorem dX5_judge_60 : decode cX5_judge 60 = .ok (.getfield 34, 3) := by decide +kernel
theorem dX5_judge_63 : decode cX5_judge 63 = .ok (.iload_n 1, 1) := by decide +kernel
theorem dX5_judge_64 : decode cX5_judge 64 = .ok (.iaload, 1) := by decide +kernel
theorem dX5_judge_65 : decode cX5_judge 65 = .ok (.if_icmp .ge 41, 3) := by decide +kernel
theorem dX5_judge_68 : decode cX5_judge 68 = .ok (.iload 4, 2) := by decide +kernel
theorem dX5_judge_70 : decode cX5_judge 70 = .ok (.aload_n 0, 1) := by decide +kernel
theorem dX5_judge_71 : decode cX5_judge 71 = .ok (.getfield 7, 3) := by decide +kernel
theorem dX5_judge_74 : decode cX5_judge 74 = .ok (.iconst 1, 1) := by decide +kernel
theorem dX5_judge_75 : decode cX5_judge 75 = .ok (.iaload, 1) := by decide +kernel
theorem dX5_judge_76 : decode cX5_judge 76 = .ok (.if_icmp .ge 30, 3) := by decide +kernel
theorem dX5_judge_79 : decode cX5_judge 79 = .ok (.aload_n 0, 1) := by decide +kernel
theorem dX5_judge_80 : decode cX5_judge 80 = .ok (.getfield 37, 3) := by decide +kernel
theorem dX5_judge_83 : decode cX5_judge 83 = .ok (.bipush 40, 2) := by decide +kernel
theorem dX5_judge_85 : decode cX5_judge 85 = .ok (.iload_n 1, 1) := by decide +kernel
theorem dX5_judge_86 : decode cX5_judge 86 = .ok (.imul, 1) := by decide +kernel
theorem dX5_judge_87 : decode cX5_judge 87 = .ok (.iload 4, 2) := by decide +kernel
theorem dX5_judge_89 : decode cX5_judge 89 = .ok (.iadd, 1) := by decide +kernel
theorem dX5_judge_90 : decode cX5_judge 90 = .ok (.iaload, 1) := by decide +kernel
theorem dX5_judge_91 : decode cX5_judge 91 = .ok (.aload_n 0, 1) := by decide +kernel
theorem dX5_judge_92 : decode cX5_judge 92 = .ok (.iload 4, 2) := by decide +kernel
theorem dX5_judge_94 : decode cX5_judge 94 = .ok (.invokevirtual 146, 3) := by decide +kernel
theorem dX5_judge_97 : decode cX5_judge 97 = .ok (.if_icmp .ne 9, 3) := by decide +kernel
theorem dX5_judge_100 : decode cX5_judge 100 = .ok (.iinc 4 1, 3) := by decide +kernel
theorem dX5_judge_103 : decode cX5_judge 103 = .ok (.goto (-46), 3) := by decide +kernel
theorem dX5_judge_106 : decode cX5_judge 106 = .ok (.aload_n 0, 1) := by decide +kernel
theorem dX5_judge_107 : decode cX5_judge 107 = .ok (.invokevirtual 178, 3) := by decide +kernel
theorem dX5_judge_110 : decode cX5_judge 110 = .ok (.iload 4, 2) := by decide +kernel
theorem dX5_judge_112 : decode cX5_judge 112 = .ok (.aload_n 0, 1) := by decide +kernel
theorem dX5_judge_113 : decode cX5_judge 113 = .ok (.getfield 34, 3) := by decide +kernel
theorem dX5_judge_116 : decode cX5_judge 116 = .ok (.iload_n 1, 1) := by decide +kernel
theorem dX5_judge_117 : decode cX5_judge 117 = .ok (.iaload, 1) := by decide +kernel
theorem dX5_judge_118 : decode cX5_judge 118 = .ok (.if_icmp .ne 18, 3) := by decide +kernel
theorem dX5_judge_121 : decode cX5_judge 121 = .ok (.iload 4, 2) := by decide +kernel
theorem dX5_judge_123 : decode cX5_judge 123 = .ok (.aload_n 0, 1) := by decide +kernel
theorem dX5_judge_124 : decode cX5_judge 124 = .ok (.getfield 7, 3) := by decide +kernel
theorem dX5_judge_127 : decode cX5_judge 127 = .ok (.iconst 1, 1) := by decide +kernel
theorem dX5_judge_128 : decode cX5_judge 128 = .ok (.iaload, 1) := by decide +kernel
theorem dX5_judge_129 : decode cX5_judge 129 = .ok (.if_icmp .ne 7, 3) := by decide +kernel
theorem dX5_judge_132 : decode cX5_judge 132 = .ok (.iconst 0, 1) := by decide +kernel
theorem dX5_judge_133 : decode cX5_judge 133 = .ok (.goto 7, 3) := by decide +kernel
theorem dX5_judge_136 : decode cX5_judge 136 = .ok (.iconst 1, 1) := by decide +kernel
theorem dX5_judge_137 : decode cX5_judge 137 = .ok (.iload 4, 2) := by decide +kernel
theorem dX5_judge_139 : decode cX5_judge 139 = .ok (.iadd, 1) := by decide +kernel
theorem dX5_judge_140 : decode cX5_judge 140 = .ok (.ireturn, 1) := by decide +kernel
theorem dX5_kindHere_0 : decode cX5_kindHere 0 = .ok (.aload_n 0, 1) := by decide +kernel
theorem dX5_kindHere_1 : decode cX5_kindHere 1 = .ok (.invokevirtual 248, 3) := by decide +kernel
theorem dX5_kindHere_4 : decode cX5_kindHere 4 = .ok (.lstore_n 1, 1) := by decide +kernel
theorem dX5_kindHere_5 : decode cX5_kindHere 5 = .ok (.lload_n 1, 1) := by decide +kernel
theorem dX5_kindHere_6 : decode cX5_kindHere 6 = .ok (.ldc2_w 252, 3) := by decide +kernel
theorem dX5_kindHere_9 : decode cX5_kindHere 9 = .ok (.lcmp, 1) := by decide +kernel
theorem dX5_kindHere_10 : decode cX5_kindHere 10 = .ok (.ifCond .ne 7, 3) := by decide +kernel
theorem dX5_kindHere_13 : decode cX5_kindHere 13 = .ok (.iconst 0, 1) := by decide +kernel
theorem dX5_kindHere_14 : decode cX5_kindHere 14 = .ok (.goto 77, 3) := by decide +kernel
theorem dX5_kindHere_17 : decode cX5_kindHere 17 = .ok (.lload_n 1, 1) := by decide +kernel
theorem dX5_kindHere_18 : decode cX5_kindHere 18 = .ok (.ldc2_w 254, 3) := by decide +kernel
theorem dX5_kindHere_21 : decode cX5_kindHere 21 = .ok (.lcmp, 1) := by decide +kernel
theorem dX5_kindHere_22 : decode cX5_kindHere 22 = .ok (.ifCond .ne 7, 3) := by decide +kernel
theorem dX5_kindHere_25 : decode cX5_kindHere 25 = .ok (.iconst 1, 1) := by decide +kernel
theorem dX5_kindHere_26 : decode cX5_kindHere 26 = .ok (.goto 65, 3) := by decide +kernel
theorem dX5_kindHere_29 : decode cX5_kindHere 29 = .ok (.lload_n 1, 1) := by decide +kernel
theorem dX5_kindHere_30 : decode cX5_kindHere 30 = .ok (.ldc2_w 256, 3) := by decide +kernel
theorem dX5_kindHere_33 : decode cX5_kindHere 33 = .ok (.lcmp, 1) := by decide +kernel
theorem dX5_kindHere_34 : decode cX5_kindHere 34 = .ok (.ifCond .ne 7, 3) := by decide +kernel
theorem dX5_kindHere_37 : decode cX5_kindHere 37 = .ok (.iconst 2, 1) := by decide +kernel
theorem dX5_kindHere_38 : decode cX5_kindHere 38 = .ok (.goto 53, 3) := by decide +kernel
theorem dX5_kindHere_41 : decode cX5_kindHere 41 = .ok (.lload_n 1, 1) := by decide +kernel
theorem dX5_kindHere_42 : decode cX5_kindHere 42 = .ok (.ldc2_w 258, 3) := by decide +kernel
theorem dX5_kindHere_45 : decode cX5_kindHere 45 = .ok (.lcmp, 1) := by decide +kernel
theorem dX5_kindHere_46 : decode cX5_kindHere 46 = .ok (.ifCond .ne 7, 3) := by decide +kernel
theorem dX5_kindHere_49 : decode cX5_kindHere 49 = .ok (.iconst 3, 1) := by decide +kernel
theorem dX5_kindHere_50 : decode cX5_kindHere 50 = .ok (.goto 41, 3) := by decide +kernel
theorem dX5_kindHere_53 : decode cX5_kindHere 53 = .ok (.lload_n 1, 1) := by decide +kernel
theorem dX5_kindHere_54 : decode cX5_kindHere 54 = .ok (.ldc2_w 260, 3) := by decide +kernel
theorem dX5_kindHere_57 : decode cX5_kindHere 57 = .ok (.lcmp, 1) := by decide +kernel
theorem dX5_kindHere_58 : decode cX5_kindHere 58 = .ok (.ifCond .ne 7, 3) := by decide +kernel
theorem dX5_kindHere_61 : decode cX5_kindHere 61 = .ok (.iconst 4, 1) := by decide +kernel
theorem dX5_kindHere_62 : decode cX5_kindHere 62 = .ok (.goto 29, 3) := by decide +kernel
theorem dX5_kindHere_65 : decode cX5_kindHere 65 = .ok (.lload_n 1, 1) := by decide +kernel
theorem dX5_kindHere_66 : decode cX5_kindHere 66 = .ok (.ldc2_w 262, 3) := by decide +kernel
theorem dX5_kindHere_69 : decode cX5_kindHere 69 = .ok (.lcmp, 1) := by decide +kernel
theorem dX5_kindHere_70 : decode cX5_kindHere 70 = .ok (.ifCond .ne 7, 3) := by decide +kernel
theorem dX5_kindHere_73 : decode cX5_kindHere 73 = .ok (.iconst 5, 1) := by decide +kernel
theorem dX5_kindHere_74 : decode cX5_kindHere 74 = .ok (.goto 17, 3) := by decide +kernel
theorem dX5_kindHere_77 : decode cX5_kindHere 77 = .ok (.lload_n 1, 1) := by decide +kernel
theorem dX5_kindHere_78 : decode cX5_kindHere 78 = .ok (.ldc2_w 264, 3) := by decide +kernel
theorem dX5_kindHere_81 : decode cX5_kindHere 81 = .ok (.lcmp, 1) := by decide +kernel
theorem dX5_kindHere_82 : decode cX5_kindHere 82 = .ok (.ifCond .ne 8, 3) := by decide +kernel
theorem dX5_kindHere_85 : decode cX5_kindHere 85 = .ok (.bipush 6, 2) := by decide +kernel
theorem dX5_kindHere_87 : decode cX5_kindHere 87 = .ok (.goto 4, 3) := by decide +kernel
theorem dX5_kindHere_90 : decode cX5_kindHere 90 = .ok (.iconst (-1), 1) := by decide +kernel
theorem dX5_kindHere_91 : decode cX5_kindHere 91 = .ok (.ireturn, 1) := by decide +kernel
theorem dX5_kindOf_0 : decode cX5_kindOf 0 = .ok (.aload_n 0, 1) := by decide +kernel
theorem dX5_kindOf_1 : decode cX5_kindOf 1 = .ok (.getfield 7, 3) := by decide +kernel
theorem dX5_kindOf_4 : decode cX5_kindOf 4 = .ok (.iconst 5, 1) := by decide +kernel
theorem dX5_kindOf_5 : decode cX5_kindOf 5 = .ok (.iconst 3, 1) := by decide +kernel
theorem dX5_kindOf_6 : decode cX5_kindOf 6 = .ok (.iload_n 1, 1) := by decide +kernel
theorem dX5_kindOf_7 : decode cX5_kindOf 7 = .ok (.imul, 1) := by decide +kernel
theorem dX5_kindOf_8 : decode cX5_kindOf 8 = .ok (.iadd, 1) := by decide +kernel
theorem dX5_kindOf_9 : decode cX5_kindOf 9 = .ok (.iaload, 1) := by decide +kernel
theorem dX5_kindOf_10 : decode cX5_kindOf 10 = .ok (.ireturn, 1) := by decide +kernel
theorem dX5_law_0 : decode cX5_law 0 = .ok (.iload_n 1, 1) := by decide +kernel
theorem dX5_law_1 : decode cX5_law 1 = .ok (.i2l, 1) := by decide +kernel
theorem dX5_law_2 : decode cX5_law 2 = .ok (.lconst 0, 1) := by decide +kernel
theorem dX5_law_3 : decode cX5_law 3 = .ok (.lconst 1, 1) := by decide +kernel
theorem dX5_law_4 : decode cX5_law 4 = .ok (.invokestatic 46, 3) := by decide +kernel
theorem dX5_law_7 : decode cX5_law 7 = .ok (.ifCond .eq 28, 3) := by decide +kernel
theorem dX5_law_10 : decode cX5_law 10 = .ok (.iload_n 2, 1) := by decide +kernel
theorem dX5_law_11 : decode cX5_law 11 = .ok (.i2l, 1) := by decide +kernel
theorem dX5_law_12 : decode cX5_law 12 = .ok (.iconst 1, 1) := by decide +kernel
theorem dX5_law_13 : decode cX5_law 13 = .ok (.iload_n 1, 1) := by decide +kernel
theorem dX5_law_14 : decode cX5_law 14 = .ok (.isub, 1) := by decide +kernel
theorem dX5_law_15 : decode cX5_law 15 = .ok (.i2l, 1) := by decide +kernel
theorem dX5_law_16 : decode cX5_law 16 = .ok (.iload_n 1, 1) := by decide +kernel
theorem dX5_law_17 : decode cX5_law 17 = .ok (.ifCond .ne 9, 3) := by decide +kernel
theorem dX5_law_20 : decode cX5_law 20 = .ok (.ldc2_w 44, 3) := by decide +kernel
theorem dX5_law_23 : decode cX5_law 23 = .ok (.goto 6, 3) := by decide +kernel
theorem dX5_law_26 : decode cX5_law 26 = .ok (.ldc2_w 73, 3) := by decide +kernel
theorem dX5_law_29 : decode cX5_law 29 = .ok (.invokestatic 46, 3) := by decide +kernel
theorem dX5_law_32 : decode cX5_law 32 = .ok (.ifCond .ne 10, 3) := by decide +kernel
theorem dX5_law_35 : decode cX5_law 35 = .ok (.aload_n 0, 1) := by decide +kernel
theorem dX5_law_36 : decode cX5_law 36 = .ok (.ldc 43, 2) := by decide +kernel
theorem dX5_law_38 : decode cX5_law 38 = .ok (.invokevirtual 75, 3) := by decide +kernel
theorem dX5_law_41 : decode cX5_law 41 = .ok (.ireturn, 1) := by decide +kernel
theorem dX5_law_42 : decode cX5_law 42 = .ok (.aload_n 0, 1) := by decide +kernel
theorem dX5_law_43 : decode cX5_law 43 = .ok (.getfield 7, 3) := by decide +kernel
theorem dX5_law_46 : decode cX5_law 46 = .ok (.iconst 2, 1) := by decide +kernel
theorem dX5_law_47 : decode cX5_law 47 = .ok (.iload_n 1, 1) := by decide +kernel
theorem dX5_law_48 : decode cX5_law 48 = .ok (.iadd, 1) := by decide +kernel
theorem dX5_law_49 : decode cX5_law 49 = .ok (.iaload, 1) := by decide +kernel
theorem dX5_law_50 : decode cX5_law 50 = .ok (.istore_n 3, 1) := by decide +kernel
theorem dX5_law_51 : decode cX5_law 51 = .ok (.aload_n 0, 1) := by decide +kernel
theorem dX5_law_52 : decode cX5_law 52 = .ok (.getfield 7, 3) := by decide +kernel
theorem dX5_law_55 : decode cX5_law 55 = .ok (.iconst 2, 1) := by decide +kernel
theorem dX5_law_56 : decode cX5_law 56 = .ok (.iload_n 1, 1) := by decide +kernel
theorem dX5_law_57 : decode cX5_law 57 = .ok (.iadd, 1) := by decide +kernel
theorem dX5_law_58 : decode cX5_law 58 = .ok (.iload_n 2, 1) := by decide +kernel
theorem dX5_law_59 : decode cX5_law 59 = .ok (.iastore, 1) := by decide +kernel
theorem dX5_law_60 : decode cX5_law 60 = .ok (.iload_n 3, 1) := by decide +kernel
theorem dX5_law_61 : decode cX5_law 61 = .ok (.ireturn, 1) := by decide +kernel
theorem dX5_leastFloor_0 : decode cX5_leastFloor 0 = .ok (.aload_n 0, 1) := by decide +kernel
theorem dX5_leastFloor_1 : decode cX5_leastFloor 1 = .ok (.getfield 7, 3) := by decide +kernel
theorem dX5_leastFloor_4 : decode cX5_leastFloor 4 = .ok (.bipush 77, 2) := by decide +kernel
theorem dX5_leastFloor_6 : decode cX5_leastFloor 6 = .ok (.iconst 3, 1) := by decide +kernel
theorem dX5_leastFloor_7 : decode cX5_leastFloor 7 = .ok (.iload_n 1, 1) := by decide +kernel
theorem dX5_leastFloor_8 : decode cX5_leastFloor 8 = .ok (.imul, 1) := by decide +kernel
theorem dX5_leastFloor_9 : decode cX5_leastFloor 9 = .ok (.iadd, 1) := by decide +kernel
theorem dX5_leastFloor_10 : decode cX5_leastFloor 10 = .ok (.iconst 1, 1) := by decide +kernel
theorem dX5_leastFloor_11 : decode cX5_leastFloor 11 = .ok (.iadd, 1) := by decide +kernel
theorem dX5_leastFloor_12 : decode cX5_leastFloor 12 = .ok (.iaload, 1) := by decide +kernel
theorem dX5_leastFloor_13 : decode cX5_leastFloor 13 = .ok (.istore_n 2, 1) := by decide +kernel
theorem dX5_leastFloor_14 : decode cX5_leastFloor 14 = .ok (.iconst 0, 1) := by decide +kernel
theorem dX5_leastFloor_15 : decode cX5_leastFloor 15 = .ok (.istore_n 3, 1) := by decide +kernel
theorem dX5_leastFloor_16 : decode cX5_leastFloor 16 = .ok (.iconst 0, 1) := by decide +kernel
theorem dX5_leastFloor_17 : decode cX5_leastFloor 17 = .ok (.istore 4, 2) := by decide +kernel
theorem dX5_leastFloor_19 : decode cX5_leastFloor 19 = .ok (.iconst 1, 1) := by decide +kernel
theorem dX5_leastFloor_20 : decode cX5_leastFloor 20 = .ok (.istore 5, 2) := by decide +kernel
theorem dX5_leastFloor_22 : decode cX5_leastFloor 22 = .ok (.iload 5, 2) := by decide +kernel
theorem dX5_leastFloor_24 : decode cX5_leastFloor 24 = .ok (.bipush 40, 2) := by decide +kernel
theorem dX5_leastFloor_26 : decode cX5_leastFloor 26 = .ok (.if_icmp .gt 49, 3) := by decide +kernel
theorem dX5_leastFloor_29 : decode cX5_leastFloor 29 = .ok (.aload_n 0, 1) := by decide +kernel
theorem dX5_leastFloor_30 : decode cX5_leastFloor 30 = .ok (.getfield 7, 3) := by decide +kernel
theorem dX5_leastFloor_33 : decode cX5_leastFloor 33 = .ok (.bipush 77, 2) := by decide +kernel
theorem dX5_leastFloor_35 : decode cX5_leastFloor 35 = .ok (.iconst 3, 1) := by decide +kernel
theorem dX5_leastFloor_36 : decode cX5_leastFloor 36 = .ok (.iload_n 1, 1) := by decide +kernel
theorem dX5_leastFloor_37 : decode cX5_leastFloor 37 = .ok (.imul, 1) := by decide +kernel
theorem dX5_leastFloor_38 : decode cX5_leastFloor 38 = .ok (.iadd, 1) := by decide +kernel
theorem dX5_leastFloor_39 : decode cX5_leastFloor 39 = .ok (.iconst 1, 1) := by decide +kernel
theorem dX5_leastFloor_40 : decode cX5_leastFloor 40 = .ok (.iadd, 1) := by decide +kernel
theorem dX5_leastFloor_41 : decode cX5_leastFloor 41 = .ok (.iload 5, 2) := by decide +kernel
theorem dX5_leastFloor_43 : decode cX5_leastFloor 43 = .ok (.iastore, 1) := by decide +kernel
theorem dX5_leastFloor_44 : decode cX5_leastFloor 44 = .ok (.aload_n 0, 1) := by decide +kernel
theorem dX5_leastFloor_45 : decode cX5_leastFloor 45 = .ok (.iload_n 1, 1) := by decide +kernel
theorem dX5_leastFloor_46 : decode cX5_leastFloor 46 = .ok (.invokevirtual 146, 3) := by decide +kernel
theorem dX5_leastFloor_49 : decode cX5_leastFloor 49 = .ok (.istore 6, 2) := by decide +kernel
theorem dX5_leastFloor_51 : decode cX5_leastFloor 51 = .ok (.iload_n 3, 1) := by decide +kernel
theorem dX5_leastFloor_52 : decode cX5_leastFloor 52 = .ok (.ifCond .eq 10, 3) := by decide +kernel
theorem dX5_leastFloor_55 : decode cX5_leastFloor 55 = .ok (.iload 6, 2) := by decide +kernel
theorem dX5_leastFloor_57 : decode cX5_leastFloor 57 = .ok (.iload 4, 2) := by decide +kernel
theorem dX5_leastFloor_59 : decode cX5_leastFloor 59 = .ok (.if_icmp .ge 10, 3) := by decide +kernel
theorem dX5_leastFloor_62 : decode cX5_leastFloor 62 = .ok (.iload 5, 2) := by decide +kernel
theorem dX5_leastFloor_64 : decode cX5_leastFloor 64 = .ok (.istore_n 3, 1) := by decide +kernel
theorem dX5_leastFloor_65 : decode cX5_leastFloor 65 = .ok (.iload 6, 2) := by decide +kernel
theorem dX5_leastFloor_67 : decode cX5_leastFloor 67 = .ok (.istore 4, 2) := by decide +kernel
theorem dX5_leastFloor_69 : decode cX5_leastFloor 69 = .ok (.iinc 5 1, 3) := by decide +kernel
theorem dX5_leastFloor_72 : decode cX5_leastFloor 72 = .ok (.goto (-50), 3) := by decide +kernel
theorem dX5_leastFloor_75 : decode cX5_leastFloor 75 = .ok (.aload_n 0, 1) := by decide +kernel
theorem dX5_leastFloor_76 : decode cX5_leastFloor 76 = .ok (.getfield 7, 3) := by decide +kernel
theorem dX5_leastFloor_79 : decode cX5_leastFloor 79 = .ok (.bipush 77, 2) := by decide +kernel
theorem dX5_leastFloor_81 : decode cX5_leastFloor 81 = .ok (.iconst 3, 1) := by decide +kernel
theorem dX5_leastFloor_82 : decode cX5_leastFloor 82 = .ok (.iload_n 1, 1) := by decide +kernel
theorem dX5_leastFloor_83 : decode cX5_leastFloor 83 = .ok (.imul, 1) := by decide +kernel
theorem dX5_leastFloor_84 : decode cX5_leastFloor 84 = .ok (.iadd, 1) := by decide +kernel
theorem dX5_leastFloor_85 : decode cX5_leastFloor 85 = .ok (.iconst 1, 1) := by decide +kernel
theorem dX5_leastFloor_86 : decode cX5_leastFloor 86 = .ok (.iadd, 1) := by decide +kernel
theorem dX5_leastFloor_87 : decode cX5_leastFloor 87 = .ok (.iload_n 2, 1) := by decide +kernel
theorem dX5_leastFloor_88 : decode cX5_leastFloor 88 = .ok (.iastore, 1) := by decide +kernel
theorem dX5_leastFloor_89 : decode cX5_leastFloor 89 = .ok (.iload_n 3, 1) := by decide +kernel
theorem dX5_leastFloor_90 : decode cX5_leastFloor 90 = .ok (.ireturn, 1) := by decide +kernel
theorem dX5_load_0 : decode cX5_load 0 = .ok (.aload_n 0, 1) := by decide +kernel
theorem dX5_load_1 : decode cX5_load 1 = .ok (.iload_n 1, 1) := by decide +kernel
theorem dX5_load_2 : decode cX5_load 2 = .ok (.invokevirtual 314, 3) := by decide +kernel
theorem dX5_load_5 : decode cX5_load 5 = .ok (.istore_n 3, 1) := by decide +kernel
theorem dX5_load_6 : decode cX5_load 6 = .ok (.iload_n 3, 1) := by decide +kernel
theorem dX5_load_7 : decode cX5_load 7 = .ok (.ifCond .eq 9, 3) := by decide +kernel
theorem dX5_load_10 : decode cX5_load 10 = .ok (.aload_n 0, 1) := by decide +kernel
theorem dX5_load_11 : decode cX5_load 11 = .ok (.iload_n 3, 1) := by decide +kernel
theorem dX5_load_12 : decode cX5_load 12 = .ok (.invokevirtual 75, 3) := by decide +kernel
theorem dX5_load_15 : decode cX5_load 15 = .ok (.ireturn, 1) := by decide +kernel
theorem dX5_load_16 : decode cX5_load 16 = .ok (.iload_n 2, 1) := by decide +kernel
theorem dX5_load_17 : decode cX5_load 17 = .ok (.invokestatic 58, 3) := by decide +kernel
theorem dX5_load_20 : decode cX5_load 20 = .ok (.ifCond .ne 10, 3) := by decide +kernel
theorem dX5_load_23 : decode cX5_load 23 = .ok (.aload_n 0, 1) := by decide +kernel
theorem dX5_load_24 : decode cX5_load 24 = .ok (.ldc 43, 2) := by decide +kernel
theorem dX5_load_26 : decode cX5_load 26 = .ok (.invokevirtual 75, 3) := by decide +kernel
theorem dX5_load_29 : decode cX5_load 29 = .ok (.ireturn, 1) := by decide +kernel
theorem dX5_load_30 : decode cX5_load 30 = .ok (.iconst 0, 1) := by decide +kernel
theorem dX5_load_31 : decode cX5_load 31 = .ok (.istore 4, 2) := by decide +kernel
theorem dX5_load_33 : decode cX5_load 33 = .ok (.iload 4, 2) := by decide +kernel
theorem dX5_load_35 : decode cX5_load 35 = .ok (.aload_n 0, 1) := by decide +kernel
theorem dX5_load_36 : decode cX5_load 36 = .ok (.getfield 34, 3) := by decide +kernel
theorem dX5_load_39 : decode cX5_load 39 = .ok (.iload_n 1, 1) := by decide +kernel
theorem dX5_load_40 : decode cX5_load 40 = .ok (.iaload, 1) := by decide +kernel
theorem dX5_load_41 : decode cX5_load 41 = .ok (.if_icmp .ge 68, 3) := by decide +kernel
theorem dX5_load_44 : decode cX5_load 44 = .ok (.iload_n 2, 1) := by decide +kernel
theorem dX5_load_45 : decode cX5_load 45 = .ok (.iload 4, 2) := by decide +kernel
theorem dX5_load_47 : decode cX5_load 47 = .ok (.iadd, 1) := by decide +kernel
theorem dX5_load_48 : decode cX5_load 48 = .ok (.bipush 24, 2) := by decide +kernel
theorem dX5_load_50 : decode cX5_load 50 = .ok (.if_icmp .ge 59, 3) := by decide +kernel
theorem dX5_load_53 : decode cX5_load 53 = .ok (.aload_n 0, 1) := by decide +kernel
theorem dX5_load_54 : decode cX5_load 54 = .ok (.getfield 37, 3) := by decide +kernel
theorem dX5_load_57 : decode cX5_load 57 = .ok (.bipush 40, 2) := by decide +kernel
theorem dX5_load_59 : decode cX5_load 59 = .ok (.iload_n 1, 1) := by decide +kernel
theorem dX5_load_60 : decode cX5_load 60 = .ok (.imul, 1) := by decide +kernel
theorem dX5_load_61 : decode cX5_load 61 = .ok (.iload 4, 2) := by decide +kernel
theorem dX5_load_63 : decode cX5_load 63 = .ok (.iadd, 1) := by decide +kernel
theorem dX5_load_64 : decode cX5_load 64 = .ok (.iaload, 1) := by decide +kernel
theorem dX5_load_65 : decode cX5_load 65 = .ok (.i2l, 1) := by decide +kernel
theorem dX5_load_66 : decode cX5_load 66 = .ok (.lconst 0, 1) := by decide +kernel
theorem dX5_load_67 : decode cX5_load 67 = .ok (.ldc2_w 73, 3) := by decide +kernel
theorem dX5_load_70 : decode cX5_load 70 = .ok (.invokestatic 46, 3) := by decide +kernel
theorem dX5_load_73 : decode cX5_load 73 = .ok (.ifCond .eq 36, 3) := by decide +kernel
theorem dX5_load_76 : decode cX5_load 76 = .ok (.aload_n 0, 1) := by decide +kernel
theorem dX5_load_77 : decode cX5_load 77 = .ok (.getfield 7, 3) := by decide +kernel
theorem dX5_load_80 : decode cX5_load 80 = .ok (.iconst 5, 1) := by decide +kernel
theorem dX5_load_81 : decode cX5_load 81 = .ok (.iconst 3, 1) := by decide +kernel
theorem dX5_load_82 : decode cX5_load 82 = .ok (.iload_n 2, 1) := by decide +kernel
theorem dX5_load_83 : decode cX5_load 83 = .ok (.iload 4, 2) := by decide +kernel
theorem dX5_load_85 : decode cX5_load 85 = .ok (.iadd, 1) := by decide +kernel
theorem dX5_load_86 : decode cX5_load 86 = .ok (.imul, 1) := by decide +kernel
theorem dX5_load_87 : decode cX5_load 87 = .ok (.iadd, 1) := by decide +kernel
theorem dX5_load_88 : decode cX5_load 88 = .ok (.iconst 1, 1) := by decide +kernel
theorem dX5_load_89 : decode cX5_load 89 = .ok (.iadd, 1) := by decide +kernel
theorem dX5_load_90 : decode cX5_load 90 = .ok (.aload_n 0, 1) := by decide +kernel
theorem dX5_load_91 : decode cX5_load 91 = .ok (.getfield 37, 3) := by decide +kernel
theorem dX5_load_94 : decode cX5_load 94 = .ok (.bipush 40, 2) := by decide +kernel
theorem dX5_load_96 : decode cX5_load 96 = .ok (.iload_n 1, 1) := by decide +kernel
theorem dX5_load_97 : decode cX5_load 97 = .ok (.imul, 1) := by decide +kernel
theorem dX5_load_98 : decode cX5_load 98 = .ok (.iload 4, 2) := by decide +kernel
theorem dX5_load_100 : decode cX5_load 100 = .ok (.iadd, 1) := by decide +kernel
theorem dX5_load_101 : decode cX5_load 101 = .ok (.iaload, 1) := by decide +kernel
theorem dX5_load_102 : decode cX5_load 102 = .ok (.iastore, 1) := by decide +kernel
theorem dX5_load_103 : decode cX5_load 103 = .ok (.iinc 4 1, 3) := by decide +kernel
theorem dX5_load_106 : decode cX5_load 106 = .ok (.goto (-73), 3) := by decide +kernel
theorem dX5_load_109 : decode cX5_load 109 = .ok (.iload 4, 2) := by decide +kernel
theorem dX5_load_111 : decode cX5_load 111 = .ok (.ireturn, 1) := by decide +kernel
theorem dX5_lost_0 : decode cX5_lost 0 = .ok (.aload_n 0, 1) := by decide +kernel
theorem dX5_lost_1 : decode cX5_lost 1 = .ok (.iload_n 1, 1) := by decide +kernel
theorem dX5_lost_2 : decode cX5_lost 2 = .ok (.invokevirtual 104, 3) := by decide +kernel
theorem dX5_lost_5 : decode cX5_lost 5 = .ok (.ifCond .eq 10, 3) := by decide +kernel
theorem dX5_lost_8 : decode cX5_lost 8 = .ok (.iload_n 2, 1) := by decide +kernel
theorem dX5_lost_9 : decode cX5_lost 9 = .ok (.invokestatic 58, 3) := by decide +kernel
theorem dX5_lost_12 : decode cX5_lost 12 = .ok (.ifCond .ne 10, 3) := by decide +kernel
theorem dX5_lost_15 : decode cX5_lost 15 = .ok (.aload_n 0, 1) := by decide +kernel
theorem dX5_lost_16 : decode cX5_lost 16 = .ok (.ldc 43, 2) := by decide +kernel
theorem dX5_lost_18 : decode cX5_lost 18 = .ok (.invokevirtual 75, 3) := by decide +kernel
theorem dX5_lost_21 : decode cX5_lost 21 = .ok (.ireturn, 1) := by decide +kernel
theorem dX5_lost_22 : decode cX5_lost 22 = .ok (.aload_n 0, 1) := by decide +kernel
theorem dX5_lost_23 : decode cX5_lost 23 = .ok (.bipush 60, 2) := by decide +kernel
theorem dX5_lost_25 : decode cX5_lost 25 = .ok (.invokevirtual 168, 3) := by decide +kernel
theorem dX5_lost_28 : decode cX5_lost 28 = .ok (.ifCond .eq 10, 3) := by decide +kernel
theorem dX5_lost_31 : decode cX5_lost 31 = .ok (.aload_n 0, 1) := by decide +kernel
theorem dX5_lost_32 : decode cX5_lost 32 = .ok (.ldc 144, 2) := by decide +kernel
theorem dX5_lost_34 : decode cX5_lost 34 = .ok (.invokevirtual 75, 3) := by decide +kernel
theorem dX5_lost_37 : decode cX5_lost 37 = .ok (.ireturn, 1) := by decide +kernel
theorem dX5_lost_38 : decode cX5_lost 38 = .ok (.aload_n 0, 1) := by decide +kernel
theorem dX5_lost_39 : decode cX5_lost 39 = .ok (.invokevirtual 171, 3) := by decide +kernel
theorem dX5_lost_42 : decode cX5_lost 42 = .ok (.iconst 0, 1) := by decide +kernel
theorem dX5_lost_43 : decode cX5_lost 43 = .ok (.istore_n 3, 1) := by decide +kernel
theorem dX5_lost_44 : decode cX5_lost 44 = .ok (.iload_n 3, 1) := by decide +kernel
theorem dX5_lost_45 : decode cX5_lost 45 = .ok (.bipush 60, 2) := by decide +kernel
theorem dX5_lost_47 : decode cX5_lost 47 = .ok (.if_icmp .ge 25, 3) := by decide +kernel
theorem dX5_lost_50 : decode cX5_lost 50 = .ok (.aload_n 0, 1) := by decide +kernel
theorem dX5_lost_51 : decode cX5_lost 51 = .ok (.iload_n 1, 1) := by decide +kernel
theorem dX5_lost_52 : decode cX5_lost 52 = .ok (.invokevirtual 141, 3) := by decide +kernel
theorem dX5_lost_55 : decode cX5_lost 55 = .ok (.iload_n 2, 1) := by decide +kernel
theorem dX5_lost_56 : decode cX5_lost 56 = .ok (.invokestatic 127, 3) := by decide +kernel
theorem dX5_lost_59 : decode cX5_lost 59 = .ok (.ifCond .eq 13, 3) := by decide +kernel
theorem dX5_lost_62 : decode cX5_lost 62 = .ok (.aload_n 0, 1) := by decide +kernel
theorem dX5_lost_63 : decode cX5_lost 63 = .ok (.invokevirtual 162, 3) := by decide +kernel
theorem dX5_lost_66 : decode cX5_lost 66 = .ok (.iinc 3 1, 3) := by decide +kernel
theorem dX5_lost_69 : decode cX5_lost 69 = .ok (.goto (-25), 3) := by decide +kernel
theorem dX5_lost_72 : decode cX5_lost 72 = .ok (.aload_n 0, 1) := by decide +kernel
theorem dX5_lost_73 : decode cX5_lost 73 = .ok (.iload_n 1, 1) := by decide +kernel
theorem dX5_lost_74 : decode cX5_lost 74 = .ok (.invokevirtual 141, 3) := by decide +kernel
theorem dX5_lost_77 : decode cX5_lost 77 = .ok (.iload_n 2, 1) := by decide +kernel
theorem dX5_lost_78 : decode cX5_lost 78 = .ok (.invokestatic 127, 3) := by decide +kernel
theorem dX5_lost_81 : decode cX5_lost 81 = .ok (.ifCond .ne 7, 3) := by decide +kernel
theorem dX5_lost_84 : decode cX5_lost 84 = .ok (.iconst 1, 1) := by decide +kernel
theorem dX5_lost_85 : decode cX5_lost 85 = .ok (.goto 4, 3) := by decide +kernel
theorem dX5_lost_88 : decode cX5_lost 88 = .ok (.iconst 0, 1) := by decide +kernel
theorem dX5_lost_89 : decode cX5_lost 89 = .ok (.istore 4, 2) := by decide +kernel
theorem dX5_lost_91 : decode cX5_lost 91 = .ok (.aload_n 0, 1) := by decide +kernel
theorem dX5_lost_92 : decode cX5_lost 92 = .ok (.invokevirtual 178, 3) := by decide +kernel
theorem dX5_lost_95 : decode cX5_lost 95 = .ok (.iload 4, 2) := by decide +kernel
theorem dX5_lost_97 : decode cX5_lost 97 = .ok (.ifCond .eq 7, 3) := by decide +kernel
theorem dX5_lost_100 : decode cX5_lost 100 = .ok (.iload_n 3, 1) := by decide +kernel
theorem dX5_lost_101 : decode cX5_lost 101 = .ok (.goto 9, 3) := by decide +kernel
theorem dX5_lost_104 : decode cX5_lost 104 = .ok (.aload_n 0, 1) := by decide +kernel
theorem dX5_lost_105 : decode cX5_lost 105 = .ok (.ldc 145, 2) := by decide +kernel
theorem dX5_lost_107 : decode cX5_lost 107 = .ok (.invokevirtual 75, 3) := by decide +kernel
theorem dX5_lost_110 : decode cX5_lost 110 = .ok (.ireturn, 1) := by decide +kernel
theorem dX5_lowers_0 : decode cX5_lowers 0 = .ok (.aload_n 0, 1) := by decide +kernel
theorem dX5_lowers_1 : decode cX5_lowers 1 = .ok (.getfield 7, 3) := by decide +kernel
theorem dX5_lowers_4 : decode cX5_lowers 4 = .ok (.iconst 5, 1) := by decide +kernel
theorem dX5_lowers_5 : decode cX5_lowers 5 = .ok (.iconst 3, 1) := by decide +kernel
theorem dX5_lowers_6 : decode cX5_lowers 6 = .ok (.iload_n 1, 1) := by decide +kernel
theorem dX5_lowers_7 : decode cX5_lowers 7 = .ok (.imul, 1) := by decide +kernel
theorem dX5_lowers_8 : decode cX5_lowers 8 = .ok (.iadd, 1) := by decide +kernel
theorem dX5_lowers_9 : decode cX5_lowers 9 = .ok (.iconst 1, 1) := by decide +kernel
theorem dX5_lowers_10 : decode cX5_lowers 10 = .ok (.iadd, 1) := by decide +kernel
theorem dX5_lowers_11 : decode cX5_lowers 11 = .ok (.aload_n 0, 1) := by decide +kernel
theorem dX5_lowers_12 : decode cX5_lowers 12 = .ok (.iload_n 1, 1) := by decide +kernel
theorem dX5_lowers_13 : decode cX5_lowers 13 = .ok (.invokevirtual 70, 3) := by decide +kernel
theorem dX5_lowers_16 : decode cX5_lowers 16 = .ok (.iload_n 2, 1) := by decide +kernel
theorem dX5_lowers_17 : decode cX5_lowers 17 = .ok (.if_icmp .ge 7, 3) := by decide +kernel
theorem dX5_lowers_20 : decode cX5_lowers 20 = .ok (.iconst 0, 1) := by decide +kernel
theorem dX5_lowers_21 : decode cX5_lowers 21 = .ok (.goto 10, 3) := by decide +kernel
theorem dX5_lowers_24 : decode cX5_lowers 24 = .ok (.aload_n 0, 1) := by decide +kernel
theorem dX5_lowers_25 : decode cX5_lowers 25 = .ok (.iload_n 1, 1) := by decide +kernel
theorem dX5_lowers_26 : decode cX5_lowers 26 = .ok (.invokevirtual 70, 3) := by decide +kernel
theorem dX5_lowers_29 : decode cX5_lowers 29 = .ok (.iload_n 2, 1) := by decide +kernel
theorem dX5_lowers_30 : decode cX5_lowers 30 = .ok (.isub, 1) := by decide +kernel
theorem dX5_lowers_31 : decode cX5_lowers 31 = .ok (.iastore, 1) := by decide +kernel
theorem dX5_lowers_32 : decode cX5_lowers 32 = .ok (.return_, 1) := by decide +kernel
theorem dX5_narrowed_0 : decode cX5_narrowed 0 = .ok (.iload_n 0, 1) := by decide +kernel
theorem dX5_narrowed_1 : decode cX5_narrowed 1 = .ok (.bipush 8, 2) := by decide +kernel
theorem dX5_narrowed_3 : decode cX5_narrowed 3 = .ok (.if_icmp .ne 8, 3) := by decide +kernel
theorem dX5_narrowed_6 : decode cX5_narrowed 6 = .ok (.iload_n 1, 1) := by decide +kernel
theorem dX5_narrowed_7 : decode cX5_narrowed 7 = .ok (.i2b, 1) := by decide +kernel
theorem dX5_narrowed_8 : decode cX5_narrowed 8 = .ok (.goto 15, 3) := by decide +kernel
theorem dX5_narrowed_11 : decode cX5_narrowed 11 = .ok (.iload_n 0, 1) := by decide +kernel
theorem dX5_narrowed_12 : decode cX5_narrowed 12 = .ok (.bipush 16, 2) := by decide +kernel
theorem dX5_narrowed_14 : decode cX5_narrowed 14 = .ok (.if_icmp .ne 8, 3) := by decide +kernel
theorem dX5_narrowed_17 : decode cX5_narrowed 17 = .ok (.iload_n 1, 1) := by decide +kernel
theorem dX5_narrowed_18 : decode cX5_narrowed 18 = .ok (.i2s, 1) := by decide +kernel
theorem dX5_narrowed_19 : decode cX5_narrowed 19 = .ok (.goto 4, 3) := by decide +kernel
theorem dX5_narrowed_22 : decode cX5_narrowed 22 = .ok (.iload_n 1, 1) := by decide +kernel
theorem dX5_narrowed_23 : decode cX5_narrowed 23 = .ok (.ireturn, 1) := by decide +kernel
theorem dX5_needs_0 : decode cX5_needs 0 = .ok (.aload_n 0, 1) := by decide +kernel
theorem dX5_needs_1 : decode cX5_needs 1 = .ok (.aload_n 0, 1) := by decide +kernel
theorem dX5_needs_2 : decode cX5_needs 2 = .ok (.getfield 230, 3) := by decide +kernel
theorem dX5_needs_5 : decode cX5_needs 5 = .ok (.ifCond .ne 7, 3) := by decide +kernel
theorem dX5_needs_8 : decode cX5_needs 8 = .ok (.iload_n 1, 1) := by decide +kernel
theorem dX5_needs_9 : decode cX5_needs 9 = .ok (.ifCond .ne 7, 3) := by decide +kernel
theorem dX5_needs_12 : decode cX5_needs 12 = .ok (.iconst 1, 1) := by decide +kernel
theorem dX5_needs_13 : decode cX5_needs 13 = .ok (.goto 4, 3) := by decide +kernel
theorem dX5_needs_16 : decode cX5_needs 16 = .ok (.iconst 0, 1) := by decide +kernel
theorem dX5_needs_17 : decode cX5_needs 17 = .ok (.putfield 230, 3) := by decide +kernel
theorem dX5_needs_20 : decode cX5_needs 20 = .ok (.aload_n 0, 1) := by decide +kernel
theorem dX5_needs_21 : decode cX5_needs 21 = .ok (.getfield 230, 3) := by decide +kernel
theorem dX5_needs_24 : decode cX5_needs 24 = .ok (.ifCond .ne 7, 3) := by decide +kernel
theorem dX5_needs_27 : decode cX5_needs 27 = .ok (.aload_n 0, 1) := by decide +kernel
theorem dX5_needs_28 : decode cX5_needs 28 = .ok (.invokevirtual 234, 3) := by decide +kernel
theorem dX5_needs_31 : decode cX5_needs 31 = .ok (.return_, 1) := by decide +kernel
theorem dX5_neighbours_0 : decode cX5_neighbours 0 = .ok (.aload_n 0, 1) := by decide +kernel
theorem dX5_neighbours_1 : decode cX5_neighbours 1 = .ok (.iload_n 1, 1) := by decide +kernel
theorem dX5_neighbours_2 : decode cX5_neighbours 2 = .ok (.invokevirtual 104, 3) := by decide +kernel
theorem dX5_neighbours_5 : decode cX5_neighbours 5 = .ok (.ifCond .ne 10, 3) := by decide +kernel
theorem dX5_neighbours_8 : decode cX5_neighbours 8 = .ok (.aload_n 0, 1) := by decide +kernel
theorem dX5_neighbours_9 : decode cX5_neighbours 9 = .ok (.ldc 43, 2) := by decide +kernel
theorem dX5_neighbours_11 : decode cX5_neighbours 11 = .ok (.invokevirtual 75, 3) := by decide +kernel
theorem dX5_neighbours_14 : decode cX5_neighbours 14 = .ok (.ireturn, 1) := by decide +kernel
theorem dX5_neighbours_15 : decode cX5_neighbours 15 = .ok (.aload_n 0, 1) := by decide +kernel
theorem dX5_neighbours_16 : decode cX5_neighbours 16 = .ok (.iload_n 1, 1) := by decide +kernel
theorem dX5_neighbours_17 : decode cX5_neighbours 17 = .ok (.invokevirtual 141, 3) := by decide +kernel
theorem dX5_neighbours_20 : decode cX5_neighbours 20 = .ok (.istore_n 2, 1) := by decide +kernel
theorem dX5_neighbours_21 : decode cX5_neighbours 21 = .ok (.iconst 0, 1) := by decide +kernel
theorem dX5_neighbours_22 : decode cX5_neighbours 22 = .ok (.istore_n 3, 1) := by decide +kernel
theorem dX5_neighbours_23 : decode cX5_neighbours 23 = .ok (.iconst 0, 1) := by decide +kernel
theorem dX5_neighbours_24 : decode cX5_neighbours 24 = .ok (.istore 4, 2) := by decide +kernel
theorem dX5_neighbours_26 : decode cX5_neighbours 26 = .ok (.iload 4, 2) := by decide +kernel
theorem dX5_neighbours_28 : decode cX5_neighbours 28 = .ok (.aload_n 0, 1) := by decide +kernel
theorem dX5_neighbours_29 : decode cX5_neighbours 29 = .ok (.getfield 7, 3) := by decide +kernel
theorem dX5_neighbours_32 : decode cX5_neighbours 32 = .ok (.iconst 1, 1) := by decide +kernel
theorem dX5_neighbours_33 : decode cX5_neighbours 33 = .ok (.iaload, 1) := by decide +kernel
theorem dX5_neighbours_34 : decode cX5_neighbours 34 = .ok (.if_icmp .ge 39, 3) := by decide +kernel
theorem dX5_neighbours_37 : decode cX5_neighbours 37 = .ok (.iload_n 3, 1) := by decide +kernel
theorem dX5_neighbours_38 : decode cX5_neighbours 38 = .ok (.iload 4, 2) := by decide +kernel
theorem dX5_neighbours_40 : decode cX5_neighbours 40 = .ok (.iload_n 1, 1) := by decide +kernel
theorem dX5_neighbours_41 : decode cX5_neighbours 41 = .ok (.if_icmp .eq 23, 3) := by decide +kernel
theorem dX5_neighbours_44 : decode cX5_neighbours 44 = .ok (.iload_n 2, 1) := by decide +kernel
theorem dX5_neighbours_45 : decode cX5_neighbours 45 = .ok (.aload_n 0, 1) := by decide +kernel
theorem dX5_neighbours_46 : decode cX5_neighbours 46 = .ok (.iload 4, 2) := by decide +kernel
theorem dX5_neighbours_48 : decode cX5_neighbours 48 = .ok (.invokevirtual 93, 3) := by decide +kernel
theorem dX5_neighbours_51 : decode cX5_neighbours 51 = .ok (.invokestatic 127, 3) := by decide +kernel
theorem dX5_neighbours_54 : decode cX5_neighbours 54 = .ok (.ifCond .eq 10, 3) := by decide +kernel
theorem dX5_neighbours_57 : decode cX5_neighbours 57 = .ok (.iconst 1, 1) := by decide +kernel
theorem dX5_neighbours_58 : decode cX5_neighbours 58 = .ok (.iload 4, 2) := by decide +kernel
theorem dX5_neighbours_60 : decode cX5_neighbours 60 = .ok (.ishl, 1) := by decide +kernel
theorem dX5_neighbours_61 : decode cX5_neighbours 61 = .ok (.goto 4, 3) := by decide +kernel
theorem dX5_neighbours_64 : decode cX5_neighbours 64 = .ok (.iconst 0, 1) := by decide +kernel
theorem dX5_neighbours_65 : decode cX5_neighbours 65 = .ok (.ior, 1) := by decide +kernel
theorem dX5_neighbours_66 : decode cX5_neighbours 66 = .ok (.istore_n 3, 1) := by decide +kernel
theorem dX5_neighbours_67 : decode cX5_neighbours 67 = .ok (.iinc 4 1, 3) := by decide +kernel
theorem dX5_neighbours_70 : decode cX5_neighbours 70 = .ok (.goto (-44), 3) := by decide +kernel
theorem dX5_neighbours_73 : decode cX5_neighbours 73 = .ok (.iload_n 3, 1) := by decide +kernel
theorem dX5_neighbours_74 : decode cX5_neighbours 74 = .ok (.ireturn, 1) := by decide +kernel
theorem dX5_newHouse_0 : decode cX5_newHouse 0 = .ok (.bipush 77, 2) := by decide +kernel
theorem dX5_newHouse_2 : decode cX5_newHouse 2 = .ok (.iconst 3, 1) := by decide +kernel
theorem dX5_newHouse_3 : decode cX5_newHouse 3 = .ok (.aload_n 0, 1) := by decide +kernel
theorem dX5_newHouse_4 : decode cX5_newHouse 4 = .ok (.getfield 7, 3) := by decide +kernel
theorem dX5_newHouse_7 : decode cX5_newHouse 7 = .ok (.iconst 1, 1) := by decide +kernel
theorem dX5_newHouse_8 : decode cX5_newHouse 8 = .ok (.iaload, 1) := by decide +kernel
theorem dX5_newHouse_9 : decode cX5_newHouse 9 = .ok (.imul, 1) := by decide +kernel
theorem dX5_newHouse_10 : decode cX5_newHouse 10 = .ok (.iadd, 1) := by decide +kernel
theorem dX5_newHouse_11 : decode cX5_newHouse 11 = .ok (.istore 4, 2) := by decide +kernel
theorem dX5_newHouse_13 : decode cX5_newHouse 13 = .ok (.aload_n 0, 1) := by decide +kernel
theorem dX5_newHouse_14 : decode cX5_newHouse 14 = .ok (.getfield 7, 3) := by decide +kernel
theorem dX5_newHouse_17 : decode cX5_newHouse 17 = .ok (.iload 4, 2) := by decide +kernel
theorem dX5_newHouse_19 : decode cX5_newHouse 19 = .ok (.iload_n 1, 1) := by decide +kernel
theorem dX5_newHouse_20 : decode cX5_newHouse 20 = .ok (.iastore, 1) := by decide +kernel
theorem dX5_newHouse_21 : decode cX5_newHouse 21 = .ok (.aload_n 0, 1) := by decide +kernel
theorem dX5_newHouse_22 : decode cX5_newHouse 22 = .ok (.getfield 7, 3) := by decide +kernel
theorem dX5_newHouse_25 : decode cX5_newHouse 25 = .ok (.iload 4, 2) := by decide +kernel
theorem dX5_newHouse_27 : decode cX5_newHouse 27 = .ok (.iconst 1, 1) := by decide +kernel
theorem dX5_newHouse_28 : decode cX5_newHouse 28 = .ok (.iadd, 1) := by decide +kernel
theorem dX5_newHouse_29 : decode cX5_newHouse 29 = .ok (.iload_n 2, 1) := by decide +kernel
theorem dX5_newHouse_30 : decode cX5_newHouse 30 = .ok (.iastore, 1) := by decide +kernel
theorem dX5_newHouse_31 : decode cX5_newHouse 31 = .ok (.aload_n 0, 1) := by decide +kernel
theorem dX5_newHouse_32 : decode cX5_newHouse 32 = .ok (.getfield 7, 3) := by decide +kernel
theorem dX5_newHouse_35 : decode cX5_newHouse 35 = .ok (.iload 4, 2) := by decide +kernel
theorem dX5_newHouse_37 : decode cX5_newHouse 37 = .ok (.iconst 2, 1) := by decide +kernel
theorem dX5_newHouse_38 : decode cX5_newHouse 38 = .ok (.iadd, 1) := by decide +kernel
theorem dX5_newHouse_39 : decode cX5_newHouse 39 = .ok (.iload_n 3, 1) := by decide +kernel
theorem dX5_newHouse_40 : decode cX5_newHouse 40 = .ok (.iastore, 1) := by decide +kernel
theorem dX5_newHouse_41 : decode cX5_newHouse 41 = .ok (.aload_n 0, 1) := by decide +kernel
theorem dX5_newHouse_42 : decode cX5_newHouse 42 = .ok (.getfield 7, 3) := by decide +kernel
theorem dX5_newHouse_45 : decode cX5_newHouse 45 = .ok (.iconst 1, 1) := by decide +kernel
theorem dX5_newHouse_46 : decode cX5_newHouse 46 = .ok (.dup2, 1) := by decide +kernel
theorem dX5_newHouse_47 : decode cX5_newHouse 47 = .ok (.iaload, 1) := by decide +kernel
theorem dX5_newHouse_48 : decode cX5_newHouse 48 = .ok (.iconst 1, 1) := by decide +kernel
theorem dX5_newHouse_49 : decode cX5_newHouse 49 = .ok (.iadd, 1) := by decide +kernel
theorem dX5_newHouse_50 : decode cX5_newHouse 50 = .ok (.iastore, 1) := by decide +kernel
theorem dX5_newHouse_51 : decode cX5_newHouse 51 = .ok (.aload_n 0, 1) := by decide +kernel
theorem dX5_newHouse_52 : decode cX5_newHouse 52 = .ok (.getfield 7, 3) := by decide +kernel
theorem dX5_newHouse_55 : decode cX5_newHouse 55 = .ok (.iconst 1, 1) := by decide +kernel
theorem dX5_newHouse_56 : decode cX5_newHouse 56 = .ok (.iaload, 1) := by decide +kernel
theorem dX5_newHouse_57 : decode cX5_newHouse 57 = .ok (.iconst 1, 1) := by decide +kernel
theorem dX5_newHouse_58 : decode cX5_newHouse 58 = .ok (.isub, 1) := by decide +kernel
theorem dX5_newHouse_59 : decode cX5_newHouse 59 = .ok (.ireturn, 1) := by decide +kernel
theorem dX5_next_0 : decode cX5_next 0 = .ok (.aload_n 0, 1) := by decide +kernel
theorem dX5_next_1 : decode cX5_next 1 = .ok (.getfield 7, 3) := by decide +kernel
theorem dX5_next_4 : decode cX5_next 4 = .ok (.iconst 4, 1) := by decide +kernel
theorem dX5_next_5 : decode cX5_next 5 = .ok (.aload_n 0, 1) := by decide +kernel
theorem dX5_next_6 : decode cX5_next 6 = .ok (.getfield 7, 3) := by decide +kernel
theorem dX5_next_9 : decode cX5_next 9 = .ok (.iconst 4, 1) := by decide +kernel
theorem dX5_next_10 : decode cX5_next 10 = .ok (.iaload, 1) := by decide +kernel
theorem dX5_next_11 : decode cX5_next 11 = .ok (.ldc 62, 2) := by decide +kernel
theorem dX5_next_13 : decode cX5_next 13 = .ok (.imul, 1) := by decide +kernel
theorem dX5_next_14 : decode cX5_next 14 = .ok (.sipush 12345, 3) := by decide +kernel
theorem dX5_next_17 : decode cX5_next 17 = .ok (.iadd, 1) := by decide +kernel
theorem dX5_next_18 : decode cX5_next 18 = .ok (.iastore, 1) := by decide +kernel
theorem dX5_next_19 : decode cX5_next 19 = .ok (.aload_n 0, 1) := by decide +kernel
theorem dX5_next_20 : decode cX5_next 20 = .ok (.getfield 7, 3) := by decide +kernel
theorem dX5_next_23 : decode cX5_next 23 = .ok (.iconst 4, 1) := by decide +kernel
theorem dX5_next_24 : decode cX5_next 24 = .ok (.iaload, 1) := by decide +kernel
theorem dX5_next_25 : decode cX5_next 25 = .ok (.bipush 8, 2) := by decide +kernel
theorem dX5_next_27 : decode cX5_next 27 = .ok (.iushr, 1) := by decide +kernel
theorem dX5_next_28 : decode cX5_next 28 = .ok (.ireturn, 1) := by decide +kernel
theorem dX5_number_0 : decode cX5_number 0 = .ok (.aload_n 0, 1) := by decide +kernel
theorem dX5_number_1 : decode cX5_number 1 = .ok (.getfield 230, 3) := by decide +kernel
theorem dX5_number_4 : decode cX5_number 4 = .ok (.ifCond .eq 4, 3) := by decide +kernel
theorem dX5_number_7 : decode cX5_number 7 = .ok (.return_, 1) := by decide +kernel
theorem dX5_number_8 : decode cX5_number 8 = .ok (.aload_n 0, 1) := by decide +kernel
theorem dX5_number_9 : decode cX5_number 9 = .ok (.aload_n 0, 1) := by decide +kernel
theorem dX5_number_10 : decode cX5_number 10 = .ok (.getfield 218, 3) := by decide +kernel
theorem dX5_number_13 : decode cX5_number 13 = .ok (.invokevirtual 221, 3) := by decide +kernel
theorem dX5_number_16 : decode cX5_number 16 = .ok (.invokestatic 227, 3) := by decide +kernel
theorem dX5_number_19 : decode cX5_number 19 = .ok (.istore_n 3, 1) := by decide +kernel
theorem dX5_number_20 : decode cX5_number 20 = .ok (.iconst 0, 1) := by decide +kernel
theorem dX5_number_21 : decode cX5_number 21 = .ok (.istore 4, 2) := by decide +kernel
theorem dX5_number_23 : decode cX5_number 23 = .ok (.aload_n 0, 1) := by decide +kernel
theorem dX5_number_24 : decode cX5_number 24 = .ok (.getfield 218, 3) := by decide +kernel
theorem dX5_number_27 : decode cX5_number 27 = .ok (.istore 5, 2) := by decide +kernel
theorem dX5_number_29 : decode cX5_number 29 = .ok (.iload 5, 2) := by decide +kernel
theorem dX5_number_31 : decode cX5_number 31 = .ok (.aload_n 0, 1) := by decide +kernel
theorem dX5_number_32 : decode cX5_number 32 = .ok (.getfield 215, 3) := by decide +kernel
theorem dX5_number_35 : decode cX5_number 35 = .ok (.if_icmp .ge 44, 3) := by decide +kernel
theorem dX5_number_38 : decode cX5_number 38 = .ok (.iload_n 3, 1) := by decide +kernel
theorem dX5_number_39 : decode cX5_number 39 = .ok (.ifCond .eq 40, 3) := by decide +kernel
theorem dX5_number_42 : decode cX5_number 42 = .ok (.iload 4, 2) := by decide +kernel
theorem dX5_number_44 : decode cX5_number 44 = .ok (.sipush 999, 3) := by decide +kernel
theorem dX5_number_47 : decode cX5_number 47 = .ok (.if_icmp .le 8, 3) := by decide +kernel
theorem dX5_number_50 : decode cX5_number 50 = .ok (.iload 4, 2) := by decide +kernel
theorem dX5_number_52 : decode cX5_number 52 = .ok (.goto 19, 3) := by decide +kernel
theorem dX5_number_55 : decode cX5_number 55 = .ok (.bipush 10, 2) := by decide +kernel
theorem dX5_number_57 : decode cX5_number 57 = .ok (.iload 4, 2) := by decide +kernel
theorem dX5_number_59 : decode cX5_number 59 = .ok (.imul, 1) := by decide +kernel
theorem dX5_number_60 : decode cX5_number 60 = .ok (.aload_n 0, 1) := by decide +kernel
theorem dX5_number_61 : decode cX5_number 61 = .ok (.getfield 28, 3) := by decide +kernel
theorem dX5_number_64 : decode cX5_number 64 = .ok (.iload 5, 2) := by decide +kernel
theorem dX5_number_66 : decode cX5_number 66 = .ok (.iaload, 1) := by decide +kernel
theorem dX5_number_67 : decode cX5_number 67 = .ok (.iadd, 1) := by decide +kernel
theorem dX5_number_68 : decode cX5_number 68 = .ok (.bipush 48, 2) := by decide +kernel
theorem dX5_number_70 : decode cX5_number 70 = .ok (.isub, 1) := by decide +kernel
theorem dX5_number_71 : decode cX5_number 71 = .ok (.istore 4, 2) := by decide +kernel
theorem dX5_number_73 : decode cX5_number 73 = .ok (.iinc 5 1, 3) := by decide +kernel
theorem dX5_number_76 : decode cX5_number 76 = .ok (.goto (-47), 3) := by decide +kernel
theorem dX5_number_79 : decode cX5_number 79 = .ok (.aload_n 0, 1) := by decide +kernel
theorem dX5_number_80 : decode cX5_number 80 = .ok (.iload 4, 2) := by decide +kernel
theorem dX5_number_82 : decode cX5_number 82 = .ok (.putfield 241, 3) := by decide +kernel
theorem dX5_number_85 : decode cX5_number 85 = .ok (.aload_n 0, 1) := by decide +kernel
theorem dX5_number_86 : decode cX5_number 86 = .ok (.iload_n 3, 1) := by decide +kernel
theorem dX5_number_87 : decode cX5_number 87 = .ok (.ifCond .eq 20, 3) := by decide +kernel
theorem dX5_number_90 : decode cX5_number 90 = .ok (.iload 4, 2) := by decide +kernel
theorem dX5_number_92 : decode cX5_number 92 = .ok (.i2l, 1) := by decide +kernel
theorem dX5_number_93 : decode cX5_number 93 = .ok (.iload_n 1, 1) := by decide +kernel
theorem dX5_number_94 : decode cX5_number 94 = .ok (.i2l, 1) := by decide +kernel
theorem dX5_number_95 : decode cX5_number 95 = .ok (.iload_n 2, 1) := by decide +kernel
theorem dX5_number_96 : decode cX5_number 96 = .ok (.i2l, 1) := by decide +kernel
theorem dX5_number_97 : decode cX5_number 97 = .ok (.invokestatic 46, 3) := by decide +kernel
theorem dX5_number_100 : decode cX5_number 100 = .ok (.ifCond .eq 7, 3) := by decide +kernel
theorem dX5_number_103 : decode cX5_number 103 = .ok (.iconst 1, 1) := by decide +kernel
theorem dX5_number_104 : decode cX5_number 104 = .ok (.goto 4, 3) := by decide +kernel
theorem dX5_number_107 : decode cX5_number 107 = .ok (.iconst 0, 1) := by decide +kernel
theorem dX5_number_108 : decode cX5_number 108 = .ok (.invokevirtual 244, 3) := by decide +kernel
theorem dX5_number_111 : decode cX5_number 111 = .ok (.return_, 1) := by decide +kernel
theorem dX5_ones_0 : decode cX5_ones 0 = .ok (.iconst 0, 1) := by decide +kernel
theorem dX5_ones_1 : decode cX5_ones 1 = .ok (.istore_n 1, 1) := by decide +kernel
theorem dX5_ones_2 : decode cX5_ones 2 = .ok (.iload_n 0, 1) := by decide +kernel
theorem dX5_ones_3 : decode cX5_ones 3 = .ok (.istore_n 2, 1) := by decide +kernel
theorem dX5_ones_4 : decode cX5_ones 4 = .ok (.iload_n 2, 1) := by decide +kernel
theorem dX5_ones_5 : decode cX5_ones 5 = .ok (.ifCond .eq 15, 3) := by decide +kernel
theorem dX5_ones_8 : decode cX5_ones 8 = .ok (.iinc 1 1, 3) := by decide +kernel
theorem dX5_ones_11 : decode cX5_ones 11 = .ok (.iload_n 2, 1) := by decide +kernel
theorem dX5_ones_12 : decode cX5_ones 12 = .ok (.iload_n 2, 1) := by decide +kernel
theorem dX5_ones_13 : decode cX5_ones 13 = .ok (.iconst 1, 1) := by decide +kernel
theorem dX5_ones_14 : decode cX5_ones 14 = .ok (.isub, 1) := by decide +kernel
theorem dX5_ones_15 : decode cX5_ones 15 = .ok (.iand, 1) := by decide +kernel
theorem dX5_ones_16 : decode cX5_ones 16 = .ok (.istore_n 2, 1) := by decide +kernel
theorem dX5_ones_17 : decode cX5_ones 17 = .ok (.goto (-13), 3) := by decide +kernel
theorem dX5_ones_20 : decode cX5_ones 20 = .ok (.iload_n 1, 1) := by decide +kernel
theorem dX5_ones_21 : decode cX5_ones 21 = .ok (.ireturn, 1) := by decide +kernel
theorem dX5_openOf_0 : decode cX5_openOf 0 = .ok (.aload_n 0, 1) := by decide +kernel
theorem dX5_openOf_1 : decode cX5_openOf 1 = .ok (.getfield 7, 3) := by decide +kernel
theorem dX5_openOf_4 : decode cX5_openOf 4 = .ok (.bipush 77, 2) := by decide +kernel
theorem dX5_openOf_6 : decode cX5_openOf 6 = .ok (.iconst 3, 1) := by decide +kernel
theorem dX5_openOf_7 : decode cX5_openOf 7 = .ok (.iload_n 1, 1) := by decide +kernel
theorem dX5_openOf_8 : decode cX5_openOf 8 = .ok (.imul, 1) := by decide +kernel
theorem dX5_openOf_9 : decode cX5_openOf 9 = .ok (.iadd, 1) := by decide +kernel
theorem dX5_openOf_10 : decode cX5_openOf 10 = .ok (.iconst 2, 1) := by decide +kernel
theorem dX5_openOf_11 : decode cX5_openOf 11 = .ok (.iadd, 1) := by decide +kernel
theorem dX5_openOf_12 : decode cX5_openOf 12 = .ok (.iaload, 1) := by decide +kernel
theorem dX5_openOf_13 : decode cX5_openOf 13 = .ok (.ireturn, 1) := by decide +kernel
theorem dX5_perhaps_0 : decode cX5_perhaps 0 = .ok (.iload_n 1, 1) := by decide +kernel
theorem dX5_perhaps_1 : decode cX5_perhaps 1 = .ok (.ifCond .ne 6, 3) := by decide +kernel
theorem dX5_perhaps_4 : decode cX5_perhaps 4 = .ok (.iload 4, 2) := by decide +kernel
theorem dX5_perhaps_6 : decode cX5_perhaps 6 = .ok (.ireturn, 1) := by decide +kernel
theorem dX5_perhaps_7 : decode cX5_perhaps 7 = .ok (.aload_n 0, 1) := by decide +kernel
theorem dX5_perhaps_8 : decode cX5_perhaps 8 = .ok (.iconst 1, 1) := by decide +kernel
theorem dX5_perhaps_9 : decode cX5_perhaps 9 = .ok (.invokevirtual 244, 3) := by decide +kernel
theorem dX5_perhaps_12 : decode cX5_perhaps 12 = .ok (.aload_n 0, 1) := by decide +kernel
theorem dX5_perhaps_13 : decode cX5_perhaps 13 = .ok (.iload_n 2, 1) := by decide +kernel
theorem dX5_perhaps_14 : decode cX5_perhaps 14 = .ok (.iload_n 3, 1) := by decide +kernel
theorem dX5_perhaps_15 : decode cX5_perhaps 15 = .ok (.invokevirtual 266, 3) := by decide +kernel
theorem dX5_perhaps_18 : decode cX5_perhaps 18 = .ok (.aload_n 0, 1) := by decide +kernel
theorem dX5_perhaps_19 : decode cX5_perhaps 19 = .ok (.getfield 241, 3) := by decide +kernel
theorem dX5_perhaps_22 : decode cX5_perhaps 22 = .ok (.ireturn, 1) := by decide +kernel
theorem dX5_plant_0 : decode cX5_plant 0 = .ok (.iload_n 1, 1) := by decide +kernel
theorem dX5_plant_1 : decode cX5_plant 1 = .ok (.invokestatic 78, 3) := by decide +kernel
theorem dX5_plant_4 : decode cX5_plant 4 = .ok (.ifCond .ne 10, 3) := by decide +kernel
theorem dX5_plant_7 : decode cX5_plant 7 = .ok (.aload_n 0, 1) := by decide +kernel
theorem dX5_plant_8 : decode cX5_plant 8 = .ok (.ldc 43, 2) := by decide +kernel
theorem dX5_plant_10 : decode cX5_plant 10 = .ok (.invokevirtual 75, 3) := by decide +kernel
theorem dX5_plant_13 : decode cX5_plant 13 = .ok (.ireturn, 1) := by decide +kernel
theorem dX5_plant_14 : decode cX5_plant 14 = .ok (.iconst (-1), 1) := by decide +kernel
theorem dX5_plant_15 : decode cX5_plant 15 = .ok (.istore_n 2, 1) := by decide +kernel
theorem dX5_plant_16 : decode cX5_plant 16 = .ok (.iconst 0, 1) := by decide +kernel
theorem dX5_plant_17 : decode cX5_plant 17 = .ok (.istore_n 3, 1) := by decide +kernel
theorem dX5_plant_18 : decode cX5_plant 18 = .ok (.aload_n 0, 1) := by decide +kernel
theorem dX5_plant_19 : decode cX5_plant 19 = .ok (.invokevirtual 171, 3) := by decide +kernel
theorem dX5_plant_22 : decode cX5_plant 22 = .ok (.iconst 0, 1) := by decide +kernel
theorem dX5_plant_23 : decode cX5_plant 23 = .ok (.istore 4, 2) := by decide +kernel
theorem dX5_plant_25 : decode cX5_plant 25 = .ok (.iload 4, 2) := by decide +kernel
theorem dX5_plant_27 : decode cX5_plant 27 = .ok (.bipush 24, 2) := by decide +kernel
theorem dX5_plant_29 : decode cX5_plant 29 = .ok (.if_icmp .ge 42, 3) := by decide +kernel
theorem dX5_plant_32 : decode cX5_plant 32 = .ok (.aload_n 0, 1) := by decide +kernel
theorem dX5_plant_33 : decode cX5_plant 33 = .ok (.iload 4, 2) := by decide +kernel
theorem dX5_plant_35 : decode cX5_plant 35 = .ok (.iload_n 1, 1) := by decide +kernel
theorem dX5_plant_36 : decode cX5_plant 36 = .ok (.invokevirtual 81, 3) := by decide +kernel
theorem dX5_plant_39 : decode cX5_plant 39 = .ok (.aload_n 0, 1) := by decide +kernel
theorem dX5_plant_40 : decode cX5_plant 40 = .ok (.invokevirtual 149, 3) := by decide +kernel
theorem dX5_plant_43 : decode cX5_plant 43 = .ok (.istore 5, 2) := by decide +kernel
theorem dX5_plant_45 : decode cX5_plant 45 = .ok (.aload_n 0, 1) := by decide +kernel
theorem dX5_plant_46 : decode cX5_plant 46 = .ok (.invokevirtual 178, 3) := by decide +kernel
theorem dX5_plant_49 : decode cX5_plant 49 = .ok (.iload_n 2, 1) := by decide +kernel
theorem dX5_plant_50 : decode cX5_plant 50 = .ok (.ifCond .lt 9, 3) := by decide +kernel
theorem dX5_plant_53 : decode cX5_plant 53 = .ok (.iload 5, 2) := by decide +kernel
theorem dX5_plant_55 : decode cX5_plant 55 = .ok (.iload_n 3, 1) := by decide +kernel
theorem dX5_plant_56 : decode cX5_plant 56 = .ok (.if_icmp .le 9, 3) := by decide +kernel
theorem dX5_plant_59 : decode cX5_plant 59 = .ok (.iload 4, 2) := by decide +kernel
theorem dX5_plant_61 : decode cX5_plant 61 = .ok (.istore_n 2, 1) := by decide +kernel
theorem dX5_plant_62 : decode cX5_plant 62 = .ok (.iload 5, 2) := by decide +kernel
theorem dX5_plant_64 : decode cX5_plant 64 = .ok (.istore_n 3, 1) := by decide +kernel
theorem dX5_plant_65 : decode cX5_plant 65 = .ok (.iinc 4 1, 3) := by decide +kernel
theorem dX5_plant_68 : decode cX5_plant 68 = .ok (.goto (-43), 3) := by decide +kernel
theorem dX5_plant_71 : decode cX5_plant 71 = .ok (.iload_n 2, 1) := by decide +kernel
theorem dX5_plant_72 : decode cX5_plant 72 = .ok (.ireturn, 1) := by decide +kernel
theorem dX5_puts_0 : decode cX5_puts 0 = .ok (.iconst 0, 1) := by decide +kernel
theorem dX5_puts_1 : decode cX5_puts 1 = .ok (.istore_n 1, 1) := by decide +kernel
theorem dX5_puts_2 : decode cX5_puts 2 = .ok (.iload_n 1, 1) := by decide +kernel
theorem dX5_puts_3 : decode cX5_puts 3 = .ok (.bipush 111, 2) := by decide +kernel
theorem dX5_puts_5 : decode cX5_puts 5 = .ok (.if_icmp .ge 21, 3) := by decide +kernel
theorem dX5_puts_8 : decode cX5_puts 8 = .ok (.aload_n 0, 1) := by decide +kernel
theorem dX5_puts_9 : decode cX5_puts 9 = .ok (.getfield 16, 3) := by decide +kernel
theorem dX5_puts_12 : decode cX5_puts 12 = .ok (.iload_n 1, 1) := by decide +kernel
theorem dX5_puts_13 : decode cX5_puts 13 = .ok (.aload_n 0, 1) := by decide +kernel
theorem dX5_puts_14 : decode cX5_puts 14 = .ok (.getfield 7, 3) := by decide +kernel
theorem dX5_puts_17 : decode cX5_puts 17 = .ok (.iload_n 1, 1) := by decide +kernel
theorem dX5_puts_18 : decode cX5_puts 18 = .ok (.iaload, 1) := by decide +kernel
theorem dX5_puts_19 : decode cX5_puts 19 = .ok (.iastore, 1) := by decide +kernel
theorem dX5_puts_20 : decode cX5_puts 20 = .ok (.iinc 1 1, 3) := by decide +kernel
theorem dX5_puts_23 : decode cX5_puts 23 = .ok (.goto (-21), 3) := by decide +kernel
theorem dX5_puts_26 : decode cX5_puts 26 = .ok (.return_, 1) := by decide +kernel
theorem dX5_putsBack_0 : decode cX5_putsBack 0 = .ok (.iconst 0, 1) := by decide +kernel
theorem dX5_putsBack_1 : decode cX5_putsBack 1 = .ok (.istore_n 1, 1) := by decide +kernel
theorem dX5_putsBack_2 : decode cX5_putsBack 2 = .ok (.iload_n 1, 1) := by decide +kernel
theorem dX5_putsBack_3 : decode cX5_putsBack 3 = .ok (.bipush 111, 2) := by decide +kernel
theorem dX5_putsBack_5 : decode cX5_putsBack 5 = .ok (.if_icmp .ge 21, 3) := by decide +kernel
theorem dX5_putsBack_8 : decode cX5_putsBack 8 = .ok (.aload_n 0, 1) := by decide +kernel
theorem dX5_putsBack_9 : decode cX5_putsBack 9 = .ok (.getfield 7, 3) := by decide +kernel
theorem dX5_putsBack_12 : decode cX5_putsBack 12 = .ok (.iload_n 1, 1) := by decide +kernel
theorem dX5_putsBack_13 : decode cX5_putsBack 13 = .ok (.aload_n 0, 1) := by decide +kernel
theorem dX5_putsBack_14 : decode cX5_putsBack 14 = .ok (.getfield 16, 3) := by decide +kernel
theorem dX5_putsBack_17 : decode cX5_putsBack 17 = .ok (.iload_n 1, 1) := by decide +kernel
theorem dX5_putsBack_18 : decode cX5_putsBack 18 = .ok (.iaload, 1) := by decide +kernel
theorem dX5_putsBack_19 : decode cX5_putsBack 19 = .ok (.iastore, 1) := by decide +kernel
theorem dX5_putsBack_20 : decode cX5_putsBack 20 = .ok (.iinc 1 1, 3) := by decide +kernel
theorem dX5_putsBack_23 : decode cX5_putsBack 23 = .ok (.goto (-21), 3) := by decide +kernel
theorem dX5_putsBack_26 : decode cX5_putsBack 26 = .ok (.return_, 1) := by decide +kernel
theorem dX5_quake_0 : decode cX5_quake 0 = .ok (.iload_n 1, 1) := by decide +kernel
theorem dX5_quake_1 : decode cX5_quake 1 = .ok (.i2l, 1) := by decide +kernel
theorem dX5_quake_2 : decode cX5_quake 2 = .ok (.lconst 1, 1) := by decide +kernel
theorem dX5_quake_3 : decode cX5_quake 3 = .ok (.ldc2_w 199, 3) := by decide +kernel
theorem dX5_quake_6 : decode cX5_quake 6 = .ok (.invokestatic 46, 3) := by decide +kernel
theorem dX5_quake_9 : decode cX5_quake 9 = .ok (.ifCond .ne 10, 3) := by decide +kernel
theorem dX5_quake_12 : decode cX5_quake 12 = .ok (.aload_n 0, 1) := by decide +kernel
theorem dX5_quake_13 : decode cX5_quake 13 = .ok (.ldc 43, 2) := by decide +kernel
theorem dX5_quake_15 : decode cX5_quake 15 = .ok (.invokevirtual 75, 3) := by decide +kernel
theorem dX5_quake_18 : decode cX5_quake 18 = .ok (.ireturn, 1) := by decide +kernel
theorem dX5_quake_19 : decode cX5_quake 19 = .ok (.iconst 0, 1) := by decide +kernel
theorem dX5_quake_20 : decode cX5_quake 20 = .ok (.istore_n 2, 1) := by decide +kernel
theorem dX5_quake_21 : decode cX5_quake 21 = .ok (.iload_n 2, 1) := by decide +kernel
theorem dX5_quake_22 : decode cX5_quake 22 = .ok (.iload_n 1, 1) := by decide +kernel
theorem dX5_quake_23 : decode cX5_quake 23 = .ok (.if_icmp .ge 36, 3) := by decide +kernel
theorem dX5_quake_26 : decode cX5_quake 26 = .ok (.aload_n 0, 1) := by decide +kernel
theorem dX5_quake_27 : decode cX5_quake 27 = .ok (.invokevirtual 201, 3) := by decide +kernel
theorem dX5_quake_30 : decode cX5_quake 30 = .ok (.bipush 24, 2) := by decide +kernel
theorem dX5_quake_32 : decode cX5_quake 32 = .ok (.irem, 1) := by decide +kernel
theorem dX5_quake_33 : decode cX5_quake 33 = .ok (.istore_n 3, 1) := by decide +kernel
theorem dX5_quake_34 : decode cX5_quake 34 = .ok (.aload_n 0, 1) := by decide +kernel
theorem dX5_quake_35 : decode cX5_quake 35 = .ok (.getfield 7, 3) := by decide +kernel
theorem dX5_quake_38 : decode cX5_quake 38 = .ok (.iconst 5, 1) := by decide +kernel
theorem dX5_quake_39 : decode cX5_quake 39 = .ok (.iconst 3, 1) := by decide +kernel
theorem dX5_quake_40 : decode cX5_quake 40 = .ok (.iload_n 3, 1) := by decide +kernel
theorem dX5_quake_41 : decode cX5_quake 41 = .ok (.imul, 1) := by decide +kernel
theorem dX5_quake_42 : decode cX5_quake 42 = .ok (.iadd, 1) := by decide +kernel
theorem dX5_quake_43 : decode cX5_quake 43 = .ok (.iconst 1, 1) := by decide +kernel
theorem dX5_quake_44 : decode cX5_quake 44 = .ok (.iadd, 1) := by decide +kernel
theorem dX5_quake_45 : decode cX5_quake 45 = .ok (.aload_n 0, 1) := by decide +kernel
theorem dX5_quake_46 : decode cX5_quake 46 = .ok (.invokevirtual 201, 3) := by decide +kernel
theorem dX5_quake_49 : decode cX5_quake 49 = .ok (.bipush 100, 2) := by decide +kernel
theorem dX5_quake_51 : decode cX5_quake 51 = .ok (.irem, 1) := by decide +kernel
theorem dX5_quake_52 : decode cX5_quake 52 = .ok (.iastore, 1) := by decide +kernel
theorem dX5_quake_53 : decode cX5_quake 53 = .ok (.iinc 2 1, 3) := by decide +kernel
theorem dX5_quake_56 : decode cX5_quake 56 = .ok (.goto (-35), 3) := by decide +kernel
theorem dX5_quake_59 : decode cX5_quake 59 = .ok (.iconst 0, 1) := by decide +kernel
theorem dX5_quake_60 : decode cX5_quake 60 = .ok (.istore_n 2, 1) := by decide +kernel
theorem dX5_quake_61 : decode cX5_quake 61 = .ok (.iconst 0, 1) := by decide +kernel
theorem dX5_quake_62 : decode cX5_quake 62 = .ok (.istore_n 3, 1) := by decide +kernel
theorem dX5_quake_63 : decode cX5_quake 63 = .ok (.iload_n 3, 1) := by decide +kernel
theorem dX5_quake_64 : decode cX5_quake 64 = .ok (.bipush 24, 2) := by decide +kernel
theorem dX5_quake_66 : decode cX5_quake 66 = .ok (.if_icmp .ge 17, 3) := by decide +kernel
theorem dX5_quake_69 : decode cX5_quake 69 = .ok (.iload_n 2, 1) := by decide +kernel
theorem dX5_quake_70 : decode cX5_quake 70 = .ok (.aload_n 0, 1) := by decide +kernel
theorem dX5_quake_71 : decode cX5_quake 71 = .ok (.iload_n 3, 1) := by decide +kernel
theorem dX5_quake_72 : decode cX5_quake 72 = .ok (.invokevirtual 70, 3) := by decide +kernel
theorem dX5_quake_75 : decode cX5_quake 75 = .ok (.iadd, 1) := by decide +kernel
theorem dX5_quake_76 : decode cX5_quake 76 = .ok (.istore_n 2, 1) := by decide +kernel
theorem dX5_quake_77 : decode cX5_quake 77 = .ok (.iinc 3 1, 3) := by decide +kernel
theorem dX5_quake_80 : decode cX5_quake 80 = .ok (.goto (-17), 3) := by decide +kernel
theorem dX5_quake_83 : decode cX5_quake 83 = .ok (.iload_n 2, 1) := by decide +kernel
theorem dX5_quake_84 : decode cX5_quake 84 = .ok (.ireturn, 1) := by decide +kernel
theorem dX5_rateFor_0 : decode cX5_rateFor 0 = .ok (.iload_n 1, 1) := by decide +kernel
theorem dX5_rateFor_1 : decode cX5_rateFor 1 = .ok (.invokestatic 159, 3) := by decide +kernel
theorem dX5_rateFor_4 : decode cX5_rateFor 4 = .ok (.ifCond .ne 10, 3) := by decide +kernel
theorem dX5_rateFor_7 : decode cX5_rateFor 7 = .ok (.aload_n 0, 1) := by decide +kernel
theorem dX5_rateFor_8 : decode cX5_rateFor 8 = .ok (.ldc 43, 2) := by decide +kernel
theorem dX5_rateFor_10 : decode cX5_rateFor 10 = .ok (.invokevirtual 75, 3) := by decide +kernel
theorem dX5_rateFor_13 : decode cX5_rateFor 13 = .ok (.ireturn, 1) := by decide +kernel
theorem dX5_rateFor_14 : decode cX5_rateFor 14 = .ok (.aload_n 0, 1) := by decide +kernel
theorem dX5_rateFor_15 : decode cX5_rateFor 15 = .ok (.getfield 7, 3) := by decide +kernel
theorem dX5_rateFor_18 : decode cX5_rateFor 18 = .ok (.iconst 3, 1) := by decide +kernel
theorem dX5_rateFor_19 : decode cX5_rateFor 19 = .ok (.iaload, 1) := by decide +kernel
theorem dX5_rateFor_20 : decode cX5_rateFor 20 = .ok (.istore_n 2, 1) := by decide +kernel
theorem dX5_rateFor_21 : decode cX5_rateFor 21 = .ok (.iconst (-1), 1) := by decide +kernel
theorem dX5_rateFor_22 : decode cX5_rateFor 22 = .ok (.istore_n 3, 1) := by decide +kernel
theorem dX5_rateFor_23 : decode cX5_rateFor 23 = .ok (.iconst 0, 1) := by decide +kernel
theorem dX5_rateFor_24 : decode cX5_rateFor 24 = .ok (.istore 4, 2) := by decide +kernel
theorem dX5_rateFor_26 : decode cX5_rateFor 26 = .ok (.iload 4, 2) := by decide +kernel
theorem dX5_rateFor_28 : decode cX5_rateFor 28 = .ok (.bipush 100, 2) := by decide +kernel
theorem dX5_rateFor_30 : decode cX5_rateFor 30 = .ok (.if_icmp .ge 36, 3) := by decide +kernel
theorem dX5_rateFor_33 : decode cX5_rateFor 33 = .ok (.iload_n 3, 1) := by decide +kernel
theorem dX5_rateFor_34 : decode cX5_rateFor 34 = .ok (.ifCond .ge 32, 3) := by decide +kernel
theorem dX5_rateFor_37 : decode cX5_rateFor 37 = .ok (.aload_n 0, 1) := by decide +kernel
theorem dX5_rateFor_38 : decode cX5_rateFor 38 = .ok (.getfield 7, 3) := by decide +kernel
theorem dX5_rateFor_41 : decode cX5_rateFor 41 = .ok (.iconst 3, 1) := by decide +kernel
theorem dX5_rateFor_42 : decode cX5_rateFor 42 = .ok (.iload 4, 2) := by decide +kernel
theorem dX5_rateFor_44 : decode cX5_rateFor 44 = .ok (.iastore, 1) := by decide +kernel
theorem dX5_rateFor_45 : decode cX5_rateFor 45 = .ok (.aload_n 0, 1) := by decide +kernel
theorem dX5_rateFor_46 : decode cX5_rateFor 46 = .ok (.invokevirtual 149, 3) := by decide +kernel
theorem dX5_rateFor_49 : decode cX5_rateFor 49 = .ok (.iload_n 1, 1) := by decide +kernel
theorem dX5_rateFor_50 : decode cX5_rateFor 50 = .ok (.if_icmp .lt 8, 3) := by decide +kernel
theorem dX5_rateFor_53 : decode cX5_rateFor 53 = .ok (.iload 4, 2) := by decide +kernel
theorem dX5_rateFor_55 : decode cX5_rateFor 55 = .ok (.goto 4, 3) := by decide +kernel
theorem dX5_rateFor_58 : decode cX5_rateFor 58 = .ok (.iconst (-1), 1) := by decide +kernel
theorem dX5_rateFor_59 : decode cX5_rateFor 59 = .ok (.istore_n 3, 1) := by decide +kernel
theorem dX5_rateFor_60 : decode cX5_rateFor 60 = .ok (.iinc 4 1, 3) := by decide +kernel
theorem dX5_rateFor_63 : decode cX5_rateFor 63 = .ok (.goto (-37), 3) := by decide +kernel
theorem dX5_rateFor_66 : decode cX5_rateFor 66 = .ok (.aload_n 0, 1) := by decide +kernel
theorem dX5_rateFor_67 : decode cX5_rateFor 67 = .ok (.getfield 7, 3) := by decide +kernel
theorem dX5_rateFor_70 : decode cX5_rateFor 70 = .ok (.iconst 3, 1) := by decide +kernel
theorem dX5_rateFor_71 : decode cX5_rateFor 71 = .ok (.iload_n 2, 1) := by decide +kernel
theorem dX5_rateFor_72 : decode cX5_rateFor 72 = .ok (.iastore, 1) := by decide +kernel
theorem dX5_rateFor_73 : decode cX5_rateFor 73 = .ok (.iload_n 3, 1) := by decide +kernel
theorem dX5_rateFor_74 : decode cX5_rateFor 74 = .ok (.ifCond .ge 12, 3) := by decide +kernel
theorem dX5_rateFor_77 : decode cX5_rateFor 77 = .ok (.aload_n 0, 1) := by decide +kernel
theorem dX5_rateFor_78 : decode cX5_rateFor 78 = .ok (.ldc 145, 2) := by decide +kernel
theorem dX5_rateFor_80 : decode cX5_rateFor 80 = .ok (.invokevirtual 75, 3) := by decide +kernel
theorem dX5_rateFor_83 : decode cX5_rateFor 83 = .ok (.goto 4, 3) := by decide +kernel
theorem dX5_rateFor_86 : decode cX5_rateFor 86 = .ok (.iload_n 3, 1) := by decide +kernel
theorem dX5_rateFor_87 : decode cX5_rateFor 87 = .ok (.ireturn, 1) := by decide +kernel
theorem dX5_restless_0 : decode cX5_restless 0 = .ok (.iconst 0, 1) := by decide +kernel
theorem dX5_restless_1 : decode cX5_restless 1 = .ok (.istore_n 1, 1) := by decide +kernel
theorem dX5_restless_2 : decode cX5_restless 2 = .ok (.iconst 0, 1) := by decide +kernel
theorem dX5_restless_3 : decode cX5_restless 3 = .ok (.istore_n 2, 1) := by decide +kernel
theorem dX5_restless_4 : decode cX5_restless 4 = .ok (.iload_n 2, 1) := by decide +kernel
theorem dX5_restless_5 : decode cX5_restless 5 = .ok (.aload_n 0, 1) := by decide +kernel
theorem dX5_restless_6 : decode cX5_restless 6 = .ok (.getfield 7, 3) := by decide +kernel
theorem dX5_restless_9 : decode cX5_restless 9 = .ok (.iconst 1, 1) := by decide +kernel
theorem dX5_restless_10 : decode cX5_restless 10 = .ok (.iaload, 1) := by decide +kernel
theorem dX5_restless_11 : decode cX5_restless 11 = .ok (.if_icmp .ge 84, 3) := by decide +kernel
theorem dX5_restless_14 : decode cX5_restless 14 = .ok (.aload_n 0, 1) := by decide +kernel
theorem dX5_restless_15 : decode cX5_restless 15 = .ok (.getfield 7, 3) := by decide +kernel
theorem dX5_restless_18 : decode cX5_restless 18 = .ok (.bipush 77, 2) := by decide +kernel
theorem dX5_restless_20 : decode cX5_restless 20 = .ok (.iconst 3, 1) := by decide +kernel
theorem dX5_restless_21 : decode cX5_restless 21 = .ok (.iload_n 2, 1) := by decide +kernel
theorem dX5_restless_22 : decode cX5_restless 22 = .ok (.imul, 1) := by decide +kernel
theorem dX5_restless_23 : decode cX5_restless 23 = .ok (.iadd, 1) := by decide +kernel
theorem dX5_restless_24 : decode cX5_restless 24 = .ok (.iconst 1, 1) := by decide +kernel
theorem dX5_restless_25 : decode cX5_restless 25 = .ok (.iadd, 1) := by decide +kernel
theorem dX5_restless_26 : decode cX5_restless 26 = .ok (.iaload, 1) := by decide +kernel
theorem dX5_restless_27 : decode cX5_restless 27 = .ok (.istore_n 3, 1) := by decide +kernel
theorem dX5_restless_28 : decode cX5_restless 28 = .ok (.aload_n 0, 1) := by decide +kernel
theorem dX5_restless_29 : decode cX5_restless 29 = .ok (.iload_n 2, 1) := by decide +kernel
theorem dX5_restless_30 : decode cX5_restless 30 = .ok (.invokevirtual 146, 3) := by decide +kernel
theorem dX5_restless_33 : decode cX5_restless 33 = .ok (.istore 4, 2) := by decide +kernel
theorem dX5_restless_35 : decode cX5_restless 35 = .ok (.aload_n 0, 1) := by decide +kernel
theorem dX5_restless_36 : decode cX5_restless 36 = .ok (.iload_n 2, 1) := by decide +kernel
theorem dX5_restless_37 : decode cX5_restless 37 = .ok (.invokevirtual 153, 3) := by decide +kernel
theorem dX5_restless_40 : decode cX5_restless 40 = .ok (.istore 5, 2) := by decide +kernel
theorem dX5_restless_42 : decode cX5_restless 42 = .ok (.aload_n 0, 1) := by decide +kernel
theorem dX5_restless_43 : decode cX5_restless 43 = .ok (.getfield 7, 3) := by decide +kernel
theorem dX5_restless_46 : decode cX5_restless 46 = .ok (.bipush 77, 2) := by decide +kernel
theorem dX5_restless_48 : decode cX5_restless 48 = .ok (.iconst 3, 1) := by decide +kernel
theorem dX5_restless_49 : decode cX5_restless 49 = .ok (.iload_n 2, 1) := by decide +kernel
theorem dX5_restless_50 : decode cX5_restless 50 = .ok (.imul, 1) := by decide +kernel
theorem dX5_restless_51 : decode cX5_restless 51 = .ok (.iadd, 1) := by decide +kernel
theorem dX5_restless_52 : decode cX5_restless 52 = .ok (.iconst 1, 1) := by decide +kernel
theorem dX5_restless_53 : decode cX5_restless 53 = .ok (.iadd, 1) := by decide +kernel
theorem dX5_restless_54 : decode cX5_restless 54 = .ok (.iload 5, 2) := by decide +kernel
theorem dX5_restless_56 : decode cX5_restless 56 = .ok (.iastore, 1) := by decide +kernel
theorem dX5_restless_57 : decode cX5_restless 57 = .ok (.iload_n 1, 1) := by decide +kernel
theorem dX5_restless_58 : decode cX5_restless 58 = .ok (.aload_n 0, 1) := by decide +kernel
theorem dX5_restless_59 : decode cX5_restless 59 = .ok (.iload_n 2, 1) := by decide +kernel
theorem dX5_restless_60 : decode cX5_restless 60 = .ok (.invokevirtual 146, 3) := by decide +kernel
theorem dX5_restless_63 : decode cX5_restless 63 = .ok (.iload 4, 2) := by decide +kernel
theorem dX5_restless_65 : decode cX5_restless 65 = .ok (.if_icmp .ge 7, 3) := by decide +kernel
theorem dX5_restless_68 : decode cX5_restless 68 = .ok (.iconst 1, 1) := by decide +kernel
theorem dX5_restless_69 : decode cX5_restless 69 = .ok (.goto 4, 3) := by decide +kernel
theorem dX5_restless_72 : decode cX5_restless 72 = .ok (.iconst 0, 1) := by decide +kernel
theorem dX5_restless_73 : decode cX5_restless 73 = .ok (.iadd, 1) := by decide +kernel
theorem dX5_restless_74 : decode cX5_restless 74 = .ok (.istore_n 1, 1) := by decide +kernel
theorem dX5_restless_75 : decode cX5_restless 75 = .ok (.aload_n 0, 1) := by decide +kernel
theorem dX5_restless_76 : decode cX5_restless 76 = .ok (.getfield 7, 3) := by decide +kernel
theorem dX5_restless_79 : decode cX5_restless 79 = .ok (.bipush 77, 2) := by decide +kernel
theorem dX5_restless_81 : decode cX5_restless 81 = .ok (.iconst 3, 1) := by decide +kernel
theorem dX5_restless_82 : decode cX5_restless 82 = .ok (.iload_n 2, 1) := by decide +kernel
theorem dX5_restless_83 : decode cX5_restless 83 = .ok (.imul, 1) := by decide +kernel
theorem dX5_restless_84 : decode cX5_restless 84 = .ok (.iadd, 1) := by decide +kernel
theorem dX5_restless_85 : decode cX5_restless 85 = .ok (.iconst 1, 1) := by decide +kernel
theorem dX5_restless_86 : decode cX5_restless 86 = .ok (.iadd, 1) := by decide +kernel
theorem dX5_restless_87 : decode cX5_restless 87 = .ok (.iload_n 3, 1) := by decide +kernel
theorem dX5_restless_88 : decode cX5_restless 88 = .ok (.iastore, 1) := by decide +kernel
theorem dX5_restless_89 : decode cX5_restless 89 = .ok (.iinc 2 1, 3) := by decide +kernel
theorem dX5_restless_92 : decode cX5_restless 92 = .ok (.goto (-88), 3) := by decide +kernel
theorem dX5_restless_95 : decode cX5_restless 95 = .ok (.iload_n 1, 1) := by decide +kernel
theorem dX5_restless_96 : decode cX5_restless 96 = .ok (.ireturn, 1) := by decide +kernel
theorem dX5_seed_0 : decode cX5_seed 0 = .ok (.aload_n 0, 1) := by decide +kernel
theorem dX5_seed_1 : decode cX5_seed 1 = .ok (.getfield 7, 3) := by decide +kernel
theorem dX5_seed_4 : decode cX5_seed 4 = .ok (.iconst 4, 1) := by decide +kernel
theorem dX5_seed_5 : decode cX5_seed 5 = .ok (.iaload, 1) := by decide +kernel
theorem dX5_seed_6 : decode cX5_seed 6 = .ok (.istore_n 2, 1) := by decide +kernel
theorem dX5_seed_7 : decode cX5_seed 7 = .ok (.aload_n 0, 1) := by decide +kernel
theorem dX5_seed_8 : decode cX5_seed 8 = .ok (.getfield 7, 3) := by decide +kernel
theorem dX5_seed_11 : decode cX5_seed 11 = .ok (.iconst 4, 1) := by decide +kernel
theorem dX5_seed_12 : decode cX5_seed 12 = .ok (.iload_n 1, 1) := by decide +kernel
theorem dX5_seed_13 : decode cX5_seed 13 = .ok (.iastore, 1) := by decide +kernel
theorem dX5_seed_14 : decode cX5_seed 14 = .ok (.iload_n 2, 1) := by decide +kernel
theorem dX5_seed_15 : decode cX5_seed 15 = .ok (.ireturn, 1) := by decide +kernel
theorem dX5_seenBy_0 : decode cX5_seenBy 0 = .ok (.iload_n 1, 1) := by decide +kernel
theorem dX5_seenBy_1 : decode cX5_seenBy 1 = .ok (.invokestatic 58, 3) := by decide +kernel
theorem dX5_seenBy_4 : decode cX5_seenBy 4 = .ok (.ifCond .ne 10, 3) := by decide +kernel
theorem dX5_seenBy_7 : decode cX5_seenBy 7 = .ok (.aload_n 0, 1) := by decide +kernel
theorem dX5_seenBy_8 : decode cX5_seenBy 8 = .ok (.ldc 43, 2) := by decide +kernel
theorem dX5_seenBy_10 : decode cX5_seenBy 10 = .ok (.invokevirtual 75, 3) := by decide +kernel
theorem dX5_seenBy_13 : decode cX5_seenBy 13 = .ok (.ireturn, 1) := by decide +kernel
theorem dX5_seenBy_14 : decode cX5_seenBy 14 = .ok (.iconst 0, 1) := by decide +kernel
theorem dX5_seenBy_15 : decode cX5_seenBy 15 = .ok (.istore_n 2, 1) := by decide +kernel
theorem dX5_seenBy_16 : decode cX5_seenBy 16 = .ok (.iconst 0, 1) := by decide +kernel
theorem dX5_seenBy_17 : decode cX5_seenBy 17 = .ok (.istore_n 3, 1) := by decide +kernel
theorem dX5_seenBy_18 : decode cX5_seenBy 18 = .ok (.iload_n 3, 1) := by decide +kernel
theorem dX5_seenBy_19 : decode cX5_seenBy 19 = .ok (.aload_n 0, 1) := by decide +kernel
theorem dX5_seenBy_20 : decode cX5_seenBy 20 = .ok (.getfield 7, 3) := by decide +kernel
theorem dX5_seenBy_23 : decode cX5_seenBy 23 = .ok (.iconst 1, 1) := by decide +kernel
theorem dX5_seenBy_24 : decode cX5_seenBy 24 = .ok (.iaload, 1) := by decide +kernel
theorem dX5_seenBy_25 : decode cX5_seenBy 25 = .ok (.if_icmp .ge 31, 3) := by decide +kernel
theorem dX5_seenBy_28 : decode cX5_seenBy 28 = .ok (.iload_n 2, 1) := by decide +kernel
theorem dX5_seenBy_29 : decode cX5_seenBy 29 = .ok (.aload_n 0, 1) := by decide +kernel
theorem dX5_seenBy_30 : decode cX5_seenBy 30 = .ok (.iload_n 3, 1) := by decide +kernel
theorem dX5_seenBy_31 : decode cX5_seenBy 31 = .ok (.invokevirtual 141, 3) := by decide +kernel
theorem dX5_seenBy_34 : decode cX5_seenBy 34 = .ok (.iload_n 1, 1) := by decide +kernel
theorem dX5_seenBy_35 : decode cX5_seenBy 35 = .ok (.invokestatic 127, 3) := by decide +kernel
theorem dX5_seenBy_38 : decode cX5_seenBy 38 = .ok (.ifCond .eq 9, 3) := by decide +kernel
theorem dX5_seenBy_41 : decode cX5_seenBy 41 = .ok (.iconst 1, 1) := by decide +kernel
theorem dX5_seenBy_42 : decode cX5_seenBy 42 = .ok (.iload_n 3, 1) := by decide +kernel
theorem dX5_seenBy_43 : decode cX5_seenBy 43 = .ok (.ishl, 1) := by decide +kernel
theorem dX5_seenBy_44 : decode cX5_seenBy 44 = .ok (.goto 4, 3) := by decide +kernel
theorem dX5_seenBy_47 : decode cX5_seenBy 47 = .ok (.iconst 0, 1) := by decide +kernel
theorem dX5_seenBy_48 : decode cX5_seenBy 48 = .ok (.ior, 1) := by decide +kernel
theorem dX5_seenBy_49 : decode cX5_seenBy 49 = .ok (.istore_n 2, 1) := by decide +kernel
theorem dX5_seenBy_50 : decode cX5_seenBy 50 = .ok (.iinc 3 1, 3) := by decide +kernel
theorem dX5_seenBy_53 : decode cX5_seenBy 53 = .ok (.goto (-35), 3) := by decide +kernel
theorem dX5_seenBy_56 : decode cX5_seenBy 56 = .ok (.iload_n 2, 1) := by decide +kernel
theorem dX5_seenBy_57 : decode cX5_seenBy 57 = .ok (.ireturn, 1) := by decide +kernel
theorem dX5_sees_0 : decode cX5_sees 0 = .ok (.aload_n 0, 1) := by decide +kernel
theorem dX5_sees_1 : decode cX5_sees 1 = .ok (.iload_n 1, 1) := by decide +kernel
theorem dX5_sees_2 : decode cX5_sees 2 = .ok (.invokevirtual 104, 3) := by decide +kernel
theorem dX5_sees_5 : decode cX5_sees 5 = .ok (.ifCond .eq 10, 3) := by decide +kernel
theorem dX5_sees_8 : decode cX5_sees 8 = .ok (.iload_n 2, 1) := by decide +kernel
theorem dX5_sees_9 : decode cX5_sees 9 = .ok (.invokestatic 58, 3) := by decide +kernel
theorem dX5_sees_12 : decode cX5_sees 12 = .ok (.ifCond .ne 10, 3) := by decide +kernel
theorem dX5_sees_15 : decode cX5_sees 15 = .ok (.aload_n 0, 1) := by decide +kernel
theorem dX5_sees_16 : decode cX5_sees 16 = .ok (.ldc 43, 2) := by decide +kernel
theorem dX5_sees_18 : decode cX5_sees 18 = .ok (.invokevirtual 75, 3) := by decide +kernel
theorem dX5_sees_21 : decode cX5_sees 21 = .ok (.ireturn, 1) := by decide +kernel
theorem dX5_sees_22 : decode cX5_sees 22 = .ok (.aload_n 0, 1) := by decide +kernel
theorem dX5_sees_23 : decode cX5_sees 23 = .ok (.iload_n 1, 1) := by decide +kernel
theorem dX5_sees_24 : decode cX5_sees 24 = .ok (.invokevirtual 141, 3) := by decide +kernel
theorem dX5_sees_27 : decode cX5_sees 27 = .ok (.iload_n 2, 1) := by decide +kernel
theorem dX5_sees_28 : decode cX5_sees 28 = .ok (.invokestatic 127, 3) := by decide +kernel
theorem dX5_sees_31 : decode cX5_sees 31 = .ok (.ifCond .eq 7, 3) := by decide +kernel
theorem dX5_sees_34 : decode cX5_sees 34 = .ok (.iconst 1, 1) := by decide +kernel
theorem dX5_sees_35 : decode cX5_sees 35 = .ok (.goto 4, 3) := by decide +kernel
theorem dX5_sees_38 : decode cX5_sees 38 = .ok (.iconst 0, 1) := by decide +kernel
theorem dX5_sees_39 : decode cX5_sees 39 = .ok (.ireturn, 1) := by decide +kernel
theorem dX5_set_0 : decode cX5_set 0 = .ok (.iload_n 1, 1) := by decide +kernel
theorem dX5_set_1 : decode cX5_set 1 = .ok (.invokestatic 58, 3) := by decide +kernel
theorem dX5_set_4 : decode cX5_set 4 = .ok (.ifCond .eq 10, 3) := by decide +kernel
theorem dX5_set_7 : decode cX5_set 7 = .ok (.iload_n 2, 1) := by decide +kernel
theorem dX5_set_8 : decode cX5_set 8 = .ok (.invokestatic 78, 3) := by decide +kernel
theorem dX5_set_11 : decode cX5_set 11 = .ok (.ifCond .ne 10, 3) := by decide +kernel
theorem dX5_set_14 : decode cX5_set 14 = .ok (.aload_n 0, 1) := by decide +kernel
theorem dX5_set_15 : decode cX5_set 15 = .ok (.ldc 43, 2) := by decide +kernel
theorem dX5_set_17 : decode cX5_set 17 = .ok (.invokevirtual 75, 3) := by decide +kernel
theorem dX5_set_20 : decode cX5_set 20 = .ok (.ireturn, 1) := by decide +kernel
theorem dX5_set_21 : decode cX5_set 21 = .ok (.aload_n 0, 1) := by decide +kernel
theorem dX5_set_22 : decode cX5_set 22 = .ok (.iload_n 1, 1) := by decide +kernel
theorem dX5_set_23 : decode cX5_set 23 = .ok (.invokevirtual 67, 3) := by decide +kernel
theorem dX5_set_26 : decode cX5_set 26 = .ok (.istore_n 3, 1) := by decide +kernel
theorem dX5_set_27 : decode cX5_set 27 = .ok (.aload_n 0, 1) := by decide +kernel
theorem dX5_set_28 : decode cX5_set 28 = .ok (.iload_n 1, 1) := by decide +kernel
theorem dX5_set_29 : decode cX5_set 29 = .ok (.iload_n 2, 1) := by decide +kernel
theorem dX5_set_30 : decode cX5_set 30 = .ok (.invokevirtual 81, 3) := by decide +kernel
theorem dX5_set_33 : decode cX5_set 33 = .ok (.iload_n 3, 1) := by decide +kernel
theorem dX5_set_34 : decode cX5_set 34 = .ok (.ireturn, 1) := by decide +kernel
theorem dX5_sets_0 : decode cX5_sets 0 = .ok (.aload_n 0, 1) := by decide +kernel
theorem dX5_sets_1 : decode cX5_sets 1 = .ok (.getfield 7, 3) := by decide +kernel
theorem dX5_sets_4 : decode cX5_sets 4 = .ok (.iconst 5, 1) := by decide +kernel
theorem dX5_sets_5 : decode cX5_sets 5 = .ok (.iconst 3, 1) := by decide +kernel
theorem dX5_sets_6 : decode cX5_sets 6 = .ok (.iload_n 1, 1) := by decide +kernel
theorem dX5_sets_7 : decode cX5_sets 7 = .ok (.imul, 1) := by decide +kernel
theorem dX5_sets_8 : decode cX5_sets 8 = .ok (.iadd, 1) := by decide +kernel
theorem dX5_sets_9 : decode cX5_sets 9 = .ok (.iload_n 2, 1) := by decide +kernel
theorem dX5_sets_10 : decode cX5_sets 10 = .ok (.iastore, 1) := by decide +kernel
theorem dX5_sets_11 : decode cX5_sets 11 = .ok (.aload_n 0, 1) := by decide +kernel
theorem dX5_sets_12 : decode cX5_sets 12 = .ok (.getfield 7, 3) := by decide +kernel
theorem dX5_sets_15 : decode cX5_sets 15 = .ok (.iconst 5, 1) := by decide +kernel
theorem dX5_sets_16 : decode cX5_sets 16 = .ok (.iconst 3, 1) := by decide +kernel
theorem dX5_sets_17 : decode cX5_sets 17 = .ok (.iload_n 1, 1) := by decide +kernel
theorem dX5_sets_18 : decode cX5_sets 18 = .ok (.imul, 1) := by decide +kernel
theorem dX5_sets_19 : decode cX5_sets 19 = .ok (.iadd, 1) := by decide +kernel
theorem dX5_sets_20 : decode cX5_sets 20 = .ok (.iconst 2, 1) := by decide +kernel
theorem dX5_sets_21 : decode cX5_sets 21 = .ok (.iadd, 1) := by decide +kernel
theorem dX5_sets_22 : decode cX5_sets 22 = .ok (.iconst 0, 1) := by decide +kernel
theorem dX5_sets_23 : decode cX5_sets 23 = .ok (.iastore, 1) := by decide +kernel
theorem dX5_sets_24 : decode cX5_sets 24 = .ok (.return_, 1) := by decide +kernel
theorem dX5_shade_0 : decode cX5_shade 0 = .ok (.aload_n 0, 1) := by decide +kernel
theorem dX5_shade_1 : decode cX5_shade 1 = .ok (.iload_n 1, 1) := by decide +kernel
theorem dX5_shade_2 : decode cX5_shade 2 = .ok (.invokevirtual 104, 3) := by decide +kernel
theorem dX5_shade_5 : decode cX5_shade 5 = .ok (.ifCond .eq 17, 3) := by decide +kernel
theorem dX5_shade_8 : decode cX5_shade 8 = .ok (.iload_n 2, 1) := by decide +kernel
theorem dX5_shade_9 : decode cX5_shade 9 = .ok (.invokestatic 78, 3) := by decide +kernel
theorem dX5_shade_12 : decode cX5_shade 12 = .ok (.ifCond .eq 10, 3) := by decide +kernel
theorem dX5_shade_15 : decode cX5_shade 15 = .ok (.iload_n 3, 1) := by decide +kernel
theorem dX5_shade_16 : decode cX5_shade 16 = .ok (.invokestatic 165, 3) := by decide +kernel
theorem dX5_shade_19 : decode cX5_shade 19 = .ok (.ifCond .ne 10, 3) := by decide +kernel
theorem dX5_shade_22 : decode cX5_shade 22 = .ok (.aload_n 0, 1) := by decide +kernel
theorem dX5_shade_23 : decode cX5_shade 23 = .ok (.ldc 43, 2) := by decide +kernel
theorem dX5_shade_25 : decode cX5_shade 25 = .ok (.invokevirtual 75, 3) := by decide +kernel
theorem dX5_shade_28 : decode cX5_shade 28 = .ok (.ireturn, 1) := by decide +kernel
theorem dX5_shade_29 : decode cX5_shade 29 = .ok (.aload_n 0, 1) := by decide +kernel
theorem dX5_shade_30 : decode cX5_shade 30 = .ok (.iload_n 3, 1) := by decide +kernel
theorem dX5_shade_31 : decode cX5_shade 31 = .ok (.invokevirtual 168, 3) := by decide +kernel
theorem dX5_shade_34 : decode cX5_shade 34 = .ok (.ifCond .eq 10, 3) := by decide +kernel
theorem dX5_shade_37 : decode cX5_shade 37 = .ok (.aload_n 0, 1) := by decide +kernel
theorem dX5_shade_38 : decode cX5_shade 38 = .ok (.ldc 144, 2) := by decide +kernel
theorem dX5_shade_40 : decode cX5_shade 40 = .ok (.invokevirtual 75, 3) := by decide +kernel
theorem dX5_shade_43 : decode cX5_shade 43 = .ok (.ireturn, 1) := by decide +kernel
theorem dX5_shade_44 : decode cX5_shade 44 = .ok (.iconst (-1), 1) := by decide +kernel
theorem dX5_shade_45 : decode cX5_shade 45 = .ok (.istore 4, 2) := by decide +kernel
theorem dX5_shade_47 : decode cX5_shade 47 = .ok (.iconst 0, 1) := by decide +kernel
theorem dX5_shade_48 : decode cX5_shade 48 = .ok (.istore 5, 2) := by decide +kernel
theorem dX5_shade_50 : decode cX5_shade 50 = .ok (.iconst 0, 1) := by decide +kernel
theorem dX5_shade_51 : decode cX5_shade 51 = .ok (.istore 6, 2) := by decide +kernel
theorem dX5_shade_53 : decode cX5_shade 53 = .ok (.iload 6, 2) := by decide +kernel
theorem dX5_shade_55 : decode cX5_shade 55 = .ok (.bipush 24, 2) := by decide +kernel
theorem dX5_shade_57 : decode cX5_shade 57 = .ok (.if_icmp .ge 56, 3) := by decide +kernel
theorem dX5_shade_60 : decode cX5_shade 60 = .ok (.aload_n 0, 1) := by decide +kernel
theorem dX5_shade_61 : decode cX5_shade 61 = .ok (.invokevirtual 171, 3) := by decide +kernel
theorem dX5_shade_64 : decode cX5_shade 64 = .ok (.aload_n 0, 1) := by decide +kernel
theorem dX5_shade_65 : decode cX5_shade 65 = .ok (.iload 6, 2) := by decide +kernel
theorem dX5_shade_67 : decode cX5_shade 67 = .ok (.iload_n 2, 1) := by decide +kernel
theorem dX5_shade_68 : decode cX5_shade 68 = .ok (.invokevirtual 81, 3) := by decide +kernel
theorem dX5_shade_71 : decode cX5_shade 71 = .ok (.aload_n 0, 1) := by decide +kernel
theorem dX5_shade_72 : decode cX5_shade 72 = .ok (.iload_n 3, 1) := by decide +kernel
theorem dX5_shade_73 : decode cX5_shade 73 = .ok (.invokevirtual 174, 3) := by decide +kernel
theorem dX5_shade_76 : decode cX5_shade 76 = .ok (.aload_n 0, 1) := by decide +kernel
theorem dX5_shade_77 : decode cX5_shade 77 = .ok (.iload_n 1, 1) := by decide +kernel
theorem dX5_shade_78 : decode cX5_shade 78 = .ok (.invokevirtual 146, 3) := by decide +kernel
theorem dX5_shade_81 : decode cX5_shade 81 = .ok (.istore 7, 2) := by decide +kernel
theorem dX5_shade_83 : decode cX5_shade 83 = .ok (.aload_n 0, 1) := by decide +kernel
theorem dX5_shade_84 : decode cX5_shade 84 = .ok (.invokevirtual 178, 3) := by decide +kernel
theorem dX5_shade_87 : decode cX5_shade 87 = .ok (.iload 4, 2) := by decide +kernel
theorem dX5_shade_89 : decode cX5_shade 89 = .ok (.ifCond .lt 10, 3) := by decide +kernel
theorem dX5_shade_92 : decode cX5_shade 92 = .ok (.iload 7, 2) := by decide +kernel
theorem dX5_shade_94 : decode cX5_shade 94 = .ok (.iload 5, 2) := by decide +kernel
theorem dX5_shade_96 : decode cX5_shade 96 = .ok (.if_icmp .ge 11, 3) := by decide +kernel
theorem dX5_shade_99 : decode cX5_shade 99 = .ok (.iload 6, 2) := by decide +kernel
theorem dX5_shade_101 : decode cX5_shade 101 = .ok (.istore 4, 2) := by decide +kernel
theorem dX5_shade_103 : decode cX5_shade 103 = .ok (.iload 7, 2) := by decide +kernel
theorem dX5_shade_105 : decode cX5_shade 105 = .ok (.istore 5, 2) := by decide +kernel
theorem dX5_shade_107 : decode cX5_shade 107 = .ok (.iinc 6 1, 3) := by decide +kernel
theorem dX5_shade_110 : decode cX5_shade 110 = .ok (.goto (-57), 3) := by decide +kernel
theorem dX5_shade_113 : decode cX5_shade 113 = .ok (.iload 4, 2) := by decide +kernel
theorem dX5_shade_115 : decode cX5_shade 115 = .ok (.ireturn, 1) := by decide +kernel
theorem dX5_sheet_0 : decode cX5_sheet 0 = .ok (.iload_n 1, 1) := by decide +kernel
theorem dX5_sheet_1 : decode cX5_sheet 1 = .ok (.invokestatic 310, 3) := by decide +kernel
theorem dX5_sheet_4 : decode cX5_sheet 4 = .ok (.ifCond .eq 25, 3) := by decide +kernel
theorem dX5_sheet_7 : decode cX5_sheet 7 = .ok (.iload_n 2, 1) := by decide +kernel
theorem dX5_sheet_8 : decode cX5_sheet 8 = .ok (.ifCond .eq 28, 3) := by decide +kernel
theorem dX5_sheet_11 : decode cX5_sheet 11 = .ok (.iload_n 2, 1) := by decide +kernel
theorem dX5_sheet_12 : decode cX5_sheet 12 = .ok (.bipush 8, 2) := by decide +kernel
theorem dX5_sheet_14 : decode cX5_sheet 14 = .ok (.if_icmp .eq 22, 3) := by decide +kernel
theorem dX5_sheet_17 : decode cX5_sheet 17 = .ok (.iload_n 2, 1) := by decide +kernel
theorem dX5_sheet_18 : decode cX5_sheet 18 = .ok (.bipush 16, 2) := by decide +kernel
theorem dX5_sheet_20 : decode cX5_sheet 20 = .ok (.if_icmp .eq 16, 3) := by decide +kernel
theorem dX5_sheet_23 : decode cX5_sheet 23 = .ok (.iload_n 2, 1) := by decide +kernel
theorem dX5_sheet_24 : decode cX5_sheet 24 = .ok (.bipush 32, 2) := by decide +kernel
theorem dX5_sheet_26 : decode cX5_sheet 26 = .ok (.if_icmp .eq 10, 3) := by decide +kernel
theorem dX5_sheet_29 : decode cX5_sheet 29 = .ok (.aload_n 0, 1) := by decide +kernel
theorem dX5_sheet_30 : decode cX5_sheet 30 = .ok (.ldc 43, 2) := by decide +kernel
theorem dX5_sheet_32 : decode cX5_sheet 32 = .ok (.invokevirtual 75, 3) := by decide +kernel
theorem dX5_sheet_35 : decode cX5_sheet 35 = .ok (.ireturn, 1) := by decide +kernel
theorem dX5_sheet_36 : decode cX5_sheet 36 = .ok (.iload_n 3, 1) := by decide +kernel
theorem dX5_sheet_37 : decode cX5_sheet 37 = .ok (.ifCond .ge 11, 3) := by decide +kernel
theorem dX5_sheet_40 : decode cX5_sheet 40 = .ok (.aload_n 0, 1) := by decide +kernel
theorem dX5_sheet_41 : decode cX5_sheet 41 = .ok (.ldc_w 313, 3) := by decide +kernel
theorem dX5_sheet_44 : decode cX5_sheet 44 = .ok (.invokevirtual 75, 3) := by decide +kernel
theorem dX5_sheet_47 : decode cX5_sheet 47 = .ok (.ireturn, 1) := by decide +kernel
theorem dX5_sheet_48 : decode cX5_sheet 48 = .ok (.iload_n 3, 1) := by decide +kernel
theorem dX5_sheet_49 : decode cX5_sheet 49 = .ok (.bipush 40, 2) := by decide +kernel
theorem dX5_sheet_51 : decode cX5_sheet 51 = .ok (.if_icmp .le 10, 3) := by decide +kernel
theorem dX5_sheet_54 : decode cX5_sheet 54 = .ok (.aload_n 0, 1) := by decide +kernel
theorem dX5_sheet_55 : decode cX5_sheet 55 = .ok (.ldc 43, 2) := by decide +kernel
theorem dX5_sheet_57 : decode cX5_sheet 57 = .ok (.invokevirtual 75, 3) := by decide +kernel
theorem dX5_sheet_60 : decode cX5_sheet 60 = .ok (.ireturn, 1) := by decide +kernel
theorem dX5_sheet_61 : decode cX5_sheet 61 = .ok (.aload_n 0, 1) := by decide +kernel
theorem dX5_sheet_62 : decode cX5_sheet 62 = .ok (.getfield 31, 3) := by decide +kernel
theorem dX5_sheet_65 : decode cX5_sheet 65 = .ok (.iload_n 1, 1) := by decide +kernel
theorem dX5_sheet_66 : decode cX5_sheet 66 = .ok (.iload_n 2, 1) := by decide +kernel
theorem dX5_sheet_67 : decode cX5_sheet 67 = .ok (.iastore, 1) := by decide +kernel
theorem dX5_sheet_68 : decode cX5_sheet 68 = .ok (.aload_n 0, 1) := by decide +kernel
theorem dX5_sheet_69 : decode cX5_sheet 69 = .ok (.getfield 34, 3) := by decide +kernel
theorem dX5_sheet_72 : decode cX5_sheet 72 = .ok (.iload_n 1, 1) := by decide +kernel
theorem dX5_sheet_73 : decode cX5_sheet 73 = .ok (.iload_n 2, 1) := by decide +kernel
theorem dX5_sheet_74 : decode cX5_sheet 74 = .ok (.ifCond .ne 7, 3) := by decide +kernel
theorem dX5_sheet_77 : decode cX5_sheet 77 = .ok (.iconst 0, 1) := by decide +kernel
theorem dX5_sheet_78 : decode cX5_sheet 78 = .ok (.goto 4, 3) := by decide +kernel
theorem dX5_sheet_81 : decode cX5_sheet 81 = .ok (.iload_n 3, 1) := by decide +kernel
theorem dX5_sheet_82 : decode cX5_sheet 82 = .ok (.iastore, 1) := by decide +kernel
theorem dX5_sheet_83 : decode cX5_sheet 83 = .ok (.iconst 0, 1) := by decide +kernel
theorem dX5_sheet_84 : decode cX5_sheet 84 = .ok (.istore 4, 2) := by decide +kernel
theorem dX5_sheet_86 : decode cX5_sheet 86 = .ok (.iload 4, 2) := by decide +kernel
theorem dX5_sheet_88 : decode cX5_sheet 88 = .ok (.bipush 40, 2) := by decide +kernel
theorem dX5_sheet_90 : decode cX5_sheet 90 = .ok (.if_icmp .ge 22, 3) := by decide +kernel
theorem dX5_sheet_93 : decode cX5_sheet 93 = .ok (.aload_n 0, 1) := by decide +kernel
theorem dX5_sheet_94 : decode cX5_sheet 94 = .ok (.getfield 37, 3) := by decide +kernel
theorem dX5_sheet_97 : decode cX5_sheet 97 = .ok (.bipush 40, 2) := by decide +kernel
theorem dX5_sheet_99 : decode cX5_sheet 99 = .ok (.iload_n 1, 1) := by decide +kernel
theorem dX5_sheet_100 : decode cX5_sheet 100 = .ok (.imul, 1) := by decide +kernel
theorem dX5_sheet_101 : decode cX5_sheet 101 = .ok (.iload 4, 2) := by decide +kernel
theorem dX5_sheet_103 : decode cX5_sheet 103 = .ok (.iadd, 1) := by decide +kernel
theorem dX5_sheet_104 : decode cX5_sheet 104 = .ok (.iconst 0, 1) := by decide +kernel
theorem dX5_sheet_105 : decode cX5_sheet 105 = .ok (.iastore, 1) := by decide +kernel
theorem dX5_sheet_106 : decode cX5_sheet 106 = .ok (.iinc 4 1, 3) := by decide +kernel
theorem dX5_sheet_109 : decode cX5_sheet 109 = .ok (.goto (-23), 3) := by decide +kernel
theorem dX5_sheet_112 : decode cX5_sheet 112 = .ok (.aload_n 0, 1) := by decide +kernel
theorem dX5_sheet_113 : decode cX5_sheet 113 = .ok (.getfield 34, 3) := by decide +kernel
theorem dX5_sheet_116 : decode cX5_sheet 116 = .ok (.iload_n 1, 1) := by decide +kernel
theorem dX5_sheet_117 : decode cX5_sheet 117 = .ok (.iaload, 1) := by decide +kernel
theorem dX5_sheet_118 : decode cX5_sheet 118 = .ok (.ireturn, 1) := by decide +kernel
theorem dX5_sight_0 : decode cX5_sight 0 = .ok (.aload_n 0, 1) := by decide +kernel
theorem dX5_sight_1 : decode cX5_sight 1 = .ok (.iload_n 1, 1) := by decide +kernel
theorem dX5_sight_2 : decode cX5_sight 2 = .ok (.invokevirtual 104, 3) := by decide +kernel
theorem dX5_sight_5 : decode cX5_sight 5 = .ok (.ifCond .eq 11, 3) := by decide +kernel
theorem dX5_sight_8 : decode cX5_sight 8 = .ok (.aload_n 0, 1) := by decide +kernel
theorem dX5_sight_9 : decode cX5_sight 9 = .ok (.iload_n 1, 1) := by decide +kernel
theorem dX5_sight_10 : decode cX5_sight 10 = .ok (.invokevirtual 141, 3) := by decide +kernel
theorem dX5_sight_13 : decode cX5_sight 13 = .ok (.goto 9, 3) := by decide +kernel
theorem dX5_sight_16 : decode cX5_sight 16 = .ok (.aload_n 0, 1) := by decide +kernel
theorem dX5_sight_17 : decode cX5_sight 17 = .ok (.ldc 43, 2) := by decide +kernel
theorem dX5_sight_19 : decode cX5_sight 19 = .ok (.invokevirtual 75, 3) := by decide +kernel
theorem dX5_sight_22 : decode cX5_sight 22 = .ok (.ireturn, 1) := by decide +kernel
theorem dX5_sightOf_0 : decode cX5_sightOf 0 = .ok (.iconst 1, 1) := by decide +kernel
theorem dX5_sightOf_1 : decode cX5_sightOf 1 = .ok (.aload_n 0, 1) := by decide +kernel
theorem dX5_sightOf_2 : decode cX5_sightOf 2 = .ok (.iload_n 1, 1) := by decide +kernel
theorem dX5_sightOf_3 : decode cX5_sightOf 3 = .ok (.invokevirtual 93, 3) := by decide +kernel
theorem dX5_sightOf_6 : decode cX5_sightOf 6 = .ok (.ishl, 1) := by decide +kernel
theorem dX5_sightOf_7 : decode cX5_sightOf 7 = .ok (.istore_n 2, 1) := by decide +kernel
theorem dX5_sightOf_8 : decode cX5_sightOf 8 = .ok (.iconst 0, 1) := by decide +kernel
theorem dX5_sightOf_9 : decode cX5_sightOf 9 = .ok (.istore_n 3, 1) := by decide +kernel
theorem dX5_sightOf_10 : decode cX5_sightOf 10 = .ok (.iload_n 3, 1) := by decide +kernel
theorem dX5_sightOf_11 : decode cX5_sightOf 11 = .ok (.bipush 24, 2) := by decide +kernel
theorem dX5_sightOf_13 : decode cX5_sightOf 13 = .ok (.if_icmp .ge 37, 3) := by decide +kernel
theorem dX5_sightOf_16 : decode cX5_sightOf 16 = .ok (.iload_n 2, 1) := by decide +kernel
theorem dX5_sightOf_17 : decode cX5_sightOf 17 = .ok (.aload_n 0, 1) := by decide +kernel
theorem dX5_sightOf_18 : decode cX5_sightOf 18 = .ok (.iload_n 1, 1) := by decide +kernel
theorem dX5_sightOf_19 : decode cX5_sightOf 19 = .ok (.iload_n 3, 1) := by decide +kernel
theorem dX5_sightOf_20 : decode cX5_sightOf 20 = .ok (.invokevirtual 134, 3) := by decide +kernel
theorem dX5_sightOf_23 : decode cX5_sightOf 23 = .ok (.ifCond .eq 18, 3) := by decide +kernel
theorem dX5_sightOf_26 : decode cX5_sightOf 26 = .ok (.aload_n 0, 1) := by decide +kernel
theorem dX5_sightOf_27 : decode cX5_sightOf 27 = .ok (.iload_n 1, 1) := by decide +kernel
theorem dX5_sightOf_28 : decode cX5_sightOf 28 = .ok (.iload_n 3, 1) := by decide +kernel
theorem dX5_sightOf_29 : decode cX5_sightOf 29 = .ok (.invokevirtual 137, 3) := by decide +kernel
theorem dX5_sightOf_32 : decode cX5_sightOf 32 = .ok (.ifCond .ge 9, 3) := by decide +kernel
theorem dX5_sightOf_35 : decode cX5_sightOf 35 = .ok (.iconst 1, 1) := by decide +kernel
theorem dX5_sightOf_36 : decode cX5_sightOf 36 = .ok (.iload_n 3, 1) := by decide +kernel
theorem dX5_sightOf_37 : decode cX5_sightOf 37 = .ok (.ishl, 1) := by decide +kernel
theorem dX5_sightOf_38 : decode cX5_sightOf 38 = .ok (.goto 4, 3) := by decide +kernel
theorem dX5_sightOf_41 : decode cX5_sightOf 41 = .ok (.iconst 0, 1) := by decide +kernel
theorem dX5_sightOf_42 : decode cX5_sightOf 42 = .ok (.ior, 1) := by decide +kernel
theorem dX5_sightOf_43 : decode cX5_sightOf 43 = .ok (.istore_n 2, 1) := by decide +kernel
theorem dX5_sightOf_44 : decode cX5_sightOf 44 = .ok (.iinc 3 1, 3) := by decide +kernel
theorem dX5_sightOf_47 : decode cX5_sightOf 47 = .ok (.goto (-37), 3) := by decide +kernel
theorem dX5_sightOf_50 : decode cX5_sightOf 50 = .ok (.iload_n 2, 1) := by decide +kernel
theorem dX5_sightOf_51 : decode cX5_sightOf 51 = .ok (.ireturn, 1) := by decide +kernel
theorem dX5_size_0 : decode cX5_size 0 = .ok (.iload_n 0, 1) := by decide +kernel
theorem dX5_size_1 : decode cX5_size 1 = .ok (.ifCond .ge 9, 3) := by decide +kernel
theorem dX5_size_4 : decode cX5_size 4 = .ok (.iconst 0, 1) := by decide +kernel
theorem dX5_size_5 : decode cX5_size 5 = .ok (.iload_n 0, 1) := by decide +kernel
theorem dX5_size_6 : decode cX5_size 6 = .ok (.isub, 1) := by decide +kernel
theorem dX5_size_7 : decode cX5_size 7 = .ok (.goto 4, 3) := by decide +kernel
theorem dX5_size_10 : decode cX5_size 10 = .ok (.iload_n 0, 1) := by decide +kernel
theorem dX5_size_11 : decode cX5_size 11 = .ok (.ireturn, 1) := by decide +kernel
theorem dX5_status_0 : decode cX5_status 0 = .ok (.iload_n 1, 1) := by decide +kernel
theorem dX5_status_1 : decode cX5_status 1 = .ok (.i2l, 1) := by decide +kernel
theorem dX5_status_2 : decode cX5_status 2 = .ok (.ldc2_w 306, 3) := by decide +kernel
theorem dX5_status_5 : decode cX5_status 5 = .ok (.ldc2_w 50, 3) := by decide +kernel
theorem dX5_status_8 : decode cX5_status 8 = .ok (.invokestatic 46, 3) := by decide +kernel
theorem dX5_status_11 : decode cX5_status 11 = .ok (.ifCond .ne 10, 3) := by decide +kernel
theorem dX5_status_14 : decode cX5_status 14 = .ok (.aload_n 0, 1) := by decide +kernel
theorem dX5_status_15 : decode cX5_status 15 = .ok (.ldc 43, 2) := by decide +kernel
theorem dX5_status_17 : decode cX5_status 17 = .ok (.invokevirtual 75, 3) := by decide +kernel
theorem dX5_status_20 : decode cX5_status 20 = .ok (.ireturn, 1) := by decide +kernel
theorem dX5_status_21 : decode cX5_status 21 = .ok (.iconst 0, 1) := by decide +kernel
theorem dX5_status_22 : decode cX5_status 22 = .ok (.istore_n 2, 1) := by decide +kernel
theorem dX5_status_23 : decode cX5_status 23 = .ok (.iconst 0, 1) := by decide +kernel
theorem dX5_status_24 : decode cX5_status 24 = .ok (.istore_n 3, 1) := by decide +kernel
theorem dX5_status_25 : decode cX5_status 25 = .ok (.iload_n 3, 1) := by decide +kernel
theorem dX5_status_26 : decode cX5_status 26 = .ok (.bipush 7, 2) := by decide +kernel
theorem dX5_status_28 : decode cX5_status 28 = .ok (.if_icmp .ge 31, 3) := by decide +kernel
theorem dX5_status_31 : decode cX5_status 31 = .ok (.iload_n 2, 1) := by decide +kernel
theorem dX5_status_32 : decode cX5_status 32 = .ok (.iload_n 1, 1) := by decide +kernel
theorem dX5_status_33 : decode cX5_status 33 = .ok (.ifCond .lt 8, 3) := by decide +kernel
theorem dX5_status_36 : decode cX5_status 36 = .ok (.iload_n 3, 1) := by decide +kernel
theorem dX5_status_37 : decode cX5_status 37 = .ok (.iload_n 1, 1) := by decide +kernel
theorem dX5_status_38 : decode cX5_status 38 = .ok (.if_icmp .ne 12, 3) := by decide +kernel
theorem dX5_status_41 : decode cX5_status 41 = .ok (.aload_n 0, 1) := by decide +kernel
theorem dX5_status_42 : decode cX5_status 42 = .ok (.getfield 19, 3) := by decide +kernel
theorem dX5_status_45 : decode cX5_status 45 = .ok (.iload_n 3, 1) := by decide +kernel
theorem dX5_status_46 : decode cX5_status 46 = .ok (.iaload, 1) := by decide +kernel
theorem dX5_status_47 : decode cX5_status 47 = .ok (.goto 4, 3) := by decide +kernel
theorem dX5_status_50 : decode cX5_status 50 = .ok (.iconst 0, 1) := by decide +kernel
theorem dX5_status_51 : decode cX5_status 51 = .ok (.iadd, 1) := by decide +kernel
theorem dX5_status_52 : decode cX5_status 52 = .ok (.istore_n 2, 1) := by decide +kernel
theorem dX5_status_53 : decode cX5_status 53 = .ok (.iinc 3 1, 3) := by decide +kernel
theorem dX5_status_56 : decode cX5_status 56 = .ok (.goto (-31), 3) := by decide +kernel
theorem dX5_status_59 : decode cX5_status 59 = .ok (.iload_n 2, 1) := by decide +kernel
theorem dX5_status_60 : decode cX5_status 60 = .ok (.ireturn, 1) := by decide +kernel
theorem dX5_tax_0 : decode cX5_tax 0 = .ok (.aload_n 0, 1) := by decide +kernel
theorem dX5_tax_1 : decode cX5_tax 1 = .ok (.iload_n 1, 1) := by decide +kernel
theorem dX5_tax_2 : decode cX5_tax 2 = .ok (.invokevirtual 104, 3) := by decide +kernel
theorem dX5_tax_5 : decode cX5_tax 5 = .ok (.ifCond .eq 11, 3) := by decide +kernel
theorem dX5_tax_8 : decode cX5_tax 8 = .ok (.aload_n 0, 1) := by decide +kernel
theorem dX5_tax_9 : decode cX5_tax 9 = .ok (.iload_n 1, 1) := by decide +kernel
theorem dX5_tax_10 : decode cX5_tax 10 = .ok (.invokevirtual 146, 3) := by decide +kernel
theorem dX5_tax_13 : decode cX5_tax 13 = .ok (.goto 9, 3) := by decide +kernel
theorem dX5_tax_16 : decode cX5_tax 16 = .ok (.aload_n 0, 1) := by decide +kernel
theorem dX5_tax_17 : decode cX5_tax 17 = .ok (.ldc 43, 2) := by decide +kernel
theorem dX5_tax_19 : decode cX5_tax 19 = .ok (.invokevirtual 75, 3) := by decide +kernel
theorem dX5_tax_22 : decode cX5_tax 22 = .ok (.ireturn, 1) := by decide +kernel
theorem dX5_taxOf_0 : decode cX5_taxOf 0 = .ok (.aload_n 0, 1) := by decide +kernel
theorem dX5_taxOf_1 : decode cX5_taxOf 1 = .ok (.iload_n 1, 1) := by decide +kernel
theorem dX5_taxOf_2 : decode cX5_taxOf 2 = .ok (.invokevirtual 141, 3) := by decide +kernel
theorem dX5_taxOf_5 : decode cX5_taxOf 5 = .ok (.iconst 1, 1) := by decide +kernel
theorem dX5_taxOf_6 : decode cX5_taxOf 6 = .ok (.aload_n 0, 1) := by decide +kernel
theorem dX5_taxOf_7 : decode cX5_taxOf 7 = .ok (.iload_n 1, 1) := by decide +kernel
theorem dX5_taxOf_8 : decode cX5_taxOf 8 = .ok (.invokevirtual 93, 3) := by decide +kernel
theorem dX5_taxOf_11 : decode cX5_taxOf 11 = .ok (.ishl, 1) := by decide +kernel
theorem dX5_taxOf_12 : decode cX5_taxOf 12 = .ok (.iconst (-1), 1) := by decide +kernel
theorem dX5_taxOf_13 : decode cX5_taxOf 13 = .ok (.ixor, 1) := by decide +kernel
theorem dX5_taxOf_14 : decode cX5_taxOf 14 = .ok (.iand, 1) := by decide +kernel
theorem dX5_taxOf_15 : decode cX5_taxOf 15 = .ok (.istore_n 2, 1) := by decide +kernel
theorem dX5_taxOf_16 : decode cX5_taxOf 16 = .ok (.iconst 0, 1) := by decide +kernel
theorem dX5_taxOf_17 : decode cX5_taxOf 17 = .ok (.istore_n 3, 1) := by decide +kernel
theorem dX5_taxOf_18 : decode cX5_taxOf 18 = .ok (.iconst 0, 1) := by decide +kernel
theorem dX5_taxOf_19 : decode cX5_taxOf 19 = .ok (.istore 4, 2) := by decide +kernel
theorem dX5_taxOf_21 : decode cX5_taxOf 21 = .ok (.iload 4, 2) := by decide +kernel
theorem dX5_taxOf_23 : decode cX5_taxOf 23 = .ok (.bipush 24, 2) := by decide +kernel
theorem dX5_taxOf_25 : decode cX5_taxOf 25 = .ok (.if_icmp .ge 31, 3) := by decide +kernel
theorem dX5_taxOf_28 : decode cX5_taxOf 28 = .ok (.iload_n 3, 1) := by decide +kernel
theorem dX5_taxOf_29 : decode cX5_taxOf 29 = .ok (.iload_n 2, 1) := by decide +kernel
theorem dX5_taxOf_30 : decode cX5_taxOf 30 = .ok (.iload 4, 2) := by decide +kernel
theorem dX5_taxOf_32 : decode cX5_taxOf 32 = .ok (.invokestatic 127, 3) := by decide +kernel
theorem dX5_taxOf_35 : decode cX5_taxOf 35 = .ok (.ifCond .eq 12, 3) := by decide +kernel
theorem dX5_taxOf_38 : decode cX5_taxOf 38 = .ok (.aload_n 0, 1) := by decide +kernel
theorem dX5_taxOf_39 : decode cX5_taxOf 39 = .ok (.iload 4, 2) := by decide +kernel
theorem dX5_taxOf_41 : decode cX5_taxOf 41 = .ok (.invokevirtual 90, 3) := by decide +kernel
theorem dX5_taxOf_44 : decode cX5_taxOf 44 = .ok (.goto 4, 3) := by decide +kernel
theorem dX5_taxOf_47 : decode cX5_taxOf 47 = .ok (.iconst 0, 1) := by decide +kernel
theorem dX5_taxOf_48 : decode cX5_taxOf 48 = .ok (.iadd, 1) := by decide +kernel
theorem dX5_taxOf_49 : decode cX5_taxOf 49 = .ok (.istore_n 3, 1) := by decide +kernel
theorem dX5_taxOf_50 : decode cX5_taxOf 50 = .ok (.iinc 4 1, 3) := by decide +kernel
theorem dX5_taxOf_53 : decode cX5_taxOf 53 = .ok (.goto (-32), 3) := by decide +kernel
theorem dX5_taxOf_56 : decode cX5_taxOf 56 = .ok (.iload_n 3, 1) := by decide +kernel
theorem dX5_taxOf_57 : decode cX5_taxOf 57 = .ok (.aload_n 0, 1) := by decide +kernel
theorem dX5_taxOf_58 : decode cX5_taxOf 58 = .ok (.getfield 7, 3) := by decide +kernel
theorem dX5_taxOf_61 : decode cX5_taxOf 61 = .ok (.iconst 3, 1) := by decide +kernel
theorem dX5_taxOf_62 : decode cX5_taxOf 62 = .ok (.iaload, 1) := by decide +kernel
theorem dX5_taxOf_63 : decode cX5_taxOf 63 = .ok (.imul, 1) := by decide +kernel
theorem dX5_taxOf_64 : decode cX5_taxOf 64 = .ok (.bipush 10, 2) := by decide +kernel
theorem dX5_taxOf_66 : decode cX5_taxOf 66 = .ok (.idiv, 1) := by decide +kernel
theorem dX5_taxOf_67 : decode cX5_taxOf 67 = .ok (.ireturn, 1) := by decide +kernel
theorem dX5_tear_0 : decode cX5_tear 0 = .ok (.aload_n 0, 1) := by decide +kernel
theorem dX5_tear_1 : decode cX5_tear 1 = .ok (.getfield 320, 3) := by decide +kernel
theorem dX5_tear_4 : decode cX5_tear 4 = .ok (.ifCond .eq 7, 3) := by decide +kernel
theorem dX5_tear_7 : decode cX5_tear 7 = .ok (.iconst 1, 1) := by decide +kernel
theorem dX5_tear_8 : decode cX5_tear 8 = .ok (.goto 4, 3) := by decide +kernel
theorem dX5_tear_11 : decode cX5_tear 11 = .ok (.iconst 0, 1) := by decide +kernel
theorem dX5_tear_12 : decode cX5_tear 12 = .ok (.istore_n 1, 1) := by decide +kernel
theorem dX5_tear_13 : decode cX5_tear 13 = .ok (.aload_n 0, 1) := by decide +kernel
theorem dX5_tear_14 : decode cX5_tear 14 = .ok (.iconst 0, 1) := by decide +kernel
theorem dX5_tear_15 : decode cX5_tear 15 = .ok (.putfield 320, 3) := by decide +kernel
theorem dX5_tear_18 : decode cX5_tear 18 = .ok (.iload_n 1, 1) := by decide +kernel
theorem dX5_tear_19 : decode cX5_tear 19 = .ok (.ireturn, 1) := by decide +kernel
theorem dX5_text_0 : decode cX5_text 0 = .ok (.aload_n 0, 1) := by decide +kernel
theorem dX5_text_1 : decode cX5_text 1 = .ok (.invokevirtual 171, 3) := by decide +kernel
theorem dX5_text_4 : decode cX5_text 4 = .ok (.aload_n 0, 1) := by decide +kernel
theorem dX5_text_5 : decode cX5_text 5 = .ok (.iconst 0, 1) := by decide +kernel
theorem dX5_text_6 : decode cX5_text 6 = .ok (.putfield 215, 3) := by decide +kernel
theorem dX5_text_9 : decode cX5_text 9 = .ok (.aload_n 0, 1) := by decide +kernel
theorem dX5_text_10 : decode cX5_text 10 = .ok (.iconst 0, 1) := by decide +kernel
theorem dX5_text_11 : decode cX5_text 11 = .ok (.putfield 230, 3) := by decide +kernel
theorem dX5_text_14 : decode cX5_text 14 = .ok (.aload_n 0, 1) := by decide +kernel
theorem dX5_text_15 : decode cX5_text 15 = .ok (.invokevirtual 234, 3) := by decide +kernel
theorem dX5_text_18 : decode cX5_text 18 = .ok (.iconst 1, 1) := by decide +kernel
theorem dX5_text_19 : decode cX5_text 19 = .ok (.istore_n 1, 1) := by decide +kernel
theorem dX5_text_20 : decode cX5_text 20 = .ok (.aload_n 0, 1) := by decide +kernel
theorem dX5_text_21 : decode cX5_text 21 = .ok (.invokevirtual 301, 3) := by decide +kernel
theorem dX5_text_24 : decode cX5_text 24 = .ok (.aload_n 0, 1) := by decide +kernel
theorem dX5_text_25 : decode cX5_text 25 = .ok (.getfield 230, 3) := by decide +kernel
theorem dX5_text_28 : decode cX5_text 28 = .ok (.ifCond .ne 46, 3) := by decide +kernel
theorem dX5_text_31 : decode cX5_text 31 = .ok (.aload_n 0, 1) := by decide +kernel
theorem dX5_text_32 : decode cX5_text 32 = .ok (.getfield 218, 3) := by decide +kernel
theorem dX5_text_35 : decode cX5_text 35 = .ok (.aload_n 0, 1) := by decide +kernel
theorem dX5_text_36 : decode cX5_text 36 = .ok (.getfield 204, 3) := by decide +kernel
theorem dX5_text_39 : decode cX5_text 39 = .ok (.if_icmp .ge 35, 3) := by decide +kernel
theorem dX5_text_42 : decode cX5_text 42 = .ok (.aload_n 0, 1) := by decide +kernel
theorem dX5_text_43 : decode cX5_text 43 = .ok (.aload_n 0, 1) := by decide +kernel
theorem dX5_text_44 : decode cX5_text 44 = .ok (.aload_n 0, 1) := by decide +kernel
theorem dX5_text_45 : decode cX5_text 45 = .ok (.getfield 218, 3) := by decide +kernel
theorem dX5_text_48 : decode cX5_text 48 = .ok (.invokevirtual 221, 3) := by decide +kernel
theorem dX5_text_51 : decode cX5_text 51 = .ok (.bipush 59, 2) := by decide +kernel
theorem dX5_text_53 : decode cX5_text 53 = .ok (.if_icmp .ne 7, 3) := by decide +kernel
theorem dX5_text_56 : decode cX5_text 56 = .ok (.iconst 1, 1) := by decide +kernel
theorem dX5_text_57 : decode cX5_text 57 = .ok (.goto 4, 3) := by decide +kernel
theorem dX5_text_60 : decode cX5_text 60 = .ok (.iconst 0, 1) := by decide +kernel
theorem dX5_text_61 : decode cX5_text 61 = .ok (.invokevirtual 244, 3) := by decide +kernel
theorem dX5_text_64 : decode cX5_text 64 = .ok (.aload_n 0, 1) := by decide +kernel
theorem dX5_text_65 : decode cX5_text 65 = .ok (.invokevirtual 301, 3) := by decide +kernel
theorem dX5_text_68 : decode cX5_text 68 = .ok (.iinc 1 1, 3) := by decide +kernel
theorem dX5_text_71 : decode cX5_text 71 = .ok (.goto (-47), 3) := by decide +kernel
theorem dX5_text_74 : decode cX5_text 74 = .ok (.aload_n 0, 1) := by decide +kernel
theorem dX5_text_75 : decode cX5_text 75 = .ok (.iconst 0, 1) := by decide +kernel
theorem dX5_text_76 : decode cX5_text 76 = .ok (.putfield 204, 3) := by decide +kernel
theorem dX5_text_79 : decode cX5_text 79 = .ok (.aload_n 0, 1) := by decide +kernel
theorem dX5_text_80 : decode cX5_text 80 = .ok (.getfield 230, 3) := by decide +kernel
theorem dX5_text_83 : decode cX5_text 83 = .ok (.ifCond .eq 14, 3) := by decide +kernel
theorem dX5_text_86 : decode cX5_text 86 = .ok (.aload_n 0, 1) := by decide +kernel
theorem dX5_text_87 : decode cX5_text 87 = .ok (.invokevirtual 178, 3) := by decide +kernel
theorem dX5_text_90 : decode cX5_text 90 = .ok (.iconst (-1), 1) := by decide +kernel
theorem dX5_text_91 : decode cX5_text 91 = .ok (.aload_n 0, 1) := by decide +kernel
theorem dX5_text_92 : decode cX5_text 92 = .ok (.getfield 218, 3) := by decide +kernel
theorem dX5_text_95 : decode cX5_text 95 = .ok (.isub, 1) := by decide +kernel
theorem dX5_text_96 : decode cX5_text 96 = .ok (.ireturn, 1) := by decide +kernel
theorem dX5_text_97 : decode cX5_text 97 = .ok (.iload_n 1, 1) := by decide +kernel
theorem dX5_text_98 : decode cX5_text 98 = .ok (.ireturn, 1) := by decide +kernel
theorem dX5_token_0 : decode cX5_token 0 = .ok (.aload_n 0, 1) := by decide +kernel
theorem dX5_token_1 : decode cX5_token 1 = .ok (.aload_n 0, 1) := by decide +kernel
theorem dX5_token_2 : decode cX5_token 2 = .ok (.getfield 215, 3) := by decide +kernel
theorem dX5_token_5 : decode cX5_token 5 = .ok (.putfield 218, 3) := by decide +kernel
theorem dX5_token_8 : decode cX5_token 8 = .ok (.aload_n 0, 1) := by decide +kernel
theorem dX5_token_9 : decode cX5_token 9 = .ok (.aload_n 0, 1) := by decide +kernel
theorem dX5_token_10 : decode cX5_token 10 = .ok (.getfield 218, 3) := by decide +kernel
theorem dX5_token_13 : decode cX5_token 13 = .ok (.invokevirtual 221, 3) := by decide +kernel
theorem dX5_token_16 : decode cX5_token 16 = .ok (.bipush 32, 2) := by decide +kernel
theorem dX5_token_18 : decode cX5_token 18 = .ok (.if_icmp .ne 16, 3) := by decide +kernel
theorem dX5_token_21 : decode cX5_token 21 = .ok (.aload_n 0, 1) := by decide +kernel
theorem dX5_token_22 : decode cX5_token 22 = .ok (.dup, 1) := by decide +kernel
theorem dX5_token_23 : decode cX5_token 23 = .ok (.getfield 218, 3) := by decide +kernel
theorem dX5_token_26 : decode cX5_token 26 = .ok (.iconst 1, 1) := by decide +kernel
theorem dX5_token_27 : decode cX5_token 27 = .ok (.iadd, 1) := by decide +kernel
theorem dX5_token_28 : decode cX5_token 28 = .ok (.putfield 218, 3) := by decide +kernel
theorem dX5_token_31 : decode cX5_token 31 = .ok (.goto (-23), 3) := by decide +kernel
theorem dX5_token_34 : decode cX5_token 34 = .ok (.aload_n 0, 1) := by decide +kernel
theorem dX5_token_35 : decode cX5_token 35 = .ok (.aload_n 0, 1) := by decide +kernel
theorem dX5_token_36 : decode cX5_token 36 = .ok (.getfield 218, 3) := by decide +kernel
theorem dX5_token_39 : decode cX5_token 39 = .ok (.invokevirtual 221, 3) := by decide +kernel
theorem dX5_token_42 : decode cX5_token 42 = .ok (.invokestatic 224, 3) := by decide +kernel
theorem dX5_token_45 : decode cX5_token 45 = .ok (.istore_n 1, 1) := by decide +kernel
theorem dX5_token_46 : decode cX5_token 46 = .ok (.aload_n 0, 1) := by decide +kernel
theorem dX5_token_47 : decode cX5_token 47 = .ok (.aload_n 0, 1) := by decide +kernel
theorem dX5_token_48 : decode cX5_token 48 = .ok (.getfield 218, 3) := by decide +kernel
theorem dX5_token_51 : decode cX5_token 51 = .ok (.invokevirtual 221, 3) := by decide +kernel
theorem dX5_token_54 : decode cX5_token 54 = .ok (.invokestatic 227, 3) := by decide +kernel
theorem dX5_token_57 : decode cX5_token 57 = .ok (.istore_n 2, 1) := by decide +kernel
theorem dX5_token_58 : decode cX5_token 58 = .ok (.aload_n 0, 1) := by decide +kernel
theorem dX5_token_59 : decode cX5_token 59 = .ok (.aload_n 0, 1) := by decide +kernel
theorem dX5_token_60 : decode cX5_token 60 = .ok (.getfield 218, 3) := by decide +kernel
theorem dX5_token_63 : decode cX5_token 63 = .ok (.aload_n 0, 1) := by decide +kernel
theorem dX5_token_64 : decode cX5_token 64 = .ok (.getfield 204, 3) := by decide +kernel
theorem dX5_token_67 : decode cX5_token 67 = .ok (.if_icmp .ge 12, 3) := by decide +kernel
theorem dX5_token_70 : decode cX5_token 70 = .ok (.aload_n 0, 1) := by decide +kernel
theorem dX5_token_71 : decode cX5_token 71 = .ok (.getfield 218, 3) := by decide +kernel
theorem dX5_token_74 : decode cX5_token 74 = .ok (.iconst 1, 1) := by decide +kernel
theorem dX5_token_75 : decode cX5_token 75 = .ok (.iadd, 1) := by decide +kernel
theorem dX5_token_76 : decode cX5_token 76 = .ok (.goto 7, 3) := by decide +kernel
theorem dX5_token_79 : decode cX5_token 79 = .ok (.aload_n 0, 1) := by decide +kernel
theorem dX5_token_80 : decode cX5_token 80 = .ok (.getfield 218, 3) := by decide +kernel
theorem dX5_token_83 : decode cX5_token 83 = .ok (.putfield 215, 3) := by decide +kernel
theorem dX5_token_86 : decode cX5_token 86 = .ok (.iload_n 1, 1) := by decide +kernel
theorem dX5_token_87 : decode cX5_token 87 = .ok (.ifCond .eq 17, 3) := by decide +kernel
theorem dX5_token_90 : decode cX5_token 90 = .ok (.aload_n 0, 1) := by decide +kernel
theorem dX5_token_91 : decode cX5_token 91 = .ok (.aload_n 0, 1) := by decide +kernel
theorem dX5_token_92 : decode cX5_token 92 = .ok (.getfield 215, 3) := by decide +kernel
theorem dX5_token_95 : decode cX5_token 95 = .ok (.invokevirtual 221, 3) := by decide +kernel
theorem dX5_token_98 : decode cX5_token 98 = .ok (.invokestatic 224, 3) := by decide +kernel
theorem dX5_token_101 : decode cX5_token 101 = .ok (.ifCond .ne 21, 3) := by decide +kernel
theorem dX5_token_104 : decode cX5_token 104 = .ok (.iload_n 2, 1) := by decide +kernel
theorem dX5_token_105 : decode cX5_token 105 = .ok (.ifCond .eq 30, 3) := by decide +kernel
theorem dX5_token_108 : decode cX5_token 108 = .ok (.aload_n 0, 1) := by decide +kernel
theorem dX5_token_109 : decode cX5_token 109 = .ok (.aload_n 0, 1) := by decide +kernel
theorem dX5_token_110 : decode cX5_token 110 = .ok (.getfield 215, 3) := by decide +kernel
theorem dX5_token_113 : decode cX5_token 113 = .ok (.invokevirtual 221, 3) := by decide +kernel
theorem dX5_token_116 : decode cX5_token 116 = .ok (.invokestatic 227, 3) := by decide +kernel
theorem dX5_token_119 : decode cX5_token 119 = .ok (.ifCond .eq 16, 3) := by decide +kernel
theorem dX5_token_122 : decode cX5_token 122 = .ok (.aload_n 0, 1) := by decide +kernel
theorem dX5_token_123 : decode cX5_token 123 = .ok (.dup, 1) := by decide +kernel
theorem dX5_token_124 : decode cX5_token 124 = .ok (.getfield 215, 3) := by decide +kernel
theorem dX5_token_127 : decode cX5_token 127 = .ok (.iconst 1, 1) := by decide +kernel
theorem dX5_token_128 : decode cX5_token 128 = .ok (.iadd, 1) := by decide +kernel
theorem dX5_token_129 : decode cX5_token 129 = .ok (.putfield 215, 3) := by decide +kernel
theorem dX5_token_132 : decode cX5_token 132 = .ok (.goto (-46), 3) := by decide +kernel
theorem dX5_token_135 : decode cX5_token 135 = .ok (.return_, 1) := by decide +kernel
theorem dX5_top_0 : decode cX5_top 0 = .ok (.aload_n 0, 1) := by decide +kernel
theorem dX5_top_1 : decode cX5_top 1 = .ok (.iload_n 1, 1) := by decide +kernel
theorem dX5_top_2 : decode cX5_top 2 = .ok (.invokevirtual 63, 3) := by decide +kernel
theorem dX5_top_5 : decode cX5_top 5 = .ok (.bipush 30, 2) := by decide +kernel
theorem dX5_top_7 : decode cX5_top 7 = .ok (.if_icmp .ge 11, 3) := by decide +kernel
theorem dX5_top_10 : decode cX5_top 10 = .ok (.aload_n 0, 1) := by decide +kernel
theorem dX5_top_11 : decode cX5_top 11 = .ok (.iload_n 1, 1) := by decide +kernel
theorem dX5_top_12 : decode cX5_top 12 = .ok (.invokevirtual 63, 3) := by decide +kernel
theorem dX5_top_15 : decode cX5_top 15 = .ok (.goto 5, 3) := by decide +kernel
theorem dX5_top_18 : decode cX5_top 18 = .ok (.bipush 30, 2) := by decide +kernel
theorem dX5_top_20 : decode cX5_top 20 = .ok (.istore_n 2, 1) := by decide +kernel
theorem dX5_top_21 : decode cX5_top 21 = .ok (.aload_n 0, 1) := by decide +kernel
theorem dX5_top_22 : decode cX5_top 22 = .ok (.iload_n 1, 1) := by decide +kernel
theorem dX5_top_23 : decode cX5_top 23 = .ok (.invokevirtual 67, 3) := by decide +kernel
theorem dX5_top_26 : decode cX5_top 26 = .ok (.tableswitch 64 3 6 #[30, 32, 40, 48], 30) := by decide +kernel
theorem dX5_top_56 : decode cX5_top 56 = .ok (.iconst 0, 1) := by decide +kernel
theorem dX5_top_57 : decode cX5_top 57 = .ok (.ireturn, 1) := by decide +kernel
theorem dX5_top_58 : decode cX5_top 58 = .ok (.aload_n 0, 1) := by decide +kernel
theorem dX5_top_59 : decode cX5_top 59 = .ok (.iload_n 1, 1) := by decide +kernel
theorem dX5_top_60 : decode cX5_top 60 = .ok (.invokevirtual 70, 3) := by decide +kernel
theorem dX5_top_63 : decode cX5_top 63 = .ok (.iconst 5, 1) := by decide +kernel
theorem dX5_top_64 : decode cX5_top 64 = .ok (.iadd, 1) := by decide +kernel
theorem dX5_top_65 : decode cX5_top 65 = .ok (.ireturn, 1) := by decide +kernel
theorem dX5_top_66 : decode cX5_top 66 = .ok (.aload_n 0, 1) := by decide +kernel
theorem dX5_top_67 : decode cX5_top 67 = .ok (.iload_n 1, 1) := by decide +kernel
theorem dX5_top_68 : decode cX5_top 68 = .ok (.invokevirtual 70, 3) := by decide +kernel
theorem dX5_top_71 : decode cX5_top 71 = .ok (.iload_n 2, 1) := by decide +kernel
theorem dX5_top_72 : decode cX5_top 72 = .ok (.iadd, 1) := by decide +kernel
theorem dX5_top_73 : decode cX5_top 73 = .ok (.ireturn, 1) := by decide +kernel
theorem dX5_top_74 : decode cX5_top 74 = .ok (.aload_n 0, 1) := by decide +kernel
theorem dX5_top_75 : decode cX5_top 75 = .ok (.iload_n 1, 1) := by decide +kernel
theorem dX5_top_76 : decode cX5_top 76 = .ok (.invokevirtual 70, 3) := by decide +kernel
theorem dX5_top_79 : decode cX5_top 79 = .ok (.iload_n 2, 1) := by decide +kernel
theorem dX5_top_80 : decode cX5_top 80 = .ok (.iadd, 1) := by decide +kernel
theorem dX5_top_81 : decode cX5_top 81 = .ok (.aload_n 0, 1) := by decide +kernel
theorem dX5_top_82 : decode cX5_top 82 = .ok (.iload_n 1, 1) := by decide +kernel
theorem dX5_top_83 : decode cX5_top 83 = .ok (.invokevirtual 63, 3) := by decide +kernel
theorem dX5_top_86 : decode cX5_top 86 = .ok (.iconst 2, 1) := by decide +kernel
theorem dX5_top_87 : decode cX5_top 87 = .ok (.idiv, 1) := by decide +kernel
theorem dX5_top_88 : decode cX5_top 88 = .ok (.iadd, 1) := by decide +kernel
theorem dX5_top_89 : decode cX5_top 89 = .ok (.ireturn, 1) := by decide +kernel
theorem dX5_top_90 : decode cX5_top 90 = .ok (.aload_n 0, 1) := by decide +kernel
theorem dX5_top_91 : decode cX5_top 91 = .ok (.iload_n 1, 1) := by decide +kernel
theorem dX5_top_92 : decode cX5_top 92 = .ok (.invokevirtual 70, 3) := by decide +kernel
theorem dX5_top_95 : decode cX5_top 95 = .ok (.ireturn, 1) := by decide +kernel
theorem dX5_two_0 : decode cX5_two 0 = .ok (.iload_n 1, 1) := by decide +kernel
theorem dX5_two_1 : decode cX5_two 1 = .ok (.invokestatic 78, 3) := by decide +kernel
theorem dX5_two_4 : decode cX5_two 4 = .ok (.ifCond .ne 10, 3) := by decide +kernel
theorem dX5_two_7 : decode cX5_two 7 = .ok (.aload_n 0, 1) := by decide +kernel
theorem dX5_two_8 : decode cX5_two 8 = .ok (.ldc 43, 2) := by decide +kernel
theorem dX5_two_10 : decode cX5_two 10 = .ok (.invokevirtual 75, 3) := by decide +kernel
theorem dX5_two_13 : decode cX5_two 13 = .ok (.ireturn, 1) := by decide +kernel
theorem dX5_two_14 : decode cX5_two 14 = .ok (.iconst (-1), 1) := by decide +kernel
theorem dX5_two_15 : decode cX5_two 15 = .ok (.istore_n 2, 1) := by decide +kernel
theorem dX5_two_16 : decode cX5_two 16 = .ok (.iconst 0, 1) := by decide +kernel
theorem dX5_two_17 : decode cX5_two 17 = .ok (.istore_n 3, 1) := by decide +kernel
theorem dX5_two_18 : decode cX5_two 18 = .ok (.aload_n 0, 1) := by decide +kernel
theorem dX5_two_19 : decode cX5_two 19 = .ok (.invokevirtual 171, 3) := by decide +kernel
theorem dX5_two_22 : decode cX5_two 22 = .ok (.iconst 0, 1) := by decide +kernel
theorem dX5_two_23 : decode cX5_two 23 = .ok (.istore 4, 2) := by decide +kernel
theorem dX5_two_25 : decode cX5_two 25 = .ok (.iload 4, 2) := by decide +kernel
theorem dX5_two_27 : decode cX5_two 27 = .ok (.bipush 24, 2) := by decide +kernel
theorem dX5_two_29 : decode cX5_two 29 = .ok (.if_icmp .ge 74, 3) := by decide +kernel
theorem dX5_two_32 : decode cX5_two 32 = .ok (.iload 4, 2) := by decide +kernel
theorem dX5_two_34 : decode cX5_two 34 = .ok (.iconst 1, 1) := by decide +kernel
theorem dX5_two_35 : decode cX5_two 35 = .ok (.iadd, 1) := by decide +kernel
theorem dX5_two_36 : decode cX5_two 36 = .ok (.istore 5, 2) := by decide +kernel
theorem dX5_two_38 : decode cX5_two 38 = .ok (.iload 5, 2) := by decide +kernel
theorem dX5_two_40 : decode cX5_two 40 = .ok (.bipush 24, 2) := by decide +kernel
theorem dX5_two_42 : decode cX5_two 42 = .ok (.if_icmp .ge 55, 3) := by decide +kernel
theorem dX5_two_45 : decode cX5_two 45 = .ok (.aload_n 0, 1) := by decide +kernel
theorem dX5_two_46 : decode cX5_two 46 = .ok (.iload 4, 2) := by decide +kernel
theorem dX5_two_48 : decode cX5_two 48 = .ok (.iload_n 1, 1) := by decide +kernel
theorem dX5_two_49 : decode cX5_two 49 = .ok (.invokevirtual 81, 3) := by decide +kernel
theorem dX5_two_52 : decode cX5_two 52 = .ok (.aload_n 0, 1) := by decide +kernel
theorem dX5_two_53 : decode cX5_two 53 = .ok (.iload 5, 2) := by decide +kernel
theorem dX5_two_55 : decode cX5_two 55 = .ok (.iload_n 1, 1) := by decide +kernel
theorem dX5_two_56 : decode cX5_two 56 = .ok (.invokevirtual 81, 3) := by decide +kernel
theorem dX5_two_59 : decode cX5_two 59 = .ok (.aload_n 0, 1) := by decide +kernel
theorem dX5_two_60 : decode cX5_two 60 = .ok (.invokevirtual 149, 3) := by decide +kernel
theorem dX5_two_63 : decode cX5_two 63 = .ok (.istore 6, 2) := by decide +kernel
theorem dX5_two_65 : decode cX5_two 65 = .ok (.aload_n 0, 1) := by decide +kernel
theorem dX5_two_66 : decode cX5_two 66 = .ok (.invokevirtual 178, 3) := by decide +kernel
theorem dX5_two_69 : decode cX5_two 69 = .ok (.iload_n 2, 1) := by decide +kernel
theorem dX5_two_70 : decode cX5_two 70 = .ok (.ifCond .lt 9, 3) := by decide +kernel
theorem dX5_two_73 : decode cX5_two 73 = .ok (.iload 6, 2) := by decide +kernel
theorem dX5_two_75 : decode cX5_two 75 = .ok (.iload_n 3, 1) := by decide +kernel
theorem dX5_two_76 : decode cX5_two 76 = .ok (.if_icmp .ge 15, 3) := by decide +kernel
theorem dX5_two_79 : decode cX5_two 79 = .ok (.bipush 100, 2) := by decide +kernel
theorem dX5_two_81 : decode cX5_two 81 = .ok (.iload 4, 2) := by decide +kernel
theorem dX5_two_83 : decode cX5_two 83 = .ok (.imul, 1) := by decide +kernel
theorem dX5_two_84 : decode cX5_two 84 = .ok (.iload 5, 2) := by decide +kernel
theorem dX5_two_86 : decode cX5_two 86 = .ok (.iadd, 1) := by decide +kernel
theorem dX5_two_87 : decode cX5_two 87 = .ok (.istore_n 2, 1) := by decide +kernel
theorem dX5_two_88 : decode cX5_two 88 = .ok (.iload 6, 2) := by decide +kernel
theorem dX5_two_90 : decode cX5_two 90 = .ok (.istore_n 3, 1) := by decide +kernel
theorem dX5_two_91 : decode cX5_two 91 = .ok (.iinc 5 1, 3) := by decide +kernel
theorem dX5_two_94 : decode cX5_two 94 = .ok (.goto (-56), 3) := by decide +kernel
theorem dX5_two_97 : decode cX5_two 97 = .ok (.iinc 4 1, 3) := by decide +kernel
theorem dX5_two_100 : decode cX5_two 100 = .ok (.goto (-75), 3) := by decide +kernel
theorem dX5_two_103 : decode cX5_two 103 = .ok (.iload_n 2, 1) := by decide +kernel
theorem dX5_two_104 : decode cX5_two 104 = .ok (.ireturn, 1) := by decide +kernel
theorem dX5_undo_0 : decode cX5_undo 0 = .ok (.aload_n 0, 1) := by decide +kernel
theorem dX5_undo_1 : decode cX5_undo 1 = .ok (.getfield 320, 3) := by decide +kernel
theorem dX5_undo_4 : decode cX5_undo 4 = .ok (.ifCond .ne 10, 3) := by decide +kernel
theorem dX5_undo_7 : decode cX5_undo 7 = .ok (.aload_n 0, 1) := by decide +kernel
theorem dX5_undo_8 : decode cX5_undo 8 = .ok (.ldc 145, 2) := by decide +kernel
theorem dX5_undo_10 : decode cX5_undo 10 = .ok (.invokevirtual 75, 3) := by decide +kernel
theorem dX5_undo_13 : decode cX5_undo 13 = .ok (.ireturn, 1) := by decide +kernel
theorem dX5_undo_14 : decode cX5_undo 14 = .ok (.iconst 0, 1) := by decide +kernel
theorem dX5_undo_15 : decode cX5_undo 15 = .ok (.istore_n 1, 1) := by decide +kernel
theorem dX5_undo_16 : decode cX5_undo 16 = .ok (.iload_n 1, 1) := by decide +kernel
theorem dX5_undo_17 : decode cX5_undo 17 = .ok (.bipush 111, 2) := by decide +kernel
theorem dX5_undo_19 : decode cX5_undo 19 = .ok (.if_icmp .ge 21, 3) := by decide +kernel
theorem dX5_undo_22 : decode cX5_undo 22 = .ok (.aload_n 0, 1) := by decide +kernel
theorem dX5_undo_23 : decode cX5_undo 23 = .ok (.getfield 7, 3) := by decide +kernel
theorem dX5_undo_26 : decode cX5_undo 26 = .ok (.iload_n 1, 1) := by decide +kernel
theorem dX5_undo_27 : decode cX5_undo 27 = .ok (.aload_n 0, 1) := by decide +kernel
theorem dX5_undo_28 : decode cX5_undo 28 = .ok (.getfield 13, 3) := by decide +kernel
theorem dX5_undo_31 : decode cX5_undo 31 = .ok (.iload_n 1, 1) := by decide +kernel
theorem dX5_undo_32 : decode cX5_undo 32 = .ok (.iaload, 1) := by decide +kernel
theorem dX5_undo_33 : decode cX5_undo 33 = .ok (.iastore, 1) := by decide +kernel
theorem dX5_undo_34 : decode cX5_undo 34 = .ok (.iinc 1 1, 3) := by decide +kernel
theorem dX5_undo_37 : decode cX5_undo 37 = .ok (.goto (-21), 3) := by decide +kernel
theorem dX5_undo_40 : decode cX5_undo 40 = .ok (.aload_n 0, 1) := by decide +kernel
theorem dX5_undo_41 : decode cX5_undo 41 = .ok (.getfield 7, 3) := by decide +kernel
theorem dX5_undo_44 : decode cX5_undo 44 = .ok (.iconst 0, 1) := by decide +kernel
theorem dX5_undo_45 : decode cX5_undo 45 = .ok (.iaload, 1) := by decide +kernel
theorem dX5_undo_46 : decode cX5_undo 46 = .ok (.ireturn, 1) := by decide +kernel
theorem dX5_walk_0 : decode cX5_walk 0 = .ok (.aload_n 0, 1) := by decide +kernel
theorem dX5_walk_1 : decode cX5_walk 1 = .ok (.invokevirtual 181, 3) := by decide +kernel
theorem dX5_walk_4 : decode cX5_walk 4 = .ok (.istore_n 1, 1) := by decide +kernel
theorem dX5_walk_5 : decode cX5_walk 5 = .ok (.iconst (-1), 1) := by decide +kernel
theorem dX5_walk_6 : decode cX5_walk 6 = .ok (.istore_n 2, 1) := by decide +kernel
theorem dX5_walk_7 : decode cX5_walk 7 = .ok (.iconst 0, 1) := by decide +kernel
theorem dX5_walk_8 : decode cX5_walk 8 = .ok (.istore_n 3, 1) := by decide +kernel
theorem dX5_walk_9 : decode cX5_walk 9 = .ok (.iload_n 3, 1) := by decide +kernel
theorem dX5_walk_10 : decode cX5_walk 10 = .ok (.iconst 1, 1) := by decide +kernel
theorem dX5_walk_11 : decode cX5_walk 11 = .ok (.aload_n 0, 1) := by decide +kernel
theorem dX5_walk_12 : decode cX5_walk 12 = .ok (.getfield 7, 3) := by decide +kernel
theorem dX5_walk_15 : decode cX5_walk 15 = .ok (.iconst 1, 1) := by decide +kernel
theorem dX5_walk_16 : decode cX5_walk 16 = .ok (.iaload, 1) := by decide +kernel
theorem dX5_walk_17 : decode cX5_walk 17 = .ok (.ishl, 1) := by decide +kernel
theorem dX5_walk_18 : decode cX5_walk 18 = .ok (.if_icmp .ge 84, 3) := by decide +kernel
theorem dX5_walk_21 : decode cX5_walk 21 = .ok (.iconst 0, 1) := by decide +kernel
theorem dX5_walk_22 : decode cX5_walk 22 = .ok (.istore 4, 2) := by decide +kernel
theorem dX5_walk_24 : decode cX5_walk 24 = .ok (.iconst 0, 1) := by decide +kernel
theorem dX5_walk_25 : decode cX5_walk 25 = .ok (.istore 5, 2) := by decide +kernel
theorem dX5_walk_27 : decode cX5_walk 27 = .ok (.iload 5, 2) := by decide +kernel
theorem dX5_walk_29 : decode cX5_walk 29 = .ok (.aload_n 0, 1) := by decide +kernel
theorem dX5_walk_30 : decode cX5_walk 30 = .ok (.getfield 7, 3) := by decide +kernel
theorem dX5_walk_33 : decode cX5_walk 33 = .ok (.iconst 1, 1) := by decide +kernel
theorem dX5_walk_34 : decode cX5_walk 34 = .ok (.iaload, 1) := by decide +kernel
theorem dX5_walk_35 : decode cX5_walk 35 = .ok (.if_icmp .ge 34, 3) := by decide +kernel
theorem dX5_walk_38 : decode cX5_walk 38 = .ok (.iload 4, 2) := by decide +kernel
theorem dX5_walk_40 : decode cX5_walk 40 = .ok (.iload_n 3, 1) := by decide +kernel
theorem dX5_walk_41 : decode cX5_walk 41 = .ok (.iload 5, 2) := by decide +kernel
theorem dX5_walk_43 : decode cX5_walk 43 = .ok (.invokestatic 127, 3) := by decide +kernel
theorem dX5_walk_46 : decode cX5_walk 46 = .ok (.ifCond .eq 13, 3) := by decide +kernel
theorem dX5_walk_49 : decode cX5_walk 49 = .ok (.aload_n 0, 1) := by decide +kernel
theorem dX5_walk_50 : decode cX5_walk 50 = .ok (.getfield 25, 3) := by decide +kernel
theorem dX5_walk_53 : decode cX5_walk 53 = .ok (.iload 5, 2) := by decide +kernel
theorem dX5_walk_55 : decode cX5_walk 55 = .ok (.iaload, 1) := by decide +kernel
theorem dX5_walk_56 : decode cX5_walk 56 = .ok (.goto 4, 3) := by decide +kernel
theorem dX5_walk_59 : decode cX5_walk 59 = .ok (.iconst 0, 1) := by decide +kernel
theorem dX5_walk_60 : decode cX5_walk 60 = .ok (.ior, 1) := by decide +kernel
theorem dX5_walk_61 : decode cX5_walk 61 = .ok (.istore 4, 2) := by decide +kernel
theorem dX5_walk_63 : decode cX5_walk 63 = .ok (.iinc 5 1, 3) := by decide +kernel
theorem dX5_walk_66 : decode cX5_walk 66 = .ok (.goto (-39), 3) := by decide +kernel
theorem dX5_walk_69 : decode cX5_walk 69 = .ok (.iload 4, 2) := by decide +kernel
theorem dX5_walk_71 : decode cX5_walk 71 = .ok (.iload_n 1, 1) := by decide +kernel
theorem dX5_walk_72 : decode cX5_walk 72 = .ok (.if_icmp .ne 22, 3) := by decide +kernel
theorem dX5_walk_75 : decode cX5_walk 75 = .ok (.iload_n 2, 1) := by decide +kernel
theorem dX5_walk_76 : decode cX5_walk 76 = .ok (.ifCond .lt 14, 3) := by decide +kernel
theorem dX5_walk_79 : decode cX5_walk 79 = .ok (.iload_n 3, 1) := by decide +kernel
theorem dX5_walk_80 : decode cX5_walk 80 = .ok (.invokestatic 156, 3) := by decide +kernel
theorem dX5_walk_83 : decode cX5_walk 83 = .ok (.iload_n 2, 1) := by decide +kernel
theorem dX5_walk_84 : decode cX5_walk 84 = .ok (.invokestatic 156, 3) := by decide +kernel
theorem dX5_walk_87 : decode cX5_walk 87 = .ok (.if_icmp .ge 7, 3) := by decide +kernel
theorem dX5_walk_90 : decode cX5_walk 90 = .ok (.iload_n 3, 1) := by decide +kernel
theorem dX5_walk_91 : decode cX5_walk 91 = .ok (.goto 4, 3) := by decide +kernel
theorem dX5_walk_94 : decode cX5_walk 94 = .ok (.iload_n 2, 1) := by decide +kernel
theorem dX5_walk_95 : decode cX5_walk 95 = .ok (.istore_n 2, 1) := by decide +kernel
theorem dX5_walk_96 : decode cX5_walk 96 = .ok (.iinc 3 1, 3) := by decide +kernel
theorem dX5_walk_99 : decode cX5_walk 99 = .ok (.goto (-90), 3) := by decide +kernel
theorem dX5_walk_102 : decode cX5_walk 102 = .ok (.iload_n 2, 1) := by decide +kernel
theorem dX5_walk_103 : decode cX5_walk 103 = .ok (.ireturn, 1) := by decide +kernel
theorem dX5_wall_0 : decode cX5_wall 0 = .ok (.aload_n 0, 1) := by decide +kernel
theorem dX5_wall_1 : decode cX5_wall 1 = .ok (.iload_n 1, 1) := by decide +kernel
theorem dX5_wall_2 : decode cX5_wall 2 = .ok (.invokevirtual 104, 3) := by decide +kernel
theorem dX5_wall_5 : decode cX5_wall 5 = .ok (.ifCond .eq 10, 3) := by decide +kernel
theorem dX5_wall_8 : decode cX5_wall 8 = .ok (.iload_n 2, 1) := by decide +kernel
theorem dX5_wall_9 : decode cX5_wall 9 = .ok (.invokestatic 58, 3) := by decide +kernel
theorem dX5_wall_12 : decode cX5_wall 12 = .ok (.ifCond .ne 10, 3) := by decide +kernel
theorem dX5_wall_15 : decode cX5_wall 15 = .ok (.aload_n 0, 1) := by decide +kernel
theorem dX5_wall_16 : decode cX5_wall 16 = .ok (.ldc 43, 2) := by decide +kernel
theorem dX5_wall_18 : decode cX5_wall 18 = .ok (.invokevirtual 75, 3) := by decide +kernel
theorem dX5_wall_21 : decode cX5_wall 21 = .ok (.ireturn, 1) := by decide +kernel
theorem dX5_wall_22 : decode cX5_wall 22 = .ok (.aload_n 0, 1) := by decide +kernel
theorem dX5_wall_23 : decode cX5_wall 23 = .ok (.iload_n 1, 1) := by decide +kernel
theorem dX5_wall_24 : decode cX5_wall 24 = .ok (.invokevirtual 112, 3) := by decide +kernel
theorem dX5_wall_27 : decode cX5_wall 27 = .ok (.istore_n 3, 1) := by decide +kernel
theorem dX5_wall_28 : decode cX5_wall 28 = .ok (.iconst (-1), 1) := by decide +kernel
theorem dX5_wall_29 : decode cX5_wall 29 = .ok (.istore 4, 2) := by decide +kernel
theorem dX5_wall_31 : decode cX5_wall 31 = .ok (.iconst 0, 1) := by decide +kernel
theorem dX5_wall_32 : decode cX5_wall 32 = .ok (.istore 5, 2) := by decide +kernel
theorem dX5_wall_34 : decode cX5_wall 34 = .ok (.iconst 0, 1) := by decide +kernel
theorem dX5_wall_35 : decode cX5_wall 35 = .ok (.istore 6, 2) := by decide +kernel
theorem dX5_wall_37 : decode cX5_wall 37 = .ok (.iload 6, 2) := by decide +kernel
theorem dX5_wall_39 : decode cX5_wall 39 = .ok (.iconst 4, 1) := by decide +kernel
theorem dX5_wall_40 : decode cX5_wall 40 = .ok (.if_icmp .ge 63, 3) := by decide +kernel
theorem dX5_wall_43 : decode cX5_wall 43 = .ok (.aload_n 0, 1) := by decide +kernel
theorem dX5_wall_44 : decode cX5_wall 44 = .ok (.getfield 7, 3) := by decide +kernel
theorem dX5_wall_47 : decode cX5_wall 47 = .ok (.bipush 77, 2) := by decide +kernel
theorem dX5_wall_49 : decode cX5_wall 49 = .ok (.iconst 3, 1) := by decide +kernel
theorem dX5_wall_50 : decode cX5_wall 50 = .ok (.iload_n 1, 1) := by decide +kernel
theorem dX5_wall_51 : decode cX5_wall 51 = .ok (.imul, 1) := by decide +kernel
theorem dX5_wall_52 : decode cX5_wall 52 = .ok (.iadd, 1) := by decide +kernel
theorem dX5_wall_53 : decode cX5_wall 53 = .ok (.iconst 2, 1) := by decide +kernel
theorem dX5_wall_54 : decode cX5_wall 54 = .ok (.iadd, 1) := by decide +kernel
theorem dX5_wall_55 : decode cX5_wall 55 = .ok (.iload 6, 2) := by decide +kernel
theorem dX5_wall_57 : decode cX5_wall 57 = .ok (.iastore, 1) := by decide +kernel
theorem dX5_wall_58 : decode cX5_wall 58 = .ok (.aload_n 0, 1) := by decide +kernel
theorem dX5_wall_59 : decode cX5_wall 59 = .ok (.iload_n 1, 1) := by decide +kernel
theorem dX5_wall_60 : decode cX5_wall 60 = .ok (.invokevirtual 146, 3) := by decide +kernel
theorem dX5_wall_63 : decode cX5_wall 63 = .ok (.istore 7, 2) := by decide +kernel
theorem dX5_wall_65 : decode cX5_wall 65 = .ok (.aload_n 0, 1) := by decide +kernel
theorem dX5_wall_66 : decode cX5_wall 66 = .ok (.iload_n 1, 1) := by decide +kernel
theorem dX5_wall_67 : decode cX5_wall 67 = .ok (.invokevirtual 141, 3) := by decide +kernel
theorem dX5_wall_70 : decode cX5_wall 70 = .ok (.iload_n 2, 1) := by decide +kernel
theorem dX5_wall_71 : decode cX5_wall 71 = .ok (.invokestatic 127, 3) := by decide +kernel
theorem dX5_wall_74 : decode cX5_wall 74 = .ok (.ifCond .eq 23, 3) := by decide +kernel
theorem dX5_wall_77 : decode cX5_wall 77 = .ok (.iload 4, 2) := by decide +kernel
theorem dX5_wall_79 : decode cX5_wall 79 = .ok (.ifCond .lt 10, 3) := by decide +kernel
theorem dX5_wall_82 : decode cX5_wall 82 = .ok (.iload 7, 2) := by decide +kernel
theorem dX5_wall_84 : decode cX5_wall 84 = .ok (.iload 5, 2) := by decide +kernel
theorem dX5_wall_86 : decode cX5_wall 86 = .ok (.if_icmp .ge 11, 3) := by decide +kernel
theorem dX5_wall_89 : decode cX5_wall 89 = .ok (.iload 6, 2) := by decide +kernel
theorem dX5_wall_91 : decode cX5_wall 91 = .ok (.istore 4, 2) := by decide +kernel
theorem dX5_wall_93 : decode cX5_wall 93 = .ok (.iload 7, 2) := by decide +kernel
theorem dX5_wall_95 : decode cX5_wall 95 = .ok (.istore 5, 2) := by decide +kernel
theorem dX5_wall_97 : decode cX5_wall 97 = .ok (.iinc 6 1, 3) := by decide +kernel
theorem dX5_wall_100 : decode cX5_wall 100 = .ok (.goto (-63), 3) := by decide +kernel
theorem dX5_wall_103 : decode cX5_wall 103 = .ok (.aload_n 0, 1) := by decide +kernel
theorem dX5_wall_104 : decode cX5_wall 104 = .ok (.getfield 7, 3) := by decide +kernel
theorem dX5_wall_107 : decode cX5_wall 107 = .ok (.bipush 77, 2) := by decide +kernel
theorem dX5_wall_109 : decode cX5_wall 109 = .ok (.iconst 3, 1) := by decide +kernel
theorem dX5_wall_110 : decode cX5_wall 110 = .ok (.iload_n 1, 1) := by decide +kernel
theorem dX5_wall_111 : decode cX5_wall 111 = .ok (.imul, 1) := by decide +kernel
theorem dX5_wall_112 : decode cX5_wall 112 = .ok (.iadd, 1) := by decide +kernel
theorem dX5_wall_113 : decode cX5_wall 113 = .ok (.iconst 2, 1) := by decide +kernel
theorem dX5_wall_114 : decode cX5_wall 114 = .ok (.iadd, 1) := by decide +kernel
theorem dX5_wall_115 : decode cX5_wall 115 = .ok (.iload_n 3, 1) := by decide +kernel
theorem dX5_wall_116 : decode cX5_wall 116 = .ok (.iastore, 1) := by decide +kernel
theorem dX5_wall_117 : decode cX5_wall 117 = .ok (.iload 4, 2) := by decide +kernel
theorem dX5_wall_119 : decode cX5_wall 119 = .ok (.ifCond .ge 12, 3) := by decide +kernel
theorem dX5_wall_122 : decode cX5_wall 122 = .ok (.aload_n 0, 1) := by decide +kernel
theorem dX5_wall_123 : decode cX5_wall 123 = .ok (.ldc 145, 2) := by decide +kernel
theorem dX5_wall_125 : decode cX5_wall 125 = .ok (.invokevirtual 75, 3) := by decide +kernel
theorem dX5_wall_128 : decode cX5_wall 128 = .ok (.goto 5, 3) := by decide +kernel
theorem dX5_wall_131 : decode cX5_wall 131 = .ok (.iload 4, 2) := by decide +kernel
theorem dX5_wall_133 : decode cX5_wall 133 = .ok (.ireturn, 1) := by decide +kernel
theorem dX5_when_0 : decode cX5_when 0 = .ok (.aload_n 0, 1) := by decide +kernel
theorem dX5_when_1 : decode cX5_when 1 = .ok (.iload_n 1, 1) := by decide +kernel
theorem dX5_when_2 : decode cX5_when 2 = .ok (.invokevirtual 104, 3) := by decide +kernel
theorem dX5_when_5 : decode cX5_when 5 = .ok (.ifCond .ne 10, 3) := by decide +kernel
theorem dX5_when_8 : decode cX5_when 8 = .ok (.aload_n 0, 1) := by decide +kernel
theorem dX5_when_9 : decode cX5_when 9 = .ok (.ldc 43, 2) := by decide +kernel
theorem dX5_when_11 : decode cX5_when 11 = .ok (.invokevirtual 75, 3) := by decide +kernel
theorem dX5_when_14 : decode cX5_when 14 = .ok (.ireturn, 1) := by decide +kernel
theorem dX5_when_15 : decode cX5_when 15 = .ok (.aload_n 0, 1) := by decide +kernel
theorem dX5_when_16 : decode cX5_when 16 = .ok (.bipush 60, 2) := by decide +kernel
theorem dX5_when_18 : decode cX5_when 18 = .ok (.invokevirtual 168, 3) := by decide +kernel
theorem dX5_when_21 : decode cX5_when 21 = .ok (.ifCond .eq 10, 3) := by decide +kernel
theorem dX5_when_24 : decode cX5_when 24 = .ok (.aload_n 0, 1) := by decide +kernel
theorem dX5_when_25 : decode cX5_when 25 = .ok (.ldc 144, 2) := by decide +kernel
theorem dX5_when_27 : decode cX5_when 27 = .ok (.invokevirtual 75, 3) := by decide +kernel
theorem dX5_when_30 : decode cX5_when 30 = .ok (.ireturn, 1) := by decide +kernel
theorem dX5_when_31 : decode cX5_when 31 = .ok (.aload_n 0, 1) := by decide +kernel
theorem dX5_when_32 : decode cX5_when 32 = .ok (.invokevirtual 171, 3) := by decide +kernel
theorem dX5_when_35 : decode cX5_when 35 = .ok (.iconst 0, 1) := by decide +kernel
theorem dX5_when_36 : decode cX5_when 36 = .ok (.istore_n 2, 1) := by decide +kernel
theorem dX5_when_37 : decode cX5_when 37 = .ok (.aload_n 0, 1) := by decide +kernel
theorem dX5_when_38 : decode cX5_when 38 = .ok (.iload_n 1, 1) := by decide +kernel
theorem dX5_when_39 : decode cX5_when 39 = .ok (.invokevirtual 146, 3) := by decide +kernel
theorem dX5_when_42 : decode cX5_when 42 = .ok (.istore_n 3, 1) := by decide +kernel
theorem dX5_when_43 : decode cX5_when 43 = .ok (.iconst 1, 1) := by decide +kernel
theorem dX5_when_44 : decode cX5_when 44 = .ok (.istore 4, 2) := by decide +kernel
theorem dX5_when_46 : decode cX5_when 46 = .ok (.iload 4, 2) := by decide +kernel
theorem dX5_when_48 : decode cX5_when 48 = .ok (.bipush 60, 2) := by decide +kernel
theorem dX5_when_50 : decode cX5_when 50 = .ok (.if_icmp .gt 46, 3) := by decide +kernel
theorem dX5_when_53 : decode cX5_when 53 = .ok (.aload_n 0, 1) := by decide +kernel
theorem dX5_when_54 : decode cX5_when 54 = .ok (.invokevirtual 162, 3) := by decide +kernel
theorem dX5_when_57 : decode cX5_when 57 = .ok (.aload_n 0, 1) := by decide +kernel
theorem dX5_when_58 : decode cX5_when 58 = .ok (.iload_n 1, 1) := by decide +kernel
theorem dX5_when_59 : decode cX5_when 59 = .ok (.invokevirtual 146, 3) := by decide +kernel
theorem dX5_when_62 : decode cX5_when 62 = .ok (.istore 5, 2) := by decide +kernel
theorem dX5_when_64 : decode cX5_when 64 = .ok (.iload 5, 2) := by decide +kernel
theorem dX5_when_66 : decode cX5_when 66 = .ok (.iload_n 3, 1) := by decide +kernel
theorem dX5_when_67 : decode cX5_when 67 = .ok (.if_icmp .ge 8, 3) := by decide +kernel
theorem dX5_when_70 : decode cX5_when 70 = .ok (.iload 4, 2) := by decide +kernel
theorem dX5_when_72 : decode cX5_when 72 = .ok (.goto 4, 3) := by decide +kernel
theorem dX5_when_75 : decode cX5_when 75 = .ok (.iload_n 2, 1) := by decide +kernel
theorem dX5_when_76 : decode cX5_when 76 = .ok (.istore_n 2, 1) := by decide +kernel
theorem dX5_when_77 : decode cX5_when 77 = .ok (.iload 5, 2) := by decide +kernel
theorem dX5_when_79 : decode cX5_when 79 = .ok (.iload_n 3, 1) := by decide +kernel
theorem dX5_when_80 : decode cX5_when 80 = .ok (.if_icmp .ge 8, 3) := by decide +kernel
theorem dX5_when_83 : decode cX5_when 83 = .ok (.iload 5, 2) := by decide +kernel
theorem dX5_when_85 : decode cX5_when 85 = .ok (.goto 4, 3) := by decide +kernel
theorem dX5_when_88 : decode cX5_when 88 = .ok (.iload_n 3, 1) := by decide +kernel
theorem dX5_when_89 : decode cX5_when 89 = .ok (.istore_n 3, 1) := by decide +kernel
theorem dX5_when_90 : decode cX5_when 90 = .ok (.iinc 4 1, 3) := by decide +kernel
theorem dX5_when_93 : decode cX5_when 93 = .ok (.goto (-47), 3) := by decide +kernel
theorem dX5_when_96 : decode cX5_when 96 = .ok (.aload_n 0, 1) := by decide +kernel
theorem dX5_when_97 : decode cX5_when 97 = .ok (.invokevirtual 178, 3) := by decide +kernel
theorem dX5_when_100 : decode cX5_when 100 = .ok (.iload_n 2, 1) := by decide +kernel
theorem dX5_when_101 : decode cX5_when 101 = .ok (.ireturn, 1) := by decide +kernel
theorem dX5_which_0 : decode cX5_which 0 = .ok (.iload_n 1, 1) := by decide +kernel
theorem dX5_which_1 : decode cX5_which 1 = .ok (.invokestatic 58, 3) := by decide +kernel
theorem dX5_which_4 : decode cX5_which 4 = .ok (.ifCond .eq 10, 3) := by decide +kernel
theorem dX5_which_7 : decode cX5_which 7 = .ok (.iload_n 2, 1) := by decide +kernel
theorem dX5_which_8 : decode cX5_which 8 = .ok (.invokestatic 159, 3) := by decide +kernel
theorem dX5_which_11 : decode cX5_which 11 = .ok (.ifCond .ne 10, 3) := by decide +kernel
theorem dX5_which_14 : decode cX5_which 14 = .ok (.aload_n 0, 1) := by decide +kernel
theorem dX5_which_15 : decode cX5_which 15 = .ok (.ldc 43, 2) := by decide +kernel
theorem dX5_which_17 : decode cX5_which 17 = .ok (.invokevirtual 75, 3) := by decide +kernel
theorem dX5_which_20 : decode cX5_which 20 = .ok (.ireturn, 1) := by decide +kernel
theorem dX5_which_21 : decode cX5_which 21 = .ok (.iconst (-1), 1) := by decide +kernel
theorem dX5_which_22 : decode cX5_which 22 = .ok (.istore_n 3, 1) := by decide +kernel
theorem dX5_which_23 : decode cX5_which 23 = .ok (.iconst 0, 1) := by decide +kernel
theorem dX5_which_24 : decode cX5_which 24 = .ok (.istore 4, 2) := by decide +kernel
theorem dX5_which_26 : decode cX5_which 26 = .ok (.iload 4, 2) := by decide +kernel
theorem dX5_which_28 : decode cX5_which 28 = .ok (.aload_n 0, 1) := by decide +kernel
theorem dX5_which_29 : decode cX5_which 29 = .ok (.getfield 7, 3) := by decide +kernel
theorem dX5_which_32 : decode cX5_which 32 = .ok (.iconst 1, 1) := by decide +kernel
theorem dX5_which_33 : decode cX5_which 33 = .ok (.iaload, 1) := by decide +kernel
theorem dX5_which_34 : decode cX5_which 34 = .ok (.if_icmp .ge 65, 3) := by decide +kernel
theorem dX5_which_37 : decode cX5_which 37 = .ok (.iload_n 3, 1) := by decide +kernel
theorem dX5_which_38 : decode cX5_which 38 = .ok (.ifCond .ge 61, 3) := by decide +kernel
theorem dX5_which_41 : decode cX5_which 41 = .ok (.aload_n 0, 1) := by decide +kernel
theorem dX5_which_42 : decode cX5_which 42 = .ok (.iload 4, 2) := by decide +kernel
theorem dX5_which_44 : decode cX5_which 44 = .ok (.invokevirtual 93, 3) := by decide +kernel
theorem dX5_which_47 : decode cX5_which 47 = .ok (.istore 5, 2) := by decide +kernel
theorem dX5_which_49 : decode cX5_which 49 = .ok (.aload_n 0, 1) := by decide +kernel
theorem dX5_which_50 : decode cX5_which 50 = .ok (.getfield 7, 3) := by decide +kernel
theorem dX5_which_53 : decode cX5_which 53 = .ok (.bipush 77, 2) := by decide +kernel
theorem dX5_which_55 : decode cX5_which 55 = .ok (.iconst 3, 1) := by decide +kernel
theorem dX5_which_56 : decode cX5_which 56 = .ok (.iload 4, 2) := by decide +kernel
theorem dX5_which_58 : decode cX5_which 58 = .ok (.imul, 1) := by decide +kernel
theorem dX5_which_59 : decode cX5_which 59 = .ok (.iadd, 1) := by decide +kernel
theorem dX5_which_60 : decode cX5_which 60 = .ok (.iload_n 1, 1) := by decide +kernel
theorem dX5_which_61 : decode cX5_which 61 = .ok (.iastore, 1) := by decide +kernel
theorem dX5_which_62 : decode cX5_which 62 = .ok (.aload_n 0, 1) := by decide +kernel
theorem dX5_which_63 : decode cX5_which 63 = .ok (.iload 4, 2) := by decide +kernel
theorem dX5_which_65 : decode cX5_which 65 = .ok (.invokevirtual 146, 3) := by decide +kernel
theorem dX5_which_68 : decode cX5_which 68 = .ok (.iload_n 2, 1) := by decide +kernel
theorem dX5_which_69 : decode cX5_which 69 = .ok (.if_icmp .ne 8, 3) := by decide +kernel
theorem dX5_which_72 : decode cX5_which 72 = .ok (.iload 4, 2) := by decide +kernel
theorem dX5_which_74 : decode cX5_which 74 = .ok (.goto 4, 3) := by decide +kernel
theorem dX5_which_77 : decode cX5_which 77 = .ok (.iconst (-1), 1) := by decide +kernel
theorem dX5_which_78 : decode cX5_which 78 = .ok (.istore_n 3, 1) := by decide +kernel
theorem dX5_which_79 : decode cX5_which 79 = .ok (.aload_n 0, 1) := by decide +kernel
theorem dX5_which_80 : decode cX5_which 80 = .ok (.getfield 7, 3) := by decide +kernel
theorem dX5_which_83 : decode cX5_which 83 = .ok (.bipush 77, 2) := by decide +kernel
theorem dX5_which_85 : decode cX5_which 85 = .ok (.iconst 3, 1) := by decide +kernel
theorem dX5_which_86 : decode cX5_which 86 = .ok (.iload 4, 2) := by decide +kernel
theorem dX5_which_88 : decode cX5_which 88 = .ok (.imul, 1) := by decide +kernel
theorem dX5_which_89 : decode cX5_which 89 = .ok (.iadd, 1) := by decide +kernel
theorem dX5_which_90 : decode cX5_which 90 = .ok (.iload 5, 2) := by decide +kernel
theorem dX5_which_92 : decode cX5_which 92 = .ok (.iastore, 1) := by decide +kernel
theorem dX5_which_93 : decode cX5_which 93 = .ok (.iinc 4 1, 3) := by decide +kernel
theorem dX5_which_96 : decode cX5_which 96 = .ok (.goto (-70), 3) := by decide +kernel
theorem dX5_which_99 : decode cX5_which 99 = .ok (.iload_n 3, 1) := by decide +kernel
theorem dX5_which_100 : decode cX5_which 100 = .ok (.ifCond .ge 12, 3) := by decide +kernel
theorem dX5_which_103 : decode cX5_which 103 = .ok (.aload_n 0, 1) := by decide +kernel
theorem dX5_which_104 : decode cX5_which 104 = .ok (.ldc 145, 2) := by decide +kernel
theorem dX5_which_106 : decode cX5_which 106 = .ok (.invokevirtual 75, 3) := by decide +kernel
theorem dX5_which_109 : decode cX5_which 109 = .ok (.goto 4, 3) := by decide +kernel
theorem dX5_which_112 : decode cX5_which 112 = .ok (.iload_n 3, 1) := by decide +kernel
theorem dX5_which_113 : decode cX5_which 113 = .ok (.ireturn, 1) := by decide +kernel
theorem dX5_widest_0 : decode cX5_widest 0 = .ok (.aload_n 0, 1) := by decide +kernel
theorem dX5_widest_1 : decode cX5_widest 1 = .ok (.iload_n 1, 1) := by decide +kernel
theorem dX5_widest_2 : decode cX5_widest 2 = .ok (.invokevirtual 104, 3) := by decide +kernel
theorem dX5_widest_5 : decode cX5_widest 5 = .ok (.ifCond .ne 10, 3) := by decide +kernel
theorem dX5_widest_8 : decode cX5_widest 8 = .ok (.aload_n 0, 1) := by decide +kernel
theorem dX5_widest_9 : decode cX5_widest 9 = .ok (.ldc 43, 2) := by decide +kernel
theorem dX5_widest_11 : decode cX5_widest 11 = .ok (.invokevirtual 75, 3) := by decide +kernel
theorem dX5_widest_14 : decode cX5_widest 14 = .ok (.ireturn, 1) := by decide +kernel
theorem dX5_widest_15 : decode cX5_widest 15 = .ok (.aload_n 0, 1) := by decide +kernel
theorem dX5_widest_16 : decode cX5_widest 16 = .ok (.getfield 7, 3) := by decide +kernel
theorem dX5_widest_19 : decode cX5_widest 19 = .ok (.bipush 77, 2) := by decide +kernel
theorem dX5_widest_21 : decode cX5_widest 21 = .ok (.iconst 3, 1) := by decide +kernel
theorem dX5_widest_22 : decode cX5_widest 22 = .ok (.iload_n 1, 1) := by decide +kernel
theorem dX5_widest_23 : decode cX5_widest 23 = .ok (.imul, 1) := by decide +kernel
theorem dX5_widest_24 : decode cX5_widest 24 = .ok (.iadd, 1) := by decide +kernel
theorem dX5_widest_25 : decode cX5_widest 25 = .ok (.iconst 1, 1) := by decide +kernel
theorem dX5_widest_26 : decode cX5_widest 26 = .ok (.iadd, 1) := by decide +kernel
theorem dX5_widest_27 : decode cX5_widest 27 = .ok (.iaload, 1) := by decide +kernel
theorem dX5_widest_28 : decode cX5_widest 28 = .ok (.istore_n 2, 1) := by decide +kernel
theorem dX5_widest_29 : decode cX5_widest 29 = .ok (.iconst 0, 1) := by decide +kernel
theorem dX5_widest_30 : decode cX5_widest 30 = .ok (.istore_n 3, 1) := by decide +kernel
theorem dX5_widest_31 : decode cX5_widest 31 = .ok (.iconst 0, 1) := by decide +kernel
theorem dX5_widest_32 : decode cX5_widest 32 = .ok (.istore 4, 2) := by decide +kernel
theorem dX5_widest_34 : decode cX5_widest 34 = .ok (.iconst 1, 1) := by decide +kernel
theorem dX5_widest_35 : decode cX5_widest 35 = .ok (.istore 5, 2) := by decide +kernel
theorem dX5_widest_37 : decode cX5_widest 37 = .ok (.iload 5, 2) := by decide +kernel
theorem dX5_widest_39 : decode cX5_widest 39 = .ok (.bipush 40, 2) := by decide +kernel
theorem dX5_widest_41 : decode cX5_widest 41 = .ok (.if_icmp .gt 64, 3) := by decide +kernel
theorem dX5_widest_44 : decode cX5_widest 44 = .ok (.aload_n 0, 1) := by decide +kernel
theorem dX5_widest_45 : decode cX5_widest 45 = .ok (.getfield 7, 3) := by decide +kernel
theorem dX5_widest_48 : decode cX5_widest 48 = .ok (.bipush 77, 2) := by decide +kernel
theorem dX5_widest_50 : decode cX5_widest 50 = .ok (.iconst 3, 1) := by decide +kernel
theorem dX5_widest_51 : decode cX5_widest 51 = .ok (.iload_n 1, 1) := by decide +kernel
theorem dX5_widest_52 : decode cX5_widest 52 = .ok (.imul, 1) := by decide +kernel
theorem dX5_widest_53 : decode cX5_widest 53 = .ok (.iadd, 1) := by decide +kernel
theorem dX5_widest_54 : decode cX5_widest 54 = .ok (.iconst 1, 1) := by decide +kernel
theorem dX5_widest_55 : decode cX5_widest 55 = .ok (.iadd, 1) := by decide +kernel
theorem dX5_widest_56 : decode cX5_widest 56 = .ok (.iload 5, 2) := by decide +kernel
theorem dX5_widest_58 : decode cX5_widest 58 = .ok (.iastore, 1) := by decide +kernel
theorem dX5_widest_59 : decode cX5_widest 59 = .ok (.aload_n 0, 1) := by decide +kernel
theorem dX5_widest_60 : decode cX5_widest 60 = .ok (.iload_n 1, 1) := by decide +kernel
theorem dX5_widest_61 : decode cX5_widest 61 = .ok (.invokevirtual 141, 3) := by decide +kernel
theorem dX5_widest_64 : decode cX5_widest 64 = .ok (.invokestatic 156, 3) := by decide +kernel
theorem dX5_widest_67 : decode cX5_widest 67 = .ok (.istore 6, 2) := by decide +kernel
theorem dX5_widest_69 : decode cX5_widest 69 = .ok (.iload 6, 2) := by decide +kernel
theorem dX5_widest_71 : decode cX5_widest 71 = .ok (.iload 4, 2) := by decide +kernel
theorem dX5_widest_73 : decode cX5_widest 73 = .ok (.if_icmp .le 8, 3) := by decide +kernel
theorem dX5_widest_76 : decode cX5_widest 76 = .ok (.iload 5, 2) := by decide +kernel
theorem dX5_widest_78 : decode cX5_widest 78 = .ok (.goto 4, 3) := by decide +kernel
theorem dX5_widest_81 : decode cX5_widest 81 = .ok (.iload_n 3, 1) := by decide +kernel
theorem dX5_widest_82 : decode cX5_widest 82 = .ok (.istore_n 3, 1) := by decide +kernel
theorem dX5_widest_83 : decode cX5_widest 83 = .ok (.iload 6, 2) := by decide +kernel
theorem dX5_widest_85 : decode cX5_widest 85 = .ok (.iload 4, 2) := by decide +kernel
theorem dX5_widest_87 : decode cX5_widest 87 = .ok (.if_icmp .le 8, 3) := by decide +kernel
theorem dX5_widest_90 : decode cX5_widest 90 = .ok (.iload 6, 2) := by decide +kernel
theorem dX5_widest_92 : decode cX5_widest 92 = .ok (.goto 5, 3) := by decide +kernel
theorem dX5_widest_95 : decode cX5_widest 95 = .ok (.iload 4, 2) := by decide +kernel
theorem dX5_widest_97 : decode cX5_widest 97 = .ok (.istore 4, 2) := by decide +kernel
theorem dX5_widest_99 : decode cX5_widest 99 = .ok (.iinc 5 1, 3) := by decide +kernel
theorem dX5_widest_102 : decode cX5_widest 102 = .ok (.goto (-65), 3) := by decide +kernel
theorem dX5_widest_105 : decode cX5_widest 105 = .ok (.aload_n 0, 1) := by decide +kernel
theorem dX5_widest_106 : decode cX5_widest 106 = .ok (.getfield 7, 3) := by decide +kernel
theorem dX5_widest_109 : decode cX5_widest 109 = .ok (.bipush 77, 2) := by decide +kernel
theorem dX5_widest_111 : decode cX5_widest 111 = .ok (.iconst 3, 1) := by decide +kernel
theorem dX5_widest_112 : decode cX5_widest 112 = .ok (.iload_n 1, 1) := by decide +kernel
theorem dX5_widest_113 : decode cX5_widest 113 = .ok (.imul, 1) := by decide +kernel
theorem dX5_widest_114 : decode cX5_widest 114 = .ok (.iadd, 1) := by decide +kernel
theorem dX5_widest_115 : decode cX5_widest 115 = .ok (.iconst 1, 1) := by decide +kernel
theorem dX5_widest_116 : decode cX5_widest 116 = .ok (.iadd, 1) := by decide +kernel
theorem dX5_widest_117 : decode cX5_widest 117 = .ok (.iload_n 2, 1) := by decide +kernel
theorem dX5_widest_118 : decode cX5_widest 118 = .ok (.iastore, 1) := by decide +kernel
theorem dX5_widest_119 : decode cX5_widest 119 = .ok (.iload_n 3, 1) := by decide +kernel
theorem dX5_widest_120 : decode cX5_widest 120 = .ok (.ireturn, 1) := by decide +kernel
theorem dX5_windows_0 : decode cX5_windows 0 = .ok (.aload_n 0, 1) := by decide +kernel
theorem dX5_windows_1 : decode cX5_windows 1 = .ok (.iload_n 1, 1) := by decide +kernel
theorem dX5_windows_2 : decode cX5_windows 2 = .ok (.invokevirtual 104, 3) := by decide +kernel
theorem dX5_windows_5 : decode cX5_windows 5 = .ok (.ifCond .eq 15, 3) := by decide +kernel
theorem dX5_windows_8 : decode cX5_windows 8 = .ok (.iload_n 2, 1) := by decide +kernel
theorem dX5_windows_9 : decode cX5_windows 9 = .ok (.i2l, 1) := by decide +kernel
theorem dX5_windows_10 : decode cX5_windows 10 = .ok (.lconst 0, 1) := by decide +kernel
theorem dX5_windows_11 : decode cX5_windows 11 = .ok (.ldc2_w 107, 3) := by decide +kernel
theorem dX5_windows_14 : decode cX5_windows 14 = .ok (.invokestatic 46, 3) := by decide +kernel
theorem dX5_windows_17 : decode cX5_windows 17 = .ok (.ifCond .ne 10, 3) := by decide +kernel
theorem dX5_windows_20 : decode cX5_windows 20 = .ok (.aload_n 0, 1) := by decide +kernel
theorem dX5_windows_21 : decode cX5_windows 21 = .ok (.ldc 43, 2) := by decide +kernel
theorem dX5_windows_23 : decode cX5_windows 23 = .ok (.invokevirtual 75, 3) := by decide +kernel
theorem dX5_windows_26 : decode cX5_windows 26 = .ok (.ireturn, 1) := by decide +kernel
theorem dX5_windows_27 : decode cX5_windows 27 = .ok (.aload_n 0, 1) := by decide +kernel
theorem dX5_windows_28 : decode cX5_windows 28 = .ok (.iload_n 1, 1) := by decide +kernel
theorem dX5_windows_29 : decode cX5_windows 29 = .ok (.invokevirtual 112, 3) := by decide +kernel
theorem dX5_windows_32 : decode cX5_windows 32 = .ok (.istore_n 3, 1) := by decide +kernel
theorem dX5_windows_33 : decode cX5_windows 33 = .ok (.aload_n 0, 1) := by decide +kernel
theorem dX5_windows_34 : decode cX5_windows 34 = .ok (.getfield 7, 3) := by decide +kernel
theorem dX5_windows_37 : decode cX5_windows 37 = .ok (.bipush 77, 2) := by decide +kernel
theorem dX5_windows_39 : decode cX5_windows 39 = .ok (.iconst 3, 1) := by decide +kernel
theorem dX5_windows_40 : decode cX5_windows 40 = .ok (.iload_n 1, 1) := by decide +kernel
theorem dX5_windows_41 : decode cX5_windows 41 = .ok (.imul, 1) := by decide +kernel
theorem dX5_windows_42 : decode cX5_windows 42 = .ok (.iadd, 1) := by decide +kernel
theorem dX5_windows_43 : decode cX5_windows 43 = .ok (.iconst 2, 1) := by decide +kernel
theorem dX5_windows_44 : decode cX5_windows 44 = .ok (.iadd, 1) := by decide +kernel
theorem dX5_windows_45 : decode cX5_windows 45 = .ok (.iload_n 2, 1) := by decide +kernel
theorem dX5_windows_46 : decode cX5_windows 46 = .ok (.iastore, 1) := by decide +kernel
theorem dX5_windows_47 : decode cX5_windows 47 = .ok (.iload_n 3, 1) := by decide +kernel
theorem dX5_windows_48 : decode cX5_windows 48 = .ok (.ireturn, 1) := by decide +kernel
theorem dX5_wipe_0 : decode cX5_wipe 0 = .ok (.aload_n 0, 1) := by decide +kernel
theorem dX5_wipe_1 : decode cX5_wipe 1 = .ok (.getfield 204, 3) := by decide +kernel
theorem dX5_wipe_4 : decode cX5_wipe 4 = .ok (.istore_n 1, 1) := by decide +kernel
theorem dX5_wipe_5 : decode cX5_wipe 5 = .ok (.aload_n 0, 1) := by decide +kernel
theorem dX5_wipe_6 : decode cX5_wipe 6 = .ok (.iconst 0, 1) := by decide +kernel
theorem dX5_wipe_7 : decode cX5_wipe 7 = .ok (.putfield 204, 3) := by decide +kernel
theorem dX5_wipe_10 : decode cX5_wipe 10 = .ok (.iload_n 1, 1) := by decide +kernel
theorem dX5_wipe_11 : decode cX5_wipe 11 = .ok (.ireturn, 1) := by decide +kernel
theorem dX5_word_0 : decode cX5_word 0 = .ok (.lconst 0, 1) := by decide +kernel
theorem dX5_word_1 : decode cX5_word 1 = .ok (.lstore_n 1, 1) := by decide +kernel
theorem dX5_word_2 : decode cX5_word 2 = .ok (.aload_n 0, 1) := by decide +kernel
theorem dX5_word_3 : decode cX5_word 3 = .ok (.getfield 218, 3) := by decide +kernel
theorem dX5_word_6 : decode cX5_word 6 = .ok (.istore_n 3, 1) := by decide +kernel
theorem dX5_word_7 : decode cX5_word 7 = .ok (.iload_n 3, 1) := by decide +kernel
theorem dX5_word_8 : decode cX5_word 8 = .ok (.aload_n 0, 1) := by decide +kernel
theorem dX5_word_9 : decode cX5_word 9 = .ok (.getfield 215, 3) := by decide +kernel
theorem dX5_word_12 : decode cX5_word 12 = .ok (.if_icmp .ge 38, 3) := by decide +kernel
theorem dX5_word_15 : decode cX5_word 15 = .ok (.lload_n 1, 1) := by decide +kernel
theorem dX5_word_16 : decode cX5_word 16 = .ok (.ldc2_w 237, 3) := by decide +kernel
theorem dX5_word_19 : decode cX5_word 19 = .ok (.lcmp, 1) := by decide +kernel
theorem dX5_word_20 : decode cX5_word 20 = .ok (.ifCond .le 7, 3) := by decide +kernel
theorem dX5_word_23 : decode cX5_word 23 = .ok (.lload_n 1, 1) := by decide +kernel
theorem dX5_word_24 : decode cX5_word 24 = .ok (.goto 19, 3) := by decide +kernel
theorem dX5_word_27 : decode cX5_word 27 = .ok (.ldc2_w 239, 3) := by decide +kernel
theorem dX5_word_30 : decode cX5_word 30 = .ok (.lload_n 1, 1) := by decide +kernel
theorem dX5_word_31 : decode cX5_word 31 = .ok (.lmul, 1) := by decide +kernel
theorem dX5_word_32 : decode cX5_word 32 = .ok (.aload_n 0, 1) := by decide +kernel
theorem dX5_word_33 : decode cX5_word 33 = .ok (.getfield 28, 3) := by decide +kernel
theorem dX5_word_36 : decode cX5_word 36 = .ok (.iload_n 3, 1) := by decide +kernel
theorem dX5_word_37 : decode cX5_word 37 = .ok (.iaload, 1) := by decide +kernel
theorem dX5_word_38 : decode cX5_word 38 = .ok (.bipush 96, 2) := by decide +kernel
theorem dX5_word_40 : decode cX5_word 40 = .ok (.isub, 1) := by decide +kernel
theorem dX5_word_41 : decode cX5_word 41 = .ok (.i2l, 1) := by decide +kernel
theorem dX5_word_42 : decode cX5_word 42 = .ok (.ladd, 1) := by decide +kernel
theorem dX5_word_43 : decode cX5_word 43 = .ok (.lstore_n 1, 1) := by decide +kernel
theorem dX5_word_44 : decode cX5_word 44 = .ok (.iinc 3 1, 3) := by decide +kernel
theorem dX5_word_47 : decode cX5_word 47 = .ok (.goto (-40), 3) := by decide +kernel
theorem dX5_word_50 : decode cX5_word 50 = .ok (.aload_n 0, 1) := by decide +kernel
theorem dX5_word_51 : decode cX5_word 51 = .ok (.getfield 230, 3) := by decide +kernel
theorem dX5_word_54 : decode cX5_word 54 = .ok (.ifCond .ne 17, 3) := by decide +kernel
theorem dX5_word_57 : decode cX5_word 57 = .ok (.aload_n 0, 1) := by decide +kernel
theorem dX5_word_58 : decode cX5_word 58 = .ok (.aload_n 0, 1) := by decide +kernel
theorem dX5_word_59 : decode cX5_word 59 = .ok (.getfield 218, 3) := by decide +kernel
theorem dX5_word_62 : decode cX5_word 62 = .ok (.invokevirtual 221, 3) := by decide +kernel
theorem dX5_word_65 : decode cX5_word 65 = .ok (.invokestatic 224, 3) := by decide +kernel
theorem dX5_word_68 : decode cX5_word 68 = .ok (.ifCond .ne 7, 3) := by decide +kernel
theorem dX5_word_71 : decode cX5_word 71 = .ok (.lconst 0, 1) := by decide +kernel
theorem dX5_word_72 : decode cX5_word 72 = .ok (.goto 4, 3) := by decide +kernel
theorem dX5_word_75 : decode cX5_word 75 = .ok (.lload_n 1, 1) := by decide +kernel
theorem dX5_word_76 : decode cX5_word 76 = .ok (.lreturn, 1) := by decide +kernel
theorem dX5_worth_0 : decode cX5_worth 0 = .ok (.aload_n 0, 1) := by decide +kernel
theorem dX5_worth_1 : decode cX5_worth 1 = .ok (.iload_n 1, 1) := by decide +kernel
theorem dX5_worth_2 : decode cX5_worth 2 = .ok (.invokevirtual 67, 3) := by decide +kernel
theorem dX5_worth_5 : decode cX5_worth 5 = .ok (.tableswitch 48 1 6 #[39, 41, 43, 46, 48, 41], 39) := by decide +kernel
theorem dX5_worth_44 : decode cX5_worth 44 = .ok (.iconst 5, 1) := by decide +kernel
theorem dX5_worth_45 : decode cX5_worth 45 = .ok (.ireturn, 1) := by decide +kernel
theorem dX5_worth_46 : decode cX5_worth 46 = .ok (.iconst 3, 1) := by decide +kernel
theorem dX5_worth_47 : decode cX5_worth 47 = .ok (.ireturn, 1) := by decide +kernel
theorem dX5_worth_48 : decode cX5_worth 48 = .ok (.bipush 20, 2) := by decide +kernel
theorem dX5_worth_50 : decode cX5_worth 50 = .ok (.ireturn, 1) := by decide +kernel
theorem dX5_worth_51 : decode cX5_worth 51 = .ok (.iconst 0, 1) := by decide +kernel
theorem dX5_worth_52 : decode cX5_worth 52 = .ok (.ireturn, 1) := by decide +kernel
theorem dX5_worth_53 : decode cX5_worth 53 = .ok (.iconst 1, 1) := by decide +kernel
theorem dX5_worth_54 : decode cX5_worth 54 = .ok (.ireturn, 1) := by decide +kernel
theorem dX5_write_0 : decode cX5_write 0 = .ok (.aload_n 0, 1) := by decide +kernel
theorem dX5_write_1 : decode cX5_write 1 = .ok (.iload_n 1, 1) := by decide +kernel
theorem dX5_write_2 : decode cX5_write 2 = .ok (.invokevirtual 314, 3) := by decide +kernel
theorem dX5_write_5 : decode cX5_write 5 = .ok (.istore 4, 2) := by decide +kernel
theorem dX5_write_7 : decode cX5_write 7 = .ok (.iload 4, 2) := by decide +kernel
theorem dX5_write_9 : decode cX5_write 9 = .ok (.ifCond .eq 10, 3) := by decide +kernel
theorem dX5_write_12 : decode cX5_write 12 = .ok (.aload_n 0, 1) := by decide +kernel
theorem dX5_write_13 : decode cX5_write 13 = .ok (.iload 4, 2) := by decide +kernel
theorem dX5_write_15 : decode cX5_write 15 = .ok (.invokevirtual 75, 3) := by decide +kernel
theorem dX5_write_18 : decode cX5_write 18 = .ok (.ireturn, 1) := by decide +kernel
theorem dX5_write_19 : decode cX5_write 19 = .ok (.iload_n 2, 1) := by decide +kernel
theorem dX5_write_20 : decode cX5_write 20 = .ok (.i2l, 1) := by decide +kernel
theorem dX5_write_21 : decode cX5_write 21 = .ok (.lconst 0, 1) := by decide +kernel
theorem dX5_write_22 : decode cX5_write 22 = .ok (.aload_n 0, 1) := by decide +kernel
theorem dX5_write_23 : decode cX5_write 23 = .ok (.getfield 34, 3) := by decide +kernel
theorem dX5_write_26 : decode cX5_write 26 = .ok (.iload_n 1, 1) := by decide +kernel
theorem dX5_write_27 : decode cX5_write 27 = .ok (.iaload, 1) := by decide +kernel
theorem dX5_write_28 : decode cX5_write 28 = .ok (.iconst 1, 1) := by decide +kernel
theorem dX5_write_29 : decode cX5_write 29 = .ok (.isub, 1) := by decide +kernel
theorem dX5_write_30 : decode cX5_write 30 = .ok (.i2l, 1) := by decide +kernel
theorem dX5_write_31 : decode cX5_write 31 = .ok (.invokestatic 46, 3) := by decide +kernel
theorem dX5_write_34 : decode cX5_write 34 = .ok (.ifCond .ne 10, 3) := by decide +kernel
theorem dX5_write_37 : decode cX5_write 37 = .ok (.aload_n 0, 1) := by decide +kernel
theorem dX5_write_38 : decode cX5_write 38 = .ok (.ldc 43, 2) := by decide +kernel
theorem dX5_write_40 : decode cX5_write 40 = .ok (.invokevirtual 75, 3) := by decide +kernel
theorem dX5_write_43 : decode cX5_write 43 = .ok (.ireturn, 1) := by decide +kernel
theorem dX5_write_44 : decode cX5_write 44 = .ok (.aload_n 0, 1) := by decide +kernel
theorem dX5_write_45 : decode cX5_write 45 = .ok (.getfield 37, 3) := by decide +kernel
theorem dX5_write_48 : decode cX5_write 48 = .ok (.bipush 40, 2) := by decide +kernel
theorem dX5_write_50 : decode cX5_write 50 = .ok (.iload_n 1, 1) := by decide +kernel
theorem dX5_write_51 : decode cX5_write 51 = .ok (.imul, 1) := by decide +kernel
theorem dX5_write_52 : decode cX5_write 52 = .ok (.iload_n 2, 1) := by decide +kernel
theorem dX5_write_53 : decode cX5_write 53 = .ok (.iadd, 1) := by decide +kernel
theorem dX5_write_54 : decode cX5_write 54 = .ok (.aload_n 0, 1) := by decide +kernel
theorem dX5_write_55 : decode cX5_write 55 = .ok (.getfield 31, 3) := by decide +kernel
theorem dX5_write_58 : decode cX5_write 58 = .ok (.iload_n 1, 1) := by decide +kernel
theorem dX5_write_59 : decode cX5_write 59 = .ok (.iaload, 1) := by decide +kernel
theorem dX5_write_60 : decode cX5_write 60 = .ok (.iload_n 3, 1) := by decide +kernel
theorem dX5_write_61 : decode cX5_write 61 = .ok (.invokestatic 317, 3) := by decide +kernel
theorem dX5_write_64 : decode cX5_write 64 = .ok (.iastore, 1) := by decide +kernel
theorem dX5_write_65 : decode cX5_write 65 = .ok (.iconst 1, 1) := by decide +kernel
theorem dX5_write_66 : decode cX5_write 66 = .ok (.ireturn, 1) := by decide +kernel
theorem dX5_wrong_0 : decode cX5_wrong 0 = .ok (.iload_n 1, 1) := by decide +kernel
theorem dX5_wrong_1 : decode cX5_wrong 1 = .ok (.invokestatic 310, 3) := by decide +kernel
theorem dX5_wrong_4 : decode cX5_wrong 4 = .ok (.ifCond .ne 8, 3) := by decide +kernel
theorem dX5_wrong_7 : decode cX5_wrong 7 = .ok (.ldc 43, 2) := by decide +kernel
theorem dX5_wrong_9 : decode cX5_wrong 9 = .ok (.goto 19, 3) := by decide +kernel
theorem dX5_wrong_12 : decode cX5_wrong 12 = .ok (.aload_n 0, 1) := by decide +kernel
theorem dX5_wrong_13 : decode cX5_wrong 13 = .ok (.getfield 31, 3) := by decide +kernel
theorem dX5_wrong_16 : decode cX5_wrong 16 = .ok (.iload_n 1, 1) := by decide +kernel
theorem dX5_wrong_17 : decode cX5_wrong 17 = .ok (.iaload, 1) := by decide +kernel
theorem dX5_wrong_18 : decode cX5_wrong 18 = .ok (.ifCond .ne 9, 3) := by decide +kernel
theorem dX5_wrong_21 : decode cX5_wrong 21 = .ok (.ldc_w 308, 3) := by decide +kernel
theorem dX5_wrong_24 : decode cX5_wrong 24 = .ok (.goto 4, 3) := by decide +kernel
theorem dX5_wrong_27 : decode cX5_wrong 27 = .ok (.iconst 0, 1) := by decide +kernel
theorem dX5_wrong_28 : decode cX5_wrong 28 = .ok (.ireturn, 1) := by decide +kernel
theorem dX5_year_0 : decode cX5_year 0 = .ok (.aload_n 0, 1) := by decide +kernel
theorem dX5_year_1 : decode cX5_year 1 = .ok (.getfield 7, 3) := by decide +kernel
theorem dX5_year_4 : decode cX5_year 4 = .ok (.iconst 0, 1) := by decide +kernel
theorem dX5_year_5 : decode cX5_year 5 = .ok (.dup2, 1) := by decide +kernel
theorem dX5_year_6 : decode cX5_year 6 = .ok (.iaload, 1) := by decide +kernel
theorem dX5_year_7 : decode cX5_year 7 = .ok (.iconst 1, 1) := by decide +kernel
theorem dX5_year_8 : decode cX5_year 8 = .ok (.iadd, 1) := by decide +kernel
theorem dX5_year_9 : decode cX5_year 9 = .ok (.iastore, 1) := by decide +kernel
theorem dX5_year_10 : decode cX5_year 10 = .ok (.iconst 0, 1) := by decide +kernel
theorem dX5_year_11 : decode cX5_year 11 = .ok (.istore_n 1, 1) := by decide +kernel
theorem dX5_year_12 : decode cX5_year 12 = .ok (.iload_n 1, 1) := by decide +kernel
theorem dX5_year_13 : decode cX5_year 13 = .ok (.bipush 24, 2) := by decide +kernel
theorem dX5_year_15 : decode cX5_year 15 = .ok (.if_icmp .ge 39, 3) := by decide +kernel
theorem dX5_year_18 : decode cX5_year 18 = .ok (.aload_n 0, 1) := by decide +kernel
theorem dX5_year_19 : decode cX5_year 19 = .ok (.getfield 7, 3) := by decide +kernel
theorem dX5_year_22 : decode cX5_year 22 = .ok (.iconst 5, 1) := by decide +kernel
theorem dX5_year_23 : decode cX5_year 23 = .ok (.iconst 3, 1) := by decide +kernel
theorem dX5_year_24 : decode cX5_year 24 = .ok (.iload_n 1, 1) := by decide +kernel
theorem dX5_year_25 : decode cX5_year 25 = .ok (.imul, 1) := by decide +kernel
theorem dX5_year_26 : decode cX5_year 26 = .ok (.iadd, 1) := by decide +kernel
theorem dX5_year_27 : decode cX5_year 27 = .ok (.iconst 2, 1) := by decide +kernel
theorem dX5_year_28 : decode cX5_year 28 = .ok (.iadd, 1) := by decide +kernel
theorem dX5_year_29 : decode cX5_year 29 = .ok (.dup2, 1) := by decide +kernel
theorem dX5_year_30 : decode cX5_year 30 = .ok (.iaload, 1) := by decide +kernel
theorem dX5_year_31 : decode cX5_year 31 = .ok (.aload_n 0, 1) := by decide +kernel
theorem dX5_year_32 : decode cX5_year 32 = .ok (.iload_n 1, 1) := by decide +kernel
theorem dX5_year_33 : decode cX5_year 33 = .ok (.invokevirtual 63, 3) := by decide +kernel
theorem dX5_year_36 : decode cX5_year 36 = .ok (.bipush 99, 2) := by decide +kernel
theorem dX5_year_38 : decode cX5_year 38 = .ok (.if_icmp .ge 7, 3) := by decide +kernel
theorem dX5_year_41 : decode cX5_year 41 = .ok (.iconst 1, 1) := by decide +kernel
theorem dX5_year_42 : decode cX5_year 42 = .ok (.goto 4, 3) := by decide +kernel
theorem dX5_year_45 : decode cX5_year 45 = .ok (.iconst 0, 1) := by decide +kernel
theorem dX5_year_46 : decode cX5_year 46 = .ok (.iadd, 1) := by decide +kernel
theorem dX5_year_47 : decode cX5_year 47 = .ok (.iastore, 1) := by decide +kernel
theorem dX5_year_48 : decode cX5_year 48 = .ok (.iinc 1 1, 3) := by decide +kernel
theorem dX5_year_51 : decode cX5_year 51 = .ok (.goto (-39), 3) := by decide +kernel
theorem dX5_year_54 : decode cX5_year 54 = .ok (.return_, 1) := by decide +kernel
theorem dX5_years_0 : decode cX5_years 0 = .ok (.iload_n 1, 1) := by decide +kernel
theorem dX5_years_1 : decode cX5_years 1 = .ok (.i2l, 1) := by decide +kernel
theorem dX5_years_2 : decode cX5_years 2 = .ok (.lconst 1, 1) := by decide +kernel
theorem dX5_years_3 : decode cX5_years 3 = .ok (.ldc2_w 54, 3) := by decide +kernel
theorem dX5_years_6 : decode cX5_years 6 = .ok (.invokestatic 46, 3) := by decide +kernel
theorem dX5_years_9 : decode cX5_years 9 = .ok (.ifCond .ne 10, 3) := by decide +kernel
theorem dX5_years_12 : decode cX5_years 12 = .ok (.aload_n 0, 1) := by decide +kernel
theorem dX5_years_13 : decode cX5_years 13 = .ok (.ldc 43, 2) := by decide +kernel
theorem dX5_years_15 : decode cX5_years 15 = .ok (.invokevirtual 75, 3) := by decide +kernel
theorem dX5_years_18 : decode cX5_years 18 = .ok (.ireturn, 1) := by decide +kernel
theorem dX5_years_19 : decode cX5_years 19 = .ok (.aload_n 0, 1) := by decide +kernel
theorem dX5_years_20 : decode cX5_years 20 = .ok (.iload_n 1, 1) := by decide +kernel
theorem dX5_years_21 : decode cX5_years 21 = .ok (.invokevirtual 168, 3) := by decide +kernel
theorem dX5_years_24 : decode cX5_years 24 = .ok (.ifCond .eq 10, 3) := by decide +kernel
theorem dX5_years_27 : decode cX5_years 27 = .ok (.aload_n 0, 1) := by decide +kernel
theorem dX5_years_28 : decode cX5_years 28 = .ok (.ldc 144, 2) := by decide +kernel
theorem dX5_years_30 : decode cX5_years 30 = .ok (.invokevirtual 75, 3) := by decide +kernel
theorem dX5_years_33 : decode cX5_years 33 = .ok (.ireturn, 1) := by decide +kernel
theorem dX5_years_34 : decode cX5_years 34 = .ok (.aload_n 0, 1) := by decide +kernel
theorem dX5_years_35 : decode cX5_years 35 = .ok (.iload_n 1, 1) := by decide +kernel
theorem dX5_years_36 : decode cX5_years 36 = .ok (.invokevirtual 174, 3) := by decide +kernel
theorem dX5_years_39 : decode cX5_years 39 = .ok (.aload_n 0, 1) := by decide +kernel
theorem dX5_years_40 : decode cX5_years 40 = .ok (.getfield 7, 3) := by decide +kernel
theorem dX5_years_43 : decode cX5_years 43 = .ok (.iconst 0, 1) := by decide +kernel
theorem dX5_years_44 : decode cX5_years 44 = .ok (.iaload, 1) := by decide +kernel
theorem dX5_years_45 : decode cX5_years 45 = .ok (.ireturn, 1) := by decide +kernel
theorem dX5_yearsGo_0 : decode cX5_yearsGo 0 = .ok (.iconst 0, 1) := by decide +kernel
theorem dX5_yearsGo_1 : decode cX5_yearsGo 1 = .ok (.istore_n 2, 1) := by decide +kernel
theorem dX5_yearsGo_2 : decode cX5_yearsGo 2 = .ok (.iload_n 2, 1) := by decide +kernel
theorem dX5_yearsGo_3 : decode cX5_yearsGo 3 = .ok (.iload_n 1, 1) := by decide +kernel
theorem dX5_yearsGo_4 : decode cX5_yearsGo 4 = .ok (.if_icmp .ge 13, 3) := by decide +kernel
theorem dX5_yearsGo_7 : decode cX5_yearsGo 7 = .ok (.aload_n 0, 1) := by decide +kernel
theorem dX5_yearsGo_8 : decode cX5_yearsGo 8 = .ok (.invokevirtual 162, 3) := by decide +kernel
theorem dX5_yearsGo_11 : decode cX5_yearsGo 11 = .ok (.iinc 2 1, 3) := by decide +kernel
theorem dX5_yearsGo_14 : decode cX5_yearsGo 14 = .ok (.goto (-12), 3) := by decide +kernel
theorem dX5_yearsGo_17 : decode cX5_yearsGo 17 = .ok (.return_, 1) := by decide +kernel
