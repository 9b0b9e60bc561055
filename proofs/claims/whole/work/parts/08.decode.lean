theorem dX4_ahead_0 : decode cX4_ahead 0 = .ok (.iload_n 1, 1) := by decide +kernel
theorem dX4_ahead_1 : decode cX4_ahead 1 = .ok (.invokestatic 174, 3) := by decide +kernel
theorem dX4_ahead_4 : decode cX4_ahead 4 = .ok (.ifCond .eq 18, 3) := by decide +kernel
theorem dX4_ahead_7 : decode cX4_ahead 7 = .ok (.iload_n 2, 1) := by decide +kernel
theorem dX4_ahead_8 : decode cX4_ahead 8 = .ok (.iconst 0, 1) := by decide +kernel
theorem dX4_ahead_9 : decode cX4_ahead 9 = .ok (.aload_n 0, 1) := by decide +kernel
theorem dX4_ahead_10 : decode cX4_ahead 10 = .ok (.getfield 10, 3) := by decide +kernel
theorem dX4_ahead_13 : decode cX4_ahead 13 = .ok (.getfield 98, 3) := by decide +kernel
theorem dX4_ahead_16 : decode cX4_ahead 16 = .ok (.invokestatic 51, 3) := by decide +kernel
theorem dX4_ahead_19 : decode cX4_ahead 19 = .ok (.ifCond .ne 9, 3) := by decide +kernel
theorem dX4_ahead_22 : decode cX4_ahead 22 = .ok (.aload_n 0, 1) := by decide +kernel
theorem dX4_ahead_23 : decode cX4_ahead 23 = .ok (.iconst 0, 1) := by decide +kernel
theorem dX4_ahead_24 : decode cX4_ahead 24 = .ok (.invokevirtual 55, 3) := by decide +kernel
theorem dX4_ahead_27 : decode cX4_ahead 27 = .ok (.ireturn, 1) := by decide +kernel
theorem dX4_ahead_28 : decode cX4_ahead 28 = .ok (.aload_n 0, 1) := by decide +kernel
theorem dX4_ahead_29 : decode cX4_ahead 29 = .ok (.iload_n 1, 1) := by decide +kernel
theorem dX4_ahead_30 : decode cX4_ahead 30 = .ok (.invokevirtual 177, 3) := by decide +kernel
theorem dX4_ahead_33 : decode cX4_ahead 33 = .ok (.ifCond .eq 9, 3) := by decide +kernel
theorem dX4_ahead_36 : decode cX4_ahead 36 = .ok (.aload_n 0, 1) := by decide +kernel
theorem dX4_ahead_37 : decode cX4_ahead 37 = .ok (.iconst 4, 1) := by decide +kernel
theorem dX4_ahead_38 : decode cX4_ahead 38 = .ok (.invokevirtual 55, 3) := by decide +kernel
theorem dX4_ahead_41 : decode cX4_ahead 41 = .ok (.ireturn, 1) := by decide +kernel
theorem dX4_ahead_42 : decode cX4_ahead 42 = .ok (.aload_n 0, 1) := by decide +kernel
theorem dX4_ahead_43 : decode cX4_ahead 43 = .ok (.iload_n 1, 1) := by decide +kernel
theorem dX4_ahead_44 : decode cX4_ahead 44 = .ok (.invokevirtual 183, 3) := by decide +kernel
theorem dX4_ahead_47 : decode cX4_ahead 47 = .ok (.iload_n 2, 1) := by decide +kernel
theorem dX4_ahead_48 : decode cX4_ahead 48 = .ok (.ifCond .ne 13, 3) := by decide +kernel
theorem dX4_ahead_51 : decode cX4_ahead 51 = .ok (.aload_n 0, 1) := by decide +kernel
theorem dX4_ahead_52 : decode cX4_ahead 52 = .ok (.getfield 16, 3) := by decide +kernel
theorem dX4_ahead_55 : decode cX4_ahead 55 = .ok (.invokevirtual 149, 3) := by decide +kernel
theorem dX4_ahead_58 : decode cX4_ahead 58 = .ok (.goto 13, 3) := by decide +kernel
theorem dX4_ahead_61 : decode cX4_ahead 61 = .ok (.aload_n 0, 1) := by decide +kernel
theorem dX4_ahead_62 : decode cX4_ahead 62 = .ok (.getfield 16, 3) := by decide +kernel
theorem dX4_ahead_65 : decode cX4_ahead 65 = .ok (.iload_n 2, 1) := by decide +kernel
theorem dX4_ahead_66 : decode cX4_ahead 66 = .ok (.iconst 1, 1) := by decide +kernel
theorem dX4_ahead_67 : decode cX4_ahead 67 = .ok (.isub, 1) := by decide +kernel
theorem dX4_ahead_68 : decode cX4_ahead 68 = .ok (.invokevirtual 146, 3) := by decide +kernel
theorem dX4_ahead_71 : decode cX4_ahead 71 = .ok (.ireturn, 1) := by decide +kernel
theorem dX4_all_0 : decode cX4_all 0 = .ok (.aload_n 0, 1) := by decide +kernel
theorem dX4_all_1 : decode cX4_all 1 = .ok (.getfield 10, 3) := by decide +kernel
theorem dX4_all_4 : decode cX4_all 4 = .ok (.invokevirtual 149, 3) := by decide +kernel
theorem dX4_all_7 : decode cX4_all 7 = .ok (.ireturn, 1) := by decide +kernel
theorem dX4_as_0 : decode cX4_as 0 = .ok (.iload_n 1, 1) := by decide +kernel
theorem dX4_as_1 : decode cX4_as 1 = .ok (.invokestatic 229, 3) := by decide +kernel
theorem dX4_as_4 : decode cX4_as 4 = .ok (.ifCond .eq 10, 3) := by decide +kernel
theorem dX4_as_7 : decode cX4_as 7 = .ok (.iload_n 2, 1) := by decide +kernel
theorem dX4_as_8 : decode cX4_as 8 = .ok (.invokestatic 72, 3) := by decide +kernel
theorem dX4_as_11 : decode cX4_as 11 = .ok (.ifCond .ne 9, 3) := by decide +kernel
theorem dX4_as_14 : decode cX4_as 14 = .ok (.aload_n 0, 1) := by decide +kernel
theorem dX4_as_15 : decode cX4_as 15 = .ok (.iconst 0, 1) := by decide +kernel
theorem dX4_as_16 : decode cX4_as 16 = .ok (.invokevirtual 55, 3) := by decide +kernel
theorem dX4_as_19 : decode cX4_as 19 = .ok (.ireturn, 1) := by decide +kernel
theorem dX4_as_20 : decode cX4_as 20 = .ok (.aload_n 0, 1) := by decide +kernel
theorem dX4_as_21 : decode cX4_as 21 = .ok (.getfield 10, 3) := by decide +kernel
theorem dX4_as_24 : decode cX4_as 24 = .ok (.getfield 232, 3) := by decide +kernel
theorem dX4_as_27 : decode cX4_as 27 = .ok (.iload_n 1, 1) := by decide +kernel
theorem dX4_as_28 : decode cX4_as 28 = .ok (.iaload, 1) := by decide +kernel
theorem dX4_as_29 : decode cX4_as 29 = .ok (.istore_n 3, 1) := by decide +kernel
theorem dX4_as_30 : decode cX4_as 30 = .ok (.iload_n 3, 1) := by decide +kernel
theorem dX4_as_31 : decode cX4_as 31 = .ok (.invokestatic 47, 3) := by decide +kernel
theorem dX4_as_34 : decode cX4_as 34 = .ok (.ifCond .ne 9, 3) := by decide +kernel
theorem dX4_as_37 : decode cX4_as 37 = .ok (.aload_n 0, 1) := by decide +kernel
theorem dX4_as_38 : decode cX4_as 38 = .ok (.iconst 5, 1) := by decide +kernel
theorem dX4_as_39 : decode cX4_as 39 = .ok (.invokevirtual 55, 3) := by decide +kernel
theorem dX4_as_42 : decode cX4_as 42 = .ok (.ireturn, 1) := by decide +kernel
theorem dX4_as_43 : decode cX4_as 43 = .ok (.aload_n 0, 1) := by decide +kernel
theorem dX4_as_44 : decode cX4_as 44 = .ok (.getfield 10, 3) := by decide +kernel
theorem dX4_as_47 : decode cX4_as 47 = .ok (.getfield 75, 3) := by decide +kernel
theorem dX4_as_50 : decode cX4_as 50 = .ok (.iload_n 3, 1) := by decide +kernel
theorem dX4_as_51 : decode cX4_as 51 = .ok (.iaload, 1) := by decide +kernel
theorem dX4_as_52 : decode cX4_as 52 = .ok (.iload_n 2, 1) := by decide +kernel
theorem dX4_as_53 : decode cX4_as 53 = .ok (.invokestatic 235, 3) := by decide +kernel
theorem dX4_as_56 : decode cX4_as 56 = .ok (.ifCond .eq 7, 3) := by decide +kernel
theorem dX4_as_59 : decode cX4_as 59 = .ok (.iload_n 3, 1) := by decide +kernel
theorem dX4_as_60 : decode cX4_as 60 = .ok (.goto 8, 3) := by decide +kernel
theorem dX4_as_63 : decode cX4_as 63 = .ok (.aload_n 0, 1) := by decide +kernel
theorem dX4_as_64 : decode cX4_as 64 = .ok (.iconst 2, 1) := by decide +kernel
theorem dX4_as_65 : decode cX4_as 65 = .ok (.invokevirtual 55, 3) := by decide +kernel
theorem dX4_as_68 : decode cX4_as 68 = .ok (.ireturn, 1) := by decide +kernel
theorem dX4_blind_0 : decode cX4_blind 0 = .ok (.ldc 194, 2) := by decide +kernel
theorem dX4_blind_2 : decode cX4_blind 2 = .ok (.aload_n 0, 1) := by decide +kernel
theorem dX4_blind_3 : decode cX4_blind 3 = .ok (.getfield 10, 3) := by decide +kernel
theorem dX4_blind_6 : decode cX4_blind 6 = .ok (.invokevirtual 195, 3) := by decide +kernel
theorem dX4_blind_9 : decode cX4_blind 9 = .ok (.iconst (-1), 1) := by decide +kernel
theorem dX4_blind_10 : decode cX4_blind 10 = .ok (.ixor, 1) := by decide +kernel
theorem dX4_blind_11 : decode cX4_blind 11 = .ok (.iand, 1) := by decide +kernel
theorem dX4_blind_12 : decode cX4_blind 12 = .ok (.ireturn, 1) := by decide +kernel
theorem dX4_cell_0 : decode cX4_cell 0 = .ok (.iload_n 1, 1) := by decide +kernel
theorem dX4_cell_1 : decode cX4_cell 1 = .ok (.invokestatic 47, 3) := by decide +kernel
theorem dX4_cell_4 : decode cX4_cell 4 = .ok (.ifCond .eq 22, 3) := by decide +kernel
theorem dX4_cell_7 : decode cX4_cell 7 = .ok (.iload_n 2, 1) := by decide +kernel
theorem dX4_cell_8 : decode cX4_cell 8 = .ok (.iconst 0, 1) := by decide +kernel
theorem dX4_cell_9 : decode cX4_cell 9 = .ok (.iconst 1, 1) := by decide +kernel
theorem dX4_cell_10 : decode cX4_cell 10 = .ok (.invokestatic 51, 3) := by decide +kernel
theorem dX4_cell_13 : decode cX4_cell 13 = .ok (.ifCond .eq 13, 3) := by decide +kernel
theorem dX4_cell_16 : decode cX4_cell 16 = .ok (.iload_n 3, 1) := by decide +kernel
theorem dX4_cell_17 : decode cX4_cell 17 = .ok (.iconst 0, 1) := by decide +kernel
theorem dX4_cell_18 : decode cX4_cell 18 = .ok (.bipush 99, 2) := by decide +kernel
theorem dX4_cell_20 : decode cX4_cell 20 = .ok (.invokestatic 51, 3) := by decide +kernel
theorem dX4_cell_23 : decode cX4_cell 23 = .ok (.ifCond .ne 9, 3) := by decide +kernel
theorem dX4_cell_26 : decode cX4_cell 26 = .ok (.aload_n 0, 1) := by decide +kernel
theorem dX4_cell_27 : decode cX4_cell 27 = .ok (.iconst 0, 1) := by decide +kernel
theorem dX4_cell_28 : decode cX4_cell 28 = .ok (.invokevirtual 55, 3) := by decide +kernel
theorem dX4_cell_31 : decode cX4_cell 31 = .ok (.ireturn, 1) := by decide +kernel
theorem dX4_cell_32 : decode cX4_cell 32 = .ok (.iload_n 2, 1) := by decide +kernel
theorem dX4_cell_33 : decode cX4_cell 33 = .ok (.ifCond .ne 26, 3) := by decide +kernel
theorem dX4_cell_36 : decode cX4_cell 36 = .ok (.aload_n 0, 1) := by decide +kernel
theorem dX4_cell_37 : decode cX4_cell 37 = .ok (.getfield 10, 3) := by decide +kernel
theorem dX4_cell_40 : decode cX4_cell 40 = .ok (.getfield 59, 3) := by decide +kernel
theorem dX4_cell_43 : decode cX4_cell 43 = .ok (.iload_n 1, 1) := by decide +kernel
theorem dX4_cell_44 : decode cX4_cell 44 = .ok (.iaload, 1) := by decide +kernel
theorem dX4_cell_45 : decode cX4_cell 45 = .ok (.istore 4, 2) := by decide +kernel
theorem dX4_cell_47 : decode cX4_cell 47 = .ok (.aload_n 0, 1) := by decide +kernel
theorem dX4_cell_48 : decode cX4_cell 48 = .ok (.getfield 10, 3) := by decide +kernel
theorem dX4_cell_51 : decode cX4_cell 51 = .ok (.iload_n 1, 1) := by decide +kernel
theorem dX4_cell_52 : decode cX4_cell 52 = .ok (.iload_n 3, 1) := by decide +kernel
theorem dX4_cell_53 : decode cX4_cell 53 = .ok (.invokevirtual 62, 3) := by decide +kernel
theorem dX4_cell_56 : decode cX4_cell 56 = .ok (.iload 4, 2) := by decide +kernel
theorem dX4_cell_58 : decode cX4_cell 58 = .ok (.ireturn, 1) := by decide +kernel
theorem dX4_cell_59 : decode cX4_cell 59 = .ok (.aload_n 0, 1) := by decide +kernel
theorem dX4_cell_60 : decode cX4_cell 60 = .ok (.getfield 10, 3) := by decide +kernel
theorem dX4_cell_63 : decode cX4_cell 63 = .ok (.getfield 66, 3) := by decide +kernel
theorem dX4_cell_66 : decode cX4_cell 66 = .ok (.iload_n 1, 1) := by decide +kernel
theorem dX4_cell_67 : decode cX4_cell 67 = .ok (.iaload, 1) := by decide +kernel
theorem dX4_cell_68 : decode cX4_cell 68 = .ok (.istore 4, 2) := by decide +kernel
theorem dX4_cell_70 : decode cX4_cell 70 = .ok (.aload_n 0, 1) := by decide +kernel
theorem dX4_cell_71 : decode cX4_cell 71 = .ok (.getfield 10, 3) := by decide +kernel
theorem dX4_cell_74 : decode cX4_cell 74 = .ok (.iload_n 1, 1) := by decide +kernel
theorem dX4_cell_75 : decode cX4_cell 75 = .ok (.iload_n 3, 1) := by decide +kernel
theorem dX4_cell_76 : decode cX4_cell 76 = .ok (.invokevirtual 69, 3) := by decide +kernel
theorem dX4_cell_79 : decode cX4_cell 79 = .ok (.iload 4, 2) := by decide +kernel
theorem dX4_cell_81 : decode cX4_cell 81 = .ok (.ireturn, 1) := by decide +kernel
theorem dX4_cellOf_0 : decode cX4_cellOf 0 = .ok (.iload_n 1, 1) := by decide +kernel
theorem dX4_cellOf_1 : decode cX4_cellOf 1 = .ok (.invokestatic 47, 3) := by decide +kernel
theorem dX4_cellOf_4 : decode cX4_cellOf 4 = .ok (.ifCond .ne 9, 3) := by decide +kernel
theorem dX4_cellOf_7 : decode cX4_cellOf 7 = .ok (.aload_n 0, 1) := by decide +kernel
theorem dX4_cellOf_8 : decode cX4_cellOf 8 = .ok (.iconst 0, 1) := by decide +kernel
theorem dX4_cellOf_9 : decode cX4_cellOf 9 = .ok (.invokevirtual 55, 3) := by decide +kernel
theorem dX4_cellOf_12 : decode cX4_cellOf 12 = .ok (.ireturn, 1) := by decide +kernel
theorem dX4_cellOf_13 : decode cX4_cellOf 13 = .ok (.iload_n 2, 1) := by decide +kernel
theorem dX4_cellOf_14 : decode cX4_cellOf 14 = .ok (.tableswitch 83 0 4 #[34, 44, 54, 64, 74], 34) := by decide +kernel
theorem dX4_cellOf_48 : decode cX4_cellOf 48 = .ok (.aload_n 0, 1) := by decide +kernel
theorem dX4_cellOf_49 : decode cX4_cellOf 49 = .ok (.getfield 10, 3) := by decide +kernel
theorem dX4_cellOf_52 : decode cX4_cellOf 52 = .ok (.getfield 75, 3) := by decide +kernel
theorem dX4_cellOf_55 : decode cX4_cellOf 55 = .ok (.iload_n 1, 1) := by decide +kernel
theorem dX4_cellOf_56 : decode cX4_cellOf 56 = .ok (.iaload, 1) := by decide +kernel
theorem dX4_cellOf_57 : decode cX4_cellOf 57 = .ok (.ireturn, 1) := by decide +kernel
theorem dX4_cellOf_58 : decode cX4_cellOf 58 = .ok (.aload_n 0, 1) := by decide +kernel
theorem dX4_cellOf_59 : decode cX4_cellOf 59 = .ok (.getfield 10, 3) := by decide +kernel
theorem dX4_cellOf_62 : decode cX4_cellOf 62 = .ok (.getfield 59, 3) := by decide +kernel
theorem dX4_cellOf_65 : decode cX4_cellOf 65 = .ok (.iload_n 1, 1) := by decide +kernel
theorem dX4_cellOf_66 : decode cX4_cellOf 66 = .ok (.iaload, 1) := by decide +kernel
theorem dX4_cellOf_67 : decode cX4_cellOf 67 = .ok (.ireturn, 1) := by decide +kernel
theorem dX4_cellOf_68 : decode cX4_cellOf 68 = .ok (.aload_n 0, 1) := by decide +kernel
theorem dX4_cellOf_69 : decode cX4_cellOf 69 = .ok (.getfield 10, 3) := by decide +kernel
theorem dX4_cellOf_72 : decode cX4_cellOf 72 = .ok (.getfield 66, 3) := by decide +kernel
theorem dX4_cellOf_75 : decode cX4_cellOf 75 = .ok (.iload_n 1, 1) := by decide +kernel
theorem dX4_cellOf_76 : decode cX4_cellOf 76 = .ok (.iaload, 1) := by decide +kernel
theorem dX4_cellOf_77 : decode cX4_cellOf 77 = .ok (.ireturn, 1) := by decide +kernel
theorem dX4_cellOf_78 : decode cX4_cellOf 78 = .ok (.aload_n 0, 1) := by decide +kernel
theorem dX4_cellOf_79 : decode cX4_cellOf 79 = .ok (.getfield 10, 3) := by decide +kernel
theorem dX4_cellOf_82 : decode cX4_cellOf 82 = .ok (.getfield 81, 3) := by decide +kernel
theorem dX4_cellOf_85 : decode cX4_cellOf 85 = .ok (.iload_n 1, 1) := by decide +kernel
theorem dX4_cellOf_86 : decode cX4_cellOf 86 = .ok (.iaload, 1) := by decide +kernel
theorem dX4_cellOf_87 : decode cX4_cellOf 87 = .ok (.ireturn, 1) := by decide +kernel
theorem dX4_cellOf_88 : decode cX4_cellOf 88 = .ok (.aload_n 0, 1) := by decide +kernel
theorem dX4_cellOf_89 : decode cX4_cellOf 89 = .ok (.getfield 10, 3) := by decide +kernel
theorem dX4_cellOf_92 : decode cX4_cellOf 92 = .ok (.iload_n 1, 1) := by decide +kernel
theorem dX4_cellOf_93 : decode cX4_cellOf 93 = .ok (.invokevirtual 84, 3) := by decide +kernel
theorem dX4_cellOf_96 : decode cX4_cellOf 96 = .ok (.ireturn, 1) := by decide +kernel
theorem dX4_cellOf_97 : decode cX4_cellOf 97 = .ok (.aload_n 0, 1) := by decide +kernel
theorem dX4_cellOf_98 : decode cX4_cellOf 98 = .ok (.iconst 0, 1) := by decide +kernel
theorem dX4_cellOf_99 : decode cX4_cellOf 99 = .ok (.invokevirtual 55, 3) := by decide +kernel
theorem dX4_cellOf_102 : decode cX4_cellOf 102 = .ok (.ireturn, 1) := by decide +kernel
theorem dX4_cheapest_0 : decode cX4_cheapest 0 = .ok (.aload_n 0, 1) := by decide +kernel
theorem dX4_cheapest_1 : decode cX4_cheapest 1 = .ok (.iload_n 1, 1) := by decide +kernel
theorem dX4_cheapest_2 : decode cX4_cheapest 2 = .ok (.invokevirtual 102, 3) := by decide +kernel
theorem dX4_cheapest_5 : decode cX4_cheapest 5 = .ok (.ifCond .ne 9, 3) := by decide +kernel
theorem dX4_cheapest_8 : decode cX4_cheapest 8 = .ok (.aload_n 0, 1) := by decide +kernel
theorem dX4_cheapest_9 : decode cX4_cheapest 9 = .ok (.iconst 0, 1) := by decide +kernel
theorem dX4_cheapest_10 : decode cX4_cheapest 10 = .ok (.invokevirtual 55, 3) := by decide +kernel
theorem dX4_cheapest_13 : decode cX4_cheapest 13 = .ok (.ireturn, 1) := by decide +kernel
theorem dX4_cheapest_14 : decode cX4_cheapest 14 = .ok (.aload_n 0, 1) := by decide +kernel
theorem dX4_cheapest_15 : decode cX4_cheapest 15 = .ok (.iload_n 1, 1) := by decide +kernel
theorem dX4_cheapest_16 : decode cX4_cheapest 16 = .ok (.invokevirtual 153, 3) := by decide +kernel
theorem dX4_cheapest_19 : decode cX4_cheapest 19 = .ok (.ireturn, 1) := by decide +kernel
theorem dX4_copy_0 : decode cX4_copy 0 = .ok (.iload_n 1, 1) := by decide +kernel
theorem dX4_copy_1 : decode cX4_copy 1 = .ok (.invokestatic 238, 3) := by decide +kernel
theorem dX4_copy_4 : decode cX4_copy 4 = .ok (.ifCond .eq 10, 3) := by decide +kernel
theorem dX4_copy_7 : decode cX4_copy 7 = .ok (.iload_n 3, 1) := by decide +kernel
theorem dX4_copy_8 : decode cX4_copy 8 = .ok (.invokestatic 238, 3) := by decide +kernel
theorem dX4_copy_11 : decode cX4_copy 11 = .ok (.ifCond .ne 9, 3) := by decide +kernel
theorem dX4_copy_14 : decode cX4_copy 14 = .ok (.aload_n 0, 1) := by decide +kernel
theorem dX4_copy_15 : decode cX4_copy 15 = .ok (.iconst 0, 1) := by decide +kernel
theorem dX4_copy_16 : decode cX4_copy 16 = .ok (.invokevirtual 55, 3) := by decide +kernel
theorem dX4_copy_19 : decode cX4_copy 19 = .ok (.ireturn, 1) := by decide +kernel
theorem dX4_copy_20 : decode cX4_copy 20 = .ok (.aload_n 0, 1) := by decide +kernel
theorem dX4_copy_21 : decode cX4_copy 21 = .ok (.getfield 36, 3) := by decide +kernel
theorem dX4_copy_24 : decode cX4_copy 24 = .ok (.iload_n 1, 1) := by decide +kernel
theorem dX4_copy_25 : decode cX4_copy 25 = .ok (.invokevirtual 247, 3) := by decide +kernel
theorem dX4_copy_28 : decode cX4_copy 28 = .ok (.ifCond .ne 14, 3) := by decide +kernel
theorem dX4_copy_31 : decode cX4_copy 31 = .ok (.aload_n 0, 1) := by decide +kernel
theorem dX4_copy_32 : decode cX4_copy 32 = .ok (.getfield 36, 3) := by decide +kernel
theorem dX4_copy_35 : decode cX4_copy 35 = .ok (.iload_n 3, 1) := by decide +kernel
theorem dX4_copy_36 : decode cX4_copy 36 = .ok (.invokevirtual 247, 3) := by decide +kernel
theorem dX4_copy_39 : decode cX4_copy 39 = .ok (.ifCond .eq 9, 3) := by decide +kernel
theorem dX4_copy_42 : decode cX4_copy 42 = .ok (.aload_n 0, 1) := by decide +kernel
theorem dX4_copy_43 : decode cX4_copy 43 = .ok (.iconst 5, 1) := by decide +kernel
theorem dX4_copy_44 : decode cX4_copy 44 = .ok (.invokevirtual 55, 3) := by decide +kernel
theorem dX4_copy_47 : decode cX4_copy 47 = .ok (.ireturn, 1) := by decide +kernel
theorem dX4_copy_48 : decode cX4_copy 48 = .ok (.aload_n 0, 1) := by decide +kernel
theorem dX4_copy_49 : decode cX4_copy 49 = .ok (.getfield 36, 3) := by decide +kernel
theorem dX4_copy_52 : decode cX4_copy 52 = .ok (.getfield 256, 3) := by decide +kernel
theorem dX4_copy_55 : decode cX4_copy 55 = .ok (.iload_n 1, 1) := by decide +kernel
theorem dX4_copy_56 : decode cX4_copy 56 = .ok (.iaload, 1) := by decide +kernel
theorem dX4_copy_57 : decode cX4_copy 57 = .ok (.aload_n 0, 1) := by decide +kernel
theorem dX4_copy_58 : decode cX4_copy 58 = .ok (.getfield 36, 3) := by decide +kernel
theorem dX4_copy_61 : decode cX4_copy 61 = .ok (.getfield 256, 3) := by decide +kernel
theorem dX4_copy_64 : decode cX4_copy 64 = .ok (.iload_n 3, 1) := by decide +kernel
theorem dX4_copy_65 : decode cX4_copy 65 = .ok (.iaload, 1) := by decide +kernel
theorem dX4_copy_66 : decode cX4_copy 66 = .ok (.if_icmp .eq 9, 3) := by decide +kernel
theorem dX4_copy_69 : decode cX4_copy 69 = .ok (.aload_n 0, 1) := by decide +kernel
theorem dX4_copy_70 : decode cX4_copy 70 = .ok (.iconst 2, 1) := by decide +kernel
theorem dX4_copy_71 : decode cX4_copy 71 = .ok (.invokevirtual 55, 3) := by decide +kernel
theorem dX4_copy_74 : decode cX4_copy 74 = .ok (.ireturn, 1) := by decide +kernel
theorem dX4_copy_75 : decode cX4_copy 75 = .ok (.aload_n 0, 1) := by decide +kernel
theorem dX4_copy_76 : decode cX4_copy 76 = .ok (.getfield 36, 3) := by decide +kernel
theorem dX4_copy_79 : decode cX4_copy 79 = .ok (.iload_n 1, 1) := by decide +kernel
theorem dX4_copy_80 : decode cX4_copy 80 = .ok (.iload_n 2, 1) := by decide +kernel
theorem dX4_copy_81 : decode cX4_copy 81 = .ok (.iload 5, 2) := by decide +kernel
theorem dX4_copy_83 : decode cX4_copy 83 = .ok (.invokevirtual 250, 3) := by decide +kernel
theorem dX4_copy_86 : decode cX4_copy 86 = .ok (.ifCond .eq 18, 3) := by decide +kernel
theorem dX4_copy_89 : decode cX4_copy 89 = .ok (.aload_n 0, 1) := by decide +kernel
theorem dX4_copy_90 : decode cX4_copy 90 = .ok (.getfield 36, 3) := by decide +kernel
theorem dX4_copy_93 : decode cX4_copy 93 = .ok (.iload_n 3, 1) := by decide +kernel
theorem dX4_copy_94 : decode cX4_copy 94 = .ok (.iload 4, 2) := by decide +kernel
theorem dX4_copy_96 : decode cX4_copy 96 = .ok (.iload 5, 2) := by decide +kernel
theorem dX4_copy_98 : decode cX4_copy 98 = .ok (.invokevirtual 250, 3) := by decide +kernel
theorem dX4_copy_101 : decode cX4_copy 101 = .ok (.ifCond .ne 9, 3) := by decide +kernel
theorem dX4_copy_104 : decode cX4_copy 104 = .ok (.aload_n 0, 1) := by decide +kernel
theorem dX4_copy_105 : decode cX4_copy 105 = .ok (.iconst 0, 1) := by decide +kernel
theorem dX4_copy_106 : decode cX4_copy 106 = .ok (.invokevirtual 55, 3) := by decide +kernel
theorem dX4_copy_109 : decode cX4_copy 109 = .ok (.ireturn, 1) := by decide +kernel
theorem dX4_copy_110 : decode cX4_copy 110 = .ok (.aload_n 0, 1) := by decide +kernel
theorem dX4_copy_111 : decode cX4_copy 111 = .ok (.getfield 36, 3) := by decide +kernel
theorem dX4_copy_114 : decode cX4_copy 114 = .ok (.iload_n 1, 1) := by decide +kernel
theorem dX4_copy_115 : decode cX4_copy 115 = .ok (.iload_n 2, 1) := by decide +kernel
theorem dX4_copy_116 : decode cX4_copy 116 = .ok (.iload_n 3, 1) := by decide +kernel
theorem dX4_copy_117 : decode cX4_copy 117 = .ok (.iload 4, 2) := by decide +kernel
theorem dX4_copy_119 : decode cX4_copy 119 = .ok (.iload 5, 2) := by decide +kernel
theorem dX4_copy_121 : decode cX4_copy 121 = .ok (.invokevirtual 259, 3) := by decide +kernel
theorem dX4_copy_124 : decode cX4_copy 124 = .ok (.iload 5, 2) := by decide +kernel
theorem dX4_copy_126 : decode cX4_copy 126 = .ok (.ireturn, 1) := by decide +kernel
theorem dX4_count_0 : decode cX4_count 0 = .ok (.iload_n 1, 1) := by decide +kernel
theorem dX4_count_1 : decode cX4_count 1 = .ok (.tableswitch 105 0 6 #[43, 51, 59, 67, 78, 89, 97], 43) := by decide +kernel
theorem dX4_count_44 : decode cX4_count 44 = .ok (.aload_n 0, 1) := by decide +kernel
theorem dX4_count_45 : decode cX4_count 45 = .ok (.getfield 10, 3) := by decide +kernel
theorem dX4_count_48 : decode cX4_count 48 = .ok (.getfield 201, 3) := by decide +kernel
theorem dX4_count_51 : decode cX4_count 51 = .ok (.ireturn, 1) := by decide +kernel
theorem dX4_count_52 : decode cX4_count 52 = .ok (.aload_n 0, 1) := by decide +kernel
theorem dX4_count_53 : decode cX4_count 53 = .ok (.getfield 10, 3) := by decide +kernel
theorem dX4_count_56 : decode cX4_count 56 = .ok (.getfield 98, 3) := by decide +kernel
theorem dX4_count_59 : decode cX4_count 59 = .ok (.ireturn, 1) := by decide +kernel
theorem dX4_count_60 : decode cX4_count 60 = .ok (.aload_n 0, 1) := by decide +kernel
theorem dX4_count_61 : decode cX4_count 61 = .ok (.getfield 10, 3) := by decide +kernel
theorem dX4_count_64 : decode cX4_count 64 = .ok (.invokevirtual 149, 3) := by decide +kernel
theorem dX4_count_67 : decode cX4_count 67 = .ok (.ireturn, 1) := by decide +kernel
theorem dX4_count_68 : decode cX4_count 68 = .ok (.aload_n 0, 1) := by decide +kernel
theorem dX4_count_69 : decode cX4_count 69 = .ok (.getfield 10, 3) := by decide +kernel
theorem dX4_count_72 : decode cX4_count 72 = .ok (.invokevirtual 195, 3) := by decide +kernel
theorem dX4_count_75 : decode cX4_count 75 = .ok (.invokestatic 160, 3) := by decide +kernel
theorem dX4_count_78 : decode cX4_count 78 = .ok (.ireturn, 1) := by decide +kernel
theorem dX4_count_79 : decode cX4_count 79 = .ok (.aload_n 0, 1) := by decide +kernel
theorem dX4_count_80 : decode cX4_count 80 = .ok (.getfield 29, 3) := by decide +kernel
theorem dX4_count_83 : decode cX4_count 83 = .ok (.getfield 210, 3) := by decide +kernel
theorem dX4_count_86 : decode cX4_count 86 = .ok (.getfield 222, 3) := by decide +kernel
theorem dX4_count_89 : decode cX4_count 89 = .ok (.ireturn, 1) := by decide +kernel
theorem dX4_count_90 : decode cX4_count 90 = .ok (.aload_n 0, 1) := by decide +kernel
theorem dX4_count_91 : decode cX4_count 91 = .ok (.getfield 10, 3) := by decide +kernel
theorem dX4_count_94 : decode cX4_count 94 = .ok (.getfield 207, 3) := by decide +kernel
theorem dX4_count_97 : decode cX4_count 97 = .ok (.ireturn, 1) := by decide +kernel
theorem dX4_count_98 : decode cX4_count 98 = .ok (.aload_n 0, 1) := by decide +kernel
theorem dX4_count_99 : decode cX4_count 99 = .ok (.getfield 10, 3) := by decide +kernel
theorem dX4_count_102 : decode cX4_count 102 = .ok (.invokevirtual 266, 3) := by decide +kernel
theorem dX4_count_105 : decode cX4_count 105 = .ok (.ireturn, 1) := by decide +kernel
theorem dX4_count_106 : decode cX4_count 106 = .ok (.aload_n 0, 1) := by decide +kernel
theorem dX4_count_107 : decode cX4_count 107 = .ok (.iconst 0, 1) := by decide +kernel
theorem dX4_count_108 : decode cX4_count 108 = .ok (.invokevirtual 55, 3) := by decide +kernel
theorem dX4_count_111 : decode cX4_count 111 = .ok (.ireturn, 1) := by decide +kernel
theorem dX4_dig_0 : decode cX4_dig 0 = .ok (.iload_n 1, 1) := by decide +kernel
theorem dX4_dig_1 : decode cX4_dig 1 = .ok (.invokestatic 47, 3) := by decide +kernel
theorem dX4_dig_4 : decode cX4_dig 4 = .ok (.ifCond .eq 25, 3) := by decide +kernel
theorem dX4_dig_7 : decode cX4_dig 7 = .ok (.iload_n 2, 1) := by decide +kernel
theorem dX4_dig_8 : decode cX4_dig 8 = .ok (.invokestatic 47, 3) := by decide +kernel
theorem dX4_dig_11 : decode cX4_dig 11 = .ok (.ifCond .eq 18, 3) := by decide +kernel
theorem dX4_dig_14 : decode cX4_dig 14 = .ok (.iload_n 2, 1) := by decide +kernel
theorem dX4_dig_15 : decode cX4_dig 15 = .ok (.iload_n 1, 1) := by decide +kernel
theorem dX4_dig_16 : decode cX4_dig 16 = .ok (.if_icmp .lt 13, 3) := by decide +kernel
theorem dX4_dig_19 : decode cX4_dig 19 = .ok (.iload_n 3, 1) := by decide +kernel
theorem dX4_dig_20 : decode cX4_dig 20 = .ok (.iconst 1, 1) := by decide +kernel
theorem dX4_dig_21 : decode cX4_dig 21 = .ok (.bipush 99, 2) := by decide +kernel
theorem dX4_dig_23 : decode cX4_dig 23 = .ok (.invokestatic 51, 3) := by decide +kernel
theorem dX4_dig_26 : decode cX4_dig 26 = .ok (.ifCond .ne 9, 3) := by decide +kernel
theorem dX4_dig_29 : decode cX4_dig 29 = .ok (.aload_n 0, 1) := by decide +kernel
theorem dX4_dig_30 : decode cX4_dig 30 = .ok (.iconst 0, 1) := by decide +kernel
theorem dX4_dig_31 : decode cX4_dig 31 = .ok (.invokevirtual 55, 3) := by decide +kernel
theorem dX4_dig_34 : decode cX4_dig 34 = .ok (.ireturn, 1) := by decide +kernel
theorem dX4_dig_35 : decode cX4_dig 35 = .ok (.iconst 0, 1) := by decide +kernel
theorem dX4_dig_36 : decode cX4_dig 36 = .ok (.istore 4, 2) := by decide +kernel
theorem dX4_dig_38 : decode cX4_dig 38 = .ok (.iload_n 1, 1) := by decide +kernel
theorem dX4_dig_39 : decode cX4_dig 39 = .ok (.istore 5, 2) := by decide +kernel
theorem dX4_dig_41 : decode cX4_dig 41 = .ok (.iload 5, 2) := by decide +kernel
theorem dX4_dig_43 : decode cX4_dig 43 = .ok (.iload_n 2, 1) := by decide +kernel
theorem dX4_dig_44 : decode cX4_dig 44 = .ok (.if_icmp .gt 35, 3) := by decide +kernel
theorem dX4_dig_47 : decode cX4_dig 47 = .ok (.aload_n 0, 1) := by decide +kernel
theorem dX4_dig_48 : decode cX4_dig 48 = .ok (.getfield 10, 3) := by decide +kernel
theorem dX4_dig_51 : decode cX4_dig 51 = .ok (.iload 5, 2) := by decide +kernel
theorem dX4_dig_53 : decode cX4_dig 53 = .ok (.iload_n 3, 1) := by decide +kernel
theorem dX4_dig_54 : decode cX4_dig 54 = .ok (.invokevirtual 123, 3) := by decide +kernel
theorem dX4_dig_57 : decode cX4_dig 57 = .ok (.aload_n 0, 1) := by decide +kernel
theorem dX4_dig_58 : decode cX4_dig 58 = .ok (.getfield 10, 3) := by decide +kernel
theorem dX4_dig_61 : decode cX4_dig 61 = .ok (.getfield 59, 3) := by decide +kernel
theorem dX4_dig_64 : decode cX4_dig 64 = .ok (.iload 5, 2) := by decide +kernel
theorem dX4_dig_66 : decode cX4_dig 66 = .ok (.iaload, 1) := by decide +kernel
theorem dX4_dig_67 : decode cX4_dig 67 = .ok (.ifCond .ne 6, 3) := by decide +kernel
theorem dX4_dig_70 : decode cX4_dig 70 = .ok (.iinc 4 1, 3) := by decide +kernel
theorem dX4_dig_73 : decode cX4_dig 73 = .ok (.iinc 5 1, 3) := by decide +kernel
theorem dX4_dig_76 : decode cX4_dig 76 = .ok (.goto (-35), 3) := by decide +kernel
theorem dX4_dig_79 : decode cX4_dig 79 = .ok (.iload 4, 2) := by decide +kernel
theorem dX4_dig_81 : decode cX4_dig 81 = .ok (.ireturn, 1) := by decide +kernel
theorem dX4_drain_0 : decode cX4_drain 0 = .ok (.iload_n 1, 1) := by decide +kernel
theorem dX4_drain_1 : decode cX4_drain 1 = .ok (.iconst 0, 1) := by decide +kernel
theorem dX4_drain_2 : decode cX4_drain 2 = .ok (.bipush 20, 2) := by decide +kernel
theorem dX4_drain_4 : decode cX4_drain 4 = .ok (.invokestatic 51, 3) := by decide +kernel
theorem dX4_drain_7 : decode cX4_drain 7 = .ok (.ifCond .ne 9, 3) := by decide +kernel
theorem dX4_drain_10 : decode cX4_drain 10 = .ok (.aload_n 0, 1) := by decide +kernel
theorem dX4_drain_11 : decode cX4_drain 11 = .ok (.iconst 0, 1) := by decide +kernel
theorem dX4_drain_12 : decode cX4_drain 12 = .ok (.invokevirtual 55, 3) := by decide +kernel
theorem dX4_drain_15 : decode cX4_drain 15 = .ok (.ireturn, 1) := by decide +kernel
theorem dX4_drain_16 : decode cX4_drain 16 = .ok (.iconst 0, 1) := by decide +kernel
theorem dX4_drain_17 : decode cX4_drain 17 = .ok (.istore_n 2, 1) := by decide +kernel
theorem dX4_drain_18 : decode cX4_drain 18 = .ok (.iconst 0, 1) := by decide +kernel
theorem dX4_drain_19 : decode cX4_drain 19 = .ok (.istore_n 3, 1) := by decide +kernel
theorem dX4_drain_20 : decode cX4_drain 20 = .ok (.iload_n 3, 1) := by decide +kernel
theorem dX4_drain_21 : decode cX4_drain 21 = .ok (.bipush 24, 2) := by decide +kernel
theorem dX4_drain_23 : decode cX4_drain 23 = .ok (.if_icmp .ge 43, 3) := by decide +kernel
theorem dX4_drain_26 : decode cX4_drain 26 = .ok (.aload_n 0, 1) := by decide +kernel
theorem dX4_drain_27 : decode cX4_drain 27 = .ok (.getfield 10, 3) := by decide +kernel
theorem dX4_drain_30 : decode cX4_drain 30 = .ok (.getfield 75, 3) := by decide +kernel
theorem dX4_drain_33 : decode cX4_drain 33 = .ok (.iload_n 3, 1) := by decide +kernel
theorem dX4_drain_34 : decode cX4_drain 34 = .ok (.iaload, 1) := by decide +kernel
theorem dX4_drain_35 : decode cX4_drain 35 = .ok (.iconst 1, 1) := by decide +kernel
theorem dX4_drain_36 : decode cX4_drain 36 = .ok (.if_icmp .ne 24, 3) := by decide +kernel
theorem dX4_drain_39 : decode cX4_drain 39 = .ok (.aload_n 0, 1) := by decide +kernel
theorem dX4_drain_40 : decode cX4_drain 40 = .ok (.getfield 10, 3) := by decide +kernel
theorem dX4_drain_43 : decode cX4_drain 43 = .ok (.iload_n 3, 1) := by decide +kernel
theorem dX4_drain_44 : decode cX4_drain 44 = .ok (.iconst 2, 1) := by decide +kernel
theorem dX4_drain_45 : decode cX4_drain 45 = .ok (.invokevirtual 126, 3) := by decide +kernel
theorem dX4_drain_48 : decode cX4_drain 48 = .ok (.aload_n 0, 1) := by decide +kernel
theorem dX4_drain_49 : decode cX4_drain 49 = .ok (.getfield 10, 3) := by decide +kernel
theorem dX4_drain_52 : decode cX4_drain 52 = .ok (.iload_n 3, 1) := by decide +kernel
theorem dX4_drain_53 : decode cX4_drain 53 = .ok (.iload_n 1, 1) := by decide +kernel
theorem dX4_drain_54 : decode cX4_drain 54 = .ok (.invokevirtual 123, 3) := by decide +kernel
theorem dX4_drain_57 : decode cX4_drain 57 = .ok (.iinc 2 1, 3) := by decide +kernel
theorem dX4_drain_60 : decode cX4_drain 60 = .ok (.iinc 3 1, 3) := by decide +kernel
theorem dX4_drain_63 : decode cX4_drain 63 = .ok (.goto (-43), 3) := by decide +kernel
theorem dX4_drain_66 : decode cX4_drain 66 = .ok (.iload_n 2, 1) := by decide +kernel
theorem dX4_drain_67 : decode cX4_drain 67 = .ok (.ireturn, 1) := by decide +kernel
theorem dX4_feed_0 : decode cX4_feed 0 = .ok (.iload_n 2, 1) := by decide +kernel
theorem dX4_feed_1 : decode cX4_feed 1 = .ok (.iconst 1, 1) := by decide +kernel
theorem dX4_feed_2 : decode cX4_feed 2 = .ok (.iconst 4, 1) := by decide +kernel
theorem dX4_feed_3 : decode cX4_feed 3 = .ok (.invokestatic 51, 3) := by decide +kernel
theorem dX4_feed_6 : decode cX4_feed 6 = .ok (.ifCond .ne 9, 3) := by decide +kernel
theorem dX4_feed_9 : decode cX4_feed 9 = .ok (.aload_n 0, 1) := by decide +kernel
theorem dX4_feed_10 : decode cX4_feed 10 = .ok (.iconst 0, 1) := by decide +kernel
theorem dX4_feed_11 : decode cX4_feed 11 = .ok (.invokevirtual 55, 3) := by decide +kernel
theorem dX4_feed_14 : decode cX4_feed 14 = .ok (.ireturn, 1) := by decide +kernel
theorem dX4_feed_15 : decode cX4_feed 15 = .ok (.aload_n 0, 1) := by decide +kernel
theorem dX4_feed_16 : decode cX4_feed 16 = .ok (.getfield 29, 3) := by decide +kernel
theorem dX4_feed_19 : decode cX4_feed 19 = .ok (.getfield 210, 3) := by decide +kernel
theorem dX4_feed_22 : decode cX4_feed 22 = .ok (.iload_n 2, 1) := by decide +kernel
theorem dX4_feed_23 : decode cX4_feed 23 = .ok (.invokevirtual 214, 3) := by decide +kernel
theorem dX4_feed_26 : decode cX4_feed 26 = .ok (.ifCond .ne 9, 3) := by decide +kernel
theorem dX4_feed_29 : decode cX4_feed 29 = .ok (.aload_n 0, 1) := by decide +kernel
theorem dX4_feed_30 : decode cX4_feed 30 = .ok (.iconst 1, 1) := by decide +kernel
theorem dX4_feed_31 : decode cX4_feed 31 = .ok (.invokevirtual 55, 3) := by decide +kernel
theorem dX4_feed_34 : decode cX4_feed 34 = .ok (.ireturn, 1) := by decide +kernel
theorem dX4_feed_35 : decode cX4_feed 35 = .ok (.iload_n 2, 1) := by decide +kernel
theorem dX4_feed_36 : decode cX4_feed 36 = .ok (.iconst 1, 1) := by decide +kernel
theorem dX4_feed_37 : decode cX4_feed 37 = .ok (.isub, 1) := by decide +kernel
theorem dX4_feed_38 : decode cX4_feed 38 = .ok (.istore_n 3, 1) := by decide +kernel
theorem dX4_feed_39 : decode cX4_feed 39 = .ok (.iload_n 3, 1) := by decide +kernel
theorem dX4_feed_40 : decode cX4_feed 40 = .ok (.ifCond .lt 25, 3) := by decide +kernel
theorem dX4_feed_43 : decode cX4_feed 43 = .ok (.aload_n 0, 1) := by decide +kernel
theorem dX4_feed_44 : decode cX4_feed 44 = .ok (.getfield 29, 3) := by decide +kernel
theorem dX4_feed_47 : decode cX4_feed 47 = .ok (.getfield 210, 3) := by decide +kernel
theorem dX4_feed_50 : decode cX4_feed 50 = .ok (.iload_n 1, 1) := by decide +kernel
theorem dX4_feed_51 : decode cX4_feed 51 = .ok (.bipush 8, 2) := by decide +kernel
theorem dX4_feed_53 : decode cX4_feed 53 = .ok (.iload_n 3, 1) := by decide +kernel
theorem dX4_feed_54 : decode cX4_feed 54 = .ok (.imul, 1) := by decide +kernel
theorem dX4_feed_55 : decode cX4_feed 55 = .ok (.iushr, 1) := by decide +kernel
theorem dX4_feed_56 : decode cX4_feed 56 = .ok (.invokevirtual 219, 3) := by decide +kernel
theorem dX4_feed_59 : decode cX4_feed 59 = .ok (.iinc 3 (-1), 3) := by decide +kernel
theorem dX4_feed_62 : decode cX4_feed 62 = .ok (.goto (-23), 3) := by decide +kernel
theorem dX4_feed_65 : decode cX4_feed 65 = .ok (.aload_n 0, 1) := by decide +kernel
theorem dX4_feed_66 : decode cX4_feed 66 = .ok (.getfield 29, 3) := by decide +kernel
theorem dX4_feed_69 : decode cX4_feed 69 = .ok (.getfield 210, 3) := by decide +kernel
theorem dX4_feed_72 : decode cX4_feed 72 = .ok (.getfield 222, 3) := by decide +kernel
theorem dX4_feed_75 : decode cX4_feed 75 = .ok (.ireturn, 1) := by decide +kernel
theorem dX4_floor_0 : decode cX4_floor 0 = .ok (.aload_n 0, 1) := by decide +kernel
theorem dX4_floor_1 : decode cX4_floor 1 = .ok (.iload_n 1, 1) := by decide +kernel
theorem dX4_floor_2 : decode cX4_floor 2 = .ok (.invokevirtual 102, 3) := by decide +kernel
theorem dX4_floor_5 : decode cX4_floor 5 = .ok (.ifCond .eq 10, 3) := by decide +kernel
theorem dX4_floor_8 : decode cX4_floor 8 = .ok (.iload_n 2, 1) := by decide +kernel
theorem dX4_floor_9 : decode cX4_floor 9 = .ok (.invokestatic 87, 3) := by decide +kernel
theorem dX4_floor_12 : decode cX4_floor 12 = .ok (.ifCond .ne 9, 3) := by decide +kernel
theorem dX4_floor_15 : decode cX4_floor 15 = .ok (.aload_n 0, 1) := by decide +kernel
theorem dX4_floor_16 : decode cX4_floor 16 = .ok (.iconst 0, 1) := by decide +kernel
theorem dX4_floor_17 : decode cX4_floor 17 = .ok (.invokevirtual 55, 3) := by decide +kernel
theorem dX4_floor_20 : decode cX4_floor 20 = .ok (.ireturn, 1) := by decide +kernel
theorem dX4_floor_21 : decode cX4_floor 21 = .ok (.aload_n 0, 1) := by decide +kernel
theorem dX4_floor_22 : decode cX4_floor 22 = .ok (.getfield 10, 3) := by decide +kernel
theorem dX4_floor_25 : decode cX4_floor 25 = .ok (.getfield 108, 3) := by decide +kernel
theorem dX4_floor_28 : decode cX4_floor 28 = .ok (.iload_n 1, 1) := by decide +kernel
theorem dX4_floor_29 : decode cX4_floor 29 = .ok (.iaload, 1) := by decide +kernel
theorem dX4_floor_30 : decode cX4_floor 30 = .ok (.istore_n 3, 1) := by decide +kernel
theorem dX4_floor_31 : decode cX4_floor 31 = .ok (.aload_n 0, 1) := by decide +kernel
theorem dX4_floor_32 : decode cX4_floor 32 = .ok (.getfield 10, 3) := by decide +kernel
theorem dX4_floor_35 : decode cX4_floor 35 = .ok (.getfield 108, 3) := by decide +kernel
theorem dX4_floor_38 : decode cX4_floor 38 = .ok (.iload_n 1, 1) := by decide +kernel
theorem dX4_floor_39 : decode cX4_floor 39 = .ok (.iload_n 2, 1) := by decide +kernel
theorem dX4_floor_40 : decode cX4_floor 40 = .ok (.iastore, 1) := by decide +kernel
theorem dX4_floor_41 : decode cX4_floor 41 = .ok (.iload_n 3, 1) := by decide +kernel
theorem dX4_floor_42 : decode cX4_floor 42 = .ok (.ireturn, 1) := by decide +kernel
theorem dX4_gains_0 : decode cX4_gains 0 = .ok (.iload_n 1, 1) := by decide +kernel
theorem dX4_gains_1 : decode cX4_gains 1 = .ok (.invokestatic 47, 3) := by decide +kernel
theorem dX4_gains_4 : decode cX4_gains 4 = .ok (.ifCond .eq 17, 3) := by decide +kernel
theorem dX4_gains_7 : decode cX4_gains 7 = .ok (.iload_n 2, 1) := by decide +kernel
theorem dX4_gains_8 : decode cX4_gains 8 = .ok (.invokestatic 72, 3) := by decide +kernel
theorem dX4_gains_11 : decode cX4_gains 11 = .ok (.ifCond .eq 10, 3) := by decide +kernel
theorem dX4_gains_14 : decode cX4_gains 14 = .ok (.iload_n 3, 1) := by decide +kernel
theorem dX4_gains_15 : decode cX4_gains 15 = .ok (.invokestatic 174, 3) := by decide +kernel
theorem dX4_gains_18 : decode cX4_gains 18 = .ok (.ifCond .ne 9, 3) := by decide +kernel
theorem dX4_gains_21 : decode cX4_gains 21 = .ok (.aload_n 0, 1) := by decide +kernel
theorem dX4_gains_22 : decode cX4_gains 22 = .ok (.iconst 0, 1) := by decide +kernel
theorem dX4_gains_23 : decode cX4_gains 23 = .ok (.invokevirtual 55, 3) := by decide +kernel
theorem dX4_gains_26 : decode cX4_gains 26 = .ok (.ireturn, 1) := by decide +kernel
theorem dX4_gains_27 : decode cX4_gains 27 = .ok (.aload_n 0, 1) := by decide +kernel
theorem dX4_gains_28 : decode cX4_gains 28 = .ok (.iload_n 3, 1) := by decide +kernel
theorem dX4_gains_29 : decode cX4_gains 29 = .ok (.invokevirtual 177, 3) := by decide +kernel
theorem dX4_gains_32 : decode cX4_gains 32 = .ok (.ifCond .eq 9, 3) := by decide +kernel
theorem dX4_gains_35 : decode cX4_gains 35 = .ok (.aload_n 0, 1) := by decide +kernel
theorem dX4_gains_36 : decode cX4_gains 36 = .ok (.iconst 4, 1) := by decide +kernel
theorem dX4_gains_37 : decode cX4_gains 37 = .ok (.invokevirtual 55, 3) := by decide +kernel
theorem dX4_gains_40 : decode cX4_gains 40 = .ok (.ireturn, 1) := by decide +kernel
theorem dX4_gains_41 : decode cX4_gains 41 = .ok (.aload_n 0, 1) := by decide +kernel
theorem dX4_gains_42 : decode cX4_gains 42 = .ok (.iload_n 3, 1) := by decide +kernel
theorem dX4_gains_43 : decode cX4_gains 43 = .ok (.invokevirtual 183, 3) := by decide +kernel
theorem dX4_gains_46 : decode cX4_gains 46 = .ok (.iconst 0, 1) := by decide +kernel
theorem dX4_gains_47 : decode cX4_gains 47 = .ok (.istore 4, 2) := by decide +kernel
theorem dX4_gains_49 : decode cX4_gains 49 = .ok (.iload 4, 2) := by decide +kernel
theorem dX4_gains_51 : decode cX4_gains 51 = .ok (.aload_n 0, 1) := by decide +kernel
theorem dX4_gains_52 : decode cX4_gains 52 = .ok (.getfield 10, 3) := by decide +kernel
theorem dX4_gains_55 : decode cX4_gains 55 = .ok (.getfield 98, 3) := by decide +kernel
theorem dX4_gains_58 : decode cX4_gains 58 = .ok (.if_icmp .ge 25, 3) := by decide +kernel
theorem dX4_gains_61 : decode cX4_gains 61 = .ok (.aload_n 0, 1) := by decide +kernel
theorem dX4_gains_62 : decode cX4_gains 62 = .ok (.getfield 44, 3) := by decide +kernel
theorem dX4_gains_65 : decode cX4_gains 65 = .ok (.iload 4, 2) := by decide +kernel
theorem dX4_gains_67 : decode cX4_gains 67 = .ok (.aload_n 0, 1) := by decide +kernel
theorem dX4_gains_68 : decode cX4_gains 68 = .ok (.getfield 16, 3) := by decide +kernel
theorem dX4_gains_71 : decode cX4_gains 71 = .ok (.iload 4, 2) := by decide +kernel
theorem dX4_gains_73 : decode cX4_gains 73 = .ok (.invokevirtual 146, 3) := by decide +kernel
theorem dX4_gains_76 : decode cX4_gains 76 = .ok (.iastore, 1) := by decide +kernel
theorem dX4_gains_77 : decode cX4_gains 77 = .ok (.iinc 4 1, 3) := by decide +kernel
theorem dX4_gains_80 : decode cX4_gains 80 = .ok (.goto (-31), 3) := by decide +kernel
theorem dX4_gains_83 : decode cX4_gains 83 = .ok (.aload_n 0, 1) := by decide +kernel
theorem dX4_gains_84 : decode cX4_gains 84 = .ok (.iload_n 1, 1) := by decide +kernel
theorem dX4_gains_85 : decode cX4_gains 85 = .ok (.iload_n 2, 1) := by decide +kernel
theorem dX4_gains_86 : decode cX4_gains 86 = .ok (.iload_n 3, 1) := by decide +kernel
theorem dX4_gains_87 : decode cX4_gains 87 = .ok (.invokevirtual 180, 3) := by decide +kernel
theorem dX4_gains_90 : decode cX4_gains 90 = .ok (.iconst 0, 1) := by decide +kernel
theorem dX4_gains_91 : decode cX4_gains 91 = .ok (.istore 4, 2) := by decide +kernel
theorem dX4_gains_93 : decode cX4_gains 93 = .ok (.iconst 0, 1) := by decide +kernel
theorem dX4_gains_94 : decode cX4_gains 94 = .ok (.istore 5, 2) := by decide +kernel
theorem dX4_gains_96 : decode cX4_gains 96 = .ok (.iload 5, 2) := by decide +kernel
theorem dX4_gains_98 : decode cX4_gains 98 = .ok (.aload_n 0, 1) := by decide +kernel
theorem dX4_gains_99 : decode cX4_gains 99 = .ok (.getfield 10, 3) := by decide +kernel
theorem dX4_gains_102 : decode cX4_gains 102 = .ok (.getfield 98, 3) := by decide +kernel
theorem dX4_gains_105 : decode cX4_gains 105 = .ok (.if_icmp .ge 37, 3) := by decide +kernel
theorem dX4_gains_108 : decode cX4_gains 108 = .ok (.aload_n 0, 1) := by decide +kernel
theorem dX4_gains_109 : decode cX4_gains 109 = .ok (.getfield 16, 3) := by decide +kernel
theorem dX4_gains_112 : decode cX4_gains 112 = .ok (.iload 5, 2) := by decide +kernel
theorem dX4_gains_114 : decode cX4_gains 114 = .ok (.invokevirtual 146, 3) := by decide +kernel
theorem dX4_gains_117 : decode cX4_gains 117 = .ok (.aload_n 0, 1) := by decide +kernel
theorem dX4_gains_118 : decode cX4_gains 118 = .ok (.getfield 44, 3) := by decide +kernel
theorem dX4_gains_121 : decode cX4_gains 121 = .ok (.iload 5, 2) := by decide +kernel
theorem dX4_gains_123 : decode cX4_gains 123 = .ok (.iaload, 1) := by decide +kernel
theorem dX4_gains_124 : decode cX4_gains 124 = .ok (.if_icmp .ge 12, 3) := by decide +kernel
theorem dX4_gains_127 : decode cX4_gains 127 = .ok (.iload 4, 2) := by decide +kernel
theorem dX4_gains_129 : decode cX4_gains 129 = .ok (.iconst 1, 1) := by decide +kernel
theorem dX4_gains_130 : decode cX4_gains 130 = .ok (.iload 5, 2) := by decide +kernel
theorem dX4_gains_132 : decode cX4_gains 132 = .ok (.ishl, 1) := by decide +kernel
theorem dX4_gains_133 : decode cX4_gains 133 = .ok (.ior, 1) := by decide +kernel
theorem dX4_gains_134 : decode cX4_gains 134 = .ok (.istore 4, 2) := by decide +kernel
theorem dX4_gains_136 : decode cX4_gains 136 = .ok (.iinc 5 1, 3) := by decide +kernel
theorem dX4_gains_139 : decode cX4_gains 139 = .ok (.goto (-43), 3) := by decide +kernel
theorem dX4_gains_142 : decode cX4_gains 142 = .ok (.iload 4, 2) := by decide +kernel
theorem dX4_gains_144 : decode cX4_gains 144 = .ok (.ireturn, 1) := by decide +kernel
theorem dX4_height_0 : decode cX4_height 0 = .ok (.iload_n 1, 1) := by decide +kernel
theorem dX4_height_1 : decode cX4_height 1 = .ok (.invokestatic 47, 3) := by decide +kernel
theorem dX4_height_4 : decode cX4_height 4 = .ok (.ifCond .eq 28, 3) := by decide +kernel
theorem dX4_height_7 : decode cX4_height 7 = .ok (.aload_n 0, 1) := by decide +kernel
theorem dX4_height_8 : decode cX4_height 8 = .ok (.iload_n 2, 1) := by decide +kernel
theorem dX4_height_9 : decode cX4_height 9 = .ok (.invokevirtual 102, 3) := by decide +kernel
theorem dX4_height_12 : decode cX4_height 12 = .ok (.ifCond .eq 20, 3) := by decide +kernel
theorem dX4_height_15 : decode cX4_height 15 = .ok (.iload_n 3, 1) := by decide +kernel
theorem dX4_height_16 : decode cX4_height 16 = .ok (.invokestatic 165, 3) := by decide +kernel
theorem dX4_height_19 : decode cX4_height 19 = .ok (.ifCond .eq 13, 3) := by decide +kernel
theorem dX4_height_22 : decode cX4_height 22 = .ok (.iload 4, 2) := by decide +kernel
theorem dX4_height_24 : decode cX4_height 24 = .ok (.iconst 0, 1) := by decide +kernel
theorem dX4_height_25 : decode cX4_height 25 = .ok (.iconst 1, 1) := by decide +kernel
theorem dX4_height_26 : decode cX4_height 26 = .ok (.invokestatic 51, 3) := by decide +kernel
theorem dX4_height_29 : decode cX4_height 29 = .ok (.ifCond .ne 9, 3) := by decide +kernel
theorem dX4_height_32 : decode cX4_height 32 = .ok (.aload_n 0, 1) := by decide +kernel
theorem dX4_height_33 : decode cX4_height 33 = .ok (.iconst 0, 1) := by decide +kernel
theorem dX4_height_34 : decode cX4_height 34 = .ok (.invokevirtual 55, 3) := by decide +kernel
theorem dX4_height_37 : decode cX4_height 37 = .ok (.ireturn, 1) := by decide +kernel
theorem dX4_height_38 : decode cX4_height 38 = .ok (.aload_n 0, 1) := by decide +kernel
theorem dX4_height_39 : decode cX4_height 39 = .ok (.getfield 16, 3) := by decide +kernel
theorem dX4_height_42 : decode cX4_height 42 = .ok (.aload_n 0, 1) := by decide +kernel
theorem dX4_height_43 : decode cX4_height 43 = .ok (.getfield 10, 3) := by decide +kernel
theorem dX4_height_46 : decode cX4_height 46 = .ok (.invokevirtual 156, 3) := by decide +kernel
theorem dX4_height_49 : decode cX4_height 49 = .ok (.iconst 0, 1) := by decide +kernel
theorem dX4_height_50 : decode cX4_height 50 = .ok (.istore 5, 2) := by decide +kernel
theorem dX4_height_52 : decode cX4_height 52 = .ok (.iload 5, 2) := by decide +kernel
theorem dX4_height_54 : decode cX4_height 54 = .ok (.bipush 99, 2) := by decide +kernel
theorem dX4_height_56 : decode cX4_height 56 = .ok (.if_icmp .gt 51, 3) := by decide +kernel
theorem dX4_height_59 : decode cX4_height 59 = .ok (.iload 4, 2) := by decide +kernel
theorem dX4_height_61 : decode cX4_height 61 = .ok (.ifCond .ne 8, 3) := by decide +kernel
theorem dX4_height_64 : decode cX4_height 64 = .ok (.iload 5, 2) := by decide +kernel
theorem dX4_height_66 : decode cX4_height 66 = .ok (.goto 8, 3) := by decide +kernel
theorem dX4_height_69 : decode cX4_height 69 = .ok (.bipush 99, 2) := by decide +kernel
theorem dX4_height_71 : decode cX4_height 71 = .ok (.iload 5, 2) := by decide +kernel
theorem dX4_height_73 : decode cX4_height 73 = .ok (.isub, 1) := by decide +kernel
theorem dX4_height_74 : decode cX4_height 74 = .ok (.istore 6, 2) := by decide +kernel
theorem dX4_height_76 : decode cX4_height 76 = .ok (.aload_n 0, 1) := by decide +kernel
theorem dX4_height_77 : decode cX4_height 77 = .ok (.getfield 16, 3) := by decide +kernel
theorem dX4_height_80 : decode cX4_height 80 = .ok (.iload_n 1, 1) := by decide +kernel
theorem dX4_height_81 : decode cX4_height 81 = .ok (.iload 6, 2) := by decide +kernel
theorem dX4_height_83 : decode cX4_height 83 = .ok (.invokevirtual 62, 3) := by decide +kernel
theorem dX4_height_86 : decode cX4_height 86 = .ok (.aload_n 0, 1) := by decide +kernel
theorem dX4_height_87 : decode cX4_height 87 = .ok (.getfield 16, 3) := by decide +kernel
theorem dX4_height_90 : decode cX4_height 90 = .ok (.iload_n 2, 1) := by decide +kernel
theorem dX4_height_91 : decode cX4_height 91 = .ok (.invokevirtual 146, 3) := by decide +kernel
theorem dX4_height_94 : decode cX4_height 94 = .ok (.iload_n 3, 1) := by decide +kernel
theorem dX4_height_95 : decode cX4_height 95 = .ok (.if_icmp .ne 6, 3) := by decide +kernel
theorem dX4_height_98 : decode cX4_height 98 = .ok (.iload 6, 2) := by decide +kernel
theorem dX4_height_100 : decode cX4_height 100 = .ok (.ireturn, 1) := by decide +kernel
theorem dX4_height_101 : decode cX4_height 101 = .ok (.iinc 5 1, 3) := by decide +kernel
theorem dX4_height_104 : decode cX4_height 104 = .ok (.goto (-52), 3) := by decide +kernel
theorem dX4_height_107 : decode cX4_height 107 = .ok (.aload_n 0, 1) := by decide +kernel
theorem dX4_height_108 : decode cX4_height 108 = .ok (.iconst 3, 1) := by decide +kernel
theorem dX4_height_109 : decode cX4_height 109 = .ok (.invokevirtual 55, 3) := by decide +kernel
theorem dX4_height_112 : decode cX4_height 112 = .ok (.ireturn, 1) := by decide +kernel
theorem dX4_heights_0 : decode cX4_heights 0 = .ok (.iload_n 1, 1) := by decide +kernel
theorem dX4_heights_1 : decode cX4_heights 1 = .ok (.invokestatic 47, 3) := by decide +kernel
theorem dX4_heights_4 : decode cX4_heights 4 = .ok (.ifCond .eq 18, 3) := by decide +kernel
theorem dX4_heights_7 : decode cX4_heights 7 = .ok (.aload_n 0, 1) := by decide +kernel
theorem dX4_heights_8 : decode cX4_heights 8 = .ok (.iload_n 2, 1) := by decide +kernel
theorem dX4_heights_9 : decode cX4_heights 9 = .ok (.invokevirtual 102, 3) := by decide +kernel
theorem dX4_heights_12 : decode cX4_heights 12 = .ok (.ifCond .eq 10, 3) := by decide +kernel
theorem dX4_heights_15 : decode cX4_heights 15 = .ok (.iload_n 3, 1) := by decide +kernel
theorem dX4_heights_16 : decode cX4_heights 16 = .ok (.invokestatic 165, 3) := by decide +kernel
theorem dX4_heights_19 : decode cX4_heights 19 = .ok (.ifCond .ne 9, 3) := by decide +kernel
theorem dX4_heights_22 : decode cX4_heights 22 = .ok (.aload_n 0, 1) := by decide +kernel
theorem dX4_heights_23 : decode cX4_heights 23 = .ok (.iconst 0, 1) := by decide +kernel
theorem dX4_heights_24 : decode cX4_heights 24 = .ok (.invokevirtual 55, 3) := by decide +kernel
theorem dX4_heights_27 : decode cX4_heights 27 = .ok (.ireturn, 1) := by decide +kernel
theorem dX4_heights_28 : decode cX4_heights 28 = .ok (.aload_n 0, 1) := by decide +kernel
theorem dX4_heights_29 : decode cX4_heights 29 = .ok (.getfield 16, 3) := by decide +kernel
theorem dX4_heights_32 : decode cX4_heights 32 = .ok (.aload_n 0, 1) := by decide +kernel
theorem dX4_heights_33 : decode cX4_heights 33 = .ok (.getfield 10, 3) := by decide +kernel
theorem dX4_heights_36 : decode cX4_heights 36 = .ok (.invokevirtual 156, 3) := by decide +kernel
theorem dX4_heights_39 : decode cX4_heights 39 = .ok (.iconst 0, 1) := by decide +kernel
theorem dX4_heights_40 : decode cX4_heights 40 = .ok (.istore 4, 2) := by decide +kernel
theorem dX4_heights_42 : decode cX4_heights 42 = .ok (.iconst 0, 1) := by decide +kernel
theorem dX4_heights_43 : decode cX4_heights 43 = .ok (.istore 5, 2) := by decide +kernel
theorem dX4_heights_45 : decode cX4_heights 45 = .ok (.iload 5, 2) := by decide +kernel
theorem dX4_heights_47 : decode cX4_heights 47 = .ok (.bipush 99, 2) := by decide +kernel
theorem dX4_heights_49 : decode cX4_heights 49 = .ok (.if_icmp .gt 34, 3) := by decide +kernel
theorem dX4_heights_52 : decode cX4_heights 52 = .ok (.aload_n 0, 1) := by decide +kernel
theorem dX4_heights_53 : decode cX4_heights 53 = .ok (.getfield 16, 3) := by decide +kernel
theorem dX4_heights_56 : decode cX4_heights 56 = .ok (.iload_n 1, 1) := by decide +kernel
theorem dX4_heights_57 : decode cX4_heights 57 = .ok (.iload 5, 2) := by decide +kernel
theorem dX4_heights_59 : decode cX4_heights 59 = .ok (.invokevirtual 62, 3) := by decide +kernel
theorem dX4_heights_62 : decode cX4_heights 62 = .ok (.aload_n 0, 1) := by decide +kernel
theorem dX4_heights_63 : decode cX4_heights 63 = .ok (.getfield 16, 3) := by decide +kernel
theorem dX4_heights_66 : decode cX4_heights 66 = .ok (.iload_n 2, 1) := by decide +kernel
theorem dX4_heights_67 : decode cX4_heights 67 = .ok (.invokevirtual 146, 3) := by decide +kernel
theorem dX4_heights_70 : decode cX4_heights 70 = .ok (.iload_n 3, 1) := by decide +kernel
theorem dX4_heights_71 : decode cX4_heights 71 = .ok (.if_icmp .ne 6, 3) := by decide +kernel
theorem dX4_heights_74 : decode cX4_heights 74 = .ok (.iinc 4 1, 3) := by decide +kernel
theorem dX4_heights_77 : decode cX4_heights 77 = .ok (.iinc 5 1, 3) := by decide +kernel
theorem dX4_heights_80 : decode cX4_heights 80 = .ok (.goto (-35), 3) := by decide +kernel
theorem dX4_heights_83 : decode cX4_heights 83 = .ok (.iload 4, 2) := by decide +kernel
theorem dX4_heights_85 : decode cX4_heights 85 = .ok (.ireturn, 1) := by decide +kernel
theorem dX4_hidden_0 : decode cX4_hidden 0 = .ok (.aload_n 0, 1) := by decide +kernel
theorem dX4_hidden_1 : decode cX4_hidden 1 = .ok (.iload_n 1, 1) := by decide +kernel
theorem dX4_hidden_2 : decode cX4_hidden 2 = .ok (.invokevirtual 102, 3) := by decide +kernel
theorem dX4_hidden_5 : decode cX4_hidden 5 = .ok (.ifCond .eq 10, 3) := by decide +kernel
theorem dX4_hidden_8 : decode cX4_hidden 8 = .ok (.iload_n 2, 1) := by decide +kernel
theorem dX4_hidden_9 : decode cX4_hidden 9 = .ok (.invokestatic 47, 3) := by decide +kernel
theorem dX4_hidden_12 : decode cX4_hidden 12 = .ok (.ifCond .ne 9, 3) := by decide +kernel
theorem dX4_hidden_15 : decode cX4_hidden 15 = .ok (.aload_n 0, 1) := by decide +kernel
theorem dX4_hidden_16 : decode cX4_hidden 16 = .ok (.iconst 0, 1) := by decide +kernel
theorem dX4_hidden_17 : decode cX4_hidden 17 = .ok (.invokevirtual 55, 3) := by decide +kernel
theorem dX4_hidden_20 : decode cX4_hidden 20 = .ok (.ireturn, 1) := by decide +kernel
theorem dX4_hidden_21 : decode cX4_hidden 21 = .ok (.aload_n 0, 1) := by decide +kernel
theorem dX4_hidden_22 : decode cX4_hidden 22 = .ok (.getfield 10, 3) := by decide +kernel
theorem dX4_hidden_25 : decode cX4_hidden 25 = .ok (.iload_n 1, 1) := by decide +kernel
theorem dX4_hidden_26 : decode cX4_hidden 26 = .ok (.iload_n 2, 1) := by decide +kernel
theorem dX4_hidden_27 : decode cX4_hidden 27 = .ok (.invokevirtual 139, 3) := by decide +kernel
theorem dX4_hidden_30 : decode cX4_hidden 30 = .ok (.ifCond .ne 9, 3) := by decide +kernel
theorem dX4_hidden_33 : decode cX4_hidden 33 = .ok (.aload_n 0, 1) := by decide +kernel
theorem dX4_hidden_34 : decode cX4_hidden 34 = .ok (.iconst 4, 1) := by decide +kernel
theorem dX4_hidden_35 : decode cX4_hidden 35 = .ok (.invokevirtual 55, 3) := by decide +kernel
theorem dX4_hidden_38 : decode cX4_hidden 38 = .ok (.ireturn, 1) := by decide +kernel
theorem dX4_hidden_39 : decode cX4_hidden 39 = .ok (.aload_n 0, 1) := by decide +kernel
theorem dX4_hidden_40 : decode cX4_hidden 40 = .ok (.getfield 10, 3) := by decide +kernel
theorem dX4_hidden_43 : decode cX4_hidden 43 = .ok (.iload_n 1, 1) := by decide +kernel
theorem dX4_hidden_44 : decode cX4_hidden 44 = .ok (.iload_n 2, 1) := by decide +kernel
theorem dX4_hidden_45 : decode cX4_hidden 45 = .ok (.invokevirtual 142, 3) := by decide +kernel
theorem dX4_hidden_48 : decode cX4_hidden 48 = .ok (.istore_n 3, 1) := by decide +kernel
theorem dX4_hidden_49 : decode cX4_hidden 49 = .ok (.iload_n 3, 1) := by decide +kernel
theorem dX4_hidden_50 : decode cX4_hidden 50 = .ok (.ifCond .ge 11, 3) := by decide +kernel
theorem dX4_hidden_53 : decode cX4_hidden 53 = .ok (.aload_n 0, 1) := by decide +kernel
theorem dX4_hidden_54 : decode cX4_hidden 54 = .ok (.iconst 3, 1) := by decide +kernel
theorem dX4_hidden_55 : decode cX4_hidden 55 = .ok (.invokevirtual 55, 3) := by decide +kernel
theorem dX4_hidden_58 : decode cX4_hidden 58 = .ok (.goto 4, 3) := by decide +kernel
theorem dX4_hidden_61 : decode cX4_hidden 61 = .ok (.iload_n 3, 1) := by decide +kernel
theorem dX4_hidden_62 : decode cX4_hidden 62 = .ok (.ireturn, 1) := by decide +kernel
theorem dX4_hold_0 : decode cX4_hold 0 = .ok (.iload_n 1, 1) := by decide +kernel
theorem dX4_hold_1 : decode cX4_hold 1 = .ok (.invokestatic 229, 3) := by decide +kernel
theorem dX4_hold_4 : decode cX4_hold 4 = .ok (.ifCond .eq 15, 3) := by decide +kernel
theorem dX4_hold_7 : decode cX4_hold 7 = .ok (.iload_n 2, 1) := by decide +kernel
theorem dX4_hold_8 : decode cX4_hold 8 = .ok (.iconst (-1), 1) := by decide +kernel
theorem dX4_hold_9 : decode cX4_hold 9 = .ok (.if_icmp .eq 16, 3) := by decide +kernel
theorem dX4_hold_12 : decode cX4_hold 12 = .ok (.iload_n 2, 1) := by decide +kernel
theorem dX4_hold_13 : decode cX4_hold 13 = .ok (.invokestatic 47, 3) := by decide +kernel
theorem dX4_hold_16 : decode cX4_hold 16 = .ok (.ifCond .ne 9, 3) := by decide +kernel
theorem dX4_hold_19 : decode cX4_hold 19 = .ok (.aload_n 0, 1) := by decide +kernel
theorem dX4_hold_20 : decode cX4_hold 20 = .ok (.iconst 0, 1) := by decide +kernel
theorem dX4_hold_21 : decode cX4_hold 21 = .ok (.invokevirtual 55, 3) := by decide +kernel
theorem dX4_hold_24 : decode cX4_hold 24 = .ok (.ireturn, 1) := by decide +kernel
theorem dX4_hold_25 : decode cX4_hold 25 = .ok (.aload_n 0, 1) := by decide +kernel
theorem dX4_hold_26 : decode cX4_hold 26 = .ok (.getfield 10, 3) := by decide +kernel
theorem dX4_hold_29 : decode cX4_hold 29 = .ok (.getfield 232, 3) := by decide +kernel
theorem dX4_hold_32 : decode cX4_hold 32 = .ok (.iload_n 1, 1) := by decide +kernel
theorem dX4_hold_33 : decode cX4_hold 33 = .ok (.iload_n 2, 1) := by decide +kernel
theorem dX4_hold_34 : decode cX4_hold 34 = .ok (.iastore, 1) := by decide +kernel
theorem dX4_hold_35 : decode cX4_hold 35 = .ok (.iconst 1, 1) := by decide +kernel
theorem dX4_hold_36 : decode cX4_hold 36 = .ok (.ireturn, 1) := by decide +kernel
theorem dX4_house_0 : decode cX4_house 0 = .ok (.iload_n 1, 1) := by decide +kernel
theorem dX4_house_1 : decode cX4_house 1 = .ok (.invokestatic 47, 3) := by decide +kernel
theorem dX4_house_4 : decode cX4_house 4 = .ok (.ifCond .eq 10, 3) := by decide +kernel
theorem dX4_house_7 : decode cX4_house 7 = .ok (.iload_n 2, 1) := by decide +kernel
theorem dX4_house_8 : decode cX4_house 8 = .ok (.invokestatic 87, 3) := by decide +kernel
theorem dX4_house_11 : decode cX4_house 11 = .ok (.ifCond .ne 9, 3) := by decide +kernel
theorem dX4_house_14 : decode cX4_house 14 = .ok (.aload_n 0, 1) := by decide +kernel
theorem dX4_house_15 : decode cX4_house 15 = .ok (.iconst 0, 1) := by decide +kernel
theorem dX4_house_16 : decode cX4_house 16 = .ok (.invokevirtual 55, 3) := by decide +kernel
theorem dX4_house_19 : decode cX4_house 19 = .ok (.ireturn, 1) := by decide +kernel
theorem dX4_house_20 : decode cX4_house 20 = .ok (.aload_n 0, 1) := by decide +kernel
theorem dX4_house_21 : decode cX4_house 21 = .ok (.getfield 10, 3) := by decide +kernel
theorem dX4_house_24 : decode cX4_house 24 = .ok (.invokevirtual 90, 3) := by decide +kernel
theorem dX4_house_27 : decode cX4_house 27 = .ok (.ifCond .eq 9, 3) := by decide +kernel
theorem dX4_house_30 : decode cX4_house 30 = .ok (.aload_n 0, 1) := by decide +kernel
theorem dX4_house_31 : decode cX4_house 31 = .ok (.iconst 1, 1) := by decide +kernel
theorem dX4_house_32 : decode cX4_house 32 = .ok (.invokevirtual 55, 3) := by decide +kernel
theorem dX4_house_35 : decode cX4_house 35 = .ok (.ireturn, 1) := by decide +kernel
theorem dX4_house_36 : decode cX4_house 36 = .ok (.aload_n 0, 1) := by decide +kernel
theorem dX4_house_37 : decode cX4_house 37 = .ok (.getfield 10, 3) := by decide +kernel
theorem dX4_house_40 : decode cX4_house 40 = .ok (.iload_n 1, 1) := by decide +kernel
theorem dX4_house_41 : decode cX4_house 41 = .ok (.iload_n 2, 1) := by decide +kernel
theorem dX4_house_42 : decode cX4_house 42 = .ok (.iconst 3, 1) := by decide +kernel
theorem dX4_house_43 : decode cX4_house 43 = .ok (.invokevirtual 94, 3) := by decide +kernel
theorem dX4_house_46 : decode cX4_house 46 = .ok (.aload_n 0, 1) := by decide +kernel
theorem dX4_house_47 : decode cX4_house 47 = .ok (.getfield 10, 3) := by decide +kernel
theorem dX4_house_50 : decode cX4_house 50 = .ok (.getfield 98, 3) := by decide +kernel
theorem dX4_house_53 : decode cX4_house 53 = .ok (.iconst 1, 1) := by decide +kernel
theorem dX4_house_54 : decode cX4_house 54 = .ok (.isub, 1) := by decide +kernel
theorem dX4_house_55 : decode cX4_house 55 = .ok (.ireturn, 1) := by decide +kernel
theorem dX4_houseOf_0 : decode cX4_houseOf 0 = .ok (.aload_n 0, 1) := by decide +kernel
theorem dX4_houseOf_1 : decode cX4_houseOf 1 = .ok (.iload_n 1, 1) := by decide +kernel
theorem dX4_houseOf_2 : decode cX4_houseOf 2 = .ok (.invokevirtual 102, 3) := by decide +kernel
theorem dX4_houseOf_5 : decode cX4_houseOf 5 = .ok (.ifCond .ne 9, 3) := by decide +kernel
theorem dX4_houseOf_8 : decode cX4_houseOf 8 = .ok (.aload_n 0, 1) := by decide +kernel
theorem dX4_houseOf_9 : decode cX4_houseOf 9 = .ok (.iconst 0, 1) := by decide +kernel
theorem dX4_houseOf_10 : decode cX4_houseOf 10 = .ok (.invokevirtual 55, 3) := by decide +kernel
theorem dX4_houseOf_13 : decode cX4_houseOf 13 = .ok (.ireturn, 1) := by decide +kernel
theorem dX4_houseOf_14 : decode cX4_houseOf 14 = .ok (.iload_n 2, 1) := by decide +kernel
theorem dX4_houseOf_15 : decode cX4_houseOf 15 = .ok (.tableswitch 68 0 3 #[29, 39, 49, 58], 29) := by decide +kernel
theorem dX4_houseOf_44 : decode cX4_houseOf 44 = .ok (.aload_n 0, 1) := by decide +kernel
theorem dX4_houseOf_45 : decode cX4_houseOf 45 = .ok (.getfield 10, 3) := by decide +kernel
theorem dX4_houseOf_48 : decode cX4_houseOf 48 = .ok (.getfield 105, 3) := by decide +kernel
theorem dX4_houseOf_51 : decode cX4_houseOf 51 = .ok (.iload_n 1, 1) := by decide +kernel
theorem dX4_houseOf_52 : decode cX4_houseOf 52 = .ok (.iaload, 1) := by decide +kernel
theorem dX4_houseOf_53 : decode cX4_houseOf 53 = .ok (.ireturn, 1) := by decide +kernel
theorem dX4_houseOf_54 : decode cX4_houseOf 54 = .ok (.aload_n 0, 1) := by decide +kernel
theorem dX4_houseOf_55 : decode cX4_houseOf 55 = .ok (.getfield 10, 3) := by decide +kernel
theorem dX4_houseOf_58 : decode cX4_houseOf 58 = .ok (.getfield 108, 3) := by decide +kernel
theorem dX4_houseOf_61 : decode cX4_houseOf 61 = .ok (.iload_n 1, 1) := by decide +kernel
theorem dX4_houseOf_62 : decode cX4_houseOf 62 = .ok (.iaload, 1) := by decide +kernel
theorem dX4_houseOf_63 : decode cX4_houseOf 63 = .ok (.ireturn, 1) := by decide +kernel
theorem dX4_houseOf_64 : decode cX4_houseOf 64 = .ok (.aload_n 0, 1) := by decide +kernel
theorem dX4_houseOf_65 : decode cX4_houseOf 65 = .ok (.getfield 10, 3) := by decide +kernel
theorem dX4_houseOf_68 : decode cX4_houseOf 68 = .ok (.iload_n 1, 1) := by decide +kernel
theorem dX4_houseOf_69 : decode cX4_houseOf 69 = .ok (.invokevirtual 111, 3) := by decide +kernel
theorem dX4_houseOf_72 : decode cX4_houseOf 72 = .ok (.ireturn, 1) := by decide +kernel
theorem dX4_houseOf_73 : decode cX4_houseOf 73 = .ok (.aload_n 0, 1) := by decide +kernel
theorem dX4_houseOf_74 : decode cX4_houseOf 74 = .ok (.getfield 10, 3) := by decide +kernel
theorem dX4_houseOf_77 : decode cX4_houseOf 77 = .ok (.getfield 114, 3) := by decide +kernel
theorem dX4_houseOf_80 : decode cX4_houseOf 80 = .ok (.iload_n 1, 1) := by decide +kernel
theorem dX4_houseOf_81 : decode cX4_houseOf 81 = .ok (.iaload, 1) := by decide +kernel
theorem dX4_houseOf_82 : decode cX4_houseOf 82 = .ok (.ireturn, 1) := by decide +kernel
theorem dX4_houseOf_83 : decode cX4_houseOf 83 = .ok (.aload_n 0, 1) := by decide +kernel
theorem dX4_houseOf_84 : decode cX4_houseOf 84 = .ok (.iconst 0, 1) := by decide +kernel
theorem dX4_houseOf_85 : decode cX4_houseOf 85 = .ok (.invokevirtual 55, 3) := by decide +kernel
theorem dX4_houseOf_88 : decode cX4_houseOf 88 = .ok (.ireturn, 1) := by decide +kernel
theorem dX4_image_0 : decode cX4_image 0 = .ok (.aload_n 0, 1) := by decide +kernel
theorem dX4_image_1 : decode cX4_image 1 = .ok (.getfield 19, 3) := by decide +kernel
theorem dX4_image_4 : decode cX4_image 4 = .ok (.aload_n 0, 1) := by decide +kernel
theorem dX4_image_5 : decode cX4_image 5 = .ok (.getfield 10, 3) := by decide +kernel
theorem dX4_image_8 : decode cX4_image 8 = .ok (.invokevirtual 156, 3) := by decide +kernel
theorem dX4_image_11 : decode cX4_image 11 = .ok (.aload_n 0, 1) := by decide +kernel
theorem dX4_image_12 : decode cX4_image 12 = .ok (.iconst 1, 1) := by decide +kernel
theorem dX4_image_13 : decode cX4_image 13 = .ok (.putfield 22, 3) := by decide +kernel
theorem dX4_image_16 : decode cX4_image 16 = .ok (.iconst 1, 1) := by decide +kernel
theorem dX4_image_17 : decode cX4_image 17 = .ok (.ireturn, 1) := by decide +kernel
theorem dX4_isCell_0 : decode cX4_isCell 0 = .ok (.iload_n 0, 1) := by decide +kernel
theorem dX4_isCell_1 : decode cX4_isCell 1 = .ok (.iconst 0, 1) := by decide +kernel
theorem dX4_isCell_2 : decode cX4_isCell 2 = .ok (.bipush 23, 2) := by decide +kernel
theorem dX4_isCell_4 : decode cX4_isCell 4 = .ok (.invokestatic 51, 3) := by decide +kernel
theorem dX4_isCell_7 : decode cX4_isCell 7 = .ok (.ireturn, 1) := by decide +kernel
theorem dX4_isFloor_0 : decode cX4_isFloor 0 = .ok (.iload_n 0, 1) := by decide +kernel
theorem dX4_isFloor_1 : decode cX4_isFloor 1 = .ok (.iconst 1, 1) := by decide +kernel
theorem dX4_isFloor_2 : decode cX4_isFloor 2 = .ok (.bipush 40, 2) := by decide +kernel
theorem dX4_isFloor_4 : decode cX4_isFloor 4 = .ok (.invokestatic 51, 3) := by decide +kernel
theorem dX4_isFloor_7 : decode cX4_isFloor 7 = .ok (.ireturn, 1) := by decide +kernel
theorem dX4_isHouse_0 : decode cX4_isHouse 0 = .ok (.iload_n 1, 1) := by decide +kernel
theorem dX4_isHouse_1 : decode cX4_isHouse 1 = .ok (.iconst 0, 1) := by decide +kernel
theorem dX4_isHouse_2 : decode cX4_isHouse 2 = .ok (.aload_n 0, 1) := by decide +kernel
theorem dX4_isHouse_3 : decode cX4_isHouse 3 = .ok (.getfield 10, 3) := by decide +kernel
theorem dX4_isHouse_6 : decode cX4_isHouse 6 = .ok (.getfield 98, 3) := by decide +kernel
theorem dX4_isHouse_9 : decode cX4_isHouse 9 = .ok (.iconst 1, 1) := by decide +kernel
theorem dX4_isHouse_10 : decode cX4_isHouse 10 = .ok (.isub, 1) := by decide +kernel
theorem dX4_isHouse_11 : decode cX4_isHouse 11 = .ok (.invokestatic 51, 3) := by decide +kernel
theorem dX4_isHouse_14 : decode cX4_isHouse 14 = .ok (.ireturn, 1) := by decide +kernel
theorem dX4_isKind_0 : decode cX4_isKind 0 = .ok (.iload_n 0, 1) := by decide +kernel
theorem dX4_isKind_1 : decode cX4_isKind 1 = .ok (.iconst 0, 1) := by decide +kernel
theorem dX4_isKind_2 : decode cX4_isKind 2 = .ok (.bipush 6, 2) := by decide +kernel
theorem dX4_isKind_4 : decode cX4_isKind 4 = .ok (.invokestatic 51, 3) := by decide +kernel
theorem dX4_isKind_7 : decode cX4_isKind 7 = .ok (.ireturn, 1) := by decide +kernel
theorem dX4_isSpan_0 : decode cX4_isSpan 0 = .ok (.iload_n 0, 1) := by decide +kernel
theorem dX4_isSpan_1 : decode cX4_isSpan 1 = .ok (.iconst 0, 1) := by decide +kernel
theorem dX4_isSpan_2 : decode cX4_isSpan 2 = .ok (.bipush 60, 2) := by decide +kernel
theorem dX4_isSpan_4 : decode cX4_isSpan 4 = .ok (.invokestatic 51, 3) := by decide +kernel
theorem dX4_isSpan_7 : decode cX4_isSpan 7 = .ok (.ireturn, 1) := by decide +kernel
theorem dX4_isSpot_0 : decode cX4_isSpot 0 = .ok (.iload_n 0, 1) := by decide +kernel
theorem dX4_isSpot_1 : decode cX4_isSpot 1 = .ok (.iconst 0, 1) := by decide +kernel
theorem dX4_isSpot_2 : decode cX4_isSpot 2 = .ok (.bipush 9, 2) := by decide +kernel
theorem dX4_isSpot_4 : decode cX4_isSpot 4 = .ok (.invokestatic 51, 3) := by decide +kernel
theorem dX4_isSpot_7 : decode cX4_isSpot 7 = .ok (.ireturn, 1) := by decide +kernel
theorem dX4_isTaxAsked_0 : decode cX4_isTaxAsked 0 = .ok (.iload_n 0, 1) := by decide +kernel
theorem dX4_isTaxAsked_1 : decode cX4_isTaxAsked 1 = .ok (.iconst 0, 1) := by decide +kernel
theorem dX4_isTaxAsked_2 : decode cX4_isTaxAsked 2 = .ok (.ldc_w 270, 3) := by decide +kernel
theorem dX4_isTaxAsked_5 : decode cX4_isTaxAsked 5 = .ok (.invokestatic 51, 3) := by decide +kernel
theorem dX4_isTaxAsked_8 : decode cX4_isTaxAsked 8 = .ok (.ireturn, 1) := by decide +kernel
theorem dX4_isTooLate_0 : decode cX4_isTooLate 0 = .ok (.aload_n 0, 1) := by decide +kernel
theorem dX4_isTooLate_1 : decode cX4_isTooLate 1 = .ok (.getfield 10, 3) := by decide +kernel
theorem dX4_isTooLate_4 : decode cX4_isTooLate 4 = .ok (.getfield 201, 3) := by decide +kernel
theorem dX4_isTooLate_7 : decode cX4_isTooLate 7 = .ok (.iload_n 1, 1) := by decide +kernel
theorem dX4_isTooLate_8 : decode cX4_isTooLate 8 = .ok (.iadd, 1) := by decide +kernel
theorem dX4_isTooLate_9 : decode cX4_isTooLate 9 = .ok (.sipush 999, 3) := by decide +kernel
theorem dX4_isTooLate_12 : decode cX4_isTooLate 12 = .ok (.if_icmp .le 7, 3) := by decide +kernel
theorem dX4_isTooLate_15 : decode cX4_isTooLate 15 = .ok (.iconst 1, 1) := by decide +kernel
theorem dX4_isTooLate_16 : decode cX4_isTooLate 16 = .ok (.goto 4, 3) := by decide +kernel
theorem dX4_isTooLate_19 : decode cX4_isTooLate 19 = .ok (.iconst 0, 1) := by decide +kernel
theorem dX4_isTooLate_20 : decode cX4_isTooLate 20 = .ok (.ireturn, 1) := by decide +kernel
theorem dX4_isWithin_0 : decode cX4_isWithin 0 = .ok (.iload_n 0, 1) := by decide +kernel
theorem dX4_isWithin_1 : decode cX4_isWithin 1 = .ok (.iload_n 1, 1) := by decide +kernel
theorem dX4_isWithin_2 : decode cX4_isWithin 2 = .ok (.if_icmp .lt 12, 3) := by decide +kernel
theorem dX4_isWithin_5 : decode cX4_isWithin 5 = .ok (.iload_n 0, 1) := by decide +kernel
theorem dX4_isWithin_6 : decode cX4_isWithin 6 = .ok (.iload_n 2, 1) := by decide +kernel
theorem dX4_isWithin_7 : decode cX4_isWithin 7 = .ok (.if_icmp .gt 7, 3) := by decide +kernel
theorem dX4_isWithin_10 : decode cX4_isWithin 10 = .ok (.iconst 1, 1) := by decide +kernel
theorem dX4_isWithin_11 : decode cX4_isWithin 11 = .ok (.goto 4, 3) := by decide +kernel
theorem dX4_isWithin_14 : decode cX4_isWithin 14 = .ok (.iconst 0, 1) := by decide +kernel
theorem dX4_isWithin_15 : decode cX4_isWithin 15 = .ok (.ireturn, 1) := by decide +kernel
theorem dX4_judge_0 : decode cX4_judge 0 = .ok (.iload_n 1, 1) := by decide +kernel
theorem dX4_judge_1 : decode cX4_judge 1 = .ok (.invokestatic 238, 3) := by decide +kernel
theorem dX4_judge_4 : decode cX4_judge 4 = .ok (.ifCond .ne 9, 3) := by decide +kernel
theorem dX4_judge_7 : decode cX4_judge 7 = .ok (.aload_n 0, 1) := by decide +kernel
theorem dX4_judge_8 : decode cX4_judge 8 = .ok (.iconst 0, 1) := by decide +kernel
theorem dX4_judge_9 : decode cX4_judge 9 = .ok (.invokevirtual 55, 3) := by decide +kernel
theorem dX4_judge_12 : decode cX4_judge 12 = .ok (.ireturn, 1) := by decide +kernel
theorem dX4_judge_13 : decode cX4_judge 13 = .ok (.aload_n 0, 1) := by decide +kernel
theorem dX4_judge_14 : decode cX4_judge 14 = .ok (.getfield 36, 3) := by decide +kernel
theorem dX4_judge_17 : decode cX4_judge 17 = .ok (.iload_n 1, 1) := by decide +kernel
theorem dX4_judge_18 : decode cX4_judge 18 = .ok (.invokevirtual 247, 3) := by decide +kernel
theorem dX4_judge_21 : decode cX4_judge 21 = .ok (.ifCond .eq 9, 3) := by decide +kernel
theorem dX4_judge_24 : decode cX4_judge 24 = .ok (.aload_n 0, 1) := by decide +kernel
theorem dX4_judge_25 : decode cX4_judge 25 = .ok (.iconst 5, 1) := by decide +kernel
theorem dX4_judge_26 : decode cX4_judge 26 = .ok (.invokevirtual 55, 3) := by decide +kernel
theorem dX4_judge_29 : decode cX4_judge 29 = .ok (.ireturn, 1) := by decide +kernel
theorem dX4_judge_30 : decode cX4_judge 30 = .ok (.iload_n 2, 1) := by decide +kernel
theorem dX4_judge_31 : decode cX4_judge 31 = .ok (.invokestatic 174, 3) := by decide +kernel
theorem dX4_judge_34 : decode cX4_judge 34 = .ok (.ifCond .ne 9, 3) := by decide +kernel
theorem dX4_judge_37 : decode cX4_judge 37 = .ok (.aload_n 0, 1) := by decide +kernel
theorem dX4_judge_38 : decode cX4_judge 38 = .ok (.iconst 0, 1) := by decide +kernel
theorem dX4_judge_39 : decode cX4_judge 39 = .ok (.invokevirtual 55, 3) := by decide +kernel
theorem dX4_judge_42 : decode cX4_judge 42 = .ok (.ireturn, 1) := by decide +kernel
theorem dX4_judge_43 : decode cX4_judge 43 = .ok (.aload_n 0, 1) := by decide +kernel
theorem dX4_judge_44 : decode cX4_judge 44 = .ok (.iload_n 2, 1) := by decide +kernel
theorem dX4_judge_45 : decode cX4_judge 45 = .ok (.invokevirtual 177, 3) := by decide +kernel
theorem dX4_judge_48 : decode cX4_judge 48 = .ok (.ifCond .eq 9, 3) := by decide +kernel
theorem dX4_judge_51 : decode cX4_judge 51 = .ok (.aload_n 0, 1) := by decide +kernel
theorem dX4_judge_52 : decode cX4_judge 52 = .ok (.iconst 4, 1) := by decide +kernel
theorem dX4_judge_53 : decode cX4_judge 53 = .ok (.invokevirtual 55, 3) := by decide +kernel
theorem dX4_judge_56 : decode cX4_judge 56 = .ok (.ireturn, 1) := by decide +kernel
theorem dX4_judge_57 : decode cX4_judge 57 = .ok (.aload_n 0, 1) := by decide +kernel
theorem dX4_judge_58 : decode cX4_judge 58 = .ok (.iload_n 2, 1) := by decide +kernel
theorem dX4_judge_59 : decode cX4_judge 59 = .ok (.invokevirtual 183, 3) := by decide +kernel
theorem dX4_judge_62 : decode cX4_judge 62 = .ok (.iconst 0, 1) := by decide +kernel
theorem dX4_judge_63 : decode cX4_judge 63 = .ok (.istore_n 3, 1) := by decide +kernel
theorem dX4_judge_64 : decode cX4_judge 64 = .ok (.iload_n 3, 1) := by decide +kernel
theorem dX4_judge_65 : decode cX4_judge 65 = .ok (.aload_n 0, 1) := by decide +kernel
theorem dX4_judge_66 : decode cX4_judge 66 = .ok (.getfield 36, 3) := by decide +kernel
theorem dX4_judge_69 : decode cX4_judge 69 = .ok (.getfield 244, 3) := by decide +kernel
theorem dX4_judge_72 : decode cX4_judge 72 = .ok (.iload_n 1, 1) := by decide +kernel
theorem dX4_judge_73 : decode cX4_judge 73 = .ok (.iaload, 1) := by decide +kernel
theorem dX4_judge_74 : decode cX4_judge 74 = .ok (.if_icmp .ge 40, 3) := by decide +kernel
theorem dX4_judge_77 : decode cX4_judge 77 = .ok (.iload_n 3, 1) := by decide +kernel
theorem dX4_judge_78 : decode cX4_judge 78 = .ok (.aload_n 0, 1) := by decide +kernel
theorem dX4_judge_79 : decode cX4_judge 79 = .ok (.getfield 16, 3) := by decide +kernel
theorem dX4_judge_82 : decode cX4_judge 82 = .ok (.getfield 98, 3) := by decide +kernel
theorem dX4_judge_85 : decode cX4_judge 85 = .ok (.if_icmp .ge 29, 3) := by decide +kernel
theorem dX4_judge_88 : decode cX4_judge 88 = .ok (.aload_n 0, 1) := by decide +kernel
theorem dX4_judge_89 : decode cX4_judge 89 = .ok (.getfield 36, 3) := by decide +kernel
theorem dX4_judge_92 : decode cX4_judge 92 = .ok (.iload_n 1, 1) := by decide +kernel
theorem dX4_judge_93 : decode cX4_judge 93 = .ok (.iload_n 3, 1) := by decide +kernel
theorem dX4_judge_94 : decode cX4_judge 94 = .ok (.invokevirtual 263, 3) := by decide +kernel
theorem dX4_judge_97 : decode cX4_judge 97 = .ok (.aload_n 0, 1) := by decide +kernel
theorem dX4_judge_98 : decode cX4_judge 98 = .ok (.getfield 16, 3) := by decide +kernel
theorem dX4_judge_101 : decode cX4_judge 101 = .ok (.iload_n 3, 1) := by decide +kernel
theorem dX4_judge_102 : decode cX4_judge 102 = .ok (.invokevirtual 146, 3) := by decide +kernel
theorem dX4_judge_105 : decode cX4_judge 105 = .ok (.if_icmp .ne 9, 3) := by decide +kernel
theorem dX4_judge_108 : decode cX4_judge 108 = .ok (.iinc 3 1, 3) := by decide +kernel
theorem dX4_judge_111 : decode cX4_judge 111 = .ok (.goto (-47), 3) := by decide +kernel
theorem dX4_judge_114 : decode cX4_judge 114 = .ok (.iload_n 3, 1) := by decide +kernel
theorem dX4_judge_115 : decode cX4_judge 115 = .ok (.aload_n 0, 1) := by decide +kernel
theorem dX4_judge_116 : decode cX4_judge 116 = .ok (.getfield 36, 3) := by decide +kernel
theorem dX4_judge_119 : decode cX4_judge 119 = .ok (.getfield 244, 3) := by decide +kernel
theorem dX4_judge_122 : decode cX4_judge 122 = .ok (.iload_n 1, 1) := by decide +kernel
theorem dX4_judge_123 : decode cX4_judge 123 = .ok (.iaload, 1) := by decide +kernel
theorem dX4_judge_124 : decode cX4_judge 124 = .ok (.if_icmp .ne 18, 3) := by decide +kernel
theorem dX4_judge_127 : decode cX4_judge 127 = .ok (.iload_n 3, 1) := by decide +kernel
theorem dX4_judge_128 : decode cX4_judge 128 = .ok (.aload_n 0, 1) := by decide +kernel
theorem dX4_judge_129 : decode cX4_judge 129 = .ok (.getfield 16, 3) := by decide +kernel
theorem dX4_judge_132 : decode cX4_judge 132 = .ok (.getfield 98, 3) := by decide +kernel
theorem dX4_judge_135 : decode cX4_judge 135 = .ok (.if_icmp .ne 7, 3) := by decide +kernel
theorem dX4_judge_138 : decode cX4_judge 138 = .ok (.iconst 1, 1) := by decide +kernel
theorem dX4_judge_139 : decode cX4_judge 139 = .ok (.goto 4, 3) := by decide +kernel
theorem dX4_judge_142 : decode cX4_judge 142 = .ok (.iconst 0, 1) := by decide +kernel
theorem dX4_judge_143 : decode cX4_judge 143 = .ok (.istore 4, 2) := by decide +kernel
theorem dX4_judge_145 : decode cX4_judge 145 = .ok (.iload 4, 2) := by decide +kernel
theorem dX4_judge_147 : decode cX4_judge 147 = .ok (.ifCond .eq 7, 3) := by decide +kernel
theorem dX4_judge_150 : decode cX4_judge 150 = .ok (.iconst 0, 1) := by decide +kernel
theorem dX4_judge_151 : decode cX4_judge 151 = .ok (.goto 6, 3) := by decide +kernel
theorem dX4_judge_154 : decode cX4_judge 154 = .ok (.iconst 1, 1) := by decide +kernel
theorem dX4_judge_155 : decode cX4_judge 155 = .ok (.iload_n 3, 1) := by decide +kernel
theorem dX4_judge_156 : decode cX4_judge 156 = .ok (.iadd, 1) := by decide +kernel
theorem dX4_judge_157 : decode cX4_judge 157 = .ok (.ireturn, 1) := by decide +kernel
theorem dX4_law_0 : decode cX4_law 0 = .ok (.iload_n 1, 1) := by decide +kernel
theorem dX4_law_1 : decode cX4_law 1 = .ok (.ifCond .ne 31, 3) := by decide +kernel
theorem dX4_law_4 : decode cX4_law 4 = .ok (.iload_n 2, 1) := by decide +kernel
theorem dX4_law_5 : decode cX4_law 5 = .ok (.iconst 1, 1) := by decide +kernel
theorem dX4_law_6 : decode cX4_law 6 = .ok (.bipush 23, 2) := by decide +kernel
theorem dX4_law_8 : decode cX4_law 8 = .ok (.invokestatic 51, 3) := by decide +kernel
theorem dX4_law_11 : decode cX4_law 11 = .ok (.ifCond .eq 21, 3) := by decide +kernel
theorem dX4_law_14 : decode cX4_law 14 = .ok (.aload_n 0, 1) := by decide +kernel
theorem dX4_law_15 : decode cX4_law 15 = .ok (.getfield 10, 3) := by decide +kernel
theorem dX4_law_18 : decode cX4_law 18 = .ok (.getfield 117, 3) := by decide +kernel
theorem dX4_law_21 : decode cX4_law 21 = .ok (.istore_n 3, 1) := by decide +kernel
theorem dX4_law_22 : decode cX4_law 22 = .ok (.aload_n 0, 1) := by decide +kernel
theorem dX4_law_23 : decode cX4_law 23 = .ok (.getfield 10, 3) := by decide +kernel
theorem dX4_law_26 : decode cX4_law 26 = .ok (.iload_n 2, 1) := by decide +kernel
theorem dX4_law_27 : decode cX4_law 27 = .ok (.putfield 117, 3) := by decide +kernel
theorem dX4_law_30 : decode cX4_law 30 = .ok (.iload_n 3, 1) := by decide +kernel
theorem dX4_law_31 : decode cX4_law 31 = .ok (.ireturn, 1) := by decide +kernel
theorem dX4_law_32 : decode cX4_law 32 = .ok (.iload_n 1, 1) := by decide +kernel
theorem dX4_law_33 : decode cX4_law 33 = .ok (.iconst 1, 1) := by decide +kernel
theorem dX4_law_34 : decode cX4_law 34 = .ok (.if_icmp .ne 31, 3) := by decide +kernel
theorem dX4_law_37 : decode cX4_law 37 = .ok (.iload_n 2, 1) := by decide +kernel
theorem dX4_law_38 : decode cX4_law 38 = .ok (.iconst 0, 1) := by decide +kernel
theorem dX4_law_39 : decode cX4_law 39 = .ok (.bipush 99, 2) := by decide +kernel
theorem dX4_law_41 : decode cX4_law 41 = .ok (.invokestatic 51, 3) := by decide +kernel
theorem dX4_law_44 : decode cX4_law 44 = .ok (.ifCond .eq 21, 3) := by decide +kernel
theorem dX4_law_47 : decode cX4_law 47 = .ok (.aload_n 0, 1) := by decide +kernel
theorem dX4_law_48 : decode cX4_law 48 = .ok (.getfield 10, 3) := by decide +kernel
theorem dX4_law_51 : decode cX4_law 51 = .ok (.getfield 120, 3) := by decide +kernel
theorem dX4_law_54 : decode cX4_law 54 = .ok (.istore_n 3, 1) := by decide +kernel
theorem dX4_law_55 : decode cX4_law 55 = .ok (.aload_n 0, 1) := by decide +kernel
theorem dX4_law_56 : decode cX4_law 56 = .ok (.getfield 10, 3) := by decide +kernel
theorem dX4_law_59 : decode cX4_law 59 = .ok (.iload_n 2, 1) := by decide +kernel
theorem dX4_law_60 : decode cX4_law 60 = .ok (.putfield 120, 3) := by decide +kernel
theorem dX4_law_63 : decode cX4_law 63 = .ok (.iload_n 3, 1) := by decide +kernel
theorem dX4_law_64 : decode cX4_law 64 = .ok (.ireturn, 1) := by decide +kernel
theorem dX4_law_65 : decode cX4_law 65 = .ok (.aload_n 0, 1) := by decide +kernel
theorem dX4_law_66 : decode cX4_law 66 = .ok (.iconst 0, 1) := by decide +kernel
theorem dX4_law_67 : decode cX4_law 67 = .ok (.invokevirtual 55, 3) := by decide +kernel
theorem dX4_law_70 : decode cX4_law 70 = .ok (.ireturn, 1) := by decide +kernel
theorem dX4_load_0 : decode cX4_load 0 = .ok (.iload_n 1, 1) := by decide +kernel
theorem dX4_load_1 : decode cX4_load 1 = .ok (.invokestatic 238, 3) := by decide +kernel
theorem dX4_load_4 : decode cX4_load 4 = .ok (.ifCond .ne 9, 3) := by decide +kernel
theorem dX4_load_7 : decode cX4_load 7 = .ok (.aload_n 0, 1) := by decide +kernel
theorem dX4_load_8 : decode cX4_load 8 = .ok (.iconst 0, 1) := by decide +kernel
theorem dX4_load_9 : decode cX4_load 9 = .ok (.invokevirtual 55, 3) := by decide +kernel
theorem dX4_load_12 : decode cX4_load 12 = .ok (.ireturn, 1) := by decide +kernel
theorem dX4_load_13 : decode cX4_load 13 = .ok (.aload_n 0, 1) := by decide +kernel
theorem dX4_load_14 : decode cX4_load 14 = .ok (.getfield 36, 3) := by decide +kernel
theorem dX4_load_17 : decode cX4_load 17 = .ok (.iload_n 1, 1) := by decide +kernel
theorem dX4_load_18 : decode cX4_load 18 = .ok (.invokevirtual 247, 3) := by decide +kernel
theorem dX4_load_21 : decode cX4_load 21 = .ok (.ifCond .eq 9, 3) := by decide +kernel
theorem dX4_load_24 : decode cX4_load 24 = .ok (.aload_n 0, 1) := by decide +kernel
theorem dX4_load_25 : decode cX4_load 25 = .ok (.iconst 5, 1) := by decide +kernel
theorem dX4_load_26 : decode cX4_load 26 = .ok (.invokevirtual 55, 3) := by decide +kernel
theorem dX4_load_29 : decode cX4_load 29 = .ok (.ireturn, 1) := by decide +kernel
theorem dX4_load_30 : decode cX4_load 30 = .ok (.iload_n 2, 1) := by decide +kernel
theorem dX4_load_31 : decode cX4_load 31 = .ok (.invokestatic 47, 3) := by decide +kernel
theorem dX4_load_34 : decode cX4_load 34 = .ok (.ifCond .ne 9, 3) := by decide +kernel
theorem dX4_load_37 : decode cX4_load 37 = .ok (.aload_n 0, 1) := by decide +kernel
theorem dX4_load_38 : decode cX4_load 38 = .ok (.iconst 0, 1) := by decide +kernel
theorem dX4_load_39 : decode cX4_load 39 = .ok (.invokevirtual 55, 3) := by decide +kernel
theorem dX4_load_42 : decode cX4_load 42 = .ok (.ireturn, 1) := by decide +kernel
theorem dX4_load_43 : decode cX4_load 43 = .ok (.iconst 0, 1) := by decide +kernel
theorem dX4_load_44 : decode cX4_load 44 = .ok (.istore_n 3, 1) := by decide +kernel
theorem dX4_load_45 : decode cX4_load 45 = .ok (.iload_n 3, 1) := by decide +kernel
theorem dX4_load_46 : decode cX4_load 46 = .ok (.aload_n 0, 1) := by decide +kernel
theorem dX4_load_47 : decode cX4_load 47 = .ok (.getfield 36, 3) := by decide +kernel
theorem dX4_load_50 : decode cX4_load 50 = .ok (.getfield 244, 3) := by decide +kernel
theorem dX4_load_53 : decode cX4_load 53 = .ok (.iload_n 1, 1) := by decide +kernel
theorem dX4_load_54 : decode cX4_load 54 = .ok (.iaload, 1) := by decide +kernel
theorem dX4_load_55 : decode cX4_load 55 = .ok (.if_icmp .ge 55, 3) := by decide +kernel
theorem dX4_load_58 : decode cX4_load 58 = .ok (.iload_n 2, 1) := by decide +kernel
theorem dX4_load_59 : decode cX4_load 59 = .ok (.iload_n 3, 1) := by decide +kernel
theorem dX4_load_60 : decode cX4_load 60 = .ok (.iadd, 1) := by decide +kernel
theorem dX4_load_61 : decode cX4_load 61 = .ok (.invokestatic 47, 3) := by decide +kernel
theorem dX4_load_64 : decode cX4_load 64 = .ok (.ifCond .eq 46, 3) := by decide +kernel
theorem dX4_load_67 : decode cX4_load 67 = .ok (.aload_n 0, 1) := by decide +kernel
theorem dX4_load_68 : decode cX4_load 68 = .ok (.getfield 36, 3) := by decide +kernel
theorem dX4_load_71 : decode cX4_load 71 = .ok (.iload_n 1, 1) := by decide +kernel
theorem dX4_load_72 : decode cX4_load 72 = .ok (.iload_n 3, 1) := by decide +kernel
theorem dX4_load_73 : decode cX4_load 73 = .ok (.invokevirtual 263, 3) := by decide +kernel
theorem dX4_load_76 : decode cX4_load 76 = .ok (.iconst 0, 1) := by decide +kernel
theorem dX4_load_77 : decode cX4_load 77 = .ok (.bipush 99, 2) := by decide +kernel
theorem dX4_load_79 : decode cX4_load 79 = .ok (.invokestatic 51, 3) := by decide +kernel
theorem dX4_load_82 : decode cX4_load 82 = .ok (.ifCond .eq 28, 3) := by decide +kernel
theorem dX4_load_85 : decode cX4_load 85 = .ok (.aload_n 0, 1) := by decide +kernel
theorem dX4_load_86 : decode cX4_load 86 = .ok (.getfield 10, 3) := by decide +kernel
theorem dX4_load_89 : decode cX4_load 89 = .ok (.iload_n 2, 1) := by decide +kernel
theorem dX4_load_90 : decode cX4_load 90 = .ok (.iload_n 3, 1) := by decide +kernel
theorem dX4_load_91 : decode cX4_load 91 = .ok (.iadd, 1) := by decide +kernel
theorem dX4_load_92 : decode cX4_load 92 = .ok (.aload_n 0, 1) := by decide +kernel
theorem dX4_load_93 : decode cX4_load 93 = .ok (.getfield 36, 3) := by decide +kernel
theorem dX4_load_96 : decode cX4_load 96 = .ok (.iload_n 1, 1) := by decide +kernel
theorem dX4_load_97 : decode cX4_load 97 = .ok (.iload_n 3, 1) := by decide +kernel
theorem dX4_load_98 : decode cX4_load 98 = .ok (.invokevirtual 263, 3) := by decide +kernel
theorem dX4_load_101 : decode cX4_load 101 = .ok (.invokevirtual 62, 3) := by decide +kernel
theorem dX4_load_104 : decode cX4_load 104 = .ok (.iinc 3 1, 3) := by decide +kernel
theorem dX4_load_107 : decode cX4_load 107 = .ok (.goto (-62), 3) := by decide +kernel
theorem dX4_load_110 : decode cX4_load 110 = .ok (.iload_n 3, 1) := by decide +kernel
theorem dX4_load_111 : decode cX4_load 111 = .ok (.ireturn, 1) := by decide +kernel
theorem dX4_lost_0 : decode cX4_lost 0 = .ok (.aload_n 0, 1) := by decide +kernel
theorem dX4_lost_1 : decode cX4_lost 1 = .ok (.iload_n 1, 1) := by decide +kernel
theorem dX4_lost_2 : decode cX4_lost 2 = .ok (.invokevirtual 102, 3) := by decide +kernel
theorem dX4_lost_5 : decode cX4_lost 5 = .ok (.ifCond .eq 10, 3) := by decide +kernel
theorem dX4_lost_8 : decode cX4_lost 8 = .ok (.iload_n 2, 1) := by decide +kernel
theorem dX4_lost_9 : decode cX4_lost 9 = .ok (.invokestatic 47, 3) := by decide +kernel
theorem dX4_lost_12 : decode cX4_lost 12 = .ok (.ifCond .ne 9, 3) := by decide +kernel
theorem dX4_lost_15 : decode cX4_lost 15 = .ok (.aload_n 0, 1) := by decide +kernel
theorem dX4_lost_16 : decode cX4_lost 16 = .ok (.iconst 0, 1) := by decide +kernel
theorem dX4_lost_17 : decode cX4_lost 17 = .ok (.invokevirtual 55, 3) := by decide +kernel
theorem dX4_lost_20 : decode cX4_lost 20 = .ok (.ireturn, 1) := by decide +kernel
theorem dX4_lost_21 : decode cX4_lost 21 = .ok (.aload_n 0, 1) := by decide +kernel
theorem dX4_lost_22 : decode cX4_lost 22 = .ok (.bipush 60, 2) := by decide +kernel
theorem dX4_lost_24 : decode cX4_lost 24 = .ok (.invokevirtual 177, 3) := by decide +kernel
theorem dX4_lost_27 : decode cX4_lost 27 = .ok (.ifCond .eq 9, 3) := by decide +kernel
theorem dX4_lost_30 : decode cX4_lost 30 = .ok (.aload_n 0, 1) := by decide +kernel
theorem dX4_lost_31 : decode cX4_lost 31 = .ok (.iconst 4, 1) := by decide +kernel
theorem dX4_lost_32 : decode cX4_lost 32 = .ok (.invokevirtual 55, 3) := by decide +kernel
theorem dX4_lost_35 : decode cX4_lost 35 = .ok (.ireturn, 1) := by decide +kernel
theorem dX4_lost_36 : decode cX4_lost 36 = .ok (.aload_n 0, 1) := by decide +kernel
theorem dX4_lost_37 : decode cX4_lost 37 = .ok (.getfield 16, 3) := by decide +kernel
theorem dX4_lost_40 : decode cX4_lost 40 = .ok (.aload_n 0, 1) := by decide +kernel
theorem dX4_lost_41 : decode cX4_lost 41 = .ok (.getfield 10, 3) := by decide +kernel
theorem dX4_lost_44 : decode cX4_lost 44 = .ok (.invokevirtual 156, 3) := by decide +kernel
theorem dX4_lost_47 : decode cX4_lost 47 = .ok (.iconst 0, 1) := by decide +kernel
theorem dX4_lost_48 : decode cX4_lost 48 = .ok (.istore_n 3, 1) := by decide +kernel
theorem dX4_lost_49 : decode cX4_lost 49 = .ok (.iload_n 3, 1) := by decide +kernel
theorem dX4_lost_50 : decode cX4_lost 50 = .ok (.bipush 60, 2) := by decide +kernel
theorem dX4_lost_52 : decode cX4_lost 52 = .ok (.if_icmp .gt 31, 3) := by decide +kernel
theorem dX4_lost_55 : decode cX4_lost 55 = .ok (.aload_n 0, 1) := by decide +kernel
theorem dX4_lost_56 : decode cX4_lost 56 = .ok (.getfield 16, 3) := by decide +kernel
theorem dX4_lost_59 : decode cX4_lost 59 = .ok (.iload_n 1, 1) := by decide +kernel
theorem dX4_lost_60 : decode cX4_lost 60 = .ok (.iload_n 2, 1) := by decide +kernel
theorem dX4_lost_61 : decode cX4_lost 61 = .ok (.invokevirtual 132, 3) := by decide +kernel
theorem dX4_lost_64 : decode cX4_lost 64 = .ok (.ifCond .ne 5, 3) := by decide +kernel
theorem dX4_lost_67 : decode cX4_lost 67 = .ok (.iload_n 3, 1) := by decide +kernel
theorem dX4_lost_68 : decode cX4_lost 68 = .ok (.ireturn, 1) := by decide +kernel
theorem dX4_lost_69 : decode cX4_lost 69 = .ok (.aload_n 0, 1) := by decide +kernel
theorem dX4_lost_70 : decode cX4_lost 70 = .ok (.getfield 16, 3) := by decide +kernel
theorem dX4_lost_73 : decode cX4_lost 73 = .ok (.iconst 1, 1) := by decide +kernel
theorem dX4_lost_74 : decode cX4_lost 74 = .ok (.invokevirtual 198, 3) := by decide +kernel
theorem dX4_lost_77 : decode cX4_lost 77 = .ok (.iinc 3 1, 3) := by decide +kernel
theorem dX4_lost_80 : decode cX4_lost 80 = .ok (.goto (-31), 3) := by decide +kernel
theorem dX4_lost_83 : decode cX4_lost 83 = .ok (.aload_n 0, 1) := by decide +kernel
theorem dX4_lost_84 : decode cX4_lost 84 = .ok (.iconst 3, 1) := by decide +kernel
theorem dX4_lost_85 : decode cX4_lost 85 = .ok (.invokevirtual 55, 3) := by decide +kernel
theorem dX4_lost_88 : decode cX4_lost 88 = .ok (.ireturn, 1) := by decide +kernel
theorem dX4_neighbours_0 : decode cX4_neighbours 0 = .ok (.aload_n 0, 1) := by decide +kernel
theorem dX4_neighbours_1 : decode cX4_neighbours 1 = .ok (.iload_n 1, 1) := by decide +kernel
theorem dX4_neighbours_2 : decode cX4_neighbours 2 = .ok (.invokevirtual 102, 3) := by decide +kernel
theorem dX4_neighbours_5 : decode cX4_neighbours 5 = .ok (.ifCond .ne 9, 3) := by decide +kernel
theorem dX4_neighbours_8 : decode cX4_neighbours 8 = .ok (.aload_n 0, 1) := by decide +kernel
theorem dX4_neighbours_9 : decode cX4_neighbours 9 = .ok (.iconst 0, 1) := by decide +kernel
theorem dX4_neighbours_10 : decode cX4_neighbours 10 = .ok (.invokevirtual 55, 3) := by decide +kernel
theorem dX4_neighbours_13 : decode cX4_neighbours 13 = .ok (.ireturn, 1) := by decide +kernel
theorem dX4_neighbours_14 : decode cX4_neighbours 14 = .ok (.aload_n 0, 1) := by decide +kernel
theorem dX4_neighbours_15 : decode cX4_neighbours 15 = .ok (.getfield 10, 3) := by decide +kernel
theorem dX4_neighbours_18 : decode cX4_neighbours 18 = .ok (.iload_n 1, 1) := by decide +kernel
theorem dX4_neighbours_19 : decode cX4_neighbours 19 = .ok (.invokevirtual 129, 3) := by decide +kernel
theorem dX4_neighbours_22 : decode cX4_neighbours 22 = .ok (.istore_n 2, 1) := by decide +kernel
theorem dX4_neighbours_23 : decode cX4_neighbours 23 = .ok (.iconst 0, 1) := by decide +kernel
theorem dX4_neighbours_24 : decode cX4_neighbours 24 = .ok (.istore_n 3, 1) := by decide +kernel
theorem dX4_neighbours_25 : decode cX4_neighbours 25 = .ok (.iconst 0, 1) := by decide +kernel
theorem dX4_neighbours_26 : decode cX4_neighbours 26 = .ok (.istore 4, 2) := by decide +kernel
theorem dX4_neighbours_28 : decode cX4_neighbours 28 = .ok (.iload 4, 2) := by decide +kernel
theorem dX4_neighbours_30 : decode cX4_neighbours 30 = .ok (.aload_n 0, 1) := by decide +kernel
theorem dX4_neighbours_31 : decode cX4_neighbours 31 = .ok (.getfield 10, 3) := by decide +kernel
theorem dX4_neighbours_34 : decode cX4_neighbours 34 = .ok (.getfield 98, 3) := by decide +kernel
theorem dX4_neighbours_37 : decode cX4_neighbours 37 = .ok (.if_icmp .ge 39, 3) := by decide +kernel
theorem dX4_neighbours_40 : decode cX4_neighbours 40 = .ok (.iload 4, 2) := by decide +kernel
theorem dX4_neighbours_42 : decode cX4_neighbours 42 = .ok (.iload_n 1, 1) := by decide +kernel
theorem dX4_neighbours_43 : decode cX4_neighbours 43 = .ok (.if_icmp .eq 27, 3) := by decide +kernel
theorem dX4_neighbours_46 : decode cX4_neighbours 46 = .ok (.aload_n 0, 1) := by decide +kernel
theorem dX4_neighbours_47 : decode cX4_neighbours 47 = .ok (.getfield 10, 3) := by decide +kernel
theorem dX4_neighbours_50 : decode cX4_neighbours 50 = .ok (.getfield 105, 3) := by decide +kernel
theorem dX4_neighbours_53 : decode cX4_neighbours 53 = .ok (.iload 4, 2) := by decide +kernel
theorem dX4_neighbours_55 : decode cX4_neighbours 55 = .ok (.iaload, 1) := by decide +kernel
theorem dX4_neighbours_56 : decode cX4_neighbours 56 = .ok (.iload_n 2, 1) := by decide +kernel
theorem dX4_neighbours_57 : decode cX4_neighbours 57 = .ok (.invokestatic 136, 3) := by decide +kernel
theorem dX4_neighbours_60 : decode cX4_neighbours 60 = .ok (.ifCond .eq 10, 3) := by decide +kernel
theorem dX4_neighbours_63 : decode cX4_neighbours 63 = .ok (.iload_n 3, 1) := by decide +kernel
theorem dX4_neighbours_64 : decode cX4_neighbours 64 = .ok (.iconst 1, 1) := by decide +kernel
theorem dX4_neighbours_65 : decode cX4_neighbours 65 = .ok (.iload 4, 2) := by decide +kernel
theorem dX4_neighbours_67 : decode cX4_neighbours 67 = .ok (.ishl, 1) := by decide +kernel
theorem dX4_neighbours_68 : decode cX4_neighbours 68 = .ok (.ior, 1) := by decide +kernel
theorem dX4_neighbours_69 : decode cX4_neighbours 69 = .ok (.istore_n 3, 1) := by decide +kernel
theorem dX4_neighbours_70 : decode cX4_neighbours 70 = .ok (.iinc 4 1, 3) := by decide +kernel
theorem dX4_neighbours_73 : decode cX4_neighbours 73 = .ok (.goto (-45), 3) := by decide +kernel
theorem dX4_neighbours_76 : decode cX4_neighbours 76 = .ok (.iload_n 3, 1) := by decide +kernel
theorem dX4_neighbours_77 : decode cX4_neighbours 77 = .ok (.ireturn, 1) := by decide +kernel
theorem dX4_plant_0 : decode cX4_plant 0 = .ok (.iload_n 1, 1) := by decide +kernel
theorem dX4_plant_1 : decode cX4_plant 1 = .ok (.invokestatic 72, 3) := by decide +kernel
theorem dX4_plant_4 : decode cX4_plant 4 = .ok (.ifCond .ne 9, 3) := by decide +kernel
theorem dX4_plant_7 : decode cX4_plant 7 = .ok (.aload_n 0, 1) := by decide +kernel
theorem dX4_plant_8 : decode cX4_plant 8 = .ok (.iconst 0, 1) := by decide +kernel
theorem dX4_plant_9 : decode cX4_plant 9 = .ok (.invokevirtual 55, 3) := by decide +kernel
theorem dX4_plant_12 : decode cX4_plant 12 = .ok (.ireturn, 1) := by decide +kernel
theorem dX4_plant_13 : decode cX4_plant 13 = .ok (.iconst (-1), 1) := by decide +kernel
theorem dX4_plant_14 : decode cX4_plant 14 = .ok (.istore_n 2, 1) := by decide +kernel
theorem dX4_plant_15 : decode cX4_plant 15 = .ok (.iconst 0, 1) := by decide +kernel
theorem dX4_plant_16 : decode cX4_plant 16 = .ok (.istore_n 3, 1) := by decide +kernel
theorem dX4_plant_17 : decode cX4_plant 17 = .ok (.iconst 0, 1) := by decide +kernel
theorem dX4_plant_18 : decode cX4_plant 18 = .ok (.istore 4, 2) := by decide +kernel
theorem dX4_plant_20 : decode cX4_plant 20 = .ok (.iload 4, 2) := by decide +kernel
theorem dX4_plant_22 : decode cX4_plant 22 = .ok (.bipush 24, 2) := by decide +kernel
theorem dX4_plant_24 : decode cX4_plant 24 = .ok (.if_icmp .ge 42, 3) := by decide +kernel
theorem dX4_plant_27 : decode cX4_plant 27 = .ok (.aload_n 0, 1) := by decide +kernel
theorem dX4_plant_28 : decode cX4_plant 28 = .ok (.iload 4, 2) := by decide +kernel
theorem dX4_plant_30 : decode cX4_plant 30 = .ok (.iload_n 1, 1) := by decide +kernel
theorem dX4_plant_31 : decode cX4_plant 31 = .ok (.iconst 0, 1) := by decide +kernel
theorem dX4_plant_32 : decode cX4_plant 32 = .ok (.invokevirtual 180, 3) := by decide +kernel
theorem dX4_plant_35 : decode cX4_plant 35 = .ok (.aload_n 0, 1) := by decide +kernel
theorem dX4_plant_36 : decode cX4_plant 36 = .ok (.getfield 16, 3) := by decide +kernel
theorem dX4_plant_39 : decode cX4_plant 39 = .ok (.invokevirtual 149, 3) := by decide +kernel
theorem dX4_plant_42 : decode cX4_plant 42 = .ok (.istore 5, 2) := by decide +kernel
theorem dX4_plant_44 : decode cX4_plant 44 = .ok (.iload_n 2, 1) := by decide +kernel
theorem dX4_plant_45 : decode cX4_plant 45 = .ok (.ifCond .lt 9, 3) := by decide +kernel
theorem dX4_plant_48 : decode cX4_plant 48 = .ok (.iload 5, 2) := by decide +kernel
theorem dX4_plant_50 : decode cX4_plant 50 = .ok (.iload_n 3, 1) := by decide +kernel
theorem dX4_plant_51 : decode cX4_plant 51 = .ok (.if_icmp .le 9, 3) := by decide +kernel
theorem dX4_plant_54 : decode cX4_plant 54 = .ok (.iload 5, 2) := by decide +kernel
theorem dX4_plant_56 : decode cX4_plant 56 = .ok (.istore_n 3, 1) := by decide +kernel
theorem dX4_plant_57 : decode cX4_plant 57 = .ok (.iload 4, 2) := by decide +kernel
theorem dX4_plant_59 : decode cX4_plant 59 = .ok (.istore_n 2, 1) := by decide +kernel
theorem dX4_plant_60 : decode cX4_plant 60 = .ok (.iinc 4 1, 3) := by decide +kernel
theorem dX4_plant_63 : decode cX4_plant 63 = .ok (.goto (-43), 3) := by decide +kernel
theorem dX4_plant_66 : decode cX4_plant 66 = .ok (.iload_n 2, 1) := by decide +kernel
theorem dX4_plant_67 : decode cX4_plant 67 = .ok (.ireturn, 1) := by decide +kernel
theorem dX4_quake_0 : decode cX4_quake 0 = .ok (.iload_n 1, 1) := by decide +kernel
theorem dX4_quake_1 : decode cX4_quake 1 = .ok (.iconst 1, 1) := by decide +kernel
theorem dX4_quake_2 : decode cX4_quake 2 = .ok (.bipush 10, 2) := by decide +kernel
theorem dX4_quake_4 : decode cX4_quake 4 = .ok (.invokestatic 51, 3) := by decide +kernel
theorem dX4_quake_7 : decode cX4_quake 7 = .ok (.ifCond .ne 9, 3) := by decide +kernel
theorem dX4_quake_10 : decode cX4_quake 10 = .ok (.aload_n 0, 1) := by decide +kernel
theorem dX4_quake_11 : decode cX4_quake 11 = .ok (.iconst 0, 1) := by decide +kernel
theorem dX4_quake_12 : decode cX4_quake 12 = .ok (.invokevirtual 55, 3) := by decide +kernel
theorem dX4_quake_15 : decode cX4_quake 15 = .ok (.ireturn, 1) := by decide +kernel
theorem dX4_quake_16 : decode cX4_quake 16 = .ok (.iconst 0, 1) := by decide +kernel
theorem dX4_quake_17 : decode cX4_quake 17 = .ok (.istore_n 2, 1) := by decide +kernel
theorem dX4_quake_18 : decode cX4_quake 18 = .ok (.iload_n 2, 1) := by decide +kernel
theorem dX4_quake_19 : decode cX4_quake 19 = .ok (.iload_n 1, 1) := by decide +kernel
theorem dX4_quake_20 : decode cX4_quake 20 = .ok (.if_icmp .ge 38, 3) := by decide +kernel
theorem dX4_quake_23 : decode cX4_quake 23 = .ok (.aload_n 0, 1) := by decide +kernel
theorem dX4_quake_24 : decode cX4_quake 24 = .ok (.getfield 10, 3) := by decide +kernel
theorem dX4_quake_27 : decode cX4_quake 27 = .ok (.invokevirtual 204, 3) := by decide +kernel
theorem dX4_quake_30 : decode cX4_quake 30 = .ok (.bipush 24, 2) := by decide +kernel
theorem dX4_quake_32 : decode cX4_quake 32 = .ok (.irem, 1) := by decide +kernel
theorem dX4_quake_33 : decode cX4_quake 33 = .ok (.istore_n 3, 1) := by decide +kernel
theorem dX4_quake_34 : decode cX4_quake 34 = .ok (.aload_n 0, 1) := by decide +kernel
theorem dX4_quake_35 : decode cX4_quake 35 = .ok (.getfield 10, 3) := by decide +kernel
theorem dX4_quake_38 : decode cX4_quake 38 = .ok (.iload_n 3, 1) := by decide +kernel
theorem dX4_quake_39 : decode cX4_quake 39 = .ok (.aload_n 0, 1) := by decide +kernel
theorem dX4_quake_40 : decode cX4_quake 40 = .ok (.getfield 10, 3) := by decide +kernel
theorem dX4_quake_43 : decode cX4_quake 43 = .ok (.invokevirtual 204, 3) := by decide +kernel
theorem dX4_quake_46 : decode cX4_quake 46 = .ok (.bipush 100, 2) := by decide +kernel
theorem dX4_quake_48 : decode cX4_quake 48 = .ok (.irem, 1) := by decide +kernel
theorem dX4_quake_49 : decode cX4_quake 49 = .ok (.invokevirtual 62, 3) := by decide +kernel
theorem dX4_quake_52 : decode cX4_quake 52 = .ok (.iinc 2 1, 3) := by decide +kernel
theorem dX4_quake_55 : decode cX4_quake 55 = .ok (.goto (-37), 3) := by decide +kernel
theorem dX4_quake_58 : decode cX4_quake 58 = .ok (.iconst 0, 1) := by decide +kernel
theorem dX4_quake_59 : decode cX4_quake 59 = .ok (.istore_n 2, 1) := by decide +kernel
theorem dX4_quake_60 : decode cX4_quake 60 = .ok (.iconst 0, 1) := by decide +kernel
theorem dX4_quake_61 : decode cX4_quake 61 = .ok (.istore_n 3, 1) := by decide +kernel
theorem dX4_quake_62 : decode cX4_quake 62 = .ok (.iload_n 3, 1) := by decide +kernel
theorem dX4_quake_63 : decode cX4_quake 63 = .ok (.bipush 24, 2) := by decide +kernel
theorem dX4_quake_65 : decode cX4_quake 65 = .ok (.if_icmp .ge 21, 3) := by decide +kernel
theorem dX4_quake_68 : decode cX4_quake 68 = .ok (.iload_n 2, 1) := by decide +kernel
theorem dX4_quake_69 : decode cX4_quake 69 = .ok (.aload_n 0, 1) := by decide +kernel
theorem dX4_quake_70 : decode cX4_quake 70 = .ok (.getfield 10, 3) := by decide +kernel
theorem dX4_quake_73 : decode cX4_quake 73 = .ok (.getfield 59, 3) := by decide +kernel
theorem dX4_quake_76 : decode cX4_quake 76 = .ok (.iload_n 3, 1) := by decide +kernel
theorem dX4_quake_77 : decode cX4_quake 77 = .ok (.iaload, 1) := by decide +kernel
theorem dX4_quake_78 : decode cX4_quake 78 = .ok (.iadd, 1) := by decide +kernel
theorem dX4_quake_79 : decode cX4_quake 79 = .ok (.istore_n 2, 1) := by decide +kernel
theorem dX4_quake_80 : decode cX4_quake 80 = .ok (.iinc 3 1, 3) := by decide +kernel
theorem dX4_quake_83 : decode cX4_quake 83 = .ok (.goto (-21), 3) := by decide +kernel
theorem dX4_quake_86 : decode cX4_quake 86 = .ok (.iload_n 2, 1) := by decide +kernel
theorem dX4_quake_87 : decode cX4_quake 87 = .ok (.ireturn, 1) := by decide +kernel
theorem dX4_rateFor_0 : decode cX4_rateFor 0 = .ok (.iload_n 1, 1) := by decide +kernel
theorem dX4_rateFor_1 : decode cX4_rateFor 1 = .ok (.invokestatic 165, 3) := by decide +kernel
theorem dX4_rateFor_4 : decode cX4_rateFor 4 = .ok (.ifCond .ne 9, 3) := by decide +kernel
theorem dX4_rateFor_7 : decode cX4_rateFor 7 = .ok (.aload_n 0, 1) := by decide +kernel
theorem dX4_rateFor_8 : decode cX4_rateFor 8 = .ok (.iconst 0, 1) := by decide +kernel
theorem dX4_rateFor_9 : decode cX4_rateFor 9 = .ok (.invokevirtual 55, 3) := by decide +kernel
theorem dX4_rateFor_12 : decode cX4_rateFor 12 = .ok (.ireturn, 1) := by decide +kernel
theorem dX4_rateFor_13 : decode cX4_rateFor 13 = .ok (.iconst 0, 1) := by decide +kernel
theorem dX4_rateFor_14 : decode cX4_rateFor 14 = .ok (.istore_n 2, 1) := by decide +kernel
theorem dX4_rateFor_15 : decode cX4_rateFor 15 = .ok (.iload_n 2, 1) := by decide +kernel
theorem dX4_rateFor_16 : decode cX4_rateFor 16 = .ok (.aload_n 0, 1) := by decide +kernel
theorem dX4_rateFor_17 : decode cX4_rateFor 17 = .ok (.getfield 10, 3) := by decide +kernel
theorem dX4_rateFor_20 : decode cX4_rateFor 20 = .ok (.getfield 98, 3) := by decide +kernel
theorem dX4_rateFor_23 : decode cX4_rateFor 23 = .ok (.if_icmp .ge 23, 3) := by decide +kernel
theorem dX4_rateFor_26 : decode cX4_rateFor 26 = .ok (.aload_n 0, 1) := by decide +kernel
theorem dX4_rateFor_27 : decode cX4_rateFor 27 = .ok (.getfield 44, 3) := by decide +kernel
theorem dX4_rateFor_30 : decode cX4_rateFor 30 = .ok (.iload_n 2, 1) := by decide +kernel
theorem dX4_rateFor_31 : decode cX4_rateFor 31 = .ok (.aload_n 0, 1) := by decide +kernel
theorem dX4_rateFor_32 : decode cX4_rateFor 32 = .ok (.getfield 10, 3) := by decide +kernel
theorem dX4_rateFor_35 : decode cX4_rateFor 35 = .ok (.iload_n 2, 1) := by decide +kernel
theorem dX4_rateFor_36 : decode cX4_rateFor 36 = .ok (.invokevirtual 168, 3) := by decide +kernel
theorem dX4_rateFor_39 : decode cX4_rateFor 39 = .ok (.iastore, 1) := by decide +kernel
theorem dX4_rateFor_40 : decode cX4_rateFor 40 = .ok (.iinc 2 1, 3) := by decide +kernel
theorem dX4_rateFor_43 : decode cX4_rateFor 43 = .ok (.goto (-28), 3) := by decide +kernel
theorem dX4_rateFor_46 : decode cX4_rateFor 46 = .ok (.iconst 0, 1) := by decide +kernel
theorem dX4_rateFor_47 : decode cX4_rateFor 47 = .ok (.istore_n 2, 1) := by decide +kernel
theorem dX4_rateFor_48 : decode cX4_rateFor 48 = .ok (.iload_n 2, 1) := by decide +kernel
theorem dX4_rateFor_49 : decode cX4_rateFor 49 = .ok (.bipush 99, 2) := by decide +kernel
theorem dX4_rateFor_51 : decode cX4_rateFor 51 = .ok (.if_icmp .gt 53, 3) := by decide +kernel
theorem dX4_rateFor_54 : decode cX4_rateFor 54 = .ok (.iconst 0, 1) := by decide +kernel
theorem dX4_rateFor_55 : decode cX4_rateFor 55 = .ok (.istore_n 3, 1) := by decide +kernel
theorem dX4_rateFor_56 : decode cX4_rateFor 56 = .ok (.iconst 0, 1) := by decide +kernel
theorem dX4_rateFor_57 : decode cX4_rateFor 57 = .ok (.istore 4, 2) := by decide +kernel
theorem dX4_rateFor_59 : decode cX4_rateFor 59 = .ok (.iload 4, 2) := by decide +kernel
theorem dX4_rateFor_61 : decode cX4_rateFor 61 = .ok (.aload_n 0, 1) := by decide +kernel
theorem dX4_rateFor_62 : decode cX4_rateFor 62 = .ok (.getfield 10, 3) := by decide +kernel
theorem dX4_rateFor_65 : decode cX4_rateFor 65 = .ok (.getfield 98, 3) := by decide +kernel
theorem dX4_rateFor_68 : decode cX4_rateFor 68 = .ok (.if_icmp .ge 23, 3) := by decide +kernel
theorem dX4_rateFor_71 : decode cX4_rateFor 71 = .ok (.iload_n 3, 1) := by decide +kernel
theorem dX4_rateFor_72 : decode cX4_rateFor 72 = .ok (.aload_n 0, 1) := by decide +kernel
theorem dX4_rateFor_73 : decode cX4_rateFor 73 = .ok (.getfield 44, 3) := by decide +kernel
theorem dX4_rateFor_76 : decode cX4_rateFor 76 = .ok (.iload 4, 2) := by decide +kernel
theorem dX4_rateFor_78 : decode cX4_rateFor 78 = .ok (.iaload, 1) := by decide +kernel
theorem dX4_rateFor_79 : decode cX4_rateFor 79 = .ok (.iload_n 2, 1) := by decide +kernel
theorem dX4_rateFor_80 : decode cX4_rateFor 80 = .ok (.invokestatic 171, 3) := by decide +kernel
theorem dX4_rateFor_83 : decode cX4_rateFor 83 = .ok (.iadd, 1) := by decide +kernel
theorem dX4_rateFor_84 : decode cX4_rateFor 84 = .ok (.istore_n 3, 1) := by decide +kernel
theorem dX4_rateFor_85 : decode cX4_rateFor 85 = .ok (.iinc 4 1, 3) := by decide +kernel
theorem dX4_rateFor_88 : decode cX4_rateFor 88 = .ok (.goto (-29), 3) := by decide +kernel
theorem dX4_rateFor_91 : decode cX4_rateFor 91 = .ok (.iload_n 3, 1) := by decide +kernel
theorem dX4_rateFor_92 : decode cX4_rateFor 92 = .ok (.iload_n 1, 1) := by decide +kernel
theorem dX4_rateFor_93 : decode cX4_rateFor 93 = .ok (.if_icmp .lt 5, 3) := by decide +kernel
theorem dX4_rateFor_96 : decode cX4_rateFor 96 = .ok (.iload_n 2, 1) := by decide +kernel
theorem dX4_rateFor_97 : decode cX4_rateFor 97 = .ok (.ireturn, 1) := by decide +kernel
theorem dX4_rateFor_98 : decode cX4_rateFor 98 = .ok (.iinc 2 1, 3) := by decide +kernel
theorem dX4_rateFor_101 : decode cX4_rateFor 101 = .ok (.goto (-53), 3) := by decide +kernel
theorem dX4_rateFor_104 : decode cX4_rateFor 104 = .ok (.aload_n 0, 1) := by decide +kernel
theorem dX4_rateFor_105 : decode cX4_rateFor 105 = .ok (.iconst 3, 1) := by decide +kernel
theorem dX4_rateFor_106 : decode cX4_rateFor 106 = .ok (.invokevirtual 55, 3) := by decide +kernel
theorem dX4_rateFor_109 : decode cX4_rateFor 109 = .ok (.ireturn, 1) := by decide +kernel
theorem dX4_restless_0 : decode cX4_restless 0 = .ok (.iconst 0, 1) := by decide +kernel
theorem dX4_restless_1 : decode cX4_restless 1 = .ok (.istore_n 1, 1) := by decide +kernel
theorem dX4_restless_2 : decode cX4_restless 2 = .ok (.iconst 0, 1) := by decide +kernel
theorem dX4_restless_3 : decode cX4_restless 3 = .ok (.istore_n 2, 1) := by decide +kernel
theorem dX4_restless_4 : decode cX4_restless 4 = .ok (.iload_n 2, 1) := by decide +kernel
theorem dX4_restless_5 : decode cX4_restless 5 = .ok (.aload_n 0, 1) := by decide +kernel
theorem dX4_restless_6 : decode cX4_restless 6 = .ok (.getfield 10, 3) := by decide +kernel
theorem dX4_restless_9 : decode cX4_restless 9 = .ok (.getfield 98, 3) := by decide +kernel
theorem dX4_restless_12 : decode cX4_restless 12 = .ok (.if_icmp .ge 47, 3) := by decide +kernel
theorem dX4_restless_15 : decode cX4_restless 15 = .ok (.aload_n 0, 1) := by decide +kernel
theorem dX4_restless_16 : decode cX4_restless 16 = .ok (.iload_n 2, 1) := by decide +kernel
theorem dX4_restless_17 : decode cX4_restless 17 = .ok (.invokevirtual 153, 3) := by decide +kernel
theorem dX4_restless_20 : decode cX4_restless 20 = .ok (.istore_n 3, 1) := by decide +kernel
theorem dX4_restless_21 : decode cX4_restless 21 = .ok (.aload_n 0, 1) := by decide +kernel
theorem dX4_restless_22 : decode cX4_restless 22 = .ok (.getfield 16, 3) := by decide +kernel
theorem dX4_restless_25 : decode cX4_restless 25 = .ok (.getfield 108, 3) := by decide +kernel
theorem dX4_restless_28 : decode cX4_restless 28 = .ok (.iload_n 2, 1) := by decide +kernel
theorem dX4_restless_29 : decode cX4_restless 29 = .ok (.iload_n 3, 1) := by decide +kernel
theorem dX4_restless_30 : decode cX4_restless 30 = .ok (.iastore, 1) := by decide +kernel
theorem dX4_restless_31 : decode cX4_restless 31 = .ok (.aload_n 0, 1) := by decide +kernel
theorem dX4_restless_32 : decode cX4_restless 32 = .ok (.getfield 16, 3) := by decide +kernel
theorem dX4_restless_35 : decode cX4_restless 35 = .ok (.iload_n 2, 1) := by decide +kernel
theorem dX4_restless_36 : decode cX4_restless 36 = .ok (.invokevirtual 146, 3) := by decide +kernel
theorem dX4_restless_39 : decode cX4_restless 39 = .ok (.aload_n 0, 1) := by decide +kernel
theorem dX4_restless_40 : decode cX4_restless 40 = .ok (.getfield 10, 3) := by decide +kernel
theorem dX4_restless_43 : decode cX4_restless 43 = .ok (.iload_n 2, 1) := by decide +kernel
theorem dX4_restless_44 : decode cX4_restless 44 = .ok (.invokevirtual 146, 3) := by decide +kernel
theorem dX4_restless_47 : decode cX4_restless 47 = .ok (.if_icmp .ge 6, 3) := by decide +kernel
theorem dX4_restless_50 : decode cX4_restless 50 = .ok (.iinc 1 1, 3) := by decide +kernel
theorem dX4_restless_53 : decode cX4_restless 53 = .ok (.iinc 2 1, 3) := by decide +kernel
theorem dX4_restless_56 : decode cX4_restless 56 = .ok (.goto (-52), 3) := by decide +kernel
theorem dX4_restless_59 : decode cX4_restless 59 = .ok (.iload_n 1, 1) := by decide +kernel
theorem dX4_restless_60 : decode cX4_restless 60 = .ok (.ireturn, 1) := by decide +kernel
theorem dX4_seed_0 : decode cX4_seed 0 = .ok (.aload_n 0, 1) := by decide +kernel
theorem dX4_seed_1 : decode cX4_seed 1 = .ok (.getfield 10, 3) := by decide +kernel
theorem dX4_seed_4 : decode cX4_seed 4 = .ok (.getfield 207, 3) := by decide +kernel
theorem dX4_seed_7 : decode cX4_seed 7 = .ok (.istore_n 2, 1) := by decide +kernel
theorem dX4_seed_8 : decode cX4_seed 8 = .ok (.aload_n 0, 1) := by decide +kernel
theorem dX4_seed_9 : decode cX4_seed 9 = .ok (.getfield 10, 3) := by decide +kernel
theorem dX4_seed_12 : decode cX4_seed 12 = .ok (.iload_n 1, 1) := by decide +kernel
theorem dX4_seed_13 : decode cX4_seed 13 = .ok (.putfield 207, 3) := by decide +kernel
theorem dX4_seed_16 : decode cX4_seed 16 = .ok (.iload_n 2, 1) := by decide +kernel
theorem dX4_seed_17 : decode cX4_seed 17 = .ok (.ireturn, 1) := by decide +kernel
theorem dX4_seenBy_0 : decode cX4_seenBy 0 = .ok (.iload_n 1, 1) := by decide +kernel
theorem dX4_seenBy_1 : decode cX4_seenBy 1 = .ok (.invokestatic 47, 3) := by decide +kernel
theorem dX4_seenBy_4 : decode cX4_seenBy 4 = .ok (.ifCond .ne 9, 3) := by decide +kernel
theorem dX4_seenBy_7 : decode cX4_seenBy 7 = .ok (.aload_n 0, 1) := by decide +kernel
theorem dX4_seenBy_8 : decode cX4_seenBy 8 = .ok (.iconst 0, 1) := by decide +kernel
theorem dX4_seenBy_9 : decode cX4_seenBy 9 = .ok (.invokevirtual 55, 3) := by decide +kernel
theorem dX4_seenBy_12 : decode cX4_seenBy 12 = .ok (.ireturn, 1) := by decide +kernel
theorem dX4_seenBy_13 : decode cX4_seenBy 13 = .ok (.iconst 0, 1) := by decide +kernel
theorem dX4_seenBy_14 : decode cX4_seenBy 14 = .ok (.istore_n 2, 1) := by decide +kernel
theorem dX4_seenBy_15 : decode cX4_seenBy 15 = .ok (.iconst 0, 1) := by decide +kernel
theorem dX4_seenBy_16 : decode cX4_seenBy 16 = .ok (.istore_n 3, 1) := by decide +kernel
theorem dX4_seenBy_17 : decode cX4_seenBy 17 = .ok (.iload_n 3, 1) := by decide +kernel
theorem dX4_seenBy_18 : decode cX4_seenBy 18 = .ok (.aload_n 0, 1) := by decide +kernel
theorem dX4_seenBy_19 : decode cX4_seenBy 19 = .ok (.getfield 10, 3) := by decide +kernel
theorem dX4_seenBy_22 : decode cX4_seenBy 22 = .ok (.getfield 98, 3) := by decide +kernel
theorem dX4_seenBy_25 : decode cX4_seenBy 25 = .ok (.if_icmp .ge 27, 3) := by decide +kernel
theorem dX4_seenBy_28 : decode cX4_seenBy 28 = .ok (.aload_n 0, 1) := by decide +kernel
theorem dX4_seenBy_29 : decode cX4_seenBy 29 = .ok (.getfield 10, 3) := by decide +kernel
theorem dX4_seenBy_32 : decode cX4_seenBy 32 = .ok (.iload_n 3, 1) := by decide +kernel
theorem dX4_seenBy_33 : decode cX4_seenBy 33 = .ok (.iload_n 1, 1) := by decide +kernel
theorem dX4_seenBy_34 : decode cX4_seenBy 34 = .ok (.invokevirtual 132, 3) := by decide +kernel
theorem dX4_seenBy_37 : decode cX4_seenBy 37 = .ok (.ifCond .eq 9, 3) := by decide +kernel
theorem dX4_seenBy_40 : decode cX4_seenBy 40 = .ok (.iload_n 2, 1) := by decide +kernel
theorem dX4_seenBy_41 : decode cX4_seenBy 41 = .ok (.iconst 1, 1) := by decide +kernel
theorem dX4_seenBy_42 : decode cX4_seenBy 42 = .ok (.iload_n 3, 1) := by decide +kernel
theorem dX4_seenBy_43 : decode cX4_seenBy 43 = .ok (.ishl, 1) := by decide +kernel
theorem dX4_seenBy_44 : decode cX4_seenBy 44 = .ok (.ior, 1) := by decide +kernel
theorem dX4_seenBy_45 : decode cX4_seenBy 45 = .ok (.istore_n 2, 1) := by decide +kernel
theorem dX4_seenBy_46 : decode cX4_seenBy 46 = .ok (.iinc 3 1, 3) := by decide +kernel
theorem dX4_seenBy_49 : decode cX4_seenBy 49 = .ok (.goto (-32), 3) := by decide +kernel
theorem dX4_seenBy_52 : decode cX4_seenBy 52 = .ok (.iload_n 2, 1) := by decide +kernel
theorem dX4_seenBy_53 : decode cX4_seenBy 53 = .ok (.ireturn, 1) := by decide +kernel
theorem dX4_sees_0 : decode cX4_sees 0 = .ok (.aload_n 0, 1) := by decide +kernel
theorem dX4_sees_1 : decode cX4_sees 1 = .ok (.iload_n 1, 1) := by decide +kernel
theorem dX4_sees_2 : decode cX4_sees 2 = .ok (.invokevirtual 102, 3) := by decide +kernel
theorem dX4_sees_5 : decode cX4_sees 5 = .ok (.ifCond .eq 10, 3) := by decide +kernel
theorem dX4_sees_8 : decode cX4_sees 8 = .ok (.iload_n 2, 1) := by decide +kernel
theorem dX4_sees_9 : decode cX4_sees 9 = .ok (.invokestatic 47, 3) := by decide +kernel
theorem dX4_sees_12 : decode cX4_sees 12 = .ok (.ifCond .ne 9, 3) := by decide +kernel
theorem dX4_sees_15 : decode cX4_sees 15 = .ok (.aload_n 0, 1) := by decide +kernel
theorem dX4_sees_16 : decode cX4_sees 16 = .ok (.iconst 0, 1) := by decide +kernel
theorem dX4_sees_17 : decode cX4_sees 17 = .ok (.invokevirtual 55, 3) := by decide +kernel
theorem dX4_sees_20 : decode cX4_sees 20 = .ok (.ireturn, 1) := by decide +kernel
theorem dX4_sees_21 : decode cX4_sees 21 = .ok (.aload_n 0, 1) := by decide +kernel
theorem dX4_sees_22 : decode cX4_sees 22 = .ok (.getfield 10, 3) := by decide +kernel
theorem dX4_sees_25 : decode cX4_sees 25 = .ok (.iload_n 1, 1) := by decide +kernel
theorem dX4_sees_26 : decode cX4_sees 26 = .ok (.iload_n 2, 1) := by decide +kernel
theorem dX4_sees_27 : decode cX4_sees 27 = .ok (.invokevirtual 132, 3) := by decide +kernel
theorem dX4_sees_30 : decode cX4_sees 30 = .ok (.ifCond .eq 7, 3) := by decide +kernel
theorem dX4_sees_33 : decode cX4_sees 33 = .ok (.iconst 1, 1) := by decide +kernel
theorem dX4_sees_34 : decode cX4_sees 34 = .ok (.goto 4, 3) := by decide +kernel
theorem dX4_sees_37 : decode cX4_sees 37 = .ok (.iconst 0, 1) := by decide +kernel
theorem dX4_sees_38 : decode cX4_sees 38 = .ok (.ireturn, 1) := by decide +kernel
theorem dX4_set_0 : decode cX4_set 0 = .ok (.iload_n 1, 1) := by decide +kernel
theorem dX4_set_1 : decode cX4_set 1 = .ok (.invokestatic 47, 3) := by decide +kernel
theorem dX4_set_4 : decode cX4_set 4 = .ok (.ifCond .eq 10, 3) := by decide +kernel
theorem dX4_set_7 : decode cX4_set 7 = .ok (.iload_n 2, 1) := by decide +kernel
theorem dX4_set_8 : decode cX4_set 8 = .ok (.invokestatic 72, 3) := by decide +kernel
theorem dX4_set_11 : decode cX4_set 11 = .ok (.ifCond .ne 9, 3) := by decide +kernel
theorem dX4_set_14 : decode cX4_set 14 = .ok (.aload_n 0, 1) := by decide +kernel
theorem dX4_set_15 : decode cX4_set 15 = .ok (.iconst 0, 1) := by decide +kernel
theorem dX4_set_16 : decode cX4_set 16 = .ok (.invokevirtual 55, 3) := by decide +kernel
theorem dX4_set_19 : decode cX4_set 19 = .ok (.ireturn, 1) := by decide +kernel
theorem dX4_set_20 : decode cX4_set 20 = .ok (.aload_n 0, 1) := by decide +kernel
theorem dX4_set_21 : decode cX4_set 21 = .ok (.getfield 10, 3) := by decide +kernel
theorem dX4_set_24 : decode cX4_set 24 = .ok (.getfield 75, 3) := by decide +kernel
theorem dX4_set_27 : decode cX4_set 27 = .ok (.iload_n 1, 1) := by decide +kernel
theorem dX4_set_28 : decode cX4_set 28 = .ok (.iaload, 1) := by decide +kernel
theorem dX4_set_29 : decode cX4_set 29 = .ok (.istore_n 3, 1) := by decide +kernel
theorem dX4_set_30 : decode cX4_set 30 = .ok (.aload_n 0, 1) := by decide +kernel
theorem dX4_set_31 : decode cX4_set 31 = .ok (.getfield 10, 3) := by decide +kernel
theorem dX4_set_34 : decode cX4_set 34 = .ok (.iload_n 1, 1) := by decide +kernel
theorem dX4_set_35 : decode cX4_set 35 = .ok (.iload_n 2, 1) := by decide +kernel
theorem dX4_set_36 : decode cX4_set 36 = .ok (.invokevirtual 78, 3) := by decide +kernel
theorem dX4_set_39 : decode cX4_set 39 = .ok (.iload_n 3, 1) := by decide +kernel
theorem dX4_set_40 : decode cX4_set 40 = .ok (.ireturn, 1) := by decide +kernel
theorem dX4_shade_0 : decode cX4_shade 0 = .ok (.aload_n 0, 1) := by decide +kernel
theorem dX4_shade_1 : decode cX4_shade 1 = .ok (.iload_n 1, 1) := by decide +kernel
theorem dX4_shade_2 : decode cX4_shade 2 = .ok (.invokevirtual 102, 3) := by decide +kernel
theorem dX4_shade_5 : decode cX4_shade 5 = .ok (.ifCond .eq 17, 3) := by decide +kernel
theorem dX4_shade_8 : decode cX4_shade 8 = .ok (.iload_n 2, 1) := by decide +kernel
theorem dX4_shade_9 : decode cX4_shade 9 = .ok (.invokestatic 72, 3) := by decide +kernel
theorem dX4_shade_12 : decode cX4_shade 12 = .ok (.ifCond .eq 10, 3) := by decide +kernel
theorem dX4_shade_15 : decode cX4_shade 15 = .ok (.iload_n 3, 1) := by decide +kernel
theorem dX4_shade_16 : decode cX4_shade 16 = .ok (.invokestatic 174, 3) := by decide +kernel
theorem dX4_shade_19 : decode cX4_shade 19 = .ok (.ifCond .ne 9, 3) := by decide +kernel
theorem dX4_shade_22 : decode cX4_shade 22 = .ok (.aload_n 0, 1) := by decide +kernel
theorem dX4_shade_23 : decode cX4_shade 23 = .ok (.iconst 0, 1) := by decide +kernel
theorem dX4_shade_24 : decode cX4_shade 24 = .ok (.invokevirtual 55, 3) := by decide +kernel
theorem dX4_shade_27 : decode cX4_shade 27 = .ok (.ireturn, 1) := by decide +kernel
theorem dX4_shade_28 : decode cX4_shade 28 = .ok (.aload_n 0, 1) := by decide +kernel
theorem dX4_shade_29 : decode cX4_shade 29 = .ok (.iload_n 3, 1) := by decide +kernel
theorem dX4_shade_30 : decode cX4_shade 30 = .ok (.invokevirtual 177, 3) := by decide +kernel
theorem dX4_shade_33 : decode cX4_shade 33 = .ok (.ifCond .eq 9, 3) := by decide +kernel
theorem dX4_shade_36 : decode cX4_shade 36 = .ok (.aload_n 0, 1) := by decide +kernel
theorem dX4_shade_37 : decode cX4_shade 37 = .ok (.iconst 4, 1) := by decide +kernel
theorem dX4_shade_38 : decode cX4_shade 38 = .ok (.invokevirtual 55, 3) := by decide +kernel
theorem dX4_shade_41 : decode cX4_shade 41 = .ok (.ireturn, 1) := by decide +kernel
theorem dX4_shade_42 : decode cX4_shade 42 = .ok (.iconst (-1), 1) := by decide +kernel
theorem dX4_shade_43 : decode cX4_shade 43 = .ok (.istore 4, 2) := by decide +kernel
theorem dX4_shade_45 : decode cX4_shade 45 = .ok (.iconst 0, 1) := by decide +kernel
theorem dX4_shade_46 : decode cX4_shade 46 = .ok (.istore 5, 2) := by decide +kernel
theorem dX4_shade_48 : decode cX4_shade 48 = .ok (.iconst 0, 1) := by decide +kernel
theorem dX4_shade_49 : decode cX4_shade 49 = .ok (.istore 6, 2) := by decide +kernel
theorem dX4_shade_51 : decode cX4_shade 51 = .ok (.iload 6, 2) := by decide +kernel
theorem dX4_shade_53 : decode cX4_shade 53 = .ok (.bipush 24, 2) := by decide +kernel
theorem dX4_shade_55 : decode cX4_shade 55 = .ok (.if_icmp .ge 47, 3) := by decide +kernel
theorem dX4_shade_58 : decode cX4_shade 58 = .ok (.aload_n 0, 1) := by decide +kernel
theorem dX4_shade_59 : decode cX4_shade 59 = .ok (.iload 6, 2) := by decide +kernel
theorem dX4_shade_61 : decode cX4_shade 61 = .ok (.iload_n 2, 1) := by decide +kernel
theorem dX4_shade_62 : decode cX4_shade 62 = .ok (.iload_n 3, 1) := by decide +kernel
theorem dX4_shade_63 : decode cX4_shade 63 = .ok (.invokevirtual 180, 3) := by decide +kernel
theorem dX4_shade_66 : decode cX4_shade 66 = .ok (.aload_n 0, 1) := by decide +kernel
theorem dX4_shade_67 : decode cX4_shade 67 = .ok (.getfield 16, 3) := by decide +kernel
theorem dX4_shade_70 : decode cX4_shade 70 = .ok (.iload_n 1, 1) := by decide +kernel
theorem dX4_shade_71 : decode cX4_shade 71 = .ok (.invokevirtual 146, 3) := by decide +kernel
theorem dX4_shade_74 : decode cX4_shade 74 = .ok (.istore 7, 2) := by decide +kernel
theorem dX4_shade_76 : decode cX4_shade 76 = .ok (.iload 4, 2) := by decide +kernel
theorem dX4_shade_78 : decode cX4_shade 78 = .ok (.ifCond .lt 10, 3) := by decide +kernel
theorem dX4_shade_81 : decode cX4_shade 81 = .ok (.iload 7, 2) := by decide +kernel
theorem dX4_shade_83 : decode cX4_shade 83 = .ok (.iload 5, 2) := by decide +kernel
theorem dX4_shade_85 : decode cX4_shade 85 = .ok (.if_icmp .ge 11, 3) := by decide +kernel
theorem dX4_shade_88 : decode cX4_shade 88 = .ok (.iload 7, 2) := by decide +kernel
theorem dX4_shade_90 : decode cX4_shade 90 = .ok (.istore 5, 2) := by decide +kernel
theorem dX4_shade_92 : decode cX4_shade 92 = .ok (.iload 6, 2) := by decide +kernel
theorem dX4_shade_94 : decode cX4_shade 94 = .ok (.istore 4, 2) := by decide +kernel
theorem dX4_shade_96 : decode cX4_shade 96 = .ok (.iinc 6 1, 3) := by decide +kernel
theorem dX4_shade_99 : decode cX4_shade 99 = .ok (.goto (-48), 3) := by decide +kernel
theorem dX4_shade_102 : decode cX4_shade 102 = .ok (.iload 4, 2) := by decide +kernel
theorem dX4_shade_104 : decode cX4_shade 104 = .ok (.ireturn, 1) := by decide +kernel
theorem dX4_sheet_0 : decode cX4_sheet 0 = .ok (.iload_n 1, 1) := by decide +kernel
theorem dX4_sheet_1 : decode cX4_sheet 1 = .ok (.invokestatic 238, 3) := by decide +kernel
theorem dX4_sheet_4 : decode cX4_sheet 4 = .ok (.ifCond .eq 25, 3) := by decide +kernel
theorem dX4_sheet_7 : decode cX4_sheet 7 = .ok (.iload_n 2, 1) := by decide +kernel
theorem dX4_sheet_8 : decode cX4_sheet 8 = .ok (.ifCond .eq 27, 3) := by decide +kernel
theorem dX4_sheet_11 : decode cX4_sheet 11 = .ok (.iload_n 2, 1) := by decide +kernel
theorem dX4_sheet_12 : decode cX4_sheet 12 = .ok (.bipush 8, 2) := by decide +kernel
theorem dX4_sheet_14 : decode cX4_sheet 14 = .ok (.if_icmp .eq 21, 3) := by decide +kernel
theorem dX4_sheet_17 : decode cX4_sheet 17 = .ok (.iload_n 2, 1) := by decide +kernel
theorem dX4_sheet_18 : decode cX4_sheet 18 = .ok (.bipush 16, 2) := by decide +kernel
theorem dX4_sheet_20 : decode cX4_sheet 20 = .ok (.if_icmp .eq 15, 3) := by decide +kernel
theorem dX4_sheet_23 : decode cX4_sheet 23 = .ok (.iload_n 2, 1) := by decide +kernel
theorem dX4_sheet_24 : decode cX4_sheet 24 = .ok (.bipush 32, 2) := by decide +kernel
theorem dX4_sheet_26 : decode cX4_sheet 26 = .ok (.if_icmp .eq 9, 3) := by decide +kernel
theorem dX4_sheet_29 : decode cX4_sheet 29 = .ok (.aload_n 0, 1) := by decide +kernel
theorem dX4_sheet_30 : decode cX4_sheet 30 = .ok (.iconst 0, 1) := by decide +kernel
theorem dX4_sheet_31 : decode cX4_sheet 31 = .ok (.invokevirtual 55, 3) := by decide +kernel
theorem dX4_sheet_34 : decode cX4_sheet 34 = .ok (.ireturn, 1) := by decide +kernel
theorem dX4_sheet_35 : decode cX4_sheet 35 = .ok (.iload_n 3, 1) := by decide +kernel
theorem dX4_sheet_36 : decode cX4_sheet 36 = .ok (.ifCond .ge 10, 3) := by decide +kernel
theorem dX4_sheet_39 : decode cX4_sheet 39 = .ok (.aload_n 0, 1) := by decide +kernel
theorem dX4_sheet_40 : decode cX4_sheet 40 = .ok (.bipush 6, 2) := by decide +kernel
theorem dX4_sheet_42 : decode cX4_sheet 42 = .ok (.invokevirtual 55, 3) := by decide +kernel
theorem dX4_sheet_45 : decode cX4_sheet 45 = .ok (.ireturn, 1) := by decide +kernel
theorem dX4_sheet_46 : decode cX4_sheet 46 = .ok (.iload_n 3, 1) := by decide +kernel
theorem dX4_sheet_47 : decode cX4_sheet 47 = .ok (.bipush 40, 2) := by decide +kernel
theorem dX4_sheet_49 : decode cX4_sheet 49 = .ok (.if_icmp .le 9, 3) := by decide +kernel
theorem dX4_sheet_52 : decode cX4_sheet 52 = .ok (.aload_n 0, 1) := by decide +kernel
theorem dX4_sheet_53 : decode cX4_sheet 53 = .ok (.iconst 0, 1) := by decide +kernel
theorem dX4_sheet_54 : decode cX4_sheet 54 = .ok (.invokevirtual 55, 3) := by decide +kernel
theorem dX4_sheet_57 : decode cX4_sheet 57 = .ok (.ireturn, 1) := by decide +kernel
theorem dX4_sheet_58 : decode cX4_sheet 58 = .ok (.aload_n 0, 1) := by decide +kernel
theorem dX4_sheet_59 : decode cX4_sheet 59 = .ok (.getfield 36, 3) := by decide +kernel
theorem dX4_sheet_62 : decode cX4_sheet 62 = .ok (.iload_n 1, 1) := by decide +kernel
theorem dX4_sheet_63 : decode cX4_sheet 63 = .ok (.iload_n 2, 1) := by decide +kernel
theorem dX4_sheet_64 : decode cX4_sheet 64 = .ok (.iload_n 2, 1) := by decide +kernel
theorem dX4_sheet_65 : decode cX4_sheet 65 = .ok (.ifCond .ne 7, 3) := by decide +kernel
theorem dX4_sheet_68 : decode cX4_sheet 68 = .ok (.iconst 0, 1) := by decide +kernel
theorem dX4_sheet_69 : decode cX4_sheet 69 = .ok (.goto 4, 3) := by decide +kernel
theorem dX4_sheet_72 : decode cX4_sheet 72 = .ok (.iload_n 3, 1) := by decide +kernel
theorem dX4_sheet_73 : decode cX4_sheet 73 = .ok (.invokevirtual 241, 3) := by decide +kernel
theorem dX4_sheet_76 : decode cX4_sheet 76 = .ok (.aload_n 0, 1) := by decide +kernel
theorem dX4_sheet_77 : decode cX4_sheet 77 = .ok (.getfield 36, 3) := by decide +kernel
theorem dX4_sheet_80 : decode cX4_sheet 80 = .ok (.getfield 244, 3) := by decide +kernel
theorem dX4_sheet_83 : decode cX4_sheet 83 = .ok (.iload_n 1, 1) := by decide +kernel
theorem dX4_sheet_84 : decode cX4_sheet 84 = .ok (.iaload, 1) := by decide +kernel
theorem dX4_sheet_85 : decode cX4_sheet 85 = .ok (.ireturn, 1) := by decide +kernel
theorem dX4_sight_0 : decode cX4_sight 0 = .ok (.aload_n 0, 1) := by decide +kernel
theorem dX4_sight_1 : decode cX4_sight 1 = .ok (.iload_n 1, 1) := by decide +kernel
theorem dX4_sight_2 : decode cX4_sight 2 = .ok (.invokevirtual 102, 3) := by decide +kernel
theorem dX4_sight_5 : decode cX4_sight 5 = .ok (.ifCond .ne 9, 3) := by decide +kernel
theorem dX4_sight_8 : decode cX4_sight 8 = .ok (.aload_n 0, 1) := by decide +kernel
theorem dX4_sight_9 : decode cX4_sight 9 = .ok (.iconst 0, 1) := by decide +kernel
theorem dX4_sight_10 : decode cX4_sight 10 = .ok (.invokevirtual 55, 3) := by decide +kernel
theorem dX4_sight_13 : decode cX4_sight 13 = .ok (.ireturn, 1) := by decide +kernel
theorem dX4_sight_14 : decode cX4_sight 14 = .ok (.aload_n 0, 1) := by decide +kernel
theorem dX4_sight_15 : decode cX4_sight 15 = .ok (.getfield 10, 3) := by decide +kernel
theorem dX4_sight_18 : decode cX4_sight 18 = .ok (.iload_n 1, 1) := by decide +kernel
theorem dX4_sight_19 : decode cX4_sight 19 = .ok (.invokevirtual 129, 3) := by decide +kernel
theorem dX4_sight_22 : decode cX4_sight 22 = .ok (.ireturn, 1) := by decide +kernel
theorem dX4_sightsOf_0 : decode cX4_sightsOf 0 = .ok (.iconst 0, 1) := by decide +kernel
theorem dX4_sightsOf_1 : decode cX4_sightsOf 1 = .ok (.istore_n 2, 1) := by decide +kernel
theorem dX4_sightsOf_2 : decode cX4_sightsOf 2 = .ok (.iconst 0, 1) := by decide +kernel
theorem dX4_sightsOf_3 : decode cX4_sightsOf 3 = .ok (.istore_n 3, 1) := by decide +kernel
theorem dX4_sightsOf_4 : decode cX4_sightsOf 4 = .ok (.iload_n 3, 1) := by decide +kernel
theorem dX4_sightsOf_5 : decode cX4_sightsOf 5 = .ok (.aload_n 0, 1) := by decide +kernel
theorem dX4_sightsOf_6 : decode cX4_sightsOf 6 = .ok (.getfield 10, 3) := by decide +kernel
theorem dX4_sightsOf_9 : decode cX4_sightsOf 9 = .ok (.getfield 98, 3) := by decide +kernel
theorem dX4_sightsOf_12 : decode cX4_sightsOf 12 = .ok (.if_icmp .ge 26, 3) := by decide +kernel
theorem dX4_sightsOf_15 : decode cX4_sightsOf 15 = .ok (.iload_n 3, 1) := by decide +kernel
theorem dX4_sightsOf_16 : decode cX4_sightsOf 16 = .ok (.iload_n 1, 1) := by decide +kernel
theorem dX4_sightsOf_17 : decode cX4_sightsOf 17 = .ok (.invokestatic 136, 3) := by decide +kernel
theorem dX4_sightsOf_20 : decode cX4_sightsOf 20 = .ok (.ifCond .eq 12, 3) := by decide +kernel
theorem dX4_sightsOf_23 : decode cX4_sightsOf 23 = .ok (.iload_n 2, 1) := by decide +kernel
theorem dX4_sightsOf_24 : decode cX4_sightsOf 24 = .ok (.aload_n 0, 1) := by decide +kernel
theorem dX4_sightsOf_25 : decode cX4_sightsOf 25 = .ok (.getfield 44, 3) := by decide +kernel
theorem dX4_sightsOf_28 : decode cX4_sightsOf 28 = .ok (.iload_n 3, 1) := by decide +kernel
theorem dX4_sightsOf_29 : decode cX4_sightsOf 29 = .ok (.iaload, 1) := by decide +kernel
theorem dX4_sightsOf_30 : decode cX4_sightsOf 30 = .ok (.ior, 1) := by decide +kernel
theorem dX4_sightsOf_31 : decode cX4_sightsOf 31 = .ok (.istore_n 2, 1) := by decide +kernel
theorem dX4_sightsOf_32 : decode cX4_sightsOf 32 = .ok (.iinc 3 1, 3) := by decide +kernel
theorem dX4_sightsOf_35 : decode cX4_sightsOf 35 = .ok (.goto (-31), 3) := by decide +kernel
theorem dX4_sightsOf_38 : decode cX4_sightsOf 38 = .ok (.iload_n 2, 1) := by decide +kernel
theorem dX4_sightsOf_39 : decode cX4_sightsOf 39 = .ok (.ireturn, 1) := by decide +kernel
theorem dX4_status_0 : decode cX4_status 0 = .ok (.iload_n 1, 1) := by decide +kernel
theorem dX4_status_1 : decode cX4_status 1 = .ok (.iconst (-1), 1) := by decide +kernel
theorem dX4_status_2 : decode cX4_status 2 = .ok (.if_icmp .ne 30, 3) := by decide +kernel
theorem dX4_status_5 : decode cX4_status 5 = .ok (.iconst 0, 1) := by decide +kernel
theorem dX4_status_6 : decode cX4_status 6 = .ok (.istore_n 2, 1) := by decide +kernel
theorem dX4_status_7 : decode cX4_status 7 = .ok (.iconst 0, 1) := by decide +kernel
theorem dX4_status_8 : decode cX4_status 8 = .ok (.istore_n 3, 1) := by decide +kernel
theorem dX4_status_9 : decode cX4_status 9 = .ok (.iload_n 3, 1) := by decide +kernel
theorem dX4_status_10 : decode cX4_status 10 = .ok (.bipush 6, 2) := by decide +kernel
theorem dX4_status_12 : decode cX4_status 12 = .ok (.if_icmp .gt 18, 3) := by decide +kernel
theorem dX4_status_15 : decode cX4_status 15 = .ok (.iload_n 2, 1) := by decide +kernel
theorem dX4_status_16 : decode cX4_status 16 = .ok (.aload_n 0, 1) := by decide +kernel
theorem dX4_status_17 : decode cX4_status 17 = .ok (.getfield 40, 3) := by decide +kernel
theorem dX4_status_20 : decode cX4_status 20 = .ok (.iload_n 3, 1) := by decide +kernel
theorem dX4_status_21 : decode cX4_status 21 = .ok (.iaload, 1) := by decide +kernel
theorem dX4_status_22 : decode cX4_status 22 = .ok (.iadd, 1) := by decide +kernel
theorem dX4_status_23 : decode cX4_status 23 = .ok (.istore_n 2, 1) := by decide +kernel
theorem dX4_status_24 : decode cX4_status 24 = .ok (.iinc 3 1, 3) := by decide +kernel
theorem dX4_status_27 : decode cX4_status 27 = .ok (.goto (-18), 3) := by decide +kernel
theorem dX4_status_30 : decode cX4_status 30 = .ok (.iload_n 2, 1) := by decide +kernel
theorem dX4_status_31 : decode cX4_status 31 = .ok (.ireturn, 1) := by decide +kernel
theorem dX4_status_32 : decode cX4_status 32 = .ok (.iload_n 1, 1) := by decide +kernel
theorem dX4_status_33 : decode cX4_status 33 = .ok (.iconst 0, 1) := by decide +kernel
theorem dX4_status_34 : decode cX4_status 34 = .ok (.bipush 6, 2) := by decide +kernel
theorem dX4_status_36 : decode cX4_status 36 = .ok (.invokestatic 51, 3) := by decide +kernel
theorem dX4_status_39 : decode cX4_status 39 = .ok (.ifCond .ne 9, 3) := by decide +kernel
theorem dX4_status_42 : decode cX4_status 42 = .ok (.aload_n 0, 1) := by decide +kernel
theorem dX4_status_43 : decode cX4_status 43 = .ok (.iconst 0, 1) := by decide +kernel
theorem dX4_status_44 : decode cX4_status 44 = .ok (.invokevirtual 55, 3) := by decide +kernel
theorem dX4_status_47 : decode cX4_status 47 = .ok (.ireturn, 1) := by decide +kernel
theorem dX4_status_48 : decode cX4_status 48 = .ok (.aload_n 0, 1) := by decide +kernel
theorem dX4_status_49 : decode cX4_status 49 = .ok (.getfield 40, 3) := by decide +kernel
theorem dX4_status_52 : decode cX4_status 52 = .ok (.iload_n 1, 1) := by decide +kernel
theorem dX4_status_53 : decode cX4_status 53 = .ok (.iaload, 1) := by decide +kernel
theorem dX4_status_54 : decode cX4_status 54 = .ok (.ireturn, 1) := by decide +kernel
theorem dX4_tax_0 : decode cX4_tax 0 = .ok (.aload_n 0, 1) := by decide +kernel
theorem dX4_tax_1 : decode cX4_tax 1 = .ok (.iload_n 1, 1) := by decide +kernel
theorem dX4_tax_2 : decode cX4_tax 2 = .ok (.invokevirtual 102, 3) := by decide +kernel
theorem dX4_tax_5 : decode cX4_tax 5 = .ok (.ifCond .ne 9, 3) := by decide +kernel
theorem dX4_tax_8 : decode cX4_tax 8 = .ok (.aload_n 0, 1) := by decide +kernel
theorem dX4_tax_9 : decode cX4_tax 9 = .ok (.iconst 0, 1) := by decide +kernel
theorem dX4_tax_10 : decode cX4_tax 10 = .ok (.invokevirtual 55, 3) := by decide +kernel
theorem dX4_tax_13 : decode cX4_tax 13 = .ok (.ireturn, 1) := by decide +kernel
theorem dX4_tax_14 : decode cX4_tax 14 = .ok (.aload_n 0, 1) := by decide +kernel
theorem dX4_tax_15 : decode cX4_tax 15 = .ok (.getfield 10, 3) := by decide +kernel
theorem dX4_tax_18 : decode cX4_tax 18 = .ok (.iload_n 1, 1) := by decide +kernel
theorem dX4_tax_19 : decode cX4_tax 19 = .ok (.invokevirtual 146, 3) := by decide +kernel
theorem dX4_tax_22 : decode cX4_tax 22 = .ok (.ireturn, 1) := by decide +kernel
theorem dX4_tear_0 : decode cX4_tear 0 = .ok (.aload_n 0, 1) := by decide +kernel
theorem dX4_tear_1 : decode cX4_tear 1 = .ok (.getfield 22, 3) := by decide +kernel
theorem dX4_tear_4 : decode cX4_tear 4 = .ok (.ifCond .eq 7, 3) := by decide +kernel
theorem dX4_tear_7 : decode cX4_tear 7 = .ok (.iconst 1, 1) := by decide +kernel
theorem dX4_tear_8 : decode cX4_tear 8 = .ok (.goto 4, 3) := by decide +kernel
theorem dX4_tear_11 : decode cX4_tear 11 = .ok (.iconst 0, 1) := by decide +kernel
theorem dX4_tear_12 : decode cX4_tear 12 = .ok (.istore_n 1, 1) := by decide +kernel
theorem dX4_tear_13 : decode cX4_tear 13 = .ok (.aload_n 0, 1) := by decide +kernel
theorem dX4_tear_14 : decode cX4_tear 14 = .ok (.iconst 0, 1) := by decide +kernel
theorem dX4_tear_15 : decode cX4_tear 15 = .ok (.putfield 22, 3) := by decide +kernel
theorem dX4_tear_18 : decode cX4_tear 18 = .ok (.iload_n 1, 1) := by decide +kernel
theorem dX4_tear_19 : decode cX4_tear 19 = .ok (.ireturn, 1) := by decide +kernel
theorem dX4_tell_0 : decode cX4_tell 0 = .ok (.aload_n 0, 1) := by decide +kernel
theorem dX4_tell_1 : decode cX4_tell 1 = .ok (.getfield 40, 3) := by decide +kernel
theorem dX4_tell_4 : decode cX4_tell 4 = .ok (.iload_n 1, 1) := by decide +kernel
theorem dX4_tell_5 : decode cX4_tell 5 = .ok (.dup2, 1) := by decide +kernel
theorem dX4_tell_6 : decode cX4_tell 6 = .ok (.iaload, 1) := by decide +kernel
theorem dX4_tell_7 : decode cX4_tell 7 = .ok (.iconst 1, 1) := by decide +kernel
theorem dX4_tell_8 : decode cX4_tell 8 = .ok (.iadd, 1) := by decide +kernel
theorem dX4_tell_9 : decode cX4_tell 9 = .ok (.iastore, 1) := by decide +kernel
theorem dX4_tell_10 : decode cX4_tell 10 = .ok (.ldc_w 269, 3) := by decide +kernel
theorem dX4_tell_13 : decode cX4_tell 13 = .ok (.iload_n 1, 1) := by decide +kernel
theorem dX4_tell_14 : decode cX4_tell 14 = .ok (.isub, 1) := by decide +kernel
theorem dX4_tell_15 : decode cX4_tell 15 = .ok (.ireturn, 1) := by decide +kernel
theorem dX4_text_0 : decode cX4_text 0 = .ok (.aload_n 0, 1) := by decide +kernel
theorem dX4_text_1 : decode cX4_text 1 = .ok (.getfield 16, 3) := by decide +kernel
theorem dX4_text_4 : decode cX4_text 4 = .ok (.aload_n 0, 1) := by decide +kernel
theorem dX4_text_5 : decode cX4_text 5 = .ok (.getfield 10, 3) := by decide +kernel
theorem dX4_text_8 : decode cX4_text 8 = .ok (.invokevirtual 156, 3) := by decide +kernel
theorem dX4_text_11 : decode cX4_text 11 = .ok (.aload_n 0, 1) := by decide +kernel
theorem dX4_text_12 : decode cX4_text 12 = .ok (.getfield 29, 3) := by decide +kernel
theorem dX4_text_15 : decode cX4_text 15 = .ok (.aload_n 0, 1) := by decide +kernel
theorem dX4_text_16 : decode cX4_text 16 = .ok (.getfield 16, 3) := by decide +kernel
theorem dX4_text_19 : decode cX4_text 19 = .ok (.invokevirtual 225, 3) := by decide +kernel
theorem dX4_text_22 : decode cX4_text 22 = .ok (.istore_n 1, 1) := by decide +kernel
theorem dX4_text_23 : decode cX4_text 23 = .ok (.iload_n 1, 1) := by decide +kernel
theorem dX4_text_24 : decode cX4_text 24 = .ok (.ifCond .lt 14, 3) := by decide +kernel
theorem dX4_text_27 : decode cX4_text 27 = .ok (.aload_n 0, 1) := by decide +kernel
theorem dX4_text_28 : decode cX4_text 28 = .ok (.getfield 10, 3) := by decide +kernel
theorem dX4_text_31 : decode cX4_text 31 = .ok (.aload_n 0, 1) := by decide +kernel
theorem dX4_text_32 : decode cX4_text 32 = .ok (.getfield 16, 3) := by decide +kernel
theorem dX4_text_35 : decode cX4_text 35 = .ok (.invokevirtual 156, 3) := by decide +kernel
theorem dX4_text_38 : decode cX4_text 38 = .ok (.aload_n 0, 1) := by decide +kernel
theorem dX4_text_39 : decode cX4_text 39 = .ok (.getfield 29, 3) := by decide +kernel
theorem dX4_text_42 : decode cX4_text 42 = .ok (.getfield 210, 3) := by decide +kernel
theorem dX4_text_45 : decode cX4_text 45 = .ok (.iconst 0, 1) := by decide +kernel
theorem dX4_text_46 : decode cX4_text 46 = .ok (.putfield 222, 3) := by decide +kernel
theorem dX4_text_49 : decode cX4_text 49 = .ok (.iload_n 1, 1) := by decide +kernel
theorem dX4_text_50 : decode cX4_text 50 = .ok (.ireturn, 1) := by decide +kernel
theorem dX4_thriftyFloor_0 : decode cX4_thriftyFloor 0 = .ok (.aload_n 0, 1) := by decide +kernel
theorem dX4_thriftyFloor_1 : decode cX4_thriftyFloor 1 = .ok (.getfield 16, 3) := by decide +kernel
theorem dX4_thriftyFloor_4 : decode cX4_thriftyFloor 4 = .ok (.aload_n 0, 1) := by decide +kernel
theorem dX4_thriftyFloor_5 : decode cX4_thriftyFloor 5 = .ok (.getfield 10, 3) := by decide +kernel
theorem dX4_thriftyFloor_8 : decode cX4_thriftyFloor 8 = .ok (.invokevirtual 156, 3) := by decide +kernel
theorem dX4_thriftyFloor_11 : decode cX4_thriftyFloor 11 = .ok (.iconst (-1), 1) := by decide +kernel
theorem dX4_thriftyFloor_12 : decode cX4_thriftyFloor 12 = .ok (.istore_n 2, 1) := by decide +kernel
theorem dX4_thriftyFloor_13 : decode cX4_thriftyFloor 13 = .ok (.iconst 0, 1) := by decide +kernel
theorem dX4_thriftyFloor_14 : decode cX4_thriftyFloor 14 = .ok (.istore_n 3, 1) := by decide +kernel
theorem dX4_thriftyFloor_15 : decode cX4_thriftyFloor 15 = .ok (.iconst 1, 1) := by decide +kernel
theorem dX4_thriftyFloor_16 : decode cX4_thriftyFloor 16 = .ok (.istore 4, 2) := by decide +kernel
theorem dX4_thriftyFloor_18 : decode cX4_thriftyFloor 18 = .ok (.iload 4, 2) := by decide +kernel
theorem dX4_thriftyFloor_20 : decode cX4_thriftyFloor 20 = .ok (.bipush 40, 2) := by decide +kernel
theorem dX4_thriftyFloor_22 : decode cX4_thriftyFloor 22 = .ok (.if_icmp .gt 46, 3) := by decide +kernel
theorem dX4_thriftyFloor_25 : decode cX4_thriftyFloor 25 = .ok (.aload_n 0, 1) := by decide +kernel
theorem dX4_thriftyFloor_26 : decode cX4_thriftyFloor 26 = .ok (.getfield 16, 3) := by decide +kernel
theorem dX4_thriftyFloor_29 : decode cX4_thriftyFloor 29 = .ok (.getfield 108, 3) := by decide +kernel
theorem dX4_thriftyFloor_32 : decode cX4_thriftyFloor 32 = .ok (.iload_n 1, 1) := by decide +kernel
theorem dX4_thriftyFloor_33 : decode cX4_thriftyFloor 33 = .ok (.iload 4, 2) := by decide +kernel
theorem dX4_thriftyFloor_35 : decode cX4_thriftyFloor 35 = .ok (.iastore, 1) := by decide +kernel
theorem dX4_thriftyFloor_36 : decode cX4_thriftyFloor 36 = .ok (.aload_n 0, 1) := by decide +kernel
theorem dX4_thriftyFloor_37 : decode cX4_thriftyFloor 37 = .ok (.getfield 16, 3) := by decide +kernel
theorem dX4_thriftyFloor_40 : decode cX4_thriftyFloor 40 = .ok (.iload_n 1, 1) := by decide +kernel
theorem dX4_thriftyFloor_41 : decode cX4_thriftyFloor 41 = .ok (.invokevirtual 146, 3) := by decide +kernel
theorem dX4_thriftyFloor_44 : decode cX4_thriftyFloor 44 = .ok (.istore 5, 2) := by decide +kernel
theorem dX4_thriftyFloor_46 : decode cX4_thriftyFloor 46 = .ok (.iload_n 2, 1) := by decide +kernel
theorem dX4_thriftyFloor_47 : decode cX4_thriftyFloor 47 = .ok (.ifCond .lt 9, 3) := by decide +kernel
theorem dX4_thriftyFloor_50 : decode cX4_thriftyFloor 50 = .ok (.iload 5, 2) := by decide +kernel
theorem dX4_thriftyFloor_52 : decode cX4_thriftyFloor 52 = .ok (.iload_n 3, 1) := by decide +kernel
theorem dX4_thriftyFloor_53 : decode cX4_thriftyFloor 53 = .ok (.if_icmp .ge 9, 3) := by decide +kernel
theorem dX4_thriftyFloor_56 : decode cX4_thriftyFloor 56 = .ok (.iload 5, 2) := by decide +kernel
theorem dX4_thriftyFloor_58 : decode cX4_thriftyFloor 58 = .ok (.istore_n 3, 1) := by decide +kernel
theorem dX4_thriftyFloor_59 : decode cX4_thriftyFloor 59 = .ok (.iload 4, 2) := by decide +kernel
theorem dX4_thriftyFloor_61 : decode cX4_thriftyFloor 61 = .ok (.istore_n 2, 1) := by decide +kernel
theorem dX4_thriftyFloor_62 : decode cX4_thriftyFloor 62 = .ok (.iinc 4 1, 3) := by decide +kernel
theorem dX4_thriftyFloor_65 : decode cX4_thriftyFloor 65 = .ok (.goto (-47), 3) := by decide +kernel
theorem dX4_thriftyFloor_68 : decode cX4_thriftyFloor 68 = .ok (.iload_n 2, 1) := by decide +kernel
theorem dX4_thriftyFloor_69 : decode cX4_thriftyFloor 69 = .ok (.ireturn, 1) := by decide +kernel
theorem dX4_tryThing_0 : decode cX4_tryThing 0 = .ok (.aload_n 0, 1) := by decide +kernel
theorem dX4_tryThing_1 : decode cX4_tryThing 1 = .ok (.getfield 16, 3) := by decide +kernel
theorem dX4_tryThing_4 : decode cX4_tryThing 4 = .ok (.aload_n 0, 1) := by decide +kernel
theorem dX4_tryThing_5 : decode cX4_tryThing 5 = .ok (.getfield 10, 3) := by decide +kernel
theorem dX4_tryThing_8 : decode cX4_tryThing 8 = .ok (.invokevirtual 156, 3) := by decide +kernel
theorem dX4_tryThing_11 : decode cX4_tryThing 11 = .ok (.aload_n 0, 1) := by decide +kernel
theorem dX4_tryThing_12 : decode cX4_tryThing 12 = .ok (.getfield 16, 3) := by decide +kernel
theorem dX4_tryThing_15 : decode cX4_tryThing 15 = .ok (.iload_n 1, 1) := by decide +kernel
theorem dX4_tryThing_16 : decode cX4_tryThing 16 = .ok (.iload_n 2, 1) := by decide +kernel
theorem dX4_tryThing_17 : decode cX4_tryThing 17 = .ok (.invokevirtual 78, 3) := by decide +kernel
theorem dX4_tryThing_20 : decode cX4_tryThing 20 = .ok (.aload_n 0, 1) := by decide +kernel
theorem dX4_tryThing_21 : decode cX4_tryThing 21 = .ok (.getfield 16, 3) := by decide +kernel
theorem dX4_tryThing_24 : decode cX4_tryThing 24 = .ok (.iload_n 3, 1) := by decide +kernel
theorem dX4_tryThing_25 : decode cX4_tryThing 25 = .ok (.invokevirtual 198, 3) := by decide +kernel
theorem dX4_tryThing_28 : decode cX4_tryThing 28 = .ok (.return_, 1) := by decide +kernel
theorem dX4_tryYears_0 : decode cX4_tryYears 0 = .ok (.aload_n 0, 1) := by decide +kernel
theorem dX4_tryYears_1 : decode cX4_tryYears 1 = .ok (.getfield 16, 3) := by decide +kernel
theorem dX4_tryYears_4 : decode cX4_tryYears 4 = .ok (.aload_n 0, 1) := by decide +kernel
theorem dX4_tryYears_5 : decode cX4_tryYears 5 = .ok (.getfield 10, 3) := by decide +kernel
theorem dX4_tryYears_8 : decode cX4_tryYears 8 = .ok (.invokevirtual 156, 3) := by decide +kernel
theorem dX4_tryYears_11 : decode cX4_tryYears 11 = .ok (.aload_n 0, 1) := by decide +kernel
theorem dX4_tryYears_12 : decode cX4_tryYears 12 = .ok (.getfield 16, 3) := by decide +kernel
theorem dX4_tryYears_15 : decode cX4_tryYears 15 = .ok (.iload_n 1, 1) := by decide +kernel
theorem dX4_tryYears_16 : decode cX4_tryYears 16 = .ok (.invokevirtual 198, 3) := by decide +kernel
theorem dX4_tryYears_19 : decode cX4_tryYears 19 = .ok (.return_, 1) := by decide +kernel
theorem dX4_two_0 : decode cX4_two 0 = .ok (.iload_n 1, 1) := by decide +kernel
theorem dX4_two_1 : decode cX4_two 1 = .ok (.invokestatic 72, 3) := by decide +kernel
theorem dX4_two_4 : decode cX4_two 4 = .ok (.ifCond .ne 9, 3) := by decide +kernel
theorem dX4_two_7 : decode cX4_two 7 = .ok (.aload_n 0, 1) := by decide +kernel
theorem dX4_two_8 : decode cX4_two 8 = .ok (.iconst 0, 1) := by decide +kernel
theorem dX4_two_9 : decode cX4_two 9 = .ok (.invokevirtual 55, 3) := by decide +kernel
theorem dX4_two_12 : decode cX4_two 12 = .ok (.ireturn, 1) := by decide +kernel
theorem dX4_two_13 : decode cX4_two 13 = .ok (.iconst (-1), 1) := by decide +kernel
theorem dX4_two_14 : decode cX4_two 14 = .ok (.istore_n 2, 1) := by decide +kernel
theorem dX4_two_15 : decode cX4_two 15 = .ok (.iconst 0, 1) := by decide +kernel
theorem dX4_two_16 : decode cX4_two 16 = .ok (.istore_n 3, 1) := by decide +kernel
theorem dX4_two_17 : decode cX4_two 17 = .ok (.aload_n 0, 1) := by decide +kernel
theorem dX4_two_18 : decode cX4_two 18 = .ok (.getfield 16, 3) := by decide +kernel
theorem dX4_two_21 : decode cX4_two 21 = .ok (.aload_n 0, 1) := by decide +kernel
theorem dX4_two_22 : decode cX4_two 22 = .ok (.getfield 10, 3) := by decide +kernel
theorem dX4_two_25 : decode cX4_two 25 = .ok (.invokevirtual 156, 3) := by decide +kernel
theorem dX4_two_28 : decode cX4_two 28 = .ok (.iconst 0, 1) := by decide +kernel
theorem dX4_two_29 : decode cX4_two 29 = .ok (.istore 4, 2) := by decide +kernel
theorem dX4_two_31 : decode cX4_two 31 = .ok (.iload 4, 2) := by decide +kernel
theorem dX4_two_33 : decode cX4_two 33 = .ok (.bipush 24, 2) := by decide +kernel
theorem dX4_two_35 : decode cX4_two 35 = .ok (.if_icmp .ge 105, 3) := by decide +kernel
theorem dX4_two_38 : decode cX4_two 38 = .ok (.aload_n 0, 1) := by decide +kernel
theorem dX4_two_39 : decode cX4_two 39 = .ok (.getfield 16, 3) := by decide +kernel
theorem dX4_two_42 : decode cX4_two 42 = .ok (.iload 4, 2) := by decide +kernel
theorem dX4_two_44 : decode cX4_two 44 = .ok (.iload_n 1, 1) := by decide +kernel
theorem dX4_two_45 : decode cX4_two 45 = .ok (.invokevirtual 78, 3) := by decide +kernel
theorem dX4_two_48 : decode cX4_two 48 = .ok (.iload 4, 2) := by decide +kernel
theorem dX4_two_50 : decode cX4_two 50 = .ok (.iconst 1, 1) := by decide +kernel
theorem dX4_two_51 : decode cX4_two 51 = .ok (.iadd, 1) := by decide +kernel
theorem dX4_two_52 : decode cX4_two 52 = .ok (.istore 5, 2) := by decide +kernel
theorem dX4_two_54 : decode cX4_two 54 = .ok (.iload 5, 2) := by decide +kernel
theorem dX4_two_56 : decode cX4_two 56 = .ok (.bipush 24, 2) := by decide +kernel
theorem dX4_two_58 : decode cX4_two 58 = .ok (.if_icmp .ge 63, 3) := by decide +kernel
theorem dX4_two_61 : decode cX4_two 61 = .ok (.aload_n 0, 1) := by decide +kernel
theorem dX4_two_62 : decode cX4_two 62 = .ok (.getfield 16, 3) := by decide +kernel
theorem dX4_two_65 : decode cX4_two 65 = .ok (.iload 5, 2) := by decide +kernel
theorem dX4_two_67 : decode cX4_two 67 = .ok (.iload_n 1, 1) := by decide +kernel
theorem dX4_two_68 : decode cX4_two 68 = .ok (.invokevirtual 78, 3) := by decide +kernel
theorem dX4_two_71 : decode cX4_two 71 = .ok (.aload_n 0, 1) := by decide +kernel
theorem dX4_two_72 : decode cX4_two 72 = .ok (.getfield 16, 3) := by decide +kernel
theorem dX4_two_75 : decode cX4_two 75 = .ok (.invokevirtual 149, 3) := by decide +kernel
theorem dX4_two_78 : decode cX4_two 78 = .ok (.istore 6, 2) := by decide +kernel
theorem dX4_two_80 : decode cX4_two 80 = .ok (.iload_n 2, 1) := by decide +kernel
theorem dX4_two_81 : decode cX4_two 81 = .ok (.ifCond .lt 9, 3) := by decide +kernel
theorem dX4_two_84 : decode cX4_two 84 = .ok (.iload 6, 2) := by decide +kernel
theorem dX4_two_86 : decode cX4_two 86 = .ok (.iload_n 3, 1) := by decide +kernel
theorem dX4_two_87 : decode cX4_two 87 = .ok (.if_icmp .ge 15, 3) := by decide +kernel
theorem dX4_two_90 : decode cX4_two 90 = .ok (.iload 6, 2) := by decide +kernel
theorem dX4_two_92 : decode cX4_two 92 = .ok (.istore_n 3, 1) := by decide +kernel
theorem dX4_two_93 : decode cX4_two 93 = .ok (.bipush 100, 2) := by decide +kernel
theorem dX4_two_95 : decode cX4_two 95 = .ok (.iload 4, 2) := by decide +kernel
theorem dX4_two_97 : decode cX4_two 97 = .ok (.imul, 1) := by decide +kernel
theorem dX4_two_98 : decode cX4_two 98 = .ok (.iload 5, 2) := by decide +kernel
theorem dX4_two_100 : decode cX4_two 100 = .ok (.iadd, 1) := by decide +kernel
theorem dX4_two_101 : decode cX4_two 101 = .ok (.istore_n 2, 1) := by decide +kernel
theorem dX4_two_102 : decode cX4_two 102 = .ok (.aload_n 0, 1) := by decide +kernel
theorem dX4_two_103 : decode cX4_two 103 = .ok (.getfield 16, 3) := by decide +kernel
theorem dX4_two_106 : decode cX4_two 106 = .ok (.aload_n 0, 1) := by decide +kernel
theorem dX4_two_107 : decode cX4_two 107 = .ok (.getfield 10, 3) := by decide +kernel
theorem dX4_two_110 : decode cX4_two 110 = .ok (.iload 5, 2) := by decide +kernel
theorem dX4_two_112 : decode cX4_two 112 = .ok (.invokevirtual 187, 3) := by decide +kernel
theorem dX4_two_115 : decode cX4_two 115 = .ok (.iinc 5 1, 3) := by decide +kernel
theorem dX4_two_118 : decode cX4_two 118 = .ok (.goto (-64), 3) := by decide +kernel
theorem dX4_two_121 : decode cX4_two 121 = .ok (.aload_n 0, 1) := by decide +kernel
theorem dX4_two_122 : decode cX4_two 122 = .ok (.getfield 16, 3) := by decide +kernel
theorem dX4_two_125 : decode cX4_two 125 = .ok (.aload_n 0, 1) := by decide +kernel
theorem dX4_two_126 : decode cX4_two 126 = .ok (.getfield 10, 3) := by decide +kernel
theorem dX4_two_129 : decode cX4_two 129 = .ok (.iload 4, 2) := by decide +kernel
theorem dX4_two_131 : decode cX4_two 131 = .ok (.invokevirtual 187, 3) := by decide +kernel
theorem dX4_two_134 : decode cX4_two 134 = .ok (.iinc 4 1, 3) := by decide +kernel
theorem dX4_two_137 : decode cX4_two 137 = .ok (.goto (-106), 3) := by decide +kernel
theorem dX4_two_140 : decode cX4_two 140 = .ok (.iload_n 2, 1) := by decide +kernel
theorem dX4_two_141 : decode cX4_two 141 = .ok (.ireturn, 1) := by decide +kernel
theorem dX4_undo_0 : decode cX4_undo 0 = .ok (.aload_n 0, 1) := by decide +kernel
theorem dX4_undo_1 : decode cX4_undo 1 = .ok (.getfield 22, 3) := by decide +kernel
theorem dX4_undo_4 : decode cX4_undo 4 = .ok (.ifCond .ne 9, 3) := by decide +kernel
theorem dX4_undo_7 : decode cX4_undo 7 = .ok (.aload_n 0, 1) := by decide +kernel
theorem dX4_undo_8 : decode cX4_undo 8 = .ok (.iconst 3, 1) := by decide +kernel
theorem dX4_undo_9 : decode cX4_undo 9 = .ok (.invokevirtual 55, 3) := by decide +kernel
theorem dX4_undo_12 : decode cX4_undo 12 = .ok (.ireturn, 1) := by decide +kernel
theorem dX4_undo_13 : decode cX4_undo 13 = .ok (.aload_n 0, 1) := by decide +kernel
theorem dX4_undo_14 : decode cX4_undo 14 = .ok (.getfield 10, 3) := by decide +kernel
theorem dX4_undo_17 : decode cX4_undo 17 = .ok (.aload_n 0, 1) := by decide +kernel
theorem dX4_undo_18 : decode cX4_undo 18 = .ok (.getfield 19, 3) := by decide +kernel
theorem dX4_undo_21 : decode cX4_undo 21 = .ok (.invokevirtual 156, 3) := by decide +kernel
theorem dX4_undo_24 : decode cX4_undo 24 = .ok (.aload_n 0, 1) := by decide +kernel
theorem dX4_undo_25 : decode cX4_undo 25 = .ok (.getfield 10, 3) := by decide +kernel
theorem dX4_undo_28 : decode cX4_undo 28 = .ok (.getfield 201, 3) := by decide +kernel
theorem dX4_undo_31 : decode cX4_undo 31 = .ok (.ireturn, 1) := by decide +kernel
theorem dX4_walk_0 : decode cX4_walk 0 = .ok (.iconst 0, 1) := by decide +kernel
theorem dX4_walk_1 : decode cX4_walk 1 = .ok (.istore_n 1, 1) := by decide +kernel
theorem dX4_walk_2 : decode cX4_walk 2 = .ok (.iload_n 1, 1) := by decide +kernel
theorem dX4_walk_3 : decode cX4_walk 3 = .ok (.aload_n 0, 1) := by decide +kernel
theorem dX4_walk_4 : decode cX4_walk 4 = .ok (.getfield 10, 3) := by decide +kernel
theorem dX4_walk_7 : decode cX4_walk 7 = .ok (.getfield 98, 3) := by decide +kernel
theorem dX4_walk_10 : decode cX4_walk 10 = .ok (.if_icmp .ge 23, 3) := by decide +kernel
theorem dX4_walk_13 : decode cX4_walk 13 = .ok (.aload_n 0, 1) := by decide +kernel
theorem dX4_walk_14 : decode cX4_walk 14 = .ok (.getfield 44, 3) := by decide +kernel
theorem dX4_walk_17 : decode cX4_walk 17 = .ok (.iload_n 1, 1) := by decide +kernel
theorem dX4_walk_18 : decode cX4_walk 18 = .ok (.aload_n 0, 1) := by decide +kernel
theorem dX4_walk_19 : decode cX4_walk 19 = .ok (.getfield 10, 3) := by decide +kernel
theorem dX4_walk_22 : decode cX4_walk 22 = .ok (.iload_n 1, 1) := by decide +kernel
theorem dX4_walk_23 : decode cX4_walk 23 = .ok (.invokevirtual 129, 3) := by decide +kernel
theorem dX4_walk_26 : decode cX4_walk 26 = .ok (.iastore, 1) := by decide +kernel
theorem dX4_walk_27 : decode cX4_walk 27 = .ok (.iinc 1 1, 3) := by decide +kernel
theorem dX4_walk_30 : decode cX4_walk 30 = .ok (.goto (-28), 3) := by decide +kernel
theorem dX4_walk_33 : decode cX4_walk 33 = .ok (.aload_n 0, 1) := by decide +kernel
theorem dX4_walk_34 : decode cX4_walk 34 = .ok (.iconst 1, 1) := by decide +kernel
theorem dX4_walk_35 : decode cX4_walk 35 = .ok (.aload_n 0, 1) := by decide +kernel
theorem dX4_walk_36 : decode cX4_walk 36 = .ok (.getfield 10, 3) := by decide +kernel
theorem dX4_walk_39 : decode cX4_walk 39 = .ok (.getfield 98, 3) := by decide +kernel
theorem dX4_walk_42 : decode cX4_walk 42 = .ok (.ishl, 1) := by decide +kernel
theorem dX4_walk_43 : decode cX4_walk 43 = .ok (.iconst 1, 1) := by decide +kernel
theorem dX4_walk_44 : decode cX4_walk 44 = .ok (.isub, 1) := by decide +kernel
theorem dX4_walk_45 : decode cX4_walk 45 = .ok (.invokevirtual 191, 3) := by decide +kernel
theorem dX4_walk_48 : decode cX4_walk 48 = .ok (.istore_n 1, 1) := by decide +kernel
theorem dX4_walk_49 : decode cX4_walk 49 = .ok (.iconst 0, 1) := by decide +kernel
theorem dX4_walk_50 : decode cX4_walk 50 = .ok (.istore_n 2, 1) := by decide +kernel
theorem dX4_walk_51 : decode cX4_walk 51 = .ok (.aload_n 0, 1) := by decide +kernel
theorem dX4_walk_52 : decode cX4_walk 52 = .ok (.getfield 10, 3) := by decide +kernel
theorem dX4_walk_55 : decode cX4_walk 55 = .ok (.getfield 98, 3) := by decide +kernel
theorem dX4_walk_58 : decode cX4_walk 58 = .ok (.iconst 1, 1) := by decide +kernel
theorem dX4_walk_59 : decode cX4_walk 59 = .ok (.iadd, 1) := by decide +kernel
theorem dX4_walk_60 : decode cX4_walk 60 = .ok (.istore_n 3, 1) := by decide +kernel
theorem dX4_walk_61 : decode cX4_walk 61 = .ok (.iconst 0, 1) := by decide +kernel
theorem dX4_walk_62 : decode cX4_walk 62 = .ok (.istore 4, 2) := by decide +kernel
theorem dX4_walk_64 : decode cX4_walk 64 = .ok (.iload 4, 2) := by decide +kernel
theorem dX4_walk_66 : decode cX4_walk 66 = .ok (.iconst 1, 1) := by decide +kernel
theorem dX4_walk_67 : decode cX4_walk 67 = .ok (.aload_n 0, 1) := by decide +kernel
theorem dX4_walk_68 : decode cX4_walk 68 = .ok (.getfield 10, 3) := by decide +kernel
theorem dX4_walk_71 : decode cX4_walk 71 = .ok (.getfield 98, 3) := by decide +kernel
theorem dX4_walk_74 : decode cX4_walk 74 = .ok (.ishl, 1) := by decide +kernel
theorem dX4_walk_75 : decode cX4_walk 75 = .ok (.if_icmp .ge 38, 3) := by decide +kernel
theorem dX4_walk_78 : decode cX4_walk 78 = .ok (.iload 4, 2) := by decide +kernel
theorem dX4_walk_80 : decode cX4_walk 80 = .ok (.invokestatic 160, 3) := by decide +kernel
theorem dX4_walk_83 : decode cX4_walk 83 = .ok (.istore 5, 2) := by decide +kernel
theorem dX4_walk_85 : decode cX4_walk 85 = .ok (.iload 5, 2) := by decide +kernel
theorem dX4_walk_87 : decode cX4_walk 87 = .ok (.iload_n 3, 1) := by decide +kernel
theorem dX4_walk_88 : decode cX4_walk 88 = .ok (.if_icmp .ge 19, 3) := by decide +kernel
theorem dX4_walk_91 : decode cX4_walk 91 = .ok (.aload_n 0, 1) := by decide +kernel
theorem dX4_walk_92 : decode cX4_walk 92 = .ok (.iload 4, 2) := by decide +kernel
theorem dX4_walk_94 : decode cX4_walk 94 = .ok (.invokevirtual 191, 3) := by decide +kernel
theorem dX4_walk_97 : decode cX4_walk 97 = .ok (.iload_n 1, 1) := by decide +kernel
theorem dX4_walk_98 : decode cX4_walk 98 = .ok (.if_icmp .ne 9, 3) := by decide +kernel
theorem dX4_walk_101 : decode cX4_walk 101 = .ok (.iload 5, 2) := by decide +kernel
theorem dX4_walk_103 : decode cX4_walk 103 = .ok (.istore_n 3, 1) := by decide +kernel
theorem dX4_walk_104 : decode cX4_walk 104 = .ok (.iload 4, 2) := by decide +kernel
theorem dX4_walk_106 : decode cX4_walk 106 = .ok (.istore_n 2, 1) := by decide +kernel
theorem dX4_walk_107 : decode cX4_walk 107 = .ok (.iinc 4 1, 3) := by decide +kernel
theorem dX4_walk_110 : decode cX4_walk 110 = .ok (.goto (-46), 3) := by decide +kernel
theorem dX4_walk_113 : decode cX4_walk 113 = .ok (.iload_n 2, 1) := by decide +kernel
theorem dX4_walk_114 : decode cX4_walk 114 = .ok (.ireturn, 1) := by decide +kernel
theorem dX4_wall_0 : decode cX4_wall 0 = .ok (.aload_n 0, 1) := by decide +kernel
theorem dX4_wall_1 : decode cX4_wall 1 = .ok (.iload_n 1, 1) := by decide +kernel
theorem dX4_wall_2 : decode cX4_wall 2 = .ok (.invokevirtual 102, 3) := by decide +kernel
theorem dX4_wall_5 : decode cX4_wall 5 = .ok (.ifCond .eq 10, 3) := by decide +kernel
theorem dX4_wall_8 : decode cX4_wall 8 = .ok (.iload_n 2, 1) := by decide +kernel
theorem dX4_wall_9 : decode cX4_wall 9 = .ok (.invokestatic 47, 3) := by decide +kernel
theorem dX4_wall_12 : decode cX4_wall 12 = .ok (.ifCond .ne 9, 3) := by decide +kernel
theorem dX4_wall_15 : decode cX4_wall 15 = .ok (.aload_n 0, 1) := by decide +kernel
theorem dX4_wall_16 : decode cX4_wall 16 = .ok (.iconst 0, 1) := by decide +kernel
theorem dX4_wall_17 : decode cX4_wall 17 = .ok (.invokevirtual 55, 3) := by decide +kernel
theorem dX4_wall_20 : decode cX4_wall 20 = .ok (.ireturn, 1) := by decide +kernel
theorem dX4_wall_21 : decode cX4_wall 21 = .ok (.aload_n 0, 1) := by decide +kernel
theorem dX4_wall_22 : decode cX4_wall 22 = .ok (.getfield 16, 3) := by decide +kernel
theorem dX4_wall_25 : decode cX4_wall 25 = .ok (.aload_n 0, 1) := by decide +kernel
theorem dX4_wall_26 : decode cX4_wall 26 = .ok (.getfield 10, 3) := by decide +kernel
theorem dX4_wall_29 : decode cX4_wall 29 = .ok (.invokevirtual 156, 3) := by decide +kernel
theorem dX4_wall_32 : decode cX4_wall 32 = .ok (.iconst (-1), 1) := by decide +kernel
theorem dX4_wall_33 : decode cX4_wall 33 = .ok (.istore_n 3, 1) := by decide +kernel
theorem dX4_wall_34 : decode cX4_wall 34 = .ok (.iconst 0, 1) := by decide +kernel
theorem dX4_wall_35 : decode cX4_wall 35 = .ok (.istore 4, 2) := by decide +kernel
theorem dX4_wall_37 : decode cX4_wall 37 = .ok (.iconst 0, 1) := by decide +kernel
theorem dX4_wall_38 : decode cX4_wall 38 = .ok (.istore 5, 2) := by decide +kernel
theorem dX4_wall_40 : decode cX4_wall 40 = .ok (.iload 5, 2) := by decide +kernel
theorem dX4_wall_42 : decode cX4_wall 42 = .ok (.iconst 3, 1) := by decide +kernel
theorem dX4_wall_43 : decode cX4_wall 43 = .ok (.if_icmp .gt 60, 3) := by decide +kernel
theorem dX4_wall_46 : decode cX4_wall 46 = .ok (.aload_n 0, 1) := by decide +kernel
theorem dX4_wall_47 : decode cX4_wall 47 = .ok (.getfield 16, 3) := by decide +kernel
theorem dX4_wall_50 : decode cX4_wall 50 = .ok (.getfield 114, 3) := by decide +kernel
theorem dX4_wall_53 : decode cX4_wall 53 = .ok (.iload_n 1, 1) := by decide +kernel
theorem dX4_wall_54 : decode cX4_wall 54 = .ok (.iload 5, 2) := by decide +kernel
theorem dX4_wall_56 : decode cX4_wall 56 = .ok (.iastore, 1) := by decide +kernel
theorem dX4_wall_57 : decode cX4_wall 57 = .ok (.aload_n 0, 1) := by decide +kernel
theorem dX4_wall_58 : decode cX4_wall 58 = .ok (.getfield 16, 3) := by decide +kernel
theorem dX4_wall_61 : decode cX4_wall 61 = .ok (.iload_n 1, 1) := by decide +kernel
theorem dX4_wall_62 : decode cX4_wall 62 = .ok (.invokevirtual 146, 3) := by decide +kernel
theorem dX4_wall_65 : decode cX4_wall 65 = .ok (.istore 6, 2) := by decide +kernel
theorem dX4_wall_67 : decode cX4_wall 67 = .ok (.aload_n 0, 1) := by decide +kernel
theorem dX4_wall_68 : decode cX4_wall 68 = .ok (.getfield 16, 3) := by decide +kernel
theorem dX4_wall_71 : decode cX4_wall 71 = .ok (.iload_n 1, 1) := by decide +kernel
theorem dX4_wall_72 : decode cX4_wall 72 = .ok (.iload_n 2, 1) := by decide +kernel
theorem dX4_wall_73 : decode cX4_wall 73 = .ok (.invokevirtual 132, 3) := by decide +kernel
theorem dX4_wall_76 : decode cX4_wall 76 = .ok (.ifCond .eq 21, 3) := by decide +kernel
theorem dX4_wall_79 : decode cX4_wall 79 = .ok (.iload_n 3, 1) := by decide +kernel
theorem dX4_wall_80 : decode cX4_wall 80 = .ok (.ifCond .lt 10, 3) := by decide +kernel
theorem dX4_wall_83 : decode cX4_wall 83 = .ok (.iload 6, 2) := by decide +kernel
theorem dX4_wall_85 : decode cX4_wall 85 = .ok (.iload 4, 2) := by decide +kernel
theorem dX4_wall_87 : decode cX4_wall 87 = .ok (.if_icmp .ge 10, 3) := by decide +kernel
theorem dX4_wall_90 : decode cX4_wall 90 = .ok (.iload 6, 2) := by decide +kernel
theorem dX4_wall_92 : decode cX4_wall 92 = .ok (.istore 4, 2) := by decide +kernel
theorem dX4_wall_94 : decode cX4_wall 94 = .ok (.iload 5, 2) := by decide +kernel
theorem dX4_wall_96 : decode cX4_wall 96 = .ok (.istore_n 3, 1) := by decide +kernel
theorem dX4_wall_97 : decode cX4_wall 97 = .ok (.iinc 5 1, 3) := by decide +kernel
theorem dX4_wall_100 : decode cX4_wall 100 = .ok (.goto (-60), 3) := by decide +kernel
theorem dX4_wall_103 : decode cX4_wall 103 = .ok (.iload_n 3, 1) := by decide +kernel
theorem dX4_wall_104 : decode cX4_wall 104 = .ok (.ifCond .ge 11, 3) := by decide +kernel
theorem dX4_wall_107 : decode cX4_wall 107 = .ok (.aload_n 0, 1) := by decide +kernel
theorem dX4_wall_108 : decode cX4_wall 108 = .ok (.iconst 3, 1) := by decide +kernel
theorem dX4_wall_109 : decode cX4_wall 109 = .ok (.invokevirtual 55, 3) := by decide +kernel
theorem dX4_wall_112 : decode cX4_wall 112 = .ok (.goto 4, 3) := by decide +kernel
theorem dX4_wall_115 : decode cX4_wall 115 = .ok (.iload_n 3, 1) := by decide +kernel
theorem dX4_wall_116 : decode cX4_wall 116 = .ok (.ireturn, 1) := by decide +kernel
theorem dX4_when_0 : decode cX4_when 0 = .ok (.aload_n 0, 1) := by decide +kernel
theorem dX4_when_1 : decode cX4_when 1 = .ok (.iload_n 1, 1) := by decide +kernel
theorem dX4_when_2 : decode cX4_when 2 = .ok (.invokevirtual 102, 3) := by decide +kernel
theorem dX4_when_5 : decode cX4_when 5 = .ok (.ifCond .ne 9, 3) := by decide +kernel
theorem dX4_when_8 : decode cX4_when 8 = .ok (.aload_n 0, 1) := by decide +kernel
theorem dX4_when_9 : decode cX4_when 9 = .ok (.iconst 0, 1) := by decide +kernel
theorem dX4_when_10 : decode cX4_when 10 = .ok (.invokevirtual 55, 3) := by decide +kernel
theorem dX4_when_13 : decode cX4_when 13 = .ok (.ireturn, 1) := by decide +kernel
theorem dX4_when_14 : decode cX4_when 14 = .ok (.aload_n 0, 1) := by decide +kernel
theorem dX4_when_15 : decode cX4_when 15 = .ok (.bipush 60, 2) := by decide +kernel
theorem dX4_when_17 : decode cX4_when 17 = .ok (.invokevirtual 177, 3) := by decide +kernel
theorem dX4_when_20 : decode cX4_when 20 = .ok (.ifCond .eq 9, 3) := by decide +kernel
theorem dX4_when_23 : decode cX4_when 23 = .ok (.aload_n 0, 1) := by decide +kernel
theorem dX4_when_24 : decode cX4_when 24 = .ok (.iconst 4, 1) := by decide +kernel
theorem dX4_when_25 : decode cX4_when 25 = .ok (.invokevirtual 55, 3) := by decide +kernel
theorem dX4_when_28 : decode cX4_when 28 = .ok (.ireturn, 1) := by decide +kernel
theorem dX4_when_29 : decode cX4_when 29 = .ok (.aload_n 0, 1) := by decide +kernel
theorem dX4_when_30 : decode cX4_when 30 = .ok (.getfield 16, 3) := by decide +kernel
theorem dX4_when_33 : decode cX4_when 33 = .ok (.aload_n 0, 1) := by decide +kernel
theorem dX4_when_34 : decode cX4_when 34 = .ok (.getfield 10, 3) := by decide +kernel
theorem dX4_when_37 : decode cX4_when 37 = .ok (.invokevirtual 156, 3) := by decide +kernel
theorem dX4_when_40 : decode cX4_when 40 = .ok (.iconst (-1), 1) := by decide +kernel
theorem dX4_when_41 : decode cX4_when 41 = .ok (.istore_n 2, 1) := by decide +kernel
theorem dX4_when_42 : decode cX4_when 42 = .ok (.iconst 0, 1) := by decide +kernel
theorem dX4_when_43 : decode cX4_when 43 = .ok (.istore_n 3, 1) := by decide +kernel
theorem dX4_when_44 : decode cX4_when 44 = .ok (.iconst 0, 1) := by decide +kernel
theorem dX4_when_45 : decode cX4_when 45 = .ok (.istore 4, 2) := by decide +kernel
theorem dX4_when_47 : decode cX4_when 47 = .ok (.iload 4, 2) := by decide +kernel
theorem dX4_when_49 : decode cX4_when 49 = .ok (.bipush 60, 2) := by decide +kernel
theorem dX4_when_51 : decode cX4_when 51 = .ok (.if_icmp .gt 43, 3) := by decide +kernel
theorem dX4_when_54 : decode cX4_when 54 = .ok (.aload_n 0, 1) := by decide +kernel
theorem dX4_when_55 : decode cX4_when 55 = .ok (.getfield 16, 3) := by decide +kernel
theorem dX4_when_58 : decode cX4_when 58 = .ok (.iload_n 1, 1) := by decide +kernel
theorem dX4_when_59 : decode cX4_when 59 = .ok (.invokevirtual 146, 3) := by decide +kernel
theorem dX4_when_62 : decode cX4_when 62 = .ok (.istore 5, 2) := by decide +kernel
theorem dX4_when_64 : decode cX4_when 64 = .ok (.iload_n 2, 1) := by decide +kernel
theorem dX4_when_65 : decode cX4_when 65 = .ok (.ifCond .lt 9, 3) := by decide +kernel
theorem dX4_when_68 : decode cX4_when 68 = .ok (.iload 5, 2) := by decide +kernel
theorem dX4_when_70 : decode cX4_when 70 = .ok (.iload_n 3, 1) := by decide +kernel
theorem dX4_when_71 : decode cX4_when 71 = .ok (.if_icmp .ge 9, 3) := by decide +kernel
theorem dX4_when_74 : decode cX4_when 74 = .ok (.iload 5, 2) := by decide +kernel
theorem dX4_when_76 : decode cX4_when 76 = .ok (.istore_n 3, 1) := by decide +kernel
theorem dX4_when_77 : decode cX4_when 77 = .ok (.iload 4, 2) := by decide +kernel
theorem dX4_when_79 : decode cX4_when 79 = .ok (.istore_n 2, 1) := by decide +kernel
theorem dX4_when_80 : decode cX4_when 80 = .ok (.aload_n 0, 1) := by decide +kernel
theorem dX4_when_81 : decode cX4_when 81 = .ok (.getfield 16, 3) := by decide +kernel
theorem dX4_when_84 : decode cX4_when 84 = .ok (.iconst 1, 1) := by decide +kernel
theorem dX4_when_85 : decode cX4_when 85 = .ok (.invokevirtual 198, 3) := by decide +kernel
theorem dX4_when_88 : decode cX4_when 88 = .ok (.iinc 4 1, 3) := by decide +kernel
theorem dX4_when_91 : decode cX4_when 91 = .ok (.goto (-44), 3) := by decide +kernel
theorem dX4_when_94 : decode cX4_when 94 = .ok (.iload_n 2, 1) := by decide +kernel
theorem dX4_when_95 : decode cX4_when 95 = .ok (.ireturn, 1) := by decide +kernel
theorem dX4_which_0 : decode cX4_which 0 = .ok (.iload_n 1, 1) := by decide +kernel
theorem dX4_which_1 : decode cX4_which 1 = .ok (.invokestatic 47, 3) := by decide +kernel
theorem dX4_which_4 : decode cX4_which 4 = .ok (.ifCond .eq 10, 3) := by decide +kernel
theorem dX4_which_7 : decode cX4_which 7 = .ok (.iload_n 2, 1) := by decide +kernel
theorem dX4_which_8 : decode cX4_which 8 = .ok (.invokestatic 165, 3) := by decide +kernel
theorem dX4_which_11 : decode cX4_which 11 = .ok (.ifCond .ne 9, 3) := by decide +kernel
theorem dX4_which_14 : decode cX4_which 14 = .ok (.aload_n 0, 1) := by decide +kernel
theorem dX4_which_15 : decode cX4_which 15 = .ok (.iconst 0, 1) := by decide +kernel
theorem dX4_which_16 : decode cX4_which 16 = .ok (.invokevirtual 55, 3) := by decide +kernel
theorem dX4_which_19 : decode cX4_which 19 = .ok (.ireturn, 1) := by decide +kernel
theorem dX4_which_20 : decode cX4_which 20 = .ok (.aload_n 0, 1) := by decide +kernel
theorem dX4_which_21 : decode cX4_which 21 = .ok (.getfield 16, 3) := by decide +kernel
theorem dX4_which_24 : decode cX4_which 24 = .ok (.aload_n 0, 1) := by decide +kernel
theorem dX4_which_25 : decode cX4_which 25 = .ok (.getfield 10, 3) := by decide +kernel
theorem dX4_which_28 : decode cX4_which 28 = .ok (.invokevirtual 156, 3) := by decide +kernel
theorem dX4_which_31 : decode cX4_which 31 = .ok (.iconst 0, 1) := by decide +kernel
theorem dX4_which_32 : decode cX4_which 32 = .ok (.istore_n 3, 1) := by decide +kernel
theorem dX4_which_33 : decode cX4_which 33 = .ok (.iload_n 3, 1) := by decide +kernel
theorem dX4_which_34 : decode cX4_which 34 = .ok (.aload_n 0, 1) := by decide +kernel
theorem dX4_which_35 : decode cX4_which 35 = .ok (.getfield 10, 3) := by decide +kernel
theorem dX4_which_38 : decode cX4_which 38 = .ok (.getfield 98, 3) := by decide +kernel
theorem dX4_which_41 : decode cX4_which 41 = .ok (.if_icmp .ge 33, 3) := by decide +kernel
theorem dX4_which_44 : decode cX4_which 44 = .ok (.aload_n 0, 1) := by decide +kernel
theorem dX4_which_45 : decode cX4_which 45 = .ok (.getfield 16, 3) := by decide +kernel
theorem dX4_which_48 : decode cX4_which 48 = .ok (.getfield 105, 3) := by decide +kernel
theorem dX4_which_51 : decode cX4_which 51 = .ok (.iload_n 3, 1) := by decide +kernel
theorem dX4_which_52 : decode cX4_which 52 = .ok (.iload_n 1, 1) := by decide +kernel
theorem dX4_which_53 : decode cX4_which 53 = .ok (.iastore, 1) := by decide +kernel
theorem dX4_which_54 : decode cX4_which 54 = .ok (.aload_n 0, 1) := by decide +kernel
theorem dX4_which_55 : decode cX4_which 55 = .ok (.getfield 16, 3) := by decide +kernel
theorem dX4_which_58 : decode cX4_which 58 = .ok (.iload_n 3, 1) := by decide +kernel
theorem dX4_which_59 : decode cX4_which 59 = .ok (.invokevirtual 146, 3) := by decide +kernel
theorem dX4_which_62 : decode cX4_which 62 = .ok (.iload_n 2, 1) := by decide +kernel
theorem dX4_which_63 : decode cX4_which 63 = .ok (.if_icmp .ne 5, 3) := by decide +kernel
theorem dX4_which_66 : decode cX4_which 66 = .ok (.iload_n 3, 1) := by decide +kernel
theorem dX4_which_67 : decode cX4_which 67 = .ok (.ireturn, 1) := by decide +kernel
theorem dX4_which_68 : decode cX4_which 68 = .ok (.iinc 3 1, 3) := by decide +kernel
theorem dX4_which_71 : decode cX4_which 71 = .ok (.goto (-38), 3) := by decide +kernel
theorem dX4_which_74 : decode cX4_which 74 = .ok (.aload_n 0, 1) := by decide +kernel
theorem dX4_which_75 : decode cX4_which 75 = .ok (.iconst 3, 1) := by decide +kernel
theorem dX4_which_76 : decode cX4_which 76 = .ok (.invokevirtual 55, 3) := by decide +kernel
theorem dX4_which_79 : decode cX4_which 79 = .ok (.ireturn, 1) := by decide +kernel
theorem dX4_widest_0 : decode cX4_widest 0 = .ok (.aload_n 0, 1) := by decide +kernel
theorem dX4_widest_1 : decode cX4_widest 1 = .ok (.iload_n 1, 1) := by decide +kernel
theorem dX4_widest_2 : decode cX4_widest 2 = .ok (.invokevirtual 102, 3) := by decide +kernel
theorem dX4_widest_5 : decode cX4_widest 5 = .ok (.ifCond .ne 9, 3) := by decide +kernel
theorem dX4_widest_8 : decode cX4_widest 8 = .ok (.aload_n 0, 1) := by decide +kernel
theorem dX4_widest_9 : decode cX4_widest 9 = .ok (.iconst 0, 1) := by decide +kernel
theorem dX4_widest_10 : decode cX4_widest 10 = .ok (.invokevirtual 55, 3) := by decide +kernel
theorem dX4_widest_13 : decode cX4_widest 13 = .ok (.ireturn, 1) := by decide +kernel
theorem dX4_widest_14 : decode cX4_widest 14 = .ok (.aload_n 0, 1) := by decide +kernel
theorem dX4_widest_15 : decode cX4_widest 15 = .ok (.getfield 16, 3) := by decide +kernel
theorem dX4_widest_18 : decode cX4_widest 18 = .ok (.aload_n 0, 1) := by decide +kernel
theorem dX4_widest_19 : decode cX4_widest 19 = .ok (.getfield 10, 3) := by decide +kernel
theorem dX4_widest_22 : decode cX4_widest 22 = .ok (.invokevirtual 156, 3) := by decide +kernel
theorem dX4_widest_25 : decode cX4_widest 25 = .ok (.iconst 1, 1) := by decide +kernel
theorem dX4_widest_26 : decode cX4_widest 26 = .ok (.istore_n 2, 1) := by decide +kernel
theorem dX4_widest_27 : decode cX4_widest 27 = .ok (.iconst 0, 1) := by decide +kernel
theorem dX4_widest_28 : decode cX4_widest 28 = .ok (.istore_n 3, 1) := by decide +kernel
theorem dX4_widest_29 : decode cX4_widest 29 = .ok (.iconst 1, 1) := by decide +kernel
theorem dX4_widest_30 : decode cX4_widest 30 = .ok (.istore 4, 2) := by decide +kernel
theorem dX4_widest_32 : decode cX4_widest 32 = .ok (.iload 4, 2) := by decide +kernel
theorem dX4_widest_34 : decode cX4_widest 34 = .ok (.bipush 40, 2) := by decide +kernel
theorem dX4_widest_36 : decode cX4_widest 36 = .ok (.if_icmp .gt 45, 3) := by decide +kernel
theorem dX4_widest_39 : decode cX4_widest 39 = .ok (.aload_n 0, 1) := by decide +kernel
theorem dX4_widest_40 : decode cX4_widest 40 = .ok (.getfield 16, 3) := by decide +kernel
theorem dX4_widest_43 : decode cX4_widest 43 = .ok (.getfield 108, 3) := by decide +kernel
theorem dX4_widest_46 : decode cX4_widest 46 = .ok (.iload_n 1, 1) := by decide +kernel
theorem dX4_widest_47 : decode cX4_widest 47 = .ok (.iload 4, 2) := by decide +kernel
theorem dX4_widest_49 : decode cX4_widest 49 = .ok (.iastore, 1) := by decide +kernel
theorem dX4_widest_50 : decode cX4_widest 50 = .ok (.aload_n 0, 1) := by decide +kernel
theorem dX4_widest_51 : decode cX4_widest 51 = .ok (.getfield 16, 3) := by decide +kernel
theorem dX4_widest_54 : decode cX4_widest 54 = .ok (.iload_n 1, 1) := by decide +kernel
theorem dX4_widest_55 : decode cX4_widest 55 = .ok (.invokevirtual 129, 3) := by decide +kernel
theorem dX4_widest_58 : decode cX4_widest 58 = .ok (.invokestatic 160, 3) := by decide +kernel
theorem dX4_widest_61 : decode cX4_widest 61 = .ok (.istore 5, 2) := by decide +kernel
theorem dX4_widest_63 : decode cX4_widest 63 = .ok (.iload 5, 2) := by decide +kernel
theorem dX4_widest_65 : decode cX4_widest 65 = .ok (.iload_n 3, 1) := by decide +kernel
theorem dX4_widest_66 : decode cX4_widest 66 = .ok (.if_icmp .le 9, 3) := by decide +kernel
theorem dX4_widest_69 : decode cX4_widest 69 = .ok (.iload 5, 2) := by decide +kernel
theorem dX4_widest_71 : decode cX4_widest 71 = .ok (.istore_n 3, 1) := by decide +kernel
theorem dX4_widest_72 : decode cX4_widest 72 = .ok (.iload 4, 2) := by decide +kernel
theorem dX4_widest_74 : decode cX4_widest 74 = .ok (.istore_n 2, 1) := by decide +kernel
theorem dX4_widest_75 : decode cX4_widest 75 = .ok (.iinc 4 1, 3) := by decide +kernel
theorem dX4_widest_78 : decode cX4_widest 78 = .ok (.goto (-46), 3) := by decide +kernel
theorem dX4_widest_81 : decode cX4_widest 81 = .ok (.iload_n 2, 1) := by decide +kernel
theorem dX4_widest_82 : decode cX4_widest 82 = .ok (.ireturn, 1) := by decide +kernel
theorem dX4_windows_0 : decode cX4_windows 0 = .ok (.aload_n 0, 1) := by decide +kernel
theorem dX4_windows_1 : decode cX4_windows 1 = .ok (.iload_n 1, 1) := by decide +kernel
theorem dX4_windows_2 : decode cX4_windows 2 = .ok (.invokevirtual 102, 3) := by decide +kernel
theorem dX4_windows_5 : decode cX4_windows 5 = .ok (.ifCond .eq 12, 3) := by decide +kernel
theorem dX4_windows_8 : decode cX4_windows 8 = .ok (.iload_n 2, 1) := by decide +kernel
theorem dX4_windows_9 : decode cX4_windows 9 = .ok (.iconst 0, 1) := by decide +kernel
theorem dX4_windows_10 : decode cX4_windows 10 = .ok (.iconst 3, 1) := by decide +kernel
theorem dX4_windows_11 : decode cX4_windows 11 = .ok (.invokestatic 51, 3) := by decide +kernel
theorem dX4_windows_14 : decode cX4_windows 14 = .ok (.ifCond .ne 9, 3) := by decide +kernel
theorem dX4_windows_17 : decode cX4_windows 17 = .ok (.aload_n 0, 1) := by decide +kernel
theorem dX4_windows_18 : decode cX4_windows 18 = .ok (.iconst 0, 1) := by decide +kernel
theorem dX4_windows_19 : decode cX4_windows 19 = .ok (.invokevirtual 55, 3) := by decide +kernel
theorem dX4_windows_22 : decode cX4_windows 22 = .ok (.ireturn, 1) := by decide +kernel
theorem dX4_windows_23 : decode cX4_windows 23 = .ok (.aload_n 0, 1) := by decide +kernel
theorem dX4_windows_24 : decode cX4_windows 24 = .ok (.getfield 10, 3) := by decide +kernel
theorem dX4_windows_27 : decode cX4_windows 27 = .ok (.getfield 114, 3) := by decide +kernel
theorem dX4_windows_30 : decode cX4_windows 30 = .ok (.iload_n 1, 1) := by decide +kernel
theorem dX4_windows_31 : decode cX4_windows 31 = .ok (.iaload, 1) := by decide +kernel
theorem dX4_windows_32 : decode cX4_windows 32 = .ok (.istore_n 3, 1) := by decide +kernel
theorem dX4_windows_33 : decode cX4_windows 33 = .ok (.aload_n 0, 1) := by decide +kernel
theorem dX4_windows_34 : decode cX4_windows 34 = .ok (.getfield 10, 3) := by decide +kernel
theorem dX4_windows_37 : decode cX4_windows 37 = .ok (.getfield 114, 3) := by decide +kernel
theorem dX4_windows_40 : decode cX4_windows 40 = .ok (.iload_n 1, 1) := by decide +kernel
theorem dX4_windows_41 : decode cX4_windows 41 = .ok (.iload_n 2, 1) := by decide +kernel
theorem dX4_windows_42 : decode cX4_windows 42 = .ok (.iastore, 1) := by decide +kernel
theorem dX4_windows_43 : decode cX4_windows 43 = .ok (.iload_n 3, 1) := by decide +kernel
theorem dX4_windows_44 : decode cX4_windows 44 = .ok (.ireturn, 1) := by decide +kernel
theorem dX4_wipe_0 : decode cX4_wipe 0 = .ok (.aload_n 0, 1) := by decide +kernel
theorem dX4_wipe_1 : decode cX4_wipe 1 = .ok (.getfield 29, 3) := by decide +kernel
theorem dX4_wipe_4 : decode cX4_wipe 4 = .ok (.getfield 210, 3) := by decide +kernel
theorem dX4_wipe_7 : decode cX4_wipe 7 = .ok (.getfield 222, 3) := by decide +kernel
theorem dX4_wipe_10 : decode cX4_wipe 10 = .ok (.istore_n 1, 1) := by decide +kernel
theorem dX4_wipe_11 : decode cX4_wipe 11 = .ok (.aload_n 0, 1) := by decide +kernel
theorem dX4_wipe_12 : decode cX4_wipe 12 = .ok (.getfield 29, 3) := by decide +kernel
theorem dX4_wipe_15 : decode cX4_wipe 15 = .ok (.getfield 210, 3) := by decide +kernel
theorem dX4_wipe_18 : decode cX4_wipe 18 = .ok (.iconst 0, 1) := by decide +kernel
theorem dX4_wipe_19 : decode cX4_wipe 19 = .ok (.putfield 222, 3) := by decide +kernel
theorem dX4_wipe_22 : decode cX4_wipe 22 = .ok (.iload_n 1, 1) := by decide +kernel
theorem dX4_wipe_23 : decode cX4_wipe 23 = .ok (.ireturn, 1) := by decide +kernel
theorem dX4_write_0 : decode cX4_write 0 = .ok (.iload_n 1, 1) := by decide +kernel
theorem dX4_write_1 : decode cX4_write 1 = .ok (.invokestatic 238, 3) := by decide +kernel
theorem dX4_write_4 : decode cX4_write 4 = .ok (.ifCond .ne 9, 3) := by decide +kernel
theorem dX4_write_7 : decode cX4_write 7 = .ok (.aload_n 0, 1) := by decide +kernel
theorem dX4_write_8 : decode cX4_write 8 = .ok (.iconst 0, 1) := by decide +kernel
theorem dX4_write_9 : decode cX4_write 9 = .ok (.invokevirtual 55, 3) := by decide +kernel
theorem dX4_write_12 : decode cX4_write 12 = .ok (.ireturn, 1) := by decide +kernel
theorem dX4_write_13 : decode cX4_write 13 = .ok (.aload_n 0, 1) := by decide +kernel
theorem dX4_write_14 : decode cX4_write 14 = .ok (.getfield 36, 3) := by decide +kernel
theorem dX4_write_17 : decode cX4_write 17 = .ok (.iload_n 1, 1) := by decide +kernel
theorem dX4_write_18 : decode cX4_write 18 = .ok (.invokevirtual 247, 3) := by decide +kernel
theorem dX4_write_21 : decode cX4_write 21 = .ok (.ifCond .eq 9, 3) := by decide +kernel
theorem dX4_write_24 : decode cX4_write 24 = .ok (.aload_n 0, 1) := by decide +kernel
theorem dX4_write_25 : decode cX4_write 25 = .ok (.iconst 5, 1) := by decide +kernel
theorem dX4_write_26 : decode cX4_write 26 = .ok (.invokevirtual 55, 3) := by decide +kernel
theorem dX4_write_29 : decode cX4_write 29 = .ok (.ireturn, 1) := by decide +kernel
theorem dX4_write_30 : decode cX4_write 30 = .ok (.aload_n 0, 1) := by decide +kernel
theorem dX4_write_31 : decode cX4_write 31 = .ok (.getfield 36, 3) := by decide +kernel
theorem dX4_write_34 : decode cX4_write 34 = .ok (.iload_n 1, 1) := by decide +kernel
theorem dX4_write_35 : decode cX4_write 35 = .ok (.iload_n 2, 1) := by decide +kernel
theorem dX4_write_36 : decode cX4_write 36 = .ok (.iconst 1, 1) := by decide +kernel
theorem dX4_write_37 : decode cX4_write 37 = .ok (.invokevirtual 250, 3) := by decide +kernel
theorem dX4_write_40 : decode cX4_write 40 = .ok (.ifCond .ne 9, 3) := by decide +kernel
theorem dX4_write_43 : decode cX4_write 43 = .ok (.aload_n 0, 1) := by decide +kernel
theorem dX4_write_44 : decode cX4_write 44 = .ok (.iconst 0, 1) := by decide +kernel
theorem dX4_write_45 : decode cX4_write 45 = .ok (.invokevirtual 55, 3) := by decide +kernel
theorem dX4_write_48 : decode cX4_write 48 = .ok (.ireturn, 1) := by decide +kernel
theorem dX4_write_49 : decode cX4_write 49 = .ok (.aload_n 0, 1) := by decide +kernel
theorem dX4_write_50 : decode cX4_write 50 = .ok (.getfield 36, 3) := by decide +kernel
theorem dX4_write_53 : decode cX4_write 53 = .ok (.iload_n 1, 1) := by decide +kernel
theorem dX4_write_54 : decode cX4_write 54 = .ok (.iload_n 2, 1) := by decide +kernel
theorem dX4_write_55 : decode cX4_write 55 = .ok (.iload_n 3, 1) := by decide +kernel
theorem dX4_write_56 : decode cX4_write 56 = .ok (.invokevirtual 253, 3) := by decide +kernel
theorem dX4_write_59 : decode cX4_write 59 = .ok (.iconst 1, 1) := by decide +kernel
theorem dX4_write_60 : decode cX4_write 60 = .ok (.ireturn, 1) := by decide +kernel
theorem dX4_years_0 : decode cX4_years 0 = .ok (.iload_n 1, 1) := by decide +kernel
theorem dX4_years_1 : decode cX4_years 1 = .ok (.iconst 1, 1) := by decide +kernel
theorem dX4_years_2 : decode cX4_years 2 = .ok (.bipush 60, 2) := by decide +kernel
theorem dX4_years_4 : decode cX4_years 4 = .ok (.invokestatic 51, 3) := by decide +kernel
theorem dX4_years_7 : decode cX4_years 7 = .ok (.ifCond .ne 9, 3) := by decide +kernel
theorem dX4_years_10 : decode cX4_years 10 = .ok (.aload_n 0, 1) := by decide +kernel
theorem dX4_years_11 : decode cX4_years 11 = .ok (.iconst 0, 1) := by decide +kernel
theorem dX4_years_12 : decode cX4_years 12 = .ok (.invokevirtual 55, 3) := by decide +kernel
theorem dX4_years_15 : decode cX4_years 15 = .ok (.ireturn, 1) := by decide +kernel
theorem dX4_years_16 : decode cX4_years 16 = .ok (.aload_n 0, 1) := by decide +kernel
theorem dX4_years_17 : decode cX4_years 17 = .ok (.iload_n 1, 1) := by decide +kernel
theorem dX4_years_18 : decode cX4_years 18 = .ok (.invokevirtual 177, 3) := by decide +kernel
theorem dX4_years_21 : decode cX4_years 21 = .ok (.ifCond .eq 9, 3) := by decide +kernel
theorem dX4_years_24 : decode cX4_years 24 = .ok (.aload_n 0, 1) := by decide +kernel
theorem dX4_years_25 : decode cX4_years 25 = .ok (.iconst 4, 1) := by decide +kernel
theorem dX4_years_26 : decode cX4_years 26 = .ok (.invokevirtual 55, 3) := by decide +kernel
theorem dX4_years_29 : decode cX4_years 29 = .ok (.ireturn, 1) := by decide +kernel
theorem dX4_years_30 : decode cX4_years 30 = .ok (.aload_n 0, 1) := by decide +kernel
theorem dX4_years_31 : decode cX4_years 31 = .ok (.getfield 10, 3) := by decide +kernel
theorem dX4_years_34 : decode cX4_years 34 = .ok (.iload_n 1, 1) := by decide +kernel
theorem dX4_years_35 : decode cX4_years 35 = .ok (.invokevirtual 198, 3) := by decide +kernel
theorem dX4_years_38 : decode cX4_years 38 = .ok (.aload_n 0, 1) := by decide +kernel
theorem dX4_years_39 : decode cX4_years 39 = .ok (.getfield 10, 3) := by decide +kernel
theorem dX4_years_42 : decode cX4_years 42 = .ok (.getfield 201, 3) := by decide +kernel
theorem dX4_years_45 : decode cX4_years 45 = .ok (.ireturn, 1) := by decide +kernel
