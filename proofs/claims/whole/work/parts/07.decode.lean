theorem dJ6_bitCount_0f7a4_0 : decode cJ6_bitCount_0f7a4 0 = .ok (.iload_n 0, 1) := by decide +kernel
theorem dJ6_bitCount_0f7a4_1 : decode cJ6_bitCount_0f7a4 1 = .ok (.iload_n 0, 1) := by decide +kernel
theorem dJ6_bitCount_0f7a4_2 : decode cJ6_bitCount_0f7a4 2 = .ok (.iconst 1, 1) := by decide +kernel
theorem dJ6_bitCount_0f7a4_3 : decode cJ6_bitCount_0f7a4 3 = .ok (.iushr, 1) := by decide +kernel
theorem dJ6_bitCount_0f7a4_4 : decode cJ6_bitCount_0f7a4 4 = .ok (.ldc_w 265, 3) := by decide +kernel
theorem dJ6_bitCount_0f7a4_7 : decode cJ6_bitCount_0f7a4 7 = .ok (.iand, 1) := by decide +kernel
theorem dJ6_bitCount_0f7a4_8 : decode cJ6_bitCount_0f7a4 8 = .ok (.isub, 1) := by decide +kernel
theorem dJ6_bitCount_0f7a4_9 : decode cJ6_bitCount_0f7a4 9 = .ok (.istore_n 0, 1) := by decide +kernel
theorem dJ6_bitCount_0f7a4_10 : decode cJ6_bitCount_0f7a4 10 = .ok (.iload_n 0, 1) := by decide +kernel
theorem dJ6_bitCount_0f7a4_11 : decode cJ6_bitCount_0f7a4 11 = .ok (.ldc_w 266, 3) := by decide +kernel
theorem dJ6_bitCount_0f7a4_14 : decode cJ6_bitCount_0f7a4 14 = .ok (.iand, 1) := by decide +kernel
theorem dJ6_bitCount_0f7a4_15 : decode cJ6_bitCount_0f7a4 15 = .ok (.iload_n 0, 1) := by decide +kernel
theorem dJ6_bitCount_0f7a4_16 : decode cJ6_bitCount_0f7a4 16 = .ok (.iconst 2, 1) := by decide +kernel
theorem dJ6_bitCount_0f7a4_17 : decode cJ6_bitCount_0f7a4 17 = .ok (.iushr, 1) := by decide +kernel
theorem dJ6_bitCount_0f7a4_18 : decode cJ6_bitCount_0f7a4 18 = .ok (.ldc_w 266, 3) := by decide +kernel
theorem dJ6_bitCount_0f7a4_21 : decode cJ6_bitCount_0f7a4 21 = .ok (.iand, 1) := by decide +kernel
theorem dJ6_bitCount_0f7a4_22 : decode cJ6_bitCount_0f7a4 22 = .ok (.iadd, 1) := by decide +kernel
theorem dJ6_bitCount_0f7a4_23 : decode cJ6_bitCount_0f7a4 23 = .ok (.istore_n 0, 1) := by decide +kernel
theorem dJ6_bitCount_0f7a4_24 : decode cJ6_bitCount_0f7a4 24 = .ok (.iload_n 0, 1) := by decide +kernel
theorem dJ6_bitCount_0f7a4_25 : decode cJ6_bitCount_0f7a4 25 = .ok (.iload_n 0, 1) := by decide +kernel
theorem dJ6_bitCount_0f7a4_26 : decode cJ6_bitCount_0f7a4 26 = .ok (.iconst 4, 1) := by decide +kernel
theorem dJ6_bitCount_0f7a4_27 : decode cJ6_bitCount_0f7a4 27 = .ok (.iushr, 1) := by decide +kernel
theorem dJ6_bitCount_0f7a4_28 : decode cJ6_bitCount_0f7a4 28 = .ok (.iadd, 1) := by decide +kernel
theorem dJ6_bitCount_0f7a4_29 : decode cJ6_bitCount_0f7a4 29 = .ok (.ldc_w 267, 3) := by decide +kernel
theorem dJ6_bitCount_0f7a4_32 : decode cJ6_bitCount_0f7a4 32 = .ok (.iand, 1) := by decide +kernel
theorem dJ6_bitCount_0f7a4_33 : decode cJ6_bitCount_0f7a4 33 = .ok (.istore_n 0, 1) := by decide +kernel
theorem dJ6_bitCount_0f7a4_34 : decode cJ6_bitCount_0f7a4 34 = .ok (.iload_n 0, 1) := by decide +kernel
theorem dJ6_bitCount_0f7a4_35 : decode cJ6_bitCount_0f7a4 35 = .ok (.iload_n 0, 1) := by decide +kernel
theorem dJ6_bitCount_0f7a4_36 : decode cJ6_bitCount_0f7a4 36 = .ok (.bipush 8, 2) := by decide +kernel
theorem dJ6_bitCount_0f7a4_38 : decode cJ6_bitCount_0f7a4 38 = .ok (.iushr, 1) := by decide +kernel
theorem dJ6_bitCount_0f7a4_39 : decode cJ6_bitCount_0f7a4 39 = .ok (.iadd, 1) := by decide +kernel
theorem dJ6_bitCount_0f7a4_40 : decode cJ6_bitCount_0f7a4 40 = .ok (.istore_n 0, 1) := by decide +kernel
theorem dJ6_bitCount_0f7a4_41 : decode cJ6_bitCount_0f7a4 41 = .ok (.iload_n 0, 1) := by decide +kernel
theorem dJ6_bitCount_0f7a4_42 : decode cJ6_bitCount_0f7a4 42 = .ok (.iload_n 0, 1) := by decide +kernel
theorem dJ6_bitCount_0f7a4_43 : decode cJ6_bitCount_0f7a4 43 = .ok (.bipush 16, 2) := by decide +kernel
theorem dJ6_bitCount_0f7a4_45 : decode cJ6_bitCount_0f7a4 45 = .ok (.iushr, 1) := by decide +kernel
theorem dJ6_bitCount_0f7a4_46 : decode cJ6_bitCount_0f7a4 46 = .ok (.iadd, 1) := by decide +kernel
theorem dJ6_bitCount_0f7a4_47 : decode cJ6_bitCount_0f7a4 47 = .ok (.istore_n 0, 1) := by decide +kernel
theorem dJ6_bitCount_0f7a4_48 : decode cJ6_bitCount_0f7a4 48 = .ok (.iload_n 0, 1) := by decide +kernel
theorem dJ6_bitCount_0f7a4_49 : decode cJ6_bitCount_0f7a4 49 = .ok (.bipush 63, 2) := by decide +kernel
theorem dJ6_bitCount_0f7a4_51 : decode cJ6_bitCount_0f7a4 51 = .ok (.iand, 1) := by decide +kernel
theorem dJ6_bitCount_0f7a4_52 : decode cJ6_bitCount_0f7a4 52 = .ok (.ireturn, 1) := by decide +kernel
theorem dX0_ageTo_0 : decode cX0_ageTo 0 = .ok (.aload_n 0, 1) := by decide +kernel
theorem dX0_ageTo_1 : decode cX0_ageTo 1 = .ok (.getfield 16, 3) := by decide +kernel
theorem dX0_ageTo_4 : decode cX0_ageTo 4 = .ok (.iload_n 1, 1) := by decide +kernel
theorem dX0_ageTo_5 : decode cX0_ageTo 5 = .ok (.iload_n 2, 1) := by decide +kernel
theorem dX0_ageTo_6 : decode cX0_ageTo 6 = .ok (.iastore, 1) := by decide +kernel
theorem dX0_ageTo_7 : decode cX0_ageTo 7 = .ok (.aload_n 0, 1) := by decide +kernel
theorem dX0_ageTo_8 : decode cX0_ageTo 8 = .ok (.iload_n 1, 1) := by decide +kernel
theorem dX0_ageTo_9 : decode cX0_ageTo 9 = .ok (.invokevirtual 56, 3) := by decide +kernel
theorem dX0_ageTo_12 : decode cX0_ageTo 12 = .ok (.return_, 1) := by decide +kernel
theorem dX0_allSight_0 : decode cX0_allSight 0 = .ok (.iconst 0, 1) := by decide +kernel
theorem dX0_allSight_1 : decode cX0_allSight 1 = .ok (.istore_n 1, 1) := by decide +kernel
theorem dX0_allSight_2 : decode cX0_allSight 2 = .ok (.iconst 0, 1) := by decide +kernel
theorem dX0_allSight_3 : decode cX0_allSight 3 = .ok (.istore_n 2, 1) := by decide +kernel
theorem dX0_allSight_4 : decode cX0_allSight 4 = .ok (.iload_n 2, 1) := by decide +kernel
theorem dX0_allSight_5 : decode cX0_allSight 5 = .ok (.aload_n 0, 1) := by decide +kernel
theorem dX0_allSight_6 : decode cX0_allSight 6 = .ok (.getfield 34, 3) := by decide +kernel
theorem dX0_allSight_9 : decode cX0_allSight 9 = .ok (.if_icmp .ge 17, 3) := by decide +kernel
theorem dX0_allSight_12 : decode cX0_allSight 12 = .ok (.iload_n 1, 1) := by decide +kernel
theorem dX0_allSight_13 : decode cX0_allSight 13 = .ok (.aload_n 0, 1) := by decide +kernel
theorem dX0_allSight_14 : decode cX0_allSight 14 = .ok (.iload_n 2, 1) := by decide +kernel
theorem dX0_allSight_15 : decode cX0_allSight 15 = .ok (.invokevirtual 93, 3) := by decide +kernel
theorem dX0_allSight_18 : decode cX0_allSight 18 = .ok (.ior, 1) := by decide +kernel
theorem dX0_allSight_19 : decode cX0_allSight 19 = .ok (.istore_n 1, 1) := by decide +kernel
theorem dX0_allSight_20 : decode cX0_allSight 20 = .ok (.iinc 2 1, 3) := by decide +kernel
theorem dX0_allSight_23 : decode cX0_allSight 23 = .ok (.goto (-19), 3) := by decide +kernel
theorem dX0_allSight_26 : decode cX0_allSight 26 = .ok (.iload_n 1, 1) := by decide +kernel
theorem dX0_allSight_27 : decode cX0_allSight 27 = .ok (.ireturn, 1) := by decide +kernel
theorem dX0_allTax_0 : decode cX0_allTax 0 = .ok (.iconst 0, 1) := by decide +kernel
theorem dX0_allTax_1 : decode cX0_allTax 1 = .ok (.istore_n 1, 1) := by decide +kernel
theorem dX0_allTax_2 : decode cX0_allTax 2 = .ok (.iconst 0, 1) := by decide +kernel
theorem dX0_allTax_3 : decode cX0_allTax 3 = .ok (.istore_n 2, 1) := by decide +kernel
theorem dX0_allTax_4 : decode cX0_allTax 4 = .ok (.iload_n 2, 1) := by decide +kernel
theorem dX0_allTax_5 : decode cX0_allTax 5 = .ok (.aload_n 0, 1) := by decide +kernel
theorem dX0_allTax_6 : decode cX0_allTax 6 = .ok (.getfield 34, 3) := by decide +kernel
theorem dX0_allTax_9 : decode cX0_allTax 9 = .ok (.if_icmp .ge 17, 3) := by decide +kernel
theorem dX0_allTax_12 : decode cX0_allTax 12 = .ok (.iload_n 1, 1) := by decide +kernel
theorem dX0_allTax_13 : decode cX0_allTax 13 = .ok (.aload_n 0, 1) := by decide +kernel
theorem dX0_allTax_14 : decode cX0_allTax 14 = .ok (.iload_n 2, 1) := by decide +kernel
theorem dX0_allTax_15 : decode cX0_allTax 15 = .ok (.invokevirtual 112, 3) := by decide +kernel
theorem dX0_allTax_18 : decode cX0_allTax 18 = .ok (.iadd, 1) := by decide +kernel
theorem dX0_allTax_19 : decode cX0_allTax 19 = .ok (.istore_n 1, 1) := by decide +kernel
theorem dX0_allTax_20 : decode cX0_allTax 20 = .ok (.iinc 2 1, 3) := by decide +kernel
theorem dX0_allTax_23 : decode cX0_allTax 23 = .ok (.goto (-19), 3) := by decide +kernel
theorem dX0_allTax_26 : decode cX0_allTax 26 = .ok (.iload_n 1, 1) := by decide +kernel
theorem dX0_allTax_27 : decode cX0_allTax 27 = .ok (.ireturn, 1) := by decide +kernel
theorem dX0_build_0 : decode cX0_build 0 = .ok (.aload_n 0, 1) := by decide +kernel
theorem dX0_build_1 : decode cX0_build 1 = .ok (.getfield 22, 3) := by decide +kernel
theorem dX0_build_4 : decode cX0_build 4 = .ok (.aload_n 0, 1) := by decide +kernel
theorem dX0_build_5 : decode cX0_build 5 = .ok (.getfield 34, 3) := by decide +kernel
theorem dX0_build_8 : decode cX0_build 8 = .ok (.iload_n 1, 1) := by decide +kernel
theorem dX0_build_9 : decode cX0_build 9 = .ok (.iastore, 1) := by decide +kernel
theorem dX0_build_10 : decode cX0_build 10 = .ok (.aload_n 0, 1) := by decide +kernel
theorem dX0_build_11 : decode cX0_build 11 = .ok (.getfield 25, 3) := by decide +kernel
theorem dX0_build_14 : decode cX0_build 14 = .ok (.aload_n 0, 1) := by decide +kernel
theorem dX0_build_15 : decode cX0_build 15 = .ok (.getfield 34, 3) := by decide +kernel
theorem dX0_build_18 : decode cX0_build 18 = .ok (.iload_n 2, 1) := by decide +kernel
theorem dX0_build_19 : decode cX0_build 19 = .ok (.iastore, 1) := by decide +kernel
theorem dX0_build_20 : decode cX0_build 20 = .ok (.aload_n 0, 1) := by decide +kernel
theorem dX0_build_21 : decode cX0_build 21 = .ok (.getfield 28, 3) := by decide +kernel
theorem dX0_build_24 : decode cX0_build 24 = .ok (.aload_n 0, 1) := by decide +kernel
theorem dX0_build_25 : decode cX0_build 25 = .ok (.getfield 34, 3) := by decide +kernel
theorem dX0_build_28 : decode cX0_build 28 = .ok (.iload_n 3, 1) := by decide +kernel
theorem dX0_build_29 : decode cX0_build 29 = .ok (.iastore, 1) := by decide +kernel
theorem dX0_build_30 : decode cX0_build 30 = .ok (.aload_n 0, 1) := by decide +kernel
theorem dX0_build_31 : decode cX0_build 31 = .ok (.dup, 1) := by decide +kernel
theorem dX0_build_32 : decode cX0_build 32 = .ok (.getfield 34, 3) := by decide +kernel
theorem dX0_build_35 : decode cX0_build 35 = .ok (.iconst 1, 1) := by decide +kernel
theorem dX0_build_36 : decode cX0_build 36 = .ok (.iadd, 1) := by decide +kernel
theorem dX0_build_37 : decode cX0_build 37 = .ok (.putfield 34, 3) := by decide +kernel
theorem dX0_build_40 : decode cX0_build 40 = .ok (.return_, 1) := by decide +kernel
theorem dX0_draw_0 : decode cX0_draw 0 = .ok (.aload_n 0, 1) := by decide +kernel
theorem dX0_draw_1 : decode cX0_draw 1 = .ok (.aload_n 0, 1) := by decide +kernel
theorem dX0_draw_2 : decode cX0_draw 2 = .ok (.getfield 47, 3) := by decide +kernel
theorem dX0_draw_5 : decode cX0_draw 5 = .ok (.ldc 115, 2) := by decide +kernel
theorem dX0_draw_7 : decode cX0_draw 7 = .ok (.imul, 1) := by decide +kernel
theorem dX0_draw_8 : decode cX0_draw 8 = .ok (.sipush 12345, 3) := by decide +kernel
theorem dX0_draw_11 : decode cX0_draw 11 = .ok (.iadd, 1) := by decide +kernel
theorem dX0_draw_12 : decode cX0_draw 12 = .ok (.putfield 47, 3) := by decide +kernel
theorem dX0_draw_15 : decode cX0_draw 15 = .ok (.aload_n 0, 1) := by decide +kernel
theorem dX0_draw_16 : decode cX0_draw 16 = .ok (.getfield 47, 3) := by decide +kernel
theorem dX0_draw_19 : decode cX0_draw 19 = .ok (.bipush 8, 2) := by decide +kernel
theorem dX0_draw_21 : decode cX0_draw 21 = .ok (.iushr, 1) := by decide +kernel
theorem dX0_draw_22 : decode cX0_draw 22 = .ok (.ireturn, 1) := by decide +kernel
theorem dX0_eyeOf_0 : decode cX0_eyeOf 0 = .ok (.aload_n 0, 1) := by decide +kernel
theorem dX0_eyeOf_1 : decode cX0_eyeOf 1 = .ok (.getfield 19, 3) := by decide +kernel
theorem dX0_eyeOf_4 : decode cX0_eyeOf 4 = .ok (.aload_n 0, 1) := by decide +kernel
theorem dX0_eyeOf_5 : decode cX0_eyeOf 5 = .ok (.getfield 22, 3) := by decide +kernel
theorem dX0_eyeOf_8 : decode cX0_eyeOf 8 = .ok (.iload_n 1, 1) := by decide +kernel
theorem dX0_eyeOf_9 : decode cX0_eyeOf 9 = .ok (.iaload, 1) := by decide +kernel
theorem dX0_eyeOf_10 : decode cX0_eyeOf 10 = .ok (.iaload, 1) := by decide +kernel
theorem dX0_eyeOf_11 : decode cX0_eyeOf 11 = .ok (.aload_n 0, 1) := by decide +kernel
theorem dX0_eyeOf_12 : decode cX0_eyeOf 12 = .ok (.getfield 25, 3) := by decide +kernel
theorem dX0_eyeOf_15 : decode cX0_eyeOf 15 = .ok (.iload_n 1, 1) := by decide +kernel
theorem dX0_eyeOf_16 : decode cX0_eyeOf 16 = .ok (.iaload, 1) := by decide +kernel
theorem dX0_eyeOf_17 : decode cX0_eyeOf 17 = .ok (.iadd, 1) := by decide +kernel
theorem dX0_eyeOf_18 : decode cX0_eyeOf 18 = .ok (.ireturn, 1) := by decide +kernel
theorem dX0_grow_0 : decode cX0_grow 0 = .ok (.iconst 0, 1) := by decide +kernel
theorem dX0_grow_1 : decode cX0_grow 1 = .ok (.istore_n 2, 1) := by decide +kernel
theorem dX0_grow_2 : decode cX0_grow 2 = .ok (.iload_n 2, 1) := by decide +kernel
theorem dX0_grow_3 : decode cX0_grow 3 = .ok (.bipush 24, 2) := by decide +kernel
theorem dX0_grow_5 : decode cX0_grow 5 = .ok (.if_icmp .ge 27, 3) := by decide +kernel
theorem dX0_grow_8 : decode cX0_grow 8 = .ok (.aload_n 0, 1) := by decide +kernel
theorem dX0_grow_9 : decode cX0_grow 9 = .ok (.iload_n 2, 1) := by decide +kernel
theorem dX0_grow_10 : decode cX0_grow 10 = .ok (.bipush 99, 2) := by decide +kernel
theorem dX0_grow_12 : decode cX0_grow 12 = .ok (.aload_n 0, 1) := by decide +kernel
theorem dX0_grow_13 : decode cX0_grow 13 = .ok (.getfield 16, 3) := by decide +kernel
theorem dX0_grow_16 : decode cX0_grow 16 = .ok (.iload_n 2, 1) := by decide +kernel
theorem dX0_grow_17 : decode cX0_grow 17 = .ok (.iaload, 1) := by decide +kernel
theorem dX0_grow_18 : decode cX0_grow 18 = .ok (.iload_n 1, 1) := by decide +kernel
theorem dX0_grow_19 : decode cX0_grow 19 = .ok (.iadd, 1) := by decide +kernel
theorem dX0_grow_20 : decode cX0_grow 20 = .ok (.invokestatic 70, 3) := by decide +kernel
theorem dX0_grow_23 : decode cX0_grow 23 = .ok (.invokevirtual 73, 3) := by decide +kernel
theorem dX0_grow_26 : decode cX0_grow 26 = .ok (.iinc 2 1, 3) := by decide +kernel
theorem dX0_grow_29 : decode cX0_grow 29 = .ok (.goto (-27), 3) := by decide +kernel
theorem dX0_grow_32 : decode cX0_grow 32 = .ok (.aload_n 0, 1) := by decide +kernel
theorem dX0_grow_33 : decode cX0_grow 33 = .ok (.dup, 1) := by decide +kernel
theorem dX0_grow_34 : decode cX0_grow 34 = .ok (.getfield 44, 3) := by decide +kernel
theorem dX0_grow_37 : decode cX0_grow 37 = .ok (.iload_n 1, 1) := by decide +kernel
theorem dX0_grow_38 : decode cX0_grow 38 = .ok (.iadd, 1) := by decide +kernel
theorem dX0_grow_39 : decode cX0_grow 39 = .ok (.putfield 44, 3) := by decide +kernel
theorem dX0_grow_42 : decode cX0_grow 42 = .ok (.return_, 1) := by decide +kernel
theorem dX0_hasInSight_0 : decode cX0_hasInSight 0 = .ok (.iload_n 2, 1) := by decide +kernel
theorem dX0_hasInSight_1 : decode cX0_hasInSight 1 = .ok (.aload_n 0, 1) := by decide +kernel
theorem dX0_hasInSight_2 : decode cX0_hasInSight 2 = .ok (.iload_n 1, 1) := by decide +kernel
theorem dX0_hasInSight_3 : decode cX0_hasInSight 3 = .ok (.invokevirtual 93, 3) := by decide +kernel
theorem dX0_hasInSight_6 : decode cX0_hasInSight 6 = .ok (.invokestatic 96, 3) := by decide +kernel
theorem dX0_hasInSight_9 : decode cX0_hasInSight 9 = .ok (.ireturn, 1) := by decide +kernel
theorem dX0_hiderOf_0 : decode cX0_hiderOf 0 = .ok (.aload_n 0, 1) := by decide +kernel
theorem dX0_hiderOf_1 : decode cX0_hiderOf 1 = .ok (.getfield 22, 3) := by decide +kernel
theorem dX0_hiderOf_4 : decode cX0_hiderOf 4 = .ok (.iload_n 1, 1) := by decide +kernel
theorem dX0_hiderOf_5 : decode cX0_hiderOf 5 = .ok (.iaload, 1) := by decide +kernel
theorem dX0_hiderOf_6 : decode cX0_hiderOf 6 = .ok (.istore_n 3, 1) := by decide +kernel
theorem dX0_hiderOf_7 : decode cX0_hiderOf 7 = .ok (.aload_n 0, 1) := by decide +kernel
theorem dX0_hiderOf_8 : decode cX0_hiderOf 8 = .ok (.iload_n 1, 1) := by decide +kernel
theorem dX0_hiderOf_9 : decode cX0_hiderOf 9 = .ok (.invokevirtual 89, 3) := by decide +kernel
theorem dX0_hiderOf_12 : decode cX0_hiderOf 12 = .ok (.istore 4, 2) := by decide +kernel
theorem dX0_hiderOf_14 : decode cX0_hiderOf 14 = .ok (.iload_n 2, 1) := by decide +kernel
theorem dX0_hiderOf_15 : decode cX0_hiderOf 15 = .ok (.iload_n 3, 1) := by decide +kernel
theorem dX0_hiderOf_16 : decode cX0_hiderOf 16 = .ok (.if_icmp .ge 7, 3) := by decide +kernel
theorem dX0_hiderOf_19 : decode cX0_hiderOf 19 = .ok (.iconst (-1), 1) := by decide +kernel
theorem dX0_hiderOf_20 : decode cX0_hiderOf 20 = .ok (.goto 4, 3) := by decide +kernel
theorem dX0_hiderOf_23 : decode cX0_hiderOf 23 = .ok (.iconst 1, 1) := by decide +kernel
theorem dX0_hiderOf_24 : decode cX0_hiderOf 24 = .ok (.istore 5, 2) := by decide +kernel
theorem dX0_hiderOf_26 : decode cX0_hiderOf 26 = .ok (.iload_n 2, 1) := by decide +kernel
theorem dX0_hiderOf_27 : decode cX0_hiderOf 27 = .ok (.iload_n 3, 1) := by decide +kernel
theorem dX0_hiderOf_28 : decode cX0_hiderOf 28 = .ok (.isub, 1) := by decide +kernel
theorem dX0_hiderOf_29 : decode cX0_hiderOf 29 = .ok (.invokestatic 100, 3) := by decide +kernel
theorem dX0_hiderOf_32 : decode cX0_hiderOf 32 = .ok (.istore 6, 2) := by decide +kernel
theorem dX0_hiderOf_34 : decode cX0_hiderOf 34 = .ok (.aload_n 0, 1) := by decide +kernel
theorem dX0_hiderOf_35 : decode cX0_hiderOf 35 = .ok (.getfield 19, 3) := by decide +kernel
theorem dX0_hiderOf_38 : decode cX0_hiderOf 38 = .ok (.iload_n 2, 1) := by decide +kernel
theorem dX0_hiderOf_39 : decode cX0_hiderOf 39 = .ok (.iaload, 1) := by decide +kernel
theorem dX0_hiderOf_40 : decode cX0_hiderOf 40 = .ok (.iload 4, 2) := by decide +kernel
theorem dX0_hiderOf_42 : decode cX0_hiderOf 42 = .ok (.isub, 1) := by decide +kernel
theorem dX0_hiderOf_43 : decode cX0_hiderOf 43 = .ok (.istore 7, 2) := by decide +kernel
theorem dX0_hiderOf_45 : decode cX0_hiderOf 45 = .ok (.iconst 1, 1) := by decide +kernel
theorem dX0_hiderOf_46 : decode cX0_hiderOf 46 = .ok (.istore 8, 2) := by decide +kernel
theorem dX0_hiderOf_48 : decode cX0_hiderOf 48 = .ok (.iload 8, 2) := by decide +kernel
theorem dX0_hiderOf_50 : decode cX0_hiderOf 50 = .ok (.iload 6, 2) := by decide +kernel
theorem dX0_hiderOf_52 : decode cX0_hiderOf 52 = .ok (.if_icmp .ge 42, 3) := by decide +kernel
theorem dX0_hiderOf_55 : decode cX0_hiderOf 55 = .ok (.iload_n 3, 1) := by decide +kernel
theorem dX0_hiderOf_56 : decode cX0_hiderOf 56 = .ok (.iload 5, 2) := by decide +kernel
theorem dX0_hiderOf_58 : decode cX0_hiderOf 58 = .ok (.iload 8, 2) := by decide +kernel
theorem dX0_hiderOf_60 : decode cX0_hiderOf 60 = .ok (.imul, 1) := by decide +kernel
theorem dX0_hiderOf_61 : decode cX0_hiderOf 61 = .ok (.iadd, 1) := by decide +kernel
theorem dX0_hiderOf_62 : decode cX0_hiderOf 62 = .ok (.istore 9, 2) := by decide +kernel
theorem dX0_hiderOf_64 : decode cX0_hiderOf 64 = .ok (.aload_n 0, 1) := by decide +kernel
theorem dX0_hiderOf_65 : decode cX0_hiderOf 65 = .ok (.getfield 19, 3) := by decide +kernel
theorem dX0_hiderOf_68 : decode cX0_hiderOf 68 = .ok (.iload 9, 2) := by decide +kernel
theorem dX0_hiderOf_70 : decode cX0_hiderOf 70 = .ok (.iaload, 1) := by decide +kernel
theorem dX0_hiderOf_71 : decode cX0_hiderOf 71 = .ok (.iload 4, 2) := by decide +kernel
theorem dX0_hiderOf_73 : decode cX0_hiderOf 73 = .ok (.isub, 1) := by decide +kernel
theorem dX0_hiderOf_74 : decode cX0_hiderOf 74 = .ok (.iload 6, 2) := by decide +kernel
theorem dX0_hiderOf_76 : decode cX0_hiderOf 76 = .ok (.imul, 1) := by decide +kernel
theorem dX0_hiderOf_77 : decode cX0_hiderOf 77 = .ok (.iload 7, 2) := by decide +kernel
theorem dX0_hiderOf_79 : decode cX0_hiderOf 79 = .ok (.iload 8, 2) := by decide +kernel
theorem dX0_hiderOf_81 : decode cX0_hiderOf 81 = .ok (.imul, 1) := by decide +kernel
theorem dX0_hiderOf_82 : decode cX0_hiderOf 82 = .ok (.if_icmp .lt 6, 3) := by decide +kernel
theorem dX0_hiderOf_85 : decode cX0_hiderOf 85 = .ok (.iload 9, 2) := by decide +kernel
theorem dX0_hiderOf_87 : decode cX0_hiderOf 87 = .ok (.ireturn, 1) := by decide +kernel
theorem dX0_hiderOf_88 : decode cX0_hiderOf 88 = .ok (.iinc 8 1, 3) := by decide +kernel
theorem dX0_hiderOf_91 : decode cX0_hiderOf 91 = .ok (.goto (-43), 3) := by decide +kernel
theorem dX0_hiderOf_94 : decode cX0_hiderOf 94 = .ok (.iconst (-1), 1) := by decide +kernel
theorem dX0_hiderOf_95 : decode cX0_hiderOf 95 = .ok (.ireturn, 1) := by decide +kernel
theorem dX0_isBuiltUp_0 : decode cX0_isBuiltUp 0 = .ok (.aload_n 0, 1) := by decide +kernel
theorem dX0_isBuiltUp_1 : decode cX0_isBuiltUp 1 = .ok (.getfield 34, 3) := by decide +kernel
theorem dX0_isBuiltUp_4 : decode cX0_isBuiltUp 4 = .ok (.bipush 8, 2) := by decide +kernel
theorem dX0_isBuiltUp_6 : decode cX0_isBuiltUp 6 = .ok (.if_icmp .lt 7, 3) := by decide +kernel
theorem dX0_isBuiltUp_9 : decode cX0_isBuiltUp 9 = .ok (.iconst 1, 1) := by decide +kernel
theorem dX0_isBuiltUp_10 : decode cX0_isBuiltUp 10 = .ok (.goto 4, 3) := by decide +kernel
theorem dX0_isBuiltUp_13 : decode cX0_isBuiltUp 13 = .ok (.iconst 0, 1) := by decide +kernel
theorem dX0_isBuiltUp_14 : decode cX0_isBuiltUp 14 = .ok (.ireturn, 1) := by decide +kernel
theorem dX0_isIn_0 : decode cX0_isIn 0 = .ok (.iload_n 1, 1) := by decide +kernel
theorem dX0_isIn_1 : decode cX0_isIn 1 = .ok (.iload_n 0, 1) := by decide +kernel
theorem dX0_isIn_2 : decode cX0_isIn 2 = .ok (.ishr, 1) := by decide +kernel
theorem dX0_isIn_3 : decode cX0_isIn 3 = .ok (.iconst 1, 1) := by decide +kernel
theorem dX0_isIn_4 : decode cX0_isIn 4 = .ok (.iand, 1) := by decide +kernel
theorem dX0_isIn_5 : decode cX0_isIn 5 = .ok (.iconst 1, 1) := by decide +kernel
theorem dX0_isIn_6 : decode cX0_isIn 6 = .ok (.if_icmp .ne 7, 3) := by decide +kernel
theorem dX0_isIn_9 : decode cX0_isIn 9 = .ok (.iconst 1, 1) := by decide +kernel
theorem dX0_isIn_10 : decode cX0_isIn 10 = .ok (.goto 4, 3) := by decide +kernel
theorem dX0_isIn_13 : decode cX0_isIn 13 = .ok (.iconst 0, 1) := by decide +kernel
theorem dX0_isIn_14 : decode cX0_isIn 14 = .ok (.ireturn, 1) := by decide +kernel
theorem dX0_isOfKind_0 : decode cX0_isOfKind 0 = .ok (.iload_n 0, 1) := by decide +kernel
theorem dX0_isOfKind_1 : decode cX0_isOfKind 1 = .ok (.istore_n 2, 1) := by decide +kernel
theorem dX0_isOfKind_2 : decode cX0_isOfKind 2 = .ok (.iconst 0, 1) := by decide +kernel
theorem dX0_isOfKind_3 : decode cX0_isOfKind 3 = .ok (.istore_n 3, 1) := by decide +kernel
theorem dX0_isOfKind_4 : decode cX0_isOfKind 4 = .ok (.iload_n 3, 1) := by decide +kernel
theorem dX0_isOfKind_5 : decode cX0_isOfKind 5 = .ok (.getstatic 83, 3) := by decide +kernel
theorem dX0_isOfKind_8 : decode cX0_isOfKind 8 = .ok (.arraylength, 1) := by decide +kernel
theorem dX0_isOfKind_9 : decode cX0_isOfKind 9 = .ok (.if_icmp .ge 27, 3) := by decide +kernel
theorem dX0_isOfKind_12 : decode cX0_isOfKind 12 = .ok (.iload_n 2, 1) := by decide +kernel
theorem dX0_isOfKind_13 : decode cX0_isOfKind 13 = .ok (.iconst (-1), 1) := by decide +kernel
theorem dX0_isOfKind_14 : decode cX0_isOfKind 14 = .ok (.if_icmp .eq 22, 3) := by decide +kernel
theorem dX0_isOfKind_17 : decode cX0_isOfKind 17 = .ok (.iload_n 2, 1) := by decide +kernel
theorem dX0_isOfKind_18 : decode cX0_isOfKind 18 = .ok (.iload_n 1, 1) := by decide +kernel
theorem dX0_isOfKind_19 : decode cX0_isOfKind 19 = .ok (.if_icmp .ne 5, 3) := by decide +kernel
theorem dX0_isOfKind_22 : decode cX0_isOfKind 22 = .ok (.iconst 1, 1) := by decide +kernel
theorem dX0_isOfKind_23 : decode cX0_isOfKind 23 = .ok (.ireturn, 1) := by decide +kernel
theorem dX0_isOfKind_24 : decode cX0_isOfKind 24 = .ok (.getstatic 83, 3) := by decide +kernel
theorem dX0_isOfKind_27 : decode cX0_isOfKind 27 = .ok (.iload_n 2, 1) := by decide +kernel
theorem dX0_isOfKind_28 : decode cX0_isOfKind 28 = .ok (.iaload, 1) := by decide +kernel
theorem dX0_isOfKind_29 : decode cX0_isOfKind 29 = .ok (.istore_n 2, 1) := by decide +kernel
theorem dX0_isOfKind_30 : decode cX0_isOfKind 30 = .ok (.iinc 3 1, 3) := by decide +kernel
theorem dX0_isOfKind_33 : decode cX0_isOfKind 33 = .ok (.goto (-29), 3) := by decide +kernel
theorem dX0_isOfKind_36 : decode cX0_isOfKind 36 = .ok (.iconst 0, 1) := by decide +kernel
theorem dX0_isOfKind_37 : decode cX0_isOfKind 37 = .ok (.ireturn, 1) := by decide +kernel
theorem dX0_lookOut_0 : decode cX0_lookOut 0 = .ok (.aload_n 0, 1) := by decide +kernel
theorem dX0_lookOut_1 : decode cX0_lookOut 1 = .ok (.getfield 22, 3) := by decide +kernel
theorem dX0_lookOut_4 : decode cX0_lookOut 4 = .ok (.iload_n 1, 1) := by decide +kernel
theorem dX0_lookOut_5 : decode cX0_lookOut 5 = .ok (.iaload, 1) := by decide +kernel
theorem dX0_lookOut_6 : decode cX0_lookOut 6 = .ok (.istore_n 3, 1) := by decide +kernel
theorem dX0_lookOut_7 : decode cX0_lookOut 7 = .ok (.aload_n 0, 1) := by decide +kernel
theorem dX0_lookOut_8 : decode cX0_lookOut 8 = .ok (.iload_n 1, 1) := by decide +kernel
theorem dX0_lookOut_9 : decode cX0_lookOut 9 = .ok (.invokevirtual 89, 3) := by decide +kernel
theorem dX0_lookOut_12 : decode cX0_lookOut 12 = .ok (.istore 4, 2) := by decide +kernel
theorem dX0_lookOut_14 : decode cX0_lookOut 14 = .ok (.aload_n 0, 1) := by decide +kernel
theorem dX0_lookOut_15 : decode cX0_lookOut 15 = .ok (.getfield 38, 3) := by decide +kernel
theorem dX0_lookOut_18 : decode cX0_lookOut 18 = .ok (.iload_n 2, 1) := by decide +kernel
theorem dX0_lookOut_19 : decode cX0_lookOut 19 = .ok (.ifCond .ge 7, 3) := by decide +kernel
theorem dX0_lookOut_22 : decode cX0_lookOut 22 = .ok (.iload_n 3, 1) := by decide +kernel
theorem dX0_lookOut_23 : decode cX0_lookOut 23 = .ok (.goto 7, 3) := by decide +kernel
theorem dX0_lookOut_26 : decode cX0_lookOut 26 = .ok (.bipush 23, 2) := by decide +kernel
theorem dX0_lookOut_28 : decode cX0_lookOut 28 = .ok (.iload_n 3, 1) := by decide +kernel
theorem dX0_lookOut_29 : decode cX0_lookOut 29 = .ok (.isub, 1) := by decide +kernel
theorem dX0_lookOut_30 : decode cX0_lookOut 30 = .ok (.invokestatic 70, 3) := by decide +kernel
theorem dX0_lookOut_33 : decode cX0_lookOut 33 = .ok (.istore 5, 2) := by decide +kernel
theorem dX0_lookOut_35 : decode cX0_lookOut 35 = .ok (.iconst (-1), 1) := by decide +kernel
theorem dX0_lookOut_36 : decode cX0_lookOut 36 = .ok (.istore 6, 2) := by decide +kernel
theorem dX0_lookOut_38 : decode cX0_lookOut 38 = .ok (.iconst 0, 1) := by decide +kernel
theorem dX0_lookOut_39 : decode cX0_lookOut 39 = .ok (.istore 7, 2) := by decide +kernel
theorem dX0_lookOut_41 : decode cX0_lookOut 41 = .ok (.iconst 0, 1) := by decide +kernel
theorem dX0_lookOut_42 : decode cX0_lookOut 42 = .ok (.istore 8, 2) := by decide +kernel
theorem dX0_lookOut_44 : decode cX0_lookOut 44 = .ok (.iconst 1, 1) := by decide +kernel
theorem dX0_lookOut_45 : decode cX0_lookOut 45 = .ok (.istore 9, 2) := by decide +kernel
theorem dX0_lookOut_47 : decode cX0_lookOut 47 = .ok (.iload 9, 2) := by decide +kernel
theorem dX0_lookOut_49 : decode cX0_lookOut 49 = .ok (.iload 5, 2) := by decide +kernel
theorem dX0_lookOut_51 : decode cX0_lookOut 51 = .ok (.if_icmp .gt 59, 3) := by decide +kernel
theorem dX0_lookOut_54 : decode cX0_lookOut 54 = .ok (.iload_n 3, 1) := by decide +kernel
theorem dX0_lookOut_55 : decode cX0_lookOut 55 = .ok (.iload_n 2, 1) := by decide +kernel
theorem dX0_lookOut_56 : decode cX0_lookOut 56 = .ok (.iload 9, 2) := by decide +kernel
theorem dX0_lookOut_58 : decode cX0_lookOut 58 = .ok (.imul, 1) := by decide +kernel
theorem dX0_lookOut_59 : decode cX0_lookOut 59 = .ok (.iadd, 1) := by decide +kernel
theorem dX0_lookOut_60 : decode cX0_lookOut 60 = .ok (.istore 10, 2) := by decide +kernel
theorem dX0_lookOut_62 : decode cX0_lookOut 62 = .ok (.aload_n 0, 1) := by decide +kernel
theorem dX0_lookOut_63 : decode cX0_lookOut 63 = .ok (.getfield 19, 3) := by decide +kernel
theorem dX0_lookOut_66 : decode cX0_lookOut 66 = .ok (.iload 10, 2) := by decide +kernel
theorem dX0_lookOut_68 : decode cX0_lookOut 68 = .ok (.iaload, 1) := by decide +kernel
theorem dX0_lookOut_69 : decode cX0_lookOut 69 = .ok (.iload 4, 2) := by decide +kernel
theorem dX0_lookOut_71 : decode cX0_lookOut 71 = .ok (.isub, 1) := by decide +kernel
theorem dX0_lookOut_72 : decode cX0_lookOut 72 = .ok (.istore 11, 2) := by decide +kernel
theorem dX0_lookOut_74 : decode cX0_lookOut 74 = .ok (.iload 6, 2) := by decide +kernel
theorem dX0_lookOut_76 : decode cX0_lookOut 76 = .ok (.iload 9, 2) := by decide +kernel
theorem dX0_lookOut_78 : decode cX0_lookOut 78 = .ok (.imul, 1) := by decide +kernel
theorem dX0_lookOut_79 : decode cX0_lookOut 79 = .ok (.iload 11, 2) := by decide +kernel
theorem dX0_lookOut_81 : decode cX0_lookOut 81 = .ok (.iload 7, 2) := by decide +kernel
theorem dX0_lookOut_83 : decode cX0_lookOut 83 = .ok (.imul, 1) := by decide +kernel
theorem dX0_lookOut_84 : decode cX0_lookOut 84 = .ok (.if_icmp .ge 20, 3) := by decide +kernel
theorem dX0_lookOut_87 : decode cX0_lookOut 87 = .ok (.iload 11, 2) := by decide +kernel
theorem dX0_lookOut_89 : decode cX0_lookOut 89 = .ok (.istore 6, 2) := by decide +kernel
theorem dX0_lookOut_91 : decode cX0_lookOut 91 = .ok (.iload 9, 2) := by decide +kernel
theorem dX0_lookOut_93 : decode cX0_lookOut 93 = .ok (.istore 7, 2) := by decide +kernel
theorem dX0_lookOut_95 : decode cX0_lookOut 95 = .ok (.iload 8, 2) := by decide +kernel
theorem dX0_lookOut_97 : decode cX0_lookOut 97 = .ok (.iconst 1, 1) := by decide +kernel
theorem dX0_lookOut_98 : decode cX0_lookOut 98 = .ok (.iload 10, 2) := by decide +kernel
theorem dX0_lookOut_100 : decode cX0_lookOut 100 = .ok (.ishl, 1) := by decide +kernel
theorem dX0_lookOut_101 : decode cX0_lookOut 101 = .ok (.ior, 1) := by decide +kernel
theorem dX0_lookOut_102 : decode cX0_lookOut 102 = .ok (.istore 8, 2) := by decide +kernel
theorem dX0_lookOut_104 : decode cX0_lookOut 104 = .ok (.iinc 9 1, 3) := by decide +kernel
theorem dX0_lookOut_107 : decode cX0_lookOut 107 = .ok (.goto (-60), 3) := by decide +kernel
theorem dX0_lookOut_110 : decode cX0_lookOut 110 = .ok (.iload 8, 2) := by decide +kernel
theorem dX0_lookOut_112 : decode cX0_lookOut 112 = .ok (.ireturn, 1) := by decide +kernel
theorem dX0_looksTowards_0 : decode cX0_looksTowards 0 = .ok (.aload_n 0, 1) := by decide +kernel
theorem dX0_looksTowards_1 : decode cX0_looksTowards 1 = .ok (.getfield 22, 3) := by decide +kernel
theorem dX0_looksTowards_4 : decode cX0_looksTowards 4 = .ok (.iload_n 1, 1) := by decide +kernel
theorem dX0_looksTowards_5 : decode cX0_looksTowards 5 = .ok (.iaload, 1) := by decide +kernel
theorem dX0_looksTowards_6 : decode cX0_looksTowards 6 = .ok (.istore_n 3, 1) := by decide +kernel
theorem dX0_looksTowards_7 : decode cX0_looksTowards 7 = .ok (.iload_n 2, 1) := by decide +kernel
theorem dX0_looksTowards_8 : decode cX0_looksTowards 8 = .ok (.iload_n 3, 1) := by decide +kernel
theorem dX0_looksTowards_9 : decode cX0_looksTowards 9 = .ok (.if_icmp .ge 7, 3) := by decide +kernel
theorem dX0_looksTowards_12 : decode cX0_looksTowards 12 = .ok (.iconst 1, 1) := by decide +kernel
theorem dX0_looksTowards_13 : decode cX0_looksTowards 13 = .ok (.goto 4, 3) := by decide +kernel
theorem dX0_looksTowards_16 : decode cX0_looksTowards 16 = .ok (.iconst 2, 1) := by decide +kernel
theorem dX0_looksTowards_17 : decode cX0_looksTowards 17 = .ok (.istore 4, 2) := by decide +kernel
theorem dX0_looksTowards_19 : decode cX0_looksTowards 19 = .ok (.iload_n 2, 1) := by decide +kernel
theorem dX0_looksTowards_20 : decode cX0_looksTowards 20 = .ok (.iload_n 3, 1) := by decide +kernel
theorem dX0_looksTowards_21 : decode cX0_looksTowards 21 = .ok (.if_icmp .eq 32, 3) := by decide +kernel
theorem dX0_looksTowards_24 : decode cX0_looksTowards 24 = .ok (.aload_n 0, 1) := by decide +kernel
theorem dX0_looksTowards_25 : decode cX0_looksTowards 25 = .ok (.getfield 28, 3) := by decide +kernel
theorem dX0_looksTowards_28 : decode cX0_looksTowards 28 = .ok (.iload_n 1, 1) := by decide +kernel
theorem dX0_looksTowards_29 : decode cX0_looksTowards 29 = .ok (.iaload, 1) := by decide +kernel
theorem dX0_looksTowards_30 : decode cX0_looksTowards 30 = .ok (.iload 4, 2) := by decide +kernel
theorem dX0_looksTowards_32 : decode cX0_looksTowards 32 = .ok (.iand, 1) := by decide +kernel
theorem dX0_looksTowards_33 : decode cX0_looksTowards 33 = .ok (.ifCond .eq 20, 3) := by decide +kernel
theorem dX0_looksTowards_36 : decode cX0_looksTowards 36 = .ok (.iload_n 2, 1) := by decide +kernel
theorem dX0_looksTowards_37 : decode cX0_looksTowards 37 = .ok (.iload_n 3, 1) := by decide +kernel
theorem dX0_looksTowards_38 : decode cX0_looksTowards 38 = .ok (.isub, 1) := by decide +kernel
theorem dX0_looksTowards_39 : decode cX0_looksTowards 39 = .ok (.invokestatic 100, 3) := by decide +kernel
theorem dX0_looksTowards_42 : decode cX0_looksTowards 42 = .ok (.aload_n 0, 1) := by decide +kernel
theorem dX0_looksTowards_43 : decode cX0_looksTowards 43 = .ok (.getfield 38, 3) := by decide +kernel
theorem dX0_looksTowards_46 : decode cX0_looksTowards 46 = .ok (.if_icmp .gt 7, 3) := by decide +kernel
theorem dX0_looksTowards_49 : decode cX0_looksTowards 49 = .ok (.iconst 1, 1) := by decide +kernel
theorem dX0_looksTowards_50 : decode cX0_looksTowards 50 = .ok (.goto 4, 3) := by decide +kernel
theorem dX0_looksTowards_53 : decode cX0_looksTowards 53 = .ok (.iconst 0, 1) := by decide +kernel
theorem dX0_looksTowards_54 : decode cX0_looksTowards 54 = .ok (.ireturn, 1) := by decide +kernel
theorem dX0_lower_0 : decode cX0_lower 0 = .ok (.aload_n 0, 1) := by decide +kernel
theorem dX0_lower_1 : decode cX0_lower 1 = .ok (.iload_n 1, 1) := by decide +kernel
theorem dX0_lower_2 : decode cX0_lower 2 = .ok (.iconst 0, 1) := by decide +kernel
theorem dX0_lower_3 : decode cX0_lower 3 = .ok (.aload_n 0, 1) := by decide +kernel
theorem dX0_lower_4 : decode cX0_lower 4 = .ok (.getfield 13, 3) := by decide +kernel
theorem dX0_lower_7 : decode cX0_lower 7 = .ok (.iload_n 1, 1) := by decide +kernel
theorem dX0_lower_8 : decode cX0_lower 8 = .ok (.iaload, 1) := by decide +kernel
theorem dX0_lower_9 : decode cX0_lower 9 = .ok (.iload_n 2, 1) := by decide +kernel
theorem dX0_lower_10 : decode cX0_lower 10 = .ok (.isub, 1) := by decide +kernel
theorem dX0_lower_11 : decode cX0_lower 11 = .ok (.invokestatic 60, 3) := by decide +kernel
theorem dX0_lower_14 : decode cX0_lower 14 = .ok (.invokevirtual 66, 3) := by decide +kernel
theorem dX0_lower_17 : decode cX0_lower 17 = .ok (.return_, 1) := by decide +kernel
theorem dX0_place_0 : decode cX0_place 0 = .ok (.aload_n 0, 1) := by decide +kernel
theorem dX0_place_1 : decode cX0_place 1 = .ok (.getfield 9, 3) := by decide +kernel
theorem dX0_place_4 : decode cX0_place 4 = .ok (.iload_n 1, 1) := by decide +kernel
theorem dX0_place_5 : decode cX0_place 5 = .ok (.iload_n 2, 1) := by decide +kernel
theorem dX0_place_6 : decode cX0_place 6 = .ok (.iastore, 1) := by decide +kernel
theorem dX0_place_7 : decode cX0_place 7 = .ok (.aload_n 0, 1) := by decide +kernel
theorem dX0_place_8 : decode cX0_place 8 = .ok (.getfield 16, 3) := by decide +kernel
theorem dX0_place_11 : decode cX0_place 11 = .ok (.iload_n 1, 1) := by decide +kernel
theorem dX0_place_12 : decode cX0_place 12 = .ok (.iconst 0, 1) := by decide +kernel
theorem dX0_place_13 : decode cX0_place 13 = .ok (.iastore, 1) := by decide +kernel
theorem dX0_place_14 : decode cX0_place 14 = .ok (.aload_n 0, 1) := by decide +kernel
theorem dX0_place_15 : decode cX0_place 15 = .ok (.iload_n 1, 1) := by decide +kernel
theorem dX0_place_16 : decode cX0_place 16 = .ok (.invokevirtual 56, 3) := by decide +kernel
theorem dX0_place_19 : decode cX0_place 19 = .ok (.return_, 1) := by decide +kernel
theorem dX0_raiseTo_0 : decode cX0_raiseTo 0 = .ok (.aload_n 0, 1) := by decide +kernel
theorem dX0_raiseTo_1 : decode cX0_raiseTo 1 = .ok (.getfield 13, 3) := by decide +kernel
theorem dX0_raiseTo_4 : decode cX0_raiseTo 4 = .ok (.iload_n 1, 1) := by decide +kernel
theorem dX0_raiseTo_5 : decode cX0_raiseTo 5 = .ok (.iload_n 2, 1) := by decide +kernel
theorem dX0_raiseTo_6 : decode cX0_raiseTo 6 = .ok (.iastore, 1) := by decide +kernel
theorem dX0_raiseTo_7 : decode cX0_raiseTo 7 = .ok (.aload_n 0, 1) := by decide +kernel
theorem dX0_raiseTo_8 : decode cX0_raiseTo 8 = .ok (.iload_n 1, 1) := by decide +kernel
theorem dX0_raiseTo_9 : decode cX0_raiseTo 9 = .ok (.invokevirtual 56, 3) := by decide +kernel
theorem dX0_raiseTo_12 : decode cX0_raiseTo 12 = .ok (.return_, 1) := by decide +kernel
theorem dX0_renewTop_0 : decode cX0_renewTop 0 = .ok (.aload_n 0, 1) := by decide +kernel
theorem dX0_renewTop_1 : decode cX0_renewTop 1 = .ok (.getfield 19, 3) := by decide +kernel
theorem dX0_renewTop_4 : decode cX0_renewTop 4 = .ok (.iload_n 1, 1) := by decide +kernel
theorem dX0_renewTop_5 : decode cX0_renewTop 5 = .ok (.aload_n 0, 1) := by decide +kernel
theorem dX0_renewTop_6 : decode cX0_renewTop 6 = .ok (.getfield 9, 3) := by decide +kernel
theorem dX0_renewTop_9 : decode cX0_renewTop 9 = .ok (.iload_n 1, 1) := by decide +kernel
theorem dX0_renewTop_10 : decode cX0_renewTop 10 = .ok (.iaload, 1) := by decide +kernel
theorem dX0_renewTop_11 : decode cX0_renewTop 11 = .ok (.aload_n 0, 1) := by decide +kernel
theorem dX0_renewTop_12 : decode cX0_renewTop 12 = .ok (.getfield 13, 3) := by decide +kernel
theorem dX0_renewTop_15 : decode cX0_renewTop 15 = .ok (.iload_n 1, 1) := by decide +kernel
theorem dX0_renewTop_16 : decode cX0_renewTop 16 = .ok (.iaload, 1) := by decide +kernel
theorem dX0_renewTop_17 : decode cX0_renewTop 17 = .ok (.aload_n 0, 1) := by decide +kernel
theorem dX0_renewTop_18 : decode cX0_renewTop 18 = .ok (.getfield 16, 3) := by decide +kernel
theorem dX0_renewTop_21 : decode cX0_renewTop 21 = .ok (.iload_n 1, 1) := by decide +kernel
theorem dX0_renewTop_22 : decode cX0_renewTop 22 = .ok (.iaload, 1) := by decide +kernel
theorem dX0_renewTop_23 : decode cX0_renewTop 23 = .ok (.invokestatic 76, 3) := by decide +kernel
theorem dX0_renewTop_26 : decode cX0_renewTop 26 = .ok (.iastore, 1) := by decide +kernel
theorem dX0_renewTop_27 : decode cX0_renewTop 27 = .ok (.return_, 1) := by decide +kernel
theorem dX0_sightOf_0 : decode cX0_sightOf 0 = .ok (.iconst 1, 1) := by decide +kernel
theorem dX0_sightOf_1 : decode cX0_sightOf 1 = .ok (.aload_n 0, 1) := by decide +kernel
theorem dX0_sightOf_2 : decode cX0_sightOf 2 = .ok (.getfield 22, 3) := by decide +kernel
theorem dX0_sightOf_5 : decode cX0_sightOf 5 = .ok (.iload_n 1, 1) := by decide +kernel
theorem dX0_sightOf_6 : decode cX0_sightOf 6 = .ok (.iaload, 1) := by decide +kernel
theorem dX0_sightOf_7 : decode cX0_sightOf 7 = .ok (.ishl, 1) := by decide +kernel
theorem dX0_sightOf_8 : decode cX0_sightOf 8 = .ok (.istore_n 2, 1) := by decide +kernel
theorem dX0_sightOf_9 : decode cX0_sightOf 9 = .ok (.aload_n 0, 1) := by decide +kernel
theorem dX0_sightOf_10 : decode cX0_sightOf 10 = .ok (.getfield 28, 3) := by decide +kernel
theorem dX0_sightOf_13 : decode cX0_sightOf 13 = .ok (.iload_n 1, 1) := by decide +kernel
theorem dX0_sightOf_14 : decode cX0_sightOf 14 = .ok (.iaload, 1) := by decide +kernel
theorem dX0_sightOf_15 : decode cX0_sightOf 15 = .ok (.iconst 1, 1) := by decide +kernel
theorem dX0_sightOf_16 : decode cX0_sightOf 16 = .ok (.iand, 1) := by decide +kernel
theorem dX0_sightOf_17 : decode cX0_sightOf 17 = .ok (.ifCond .eq 12, 3) := by decide +kernel
theorem dX0_sightOf_20 : decode cX0_sightOf 20 = .ok (.iload_n 2, 1) := by decide +kernel
theorem dX0_sightOf_21 : decode cX0_sightOf 21 = .ok (.aload_n 0, 1) := by decide +kernel
theorem dX0_sightOf_22 : decode cX0_sightOf 22 = .ok (.iload_n 1, 1) := by decide +kernel
theorem dX0_sightOf_23 : decode cX0_sightOf 23 = .ok (.iconst (-1), 1) := by decide +kernel
theorem dX0_sightOf_24 : decode cX0_sightOf 24 = .ok (.invokevirtual 86, 3) := by decide +kernel
theorem dX0_sightOf_27 : decode cX0_sightOf 27 = .ok (.ior, 1) := by decide +kernel
theorem dX0_sightOf_28 : decode cX0_sightOf 28 = .ok (.istore_n 2, 1) := by decide +kernel
theorem dX0_sightOf_29 : decode cX0_sightOf 29 = .ok (.aload_n 0, 1) := by decide +kernel
theorem dX0_sightOf_30 : decode cX0_sightOf 30 = .ok (.getfield 28, 3) := by decide +kernel
theorem dX0_sightOf_33 : decode cX0_sightOf 33 = .ok (.iload_n 1, 1) := by decide +kernel
theorem dX0_sightOf_34 : decode cX0_sightOf 34 = .ok (.iaload, 1) := by decide +kernel
theorem dX0_sightOf_35 : decode cX0_sightOf 35 = .ok (.iconst 2, 1) := by decide +kernel
theorem dX0_sightOf_36 : decode cX0_sightOf 36 = .ok (.iand, 1) := by decide +kernel
theorem dX0_sightOf_37 : decode cX0_sightOf 37 = .ok (.ifCond .eq 12, 3) := by decide +kernel
theorem dX0_sightOf_40 : decode cX0_sightOf 40 = .ok (.iload_n 2, 1) := by decide +kernel
theorem dX0_sightOf_41 : decode cX0_sightOf 41 = .ok (.aload_n 0, 1) := by decide +kernel
theorem dX0_sightOf_42 : decode cX0_sightOf 42 = .ok (.iload_n 1, 1) := by decide +kernel
theorem dX0_sightOf_43 : decode cX0_sightOf 43 = .ok (.iconst 1, 1) := by decide +kernel
theorem dX0_sightOf_44 : decode cX0_sightOf 44 = .ok (.invokevirtual 86, 3) := by decide +kernel
theorem dX0_sightOf_47 : decode cX0_sightOf 47 = .ok (.ior, 1) := by decide +kernel
theorem dX0_sightOf_48 : decode cX0_sightOf 48 = .ok (.istore_n 2, 1) := by decide +kernel
theorem dX0_sightOf_49 : decode cX0_sightOf 49 = .ok (.iload_n 2, 1) := by decide +kernel
theorem dX0_sightOf_50 : decode cX0_sightOf 50 = .ok (.ireturn, 1) := by decide +kernel
theorem dX0_spotsInUse_0 : decode cX0_spotsInUse 0 = .ok (.iconst 0, 1) := by decide +kernel
theorem dX0_spotsInUse_1 : decode cX0_spotsInUse 1 = .ok (.istore_n 1, 1) := by decide +kernel
theorem dX0_spotsInUse_2 : decode cX0_spotsInUse 2 = .ok (.iconst 0, 1) := by decide +kernel
theorem dX0_spotsInUse_3 : decode cX0_spotsInUse 3 = .ok (.istore_n 2, 1) := by decide +kernel
theorem dX0_spotsInUse_4 : decode cX0_spotsInUse 4 = .ok (.iload_n 2, 1) := by decide +kernel
theorem dX0_spotsInUse_5 : decode cX0_spotsInUse 5 = .ok (.bipush 10, 2) := by decide +kernel
theorem dX0_spotsInUse_7 : decode cX0_spotsInUse 7 = .ok (.if_icmp .ge 22, 3) := by decide +kernel
theorem dX0_spotsInUse_10 : decode cX0_spotsInUse 10 = .ok (.aload_n 0, 1) := by decide +kernel
theorem dX0_spotsInUse_11 : decode cX0_spotsInUse 11 = .ok (.getfield 31, 3) := by decide +kernel
theorem dX0_spotsInUse_14 : decode cX0_spotsInUse 14 = .ok (.iload_n 2, 1) := by decide +kernel
theorem dX0_spotsInUse_15 : decode cX0_spotsInUse 15 = .ok (.iaload, 1) := by decide +kernel
theorem dX0_spotsInUse_16 : decode cX0_spotsInUse 16 = .ok (.iconst (-1), 1) := by decide +kernel
theorem dX0_spotsInUse_17 : decode cX0_spotsInUse 17 = .ok (.if_icmp .eq 6, 3) := by decide +kernel
theorem dX0_spotsInUse_20 : decode cX0_spotsInUse 20 = .ok (.iinc 1 1, 3) := by decide +kernel
theorem dX0_spotsInUse_23 : decode cX0_spotsInUse 23 = .ok (.iinc 2 1, 3) := by decide +kernel
theorem dX0_spotsInUse_26 : decode cX0_spotsInUse 26 = .ok (.goto (-22), 3) := by decide +kernel
theorem dX0_spotsInUse_29 : decode cX0_spotsInUse 29 = .ok (.iload_n 1, 1) := by decide +kernel
theorem dX0_spotsInUse_30 : decode cX0_spotsInUse 30 = .ok (.ireturn, 1) := by decide +kernel
theorem dX0_takeAll_0 : decode cX0_takeAll 0 = .ok (.aload_n 1, 1) := by decide +kernel
theorem dX0_takeAll_1 : decode cX0_takeAll 1 = .ok (.getfield 9, 3) := by decide +kernel
theorem dX0_takeAll_4 : decode cX0_takeAll 4 = .ok (.iconst 0, 1) := by decide +kernel
theorem dX0_takeAll_5 : decode cX0_takeAll 5 = .ok (.aload_n 0, 1) := by decide +kernel
theorem dX0_takeAll_6 : decode cX0_takeAll 6 = .ok (.getfield 9, 3) := by decide +kernel
theorem dX0_takeAll_9 : decode cX0_takeAll 9 = .ok (.iconst 0, 1) := by decide +kernel
theorem dX0_takeAll_10 : decode cX0_takeAll 10 = .ok (.bipush 24, 2) := by decide +kernel
theorem dX0_takeAll_12 : decode cX0_takeAll 12 = .ok (.invokestatic 50, 3) := by decide +kernel
theorem dX0_takeAll_15 : decode cX0_takeAll 15 = .ok (.aload_n 1, 1) := by decide +kernel
theorem dX0_takeAll_16 : decode cX0_takeAll 16 = .ok (.getfield 13, 3) := by decide +kernel
theorem dX0_takeAll_19 : decode cX0_takeAll 19 = .ok (.iconst 0, 1) := by decide +kernel
theorem dX0_takeAll_20 : decode cX0_takeAll 20 = .ok (.aload_n 0, 1) := by decide +kernel
theorem dX0_takeAll_21 : decode cX0_takeAll 21 = .ok (.getfield 13, 3) := by decide +kernel
theorem dX0_takeAll_24 : decode cX0_takeAll 24 = .ok (.iconst 0, 1) := by decide +kernel
theorem dX0_takeAll_25 : decode cX0_takeAll 25 = .ok (.bipush 24, 2) := by decide +kernel
theorem dX0_takeAll_27 : decode cX0_takeAll 27 = .ok (.invokestatic 50, 3) := by decide +kernel
theorem dX0_takeAll_30 : decode cX0_takeAll 30 = .ok (.aload_n 1, 1) := by decide +kernel
theorem dX0_takeAll_31 : decode cX0_takeAll 31 = .ok (.getfield 16, 3) := by decide +kernel
theorem dX0_takeAll_34 : decode cX0_takeAll 34 = .ok (.iconst 0, 1) := by decide +kernel
theorem dX0_takeAll_35 : decode cX0_takeAll 35 = .ok (.aload_n 0, 1) := by decide +kernel
theorem dX0_takeAll_36 : decode cX0_takeAll 36 = .ok (.getfield 16, 3) := by decide +kernel
theorem dX0_takeAll_39 : decode cX0_takeAll 39 = .ok (.iconst 0, 1) := by decide +kernel
theorem dX0_takeAll_40 : decode cX0_takeAll 40 = .ok (.bipush 24, 2) := by decide +kernel
theorem dX0_takeAll_42 : decode cX0_takeAll 42 = .ok (.invokestatic 50, 3) := by decide +kernel
theorem dX0_takeAll_45 : decode cX0_takeAll 45 = .ok (.aload_n 1, 1) := by decide +kernel
theorem dX0_takeAll_46 : decode cX0_takeAll 46 = .ok (.getfield 19, 3) := by decide +kernel
theorem dX0_takeAll_49 : decode cX0_takeAll 49 = .ok (.iconst 0, 1) := by decide +kernel
theorem dX0_takeAll_50 : decode cX0_takeAll 50 = .ok (.aload_n 0, 1) := by decide +kernel
theorem dX0_takeAll_51 : decode cX0_takeAll 51 = .ok (.getfield 19, 3) := by decide +kernel
theorem dX0_takeAll_54 : decode cX0_takeAll 54 = .ok (.iconst 0, 1) := by decide +kernel
theorem dX0_takeAll_55 : decode cX0_takeAll 55 = .ok (.bipush 24, 2) := by decide +kernel
theorem dX0_takeAll_57 : decode cX0_takeAll 57 = .ok (.invokestatic 50, 3) := by decide +kernel
theorem dX0_takeAll_60 : decode cX0_takeAll 60 = .ok (.aload_n 1, 1) := by decide +kernel
theorem dX0_takeAll_61 : decode cX0_takeAll 61 = .ok (.getfield 22, 3) := by decide +kernel
theorem dX0_takeAll_64 : decode cX0_takeAll 64 = .ok (.iconst 0, 1) := by decide +kernel
theorem dX0_takeAll_65 : decode cX0_takeAll 65 = .ok (.aload_n 0, 1) := by decide +kernel
theorem dX0_takeAll_66 : decode cX0_takeAll 66 = .ok (.getfield 22, 3) := by decide +kernel
theorem dX0_takeAll_69 : decode cX0_takeAll 69 = .ok (.iconst 0, 1) := by decide +kernel
theorem dX0_takeAll_70 : decode cX0_takeAll 70 = .ok (.bipush 8, 2) := by decide +kernel
theorem dX0_takeAll_72 : decode cX0_takeAll 72 = .ok (.invokestatic 50, 3) := by decide +kernel
theorem dX0_takeAll_75 : decode cX0_takeAll 75 = .ok (.aload_n 1, 1) := by decide +kernel
theorem dX0_takeAll_76 : decode cX0_takeAll 76 = .ok (.getfield 25, 3) := by decide +kernel
theorem dX0_takeAll_79 : decode cX0_takeAll 79 = .ok (.iconst 0, 1) := by decide +kernel
theorem dX0_takeAll_80 : decode cX0_takeAll 80 = .ok (.aload_n 0, 1) := by decide +kernel
theorem dX0_takeAll_81 : decode cX0_takeAll 81 = .ok (.getfield 25, 3) := by decide +kernel
theorem dX0_takeAll_84 : decode cX0_takeAll 84 = .ok (.iconst 0, 1) := by decide +kernel
theorem dX0_takeAll_85 : decode cX0_takeAll 85 = .ok (.bipush 8, 2) := by decide +kernel
theorem dX0_takeAll_87 : decode cX0_takeAll 87 = .ok (.invokestatic 50, 3) := by decide +kernel
theorem dX0_takeAll_90 : decode cX0_takeAll 90 = .ok (.aload_n 1, 1) := by decide +kernel
theorem dX0_takeAll_91 : decode cX0_takeAll 91 = .ok (.getfield 28, 3) := by decide +kernel
theorem dX0_takeAll_94 : decode cX0_takeAll 94 = .ok (.iconst 0, 1) := by decide +kernel
theorem dX0_takeAll_95 : decode cX0_takeAll 95 = .ok (.aload_n 0, 1) := by decide +kernel
theorem dX0_takeAll_96 : decode cX0_takeAll 96 = .ok (.getfield 28, 3) := by decide +kernel
theorem dX0_takeAll_99 : decode cX0_takeAll 99 = .ok (.iconst 0, 1) := by decide +kernel
theorem dX0_takeAll_100 : decode cX0_takeAll 100 = .ok (.bipush 8, 2) := by decide +kernel
theorem dX0_takeAll_102 : decode cX0_takeAll 102 = .ok (.invokestatic 50, 3) := by decide +kernel
theorem dX0_takeAll_105 : decode cX0_takeAll 105 = .ok (.aload_n 1, 1) := by decide +kernel
theorem dX0_takeAll_106 : decode cX0_takeAll 106 = .ok (.getfield 31, 3) := by decide +kernel
theorem dX0_takeAll_109 : decode cX0_takeAll 109 = .ok (.iconst 0, 1) := by decide +kernel
theorem dX0_takeAll_110 : decode cX0_takeAll 110 = .ok (.aload_n 0, 1) := by decide +kernel
theorem dX0_takeAll_111 : decode cX0_takeAll 111 = .ok (.getfield 31, 3) := by decide +kernel
theorem dX0_takeAll_114 : decode cX0_takeAll 114 = .ok (.iconst 0, 1) := by decide +kernel
theorem dX0_takeAll_115 : decode cX0_takeAll 115 = .ok (.bipush 10, 2) := by decide +kernel
theorem dX0_takeAll_117 : decode cX0_takeAll 117 = .ok (.invokestatic 50, 3) := by decide +kernel
theorem dX0_takeAll_120 : decode cX0_takeAll 120 = .ok (.aload_n 0, 1) := by decide +kernel
theorem dX0_takeAll_121 : decode cX0_takeAll 121 = .ok (.aload_n 1, 1) := by decide +kernel
theorem dX0_takeAll_122 : decode cX0_takeAll 122 = .ok (.getfield 34, 3) := by decide +kernel
theorem dX0_takeAll_125 : decode cX0_takeAll 125 = .ok (.putfield 34, 3) := by decide +kernel
theorem dX0_takeAll_128 : decode cX0_takeAll 128 = .ok (.aload_n 0, 1) := by decide +kernel
theorem dX0_takeAll_129 : decode cX0_takeAll 129 = .ok (.aload_n 1, 1) := by decide +kernel
theorem dX0_takeAll_130 : decode cX0_takeAll 130 = .ok (.getfield 38, 3) := by decide +kernel
theorem dX0_takeAll_133 : decode cX0_takeAll 133 = .ok (.putfield 38, 3) := by decide +kernel
theorem dX0_takeAll_136 : decode cX0_takeAll 136 = .ok (.aload_n 0, 1) := by decide +kernel
theorem dX0_takeAll_137 : decode cX0_takeAll 137 = .ok (.aload_n 1, 1) := by decide +kernel
theorem dX0_takeAll_138 : decode cX0_takeAll 138 = .ok (.getfield 41, 3) := by decide +kernel
theorem dX0_takeAll_141 : decode cX0_takeAll 141 = .ok (.putfield 41, 3) := by decide +kernel
theorem dX0_takeAll_144 : decode cX0_takeAll 144 = .ok (.aload_n 0, 1) := by decide +kernel
theorem dX0_takeAll_145 : decode cX0_takeAll 145 = .ok (.aload_n 1, 1) := by decide +kernel
theorem dX0_takeAll_146 : decode cX0_takeAll 146 = .ok (.getfield 44, 3) := by decide +kernel
theorem dX0_takeAll_149 : decode cX0_takeAll 149 = .ok (.putfield 44, 3) := by decide +kernel
theorem dX0_takeAll_152 : decode cX0_takeAll 152 = .ok (.aload_n 0, 1) := by decide +kernel
theorem dX0_takeAll_153 : decode cX0_takeAll 153 = .ok (.aload_n 1, 1) := by decide +kernel
theorem dX0_takeAll_154 : decode cX0_takeAll 154 = .ok (.getfield 47, 3) := by decide +kernel
theorem dX0_takeAll_157 : decode cX0_takeAll 157 = .ok (.putfield 47, 3) := by decide +kernel
theorem dX0_takeAll_160 : decode cX0_takeAll 160 = .ok (.return_, 1) := by decide +kernel
theorem dX0_takeCell_0 : decode cX0_takeCell 0 = .ok (.aload_n 0, 1) := by decide +kernel
theorem dX0_takeCell_1 : decode cX0_takeCell 1 = .ok (.getfield 9, 3) := by decide +kernel
theorem dX0_takeCell_4 : decode cX0_takeCell 4 = .ok (.iload_n 2, 1) := by decide +kernel
theorem dX0_takeCell_5 : decode cX0_takeCell 5 = .ok (.aload_n 1, 1) := by decide +kernel
theorem dX0_takeCell_6 : decode cX0_takeCell 6 = .ok (.getfield 9, 3) := by decide +kernel
theorem dX0_takeCell_9 : decode cX0_takeCell 9 = .ok (.iload_n 2, 1) := by decide +kernel
theorem dX0_takeCell_10 : decode cX0_takeCell 10 = .ok (.iaload, 1) := by decide +kernel
theorem dX0_takeCell_11 : decode cX0_takeCell 11 = .ok (.iastore, 1) := by decide +kernel
theorem dX0_takeCell_12 : decode cX0_takeCell 12 = .ok (.aload_n 0, 1) := by decide +kernel
theorem dX0_takeCell_13 : decode cX0_takeCell 13 = .ok (.getfield 13, 3) := by decide +kernel
theorem dX0_takeCell_16 : decode cX0_takeCell 16 = .ok (.iload_n 2, 1) := by decide +kernel
theorem dX0_takeCell_17 : decode cX0_takeCell 17 = .ok (.aload_n 1, 1) := by decide +kernel
theorem dX0_takeCell_18 : decode cX0_takeCell 18 = .ok (.getfield 13, 3) := by decide +kernel
theorem dX0_takeCell_21 : decode cX0_takeCell 21 = .ok (.iload_n 2, 1) := by decide +kernel
theorem dX0_takeCell_22 : decode cX0_takeCell 22 = .ok (.iaload, 1) := by decide +kernel
theorem dX0_takeCell_23 : decode cX0_takeCell 23 = .ok (.iastore, 1) := by decide +kernel
theorem dX0_takeCell_24 : decode cX0_takeCell 24 = .ok (.aload_n 0, 1) := by decide +kernel
theorem dX0_takeCell_25 : decode cX0_takeCell 25 = .ok (.getfield 16, 3) := by decide +kernel
theorem dX0_takeCell_28 : decode cX0_takeCell 28 = .ok (.iload_n 2, 1) := by decide +kernel
theorem dX0_takeCell_29 : decode cX0_takeCell 29 = .ok (.aload_n 1, 1) := by decide +kernel
theorem dX0_takeCell_30 : decode cX0_takeCell 30 = .ok (.getfield 16, 3) := by decide +kernel
theorem dX0_takeCell_33 : decode cX0_takeCell 33 = .ok (.iload_n 2, 1) := by decide +kernel
theorem dX0_takeCell_34 : decode cX0_takeCell 34 = .ok (.iaload, 1) := by decide +kernel
theorem dX0_takeCell_35 : decode cX0_takeCell 35 = .ok (.iastore, 1) := by decide +kernel
theorem dX0_takeCell_36 : decode cX0_takeCell 36 = .ok (.aload_n 0, 1) := by decide +kernel
theorem dX0_takeCell_37 : decode cX0_takeCell 37 = .ok (.getfield 19, 3) := by decide +kernel
theorem dX0_takeCell_40 : decode cX0_takeCell 40 = .ok (.iload_n 2, 1) := by decide +kernel
theorem dX0_takeCell_41 : decode cX0_takeCell 41 = .ok (.aload_n 1, 1) := by decide +kernel
theorem dX0_takeCell_42 : decode cX0_takeCell 42 = .ok (.getfield 19, 3) := by decide +kernel
theorem dX0_takeCell_45 : decode cX0_takeCell 45 = .ok (.iload_n 2, 1) := by decide +kernel
theorem dX0_takeCell_46 : decode cX0_takeCell 46 = .ok (.iaload, 1) := by decide +kernel
theorem dX0_takeCell_47 : decode cX0_takeCell 47 = .ok (.iastore, 1) := by decide +kernel
theorem dX0_takeCell_48 : decode cX0_takeCell 48 = .ok (.return_, 1) := by decide +kernel
theorem dX0_taxFor_0 : decode cX0_taxFor 0 = .ok (.iload_n 0, 1) := by decide +kernel
theorem dX0_taxFor_1 : decode cX0_taxFor 1 = .ok (.iload_n 1, 1) := by decide +kernel
theorem dX0_taxFor_2 : decode cX0_taxFor 2 = .ok (.imul, 1) := by decide +kernel
theorem dX0_taxFor_3 : decode cX0_taxFor 3 = .ok (.bipush 10, 2) := by decide +kernel
theorem dX0_taxFor_5 : decode cX0_taxFor 5 = .ok (.idiv, 1) := by decide +kernel
theorem dX0_taxFor_6 : decode cX0_taxFor 6 = .ok (.ireturn, 1) := by decide +kernel
theorem dX0_taxOf_0 : decode cX0_taxOf 0 = .ok (.aload_n 0, 1) := by decide +kernel
theorem dX0_taxOf_1 : decode cX0_taxOf 1 = .ok (.iload_n 1, 1) := by decide +kernel
theorem dX0_taxOf_2 : decode cX0_taxOf 2 = .ok (.invokevirtual 106, 3) := by decide +kernel
theorem dX0_taxOf_5 : decode cX0_taxOf 5 = .ok (.aload_n 0, 1) := by decide +kernel
theorem dX0_taxOf_6 : decode cX0_taxOf 6 = .ok (.getfield 41, 3) := by decide +kernel
theorem dX0_taxOf_9 : decode cX0_taxOf 9 = .ok (.invokestatic 109, 3) := by decide +kernel
theorem dX0_taxOf_12 : decode cX0_taxOf 12 = .ok (.ireturn, 1) := by decide +kernel
theorem dX0_topFor_0 : decode cX0_topFor 0 = .ok (.iload_n 0, 1) := by decide +kernel
theorem dX0_topFor_1 : decode cX0_topFor 1 = .ok (.tableswitch 59 3 6 #[31, 33, 37, 46], 31) := by decide +kernel
theorem dX0_topFor_32 : decode cX0_topFor 32 = .ok (.iconst 0, 1) := by decide +kernel
theorem dX0_topFor_33 : decode cX0_topFor 33 = .ok (.ireturn, 1) := by decide +kernel
theorem dX0_topFor_34 : decode cX0_topFor 34 = .ok (.iload_n 1, 1) := by decide +kernel
theorem dX0_topFor_35 : decode cX0_topFor 35 = .ok (.iconst 5, 1) := by decide +kernel
theorem dX0_topFor_36 : decode cX0_topFor 36 = .ok (.iadd, 1) := by decide +kernel
theorem dX0_topFor_37 : decode cX0_topFor 37 = .ok (.ireturn, 1) := by decide +kernel
theorem dX0_topFor_38 : decode cX0_topFor 38 = .ok (.iload_n 1, 1) := by decide +kernel
theorem dX0_topFor_39 : decode cX0_topFor 39 = .ok (.iload_n 2, 1) := by decide +kernel
theorem dX0_topFor_40 : decode cX0_topFor 40 = .ok (.bipush 30, 2) := by decide +kernel
theorem dX0_topFor_42 : decode cX0_topFor 42 = .ok (.invokestatic 70, 3) := by decide +kernel
theorem dX0_topFor_45 : decode cX0_topFor 45 = .ok (.iadd, 1) := by decide +kernel
theorem dX0_topFor_46 : decode cX0_topFor 46 = .ok (.ireturn, 1) := by decide +kernel
theorem dX0_topFor_47 : decode cX0_topFor 47 = .ok (.iload_n 1, 1) := by decide +kernel
theorem dX0_topFor_48 : decode cX0_topFor 48 = .ok (.iload_n 2, 1) := by decide +kernel
theorem dX0_topFor_49 : decode cX0_topFor 49 = .ok (.bipush 30, 2) := by decide +kernel
theorem dX0_topFor_51 : decode cX0_topFor 51 = .ok (.invokestatic 70, 3) := by decide +kernel
theorem dX0_topFor_54 : decode cX0_topFor 54 = .ok (.iadd, 1) := by decide +kernel
theorem dX0_topFor_55 : decode cX0_topFor 55 = .ok (.iload_n 2, 1) := by decide +kernel
theorem dX0_topFor_56 : decode cX0_topFor 56 = .ok (.iconst 2, 1) := by decide +kernel
theorem dX0_topFor_57 : decode cX0_topFor 57 = .ok (.idiv, 1) := by decide +kernel
theorem dX0_topFor_58 : decode cX0_topFor 58 = .ok (.iadd, 1) := by decide +kernel
theorem dX0_topFor_59 : decode cX0_topFor 59 = .ok (.ireturn, 1) := by decide +kernel
theorem dX0_topFor_60 : decode cX0_topFor 60 = .ok (.iload_n 1, 1) := by decide +kernel
theorem dX0_topFor_61 : decode cX0_topFor 61 = .ok (.ireturn, 1) := by decide +kernel
theorem dX0_turnInto_0 : decode cX0_turnInto 0 = .ok (.aload_n 0, 1) := by decide +kernel
theorem dX0_turnInto_1 : decode cX0_turnInto 1 = .ok (.getfield 9, 3) := by decide +kernel
theorem dX0_turnInto_4 : decode cX0_turnInto 4 = .ok (.iload_n 1, 1) := by decide +kernel
theorem dX0_turnInto_5 : decode cX0_turnInto 5 = .ok (.iload_n 2, 1) := by decide +kernel
theorem dX0_turnInto_6 : decode cX0_turnInto 6 = .ok (.iastore, 1) := by decide +kernel
theorem dX0_turnInto_7 : decode cX0_turnInto 7 = .ok (.aload_n 0, 1) := by decide +kernel
theorem dX0_turnInto_8 : decode cX0_turnInto 8 = .ok (.iload_n 1, 1) := by decide +kernel
theorem dX0_turnInto_9 : decode cX0_turnInto 9 = .ok (.invokevirtual 56, 3) := by decide +kernel
theorem dX0_turnInto_12 : decode cX0_turnInto 12 = .ok (.return_, 1) := by decide +kernel
theorem dX0_worthOf_0 : decode cX0_worthOf 0 = .ok (.getstatic 80, 3) := by decide +kernel
theorem dX0_worthOf_3 : decode cX0_worthOf 3 = .ok (.aload_n 0, 1) := by decide +kernel
theorem dX0_worthOf_4 : decode cX0_worthOf 4 = .ok (.getfield 9, 3) := by decide +kernel
theorem dX0_worthOf_7 : decode cX0_worthOf 7 = .ok (.iload_n 1, 1) := by decide +kernel
theorem dX0_worthOf_8 : decode cX0_worthOf 8 = .ok (.iaload, 1) := by decide +kernel
theorem dX0_worthOf_9 : decode cX0_worthOf 9 = .ok (.iaload, 1) := by decide +kernel
theorem dX0_worthOf_10 : decode cX0_worthOf 10 = .ok (.ireturn, 1) := by decide +kernel
theorem dX0_worthSeenBy_0 : decode cX0_worthSeenBy 0 = .ok (.aload_n 0, 1) := by decide +kernel
theorem dX0_worthSeenBy_1 : decode cX0_worthSeenBy 1 = .ok (.iload_n 1, 1) := by decide +kernel
theorem dX0_worthSeenBy_2 : decode cX0_worthSeenBy 2 = .ok (.invokevirtual 93, 3) := by decide +kernel
theorem dX0_worthSeenBy_5 : decode cX0_worthSeenBy 5 = .ok (.iconst 1, 1) := by decide +kernel
theorem dX0_worthSeenBy_6 : decode cX0_worthSeenBy 6 = .ok (.aload_n 0, 1) := by decide +kernel
theorem dX0_worthSeenBy_7 : decode cX0_worthSeenBy 7 = .ok (.getfield 22, 3) := by decide +kernel
theorem dX0_worthSeenBy_10 : decode cX0_worthSeenBy 10 = .ok (.iload_n 1, 1) := by decide +kernel
theorem dX0_worthSeenBy_11 : decode cX0_worthSeenBy 11 = .ok (.iaload, 1) := by decide +kernel
theorem dX0_worthSeenBy_12 : decode cX0_worthSeenBy 12 = .ok (.ishl, 1) := by decide +kernel
theorem dX0_worthSeenBy_13 : decode cX0_worthSeenBy 13 = .ok (.iconst (-1), 1) := by decide +kernel
theorem dX0_worthSeenBy_14 : decode cX0_worthSeenBy 14 = .ok (.ixor, 1) := by decide +kernel
theorem dX0_worthSeenBy_15 : decode cX0_worthSeenBy 15 = .ok (.iand, 1) := by decide +kernel
theorem dX0_worthSeenBy_16 : decode cX0_worthSeenBy 16 = .ok (.istore_n 2, 1) := by decide +kernel
theorem dX0_worthSeenBy_17 : decode cX0_worthSeenBy 17 = .ok (.iconst 0, 1) := by decide +kernel
theorem dX0_worthSeenBy_18 : decode cX0_worthSeenBy 18 = .ok (.istore_n 3, 1) := by decide +kernel
theorem dX0_worthSeenBy_19 : decode cX0_worthSeenBy 19 = .ok (.iconst 0, 1) := by decide +kernel
theorem dX0_worthSeenBy_20 : decode cX0_worthSeenBy 20 = .ok (.istore 4, 2) := by decide +kernel
theorem dX0_worthSeenBy_22 : decode cX0_worthSeenBy 22 = .ok (.iload 4, 2) := by decide +kernel
theorem dX0_worthSeenBy_24 : decode cX0_worthSeenBy 24 = .ok (.bipush 24, 2) := by decide +kernel
theorem dX0_worthSeenBy_26 : decode cX0_worthSeenBy 26 = .ok (.if_icmp .ge 27, 3) := by decide +kernel
theorem dX0_worthSeenBy_29 : decode cX0_worthSeenBy 29 = .ok (.iload 4, 2) := by decide +kernel
theorem dX0_worthSeenBy_31 : decode cX0_worthSeenBy 31 = .ok (.iload_n 2, 1) := by decide +kernel
theorem dX0_worthSeenBy_32 : decode cX0_worthSeenBy 32 = .ok (.invokestatic 96, 3) := by decide +kernel
theorem dX0_worthSeenBy_35 : decode cX0_worthSeenBy 35 = .ok (.ifCond .eq 12, 3) := by decide +kernel
theorem dX0_worthSeenBy_38 : decode cX0_worthSeenBy 38 = .ok (.iload_n 3, 1) := by decide +kernel
theorem dX0_worthSeenBy_39 : decode cX0_worthSeenBy 39 = .ok (.aload_n 0, 1) := by decide +kernel
theorem dX0_worthSeenBy_40 : decode cX0_worthSeenBy 40 = .ok (.iload 4, 2) := by decide +kernel
theorem dX0_worthSeenBy_42 : decode cX0_worthSeenBy 42 = .ok (.invokevirtual 103, 3) := by decide +kernel
theorem dX0_worthSeenBy_45 : decode cX0_worthSeenBy 45 = .ok (.iadd, 1) := by decide +kernel
theorem dX0_worthSeenBy_46 : decode cX0_worthSeenBy 46 = .ok (.istore_n 3, 1) := by decide +kernel
theorem dX0_worthSeenBy_47 : decode cX0_worthSeenBy 47 = .ok (.iinc 4 1, 3) := by decide +kernel
theorem dX0_worthSeenBy_50 : decode cX0_worthSeenBy 50 = .ok (.goto (-28), 3) := by decide +kernel
theorem dX0_worthSeenBy_53 : decode cX0_worthSeenBy 53 = .ok (.iload_n 3, 1) := by decide +kernel
theorem dX0_worthSeenBy_54 : decode cX0_worthSeenBy 54 = .ok (.ireturn, 1) := by decide +kernel
theorem dX1_cutTo_0 : decode cX1_cutTo 0 = .ok (.iload_n 0, 1) := by decide +kernel
theorem dX1_cutTo_1 : decode cX1_cutTo 1 = .ok (.bipush 8, 2) := by decide +kernel
theorem dX1_cutTo_3 : decode cX1_cutTo 3 = .ok (.if_icmp .ne 6, 3) := by decide +kernel
theorem dX1_cutTo_6 : decode cX1_cutTo 6 = .ok (.iload_n 1, 1) := by decide +kernel
theorem dX1_cutTo_7 : decode cX1_cutTo 7 = .ok (.i2b, 1) := by decide +kernel
theorem dX1_cutTo_8 : decode cX1_cutTo 8 = .ok (.ireturn, 1) := by decide +kernel
theorem dX1_cutTo_9 : decode cX1_cutTo 9 = .ok (.iload_n 0, 1) := by decide +kernel
theorem dX1_cutTo_10 : decode cX1_cutTo 10 = .ok (.bipush 16, 2) := by decide +kernel
theorem dX1_cutTo_12 : decode cX1_cutTo 12 = .ok (.if_icmp .ne 8, 3) := by decide +kernel
theorem dX1_cutTo_15 : decode cX1_cutTo 15 = .ok (.iload_n 1, 1) := by decide +kernel
theorem dX1_cutTo_16 : decode cX1_cutTo 16 = .ok (.i2s, 1) := by decide +kernel
theorem dX1_cutTo_17 : decode cX1_cutTo 17 = .ok (.goto 4, 3) := by decide +kernel
theorem dX1_cutTo_20 : decode cX1_cutTo 20 = .ok (.iload_n 1, 1) := by decide +kernel
theorem dX1_cutTo_21 : decode cX1_cutTo 21 = .ok (.ireturn, 1) := by decide +kernel
theorem dX1_hasRun_0 : decode cX1_hasRun 0 = .ok (.iload_n 2, 1) := by decide +kernel
theorem dX1_hasRun_1 : decode cX1_hasRun 1 = .ok (.ifCond .lt 33, 3) := by decide +kernel
theorem dX1_hasRun_4 : decode cX1_hasRun 4 = .ok (.iload_n 3, 1) := by decide +kernel
theorem dX1_hasRun_5 : decode cX1_hasRun 5 = .ok (.ifCond .lt 29, 3) := by decide +kernel
theorem dX1_hasRun_8 : decode cX1_hasRun 8 = .ok (.iload_n 3, 1) := by decide +kernel
theorem dX1_hasRun_9 : decode cX1_hasRun 9 = .ok (.aload_n 0, 1) := by decide +kernel
theorem dX1_hasRun_10 : decode cX1_hasRun 10 = .ok (.getfield 13, 3) := by decide +kernel
theorem dX1_hasRun_13 : decode cX1_hasRun 13 = .ok (.iload_n 1, 1) := by decide +kernel
theorem dX1_hasRun_14 : decode cX1_hasRun 14 = .ok (.iaload, 1) := by decide +kernel
theorem dX1_hasRun_15 : decode cX1_hasRun 15 = .ok (.if_icmp .gt 19, 3) := by decide +kernel
theorem dX1_hasRun_18 : decode cX1_hasRun 18 = .ok (.iload_n 2, 1) := by decide +kernel
theorem dX1_hasRun_19 : decode cX1_hasRun 19 = .ok (.aload_n 0, 1) := by decide +kernel
theorem dX1_hasRun_20 : decode cX1_hasRun 20 = .ok (.getfield 13, 3) := by decide +kernel
theorem dX1_hasRun_23 : decode cX1_hasRun 23 = .ok (.iload_n 1, 1) := by decide +kernel
theorem dX1_hasRun_24 : decode cX1_hasRun 24 = .ok (.iaload, 1) := by decide +kernel
theorem dX1_hasRun_25 : decode cX1_hasRun 25 = .ok (.iload_n 3, 1) := by decide +kernel
theorem dX1_hasRun_26 : decode cX1_hasRun 26 = .ok (.isub, 1) := by decide +kernel
theorem dX1_hasRun_27 : decode cX1_hasRun 27 = .ok (.if_icmp .gt 7, 3) := by decide +kernel
theorem dX1_hasRun_30 : decode cX1_hasRun 30 = .ok (.iconst 1, 1) := by decide +kernel
theorem dX1_hasRun_31 : decode cX1_hasRun 31 = .ok (.goto 4, 3) := by decide +kernel
theorem dX1_hasRun_34 : decode cX1_hasRun 34 = .ok (.iconst 0, 1) := by decide +kernel
theorem dX1_hasRun_35 : decode cX1_hasRun 35 = .ok (.ireturn, 1) := by decide +kernel
theorem dX1_isMissing_0 : decode cX1_isMissing 0 = .ok (.aload_n 0, 1) := by decide +kernel
theorem dX1_isMissing_1 : decode cX1_isMissing 1 = .ok (.getfield 9, 3) := by decide +kernel
theorem dX1_isMissing_4 : decode cX1_isMissing 4 = .ok (.iload_n 1, 1) := by decide +kernel
theorem dX1_isMissing_5 : decode cX1_isMissing 5 = .ok (.iaload, 1) := by decide +kernel
theorem dX1_isMissing_6 : decode cX1_isMissing 6 = .ok (.ifCond .ne 7, 3) := by decide +kernel
theorem dX1_isMissing_9 : decode cX1_isMissing 9 = .ok (.iconst 1, 1) := by decide +kernel
theorem dX1_isMissing_10 : decode cX1_isMissing 10 = .ok (.goto 4, 3) := by decide +kernel
theorem dX1_isMissing_13 : decode cX1_isMissing 13 = .ok (.iconst 0, 1) := by decide +kernel
theorem dX1_isMissing_14 : decode cX1_isMissing 14 = .ok (.ireturn, 1) := by decide +kernel
theorem dX1_isSheet_0 : decode cX1_isSheet 0 = .ok (.iload_n 0, 1) := by decide +kernel
theorem dX1_isSheet_1 : decode cX1_isSheet 1 = .ok (.ifCond .lt 12, 3) := by decide +kernel
theorem dX1_isSheet_4 : decode cX1_isSheet 4 = .ok (.iload_n 0, 1) := by decide +kernel
theorem dX1_isSheet_5 : decode cX1_isSheet 5 = .ok (.iconst 4, 1) := by decide +kernel
theorem dX1_isSheet_6 : decode cX1_isSheet 6 = .ok (.if_icmp .ge 7, 3) := by decide +kernel
theorem dX1_isSheet_9 : decode cX1_isSheet 9 = .ok (.iconst 1, 1) := by decide +kernel
theorem dX1_isSheet_10 : decode cX1_isSheet 10 = .ok (.goto 4, 3) := by decide +kernel
theorem dX1_isSheet_13 : decode cX1_isSheet 13 = .ok (.iconst 0, 1) := by decide +kernel
theorem dX1_isSheet_14 : decode cX1_isSheet 14 = .ok (.ireturn, 1) := by decide +kernel
theorem dX1_make_0 : decode cX1_make 0 = .ok (.aload_n 0, 1) := by decide +kernel
theorem dX1_make_1 : decode cX1_make 1 = .ok (.getfield 9, 3) := by decide +kernel
theorem dX1_make_4 : decode cX1_make 4 = .ok (.iload_n 1, 1) := by decide +kernel
theorem dX1_make_5 : decode cX1_make 5 = .ok (.iload_n 2, 1) := by decide +kernel
theorem dX1_make_6 : decode cX1_make 6 = .ok (.iastore, 1) := by decide +kernel
theorem dX1_make_7 : decode cX1_make 7 = .ok (.aload_n 0, 1) := by decide +kernel
theorem dX1_make_8 : decode cX1_make 8 = .ok (.getfield 13, 3) := by decide +kernel
theorem dX1_make_11 : decode cX1_make 11 = .ok (.iload_n 1, 1) := by decide +kernel
theorem dX1_make_12 : decode cX1_make 12 = .ok (.iload_n 3, 1) := by decide +kernel
theorem dX1_make_13 : decode cX1_make 13 = .ok (.iastore, 1) := by decide +kernel
theorem dX1_make_14 : decode cX1_make 14 = .ok (.iconst 0, 1) := by decide +kernel
theorem dX1_make_15 : decode cX1_make 15 = .ok (.istore 4, 2) := by decide +kernel
theorem dX1_make_17 : decode cX1_make 17 = .ok (.iload 4, 2) := by decide +kernel
theorem dX1_make_19 : decode cX1_make 19 = .ok (.iload_n 3, 1) := by decide +kernel
theorem dX1_make_20 : decode cX1_make 20 = .ok (.if_icmp .ge 22, 3) := by decide +kernel
theorem dX1_make_23 : decode cX1_make 23 = .ok (.aload_n 0, 1) := by decide +kernel
theorem dX1_make_24 : decode cX1_make 24 = .ok (.getfield 16, 3) := by decide +kernel
theorem dX1_make_27 : decode cX1_make 27 = .ok (.iload_n 1, 1) := by decide +kernel
theorem dX1_make_28 : decode cX1_make 28 = .ok (.bipush 40, 2) := by decide +kernel
theorem dX1_make_30 : decode cX1_make 30 = .ok (.imul, 1) := by decide +kernel
theorem dX1_make_31 : decode cX1_make 31 = .ok (.iload 4, 2) := by decide +kernel
theorem dX1_make_33 : decode cX1_make 33 = .ok (.iadd, 1) := by decide +kernel
theorem dX1_make_34 : decode cX1_make 34 = .ok (.iconst 0, 1) := by decide +kernel
theorem dX1_make_35 : decode cX1_make 35 = .ok (.iastore, 1) := by decide +kernel
theorem dX1_make_36 : decode cX1_make 36 = .ok (.iinc 4 1, 3) := by decide +kernel
theorem dX1_make_39 : decode cX1_make 39 = .ok (.goto (-22), 3) := by decide +kernel
theorem dX1_make_42 : decode cX1_make 42 = .ok (.return_, 1) := by decide +kernel
theorem dX1_move_0 : decode cX1_move 0 = .ok (.aload_n 0, 1) := by decide +kernel
theorem dX1_move_1 : decode cX1_move 1 = .ok (.getfield 16, 3) := by decide +kernel
theorem dX1_move_4 : decode cX1_move 4 = .ok (.iload_n 1, 1) := by decide +kernel
theorem dX1_move_5 : decode cX1_move 5 = .ok (.bipush 40, 2) := by decide +kernel
theorem dX1_move_7 : decode cX1_move 7 = .ok (.imul, 1) := by decide +kernel
theorem dX1_move_8 : decode cX1_move 8 = .ok (.iload_n 2, 1) := by decide +kernel
theorem dX1_move_9 : decode cX1_move 9 = .ok (.iadd, 1) := by decide +kernel
theorem dX1_move_10 : decode cX1_move 10 = .ok (.aload_n 0, 1) := by decide +kernel
theorem dX1_move_11 : decode cX1_move 11 = .ok (.getfield 16, 3) := by decide +kernel
theorem dX1_move_14 : decode cX1_move 14 = .ok (.iload_n 3, 1) := by decide +kernel
theorem dX1_move_15 : decode cX1_move 15 = .ok (.bipush 40, 2) := by decide +kernel
theorem dX1_move_17 : decode cX1_move 17 = .ok (.imul, 1) := by decide +kernel
theorem dX1_move_18 : decode cX1_move 18 = .ok (.iload 4, 2) := by decide +kernel
theorem dX1_move_20 : decode cX1_move 20 = .ok (.iadd, 1) := by decide +kernel
theorem dX1_move_21 : decode cX1_move 21 = .ok (.iload 5, 2) := by decide +kernel
theorem dX1_move_23 : decode cX1_move 23 = .ok (.invokestatic 23, 3) := by decide +kernel
theorem dX1_move_26 : decode cX1_move 26 = .ok (.return_, 1) := by decide +kernel
theorem dX1_numberAt_0 : decode cX1_numberAt 0 = .ok (.aload_n 0, 1) := by decide +kernel
theorem dX1_numberAt_1 : decode cX1_numberAt 1 = .ok (.getfield 16, 3) := by decide +kernel
theorem dX1_numberAt_4 : decode cX1_numberAt 4 = .ok (.iload_n 1, 1) := by decide +kernel
theorem dX1_numberAt_5 : decode cX1_numberAt 5 = .ok (.bipush 40, 2) := by decide +kernel
theorem dX1_numberAt_7 : decode cX1_numberAt 7 = .ok (.imul, 1) := by decide +kernel
theorem dX1_numberAt_8 : decode cX1_numberAt 8 = .ok (.iload_n 2, 1) := by decide +kernel
theorem dX1_numberAt_9 : decode cX1_numberAt 9 = .ok (.iadd, 1) := by decide +kernel
theorem dX1_numberAt_10 : decode cX1_numberAt 10 = .ok (.iaload, 1) := by decide +kernel
theorem dX1_numberAt_11 : decode cX1_numberAt 11 = .ok (.ireturn, 1) := by decide +kernel
theorem dX1_put_0 : decode cX1_put 0 = .ok (.aload_n 0, 1) := by decide +kernel
theorem dX1_put_1 : decode cX1_put 1 = .ok (.getfield 16, 3) := by decide +kernel
theorem dX1_put_4 : decode cX1_put 4 = .ok (.iload_n 1, 1) := by decide +kernel
theorem dX1_put_5 : decode cX1_put 5 = .ok (.bipush 40, 2) := by decide +kernel
theorem dX1_put_7 : decode cX1_put 7 = .ok (.imul, 1) := by decide +kernel
theorem dX1_put_8 : decode cX1_put 8 = .ok (.iload_n 2, 1) := by decide +kernel
theorem dX1_put_9 : decode cX1_put 9 = .ok (.iadd, 1) := by decide +kernel
theorem dX1_put_10 : decode cX1_put 10 = .ok (.aload_n 0, 1) := by decide +kernel
theorem dX1_put_11 : decode cX1_put 11 = .ok (.getfield 9, 3) := by decide +kernel
theorem dX1_put_14 : decode cX1_put 14 = .ok (.iload_n 1, 1) := by decide +kernel
theorem dX1_put_15 : decode cX1_put 15 = .ok (.iaload, 1) := by decide +kernel
theorem dX1_put_16 : decode cX1_put 16 = .ok (.iload_n 3, 1) := by decide +kernel
theorem dX1_put_17 : decode cX1_put 17 = .ok (.invokestatic 19, 3) := by decide +kernel
theorem dX1_put_20 : decode cX1_put 20 = .ok (.iastore, 1) := by decide +kernel
theorem dX1_put_21 : decode cX1_put 21 = .ok (.return_, 1) := by decide +kernel
theorem dX2_append_0 : decode cX2_append 0 = .ok (.aload_n 0, 1) := by decide +kernel
theorem dX2_append_1 : decode cX2_append 1 = .ok (.getfield 9, 3) := by decide +kernel
theorem dX2_append_4 : decode cX2_append 4 = .ok (.aload_n 0, 1) := by decide +kernel
theorem dX2_append_5 : decode cX2_append 5 = .ok (.getfield 13, 3) := by decide +kernel
theorem dX2_append_8 : decode cX2_append 8 = .ok (.iload_n 1, 1) := by decide +kernel
theorem dX2_append_9 : decode cX2_append 9 = .ok (.sipush 255, 3) := by decide +kernel
theorem dX2_append_12 : decode cX2_append 12 = .ok (.iand, 1) := by decide +kernel
theorem dX2_append_13 : decode cX2_append 13 = .ok (.iastore, 1) := by decide +kernel
theorem dX2_append_14 : decode cX2_append 14 = .ok (.aload_n 0, 1) := by decide +kernel
theorem dX2_append_15 : decode cX2_append 15 = .ok (.dup, 1) := by decide +kernel
theorem dX2_append_16 : decode cX2_append 16 = .ok (.getfield 13, 3) := by decide +kernel
theorem dX2_append_19 : decode cX2_append 19 = .ok (.iconst 1, 1) := by decide +kernel
theorem dX2_append_20 : decode cX2_append 20 = .ok (.iadd, 1) := by decide +kernel
theorem dX2_append_21 : decode cX2_append 21 = .ok (.putfield 13, 3) := by decide +kernel
theorem dX2_append_24 : decode cX2_append 24 = .ok (.return_, 1) := by decide +kernel
theorem dX2_hasRoomFor_0 : decode cX2_hasRoomFor 0 = .ok (.aload_n 0, 1) := by decide +kernel
theorem dX2_hasRoomFor_1 : decode cX2_hasRoomFor 1 = .ok (.getfield 13, 3) := by decide +kernel
theorem dX2_hasRoomFor_4 : decode cX2_hasRoomFor 4 = .ok (.iload_n 1, 1) := by decide +kernel
theorem dX2_hasRoomFor_5 : decode cX2_hasRoomFor 5 = .ok (.iadd, 1) := by decide +kernel
theorem dX2_hasRoomFor_6 : decode cX2_hasRoomFor 6 = .ok (.bipush 120, 2) := by decide +kernel
theorem dX2_hasRoomFor_8 : decode cX2_hasRoomFor 8 = .ok (.if_icmp .gt 7, 3) := by decide +kernel
theorem dX2_hasRoomFor_11 : decode cX2_hasRoomFor 11 = .ok (.iconst 1, 1) := by decide +kernel
theorem dX2_hasRoomFor_12 : decode cX2_hasRoomFor 12 = .ok (.goto 4, 3) := by decide +kernel
theorem dX2_hasRoomFor_15 : decode cX2_hasRoomFor 15 = .ok (.iconst 0, 1) := by decide +kernel
theorem dX2_hasRoomFor_16 : decode cX2_hasRoomFor 16 = .ok (.ireturn, 1) := by decide +kernel
theorem dX2_isWord_0 : decode cX2_isWord 0 = .ok (.aload_n 0, 1) := by decide +kernel
theorem dX2_isWord_1 : decode cX2_isWord 1 = .ok (.getfield 20, 3) := by decide +kernel
theorem dX2_isWord_4 : decode cX2_isWord 4 = .ok (.iconst 1, 1) := by decide +kernel
theorem dX2_isWord_5 : decode cX2_isWord 5 = .ok (.if_icmp .ne 19, 3) := by decide +kernel
theorem dX2_isWord_8 : decode cX2_isWord 8 = .ok (.aload_n 0, 1) := by decide +kernel
theorem dX2_isWord_9 : decode cX2_isWord 9 = .ok (.getfield 17, 3) := by decide +kernel
theorem dX2_isWord_12 : decode cX2_isWord 12 = .ok (.aload_n 0, 1) := by decide +kernel
theorem dX2_isWord_13 : decode cX2_isWord 13 = .ok (.getfield 23, 3) := by decide +kernel
theorem dX2_isWord_16 : decode cX2_isWord 16 = .ok (.isub, 1) := by decide +kernel
theorem dX2_isWord_17 : decode cX2_isWord 17 = .ok (.aload_n 1, 1) := by decide +kernel
theorem dX2_isWord_18 : decode cX2_isWord 18 = .ok (.invokevirtual 40, 3) := by decide +kernel
theorem dX2_isWord_21 : decode cX2_isWord 21 = .ok (.if_icmp .eq 5, 3) := by decide +kernel
theorem dX2_isWord_24 : decode cX2_isWord 24 = .ok (.iconst 0, 1) := by decide +kernel
theorem dX2_isWord_25 : decode cX2_isWord 25 = .ok (.ireturn, 1) := by decide +kernel
theorem dX2_isWord_26 : decode cX2_isWord 26 = .ok (.iconst 0, 1) := by decide +kernel
theorem dX2_isWord_27 : decode cX2_isWord 27 = .ok (.istore_n 2, 1) := by decide +kernel
theorem dX2_isWord_28 : decode cX2_isWord 28 = .ok (.iload_n 2, 1) := by decide +kernel
theorem dX2_isWord_29 : decode cX2_isWord 29 = .ok (.aload_n 1, 1) := by decide +kernel
theorem dX2_isWord_30 : decode cX2_isWord 30 = .ok (.invokevirtual 40, 3) := by decide +kernel
theorem dX2_isWord_33 : decode cX2_isWord 33 = .ok (.if_icmp .ge 30, 3) := by decide +kernel
theorem dX2_isWord_36 : decode cX2_isWord 36 = .ok (.aload_n 0, 1) := by decide +kernel
theorem dX2_isWord_37 : decode cX2_isWord 37 = .ok (.getfield 9, 3) := by decide +kernel
theorem dX2_isWord_40 : decode cX2_isWord 40 = .ok (.aload_n 0, 1) := by decide +kernel
theorem dX2_isWord_41 : decode cX2_isWord 41 = .ok (.getfield 23, 3) := by decide +kernel
theorem dX2_isWord_44 : decode cX2_isWord 44 = .ok (.iload_n 2, 1) := by decide +kernel
theorem dX2_isWord_45 : decode cX2_isWord 45 = .ok (.iadd, 1) := by decide +kernel
theorem dX2_isWord_46 : decode cX2_isWord 46 = .ok (.iaload, 1) := by decide +kernel
theorem dX2_isWord_47 : decode cX2_isWord 47 = .ok (.aload_n 1, 1) := by decide +kernel
theorem dX2_isWord_48 : decode cX2_isWord 48 = .ok (.iload_n 2, 1) := by decide +kernel
theorem dX2_isWord_49 : decode cX2_isWord 49 = .ok (.invokevirtual 46, 3) := by decide +kernel
theorem dX2_isWord_52 : decode cX2_isWord 52 = .ok (.if_icmp .eq 5, 3) := by decide +kernel
theorem dX2_isWord_55 : decode cX2_isWord 55 = .ok (.iconst 0, 1) := by decide +kernel
theorem dX2_isWord_56 : decode cX2_isWord 56 = .ok (.ireturn, 1) := by decide +kernel
theorem dX2_isWord_57 : decode cX2_isWord 57 = .ok (.iinc 2 1, 3) := by decide +kernel
theorem dX2_isWord_60 : decode cX2_isWord 60 = .ok (.goto (-32), 3) := by decide +kernel
theorem dX2_isWord_63 : decode cX2_isWord 63 = .ok (.iconst 1, 1) := by decide +kernel
theorem dX2_isWord_64 : decode cX2_isWord 64 = .ok (.ireturn, 1) := by decide +kernel
theorem dX2_rewind_0 : decode cX2_rewind 0 = .ok (.aload_n 0, 1) := by decide +kernel
theorem dX2_rewind_1 : decode cX2_rewind 1 = .ok (.iconst 0, 1) := by decide +kernel
theorem dX2_rewind_2 : decode cX2_rewind 2 = .ok (.putfield 17, 3) := by decide +kernel
theorem dX2_rewind_5 : decode cX2_rewind 5 = .ok (.aload_n 0, 1) := by decide +kernel
theorem dX2_rewind_6 : decode cX2_rewind 6 = .ok (.invokevirtual 29, 3) := by decide +kernel
theorem dX2_rewind_9 : decode cX2_rewind 9 = .ok (.return_, 1) := by decide +kernel
theorem dX2_sortAt_0 : decode cX2_sortAt 0 = .ok (.iload_n 1, 1) := by decide +kernel
theorem dX2_sortAt_1 : decode cX2_sortAt 1 = .ok (.aload_n 0, 1) := by decide +kernel
theorem dX2_sortAt_2 : decode cX2_sortAt 2 = .ok (.getfield 13, 3) := by decide +kernel
theorem dX2_sortAt_5 : decode cX2_sortAt 5 = .ok (.if_icmp .lt 5, 3) := by decide +kernel
theorem dX2_sortAt_8 : decode cX2_sortAt 8 = .ok (.iconst 0, 1) := by decide +kernel
theorem dX2_sortAt_9 : decode cX2_sortAt 9 = .ok (.ireturn, 1) := by decide +kernel
theorem dX2_sortAt_10 : decode cX2_sortAt 10 = .ok (.aload_n 0, 1) := by decide +kernel
theorem dX2_sortAt_11 : decode cX2_sortAt 11 = .ok (.getfield 9, 3) := by decide +kernel
theorem dX2_sortAt_14 : decode cX2_sortAt 14 = .ok (.iload_n 1, 1) := by decide +kernel
theorem dX2_sortAt_15 : decode cX2_sortAt 15 = .ok (.iaload, 1) := by decide +kernel
theorem dX2_sortAt_16 : decode cX2_sortAt 16 = .ok (.istore_n 2, 1) := by decide +kernel
theorem dX2_sortAt_17 : decode cX2_sortAt 17 = .ok (.iload_n 2, 1) := by decide +kernel
theorem dX2_sortAt_18 : decode cX2_sortAt 18 = .ok (.bipush 97, 2) := by decide +kernel
theorem dX2_sortAt_20 : decode cX2_sortAt 20 = .ok (.if_icmp .lt 11, 3) := by decide +kernel
theorem dX2_sortAt_23 : decode cX2_sortAt 23 = .ok (.iload_n 2, 1) := by decide +kernel
theorem dX2_sortAt_24 : decode cX2_sortAt 24 = .ok (.bipush 122, 2) := by decide +kernel
theorem dX2_sortAt_26 : decode cX2_sortAt 26 = .ok (.if_icmp .gt 5, 3) := by decide +kernel
theorem dX2_sortAt_29 : decode cX2_sortAt 29 = .ok (.iconst 1, 1) := by decide +kernel
theorem dX2_sortAt_30 : decode cX2_sortAt 30 = .ok (.ireturn, 1) := by decide +kernel
theorem dX2_sortAt_31 : decode cX2_sortAt 31 = .ok (.iload_n 2, 1) := by decide +kernel
theorem dX2_sortAt_32 : decode cX2_sortAt 32 = .ok (.bipush 48, 2) := by decide +kernel
theorem dX2_sortAt_34 : decode cX2_sortAt 34 = .ok (.if_icmp .lt 11, 3) := by decide +kernel
theorem dX2_sortAt_37 : decode cX2_sortAt 37 = .ok (.iload_n 2, 1) := by decide +kernel
theorem dX2_sortAt_38 : decode cX2_sortAt 38 = .ok (.bipush 57, 2) := by decide +kernel
theorem dX2_sortAt_40 : decode cX2_sortAt 40 = .ok (.if_icmp .gt 5, 3) := by decide +kernel
theorem dX2_sortAt_43 : decode cX2_sortAt 43 = .ok (.iconst 2, 1) := by decide +kernel
theorem dX2_sortAt_44 : decode cX2_sortAt 44 = .ok (.ireturn, 1) := by decide +kernel
theorem dX2_sortAt_45 : decode cX2_sortAt 45 = .ok (.iload_n 2, 1) := by decide +kernel
theorem dX2_sortAt_46 : decode cX2_sortAt 46 = .ok (.bipush 59, 2) := by decide +kernel
theorem dX2_sortAt_48 : decode cX2_sortAt 48 = .ok (.if_icmp .ne 7, 3) := by decide +kernel
theorem dX2_sortAt_51 : decode cX2_sortAt 51 = .ok (.iconst 3, 1) := by decide +kernel
theorem dX2_sortAt_52 : decode cX2_sortAt 52 = .ok (.goto 4, 3) := by decide +kernel
theorem dX2_sortAt_55 : decode cX2_sortAt 55 = .ok (.iconst 4, 1) := by decide +kernel
theorem dX2_sortAt_56 : decode cX2_sortAt 56 = .ok (.ireturn, 1) := by decide +kernel
theorem dX2_step_0 : decode cX2_step 0 = .ok (.aload_n 0, 1) := by decide +kernel
theorem dX2_step_1 : decode cX2_step 1 = .ok (.getfield 17, 3) := by decide +kernel
theorem dX2_step_4 : decode cX2_step 4 = .ok (.aload_n 0, 1) := by decide +kernel
theorem dX2_step_5 : decode cX2_step 5 = .ok (.getfield 13, 3) := by decide +kernel
theorem dX2_step_8 : decode cX2_step 8 = .ok (.if_icmp .ge 30, 3) := by decide +kernel
theorem dX2_step_11 : decode cX2_step 11 = .ok (.aload_n 0, 1) := by decide +kernel
theorem dX2_step_12 : decode cX2_step 12 = .ok (.getfield 9, 3) := by decide +kernel
theorem dX2_step_15 : decode cX2_step 15 = .ok (.aload_n 0, 1) := by decide +kernel
theorem dX2_step_16 : decode cX2_step 16 = .ok (.getfield 17, 3) := by decide +kernel
theorem dX2_step_19 : decode cX2_step 19 = .ok (.iaload, 1) := by decide +kernel
theorem dX2_step_20 : decode cX2_step 20 = .ok (.bipush 32, 2) := by decide +kernel
theorem dX2_step_22 : decode cX2_step 22 = .ok (.if_icmp .ne 16, 3) := by decide +kernel
theorem dX2_step_25 : decode cX2_step 25 = .ok (.aload_n 0, 1) := by decide +kernel
theorem dX2_step_26 : decode cX2_step 26 = .ok (.dup, 1) := by decide +kernel
theorem dX2_step_27 : decode cX2_step 27 = .ok (.getfield 17, 3) := by decide +kernel
theorem dX2_step_30 : decode cX2_step 30 = .ok (.iconst 1, 1) := by decide +kernel
theorem dX2_step_31 : decode cX2_step 31 = .ok (.iadd, 1) := by decide +kernel
theorem dX2_step_32 : decode cX2_step 32 = .ok (.putfield 17, 3) := by decide +kernel
theorem dX2_step_35 : decode cX2_step 35 = .ok (.goto (-35), 3) := by decide +kernel
theorem dX2_step_38 : decode cX2_step 38 = .ok (.aload_n 0, 1) := by decide +kernel
theorem dX2_step_39 : decode cX2_step 39 = .ok (.aload_n 0, 1) := by decide +kernel
theorem dX2_step_40 : decode cX2_step 40 = .ok (.getfield 17, 3) := by decide +kernel
theorem dX2_step_43 : decode cX2_step 43 = .ok (.putfield 23, 3) := by decide +kernel
theorem dX2_step_46 : decode cX2_step 46 = .ok (.aload_n 0, 1) := by decide +kernel
theorem dX2_step_47 : decode cX2_step 47 = .ok (.aload_n 0, 1) := by decide +kernel
theorem dX2_step_48 : decode cX2_step 48 = .ok (.aload_n 0, 1) := by decide +kernel
theorem dX2_step_49 : decode cX2_step 49 = .ok (.getfield 17, 3) := by decide +kernel
theorem dX2_step_52 : decode cX2_step 52 = .ok (.invokevirtual 32, 3) := by decide +kernel
theorem dX2_step_55 : decode cX2_step 55 = .ok (.putfield 20, 3) := by decide +kernel
theorem dX2_step_58 : decode cX2_step 58 = .ok (.aload_n 0, 1) := by decide +kernel
theorem dX2_step_59 : decode cX2_step 59 = .ok (.iconst 0, 1) := by decide +kernel
theorem dX2_step_60 : decode cX2_step 60 = .ok (.putfield 26, 3) := by decide +kernel
theorem dX2_step_63 : decode cX2_step 63 = .ok (.aload_n 0, 1) := by decide +kernel
theorem dX2_step_64 : decode cX2_step 64 = .ok (.getfield 17, 3) := by decide +kernel
theorem dX2_step_67 : decode cX2_step 67 = .ok (.aload_n 0, 1) := by decide +kernel
theorem dX2_step_68 : decode cX2_step 68 = .ok (.getfield 13, 3) := by decide +kernel
theorem dX2_step_71 : decode cX2_step 71 = .ok (.if_icmp .ge 82, 3) := by decide +kernel
theorem dX2_step_74 : decode cX2_step 74 = .ok (.aload_n 0, 1) := by decide +kernel
theorem dX2_step_75 : decode cX2_step 75 = .ok (.aload_n 0, 1) := by decide +kernel
theorem dX2_step_76 : decode cX2_step 76 = .ok (.getfield 17, 3) := by decide +kernel
theorem dX2_step_79 : decode cX2_step 79 = .ok (.invokevirtual 32, 3) := by decide +kernel
theorem dX2_step_82 : decode cX2_step 82 = .ok (.aload_n 0, 1) := by decide +kernel
theorem dX2_step_83 : decode cX2_step 83 = .ok (.getfield 20, 3) := by decide +kernel
theorem dX2_step_86 : decode cX2_step 86 = .ok (.if_icmp .ne 67, 3) := by decide +kernel
theorem dX2_step_89 : decode cX2_step 89 = .ok (.aload_n 0, 1) := by decide +kernel
theorem dX2_step_90 : decode cX2_step 90 = .ok (.getfield 17, 3) := by decide +kernel
theorem dX2_step_93 : decode cX2_step 93 = .ok (.aload_n 0, 1) := by decide +kernel
theorem dX2_step_94 : decode cX2_step 94 = .ok (.getfield 23, 3) := by decide +kernel
theorem dX2_step_97 : decode cX2_step 97 = .ok (.if_icmp .eq 19, 3) := by decide +kernel
theorem dX2_step_100 : decode cX2_step 100 = .ok (.aload_n 0, 1) := by decide +kernel
theorem dX2_step_101 : decode cX2_step 101 = .ok (.getfield 20, 3) := by decide +kernel
theorem dX2_step_104 : decode cX2_step 104 = .ok (.iconst 1, 1) := by decide +kernel
theorem dX2_step_105 : decode cX2_step 105 = .ok (.if_icmp .eq 11, 3) := by decide +kernel
theorem dX2_step_108 : decode cX2_step 108 = .ok (.aload_n 0, 1) := by decide +kernel
theorem dX2_step_109 : decode cX2_step 109 = .ok (.getfield 20, 3) := by decide +kernel
theorem dX2_step_112 : decode cX2_step 112 = .ok (.iconst 2, 1) := by decide +kernel
theorem dX2_step_113 : decode cX2_step 113 = .ok (.if_icmp .ne 40, 3) := by decide +kernel
theorem dX2_step_116 : decode cX2_step 116 = .ok (.aload_n 0, 1) := by decide +kernel
theorem dX2_step_117 : decode cX2_step 117 = .ok (.getfield 20, 3) := by decide +kernel
theorem dX2_step_120 : decode cX2_step 120 = .ok (.iconst 2, 1) := by decide +kernel
theorem dX2_step_121 : decode cX2_step 121 = .ok (.if_icmp .ne 19, 3) := by decide +kernel
theorem dX2_step_124 : decode cX2_step 124 = .ok (.aload_n 0, 1) := by decide +kernel
theorem dX2_step_125 : decode cX2_step 125 = .ok (.aload_n 0, 1) := by decide +kernel
theorem dX2_step_126 : decode cX2_step 126 = .ok (.getfield 9, 3) := by decide +kernel
theorem dX2_step_129 : decode cX2_step 129 = .ok (.aload_n 0, 1) := by decide +kernel
theorem dX2_step_130 : decode cX2_step 130 = .ok (.getfield 17, 3) := by decide +kernel
theorem dX2_step_133 : decode cX2_step 133 = .ok (.iaload, 1) := by decide +kernel
theorem dX2_step_134 : decode cX2_step 134 = .ok (.bipush 48, 2) := by decide +kernel
theorem dX2_step_136 : decode cX2_step 136 = .ok (.isub, 1) := by decide +kernel
theorem dX2_step_137 : decode cX2_step 137 = .ok (.invokevirtual 36, 3) := by decide +kernel
theorem dX2_step_140 : decode cX2_step 140 = .ok (.aload_n 0, 1) := by decide +kernel
theorem dX2_step_141 : decode cX2_step 141 = .ok (.dup, 1) := by decide +kernel
theorem dX2_step_142 : decode cX2_step 142 = .ok (.getfield 17, 3) := by decide +kernel
theorem dX2_step_145 : decode cX2_step 145 = .ok (.iconst 1, 1) := by decide +kernel
theorem dX2_step_146 : decode cX2_step 146 = .ok (.iadd, 1) := by decide +kernel
theorem dX2_step_147 : decode cX2_step 147 = .ok (.putfield 17, 3) := by decide +kernel
theorem dX2_step_150 : decode cX2_step 150 = .ok (.goto (-87), 3) := by decide +kernel
theorem dX2_step_153 : decode cX2_step 153 = .ok (.return_, 1) := by decide +kernel
theorem dX2_takeDigit_0 : decode cX2_takeDigit 0 = .ok (.aload_n 0, 1) := by decide +kernel
theorem dX2_takeDigit_1 : decode cX2_takeDigit 1 = .ok (.aload_n 0, 1) := by decide +kernel
theorem dX2_takeDigit_2 : decode cX2_takeDigit 2 = .ok (.getfield 26, 3) := by decide +kernel
theorem dX2_takeDigit_5 : decode cX2_takeDigit 5 = .ok (.sipush 999, 3) := by decide +kernel
theorem dX2_takeDigit_8 : decode cX2_takeDigit 8 = .ok (.if_icmp .le 10, 3) := by decide +kernel
theorem dX2_takeDigit_11 : decode cX2_takeDigit 11 = .ok (.aload_n 0, 1) := by decide +kernel
theorem dX2_takeDigit_12 : decode cX2_takeDigit 12 = .ok (.getfield 26, 3) := by decide +kernel
theorem dX2_takeDigit_15 : decode cX2_takeDigit 15 = .ok (.goto 12, 3) := by decide +kernel
theorem dX2_takeDigit_18 : decode cX2_takeDigit 18 = .ok (.aload_n 0, 1) := by decide +kernel
theorem dX2_takeDigit_19 : decode cX2_takeDigit 19 = .ok (.getfield 26, 3) := by decide +kernel
theorem dX2_takeDigit_22 : decode cX2_takeDigit 22 = .ok (.bipush 10, 2) := by decide +kernel
theorem dX2_takeDigit_24 : decode cX2_takeDigit 24 = .ok (.imul, 1) := by decide +kernel
theorem dX2_takeDigit_25 : decode cX2_takeDigit 25 = .ok (.iload_n 1, 1) := by decide +kernel
theorem dX2_takeDigit_26 : decode cX2_takeDigit 26 = .ok (.iadd, 1) := by decide +kernel
theorem dX2_takeDigit_27 : decode cX2_takeDigit 27 = .ok (.putfield 26, 3) := by decide +kernel
theorem dX2_takeDigit_30 : decode cX2_takeDigit 30 = .ok (.return_, 1) := by decide +kernel
theorem dX3_faultHere_0 : decode cX3_faultHere 0 = .ok (.iconst (-1), 1) := by decide +kernel
theorem dX3_faultHere_1 : decode cX3_faultHere 1 = .ok (.aload_n 0, 1) := by decide +kernel
theorem dX3_faultHere_2 : decode cX3_faultHere 2 = .ok (.getfield 10, 3) := by decide +kernel
theorem dX3_faultHere_5 : decode cX3_faultHere 5 = .ok (.getfield 34, 3) := by decide +kernel
theorem dX3_faultHere_8 : decode cX3_faultHere 8 = .ok (.isub, 1) := by decide +kernel
theorem dX3_faultHere_9 : decode cX3_faultHere 9 = .ok (.ireturn, 1) := by decide +kernel
theorem dX3_passes_0 : decode cX3_passes 0 = .ok (.aload_n 0, 1) := by decide +kernel
theorem dX3_passes_1 : decode cX3_passes 1 = .ok (.getfield 10, 3) := by decide +kernel
theorem dX3_passes_4 : decode cX3_passes 4 = .ok (.aload_n 1, 1) := by decide +kernel
theorem dX3_passes_5 : decode cX3_passes 5 = .ok (.invokevirtual 39, 3) := by decide +kernel
theorem dX3_passes_8 : decode cX3_passes 8 = .ok (.ifCond .ne 5, 3) := by decide +kernel
theorem dX3_passes_11 : decode cX3_passes 11 = .ok (.iconst 0, 1) := by decide +kernel
theorem dX3_passes_12 : decode cX3_passes 12 = .ok (.ireturn, 1) := by decide +kernel
theorem dX3_passes_13 : decode cX3_passes 13 = .ok (.aload_n 0, 1) := by decide +kernel
theorem dX3_passes_14 : decode cX3_passes 14 = .ok (.getfield 10, 3) := by decide +kernel
theorem dX3_passes_17 : decode cX3_passes 17 = .ok (.invokevirtual 31, 3) := by decide +kernel
theorem dX3_passes_20 : decode cX3_passes 20 = .ok (.iconst 1, 1) := by decide +kernel
theorem dX3_passes_21 : decode cX3_passes 21 = .ok (.ireturn, 1) := by decide +kernel
theorem dX3_readHaze_0 : decode cX3_readHaze 0 = .ok (.aload_n 0, 1) := by decide +kernel
theorem dX3_readHaze_1 : decode cX3_readHaze 1 = .ok (.iconst 1, 1) := by decide +kernel
theorem dX3_readHaze_2 : decode cX3_readHaze 2 = .ok (.bipush 23, 2) := by decide +kernel
theorem dX3_readHaze_4 : decode cX3_readHaze 4 = .ok (.invokevirtual 86, 3) := by decide +kernel
theorem dX3_readHaze_7 : decode cX3_readHaze 7 = .ok (.istore_n 2, 1) := by decide +kernel
theorem dX3_readHaze_8 : decode cX3_readHaze 8 = .ok (.iload_n 2, 1) := by decide +kernel
theorem dX3_readHaze_9 : decode cX3_readHaze 9 = .ok (.bipush (-2), 2) := by decide +kernel
theorem dX3_readHaze_11 : decode cX3_readHaze 11 = .ok (.if_icmp .ne 5, 3) := by decide +kernel
theorem dX3_readHaze_14 : decode cX3_readHaze 14 = .ok (.iconst 0, 1) := by decide +kernel
theorem dX3_readHaze_15 : decode cX3_readHaze 15 = .ok (.ireturn, 1) := by decide +kernel
theorem dX3_readHaze_16 : decode cX3_readHaze 16 = .ok (.aload_n 1, 1) := by decide +kernel
theorem dX3_readHaze_17 : decode cX3_readHaze 17 = .ok (.iload_n 2, 1) := by decide +kernel
theorem dX3_readHaze_18 : decode cX3_readHaze 18 = .ok (.putfield 118, 3) := by decide +kernel
theorem dX3_readHaze_21 : decode cX3_readHaze 21 = .ok (.iconst 1, 1) := by decide +kernel
theorem dX3_readHaze_22 : decode cX3_readHaze 22 = .ok (.ireturn, 1) := by decide +kernel
theorem dX3_readHouse_0 : decode cX3_readHouse 0 = .ok (.aload_n 0, 1) := by decide +kernel
theorem dX3_readHouse_1 : decode cX3_readHouse 1 = .ok (.getfield 10, 3) := by decide +kernel
theorem dX3_readHouse_4 : decode cX3_readHouse 4 = .ok (.invokevirtual 31, 3) := by decide +kernel
theorem dX3_readHouse_7 : decode cX3_readHouse 7 = .ok (.aload_n 0, 1) := by decide +kernel
theorem dX3_readHouse_8 : decode cX3_readHouse 8 = .ok (.iconst 0, 1) := by decide +kernel
theorem dX3_readHouse_9 : decode cX3_readHouse 9 = .ok (.bipush 23, 2) := by decide +kernel
theorem dX3_readHouse_11 : decode cX3_readHouse 11 = .ok (.invokevirtual 86, 3) := by decide +kernel
theorem dX3_readHouse_14 : decode cX3_readHouse 14 = .ok (.istore_n 2, 1) := by decide +kernel
theorem dX3_readHouse_15 : decode cX3_readHouse 15 = .ok (.iload_n 2, 1) := by decide +kernel
theorem dX3_readHouse_16 : decode cX3_readHouse 16 = .ok (.bipush (-2), 2) := by decide +kernel
theorem dX3_readHouse_18 : decode cX3_readHouse 18 = .ok (.if_icmp .eq 12, 3) := by decide +kernel
theorem dX3_readHouse_21 : decode cX3_readHouse 21 = .ok (.aload_n 0, 1) := by decide +kernel
theorem dX3_readHouse_22 : decode cX3_readHouse 22 = .ok (.ldc 106, 2) := by decide +kernel
theorem dX3_readHouse_24 : decode cX3_readHouse 24 = .ok (.invokevirtual 54, 3) := by decide +kernel
theorem dX3_readHouse_27 : decode cX3_readHouse 27 = .ok (.ifCond .ne 5, 3) := by decide +kernel
theorem dX3_readHouse_30 : decode cX3_readHouse 30 = .ok (.iconst 0, 1) := by decide +kernel
theorem dX3_readHouse_31 : decode cX3_readHouse 31 = .ok (.ireturn, 1) := by decide +kernel
theorem dX3_readHouse_32 : decode cX3_readHouse 32 = .ok (.aload_n 0, 1) := by decide +kernel
theorem dX3_readHouse_33 : decode cX3_readHouse 33 = .ok (.iconst 1, 1) := by decide +kernel
theorem dX3_readHouse_34 : decode cX3_readHouse 34 = .ok (.bipush 40, 2) := by decide +kernel
theorem dX3_readHouse_36 : decode cX3_readHouse 36 = .ok (.invokevirtual 86, 3) := by decide +kernel
theorem dX3_readHouse_39 : decode cX3_readHouse 39 = .ok (.istore_n 3, 1) := by decide +kernel
theorem dX3_readHouse_40 : decode cX3_readHouse 40 = .ok (.iload_n 3, 1) := by decide +kernel
theorem dX3_readHouse_41 : decode cX3_readHouse 41 = .ok (.bipush (-2), 2) := by decide +kernel
theorem dX3_readHouse_43 : decode cX3_readHouse 43 = .ok (.if_icmp .ne 5, 3) := by decide +kernel
theorem dX3_readHouse_46 : decode cX3_readHouse 46 = .ok (.iconst 0, 1) := by decide +kernel
theorem dX3_readHouse_47 : decode cX3_readHouse 47 = .ok (.ireturn, 1) := by decide +kernel
theorem dX3_readHouse_48 : decode cX3_readHouse 48 = .ok (.iconst 3, 1) := by decide +kernel
theorem dX3_readHouse_49 : decode cX3_readHouse 49 = .ok (.istore 4, 2) := by decide +kernel
theorem dX3_readHouse_51 : decode cX3_readHouse 51 = .ok (.aload_n 0, 1) := by decide +kernel
theorem dX3_readHouse_52 : decode cX3_readHouse 52 = .ok (.ldc 108, 2) := by decide +kernel
theorem dX3_readHouse_54 : decode cX3_readHouse 54 = .ok (.invokevirtual 54, 3) := by decide +kernel
theorem dX3_readHouse_57 : decode cX3_readHouse 57 = .ok (.ifCond .eq 35, 3) := by decide +kernel
theorem dX3_readHouse_60 : decode cX3_readHouse 60 = .ok (.aload_n 0, 1) := by decide +kernel
theorem dX3_readHouse_61 : decode cX3_readHouse 61 = .ok (.ldc 110, 2) := by decide +kernel
theorem dX3_readHouse_63 : decode cX3_readHouse 63 = .ok (.invokevirtual 54, 3) := by decide +kernel
theorem dX3_readHouse_66 : decode cX3_readHouse 66 = .ok (.ifCond .eq 9, 3) := by decide +kernel
theorem dX3_readHouse_69 : decode cX3_readHouse 69 = .ok (.iconst 2, 1) := by decide +kernel
theorem dX3_readHouse_70 : decode cX3_readHouse 70 = .ok (.istore 4, 2) := by decide +kernel
theorem dX3_readHouse_72 : decode cX3_readHouse 72 = .ok (.goto 20, 3) := by decide +kernel
theorem dX3_readHouse_75 : decode cX3_readHouse 75 = .ok (.aload_n 0, 1) := by decide +kernel
theorem dX3_readHouse_76 : decode cX3_readHouse 76 = .ok (.ldc 112, 2) := by decide +kernel
theorem dX3_readHouse_78 : decode cX3_readHouse 78 = .ok (.invokevirtual 54, 3) := by decide +kernel
theorem dX3_readHouse_81 : decode cX3_readHouse 81 = .ok (.ifCond .eq 9, 3) := by decide +kernel
theorem dX3_readHouse_84 : decode cX3_readHouse 84 = .ok (.iconst 1, 1) := by decide +kernel
theorem dX3_readHouse_85 : decode cX3_readHouse 85 = .ok (.istore 4, 2) := by decide +kernel
theorem dX3_readHouse_87 : decode cX3_readHouse 87 = .ok (.goto 5, 3) := by decide +kernel
theorem dX3_readHouse_90 : decode cX3_readHouse 90 = .ok (.iconst 0, 1) := by decide +kernel
theorem dX3_readHouse_91 : decode cX3_readHouse 91 = .ok (.ireturn, 1) := by decide +kernel
theorem dX3_readHouse_92 : decode cX3_readHouse 92 = .ok (.aload_n 1, 1) := by decide +kernel
theorem dX3_readHouse_93 : decode cX3_readHouse 93 = .ok (.iload_n 2, 1) := by decide +kernel
theorem dX3_readHouse_94 : decode cX3_readHouse 94 = .ok (.iload_n 3, 1) := by decide +kernel
theorem dX3_readHouse_95 : decode cX3_readHouse 95 = .ok (.iload 4, 2) := by decide +kernel
theorem dX3_readHouse_97 : decode cX3_readHouse 97 = .ok (.invokevirtual 114, 3) := by decide +kernel
theorem dX3_readHouse_100 : decode cX3_readHouse 100 = .ok (.iconst 1, 1) := by decide +kernel
theorem dX3_readHouse_101 : decode cX3_readHouse 101 = .ok (.ireturn, 1) := by decide +kernel
theorem dX3_readInto_0 : decode cX3_readInto 0 = .ok (.aload_n 0, 1) := by decide +kernel
theorem dX3_readInto_1 : decode cX3_readInto 1 = .ok (.getfield 10, 3) := by decide +kernel
theorem dX3_readInto_4 : decode cX3_readInto 4 = .ok (.invokevirtual 16, 3) := by decide +kernel
theorem dX3_readInto_7 : decode cX3_readInto 7 = .ok (.iconst 1, 1) := by decide +kernel
theorem dX3_readInto_8 : decode cX3_readInto 8 = .ok (.istore_n 2, 1) := by decide +kernel
theorem dX3_readInto_9 : decode cX3_readInto 9 = .ok (.iload_n 2, 1) := by decide +kernel
theorem dX3_readInto_10 : decode cX3_readInto 10 = .ok (.bipush 120, 2) := by decide +kernel
theorem dX3_readInto_12 : decode cX3_readInto 12 = .ok (.if_icmp .gt 57, 3) := by decide +kernel
theorem dX3_readInto_15 : decode cX3_readInto 15 = .ok (.aload_n 0, 1) := by decide +kernel
theorem dX3_readInto_16 : decode cX3_readInto 16 = .ok (.aload_n 1, 1) := by decide +kernel
theorem dX3_readInto_17 : decode cX3_readInto 17 = .ok (.invokevirtual 19, 3) := by decide +kernel
theorem dX3_readInto_20 : decode cX3_readInto 20 = .ok (.ifCond .ne 8, 3) := by decide +kernel
theorem dX3_readInto_23 : decode cX3_readInto 23 = .ok (.aload_n 0, 1) := by decide +kernel
theorem dX3_readInto_24 : decode cX3_readInto 24 = .ok (.invokevirtual 23, 3) := by decide +kernel
theorem dX3_readInto_27 : decode cX3_readInto 27 = .ok (.ireturn, 1) := by decide +kernel
theorem dX3_readInto_28 : decode cX3_readInto 28 = .ok (.aload_n 0, 1) := by decide +kernel
theorem dX3_readInto_29 : decode cX3_readInto 29 = .ok (.getfield 10, 3) := by decide +kernel
theorem dX3_readInto_32 : decode cX3_readInto 32 = .ok (.getfield 27, 3) := by decide +kernel
theorem dX3_readInto_35 : decode cX3_readInto 35 = .ok (.ifCond .ne 5, 3) := by decide +kernel
theorem dX3_readInto_38 : decode cX3_readInto 38 = .ok (.iload_n 2, 1) := by decide +kernel
theorem dX3_readInto_39 : decode cX3_readInto 39 = .ok (.ireturn, 1) := by decide +kernel
theorem dX3_readInto_40 : decode cX3_readInto 40 = .ok (.aload_n 0, 1) := by decide +kernel
theorem dX3_readInto_41 : decode cX3_readInto 41 = .ok (.getfield 10, 3) := by decide +kernel
theorem dX3_readInto_44 : decode cX3_readInto 44 = .ok (.getfield 27, 3) := by decide +kernel
theorem dX3_readInto_47 : decode cX3_readInto 47 = .ok (.iconst 3, 1) := by decide +kernel
theorem dX3_readInto_48 : decode cX3_readInto 48 = .ok (.if_icmp .eq 8, 3) := by decide +kernel
theorem dX3_readInto_51 : decode cX3_readInto 51 = .ok (.aload_n 0, 1) := by decide +kernel
theorem dX3_readInto_52 : decode cX3_readInto 52 = .ok (.invokevirtual 23, 3) := by decide +kernel
theorem dX3_readInto_55 : decode cX3_readInto 55 = .ok (.ireturn, 1) := by decide +kernel
theorem dX3_readInto_56 : decode cX3_readInto 56 = .ok (.aload_n 0, 1) := by decide +kernel
theorem dX3_readInto_57 : decode cX3_readInto 57 = .ok (.getfield 10, 3) := by decide +kernel
theorem dX3_readInto_60 : decode cX3_readInto 60 = .ok (.invokevirtual 31, 3) := by decide +kernel
theorem dX3_readInto_63 : decode cX3_readInto 63 = .ok (.iinc 2 1, 3) := by decide +kernel
theorem dX3_readInto_66 : decode cX3_readInto 66 = .ok (.goto (-57), 3) := by decide +kernel
theorem dX3_readInto_69 : decode cX3_readInto 69 = .ok (.aload_n 0, 1) := by decide +kernel
theorem dX3_readInto_70 : decode cX3_readInto 70 = .ok (.invokevirtual 23, 3) := by decide +kernel
theorem dX3_readInto_73 : decode cX3_readInto 73 = .ok (.ireturn, 1) := by decide +kernel
theorem dX3_readItem_0 : decode cX3_readItem 0 = .ok (.aload_n 0, 1) := by decide +kernel
theorem dX3_readItem_1 : decode cX3_readItem 1 = .ok (.getfield 10, 3) := by decide +kernel
theorem dX3_readItem_4 : decode cX3_readItem 4 = .ok (.ldc 37, 2) := by decide +kernel
theorem dX3_readItem_6 : decode cX3_readItem 6 = .ok (.invokevirtual 39, 3) := by decide +kernel
theorem dX3_readItem_9 : decode cX3_readItem 9 = .ok (.ifCond .eq 24, 3) := by decide +kernel
theorem dX3_readItem_12 : decode cX3_readItem 12 = .ok (.aload_n 1, 1) := by decide +kernel
theorem dX3_readItem_13 : decode cX3_readItem 13 = .ok (.invokevirtual 43, 3) := by decide +kernel
theorem dX3_readItem_16 : decode cX3_readItem 16 = .ok (.ifCond .ne 15, 3) := by decide +kernel
theorem dX3_readItem_19 : decode cX3_readItem 19 = .ok (.aload_n 0, 1) := by decide +kernel
theorem dX3_readItem_20 : decode cX3_readItem 20 = .ok (.aload_n 1, 1) := by decide +kernel
theorem dX3_readItem_21 : decode cX3_readItem 21 = .ok (.invokevirtual 49, 3) := by decide +kernel
theorem dX3_readItem_24 : decode cX3_readItem 24 = .ok (.ifCond .eq 7, 3) := by decide +kernel
theorem dX3_readItem_27 : decode cX3_readItem 27 = .ok (.iconst 1, 1) := by decide +kernel
theorem dX3_readItem_28 : decode cX3_readItem 28 = .ok (.goto 4, 3) := by decide +kernel
theorem dX3_readItem_31 : decode cX3_readItem 31 = .ok (.iconst 0, 1) := by decide +kernel
theorem dX3_readItem_32 : decode cX3_readItem 32 = .ok (.ireturn, 1) := by decide +kernel
theorem dX3_readItem_33 : decode cX3_readItem 33 = .ok (.aload_n 0, 1) := by decide +kernel
theorem dX3_readItem_34 : decode cX3_readItem 34 = .ok (.ldc 52, 2) := by decide +kernel
theorem dX3_readItem_36 : decode cX3_readItem 36 = .ok (.invokevirtual 54, 3) := by decide +kernel
theorem dX3_readItem_39 : decode cX3_readItem 39 = .ok (.ifCond .eq 9, 3) := by decide +kernel
theorem dX3_readItem_42 : decode cX3_readItem 42 = .ok (.aload_n 0, 1) := by decide +kernel
theorem dX3_readItem_43 : decode cX3_readItem 43 = .ok (.aload_n 1, 1) := by decide +kernel
theorem dX3_readItem_44 : decode cX3_readItem 44 = .ok (.invokevirtual 57, 3) := by decide +kernel
theorem dX3_readItem_47 : decode cX3_readItem 47 = .ok (.ireturn, 1) := by decide +kernel
theorem dX3_readItem_48 : decode cX3_readItem 48 = .ok (.aload_n 0, 1) := by decide +kernel
theorem dX3_readItem_49 : decode cX3_readItem 49 = .ok (.ldc 60, 2) := by decide +kernel
theorem dX3_readItem_51 : decode cX3_readItem 51 = .ok (.invokevirtual 54, 3) := by decide +kernel
theorem dX3_readItem_54 : decode cX3_readItem 54 = .ok (.ifCond .eq 9, 3) := by decide +kernel
theorem dX3_readItem_57 : decode cX3_readItem 57 = .ok (.aload_n 0, 1) := by decide +kernel
theorem dX3_readItem_58 : decode cX3_readItem 58 = .ok (.aload_n 1, 1) := by decide +kernel
theorem dX3_readItem_59 : decode cX3_readItem 59 = .ok (.invokevirtual 62, 3) := by decide +kernel
theorem dX3_readItem_62 : decode cX3_readItem 62 = .ok (.ireturn, 1) := by decide +kernel
theorem dX3_readItem_63 : decode cX3_readItem 63 = .ok (.aload_n 0, 1) := by decide +kernel
theorem dX3_readItem_64 : decode cX3_readItem 64 = .ok (.invokevirtual 65, 3) := by decide +kernel
theorem dX3_readItem_67 : decode cX3_readItem 67 = .ok (.istore_n 2, 1) := by decide +kernel
theorem dX3_readItem_68 : decode cX3_readItem 68 = .ok (.iload_n 2, 1) := by decide +kernel
theorem dX3_readItem_69 : decode cX3_readItem 69 = .ok (.bipush (-2), 2) := by decide +kernel
theorem dX3_readItem_71 : decode cX3_readItem 71 = .ok (.if_icmp .eq 16, 3) := by decide +kernel
theorem dX3_readItem_74 : decode cX3_readItem 74 = .ok (.aload_n 0, 1) := by decide +kernel
theorem dX3_readItem_75 : decode cX3_readItem 75 = .ok (.aload_n 1, 1) := by decide +kernel
theorem dX3_readItem_76 : decode cX3_readItem 76 = .ok (.iload_n 2, 1) := by decide +kernel
theorem dX3_readItem_77 : decode cX3_readItem 77 = .ok (.invokevirtual 68, 3) := by decide +kernel
theorem dX3_readItem_80 : decode cX3_readItem 80 = .ok (.ifCond .eq 7, 3) := by decide +kernel
theorem dX3_readItem_83 : decode cX3_readItem 83 = .ok (.iconst 1, 1) := by decide +kernel
theorem dX3_readItem_84 : decode cX3_readItem 84 = .ok (.goto 4, 3) := by decide +kernel
theorem dX3_readItem_87 : decode cX3_readItem 87 = .ok (.iconst 0, 1) := by decide +kernel
theorem dX3_readItem_88 : decode cX3_readItem 88 = .ok (.ireturn, 1) := by decide +kernel
theorem dX3_readKind_0 : decode cX3_readKind 0 = .ok (.aload_n 0, 1) := by decide +kernel
theorem dX3_readKind_1 : decode cX3_readKind 1 = .ok (.ldc 72, 2) := by decide +kernel
theorem dX3_readKind_3 : decode cX3_readKind 3 = .ok (.invokevirtual 54, 3) := by decide +kernel
theorem dX3_readKind_6 : decode cX3_readKind 6 = .ok (.ifCond .eq 5, 3) := by decide +kernel
theorem dX3_readKind_9 : decode cX3_readKind 9 = .ok (.iconst 0, 1) := by decide +kernel
theorem dX3_readKind_10 : decode cX3_readKind 10 = .ok (.ireturn, 1) := by decide +kernel
theorem dX3_readKind_11 : decode cX3_readKind 11 = .ok (.aload_n 0, 1) := by decide +kernel
theorem dX3_readKind_12 : decode cX3_readKind 12 = .ok (.ldc 74, 2) := by decide +kernel
theorem dX3_readKind_14 : decode cX3_readKind 14 = .ok (.invokevirtual 54, 3) := by decide +kernel
theorem dX3_readKind_17 : decode cX3_readKind 17 = .ok (.ifCond .eq 5, 3) := by decide +kernel
theorem dX3_readKind_20 : decode cX3_readKind 20 = .ok (.iconst 1, 1) := by decide +kernel
theorem dX3_readKind_21 : decode cX3_readKind 21 = .ok (.ireturn, 1) := by decide +kernel
theorem dX3_readKind_22 : decode cX3_readKind 22 = .ok (.aload_n 0, 1) := by decide +kernel
theorem dX3_readKind_23 : decode cX3_readKind 23 = .ok (.ldc 76, 2) := by decide +kernel
theorem dX3_readKind_25 : decode cX3_readKind 25 = .ok (.invokevirtual 54, 3) := by decide +kernel
theorem dX3_readKind_28 : decode cX3_readKind 28 = .ok (.ifCond .eq 5, 3) := by decide +kernel
theorem dX3_readKind_31 : decode cX3_readKind 31 = .ok (.iconst 2, 1) := by decide +kernel
theorem dX3_readKind_32 : decode cX3_readKind 32 = .ok (.ireturn, 1) := by decide +kernel
theorem dX3_readKind_33 : decode cX3_readKind 33 = .ok (.aload_n 0, 1) := by decide +kernel
theorem dX3_readKind_34 : decode cX3_readKind 34 = .ok (.ldc 78, 2) := by decide +kernel
theorem dX3_readKind_36 : decode cX3_readKind 36 = .ok (.invokevirtual 54, 3) := by decide +kernel
theorem dX3_readKind_39 : decode cX3_readKind 39 = .ok (.ifCond .eq 5, 3) := by decide +kernel
theorem dX3_readKind_42 : decode cX3_readKind 42 = .ok (.iconst 3, 1) := by decide +kernel
theorem dX3_readKind_43 : decode cX3_readKind 43 = .ok (.ireturn, 1) := by decide +kernel
theorem dX3_readKind_44 : decode cX3_readKind 44 = .ok (.aload_n 0, 1) := by decide +kernel
theorem dX3_readKind_45 : decode cX3_readKind 45 = .ok (.ldc 80, 2) := by decide +kernel
theorem dX3_readKind_47 : decode cX3_readKind 47 = .ok (.invokevirtual 54, 3) := by decide +kernel
theorem dX3_readKind_50 : decode cX3_readKind 50 = .ok (.ifCond .eq 5, 3) := by decide +kernel
theorem dX3_readKind_53 : decode cX3_readKind 53 = .ok (.iconst 4, 1) := by decide +kernel
theorem dX3_readKind_54 : decode cX3_readKind 54 = .ok (.ireturn, 1) := by decide +kernel
theorem dX3_readKind_55 : decode cX3_readKind 55 = .ok (.aload_n 0, 1) := by decide +kernel
theorem dX3_readKind_56 : decode cX3_readKind 56 = .ok (.ldc 82, 2) := by decide +kernel
theorem dX3_readKind_58 : decode cX3_readKind 58 = .ok (.invokevirtual 54, 3) := by decide +kernel
theorem dX3_readKind_61 : decode cX3_readKind 61 = .ok (.ifCond .eq 5, 3) := by decide +kernel
theorem dX3_readKind_64 : decode cX3_readKind 64 = .ok (.iconst 5, 1) := by decide +kernel
theorem dX3_readKind_65 : decode cX3_readKind 65 = .ok (.ireturn, 1) := by decide +kernel
theorem dX3_readKind_66 : decode cX3_readKind 66 = .ok (.aload_n 0, 1) := by decide +kernel
theorem dX3_readKind_67 : decode cX3_readKind 67 = .ok (.ldc 84, 2) := by decide +kernel
theorem dX3_readKind_69 : decode cX3_readKind 69 = .ok (.invokevirtual 54, 3) := by decide +kernel
theorem dX3_readKind_72 : decode cX3_readKind 72 = .ok (.ifCond .eq 8, 3) := by decide +kernel
theorem dX3_readKind_75 : decode cX3_readKind 75 = .ok (.bipush 6, 2) := by decide +kernel
theorem dX3_readKind_77 : decode cX3_readKind 77 = .ok (.goto 5, 3) := by decide +kernel
theorem dX3_readKind_80 : decode cX3_readKind 80 = .ok (.bipush (-2), 2) := by decide +kernel
theorem dX3_readKind_82 : decode cX3_readKind 82 = .ok (.ireturn, 1) := by decide +kernel
theorem dX3_readNumber_0 : decode cX3_readNumber 0 = .ok (.aload_n 0, 1) := by decide +kernel
theorem dX3_readNumber_1 : decode cX3_readNumber 1 = .ok (.getfield 10, 3) := by decide +kernel
theorem dX3_readNumber_4 : decode cX3_readNumber 4 = .ok (.getfield 122, 3) := by decide +kernel
theorem dX3_readNumber_7 : decode cX3_readNumber 7 = .ok (.istore_n 3, 1) := by decide +kernel
theorem dX3_readNumber_8 : decode cX3_readNumber 8 = .ok (.aload_n 0, 1) := by decide +kernel
theorem dX3_readNumber_9 : decode cX3_readNumber 9 = .ok (.getfield 10, 3) := by decide +kernel
theorem dX3_readNumber_12 : decode cX3_readNumber 12 = .ok (.getfield 27, 3) := by decide +kernel
theorem dX3_readNumber_15 : decode cX3_readNumber 15 = .ok (.iconst 2, 1) := by decide +kernel
theorem dX3_readNumber_16 : decode cX3_readNumber 16 = .ok (.if_icmp .ne 13, 3) := by decide +kernel
theorem dX3_readNumber_19 : decode cX3_readNumber 19 = .ok (.iload_n 3, 1) := by decide +kernel
theorem dX3_readNumber_20 : decode cX3_readNumber 20 = .ok (.iload_n 1, 1) := by decide +kernel
theorem dX3_readNumber_21 : decode cX3_readNumber 21 = .ok (.if_icmp .lt 8, 3) := by decide +kernel
theorem dX3_readNumber_24 : decode cX3_readNumber 24 = .ok (.iload_n 3, 1) := by decide +kernel
theorem dX3_readNumber_25 : decode cX3_readNumber 25 = .ok (.iload_n 2, 1) := by decide +kernel
theorem dX3_readNumber_26 : decode cX3_readNumber 26 = .ok (.if_icmp .le 6, 3) := by decide +kernel
theorem dX3_readNumber_29 : decode cX3_readNumber 29 = .ok (.bipush (-2), 2) := by decide +kernel
theorem dX3_readNumber_31 : decode cX3_readNumber 31 = .ok (.ireturn, 1) := by decide +kernel
theorem dX3_readNumber_32 : decode cX3_readNumber 32 = .ok (.aload_n 0, 1) := by decide +kernel
theorem dX3_readNumber_33 : decode cX3_readNumber 33 = .ok (.getfield 10, 3) := by decide +kernel
theorem dX3_readNumber_36 : decode cX3_readNumber 36 = .ok (.invokevirtual 31, 3) := by decide +kernel
theorem dX3_readNumber_39 : decode cX3_readNumber 39 = .ok (.iload_n 3, 1) := by decide +kernel
theorem dX3_readNumber_40 : decode cX3_readNumber 40 = .ok (.ireturn, 1) := by decide +kernel
theorem dX3_readRate_0 : decode cX3_readRate 0 = .ok (.aload_n 0, 1) := by decide +kernel
theorem dX3_readRate_1 : decode cX3_readRate 1 = .ok (.iconst 0, 1) := by decide +kernel
theorem dX3_readRate_2 : decode cX3_readRate 2 = .ok (.bipush 99, 2) := by decide +kernel
theorem dX3_readRate_4 : decode cX3_readRate 4 = .ok (.invokevirtual 86, 3) := by decide +kernel
theorem dX3_readRate_7 : decode cX3_readRate 7 = .ok (.istore_n 2, 1) := by decide +kernel
theorem dX3_readRate_8 : decode cX3_readRate 8 = .ok (.iload_n 2, 1) := by decide +kernel
theorem dX3_readRate_9 : decode cX3_readRate 9 = .ok (.bipush (-2), 2) := by decide +kernel
theorem dX3_readRate_11 : decode cX3_readRate 11 = .ok (.if_icmp .ne 5, 3) := by decide +kernel
theorem dX3_readRate_14 : decode cX3_readRate 14 = .ok (.iconst 0, 1) := by decide +kernel
theorem dX3_readRate_15 : decode cX3_readRate 15 = .ok (.ireturn, 1) := by decide +kernel
theorem dX3_readRate_16 : decode cX3_readRate 16 = .ok (.aload_n 1, 1) := by decide +kernel
theorem dX3_readRate_17 : decode cX3_readRate 17 = .ok (.iload_n 2, 1) := by decide +kernel
theorem dX3_readRate_18 : decode cX3_readRate 18 = .ok (.putfield 120, 3) := by decide +kernel
theorem dX3_readRate_21 : decode cX3_readRate 21 = .ok (.iconst 1, 1) := by decide +kernel
theorem dX3_readRate_22 : decode cX3_readRate 22 = .ok (.ireturn, 1) := by decide +kernel
theorem dX3_readThing_0 : decode cX3_readThing 0 = .ok (.aload_n 0, 1) := by decide +kernel
theorem dX3_readThing_1 : decode cX3_readThing 1 = .ok (.iconst 0, 1) := by decide +kernel
theorem dX3_readThing_2 : decode cX3_readThing 2 = .ok (.bipush 23, 2) := by decide +kernel
theorem dX3_readThing_4 : decode cX3_readThing 4 = .ok (.invokevirtual 86, 3) := by decide +kernel
theorem dX3_readThing_7 : decode cX3_readThing 7 = .ok (.istore_n 3, 1) := by decide +kernel
theorem dX3_readThing_8 : decode cX3_readThing 8 = .ok (.iload_n 3, 1) := by decide +kernel
theorem dX3_readThing_9 : decode cX3_readThing 9 = .ok (.bipush (-2), 2) := by decide +kernel
theorem dX3_readThing_11 : decode cX3_readThing 11 = .ok (.if_icmp .ne 5, 3) := by decide +kernel
theorem dX3_readThing_14 : decode cX3_readThing 14 = .ok (.iconst 0, 1) := by decide +kernel
theorem dX3_readThing_15 : decode cX3_readThing 15 = .ok (.ireturn, 1) := by decide +kernel
theorem dX3_readThing_16 : decode cX3_readThing 16 = .ok (.aload_n 0, 1) := by decide +kernel
theorem dX3_readThing_17 : decode cX3_readThing 17 = .ok (.ldc 90, 2) := by decide +kernel
theorem dX3_readThing_19 : decode cX3_readThing 19 = .ok (.invokevirtual 54, 3) := by decide +kernel
theorem dX3_readThing_22 : decode cX3_readThing 22 = .ok (.ifCond .eq 13, 3) := by decide +kernel
theorem dX3_readThing_25 : decode cX3_readThing 25 = .ok (.aload_n 0, 1) := by decide +kernel
theorem dX3_readThing_26 : decode cX3_readThing 26 = .ok (.iload_n 3, 1) := by decide +kernel
theorem dX3_readThing_27 : decode cX3_readThing 27 = .ok (.bipush 23, 2) := by decide +kernel
theorem dX3_readThing_29 : decode cX3_readThing 29 = .ok (.invokevirtual 86, 3) := by decide +kernel
theorem dX3_readThing_32 : decode cX3_readThing 32 = .ok (.goto 4, 3) := by decide +kernel
theorem dX3_readThing_35 : decode cX3_readThing 35 = .ok (.iload_n 3, 1) := by decide +kernel
theorem dX3_readThing_36 : decode cX3_readThing 36 = .ok (.istore 4, 2) := by decide +kernel
theorem dX3_readThing_38 : decode cX3_readThing 38 = .ok (.iload 4, 2) := by decide +kernel
theorem dX3_readThing_40 : decode cX3_readThing 40 = .ok (.bipush (-2), 2) := by decide +kernel
theorem dX3_readThing_42 : decode cX3_readThing 42 = .ok (.if_icmp .ne 5, 3) := by decide +kernel
theorem dX3_readThing_45 : decode cX3_readThing 45 = .ok (.iconst 0, 1) := by decide +kernel
theorem dX3_readThing_46 : decode cX3_readThing 46 = .ok (.ireturn, 1) := by decide +kernel
theorem dX3_readThing_47 : decode cX3_readThing 47 = .ok (.aload_n 0, 1) := by decide +kernel
theorem dX3_readThing_48 : decode cX3_readThing 48 = .ok (.ldc 92, 2) := by decide +kernel
theorem dX3_readThing_50 : decode cX3_readThing 50 = .ok (.invokevirtual 54, 3) := by decide +kernel
theorem dX3_readThing_53 : decode cX3_readThing 53 = .ok (.ifCond .eq 13, 3) := by decide +kernel
theorem dX3_readThing_56 : decode cX3_readThing 56 = .ok (.aload_n 0, 1) := by decide +kernel
theorem dX3_readThing_57 : decode cX3_readThing 57 = .ok (.iconst 0, 1) := by decide +kernel
theorem dX3_readThing_58 : decode cX3_readThing 58 = .ok (.bipush 99, 2) := by decide +kernel
theorem dX3_readThing_60 : decode cX3_readThing 60 = .ok (.invokevirtual 86, 3) := by decide +kernel
theorem dX3_readThing_63 : decode cX3_readThing 63 = .ok (.goto 4, 3) := by decide +kernel
theorem dX3_readThing_66 : decode cX3_readThing 66 = .ok (.iconst (-1), 1) := by decide +kernel
theorem dX3_readThing_67 : decode cX3_readThing 67 = .ok (.istore 5, 2) := by decide +kernel
theorem dX3_readThing_69 : decode cX3_readThing 69 = .ok (.iload 5, 2) := by decide +kernel
theorem dX3_readThing_71 : decode cX3_readThing 71 = .ok (.bipush (-2), 2) := by decide +kernel
theorem dX3_readThing_73 : decode cX3_readThing 73 = .ok (.if_icmp .ne 5, 3) := by decide +kernel
theorem dX3_readThing_76 : decode cX3_readThing 76 = .ok (.iconst 0, 1) := by decide +kernel
theorem dX3_readThing_77 : decode cX3_readThing 77 = .ok (.ireturn, 1) := by decide +kernel
theorem dX3_readThing_78 : decode cX3_readThing 78 = .ok (.aload_n 0, 1) := by decide +kernel
theorem dX3_readThing_79 : decode cX3_readThing 79 = .ok (.ldc 94, 2) := by decide +kernel
theorem dX3_readThing_81 : decode cX3_readThing 81 = .ok (.invokevirtual 54, 3) := by decide +kernel
theorem dX3_readThing_84 : decode cX3_readThing 84 = .ok (.ifCond .eq 13, 3) := by decide +kernel
theorem dX3_readThing_87 : decode cX3_readThing 87 = .ok (.aload_n 0, 1) := by decide +kernel
theorem dX3_readThing_88 : decode cX3_readThing 88 = .ok (.iconst 0, 1) := by decide +kernel
theorem dX3_readThing_89 : decode cX3_readThing 89 = .ok (.bipush 99, 2) := by decide +kernel
theorem dX3_readThing_91 : decode cX3_readThing 91 = .ok (.invokevirtual 86, 3) := by decide +kernel
theorem dX3_readThing_94 : decode cX3_readThing 94 = .ok (.goto 4, 3) := by decide +kernel
theorem dX3_readThing_97 : decode cX3_readThing 97 = .ok (.iconst 0, 1) := by decide +kernel
theorem dX3_readThing_98 : decode cX3_readThing 98 = .ok (.istore 6, 2) := by decide +kernel
theorem dX3_readThing_100 : decode cX3_readThing 100 = .ok (.iload 6, 2) := by decide +kernel
theorem dX3_readThing_102 : decode cX3_readThing 102 = .ok (.bipush (-2), 2) := by decide +kernel
theorem dX3_readThing_104 : decode cX3_readThing 104 = .ok (.if_icmp .ne 5, 3) := by decide +kernel
theorem dX3_readThing_107 : decode cX3_readThing 107 = .ok (.iconst 0, 1) := by decide +kernel
theorem dX3_readThing_108 : decode cX3_readThing 108 = .ok (.ireturn, 1) := by decide +kernel
theorem dX3_readThing_109 : decode cX3_readThing 109 = .ok (.iload_n 3, 1) := by decide +kernel
theorem dX3_readThing_110 : decode cX3_readThing 110 = .ok (.istore 7, 2) := by decide +kernel
theorem dX3_readThing_112 : decode cX3_readThing 112 = .ok (.iload 7, 2) := by decide +kernel
theorem dX3_readThing_114 : decode cX3_readThing 114 = .ok (.iload 4, 2) := by decide +kernel
theorem dX3_readThing_116 : decode cX3_readThing 116 = .ok (.if_icmp .gt 38, 3) := by decide +kernel
theorem dX3_readThing_119 : decode cX3_readThing 119 = .ok (.aload_n 1, 1) := by decide +kernel
theorem dX3_readThing_120 : decode cX3_readThing 120 = .ok (.iload 7, 2) := by decide +kernel
theorem dX3_readThing_122 : decode cX3_readThing 122 = .ok (.iload_n 2, 1) := by decide +kernel
theorem dX3_readThing_123 : decode cX3_readThing 123 = .ok (.invokevirtual 96, 3) := by decide +kernel
theorem dX3_readThing_126 : decode cX3_readThing 126 = .ok (.aload_n 1, 1) := by decide +kernel
theorem dX3_readThing_127 : decode cX3_readThing 127 = .ok (.iload 7, 2) := by decide +kernel
theorem dX3_readThing_129 : decode cX3_readThing 129 = .ok (.iload 6, 2) := by decide +kernel
theorem dX3_readThing_131 : decode cX3_readThing 131 = .ok (.invokevirtual 100, 3) := by decide +kernel
theorem dX3_readThing_134 : decode cX3_readThing 134 = .ok (.iload 5, 2) := by decide +kernel
theorem dX3_readThing_136 : decode cX3_readThing 136 = .ok (.iconst (-1), 1) := by decide +kernel
theorem dX3_readThing_137 : decode cX3_readThing 137 = .ok (.if_icmp .eq 11, 3) := by decide +kernel
theorem dX3_readThing_140 : decode cX3_readThing 140 = .ok (.aload_n 1, 1) := by decide +kernel
theorem dX3_readThing_141 : decode cX3_readThing 141 = .ok (.iload 7, 2) := by decide +kernel
theorem dX3_readThing_143 : decode cX3_readThing 143 = .ok (.iload 5, 2) := by decide +kernel
theorem dX3_readThing_145 : decode cX3_readThing 145 = .ok (.invokevirtual 103, 3) := by decide +kernel
theorem dX3_readThing_148 : decode cX3_readThing 148 = .ok (.iinc 7 1, 3) := by decide +kernel
theorem dX3_readThing_151 : decode cX3_readThing 151 = .ok (.goto (-39), 3) := by decide +kernel
theorem dX3_readThing_154 : decode cX3_readThing 154 = .ok (.iconst 1, 1) := by decide +kernel
theorem dX3_readThing_155 : decode cX3_readThing 155 = .ok (.ireturn, 1) := by decide +kernel
