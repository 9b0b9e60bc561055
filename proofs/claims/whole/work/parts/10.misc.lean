theorem q_103 : Cond.initialized RJ0 ∈ lw_tbl := List.mem_of_getElem? (i := 103) (by decide +kernel)
theorem q_104 : Cond.initialized RJ1 ∈ lw_tbl := List.mem_of_getElem? (i := 104) (by decide +kernel)
theorem q_105 : Cond.initialized RJ3 ∈ lw_tbl := List.mem_of_getElem? (i := 105) (by decide +kernel)
theorem q_638 : Cond.instanceMethod yJ0_length_8abf5 ∈ lw_tbl := List.mem_of_getElem? (i := 638) (by decide +kernel)
theorem q_639 : Cond.selects RJ0 yJ0_length_8abf5 yJ0_length_8abf5 ∈ lw_tbl := List.mem_of_getElem? (i := 639) (by decide +kernel)
theorem q_640 : Cond.code yJ0_length_8abf5 cJ0_length_8abf5 1 (some .int) ∈ lw_tbl := List.mem_of_getElem? (i := 640) (by decide +kernel)
theorem q_641 : Cond.methodLink RJ0 335 yJ0_coder_7d493 ∈ lw_tbl := List.mem_of_getElem? (i := 641) (by decide +kernel)
theorem q_642 : Cond.instanceMethod yJ0_coder_7d493 ∈ lw_tbl := List.mem_of_getElem? (i := 642) (by decide +kernel)
theorem q_643 : Cond.selects RJ0 yJ0_coder_7d493 yJ0_coder_7d493 ∈ lw_tbl := List.mem_of_getElem? (i := 643) (by decide +kernel)
theorem q_644 : Cond.code yJ0_coder_7d493 cJ0_coder_7d493 1 (some .byte) ∈ lw_tbl := List.mem_of_getElem? (i := 644) (by decide +kernel)
theorem q_645 : Cond.fieldLink RJ0 38 "java/lang/String" "COMPACT_STRINGS" "Z" ∈ lw_tbl := List.mem_of_getElem? (i := 645) (by decide +kernel)
theorem q_648 : Cond.instanceMethod yJ0_charAt_5068e ∈ lw_tbl := List.mem_of_getElem? (i := 648) (by decide +kernel)
theorem q_649 : Cond.selects RJ0 yJ0_charAt_5068e yJ0_charAt_5068e ∈ lw_tbl := List.mem_of_getElem? (i := 649) (by decide +kernel)
theorem q_650 : Cond.code yJ0_charAt_5068e cJ0_charAt_5068e 2 (some .char) ∈ lw_tbl := List.mem_of_getElem? (i := 650) (by decide +kernel)
theorem q_651 : Cond.methodLink RJ0 492 yJ0_isLatin1_aae02 ∈ lw_tbl := List.mem_of_getElem? (i := 651) (by decide +kernel)
theorem q_652 : Cond.instanceMethod yJ0_isLatin1_aae02 ∈ lw_tbl := List.mem_of_getElem? (i := 652) (by decide +kernel)
theorem q_653 : Cond.selects RJ0 yJ0_isLatin1_aae02 yJ0_isLatin1_aae02 ∈ lw_tbl := List.mem_of_getElem? (i := 653) (by decide +kernel)
theorem q_654 : Cond.code yJ0_isLatin1_aae02 cJ0_isLatin1_aae02 1 (some .boolean) ∈ lw_tbl := List.mem_of_getElem? (i := 654) (by decide +kernel)
theorem q_655 : Cond.methodLink RJ0 495 yJ1_charAt_3b067 ∈ lw_tbl := List.mem_of_getElem? (i := 655) (by decide +kernel)
theorem q_656 : Cond.static yJ1_charAt_3b067 ∈ lw_tbl := List.mem_of_getElem? (i := 656) (by decide +kernel)
theorem q_657 : Cond.code yJ1_charAt_3b067 cJ1_charAt_3b067 2 (some .char) ∈ lw_tbl := List.mem_of_getElem? (i := 657) (by decide +kernel)
theorem q_658 : Cond.methodLink RJ1 9 yJ0_checkIndex_df160 ∈ lw_tbl := List.mem_of_getElem? (i := 658) (by decide +kernel)
theorem q_659 : Cond.static yJ0_checkIndex_df160 ∈ lw_tbl := List.mem_of_getElem? (i := 659) (by decide +kernel)
theorem q_660 : Cond.code yJ0_checkIndex_df160 cJ0_checkIndex_df160 2 none ∈ lw_tbl := List.mem_of_getElem? (i := 660) (by decide +kernel)
theorem q_661 : Cond.fieldLink RJ0 1053 "jdk/internal/util/Preconditions" "SIOOBE_FORMATTER" "Ljava/util/function/BiFunction;" ∈ lw_tbl := List.mem_of_getElem? (i := 661) (by decide +kernel)
theorem q_663 : Cond.methodLink RJ0 1059 yJ3_checkIndex_8e157 ∈ lw_tbl := List.mem_of_getElem? (i := 663) (by decide +kernel)
theorem q_664 : Cond.static yJ3_checkIndex_8e157 ∈ lw_tbl := List.mem_of_getElem? (i := 664) (by decide +kernel)
theorem q_665 : Cond.code yJ3_checkIndex_8e157 cJ3_checkIndex_8e157 3 (some .int) ∈ lw_tbl := List.mem_of_getElem? (i := 665) (by decide +kernel)
theorem q_1348 : Cond.fieldLink RJ0 9 "java/lang/String" "value" "[B" ∈ lw_tbl := List.mem_of_getElem? (i := 1348) (by decide +kernel)
theorem q_1349 : Cond.fieldLink RJ0 15 "java/lang/String" "coder" "B" ∈ lw_tbl := List.mem_of_getElem? (i := 1349) (by decide +kernel)
theorem dJ0_length_8abf5_0 : decode cJ0_length_8abf5 0 = .ok (.aload_n 0, 1) := by decide +kernel
theorem dJ0_length_8abf5_1 : decode cJ0_length_8abf5 1 = .ok (.getfield 9, 3) := by decide +kernel
theorem dJ0_length_8abf5_4 : decode cJ0_length_8abf5 4 = .ok (.arraylength, 1) := by decide +kernel
theorem dJ0_length_8abf5_5 : decode cJ0_length_8abf5 5 = .ok (.aload_n 0, 1) := by decide +kernel
theorem dJ0_length_8abf5_6 : decode cJ0_length_8abf5 6 = .ok (.invokevirtual 335, 3) := by decide +kernel
theorem dJ0_length_8abf5_9 : decode cJ0_length_8abf5 9 = .ok (.ishr, 1) := by decide +kernel
theorem dJ0_length_8abf5_10 : decode cJ0_length_8abf5 10 = .ok (.ireturn, 1) := by decide +kernel
theorem dJ0_coder_7d493_0 : decode cJ0_coder_7d493 0 = .ok (.getstatic 38, 3) := by decide +kernel
theorem dJ0_coder_7d493_3 : decode cJ0_coder_7d493 3 = .ok (.ifCond .eq 10, 3) := by decide +kernel
theorem dJ0_coder_7d493_6 : decode cJ0_coder_7d493 6 = .ok (.aload_n 0, 1) := by decide +kernel
theorem dJ0_coder_7d493_7 : decode cJ0_coder_7d493 7 = .ok (.getfield 15, 3) := by decide +kernel
theorem dJ0_coder_7d493_10 : decode cJ0_coder_7d493 10 = .ok (.goto 4, 3) := by decide +kernel
theorem dJ0_coder_7d493_13 : decode cJ0_coder_7d493 13 = .ok (.iconst 1, 1) := by decide +kernel
theorem dJ0_coder_7d493_14 : decode cJ0_coder_7d493 14 = .ok (.ireturn, 1) := by decide +kernel
theorem dJ0_charAt_5068e_0 : decode cJ0_charAt_5068e 0 = .ok (.aload_n 0, 1) := by decide +kernel
theorem dJ0_charAt_5068e_1 : decode cJ0_charAt_5068e 1 = .ok (.invokevirtual 492, 3) := by decide +kernel
theorem dJ0_charAt_5068e_4 : decode cJ0_charAt_5068e 4 = .ok (.ifCond .eq 12, 3) := by decide +kernel
theorem dJ0_charAt_5068e_7 : decode cJ0_charAt_5068e 7 = .ok (.aload_n 0, 1) := by decide +kernel
theorem dJ0_charAt_5068e_8 : decode cJ0_charAt_5068e 8 = .ok (.getfield 9, 3) := by decide +kernel
theorem dJ0_charAt_5068e_11 : decode cJ0_charAt_5068e 11 = .ok (.iload_n 1, 1) := by decide +kernel
theorem dJ0_charAt_5068e_12 : decode cJ0_charAt_5068e 12 = .ok (.invokestatic 495, 3) := by decide +kernel
theorem dJ0_charAt_5068e_15 : decode cJ0_charAt_5068e 15 = .ok (.ireturn, 1) := by decide +kernel
theorem dJ0_charAt_5068e_16 : decode cJ0_charAt_5068e 16 = .ok (.aload_n 0, 1) := by decide +kernel
theorem dJ0_charAt_5068e_17 : decode cJ0_charAt_5068e 17 = .ok (.getfield 9, 3) := by decide +kernel
theorem dJ0_charAt_5068e_20 : decode cJ0_charAt_5068e 20 = .ok (.iload_n 1, 1) := by decide +kernel
theorem dJ0_charAt_5068e_21 : decode cJ0_charAt_5068e 21 = .ok (.invokestatic 498, 3) := by decide +kernel
theorem dJ0_charAt_5068e_24 : decode cJ0_charAt_5068e 24 = .ok (.ireturn, 1) := by decide +kernel
theorem dJ0_isLatin1_aae02_0 : decode cJ0_isLatin1_aae02 0 = .ok (.getstatic 38, 3) := by decide +kernel
theorem dJ0_isLatin1_aae02_3 : decode cJ0_isLatin1_aae02 3 = .ok (.ifCond .eq 14, 3) := by decide +kernel
theorem dJ0_isLatin1_aae02_6 : decode cJ0_isLatin1_aae02 6 = .ok (.aload_n 0, 1) := by decide +kernel
theorem dJ0_isLatin1_aae02_7 : decode cJ0_isLatin1_aae02 7 = .ok (.getfield 15, 3) := by decide +kernel
theorem dJ0_isLatin1_aae02_10 : decode cJ0_isLatin1_aae02 10 = .ok (.ifCond .ne 7, 3) := by decide +kernel
theorem dJ0_isLatin1_aae02_13 : decode cJ0_isLatin1_aae02 13 = .ok (.iconst 1, 1) := by decide +kernel
theorem dJ0_isLatin1_aae02_14 : decode cJ0_isLatin1_aae02 14 = .ok (.goto 4, 3) := by decide +kernel
theorem dJ0_isLatin1_aae02_17 : decode cJ0_isLatin1_aae02 17 = .ok (.iconst 0, 1) := by decide +kernel
theorem dJ0_isLatin1_aae02_18 : decode cJ0_isLatin1_aae02 18 = .ok (.ireturn, 1) := by decide +kernel
theorem dJ0_checkIndex_df160_0 : decode cJ0_checkIndex_df160 0 = .ok (.iload_n 0, 1) := by decide +kernel
theorem dJ0_checkIndex_df160_1 : decode cJ0_checkIndex_df160 1 = .ok (.iload_n 1, 1) := by decide +kernel
theorem dJ0_checkIndex_df160_2 : decode cJ0_checkIndex_df160 2 = .ok (.getstatic 1053, 3) := by decide +kernel
theorem dJ0_checkIndex_df160_5 : decode cJ0_checkIndex_df160 5 = .ok (.invokestatic 1059, 3) := by decide +kernel
theorem dJ0_checkIndex_df160_8 : decode cJ0_checkIndex_df160 8 = .ok (.pop, 1) := by decide +kernel
theorem dJ0_checkIndex_df160_9 : decode cJ0_checkIndex_df160 9 = .ok (.return_, 1) := by decide +kernel
theorem dJ1_charAt_3b067_0 : decode cJ1_charAt_3b067 0 = .ok (.iload_n 1, 1) := by decide +kernel
theorem dJ1_charAt_3b067_1 : decode cJ1_charAt_3b067 1 = .ok (.aload_n 0, 1) := by decide +kernel
theorem dJ1_charAt_3b067_2 : decode cJ1_charAt_3b067 2 = .ok (.arraylength, 1) := by decide +kernel
theorem dJ1_charAt_3b067_3 : decode cJ1_charAt_3b067 3 = .ok (.invokestatic 9, 3) := by decide +kernel
theorem dJ1_charAt_3b067_6 : decode cJ1_charAt_3b067 6 = .ok (.aload_n 0, 1) := by decide +kernel
theorem dJ1_charAt_3b067_7 : decode cJ1_charAt_3b067 7 = .ok (.iload_n 1, 1) := by decide +kernel
theorem dJ1_charAt_3b067_8 : decode cJ1_charAt_3b067 8 = .ok (.baload, 1) := by decide +kernel
theorem dJ1_charAt_3b067_9 : decode cJ1_charAt_3b067 9 = .ok (.sipush 255, 3) := by decide +kernel
theorem dJ1_charAt_3b067_12 : decode cJ1_charAt_3b067 12 = .ok (.iand, 1) := by decide +kernel
theorem dJ1_charAt_3b067_13 : decode cJ1_charAt_3b067 13 = .ok (.i2c, 1) := by decide +kernel
theorem dJ1_charAt_3b067_14 : decode cJ1_charAt_3b067 14 = .ok (.ireturn, 1) := by decide +kernel
theorem dJ3_checkIndex_8e157_0 : decode cJ3_checkIndex_8e157 0 = .ok (.iload_n 0, 1) := by decide +kernel
theorem dJ3_checkIndex_8e157_1 : decode cJ3_checkIndex_8e157 1 = .ok (.ifCond .lt 8, 3) := by decide +kernel
theorem dJ3_checkIndex_8e157_4 : decode cJ3_checkIndex_8e157 4 = .ok (.iload_n 0, 1) := by decide +kernel
theorem dJ3_checkIndex_8e157_5 : decode cJ3_checkIndex_8e157 5 = .ok (.iload_n 1, 1) := by decide +kernel
theorem dJ3_checkIndex_8e157_6 : decode cJ3_checkIndex_8e157 6 = .ok (.if_icmp .lt 10, 3) := by decide +kernel
theorem dJ3_checkIndex_8e157_9 : decode cJ3_checkIndex_8e157 9 = .ok (.aload_n 2, 1) := by decide +kernel
theorem dJ3_checkIndex_8e157_10 : decode cJ3_checkIndex_8e157 10 = .ok (.iload_n 0, 1) := by decide +kernel
theorem dJ3_checkIndex_8e157_11 : decode cJ3_checkIndex_8e157 11 = .ok (.iload_n 1, 1) := by decide +kernel
theorem dJ3_checkIndex_8e157_12 : decode cJ3_checkIndex_8e157 12 = .ok (.invokestatic 95, 3) := by decide +kernel
theorem dJ3_checkIndex_8e157_15 : decode cJ3_checkIndex_8e157 15 = .ok (.athrow, 1) := by decide +kernel
theorem dJ3_checkIndex_8e157_16 : decode cJ3_checkIndex_8e157 16 = .ok (.iload_n 0, 1) := by decide +kernel
theorem dJ3_checkIndex_8e157_17 : decode cJ3_checkIndex_8e157 17 = .ok (.ireturn, 1) := by decide +kernel
theorem yy_J0_length_8abf5 : sl_Y yJ0_length_8abf5 cJ0_length_8abf5 1 0 (some .int) := ⟨q_640, q_103, ⟨by decide +kernel, by decide +kernel⟩, by decide +kernel⟩
theorem yy_J0_coder_7d493 : sl_Y yJ0_coder_7d493 cJ0_coder_7d493 1 0 (some .byte) := ⟨q_644, q_103, ⟨by decide +kernel, by decide +kernel⟩, by decide +kernel⟩
theorem yy_J0_charAt_5068e : sl_Y yJ0_charAt_5068e cJ0_charAt_5068e 2 1 (some .char) := ⟨q_650, q_103, ⟨by decide +kernel, by decide +kernel⟩, by decide +kernel⟩
theorem yy_J0_isLatin1_aae02 : sl_Y yJ0_isLatin1_aae02 cJ0_isLatin1_aae02 1 0 (some .boolean) := ⟨q_654, q_103, ⟨by decide +kernel, by decide +kernel⟩, by decide +kernel⟩
theorem yy_J0_checkIndex_df160 : sl_Y yJ0_checkIndex_df160 cJ0_checkIndex_df160 2 2 none := ⟨q_660, q_103, ⟨by decide +kernel, by decide +kernel⟩, by decide +kernel⟩
theorem yy_J1_charAt_3b067 : sl_Y yJ1_charAt_3b067 cJ1_charAt_3b067 2 2 (some .char) := ⟨q_657, q_104, ⟨by decide +kernel, by decide +kernel⟩, by decide +kernel⟩
theorem yy_J3_checkIndex_8e157 : sl_Y yJ3_checkIndex_8e157 cJ3_checkIndex_8e157 3 3 (some .int) := ⟨q_665, q_105, ⟨by decide +kernel, by decide +kernel⟩, by decide +kernel⟩
section SLS
variable {cl : List vw_C} {L : List sl_E} {D : va_G} {cA : ClassId} {g : Nat → Nat} {A : Nat → Prop} {z : sl_K}
variable {p : Program} {l : Launch} {e : Env} {R : Room} {s : State} {m : MethodId} {args : Array Value} {below : List Frame} {meth : Method} {c : Code} {Q : State → Prop}
variable {own : String} {cc : ByteArray} {nL pc : Nat} {ret : Option FieldType} {lv : List (Nat × Value)} {st : List Value} {M : sl_M}
theorem sa_getsC (C : sl_C own cc nL ret cl L D cA g A z p s m meth c) {index : Nat} (hd : decode cc pc = .ok (.getstatic index, 3)) (hw : Cond.fieldLink own index "java/lang/String" "COMPACT_STRINGS" "Z" ∈ lw_tbl) (k : sl_A cl L D cA g A p l e R s m args below meth c Q nL (pc + 3) lv (.int 1 :: st) M) : sl_A cl L D cA g A p l e R s m args below meth c Q nL pc lv st M :=
  fun H locs ls hW hl => va_gets C.1 C.2.1 C.2.2.2.2.2.2.2.2.2.2.2.2.2.1 hW.2 C.2.2.2.1 (C.2.2.2.2.2.2.2.2.1.1 _ hw rfl _) (fun _ h => h) hd (k H locs ls hW hl)
theorem sa_getsq (C : sl_C own cc nL ret cl L D cA g A z p s m meth c) {index : Nat} (hd : decode cc pc = .ok (.getstatic index, 3)) (hw : Cond.fieldLink own index "jdk/internal/util/Preconditions" "SIOOBE_FORMATTER" "Ljava/util/function/BiFunction;" ∈ lw_tbl) (k : ∀ v : Value, v.category = 1 → sl_A cl L D cA g A p l e R s m args below meth c Q nL (pc + 3) lv (v :: st) M) : sl_A cl L D cA g A p l e R s m args below meth c Q nL pc lv st M := by
  intro H locs ls hW hl
  rcases C.2.2.2.2.2.2.2.2.2.2.2.2.2.2.2.2 with h | ⟨t, h⟩
  · exact va_gets C.1 C.2.1 h hW.2 C.2.2.2.1 (C.2.2.2.2.2.2.2.2.1.1 _ hw rfl _) (fun _ h => h) hd (k _ rfl H locs ls hW hl)
  · exact va_gets C.1 C.2.1 h hW.2 C.2.2.2.1 (C.2.2.2.2.2.2.2.2.1.1 _ hw rfl _) (fun _ h => h) hd (k _ rfl H locs ls hW hl)
theorem sa_getsc (C : sl_C own cc nL ret cl L D cA g A z p s m meth c) {index w : Nat} (hi : w < 17) (hd : decode cc pc = .ok (.getfield index, 3)) (hw : Cond.fieldLink own index "java/lang/String" "coder" "B" ∈ lw_tbl) (k : sl_A cl L D cA g A p l e R s m args below meth c Q nL (pc + 3) lv (.int 0 :: st) M) : sl_A cl L D cA g A p l e R s m args below meth c Q nL pc lv (.ref (z.2.1 w) :: st) M :=
  fun H locs ls hW hl => vk_getf C.1 C.2.1 (C.2.2.2.2.2.2.2.2.2.2.2.2.2.2.1.1 w hi).2.1 hW.2 C.2.2.2.1 (C.2.2.2.2.2.2.2.2.1.1 _ hw rfl _) (fun _ h => h) hd (k H locs ls hW hl)
theorem sa_getsv (C : sl_C own cc nL ret cl L D cA g A z p s m meth c) {index w : Nat} (hi : w < 17) (hd : decode cc pc = .ok (.getfield index, 3)) (hw : Cond.fieldLink own index "java/lang/String" "value" "[B" ∈ lw_tbl) (k : sl_A cl L D cA g A p l e R s m args below meth c Q nL (pc + 3) lv (.ref (z.2.2 w) :: st) M) : sl_A cl L D cA g A p l e R s m args below meth c Q nL pc lv (.ref (z.2.1 w) :: st) M :=
  fun H locs ls hW hl => vk_getf C.1 C.2.1 (C.2.2.2.2.2.2.2.2.2.2.2.2.2.2.1.1 w hi).2.2.1 hW.2 C.2.2.2.1 (C.2.2.2.2.2.2.2.2.1.1 _ hw rfl _) (fun _ h => h) hd (k H locs ls hW hl)
theorem sa_lens (C : sl_C own cc nL ret cl L D cA g A z p s m meth c) {w : Nat} (hi : w < 17) (hd : decode cc pc = .ok (.arraylength, 1)) (k : sl_A cl L D cA g A p l e R s m args below meth c Q nL (pc + 1) lv (.int (nI (sl_ln.getD w 0)) :: st) M) : sl_A cl L D cA g A p l e R s m args below meth c Q nL pc lv (.ref (z.2.2 w) :: st) M :=
  fun H locs ls hW hl => va_tlen C.1 C.2.1 (C.2.2.2.2.2.2.2.2.2.2.2.2.2.2.1.1 w hi).2.2.2 hW.2 rfl hd (k H locs ls hW hl)
theorem sa_bald (C : sl_C own cc nL ret cl L D cA g A z p s m meth c) {w : Nat} {i : Int32} (hi : w < 17) (hin : vp_in i (sl_ln.getD w 0)) (hd : decode cc pc = .ok (.baload, 1)) (k : sl_A cl L D cA g A p l e R s m args below meth c Q nL (pc + 1) lv (.int ((sl_by.getD w []).getD i.toNatClampNeg 0) :: st) M) : sl_A cl L D cA g A p l e R s m args below meth c Q nL pc lv (.int i :: .ref (z.2.2 w) :: st) M :=
  fun H locs ls hW hl => va_tb C.1 C.2.1 (C.2.2.2.2.2.2.2.2.2.2.2.2.2.2.1.1 w hi).2.2.2 hW.2 hin rfl hd (k H locs ls hW hl)
theorem sa_invT (C : sl_C own cc nL ret cl L D cA g A z p s m meth c) {index w : Nat} {y : MethodName} {cy : ByteArray} {n nP fr lo : Nat} {rt : Option FieldType} {r : Int32} {M2 : sl_M} {As rest : List Value} (hi : w < 17) (hY : sl_Y y cy n nP rt) (hs : Cond.instanceMethod y ∈ lw_tbl ∧ Cond.selects "java/lang/String" y y ∈ lw_tbl) (hw : Cond.methodLink own index y ∈ lw_tbl) (hd : decode cc pc = .ok (.invokevirtual index, 3)) (hn : As.length = nP) (hR : fr + 1 ≤ R.frames ∧ 8 + (n + 11) + lo ≤ R.locals) (hc : (rest.map fun v => v.category).sum ≤ 8)
    (hM : sl_N cl L D cA g A z l y cy n rt fr lo (.ref (z.2.1 w) :: As) M (some (.int r)) M2) (hst : st = As.reverse ++ .ref (z.2.1 w) :: rest) (kk : sl_A cl L D cA g A p l e R s m args below meth c Q nL (pc + 3) lv (.int r :: rest) M2) : sl_A cl L D cA g A p l e R s m args below meth c Q nL pc lv st M := by
  subst hst
  refine sa_call (fun H locs ls hW hl => va_runV (Ts := []) (C := "java/lang/String") ⟨C.1, C.2.1, C.2.2.1, C.2.2.2.1, fun _ h => by cases h⟩ hM ⟨⟨rfl, rfl, hR.1, hR.2, sl_codes C hY, List.mem_singleton.mpr rfl, C.2.2.2.2.2.2.2.2.1.1 _ hY.1 rfl _, C.2.2.2.2.2.2.2.2.1.1 _ hY.2.1 rfl _, hY.2.2.1, hY.n, C.2.2.2.2.2.2.2.2.1.1 _ hw rfl _⟩, C.2.2.2.2.2.2.2.2.1.1 _ hs.1 rfl _, C.2.2.2.2.2.2.2.2.1.1 _ hs.2 rfl _⟩ ⟨sl_blind, vk_recv C.2.2.2.2.2.2.2.2.2.2.2.2.2.2.1 hi hW.2, sl_pre C hW⟩ rfl hn hl.1 rfl (lv_room hc) hd ⟨Nat.zero_le _, Nat.zero_le _⟩) kk
end SLS
section SLU
variable {cl : List vw_C} {L : List sl_E} {D : va_G} {cA : ClassId} {g : Nat → Nat} {A : Nat → Prop} {z : sl_K}
variable {p : Program} {l : Launch} {e : Env} {R : Room} {s : State} {m : MethodId} {args : Array Value} {below : List Frame} {meth : Method} {c : Code}
variable {own : String} {cc : ByteArray} {nL pc : Nat} {lv : List (Nat × Value)} {M : sl_M}
theorem sa_xret {ty : FieldType} (C : sl_C own cc nL (some ty) cl L D cA g A z p s m meth c) {x r : Int32} {M2 : sl_M} (hd : decode cc pc = .ok (.ireturn, 1)) (hn : narrow ty (.int x) = .int x) (h : x = r) (hM : M = M2) : sl_A cl L D cA g A p l e R s m args below meth c (MQ below (sl_Q cl L D cA g A (some (.int r)) M2) args s 0 0 A) nL pc lv [.int x] M := by
  subst h; subst hM
  exact fun H locs ls hW hl => W.zret C.1 C.2.1 C.2.2.2.2.1 hn (fun t ht hw => ⟨rfl, by rw [ht]; exact hW.1, hW.2.F ht⟩) hW.2.2.2 hd C.2.2.2.2.2.1
theorem ss_coder {w : Nat} (hi : w < 17) : sl_N cl L D cA g A z l yJ0_coder_7d493 cJ0_coder_7d493 1 (some .byte) 0 0 [.ref (z.2.1 w)] M (some (.int 0)) M := by
  refine sl_N.of (by decide) (Nat.le_of_ble_eq_true rfl) rfl ?_
  intro p e s m args below meth c C
  replace C : sl_C RJ0 cJ0_coder_7d493 1 (some .byte) cl L D cA g A z p s m meth c := C
  refine sa_getsC C dJ0_coder_7d493_0 q_645 ?_
  refine sa_if_eq C dJ0_coder_7d493_3 (tgt := 13) (by decide) (fun q => absurd q (by decide)) (fun _ => ?_)
  refine sa_aload_n C dJ0_coder_7d493_6 rfl 0 rfl ?_
  refine sa_getsc C hi dJ0_coder_7d493_7 q_1349 ?_
  refine sa_goto C dJ0_coder_7d493_10 (tgt := 14) (by decide) ?_
  exact sa_xret C dJ0_coder_7d493_14 rfl rfl rfl
theorem ss_latin {w : Nat} (hi : w < 17) : sl_N cl L D cA g A z l yJ0_isLatin1_aae02 cJ0_isLatin1_aae02 1 (some .boolean) 0 0 [.ref (z.2.1 w)] M (some (.int 1)) M := by
  refine sl_N.of (by decide) (Nat.le_of_ble_eq_true rfl) rfl ?_
  intro p e s m args below meth c C
  replace C : sl_C RJ0 cJ0_isLatin1_aae02 1 (some .boolean) cl L D cA g A z p s m meth c := C
  refine sa_getsC C dJ0_isLatin1_aae02_0 q_645 ?_
  refine sa_if_eq C dJ0_isLatin1_aae02_3 (tgt := 17) (by decide) (fun q => absurd q (by decide)) (fun _ => ?_)
  refine sa_aload_n C dJ0_isLatin1_aae02_6 rfl 0 rfl ?_
  refine sa_getsc C hi dJ0_isLatin1_aae02_7 q_1349 ?_
  refine sa_if_ne C dJ0_isLatin1_aae02_10 (tgt := 17) (by decide) (fun q => absurd rfl q) (fun _ => ?_)
  refine sa_iconst C dJ0_isLatin1_aae02_13 ic_1 ?_
  refine sa_goto C dJ0_isLatin1_aae02_14 (tgt := 18) (by decide) ?_
  exact sa_xret C dJ0_isLatin1_aae02_18 rfl rfl rfl
theorem ss_length {w : Nat} (hi : w < 17) : sl_N cl L D cA g A z l yJ0_length_8abf5 cJ0_length_8abf5 1 (some .int) 1 30 [.ref (z.2.1 w)] M (some (.int (nI (sl_ln.getD w 0)))) M := by
  refine sl_N.of (by decide) (Nat.le_of_ble_eq_true rfl) rfl ?_
  intro p e s m args below meth c C
  replace C : sl_C RJ0 cJ0_length_8abf5 1 (some .int) cl L D cA g A z p s m meth c := C
  refine sa_aload_n C dJ0_length_8abf5_0 rfl 0 rfl ?_
  refine sa_getsv C hi dJ0_length_8abf5_1 q_1348 ?_
  refine sa_lens C hi dJ0_length_8abf5_4 ?_
  refine sa_aload_n C dJ0_length_8abf5_5 rfl 0 rfl ?_
  refine sa_invT C hi yy_J0_coder_7d493 ⟨q_642, q_643⟩ q_641 dJ0_length_8abf5_6 (As := []) (rest := [.int (nI (sl_ln.getD w 0))]) rfl ⟨Nat.le_of_ble_eq_true rfl, Nat.le_of_ble_eq_true rfl⟩ (Nat.le_of_ble_eq_true rfl) (ss_coder hi) rfl ?_
  refine sa_ishr C dJ0_length_8abf5_9 ?_
  exact sa_iret C dJ0_length_8abf5_10 (sb_shr0 _) rfl
theorem ss_pre {i n : Int32} {v : Value} (h1 : ¬ i < 0) (h2 : i < n) (hv : v.category = 1) : sl_N cl L D cA g A z l yJ3_checkIndex_8e157 cJ3_checkIndex_8e157 3 (some .int) 0 0 [.int i, .int n, v] M (some (.int i)) M := by
  refine sl_N.of (lv0 := [(0, .int i), (1, .int n), (2, v)]) (by decide) (by revert hv; cases v <;> simp [lg_sl, Value.category]) (by revert hv; cases v <;> simp [lv_args, Value.category]) ?_
  intro p e s m args below meth c C
  replace C : sl_C RJ3 cJ3_checkIndex_8e157 3 (some .int) cl L D cA g A z p s m meth c := C
  refine sa_iload_n C dJ3_checkIndex_8e157_0 rfl 0 rfl ?_
  refine sa_if_lt C dJ3_checkIndex_8e157_1 (tgt := 9) (by decide) (fun q => absurd q h1) (fun _ => ?_)
  refine sa_iload_n C dJ3_checkIndex_8e157_4 rfl 0 rfl ?_
  refine sa_iload_n C dJ3_checkIndex_8e157_5 rfl 1 rfl ?_
  refine sa_icmp_lt C dJ3_checkIndex_8e157_6 (tgt := 16) (by decide) (fun _ => ?_) (fun q => absurd h2 q)
  refine sa_iload_n C dJ3_checkIndex_8e157_16 rfl 0 rfl ?_
  exact sa_iret C dJ3_checkIndex_8e157_17 rfl rfl
theorem ss_check {i n : Int32} (h1 : ¬ i < 0) (h2 : i < n) : sl_N cl L D cA g A z l yJ0_checkIndex_df160 cJ0_checkIndex_df160 2 none 1 30 [.int i, .int n] M none M := by
  refine sl_N.of (by decide) (Nat.le_of_ble_eq_true rfl) rfl ?_
  intro p e s m args below meth c C
  replace C : sl_C RJ0 cJ0_checkIndex_df160 2 none cl L D cA g A z p s m meth c := C
  refine sa_iload_n C dJ0_checkIndex_df160_0 rfl 0 rfl ?_
  refine sa_iload_n C dJ0_checkIndex_df160_1 rfl 1 rfl ?_
  refine sa_getsq C dJ0_checkIndex_df160_2 q_661 (fun v hv => ?_)
  refine sa_invSi C yy_J3_checkIndex_8e157 q_664 q_663 dJ0_checkIndex_df160_5 (As := [.int i, .int n, v]) (rest := []) rfl ⟨Nat.le_of_ble_eq_true rfl, Nat.le_of_ble_eq_true rfl⟩ (Nat.le_of_ble_eq_true rfl) (ss_pre h1 h2 hv) rfl ?_
  refine sa_pop C dJ0_checkIndex_df160_8 rfl ?_
  exact sa_vret C dJ0_checkIndex_df160_9 rfl
theorem ss_lch {w : Nat} {i : Int32} (hi : w < 17) (hin : vp_in i (sl_ln.getD w 0)) (h2 : i < nI (sl_ln.getD w 0)) : sl_N cl L D cA g A z l yJ1_charAt_3b067 cJ1_charAt_3b067 2 (some .char) 2 60 [.ref (z.2.2 w), .int i] M (some (.int (((sl_by.getD w []).getD i.toNatClampNeg 0 &&& 255).toUInt32 % 65536).toInt32)) M := by
  refine sl_N.of (by decide) (Nat.le_of_ble_eq_true rfl) rfl ?_
  intro p e s m args below meth c C
  replace C : sl_C RJ1 cJ1_charAt_3b067 2 (some .char) cl L D cA g A z p s m meth c := C
  refine sa_iload_n C dJ1_charAt_3b067_0 rfl 1 rfl ?_
  refine sa_aload_n C dJ1_charAt_3b067_1 rfl 0 rfl ?_
  refine sa_lens C hi dJ1_charAt_3b067_2 ?_
  refine sa_invSv C yy_J0_checkIndex_df160 q_659 q_658 dJ1_charAt_3b067_3 (As := [.int i, .int (nI (sl_ln.getD w 0))]) (rest := []) rfl ⟨Nat.le_of_ble_eq_true rfl, Nat.le_of_ble_eq_true rfl⟩ (Nat.le_of_ble_eq_true rfl) (ss_check (fun q => hin (Or.inl q)) h2) rfl ?_
  refine sa_aload_n C dJ1_charAt_3b067_6 rfl 0 rfl ?_
  refine sa_iload_n C dJ1_charAt_3b067_7 rfl 1 rfl ?_
  refine sa_bald C hi hin dJ1_charAt_3b067_8 ?_
  refine sa_sipush C dJ1_charAt_3b067_9 (v := 255) (by decide) ?_
  refine sa_iand C dJ1_charAt_3b067_12 ?_
  refine sa_i2c C dJ1_charAt_3b067_13 ?_
  exact sa_xret C dJ1_charAt_3b067_14 (pk_nc _) rfl rfl
def sl_ch (w : Nat) (i : Int32) : Option Int32 := if i < 0 ∨ sl_ln.getD w 0 ≤ i.toNatClampNeg then none else some ((sl_by.getD w []).getD i.toNatClampNeg 0)
theorem sl_ch_all : ∀ w, w < 17 → sl_ln.getD w 0 < 6 ∧ ∀ k, k < 6 → (((sl_by.getD w []).getD k 0 &&& 255).toUInt32 % 65536).toInt32 = (sl_by.getD w []).getD k 0 := by decide +kernel
theorem ss_chr {w : Nat} {i v : Int32} (hi : w < 17) (h : sl_ch w i = some v) : sl_N cl L D cA g A z l yJ0_charAt_5068e cJ0_charAt_5068e 2 (some .char) 3 85 [.ref (z.2.1 w), .int i] M (some (.int v)) M := by
  unfold sl_ch at h
  by_cases hc : i < 0 ∨ sl_ln.getD w 0 ≤ i.toNatClampNeg
  · rw [if_pos hc] at h; cases h
  · rw [if_neg hc] at h
    obtain ⟨a1, a2⟩ := sl_ch_all w hi
    have hk : i.toNatClampNeg < sl_ln.getD w 0 := Nat.not_le.mp fun q => hc (Or.inr q)
    obtain ⟨k, hk1, rfl⟩ := vp_in_of (x := i) (n := sl_ln.getD w 0) hc (by omega)
    have h2 : nI k < nI (sl_ln.getD w 0) := nI_lt hk1 (by omega)
    have hv : (((sl_by.getD w []).getD (nI k).toNatClampNeg 0 &&& 255).toUInt32 % 65536).toInt32 = v := by
      rw [a2 _ (by omega)]; exact Option.some.inj h
    refine sl_N.of (by decide) (Nat.le_of_ble_eq_true rfl) rfl ?_
    intro p e s m args below meth c C
    replace C : sl_C RJ0 cJ0_charAt_5068e 2 (some .char) cl L D cA g A z p s m meth c := C
    refine sa_aload_n C dJ0_charAt_5068e_0 rfl 0 rfl ?_
    refine sa_invT C hi yy_J0_isLatin1_aae02 ⟨q_652, q_653⟩ q_651 dJ0_charAt_5068e_1 (As := []) (rest := []) rfl ⟨Nat.le_of_ble_eq_true rfl, Nat.le_of_ble_eq_true rfl⟩ (Nat.le_of_ble_eq_true rfl) (ss_latin hi) rfl ?_
    refine sa_if_eq C dJ0_charAt_5068e_4 (tgt := 16) (by decide) (fun q => absurd q (by decide)) (fun _ => ?_)
    refine sa_aload_n C dJ0_charAt_5068e_7 rfl 0 rfl ?_
    refine sa_getsv C hi dJ0_charAt_5068e_8 q_1348 ?_
    refine sa_iload_n C dJ0_charAt_5068e_11 rfl 1 rfl ?_
    refine sa_invSi C yy_J1_charAt_3b067 q_656 q_655 dJ0_charAt_5068e_12 (As := [.ref (z.2.2 w), .int (nI k)]) (rest := []) rfl ⟨Nat.le_of_ble_eq_true rfl, Nat.le_of_ble_eq_true rfl⟩ (Nat.le_of_ble_eq_true rfl) (ss_lch hi hc h2) rfl ?_
    exact sa_xret C dJ0_charAt_5068e_15 (pk_nc _) hv rfl
end SLU
section SLX
variable {cl : List vw_C} {L : List sl_E} {D : va_G} {cA : ClassId} {g : Nat → Nat} {A : Nat → Prop} {z : sl_K}
variable {p : Program} {l : Launch} {e : Env} {R : Room} {s : State} {m : MethodId} {args : Array Value} {below : List Frame} {meth : Method} {c : Code} {Q : State → Prop}
variable {own : String} {cc : ByteArray} {nL pc : Nat} {ret : Option FieldType} {lv : List (Nat × Value)} {st : List Value} {M : sl_M}
theorem sa_slen (C : sl_C own cc nL ret cl L D cA g A z p s m meth c) {index w : Nat} (hd : decode cc pc = .ok (.invokevirtual index, 3)) (hw : Cond.methodLink own index yJ0_length_8abf5 ∈ lw_tbl) (hi : w < 17) (hc : (st.map fun v => v.category).sum ≤ 8) (hR : 2 ≤ R.frames ∧ 50 ≤ R.locals) (k : sl_A cl L D cA g A p l e R s m args below meth c Q nL (pc + 3) lv (.int (nI (sl_ln.getD w 0)) :: st) M) : sl_A cl L D cA g A p l e R s m args below meth c Q nL pc lv (.ref (z.2.1 w) :: st) M :=
  sa_invT C hi yy_J0_length_8abf5 ⟨q_638, q_639⟩ hw hd (As := []) (rest := st) rfl ⟨hR.1, hR.2⟩ hc (ss_length hi) rfl k
theorem sa_schr (C : sl_C own cc nL ret cl L D cA g A z p s m meth c) {index w : Nat} {i v : Int32} (hd : decode cc pc = .ok (.invokevirtual index, 3)) (hw : Cond.methodLink own index yJ0_charAt_5068e ∈ lw_tbl) (hi : w < 17) (hc : (st.map fun v => v.category).sum ≤ 8) (hR : 4 ≤ R.frames ∧ 106 ≤ R.locals) (h : sl_ch w i = some v) (k : sl_A cl L D cA g A p l e R s m args below meth c Q nL (pc + 3) lv (.int v :: st) M) : sl_A cl L D cA g A p l e R s m args below meth c Q nL pc lv (.int i :: .ref (z.2.1 w) :: st) M :=
  sa_invT C hi yy_J0_charAt_5068e ⟨q_648, q_649⟩ hw hd (As := [.int i]) (rest := st) rfl ⟨hR.1, hR.2⟩ hc (ss_chr hi h) rfl k
end SLX
theorem sl_p1 {α β : Type} {x : α} {y : β} {r : α × β} (h : some (x, y) = some r) : x = r.1 := by cases h; rfl
theorem sl_p2 {α β : Type} {x : α} {y : β} {r : α × β} (h : some (x, y) = some r) : y = r.2 := by cases h; rfl
